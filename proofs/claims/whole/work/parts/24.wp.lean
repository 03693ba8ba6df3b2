/-! runs in continuation form; ints that are numbers -/
def aw_W (P : ae_P) (d : Nat) (cd : List ae_I) (Q : Option Value → ae_H → Prop) (st : ae_S) (H : ae_H) : Prop := ∃ r H', Q r H' ∧ ae_Run P d cd r H' st H
def aw_X (P : ae_P) (d m : Nat) (as : List Value) (H : ae_H) (Q : Option Value → ae_H → Prop) : Prop := ∃ r H', Q r H' ∧ ae_Ev P d m as H r H'
section ARW
variable {P : ae_P} {d : Nat} {cd : List ae_I} {Q : Option Value → ae_H → Prop}
theorem aw_go (n : Nat) {st st2 : ae_S} {H H2 : ae_H} {G : Prop} (h : ae_go P cd n st H = some (G, st2, H2)) (hG : G) (kk : aw_W P d cd Q st2 H2) : aw_W P d cd Q st H := by
  obtain ⟨r, H', h1, h2⟩ := kk
  exact ⟨r, H', h1, ar_go n h hG h2⟩
theorem aw_br {c : Prop} [Decidable c] {a b : Nat} {L : List (Option Value)} {S : List Value} {H : ae_H} (h1 : c → aw_W P d cd Q (a, L, S) H) (h2 : ¬ c → aw_W P d cd Q (b, L, S) H) : aw_W P d cd Q (if c then a else b, L, S) H := by
  by_cases h : c
  · rw [if_pos h]; exact h1 h
  · rw [if_neg h]; exact h2 h
theorem aw_sw {x : Int32} {v : Int32} {t dd : Nat} {cs : List (Int32 × Nat)} {L : List (Option Value)} {S : List Value} {H : ae_H} (h1 : x = v → aw_W P d cd Q (t, L, S) H) (h2 : ¬ x = v → aw_W P d cd Q (ae_swt x dd cs, L, S) H) : aw_W P d cd Q (ae_swt x dd ((v, t) :: cs), L, S) H := aw_br h1 h2
theorem aw_ret {k : Nat} {L : List (Option Value)} {S : List Value} {H : ae_H} {i : ae_I} {v : Option Value} {G : Prop} (hi : ae_get cd k = some i) (hs : ae_step P i k L S H = some (.inr (.inl (G, v)))) (hG : G) (hQ : Q v H) : aw_W P d cd Q (k, L, S) H := ⟨v, H, hQ, ar_ret hi hs hG rfl rfl⟩
theorem aw_call {k : Nat} {L : List (Option Value)} {S : List Value} {H : ae_H} {i : ae_I} {m : Nat} {as : List Value} {st' : ae_S} {R : Option Value → ae_H → Prop} (hi : ae_get cd k = some i) (hs : ae_step P i k L S H = some (.inr (.inr (m, as, st')))) (hc : aw_X P d m as H R) (kk : ∀ r1 H1, R r1 H1 → aw_W P d cd Q (st'.1, st'.2.1, r1.toList ++ st'.2.2) H1) : aw_W P d cd Q (k, L, S) H := by
  obtain ⟨r1, H1, hR, hE⟩ := hc
  obtain ⟨r, H', h1, h2⟩ := kk r1 H1 hR
  exact ⟨r, H', h1, ar_call hi hs hE h2⟩
theorem aw_callE {k : Nat} {L : List (Option Value)} {S : List Value} {H H1 : ae_H} {i : ae_I} {m : Nat} {as : List Value} {st' : ae_S} {r1 : Option Value} (hi : ae_get cd k = some i) (hs : ae_step P i k L S H = some (.inr (.inr (m, as, st')))) (hc : ae_Ev P d m as H r1 H1) (kk : aw_W P d cd Q (st'.1, st'.2.1, r1.toList ++ st'.2.2) H1) : aw_W P d cd Q (k, L, S) H := by
  obtain ⟨r, H', h1, h2⟩ := kk
  exact ⟨r, H', h1, ar_call hi hs hc h2⟩
theorem aw_ev {m : Nat} {as : List Value} {H : ae_H} {L : List (Option Value)} (hl : Nat.ble (ae_ent as).length (ae_ml m) = true) (hL : ae_pad (ae_ml m) (ae_ent as) = L) (hcd : ae_cd m = cd) (k : aw_W P d cd Q (0, L, []) H) : aw_X P (d + 1) m as H Q := by
  obtain ⟨r, H', h1, h2⟩ := k
  exact ⟨r, H', h1, ar_ev hl hL hcd h2⟩
theorem aw_evE {m : Nat} {as : List Value} {H : ae_H} {L : List (Option Value)} {r : Option Value} {H' : ae_H} (hl : Nat.ble (ae_ent as).length (ae_ml m) = true) (hL : ae_pad (ae_ml m) (ae_ent as) = L) (hcd : ae_cd m = cd) (k : aw_W P d cd (fun r1 H1 => r1 = r ∧ H1 = H') (0, L, []) H) : ae_Ev P (d + 1) m as H r H' := by
  obtain ⟨r1, H1, ⟨e1, e2⟩, h2⟩ := k
  subst e1
  subst e2
  exact ar_ev hl hL hcd h2
theorem aw_to {st st2 : ae_S} {H H2 : ae_H} (h : aw_W P d cd Q st2 H2) (e1 : st = st2) (e2 : H = H2) : aw_W P d cd Q st H := by
  subst e1
  subst e2
  exact h
theorem aw_mono {Q2 : Option Value → ae_H → Prop} {st : ae_S} {H : ae_H} (h : aw_W P d cd Q2 st H) (hq : ∀ r H1, Q2 r H1 → Q r H1) : aw_W P d cd Q st H := by
  obtain ⟨r, H', h1, h2⟩ := h
  exact ⟨r, H', hq _ _ h1, h2⟩
theorem ax_mono {m : Nat} {as : List Value} {H : ae_H} {Q2 : Option Value → ae_H → Prop} (h : aw_X P d m as H Q2) (hq : ∀ r H1, Q2 r H1 → Q r H1) : aw_X P d m as H Q := by
  obtain ⟨r, H', h1, h2⟩ := h
  exact ⟨r, H', hq _ _ h1, h2⟩
theorem ax_E {m : Nat} {as : List Value} {H H' : ae_H} {r : Option Value} (h : ae_Ev P d m as H r H') : aw_X P d m as H (fun r1 H1 => r1 = r ∧ H1 = H') := ⟨r, H', ⟨rfl, rfl⟩, h⟩
end ARW
/-- a condition as an int -/
def bI (c : Prop) [Decidable c] : Int32 := if c then 1 else 0
theorem bI_t {c : Prop} [Decidable c] (h : ¬ bI c = 0) : c := by
  by_cases q : c
  · exact q
  · exact absurd (if_neg q) h
theorem bI_f {c : Prop} [Decidable c] (h : bI c = 0) : ¬ c := by
  intro q
  rw [bI, if_pos q] at h
  exact absurd h (by decide)
theorem bI_b (c : Prop) [Decidable c] : bI c = 0 ∨ bI c = 1 := by
  unfold bI
  split
  · exact Or.inr rfl
  · exact Or.inl rfl
theorem bI_1 {c : Prop} [Decidable c] (h : c) : (1 : Int32) = bI c := (if_pos h).symm
theorem bI_0 {c : Prop} [Decidable c] (h : ¬ c) : (0 : Int32) = bI c := (if_neg h).symm
theorem bI_iff {c e : Prop} [Decidable c] [Decidable e] (h : c ↔ e) : bI c = bI e := by
  unfold bI
  by_cases q : c
  · rw [if_pos q, if_pos (h.mp q)]
  · rw [if_neg q, if_neg (fun w => q (h.mpr w))]
/-- a place among n -/
abbrev iP (n : Nat) (p : Int32) : Prop := ¬ p < 0 ∧ p.toNatClampNeg < n
section CI
variable {x y : Int32} {a b N : Nat}
theorem cI_cl (h : x = nI a) (ha : a < 2 ^ 31) : x.toNatClampNeg = a := by rw [h, nI_clamp ha]
theorem cI_in (h : x = nI a) (ha : a < N) (hN : N < 2 ^ 31) : vp_in x N := by rw [h]; exact vp_in_nI ha hN
theorem cI_add (h : x = nI a) (k : y = nI b) : x + y = nI (a + b) := by rw [h, k, nI_add]
theorem cI_sub (h : x = nI a) (k : y = nI b) (hb : b ≤ a) : x - y = nI (a - b) := by
  rw [h, k]
  obtain ⟨c, rfl⟩ : ∃ c, a = c + b := ⟨a - b, by omega⟩
  rw [← nI_add, Nat.add_sub_cancel, Int32.add_sub_cancel]
theorem cI_mul (h : x = nI a) (k : y = nI b) : x * y = nI (a * b) := by
  rw [h, k]
  show Int32.ofNat a * Int32.ofNat b = Int32.ofNat (a * b)
  rw [Int32.ofNat_mul]
theorem cI_leT (h : x = nI a) (k : y = nI b) (ha : a < 2 ^ 31) (hb : b < 2 ^ 31) (q : x ≤ y) : a ≤ b := by rw [h, k] at q; exact (nI_leI ha hb).mp q
theorem cI_leF (h : x = nI a) (k : y = nI b) (ha : a < 2 ^ 31) (hb : b < 2 ^ 31) (q : ¬ x ≤ y) : b < a := by rw [h, k, nI_leI ha hb] at q; omega
theorem cI_ltT (h : x = nI a) (k : y = nI b) (ha : a < 2 ^ 31) (hb : b < 2 ^ 31) (q : x < y) : a < b := by rw [h, k] at q; exact (nI_ltI ha hb).mp q
theorem cI_ltF (h : x = nI a) (k : y = nI b) (ha : a < 2 ^ 31) (hb : b < 2 ^ 31) (q : ¬ x < y) : b ≤ a := by rw [h, k, nI_ltI ha hb] at q; omega
theorem cI_eqT (h : x = nI a) (k : y = nI b) (ha : a < 2 ^ 31) (hb : b < 2 ^ 31) (q : x = y) : a = b := by rw [h, k] at q; exact (nI_eq ha hb).mp q
theorem cI_eqF (h : x = nI a) (k : y = nI b) (ha : a < 2 ^ 31) (hb : b < 2 ^ 31) (q : ¬ x = y) : ¬ a = b := by rw [h, k, nI_eq ha hb] at q; exact q
theorem iP_nI {n p : Nat} (h : p < n) (hn : n < 2 ^ 31) : iP n (nI p) := ⟨nI_pos (by omega), by rw [nI_clamp (by omega)]; exact h⟩
theorem iP_of {n : Nat} {p : Int32} (h : iP n p) (hn : n < 2 ^ 31) : ∃ j : Nat, j < n ∧ p = nI j := by
  obtain ⟨j, h1, rfl⟩ := nI_of h.1
  have := h.2
  rw [nI_clamp h1] at this
  exact ⟨j, this, rfl⟩
theorem iP_not {n : Nat} {p : Int32} (h : ¬ p < 0) (k : nI n ≤ p) (hn : n < 2 ^ 31) : ¬ iP n p := by
  obtain ⟨j, h1, rfl⟩ := nI_of h
  intro q
  have := q.2
  rw [nI_clamp h1] at this
  exact nI_ge this hn k
theorem iP_yes {n : Nat} {p : Int32} (h : ¬ p < 0) (k : ¬ nI n ≤ p) (hn : n < 2 ^ 31) : iP n p := by
  obtain ⟨j, h1, rfl⟩ := nI_of h
  refine iP_nI (Nat.lt_of_not_le fun q => k (nI_le q h1)) hn
theorem iP_neg {n : Nat} {p : Int32} (h : p < 0) : ¬ iP n p := fun q => q.1 h
end CI
