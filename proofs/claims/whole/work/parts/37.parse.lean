/-! the class reads a text -/
theorem tk_hd {r q : Nat → Int32} {a : Nat} {l : ae_TL} (h : tkA r q a l) (g : gL l) : r a = hdT l ∧ q a = nI (hdP l) ∧ tkA r q (a + 1) l.tail := by
  match l, h, g with
  | (t, p) :: l, h, _ => exact ⟨h.1, h.2.1, h.2.2⟩
theorem tk_rest {r q : Nat → Int32} {a cnt : Nat} {l l1 : ae_TL} {k : Nat} (h : tkA r q a l) (hl : a + l.length = cnt) (hp : pH l l1 k) : tkA r q (cnt - l1.length) l1 ∧ cnt - l1.length + l1.length = cnt := by
  obtain ⟨h1, -, p, e⟩ := hp
  rw [e, tkA_app] at h
  have e2 : l.length = p.length + l1.length := by rw [e, List.length_append]
  exact ⟨by rw [show cnt - l1.length = a + p.length by omega]; exact h.2, by omega⟩
/-- what reading a kind leaves: the answer, where it stands, steps -/
def prQ (σ : Nat → Int32) (α : Nat → Nat → Int32) (tx : Nat → Option Nat) (tl : List va_E) (cnt c : Nat) (S : Nat → Int32) (R : ae_PR) : Option Value → ae_H → Prop := fun r H => ∃ (c' : Int32) (S' : Nat → Int32), r = some (.int (bI (R.1 = true))) ∧ H = ae_rd (au σ [(13, nI (cnt - R.2.1.length)), (14, c')]) (au α [(19, S')]) tx tl ∧ (R.1 = true → c' = nI (c + R.2.2.length) ∧ S' = putL S c R.2.2)
def mK : Nat → Nat
  | 0 => 81
  | 2 => 82
  | 4 => 83
  | 5 => 84
  | 7 => 85
  | _ => 86
def rK : Nat → Nat
  | 0 => 8
  | 2 => 7
  | 4 => 6
  | 5 => 5
  | 7 => 4
  | _ => 3
def prX (P : ae_P) (σ : Nat → Int32) (α : Nat → Nat → Int32) (tx : Nat → Option Nat) (tl : List va_E) (cnt m kd : Nat) : Prop := ∀ (o : Nat) (l : ae_TL) (R : ae_PR) (a c : Nat) (S : Nat → Int32) (D : Nat), pp m kd o l = some R → o ≤ 5 → tkA (α 17) (α 18) a l → gL l → a + l.length = cnt → c ≤ a → 8 * (5 - o) + rK kd ≤ D → aw_X P D (mK kd) [.ref 19, .int (nI o)] (ae_rd (au σ [(13, nI a), (14, nI c)]) (au α [(19, S)]) tx tl) (prQ σ α tx tl cnt c S R)
def prL (P : ae_P) (σ : Nat → Int32) (α : Nat → Nat → Int32) (tx : Nat → Option Nat) (tl : List va_E) (cnt m kd k0 : Nat) (cd : List ae_I) : Prop := ∀ (o : Nat) (l : ae_TL) (R : ae_PR) (a c i : Nat) (S : Nat → Int32) (D : Nat), pp m kd o l = some R → o ≤ 5 → tkA (α 17) (α 18) a l → gL l → a + l.length = cnt → c ≤ a → i ≤ a → 8 * (5 - o) + rK k0 ≤ D + 1 → aw_W P D cd (prQ σ α tx tl cnt c S R) (6, [some (.ref 19), some (.int (nI o)), some (.int 1), some (.int (nI i))], []) (ae_rd (au σ [(13, nI a), (14, nI c)]) (au α [(19, S)]) tx tl)
def prM (P : ae_P) (σ : Nat → Int32) (α : Nat → Nat → Int32) (tx : Nat → Option Nat) (tl : List va_E) (cnt m : Nat) : Prop := ∀ (o : Nat) (l : ae_TL) (R : ae_PR) (a c i : Nat) (S : Nat → Int32) (D : Nat), pp m 6 o l = some R → o ≤ 5 → tkA (α 17) (α 18) a l → gL l → a + l.length = cnt → c ≤ a → i ≤ a → 8 * (5 - o) + rK 5 ≤ D + 1 → aw_W P D cd_Reader_sum (prQ σ α tx tl cnt c S R) (9, [some (.ref 19), some (.int (nI o)), some (.int 1), some (.int (hdT l)), some (.int (nI i))], []) (ae_rd (au σ [(13, nI a), (14, nI c)]) (au α [(19, S)]) tx tl)
theorem prQ_lp {σ : Nat → Int32} {α : Nat → Nat → Int32} {tx : Nat → Option Nat} {tl : List va_E} {cnt c : Nat} {S : Nat → Int32} {x : Option ae_PR} {R : ae_PR} {t : Int32} {s1 : List Int32} (h : bP x (fun l2 s2 => some (true, l2, s1 ++ t :: s2)) = some R) : ∃ R1, x = some R1 ∧ ∀ r H, prQ σ α tx tl cnt (c + s1.length + 1) (upd (putL S c s1) (c + s1.length) t) R1 r H → prQ σ α tx tl cnt c S R r H := by
  rcases bP_some h with ⟨l2, s2, h2, h⟩ | ⟨l2, s2, h2, h⟩
  · cases h
    refine ⟨_, h2, fun r H hq => ?_⟩
    obtain ⟨c', S', e1, e2, e3⟩ := hq
    refine ⟨c', S', e1, e2, fun _ => ?_⟩
    obtain ⟨f1, f2⟩ := e3 rfl
    refine ⟨?_, ?_⟩
    · rw [f1, len_app]
      congr 1
      show c + s1.length + 1 + s2.length = _
      omega
    · rw [f2, putL_app]
      rfl
  · subst h
    exact ⟨_, h2, fun r H ⟨c', S', e1, e2, _⟩ => ⟨c', S', e1, e2, fun q => by cases q⟩⟩
theorem prQ_sq {σ : Nat → Int32} {α : Nat → Nat → Int32} {tx : Nat → Option Nat} {tl : List va_E} {cnt c : Nat} {S : Nat → Int32} {x : Option ae_PR} {R : ae_PR} {s1 : List Int32} (h : bP x (fun l2 s2 => some (true, l2, s1 ++ s2)) = some R) : ∃ R1, x = some R1 ∧ ∀ r H, prQ σ α tx tl cnt (c + s1.length) (putL S c s1) R1 r H → prQ σ α tx tl cnt c S R r H := by
  rcases bP_some h with ⟨l2, s2, h2, h⟩ | ⟨l2, s2, h2, h⟩
  · cases h
    refine ⟨_, h2, fun r H hq => ?_⟩
    obtain ⟨c', S', e1, e2, e3⟩ := hq
    refine ⟨c', S', e1, e2, fun _ => ?_⟩
    obtain ⟨f1, f2⟩ := e3 rfl
    refine ⟨?_, ?_⟩
    · rw [f1, List.length_append]
      congr 1
      show c + s1.length + s2.length = _
      omega
    · rw [f2, putL_app]
  · subst h
    exact ⟨_, h2, fun r H ⟨c', S', e1, e2, _⟩ => ⟨c', S', e1, e2, fun q => by cases q⟩⟩
section L37
variable {P : ae_P} {σ : Nat → Int32} {α : Nat → Nat → Int32} {tx : Nat → Option Nat} {tl : List va_E}

theorem ev_Reader_token {a cnt : Nat} {t : Int32} {zd : Nat} (hat : (σ 13) = nI a) (hcn : (σ 12) = nI cnt) (hac : a < cnt) (hc161 : cnt ≤ 161) (ht : (α 17) a = t) : ae_Ev P (zd + 1) 77 [.ref 19] (ae_rd σ α tx tl) (some (.int t)) (ae_rd σ α tx tl) := by
  refine aw_evE (cd := cd_Reader_token) rfl rfl rfl ?_
  show aw_W _ _ _ _ (0, [some (.ref 19)], []) (ae_rd σ α tx tl)
  refine aw_go 5 rfl ⟨trivial, trivial, trivial, trivial, trivial, trivial⟩ ?_
  show aw_W _ _ _ _ (if (σ 12) ≤ (σ 13) then 11 else 5, [some (.ref 19)], []) (ae_rd σ α tx tl)
  refine aw_br (c := (σ 12) ≤ (σ 13)) (fun h4 => ?_) (fun h4 => ?_)
  · skip
    have h4 := cI_leT (a := cnt) (b := a) hcn hat (by omega) (by omega) h4
    show aw_W _ _ _ _ (11, [some (.ref 19)], []) (ae_rd σ α tx tl)
    exact absurd h4 (by omega)
  · skip
    have h4 := cI_leF (a := cnt) (b := a) hcn hat (by omega) (by omega) h4
    show aw_W _ _ _ _ (5, [some (.ref 19)], []) (ae_rd σ α tx tl)
    refine aw_go 6 rfl ⟨trivial, trivial, trivial, trivial, (cI_in (a := a) hat (by omega) (by decide)), trivial, trivial⟩ ?_
    show aw_W _ _ _ _ (12, [some (.ref 19)], [.int (α 17 (σ 13).toNatClampNeg)]) (ae_rd σ α tx tl)
    rw [show (σ 13).toNatClampNeg = a from cI_cl (a := a) hat (by omega)]
    refine aw_ret rfl rfl trivial ?_
    refine ⟨?_, rfl⟩
    rw [ht]
theorem ev_pass_y {a cnt : Nat} {t : Int32} {zd : Nat} (hat : (σ 13) = nI a) (hcn : (σ 12) = nI cnt) (hac : a < cnt) (hc161 : cnt ≤ 161) (ht : (α 17) a = t) : aw_X P (zd + 2) 78 [.ref 19, .int t] (ae_rd σ α tx tl) (fun r H => r = some (.int 1) ∧ H = (ae_rd (au σ [(13, nI (a + 1))]) α tx tl)) := by
  refine aw_ev (cd := cd_Reader_pass) rfl rfl rfl ?_
  show aw_W _ _ _ _ (0, [some (.ref 19), some (.int t)], []) (ae_rd σ α tx tl)
  refine aw_go 1 rfl ⟨trivial, trivial⟩ ?_
  refine aw_callE rfl rfl (ev_Reader_token  hat hcn hac hc161 ht) ?_
  show aw_W _ _ _ _ (2, [some (.ref 19), some (.int t)], [.int t]) (ae_rd σ α tx tl)
  refine aw_go 2 rfl ⟨trivial, trivial, trivial⟩ ?_
  refine aw_br (c := t = t) (fun h3 => ?_) (fun h3 => ?_)
  · skip
    show aw_W _ _ _ _ (6, [some (.ref 19), some (.int t)], []) (ae_rd σ α tx tl)
    refine aw_go 6 rfl ⟨trivial, trivial, trivial, trivial, trivial, trivial, trivial⟩ ?_
    show aw_W _ _ _ _ (12, [some (.ref 19), some (.int t)], []) (ae_rd (au σ [(13, (σ 13) + 1)]) α tx tl)
    rw [show (σ 13) + 1 = nI (a + 1) from cI_add hat rfl]
    refine aw_go 1 rfl ⟨trivial, trivial⟩ ?_
    refine aw_ret rfl rfl (by first | exact Or.inl rfl | exact Or.inr rfl | exact bI_b _) ?_
    exact ⟨rfl, rfl⟩
  · skip
    show aw_W _ _ _ _ (4, [some (.ref 19), some (.int t)], []) (ae_rd σ α tx tl)
    exact absurd rfl h3
theorem ev_pass_n {a cnt : Nat} {t y : Int32} {zd : Nat} (hat : (σ 13) = nI a) (hcn : (σ 12) = nI cnt) (hac : a < cnt) (hc161 : cnt ≤ 161) (ht : (α 17) a = t) (hy : ¬ t = y) : ae_Ev P (zd + 2) 78 [.ref 19, .int y] (ae_rd σ α tx tl) (some (.int 0)) (ae_rd σ α tx tl) := by
  refine aw_evE (cd := cd_Reader_pass) rfl rfl rfl ?_
  show aw_W _ _ _ _ (0, [some (.ref 19), some (.int y)], []) (ae_rd σ α tx tl)
  refine aw_go 1 rfl ⟨trivial, trivial⟩ ?_
  refine aw_callE rfl rfl (ev_Reader_token  hat hcn hac hc161 ht) ?_
  show aw_W _ _ _ _ (2, [some (.ref 19), some (.int y)], [.int t]) (ae_rd σ α tx tl)
  refine aw_go 2 rfl ⟨trivial, trivial, trivial⟩ ?_
  refine aw_br (c := t = y) (fun h3 => ?_) (fun h3 => ?_)
  · skip
    show aw_W _ _ _ _ (6, [some (.ref 19), some (.int y)], []) (ae_rd σ α tx tl)
    exact absurd h3 hy
  · skip
    show aw_W _ _ _ _ (4, [some (.ref 19), some (.int y)], []) (ae_rd σ α tx tl)
    refine aw_go 1 rfl ⟨trivial, trivial⟩ ?_
    refine aw_ret rfl rfl (by first | exact Or.inl rfl | exact Or.inr rfl | exact bI_b _) ?_
    refine ⟨?_, rfl⟩
    rfl
theorem ev_Reader_write {c : Nat} {x : Int32} {zd : Nat} (hst : (σ 14) = nI c) (hc160 : c < 160) : aw_X P (zd + 1) 79 [.ref 19, .int x] (ae_rd σ α tx tl) (fun r H => r = some (.int 1) ∧ H = (ae_rd (au σ [(14, nI (c + 1))]) (au α [(19, upd (α 19) c x)]) tx tl)) := by
  refine aw_ev (cd := cd_Reader_write) rfl rfl rfl ?_
  show aw_W _ _ _ _ (0, [some (.ref 19), some (.int x)], []) (ae_rd σ α tx tl)
  refine aw_go 6 rfl ⟨trivial, trivial, trivial, trivial, trivial, trivial, trivial⟩ ?_
  show aw_W _ _ _ _ (if (160 : Int32) ≤ (σ 14) then 18 else 6, [some (.ref 19), some (.int x)], []) (ae_rd σ α tx tl)
  refine aw_br (c := (160 : Int32) ≤ (σ 14)) (fun h5 => ?_) (fun h5 => ?_)
  · skip
    have h5 := cI_leT (a := 160) (b := c) rfl hst (by omega) (by omega) h5
    show aw_W _ _ _ _ (18, [some (.ref 19), some (.int x)], []) (ae_rd σ α tx tl)
    exact absurd h5 (by omega)
  · skip
    have h5 := cI_leF (a := 160) (b := c) rfl hst (by omega) (by omega) h5
    show aw_W _ _ _ _ (6, [some (.ref 19), some (.int x)], []) (ae_rd σ α tx tl)
    refine aw_go 12 rfl ⟨trivial, trivial, trivial, trivial, trivial, (cI_in (a := c) hst (by omega) (by decide)), trivial, trivial, trivial, trivial, trivial, trivial, trivial⟩ ?_
    show aw_W _ _ _ _ (18, [some (.ref 19), some (.int x)], []) (ae_rd (au σ [(14, (σ 14) + 1)]) (au α [(19, upd (α 19) (σ 14).toNatClampNeg x)]) tx tl)
    rw [show (σ 14).toNatClampNeg = c from cI_cl (a := c) hst (by omega)]
    rw [show (σ 14) + 1 = nI (c + 1) from cI_add hst rfl]
    refine aw_go 1 rfl ⟨trivial, trivial⟩ ?_
    refine aw_ret rfl rfl (by first | exact Or.inl rfl | exact Or.inr rfl | exact bI_b _) ?_
    exact ⟨rfl, rfl⟩
end L37
section L37b
variable {P : ae_P} {H : ae_H}

theorem z_either {D o i : Nat} {Q : Option Value → ae_H → Prop} (hi : i ≤ 161) (hQ : Q (some (.int 0)) H) : aw_W P D cd_Reader_either Q (6, [some (.ref 19), some (.int (nI o)), some (.int 0), some (.int (nI i))], []) H := by
  refine aw_go 3 rfl ⟨trivial, trivial, trivial, trivial⟩ ?_
  refine aw_br (c := (160 : Int32) ≤ (nI i)) (fun h8 => ?_) (fun h8 => ?_)
  · skip
    have h8 := cI_leT (a := 160) (b := i) rfl rfl (by omega) (by omega) h8
    show aw_W _ _ _ _ (29, [some (.ref 19), some (.int (nI o)), some (.int 0), some (.int (nI i))], []) H
    refine aw_go 1 rfl ⟨trivial, trivial⟩ ?_
    refine aw_ret rfl rfl (by first | exact Or.inl rfl | exact Or.inr rfl | exact bI_b _) ?_
    exact hQ
  · skip
    have h8 := cI_leF (a := 160) (b := i) rfl rfl (by omega) (by omega) h8
    show aw_W _ _ _ _ (9, [some (.ref 19), some (.int (nI o)), some (.int 0), some (.int (nI i))], []) H
    refine aw_go 2 rfl ⟨trivial, trivial, trivial⟩ ?_
    refine aw_br (c := (0 : Int32) = 0) (fun h10 => ?_) (fun h10 => ?_)
    · skip
      have h10 := cI_eqT (a := 0) (b := 0) rfl rfl (by omega) (by omega) h10
      show aw_W _ _ _ _ (29, [some (.ref 19), some (.int (nI o)), some (.int 0), some (.int (nI i))], []) H
      refine aw_go 1 rfl ⟨trivial, trivial⟩ ?_
      refine aw_ret rfl rfl (by first | exact Or.inl rfl | exact Or.inr rfl | exact bI_b _) ?_
      exact hQ
    · skip
      have h10 := cI_eqF (a := 0) (b := 0) rfl rfl (by omega) (by omega) h10
      show aw_W _ _ _ _ (11, [some (.ref 19), some (.int (nI o)), some (.int 0), some (.int (nI i))], []) H
      exact absurd h10 (by decide)
theorem z_both {D o i : Nat} {Q : Option Value → ae_H → Prop} (hi : i ≤ 161) (hQ : Q (some (.int 0)) H) : aw_W P D cd_Reader_both Q (6, [some (.ref 19), some (.int (nI o)), some (.int 0), some (.int (nI i))], []) H := by
  refine aw_go 3 rfl ⟨trivial, trivial, trivial, trivial⟩ ?_
  refine aw_br (c := (160 : Int32) ≤ (nI i)) (fun h8 => ?_) (fun h8 => ?_)
  · skip
    have h8 := cI_leT (a := 160) (b := i) rfl rfl (by omega) (by omega) h8
    show aw_W _ _ _ _ (29, [some (.ref 19), some (.int (nI o)), some (.int 0), some (.int (nI i))], []) H
    refine aw_go 1 rfl ⟨trivial, trivial⟩ ?_
    refine aw_ret rfl rfl (by first | exact Or.inl rfl | exact Or.inr rfl | exact bI_b _) ?_
    exact hQ
  · skip
    have h8 := cI_leF (a := 160) (b := i) rfl rfl (by omega) (by omega) h8
    show aw_W _ _ _ _ (9, [some (.ref 19), some (.int (nI o)), some (.int 0), some (.int (nI i))], []) H
    refine aw_go 2 rfl ⟨trivial, trivial, trivial⟩ ?_
    refine aw_br (c := (0 : Int32) = 0) (fun h10 => ?_) (fun h10 => ?_)
    · skip
      have h10 := cI_eqT (a := 0) (b := 0) rfl rfl (by omega) (by omega) h10
      show aw_W _ _ _ _ (29, [some (.ref 19), some (.int (nI o)), some (.int 0), some (.int (nI i))], []) H
      refine aw_go 1 rfl ⟨trivial, trivial⟩ ?_
      refine aw_ret rfl rfl (by first | exact Or.inl rfl | exact Or.inr rfl | exact bI_b _) ?_
      exact hQ
    · skip
      have h10 := cI_eqF (a := 0) (b := 0) rfl rfl (by omega) (by omega) h10
      show aw_W _ _ _ _ (11, [some (.ref 19), some (.int (nI o)), some (.int 0), some (.int (nI i))], []) H
      exact absurd h10 (by decide)
theorem z_term {D o i : Nat} {Q : Option Value → ae_H → Prop} (hi : i ≤ 161) (hQ : Q (some (.int 0)) H) : aw_W P D cd_Reader_term Q (6, [some (.ref 19), some (.int (nI o)), some (.int 0), some (.int (nI i))], []) H := by
  refine aw_go 3 rfl ⟨trivial, trivial, trivial, trivial⟩ ?_
  refine aw_br (c := (160 : Int32) ≤ (nI i)) (fun h8 => ?_) (fun h8 => ?_)
  · skip
    have h8 := cI_leT (a := 160) (b := i) rfl rfl (by omega) (by omega) h8
    show aw_W _ _ _ _ (29, [some (.ref 19), some (.int (nI o)), some (.int 0), some (.int (nI i))], []) H
    refine aw_go 1 rfl ⟨trivial, trivial⟩ ?_
    refine aw_ret rfl rfl (by first | exact Or.inl rfl | exact Or.inr rfl | exact bI_b _) ?_
    exact hQ
  · skip
    have h8 := cI_leF (a := 160) (b := i) rfl rfl (by omega) (by omega) h8
    show aw_W _ _ _ _ (9, [some (.ref 19), some (.int (nI o)), some (.int 0), some (.int (nI i))], []) H
    refine aw_go 2 rfl ⟨trivial, trivial, trivial⟩ ?_
    refine aw_br (c := (0 : Int32) = 0) (fun h10 => ?_) (fun h10 => ?_)
    · skip
      have h10 := cI_eqT (a := 0) (b := 0) rfl rfl (by omega) (by omega) h10
      show aw_W _ _ _ _ (29, [some (.ref 19), some (.int (nI o)), some (.int 0), some (.int (nI i))], []) H
      refine aw_go 1 rfl ⟨trivial, trivial⟩ ?_
      refine aw_ret rfl rfl (by first | exact Or.inl rfl | exact Or.inr rfl | exact bI_b _) ?_
      exact hQ
    · skip
      have h10 := cI_eqF (a := 0) (b := 0) rfl rfl (by omega) (by omega) h10
      show aw_W _ _ _ _ (11, [some (.ref 19), some (.int (nI o)), some (.int 0), some (.int (nI i))], []) H
      exact absurd h10 (by decide)
theorem z_sum {D o i : Nat} {x : Int32} {Q : Option Value → ae_H → Prop} (hi : i ≤ 161) (hQ : Q (some (.int 0)) H) : aw_W P D cd_Reader_sum Q (9, [some (.ref 19), some (.int (nI o)), some (.int 0), some (.int x), some (.int (nI i))], []) H := by
  refine aw_go 3 rfl ⟨trivial, trivial, trivial, trivial⟩ ?_
  refine aw_br (c := (160 : Int32) ≤ (nI i)) (fun h11 => ?_) (fun h11 => ?_)
  · skip
    have h11 := cI_leT (a := 160) (b := i) rfl rfl (by omega) (by omega) h11
    show aw_W _ _ _ _ (41, [some (.ref 19), some (.int (nI o)), some (.int 0), some (.int x), some (.int (nI i))], []) H
    refine aw_go 1 rfl ⟨trivial, trivial⟩ ?_
    refine aw_ret rfl rfl (by first | exact Or.inl rfl | exact Or.inr rfl | exact bI_b _) ?_
    exact hQ
  · skip
    have h11 := cI_leF (a := 160) (b := i) rfl rfl (by omega) (by omega) h11
    show aw_W _ _ _ _ (12, [some (.ref 19), some (.int (nI o)), some (.int 0), some (.int x), some (.int (nI i))], []) H
    refine aw_go 2 rfl ⟨trivial, trivial, trivial⟩ ?_
    refine aw_br (c := (0 : Int32) = 0) (fun h13 => ?_) (fun h13 => ?_)
    · skip
      have h13 := cI_eqT (a := 0) (b := 0) rfl rfl (by omega) (by omega) h13
      show aw_W _ _ _ _ (41, [some (.ref 19), some (.int (nI o)), some (.int 0), some (.int x), some (.int (nI i))], []) H
      refine aw_go 1 rfl ⟨trivial, trivial⟩ ?_
      refine aw_ret rfl rfl (by first | exact Or.inl rfl | exact Or.inr rfl | exact bI_b _) ?_
      exact hQ
    · skip
      have h13 := cI_eqF (a := 0) (b := 0) rfl rfl (by omega) (by omega) h13
      show aw_W _ _ _ _ (14, [some (.ref 19), some (.int (nI o)), some (.int 0), some (.int x), some (.int (nI i))], []) H
      exact absurd h13 (by decide)
end L37b
section L37c
variable {P : ae_P} {σ : Nat → Int32} {α : Nat → Nat → Int32} {tx : Nat → Option Nat} {tl : List va_E}

theorem pl_either {cnt m : Nat} (hcn : (σ 12) = nI cnt) (hc161 : cnt ≤ 161) (ih2 : prX P σ α tx tl cnt m 2) (il : prL P σ α tx tl cnt m 1 0 cd_Reader_either) : prL P σ α tx tl cnt (m + 1) 1 0 cd_Reader_either := by
  intro o l R a c i S D hpp ho hT hg hl hca hia hD
  obtain ⟨D, rfl⟩ : ∃ E, D = E + 2 := ⟨D - 2, by simp only [rK] at hD; omega⟩
  obtain ⟨t1, t2, t3⟩ := tk_hd hT hg
  have hl1 := gL_pos hg
  rw [pp] at hpp
  by_cases e : hdT l = (-1)
  · rw [if_pos e] at hpp
    have ht := pH_tail (l := l) (by rw [e]; decide)
    have ht1 := ht.1
    have htl : l.tail.length = l.length - 1 := List.length_tail
    have hl2 : 2 ≤ l.length := Nat.lt_of_not_le (fun q => absurd (gL_one hg q) (by rw [e]; decide))
    rcases bP_some hpp with ⟨l1, s1, h1, hpp⟩ | ⟨l1, s1, h1, rfl⟩
    · have hp := (pp_pH _ _ _ _ _ _ _ h1).1
      have hp1 := hp.1
      have hl3 := gL_pos (hp.2.1 (ht.2.1 hg))
      obtain ⟨k1, k2⟩ := tk_rest (cnt := cnt) t3 (by omega) hp
      obtain ⟨R1, h2, hq⟩ := prQ_lp (σ := σ) (α := α) (tx := tx) (tl := tl) (cnt := cnt) (c := c) (S := S) hpp
      refine aw_go 3 rfl ⟨trivial, trivial, trivial, trivial⟩ ?_
      refine aw_br (c := (160 : Int32) ≤ (nI i)) (fun h8 => ?_) (fun h8 => ?_)
      · skip
        have h8 := cI_leT (a := 160) (b := i) rfl rfl (by omega) (by omega) h8
        show aw_W _ _ _ _ (29, [some (.ref 19), some (.int (nI o)), some (.int 1), some (.int (nI i))], []) (ae_rd (au σ [(13, nI a), (14, nI c)]) (au α [(19, S)]) tx tl)
        exact absurd h8 (by omega)
      · skip
        have h8 := cI_leF (a := 160) (b := i) rfl rfl (by omega) (by omega) h8
        show aw_W _ _ _ _ (9, [some (.ref 19), some (.int (nI o)), some (.int 1), some (.int (nI i))], []) (ae_rd (au σ [(13, nI a), (14, nI c)]) (au α [(19, S)]) tx tl)
        refine aw_go 2 rfl ⟨trivial, trivial, trivial⟩ ?_
        refine aw_br (c := (1 : Int32) = 0) (fun h10 => ?_) (fun h10 => ?_)
        · skip
          have h10 := cI_eqT (a := 1) (b := 0) rfl rfl (by omega) (by omega) h10
          show aw_W _ _ _ _ (29, [some (.ref 19), some (.int (nI o)), some (.int 1), some (.int (nI i))], []) (ae_rd (au σ [(13, nI a), (14, nI c)]) (au α [(19, S)]) tx tl)
          exact absurd h10 (by decide)
        · skip
          have h10 := cI_eqF (a := 1) (b := 0) rfl rfl (by omega) (by omega) h10
          show aw_W _ _ _ _ (11, [some (.ref 19), some (.int (nI o)), some (.int 1), some (.int (nI i))], []) (ae_rd (au σ [(13, nI a), (14, nI c)]) (au α [(19, S)]) tx tl)
          refine aw_go 2 rfl ⟨trivial, trivial, trivial⟩ ?_
          refine aw_call rfl rfl (ev_pass_y (t := (-1)) (a := a) (cnt := cnt) rfl hcn (by omega) hc161 (by rw [← e]; exact t1)) ?_
          rintro _ _ ⟨rfl, rfl⟩
          show aw_W _ _ _ _ (14, [some (.ref 19), some (.int (nI o)), some (.int 1), some (.int (nI i))], [.int 1]) (ae_rd (au σ [(13, nI (a + 1)), (14, nI c)]) (au α [(19, S)]) tx tl)
          refine aw_go 1 rfl ⟨trivial, trivial⟩ ?_
          refine aw_br (c := (1 : Int32) = 0) (fun h14 => ?_) (fun h14 => ?_)
          · skip
            have h14 := cI_eqT (a := 1) (b := 0) rfl rfl (by omega) (by omega) h14
            show aw_W _ _ _ _ (29, [some (.ref 19), some (.int (nI o)), some (.int 1), some (.int (nI i))], []) (ae_rd (au σ [(13, nI (a + 1)), (14, nI c)]) (au α [(19, S)]) tx tl)
            exact absurd h14 (by decide)
          · skip
            have h14 := cI_eqF (a := 1) (b := 0) rfl rfl (by omega) (by omega) h14
            show aw_W _ _ _ _ (15, [some (.ref 19), some (.int (nI o)), some (.int 1), some (.int (nI i))], []) (ae_rd (au σ [(13, nI (a + 1)), (14, nI c)]) (au α [(19, S)]) tx tl)
            refine aw_go 2 rfl ⟨trivial, trivial, trivial⟩ ?_
            refine aw_call rfl rfl (ih2 o l.tail (true, l1, s1) (a + 1) c S _ h1  ho t3 (ht.2.1 hg) (by omega) (by omega) (by simp only [rK] at hD ⊢; omega)) ?_
            rintro _ _ ⟨c_17, S_17, rfl, rfl, hb_17⟩
            show aw_W _ _ _ _ (18, [some (.ref 19), some (.int (nI o)), some (.int 1), some (.int (nI i))], [.int 1]) (ae_rd (au σ [(13, nI (cnt - l1.length)), (14, c_17)]) (au α [(19, S_17)]) tx tl)
            obtain ⟨rfl, rfl⟩ := hb_17 rfl
            refine aw_go 1 rfl ⟨trivial, trivial⟩ ?_
            refine aw_br (c := (1 : Int32) = 0) (fun h18 => ?_) (fun h18 => ?_)
            · skip
              have h18 := cI_eqT (a := 1) (b := 0) rfl rfl (by omega) (by omega) h18
              show aw_W _ _ _ _ (25, [some (.ref 19), some (.int (nI o)), some (.int 1), some (.int (nI i))], []) (ae_rd (au σ [(13, nI (cnt - l1.length)), (14, nI (c + s1.length))]) (au α [(19, putL S c s1)]) tx tl)
              exact absurd h18 (by decide)
            · skip
              have h18 := cI_eqF (a := 1) (b := 0) rfl rfl (by omega) (by omega) h18
              show aw_W _ _ _ _ (19, [some (.ref 19), some (.int (nI o)), some (.int 1), some (.int (nI i))], []) (ae_rd (au σ [(13, nI (cnt - l1.length)), (14, nI (c + s1.length))]) (au α [(19, putL S c s1)]) tx tl)
              refine aw_go 2 rfl ⟨trivial, trivial, trivial⟩ ?_
              refine aw_call rfl rfl (ev_Reader_write (x := (-1)) rfl (by omega)) ?_
              rintro _ _ ⟨rfl, rfl⟩
              show aw_W _ _ _ _ (22, [some (.ref 19), some (.int (nI o)), some (.int 1), some (.int (nI i))], [.int 1]) (ae_rd (au σ [(13, nI (cnt - l1.length)), (14, nI ((c + s1.length) + 1))]) (au α [(19, upd (putL S c s1) (c + s1.length) (-1))]) tx tl)
              refine aw_go 1 rfl ⟨trivial, trivial⟩ ?_
              refine aw_br (c := (1 : Int32) = 0) (fun h22 => ?_) (fun h22 => ?_)
              · skip
                have h22 := cI_eqT (a := 1) (b := 0) rfl rfl (by omega) (by omega) h22
                show aw_W _ _ _ _ (25, [some (.ref 19), some (.int (nI o)), some (.int 1), some (.int (nI i))], []) (ae_rd (au σ [(13, nI (cnt - l1.length)), (14, nI ((c + s1.length) + 1))]) (au α [(19, upd (putL S c s1) (c + s1.length) (-1))]) tx tl)
                exact absurd h22 (by decide)
              · skip
                have h22 := cI_eqF (a := 1) (b := 0) rfl rfl (by omega) (by omega) h22
                show aw_W _ _ _ _ (23, [some (.ref 19), some (.int (nI o)), some (.int 1), some (.int (nI i))], []) (ae_rd (au σ [(13, nI (cnt - l1.length)), (14, nI ((c + s1.length) + 1))]) (au α [(19, upd (putL S c s1) (c + s1.length) (-1))]) tx tl)
                refine aw_go 5 rfl ⟨trivial, trivial, trivial, trivial, trivial, trivial⟩ ?_
                show aw_W _ _ _ _ (6, [some (.ref 19), some (.int (nI o)), some (.int 1), some (.int ((nI i) + 1))], []) (ae_rd (au σ [(13, nI (cnt - l1.length)), (14, nI ((c + s1.length) + 1))]) (au α [(19, upd (putL S c s1) (c + s1.length) (-1))]) tx tl)
                rw [show (nI i) + 1 = nI (i + 1) from (cI_add (a := i) (b := 1) rfl rfl)]
                exact aw_mono (il o l1 R1 (cnt - l1.length) (c + s1.length + 1) (i + 1) (upd (putL S c s1) (c + s1.length) (-1)) _ h2 ho k1 (hp.2.1 (ht.2.1 hg)) k2 (by omega) (by omega) hD) hq
    · have hp := (pp_pH _ _ _ _ _ _ _ h1).1
      have hp1 := hp.1
      refine aw_go 3 rfl ⟨trivial, trivial, trivial, trivial⟩ ?_
      refine aw_br (c := (160 : Int32) ≤ (nI i)) (fun h8 => ?_) (fun h8 => ?_)
      · skip
        have h8 := cI_leT (a := 160) (b := i) rfl rfl (by omega) (by omega) h8
        show aw_W _ _ _ _ (29, [some (.ref 19), some (.int (nI o)), some (.int 1), some (.int (nI i))], []) (ae_rd (au σ [(13, nI a), (14, nI c)]) (au α [(19, S)]) tx tl)
        exact absurd h8 (by omega)
      · skip
        have h8 := cI_leF (a := 160) (b := i) rfl rfl (by omega) (by omega) h8
        show aw_W _ _ _ _ (9, [some (.ref 19), some (.int (nI o)), some (.int 1), some (.int (nI i))], []) (ae_rd (au σ [(13, nI a), (14, nI c)]) (au α [(19, S)]) tx tl)
        refine aw_go 2 rfl ⟨trivial, trivial, trivial⟩ ?_
        refine aw_br (c := (1 : Int32) = 0) (fun h10 => ?_) (fun h10 => ?_)
        · skip
          have h10 := cI_eqT (a := 1) (b := 0) rfl rfl (by omega) (by omega) h10
          show aw_W _ _ _ _ (29, [some (.ref 19), some (.int (nI o)), some (.int 1), some (.int (nI i))], []) (ae_rd (au σ [(13, nI a), (14, nI c)]) (au α [(19, S)]) tx tl)
          exact absurd h10 (by decide)
        · skip
          have h10 := cI_eqF (a := 1) (b := 0) rfl rfl (by omega) (by omega) h10
          show aw_W _ _ _ _ (11, [some (.ref 19), some (.int (nI o)), some (.int 1), some (.int (nI i))], []) (ae_rd (au σ [(13, nI a), (14, nI c)]) (au α [(19, S)]) tx tl)
          refine aw_go 2 rfl ⟨trivial, trivial, trivial⟩ ?_
          refine aw_call rfl rfl (ev_pass_y (t := (-1)) (a := a) (cnt := cnt) rfl hcn (by omega) hc161 (by rw [← e]; exact t1)) ?_
          rintro _ _ ⟨rfl, rfl⟩
          show aw_W _ _ _ _ (14, [some (.ref 19), some (.int (nI o)), some (.int 1), some (.int (nI i))], [.int 1]) (ae_rd (au σ [(13, nI (a + 1)), (14, nI c)]) (au α [(19, S)]) tx tl)
          refine aw_go 1 rfl ⟨trivial, trivial⟩ ?_
          refine aw_br (c := (1 : Int32) = 0) (fun h14 => ?_) (fun h14 => ?_)
          · skip
            have h14 := cI_eqT (a := 1) (b := 0) rfl rfl (by omega) (by omega) h14
            show aw_W _ _ _ _ (29, [some (.ref 19), some (.int (nI o)), some (.int 1), some (.int (nI i))], []) (ae_rd (au σ [(13, nI (a + 1)), (14, nI c)]) (au α [(19, S)]) tx tl)
            exact absurd h14 (by decide)
          · skip
            have h14 := cI_eqF (a := 1) (b := 0) rfl rfl (by omega) (by omega) h14
            show aw_W _ _ _ _ (15, [some (.ref 19), some (.int (nI o)), some (.int 1), some (.int (nI i))], []) (ae_rd (au σ [(13, nI (a + 1)), (14, nI c)]) (au α [(19, S)]) tx tl)
            refine aw_go 2 rfl ⟨trivial, trivial, trivial⟩ ?_
            refine aw_call rfl rfl (ih2 o l.tail (false, l1, s1) (a + 1) c S _ h1  ho t3 (ht.2.1 hg) (by omega) (by omega) (by simp only [rK] at hD ⊢; omega)) ?_
            rintro _ _ ⟨c_17, S_17, rfl, rfl, hb_17⟩
            show aw_W _ _ _ _ (18, [some (.ref 19), some (.int (nI o)), some (.int 1), some (.int (nI i))], [.int 0]) (ae_rd (au σ [(13, nI (cnt - l1.length)), (14, c_17)]) (au α [(19, S_17)]) tx tl)
            refine aw_go 1 rfl ⟨trivial, trivial⟩ ?_
            refine aw_br (c := (0 : Int32) = 0) (fun h18 => ?_) (fun h18 => ?_)
            · skip
              have h18 := cI_eqT (a := 0) (b := 0) rfl rfl (by omega) (by omega) h18
              show aw_W _ _ _ _ (25, [some (.ref 19), some (.int (nI o)), some (.int 1), some (.int (nI i))], []) (ae_rd (au σ [(13, nI (cnt - l1.length)), (14, c_17)]) (au α [(19, S_17)]) tx tl)
              refine aw_go 4 rfl ⟨trivial, trivial, trivial, trivial, trivial⟩ ?_
              show aw_W _ _ _ _ (6, [some (.ref 19), some (.int (nI o)), some (.int 0), some (.int ((nI i) + 1))], []) (ae_rd (au σ [(13, nI (cnt - l1.length)), (14, c_17)]) (au α [(19, S_17)]) tx tl)
              rw [show (nI i) + 1 = nI (i + 1) from (cI_add (a := i) (b := 1) rfl rfl)]
              exact z_either (by omega) ⟨_, _, rfl, rfl, fun q => by cases q⟩
            · skip
              have h18 := cI_eqF (a := 0) (b := 0) rfl rfl (by omega) (by omega) h18
              show aw_W _ _ _ _ (19, [some (.ref 19), some (.int (nI o)), some (.int 1), some (.int (nI i))], []) (ae_rd (au σ [(13, nI (cnt - l1.length)), (14, c_17)]) (au α [(19, S_17)]) tx tl)
              exact absurd h18 (by decide)
  · rw [if_neg e] at hpp
    cases hpp
    have ea : a = cnt - l.length := by omega
    refine aw_go 3 rfl ⟨trivial, trivial, trivial, trivial⟩ ?_
    refine aw_br (c := (160 : Int32) ≤ (nI i)) (fun h8 => ?_) (fun h8 => ?_)
    · skip
      have h8 := cI_leT (a := 160) (b := i) rfl rfl (by omega) (by omega) h8
      show aw_W _ _ _ _ (29, [some (.ref 19), some (.int (nI o)), some (.int 1), some (.int (nI i))], []) (ae_rd (au σ [(13, nI a), (14, nI c)]) (au α [(19, S)]) tx tl)
      refine aw_go 1 rfl ⟨trivial, trivial⟩ ?_
      refine aw_ret rfl rfl (by first | exact Or.inl rfl | exact Or.inr rfl | exact bI_b _) ?_
      exact ⟨nI c, S, rfl, by show _ = ae_rd (au σ [(13, nI (cnt - l.length)), (14, nI c)]) (au α [(19, S)]) tx tl; rw [← ea], fun _ => ⟨rfl, rfl⟩⟩
    · skip
      have h8 := cI_leF (a := 160) (b := i) rfl rfl (by omega) (by omega) h8
      show aw_W _ _ _ _ (9, [some (.ref 19), some (.int (nI o)), some (.int 1), some (.int (nI i))], []) (ae_rd (au σ [(13, nI a), (14, nI c)]) (au α [(19, S)]) tx tl)
      refine aw_go 2 rfl ⟨trivial, trivial, trivial⟩ ?_
      refine aw_br (c := (1 : Int32) = 0) (fun h10 => ?_) (fun h10 => ?_)
      · skip
        have h10 := cI_eqT (a := 1) (b := 0) rfl rfl (by omega) (by omega) h10
        show aw_W _ _ _ _ (29, [some (.ref 19), some (.int (nI o)), some (.int 1), some (.int (nI i))], []) (ae_rd (au σ [(13, nI a), (14, nI c)]) (au α [(19, S)]) tx tl)
        exact absurd h10 (by decide)
      · skip
        have h10 := cI_eqF (a := 1) (b := 0) rfl rfl (by omega) (by omega) h10
        show aw_W _ _ _ _ (11, [some (.ref 19), some (.int (nI o)), some (.int 1), some (.int (nI i))], []) (ae_rd (au σ [(13, nI a), (14, nI c)]) (au α [(19, S)]) tx tl)
        refine aw_go 2 rfl ⟨trivial, trivial, trivial⟩ ?_
        refine aw_callE rfl rfl (ev_pass_n (y := (-1)) (a := a) (cnt := cnt) rfl hcn (by omega) hc161 t1 e) ?_
        show aw_W _ _ _ _ (14, [some (.ref 19), some (.int (nI o)), some (.int 1), some (.int (nI i))], [.int 0]) (ae_rd (au σ [(13, nI a), (14, nI c)]) (au α [(19, S)]) tx tl)
        refine aw_go 1 rfl ⟨trivial, trivial⟩ ?_
        refine aw_br (c := (0 : Int32) = 0) (fun h14 => ?_) (fun h14 => ?_)
        · skip
          have h14 := cI_eqT (a := 0) (b := 0) rfl rfl (by omega) (by omega) h14
          show aw_W _ _ _ _ (29, [some (.ref 19), some (.int (nI o)), some (.int 1), some (.int (nI i))], []) (ae_rd (au σ [(13, nI a), (14, nI c)]) (au α [(19, S)]) tx tl)
          refine aw_go 1 rfl ⟨trivial, trivial⟩ ?_
          refine aw_ret rfl rfl (by first | exact Or.inl rfl | exact Or.inr rfl | exact bI_b _) ?_
          exact ⟨nI c, S, rfl, by show _ = ae_rd (au σ [(13, nI (cnt - l.length)), (14, nI c)]) (au α [(19, S)]) tx tl; rw [← ea], fun _ => ⟨rfl, rfl⟩⟩
        · skip
          have h14 := cI_eqF (a := 0) (b := 0) rfl rfl (by omega) (by omega) h14
          show aw_W _ _ _ _ (15, [some (.ref 19), some (.int (nI o)), some (.int 1), some (.int (nI i))], []) (ae_rd (au σ [(13, nI a), (14, nI c)]) (au α [(19, S)]) tx tl)
          exact absurd h14 (by decide)
theorem pr_either {cnt m : Nat} (hcn : (σ 12) = nI cnt) (hc161 : cnt ≤ 161) (ih2 : prX P σ α tx tl cnt m 2) (il : prL P σ α tx tl cnt m 1 0 cd_Reader_either) : prX P σ α tx tl cnt (m + 1) 0 := by
  intro o l R a c S D hpp ho hT hg hl hca hD
  obtain ⟨D, rfl⟩ : ∃ E, D = E + 3 := ⟨D - 3, by simp only [rK] at hD; omega⟩
  rw [pp] at hpp
  refine aw_ev (cd := cd_Reader_either) rfl rfl rfl ?_
  rcases bP_some hpp with ⟨l1, s1, h1, hpp⟩ | ⟨l1, s1, h1, rfl⟩
  · have hp := (pp_pH _ _ _ _ _ _ _ h1).1
    have hp1 := hp.1
    obtain ⟨k1, k2⟩ := tk_rest (cnt := cnt) hT (by omega) hp
    obtain ⟨R1, h2, hq⟩ := prQ_sq (σ := σ) (α := α) (tx := tx) (tl := tl) (cnt := cnt) (c := c) (S := S) hpp
    show aw_W _ _ _ _ (0, [some (.ref 19), some (.int (nI o)), none, none], []) (ae_rd (au σ [(13, nI a), (14, nI c)]) (au α [(19, S)]) tx tl)
    refine aw_go 2 rfl ⟨trivial, trivial, trivial⟩ ?_
    refine aw_call rfl rfl (ih2 o l (true, l1, s1) a c S _ h1  ho hT hg hl hca (by simp only [rK] at hD ⊢; omega)) ?_
    rintro _ _ ⟨c_2, S_2, rfl, rfl, hb_2⟩
    show aw_W _ _ _ _ (3, [some (.ref 19), some (.int (nI o)), none, none], [.int 1]) (ae_rd (au σ [(13, nI (cnt - l1.length)), (14, c_2)]) (au α [(19, S_2)]) tx tl)
    obtain ⟨rfl, rfl⟩ := hb_2 rfl
    refine aw_go 3 rfl ⟨trivial, trivial, trivial, trivial⟩ ?_
    exact aw_mono (il o l1 R1 (cnt - l1.length) (c + s1.length) 0 (putL S c s1) _ h2 ho k1 (hp.2.1 hg) k2 (by omega) (Nat.zero_le _) (by simp only [rK] at hD ⊢; omega)) hq
  · show aw_W _ _ _ _ (0, [some (.ref 19), some (.int (nI o)), none, none], []) (ae_rd (au σ [(13, nI a), (14, nI c)]) (au α [(19, S)]) tx tl)
    refine aw_go 2 rfl ⟨trivial, trivial, trivial⟩ ?_
    refine aw_call rfl rfl (ih2 o l (false, l1, s1) a c S _ h1  ho hT hg hl hca (by simp only [rK] at hD ⊢; omega)) ?_
    rintro _ _ ⟨c_2, S_2, rfl, rfl, hb_2⟩
    show aw_W _ _ _ _ (3, [some (.ref 19), some (.int (nI o)), none, none], [.int 0]) (ae_rd (au σ [(13, nI (cnt - l1.length)), (14, c_2)]) (au α [(19, S_2)]) tx tl)
    refine aw_go 3 rfl ⟨trivial, trivial, trivial, trivial⟩ ?_
    exact z_either (i := 0) (by omega) ⟨_, _, rfl, rfl, fun q => by cases q⟩
theorem pl_both {cnt m : Nat} (hcn : (σ 12) = nI cnt) (hc161 : cnt ≤ 161) (ih4 : prX P σ α tx tl cnt m 4) (il : prL P σ α tx tl cnt m 3 2 cd_Reader_both) : prL P σ α tx tl cnt (m + 1) 3 2 cd_Reader_both := by
  intro o l R a c i S D hpp ho hT hg hl hca hia hD
  obtain ⟨D, rfl⟩ : ∃ E, D = E + 2 := ⟨D - 2, by simp only [rK] at hD; omega⟩
  obtain ⟨t1, t2, t3⟩ := tk_hd hT hg
  have hl1 := gL_pos hg
  rw [pp] at hpp
  by_cases e : hdT l = (-2)
  · rw [if_pos e] at hpp
    have ht := pH_tail (l := l) (by rw [e]; decide)
    have ht1 := ht.1
    have htl : l.tail.length = l.length - 1 := List.length_tail
    have hl2 : 2 ≤ l.length := Nat.lt_of_not_le (fun q => absurd (gL_one hg q) (by rw [e]; decide))
    rcases bP_some hpp with ⟨l1, s1, h1, hpp⟩ | ⟨l1, s1, h1, rfl⟩
    · have hp := (pp_pH _ _ _ _ _ _ _ h1).1
      have hp1 := hp.1
      have hl3 := gL_pos (hp.2.1 (ht.2.1 hg))
      obtain ⟨k1, k2⟩ := tk_rest (cnt := cnt) t3 (by omega) hp
      obtain ⟨R1, h2, hq⟩ := prQ_lp (σ := σ) (α := α) (tx := tx) (tl := tl) (cnt := cnt) (c := c) (S := S) hpp
      refine aw_go 3 rfl ⟨trivial, trivial, trivial, trivial⟩ ?_
      refine aw_br (c := (160 : Int32) ≤ (nI i)) (fun h8 => ?_) (fun h8 => ?_)
      · skip
        have h8 := cI_leT (a := 160) (b := i) rfl rfl (by omega) (by omega) h8
        show aw_W _ _ _ _ (29, [some (.ref 19), some (.int (nI o)), some (.int 1), some (.int (nI i))], []) (ae_rd (au σ [(13, nI a), (14, nI c)]) (au α [(19, S)]) tx tl)
        exact absurd h8 (by omega)
      · skip
        have h8 := cI_leF (a := 160) (b := i) rfl rfl (by omega) (by omega) h8
        show aw_W _ _ _ _ (9, [some (.ref 19), some (.int (nI o)), some (.int 1), some (.int (nI i))], []) (ae_rd (au σ [(13, nI a), (14, nI c)]) (au α [(19, S)]) tx tl)
        refine aw_go 2 rfl ⟨trivial, trivial, trivial⟩ ?_
        refine aw_br (c := (1 : Int32) = 0) (fun h10 => ?_) (fun h10 => ?_)
        · skip
          have h10 := cI_eqT (a := 1) (b := 0) rfl rfl (by omega) (by omega) h10
          show aw_W _ _ _ _ (29, [some (.ref 19), some (.int (nI o)), some (.int 1), some (.int (nI i))], []) (ae_rd (au σ [(13, nI a), (14, nI c)]) (au α [(19, S)]) tx tl)
          exact absurd h10 (by decide)
        · skip
          have h10 := cI_eqF (a := 1) (b := 0) rfl rfl (by omega) (by omega) h10
          show aw_W _ _ _ _ (11, [some (.ref 19), some (.int (nI o)), some (.int 1), some (.int (nI i))], []) (ae_rd (au σ [(13, nI a), (14, nI c)]) (au α [(19, S)]) tx tl)
          refine aw_go 2 rfl ⟨trivial, trivial, trivial⟩ ?_
          refine aw_call rfl rfl (ev_pass_y (t := (-2)) (a := a) (cnt := cnt) rfl hcn (by omega) hc161 (by rw [← e]; exact t1)) ?_
          rintro _ _ ⟨rfl, rfl⟩
          show aw_W _ _ _ _ (14, [some (.ref 19), some (.int (nI o)), some (.int 1), some (.int (nI i))], [.int 1]) (ae_rd (au σ [(13, nI (a + 1)), (14, nI c)]) (au α [(19, S)]) tx tl)
          refine aw_go 1 rfl ⟨trivial, trivial⟩ ?_
          refine aw_br (c := (1 : Int32) = 0) (fun h14 => ?_) (fun h14 => ?_)
          · skip
            have h14 := cI_eqT (a := 1) (b := 0) rfl rfl (by omega) (by omega) h14
            show aw_W _ _ _ _ (29, [some (.ref 19), some (.int (nI o)), some (.int 1), some (.int (nI i))], []) (ae_rd (au σ [(13, nI (a + 1)), (14, nI c)]) (au α [(19, S)]) tx tl)
            exact absurd h14 (by decide)
          · skip
            have h14 := cI_eqF (a := 1) (b := 0) rfl rfl (by omega) (by omega) h14
            show aw_W _ _ _ _ (15, [some (.ref 19), some (.int (nI o)), some (.int 1), some (.int (nI i))], []) (ae_rd (au σ [(13, nI (a + 1)), (14, nI c)]) (au α [(19, S)]) tx tl)
            refine aw_go 2 rfl ⟨trivial, trivial, trivial⟩ ?_
            refine aw_call rfl rfl (ih4 o l.tail (true, l1, s1) (a + 1) c S _ h1  ho t3 (ht.2.1 hg) (by omega) (by omega) (by simp only [rK] at hD ⊢; omega)) ?_
            rintro _ _ ⟨c_17, S_17, rfl, rfl, hb_17⟩
            show aw_W _ _ _ _ (18, [some (.ref 19), some (.int (nI o)), some (.int 1), some (.int (nI i))], [.int 1]) (ae_rd (au σ [(13, nI (cnt - l1.length)), (14, c_17)]) (au α [(19, S_17)]) tx tl)
            obtain ⟨rfl, rfl⟩ := hb_17 rfl
            refine aw_go 1 rfl ⟨trivial, trivial⟩ ?_
            refine aw_br (c := (1 : Int32) = 0) (fun h18 => ?_) (fun h18 => ?_)
            · skip
              have h18 := cI_eqT (a := 1) (b := 0) rfl rfl (by omega) (by omega) h18
              show aw_W _ _ _ _ (25, [some (.ref 19), some (.int (nI o)), some (.int 1), some (.int (nI i))], []) (ae_rd (au σ [(13, nI (cnt - l1.length)), (14, nI (c + s1.length))]) (au α [(19, putL S c s1)]) tx tl)
              exact absurd h18 (by decide)
            · skip
              have h18 := cI_eqF (a := 1) (b := 0) rfl rfl (by omega) (by omega) h18
              show aw_W _ _ _ _ (19, [some (.ref 19), some (.int (nI o)), some (.int 1), some (.int (nI i))], []) (ae_rd (au σ [(13, nI (cnt - l1.length)), (14, nI (c + s1.length))]) (au α [(19, putL S c s1)]) tx tl)
              refine aw_go 2 rfl ⟨trivial, trivial, trivial⟩ ?_
              refine aw_call rfl rfl (ev_Reader_write (x := (-2)) rfl (by omega)) ?_
              rintro _ _ ⟨rfl, rfl⟩
              show aw_W _ _ _ _ (22, [some (.ref 19), some (.int (nI o)), some (.int 1), some (.int (nI i))], [.int 1]) (ae_rd (au σ [(13, nI (cnt - l1.length)), (14, nI ((c + s1.length) + 1))]) (au α [(19, upd (putL S c s1) (c + s1.length) (-2))]) tx tl)
              refine aw_go 1 rfl ⟨trivial, trivial⟩ ?_
              refine aw_br (c := (1 : Int32) = 0) (fun h22 => ?_) (fun h22 => ?_)
              · skip
                have h22 := cI_eqT (a := 1) (b := 0) rfl rfl (by omega) (by omega) h22
                show aw_W _ _ _ _ (25, [some (.ref 19), some (.int (nI o)), some (.int 1), some (.int (nI i))], []) (ae_rd (au σ [(13, nI (cnt - l1.length)), (14, nI ((c + s1.length) + 1))]) (au α [(19, upd (putL S c s1) (c + s1.length) (-2))]) tx tl)
                exact absurd h22 (by decide)
              · skip
                have h22 := cI_eqF (a := 1) (b := 0) rfl rfl (by omega) (by omega) h22
                show aw_W _ _ _ _ (23, [some (.ref 19), some (.int (nI o)), some (.int 1), some (.int (nI i))], []) (ae_rd (au σ [(13, nI (cnt - l1.length)), (14, nI ((c + s1.length) + 1))]) (au α [(19, upd (putL S c s1) (c + s1.length) (-2))]) tx tl)
                refine aw_go 5 rfl ⟨trivial, trivial, trivial, trivial, trivial, trivial⟩ ?_
                show aw_W _ _ _ _ (6, [some (.ref 19), some (.int (nI o)), some (.int 1), some (.int ((nI i) + 1))], []) (ae_rd (au σ [(13, nI (cnt - l1.length)), (14, nI ((c + s1.length) + 1))]) (au α [(19, upd (putL S c s1) (c + s1.length) (-2))]) tx tl)
                rw [show (nI i) + 1 = nI (i + 1) from (cI_add (a := i) (b := 1) rfl rfl)]
                exact aw_mono (il o l1 R1 (cnt - l1.length) (c + s1.length + 1) (i + 1) (upd (putL S c s1) (c + s1.length) (-2)) _ h2 ho k1 (hp.2.1 (ht.2.1 hg)) k2 (by omega) (by omega) hD) hq
    · have hp := (pp_pH _ _ _ _ _ _ _ h1).1
      have hp1 := hp.1
      refine aw_go 3 rfl ⟨trivial, trivial, trivial, trivial⟩ ?_
      refine aw_br (c := (160 : Int32) ≤ (nI i)) (fun h8 => ?_) (fun h8 => ?_)
      · skip
        have h8 := cI_leT (a := 160) (b := i) rfl rfl (by omega) (by omega) h8
        show aw_W _ _ _ _ (29, [some (.ref 19), some (.int (nI o)), some (.int 1), some (.int (nI i))], []) (ae_rd (au σ [(13, nI a), (14, nI c)]) (au α [(19, S)]) tx tl)
        exact absurd h8 (by omega)
      · skip
        have h8 := cI_leF (a := 160) (b := i) rfl rfl (by omega) (by omega) h8
        show aw_W _ _ _ _ (9, [some (.ref 19), some (.int (nI o)), some (.int 1), some (.int (nI i))], []) (ae_rd (au σ [(13, nI a), (14, nI c)]) (au α [(19, S)]) tx tl)
        refine aw_go 2 rfl ⟨trivial, trivial, trivial⟩ ?_
        refine aw_br (c := (1 : Int32) = 0) (fun h10 => ?_) (fun h10 => ?_)
        · skip
          have h10 := cI_eqT (a := 1) (b := 0) rfl rfl (by omega) (by omega) h10
          show aw_W _ _ _ _ (29, [some (.ref 19), some (.int (nI o)), some (.int 1), some (.int (nI i))], []) (ae_rd (au σ [(13, nI a), (14, nI c)]) (au α [(19, S)]) tx tl)
          exact absurd h10 (by decide)
        · skip
          have h10 := cI_eqF (a := 1) (b := 0) rfl rfl (by omega) (by omega) h10
          show aw_W _ _ _ _ (11, [some (.ref 19), some (.int (nI o)), some (.int 1), some (.int (nI i))], []) (ae_rd (au σ [(13, nI a), (14, nI c)]) (au α [(19, S)]) tx tl)
          refine aw_go 2 rfl ⟨trivial, trivial, trivial⟩ ?_
          refine aw_call rfl rfl (ev_pass_y (t := (-2)) (a := a) (cnt := cnt) rfl hcn (by omega) hc161 (by rw [← e]; exact t1)) ?_
          rintro _ _ ⟨rfl, rfl⟩
          show aw_W _ _ _ _ (14, [some (.ref 19), some (.int (nI o)), some (.int 1), some (.int (nI i))], [.int 1]) (ae_rd (au σ [(13, nI (a + 1)), (14, nI c)]) (au α [(19, S)]) tx tl)
          refine aw_go 1 rfl ⟨trivial, trivial⟩ ?_
          refine aw_br (c := (1 : Int32) = 0) (fun h14 => ?_) (fun h14 => ?_)
          · skip
            have h14 := cI_eqT (a := 1) (b := 0) rfl rfl (by omega) (by omega) h14
            show aw_W _ _ _ _ (29, [some (.ref 19), some (.int (nI o)), some (.int 1), some (.int (nI i))], []) (ae_rd (au σ [(13, nI (a + 1)), (14, nI c)]) (au α [(19, S)]) tx tl)
            exact absurd h14 (by decide)
          · skip
            have h14 := cI_eqF (a := 1) (b := 0) rfl rfl (by omega) (by omega) h14
            show aw_W _ _ _ _ (15, [some (.ref 19), some (.int (nI o)), some (.int 1), some (.int (nI i))], []) (ae_rd (au σ [(13, nI (a + 1)), (14, nI c)]) (au α [(19, S)]) tx tl)
            refine aw_go 2 rfl ⟨trivial, trivial, trivial⟩ ?_
            refine aw_call rfl rfl (ih4 o l.tail (false, l1, s1) (a + 1) c S _ h1  ho t3 (ht.2.1 hg) (by omega) (by omega) (by simp only [rK] at hD ⊢; omega)) ?_
            rintro _ _ ⟨c_17, S_17, rfl, rfl, hb_17⟩
            show aw_W _ _ _ _ (18, [some (.ref 19), some (.int (nI o)), some (.int 1), some (.int (nI i))], [.int 0]) (ae_rd (au σ [(13, nI (cnt - l1.length)), (14, c_17)]) (au α [(19, S_17)]) tx tl)
            refine aw_go 1 rfl ⟨trivial, trivial⟩ ?_
            refine aw_br (c := (0 : Int32) = 0) (fun h18 => ?_) (fun h18 => ?_)
            · skip
              have h18 := cI_eqT (a := 0) (b := 0) rfl rfl (by omega) (by omega) h18
              show aw_W _ _ _ _ (25, [some (.ref 19), some (.int (nI o)), some (.int 1), some (.int (nI i))], []) (ae_rd (au σ [(13, nI (cnt - l1.length)), (14, c_17)]) (au α [(19, S_17)]) tx tl)
              refine aw_go 4 rfl ⟨trivial, trivial, trivial, trivial, trivial⟩ ?_
              show aw_W _ _ _ _ (6, [some (.ref 19), some (.int (nI o)), some (.int 0), some (.int ((nI i) + 1))], []) (ae_rd (au σ [(13, nI (cnt - l1.length)), (14, c_17)]) (au α [(19, S_17)]) tx tl)
              rw [show (nI i) + 1 = nI (i + 1) from (cI_add (a := i) (b := 1) rfl rfl)]
              exact z_both (by omega) ⟨_, _, rfl, rfl, fun q => by cases q⟩
            · skip
              have h18 := cI_eqF (a := 0) (b := 0) rfl rfl (by omega) (by omega) h18
              show aw_W _ _ _ _ (19, [some (.ref 19), some (.int (nI o)), some (.int 1), some (.int (nI i))], []) (ae_rd (au σ [(13, nI (cnt - l1.length)), (14, c_17)]) (au α [(19, S_17)]) tx tl)
              exact absurd h18 (by decide)
  · rw [if_neg e] at hpp
    cases hpp
    have ea : a = cnt - l.length := by omega
    refine aw_go 3 rfl ⟨trivial, trivial, trivial, trivial⟩ ?_
    refine aw_br (c := (160 : Int32) ≤ (nI i)) (fun h8 => ?_) (fun h8 => ?_)
    · skip
      have h8 := cI_leT (a := 160) (b := i) rfl rfl (by omega) (by omega) h8
      show aw_W _ _ _ _ (29, [some (.ref 19), some (.int (nI o)), some (.int 1), some (.int (nI i))], []) (ae_rd (au σ [(13, nI a), (14, nI c)]) (au α [(19, S)]) tx tl)
      refine aw_go 1 rfl ⟨trivial, trivial⟩ ?_
      refine aw_ret rfl rfl (by first | exact Or.inl rfl | exact Or.inr rfl | exact bI_b _) ?_
      exact ⟨nI c, S, rfl, by show _ = ae_rd (au σ [(13, nI (cnt - l.length)), (14, nI c)]) (au α [(19, S)]) tx tl; rw [← ea], fun _ => ⟨rfl, rfl⟩⟩
    · skip
      have h8 := cI_leF (a := 160) (b := i) rfl rfl (by omega) (by omega) h8
      show aw_W _ _ _ _ (9, [some (.ref 19), some (.int (nI o)), some (.int 1), some (.int (nI i))], []) (ae_rd (au σ [(13, nI a), (14, nI c)]) (au α [(19, S)]) tx tl)
      refine aw_go 2 rfl ⟨trivial, trivial, trivial⟩ ?_
      refine aw_br (c := (1 : Int32) = 0) (fun h10 => ?_) (fun h10 => ?_)
      · skip
        have h10 := cI_eqT (a := 1) (b := 0) rfl rfl (by omega) (by omega) h10
        show aw_W _ _ _ _ (29, [some (.ref 19), some (.int (nI o)), some (.int 1), some (.int (nI i))], []) (ae_rd (au σ [(13, nI a), (14, nI c)]) (au α [(19, S)]) tx tl)
        exact absurd h10 (by decide)
      · skip
        have h10 := cI_eqF (a := 1) (b := 0) rfl rfl (by omega) (by omega) h10
        show aw_W _ _ _ _ (11, [some (.ref 19), some (.int (nI o)), some (.int 1), some (.int (nI i))], []) (ae_rd (au σ [(13, nI a), (14, nI c)]) (au α [(19, S)]) tx tl)
        refine aw_go 2 rfl ⟨trivial, trivial, trivial⟩ ?_
        refine aw_callE rfl rfl (ev_pass_n (y := (-2)) (a := a) (cnt := cnt) rfl hcn (by omega) hc161 t1 e) ?_
        show aw_W _ _ _ _ (14, [some (.ref 19), some (.int (nI o)), some (.int 1), some (.int (nI i))], [.int 0]) (ae_rd (au σ [(13, nI a), (14, nI c)]) (au α [(19, S)]) tx tl)
        refine aw_go 1 rfl ⟨trivial, trivial⟩ ?_
        refine aw_br (c := (0 : Int32) = 0) (fun h14 => ?_) (fun h14 => ?_)
        · skip
          have h14 := cI_eqT (a := 0) (b := 0) rfl rfl (by omega) (by omega) h14
          show aw_W _ _ _ _ (29, [some (.ref 19), some (.int (nI o)), some (.int 1), some (.int (nI i))], []) (ae_rd (au σ [(13, nI a), (14, nI c)]) (au α [(19, S)]) tx tl)
          refine aw_go 1 rfl ⟨trivial, trivial⟩ ?_
          refine aw_ret rfl rfl (by first | exact Or.inl rfl | exact Or.inr rfl | exact bI_b _) ?_
          exact ⟨nI c, S, rfl, by show _ = ae_rd (au σ [(13, nI (cnt - l.length)), (14, nI c)]) (au α [(19, S)]) tx tl; rw [← ea], fun _ => ⟨rfl, rfl⟩⟩
        · skip
          have h14 := cI_eqF (a := 0) (b := 0) rfl rfl (by omega) (by omega) h14
          show aw_W _ _ _ _ (15, [some (.ref 19), some (.int (nI o)), some (.int 1), some (.int (nI i))], []) (ae_rd (au σ [(13, nI a), (14, nI c)]) (au α [(19, S)]) tx tl)
          exact absurd h14 (by decide)
theorem pr_both {cnt m : Nat} (hcn : (σ 12) = nI cnt) (hc161 : cnt ≤ 161) (ih4 : prX P σ α tx tl cnt m 4) (il : prL P σ α tx tl cnt m 3 2 cd_Reader_both) : prX P σ α tx tl cnt (m + 1) 2 := by
  intro o l R a c S D hpp ho hT hg hl hca hD
  obtain ⟨D, rfl⟩ : ∃ E, D = E + 3 := ⟨D - 3, by simp only [rK] at hD; omega⟩
  rw [pp] at hpp
  refine aw_ev (cd := cd_Reader_both) rfl rfl rfl ?_
  rcases bP_some hpp with ⟨l1, s1, h1, hpp⟩ | ⟨l1, s1, h1, rfl⟩
  · have hp := (pp_pH _ _ _ _ _ _ _ h1).1
    have hp1 := hp.1
    obtain ⟨k1, k2⟩ := tk_rest (cnt := cnt) hT (by omega) hp
    obtain ⟨R1, h2, hq⟩ := prQ_sq (σ := σ) (α := α) (tx := tx) (tl := tl) (cnt := cnt) (c := c) (S := S) hpp
    show aw_W _ _ _ _ (0, [some (.ref 19), some (.int (nI o)), none, none], []) (ae_rd (au σ [(13, nI a), (14, nI c)]) (au α [(19, S)]) tx tl)
    refine aw_go 2 rfl ⟨trivial, trivial, trivial⟩ ?_
    refine aw_call rfl rfl (ih4 o l (true, l1, s1) a c S _ h1  ho hT hg hl hca (by simp only [rK] at hD ⊢; omega)) ?_
    rintro _ _ ⟨c_2, S_2, rfl, rfl, hb_2⟩
    show aw_W _ _ _ _ (3, [some (.ref 19), some (.int (nI o)), none, none], [.int 1]) (ae_rd (au σ [(13, nI (cnt - l1.length)), (14, c_2)]) (au α [(19, S_2)]) tx tl)
    obtain ⟨rfl, rfl⟩ := hb_2 rfl
    refine aw_go 3 rfl ⟨trivial, trivial, trivial, trivial⟩ ?_
    exact aw_mono (il o l1 R1 (cnt - l1.length) (c + s1.length) 0 (putL S c s1) _ h2 ho k1 (hp.2.1 hg) k2 (by omega) (Nat.zero_le _) (by simp only [rK] at hD ⊢; omega)) hq
  · show aw_W _ _ _ _ (0, [some (.ref 19), some (.int (nI o)), none, none], []) (ae_rd (au σ [(13, nI a), (14, nI c)]) (au α [(19, S)]) tx tl)
    refine aw_go 2 rfl ⟨trivial, trivial, trivial⟩ ?_
    refine aw_call rfl rfl (ih4 o l (false, l1, s1) a c S _ h1  ho hT hg hl hca (by simp only [rK] at hD ⊢; omega)) ?_
    rintro _ _ ⟨c_2, S_2, rfl, rfl, hb_2⟩
    show aw_W _ _ _ _ (3, [some (.ref 19), some (.int (nI o)), none, none], [.int 0]) (ae_rd (au σ [(13, nI (cnt - l1.length)), (14, c_2)]) (au α [(19, S_2)]) tx tl)
    refine aw_go 3 rfl ⟨trivial, trivial, trivial, trivial⟩ ?_
    exact z_both (i := 0) (by omega) ⟨_, _, rfl, rfl, fun q => by cases q⟩
theorem pl_term {cnt m : Nat} (hcn : (σ 12) = nI cnt) (hc161 : cnt ≤ 161) (ih9 : prX P σ α tx tl cnt m 9) (il : prL P σ α tx tl cnt m 8 7 cd_Reader_term) : prL P σ α tx tl cnt (m + 1) 8 7 cd_Reader_term := by
  intro o l R a c i S D hpp ho hT hg hl hca hia hD
  obtain ⟨D, rfl⟩ : ∃ E, D = E + 2 := ⟨D - 2, by simp only [rK] at hD; omega⟩
  obtain ⟨t1, t2, t3⟩ := tk_hd hT hg
  have hl1 := gL_pos hg
  rw [pp] at hpp
  by_cases e : hdT l = (-8)
  · rw [if_pos e] at hpp
    have ht := pH_tail (l := l) (by rw [e]; decide)
    have ht1 := ht.1
    have htl : l.tail.length = l.length - 1 := List.length_tail
    have hl2 : 2 ≤ l.length := Nat.lt_of_not_le (fun q => absurd (gL_one hg q) (by rw [e]; decide))
    rcases bP_some hpp with ⟨l1, s1, h1, hpp⟩ | ⟨l1, s1, h1, rfl⟩
    · have hp := (pp_pH _ _ _ _ _ _ _ h1).1
      have hp1 := hp.1
      have hl3 := gL_pos (hp.2.1 (ht.2.1 hg))
      obtain ⟨k1, k2⟩ := tk_rest (cnt := cnt) t3 (by omega) hp
      obtain ⟨R1, h2, hq⟩ := prQ_lp (σ := σ) (α := α) (tx := tx) (tl := tl) (cnt := cnt) (c := c) (S := S) hpp
      refine aw_go 3 rfl ⟨trivial, trivial, trivial, trivial⟩ ?_
      refine aw_br (c := (160 : Int32) ≤ (nI i)) (fun h8 => ?_) (fun h8 => ?_)
      · skip
        have h8 := cI_leT (a := 160) (b := i) rfl rfl (by omega) (by omega) h8
        show aw_W _ _ _ _ (29, [some (.ref 19), some (.int (nI o)), some (.int 1), some (.int (nI i))], []) (ae_rd (au σ [(13, nI a), (14, nI c)]) (au α [(19, S)]) tx tl)
        exact absurd h8 (by omega)
      · skip
        have h8 := cI_leF (a := 160) (b := i) rfl rfl (by omega) (by omega) h8
        show aw_W _ _ _ _ (9, [some (.ref 19), some (.int (nI o)), some (.int 1), some (.int (nI i))], []) (ae_rd (au σ [(13, nI a), (14, nI c)]) (au α [(19, S)]) tx tl)
        refine aw_go 2 rfl ⟨trivial, trivial, trivial⟩ ?_
        refine aw_br (c := (1 : Int32) = 0) (fun h10 => ?_) (fun h10 => ?_)
        · skip
          have h10 := cI_eqT (a := 1) (b := 0) rfl rfl (by omega) (by omega) h10
          show aw_W _ _ _ _ (29, [some (.ref 19), some (.int (nI o)), some (.int 1), some (.int (nI i))], []) (ae_rd (au σ [(13, nI a), (14, nI c)]) (au α [(19, S)]) tx tl)
          exact absurd h10 (by decide)
        · skip
          have h10 := cI_eqF (a := 1) (b := 0) rfl rfl (by omega) (by omega) h10
          show aw_W _ _ _ _ (11, [some (.ref 19), some (.int (nI o)), some (.int 1), some (.int (nI i))], []) (ae_rd (au σ [(13, nI a), (14, nI c)]) (au α [(19, S)]) tx tl)
          refine aw_go 2 rfl ⟨trivial, trivial, trivial⟩ ?_
          refine aw_call rfl rfl (ev_pass_y (t := (-8)) (a := a) (cnt := cnt) rfl hcn (by omega) hc161 (by rw [← e]; exact t1)) ?_
          rintro _ _ ⟨rfl, rfl⟩
          show aw_W _ _ _ _ (14, [some (.ref 19), some (.int (nI o)), some (.int 1), some (.int (nI i))], [.int 1]) (ae_rd (au σ [(13, nI (a + 1)), (14, nI c)]) (au α [(19, S)]) tx tl)
          refine aw_go 1 rfl ⟨trivial, trivial⟩ ?_
          refine aw_br (c := (1 : Int32) = 0) (fun h14 => ?_) (fun h14 => ?_)
          · skip
            have h14 := cI_eqT (a := 1) (b := 0) rfl rfl (by omega) (by omega) h14
            show aw_W _ _ _ _ (29, [some (.ref 19), some (.int (nI o)), some (.int 1), some (.int (nI i))], []) (ae_rd (au σ [(13, nI (a + 1)), (14, nI c)]) (au α [(19, S)]) tx tl)
            exact absurd h14 (by decide)
          · skip
            have h14 := cI_eqF (a := 1) (b := 0) rfl rfl (by omega) (by omega) h14
            show aw_W _ _ _ _ (15, [some (.ref 19), some (.int (nI o)), some (.int 1), some (.int (nI i))], []) (ae_rd (au σ [(13, nI (a + 1)), (14, nI c)]) (au α [(19, S)]) tx tl)
            refine aw_go 2 rfl ⟨trivial, trivial, trivial⟩ ?_
            refine aw_call rfl rfl (ih9 o l.tail (true, l1, s1) (a + 1) c S _ h1  ho t3 (ht.2.1 hg) (by omega) (by omega) (by simp only [rK] at hD ⊢; omega)) ?_
            rintro _ _ ⟨c_17, S_17, rfl, rfl, hb_17⟩
            show aw_W _ _ _ _ (18, [some (.ref 19), some (.int (nI o)), some (.int 1), some (.int (nI i))], [.int 1]) (ae_rd (au σ [(13, nI (cnt - l1.length)), (14, c_17)]) (au α [(19, S_17)]) tx tl)
            obtain ⟨rfl, rfl⟩ := hb_17 rfl
            refine aw_go 1 rfl ⟨trivial, trivial⟩ ?_
            refine aw_br (c := (1 : Int32) = 0) (fun h18 => ?_) (fun h18 => ?_)
            · skip
              have h18 := cI_eqT (a := 1) (b := 0) rfl rfl (by omega) (by omega) h18
              show aw_W _ _ _ _ (25, [some (.ref 19), some (.int (nI o)), some (.int 1), some (.int (nI i))], []) (ae_rd (au σ [(13, nI (cnt - l1.length)), (14, nI (c + s1.length))]) (au α [(19, putL S c s1)]) tx tl)
              exact absurd h18 (by decide)
            · skip
              have h18 := cI_eqF (a := 1) (b := 0) rfl rfl (by omega) (by omega) h18
              show aw_W _ _ _ _ (19, [some (.ref 19), some (.int (nI o)), some (.int 1), some (.int (nI i))], []) (ae_rd (au σ [(13, nI (cnt - l1.length)), (14, nI (c + s1.length))]) (au α [(19, putL S c s1)]) tx tl)
              refine aw_go 2 rfl ⟨trivial, trivial, trivial⟩ ?_
              refine aw_call rfl rfl (ev_Reader_write (x := (-8)) rfl (by omega)) ?_
              rintro _ _ ⟨rfl, rfl⟩
              show aw_W _ _ _ _ (22, [some (.ref 19), some (.int (nI o)), some (.int 1), some (.int (nI i))], [.int 1]) (ae_rd (au σ [(13, nI (cnt - l1.length)), (14, nI ((c + s1.length) + 1))]) (au α [(19, upd (putL S c s1) (c + s1.length) (-8))]) tx tl)
              refine aw_go 1 rfl ⟨trivial, trivial⟩ ?_
              refine aw_br (c := (1 : Int32) = 0) (fun h22 => ?_) (fun h22 => ?_)
              · skip
                have h22 := cI_eqT (a := 1) (b := 0) rfl rfl (by omega) (by omega) h22
                show aw_W _ _ _ _ (25, [some (.ref 19), some (.int (nI o)), some (.int 1), some (.int (nI i))], []) (ae_rd (au σ [(13, nI (cnt - l1.length)), (14, nI ((c + s1.length) + 1))]) (au α [(19, upd (putL S c s1) (c + s1.length) (-8))]) tx tl)
                exact absurd h22 (by decide)
              · skip
                have h22 := cI_eqF (a := 1) (b := 0) rfl rfl (by omega) (by omega) h22
                show aw_W _ _ _ _ (23, [some (.ref 19), some (.int (nI o)), some (.int 1), some (.int (nI i))], []) (ae_rd (au σ [(13, nI (cnt - l1.length)), (14, nI ((c + s1.length) + 1))]) (au α [(19, upd (putL S c s1) (c + s1.length) (-8))]) tx tl)
                refine aw_go 5 rfl ⟨trivial, trivial, trivial, trivial, trivial, trivial⟩ ?_
                show aw_W _ _ _ _ (6, [some (.ref 19), some (.int (nI o)), some (.int 1), some (.int ((nI i) + 1))], []) (ae_rd (au σ [(13, nI (cnt - l1.length)), (14, nI ((c + s1.length) + 1))]) (au α [(19, upd (putL S c s1) (c + s1.length) (-8))]) tx tl)
                rw [show (nI i) + 1 = nI (i + 1) from (cI_add (a := i) (b := 1) rfl rfl)]
                exact aw_mono (il o l1 R1 (cnt - l1.length) (c + s1.length + 1) (i + 1) (upd (putL S c s1) (c + s1.length) (-8)) _ h2 ho k1 (hp.2.1 (ht.2.1 hg)) k2 (by omega) (by omega) hD) hq
    · have hp := (pp_pH _ _ _ _ _ _ _ h1).1
      have hp1 := hp.1
      refine aw_go 3 rfl ⟨trivial, trivial, trivial, trivial⟩ ?_
      refine aw_br (c := (160 : Int32) ≤ (nI i)) (fun h8 => ?_) (fun h8 => ?_)
      · skip
        have h8 := cI_leT (a := 160) (b := i) rfl rfl (by omega) (by omega) h8
        show aw_W _ _ _ _ (29, [some (.ref 19), some (.int (nI o)), some (.int 1), some (.int (nI i))], []) (ae_rd (au σ [(13, nI a), (14, nI c)]) (au α [(19, S)]) tx tl)
        exact absurd h8 (by omega)
      · skip
        have h8 := cI_leF (a := 160) (b := i) rfl rfl (by omega) (by omega) h8
        show aw_W _ _ _ _ (9, [some (.ref 19), some (.int (nI o)), some (.int 1), some (.int (nI i))], []) (ae_rd (au σ [(13, nI a), (14, nI c)]) (au α [(19, S)]) tx tl)
        refine aw_go 2 rfl ⟨trivial, trivial, trivial⟩ ?_
        refine aw_br (c := (1 : Int32) = 0) (fun h10 => ?_) (fun h10 => ?_)
        · skip
          have h10 := cI_eqT (a := 1) (b := 0) rfl rfl (by omega) (by omega) h10
          show aw_W _ _ _ _ (29, [some (.ref 19), some (.int (nI o)), some (.int 1), some (.int (nI i))], []) (ae_rd (au σ [(13, nI a), (14, nI c)]) (au α [(19, S)]) tx tl)
          exact absurd h10 (by decide)
        · skip
          have h10 := cI_eqF (a := 1) (b := 0) rfl rfl (by omega) (by omega) h10
          show aw_W _ _ _ _ (11, [some (.ref 19), some (.int (nI o)), some (.int 1), some (.int (nI i))], []) (ae_rd (au σ [(13, nI a), (14, nI c)]) (au α [(19, S)]) tx tl)
          refine aw_go 2 rfl ⟨trivial, trivial, trivial⟩ ?_
          refine aw_call rfl rfl (ev_pass_y (t := (-8)) (a := a) (cnt := cnt) rfl hcn (by omega) hc161 (by rw [← e]; exact t1)) ?_
          rintro _ _ ⟨rfl, rfl⟩
          show aw_W _ _ _ _ (14, [some (.ref 19), some (.int (nI o)), some (.int 1), some (.int (nI i))], [.int 1]) (ae_rd (au σ [(13, nI (a + 1)), (14, nI c)]) (au α [(19, S)]) tx tl)
          refine aw_go 1 rfl ⟨trivial, trivial⟩ ?_
          refine aw_br (c := (1 : Int32) = 0) (fun h14 => ?_) (fun h14 => ?_)
          · skip
            have h14 := cI_eqT (a := 1) (b := 0) rfl rfl (by omega) (by omega) h14
            show aw_W _ _ _ _ (29, [some (.ref 19), some (.int (nI o)), some (.int 1), some (.int (nI i))], []) (ae_rd (au σ [(13, nI (a + 1)), (14, nI c)]) (au α [(19, S)]) tx tl)
            exact absurd h14 (by decide)
          · skip
            have h14 := cI_eqF (a := 1) (b := 0) rfl rfl (by omega) (by omega) h14
            show aw_W _ _ _ _ (15, [some (.ref 19), some (.int (nI o)), some (.int 1), some (.int (nI i))], []) (ae_rd (au σ [(13, nI (a + 1)), (14, nI c)]) (au α [(19, S)]) tx tl)
            refine aw_go 2 rfl ⟨trivial, trivial, trivial⟩ ?_
            refine aw_call rfl rfl (ih9 o l.tail (false, l1, s1) (a + 1) c S _ h1  ho t3 (ht.2.1 hg) (by omega) (by omega) (by simp only [rK] at hD ⊢; omega)) ?_
            rintro _ _ ⟨c_17, S_17, rfl, rfl, hb_17⟩
            show aw_W _ _ _ _ (18, [some (.ref 19), some (.int (nI o)), some (.int 1), some (.int (nI i))], [.int 0]) (ae_rd (au σ [(13, nI (cnt - l1.length)), (14, c_17)]) (au α [(19, S_17)]) tx tl)
            refine aw_go 1 rfl ⟨trivial, trivial⟩ ?_
            refine aw_br (c := (0 : Int32) = 0) (fun h18 => ?_) (fun h18 => ?_)
            · skip
              have h18 := cI_eqT (a := 0) (b := 0) rfl rfl (by omega) (by omega) h18
              show aw_W _ _ _ _ (25, [some (.ref 19), some (.int (nI o)), some (.int 1), some (.int (nI i))], []) (ae_rd (au σ [(13, nI (cnt - l1.length)), (14, c_17)]) (au α [(19, S_17)]) tx tl)
              refine aw_go 4 rfl ⟨trivial, trivial, trivial, trivial, trivial⟩ ?_
              show aw_W _ _ _ _ (6, [some (.ref 19), some (.int (nI o)), some (.int 0), some (.int ((nI i) + 1))], []) (ae_rd (au σ [(13, nI (cnt - l1.length)), (14, c_17)]) (au α [(19, S_17)]) tx tl)
              rw [show (nI i) + 1 = nI (i + 1) from (cI_add (a := i) (b := 1) rfl rfl)]
              exact z_term (by omega) ⟨_, _, rfl, rfl, fun q => by cases q⟩
            · skip
              have h18 := cI_eqF (a := 0) (b := 0) rfl rfl (by omega) (by omega) h18
              show aw_W _ _ _ _ (19, [some (.ref 19), some (.int (nI o)), some (.int 1), some (.int (nI i))], []) (ae_rd (au σ [(13, nI (cnt - l1.length)), (14, c_17)]) (au α [(19, S_17)]) tx tl)
              exact absurd h18 (by decide)
  · rw [if_neg e] at hpp
    cases hpp
    have ea : a = cnt - l.length := by omega
    refine aw_go 3 rfl ⟨trivial, trivial, trivial, trivial⟩ ?_
    refine aw_br (c := (160 : Int32) ≤ (nI i)) (fun h8 => ?_) (fun h8 => ?_)
    · skip
      have h8 := cI_leT (a := 160) (b := i) rfl rfl (by omega) (by omega) h8
      show aw_W _ _ _ _ (29, [some (.ref 19), some (.int (nI o)), some (.int 1), some (.int (nI i))], []) (ae_rd (au σ [(13, nI a), (14, nI c)]) (au α [(19, S)]) tx tl)
      refine aw_go 1 rfl ⟨trivial, trivial⟩ ?_
      refine aw_ret rfl rfl (by first | exact Or.inl rfl | exact Or.inr rfl | exact bI_b _) ?_
      exact ⟨nI c, S, rfl, by show _ = ae_rd (au σ [(13, nI (cnt - l.length)), (14, nI c)]) (au α [(19, S)]) tx tl; rw [← ea], fun _ => ⟨rfl, rfl⟩⟩
    · skip
      have h8 := cI_leF (a := 160) (b := i) rfl rfl (by omega) (by omega) h8
      show aw_W _ _ _ _ (9, [some (.ref 19), some (.int (nI o)), some (.int 1), some (.int (nI i))], []) (ae_rd (au σ [(13, nI a), (14, nI c)]) (au α [(19, S)]) tx tl)
      refine aw_go 2 rfl ⟨trivial, trivial, trivial⟩ ?_
      refine aw_br (c := (1 : Int32) = 0) (fun h10 => ?_) (fun h10 => ?_)
      · skip
        have h10 := cI_eqT (a := 1) (b := 0) rfl rfl (by omega) (by omega) h10
        show aw_W _ _ _ _ (29, [some (.ref 19), some (.int (nI o)), some (.int 1), some (.int (nI i))], []) (ae_rd (au σ [(13, nI a), (14, nI c)]) (au α [(19, S)]) tx tl)
        exact absurd h10 (by decide)
      · skip
        have h10 := cI_eqF (a := 1) (b := 0) rfl rfl (by omega) (by omega) h10
        show aw_W _ _ _ _ (11, [some (.ref 19), some (.int (nI o)), some (.int 1), some (.int (nI i))], []) (ae_rd (au σ [(13, nI a), (14, nI c)]) (au α [(19, S)]) tx tl)
        refine aw_go 2 rfl ⟨trivial, trivial, trivial⟩ ?_
        refine aw_callE rfl rfl (ev_pass_n (y := (-8)) (a := a) (cnt := cnt) rfl hcn (by omega) hc161 t1 e) ?_
        show aw_W _ _ _ _ (14, [some (.ref 19), some (.int (nI o)), some (.int 1), some (.int (nI i))], [.int 0]) (ae_rd (au σ [(13, nI a), (14, nI c)]) (au α [(19, S)]) tx tl)
        refine aw_go 1 rfl ⟨trivial, trivial⟩ ?_
        refine aw_br (c := (0 : Int32) = 0) (fun h14 => ?_) (fun h14 => ?_)
        · skip
          have h14 := cI_eqT (a := 0) (b := 0) rfl rfl (by omega) (by omega) h14
          show aw_W _ _ _ _ (29, [some (.ref 19), some (.int (nI o)), some (.int 1), some (.int (nI i))], []) (ae_rd (au σ [(13, nI a), (14, nI c)]) (au α [(19, S)]) tx tl)
          refine aw_go 1 rfl ⟨trivial, trivial⟩ ?_
          refine aw_ret rfl rfl (by first | exact Or.inl rfl | exact Or.inr rfl | exact bI_b _) ?_
          exact ⟨nI c, S, rfl, by show _ = ae_rd (au σ [(13, nI (cnt - l.length)), (14, nI c)]) (au α [(19, S)]) tx tl; rw [← ea], fun _ => ⟨rfl, rfl⟩⟩
        · skip
          have h14 := cI_eqF (a := 0) (b := 0) rfl rfl (by omega) (by omega) h14
          show aw_W _ _ _ _ (15, [some (.ref 19), some (.int (nI o)), some (.int 1), some (.int (nI i))], []) (ae_rd (au σ [(13, nI a), (14, nI c)]) (au α [(19, S)]) tx tl)
          exact absurd h14 (by decide)
theorem pr_term {cnt m : Nat} (hcn : (σ 12) = nI cnt) (hc161 : cnt ≤ 161) (ih9 : prX P σ α tx tl cnt m 9) (il : prL P σ α tx tl cnt m 8 7 cd_Reader_term) : prX P σ α tx tl cnt (m + 1) 7 := by
  intro o l R a c S D hpp ho hT hg hl hca hD
  obtain ⟨D, rfl⟩ : ∃ E, D = E + 3 := ⟨D - 3, by simp only [rK] at hD; omega⟩
  rw [pp] at hpp
  refine aw_ev (cd := cd_Reader_term) rfl rfl rfl ?_
  rcases bP_some hpp with ⟨l1, s1, h1, hpp⟩ | ⟨l1, s1, h1, rfl⟩
  · have hp := (pp_pH _ _ _ _ _ _ _ h1).1
    have hp1 := hp.1
    obtain ⟨k1, k2⟩ := tk_rest (cnt := cnt) hT (by omega) hp
    obtain ⟨R1, h2, hq⟩ := prQ_sq (σ := σ) (α := α) (tx := tx) (tl := tl) (cnt := cnt) (c := c) (S := S) hpp
    show aw_W _ _ _ _ (0, [some (.ref 19), some (.int (nI o)), none, none], []) (ae_rd (au σ [(13, nI a), (14, nI c)]) (au α [(19, S)]) tx tl)
    refine aw_go 2 rfl ⟨trivial, trivial, trivial⟩ ?_
    refine aw_call rfl rfl (ih9 o l (true, l1, s1) a c S _ h1  ho hT hg hl hca (by simp only [rK] at hD ⊢; omega)) ?_
    rintro _ _ ⟨c_2, S_2, rfl, rfl, hb_2⟩
    show aw_W _ _ _ _ (3, [some (.ref 19), some (.int (nI o)), none, none], [.int 1]) (ae_rd (au σ [(13, nI (cnt - l1.length)), (14, c_2)]) (au α [(19, S_2)]) tx tl)
    obtain ⟨rfl, rfl⟩ := hb_2 rfl
    refine aw_go 3 rfl ⟨trivial, trivial, trivial, trivial⟩ ?_
    exact aw_mono (il o l1 R1 (cnt - l1.length) (c + s1.length) 0 (putL S c s1) _ h2 ho k1 (hp.2.1 hg) k2 (by omega) (Nat.zero_le _) (by simp only [rK] at hD ⊢; omega)) hq
  · show aw_W _ _ _ _ (0, [some (.ref 19), some (.int (nI o)), none, none], []) (ae_rd (au σ [(13, nI a), (14, nI c)]) (au α [(19, S)]) tx tl)
    refine aw_go 2 rfl ⟨trivial, trivial, trivial⟩ ?_
    refine aw_call rfl rfl (ih9 o l (false, l1, s1) a c S _ h1  ho hT hg hl hca (by simp only [rK] at hD ⊢; omega)) ?_
    rintro _ _ ⟨c_2, S_2, rfl, rfl, hb_2⟩
    show aw_W _ _ _ _ (3, [some (.ref 19), some (.int (nI o)), none, none], [.int 0]) (ae_rd (au σ [(13, nI (cnt - l1.length)), (14, c_2)]) (au α [(19, S_2)]) tx tl)
    refine aw_go 3 rfl ⟨trivial, trivial, trivial, trivial⟩ ?_
    exact z_term (i := 0) (by omega) ⟨_, _, rfl, rfl, fun q => by cases q⟩
theorem pl_sum {cnt m : Nat} (hcn : (σ 12) = nI cnt) (hc161 : cnt ≤ 161) (ih7 : prX P σ α tx tl cnt m 7) (il : prM P σ α tx tl cnt m) : prM P σ α tx tl cnt (m + 1) := by
  intro o l R a c i S D hpp ho hT hg hl hca hia hD
  obtain ⟨D, rfl⟩ : ∃ E, D = E + 2 := ⟨D - 2, by simp only [rK] at hD; omega⟩
  obtain ⟨t1, t2, t3⟩ := tk_hd hT hg
  have hl1 := gL_pos hg
  rw [pp] at hpp
  by_cases e : hdT l = -6 ∨ hdT l = -7
  · rw [if_pos e] at hpp
    have e17 : ¬ hdT l = -17 := by rcases e with e | e <;> (rw [e]; decide)
    have ht := pH_tail (l := l) e17
    have ht1 := ht.1
    have htl : l.tail.length = l.length - 1 := List.length_tail
    have hl2 : 2 ≤ l.length := Nat.lt_of_not_le (fun q => absurd (gL_one hg q) e17)
    rcases bP_some hpp with ⟨l1, s1, h1, hpp⟩ | ⟨l1, s1, h1, rfl⟩
    · have hp := (pp_pH _ _ _ _ _ _ _ h1).1
      have hp1 := hp.1
      have hg1 := hp.2.1 (ht.2.1 hg)
      have hl3 := gL_pos hg1
      obtain ⟨k1, k2⟩ := tk_rest (cnt := cnt) t3 (by omega) hp
      obtain ⟨u1, u2, u3⟩ := tk_hd k1 hg1
      obtain ⟨R1, h2, hq⟩ := prQ_lp (σ := σ) (α := α) (tx := tx) (tl := tl) (cnt := cnt) (c := c) (S := S) hpp
      refine aw_go 3 rfl ⟨trivial, trivial, trivial, trivial⟩ ?_
      refine aw_br (c := (160 : Int32) ≤ (nI i)) (fun h11 => ?_) (fun h11 => ?_)
      · skip
        have h11 := cI_leT (a := 160) (b := i) rfl rfl (by omega) (by omega) h11
        show aw_W _ _ _ _ (41, [some (.ref 19), some (.int (nI o)), some (.int 1), some (.int (hdT l)), some (.int (nI i))], []) (ae_rd (au σ [(13, nI a), (14, nI c)]) (au α [(19, S)]) tx tl)
        exact absurd h11 (by omega)
      · skip
        have h11 := cI_leF (a := 160) (b := i) rfl rfl (by omega) (by omega) h11
        show aw_W _ _ _ _ (12, [some (.ref 19), some (.int (nI o)), some (.int 1), some (.int (hdT l)), some (.int (nI i))], []) (ae_rd (au σ [(13, nI a), (14, nI c)]) (au α [(19, S)]) tx tl)
        refine aw_go 2 rfl ⟨trivial, trivial, trivial⟩ ?_
        refine aw_br (c := (1 : Int32) = 0) (fun h13 => ?_) (fun h13 => ?_)
        · skip
          have h13 := cI_eqT (a := 1) (b := 0) rfl rfl (by omega) (by omega) h13
          show aw_W _ _ _ _ (41, [some (.ref 19), some (.int (nI o)), some (.int 1), some (.int (hdT l)), some (.int (nI i))], []) (ae_rd (au σ [(13, nI a), (14, nI c)]) (au α [(19, S)]) tx tl)
          exact absurd h13 (by decide)
        · skip
          have h13 := cI_eqF (a := 1) (b := 0) rfl rfl (by omega) (by omega) h13
          show aw_W _ _ _ _ (14, [some (.ref 19), some (.int (nI o)), some (.int 1), some (.int (hdT l)), some (.int (nI i))], []) (ae_rd (au σ [(13, nI a), (14, nI c)]) (au α [(19, S)]) tx tl)
          refine aw_go 3 rfl ⟨trivial, trivial, trivial, trivial⟩ ?_
          refine aw_br (c := (hdT l) = (-6)) (fun h16 => ?_) (fun h16 => ?_)
          · skip
            show aw_W _ _ _ _ (20, [some (.ref 19), some (.int (nI o)), some (.int 1), some (.int (hdT l)), some (.int (nI i))], []) (ae_rd (au σ [(13, nI a), (14, nI c)]) (au α [(19, S)]) tx tl)
            refine aw_go 2 rfl ⟨trivial, trivial, trivial⟩ ?_
            refine aw_call rfl rfl (ev_pass_y (t := (hdT l)) (a := a) (cnt := cnt) rfl hcn (by omega) hc161 t1) ?_
            rintro _ _ ⟨rfl, rfl⟩
            show aw_W _ _ _ _ (23, [some (.ref 19), some (.int (nI o)), some (.int 1), some (.int (hdT l)), some (.int (nI i))], [.int 1]) (ae_rd (au σ [(13, nI (a + 1)), (14, nI c)]) (au α [(19, S)]) tx tl)
            refine aw_go 1 rfl ⟨trivial, trivial⟩ ?_
            refine aw_br (c := (1 : Int32) = 0) (fun h23 => ?_) (fun h23 => ?_)
            · skip
              have h23 := cI_eqT (a := 1) (b := 0) rfl rfl (by omega) (by omega) h23
              show aw_W _ _ _ _ (34, [some (.ref 19), some (.int (nI o)), some (.int 1), some (.int (hdT l)), some (.int (nI i))], []) (ae_rd (au σ [(13, nI (a + 1)), (14, nI c)]) (au α [(19, S)]) tx tl)
              exact absurd h23 (by decide)
            · skip
              have h23 := cI_eqF (a := 1) (b := 0) rfl rfl (by omega) (by omega) h23
              show aw_W _ _ _ _ (24, [some (.ref 19), some (.int (nI o)), some (.int 1), some (.int (hdT l)), some (.int (nI i))], []) (ae_rd (au σ [(13, nI (a + 1)), (14, nI c)]) (au α [(19, S)]) tx tl)
              refine aw_go 2 rfl ⟨trivial, trivial, trivial⟩ ?_
              refine aw_call rfl rfl (ih7 o l.tail (true, l1, s1) (a + 1) c S _ h1  ho t3 (ht.2.1 hg) (by omega) (by omega) (by simp only [rK] at hD ⊢; omega)) ?_
              rintro _ _ ⟨c_26, S_26, rfl, rfl, hb_26⟩
              show aw_W _ _ _ _ (27, [some (.ref 19), some (.int (nI o)), some (.int 1), some (.int (hdT l)), some (.int (nI i))], [.int 1]) (ae_rd (au σ [(13, nI (cnt - l1.length)), (14, c_26)]) (au α [(19, S_26)]) tx tl)
              obtain ⟨rfl, rfl⟩ := hb_26 rfl
              refine aw_go 1 rfl ⟨trivial, trivial⟩ ?_
              refine aw_br (c := (1 : Int32) = 0) (fun h27 => ?_) (fun h27 => ?_)
              · skip
                have h27 := cI_eqT (a := 1) (b := 0) rfl rfl (by omega) (by omega) h27
                show aw_W _ _ _ _ (34, [some (.ref 19), some (.int (nI o)), some (.int 1), some (.int (hdT l)), some (.int (nI i))], []) (ae_rd (au σ [(13, nI (cnt - l1.length)), (14, nI (c + s1.length))]) (au α [(19, putL S c s1)]) tx tl)
                exact absurd h27 (by decide)
              · skip
                have h27 := cI_eqF (a := 1) (b := 0) rfl rfl (by omega) (by omega) h27
                show aw_W _ _ _ _ (28, [some (.ref 19), some (.int (nI o)), some (.int 1), some (.int (hdT l)), some (.int (nI i))], []) (ae_rd (au σ [(13, nI (cnt - l1.length)), (14, nI (c + s1.length))]) (au α [(19, putL S c s1)]) tx tl)
                refine aw_go 2 rfl ⟨trivial, trivial, trivial⟩ ?_
                refine aw_call rfl rfl (ev_Reader_write (x := (hdT l)) rfl (by omega)) ?_
                rintro _ _ ⟨rfl, rfl⟩
                show aw_W _ _ _ _ (31, [some (.ref 19), some (.int (nI o)), some (.int 1), some (.int (hdT l)), some (.int (nI i))], [.int 1]) (ae_rd (au σ [(13, nI (cnt - l1.length)), (14, nI ((c + s1.length) + 1))]) (au α [(19, upd (putL S c s1) (c + s1.length) (hdT l))]) tx tl)
                refine aw_go 1 rfl ⟨trivial, trivial⟩ ?_
                refine aw_br (c := (1 : Int32) = 0) (fun h31 => ?_) (fun h31 => ?_)
                · skip
                  have h31 := cI_eqT (a := 1) (b := 0) rfl rfl (by omega) (by omega) h31
                  show aw_W _ _ _ _ (34, [some (.ref 19), some (.int (nI o)), some (.int 1), some (.int (hdT l)), some (.int (nI i))], []) (ae_rd (au σ [(13, nI (cnt - l1.length)), (14, nI ((c + s1.length) + 1))]) (au α [(19, upd (putL S c s1) (c + s1.length) (hdT l))]) tx tl)
                  exact absurd h31 (by decide)
                · skip
                  have h31 := cI_eqF (a := 1) (b := 0) rfl rfl (by omega) (by omega) h31
                  show aw_W _ _ _ _ (32, [some (.ref 19), some (.int (nI o)), some (.int 1), some (.int (hdT l)), some (.int (nI i))], []) (ae_rd (au σ [(13, nI (cnt - l1.length)), (14, nI ((c + s1.length) + 1))]) (au α [(19, upd (putL S c s1) (c + s1.length) (hdT l))]) tx tl)
                  refine aw_go 4 rfl ⟨trivial, trivial, trivial, trivial, trivial⟩ ?_
                  refine aw_callE rfl rfl (ev_Reader_token  (a := cnt - l1.length) (cnt := cnt) rfl hcn (by omega) hc161 u1) ?_
                  show aw_W _ _ _ _ (38, [some (.ref 19), some (.int (nI o)), some (.int 1), some (.int (hdT l)), some (.int (nI i))], [.int (hdT l1)]) (ae_rd (au σ [(13, nI (cnt - l1.length)), (14, nI ((c + s1.length) + 1))]) (au α [(19, upd (putL S c s1) (c + s1.length) (hdT l))]) tx tl)
                  refine aw_go 3 rfl ⟨trivial, trivial, trivial, trivial⟩ ?_
                  show aw_W _ _ _ _ (9, [some (.ref 19), some (.int (nI o)), some (.int 1), some (.int (hdT l1)), some (.int ((nI i) + 1))], []) (ae_rd (au σ [(13, nI (cnt - l1.length)), (14, nI ((c + s1.length) + 1))]) (au α [(19, upd (putL S c s1) (c + s1.length) (hdT l))]) tx tl)
                  rw [show (nI i) + 1 = nI (i + 1) from (cI_add (a := i) (b := 1) rfl rfl)]
                  exact aw_mono (il o l1 R1 (cnt - l1.length) (c + s1.length + 1) (i + 1) (upd (putL S c s1) (c + s1.length) (hdT l)) _ h2 ho k1 hg1 k2 (by omega) (by omega) hD) hq
          · skip
            show aw_W _ _ _ _ (17, [some (.ref 19), some (.int (nI o)), some (.int 1), some (.int (hdT l)), some (.int (nI i))], []) (ae_rd (au σ [(13, nI a), (14, nI c)]) (au α [(19, S)]) tx tl)
            refine aw_go 3 rfl ⟨trivial, trivial, trivial, trivial⟩ ?_
            refine aw_br (c := ¬ (hdT l) = (-7)) (fun h19 => ?_) (fun h19 => ?_)
            · skip
              show aw_W _ _ _ _ (41, [some (.ref 19), some (.int (nI o)), some (.int 1), some (.int (hdT l)), some (.int (nI i))], []) (ae_rd (au σ [(13, nI a), (14, nI c)]) (au α [(19, S)]) tx tl)
              exact absurd e (fun q => q.elim h16 h19)
            · skip
              have h19 := Classical.not_not.mp h19
              show aw_W _ _ _ _ (20, [some (.ref 19), some (.int (nI o)), some (.int 1), some (.int (hdT l)), some (.int (nI i))], []) (ae_rd (au σ [(13, nI a), (14, nI c)]) (au α [(19, S)]) tx tl)
              refine aw_go 2 rfl ⟨trivial, trivial, trivial⟩ ?_
              refine aw_call rfl rfl (ev_pass_y (t := (hdT l)) (a := a) (cnt := cnt) rfl hcn (by omega) hc161 t1) ?_
              rintro _ _ ⟨rfl, rfl⟩
              show aw_W _ _ _ _ (23, [some (.ref 19), some (.int (nI o)), some (.int 1), some (.int (hdT l)), some (.int (nI i))], [.int 1]) (ae_rd (au σ [(13, nI (a + 1)), (14, nI c)]) (au α [(19, S)]) tx tl)
              refine aw_go 1 rfl ⟨trivial, trivial⟩ ?_
              refine aw_br (c := (1 : Int32) = 0) (fun h23 => ?_) (fun h23 => ?_)
              · skip
                have h23 := cI_eqT (a := 1) (b := 0) rfl rfl (by omega) (by omega) h23
                show aw_W _ _ _ _ (34, [some (.ref 19), some (.int (nI o)), some (.int 1), some (.int (hdT l)), some (.int (nI i))], []) (ae_rd (au σ [(13, nI (a + 1)), (14, nI c)]) (au α [(19, S)]) tx tl)
                exact absurd h23 (by decide)
              · skip
                have h23 := cI_eqF (a := 1) (b := 0) rfl rfl (by omega) (by omega) h23
                show aw_W _ _ _ _ (24, [some (.ref 19), some (.int (nI o)), some (.int 1), some (.int (hdT l)), some (.int (nI i))], []) (ae_rd (au σ [(13, nI (a + 1)), (14, nI c)]) (au α [(19, S)]) tx tl)
                refine aw_go 2 rfl ⟨trivial, trivial, trivial⟩ ?_
                refine aw_call rfl rfl (ih7 o l.tail (true, l1, s1) (a + 1) c S _ h1  ho t3 (ht.2.1 hg) (by omega) (by omega) (by simp only [rK] at hD ⊢; omega)) ?_
                rintro _ _ ⟨c_26, S_26, rfl, rfl, hb_26⟩
                show aw_W _ _ _ _ (27, [some (.ref 19), some (.int (nI o)), some (.int 1), some (.int (hdT l)), some (.int (nI i))], [.int 1]) (ae_rd (au σ [(13, nI (cnt - l1.length)), (14, c_26)]) (au α [(19, S_26)]) tx tl)
                obtain ⟨rfl, rfl⟩ := hb_26 rfl
                refine aw_go 1 rfl ⟨trivial, trivial⟩ ?_
                refine aw_br (c := (1 : Int32) = 0) (fun h27 => ?_) (fun h27 => ?_)
                · skip
                  have h27 := cI_eqT (a := 1) (b := 0) rfl rfl (by omega) (by omega) h27
                  show aw_W _ _ _ _ (34, [some (.ref 19), some (.int (nI o)), some (.int 1), some (.int (hdT l)), some (.int (nI i))], []) (ae_rd (au σ [(13, nI (cnt - l1.length)), (14, nI (c + s1.length))]) (au α [(19, putL S c s1)]) tx tl)
                  exact absurd h27 (by decide)
                · skip
                  have h27 := cI_eqF (a := 1) (b := 0) rfl rfl (by omega) (by omega) h27
                  show aw_W _ _ _ _ (28, [some (.ref 19), some (.int (nI o)), some (.int 1), some (.int (hdT l)), some (.int (nI i))], []) (ae_rd (au σ [(13, nI (cnt - l1.length)), (14, nI (c + s1.length))]) (au α [(19, putL S c s1)]) tx tl)
                  refine aw_go 2 rfl ⟨trivial, trivial, trivial⟩ ?_
                  refine aw_call rfl rfl (ev_Reader_write (x := (hdT l)) rfl (by omega)) ?_
                  rintro _ _ ⟨rfl, rfl⟩
                  show aw_W _ _ _ _ (31, [some (.ref 19), some (.int (nI o)), some (.int 1), some (.int (hdT l)), some (.int (nI i))], [.int 1]) (ae_rd (au σ [(13, nI (cnt - l1.length)), (14, nI ((c + s1.length) + 1))]) (au α [(19, upd (putL S c s1) (c + s1.length) (hdT l))]) tx tl)
                  refine aw_go 1 rfl ⟨trivial, trivial⟩ ?_
                  refine aw_br (c := (1 : Int32) = 0) (fun h31 => ?_) (fun h31 => ?_)
                  · skip
                    have h31 := cI_eqT (a := 1) (b := 0) rfl rfl (by omega) (by omega) h31
                    show aw_W _ _ _ _ (34, [some (.ref 19), some (.int (nI o)), some (.int 1), some (.int (hdT l)), some (.int (nI i))], []) (ae_rd (au σ [(13, nI (cnt - l1.length)), (14, nI ((c + s1.length) + 1))]) (au α [(19, upd (putL S c s1) (c + s1.length) (hdT l))]) tx tl)
                    exact absurd h31 (by decide)
                  · skip
                    have h31 := cI_eqF (a := 1) (b := 0) rfl rfl (by omega) (by omega) h31
                    show aw_W _ _ _ _ (32, [some (.ref 19), some (.int (nI o)), some (.int 1), some (.int (hdT l)), some (.int (nI i))], []) (ae_rd (au σ [(13, nI (cnt - l1.length)), (14, nI ((c + s1.length) + 1))]) (au α [(19, upd (putL S c s1) (c + s1.length) (hdT l))]) tx tl)
                    refine aw_go 4 rfl ⟨trivial, trivial, trivial, trivial, trivial⟩ ?_
                    refine aw_callE rfl rfl (ev_Reader_token  (a := cnt - l1.length) (cnt := cnt) rfl hcn (by omega) hc161 u1) ?_
                    show aw_W _ _ _ _ (38, [some (.ref 19), some (.int (nI o)), some (.int 1), some (.int (hdT l)), some (.int (nI i))], [.int (hdT l1)]) (ae_rd (au σ [(13, nI (cnt - l1.length)), (14, nI ((c + s1.length) + 1))]) (au α [(19, upd (putL S c s1) (c + s1.length) (hdT l))]) tx tl)
                    refine aw_go 3 rfl ⟨trivial, trivial, trivial, trivial⟩ ?_
                    show aw_W _ _ _ _ (9, [some (.ref 19), some (.int (nI o)), some (.int 1), some (.int (hdT l1)), some (.int ((nI i) + 1))], []) (ae_rd (au σ [(13, nI (cnt - l1.length)), (14, nI ((c + s1.length) + 1))]) (au α [(19, upd (putL S c s1) (c + s1.length) (hdT l))]) tx tl)
                    rw [show (nI i) + 1 = nI (i + 1) from (cI_add (a := i) (b := 1) rfl rfl)]
                    exact aw_mono (il o l1 R1 (cnt - l1.length) (c + s1.length + 1) (i + 1) (upd (putL S c s1) (c + s1.length) (hdT l)) _ h2 ho k1 hg1 k2 (by omega) (by omega) hD) hq
    · have hp := (pp_pH _ _ _ _ _ _ _ h1).1
      have hp1 := hp.1
      have hg1 := hp.2.1 (ht.2.1 hg)
      have hl3 := gL_pos hg1
      obtain ⟨k1, k2⟩ := tk_rest (cnt := cnt) t3 (by omega) hp
      obtain ⟨u1, u2, u3⟩ := tk_hd k1 hg1
      refine aw_go 3 rfl ⟨trivial, trivial, trivial, trivial⟩ ?_
      refine aw_br (c := (160 : Int32) ≤ (nI i)) (fun h11 => ?_) (fun h11 => ?_)
      · skip
        have h11 := cI_leT (a := 160) (b := i) rfl rfl (by omega) (by omega) h11
        show aw_W _ _ _ _ (41, [some (.ref 19), some (.int (nI o)), some (.int 1), some (.int (hdT l)), some (.int (nI i))], []) (ae_rd (au σ [(13, nI a), (14, nI c)]) (au α [(19, S)]) tx tl)
        exact absurd h11 (by omega)
      · skip
        have h11 := cI_leF (a := 160) (b := i) rfl rfl (by omega) (by omega) h11
        show aw_W _ _ _ _ (12, [some (.ref 19), some (.int (nI o)), some (.int 1), some (.int (hdT l)), some (.int (nI i))], []) (ae_rd (au σ [(13, nI a), (14, nI c)]) (au α [(19, S)]) tx tl)
        refine aw_go 2 rfl ⟨trivial, trivial, trivial⟩ ?_
        refine aw_br (c := (1 : Int32) = 0) (fun h13 => ?_) (fun h13 => ?_)
        · skip
          have h13 := cI_eqT (a := 1) (b := 0) rfl rfl (by omega) (by omega) h13
          show aw_W _ _ _ _ (41, [some (.ref 19), some (.int (nI o)), some (.int 1), some (.int (hdT l)), some (.int (nI i))], []) (ae_rd (au σ [(13, nI a), (14, nI c)]) (au α [(19, S)]) tx tl)
          exact absurd h13 (by decide)
        · skip
          have h13 := cI_eqF (a := 1) (b := 0) rfl rfl (by omega) (by omega) h13
          show aw_W _ _ _ _ (14, [some (.ref 19), some (.int (nI o)), some (.int 1), some (.int (hdT l)), some (.int (nI i))], []) (ae_rd (au σ [(13, nI a), (14, nI c)]) (au α [(19, S)]) tx tl)
          refine aw_go 3 rfl ⟨trivial, trivial, trivial, trivial⟩ ?_
          refine aw_br (c := (hdT l) = (-6)) (fun h16 => ?_) (fun h16 => ?_)
          · skip
            show aw_W _ _ _ _ (20, [some (.ref 19), some (.int (nI o)), some (.int 1), some (.int (hdT l)), some (.int (nI i))], []) (ae_rd (au σ [(13, nI a), (14, nI c)]) (au α [(19, S)]) tx tl)
            refine aw_go 2 rfl ⟨trivial, trivial, trivial⟩ ?_
            refine aw_call rfl rfl (ev_pass_y (t := (hdT l)) (a := a) (cnt := cnt) rfl hcn (by omega) hc161 t1) ?_
            rintro _ _ ⟨rfl, rfl⟩
            show aw_W _ _ _ _ (23, [some (.ref 19), some (.int (nI o)), some (.int 1), some (.int (hdT l)), some (.int (nI i))], [.int 1]) (ae_rd (au σ [(13, nI (a + 1)), (14, nI c)]) (au α [(19, S)]) tx tl)
            refine aw_go 1 rfl ⟨trivial, trivial⟩ ?_
            refine aw_br (c := (1 : Int32) = 0) (fun h23 => ?_) (fun h23 => ?_)
            · skip
              have h23 := cI_eqT (a := 1) (b := 0) rfl rfl (by omega) (by omega) h23
              show aw_W _ _ _ _ (34, [some (.ref 19), some (.int (nI o)), some (.int 1), some (.int (hdT l)), some (.int (nI i))], []) (ae_rd (au σ [(13, nI (a + 1)), (14, nI c)]) (au α [(19, S)]) tx tl)
              exact absurd h23 (by decide)
            · skip
              have h23 := cI_eqF (a := 1) (b := 0) rfl rfl (by omega) (by omega) h23
              show aw_W _ _ _ _ (24, [some (.ref 19), some (.int (nI o)), some (.int 1), some (.int (hdT l)), some (.int (nI i))], []) (ae_rd (au σ [(13, nI (a + 1)), (14, nI c)]) (au α [(19, S)]) tx tl)
              refine aw_go 2 rfl ⟨trivial, trivial, trivial⟩ ?_
              refine aw_call rfl rfl (ih7 o l.tail (false, l1, s1) (a + 1) c S _ h1  ho t3 (ht.2.1 hg) (by omega) (by omega) (by simp only [rK] at hD ⊢; omega)) ?_
              rintro _ _ ⟨c_26, S_26, rfl, rfl, hb_26⟩
              show aw_W _ _ _ _ (27, [some (.ref 19), some (.int (nI o)), some (.int 1), some (.int (hdT l)), some (.int (nI i))], [.int 0]) (ae_rd (au σ [(13, nI (cnt - l1.length)), (14, c_26)]) (au α [(19, S_26)]) tx tl)
              refine aw_go 1 rfl ⟨trivial, trivial⟩ ?_
              refine aw_br (c := (0 : Int32) = 0) (fun h27 => ?_) (fun h27 => ?_)
              · skip
                have h27 := cI_eqT (a := 0) (b := 0) rfl rfl (by omega) (by omega) h27
                show aw_W _ _ _ _ (34, [some (.ref 19), some (.int (nI o)), some (.int 1), some (.int (hdT l)), some (.int (nI i))], []) (ae_rd (au σ [(13, nI (cnt - l1.length)), (14, c_26)]) (au α [(19, S_26)]) tx tl)
                refine aw_go 3 rfl ⟨trivial, trivial, trivial, trivial⟩ ?_
                refine aw_callE rfl rfl (ev_Reader_token  (a := cnt - l1.length) (cnt := cnt) rfl hcn (by omega) hc161 u1) ?_
                show aw_W _ _ _ _ (38, [some (.ref 19), some (.int (nI o)), some (.int 0), some (.int (hdT l)), some (.int (nI i))], [.int (hdT l1)]) (ae_rd (au σ [(13, nI (cnt - l1.length)), (14, c_26)]) (au α [(19, S_26)]) tx tl)
                refine aw_go 3 rfl ⟨trivial, trivial, trivial, trivial⟩ ?_
                show aw_W _ _ _ _ (9, [some (.ref 19), some (.int (nI o)), some (.int 0), some (.int (hdT l1)), some (.int ((nI i) + 1))], []) (ae_rd (au σ [(13, nI (cnt - l1.length)), (14, c_26)]) (au α [(19, S_26)]) tx tl)
                rw [show (nI i) + 1 = nI (i + 1) from (cI_add (a := i) (b := 1) rfl rfl)]
                exact z_sum (by omega) ⟨_, _, rfl, rfl, fun q => by cases q⟩
              · skip
                have h27 := cI_eqF (a := 0) (b := 0) rfl rfl (by omega) (by omega) h27
                show aw_W _ _ _ _ (28, [some (.ref 19), some (.int (nI o)), some (.int 1), some (.int (hdT l)), some (.int (nI i))], []) (ae_rd (au σ [(13, nI (cnt - l1.length)), (14, c_26)]) (au α [(19, S_26)]) tx tl)
                exact absurd h27 (by decide)
          · skip
            show aw_W _ _ _ _ (17, [some (.ref 19), some (.int (nI o)), some (.int 1), some (.int (hdT l)), some (.int (nI i))], []) (ae_rd (au σ [(13, nI a), (14, nI c)]) (au α [(19, S)]) tx tl)
            refine aw_go 3 rfl ⟨trivial, trivial, trivial, trivial⟩ ?_
            refine aw_br (c := ¬ (hdT l) = (-7)) (fun h19 => ?_) (fun h19 => ?_)
            · skip
              show aw_W _ _ _ _ (41, [some (.ref 19), some (.int (nI o)), some (.int 1), some (.int (hdT l)), some (.int (nI i))], []) (ae_rd (au σ [(13, nI a), (14, nI c)]) (au α [(19, S)]) tx tl)
              exact absurd e (fun q => q.elim h16 h19)
            · skip
              have h19 := Classical.not_not.mp h19
              show aw_W _ _ _ _ (20, [some (.ref 19), some (.int (nI o)), some (.int 1), some (.int (hdT l)), some (.int (nI i))], []) (ae_rd (au σ [(13, nI a), (14, nI c)]) (au α [(19, S)]) tx tl)
              refine aw_go 2 rfl ⟨trivial, trivial, trivial⟩ ?_
              refine aw_call rfl rfl (ev_pass_y (t := (hdT l)) (a := a) (cnt := cnt) rfl hcn (by omega) hc161 t1) ?_
              rintro _ _ ⟨rfl, rfl⟩
              show aw_W _ _ _ _ (23, [some (.ref 19), some (.int (nI o)), some (.int 1), some (.int (hdT l)), some (.int (nI i))], [.int 1]) (ae_rd (au σ [(13, nI (a + 1)), (14, nI c)]) (au α [(19, S)]) tx tl)
              refine aw_go 1 rfl ⟨trivial, trivial⟩ ?_
              refine aw_br (c := (1 : Int32) = 0) (fun h23 => ?_) (fun h23 => ?_)
              · skip
                have h23 := cI_eqT (a := 1) (b := 0) rfl rfl (by omega) (by omega) h23
                show aw_W _ _ _ _ (34, [some (.ref 19), some (.int (nI o)), some (.int 1), some (.int (hdT l)), some (.int (nI i))], []) (ae_rd (au σ [(13, nI (a + 1)), (14, nI c)]) (au α [(19, S)]) tx tl)
                exact absurd h23 (by decide)
              · skip
                have h23 := cI_eqF (a := 1) (b := 0) rfl rfl (by omega) (by omega) h23
                show aw_W _ _ _ _ (24, [some (.ref 19), some (.int (nI o)), some (.int 1), some (.int (hdT l)), some (.int (nI i))], []) (ae_rd (au σ [(13, nI (a + 1)), (14, nI c)]) (au α [(19, S)]) tx tl)
                refine aw_go 2 rfl ⟨trivial, trivial, trivial⟩ ?_
                refine aw_call rfl rfl (ih7 o l.tail (false, l1, s1) (a + 1) c S _ h1  ho t3 (ht.2.1 hg) (by omega) (by omega) (by simp only [rK] at hD ⊢; omega)) ?_
                rintro _ _ ⟨c_26, S_26, rfl, rfl, hb_26⟩
                show aw_W _ _ _ _ (27, [some (.ref 19), some (.int (nI o)), some (.int 1), some (.int (hdT l)), some (.int (nI i))], [.int 0]) (ae_rd (au σ [(13, nI (cnt - l1.length)), (14, c_26)]) (au α [(19, S_26)]) tx tl)
                refine aw_go 1 rfl ⟨trivial, trivial⟩ ?_
                refine aw_br (c := (0 : Int32) = 0) (fun h27 => ?_) (fun h27 => ?_)
                · skip
                  have h27 := cI_eqT (a := 0) (b := 0) rfl rfl (by omega) (by omega) h27
                  show aw_W _ _ _ _ (34, [some (.ref 19), some (.int (nI o)), some (.int 1), some (.int (hdT l)), some (.int (nI i))], []) (ae_rd (au σ [(13, nI (cnt - l1.length)), (14, c_26)]) (au α [(19, S_26)]) tx tl)
                  refine aw_go 3 rfl ⟨trivial, trivial, trivial, trivial⟩ ?_
                  refine aw_callE rfl rfl (ev_Reader_token  (a := cnt - l1.length) (cnt := cnt) rfl hcn (by omega) hc161 u1) ?_
                  show aw_W _ _ _ _ (38, [some (.ref 19), some (.int (nI o)), some (.int 0), some (.int (hdT l)), some (.int (nI i))], [.int (hdT l1)]) (ae_rd (au σ [(13, nI (cnt - l1.length)), (14, c_26)]) (au α [(19, S_26)]) tx tl)
                  refine aw_go 3 rfl ⟨trivial, trivial, trivial, trivial⟩ ?_
                  show aw_W _ _ _ _ (9, [some (.ref 19), some (.int (nI o)), some (.int 0), some (.int (hdT l1)), some (.int ((nI i) + 1))], []) (ae_rd (au σ [(13, nI (cnt - l1.length)), (14, c_26)]) (au α [(19, S_26)]) tx tl)
                  rw [show (nI i) + 1 = nI (i + 1) from (cI_add (a := i) (b := 1) rfl rfl)]
                  exact z_sum (by omega) ⟨_, _, rfl, rfl, fun q => by cases q⟩
                · skip
                  have h27 := cI_eqF (a := 0) (b := 0) rfl rfl (by omega) (by omega) h27
                  show aw_W _ _ _ _ (28, [some (.ref 19), some (.int (nI o)), some (.int 1), some (.int (hdT l)), some (.int (nI i))], []) (ae_rd (au σ [(13, nI (cnt - l1.length)), (14, c_26)]) (au α [(19, S_26)]) tx tl)
                  exact absurd h27 (by decide)
  · rw [if_neg e] at hpp
    cases hpp
    have ea : a = cnt - l.length := by omega
    refine aw_go 3 rfl ⟨trivial, trivial, trivial, trivial⟩ ?_
    refine aw_br (c := (160 : Int32) ≤ (nI i)) (fun h11 => ?_) (fun h11 => ?_)
    · skip
      have h11 := cI_leT (a := 160) (b := i) rfl rfl (by omega) (by omega) h11
      show aw_W _ _ _ _ (41, [some (.ref 19), some (.int (nI o)), some (.int 1), some (.int (hdT l)), some (.int (nI i))], []) (ae_rd (au σ [(13, nI a), (14, nI c)]) (au α [(19, S)]) tx tl)
      refine aw_go 1 rfl ⟨trivial, trivial⟩ ?_
      refine aw_ret rfl rfl (by first | exact Or.inl rfl | exact Or.inr rfl | exact bI_b _) ?_
      exact ⟨nI c, S, rfl, by show _ = ae_rd (au σ [(13, nI (cnt - l.length)), (14, nI c)]) (au α [(19, S)]) tx tl; rw [← ea], fun _ => ⟨rfl, rfl⟩⟩
    · skip
      have h11 := cI_leF (a := 160) (b := i) rfl rfl (by omega) (by omega) h11
      show aw_W _ _ _ _ (12, [some (.ref 19), some (.int (nI o)), some (.int 1), some (.int (hdT l)), some (.int (nI i))], []) (ae_rd (au σ [(13, nI a), (14, nI c)]) (au α [(19, S)]) tx tl)
      refine aw_go 2 rfl ⟨trivial, trivial, trivial⟩ ?_
      refine aw_br (c := (1 : Int32) = 0) (fun h13 => ?_) (fun h13 => ?_)
      · skip
        have h13 := cI_eqT (a := 1) (b := 0) rfl rfl (by omega) (by omega) h13
        show aw_W _ _ _ _ (41, [some (.ref 19), some (.int (nI o)), some (.int 1), some (.int (hdT l)), some (.int (nI i))], []) (ae_rd (au σ [(13, nI a), (14, nI c)]) (au α [(19, S)]) tx tl)
        exact absurd h13 (by decide)
      · skip
        have h13 := cI_eqF (a := 1) (b := 0) rfl rfl (by omega) (by omega) h13
        show aw_W _ _ _ _ (14, [some (.ref 19), some (.int (nI o)), some (.int 1), some (.int (hdT l)), some (.int (nI i))], []) (ae_rd (au σ [(13, nI a), (14, nI c)]) (au α [(19, S)]) tx tl)
        refine aw_go 3 rfl ⟨trivial, trivial, trivial, trivial⟩ ?_
        refine aw_br (c := (hdT l) = (-6)) (fun h16 => ?_) (fun h16 => ?_)
        · skip
          show aw_W _ _ _ _ (20, [some (.ref 19), some (.int (nI o)), some (.int 1), some (.int (hdT l)), some (.int (nI i))], []) (ae_rd (au σ [(13, nI a), (14, nI c)]) (au α [(19, S)]) tx tl)
          exact absurd (Or.inl h16) e
        · skip
          show aw_W _ _ _ _ (17, [some (.ref 19), some (.int (nI o)), some (.int 1), some (.int (hdT l)), some (.int (nI i))], []) (ae_rd (au σ [(13, nI a), (14, nI c)]) (au α [(19, S)]) tx tl)
          refine aw_go 3 rfl ⟨trivial, trivial, trivial, trivial⟩ ?_
          refine aw_br (c := ¬ (hdT l) = (-7)) (fun h19 => ?_) (fun h19 => ?_)
          · skip
            show aw_W _ _ _ _ (41, [some (.ref 19), some (.int (nI o)), some (.int 1), some (.int (hdT l)), some (.int (nI i))], []) (ae_rd (au σ [(13, nI a), (14, nI c)]) (au α [(19, S)]) tx tl)
            refine aw_go 1 rfl ⟨trivial, trivial⟩ ?_
            refine aw_ret rfl rfl (by first | exact Or.inl rfl | exact Or.inr rfl | exact bI_b _) ?_
            exact ⟨nI c, S, rfl, by show _ = ae_rd (au σ [(13, nI (cnt - l.length)), (14, nI c)]) (au α [(19, S)]) tx tl; rw [← ea], fun _ => ⟨rfl, rfl⟩⟩
          · skip
            have h19 := Classical.not_not.mp h19
            show aw_W _ _ _ _ (20, [some (.ref 19), some (.int (nI o)), some (.int 1), some (.int (hdT l)), some (.int (nI i))], []) (ae_rd (au σ [(13, nI a), (14, nI c)]) (au α [(19, S)]) tx tl)
            exact absurd (Or.inr h19) e
theorem pr_sum {cnt m : Nat} (hcn : (σ 12) = nI cnt) (hc161 : cnt ≤ 161) (ih7 : prX P σ α tx tl cnt m 7) (il : prM P σ α tx tl cnt m) : prX P σ α tx tl cnt (m + 1) 5 := by
  intro o l R a c S D hpp ho hT hg hl hca hD
  obtain ⟨D, rfl⟩ : ∃ E, D = E + 3 := ⟨D - 3, by simp only [rK] at hD; omega⟩
  rw [pp] at hpp
  refine aw_ev (cd := cd_Reader_sum) rfl rfl rfl ?_
  rcases bP_some hpp with ⟨l1, s1, h1, hpp⟩ | ⟨l1, s1, h1, rfl⟩
  · have hp := (pp_pH _ _ _ _ _ _ _ h1).1
    have hp1 := hp.1
    have hg1 := hp.2.1 hg
    have hl3 := gL_pos hg1
    obtain ⟨k1, k2⟩ := tk_rest (cnt := cnt) hT (by omega) hp
    obtain ⟨u1, u2, u3⟩ := tk_hd k1 hg1
    obtain ⟨R1, h2, hq⟩ := prQ_sq (σ := σ) (α := α) (tx := tx) (tl := tl) (cnt := cnt) (c := c) (S := S) hpp
    show aw_W _ _ _ _ (0, [some (.ref 19), some (.int (nI o)), none, none, none], []) (ae_rd (au σ [(13, nI a), (14, nI c)]) (au α [(19, S)]) tx tl)
    refine aw_go 2 rfl ⟨trivial, trivial, trivial⟩ ?_
    refine aw_call rfl rfl (ih7 o l (true, l1, s1) a c S _ h1  ho hT hg hl hca (by simp only [rK] at hD ⊢; omega)) ?_
    rintro _ _ ⟨c_2, S_2, rfl, rfl, hb_2⟩
    show aw_W _ _ _ _ (3, [some (.ref 19), some (.int (nI o)), none, none, none], [.int 1]) (ae_rd (au σ [(13, nI (cnt - l1.length)), (14, c_2)]) (au α [(19, S_2)]) tx tl)
    obtain ⟨rfl, rfl⟩ := hb_2 rfl
    refine aw_go 2 rfl ⟨trivial, trivial, trivial⟩ ?_
    refine aw_callE rfl rfl (ev_Reader_token  (a := cnt - l1.length) (cnt := cnt) rfl hcn (by omega) hc161 u1) ?_
    show aw_W _ _ _ _ (6, [some (.ref 19), some (.int (nI o)), some (.int 1), none, none], [.int (hdT l1)]) (ae_rd (au σ [(13, nI (cnt - l1.length)), (14, nI (c + s1.length))]) (au α [(19, putL S c s1)]) tx tl)
    refine aw_go 3 rfl ⟨trivial, trivial, trivial, trivial⟩ ?_
    exact aw_mono (il o l1 R1 (cnt - l1.length) (c + s1.length) 0 (putL S c s1) _ h2 ho k1 hg1 k2 (by omega) (Nat.zero_le _) (by simp only [rK] at hD ⊢; omega)) hq
  · have hp := (pp_pH _ _ _ _ _ _ _ h1).1
    have hp1 := hp.1
    have hg1 := hp.2.1 hg
    have hl3 := gL_pos hg1
    obtain ⟨k1, k2⟩ := tk_rest (cnt := cnt) hT (by omega) hp
    obtain ⟨u1, u2, u3⟩ := tk_hd k1 hg1
    show aw_W _ _ _ _ (0, [some (.ref 19), some (.int (nI o)), none, none, none], []) (ae_rd (au σ [(13, nI a), (14, nI c)]) (au α [(19, S)]) tx tl)
    refine aw_go 2 rfl ⟨trivial, trivial, trivial⟩ ?_
    refine aw_call rfl rfl (ih7 o l (false, l1, s1) a c S _ h1  ho hT hg hl hca (by simp only [rK] at hD ⊢; omega)) ?_
    rintro _ _ ⟨c_2, S_2, rfl, rfl, hb_2⟩
    show aw_W _ _ _ _ (3, [some (.ref 19), some (.int (nI o)), none, none, none], [.int 0]) (ae_rd (au σ [(13, nI (cnt - l1.length)), (14, c_2)]) (au α [(19, S_2)]) tx tl)
    refine aw_go 2 rfl ⟨trivial, trivial, trivial⟩ ?_
    refine aw_callE rfl rfl (ev_Reader_token  (a := cnt - l1.length) (cnt := cnt) rfl hcn (by omega) hc161 u1) ?_
    show aw_W _ _ _ _ (6, [some (.ref 19), some (.int (nI o)), some (.int 0), none, none], [.int (hdT l1)]) (ae_rd (au σ [(13, nI (cnt - l1.length)), (14, c_2)]) (au α [(19, S_2)]) tx tl)
    refine aw_go 3 rfl ⟨trivial, trivial, trivial, trivial⟩ ?_
    exact z_sum (i := 0) (by omega) ⟨_, _, rfl, rfl, fun q => by cases q⟩
theorem pr_unless {cnt m : Nat} (hcn : (σ 12) = nI cnt) (hc161 : cnt ≤ 161) (ih4 : prX P σ α tx tl cnt m 4) (ih5 : prX P σ α tx tl cnt m 5) : prX P σ α tx tl cnt (m + 1) 4 := by
  intro o l R a c S D hpp ho hT hg hl hca hD
  obtain ⟨D, rfl⟩ : ∃ E, D = E + 3 := ⟨D - 3, by simp only [rK] at hD; omega⟩
  obtain ⟨t1, t2, t3⟩ := tk_hd hT hg
  have hl1 := gL_pos hg
  rw [pp] at hpp
  refine aw_ev (cd := cd_Reader_unless) rfl rfl rfl ?_
  by_cases e : hdT l = -3
  · rw [if_pos e] at hpp
    have e17 : ¬ hdT l = -17 := by rw [e]; decide
    have ht := pH_tail (l := l) e17
    have ht1 := ht.1
    have htl : l.tail.length = l.length - 1 := List.length_tail
    have hl2 : 2 ≤ l.length := Nat.lt_of_not_le (fun q => absurd (gL_one hg q) e17)
    by_cases e5 : o < 5
    · rw [if_pos e5] at hpp
      rcases bP_some hpp with ⟨l1, s1, h1, hpp⟩ | ⟨l1, s1, h1, rfl⟩
      · have hp := (pp_pH _ _ _ _ _ _ _ h1).1
        have hp1 := hp.1
        have hl3 := gL_pos (hp.2.1 (ht.2.1 hg))
        cases hpp
        show aw_W _ _ _ _ (0, [some (.ref 19), some (.int (nI o)), none], []) (ae_rd (au σ [(13, nI a), (14, nI c)]) (au α [(19, S)]) tx tl)
        refine aw_go 1 rfl ⟨trivial, trivial⟩ ?_
        refine aw_callE rfl rfl (ev_Reader_token  (a := a) (cnt := cnt) rfl hcn (by omega) hc161 t1) ?_
        show aw_W _ _ _ _ (2, [some (.ref 19), some (.int (nI o)), none], [.int (hdT l)]) (ae_rd (au σ [(13, nI a), (14, nI c)]) (au α [(19, S)]) tx tl)
        refine aw_go 2 rfl ⟨trivial, trivial, trivial⟩ ?_
        refine aw_br (c := ¬ (hdT l) = (-3)) (fun h3 => ?_) (fun h3 => ?_)
        · skip
          show aw_W _ _ _ _ (25, [some (.ref 19), some (.int (nI o)), none], []) (ae_rd (au σ [(13, nI a), (14, nI c)]) (au α [(19, S)]) tx tl)
          exact absurd e h3
        · skip
          have h3 := Classical.not_not.mp h3
          show aw_W _ _ _ _ (4, [some (.ref 19), some (.int (nI o)), none], []) (ae_rd (au σ [(13, nI a), (14, nI c)]) (au α [(19, S)]) tx tl)
          refine aw_go 3 rfl ⟨trivial, trivial, trivial, trivial⟩ ?_
          refine aw_br (c := (5 : Int32) ≤ (nI o)) (fun h6 => ?_) (fun h6 => ?_)
          · skip
            have h6 := cI_leT (a := 5) (b := o) rfl rfl (by omega) (by omega) h6
            show aw_W _ _ _ _ (23, [some (.ref 19), some (.int (nI o)), none], []) (ae_rd (au σ [(13, nI a), (14, nI c)]) (au α [(19, S)]) tx tl)
            exact absurd h6 (by omega)
          · skip
            have h6 := cI_leF (a := 5) (b := o) rfl rfl (by omega) (by omega) h6
            show aw_W _ _ _ _ (7, [some (.ref 19), some (.int (nI o)), none], []) (ae_rd (au σ [(13, nI a), (14, nI c)]) (au α [(19, S)]) tx tl)
            refine aw_go 2 rfl ⟨trivial, trivial, trivial⟩ ?_
            refine aw_call rfl rfl (ev_pass_y (t := (-3)) (a := a) (cnt := cnt) rfl hcn (by omega) hc161 (by rw [← e]; exact t1)) ?_
            rintro _ _ ⟨rfl, rfl⟩
            show aw_W _ _ _ _ (10, [some (.ref 19), some (.int (nI o)), none], [.int 1]) (ae_rd (au σ [(13, nI (a + 1)), (14, nI c)]) (au α [(19, S)]) tx tl)
            refine aw_go 1 rfl ⟨trivial, trivial⟩ ?_
            refine aw_br (c := (1 : Int32) = 0) (fun h10 => ?_) (fun h10 => ?_)
            · skip
              have h10 := cI_eqT (a := 1) (b := 0) rfl rfl (by omega) (by omega) h10
              show aw_W _ _ _ _ (23, [some (.ref 19), some (.int (nI o)), none], []) (ae_rd (au σ [(13, nI (a + 1)), (14, nI c)]) (au α [(19, S)]) tx tl)
              exact absurd h10 (by decide)
            · skip
              have h10 := cI_eqF (a := 1) (b := 0) rfl rfl (by omega) (by omega) h10
              show aw_W _ _ _ _ (11, [some (.ref 19), some (.int (nI o)), none], []) (ae_rd (au σ [(13, nI (a + 1)), (14, nI c)]) (au α [(19, S)]) tx tl)
              refine aw_go 4 rfl ⟨trivial, trivial, trivial, trivial, trivial⟩ ?_
              show aw_W _ _ _ _ (15, [some (.ref 19), some (.int (nI o)), none], [.int ((nI o) + 1), .ref 19]) (ae_rd (au σ [(13, nI (a + 1)), (14, nI c)]) (au α [(19, S)]) tx tl)
              rw [show (nI o) + 1 = nI (o + 1) from (cI_add (a := o) (b := 1) rfl rfl)]
              refine aw_call rfl rfl (ih4 (o + 1) l.tail (true, l1, s1) (a + 1) c S _ h1  (by omega) t3 (ht.2.1 hg) (by omega) (by omega) (by simp only [rK] at hD ⊢; omega)) ?_
              rintro _ _ ⟨c_15, S_15, rfl, rfl, hb_15⟩
              show aw_W _ _ _ _ (16, [some (.ref 19), some (.int (nI o)), none], [.int 1]) (ae_rd (au σ [(13, nI (cnt - l1.length)), (14, c_15)]) (au α [(19, S_15)]) tx tl)
              obtain ⟨rfl, rfl⟩ := hb_15 rfl
              refine aw_go 1 rfl ⟨trivial, trivial⟩ ?_
              refine aw_br (c := (1 : Int32) = 0) (fun h16 => ?_) (fun h16 => ?_)
              · skip
                have h16 := cI_eqT (a := 1) (b := 0) rfl rfl (by omega) (by omega) h16
                show aw_W _ _ _ _ (23, [some (.ref 19), some (.int (nI o)), none], []) (ae_rd (au σ [(13, nI (cnt - l1.length)), (14, nI (c + s1.length))]) (au α [(19, putL S c s1)]) tx tl)
                exact absurd h16 (by decide)
              · skip
                have h16 := cI_eqF (a := 1) (b := 0) rfl rfl (by omega) (by omega) h16
                show aw_W _ _ _ _ (17, [some (.ref 19), some (.int (nI o)), none], []) (ae_rd (au σ [(13, nI (cnt - l1.length)), (14, nI (c + s1.length))]) (au α [(19, putL S c s1)]) tx tl)
                refine aw_go 2 rfl ⟨trivial, trivial, trivial⟩ ?_
                refine aw_call rfl rfl (ev_Reader_write (x := (-3)) rfl (by omega)) ?_
                rintro _ _ ⟨rfl, rfl⟩
                show aw_W _ _ _ _ (20, [some (.ref 19), some (.int (nI o)), none], [.int 1]) (ae_rd (au σ [(13, nI (cnt - l1.length)), (14, nI ((c + s1.length) + 1))]) (au α [(19, upd (putL S c s1) (c + s1.length) (-3))]) tx tl)
                refine aw_go 1 rfl ⟨trivial, trivial⟩ ?_
                refine aw_br (c := (1 : Int32) = 0) (fun h20 => ?_) (fun h20 => ?_)
                · skip
                  have h20 := cI_eqT (a := 1) (b := 0) rfl rfl (by omega) (by omega) h20
                  show aw_W _ _ _ _ (23, [some (.ref 19), some (.int (nI o)), none], []) (ae_rd (au σ [(13, nI (cnt - l1.length)), (14, nI ((c + s1.length) + 1))]) (au α [(19, upd (putL S c s1) (c + s1.length) (-3))]) tx tl)
                  exact absurd h20 (by decide)
                · skip
                  have h20 := cI_eqF (a := 1) (b := 0) rfl rfl (by omega) (by omega) h20
                  show aw_W _ _ _ _ (21, [some (.ref 19), some (.int (nI o)), none], []) (ae_rd (au σ [(13, nI (cnt - l1.length)), (14, nI ((c + s1.length) + 1))]) (au α [(19, upd (putL S c s1) (c + s1.length) (-3))]) tx tl)
                  refine aw_go 2 rfl ⟨trivial, trivial, trivial⟩ ?_
                  refine aw_ret rfl rfl (by first | exact Or.inl rfl | exact Or.inr rfl | exact bI_b _) ?_
                  refine ⟨_, _, rfl, rfl, fun _ => ⟨?_, ?_⟩⟩
                  · rw [len_app]; congr 1
                  · rw [putL_app]; rfl
      · have hp := (pp_pH _ _ _ _ _ _ _ h1).1
        have hp1 := hp.1
        have hl3 := gL_pos (hp.2.1 (ht.2.1 hg))
        show aw_W _ _ _ _ (0, [some (.ref 19), some (.int (nI o)), none], []) (ae_rd (au σ [(13, nI a), (14, nI c)]) (au α [(19, S)]) tx tl)
        refine aw_go 1 rfl ⟨trivial, trivial⟩ ?_
        refine aw_callE rfl rfl (ev_Reader_token  (a := a) (cnt := cnt) rfl hcn (by omega) hc161 t1) ?_
        show aw_W _ _ _ _ (2, [some (.ref 19), some (.int (nI o)), none], [.int (hdT l)]) (ae_rd (au σ [(13, nI a), (14, nI c)]) (au α [(19, S)]) tx tl)
        refine aw_go 2 rfl ⟨trivial, trivial, trivial⟩ ?_
        refine aw_br (c := ¬ (hdT l) = (-3)) (fun h3 => ?_) (fun h3 => ?_)
        · skip
          show aw_W _ _ _ _ (25, [some (.ref 19), some (.int (nI o)), none], []) (ae_rd (au σ [(13, nI a), (14, nI c)]) (au α [(19, S)]) tx tl)
          exact absurd e h3
        · skip
          have h3 := Classical.not_not.mp h3
          show aw_W _ _ _ _ (4, [some (.ref 19), some (.int (nI o)), none], []) (ae_rd (au σ [(13, nI a), (14, nI c)]) (au α [(19, S)]) tx tl)
          refine aw_go 3 rfl ⟨trivial, trivial, trivial, trivial⟩ ?_
          refine aw_br (c := (5 : Int32) ≤ (nI o)) (fun h6 => ?_) (fun h6 => ?_)
          · skip
            have h6 := cI_leT (a := 5) (b := o) rfl rfl (by omega) (by omega) h6
            show aw_W _ _ _ _ (23, [some (.ref 19), some (.int (nI o)), none], []) (ae_rd (au σ [(13, nI a), (14, nI c)]) (au α [(19, S)]) tx tl)
            exact absurd h6 (by omega)
          · skip
            have h6 := cI_leF (a := 5) (b := o) rfl rfl (by omega) (by omega) h6
            show aw_W _ _ _ _ (7, [some (.ref 19), some (.int (nI o)), none], []) (ae_rd (au σ [(13, nI a), (14, nI c)]) (au α [(19, S)]) tx tl)
            refine aw_go 2 rfl ⟨trivial, trivial, trivial⟩ ?_
            refine aw_call rfl rfl (ev_pass_y (t := (-3)) (a := a) (cnt := cnt) rfl hcn (by omega) hc161 (by rw [← e]; exact t1)) ?_
            rintro _ _ ⟨rfl, rfl⟩
            show aw_W _ _ _ _ (10, [some (.ref 19), some (.int (nI o)), none], [.int 1]) (ae_rd (au σ [(13, nI (a + 1)), (14, nI c)]) (au α [(19, S)]) tx tl)
            refine aw_go 1 rfl ⟨trivial, trivial⟩ ?_
            refine aw_br (c := (1 : Int32) = 0) (fun h10 => ?_) (fun h10 => ?_)
            · skip
              have h10 := cI_eqT (a := 1) (b := 0) rfl rfl (by omega) (by omega) h10
              show aw_W _ _ _ _ (23, [some (.ref 19), some (.int (nI o)), none], []) (ae_rd (au σ [(13, nI (a + 1)), (14, nI c)]) (au α [(19, S)]) tx tl)
              exact absurd h10 (by decide)
            · skip
              have h10 := cI_eqF (a := 1) (b := 0) rfl rfl (by omega) (by omega) h10
              show aw_W _ _ _ _ (11, [some (.ref 19), some (.int (nI o)), none], []) (ae_rd (au σ [(13, nI (a + 1)), (14, nI c)]) (au α [(19, S)]) tx tl)
              refine aw_go 4 rfl ⟨trivial, trivial, trivial, trivial, trivial⟩ ?_
              show aw_W _ _ _ _ (15, [some (.ref 19), some (.int (nI o)), none], [.int ((nI o) + 1), .ref 19]) (ae_rd (au σ [(13, nI (a + 1)), (14, nI c)]) (au α [(19, S)]) tx tl)
              rw [show (nI o) + 1 = nI (o + 1) from (cI_add (a := o) (b := 1) rfl rfl)]
              refine aw_call rfl rfl (ih4 (o + 1) l.tail (false, l1, s1) (a + 1) c S _ h1  (by omega) t3 (ht.2.1 hg) (by omega) (by omega) (by simp only [rK] at hD ⊢; omega)) ?_
              rintro _ _ ⟨c_15, S_15, rfl, rfl, hb_15⟩
              show aw_W _ _ _ _ (16, [some (.ref 19), some (.int (nI o)), none], [.int 0]) (ae_rd (au σ [(13, nI (cnt - l1.length)), (14, c_15)]) (au α [(19, S_15)]) tx tl)
              refine aw_go 1 rfl ⟨trivial, trivial⟩ ?_
              refine aw_br (c := (0 : Int32) = 0) (fun h16 => ?_) (fun h16 => ?_)
              · skip
                have h16 := cI_eqT (a := 0) (b := 0) rfl rfl (by omega) (by omega) h16
                show aw_W _ _ _ _ (23, [some (.ref 19), some (.int (nI o)), none], []) (ae_rd (au σ [(13, nI (cnt - l1.length)), (14, c_15)]) (au α [(19, S_15)]) tx tl)
                refine aw_go 1 rfl ⟨trivial, trivial⟩ ?_
                refine aw_ret rfl rfl (by first | exact Or.inl rfl | exact Or.inr rfl | exact bI_b _) ?_
                exact ⟨_, _, rfl, rfl, fun q => by cases q⟩
              · skip
                have h16 := cI_eqF (a := 0) (b := 0) rfl rfl (by omega) (by omega) h16
                show aw_W _ _ _ _ (17, [some (.ref 19), some (.int (nI o)), none], []) (ae_rd (au σ [(13, nI (cnt - l1.length)), (14, c_15)]) (au α [(19, S_15)]) tx tl)
                exact absurd h16 (by decide)
    · rw [if_neg e5] at hpp
      cases hpp
      have ea : a = cnt - l.length := by omega
      show aw_W _ _ _ _ (0, [some (.ref 19), some (.int (nI o)), none], []) (ae_rd (au σ [(13, nI a), (14, nI c)]) (au α [(19, S)]) tx tl)
      refine aw_go 1 rfl ⟨trivial, trivial⟩ ?_
      refine aw_callE rfl rfl (ev_Reader_token  (a := a) (cnt := cnt) rfl hcn (by omega) hc161 t1) ?_
      show aw_W _ _ _ _ (2, [some (.ref 19), some (.int (nI o)), none], [.int (hdT l)]) (ae_rd (au σ [(13, nI a), (14, nI c)]) (au α [(19, S)]) tx tl)
      refine aw_go 2 rfl ⟨trivial, trivial, trivial⟩ ?_
      refine aw_br (c := ¬ (hdT l) = (-3)) (fun h3 => ?_) (fun h3 => ?_)
      · skip
        show aw_W _ _ _ _ (25, [some (.ref 19), some (.int (nI o)), none], []) (ae_rd (au σ [(13, nI a), (14, nI c)]) (au α [(19, S)]) tx tl)
        exact absurd e h3
      · skip
        have h3 := Classical.not_not.mp h3
        show aw_W _ _ _ _ (4, [some (.ref 19), some (.int (nI o)), none], []) (ae_rd (au σ [(13, nI a), (14, nI c)]) (au α [(19, S)]) tx tl)
        refine aw_go 3 rfl ⟨trivial, trivial, trivial, trivial⟩ ?_
        refine aw_br (c := (5 : Int32) ≤ (nI o)) (fun h6 => ?_) (fun h6 => ?_)
        · skip
          have h6 := cI_leT (a := 5) (b := o) rfl rfl (by omega) (by omega) h6
          show aw_W _ _ _ _ (23, [some (.ref 19), some (.int (nI o)), none], []) (ae_rd (au σ [(13, nI a), (14, nI c)]) (au α [(19, S)]) tx tl)
          refine aw_go 1 rfl ⟨trivial, trivial⟩ ?_
          refine aw_ret rfl rfl (by first | exact Or.inl rfl | exact Or.inr rfl | exact bI_b _) ?_
          exact ⟨nI c, S, rfl, by show _ = ae_rd (au σ [(13, nI (cnt - l.length)), (14, nI c)]) (au α [(19, S)]) tx tl; rw [← ea], fun q => by cases q⟩
        · skip
          have h6 := cI_leF (a := 5) (b := o) rfl rfl (by omega) (by omega) h6
          show aw_W _ _ _ _ (7, [some (.ref 19), some (.int (nI o)), none], []) (ae_rd (au σ [(13, nI a), (14, nI c)]) (au α [(19, S)]) tx tl)
          exact absurd h6 (by omega)
  · rw [if_neg e] at hpp
    rcases bP_some hpp with ⟨l1, s1, h1, hpp⟩ | ⟨l1, s1, h1, rfl⟩
    · have hp := (pp_pH _ _ _ _ _ _ _ h1).1
      have hp1 := hp.1
      have hg1 := hp.2.1 hg
      have hl3 := gL_pos hg1
      obtain ⟨k1, k2⟩ := tk_rest (cnt := cnt) hT (by omega) hp
      obtain ⟨u1, u2, u3⟩ := tk_hd k1 hg1
      by_cases f : hdT l1 = -4 ∨ hdT l1 = -5
      · rw [if_pos f] at hpp
        have f17 : ¬ hdT l1 = -17 := by rcases f with f | f <;> (rw [f]; decide)
        have ht := pH_tail (l := l1) f17
        have ht1 := ht.1
        have htl : l1.tail.length = l1.length - 1 := List.length_tail
        have hl2 : 2 ≤ l1.length := Nat.lt_of_not_le (fun q => absurd (gL_one hg1 q) f17)
        rcases bP_some hpp with ⟨l2, s2, h2, hpp⟩ | ⟨l2, s2, h2, rfl⟩
        · have hq := (pp_pH _ _ _ _ _ _ _ h2).1
          have hq1 := hq.1
          have hl4 := gL_pos (hq.2.1 (ht.2.1 hg1))
          cases hpp
          show aw_W _ _ _ _ (0, [some (.ref 19), some (.int (nI o)), none], []) (ae_rd (au σ [(13, nI a), (14, nI c)]) (au α [(19, S)]) tx tl)
          refine aw_go 1 rfl ⟨trivial, trivial⟩ ?_
          refine aw_callE rfl rfl (ev_Reader_token  (a := a) (cnt := cnt) rfl hcn (by omega) hc161 t1) ?_
          show aw_W _ _ _ _ (2, [some (.ref 19), some (.int (nI o)), none], [.int (hdT l)]) (ae_rd (au σ [(13, nI a), (14, nI c)]) (au α [(19, S)]) tx tl)
          refine aw_go 2 rfl ⟨trivial, trivial, trivial⟩ ?_
          refine aw_br (c := ¬ (hdT l) = (-3)) (fun h3 => ?_) (fun h3 => ?_)
          · skip
            show aw_W _ _ _ _ (25, [some (.ref 19), some (.int (nI o)), none], []) (ae_rd (au σ [(13, nI a), (14, nI c)]) (au α [(19, S)]) tx tl)
            refine aw_go 2 rfl ⟨trivial, trivial, trivial⟩ ?_
            refine aw_call rfl rfl (ih5 o l (true, l1, s1) a c S _ h1  ho hT hg hl hca (by simp only [rK] at hD ⊢; omega)) ?_
            rintro _ _ ⟨c_27, S_27, rfl, rfl, hb_27⟩
            show aw_W _ _ _ _ (28, [some (.ref 19), some (.int (nI o)), none], [.int 1]) (ae_rd (au σ [(13, nI (cnt - l1.length)), (14, c_27)]) (au α [(19, S_27)]) tx tl)
            obtain ⟨rfl, rfl⟩ := hb_27 rfl
            refine aw_go 1 rfl ⟨trivial, trivial⟩ ?_
            refine aw_br (c := ¬ (1 : Int32) = 0) (fun h28 => ?_) (fun h28 => ?_)
            · skip
              have h28 := cI_eqF (a := 1) (b := 0) rfl rfl (by omega) (by omega) h28
              show aw_W _ _ _ _ (31, [some (.ref 19), some (.int (nI o)), none], []) (ae_rd (au σ [(13, nI (cnt - l1.length)), (14, nI (c + s1.length))]) (au α [(19, putL S c s1)]) tx tl)
              refine aw_go 1 rfl ⟨trivial, trivial⟩ ?_
              refine aw_callE rfl rfl (ev_Reader_token  (a := cnt - l1.length) (cnt := cnt) rfl hcn (by omega) hc161 u1) ?_
              show aw_W _ _ _ _ (33, [some (.ref 19), some (.int (nI o)), none], [.int (hdT l1)]) (ae_rd (au σ [(13, nI (cnt - l1.length)), (14, nI (c + s1.length))]) (au α [(19, putL S c s1)]) tx tl)
              refine aw_go 4 rfl ⟨trivial, trivial, trivial, trivial, trivial⟩ ?_
              refine aw_br (c := (hdT l1) = (-4)) (fun h36 => ?_) (fun h36 => ?_)
              · skip
                show aw_W _ _ _ _ (42, [some (.ref 19), some (.int (nI o)), some (.int (hdT l1))], []) (ae_rd (au σ [(13, nI (cnt - l1.length)), (14, nI (c + s1.length))]) (au α [(19, putL S c s1)]) tx tl)
                refine aw_go 2 rfl ⟨trivial, trivial, trivial⟩ ?_
                refine aw_call rfl rfl (ev_pass_y (t := (hdT l1)) (a := cnt - l1.length) (cnt := cnt) rfl hcn (by omega) hc161 u1) ?_
                rintro _ _ ⟨rfl, rfl⟩
                show aw_W _ _ _ _ (45, [some (.ref 19), some (.int (nI o)), some (.int (hdT l1))], [.int 1]) (ae_rd (au σ [(13, nI ((cnt - l1.length) + 1)), (14, nI (c + s1.length))]) (au α [(19, putL S c s1)]) tx tl)
                refine aw_go 1 rfl ⟨trivial, trivial⟩ ?_
                refine aw_br (c := (1 : Int32) = 0) (fun h45 => ?_) (fun h45 => ?_)
                · skip
                  have h45 := cI_eqT (a := 1) (b := 0) rfl rfl (by omega) (by omega) h45
                  show aw_W _ _ _ _ (56, [some (.ref 19), some (.int (nI o)), some (.int (hdT l1))], []) (ae_rd (au σ [(13, nI ((cnt - l1.length) + 1)), (14, nI (c + s1.length))]) (au α [(19, putL S c s1)]) tx tl)
                  exact absurd h45 (by decide)
                · skip
                  have h45 := cI_eqF (a := 1) (b := 0) rfl rfl (by omega) (by omega) h45
                  show aw_W _ _ _ _ (46, [some (.ref 19), some (.int (nI o)), some (.int (hdT l1))], []) (ae_rd (au σ [(13, nI ((cnt - l1.length) + 1)), (14, nI (c + s1.length))]) (au α [(19, putL S c s1)]) tx tl)
                  refine aw_go 2 rfl ⟨trivial, trivial, trivial⟩ ?_
                  refine aw_call rfl rfl (ih5 o l1.tail (true, l2, s2) (cnt - l1.length + 1) (c + s1.length) (putL S c s1) _ h2  ho u3 (ht.2.1 hg1) (by omega) (by omega) (by simp only [rK] at hD ⊢; omega)) ?_
                  rintro _ _ ⟨c_48, S_48, rfl, rfl, hb_48⟩
                  show aw_W _ _ _ _ (49, [some (.ref 19), some (.int (nI o)), some (.int (hdT l1))], [.int 1]) (ae_rd (au σ [(13, nI (cnt - l2.length)), (14, c_48)]) (au α [(19, S_48)]) tx tl)
                  obtain ⟨rfl, rfl⟩ := hb_48 rfl
                  refine aw_go 1 rfl ⟨trivial, trivial⟩ ?_
                  refine aw_br (c := (1 : Int32) = 0) (fun h49 => ?_) (fun h49 => ?_)
                  · skip
                    have h49 := cI_eqT (a := 1) (b := 0) rfl rfl (by omega) (by omega) h49
                    show aw_W _ _ _ _ (56, [some (.ref 19), some (.int (nI o)), some (.int (hdT l1))], []) (ae_rd (au σ [(13, nI (cnt - l2.length)), (14, nI ((c + s1.length) + s2.length))]) (au α [(19, putL (putL S c s1) (c + s1.length) s2)]) tx tl)
                    exact absurd h49 (by decide)
                  · skip
                    have h49 := cI_eqF (a := 1) (b := 0) rfl rfl (by omega) (by omega) h49
                    show aw_W _ _ _ _ (50, [some (.ref 19), some (.int (nI o)), some (.int (hdT l1))], []) (ae_rd (au σ [(13, nI (cnt - l2.length)), (14, nI ((c + s1.length) + s2.length))]) (au α [(19, putL (putL S c s1) (c + s1.length) s2)]) tx tl)
                    refine aw_go 2 rfl ⟨trivial, trivial, trivial⟩ ?_
                    refine aw_call rfl rfl (ev_Reader_write (x := (hdT l1)) rfl (by omega)) ?_
                    rintro _ _ ⟨rfl, rfl⟩
                    show aw_W _ _ _ _ (53, [some (.ref 19), some (.int (nI o)), some (.int (hdT l1))], [.int 1]) (ae_rd (au σ [(13, nI (cnt - l2.length)), (14, nI ((c + s1.length + s2.length) + 1))]) (au α [(19, upd (putL (putL S c s1) (c + s1.length) s2) (c + s1.length + s2.length) (hdT l1))]) tx tl)
                    refine aw_go 1 rfl ⟨trivial, trivial⟩ ?_
                    refine aw_br (c := (1 : Int32) = 0) (fun h53 => ?_) (fun h53 => ?_)
                    · skip
                      have h53 := cI_eqT (a := 1) (b := 0) rfl rfl (by omega) (by omega) h53
                      show aw_W _ _ _ _ (56, [some (.ref 19), some (.int (nI o)), some (.int (hdT l1))], []) (ae_rd (au σ [(13, nI (cnt - l2.length)), (14, nI ((c + s1.length + s2.length) + 1))]) (au α [(19, upd (putL (putL S c s1) (c + s1.length) s2) (c + s1.length + s2.length) (hdT l1))]) tx tl)
                      exact absurd h53 (by decide)
                    · skip
                      have h53 := cI_eqF (a := 1) (b := 0) rfl rfl (by omega) (by omega) h53
                      show aw_W _ _ _ _ (54, [some (.ref 19), some (.int (nI o)), some (.int (hdT l1))], []) (ae_rd (au σ [(13, nI (cnt - l2.length)), (14, nI ((c + s1.length + s2.length) + 1))]) (au α [(19, upd (putL (putL S c s1) (c + s1.length) s2) (c + s1.length + s2.length) (hdT l1))]) tx tl)
                      refine aw_go 2 rfl ⟨trivial, trivial, trivial⟩ ?_
                      refine aw_ret rfl rfl (by first | exact Or.inl rfl | exact Or.inr rfl | exact bI_b _) ?_
                      refine ⟨_, _, rfl, rfl, fun _ => ⟨?_, ?_⟩⟩
                      · rw [List.length_append, len_app]; congr 1
                        simp only [List.length_nil]
                        omega
                      · rw [putL_app, putL_app]; rfl
              · skip
                show aw_W _ _ _ _ (37, [some (.ref 19), some (.int (nI o)), some (.int (hdT l1))], []) (ae_rd (au σ [(13, nI (cnt - l1.length)), (14, nI (c + s1.length))]) (au α [(19, putL S c s1)]) tx tl)
                refine aw_go 3 rfl ⟨trivial, trivial, trivial, trivial⟩ ?_
                refine aw_br (c := (hdT l1) = (-5)) (fun h39 => ?_) (fun h39 => ?_)
                · skip
                  show aw_W _ _ _ _ (42, [some (.ref 19), some (.int (nI o)), some (.int (hdT l1))], []) (ae_rd (au σ [(13, nI (cnt - l1.length)), (14, nI (c + s1.length))]) (au α [(19, putL S c s1)]) tx tl)
                  refine aw_go 2 rfl ⟨trivial, trivial, trivial⟩ ?_
                  refine aw_call rfl rfl (ev_pass_y (t := (hdT l1)) (a := cnt - l1.length) (cnt := cnt) rfl hcn (by omega) hc161 u1) ?_
                  rintro _ _ ⟨rfl, rfl⟩
                  show aw_W _ _ _ _ (45, [some (.ref 19), some (.int (nI o)), some (.int (hdT l1))], [.int 1]) (ae_rd (au σ [(13, nI ((cnt - l1.length) + 1)), (14, nI (c + s1.length))]) (au α [(19, putL S c s1)]) tx tl)
                  refine aw_go 1 rfl ⟨trivial, trivial⟩ ?_
                  refine aw_br (c := (1 : Int32) = 0) (fun h45 => ?_) (fun h45 => ?_)
                  · skip
                    have h45 := cI_eqT (a := 1) (b := 0) rfl rfl (by omega) (by omega) h45
                    show aw_W _ _ _ _ (56, [some (.ref 19), some (.int (nI o)), some (.int (hdT l1))], []) (ae_rd (au σ [(13, nI ((cnt - l1.length) + 1)), (14, nI (c + s1.length))]) (au α [(19, putL S c s1)]) tx tl)
                    exact absurd h45 (by decide)
                  · skip
                    have h45 := cI_eqF (a := 1) (b := 0) rfl rfl (by omega) (by omega) h45
                    show aw_W _ _ _ _ (46, [some (.ref 19), some (.int (nI o)), some (.int (hdT l1))], []) (ae_rd (au σ [(13, nI ((cnt - l1.length) + 1)), (14, nI (c + s1.length))]) (au α [(19, putL S c s1)]) tx tl)
                    refine aw_go 2 rfl ⟨trivial, trivial, trivial⟩ ?_
                    refine aw_call rfl rfl (ih5 o l1.tail (true, l2, s2) (cnt - l1.length + 1) (c + s1.length) (putL S c s1) _ h2  ho u3 (ht.2.1 hg1) (by omega) (by omega) (by simp only [rK] at hD ⊢; omega)) ?_
                    rintro _ _ ⟨c_48, S_48, rfl, rfl, hb_48⟩
                    show aw_W _ _ _ _ (49, [some (.ref 19), some (.int (nI o)), some (.int (hdT l1))], [.int 1]) (ae_rd (au σ [(13, nI (cnt - l2.length)), (14, c_48)]) (au α [(19, S_48)]) tx tl)
                    obtain ⟨rfl, rfl⟩ := hb_48 rfl
                    refine aw_go 1 rfl ⟨trivial, trivial⟩ ?_
                    refine aw_br (c := (1 : Int32) = 0) (fun h49 => ?_) (fun h49 => ?_)
                    · skip
                      have h49 := cI_eqT (a := 1) (b := 0) rfl rfl (by omega) (by omega) h49
                      show aw_W _ _ _ _ (56, [some (.ref 19), some (.int (nI o)), some (.int (hdT l1))], []) (ae_rd (au σ [(13, nI (cnt - l2.length)), (14, nI ((c + s1.length) + s2.length))]) (au α [(19, putL (putL S c s1) (c + s1.length) s2)]) tx tl)
                      exact absurd h49 (by decide)
                    · skip
                      have h49 := cI_eqF (a := 1) (b := 0) rfl rfl (by omega) (by omega) h49
                      show aw_W _ _ _ _ (50, [some (.ref 19), some (.int (nI o)), some (.int (hdT l1))], []) (ae_rd (au σ [(13, nI (cnt - l2.length)), (14, nI ((c + s1.length) + s2.length))]) (au α [(19, putL (putL S c s1) (c + s1.length) s2)]) tx tl)
                      refine aw_go 2 rfl ⟨trivial, trivial, trivial⟩ ?_
                      refine aw_call rfl rfl (ev_Reader_write (x := (hdT l1)) rfl (by omega)) ?_
                      rintro _ _ ⟨rfl, rfl⟩
                      show aw_W _ _ _ _ (53, [some (.ref 19), some (.int (nI o)), some (.int (hdT l1))], [.int 1]) (ae_rd (au σ [(13, nI (cnt - l2.length)), (14, nI ((c + s1.length + s2.length) + 1))]) (au α [(19, upd (putL (putL S c s1) (c + s1.length) s2) (c + s1.length + s2.length) (hdT l1))]) tx tl)
                      refine aw_go 1 rfl ⟨trivial, trivial⟩ ?_
                      refine aw_br (c := (1 : Int32) = 0) (fun h53 => ?_) (fun h53 => ?_)
                      · skip
                        have h53 := cI_eqT (a := 1) (b := 0) rfl rfl (by omega) (by omega) h53
                        show aw_W _ _ _ _ (56, [some (.ref 19), some (.int (nI o)), some (.int (hdT l1))], []) (ae_rd (au σ [(13, nI (cnt - l2.length)), (14, nI ((c + s1.length + s2.length) + 1))]) (au α [(19, upd (putL (putL S c s1) (c + s1.length) s2) (c + s1.length + s2.length) (hdT l1))]) tx tl)
                        exact absurd h53 (by decide)
                      · skip
                        have h53 := cI_eqF (a := 1) (b := 0) rfl rfl (by omega) (by omega) h53
                        show aw_W _ _ _ _ (54, [some (.ref 19), some (.int (nI o)), some (.int (hdT l1))], []) (ae_rd (au σ [(13, nI (cnt - l2.length)), (14, nI ((c + s1.length + s2.length) + 1))]) (au α [(19, upd (putL (putL S c s1) (c + s1.length) s2) (c + s1.length + s2.length) (hdT l1))]) tx tl)
                        refine aw_go 2 rfl ⟨trivial, trivial, trivial⟩ ?_
                        refine aw_ret rfl rfl (by first | exact Or.inl rfl | exact Or.inr rfl | exact bI_b _) ?_
                        refine ⟨_, _, rfl, rfl, fun _ => ⟨?_, ?_⟩⟩
                        · rw [List.length_append, len_app]; congr 1
                          simp only [List.length_nil]
                          omega
                        · rw [putL_app, putL_app]; rfl
                · skip
                  show aw_W _ _ _ _ (40, [some (.ref 19), some (.int (nI o)), some (.int (hdT l1))], []) (ae_rd (au σ [(13, nI (cnt - l1.length)), (14, nI (c + s1.length))]) (au α [(19, putL S c s1)]) tx tl)
                  exact absurd f (fun q => q.elim h36 h39)
            · skip
              have h28 := Classical.not_not.mp h28
              have h28 := cI_eqT (a := 1) (b := 0) rfl rfl (by omega) (by omega) h28
              show aw_W _ _ _ _ (29, [some (.ref 19), some (.int (nI o)), none], []) (ae_rd (au σ [(13, nI (cnt - l1.length)), (14, nI (c + s1.length))]) (au α [(19, putL S c s1)]) tx tl)
              exact absurd h28 (by decide)
          · skip
            have h3 := Classical.not_not.mp h3
            show aw_W _ _ _ _ (4, [some (.ref 19), some (.int (nI o)), none], []) (ae_rd (au σ [(13, nI a), (14, nI c)]) (au α [(19, S)]) tx tl)
            exact absurd h3 e
        · have hq := (pp_pH _ _ _ _ _ _ _ h2).1
          have hq1 := hq.1
          have hl4 := gL_pos (hq.2.1 (ht.2.1 hg1))
          show aw_W _ _ _ _ (0, [some (.ref 19), some (.int (nI o)), none], []) (ae_rd (au σ [(13, nI a), (14, nI c)]) (au α [(19, S)]) tx tl)
          refine aw_go 1 rfl ⟨trivial, trivial⟩ ?_
          refine aw_callE rfl rfl (ev_Reader_token  (a := a) (cnt := cnt) rfl hcn (by omega) hc161 t1) ?_
          show aw_W _ _ _ _ (2, [some (.ref 19), some (.int (nI o)), none], [.int (hdT l)]) (ae_rd (au σ [(13, nI a), (14, nI c)]) (au α [(19, S)]) tx tl)
          refine aw_go 2 rfl ⟨trivial, trivial, trivial⟩ ?_
          refine aw_br (c := ¬ (hdT l) = (-3)) (fun h3 => ?_) (fun h3 => ?_)
          · skip
            show aw_W _ _ _ _ (25, [some (.ref 19), some (.int (nI o)), none], []) (ae_rd (au σ [(13, nI a), (14, nI c)]) (au α [(19, S)]) tx tl)
            refine aw_go 2 rfl ⟨trivial, trivial, trivial⟩ ?_
            refine aw_call rfl rfl (ih5 o l (true, l1, s1) a c S _ h1  ho hT hg hl hca (by simp only [rK] at hD ⊢; omega)) ?_
            rintro _ _ ⟨c_27, S_27, rfl, rfl, hb_27⟩
            show aw_W _ _ _ _ (28, [some (.ref 19), some (.int (nI o)), none], [.int 1]) (ae_rd (au σ [(13, nI (cnt - l1.length)), (14, c_27)]) (au α [(19, S_27)]) tx tl)
            obtain ⟨rfl, rfl⟩ := hb_27 rfl
            refine aw_go 1 rfl ⟨trivial, trivial⟩ ?_
            refine aw_br (c := ¬ (1 : Int32) = 0) (fun h28 => ?_) (fun h28 => ?_)
            · skip
              have h28 := cI_eqF (a := 1) (b := 0) rfl rfl (by omega) (by omega) h28
              show aw_W _ _ _ _ (31, [some (.ref 19), some (.int (nI o)), none], []) (ae_rd (au σ [(13, nI (cnt - l1.length)), (14, nI (c + s1.length))]) (au α [(19, putL S c s1)]) tx tl)
              refine aw_go 1 rfl ⟨trivial, trivial⟩ ?_
              refine aw_callE rfl rfl (ev_Reader_token  (a := cnt - l1.length) (cnt := cnt) rfl hcn (by omega) hc161 u1) ?_
              show aw_W _ _ _ _ (33, [some (.ref 19), some (.int (nI o)), none], [.int (hdT l1)]) (ae_rd (au σ [(13, nI (cnt - l1.length)), (14, nI (c + s1.length))]) (au α [(19, putL S c s1)]) tx tl)
              refine aw_go 4 rfl ⟨trivial, trivial, trivial, trivial, trivial⟩ ?_
              refine aw_br (c := (hdT l1) = (-4)) (fun h36 => ?_) (fun h36 => ?_)
              · skip
                show aw_W _ _ _ _ (42, [some (.ref 19), some (.int (nI o)), some (.int (hdT l1))], []) (ae_rd (au σ [(13, nI (cnt - l1.length)), (14, nI (c + s1.length))]) (au α [(19, putL S c s1)]) tx tl)
                refine aw_go 2 rfl ⟨trivial, trivial, trivial⟩ ?_
                refine aw_call rfl rfl (ev_pass_y (t := (hdT l1)) (a := cnt - l1.length) (cnt := cnt) rfl hcn (by omega) hc161 u1) ?_
                rintro _ _ ⟨rfl, rfl⟩
                show aw_W _ _ _ _ (45, [some (.ref 19), some (.int (nI o)), some (.int (hdT l1))], [.int 1]) (ae_rd (au σ [(13, nI ((cnt - l1.length) + 1)), (14, nI (c + s1.length))]) (au α [(19, putL S c s1)]) tx tl)
                refine aw_go 1 rfl ⟨trivial, trivial⟩ ?_
                refine aw_br (c := (1 : Int32) = 0) (fun h45 => ?_) (fun h45 => ?_)
                · skip
                  have h45 := cI_eqT (a := 1) (b := 0) rfl rfl (by omega) (by omega) h45
                  show aw_W _ _ _ _ (56, [some (.ref 19), some (.int (nI o)), some (.int (hdT l1))], []) (ae_rd (au σ [(13, nI ((cnt - l1.length) + 1)), (14, nI (c + s1.length))]) (au α [(19, putL S c s1)]) tx tl)
                  exact absurd h45 (by decide)
                · skip
                  have h45 := cI_eqF (a := 1) (b := 0) rfl rfl (by omega) (by omega) h45
                  show aw_W _ _ _ _ (46, [some (.ref 19), some (.int (nI o)), some (.int (hdT l1))], []) (ae_rd (au σ [(13, nI ((cnt - l1.length) + 1)), (14, nI (c + s1.length))]) (au α [(19, putL S c s1)]) tx tl)
                  refine aw_go 2 rfl ⟨trivial, trivial, trivial⟩ ?_
                  refine aw_call rfl rfl (ih5 o l1.tail (false, l2, s2) (cnt - l1.length + 1) (c + s1.length) (putL S c s1) _ h2  ho u3 (ht.2.1 hg1) (by omega) (by omega) (by simp only [rK] at hD ⊢; omega)) ?_
                  rintro _ _ ⟨c_48, S_48, rfl, rfl, hb_48⟩
                  show aw_W _ _ _ _ (49, [some (.ref 19), some (.int (nI o)), some (.int (hdT l1))], [.int 0]) (ae_rd (au σ [(13, nI (cnt - l2.length)), (14, c_48)]) (au α [(19, S_48)]) tx tl)
                  refine aw_go 1 rfl ⟨trivial, trivial⟩ ?_
                  refine aw_br (c := (0 : Int32) = 0) (fun h49 => ?_) (fun h49 => ?_)
                  · skip
                    have h49 := cI_eqT (a := 0) (b := 0) rfl rfl (by omega) (by omega) h49
                    show aw_W _ _ _ _ (56, [some (.ref 19), some (.int (nI o)), some (.int (hdT l1))], []) (ae_rd (au σ [(13, nI (cnt - l2.length)), (14, c_48)]) (au α [(19, S_48)]) tx tl)
                    refine aw_go 1 rfl ⟨trivial, trivial⟩ ?_
                    refine aw_ret rfl rfl (by first | exact Or.inl rfl | exact Or.inr rfl | exact bI_b _) ?_
                    exact ⟨_, _, rfl, rfl, fun q => by cases q⟩
                  · skip
                    have h49 := cI_eqF (a := 0) (b := 0) rfl rfl (by omega) (by omega) h49
                    show aw_W _ _ _ _ (50, [some (.ref 19), some (.int (nI o)), some (.int (hdT l1))], []) (ae_rd (au σ [(13, nI (cnt - l2.length)), (14, c_48)]) (au α [(19, S_48)]) tx tl)
                    exact absurd h49 (by decide)
              · skip
                show aw_W _ _ _ _ (37, [some (.ref 19), some (.int (nI o)), some (.int (hdT l1))], []) (ae_rd (au σ [(13, nI (cnt - l1.length)), (14, nI (c + s1.length))]) (au α [(19, putL S c s1)]) tx tl)
                refine aw_go 3 rfl ⟨trivial, trivial, trivial, trivial⟩ ?_
                refine aw_br (c := (hdT l1) = (-5)) (fun h39 => ?_) (fun h39 => ?_)
                · skip
                  show aw_W _ _ _ _ (42, [some (.ref 19), some (.int (nI o)), some (.int (hdT l1))], []) (ae_rd (au σ [(13, nI (cnt - l1.length)), (14, nI (c + s1.length))]) (au α [(19, putL S c s1)]) tx tl)
                  refine aw_go 2 rfl ⟨trivial, trivial, trivial⟩ ?_
                  refine aw_call rfl rfl (ev_pass_y (t := (hdT l1)) (a := cnt - l1.length) (cnt := cnt) rfl hcn (by omega) hc161 u1) ?_
                  rintro _ _ ⟨rfl, rfl⟩
                  show aw_W _ _ _ _ (45, [some (.ref 19), some (.int (nI o)), some (.int (hdT l1))], [.int 1]) (ae_rd (au σ [(13, nI ((cnt - l1.length) + 1)), (14, nI (c + s1.length))]) (au α [(19, putL S c s1)]) tx tl)
                  refine aw_go 1 rfl ⟨trivial, trivial⟩ ?_
                  refine aw_br (c := (1 : Int32) = 0) (fun h45 => ?_) (fun h45 => ?_)
                  · skip
                    have h45 := cI_eqT (a := 1) (b := 0) rfl rfl (by omega) (by omega) h45
                    show aw_W _ _ _ _ (56, [some (.ref 19), some (.int (nI o)), some (.int (hdT l1))], []) (ae_rd (au σ [(13, nI ((cnt - l1.length) + 1)), (14, nI (c + s1.length))]) (au α [(19, putL S c s1)]) tx tl)
                    exact absurd h45 (by decide)
                  · skip
                    have h45 := cI_eqF (a := 1) (b := 0) rfl rfl (by omega) (by omega) h45
                    show aw_W _ _ _ _ (46, [some (.ref 19), some (.int (nI o)), some (.int (hdT l1))], []) (ae_rd (au σ [(13, nI ((cnt - l1.length) + 1)), (14, nI (c + s1.length))]) (au α [(19, putL S c s1)]) tx tl)
                    refine aw_go 2 rfl ⟨trivial, trivial, trivial⟩ ?_
                    refine aw_call rfl rfl (ih5 o l1.tail (false, l2, s2) (cnt - l1.length + 1) (c + s1.length) (putL S c s1) _ h2  ho u3 (ht.2.1 hg1) (by omega) (by omega) (by simp only [rK] at hD ⊢; omega)) ?_
                    rintro _ _ ⟨c_48, S_48, rfl, rfl, hb_48⟩
                    show aw_W _ _ _ _ (49, [some (.ref 19), some (.int (nI o)), some (.int (hdT l1))], [.int 0]) (ae_rd (au σ [(13, nI (cnt - l2.length)), (14, c_48)]) (au α [(19, S_48)]) tx tl)
                    refine aw_go 1 rfl ⟨trivial, trivial⟩ ?_
                    refine aw_br (c := (0 : Int32) = 0) (fun h49 => ?_) (fun h49 => ?_)
                    · skip
                      have h49 := cI_eqT (a := 0) (b := 0) rfl rfl (by omega) (by omega) h49
                      show aw_W _ _ _ _ (56, [some (.ref 19), some (.int (nI o)), some (.int (hdT l1))], []) (ae_rd (au σ [(13, nI (cnt - l2.length)), (14, c_48)]) (au α [(19, S_48)]) tx tl)
                      refine aw_go 1 rfl ⟨trivial, trivial⟩ ?_
                      refine aw_ret rfl rfl (by first | exact Or.inl rfl | exact Or.inr rfl | exact bI_b _) ?_
                      exact ⟨_, _, rfl, rfl, fun q => by cases q⟩
                    · skip
                      have h49 := cI_eqF (a := 0) (b := 0) rfl rfl (by omega) (by omega) h49
                      show aw_W _ _ _ _ (50, [some (.ref 19), some (.int (nI o)), some (.int (hdT l1))], []) (ae_rd (au σ [(13, nI (cnt - l2.length)), (14, c_48)]) (au α [(19, S_48)]) tx tl)
                      exact absurd h49 (by decide)
                · skip
                  show aw_W _ _ _ _ (40, [some (.ref 19), some (.int (nI o)), some (.int (hdT l1))], []) (ae_rd (au σ [(13, nI (cnt - l1.length)), (14, nI (c + s1.length))]) (au α [(19, putL S c s1)]) tx tl)
                  exact absurd f (fun q => q.elim h36 h39)
            · skip
              have h28 := Classical.not_not.mp h28
              have h28 := cI_eqT (a := 1) (b := 0) rfl rfl (by omega) (by omega) h28
              show aw_W _ _ _ _ (29, [some (.ref 19), some (.int (nI o)), none], []) (ae_rd (au σ [(13, nI (cnt - l1.length)), (14, nI (c + s1.length))]) (au α [(19, putL S c s1)]) tx tl)
              exact absurd h28 (by decide)
          · skip
            have h3 := Classical.not_not.mp h3
            show aw_W _ _ _ _ (4, [some (.ref 19), some (.int (nI o)), none], []) (ae_rd (au σ [(13, nI a), (14, nI c)]) (au α [(19, S)]) tx tl)
            exact absurd h3 e
      · rw [if_neg f] at hpp
        cases hpp
        show aw_W _ _ _ _ (0, [some (.ref 19), some (.int (nI o)), none], []) (ae_rd (au σ [(13, nI a), (14, nI c)]) (au α [(19, S)]) tx tl)
        refine aw_go 1 rfl ⟨trivial, trivial⟩ ?_
        refine aw_callE rfl rfl (ev_Reader_token  (a := a) (cnt := cnt) rfl hcn (by omega) hc161 t1) ?_
        show aw_W _ _ _ _ (2, [some (.ref 19), some (.int (nI o)), none], [.int (hdT l)]) (ae_rd (au σ [(13, nI a), (14, nI c)]) (au α [(19, S)]) tx tl)
        refine aw_go 2 rfl ⟨trivial, trivial, trivial⟩ ?_
        refine aw_br (c := ¬ (hdT l) = (-3)) (fun h3 => ?_) (fun h3 => ?_)
        · skip
          show aw_W _ _ _ _ (25, [some (.ref 19), some (.int (nI o)), none], []) (ae_rd (au σ [(13, nI a), (14, nI c)]) (au α [(19, S)]) tx tl)
          refine aw_go 2 rfl ⟨trivial, trivial, trivial⟩ ?_
          refine aw_call rfl rfl (ih5 o l (true, l1, s1) a c S _ h1  ho hT hg hl hca (by simp only [rK] at hD ⊢; omega)) ?_
          rintro _ _ ⟨c_27, S_27, rfl, rfl, hb_27⟩
          show aw_W _ _ _ _ (28, [some (.ref 19), some (.int (nI o)), none], [.int 1]) (ae_rd (au σ [(13, nI (cnt - l1.length)), (14, c_27)]) (au α [(19, S_27)]) tx tl)
          obtain ⟨rfl, rfl⟩ := hb_27 rfl
          refine aw_go 1 rfl ⟨trivial, trivial⟩ ?_
          refine aw_br (c := ¬ (1 : Int32) = 0) (fun h28 => ?_) (fun h28 => ?_)
          · skip
            have h28 := cI_eqF (a := 1) (b := 0) rfl rfl (by omega) (by omega) h28
            show aw_W _ _ _ _ (31, [some (.ref 19), some (.int (nI o)), none], []) (ae_rd (au σ [(13, nI (cnt - l1.length)), (14, nI (c + s1.length))]) (au α [(19, putL S c s1)]) tx tl)
            refine aw_go 1 rfl ⟨trivial, trivial⟩ ?_
            refine aw_callE rfl rfl (ev_Reader_token  (a := cnt - l1.length) (cnt := cnt) rfl hcn (by omega) hc161 u1) ?_
            show aw_W _ _ _ _ (33, [some (.ref 19), some (.int (nI o)), none], [.int (hdT l1)]) (ae_rd (au σ [(13, nI (cnt - l1.length)), (14, nI (c + s1.length))]) (au α [(19, putL S c s1)]) tx tl)
            refine aw_go 4 rfl ⟨trivial, trivial, trivial, trivial, trivial⟩ ?_
            refine aw_br (c := (hdT l1) = (-4)) (fun h36 => ?_) (fun h36 => ?_)
            · skip
              show aw_W _ _ _ _ (42, [some (.ref 19), some (.int (nI o)), some (.int (hdT l1))], []) (ae_rd (au σ [(13, nI (cnt - l1.length)), (14, nI (c + s1.length))]) (au α [(19, putL S c s1)]) tx tl)
              exact absurd (Or.inl h36) f
            · skip
              show aw_W _ _ _ _ (37, [some (.ref 19), some (.int (nI o)), some (.int (hdT l1))], []) (ae_rd (au σ [(13, nI (cnt - l1.length)), (14, nI (c + s1.length))]) (au α [(19, putL S c s1)]) tx tl)
              refine aw_go 3 rfl ⟨trivial, trivial, trivial, trivial⟩ ?_
              refine aw_br (c := (hdT l1) = (-5)) (fun h39 => ?_) (fun h39 => ?_)
              · skip
                show aw_W _ _ _ _ (42, [some (.ref 19), some (.int (nI o)), some (.int (hdT l1))], []) (ae_rd (au σ [(13, nI (cnt - l1.length)), (14, nI (c + s1.length))]) (au α [(19, putL S c s1)]) tx tl)
                exact absurd (Or.inr h39) f
              · skip
                show aw_W _ _ _ _ (40, [some (.ref 19), some (.int (nI o)), some (.int (hdT l1))], []) (ae_rd (au σ [(13, nI (cnt - l1.length)), (14, nI (c + s1.length))]) (au α [(19, putL S c s1)]) tx tl)
                refine aw_go 1 rfl ⟨trivial, trivial⟩ ?_
                refine aw_ret rfl rfl (by first | exact Or.inl rfl | exact Or.inr rfl | exact bI_b _) ?_
                exact ⟨_, _, rfl, rfl, fun _ => ⟨rfl, rfl⟩⟩
          · skip
            have h28 := Classical.not_not.mp h28
            have h28 := cI_eqT (a := 1) (b := 0) rfl rfl (by omega) (by omega) h28
            show aw_W _ _ _ _ (29, [some (.ref 19), some (.int (nI o)), none], []) (ae_rd (au σ [(13, nI (cnt - l1.length)), (14, nI (c + s1.length))]) (au α [(19, putL S c s1)]) tx tl)
            exact absurd h28 (by decide)
        · skip
          have h3 := Classical.not_not.mp h3
          show aw_W _ _ _ _ (4, [some (.ref 19), some (.int (nI o)), none], []) (ae_rd (au σ [(13, nI a), (14, nI c)]) (au α [(19, S)]) tx tl)
          exact absurd h3 e
    · have hp := (pp_pH _ _ _ _ _ _ _ h1).1
      have hp1 := hp.1
      have hg1 := hp.2.1 hg
      have hl3 := gL_pos hg1
      obtain ⟨k1, k2⟩ := tk_rest (cnt := cnt) hT (by omega) hp
      obtain ⟨u1, u2, u3⟩ := tk_hd k1 hg1
      show aw_W _ _ _ _ (0, [some (.ref 19), some (.int (nI o)), none], []) (ae_rd (au σ [(13, nI a), (14, nI c)]) (au α [(19, S)]) tx tl)
      refine aw_go 1 rfl ⟨trivial, trivial⟩ ?_
      refine aw_callE rfl rfl (ev_Reader_token  (a := a) (cnt := cnt) rfl hcn (by omega) hc161 t1) ?_
      show aw_W _ _ _ _ (2, [some (.ref 19), some (.int (nI o)), none], [.int (hdT l)]) (ae_rd (au σ [(13, nI a), (14, nI c)]) (au α [(19, S)]) tx tl)
      refine aw_go 2 rfl ⟨trivial, trivial, trivial⟩ ?_
      refine aw_br (c := ¬ (hdT l) = (-3)) (fun h3 => ?_) (fun h3 => ?_)
      · skip
        show aw_W _ _ _ _ (25, [some (.ref 19), some (.int (nI o)), none], []) (ae_rd (au σ [(13, nI a), (14, nI c)]) (au α [(19, S)]) tx tl)
        refine aw_go 2 rfl ⟨trivial, trivial, trivial⟩ ?_
        refine aw_call rfl rfl (ih5 o l (false, l1, s1) a c S _ h1  ho hT hg hl hca (by simp only [rK] at hD ⊢; omega)) ?_
        rintro _ _ ⟨c_27, S_27, rfl, rfl, hb_27⟩
        show aw_W _ _ _ _ (28, [some (.ref 19), some (.int (nI o)), none], [.int 0]) (ae_rd (au σ [(13, nI (cnt - l1.length)), (14, c_27)]) (au α [(19, S_27)]) tx tl)
        refine aw_go 1 rfl ⟨trivial, trivial⟩ ?_
        refine aw_br (c := ¬ (0 : Int32) = 0) (fun h28 => ?_) (fun h28 => ?_)
        · skip
          have h28 := cI_eqF (a := 0) (b := 0) rfl rfl (by omega) (by omega) h28
          show aw_W _ _ _ _ (31, [some (.ref 19), some (.int (nI o)), none], []) (ae_rd (au σ [(13, nI (cnt - l1.length)), (14, c_27)]) (au α [(19, S_27)]) tx tl)
          exact absurd h28 (by decide)
        · skip
          have h28 := Classical.not_not.mp h28
          have h28 := cI_eqT (a := 0) (b := 0) rfl rfl (by omega) (by omega) h28
          show aw_W _ _ _ _ (29, [some (.ref 19), some (.int (nI o)), none], []) (ae_rd (au σ [(13, nI (cnt - l1.length)), (14, c_27)]) (au α [(19, S_27)]) tx tl)
          refine aw_go 1 rfl ⟨trivial, trivial⟩ ?_
          refine aw_ret rfl rfl (by first | exact Or.inl rfl | exact Or.inr rfl | exact bI_b _) ?_
          exact ⟨_, _, rfl, rfl, fun q => by cases q⟩
      · skip
        have h3 := Classical.not_not.mp h3
        show aw_W _ _ _ _ (4, [some (.ref 19), some (.int (nI o)), none], []) (ae_rd (au σ [(13, nI a), (14, nI c)]) (au α [(19, S)]) tx tl)
        exact absurd h3 e
theorem pr_one {cnt m : Nat} (hcn : (σ 12) = nI cnt) (hc161 : cnt ≤ 161) (ih0 : prX P σ α tx tl cnt m 0) (ih9 : prX P σ α tx tl cnt m 9) : prX P σ α tx tl cnt (m + 1) 9 := by
  intro o l R a c S D hpp ho hT hg hl hca hD
  obtain ⟨D, rfl⟩ : ∃ E, D = E + 3 := ⟨D - 3, by simp only [rK] at hD; omega⟩
  obtain ⟨t1, t2, t3⟩ := tk_hd hT hg
  have hl1 := gL_pos hg
  have ea : a = cnt - l.length := by omega
  refine aw_ev (cd := cd_Reader_one) rfl rfl rfl ?_
  replace hpp : (if ¬ hdT l < 0 ∧ ¬ 10005 < hdT l then some (true, l.tail, [hdT l]) else if 5 ≤ o then some (false, l, []) else if hdT l = -7 then bP (pp m 9 (o + 1) l.tail) (fun l1 s1 => some (true, l1, s1 ++ [-12])) else if hdT l = -9 then bP (pp m 0 (o + 1) l.tail) (fun l1 s1 => if hdT l1 = -10 then some (true, l1.tail, s1) else some (false, l1, [])) else some (false, l, [])) = some R := hpp
  by_cases e : ¬ hdT l < 0 ∧ ¬ 10005 < hdT l
  · rw [if_pos e] at hpp
    cases hpp
    have e17 : ¬ hdT l = -17 := fun q => e.1 (by rw [q]; decide)
    have ht := pH_tail (l := l) e17
    have htl : l.tail.length = l.length - 1 := List.length_tail
    have hl2 : 2 ≤ l.length := Nat.lt_of_not_le (fun q => absurd (gL_one hg q) e17)
    show aw_W _ _ _ _ (0, [some (.ref 19), some (.int (nI o)), none], []) (ae_rd (au σ [(13, nI a), (14, nI c)]) (au α [(19, S)]) tx tl)
    refine aw_go 1 rfl ⟨trivial, trivial⟩ ?_
    refine aw_callE rfl rfl (ev_Reader_token  (a := a) (cnt := cnt) rfl hcn (by omega) hc161 t1) ?_
    show aw_W _ _ _ _ (2, [some (.ref 19), some (.int (nI o)), none], [.int (hdT l)]) (ae_rd (au σ [(13, nI a), (14, nI c)]) (au α [(19, S)]) tx tl)
    refine aw_go 2 rfl ⟨trivial, trivial, trivial⟩ ?_
    refine aw_callE rfl rfl (ev_Token_isNumberOrName (t := (hdT l))) ?_
    show aw_W _ _ _ _ (5, [some (.ref 19), some (.int (nI o)), some (.int (hdT l))], [.int (bI (¬ (hdT l) < 0 ∧ ¬ 10005 < (hdT l)))]) (ae_rd (au σ [(13, nI a), (14, nI c)]) (au α [(19, S)]) tx tl)
    refine aw_go 1 rfl ⟨trivial, trivial⟩ ?_
    refine aw_br (c := (bI (¬ (hdT l) < 0 ∧ ¬ 10005 < (hdT l))) = 0) (fun h5 => ?_) (fun h5 => ?_)
    · skip
      have h5 := bI_f h5
      show aw_W _ _ _ _ (18, [some (.ref 19), some (.int (nI o)), some (.int (hdT l))], []) (ae_rd (au σ [(13, nI a), (14, nI c)]) (au α [(19, S)]) tx tl)
      exact absurd e h5
    · skip
      have h5 := bI_t h5
      show aw_W _ _ _ _ (6, [some (.ref 19), some (.int (nI o)), some (.int (hdT l))], []) (ae_rd (au σ [(13, nI a), (14, nI c)]) (au α [(19, S)]) tx tl)
      refine aw_go 2 rfl ⟨trivial, trivial, trivial⟩ ?_
      refine aw_call rfl rfl (ev_pass_y (t := (hdT l)) (a := a) (cnt := cnt) rfl hcn (by omega) hc161 t1) ?_
      rintro _ _ ⟨rfl, rfl⟩
      show aw_W _ _ _ _ (9, [some (.ref 19), some (.int (nI o)), some (.int (hdT l))], [.int 1]) (ae_rd (au σ [(13, nI (a + 1)), (14, nI c)]) (au α [(19, S)]) tx tl)
      refine aw_go 1 rfl ⟨trivial, trivial⟩ ?_
      refine aw_br (c := (1 : Int32) = 0) (fun h9 => ?_) (fun h9 => ?_)
      · skip
        have h9 := cI_eqT (a := 1) (b := 0) rfl rfl (by omega) (by omega) h9
        show aw_W _ _ _ _ (16, [some (.ref 19), some (.int (nI o)), some (.int (hdT l))], []) (ae_rd (au σ [(13, nI (a + 1)), (14, nI c)]) (au α [(19, S)]) tx tl)
        exact absurd h9 (by decide)
      · skip
        have h9 := cI_eqF (a := 1) (b := 0) rfl rfl (by omega) (by omega) h9
        show aw_W _ _ _ _ (10, [some (.ref 19), some (.int (nI o)), some (.int (hdT l))], []) (ae_rd (au σ [(13, nI (a + 1)), (14, nI c)]) (au α [(19, S)]) tx tl)
        refine aw_go 2 rfl ⟨trivial, trivial, trivial⟩ ?_
        refine aw_call rfl rfl (ev_Reader_write (x := (hdT l)) rfl (by omega)) ?_
        rintro _ _ ⟨rfl, rfl⟩
        show aw_W _ _ _ _ (13, [some (.ref 19), some (.int (nI o)), some (.int (hdT l))], [.int 1]) (ae_rd (au σ [(13, nI (a + 1)), (14, nI (c + 1))]) (au α [(19, upd S c (hdT l))]) tx tl)
        refine aw_go 1 rfl ⟨trivial, trivial⟩ ?_
        refine aw_br (c := (1 : Int32) = 0) (fun h13 => ?_) (fun h13 => ?_)
        · skip
          have h13 := cI_eqT (a := 1) (b := 0) rfl rfl (by omega) (by omega) h13
          show aw_W _ _ _ _ (16, [some (.ref 19), some (.int (nI o)), some (.int (hdT l))], []) (ae_rd (au σ [(13, nI (a + 1)), (14, nI (c + 1))]) (au α [(19, upd S c (hdT l))]) tx tl)
          exact absurd h13 (by decide)
        · skip
          have h13 := cI_eqF (a := 1) (b := 0) rfl rfl (by omega) (by omega) h13
          show aw_W _ _ _ _ (14, [some (.ref 19), some (.int (nI o)), some (.int (hdT l))], []) (ae_rd (au σ [(13, nI (a + 1)), (14, nI (c + 1))]) (au α [(19, upd S c (hdT l))]) tx tl)
          refine aw_go 2 rfl ⟨trivial, trivial, trivial⟩ ?_
          refine aw_ret rfl rfl (by first | exact Or.inl rfl | exact Or.inr rfl | exact bI_b _) ?_
          refine ⟨nI (c + 1), upd S c (hdT l), rfl, ?_, fun _ => ⟨rfl, rfl⟩⟩
          show _ = ae_rd (au σ [(13, nI (cnt - l.tail.length)), (14, nI (c + 1))]) (au α [(19, upd S c (hdT l))]) tx tl
          rw [show cnt - l.tail.length = a + 1 by omega]
  · rw [if_neg e] at hpp
    by_cases e5 : 5 ≤ o
    · rw [if_pos e5] at hpp
      cases hpp
      show aw_W _ _ _ _ (0, [some (.ref 19), some (.int (nI o)), none], []) (ae_rd (au σ [(13, nI a), (14, nI c)]) (au α [(19, S)]) tx tl)
      refine aw_go 1 rfl ⟨trivial, trivial⟩ ?_
      refine aw_callE rfl rfl (ev_Reader_token  (a := a) (cnt := cnt) rfl hcn (by omega) hc161 t1) ?_
      show aw_W _ _ _ _ (2, [some (.ref 19), some (.int (nI o)), none], [.int (hdT l)]) (ae_rd (au σ [(13, nI a), (14, nI c)]) (au α [(19, S)]) tx tl)
      refine aw_go 2 rfl ⟨trivial, trivial, trivial⟩ ?_
      refine aw_callE rfl rfl (ev_Token_isNumberOrName (t := (hdT l))) ?_
      show aw_W _ _ _ _ (5, [some (.ref 19), some (.int (nI o)), some (.int (hdT l))], [.int (bI (¬ (hdT l) < 0 ∧ ¬ 10005 < (hdT l)))]) (ae_rd (au σ [(13, nI a), (14, nI c)]) (au α [(19, S)]) tx tl)
      refine aw_go 1 rfl ⟨trivial, trivial⟩ ?_
      refine aw_br (c := (bI (¬ (hdT l) < 0 ∧ ¬ 10005 < (hdT l))) = 0) (fun h5 => ?_) (fun h5 => ?_)
      · skip
        have h5 := bI_f h5
        show aw_W _ _ _ _ (18, [some (.ref 19), some (.int (nI o)), some (.int (hdT l))], []) (ae_rd (au σ [(13, nI a), (14, nI c)]) (au α [(19, S)]) tx tl)
        refine aw_go 3 rfl ⟨trivial, trivial, trivial, trivial⟩ ?_
        refine aw_br (c := (nI o) < 5) (fun h20 => ?_) (fun h20 => ?_)
        · skip
          have h20 := cI_ltT (a := o) (b := 5) rfl rfl (by omega) (by omega) h20
          show aw_W _ _ _ _ (23, [some (.ref 19), some (.int (nI o)), some (.int (hdT l))], []) (ae_rd (au σ [(13, nI a), (14, nI c)]) (au α [(19, S)]) tx tl)
          exact absurd h20 (by omega)
        · skip
          have h20 := cI_ltF (a := o) (b := 5) rfl rfl (by omega) (by omega) h20
          show aw_W _ _ _ _ (21, [some (.ref 19), some (.int (nI o)), some (.int (hdT l))], []) (ae_rd (au σ [(13, nI a), (14, nI c)]) (au α [(19, S)]) tx tl)
          refine aw_go 1 rfl ⟨trivial, trivial⟩ ?_
          refine aw_ret rfl rfl (by first | exact Or.inl rfl | exact Or.inr rfl | exact bI_b _) ?_
          exact ⟨nI c, S, rfl, by show _ = ae_rd (au σ [(13, nI (cnt - l.length)), (14, nI c)]) (au α [(19, S)]) tx tl; rw [← ea], fun q => by cases q⟩
      · skip
        have h5 := bI_t h5
        show aw_W _ _ _ _ (6, [some (.ref 19), some (.int (nI o)), some (.int (hdT l))], []) (ae_rd (au σ [(13, nI a), (14, nI c)]) (au α [(19, S)]) tx tl)
        exact absurd h5 e
    · rw [if_neg e5] at hpp
      by_cases e7 : hdT l = -7
      · rw [if_pos e7] at hpp
        have e17 : ¬ hdT l = -17 := by rw [e7]; decide
        have ht := pH_tail (l := l) e17
        have ht1 := ht.1
        have htl : l.tail.length = l.length - 1 := List.length_tail
        have hl2 : 2 ≤ l.length := Nat.lt_of_not_le (fun q => absurd (gL_one hg q) e17)
        rcases bP_some hpp with ⟨l1, s1, h1, hpp⟩ | ⟨l1, s1, h1, rfl⟩
        · have hp := (pp_pH _ _ _ _ _ _ _ h1).1
          have hp1 := hp.1
          have hl3 := gL_pos (hp.2.1 (ht.2.1 hg))
          cases hpp
          show aw_W _ _ _ _ (0, [some (.ref 19), some (.int (nI o)), none], []) (ae_rd (au σ [(13, nI a), (14, nI c)]) (au α [(19, S)]) tx tl)
          refine aw_go 1 rfl ⟨trivial, trivial⟩ ?_
          refine aw_callE rfl rfl (ev_Reader_token  (a := a) (cnt := cnt) rfl hcn (by omega) hc161 t1) ?_
          show aw_W _ _ _ _ (2, [some (.ref 19), some (.int (nI o)), none], [.int (hdT l)]) (ae_rd (au σ [(13, nI a), (14, nI c)]) (au α [(19, S)]) tx tl)
          refine aw_go 2 rfl ⟨trivial, trivial, trivial⟩ ?_
          refine aw_callE rfl rfl (ev_Token_isNumberOrName (t := (hdT l))) ?_
          show aw_W _ _ _ _ (5, [some (.ref 19), some (.int (nI o)), some (.int (hdT l))], [.int (bI (¬ (hdT l) < 0 ∧ ¬ 10005 < (hdT l)))]) (ae_rd (au σ [(13, nI a), (14, nI c)]) (au α [(19, S)]) tx tl)
          refine aw_go 1 rfl ⟨trivial, trivial⟩ ?_
          refine aw_br (c := (bI (¬ (hdT l) < 0 ∧ ¬ 10005 < (hdT l))) = 0) (fun h5 => ?_) (fun h5 => ?_)
          · skip
            have h5 := bI_f h5
            show aw_W _ _ _ _ (18, [some (.ref 19), some (.int (nI o)), some (.int (hdT l))], []) (ae_rd (au σ [(13, nI a), (14, nI c)]) (au α [(19, S)]) tx tl)
            refine aw_go 3 rfl ⟨trivial, trivial, trivial, trivial⟩ ?_
            refine aw_br (c := (nI o) < 5) (fun h20 => ?_) (fun h20 => ?_)
            · skip
              have h20 := cI_ltT (a := o) (b := 5) rfl rfl (by omega) (by omega) h20
              show aw_W _ _ _ _ (23, [some (.ref 19), some (.int (nI o)), some (.int (hdT l))], []) (ae_rd (au σ [(13, nI a), (14, nI c)]) (au α [(19, S)]) tx tl)
              refine aw_go 3 rfl ⟨trivial, trivial, trivial, trivial⟩ ?_
              refine aw_br (c := ¬ (hdT l) = (-7)) (fun h25 => ?_) (fun h25 => ?_)
              · skip
                show aw_W _ _ _ _ (44, [some (.ref 19), some (.int (nI o)), some (.int (hdT l))], []) (ae_rd (au σ [(13, nI a), (14, nI c)]) (au α [(19, S)]) tx tl)
                exact absurd e7 h25
              · skip
                have h25 := Classical.not_not.mp h25
                show aw_W _ _ _ _ (26, [some (.ref 19), some (.int (nI o)), some (.int (hdT l))], []) (ae_rd (au σ [(13, nI a), (14, nI c)]) (au α [(19, S)]) tx tl)
                refine aw_go 2 rfl ⟨trivial, trivial, trivial⟩ ?_
                refine aw_call rfl rfl (ev_pass_y (t := (hdT l)) (a := a) (cnt := cnt) rfl hcn (by omega) hc161 t1) ?_
                rintro _ _ ⟨rfl, rfl⟩
                show aw_W _ _ _ _ (29, [some (.ref 19), some (.int (nI o)), some (.int (hdT l))], [.int 1]) (ae_rd (au σ [(13, nI (a + 1)), (14, nI c)]) (au α [(19, S)]) tx tl)
                refine aw_go 1 rfl ⟨trivial, trivial⟩ ?_
                refine aw_br (c := (1 : Int32) = 0) (fun h29 => ?_) (fun h29 => ?_)
                · skip
                  have h29 := cI_eqT (a := 1) (b := 0) rfl rfl (by omega) (by omega) h29
                  show aw_W _ _ _ _ (42, [some (.ref 19), some (.int (nI o)), some (.int (hdT l))], []) (ae_rd (au σ [(13, nI (a + 1)), (14, nI c)]) (au α [(19, S)]) tx tl)
                  exact absurd h29 (by decide)
                · skip
                  have h29 := cI_eqF (a := 1) (b := 0) rfl rfl (by omega) (by omega) h29
                  show aw_W _ _ _ _ (30, [some (.ref 19), some (.int (nI o)), some (.int (hdT l))], []) (ae_rd (au σ [(13, nI (a + 1)), (14, nI c)]) (au α [(19, S)]) tx tl)
                  refine aw_go 4 rfl ⟨trivial, trivial, trivial, trivial, trivial⟩ ?_
                  show aw_W _ _ _ _ (34, [some (.ref 19), some (.int (nI o)), some (.int (hdT l))], [.int ((nI o) + 1), .ref 19]) (ae_rd (au σ [(13, nI (a + 1)), (14, nI c)]) (au α [(19, S)]) tx tl)
                  rw [show (nI o) + 1 = nI (o + 1) from (cI_add (a := o) (b := 1) rfl rfl)]
                  refine aw_call rfl rfl (ih9 (o + 1) l.tail (true, l1, s1) (a + 1) c S _ h1  (by omega) t3 (ht.2.1 hg) (by omega) (by omega) (by simp only [rK] at hD ⊢; omega)) ?_
                  rintro _ _ ⟨c_34, S_34, rfl, rfl, hb_34⟩
                  show aw_W _ _ _ _ (35, [some (.ref 19), some (.int (nI o)), some (.int (hdT l))], [.int 1]) (ae_rd (au σ [(13, nI (cnt - l1.length)), (14, c_34)]) (au α [(19, S_34)]) tx tl)
                  obtain ⟨rfl, rfl⟩ := hb_34 rfl
                  refine aw_go 1 rfl ⟨trivial, trivial⟩ ?_
                  refine aw_br (c := (1 : Int32) = 0) (fun h35 => ?_) (fun h35 => ?_)
                  · skip
                    have h35 := cI_eqT (a := 1) (b := 0) rfl rfl (by omega) (by omega) h35
                    show aw_W _ _ _ _ (42, [some (.ref 19), some (.int (nI o)), some (.int (hdT l))], []) (ae_rd (au σ [(13, nI (cnt - l1.length)), (14, nI (c + s1.length))]) (au α [(19, putL S c s1)]) tx tl)
                    exact absurd h35 (by decide)
                  · skip
                    have h35 := cI_eqF (a := 1) (b := 0) rfl rfl (by omega) (by omega) h35
                    show aw_W _ _ _ _ (36, [some (.ref 19), some (.int (nI o)), some (.int (hdT l))], []) (ae_rd (au σ [(13, nI (cnt - l1.length)), (14, nI (c + s1.length))]) (au α [(19, putL S c s1)]) tx tl)
                    refine aw_go 2 rfl ⟨trivial, trivial, trivial⟩ ?_
                    refine aw_call rfl rfl (ev_Reader_write (x := (-12)) rfl (by omega)) ?_
                    rintro _ _ ⟨rfl, rfl⟩
                    show aw_W _ _ _ _ (39, [some (.ref 19), some (.int (nI o)), some (.int (hdT l))], [.int 1]) (ae_rd (au σ [(13, nI (cnt - l1.length)), (14, nI ((c + s1.length) + 1))]) (au α [(19, upd (putL S c s1) (c + s1.length) (-12))]) tx tl)
                    refine aw_go 1 rfl ⟨trivial, trivial⟩ ?_
                    refine aw_br (c := (1 : Int32) = 0) (fun h39 => ?_) (fun h39 => ?_)
                    · skip
                      have h39 := cI_eqT (a := 1) (b := 0) rfl rfl (by omega) (by omega) h39
                      show aw_W _ _ _ _ (42, [some (.ref 19), some (.int (nI o)), some (.int (hdT l))], []) (ae_rd (au σ [(13, nI (cnt - l1.length)), (14, nI ((c + s1.length) + 1))]) (au α [(19, upd (putL S c s1) (c + s1.length) (-12))]) tx tl)
                      exact absurd h39 (by decide)
                    · skip
                      have h39 := cI_eqF (a := 1) (b := 0) rfl rfl (by omega) (by omega) h39
                      show aw_W _ _ _ _ (40, [some (.ref 19), some (.int (nI o)), some (.int (hdT l))], []) (ae_rd (au σ [(13, nI (cnt - l1.length)), (14, nI ((c + s1.length) + 1))]) (au α [(19, upd (putL S c s1) (c + s1.length) (-12))]) tx tl)
                      refine aw_go 2 rfl ⟨trivial, trivial, trivial⟩ ?_
                      refine aw_ret rfl rfl (by first | exact Or.inl rfl | exact Or.inr rfl | exact bI_b _) ?_
                      refine ⟨_, _, rfl, rfl, fun _ => ⟨?_, ?_⟩⟩
                      · rw [len_app]; congr 1
                      · rw [putL_app]; rfl
            · skip
              have h20 := cI_ltF (a := o) (b := 5) rfl rfl (by omega) (by omega) h20
              show aw_W _ _ _ _ (21, [some (.ref 19), some (.int (nI o)), some (.int (hdT l))], []) (ae_rd (au σ [(13, nI a), (14, nI c)]) (au α [(19, S)]) tx tl)
              exact absurd h20 (by omega)
          · skip
            have h5 := bI_t h5
            show aw_W _ _ _ _ (6, [some (.ref 19), some (.int (nI o)), some (.int (hdT l))], []) (ae_rd (au σ [(13, nI a), (14, nI c)]) (au α [(19, S)]) tx tl)
            exact absurd h5 e
        · have hp := (pp_pH _ _ _ _ _ _ _ h1).1
          have hp1 := hp.1
          have hl3 := gL_pos (hp.2.1 (ht.2.1 hg))
          show aw_W _ _ _ _ (0, [some (.ref 19), some (.int (nI o)), none], []) (ae_rd (au σ [(13, nI a), (14, nI c)]) (au α [(19, S)]) tx tl)
          refine aw_go 1 rfl ⟨trivial, trivial⟩ ?_
          refine aw_callE rfl rfl (ev_Reader_token  (a := a) (cnt := cnt) rfl hcn (by omega) hc161 t1) ?_
          show aw_W _ _ _ _ (2, [some (.ref 19), some (.int (nI o)), none], [.int (hdT l)]) (ae_rd (au σ [(13, nI a), (14, nI c)]) (au α [(19, S)]) tx tl)
          refine aw_go 2 rfl ⟨trivial, trivial, trivial⟩ ?_
          refine aw_callE rfl rfl (ev_Token_isNumberOrName (t := (hdT l))) ?_
          show aw_W _ _ _ _ (5, [some (.ref 19), some (.int (nI o)), some (.int (hdT l))], [.int (bI (¬ (hdT l) < 0 ∧ ¬ 10005 < (hdT l)))]) (ae_rd (au σ [(13, nI a), (14, nI c)]) (au α [(19, S)]) tx tl)
          refine aw_go 1 rfl ⟨trivial, trivial⟩ ?_
          refine aw_br (c := (bI (¬ (hdT l) < 0 ∧ ¬ 10005 < (hdT l))) = 0) (fun h5 => ?_) (fun h5 => ?_)
          · skip
            have h5 := bI_f h5
            show aw_W _ _ _ _ (18, [some (.ref 19), some (.int (nI o)), some (.int (hdT l))], []) (ae_rd (au σ [(13, nI a), (14, nI c)]) (au α [(19, S)]) tx tl)
            refine aw_go 3 rfl ⟨trivial, trivial, trivial, trivial⟩ ?_
            refine aw_br (c := (nI o) < 5) (fun h20 => ?_) (fun h20 => ?_)
            · skip
              have h20 := cI_ltT (a := o) (b := 5) rfl rfl (by omega) (by omega) h20
              show aw_W _ _ _ _ (23, [some (.ref 19), some (.int (nI o)), some (.int (hdT l))], []) (ae_rd (au σ [(13, nI a), (14, nI c)]) (au α [(19, S)]) tx tl)
              refine aw_go 3 rfl ⟨trivial, trivial, trivial, trivial⟩ ?_
              refine aw_br (c := ¬ (hdT l) = (-7)) (fun h25 => ?_) (fun h25 => ?_)
              · skip
                show aw_W _ _ _ _ (44, [some (.ref 19), some (.int (nI o)), some (.int (hdT l))], []) (ae_rd (au σ [(13, nI a), (14, nI c)]) (au α [(19, S)]) tx tl)
                exact absurd e7 h25
              · skip
                have h25 := Classical.not_not.mp h25
                show aw_W _ _ _ _ (26, [some (.ref 19), some (.int (nI o)), some (.int (hdT l))], []) (ae_rd (au σ [(13, nI a), (14, nI c)]) (au α [(19, S)]) tx tl)
                refine aw_go 2 rfl ⟨trivial, trivial, trivial⟩ ?_
                refine aw_call rfl rfl (ev_pass_y (t := (hdT l)) (a := a) (cnt := cnt) rfl hcn (by omega) hc161 t1) ?_
                rintro _ _ ⟨rfl, rfl⟩
                show aw_W _ _ _ _ (29, [some (.ref 19), some (.int (nI o)), some (.int (hdT l))], [.int 1]) (ae_rd (au σ [(13, nI (a + 1)), (14, nI c)]) (au α [(19, S)]) tx tl)
                refine aw_go 1 rfl ⟨trivial, trivial⟩ ?_
                refine aw_br (c := (1 : Int32) = 0) (fun h29 => ?_) (fun h29 => ?_)
                · skip
                  have h29 := cI_eqT (a := 1) (b := 0) rfl rfl (by omega) (by omega) h29
                  show aw_W _ _ _ _ (42, [some (.ref 19), some (.int (nI o)), some (.int (hdT l))], []) (ae_rd (au σ [(13, nI (a + 1)), (14, nI c)]) (au α [(19, S)]) tx tl)
                  exact absurd h29 (by decide)
                · skip
                  have h29 := cI_eqF (a := 1) (b := 0) rfl rfl (by omega) (by omega) h29
                  show aw_W _ _ _ _ (30, [some (.ref 19), some (.int (nI o)), some (.int (hdT l))], []) (ae_rd (au σ [(13, nI (a + 1)), (14, nI c)]) (au α [(19, S)]) tx tl)
                  refine aw_go 4 rfl ⟨trivial, trivial, trivial, trivial, trivial⟩ ?_
                  show aw_W _ _ _ _ (34, [some (.ref 19), some (.int (nI o)), some (.int (hdT l))], [.int ((nI o) + 1), .ref 19]) (ae_rd (au σ [(13, nI (a + 1)), (14, nI c)]) (au α [(19, S)]) tx tl)
                  rw [show (nI o) + 1 = nI (o + 1) from (cI_add (a := o) (b := 1) rfl rfl)]
                  refine aw_call rfl rfl (ih9 (o + 1) l.tail (false, l1, s1) (a + 1) c S _ h1  (by omega) t3 (ht.2.1 hg) (by omega) (by omega) (by simp only [rK] at hD ⊢; omega)) ?_
                  rintro _ _ ⟨c_34, S_34, rfl, rfl, hb_34⟩
                  show aw_W _ _ _ _ (35, [some (.ref 19), some (.int (nI o)), some (.int (hdT l))], [.int 0]) (ae_rd (au σ [(13, nI (cnt - l1.length)), (14, c_34)]) (au α [(19, S_34)]) tx tl)
                  refine aw_go 1 rfl ⟨trivial, trivial⟩ ?_
                  refine aw_br (c := (0 : Int32) = 0) (fun h35 => ?_) (fun h35 => ?_)
                  · skip
                    have h35 := cI_eqT (a := 0) (b := 0) rfl rfl (by omega) (by omega) h35
                    show aw_W _ _ _ _ (42, [some (.ref 19), some (.int (nI o)), some (.int (hdT l))], []) (ae_rd (au σ [(13, nI (cnt - l1.length)), (14, c_34)]) (au α [(19, S_34)]) tx tl)
                    refine aw_go 1 rfl ⟨trivial, trivial⟩ ?_
                    refine aw_ret rfl rfl (by first | exact Or.inl rfl | exact Or.inr rfl | exact bI_b _) ?_
                    exact ⟨_, _, rfl, rfl, fun q => by cases q⟩
                  · skip
                    have h35 := cI_eqF (a := 0) (b := 0) rfl rfl (by omega) (by omega) h35
                    show aw_W _ _ _ _ (36, [some (.ref 19), some (.int (nI o)), some (.int (hdT l))], []) (ae_rd (au σ [(13, nI (cnt - l1.length)), (14, c_34)]) (au α [(19, S_34)]) tx tl)
                    exact absurd h35 (by decide)
            · skip
              have h20 := cI_ltF (a := o) (b := 5) rfl rfl (by omega) (by omega) h20
              show aw_W _ _ _ _ (21, [some (.ref 19), some (.int (nI o)), some (.int (hdT l))], []) (ae_rd (au σ [(13, nI a), (14, nI c)]) (au α [(19, S)]) tx tl)
              exact absurd h20 (by omega)
          · skip
            have h5 := bI_t h5
            show aw_W _ _ _ _ (6, [some (.ref 19), some (.int (nI o)), some (.int (hdT l))], []) (ae_rd (au σ [(13, nI a), (14, nI c)]) (au α [(19, S)]) tx tl)
            exact absurd h5 e
      · rw [if_neg e7] at hpp
        by_cases e9 : hdT l = -9
        · rw [if_pos e9] at hpp
          have e17 : ¬ hdT l = -17 := by rw [e9]; decide
          have ht := pH_tail (l := l) e17
          have ht1 := ht.1
          have htl : l.tail.length = l.length - 1 := List.length_tail
          have hl2 : 2 ≤ l.length := Nat.lt_of_not_le (fun q => absurd (gL_one hg q) e17)
          rcases bP_some hpp with ⟨l1, s1, h1, hpp⟩ | ⟨l1, s1, h1, rfl⟩
          · have hp := (pp_pH _ _ _ _ _ _ _ h1).1
            have hp1 := hp.1
            have hg1 := hp.2.1 (ht.2.1 hg)
            have hl3 := gL_pos hg1
            obtain ⟨k1, k2⟩ := tk_rest (cnt := cnt) t3 (by omega) hp
            obtain ⟨u1, u2, u3⟩ := tk_hd k1 hg1
            by_cases f : hdT l1 = -10
            · rw [if_pos f] at hpp
              cases hpp
              have f17 : ¬ hdT l1 = -17 := by rw [f]; decide
              have htl1 : l1.tail.length = l1.length - 1 := List.length_tail
              have hl4 : 2 ≤ l1.length := Nat.lt_of_not_le (fun q => absurd (gL_one hg1 q) f17)
              show aw_W _ _ _ _ (0, [some (.ref 19), some (.int (nI o)), none], []) (ae_rd (au σ [(13, nI a), (14, nI c)]) (au α [(19, S)]) tx tl)
              refine aw_go 1 rfl ⟨trivial, trivial⟩ ?_
              refine aw_callE rfl rfl (ev_Reader_token  (a := a) (cnt := cnt) rfl hcn (by omega) hc161 t1) ?_
              show aw_W _ _ _ _ (2, [some (.ref 19), some (.int (nI o)), none], [.int (hdT l)]) (ae_rd (au σ [(13, nI a), (14, nI c)]) (au α [(19, S)]) tx tl)
              refine aw_go 2 rfl ⟨trivial, trivial, trivial⟩ ?_
              refine aw_callE rfl rfl (ev_Token_isNumberOrName (t := (hdT l))) ?_
              show aw_W _ _ _ _ (5, [some (.ref 19), some (.int (nI o)), some (.int (hdT l))], [.int (bI (¬ (hdT l) < 0 ∧ ¬ 10005 < (hdT l)))]) (ae_rd (au σ [(13, nI a), (14, nI c)]) (au α [(19, S)]) tx tl)
              refine aw_go 1 rfl ⟨trivial, trivial⟩ ?_
              refine aw_br (c := (bI (¬ (hdT l) < 0 ∧ ¬ 10005 < (hdT l))) = 0) (fun h5 => ?_) (fun h5 => ?_)
              · skip
                have h5 := bI_f h5
                show aw_W _ _ _ _ (18, [some (.ref 19), some (.int (nI o)), some (.int (hdT l))], []) (ae_rd (au σ [(13, nI a), (14, nI c)]) (au α [(19, S)]) tx tl)
                refine aw_go 3 rfl ⟨trivial, trivial, trivial, trivial⟩ ?_
                refine aw_br (c := (nI o) < 5) (fun h20 => ?_) (fun h20 => ?_)
                · skip
                  have h20 := cI_ltT (a := o) (b := 5) rfl rfl (by omega) (by omega) h20
                  show aw_W _ _ _ _ (23, [some (.ref 19), some (.int (nI o)), some (.int (hdT l))], []) (ae_rd (au σ [(13, nI a), (14, nI c)]) (au α [(19, S)]) tx tl)
                  refine aw_go 3 rfl ⟨trivial, trivial, trivial, trivial⟩ ?_
                  refine aw_br (c := ¬ (hdT l) = (-7)) (fun h25 => ?_) (fun h25 => ?_)
                  · skip
                    show aw_W _ _ _ _ (44, [some (.ref 19), some (.int (nI o)), some (.int (hdT l))], []) (ae_rd (au σ [(13, nI a), (14, nI c)]) (au α [(19, S)]) tx tl)
                    refine aw_go 2 rfl ⟨trivial, trivial, trivial⟩ ?_
                    refine aw_call rfl rfl (ev_pass_y (t := (-9)) (a := a) (cnt := cnt) rfl hcn (by omega) hc161 (by rw [← e9]; exact t1)) ?_
                    rintro _ _ ⟨rfl, rfl⟩
                    show aw_W _ _ _ _ (47, [some (.ref 19), some (.int (nI o)), some (.int (hdT l))], [.int 1]) (ae_rd (au σ [(13, nI (a + 1)), (14, nI c)]) (au α [(19, S)]) tx tl)
                    refine aw_go 1 rfl ⟨trivial, trivial⟩ ?_
                    refine aw_br (c := (1 : Int32) = 0) (fun h47 => ?_) (fun h47 => ?_)
                    · skip
                      have h47 := cI_eqT (a := 1) (b := 0) rfl rfl (by omega) (by omega) h47
                      show aw_W _ _ _ _ (60, [some (.ref 19), some (.int (nI o)), some (.int (hdT l))], []) (ae_rd (au σ [(13, nI (a + 1)), (14, nI c)]) (au α [(19, S)]) tx tl)
                      exact absurd h47 (by decide)
                    · skip
                      have h47 := cI_eqF (a := 1) (b := 0) rfl rfl (by omega) (by omega) h47
                      show aw_W _ _ _ _ (48, [some (.ref 19), some (.int (nI o)), some (.int (hdT l))], []) (ae_rd (au σ [(13, nI (a + 1)), (14, nI c)]) (au α [(19, S)]) tx tl)
                      refine aw_go 4 rfl ⟨trivial, trivial, trivial, trivial, trivial⟩ ?_
                      show aw_W _ _ _ _ (52, [some (.ref 19), some (.int (nI o)), some (.int (hdT l))], [.int ((nI o) + 1), .ref 19]) (ae_rd (au σ [(13, nI (a + 1)), (14, nI c)]) (au α [(19, S)]) tx tl)
                      rw [show (nI o) + 1 = nI (o + 1) from (cI_add (a := o) (b := 1) rfl rfl)]
                      refine aw_call rfl rfl (ih0 (o + 1) l.tail (true, l1, s1) (a + 1) c S _ h1  (by omega) t3 (ht.2.1 hg) (by omega) (by omega) (by simp only [rK] at hD ⊢; omega)) ?_
                      rintro _ _ ⟨c_52, S_52, rfl, rfl, hb_52⟩
                      show aw_W _ _ _ _ (53, [some (.ref 19), some (.int (nI o)), some (.int (hdT l))], [.int 1]) (ae_rd (au σ [(13, nI (cnt - l1.length)), (14, c_52)]) (au α [(19, S_52)]) tx tl)
                      obtain ⟨rfl, rfl⟩ := hb_52 rfl
                      refine aw_go 1 rfl ⟨trivial, trivial⟩ ?_
                      refine aw_br (c := (1 : Int32) = 0) (fun h53 => ?_) (fun h53 => ?_)
                      · skip
                        have h53 := cI_eqT (a := 1) (b := 0) rfl rfl (by omega) (by omega) h53
                        show aw_W _ _ _ _ (60, [some (.ref 19), some (.int (nI o)), some (.int (hdT l))], []) (ae_rd (au σ [(13, nI (cnt - l1.length)), (14, nI (c + s1.length))]) (au α [(19, putL S c s1)]) tx tl)
                        exact absurd h53 (by decide)
                      · skip
                        have h53 := cI_eqF (a := 1) (b := 0) rfl rfl (by omega) (by omega) h53
                        show aw_W _ _ _ _ (54, [some (.ref 19), some (.int (nI o)), some (.int (hdT l))], []) (ae_rd (au σ [(13, nI (cnt - l1.length)), (14, nI (c + s1.length))]) (au α [(19, putL S c s1)]) tx tl)
                        refine aw_go 2 rfl ⟨trivial, trivial, trivial⟩ ?_
                        refine aw_call rfl rfl (ev_pass_y (t := (-10)) (a := cnt - l1.length) (cnt := cnt) rfl hcn (by omega) hc161 (by rw [← f]; exact u1)) ?_
                        rintro _ _ ⟨rfl, rfl⟩
                        show aw_W _ _ _ _ (57, [some (.ref 19), some (.int (nI o)), some (.int (hdT l))], [.int 1]) (ae_rd (au σ [(13, nI ((cnt - l1.length) + 1)), (14, nI (c + s1.length))]) (au α [(19, putL S c s1)]) tx tl)
                        refine aw_go 1 rfl ⟨trivial, trivial⟩ ?_
                        refine aw_br (c := (1 : Int32) = 0) (fun h57 => ?_) (fun h57 => ?_)
                        · skip
                          have h57 := cI_eqT (a := 1) (b := 0) rfl rfl (by omega) (by omega) h57
                          show aw_W _ _ _ _ (60, [some (.ref 19), some (.int (nI o)), some (.int (hdT l))], []) (ae_rd (au σ [(13, nI ((cnt - l1.length) + 1)), (14, nI (c + s1.length))]) (au α [(19, putL S c s1)]) tx tl)
                          exact absurd h57 (by decide)
                        · skip
                          have h57 := cI_eqF (a := 1) (b := 0) rfl rfl (by omega) (by omega) h57
                          show aw_W _ _ _ _ (58, [some (.ref 19), some (.int (nI o)), some (.int (hdT l))], []) (ae_rd (au σ [(13, nI ((cnt - l1.length) + 1)), (14, nI (c + s1.length))]) (au α [(19, putL S c s1)]) tx tl)
                          refine aw_go 2 rfl ⟨trivial, trivial, trivial⟩ ?_
                          refine aw_ret rfl rfl (by first | exact Or.inl rfl | exact Or.inr rfl | exact bI_b _) ?_
                          refine ⟨_, _, rfl, ?_, fun _ => ⟨rfl, rfl⟩⟩
                          show _ = ae_rd (au σ [(13, nI (cnt - l1.tail.length)), (14, nI (c + s1.length))]) (au α [(19, putL S c s1)]) tx tl
                          rw [show cnt - l1.tail.length = cnt - l1.length + 1 by omega]
                  · skip
                    have h25 := Classical.not_not.mp h25
                    show aw_W _ _ _ _ (26, [some (.ref 19), some (.int (nI o)), some (.int (hdT l))], []) (ae_rd (au σ [(13, nI a), (14, nI c)]) (au α [(19, S)]) tx tl)
                    exact absurd h25 e7
                · skip
                  have h20 := cI_ltF (a := o) (b := 5) rfl rfl (by omega) (by omega) h20
                  show aw_W _ _ _ _ (21, [some (.ref 19), some (.int (nI o)), some (.int (hdT l))], []) (ae_rd (au σ [(13, nI a), (14, nI c)]) (au α [(19, S)]) tx tl)
                  exact absurd h20 (by omega)
              · skip
                have h5 := bI_t h5
                show aw_W _ _ _ _ (6, [some (.ref 19), some (.int (nI o)), some (.int (hdT l))], []) (ae_rd (au σ [(13, nI a), (14, nI c)]) (au α [(19, S)]) tx tl)
                exact absurd h5 e
            · rw [if_neg f] at hpp
              cases hpp
              show aw_W _ _ _ _ (0, [some (.ref 19), some (.int (nI o)), none], []) (ae_rd (au σ [(13, nI a), (14, nI c)]) (au α [(19, S)]) tx tl)
              refine aw_go 1 rfl ⟨trivial, trivial⟩ ?_
              refine aw_callE rfl rfl (ev_Reader_token  (a := a) (cnt := cnt) rfl hcn (by omega) hc161 t1) ?_
              show aw_W _ _ _ _ (2, [some (.ref 19), some (.int (nI o)), none], [.int (hdT l)]) (ae_rd (au σ [(13, nI a), (14, nI c)]) (au α [(19, S)]) tx tl)
              refine aw_go 2 rfl ⟨trivial, trivial, trivial⟩ ?_
              refine aw_callE rfl rfl (ev_Token_isNumberOrName (t := (hdT l))) ?_
              show aw_W _ _ _ _ (5, [some (.ref 19), some (.int (nI o)), some (.int (hdT l))], [.int (bI (¬ (hdT l) < 0 ∧ ¬ 10005 < (hdT l)))]) (ae_rd (au σ [(13, nI a), (14, nI c)]) (au α [(19, S)]) tx tl)
              refine aw_go 1 rfl ⟨trivial, trivial⟩ ?_
              refine aw_br (c := (bI (¬ (hdT l) < 0 ∧ ¬ 10005 < (hdT l))) = 0) (fun h5 => ?_) (fun h5 => ?_)
              · skip
                have h5 := bI_f h5
                show aw_W _ _ _ _ (18, [some (.ref 19), some (.int (nI o)), some (.int (hdT l))], []) (ae_rd (au σ [(13, nI a), (14, nI c)]) (au α [(19, S)]) tx tl)
                refine aw_go 3 rfl ⟨trivial, trivial, trivial, trivial⟩ ?_
                refine aw_br (c := (nI o) < 5) (fun h20 => ?_) (fun h20 => ?_)
                · skip
                  have h20 := cI_ltT (a := o) (b := 5) rfl rfl (by omega) (by omega) h20
                  show aw_W _ _ _ _ (23, [some (.ref 19), some (.int (nI o)), some (.int (hdT l))], []) (ae_rd (au σ [(13, nI a), (14, nI c)]) (au α [(19, S)]) tx tl)
                  refine aw_go 3 rfl ⟨trivial, trivial, trivial, trivial⟩ ?_
                  refine aw_br (c := ¬ (hdT l) = (-7)) (fun h25 => ?_) (fun h25 => ?_)
                  · skip
                    show aw_W _ _ _ _ (44, [some (.ref 19), some (.int (nI o)), some (.int (hdT l))], []) (ae_rd (au σ [(13, nI a), (14, nI c)]) (au α [(19, S)]) tx tl)
                    refine aw_go 2 rfl ⟨trivial, trivial, trivial⟩ ?_
                    refine aw_call rfl rfl (ev_pass_y (t := (-9)) (a := a) (cnt := cnt) rfl hcn (by omega) hc161 (by rw [← e9]; exact t1)) ?_
                    rintro _ _ ⟨rfl, rfl⟩
                    show aw_W _ _ _ _ (47, [some (.ref 19), some (.int (nI o)), some (.int (hdT l))], [.int 1]) (ae_rd (au σ [(13, nI (a + 1)), (14, nI c)]) (au α [(19, S)]) tx tl)
                    refine aw_go 1 rfl ⟨trivial, trivial⟩ ?_
                    refine aw_br (c := (1 : Int32) = 0) (fun h47 => ?_) (fun h47 => ?_)
                    · skip
                      have h47 := cI_eqT (a := 1) (b := 0) rfl rfl (by omega) (by omega) h47
                      show aw_W _ _ _ _ (60, [some (.ref 19), some (.int (nI o)), some (.int (hdT l))], []) (ae_rd (au σ [(13, nI (a + 1)), (14, nI c)]) (au α [(19, S)]) tx tl)
                      exact absurd h47 (by decide)
                    · skip
                      have h47 := cI_eqF (a := 1) (b := 0) rfl rfl (by omega) (by omega) h47
                      show aw_W _ _ _ _ (48, [some (.ref 19), some (.int (nI o)), some (.int (hdT l))], []) (ae_rd (au σ [(13, nI (a + 1)), (14, nI c)]) (au α [(19, S)]) tx tl)
                      refine aw_go 4 rfl ⟨trivial, trivial, trivial, trivial, trivial⟩ ?_
                      show aw_W _ _ _ _ (52, [some (.ref 19), some (.int (nI o)), some (.int (hdT l))], [.int ((nI o) + 1), .ref 19]) (ae_rd (au σ [(13, nI (a + 1)), (14, nI c)]) (au α [(19, S)]) tx tl)
                      rw [show (nI o) + 1 = nI (o + 1) from (cI_add (a := o) (b := 1) rfl rfl)]
                      refine aw_call rfl rfl (ih0 (o + 1) l.tail (true, l1, s1) (a + 1) c S _ h1  (by omega) t3 (ht.2.1 hg) (by omega) (by omega) (by simp only [rK] at hD ⊢; omega)) ?_
                      rintro _ _ ⟨c_52, S_52, rfl, rfl, hb_52⟩
                      show aw_W _ _ _ _ (53, [some (.ref 19), some (.int (nI o)), some (.int (hdT l))], [.int 1]) (ae_rd (au σ [(13, nI (cnt - l1.length)), (14, c_52)]) (au α [(19, S_52)]) tx tl)
                      obtain ⟨rfl, rfl⟩ := hb_52 rfl
                      refine aw_go 1 rfl ⟨trivial, trivial⟩ ?_
                      refine aw_br (c := (1 : Int32) = 0) (fun h53 => ?_) (fun h53 => ?_)
                      · skip
                        have h53 := cI_eqT (a := 1) (b := 0) rfl rfl (by omega) (by omega) h53
                        show aw_W _ _ _ _ (60, [some (.ref 19), some (.int (nI o)), some (.int (hdT l))], []) (ae_rd (au σ [(13, nI (cnt - l1.length)), (14, nI (c + s1.length))]) (au α [(19, putL S c s1)]) tx tl)
                        exact absurd h53 (by decide)
                      · skip
                        have h53 := cI_eqF (a := 1) (b := 0) rfl rfl (by omega) (by omega) h53
                        show aw_W _ _ _ _ (54, [some (.ref 19), some (.int (nI o)), some (.int (hdT l))], []) (ae_rd (au σ [(13, nI (cnt - l1.length)), (14, nI (c + s1.length))]) (au α [(19, putL S c s1)]) tx tl)
                        refine aw_go 2 rfl ⟨trivial, trivial, trivial⟩ ?_
                        refine aw_callE rfl rfl (ev_pass_n (y := (-10)) (a := cnt - l1.length) (cnt := cnt) rfl hcn (by omega) hc161 u1 f) ?_
                        show aw_W _ _ _ _ (57, [some (.ref 19), some (.int (nI o)), some (.int (hdT l))], [.int 0]) (ae_rd (au σ [(13, nI (cnt - l1.length)), (14, nI (c + s1.length))]) (au α [(19, putL S c s1)]) tx tl)
                        refine aw_go 1 rfl ⟨trivial, trivial⟩ ?_
                        refine aw_br (c := (0 : Int32) = 0) (fun h57 => ?_) (fun h57 => ?_)
                        · skip
                          have h57 := cI_eqT (a := 0) (b := 0) rfl rfl (by omega) (by omega) h57
                          show aw_W _ _ _ _ (60, [some (.ref 19), some (.int (nI o)), some (.int (hdT l))], []) (ae_rd (au σ [(13, nI (cnt - l1.length)), (14, nI (c + s1.length))]) (au α [(19, putL S c s1)]) tx tl)
                          refine aw_go 1 rfl ⟨trivial, trivial⟩ ?_
                          refine aw_ret rfl rfl (by first | exact Or.inl rfl | exact Or.inr rfl | exact bI_b _) ?_
                          exact ⟨_, _, rfl, rfl, fun q => by cases q⟩
                        · skip
                          have h57 := cI_eqF (a := 0) (b := 0) rfl rfl (by omega) (by omega) h57
                          show aw_W _ _ _ _ (58, [some (.ref 19), some (.int (nI o)), some (.int (hdT l))], []) (ae_rd (au σ [(13, nI (cnt - l1.length)), (14, nI (c + s1.length))]) (au α [(19, putL S c s1)]) tx tl)
                          exact absurd h57 (by decide)
                  · skip
                    have h25 := Classical.not_not.mp h25
                    show aw_W _ _ _ _ (26, [some (.ref 19), some (.int (nI o)), some (.int (hdT l))], []) (ae_rd (au σ [(13, nI a), (14, nI c)]) (au α [(19, S)]) tx tl)
                    exact absurd h25 e7
                · skip
                  have h20 := cI_ltF (a := o) (b := 5) rfl rfl (by omega) (by omega) h20
                  show aw_W _ _ _ _ (21, [some (.ref 19), some (.int (nI o)), some (.int (hdT l))], []) (ae_rd (au σ [(13, nI a), (14, nI c)]) (au α [(19, S)]) tx tl)
                  exact absurd h20 (by omega)
              · skip
                have h5 := bI_t h5
                show aw_W _ _ _ _ (6, [some (.ref 19), some (.int (nI o)), some (.int (hdT l))], []) (ae_rd (au σ [(13, nI a), (14, nI c)]) (au α [(19, S)]) tx tl)
                exact absurd h5 e
          · have hp := (pp_pH _ _ _ _ _ _ _ h1).1
            have hp1 := hp.1
            show aw_W _ _ _ _ (0, [some (.ref 19), some (.int (nI o)), none], []) (ae_rd (au σ [(13, nI a), (14, nI c)]) (au α [(19, S)]) tx tl)
            refine aw_go 1 rfl ⟨trivial, trivial⟩ ?_
            refine aw_callE rfl rfl (ev_Reader_token  (a := a) (cnt := cnt) rfl hcn (by omega) hc161 t1) ?_
            show aw_W _ _ _ _ (2, [some (.ref 19), some (.int (nI o)), none], [.int (hdT l)]) (ae_rd (au σ [(13, nI a), (14, nI c)]) (au α [(19, S)]) tx tl)
            refine aw_go 2 rfl ⟨trivial, trivial, trivial⟩ ?_
            refine aw_callE rfl rfl (ev_Token_isNumberOrName (t := (hdT l))) ?_
            show aw_W _ _ _ _ (5, [some (.ref 19), some (.int (nI o)), some (.int (hdT l))], [.int (bI (¬ (hdT l) < 0 ∧ ¬ 10005 < (hdT l)))]) (ae_rd (au σ [(13, nI a), (14, nI c)]) (au α [(19, S)]) tx tl)
            refine aw_go 1 rfl ⟨trivial, trivial⟩ ?_
            refine aw_br (c := (bI (¬ (hdT l) < 0 ∧ ¬ 10005 < (hdT l))) = 0) (fun h5 => ?_) (fun h5 => ?_)
            · skip
              have h5 := bI_f h5
              show aw_W _ _ _ _ (18, [some (.ref 19), some (.int (nI o)), some (.int (hdT l))], []) (ae_rd (au σ [(13, nI a), (14, nI c)]) (au α [(19, S)]) tx tl)
              refine aw_go 3 rfl ⟨trivial, trivial, trivial, trivial⟩ ?_
              refine aw_br (c := (nI o) < 5) (fun h20 => ?_) (fun h20 => ?_)
              · skip
                have h20 := cI_ltT (a := o) (b := 5) rfl rfl (by omega) (by omega) h20
                show aw_W _ _ _ _ (23, [some (.ref 19), some (.int (nI o)), some (.int (hdT l))], []) (ae_rd (au σ [(13, nI a), (14, nI c)]) (au α [(19, S)]) tx tl)
                refine aw_go 3 rfl ⟨trivial, trivial, trivial, trivial⟩ ?_
                refine aw_br (c := ¬ (hdT l) = (-7)) (fun h25 => ?_) (fun h25 => ?_)
                · skip
                  show aw_W _ _ _ _ (44, [some (.ref 19), some (.int (nI o)), some (.int (hdT l))], []) (ae_rd (au σ [(13, nI a), (14, nI c)]) (au α [(19, S)]) tx tl)
                  refine aw_go 2 rfl ⟨trivial, trivial, trivial⟩ ?_
                  refine aw_call rfl rfl (ev_pass_y (t := (-9)) (a := a) (cnt := cnt) rfl hcn (by omega) hc161 (by rw [← e9]; exact t1)) ?_
                  rintro _ _ ⟨rfl, rfl⟩
                  show aw_W _ _ _ _ (47, [some (.ref 19), some (.int (nI o)), some (.int (hdT l))], [.int 1]) (ae_rd (au σ [(13, nI (a + 1)), (14, nI c)]) (au α [(19, S)]) tx tl)
                  refine aw_go 1 rfl ⟨trivial, trivial⟩ ?_
                  refine aw_br (c := (1 : Int32) = 0) (fun h47 => ?_) (fun h47 => ?_)
                  · skip
                    have h47 := cI_eqT (a := 1) (b := 0) rfl rfl (by omega) (by omega) h47
                    show aw_W _ _ _ _ (60, [some (.ref 19), some (.int (nI o)), some (.int (hdT l))], []) (ae_rd (au σ [(13, nI (a + 1)), (14, nI c)]) (au α [(19, S)]) tx tl)
                    exact absurd h47 (by decide)
                  · skip
                    have h47 := cI_eqF (a := 1) (b := 0) rfl rfl (by omega) (by omega) h47
                    show aw_W _ _ _ _ (48, [some (.ref 19), some (.int (nI o)), some (.int (hdT l))], []) (ae_rd (au σ [(13, nI (a + 1)), (14, nI c)]) (au α [(19, S)]) tx tl)
                    refine aw_go 4 rfl ⟨trivial, trivial, trivial, trivial, trivial⟩ ?_
                    show aw_W _ _ _ _ (52, [some (.ref 19), some (.int (nI o)), some (.int (hdT l))], [.int ((nI o) + 1), .ref 19]) (ae_rd (au σ [(13, nI (a + 1)), (14, nI c)]) (au α [(19, S)]) tx tl)
                    rw [show (nI o) + 1 = nI (o + 1) from (cI_add (a := o) (b := 1) rfl rfl)]
                    refine aw_call rfl rfl (ih0 (o + 1) l.tail (false, l1, s1) (a + 1) c S _ h1  (by omega) t3 (ht.2.1 hg) (by omega) (by omega) (by simp only [rK] at hD ⊢; omega)) ?_
                    rintro _ _ ⟨c_52, S_52, rfl, rfl, hb_52⟩
                    show aw_W _ _ _ _ (53, [some (.ref 19), some (.int (nI o)), some (.int (hdT l))], [.int 0]) (ae_rd (au σ [(13, nI (cnt - l1.length)), (14, c_52)]) (au α [(19, S_52)]) tx tl)
                    refine aw_go 1 rfl ⟨trivial, trivial⟩ ?_
                    refine aw_br (c := (0 : Int32) = 0) (fun h53 => ?_) (fun h53 => ?_)
                    · skip
                      have h53 := cI_eqT (a := 0) (b := 0) rfl rfl (by omega) (by omega) h53
                      show aw_W _ _ _ _ (60, [some (.ref 19), some (.int (nI o)), some (.int (hdT l))], []) (ae_rd (au σ [(13, nI (cnt - l1.length)), (14, c_52)]) (au α [(19, S_52)]) tx tl)
                      refine aw_go 1 rfl ⟨trivial, trivial⟩ ?_
                      refine aw_ret rfl rfl (by first | exact Or.inl rfl | exact Or.inr rfl | exact bI_b _) ?_
                      exact ⟨_, _, rfl, rfl, fun q => by cases q⟩
                    · skip
                      have h53 := cI_eqF (a := 0) (b := 0) rfl rfl (by omega) (by omega) h53
                      show aw_W _ _ _ _ (54, [some (.ref 19), some (.int (nI o)), some (.int (hdT l))], []) (ae_rd (au σ [(13, nI (cnt - l1.length)), (14, c_52)]) (au α [(19, S_52)]) tx tl)
                      exact absurd h53 (by decide)
                · skip
                  have h25 := Classical.not_not.mp h25
                  show aw_W _ _ _ _ (26, [some (.ref 19), some (.int (nI o)), some (.int (hdT l))], []) (ae_rd (au σ [(13, nI a), (14, nI c)]) (au α [(19, S)]) tx tl)
                  exact absurd h25 e7
              · skip
                have h20 := cI_ltF (a := o) (b := 5) rfl rfl (by omega) (by omega) h20
                show aw_W _ _ _ _ (21, [some (.ref 19), some (.int (nI o)), some (.int (hdT l))], []) (ae_rd (au σ [(13, nI a), (14, nI c)]) (au α [(19, S)]) tx tl)
                exact absurd h20 (by omega)
            · skip
              have h5 := bI_t h5
              show aw_W _ _ _ _ (6, [some (.ref 19), some (.int (nI o)), some (.int (hdT l))], []) (ae_rd (au σ [(13, nI a), (14, nI c)]) (au α [(19, S)]) tx tl)
              exact absurd h5 e
        · rw [if_neg e9] at hpp
          cases hpp
          show aw_W _ _ _ _ (0, [some (.ref 19), some (.int (nI o)), none], []) (ae_rd (au σ [(13, nI a), (14, nI c)]) (au α [(19, S)]) tx tl)
          refine aw_go 1 rfl ⟨trivial, trivial⟩ ?_
          refine aw_callE rfl rfl (ev_Reader_token  (a := a) (cnt := cnt) rfl hcn (by omega) hc161 t1) ?_
          show aw_W _ _ _ _ (2, [some (.ref 19), some (.int (nI o)), none], [.int (hdT l)]) (ae_rd (au σ [(13, nI a), (14, nI c)]) (au α [(19, S)]) tx tl)
          refine aw_go 2 rfl ⟨trivial, trivial, trivial⟩ ?_
          refine aw_callE rfl rfl (ev_Token_isNumberOrName (t := (hdT l))) ?_
          show aw_W _ _ _ _ (5, [some (.ref 19), some (.int (nI o)), some (.int (hdT l))], [.int (bI (¬ (hdT l) < 0 ∧ ¬ 10005 < (hdT l)))]) (ae_rd (au σ [(13, nI a), (14, nI c)]) (au α [(19, S)]) tx tl)
          refine aw_go 1 rfl ⟨trivial, trivial⟩ ?_
          refine aw_br (c := (bI (¬ (hdT l) < 0 ∧ ¬ 10005 < (hdT l))) = 0) (fun h5 => ?_) (fun h5 => ?_)
          · skip
            have h5 := bI_f h5
            show aw_W _ _ _ _ (18, [some (.ref 19), some (.int (nI o)), some (.int (hdT l))], []) (ae_rd (au σ [(13, nI a), (14, nI c)]) (au α [(19, S)]) tx tl)
            refine aw_go 3 rfl ⟨trivial, trivial, trivial, trivial⟩ ?_
            refine aw_br (c := (nI o) < 5) (fun h20 => ?_) (fun h20 => ?_)
            · skip
              have h20 := cI_ltT (a := o) (b := 5) rfl rfl (by omega) (by omega) h20
              show aw_W _ _ _ _ (23, [some (.ref 19), some (.int (nI o)), some (.int (hdT l))], []) (ae_rd (au σ [(13, nI a), (14, nI c)]) (au α [(19, S)]) tx tl)
              refine aw_go 3 rfl ⟨trivial, trivial, trivial, trivial⟩ ?_
              refine aw_br (c := ¬ (hdT l) = (-7)) (fun h25 => ?_) (fun h25 => ?_)
              · skip
                show aw_W _ _ _ _ (44, [some (.ref 19), some (.int (nI o)), some (.int (hdT l))], []) (ae_rd (au σ [(13, nI a), (14, nI c)]) (au α [(19, S)]) tx tl)
                refine aw_go 2 rfl ⟨trivial, trivial, trivial⟩ ?_
                refine aw_callE rfl rfl (ev_pass_n (y := (-9)) (a := a) (cnt := cnt) rfl hcn (by omega) hc161 t1 e9) ?_
                show aw_W _ _ _ _ (47, [some (.ref 19), some (.int (nI o)), some (.int (hdT l))], [.int 0]) (ae_rd (au σ [(13, nI a), (14, nI c)]) (au α [(19, S)]) tx tl)
                refine aw_go 1 rfl ⟨trivial, trivial⟩ ?_
                refine aw_br (c := (0 : Int32) = 0) (fun h47 => ?_) (fun h47 => ?_)
                · skip
                  have h47 := cI_eqT (a := 0) (b := 0) rfl rfl (by omega) (by omega) h47
                  show aw_W _ _ _ _ (60, [some (.ref 19), some (.int (nI o)), some (.int (hdT l))], []) (ae_rd (au σ [(13, nI a), (14, nI c)]) (au α [(19, S)]) tx tl)
                  refine aw_go 1 rfl ⟨trivial, trivial⟩ ?_
                  refine aw_ret rfl rfl (by first | exact Or.inl rfl | exact Or.inr rfl | exact bI_b _) ?_
                  exact ⟨nI c, S, rfl, by show _ = ae_rd (au σ [(13, nI (cnt - l.length)), (14, nI c)]) (au α [(19, S)]) tx tl; rw [← ea], fun q => by cases q⟩
                · skip
                  have h47 := cI_eqF (a := 0) (b := 0) rfl rfl (by omega) (by omega) h47
                  show aw_W _ _ _ _ (48, [some (.ref 19), some (.int (nI o)), some (.int (hdT l))], []) (ae_rd (au σ [(13, nI a), (14, nI c)]) (au α [(19, S)]) tx tl)
                  exact absurd h47 (by decide)
              · skip
                have h25 := Classical.not_not.mp h25
                show aw_W _ _ _ _ (26, [some (.ref 19), some (.int (nI o)), some (.int (hdT l))], []) (ae_rd (au σ [(13, nI a), (14, nI c)]) (au α [(19, S)]) tx tl)
                exact absurd h25 e7
            · skip
              have h20 := cI_ltF (a := o) (b := 5) rfl rfl (by omega) (by omega) h20
              show aw_W _ _ _ _ (21, [some (.ref 19), some (.int (nI o)), some (.int (hdT l))], []) (ae_rd (au σ [(13, nI a), (14, nI c)]) (au α [(19, S)]) tx tl)
              exact absurd h20 (by omega)
          · skip
            have h5 := bI_t h5
            show aw_W _ _ _ _ (6, [some (.ref 19), some (.int (nI o)), some (.int (hdT l))], []) (ae_rd (au σ [(13, nI a), (14, nI c)]) (au α [(19, S)]) tx tl)
            exact absurd h5 e
theorem pr_all {cnt : Nat} (hcn : (σ 12) = nI cnt) (hc161 : cnt ≤ 161) : ∀ m, prX P σ α tx tl cnt m 0 ∧ prX P σ α tx tl cnt m 2 ∧ prX P σ α tx tl cnt m 4 ∧ prX P σ α tx tl cnt m 5 ∧ prX P σ α tx tl cnt m 7 ∧ prX P σ α tx tl cnt m 9 ∧ prL P σ α tx tl cnt m 1 0 cd_Reader_either ∧ prL P σ α tx tl cnt m 3 2 cd_Reader_both ∧ prL P σ α tx tl cnt m 8 7 cd_Reader_term ∧ prM P σ α tx tl cnt m
  | 0 => by
    refine ⟨?_, ?_, ?_, ?_, ?_, ?_, ?_, ?_, ?_, ?_⟩
    all_goals (intro o l R; intros; rename pp 0 _ _ _ = _ => h; cases h)
  | m + 1 => by
    obtain ⟨i0, i2, i4, i5, i7, i9, j1, j3, j8, j6⟩ := pr_all hcn hc161 m
    exact ⟨pr_either hcn hc161 i2 j1, pr_both hcn hc161 i4 j3, pr_unless hcn hc161 i4 i5, pr_sum hcn hc161 i7 j6, pr_term hcn hc161 i9 j8, pr_one hcn hc161 i0 i9, pl_either hcn hc161 i2 j1, pl_both hcn hc161 i4 j3, pl_term hcn hc161 i9 j8, pl_sum hcn hc161 i7 j6⟩
end L37c
