/-! what a text answers: trees, their steps, both evaluators -/
def oV (c x y : Int32) : Int32 := if c = -1 then (if x = 0 then (if y = 0 then 0 else 1) else 1) else if c = -2 then (if x = 0 then 0 else (if y = 0 then 0 else 1)) else if c = -4 then (if y ≤ x then 0 else 1) else if c = -5 then (if x = y then 1 else 0) else if c = -6 then x + y else if c = -7 then x - y else x * y
def cLf (c : Int32) : Prop := (∃ v : Nat, v ≤ 9999 ∧ c = nI v) ∨ ∃ v : Nat, v < 6 ∧ c = nI (10000 + v)
def cUn (c : Int32) : Prop := c = -12 ∨ c = -3
def cBi (c : Int32) : Prop := c = -1 ∨ c = -2 ∨ c = -4 ∨ c = -5 ∨ c = -6 ∨ c = -7 ∨ c = -8
/-- steps that take a pile of n to one of m -/
def dOk : List Int32 → Nat → Nat → Prop
  | [], n, m => n = m
  | c :: l, n, m => (cLf c ∧ dOk l (n + 1) m) ∨ (cUn c ∧ 0 < n ∧ dOk l n m) ∨ (cBi c ∧ 2 ≤ n ∧ dOk l (n - 1) m)
/-- one step on the pile: its height and its row -/
def sSt (nm : Nat → Int32) (c : Int32) (q : Nat × (Nat → Int32)) : Nat × (Nat → Int32) :=
  if 0 ≤ c then (q.1 + 1, upd q.2 q.1 (if c < 10000 then c else nm (c - 10000).toNatClampNeg))
  else if c = -12 then (q.1, upd q.2 (q.1 - 1) (- q.2 (q.1 - 1)))
  else if c = -3 then (q.1, upd q.2 (q.1 - 1) (if q.2 (q.1 - 1) = 0 then 1 else 0))
  else (q.1 - 1, upd q.2 (q.1 - 2) (oV c (q.2 (q.1 - 2)) (q.2 (q.1 - 1))))
def sR (nm : Nat → Int32) : List Int32 → Nat × (Nat → Int32) → Nat × (Nat → Int32)
  | [], q => q
  | c :: l, q => sR nm l (sSt nm c q)
def sA (nm : Nat → Int32) (l : List Int32) : Int32 := (sR nm l (0, fun _ => 0)).2 0
theorem cBi_lt {c : Int32} (h : cBi c) : c < 0 ∧ ¬ c = -12 ∧ ¬ c = -3 := by
  rcases h with rfl | rfl | rfl | rfl | rfl | rfl | rfl <;> decide
theorem sSt_n (nm : Nat → Int32) {v : Nat} (h : v ≤ 9999) (w : Nat) (wt : Nat → Int32) : sSt nm (nI v) (w, wt) = (w + 1, upd wt w (nI v)) := by
  rw [sSt, if_pos (nI_pos' (by omega)), if_pos (show nI v < 10000 from nI_lt (b := 10000) (by omega) (by decide))]
theorem nI_off {v : Nat} : nI (10000 + v) - 10000 = nI v := by
  rw [show (10000 : Int32) = nI 10000 from rfl, ← nI_add, Int32.add_comm, Int32.add_sub_cancel]
theorem sSt_f (nm : Nat → Int32) {v : Nat} (h : v < 6) (w : Nat) (wt : Nat → Int32) : sSt nm (nI (10000 + v)) (w, wt) = (w + 1, upd wt w (nm v)) := by
  rw [sSt, if_pos (nI_pos' (by omega)), if_neg (show ¬ nI (10000 + v) < 10000 from nI_nlt (b := 10000) (by omega) (by omega)), nI_off, nI_clamp (by omega)]
theorem sSt_g (nm : Nat → Int32) (w : Nat) (wt : Nat → Int32) : sSt nm (-12) (w + 1, wt) = (w + 1, upd wt w (- wt w)) := by
  rw [sSt, if_neg (by decide), if_pos rfl]
  rfl
theorem sSt_d (nm : Nat → Int32) (w : Nat) (wt : Nat → Int32) : sSt nm (-3) (w + 1, wt) = (w + 1, upd wt w (if wt w = 0 then 1 else 0)) := by
  rw [sSt, if_neg (by decide), if_neg (by decide), if_pos rfl]
  rfl
theorem sSt_b (nm : Nat → Int32) {c : Int32} (h : cBi c) (w : Nat) (wt : Nat → Int32) : sSt nm c (w + 1 + 1, wt) = (w + 1, upd wt w (oV c (wt w) (wt (w + 1)))) := by
  obtain ⟨h1, h2, h3⟩ := cBi_lt h
  rw [sSt, if_neg (Int32.not_le.mpr h1), if_neg h2, if_neg h3]
  rfl
theorem dOk_app : ∀ {l m : List Int32} {a b c : Nat}, dOk l a b → dOk m b c → dOk (l ++ m) a c
  | [], m, a, b, c, h, k => by cases h; exact k
  | x :: l, m, a, b, c, h, k => by
    rcases h with ⟨h1, h2⟩ | ⟨h1, h2, h3⟩ | ⟨h1, h2, h3⟩
    · exact Or.inl ⟨h1, dOk_app h2 k⟩
    · exact Or.inr (Or.inl ⟨h1, h2, dOk_app h3 k⟩)
    · exact Or.inr (Or.inr ⟨h1, h2, dOk_app h3 k⟩)
theorem dOk_up (j : Nat) : ∀ {l : List Int32} {a b : Nat}, dOk l a b → dOk l (a + j) (b + j)
  | [], a, b, h => by cases h; rfl
  | x :: l, a, b, h => by
    rcases h with ⟨h1, h2⟩ | ⟨h1, h2, h3⟩ | ⟨h1, h2, h3⟩
    · exact Or.inl ⟨h1, by rw [Nat.add_right_comm]; exact dOk_up j h2⟩
    · exact Or.inr (Or.inl ⟨h1, by omega, dOk_up j h3⟩)
    · exact Or.inr (Or.inr ⟨h1, by omega, by rw [show a + j - 1 = a - 1 + j by omega]; exact dOk_up j h3⟩)
theorem upd_ag {f g : Nat → Int32} {w k : Nat} {x y : Int32} (h : ∀ j, j < w → f j = g j) (e : x = y) : ∀ j, j < w ∨ j = k → upd f k x j = upd g k y j := by
  intro j hj
  unfold upd
  by_cases q : j = k
  · rw [if_pos q, if_pos q, e]
  · rw [if_neg q, if_neg q]
    exact h j (hj.resolve_right q)
/-- what lies above, and names that agree, don't matter -/
theorem sR_cg {nm nm2 : Nat → Int32} (hn : ∀ j, j < 6 → nm j = nm2 j) : ∀ {l : List Int32} {w w2 : Nat} {f g : Nat → Int32}, dOk l w w2 → (∀ j, j < w → f j = g j) → (sR nm l (w, f)).1 = w2 ∧ (sR nm2 l (w, g)).1 = w2 ∧ ∀ j, j < w2 → (sR nm l (w, f)).2 j = (sR nm2 l (w, g)).2 j
  | [], w, w2, f, g, h, k => by cases h; exact ⟨rfl, rfl, k⟩
  | c :: l, w, w2, f, g, h, k => by
    rw [sR, sR]
    rcases h with ⟨h1, h2⟩ | ⟨h1, h2, h3⟩ | ⟨h1, h2, h3⟩
    · rcases h1 with ⟨v, hv, rfl⟩ | ⟨v, hv, rfl⟩
      · rw [sSt_n _ hv, sSt_n _ hv]
        exact sR_cg hn h2 (fun j hj => upd_ag k rfl j (by omega))
      · rw [sSt_f _ hv, sSt_f _ hv]
        exact sR_cg hn h2 (fun j hj => upd_ag k (hn v hv) j (by omega))
    · obtain ⟨w, rfl⟩ : ∃ q, w = q + 1 := ⟨w - 1, by omega⟩
      rcases h1 with rfl | rfl
      · rw [sSt_g, sSt_g]
        exact sR_cg hn h3 (fun j hj => upd_ag k (by rw [k w (by omega)]) j (by omega))
      · rw [sSt_d, sSt_d]
        exact sR_cg hn h3 (fun j hj => upd_ag k (by rw [k w (by omega)]) j (by omega))
    · obtain ⟨w, rfl⟩ : ∃ q, w = q + 1 + 1 := ⟨w - 2, by omega⟩
      rw [sSt_b _ h1, sSt_b _ h1]
      exact sR_cg hn h3 (fun j hj => upd_ag k (by rw [k w (by omega), k (w + 1) (by omega)]) j (by omega))
/-- a row holds a list from a place on -/
def hasAt {β : Type} (f : Nat → β) : Nat → List β → Prop
  | _, [] => True
  | p, x :: l => f p = x ∧ hasAt f (p + 1) l
theorem hasAt_app {β : Type} {f : Nat → β} : ∀ {p : Nat} {l m : List β}, hasAt f p (l ++ m) ↔ hasAt f p l ∧ hasAt f (p + l.length) m
  | p, [], m => by simp [hasAt]
  | p, x :: l, m => by
    rw [List.cons_append, hasAt, hasAt, hasAt_app, and_assoc, show p + 1 + l.length = p + (x :: l).length by rw [List.length_cons]; omega]
section L23
variable {P : ae_P} {σ : Nat → Int32} {α : Nat → Nat → Int32} {z : Int64} {t0 : ae_T} {ts : List ae_T}

theorem ev_Rules_joined {c x y : Int32} {d : Nat} (h : cBi c) : ae_Ev P (d + 1) 92 [.int c, .int x, .int y] (ae_en σ α z t0 ts) (some (.int (oV c x y))) (ae_en σ α z t0 ts) := by
  rcases h with rfl | rfl | rfl | rfl | rfl | rfl | rfl
  · refine ar_ev (cd := cd_Rules_joined) rfl rfl rfl ?_
    refine ar_go 2 rfl ⟨trivial, trivial, trivial⟩ ?_
    show ae_Run _ _ _ _ _ (2, _, _) _
    refine ar_go 2 rfl ⟨trivial, trivial, trivial⟩ ?_
    refine ar_br (fun h3 => ?_) (fun h3 => ?_)
    · try simp only [← Int32.not_le, Classical.not_not, ae_ofN] at h3
      refine ar_go 2 rfl ⟨trivial, trivial, trivial⟩ ?_
      refine ar_ret rfl rfl trivial ?_ ?_
      simp [oV, ← Int32.not_le, h3]
      rfl
    · try simp only [← Int32.not_le, Classical.not_not, ae_ofN] at h3
      refine ar_go 2 rfl ⟨trivial, trivial, trivial⟩ ?_
      refine ar_br (fun h5 => ?_) (fun h5 => ?_)
      · try simp only [← Int32.not_le, Classical.not_not, ae_ofN] at h5
        refine ar_go 1 rfl ⟨trivial, trivial⟩ ?_
        refine ar_ret rfl rfl trivial ?_ ?_
        simp [oV, ← Int32.not_le, h3, h5]
        rfl
      · try simp only [← Int32.not_le, Classical.not_not, ae_ofN] at h5
        refine ar_go 2 rfl ⟨trivial, trivial, trivial⟩ ?_
        refine ar_ret rfl rfl trivial ?_ ?_
        simp [oV, ← Int32.not_le, h3, h5]
        rfl
  · refine ar_ev (cd := cd_Rules_joined) rfl rfl rfl ?_
    refine ar_go 2 rfl ⟨trivial, trivial, trivial⟩ ?_
    show ae_Run _ _ _ _ _ (10, _, _) _
    refine ar_go 2 rfl ⟨trivial, trivial, trivial⟩ ?_
    refine ar_br (fun h11 => ?_) (fun h11 => ?_)
    · try simp only [← Int32.not_le, Classical.not_not, ae_ofN] at h11
      refine ar_go 1 rfl ⟨trivial, trivial⟩ ?_
      refine ar_ret rfl rfl trivial ?_ ?_
      simp [oV, ← Int32.not_le, h11]
      rfl
    · try simp only [← Int32.not_le, Classical.not_not, ae_ofN] at h11
      refine ar_go 2 rfl ⟨trivial, trivial, trivial⟩ ?_
      refine ar_br (fun h13 => ?_) (fun h13 => ?_)
      · try simp only [← Int32.not_le, Classical.not_not, ae_ofN] at h13
        refine ar_go 1 rfl ⟨trivial, trivial⟩ ?_
        refine ar_ret rfl rfl trivial ?_ ?_
        simp [oV, ← Int32.not_le, h11, h13]
        rfl
      · try simp only [← Int32.not_le, Classical.not_not, ae_ofN] at h13
        refine ar_go 2 rfl ⟨trivial, trivial, trivial⟩ ?_
        refine ar_ret rfl rfl trivial ?_ ?_
        simp [oV, ← Int32.not_le, h11, h13]
        rfl
  · refine ar_ev (cd := cd_Rules_joined) rfl rfl rfl ?_
    refine ar_go 2 rfl ⟨trivial, trivial, trivial⟩ ?_
    show ae_Run _ _ _ _ _ (18, _, _) _
    refine ar_go 3 rfl ⟨trivial, trivial, trivial, trivial⟩ ?_
    refine ar_br (fun h20 => ?_) (fun h20 => ?_)
    · try simp only [← Int32.not_le, Classical.not_not, ae_ofN] at h20
      refine ar_go 1 rfl ⟨trivial, trivial⟩ ?_
      refine ar_ret rfl rfl trivial ?_ ?_
      simp [oV, ← Int32.not_le, h20]
      rfl
    · try simp only [← Int32.not_le, Classical.not_not, ae_ofN] at h20
      refine ar_go 2 rfl ⟨trivial, trivial, trivial⟩ ?_
      refine ar_ret rfl rfl trivial ?_ ?_
      simp [oV, ← Int32.not_le, h20]
      rfl
  · refine ar_ev (cd := cd_Rules_joined) rfl rfl rfl ?_
    refine ar_go 2 rfl ⟨trivial, trivial, trivial⟩ ?_
    show ae_Run _ _ _ _ _ (25, _, _) _
    refine ar_go 3 rfl ⟨trivial, trivial, trivial, trivial⟩ ?_
    refine ar_br (fun h27 => ?_) (fun h27 => ?_)
    · try simp only [← Int32.not_le, Classical.not_not, ae_ofN] at h27
      refine ar_go 1 rfl ⟨trivial, trivial⟩ ?_
      refine ar_ret rfl rfl trivial ?_ ?_
      simp [oV, ← Int32.not_le, h27]
      rfl
    · try simp only [← Int32.not_le, Classical.not_not, ae_ofN] at h27
      refine ar_go 2 rfl ⟨trivial, trivial, trivial⟩ ?_
      refine ar_ret rfl rfl trivial ?_ ?_
      simp [oV, ← Int32.not_le, h27]
      rfl
  · refine ar_ev (cd := cd_Rules_joined) rfl rfl rfl ?_
    refine ar_go 2 rfl ⟨trivial, trivial, trivial⟩ ?_
    show ae_Run _ _ _ _ _ (32, _, _) _
    refine ar_go 3 rfl ⟨trivial, trivial, trivial, trivial⟩ ?_
    refine ar_ret rfl rfl trivial ?_ ?_
    simp [oV, ← Int32.not_le, ]
    rfl
  · refine ar_ev (cd := cd_Rules_joined) rfl rfl rfl ?_
    refine ar_go 2 rfl ⟨trivial, trivial, trivial⟩ ?_
    show ae_Run _ _ _ _ _ (36, _, _) _
    refine ar_go 3 rfl ⟨trivial, trivial, trivial, trivial⟩ ?_
    refine ar_ret rfl rfl trivial ?_ ?_
    simp [oV, ← Int32.not_le, ]
    rfl
  · refine ar_ev (cd := cd_Rules_joined) rfl rfl rfl ?_
    refine ar_go 2 rfl ⟨trivial, trivial, trivial⟩ ?_
    show ae_Run _ _ _ _ _ (40, _, _) _
    refine ar_go 3 rfl ⟨trivial, trivial, trivial, trivial⟩ ?_
    refine ar_ret rfl rfl trivial ?_ ?_
    simp [oV, ← Int32.not_le, ]
    rfl
theorem ev_Rules_push {w : Nat} {wt : Nat → Int32} {v : Int32} {d : Nat} (h : w < 160) : ae_Ev P (d + 1) 90 [.ref 25, .int v] (ae_en (au σ [(16, nI w)]) (au α [(21, wt)]) z t0 ts) (none) (ae_en (au σ [(16, nI (w + 1))]) (au α [(21, upd wt w v)]) z t0 ts) := by
  refine ar_ev (cd := cd_Rules_push) rfl rfl rfl ?_
  refine ar_go 6 rfl ⟨trivial, trivial, trivial, trivial, trivial, trivial, trivial⟩ ?_
  refine ar_br (fun h5 => ?_) (fun h5 => ?_)
  · try simp only [← Int32.not_le, Classical.not_not, ae_ofN] at h5
    exact absurd (show (nI 160) ≤ nI w from h5) (nI_ge h (by decide))
  · try simp only [← Int32.not_le, Classical.not_not, ae_ofN] at h5
    refine ar_go 12 rfl ⟨trivial, trivial, trivial, trivial, trivial, vp_in_nI h (by decide), trivial, trivial, trivial, trivial, trivial, trivial, trivial⟩ ?_
    refine ar_ret rfl rfl trivial ?_ ?_
    rfl
    rw [show upd wt w v = upd wt (nI w).toNatClampNeg v by rw [nI_clamp (by omega)], nI_succ]
    rfl
theorem ev_Rules_pop {w : Nat} {wt : Nat → Int32} {d : Nat} (h : w < 160) : ae_Ev P (d + 1) 91 [.ref 25] (ae_en (au σ [(16, nI (w + 1))]) (au α [(21, wt)]) z t0 ts) (some (.int (wt w))) (ae_en (au σ [(16, nI w)]) (au α [(21, wt)]) z t0 ts) := by
  refine ar_ev (cd := cd_Rules_pop) rfl rfl rfl ?_
  refine ar_go 4 rfl ⟨trivial, trivial, trivial, trivial, trivial⟩ ?_
  refine ar_br (fun h3 => ?_) (fun h3 => ?_)
  · try simp only [← Int32.not_le, Classical.not_not, ae_ofN] at h3
    refine ar_go 11 rfl ⟨trivial, trivial, trivial, trivial, trivial, trivial, trivial, trivial, trivial, trivial, (show vp_in (nI (w + 1) - 1) 160 from by rw [nI_pred]; exact vp_in_nI h (by decide)), trivial⟩ ?_
    refine ar_ret rfl rfl trivial ?_ ?_
    show some (Value.int (wt (nI (w + 1) - 1).toNatClampNeg)) = _
    rw [nI_pred, nI_clamp (by omega)]
    rw [← nI_pred w]
    rfl
  · try simp only [← Int32.not_le, Classical.not_not, ae_ofN] at h3
    exact absurd h3 (fun q => q (nI_le (a := 1) (by omega) (by omega)))
end L23
section L23b
variable {P : ae_P} {σ : Nat → Int32} {α : Nat → Nat → Int32} {z : Int64} {t0 : ae_T} {ts : List ae_T}
def tB (e : Nat → List Int32) : Nat → Nat
  | 0 => 0
  | q + 1 => tB e q + (e q).length
/-- a text keeps three rows of steps -/
def tOk (t : ae_T) (e : Nat → List Int32) : Prop := (∀ q, q < 3 → dOk (e q) 0 1 ∧ hasAt t.2.1 (tB e q) (e q) ∧ t.2.2 q = nI (tB e q + (e q).length) ∧ tB e q + (e q).length ≤ t.1) ∧ t.1 ≤ 160
theorem sA_wt {nm f : Nat → Int32} {l : List Int32} (h : dOk l 0 1) : (sR nm l (0, f)).1 = 1 ∧ (sR nm l (0, f)).2 0 = sA nm l := by
  have := sR_cg (nm := nm) (nm2 := nm) (fun j _ => rfl) (f := f) (g := fun _ => 0) h (fun j hj => absurd hj (Nat.not_lt_zero j))
  exact ⟨this.1, this.2.2 0 Nat.zero_lt_one⟩
theorem sA_cg {nm nm2 : Nat → Int32} (hn : ∀ j, j < 6 → nm j = nm2 j) {l : List Int32} (h : dOk l 0 1) : sA nm l = sA nm2 l :=
  (sR_cg hn (f := fun _ => 0) (g := fun _ => 0) h (fun _ _ => rfl)).2.2 0 Nat.zero_lt_one
theorem st_n_0 {d : Nat} {r : Option Value} {H2 : ae_H} {q E p w : Nat} {wt : Nat → Int32} {l6 l7 l8 : Option Value} (hq : q < 3) (hE : t0.2.2 q = nI E) (hp : p < E) (hl : E ≤ t0.1) (hr : t0.1 ≤ 160) {v : Nat} (hv : v ≤ 9999) (hc : t0.2.1 p = nI v) (hw : w < 160)
  (kk : ∀ l6 l7 l8 : Option Value, ae_Run P (d + 1) cd_Rules_answer r H2 (31, [some (.ref 25), some (.int (nI 0)), some (.int (nI q)), some (.ref 30), some (.ref 43), some (.int (nI (p + 1))), l6, l7, l8], []) (ae_en (au σ [(16, nI (w + 1))]) (au α [(21, (upd wt w (nI v)))]) z t0 ts)) :
  ae_Run P (d + 1) cd_Rules_answer r H2 (31, [some (.ref 25), some (.int (nI 0)), some (.int (nI q)), some (.ref 30), some (.ref 43), some (.int (nI p)), l6, l7, l8], []) (ae_en (au σ [(16, nI w)]) (au α [(21, wt)]) z t0 ts) := by
  have eq : (nI q).toNatClampNeg = q := nI_clamp (by omega)
  have ep : (nI p).toNatClampNeg = p := nI_clamp (by omega)
  refine ar_go 6 rfl ⟨trivial, trivial, trivial, trivial, (show vp_in (nI q) 3 from vp_in_nI hq (by decide)), trivial, trivial⟩ ?_
  refine ar_br (fun h36 => ?_) (fun h36 => ?_)
  · try simp only [← Int32.not_le, Classical.not_not, ae_ofN] at h36
    exact absurd (show t0.2.2 (nI q).toNatClampNeg ≤ nI p from h36) (by rw [eq, hE]; exact nI_ge hp (by omega))
  · try simp only [← Int32.not_le, Classical.not_not, ae_ofN] at h36
    refine ar_go 7 rfl ⟨trivial, trivial, trivial, (show vp_in (nI p) t0.1 from vp_in_nI (by omega) (by omega)), trivial, trivial, trivial, trivial⟩ ?_
    refine ar_br (fun h43 => ?_) (fun h43 => ?_)
    · try simp only [← Int32.not_le, Classical.not_not, ae_ofN] at h43
      exact absurd (show ¬ (0 : Int32) ≤ t0.2.1 (nI p).toNatClampNeg from h43) (by rw [ep, hc]; exact fun q => q (nI_pos' (by omega)))
    · try simp only [← Int32.not_le, Classical.not_not, ae_ofN] at h43
      refine ar_go 4 rfl ⟨trivial, trivial, trivial, trivial, trivial⟩ ?_
      refine ar_br (fun h47 => ?_) (fun h47 => ?_)
      · try simp only [← Int32.not_le, Classical.not_not, ae_ofN] at h47
        exact absurd (show nI 10000 ≤ t0.2.1 (nI p).toNatClampNeg from h47) (by rw [ep, hc]; exact nI_ge (by omega) (by decide))
      · try simp only [← Int32.not_le, Classical.not_not, ae_ofN] at h47
        refine ar_go 2 rfl ⟨trivial, trivial, trivial⟩ ?_
        refine ar_call rfl rfl (ev_Rules_push (w := w) (wt := wt) (v := t0.2.1 (nI p).toNatClampNeg) hw) ?_
        rw [ep, hc]
        refine ar_go 3 rfl ⟨trivial, trivial, trivial, trivial⟩ ?_
        exact ar_to (kk _ _ _) (by rw [nI_succ p] <;> rfl) rfl
theorem st_f_0 {d : Nat} {r : Option Value} {H2 : ae_H} {q E p w : Nat} {wt : Nat → Int32} {l6 l7 l8 : Option Value} (hq : q < 3) (hE : t0.2.2 q = nI E) (hp : p < E) (hl : E ≤ t0.1) (hr : t0.1 ≤ 160) {v : Nat} (hv : v < 6) (hc : t0.2.1 p = nI (10000 + v)) (hw : w < 160)
  (kk : ∀ l6 l7 l8 : Option Value, ae_Run P (d + 1) cd_Rules_answer r H2 (31, [some (.ref 25), some (.int (nI 0)), some (.int (nI q)), some (.ref 30), some (.ref 43), some (.int (nI (p + 1))), l6, l7, l8], []) (ae_en (au σ [(16, nI (w + 1))]) (au α [(21, (upd wt w (α 23 v)))]) z t0 ts)) :
  ae_Run P (d + 1) cd_Rules_answer r H2 (31, [some (.ref 25), some (.int (nI 0)), some (.int (nI q)), some (.ref 30), some (.ref 43), some (.int (nI p)), l6, l7, l8], []) (ae_en (au σ [(16, nI w)]) (au α [(21, wt)]) z t0 ts) := by
  have eq : (nI q).toNatClampNeg = q := nI_clamp (by omega)
  have ep : (nI p).toNatClampNeg = p := nI_clamp (by omega)
  refine ar_go 6 rfl ⟨trivial, trivial, trivial, trivial, (show vp_in (nI q) 3 from vp_in_nI hq (by decide)), trivial, trivial⟩ ?_
  refine ar_br (fun h36 => ?_) (fun h36 => ?_)
  · try simp only [← Int32.not_le, Classical.not_not, ae_ofN] at h36
    exact absurd (show t0.2.2 (nI q).toNatClampNeg ≤ nI p from h36) (by rw [eq, hE]; exact nI_ge hp (by omega))
  · try simp only [← Int32.not_le, Classical.not_not, ae_ofN] at h36
    refine ar_go 7 rfl ⟨trivial, trivial, trivial, (show vp_in (nI p) t0.1 from vp_in_nI (by omega) (by omega)), trivial, trivial, trivial, trivial⟩ ?_
    refine ar_br (fun h43 => ?_) (fun h43 => ?_)
    · try simp only [← Int32.not_le, Classical.not_not, ae_ofN] at h43
      exact absurd (show ¬ (0 : Int32) ≤ t0.2.1 (nI p).toNatClampNeg from h43) (by rw [ep, hc]; exact fun q => q (nI_pos' (by omega)))
    · try simp only [← Int32.not_le, Classical.not_not, ae_ofN] at h43
      refine ar_go 4 rfl ⟨trivial, trivial, trivial, trivial, trivial⟩ ?_
      refine ar_br (fun h47 => ?_) (fun h47 => ?_)
      · try simp only [← Int32.not_le, Classical.not_not, ae_ofN] at h47
        have e9 : t0.2.1 (nI p).toNatClampNeg - nI 10000 = nI v := by rw [ep, hc]; exact nI_off
        refine ar_go 5 rfl ⟨trivial, trivial, trivial, trivial, (show vp_in (t0.2.1 (nI p).toNatClampNeg - nI 10000) 6 from by rw [e9]; exact vp_in_nI hv (by decide)), trivial⟩ ?_
        show ae_Run _ _ _ _ _ (_, _, [Value.int (α 23 (t0.2.1 (nI p).toNatClampNeg - nI 10000).toNatClampNeg), _]) _
        rw [e9, nI_clamp (n := v) (by omega)]
        refine ar_call rfl rfl (ev_Rules_push (w := w) (wt := wt) hw) ?_
        refine ar_go 3 rfl ⟨trivial, trivial, trivial, trivial⟩ ?_
        exact ar_to (kk _ _ _) (by rw [nI_succ p] <;> rfl) rfl
      · try simp only [← Int32.not_le, Classical.not_not, ae_ofN] at h47
        exact absurd (show ¬ nI 10000 ≤ t0.2.1 (nI p).toNatClampNeg from h47) (by rw [ep, hc]; exact fun q => q (nI_le (by omega) (by omega)))
theorem st_g_0 {d : Nat} {r : Option Value} {H2 : ae_H} {q E p w : Nat} {wt : Nat → Int32} {l6 l7 l8 : Option Value} (hq : q < 3) (hE : t0.2.2 q = nI E) (hp : p < E) (hl : E ≤ t0.1) (hr : t0.1 ≤ 160) (hc : t0.2.1 p = -12) (hw : w < 160)
  (kk : ∀ l6 l7 l8 : Option Value, ae_Run P (d + 1) cd_Rules_answer r H2 (31, [some (.ref 25), some (.int (nI 0)), some (.int (nI q)), some (.ref 30), some (.ref 43), some (.int (nI (p + 1))), l6, l7, l8], []) (ae_en (au σ [(16, nI (w + 1))]) (au α [(21, (upd wt w (- wt w)))]) z t0 ts)) :
  ae_Run P (d + 1) cd_Rules_answer r H2 (31, [some (.ref 25), some (.int (nI 0)), some (.int (nI q)), some (.ref 30), some (.ref 43), some (.int (nI p)), l6, l7, l8], []) (ae_en (au σ [(16, nI (w + 1))]) (au α [(21, wt)]) z t0 ts) := by
  have eq : (nI q).toNatClampNeg = q := nI_clamp (by omega)
  have ep : (nI p).toNatClampNeg = p := nI_clamp (by omega)
  refine ar_go 6 rfl ⟨trivial, trivial, trivial, trivial, (show vp_in (nI q) 3 from vp_in_nI hq (by decide)), trivial, trivial⟩ ?_
  refine ar_br (fun h36 => ?_) (fun h36 => ?_)
  · try simp only [← Int32.not_le, Classical.not_not, ae_ofN] at h36
    exact absurd (show t0.2.2 (nI q).toNatClampNeg ≤ nI p from h36) (by rw [eq, hE]; exact nI_ge hp (by omega))
  · try simp only [← Int32.not_le, Classical.not_not, ae_ofN] at h36
    refine ar_go 7 rfl ⟨trivial, trivial, trivial, (show vp_in (nI p) t0.1 from vp_in_nI (by omega) (by omega)), trivial, trivial, trivial, trivial⟩ ?_
    refine ar_br (fun h43 => ?_) (fun h43 => ?_)
    · try simp only [← Int32.not_le, Classical.not_not, ae_ofN] at h43
      refine ar_go 3 rfl ⟨trivial, trivial, trivial, trivial⟩ ?_
      refine ar_br (fun h59 => ?_) (fun h59 => ?_)
      · try simp only [← Int32.not_le, Classical.not_not, ae_ofN] at h59
        exact absurd (show ¬ t0.2.1 (nI p).toNatClampNeg = -12 from h59) (by rw [ep, hc]; decide)
      · try simp only [← Int32.not_le, Classical.not_not, ae_ofN] at h59
        refine ar_go 2 rfl ⟨trivial, trivial, trivial⟩ ?_
        refine ar_call rfl rfl (ev_Rules_pop hw) ?_
        refine ar_go 1 rfl ⟨trivial, trivial⟩ ?_
        refine ar_call rfl rfl (ev_Rules_push (w := w) (wt := wt) hw) ?_
        refine ar_go 3 rfl ⟨trivial, trivial, trivial, trivial⟩ ?_
        exact ar_to (kk _ _ _) (by rw [nI_succ p] <;> rfl) rfl
    · try simp only [← Int32.not_le, Classical.not_not, ae_ofN] at h43
      exact absurd (show (0 : Int32) ≤ t0.2.1 (nI p).toNatClampNeg from h43) (by rw [ep, hc]; decide)
theorem st_d_0 {d : Nat} {r : Option Value} {H2 : ae_H} {q E p w : Nat} {wt : Nat → Int32} {l6 l7 l8 : Option Value} (hq : q < 3) (hE : t0.2.2 q = nI E) (hp : p < E) (hl : E ≤ t0.1) (hr : t0.1 ≤ 160) (hc : t0.2.1 p = -3) (hw : w < 160)
  (kk : ∀ l6 l7 l8 : Option Value, ae_Run P (d + 1) cd_Rules_answer r H2 (31, [some (.ref 25), some (.int (nI 0)), some (.int (nI q)), some (.ref 30), some (.ref 43), some (.int (nI (p + 1))), l6, l7, l8], []) (ae_en (au σ [(16, nI (w + 1))]) (au α [(21, (upd wt w (if wt w = 0 then 1 else 0)))]) z t0 ts)) :
  ae_Run P (d + 1) cd_Rules_answer r H2 (31, [some (.ref 25), some (.int (nI 0)), some (.int (nI q)), some (.ref 30), some (.ref 43), some (.int (nI p)), l6, l7, l8], []) (ae_en (au σ [(16, nI (w + 1))]) (au α [(21, wt)]) z t0 ts) := by
  have eq : (nI q).toNatClampNeg = q := nI_clamp (by omega)
  have ep : (nI p).toNatClampNeg = p := nI_clamp (by omega)
  refine ar_go 6 rfl ⟨trivial, trivial, trivial, trivial, (show vp_in (nI q) 3 from vp_in_nI hq (by decide)), trivial, trivial⟩ ?_
  refine ar_br (fun h36 => ?_) (fun h36 => ?_)
  · try simp only [← Int32.not_le, Classical.not_not, ae_ofN] at h36
    exact absurd (show t0.2.2 (nI q).toNatClampNeg ≤ nI p from h36) (by rw [eq, hE]; exact nI_ge hp (by omega))
  · try simp only [← Int32.not_le, Classical.not_not, ae_ofN] at h36
    refine ar_go 7 rfl ⟨trivial, trivial, trivial, (show vp_in (nI p) t0.1 from vp_in_nI (by omega) (by omega)), trivial, trivial, trivial, trivial⟩ ?_
    refine ar_br (fun h43 => ?_) (fun h43 => ?_)
    · try simp only [← Int32.not_le, Classical.not_not, ae_ofN] at h43
      refine ar_go 3 rfl ⟨trivial, trivial, trivial, trivial⟩ ?_
      refine ar_br (fun h59 => ?_) (fun h59 => ?_)
      · try simp only [← Int32.not_le, Classical.not_not, ae_ofN] at h59
        refine ar_go 3 rfl ⟨trivial, trivial, trivial, trivial⟩ ?_
        refine ar_br (fun h68 => ?_) (fun h68 => ?_)
        · try simp only [← Int32.not_le, Classical.not_not, ae_ofN] at h68
          exact absurd (show ¬ t0.2.1 (nI p).toNatClampNeg = -3 from h68) (by rw [ep, hc]; decide)
        · try simp only [← Int32.not_le, Classical.not_not, ae_ofN] at h68
          refine ar_go 2 rfl ⟨trivial, trivial, trivial⟩ ?_
          refine ar_call rfl rfl (ev_Rules_pop hw) ?_
          refine ar_go 1 rfl ⟨trivial, trivial⟩ ?_
          refine ar_br (fun h72 => ?_) (fun h72 => ?_)
          · try simp only [← Int32.not_le, Classical.not_not, ae_ofN] at h72
            rw [if_neg h72] at kk
            refine ar_go 1 rfl ⟨trivial, trivial⟩ ?_
            refine ar_call rfl rfl (ev_Rules_push (w := w) (wt := wt) hw) ?_
            refine ar_go 3 rfl ⟨trivial, trivial, trivial, trivial⟩ ?_
            exact ar_to (kk _ _ _) (by rw [nI_succ p] <;> rfl) rfl
          · try simp only [← Int32.not_le, Classical.not_not, ae_ofN] at h72
            rw [if_pos h72] at kk
            refine ar_go 2 rfl ⟨trivial, trivial, trivial⟩ ?_
            refine ar_call rfl rfl (ev_Rules_push (w := w) (wt := wt) hw) ?_
            refine ar_go 3 rfl ⟨trivial, trivial, trivial, trivial⟩ ?_
            exact ar_to (kk _ _ _) (by rw [nI_succ p] <;> rfl) rfl
      · try simp only [← Int32.not_le, Classical.not_not, ae_ofN] at h59
        exact absurd (show t0.2.1 (nI p).toNatClampNeg = -12 from h59) (by rw [ep, hc]; decide)
    · try simp only [← Int32.not_le, Classical.not_not, ae_ofN] at h43
      exact absurd (show (0 : Int32) ≤ t0.2.1 (nI p).toNatClampNeg from h43) (by rw [ep, hc]; decide)
theorem st_b_0 {d : Nat} {r : Option Value} {H2 : ae_H} {q E p w : Nat} {wt : Nat → Int32} {l6 l7 l8 : Option Value} (hq : q < 3) (hE : t0.2.2 q = nI E) (hp : p < E) (hl : E ≤ t0.1) (hr : t0.1 ≤ 160) {c : Int32} (ho : cBi c) (hc : t0.2.1 p = c) (hw : w + 1 < 160)
  (kk : ∀ l6 l7 l8 : Option Value, ae_Run P (d + 1) cd_Rules_answer r H2 (31, [some (.ref 25), some (.int (nI 0)), some (.int (nI q)), some (.ref 30), some (.ref 43), some (.int (nI (p + 1))), l6, l7, l8], []) (ae_en (au σ [(16, nI (w + 1))]) (au α [(21, (upd wt w (oV c (wt w) (wt (w + 1)))))]) z t0 ts)) :
  ae_Run P (d + 1) cd_Rules_answer r H2 (31, [some (.ref 25), some (.int (nI 0)), some (.int (nI q)), some (.ref 30), some (.ref 43), some (.int (nI p)), l6, l7, l8], []) (ae_en (au σ [(16, nI (w + 1 + 1))]) (au α [(21, wt)]) z t0 ts) := by
  have eq : (nI q).toNatClampNeg = q := nI_clamp (by omega)
  have ep : (nI p).toNatClampNeg = p := nI_clamp (by omega)
  refine ar_go 6 rfl ⟨trivial, trivial, trivial, trivial, (show vp_in (nI q) 3 from vp_in_nI hq (by decide)), trivial, trivial⟩ ?_
  refine ar_br (fun h36 => ?_) (fun h36 => ?_)
  · try simp only [← Int32.not_le, Classical.not_not, ae_ofN] at h36
    exact absurd (show t0.2.2 (nI q).toNatClampNeg ≤ nI p from h36) (by rw [eq, hE]; exact nI_ge hp (by omega))
  · try simp only [← Int32.not_le, Classical.not_not, ae_ofN] at h36
    refine ar_go 7 rfl ⟨trivial, trivial, trivial, (show vp_in (nI p) t0.1 from vp_in_nI (by omega) (by omega)), trivial, trivial, trivial, trivial⟩ ?_
    refine ar_br (fun h43 => ?_) (fun h43 => ?_)
    · try simp only [← Int32.not_le, Classical.not_not, ae_ofN] at h43
      refine ar_go 3 rfl ⟨trivial, trivial, trivial, trivial⟩ ?_
      refine ar_br (fun h59 => ?_) (fun h59 => ?_)
      · try simp only [← Int32.not_le, Classical.not_not, ae_ofN] at h59
        refine ar_go 3 rfl ⟨trivial, trivial, trivial, trivial⟩ ?_
        refine ar_br (fun h68 => ?_) (fun h68 => ?_)
        · try simp only [← Int32.not_le, Classical.not_not, ae_ofN] at h68
          refine ar_go 1 rfl ⟨trivial, trivial⟩ ?_
          refine ar_call rfl rfl (ev_Rules_pop hw) ?_
          refine ar_go 2 rfl ⟨trivial, trivial, trivial⟩ ?_
          refine ar_call rfl rfl (ev_Rules_pop (Nat.lt_of_succ_lt hw)) ?_
          refine ar_go 5 rfl ⟨trivial, trivial, trivial, trivial, trivial, trivial⟩ ?_
          show ae_Run _ _ _ _ _ (_, _, [_, _, Value.int (t0.2.1 (nI p).toNatClampNeg), _]) _
          rw [ep, hc]
          refine ar_call rfl rfl (ev_Rules_joined ho) ?_
          refine ar_call rfl rfl (ev_Rules_push (w := w) (wt := wt) (Nat.lt_of_succ_lt hw)) ?_
          refine ar_go 2 rfl ⟨trivial, trivial, trivial⟩ ?_
          exact ar_to (kk _ _ _) (by rw [nI_succ p] <;> rfl) rfl
        · try simp only [← Int32.not_le, Classical.not_not, ae_ofN] at h68
          exact absurd (show t0.2.1 (nI p).toNatClampNeg = -3 from h68) (by rw [ep, hc]; exact (cBi_lt ho).2.2)
      · try simp only [← Int32.not_le, Classical.not_not, ae_ofN] at h59
        exact absurd (show t0.2.1 (nI p).toNatClampNeg = -12 from h59) (by rw [ep, hc]; exact (cBi_lt ho).2.1)
    · try simp only [← Int32.not_le, Classical.not_not, ae_ofN] at h43
      exact absurd (show (0 : Int32) ≤ t0.2.1 (nI p).toNatClampNeg from h43) (by rw [ep, hc]; exact Int32.not_le.mpr (cBi_lt ho).1)
theorem lp_ans_0 {d : Nat} {r : Option Value} {H2 : ae_H} {q E : Nat} (hq : q < 3) (hE : t0.2.2 q = nI E) (hl : E ≤ t0.1) (hr : t0.1 ≤ 160) : ∀ (l : List Int32) {p w m : Nat} {wt : Nat → Int32} {l6 l7 l8 : Option Value}, dOk l w m → hasAt t0.2.1 p l → p + l.length ≤ E → w + l.length ≤ 160 →
  (∀ l6 l7 l8 : Option Value, ae_Run P (d + 1) cd_Rules_answer r H2 (31, [some (.ref 25), some (.int (nI 0)), some (.int (nI q)), some (.ref 30), some (.ref 43), some (.int (nI (p + l.length))), l6, l7, l8], []) (ae_en (au σ [(16, nI (sR (α 23) l (w, wt)).1)]) (au α [(21, (sR (α 23) l (w, wt)).2)]) z t0 ts)) → ae_Run P (d + 1) cd_Rules_answer r H2 (31, [some (.ref 25), some (.int (nI 0)), some (.int (nI q)), some (.ref 30), some (.ref 43), some (.int (nI p)), l6, l7, l8], []) (ae_en (au σ [(16, nI w)]) (au α [(21, wt)]) z t0 ts)
  | [], p, w, m, wt, l6, l7, l8, _, _, _, _, kk => kk l6 l7 l8
  | c :: l, p, w, m, wt, l6, l7, l8, hd, hc, h1, h2, kk => by
    rw [List.length_cons] at h1 h2 kk
    rw [sR, show p + (l.length + 1) = p + 1 + l.length by omega] at kk
    obtain ⟨hc, hc2⟩ := hc
    rcases hd with ⟨g1, g2⟩ | ⟨g1, g2, g3⟩ | ⟨g1, g2, g3⟩
    · rcases g1 with ⟨v, hv, rfl⟩ | ⟨v, hv, rfl⟩
      · rw [sSt_n _ hv] at kk
        exact st_n_0 hq hE (by omega) hl hr hv hc (by omega) (fun a b c => lp_ans_0 hq hE hl hr l g2 hc2 (by omega) (by omega) kk)
      · rw [sSt_f _ hv] at kk
        exact st_f_0 hq hE (by omega) hl hr hv hc (by omega) (fun a b c => lp_ans_0 hq hE hl hr l g2 hc2 (by omega) (by omega) kk)
    · obtain ⟨w, rfl⟩ : ∃ q, w = q + 1 := ⟨w - 1, by omega⟩
      rcases g1 with rfl | rfl
      · rw [sSt_g] at kk
        exact st_g_0 hq hE (by omega) hl hr hc (by omega) (fun a b c => lp_ans_0 hq hE hl hr l g3 hc2 (by omega) (by omega) kk)
      · rw [sSt_d] at kk
        exact st_d_0 hq hE (by omega) hl hr hc (by omega) (fun a b c => lp_ans_0 hq hE hl hr l g3 hc2 (by omega) (by omega) kk)
    · obtain ⟨w, rfl⟩ : ∃ q, w = q + 1 + 1 := ⟨w - 2, by omega⟩
      rw [sSt_b _ g1] at kk
      exact st_b_0 hq hE (by omega) hl hr g1 hc (by omega) (fun a b c => lp_ans_0 hq hE hl hr l g3 hc2 (by omega) (by omega) kk)
theorem fin_ans_0 {d : Nat} {q E : Nat} {wt : Nat → Int32} {l6 l7 l8 : Option Value} (hq : q < 3) (hE : t0.2.2 q = nI E) (hl : E ≤ 160) : ae_Run P (d + 1) cd_Rules_answer (some (.int (wt 0))) (ae_en (au σ [(16, nI 1)]) (au α [(21, wt)]) z t0 ts) (31, [some (.ref 25), some (.int (nI 0)), some (.int (nI q)), some (.ref 30), some (.ref 43), some (.int (nI E)), l6, l7, l8], []) (ae_en (au σ [(16, nI 1)]) (au α [(21, wt)]) z t0 ts) := by
  have eq : (nI q).toNatClampNeg = q := nI_clamp (by omega)
  refine ar_go 6 rfl ⟨trivial, trivial, trivial, trivial, (show vp_in (nI q) 3 from vp_in_nI hq (by decide)), trivial, trivial⟩ ?_
  refine ar_br (fun h36 => ?_) (fun h36 => ?_)
  · try simp only [← Int32.not_le, Classical.not_not, ae_ofN] at h36
    refine ar_go 4 rfl ⟨trivial, trivial, trivial, trivial, trivial⟩ ?_
    refine ar_br (fun h95 => ?_) (fun h95 => ?_)
    · try simp only [← Int32.not_le, Classical.not_not, ae_ofN] at h95
      exact absurd rfl h95
    · try simp only [← Int32.not_le, Classical.not_not, ae_ofN] at h95
      refine ar_go 5 rfl ⟨trivial, trivial, trivial, (vp_in_nI (n := 0) (by decide) (by decide)), trivial, trivial⟩ ?_
      refine ar_ret rfl rfl trivial ?_ ?_
      rfl
      rfl
  · try simp only [← Int32.not_le, Classical.not_not, ae_ofN] at h36
    exact absurd (show ¬ t0.2.2 (nI q).toNatClampNeg ≤ nI E from h36) (by rw [eq, hE]; exact fun q => q (nI_le (Nat.le_refl _) (by omega)))
set_option maxRecDepth 4000 in
theorem ev_ans_0 {d : Nat} {q : Nat} {e : Nat → List Int32} (hq : q < 3) (ht : tOk t0 e) (hs : σ 15 = nI (ts.length + 1)) (hs6 : ts.length + 1 ≤ 6) : ae_Ev P (d + 2) 89 [.ref 25, .int (nI 0), .int (nI q), .ref 30] (ae_en σ α z t0 ts) (some (.int (sA (α 23) (e q)))) (ae_en (au σ [(16, nI 1)]) (au α [(21, (sR (α 23) (e q) (0, α 21)).2)]) z t0 ts) := by
  obtain ⟨hd, hc, hE, hl⟩ := ht.1 q hq
  have hr := ht.2
  have wl : ∀ {p : Nat} {l6 l7 l8 : Option Value}, p = tB e q → ae_Run P (d + 1) cd_Rules_answer (some (.int (sA (α 23) (e q)))) (ae_en (au σ [(16, nI 1)]) (au α [(21, (sR (α 23) (e q) (0, α 21)).2)]) z t0 ts) (31, [some (.ref 25), some (.int (nI 0)), some (.int (nI q)), some (.ref 30), some (.ref 43), some (.int (nI p)), l6, l7, l8], []) (ae_en (au σ [(16, nI 0)]) (au α [(21, (α 21))]) z t0 ts) := by
    rintro p l6 l7 l8 rfl
    refine lp_ans_0 hq hE hl hr (e q) hd hc (Nat.le_refl _) (by omega) (fun l6 l7 l8 => ?_)
    obtain ⟨s1, s2⟩ := sA_wt (nm := α 23) (f := α 21) hd
    rw [s1, ← s2]
    exact fin_ans_0 hq hE (by omega)
  have htx : ae_tx (ts).length (nI 0).toNatClampNeg = some 43 := by
    rw [nI_clamp (by omega)]
    exact if_pos (by simp)
  refine ar_ev (cd := cd_Rules_answer) rfl rfl rfl ?_
  refine ar_go 2 rfl ⟨trivial, trivial, trivial⟩ ?_
  refine ar_br (fun h1 => ?_) (fun h1 => ?_)
  · try simp only [← Int32.not_le, Classical.not_not, ae_ofN] at h1
    exact absurd (show ¬ (0 : Int32) ≤ nI 0 from h1) (by decide)
  · try simp only [← Int32.not_le, Classical.not_not, ae_ofN] at h1
    refine ar_go 4 rfl ⟨trivial, trivial, trivial, trivial, trivial⟩ ?_
    refine ar_br (fun h5 => ?_) (fun h5 => ?_)
    · try simp only [← Int32.not_le, Classical.not_not, ae_ofN] at h5
      exact absurd (show σ 15 ≤ nI 0 from h5) (by rw [hs]; exact nI_ge (by simp) (by omega))
    · try simp only [← Int32.not_le, Classical.not_not, ae_ofN] at h5
      refine ar_go 4 rfl ⟨trivial, trivial, trivial, (show vp_in (nI 0) 6 from vp_in_nI (by decide) (by decide)), trivial⟩ ?_
      show ae_Run _ _ _ _ _ (_, _, [va_rf (ae_tx (ts).length (nI 0).toNatClampNeg)]) _
      rw [htx]
      refine ar_go 9 rfl ⟨trivial, trivial, trivial, trivial, trivial, trivial, trivial, trivial, trivial, trivial⟩ ?_
      refine ar_br (fun h21 => ?_) (fun h21 => ?_)
      · try simp only [← Int32.not_le, Classical.not_not, ae_ofN] at h21
        have h21 : ¬ nI q = 0 := h21
        have q0 : q ≠ 0 := fun q0 => h21 (by rw [q0]; rfl)
        obtain ⟨s, rfl⟩ : ∃ s, q = s + 1 := ⟨q - 1, by omega⟩
        have e7 : nI s = nI (s + 1) - 1 := (nI_pred s).symm
        refine ar_go 7 rfl ⟨trivial, trivial, trivial, trivial, trivial, (show vp_in (nI (s + 1) - 1) 3 from e7 ▸ vp_in_nI (by omega) (by decide)), trivial, trivial⟩ ?_
        exact ar_to (wl (p := tB e (s + 1)) rfl) (by show (31, [_, _, _, _, _, some (Value.int (t0.2.2 (nI (s + 1) - 1).toNatClampNeg)), _, _, _], _) = _; rw [nI_pred, nI_clamp (by omega), (ht.1 s (by omega)).2.2.1]; rfl) rfl
      · try simp only [← Int32.not_le, Classical.not_not, ae_ofN] at h21
        have h21 : nI q = 0 := h21
        have q0 : q = 0 := (nI_eq (by omega) (by omega)).mp h21
        refine ar_go 3 rfl ⟨trivial, trivial, trivial, trivial⟩ ?_
        exact ar_to (wl (p := 0) (by rw [q0]; rfl)) rfl rfl
theorem st_n_1 {t1 : ae_T} {d : Nat} {r : Option Value} {H2 : ae_H} {q E p w : Nat} {wt : Nat → Int32} {l6 l7 l8 : Option Value} (hq : q < 3) (hE : t1.2.2 q = nI E) (hp : p < E) (hl : E ≤ t1.1) (hr : t1.1 ≤ 160) {v : Nat} (hv : v ≤ 9999) (hc : t1.2.1 p = nI v) (hw : w < 160)
  (kk : ∀ l6 l7 l8 : Option Value, ae_Run P (d + 1) cd_Rules_answer r H2 (31, [some (.ref 25), some (.int (nI 1)), some (.int (nI q)), some (.ref 30), some (.ref 76), some (.int (nI (p + 1))), l6, l7, l8], []) (ae_en (au σ [(16, nI (w + 1))]) (au α [(21, (upd wt w (nI v)))]) z t0 (t1 :: ts))) :
  ae_Run P (d + 1) cd_Rules_answer r H2 (31, [some (.ref 25), some (.int (nI 1)), some (.int (nI q)), some (.ref 30), some (.ref 76), some (.int (nI p)), l6, l7, l8], []) (ae_en (au σ [(16, nI w)]) (au α [(21, wt)]) z t0 (t1 :: ts)) := by
  have eq : (nI q).toNatClampNeg = q := nI_clamp (by omega)
  have ep : (nI p).toNatClampNeg = p := nI_clamp (by omega)
  refine ar_go 6 rfl ⟨trivial, trivial, trivial, trivial, (show vp_in (nI q) 3 from vp_in_nI hq (by decide)), trivial, trivial⟩ ?_
  refine ar_br (fun h36 => ?_) (fun h36 => ?_)
  · try simp only [← Int32.not_le, Classical.not_not, ae_ofN] at h36
    exact absurd (show t1.2.2 (nI q).toNatClampNeg ≤ nI p from h36) (by rw [eq, hE]; exact nI_ge hp (by omega))
  · try simp only [← Int32.not_le, Classical.not_not, ae_ofN] at h36
    refine ar_go 7 rfl ⟨trivial, trivial, trivial, (show vp_in (nI p) t1.1 from vp_in_nI (by omega) (by omega)), trivial, trivial, trivial, trivial⟩ ?_
    refine ar_br (fun h43 => ?_) (fun h43 => ?_)
    · try simp only [← Int32.not_le, Classical.not_not, ae_ofN] at h43
      exact absurd (show ¬ (0 : Int32) ≤ t1.2.1 (nI p).toNatClampNeg from h43) (by rw [ep, hc]; exact fun q => q (nI_pos' (by omega)))
    · try simp only [← Int32.not_le, Classical.not_not, ae_ofN] at h43
      refine ar_go 4 rfl ⟨trivial, trivial, trivial, trivial, trivial⟩ ?_
      refine ar_br (fun h47 => ?_) (fun h47 => ?_)
      · try simp only [← Int32.not_le, Classical.not_not, ae_ofN] at h47
        exact absurd (show nI 10000 ≤ t1.2.1 (nI p).toNatClampNeg from h47) (by rw [ep, hc]; exact nI_ge (by omega) (by decide))
      · try simp only [← Int32.not_le, Classical.not_not, ae_ofN] at h47
        refine ar_go 2 rfl ⟨trivial, trivial, trivial⟩ ?_
        refine ar_call rfl rfl (ev_Rules_push (w := w) (wt := wt) (v := t1.2.1 (nI p).toNatClampNeg) hw) ?_
        rw [ep, hc]
        refine ar_go 3 rfl ⟨trivial, trivial, trivial, trivial⟩ ?_
        exact ar_to (kk _ _ _) (by rw [nI_succ p] <;> rfl) rfl
theorem st_f_1 {t1 : ae_T} {d : Nat} {r : Option Value} {H2 : ae_H} {q E p w : Nat} {wt : Nat → Int32} {l6 l7 l8 : Option Value} (hq : q < 3) (hE : t1.2.2 q = nI E) (hp : p < E) (hl : E ≤ t1.1) (hr : t1.1 ≤ 160) {v : Nat} (hv : v < 6) (hc : t1.2.1 p = nI (10000 + v)) (hw : w < 160)
  (kk : ∀ l6 l7 l8 : Option Value, ae_Run P (d + 1) cd_Rules_answer r H2 (31, [some (.ref 25), some (.int (nI 1)), some (.int (nI q)), some (.ref 30), some (.ref 76), some (.int (nI (p + 1))), l6, l7, l8], []) (ae_en (au σ [(16, nI (w + 1))]) (au α [(21, (upd wt w (α 23 v)))]) z t0 (t1 :: ts))) :
  ae_Run P (d + 1) cd_Rules_answer r H2 (31, [some (.ref 25), some (.int (nI 1)), some (.int (nI q)), some (.ref 30), some (.ref 76), some (.int (nI p)), l6, l7, l8], []) (ae_en (au σ [(16, nI w)]) (au α [(21, wt)]) z t0 (t1 :: ts)) := by
  have eq : (nI q).toNatClampNeg = q := nI_clamp (by omega)
  have ep : (nI p).toNatClampNeg = p := nI_clamp (by omega)
  refine ar_go 6 rfl ⟨trivial, trivial, trivial, trivial, (show vp_in (nI q) 3 from vp_in_nI hq (by decide)), trivial, trivial⟩ ?_
  refine ar_br (fun h36 => ?_) (fun h36 => ?_)
  · try simp only [← Int32.not_le, Classical.not_not, ae_ofN] at h36
    exact absurd (show t1.2.2 (nI q).toNatClampNeg ≤ nI p from h36) (by rw [eq, hE]; exact nI_ge hp (by omega))
  · try simp only [← Int32.not_le, Classical.not_not, ae_ofN] at h36
    refine ar_go 7 rfl ⟨trivial, trivial, trivial, (show vp_in (nI p) t1.1 from vp_in_nI (by omega) (by omega)), trivial, trivial, trivial, trivial⟩ ?_
    refine ar_br (fun h43 => ?_) (fun h43 => ?_)
    · try simp only [← Int32.not_le, Classical.not_not, ae_ofN] at h43
      exact absurd (show ¬ (0 : Int32) ≤ t1.2.1 (nI p).toNatClampNeg from h43) (by rw [ep, hc]; exact fun q => q (nI_pos' (by omega)))
    · try simp only [← Int32.not_le, Classical.not_not, ae_ofN] at h43
      refine ar_go 4 rfl ⟨trivial, trivial, trivial, trivial, trivial⟩ ?_
      refine ar_br (fun h47 => ?_) (fun h47 => ?_)
      · try simp only [← Int32.not_le, Classical.not_not, ae_ofN] at h47
        have e9 : t1.2.1 (nI p).toNatClampNeg - nI 10000 = nI v := by rw [ep, hc]; exact nI_off
        refine ar_go 5 rfl ⟨trivial, trivial, trivial, trivial, (show vp_in (t1.2.1 (nI p).toNatClampNeg - nI 10000) 6 from by rw [e9]; exact vp_in_nI hv (by decide)), trivial⟩ ?_
        show ae_Run _ _ _ _ _ (_, _, [Value.int (α 23 (t1.2.1 (nI p).toNatClampNeg - nI 10000).toNatClampNeg), _]) _
        rw [e9, nI_clamp (n := v) (by omega)]
        refine ar_call rfl rfl (ev_Rules_push (w := w) (wt := wt) hw) ?_
        refine ar_go 3 rfl ⟨trivial, trivial, trivial, trivial⟩ ?_
        exact ar_to (kk _ _ _) (by rw [nI_succ p] <;> rfl) rfl
      · try simp only [← Int32.not_le, Classical.not_not, ae_ofN] at h47
        exact absurd (show ¬ nI 10000 ≤ t1.2.1 (nI p).toNatClampNeg from h47) (by rw [ep, hc]; exact fun q => q (nI_le (by omega) (by omega)))
theorem st_g_1 {t1 : ae_T} {d : Nat} {r : Option Value} {H2 : ae_H} {q E p w : Nat} {wt : Nat → Int32} {l6 l7 l8 : Option Value} (hq : q < 3) (hE : t1.2.2 q = nI E) (hp : p < E) (hl : E ≤ t1.1) (hr : t1.1 ≤ 160) (hc : t1.2.1 p = -12) (hw : w < 160)
  (kk : ∀ l6 l7 l8 : Option Value, ae_Run P (d + 1) cd_Rules_answer r H2 (31, [some (.ref 25), some (.int (nI 1)), some (.int (nI q)), some (.ref 30), some (.ref 76), some (.int (nI (p + 1))), l6, l7, l8], []) (ae_en (au σ [(16, nI (w + 1))]) (au α [(21, (upd wt w (- wt w)))]) z t0 (t1 :: ts))) :
  ae_Run P (d + 1) cd_Rules_answer r H2 (31, [some (.ref 25), some (.int (nI 1)), some (.int (nI q)), some (.ref 30), some (.ref 76), some (.int (nI p)), l6, l7, l8], []) (ae_en (au σ [(16, nI (w + 1))]) (au α [(21, wt)]) z t0 (t1 :: ts)) := by
  have eq : (nI q).toNatClampNeg = q := nI_clamp (by omega)
  have ep : (nI p).toNatClampNeg = p := nI_clamp (by omega)
  refine ar_go 6 rfl ⟨trivial, trivial, trivial, trivial, (show vp_in (nI q) 3 from vp_in_nI hq (by decide)), trivial, trivial⟩ ?_
  refine ar_br (fun h36 => ?_) (fun h36 => ?_)
  · try simp only [← Int32.not_le, Classical.not_not, ae_ofN] at h36
    exact absurd (show t1.2.2 (nI q).toNatClampNeg ≤ nI p from h36) (by rw [eq, hE]; exact nI_ge hp (by omega))
  · try simp only [← Int32.not_le, Classical.not_not, ae_ofN] at h36
    refine ar_go 7 rfl ⟨trivial, trivial, trivial, (show vp_in (nI p) t1.1 from vp_in_nI (by omega) (by omega)), trivial, trivial, trivial, trivial⟩ ?_
    refine ar_br (fun h43 => ?_) (fun h43 => ?_)
    · try simp only [← Int32.not_le, Classical.not_not, ae_ofN] at h43
      refine ar_go 3 rfl ⟨trivial, trivial, trivial, trivial⟩ ?_
      refine ar_br (fun h59 => ?_) (fun h59 => ?_)
      · try simp only [← Int32.not_le, Classical.not_not, ae_ofN] at h59
        exact absurd (show ¬ t1.2.1 (nI p).toNatClampNeg = -12 from h59) (by rw [ep, hc]; decide)
      · try simp only [← Int32.not_le, Classical.not_not, ae_ofN] at h59
        refine ar_go 2 rfl ⟨trivial, trivial, trivial⟩ ?_
        refine ar_call rfl rfl (ev_Rules_pop hw) ?_
        refine ar_go 1 rfl ⟨trivial, trivial⟩ ?_
        refine ar_call rfl rfl (ev_Rules_push (w := w) (wt := wt) hw) ?_
        refine ar_go 3 rfl ⟨trivial, trivial, trivial, trivial⟩ ?_
        exact ar_to (kk _ _ _) (by rw [nI_succ p] <;> rfl) rfl
    · try simp only [← Int32.not_le, Classical.not_not, ae_ofN] at h43
      exact absurd (show (0 : Int32) ≤ t1.2.1 (nI p).toNatClampNeg from h43) (by rw [ep, hc]; decide)
theorem st_d_1 {t1 : ae_T} {d : Nat} {r : Option Value} {H2 : ae_H} {q E p w : Nat} {wt : Nat → Int32} {l6 l7 l8 : Option Value} (hq : q < 3) (hE : t1.2.2 q = nI E) (hp : p < E) (hl : E ≤ t1.1) (hr : t1.1 ≤ 160) (hc : t1.2.1 p = -3) (hw : w < 160)
  (kk : ∀ l6 l7 l8 : Option Value, ae_Run P (d + 1) cd_Rules_answer r H2 (31, [some (.ref 25), some (.int (nI 1)), some (.int (nI q)), some (.ref 30), some (.ref 76), some (.int (nI (p + 1))), l6, l7, l8], []) (ae_en (au σ [(16, nI (w + 1))]) (au α [(21, (upd wt w (if wt w = 0 then 1 else 0)))]) z t0 (t1 :: ts))) :
  ae_Run P (d + 1) cd_Rules_answer r H2 (31, [some (.ref 25), some (.int (nI 1)), some (.int (nI q)), some (.ref 30), some (.ref 76), some (.int (nI p)), l6, l7, l8], []) (ae_en (au σ [(16, nI (w + 1))]) (au α [(21, wt)]) z t0 (t1 :: ts)) := by
  have eq : (nI q).toNatClampNeg = q := nI_clamp (by omega)
  have ep : (nI p).toNatClampNeg = p := nI_clamp (by omega)
  refine ar_go 6 rfl ⟨trivial, trivial, trivial, trivial, (show vp_in (nI q) 3 from vp_in_nI hq (by decide)), trivial, trivial⟩ ?_
  refine ar_br (fun h36 => ?_) (fun h36 => ?_)
  · try simp only [← Int32.not_le, Classical.not_not, ae_ofN] at h36
    exact absurd (show t1.2.2 (nI q).toNatClampNeg ≤ nI p from h36) (by rw [eq, hE]; exact nI_ge hp (by omega))
  · try simp only [← Int32.not_le, Classical.not_not, ae_ofN] at h36
    refine ar_go 7 rfl ⟨trivial, trivial, trivial, (show vp_in (nI p) t1.1 from vp_in_nI (by omega) (by omega)), trivial, trivial, trivial, trivial⟩ ?_
    refine ar_br (fun h43 => ?_) (fun h43 => ?_)
    · try simp only [← Int32.not_le, Classical.not_not, ae_ofN] at h43
      refine ar_go 3 rfl ⟨trivial, trivial, trivial, trivial⟩ ?_
      refine ar_br (fun h59 => ?_) (fun h59 => ?_)
      · try simp only [← Int32.not_le, Classical.not_not, ae_ofN] at h59
        refine ar_go 3 rfl ⟨trivial, trivial, trivial, trivial⟩ ?_
        refine ar_br (fun h68 => ?_) (fun h68 => ?_)
        · try simp only [← Int32.not_le, Classical.not_not, ae_ofN] at h68
          exact absurd (show ¬ t1.2.1 (nI p).toNatClampNeg = -3 from h68) (by rw [ep, hc]; decide)
        · try simp only [← Int32.not_le, Classical.not_not, ae_ofN] at h68
          refine ar_go 2 rfl ⟨trivial, trivial, trivial⟩ ?_
          refine ar_call rfl rfl (ev_Rules_pop hw) ?_
          refine ar_go 1 rfl ⟨trivial, trivial⟩ ?_
          refine ar_br (fun h72 => ?_) (fun h72 => ?_)
          · try simp only [← Int32.not_le, Classical.not_not, ae_ofN] at h72
            rw [if_neg h72] at kk
            refine ar_go 1 rfl ⟨trivial, trivial⟩ ?_
            refine ar_call rfl rfl (ev_Rules_push (w := w) (wt := wt) hw) ?_
            refine ar_go 3 rfl ⟨trivial, trivial, trivial, trivial⟩ ?_
            exact ar_to (kk _ _ _) (by rw [nI_succ p] <;> rfl) rfl
          · try simp only [← Int32.not_le, Classical.not_not, ae_ofN] at h72
            rw [if_pos h72] at kk
            refine ar_go 2 rfl ⟨trivial, trivial, trivial⟩ ?_
            refine ar_call rfl rfl (ev_Rules_push (w := w) (wt := wt) hw) ?_
            refine ar_go 3 rfl ⟨trivial, trivial, trivial, trivial⟩ ?_
            exact ar_to (kk _ _ _) (by rw [nI_succ p] <;> rfl) rfl
      · try simp only [← Int32.not_le, Classical.not_not, ae_ofN] at h59
        exact absurd (show t1.2.1 (nI p).toNatClampNeg = -12 from h59) (by rw [ep, hc]; decide)
    · try simp only [← Int32.not_le, Classical.not_not, ae_ofN] at h43
      exact absurd (show (0 : Int32) ≤ t1.2.1 (nI p).toNatClampNeg from h43) (by rw [ep, hc]; decide)
theorem st_b_1 {t1 : ae_T} {d : Nat} {r : Option Value} {H2 : ae_H} {q E p w : Nat} {wt : Nat → Int32} {l6 l7 l8 : Option Value} (hq : q < 3) (hE : t1.2.2 q = nI E) (hp : p < E) (hl : E ≤ t1.1) (hr : t1.1 ≤ 160) {c : Int32} (ho : cBi c) (hc : t1.2.1 p = c) (hw : w + 1 < 160)
  (kk : ∀ l6 l7 l8 : Option Value, ae_Run P (d + 1) cd_Rules_answer r H2 (31, [some (.ref 25), some (.int (nI 1)), some (.int (nI q)), some (.ref 30), some (.ref 76), some (.int (nI (p + 1))), l6, l7, l8], []) (ae_en (au σ [(16, nI (w + 1))]) (au α [(21, (upd wt w (oV c (wt w) (wt (w + 1)))))]) z t0 (t1 :: ts))) :
  ae_Run P (d + 1) cd_Rules_answer r H2 (31, [some (.ref 25), some (.int (nI 1)), some (.int (nI q)), some (.ref 30), some (.ref 76), some (.int (nI p)), l6, l7, l8], []) (ae_en (au σ [(16, nI (w + 1 + 1))]) (au α [(21, wt)]) z t0 (t1 :: ts)) := by
  have eq : (nI q).toNatClampNeg = q := nI_clamp (by omega)
  have ep : (nI p).toNatClampNeg = p := nI_clamp (by omega)
  refine ar_go 6 rfl ⟨trivial, trivial, trivial, trivial, (show vp_in (nI q) 3 from vp_in_nI hq (by decide)), trivial, trivial⟩ ?_
  refine ar_br (fun h36 => ?_) (fun h36 => ?_)
  · try simp only [← Int32.not_le, Classical.not_not, ae_ofN] at h36
    exact absurd (show t1.2.2 (nI q).toNatClampNeg ≤ nI p from h36) (by rw [eq, hE]; exact nI_ge hp (by omega))
  · try simp only [← Int32.not_le, Classical.not_not, ae_ofN] at h36
    refine ar_go 7 rfl ⟨trivial, trivial, trivial, (show vp_in (nI p) t1.1 from vp_in_nI (by omega) (by omega)), trivial, trivial, trivial, trivial⟩ ?_
    refine ar_br (fun h43 => ?_) (fun h43 => ?_)
    · try simp only [← Int32.not_le, Classical.not_not, ae_ofN] at h43
      refine ar_go 3 rfl ⟨trivial, trivial, trivial, trivial⟩ ?_
      refine ar_br (fun h59 => ?_) (fun h59 => ?_)
      · try simp only [← Int32.not_le, Classical.not_not, ae_ofN] at h59
        refine ar_go 3 rfl ⟨trivial, trivial, trivial, trivial⟩ ?_
        refine ar_br (fun h68 => ?_) (fun h68 => ?_)
        · try simp only [← Int32.not_le, Classical.not_not, ae_ofN] at h68
          refine ar_go 1 rfl ⟨trivial, trivial⟩ ?_
          refine ar_call rfl rfl (ev_Rules_pop hw) ?_
          refine ar_go 2 rfl ⟨trivial, trivial, trivial⟩ ?_
          refine ar_call rfl rfl (ev_Rules_pop (Nat.lt_of_succ_lt hw)) ?_
          refine ar_go 5 rfl ⟨trivial, trivial, trivial, trivial, trivial, trivial⟩ ?_
          show ae_Run _ _ _ _ _ (_, _, [_, _, Value.int (t1.2.1 (nI p).toNatClampNeg), _]) _
          rw [ep, hc]
          refine ar_call rfl rfl (ev_Rules_joined ho) ?_
          refine ar_call rfl rfl (ev_Rules_push (w := w) (wt := wt) (Nat.lt_of_succ_lt hw)) ?_
          refine ar_go 2 rfl ⟨trivial, trivial, trivial⟩ ?_
          exact ar_to (kk _ _ _) (by rw [nI_succ p] <;> rfl) rfl
        · try simp only [← Int32.not_le, Classical.not_not, ae_ofN] at h68
          exact absurd (show t1.2.1 (nI p).toNatClampNeg = -3 from h68) (by rw [ep, hc]; exact (cBi_lt ho).2.2)
      · try simp only [← Int32.not_le, Classical.not_not, ae_ofN] at h59
        exact absurd (show t1.2.1 (nI p).toNatClampNeg = -12 from h59) (by rw [ep, hc]; exact (cBi_lt ho).2.1)
    · try simp only [← Int32.not_le, Classical.not_not, ae_ofN] at h43
      exact absurd (show (0 : Int32) ≤ t1.2.1 (nI p).toNatClampNeg from h43) (by rw [ep, hc]; exact Int32.not_le.mpr (cBi_lt ho).1)
theorem lp_ans_1 {t1 : ae_T} {d : Nat} {r : Option Value} {H2 : ae_H} {q E : Nat} (hq : q < 3) (hE : t1.2.2 q = nI E) (hl : E ≤ t1.1) (hr : t1.1 ≤ 160) : ∀ (l : List Int32) {p w m : Nat} {wt : Nat → Int32} {l6 l7 l8 : Option Value}, dOk l w m → hasAt t1.2.1 p l → p + l.length ≤ E → w + l.length ≤ 160 →
  (∀ l6 l7 l8 : Option Value, ae_Run P (d + 1) cd_Rules_answer r H2 (31, [some (.ref 25), some (.int (nI 1)), some (.int (nI q)), some (.ref 30), some (.ref 76), some (.int (nI (p + l.length))), l6, l7, l8], []) (ae_en (au σ [(16, nI (sR (α 23) l (w, wt)).1)]) (au α [(21, (sR (α 23) l (w, wt)).2)]) z t0 (t1 :: ts))) → ae_Run P (d + 1) cd_Rules_answer r H2 (31, [some (.ref 25), some (.int (nI 1)), some (.int (nI q)), some (.ref 30), some (.ref 76), some (.int (nI p)), l6, l7, l8], []) (ae_en (au σ [(16, nI w)]) (au α [(21, wt)]) z t0 (t1 :: ts))
  | [], p, w, m, wt, l6, l7, l8, _, _, _, _, kk => kk l6 l7 l8
  | c :: l, p, w, m, wt, l6, l7, l8, hd, hc, h1, h2, kk => by
    rw [List.length_cons] at h1 h2 kk
    rw [sR, show p + (l.length + 1) = p + 1 + l.length by omega] at kk
    obtain ⟨hc, hc2⟩ := hc
    rcases hd with ⟨g1, g2⟩ | ⟨g1, g2, g3⟩ | ⟨g1, g2, g3⟩
    · rcases g1 with ⟨v, hv, rfl⟩ | ⟨v, hv, rfl⟩
      · rw [sSt_n _ hv] at kk
        exact st_n_1 hq hE (by omega) hl hr hv hc (by omega) (fun a b c => lp_ans_1 hq hE hl hr l g2 hc2 (by omega) (by omega) kk)
      · rw [sSt_f _ hv] at kk
        exact st_f_1 hq hE (by omega) hl hr hv hc (by omega) (fun a b c => lp_ans_1 hq hE hl hr l g2 hc2 (by omega) (by omega) kk)
    · obtain ⟨w, rfl⟩ : ∃ q, w = q + 1 := ⟨w - 1, by omega⟩
      rcases g1 with rfl | rfl
      · rw [sSt_g] at kk
        exact st_g_1 hq hE (by omega) hl hr hc (by omega) (fun a b c => lp_ans_1 hq hE hl hr l g3 hc2 (by omega) (by omega) kk)
      · rw [sSt_d] at kk
        exact st_d_1 hq hE (by omega) hl hr hc (by omega) (fun a b c => lp_ans_1 hq hE hl hr l g3 hc2 (by omega) (by omega) kk)
    · obtain ⟨w, rfl⟩ : ∃ q, w = q + 1 + 1 := ⟨w - 2, by omega⟩
      rw [sSt_b _ g1] at kk
      exact st_b_1 hq hE (by omega) hl hr g1 hc (by omega) (fun a b c => lp_ans_1 hq hE hl hr l g3 hc2 (by omega) (by omega) kk)
theorem fin_ans_1 {t1 : ae_T} {d : Nat} {q E : Nat} {wt : Nat → Int32} {l6 l7 l8 : Option Value} (hq : q < 3) (hE : t1.2.2 q = nI E) (hl : E ≤ 160) : ae_Run P (d + 1) cd_Rules_answer (some (.int (wt 0))) (ae_en (au σ [(16, nI 1)]) (au α [(21, wt)]) z t0 (t1 :: ts)) (31, [some (.ref 25), some (.int (nI 1)), some (.int (nI q)), some (.ref 30), some (.ref 76), some (.int (nI E)), l6, l7, l8], []) (ae_en (au σ [(16, nI 1)]) (au α [(21, wt)]) z t0 (t1 :: ts)) := by
  have eq : (nI q).toNatClampNeg = q := nI_clamp (by omega)
  refine ar_go 6 rfl ⟨trivial, trivial, trivial, trivial, (show vp_in (nI q) 3 from vp_in_nI hq (by decide)), trivial, trivial⟩ ?_
  refine ar_br (fun h36 => ?_) (fun h36 => ?_)
  · try simp only [← Int32.not_le, Classical.not_not, ae_ofN] at h36
    refine ar_go 4 rfl ⟨trivial, trivial, trivial, trivial, trivial⟩ ?_
    refine ar_br (fun h95 => ?_) (fun h95 => ?_)
    · try simp only [← Int32.not_le, Classical.not_not, ae_ofN] at h95
      exact absurd rfl h95
    · try simp only [← Int32.not_le, Classical.not_not, ae_ofN] at h95
      refine ar_go 5 rfl ⟨trivial, trivial, trivial, (vp_in_nI (n := 0) (by decide) (by decide)), trivial, trivial⟩ ?_
      refine ar_ret rfl rfl trivial ?_ ?_
      rfl
      rfl
  · try simp only [← Int32.not_le, Classical.not_not, ae_ofN] at h36
    exact absurd (show ¬ t1.2.2 (nI q).toNatClampNeg ≤ nI E from h36) (by rw [eq, hE]; exact fun q => q (nI_le (Nat.le_refl _) (by omega)))
set_option maxRecDepth 4000 in
theorem ev_ans_1 {t1 : ae_T} {d : Nat} {q : Nat} {e : Nat → List Int32} (hq : q < 3) (ht : tOk t1 e) (hs : σ 15 = nI ((t1 :: ts).length + 1)) (hs6 : (t1 :: ts).length + 1 ≤ 6) : ae_Ev P (d + 2) 89 [.ref 25, .int (nI 1), .int (nI q), .ref 30] (ae_en σ α z t0 (t1 :: ts)) (some (.int (sA (α 23) (e q)))) (ae_en (au σ [(16, nI 1)]) (au α [(21, (sR (α 23) (e q) (0, α 21)).2)]) z t0 (t1 :: ts)) := by
  obtain ⟨hd, hc, hE, hl⟩ := ht.1 q hq
  have hr := ht.2
  have wl : ∀ {p : Nat} {l6 l7 l8 : Option Value}, p = tB e q → ae_Run P (d + 1) cd_Rules_answer (some (.int (sA (α 23) (e q)))) (ae_en (au σ [(16, nI 1)]) (au α [(21, (sR (α 23) (e q) (0, α 21)).2)]) z t0 (t1 :: ts)) (31, [some (.ref 25), some (.int (nI 1)), some (.int (nI q)), some (.ref 30), some (.ref 76), some (.int (nI p)), l6, l7, l8], []) (ae_en (au σ [(16, nI 0)]) (au α [(21, (α 21))]) z t0 (t1 :: ts)) := by
    rintro p l6 l7 l8 rfl
    refine lp_ans_1 hq hE hl hr (e q) hd hc (Nat.le_refl _) (by omega) (fun l6 l7 l8 => ?_)
    obtain ⟨s1, s2⟩ := sA_wt (nm := α 23) (f := α 21) hd
    rw [s1, ← s2]
    exact fin_ans_1 hq hE (by omega)
  have htx : ae_tx ((t1 :: ts)).length (nI 1).toNatClampNeg = some 76 := by
    rw [nI_clamp (by omega)]
    exact if_pos (by simp)
  refine ar_ev (cd := cd_Rules_answer) rfl rfl rfl ?_
  refine ar_go 2 rfl ⟨trivial, trivial, trivial⟩ ?_
  refine ar_br (fun h1 => ?_) (fun h1 => ?_)
  · try simp only [← Int32.not_le, Classical.not_not, ae_ofN] at h1
    exact absurd (show ¬ (0 : Int32) ≤ nI 1 from h1) (by decide)
  · try simp only [← Int32.not_le, Classical.not_not, ae_ofN] at h1
    refine ar_go 4 rfl ⟨trivial, trivial, trivial, trivial, trivial⟩ ?_
    refine ar_br (fun h5 => ?_) (fun h5 => ?_)
    · try simp only [← Int32.not_le, Classical.not_not, ae_ofN] at h5
      exact absurd (show σ 15 ≤ nI 1 from h5) (by rw [hs]; exact nI_ge (by simp) (by omega))
    · try simp only [← Int32.not_le, Classical.not_not, ae_ofN] at h5
      refine ar_go 4 rfl ⟨trivial, trivial, trivial, (show vp_in (nI 1) 6 from vp_in_nI (by decide) (by decide)), trivial⟩ ?_
      show ae_Run _ _ _ _ _ (_, _, [va_rf (ae_tx ((t1 :: ts)).length (nI 1).toNatClampNeg)]) _
      rw [htx]
      refine ar_go 9 rfl ⟨trivial, trivial, trivial, trivial, trivial, trivial, trivial, trivial, trivial, trivial⟩ ?_
      refine ar_br (fun h21 => ?_) (fun h21 => ?_)
      · try simp only [← Int32.not_le, Classical.not_not, ae_ofN] at h21
        have h21 : ¬ nI q = 0 := h21
        have q0 : q ≠ 0 := fun q0 => h21 (by rw [q0]; rfl)
        obtain ⟨s, rfl⟩ : ∃ s, q = s + 1 := ⟨q - 1, by omega⟩
        have e7 : nI s = nI (s + 1) - 1 := (nI_pred s).symm
        refine ar_go 7 rfl ⟨trivial, trivial, trivial, trivial, trivial, (show vp_in (nI (s + 1) - 1) 3 from e7 ▸ vp_in_nI (by omega) (by decide)), trivial, trivial⟩ ?_
        exact ar_to (wl (p := tB e (s + 1)) rfl) (by show (31, [_, _, _, _, _, some (Value.int (t1.2.2 (nI (s + 1) - 1).toNatClampNeg)), _, _, _], _) = _; rw [nI_pred, nI_clamp (by omega), (ht.1 s (by omega)).2.2.1]; rfl) rfl
      · try simp only [← Int32.not_le, Classical.not_not, ae_ofN] at h21
        have h21 : nI q = 0 := h21
        have q0 : q = 0 := (nI_eq (by omega) (by omega)).mp h21
        refine ar_go 3 rfl ⟨trivial, trivial, trivial, trivial⟩ ?_
        exact ar_to (wl (p := 0) (by rw [q0]; rfl)) rfl rfl
theorem st_n_2 {t1 t2 : ae_T} {d : Nat} {r : Option Value} {H2 : ae_H} {q E p w : Nat} {wt : Nat → Int32} {l6 l7 l8 : Option Value} (hq : q < 3) (hE : t2.2.2 q = nI E) (hp : p < E) (hl : E ≤ t2.1) (hr : t2.1 ≤ 160) {v : Nat} (hv : v ≤ 9999) (hc : t2.2.1 p = nI v) (hw : w < 160)
  (kk : ∀ l6 l7 l8 : Option Value, ae_Run P (d + 1) cd_Rules_answer r H2 (31, [some (.ref 25), some (.int (nI 2)), some (.int (nI q)), some (.ref 30), some (.ref 79), some (.int (nI (p + 1))), l6, l7, l8], []) (ae_en (au σ [(16, nI (w + 1))]) (au α [(21, (upd wt w (nI v)))]) z t0 (t1 :: t2 :: ts))) :
  ae_Run P (d + 1) cd_Rules_answer r H2 (31, [some (.ref 25), some (.int (nI 2)), some (.int (nI q)), some (.ref 30), some (.ref 79), some (.int (nI p)), l6, l7, l8], []) (ae_en (au σ [(16, nI w)]) (au α [(21, wt)]) z t0 (t1 :: t2 :: ts)) := by
  have eq : (nI q).toNatClampNeg = q := nI_clamp (by omega)
  have ep : (nI p).toNatClampNeg = p := nI_clamp (by omega)
  refine ar_go 6 rfl ⟨trivial, trivial, trivial, trivial, (show vp_in (nI q) 3 from vp_in_nI hq (by decide)), trivial, trivial⟩ ?_
  refine ar_br (fun h36 => ?_) (fun h36 => ?_)
  · try simp only [← Int32.not_le, Classical.not_not, ae_ofN] at h36
    exact absurd (show t2.2.2 (nI q).toNatClampNeg ≤ nI p from h36) (by rw [eq, hE]; exact nI_ge hp (by omega))
  · try simp only [← Int32.not_le, Classical.not_not, ae_ofN] at h36
    refine ar_go 7 rfl ⟨trivial, trivial, trivial, (show vp_in (nI p) t2.1 from vp_in_nI (by omega) (by omega)), trivial, trivial, trivial, trivial⟩ ?_
    refine ar_br (fun h43 => ?_) (fun h43 => ?_)
    · try simp only [← Int32.not_le, Classical.not_not, ae_ofN] at h43
      exact absurd (show ¬ (0 : Int32) ≤ t2.2.1 (nI p).toNatClampNeg from h43) (by rw [ep, hc]; exact fun q => q (nI_pos' (by omega)))
    · try simp only [← Int32.not_le, Classical.not_not, ae_ofN] at h43
      refine ar_go 4 rfl ⟨trivial, trivial, trivial, trivial, trivial⟩ ?_
      refine ar_br (fun h47 => ?_) (fun h47 => ?_)
      · try simp only [← Int32.not_le, Classical.not_not, ae_ofN] at h47
        exact absurd (show nI 10000 ≤ t2.2.1 (nI p).toNatClampNeg from h47) (by rw [ep, hc]; exact nI_ge (by omega) (by decide))
      · try simp only [← Int32.not_le, Classical.not_not, ae_ofN] at h47
        refine ar_go 2 rfl ⟨trivial, trivial, trivial⟩ ?_
        refine ar_call rfl rfl (ev_Rules_push (w := w) (wt := wt) (v := t2.2.1 (nI p).toNatClampNeg) hw) ?_
        rw [ep, hc]
        refine ar_go 3 rfl ⟨trivial, trivial, trivial, trivial⟩ ?_
        exact ar_to (kk _ _ _) (by rw [nI_succ p] <;> rfl) rfl
theorem st_f_2 {t1 t2 : ae_T} {d : Nat} {r : Option Value} {H2 : ae_H} {q E p w : Nat} {wt : Nat → Int32} {l6 l7 l8 : Option Value} (hq : q < 3) (hE : t2.2.2 q = nI E) (hp : p < E) (hl : E ≤ t2.1) (hr : t2.1 ≤ 160) {v : Nat} (hv : v < 6) (hc : t2.2.1 p = nI (10000 + v)) (hw : w < 160)
  (kk : ∀ l6 l7 l8 : Option Value, ae_Run P (d + 1) cd_Rules_answer r H2 (31, [some (.ref 25), some (.int (nI 2)), some (.int (nI q)), some (.ref 30), some (.ref 79), some (.int (nI (p + 1))), l6, l7, l8], []) (ae_en (au σ [(16, nI (w + 1))]) (au α [(21, (upd wt w (α 23 v)))]) z t0 (t1 :: t2 :: ts))) :
  ae_Run P (d + 1) cd_Rules_answer r H2 (31, [some (.ref 25), some (.int (nI 2)), some (.int (nI q)), some (.ref 30), some (.ref 79), some (.int (nI p)), l6, l7, l8], []) (ae_en (au σ [(16, nI w)]) (au α [(21, wt)]) z t0 (t1 :: t2 :: ts)) := by
  have eq : (nI q).toNatClampNeg = q := nI_clamp (by omega)
  have ep : (nI p).toNatClampNeg = p := nI_clamp (by omega)
  refine ar_go 6 rfl ⟨trivial, trivial, trivial, trivial, (show vp_in (nI q) 3 from vp_in_nI hq (by decide)), trivial, trivial⟩ ?_
  refine ar_br (fun h36 => ?_) (fun h36 => ?_)
  · try simp only [← Int32.not_le, Classical.not_not, ae_ofN] at h36
    exact absurd (show t2.2.2 (nI q).toNatClampNeg ≤ nI p from h36) (by rw [eq, hE]; exact nI_ge hp (by omega))
  · try simp only [← Int32.not_le, Classical.not_not, ae_ofN] at h36
    refine ar_go 7 rfl ⟨trivial, trivial, trivial, (show vp_in (nI p) t2.1 from vp_in_nI (by omega) (by omega)), trivial, trivial, trivial, trivial⟩ ?_
    refine ar_br (fun h43 => ?_) (fun h43 => ?_)
    · try simp only [← Int32.not_le, Classical.not_not, ae_ofN] at h43
      exact absurd (show ¬ (0 : Int32) ≤ t2.2.1 (nI p).toNatClampNeg from h43) (by rw [ep, hc]; exact fun q => q (nI_pos' (by omega)))
    · try simp only [← Int32.not_le, Classical.not_not, ae_ofN] at h43
      refine ar_go 4 rfl ⟨trivial, trivial, trivial, trivial, trivial⟩ ?_
      refine ar_br (fun h47 => ?_) (fun h47 => ?_)
      · try simp only [← Int32.not_le, Classical.not_not, ae_ofN] at h47
        have e9 : t2.2.1 (nI p).toNatClampNeg - nI 10000 = nI v := by rw [ep, hc]; exact nI_off
        refine ar_go 5 rfl ⟨trivial, trivial, trivial, trivial, (show vp_in (t2.2.1 (nI p).toNatClampNeg - nI 10000) 6 from by rw [e9]; exact vp_in_nI hv (by decide)), trivial⟩ ?_
        show ae_Run _ _ _ _ _ (_, _, [Value.int (α 23 (t2.2.1 (nI p).toNatClampNeg - nI 10000).toNatClampNeg), _]) _
        rw [e9, nI_clamp (n := v) (by omega)]
        refine ar_call rfl rfl (ev_Rules_push (w := w) (wt := wt) hw) ?_
        refine ar_go 3 rfl ⟨trivial, trivial, trivial, trivial⟩ ?_
        exact ar_to (kk _ _ _) (by rw [nI_succ p] <;> rfl) rfl
      · try simp only [← Int32.not_le, Classical.not_not, ae_ofN] at h47
        exact absurd (show ¬ nI 10000 ≤ t2.2.1 (nI p).toNatClampNeg from h47) (by rw [ep, hc]; exact fun q => q (nI_le (by omega) (by omega)))
theorem st_g_2 {t1 t2 : ae_T} {d : Nat} {r : Option Value} {H2 : ae_H} {q E p w : Nat} {wt : Nat → Int32} {l6 l7 l8 : Option Value} (hq : q < 3) (hE : t2.2.2 q = nI E) (hp : p < E) (hl : E ≤ t2.1) (hr : t2.1 ≤ 160) (hc : t2.2.1 p = -12) (hw : w < 160)
  (kk : ∀ l6 l7 l8 : Option Value, ae_Run P (d + 1) cd_Rules_answer r H2 (31, [some (.ref 25), some (.int (nI 2)), some (.int (nI q)), some (.ref 30), some (.ref 79), some (.int (nI (p + 1))), l6, l7, l8], []) (ae_en (au σ [(16, nI (w + 1))]) (au α [(21, (upd wt w (- wt w)))]) z t0 (t1 :: t2 :: ts))) :
  ae_Run P (d + 1) cd_Rules_answer r H2 (31, [some (.ref 25), some (.int (nI 2)), some (.int (nI q)), some (.ref 30), some (.ref 79), some (.int (nI p)), l6, l7, l8], []) (ae_en (au σ [(16, nI (w + 1))]) (au α [(21, wt)]) z t0 (t1 :: t2 :: ts)) := by
  have eq : (nI q).toNatClampNeg = q := nI_clamp (by omega)
  have ep : (nI p).toNatClampNeg = p := nI_clamp (by omega)
  refine ar_go 6 rfl ⟨trivial, trivial, trivial, trivial, (show vp_in (nI q) 3 from vp_in_nI hq (by decide)), trivial, trivial⟩ ?_
  refine ar_br (fun h36 => ?_) (fun h36 => ?_)
  · try simp only [← Int32.not_le, Classical.not_not, ae_ofN] at h36
    exact absurd (show t2.2.2 (nI q).toNatClampNeg ≤ nI p from h36) (by rw [eq, hE]; exact nI_ge hp (by omega))
  · try simp only [← Int32.not_le, Classical.not_not, ae_ofN] at h36
    refine ar_go 7 rfl ⟨trivial, trivial, trivial, (show vp_in (nI p) t2.1 from vp_in_nI (by omega) (by omega)), trivial, trivial, trivial, trivial⟩ ?_
    refine ar_br (fun h43 => ?_) (fun h43 => ?_)
    · try simp only [← Int32.not_le, Classical.not_not, ae_ofN] at h43
      refine ar_go 3 rfl ⟨trivial, trivial, trivial, trivial⟩ ?_
      refine ar_br (fun h59 => ?_) (fun h59 => ?_)
      · try simp only [← Int32.not_le, Classical.not_not, ae_ofN] at h59
        exact absurd (show ¬ t2.2.1 (nI p).toNatClampNeg = -12 from h59) (by rw [ep, hc]; decide)
      · try simp only [← Int32.not_le, Classical.not_not, ae_ofN] at h59
        refine ar_go 2 rfl ⟨trivial, trivial, trivial⟩ ?_
        refine ar_call rfl rfl (ev_Rules_pop hw) ?_
        refine ar_go 1 rfl ⟨trivial, trivial⟩ ?_
        refine ar_call rfl rfl (ev_Rules_push (w := w) (wt := wt) hw) ?_
        refine ar_go 3 rfl ⟨trivial, trivial, trivial, trivial⟩ ?_
        exact ar_to (kk _ _ _) (by rw [nI_succ p] <;> rfl) rfl
    · try simp only [← Int32.not_le, Classical.not_not, ae_ofN] at h43
      exact absurd (show (0 : Int32) ≤ t2.2.1 (nI p).toNatClampNeg from h43) (by rw [ep, hc]; decide)
theorem st_d_2 {t1 t2 : ae_T} {d : Nat} {r : Option Value} {H2 : ae_H} {q E p w : Nat} {wt : Nat → Int32} {l6 l7 l8 : Option Value} (hq : q < 3) (hE : t2.2.2 q = nI E) (hp : p < E) (hl : E ≤ t2.1) (hr : t2.1 ≤ 160) (hc : t2.2.1 p = -3) (hw : w < 160)
  (kk : ∀ l6 l7 l8 : Option Value, ae_Run P (d + 1) cd_Rules_answer r H2 (31, [some (.ref 25), some (.int (nI 2)), some (.int (nI q)), some (.ref 30), some (.ref 79), some (.int (nI (p + 1))), l6, l7, l8], []) (ae_en (au σ [(16, nI (w + 1))]) (au α [(21, (upd wt w (if wt w = 0 then 1 else 0)))]) z t0 (t1 :: t2 :: ts))) :
  ae_Run P (d + 1) cd_Rules_answer r H2 (31, [some (.ref 25), some (.int (nI 2)), some (.int (nI q)), some (.ref 30), some (.ref 79), some (.int (nI p)), l6, l7, l8], []) (ae_en (au σ [(16, nI (w + 1))]) (au α [(21, wt)]) z t0 (t1 :: t2 :: ts)) := by
  have eq : (nI q).toNatClampNeg = q := nI_clamp (by omega)
  have ep : (nI p).toNatClampNeg = p := nI_clamp (by omega)
  refine ar_go 6 rfl ⟨trivial, trivial, trivial, trivial, (show vp_in (nI q) 3 from vp_in_nI hq (by decide)), trivial, trivial⟩ ?_
  refine ar_br (fun h36 => ?_) (fun h36 => ?_)
  · try simp only [← Int32.not_le, Classical.not_not, ae_ofN] at h36
    exact absurd (show t2.2.2 (nI q).toNatClampNeg ≤ nI p from h36) (by rw [eq, hE]; exact nI_ge hp (by omega))
  · try simp only [← Int32.not_le, Classical.not_not, ae_ofN] at h36
    refine ar_go 7 rfl ⟨trivial, trivial, trivial, (show vp_in (nI p) t2.1 from vp_in_nI (by omega) (by omega)), trivial, trivial, trivial, trivial⟩ ?_
    refine ar_br (fun h43 => ?_) (fun h43 => ?_)
    · try simp only [← Int32.not_le, Classical.not_not, ae_ofN] at h43
      refine ar_go 3 rfl ⟨trivial, trivial, trivial, trivial⟩ ?_
      refine ar_br (fun h59 => ?_) (fun h59 => ?_)
      · try simp only [← Int32.not_le, Classical.not_not, ae_ofN] at h59
        refine ar_go 3 rfl ⟨trivial, trivial, trivial, trivial⟩ ?_
        refine ar_br (fun h68 => ?_) (fun h68 => ?_)
        · try simp only [← Int32.not_le, Classical.not_not, ae_ofN] at h68
          exact absurd (show ¬ t2.2.1 (nI p).toNatClampNeg = -3 from h68) (by rw [ep, hc]; decide)
        · try simp only [← Int32.not_le, Classical.not_not, ae_ofN] at h68
          refine ar_go 2 rfl ⟨trivial, trivial, trivial⟩ ?_
          refine ar_call rfl rfl (ev_Rules_pop hw) ?_
          refine ar_go 1 rfl ⟨trivial, trivial⟩ ?_
          refine ar_br (fun h72 => ?_) (fun h72 => ?_)
          · try simp only [← Int32.not_le, Classical.not_not, ae_ofN] at h72
            rw [if_neg h72] at kk
            refine ar_go 1 rfl ⟨trivial, trivial⟩ ?_
            refine ar_call rfl rfl (ev_Rules_push (w := w) (wt := wt) hw) ?_
            refine ar_go 3 rfl ⟨trivial, trivial, trivial, trivial⟩ ?_
            exact ar_to (kk _ _ _) (by rw [nI_succ p] <;> rfl) rfl
          · try simp only [← Int32.not_le, Classical.not_not, ae_ofN] at h72
            rw [if_pos h72] at kk
            refine ar_go 2 rfl ⟨trivial, trivial, trivial⟩ ?_
            refine ar_call rfl rfl (ev_Rules_push (w := w) (wt := wt) hw) ?_
            refine ar_go 3 rfl ⟨trivial, trivial, trivial, trivial⟩ ?_
            exact ar_to (kk _ _ _) (by rw [nI_succ p] <;> rfl) rfl
      · try simp only [← Int32.not_le, Classical.not_not, ae_ofN] at h59
        exact absurd (show t2.2.1 (nI p).toNatClampNeg = -12 from h59) (by rw [ep, hc]; decide)
    · try simp only [← Int32.not_le, Classical.not_not, ae_ofN] at h43
      exact absurd (show (0 : Int32) ≤ t2.2.1 (nI p).toNatClampNeg from h43) (by rw [ep, hc]; decide)
theorem st_b_2 {t1 t2 : ae_T} {d : Nat} {r : Option Value} {H2 : ae_H} {q E p w : Nat} {wt : Nat → Int32} {l6 l7 l8 : Option Value} (hq : q < 3) (hE : t2.2.2 q = nI E) (hp : p < E) (hl : E ≤ t2.1) (hr : t2.1 ≤ 160) {c : Int32} (ho : cBi c) (hc : t2.2.1 p = c) (hw : w + 1 < 160)
  (kk : ∀ l6 l7 l8 : Option Value, ae_Run P (d + 1) cd_Rules_answer r H2 (31, [some (.ref 25), some (.int (nI 2)), some (.int (nI q)), some (.ref 30), some (.ref 79), some (.int (nI (p + 1))), l6, l7, l8], []) (ae_en (au σ [(16, nI (w + 1))]) (au α [(21, (upd wt w (oV c (wt w) (wt (w + 1)))))]) z t0 (t1 :: t2 :: ts))) :
  ae_Run P (d + 1) cd_Rules_answer r H2 (31, [some (.ref 25), some (.int (nI 2)), some (.int (nI q)), some (.ref 30), some (.ref 79), some (.int (nI p)), l6, l7, l8], []) (ae_en (au σ [(16, nI (w + 1 + 1))]) (au α [(21, wt)]) z t0 (t1 :: t2 :: ts)) := by
  have eq : (nI q).toNatClampNeg = q := nI_clamp (by omega)
  have ep : (nI p).toNatClampNeg = p := nI_clamp (by omega)
  refine ar_go 6 rfl ⟨trivial, trivial, trivial, trivial, (show vp_in (nI q) 3 from vp_in_nI hq (by decide)), trivial, trivial⟩ ?_
  refine ar_br (fun h36 => ?_) (fun h36 => ?_)
  · try simp only [← Int32.not_le, Classical.not_not, ae_ofN] at h36
    exact absurd (show t2.2.2 (nI q).toNatClampNeg ≤ nI p from h36) (by rw [eq, hE]; exact nI_ge hp (by omega))
  · try simp only [← Int32.not_le, Classical.not_not, ae_ofN] at h36
    refine ar_go 7 rfl ⟨trivial, trivial, trivial, (show vp_in (nI p) t2.1 from vp_in_nI (by omega) (by omega)), trivial, trivial, trivial, trivial⟩ ?_
    refine ar_br (fun h43 => ?_) (fun h43 => ?_)
    · try simp only [← Int32.not_le, Classical.not_not, ae_ofN] at h43
      refine ar_go 3 rfl ⟨trivial, trivial, trivial, trivial⟩ ?_
      refine ar_br (fun h59 => ?_) (fun h59 => ?_)
      · try simp only [← Int32.not_le, Classical.not_not, ae_ofN] at h59
        refine ar_go 3 rfl ⟨trivial, trivial, trivial, trivial⟩ ?_
        refine ar_br (fun h68 => ?_) (fun h68 => ?_)
        · try simp only [← Int32.not_le, Classical.not_not, ae_ofN] at h68
          refine ar_go 1 rfl ⟨trivial, trivial⟩ ?_
          refine ar_call rfl rfl (ev_Rules_pop hw) ?_
          refine ar_go 2 rfl ⟨trivial, trivial, trivial⟩ ?_
          refine ar_call rfl rfl (ev_Rules_pop (Nat.lt_of_succ_lt hw)) ?_
          refine ar_go 5 rfl ⟨trivial, trivial, trivial, trivial, trivial, trivial⟩ ?_
          show ae_Run _ _ _ _ _ (_, _, [_, _, Value.int (t2.2.1 (nI p).toNatClampNeg), _]) _
          rw [ep, hc]
          refine ar_call rfl rfl (ev_Rules_joined ho) ?_
          refine ar_call rfl rfl (ev_Rules_push (w := w) (wt := wt) (Nat.lt_of_succ_lt hw)) ?_
          refine ar_go 2 rfl ⟨trivial, trivial, trivial⟩ ?_
          exact ar_to (kk _ _ _) (by rw [nI_succ p] <;> rfl) rfl
        · try simp only [← Int32.not_le, Classical.not_not, ae_ofN] at h68
          exact absurd (show t2.2.1 (nI p).toNatClampNeg = -3 from h68) (by rw [ep, hc]; exact (cBi_lt ho).2.2)
      · try simp only [← Int32.not_le, Classical.not_not, ae_ofN] at h59
        exact absurd (show t2.2.1 (nI p).toNatClampNeg = -12 from h59) (by rw [ep, hc]; exact (cBi_lt ho).2.1)
    · try simp only [← Int32.not_le, Classical.not_not, ae_ofN] at h43
      exact absurd (show (0 : Int32) ≤ t2.2.1 (nI p).toNatClampNeg from h43) (by rw [ep, hc]; exact Int32.not_le.mpr (cBi_lt ho).1)
theorem lp_ans_2 {t1 t2 : ae_T} {d : Nat} {r : Option Value} {H2 : ae_H} {q E : Nat} (hq : q < 3) (hE : t2.2.2 q = nI E) (hl : E ≤ t2.1) (hr : t2.1 ≤ 160) : ∀ (l : List Int32) {p w m : Nat} {wt : Nat → Int32} {l6 l7 l8 : Option Value}, dOk l w m → hasAt t2.2.1 p l → p + l.length ≤ E → w + l.length ≤ 160 →
  (∀ l6 l7 l8 : Option Value, ae_Run P (d + 1) cd_Rules_answer r H2 (31, [some (.ref 25), some (.int (nI 2)), some (.int (nI q)), some (.ref 30), some (.ref 79), some (.int (nI (p + l.length))), l6, l7, l8], []) (ae_en (au σ [(16, nI (sR (α 23) l (w, wt)).1)]) (au α [(21, (sR (α 23) l (w, wt)).2)]) z t0 (t1 :: t2 :: ts))) → ae_Run P (d + 1) cd_Rules_answer r H2 (31, [some (.ref 25), some (.int (nI 2)), some (.int (nI q)), some (.ref 30), some (.ref 79), some (.int (nI p)), l6, l7, l8], []) (ae_en (au σ [(16, nI w)]) (au α [(21, wt)]) z t0 (t1 :: t2 :: ts))
  | [], p, w, m, wt, l6, l7, l8, _, _, _, _, kk => kk l6 l7 l8
  | c :: l, p, w, m, wt, l6, l7, l8, hd, hc, h1, h2, kk => by
    rw [List.length_cons] at h1 h2 kk
    rw [sR, show p + (l.length + 1) = p + 1 + l.length by omega] at kk
    obtain ⟨hc, hc2⟩ := hc
    rcases hd with ⟨g1, g2⟩ | ⟨g1, g2, g3⟩ | ⟨g1, g2, g3⟩
    · rcases g1 with ⟨v, hv, rfl⟩ | ⟨v, hv, rfl⟩
      · rw [sSt_n _ hv] at kk
        exact st_n_2 hq hE (by omega) hl hr hv hc (by omega) (fun a b c => lp_ans_2 hq hE hl hr l g2 hc2 (by omega) (by omega) kk)
      · rw [sSt_f _ hv] at kk
        exact st_f_2 hq hE (by omega) hl hr hv hc (by omega) (fun a b c => lp_ans_2 hq hE hl hr l g2 hc2 (by omega) (by omega) kk)
    · obtain ⟨w, rfl⟩ : ∃ q, w = q + 1 := ⟨w - 1, by omega⟩
      rcases g1 with rfl | rfl
      · rw [sSt_g] at kk
        exact st_g_2 hq hE (by omega) hl hr hc (by omega) (fun a b c => lp_ans_2 hq hE hl hr l g3 hc2 (by omega) (by omega) kk)
      · rw [sSt_d] at kk
        exact st_d_2 hq hE (by omega) hl hr hc (by omega) (fun a b c => lp_ans_2 hq hE hl hr l g3 hc2 (by omega) (by omega) kk)
    · obtain ⟨w, rfl⟩ : ∃ q, w = q + 1 + 1 := ⟨w - 2, by omega⟩
      rw [sSt_b _ g1] at kk
      exact st_b_2 hq hE (by omega) hl hr g1 hc (by omega) (fun a b c => lp_ans_2 hq hE hl hr l g3 hc2 (by omega) (by omega) kk)
theorem fin_ans_2 {t1 t2 : ae_T} {d : Nat} {q E : Nat} {wt : Nat → Int32} {l6 l7 l8 : Option Value} (hq : q < 3) (hE : t2.2.2 q = nI E) (hl : E ≤ 160) : ae_Run P (d + 1) cd_Rules_answer (some (.int (wt 0))) (ae_en (au σ [(16, nI 1)]) (au α [(21, wt)]) z t0 (t1 :: t2 :: ts)) (31, [some (.ref 25), some (.int (nI 2)), some (.int (nI q)), some (.ref 30), some (.ref 79), some (.int (nI E)), l6, l7, l8], []) (ae_en (au σ [(16, nI 1)]) (au α [(21, wt)]) z t0 (t1 :: t2 :: ts)) := by
  have eq : (nI q).toNatClampNeg = q := nI_clamp (by omega)
  refine ar_go 6 rfl ⟨trivial, trivial, trivial, trivial, (show vp_in (nI q) 3 from vp_in_nI hq (by decide)), trivial, trivial⟩ ?_
  refine ar_br (fun h36 => ?_) (fun h36 => ?_)
  · try simp only [← Int32.not_le, Classical.not_not, ae_ofN] at h36
    refine ar_go 4 rfl ⟨trivial, trivial, trivial, trivial, trivial⟩ ?_
    refine ar_br (fun h95 => ?_) (fun h95 => ?_)
    · try simp only [← Int32.not_le, Classical.not_not, ae_ofN] at h95
      exact absurd rfl h95
    · try simp only [← Int32.not_le, Classical.not_not, ae_ofN] at h95
      refine ar_go 5 rfl ⟨trivial, trivial, trivial, (vp_in_nI (n := 0) (by decide) (by decide)), trivial, trivial⟩ ?_
      refine ar_ret rfl rfl trivial ?_ ?_
      rfl
      rfl
  · try simp only [← Int32.not_le, Classical.not_not, ae_ofN] at h36
    exact absurd (show ¬ t2.2.2 (nI q).toNatClampNeg ≤ nI E from h36) (by rw [eq, hE]; exact fun q => q (nI_le (Nat.le_refl _) (by omega)))
set_option maxRecDepth 4000 in
theorem ev_ans_2 {t1 t2 : ae_T} {d : Nat} {q : Nat} {e : Nat → List Int32} (hq : q < 3) (ht : tOk t2 e) (hs : σ 15 = nI ((t1 :: t2 :: ts).length + 1)) (hs6 : (t1 :: t2 :: ts).length + 1 ≤ 6) : ae_Ev P (d + 2) 89 [.ref 25, .int (nI 2), .int (nI q), .ref 30] (ae_en σ α z t0 (t1 :: t2 :: ts)) (some (.int (sA (α 23) (e q)))) (ae_en (au σ [(16, nI 1)]) (au α [(21, (sR (α 23) (e q) (0, α 21)).2)]) z t0 (t1 :: t2 :: ts)) := by
  obtain ⟨hd, hc, hE, hl⟩ := ht.1 q hq
  have hr := ht.2
  have wl : ∀ {p : Nat} {l6 l7 l8 : Option Value}, p = tB e q → ae_Run P (d + 1) cd_Rules_answer (some (.int (sA (α 23) (e q)))) (ae_en (au σ [(16, nI 1)]) (au α [(21, (sR (α 23) (e q) (0, α 21)).2)]) z t0 (t1 :: t2 :: ts)) (31, [some (.ref 25), some (.int (nI 2)), some (.int (nI q)), some (.ref 30), some (.ref 79), some (.int (nI p)), l6, l7, l8], []) (ae_en (au σ [(16, nI 0)]) (au α [(21, (α 21))]) z t0 (t1 :: t2 :: ts)) := by
    rintro p l6 l7 l8 rfl
    refine lp_ans_2 hq hE hl hr (e q) hd hc (Nat.le_refl _) (by omega) (fun l6 l7 l8 => ?_)
    obtain ⟨s1, s2⟩ := sA_wt (nm := α 23) (f := α 21) hd
    rw [s1, ← s2]
    exact fin_ans_2 hq hE (by omega)
  have htx : ae_tx ((t1 :: t2 :: ts)).length (nI 2).toNatClampNeg = some 79 := by
    rw [nI_clamp (by omega)]
    exact if_pos (by simp)
  refine ar_ev (cd := cd_Rules_answer) rfl rfl rfl ?_
  refine ar_go 2 rfl ⟨trivial, trivial, trivial⟩ ?_
  refine ar_br (fun h1 => ?_) (fun h1 => ?_)
  · try simp only [← Int32.not_le, Classical.not_not, ae_ofN] at h1
    exact absurd (show ¬ (0 : Int32) ≤ nI 2 from h1) (by decide)
  · try simp only [← Int32.not_le, Classical.not_not, ae_ofN] at h1
    refine ar_go 4 rfl ⟨trivial, trivial, trivial, trivial, trivial⟩ ?_
    refine ar_br (fun h5 => ?_) (fun h5 => ?_)
    · try simp only [← Int32.not_le, Classical.not_not, ae_ofN] at h5
      exact absurd (show σ 15 ≤ nI 2 from h5) (by rw [hs]; exact nI_ge (by simp) (by omega))
    · try simp only [← Int32.not_le, Classical.not_not, ae_ofN] at h5
      refine ar_go 4 rfl ⟨trivial, trivial, trivial, (show vp_in (nI 2) 6 from vp_in_nI (by decide) (by decide)), trivial⟩ ?_
      show ae_Run _ _ _ _ _ (_, _, [va_rf (ae_tx ((t1 :: t2 :: ts)).length (nI 2).toNatClampNeg)]) _
      rw [htx]
      refine ar_go 9 rfl ⟨trivial, trivial, trivial, trivial, trivial, trivial, trivial, trivial, trivial, trivial⟩ ?_
      refine ar_br (fun h21 => ?_) (fun h21 => ?_)
      · try simp only [← Int32.not_le, Classical.not_not, ae_ofN] at h21
        have h21 : ¬ nI q = 0 := h21
        have q0 : q ≠ 0 := fun q0 => h21 (by rw [q0]; rfl)
        obtain ⟨s, rfl⟩ : ∃ s, q = s + 1 := ⟨q - 1, by omega⟩
        have e7 : nI s = nI (s + 1) - 1 := (nI_pred s).symm
        refine ar_go 7 rfl ⟨trivial, trivial, trivial, trivial, trivial, (show vp_in (nI (s + 1) - 1) 3 from e7 ▸ vp_in_nI (by omega) (by decide)), trivial, trivial⟩ ?_
        exact ar_to (wl (p := tB e (s + 1)) rfl) (by show (31, [_, _, _, _, _, some (Value.int (t2.2.2 (nI (s + 1) - 1).toNatClampNeg)), _, _, _], _) = _; rw [nI_pred, nI_clamp (by omega), (ht.1 s (by omega)).2.2.1]; rfl) rfl
      · try simp only [← Int32.not_le, Classical.not_not, ae_ofN] at h21
        have h21 : nI q = 0 := h21
        have q0 : q = 0 := (nI_eq (by omega) (by omega)).mp h21
        refine ar_go 3 rfl ⟨trivial, trivial, trivial, trivial⟩ ?_
        exact ar_to (wl (p := 0) (by rw [q0]; rfl)) rfl rfl
theorem st_n_3 {t1 t2 t3 : ae_T} {d : Nat} {r : Option Value} {H2 : ae_H} {q E p w : Nat} {wt : Nat → Int32} {l6 l7 l8 : Option Value} (hq : q < 3) (hE : t3.2.2 q = nI E) (hp : p < E) (hl : E ≤ t3.1) (hr : t3.1 ≤ 160) {v : Nat} (hv : v ≤ 9999) (hc : t3.2.1 p = nI v) (hw : w < 160)
  (kk : ∀ l6 l7 l8 : Option Value, ae_Run P (d + 1) cd_Rules_answer r H2 (31, [some (.ref 25), some (.int (nI 3)), some (.int (nI q)), some (.ref 30), some (.ref 82), some (.int (nI (p + 1))), l6, l7, l8], []) (ae_en (au σ [(16, nI (w + 1))]) (au α [(21, (upd wt w (nI v)))]) z t0 (t1 :: t2 :: t3 :: ts))) :
  ae_Run P (d + 1) cd_Rules_answer r H2 (31, [some (.ref 25), some (.int (nI 3)), some (.int (nI q)), some (.ref 30), some (.ref 82), some (.int (nI p)), l6, l7, l8], []) (ae_en (au σ [(16, nI w)]) (au α [(21, wt)]) z t0 (t1 :: t2 :: t3 :: ts)) := by
  have eq : (nI q).toNatClampNeg = q := nI_clamp (by omega)
  have ep : (nI p).toNatClampNeg = p := nI_clamp (by omega)
  refine ar_go 6 rfl ⟨trivial, trivial, trivial, trivial, (show vp_in (nI q) 3 from vp_in_nI hq (by decide)), trivial, trivial⟩ ?_
  refine ar_br (fun h36 => ?_) (fun h36 => ?_)
  · try simp only [← Int32.not_le, Classical.not_not, ae_ofN] at h36
    exact absurd (show t3.2.2 (nI q).toNatClampNeg ≤ nI p from h36) (by rw [eq, hE]; exact nI_ge hp (by omega))
  · try simp only [← Int32.not_le, Classical.not_not, ae_ofN] at h36
    refine ar_go 7 rfl ⟨trivial, trivial, trivial, (show vp_in (nI p) t3.1 from vp_in_nI (by omega) (by omega)), trivial, trivial, trivial, trivial⟩ ?_
    refine ar_br (fun h43 => ?_) (fun h43 => ?_)
    · try simp only [← Int32.not_le, Classical.not_not, ae_ofN] at h43
      exact absurd (show ¬ (0 : Int32) ≤ t3.2.1 (nI p).toNatClampNeg from h43) (by rw [ep, hc]; exact fun q => q (nI_pos' (by omega)))
    · try simp only [← Int32.not_le, Classical.not_not, ae_ofN] at h43
      refine ar_go 4 rfl ⟨trivial, trivial, trivial, trivial, trivial⟩ ?_
      refine ar_br (fun h47 => ?_) (fun h47 => ?_)
      · try simp only [← Int32.not_le, Classical.not_not, ae_ofN] at h47
        exact absurd (show nI 10000 ≤ t3.2.1 (nI p).toNatClampNeg from h47) (by rw [ep, hc]; exact nI_ge (by omega) (by decide))
      · try simp only [← Int32.not_le, Classical.not_not, ae_ofN] at h47
        refine ar_go 2 rfl ⟨trivial, trivial, trivial⟩ ?_
        refine ar_call rfl rfl (ev_Rules_push (w := w) (wt := wt) (v := t3.2.1 (nI p).toNatClampNeg) hw) ?_
        rw [ep, hc]
        refine ar_go 3 rfl ⟨trivial, trivial, trivial, trivial⟩ ?_
        exact ar_to (kk _ _ _) (by rw [nI_succ p] <;> rfl) rfl
theorem st_f_3 {t1 t2 t3 : ae_T} {d : Nat} {r : Option Value} {H2 : ae_H} {q E p w : Nat} {wt : Nat → Int32} {l6 l7 l8 : Option Value} (hq : q < 3) (hE : t3.2.2 q = nI E) (hp : p < E) (hl : E ≤ t3.1) (hr : t3.1 ≤ 160) {v : Nat} (hv : v < 6) (hc : t3.2.1 p = nI (10000 + v)) (hw : w < 160)
  (kk : ∀ l6 l7 l8 : Option Value, ae_Run P (d + 1) cd_Rules_answer r H2 (31, [some (.ref 25), some (.int (nI 3)), some (.int (nI q)), some (.ref 30), some (.ref 82), some (.int (nI (p + 1))), l6, l7, l8], []) (ae_en (au σ [(16, nI (w + 1))]) (au α [(21, (upd wt w (α 23 v)))]) z t0 (t1 :: t2 :: t3 :: ts))) :
  ae_Run P (d + 1) cd_Rules_answer r H2 (31, [some (.ref 25), some (.int (nI 3)), some (.int (nI q)), some (.ref 30), some (.ref 82), some (.int (nI p)), l6, l7, l8], []) (ae_en (au σ [(16, nI w)]) (au α [(21, wt)]) z t0 (t1 :: t2 :: t3 :: ts)) := by
  have eq : (nI q).toNatClampNeg = q := nI_clamp (by omega)
  have ep : (nI p).toNatClampNeg = p := nI_clamp (by omega)
  refine ar_go 6 rfl ⟨trivial, trivial, trivial, trivial, (show vp_in (nI q) 3 from vp_in_nI hq (by decide)), trivial, trivial⟩ ?_
  refine ar_br (fun h36 => ?_) (fun h36 => ?_)
  · try simp only [← Int32.not_le, Classical.not_not, ae_ofN] at h36
    exact absurd (show t3.2.2 (nI q).toNatClampNeg ≤ nI p from h36) (by rw [eq, hE]; exact nI_ge hp (by omega))
  · try simp only [← Int32.not_le, Classical.not_not, ae_ofN] at h36
    refine ar_go 7 rfl ⟨trivial, trivial, trivial, (show vp_in (nI p) t3.1 from vp_in_nI (by omega) (by omega)), trivial, trivial, trivial, trivial⟩ ?_
    refine ar_br (fun h43 => ?_) (fun h43 => ?_)
    · try simp only [← Int32.not_le, Classical.not_not, ae_ofN] at h43
      exact absurd (show ¬ (0 : Int32) ≤ t3.2.1 (nI p).toNatClampNeg from h43) (by rw [ep, hc]; exact fun q => q (nI_pos' (by omega)))
    · try simp only [← Int32.not_le, Classical.not_not, ae_ofN] at h43
      refine ar_go 4 rfl ⟨trivial, trivial, trivial, trivial, trivial⟩ ?_
      refine ar_br (fun h47 => ?_) (fun h47 => ?_)
      · try simp only [← Int32.not_le, Classical.not_not, ae_ofN] at h47
        have e9 : t3.2.1 (nI p).toNatClampNeg - nI 10000 = nI v := by rw [ep, hc]; exact nI_off
        refine ar_go 5 rfl ⟨trivial, trivial, trivial, trivial, (show vp_in (t3.2.1 (nI p).toNatClampNeg - nI 10000) 6 from by rw [e9]; exact vp_in_nI hv (by decide)), trivial⟩ ?_
        show ae_Run _ _ _ _ _ (_, _, [Value.int (α 23 (t3.2.1 (nI p).toNatClampNeg - nI 10000).toNatClampNeg), _]) _
        rw [e9, nI_clamp (n := v) (by omega)]
        refine ar_call rfl rfl (ev_Rules_push (w := w) (wt := wt) hw) ?_
        refine ar_go 3 rfl ⟨trivial, trivial, trivial, trivial⟩ ?_
        exact ar_to (kk _ _ _) (by rw [nI_succ p] <;> rfl) rfl
      · try simp only [← Int32.not_le, Classical.not_not, ae_ofN] at h47
        exact absurd (show ¬ nI 10000 ≤ t3.2.1 (nI p).toNatClampNeg from h47) (by rw [ep, hc]; exact fun q => q (nI_le (by omega) (by omega)))
theorem st_g_3 {t1 t2 t3 : ae_T} {d : Nat} {r : Option Value} {H2 : ae_H} {q E p w : Nat} {wt : Nat → Int32} {l6 l7 l8 : Option Value} (hq : q < 3) (hE : t3.2.2 q = nI E) (hp : p < E) (hl : E ≤ t3.1) (hr : t3.1 ≤ 160) (hc : t3.2.1 p = -12) (hw : w < 160)
  (kk : ∀ l6 l7 l8 : Option Value, ae_Run P (d + 1) cd_Rules_answer r H2 (31, [some (.ref 25), some (.int (nI 3)), some (.int (nI q)), some (.ref 30), some (.ref 82), some (.int (nI (p + 1))), l6, l7, l8], []) (ae_en (au σ [(16, nI (w + 1))]) (au α [(21, (upd wt w (- wt w)))]) z t0 (t1 :: t2 :: t3 :: ts))) :
  ae_Run P (d + 1) cd_Rules_answer r H2 (31, [some (.ref 25), some (.int (nI 3)), some (.int (nI q)), some (.ref 30), some (.ref 82), some (.int (nI p)), l6, l7, l8], []) (ae_en (au σ [(16, nI (w + 1))]) (au α [(21, wt)]) z t0 (t1 :: t2 :: t3 :: ts)) := by
  have eq : (nI q).toNatClampNeg = q := nI_clamp (by omega)
  have ep : (nI p).toNatClampNeg = p := nI_clamp (by omega)
  refine ar_go 6 rfl ⟨trivial, trivial, trivial, trivial, (show vp_in (nI q) 3 from vp_in_nI hq (by decide)), trivial, trivial⟩ ?_
  refine ar_br (fun h36 => ?_) (fun h36 => ?_)
  · try simp only [← Int32.not_le, Classical.not_not, ae_ofN] at h36
    exact absurd (show t3.2.2 (nI q).toNatClampNeg ≤ nI p from h36) (by rw [eq, hE]; exact nI_ge hp (by omega))
  · try simp only [← Int32.not_le, Classical.not_not, ae_ofN] at h36
    refine ar_go 7 rfl ⟨trivial, trivial, trivial, (show vp_in (nI p) t3.1 from vp_in_nI (by omega) (by omega)), trivial, trivial, trivial, trivial⟩ ?_
    refine ar_br (fun h43 => ?_) (fun h43 => ?_)
    · try simp only [← Int32.not_le, Classical.not_not, ae_ofN] at h43
      refine ar_go 3 rfl ⟨trivial, trivial, trivial, trivial⟩ ?_
      refine ar_br (fun h59 => ?_) (fun h59 => ?_)
      · try simp only [← Int32.not_le, Classical.not_not, ae_ofN] at h59
        exact absurd (show ¬ t3.2.1 (nI p).toNatClampNeg = -12 from h59) (by rw [ep, hc]; decide)
      · try simp only [← Int32.not_le, Classical.not_not, ae_ofN] at h59
        refine ar_go 2 rfl ⟨trivial, trivial, trivial⟩ ?_
        refine ar_call rfl rfl (ev_Rules_pop hw) ?_
        refine ar_go 1 rfl ⟨trivial, trivial⟩ ?_
        refine ar_call rfl rfl (ev_Rules_push (w := w) (wt := wt) hw) ?_
        refine ar_go 3 rfl ⟨trivial, trivial, trivial, trivial⟩ ?_
        exact ar_to (kk _ _ _) (by rw [nI_succ p] <;> rfl) rfl
    · try simp only [← Int32.not_le, Classical.not_not, ae_ofN] at h43
      exact absurd (show (0 : Int32) ≤ t3.2.1 (nI p).toNatClampNeg from h43) (by rw [ep, hc]; decide)
theorem st_d_3 {t1 t2 t3 : ae_T} {d : Nat} {r : Option Value} {H2 : ae_H} {q E p w : Nat} {wt : Nat → Int32} {l6 l7 l8 : Option Value} (hq : q < 3) (hE : t3.2.2 q = nI E) (hp : p < E) (hl : E ≤ t3.1) (hr : t3.1 ≤ 160) (hc : t3.2.1 p = -3) (hw : w < 160)
  (kk : ∀ l6 l7 l8 : Option Value, ae_Run P (d + 1) cd_Rules_answer r H2 (31, [some (.ref 25), some (.int (nI 3)), some (.int (nI q)), some (.ref 30), some (.ref 82), some (.int (nI (p + 1))), l6, l7, l8], []) (ae_en (au σ [(16, nI (w + 1))]) (au α [(21, (upd wt w (if wt w = 0 then 1 else 0)))]) z t0 (t1 :: t2 :: t3 :: ts))) :
  ae_Run P (d + 1) cd_Rules_answer r H2 (31, [some (.ref 25), some (.int (nI 3)), some (.int (nI q)), some (.ref 30), some (.ref 82), some (.int (nI p)), l6, l7, l8], []) (ae_en (au σ [(16, nI (w + 1))]) (au α [(21, wt)]) z t0 (t1 :: t2 :: t3 :: ts)) := by
  have eq : (nI q).toNatClampNeg = q := nI_clamp (by omega)
  have ep : (nI p).toNatClampNeg = p := nI_clamp (by omega)
  refine ar_go 6 rfl ⟨trivial, trivial, trivial, trivial, (show vp_in (nI q) 3 from vp_in_nI hq (by decide)), trivial, trivial⟩ ?_
  refine ar_br (fun h36 => ?_) (fun h36 => ?_)
  · try simp only [← Int32.not_le, Classical.not_not, ae_ofN] at h36
    exact absurd (show t3.2.2 (nI q).toNatClampNeg ≤ nI p from h36) (by rw [eq, hE]; exact nI_ge hp (by omega))
  · try simp only [← Int32.not_le, Classical.not_not, ae_ofN] at h36
    refine ar_go 7 rfl ⟨trivial, trivial, trivial, (show vp_in (nI p) t3.1 from vp_in_nI (by omega) (by omega)), trivial, trivial, trivial, trivial⟩ ?_
    refine ar_br (fun h43 => ?_) (fun h43 => ?_)
    · try simp only [← Int32.not_le, Classical.not_not, ae_ofN] at h43
      refine ar_go 3 rfl ⟨trivial, trivial, trivial, trivial⟩ ?_
      refine ar_br (fun h59 => ?_) (fun h59 => ?_)
      · try simp only [← Int32.not_le, Classical.not_not, ae_ofN] at h59
        refine ar_go 3 rfl ⟨trivial, trivial, trivial, trivial⟩ ?_
        refine ar_br (fun h68 => ?_) (fun h68 => ?_)
        · try simp only [← Int32.not_le, Classical.not_not, ae_ofN] at h68
          exact absurd (show ¬ t3.2.1 (nI p).toNatClampNeg = -3 from h68) (by rw [ep, hc]; decide)
        · try simp only [← Int32.not_le, Classical.not_not, ae_ofN] at h68
          refine ar_go 2 rfl ⟨trivial, trivial, trivial⟩ ?_
          refine ar_call rfl rfl (ev_Rules_pop hw) ?_
          refine ar_go 1 rfl ⟨trivial, trivial⟩ ?_
          refine ar_br (fun h72 => ?_) (fun h72 => ?_)
          · try simp only [← Int32.not_le, Classical.not_not, ae_ofN] at h72
            rw [if_neg h72] at kk
            refine ar_go 1 rfl ⟨trivial, trivial⟩ ?_
            refine ar_call rfl rfl (ev_Rules_push (w := w) (wt := wt) hw) ?_
            refine ar_go 3 rfl ⟨trivial, trivial, trivial, trivial⟩ ?_
            exact ar_to (kk _ _ _) (by rw [nI_succ p] <;> rfl) rfl
          · try simp only [← Int32.not_le, Classical.not_not, ae_ofN] at h72
            rw [if_pos h72] at kk
            refine ar_go 2 rfl ⟨trivial, trivial, trivial⟩ ?_
            refine ar_call rfl rfl (ev_Rules_push (w := w) (wt := wt) hw) ?_
            refine ar_go 3 rfl ⟨trivial, trivial, trivial, trivial⟩ ?_
            exact ar_to (kk _ _ _) (by rw [nI_succ p] <;> rfl) rfl
      · try simp only [← Int32.not_le, Classical.not_not, ae_ofN] at h59
        exact absurd (show t3.2.1 (nI p).toNatClampNeg = -12 from h59) (by rw [ep, hc]; decide)
    · try simp only [← Int32.not_le, Classical.not_not, ae_ofN] at h43
      exact absurd (show (0 : Int32) ≤ t3.2.1 (nI p).toNatClampNeg from h43) (by rw [ep, hc]; decide)
theorem st_b_3 {t1 t2 t3 : ae_T} {d : Nat} {r : Option Value} {H2 : ae_H} {q E p w : Nat} {wt : Nat → Int32} {l6 l7 l8 : Option Value} (hq : q < 3) (hE : t3.2.2 q = nI E) (hp : p < E) (hl : E ≤ t3.1) (hr : t3.1 ≤ 160) {c : Int32} (ho : cBi c) (hc : t3.2.1 p = c) (hw : w + 1 < 160)
  (kk : ∀ l6 l7 l8 : Option Value, ae_Run P (d + 1) cd_Rules_answer r H2 (31, [some (.ref 25), some (.int (nI 3)), some (.int (nI q)), some (.ref 30), some (.ref 82), some (.int (nI (p + 1))), l6, l7, l8], []) (ae_en (au σ [(16, nI (w + 1))]) (au α [(21, (upd wt w (oV c (wt w) (wt (w + 1)))))]) z t0 (t1 :: t2 :: t3 :: ts))) :
  ae_Run P (d + 1) cd_Rules_answer r H2 (31, [some (.ref 25), some (.int (nI 3)), some (.int (nI q)), some (.ref 30), some (.ref 82), some (.int (nI p)), l6, l7, l8], []) (ae_en (au σ [(16, nI (w + 1 + 1))]) (au α [(21, wt)]) z t0 (t1 :: t2 :: t3 :: ts)) := by
  have eq : (nI q).toNatClampNeg = q := nI_clamp (by omega)
  have ep : (nI p).toNatClampNeg = p := nI_clamp (by omega)
  refine ar_go 6 rfl ⟨trivial, trivial, trivial, trivial, (show vp_in (nI q) 3 from vp_in_nI hq (by decide)), trivial, trivial⟩ ?_
  refine ar_br (fun h36 => ?_) (fun h36 => ?_)
  · try simp only [← Int32.not_le, Classical.not_not, ae_ofN] at h36
    exact absurd (show t3.2.2 (nI q).toNatClampNeg ≤ nI p from h36) (by rw [eq, hE]; exact nI_ge hp (by omega))
  · try simp only [← Int32.not_le, Classical.not_not, ae_ofN] at h36
    refine ar_go 7 rfl ⟨trivial, trivial, trivial, (show vp_in (nI p) t3.1 from vp_in_nI (by omega) (by omega)), trivial, trivial, trivial, trivial⟩ ?_
    refine ar_br (fun h43 => ?_) (fun h43 => ?_)
    · try simp only [← Int32.not_le, Classical.not_not, ae_ofN] at h43
      refine ar_go 3 rfl ⟨trivial, trivial, trivial, trivial⟩ ?_
      refine ar_br (fun h59 => ?_) (fun h59 => ?_)
      · try simp only [← Int32.not_le, Classical.not_not, ae_ofN] at h59
        refine ar_go 3 rfl ⟨trivial, trivial, trivial, trivial⟩ ?_
        refine ar_br (fun h68 => ?_) (fun h68 => ?_)
        · try simp only [← Int32.not_le, Classical.not_not, ae_ofN] at h68
          refine ar_go 1 rfl ⟨trivial, trivial⟩ ?_
          refine ar_call rfl rfl (ev_Rules_pop hw) ?_
          refine ar_go 2 rfl ⟨trivial, trivial, trivial⟩ ?_
          refine ar_call rfl rfl (ev_Rules_pop (Nat.lt_of_succ_lt hw)) ?_
          refine ar_go 5 rfl ⟨trivial, trivial, trivial, trivial, trivial, trivial⟩ ?_
          show ae_Run _ _ _ _ _ (_, _, [_, _, Value.int (t3.2.1 (nI p).toNatClampNeg), _]) _
          rw [ep, hc]
          refine ar_call rfl rfl (ev_Rules_joined ho) ?_
          refine ar_call rfl rfl (ev_Rules_push (w := w) (wt := wt) (Nat.lt_of_succ_lt hw)) ?_
          refine ar_go 2 rfl ⟨trivial, trivial, trivial⟩ ?_
          exact ar_to (kk _ _ _) (by rw [nI_succ p] <;> rfl) rfl
        · try simp only [← Int32.not_le, Classical.not_not, ae_ofN] at h68
          exact absurd (show t3.2.1 (nI p).toNatClampNeg = -3 from h68) (by rw [ep, hc]; exact (cBi_lt ho).2.2)
      · try simp only [← Int32.not_le, Classical.not_not, ae_ofN] at h59
        exact absurd (show t3.2.1 (nI p).toNatClampNeg = -12 from h59) (by rw [ep, hc]; exact (cBi_lt ho).2.1)
    · try simp only [← Int32.not_le, Classical.not_not, ae_ofN] at h43
      exact absurd (show (0 : Int32) ≤ t3.2.1 (nI p).toNatClampNeg from h43) (by rw [ep, hc]; exact Int32.not_le.mpr (cBi_lt ho).1)
theorem lp_ans_3 {t1 t2 t3 : ae_T} {d : Nat} {r : Option Value} {H2 : ae_H} {q E : Nat} (hq : q < 3) (hE : t3.2.2 q = nI E) (hl : E ≤ t3.1) (hr : t3.1 ≤ 160) : ∀ (l : List Int32) {p w m : Nat} {wt : Nat → Int32} {l6 l7 l8 : Option Value}, dOk l w m → hasAt t3.2.1 p l → p + l.length ≤ E → w + l.length ≤ 160 →
  (∀ l6 l7 l8 : Option Value, ae_Run P (d + 1) cd_Rules_answer r H2 (31, [some (.ref 25), some (.int (nI 3)), some (.int (nI q)), some (.ref 30), some (.ref 82), some (.int (nI (p + l.length))), l6, l7, l8], []) (ae_en (au σ [(16, nI (sR (α 23) l (w, wt)).1)]) (au α [(21, (sR (α 23) l (w, wt)).2)]) z t0 (t1 :: t2 :: t3 :: ts))) → ae_Run P (d + 1) cd_Rules_answer r H2 (31, [some (.ref 25), some (.int (nI 3)), some (.int (nI q)), some (.ref 30), some (.ref 82), some (.int (nI p)), l6, l7, l8], []) (ae_en (au σ [(16, nI w)]) (au α [(21, wt)]) z t0 (t1 :: t2 :: t3 :: ts))
  | [], p, w, m, wt, l6, l7, l8, _, _, _, _, kk => kk l6 l7 l8
  | c :: l, p, w, m, wt, l6, l7, l8, hd, hc, h1, h2, kk => by
    rw [List.length_cons] at h1 h2 kk
    rw [sR, show p + (l.length + 1) = p + 1 + l.length by omega] at kk
    obtain ⟨hc, hc2⟩ := hc
    rcases hd with ⟨g1, g2⟩ | ⟨g1, g2, g3⟩ | ⟨g1, g2, g3⟩
    · rcases g1 with ⟨v, hv, rfl⟩ | ⟨v, hv, rfl⟩
      · rw [sSt_n _ hv] at kk
        exact st_n_3 hq hE (by omega) hl hr hv hc (by omega) (fun a b c => lp_ans_3 hq hE hl hr l g2 hc2 (by omega) (by omega) kk)
      · rw [sSt_f _ hv] at kk
        exact st_f_3 hq hE (by omega) hl hr hv hc (by omega) (fun a b c => lp_ans_3 hq hE hl hr l g2 hc2 (by omega) (by omega) kk)
    · obtain ⟨w, rfl⟩ : ∃ q, w = q + 1 := ⟨w - 1, by omega⟩
      rcases g1 with rfl | rfl
      · rw [sSt_g] at kk
        exact st_g_3 hq hE (by omega) hl hr hc (by omega) (fun a b c => lp_ans_3 hq hE hl hr l g3 hc2 (by omega) (by omega) kk)
      · rw [sSt_d] at kk
        exact st_d_3 hq hE (by omega) hl hr hc (by omega) (fun a b c => lp_ans_3 hq hE hl hr l g3 hc2 (by omega) (by omega) kk)
    · obtain ⟨w, rfl⟩ : ∃ q, w = q + 1 + 1 := ⟨w - 2, by omega⟩
      rw [sSt_b _ g1] at kk
      exact st_b_3 hq hE (by omega) hl hr g1 hc (by omega) (fun a b c => lp_ans_3 hq hE hl hr l g3 hc2 (by omega) (by omega) kk)
theorem fin_ans_3 {t1 t2 t3 : ae_T} {d : Nat} {q E : Nat} {wt : Nat → Int32} {l6 l7 l8 : Option Value} (hq : q < 3) (hE : t3.2.2 q = nI E) (hl : E ≤ 160) : ae_Run P (d + 1) cd_Rules_answer (some (.int (wt 0))) (ae_en (au σ [(16, nI 1)]) (au α [(21, wt)]) z t0 (t1 :: t2 :: t3 :: ts)) (31, [some (.ref 25), some (.int (nI 3)), some (.int (nI q)), some (.ref 30), some (.ref 82), some (.int (nI E)), l6, l7, l8], []) (ae_en (au σ [(16, nI 1)]) (au α [(21, wt)]) z t0 (t1 :: t2 :: t3 :: ts)) := by
  have eq : (nI q).toNatClampNeg = q := nI_clamp (by omega)
  refine ar_go 6 rfl ⟨trivial, trivial, trivial, trivial, (show vp_in (nI q) 3 from vp_in_nI hq (by decide)), trivial, trivial⟩ ?_
  refine ar_br (fun h36 => ?_) (fun h36 => ?_)
  · try simp only [← Int32.not_le, Classical.not_not, ae_ofN] at h36
    refine ar_go 4 rfl ⟨trivial, trivial, trivial, trivial, trivial⟩ ?_
    refine ar_br (fun h95 => ?_) (fun h95 => ?_)
    · try simp only [← Int32.not_le, Classical.not_not, ae_ofN] at h95
      exact absurd rfl h95
    · try simp only [← Int32.not_le, Classical.not_not, ae_ofN] at h95
      refine ar_go 5 rfl ⟨trivial, trivial, trivial, (vp_in_nI (n := 0) (by decide) (by decide)), trivial, trivial⟩ ?_
      refine ar_ret rfl rfl trivial ?_ ?_
      rfl
      rfl
  · try simp only [← Int32.not_le, Classical.not_not, ae_ofN] at h36
    exact absurd (show ¬ t3.2.2 (nI q).toNatClampNeg ≤ nI E from h36) (by rw [eq, hE]; exact fun q => q (nI_le (Nat.le_refl _) (by omega)))
set_option maxRecDepth 4000 in
theorem ev_ans_3 {t1 t2 t3 : ae_T} {d : Nat} {q : Nat} {e : Nat → List Int32} (hq : q < 3) (ht : tOk t3 e) (hs : σ 15 = nI ((t1 :: t2 :: t3 :: ts).length + 1)) (hs6 : (t1 :: t2 :: t3 :: ts).length + 1 ≤ 6) : ae_Ev P (d + 2) 89 [.ref 25, .int (nI 3), .int (nI q), .ref 30] (ae_en σ α z t0 (t1 :: t2 :: t3 :: ts)) (some (.int (sA (α 23) (e q)))) (ae_en (au σ [(16, nI 1)]) (au α [(21, (sR (α 23) (e q) (0, α 21)).2)]) z t0 (t1 :: t2 :: t3 :: ts)) := by
  obtain ⟨hd, hc, hE, hl⟩ := ht.1 q hq
  have hr := ht.2
  have wl : ∀ {p : Nat} {l6 l7 l8 : Option Value}, p = tB e q → ae_Run P (d + 1) cd_Rules_answer (some (.int (sA (α 23) (e q)))) (ae_en (au σ [(16, nI 1)]) (au α [(21, (sR (α 23) (e q) (0, α 21)).2)]) z t0 (t1 :: t2 :: t3 :: ts)) (31, [some (.ref 25), some (.int (nI 3)), some (.int (nI q)), some (.ref 30), some (.ref 82), some (.int (nI p)), l6, l7, l8], []) (ae_en (au σ [(16, nI 0)]) (au α [(21, (α 21))]) z t0 (t1 :: t2 :: t3 :: ts)) := by
    rintro p l6 l7 l8 rfl
    refine lp_ans_3 hq hE hl hr (e q) hd hc (Nat.le_refl _) (by omega) (fun l6 l7 l8 => ?_)
    obtain ⟨s1, s2⟩ := sA_wt (nm := α 23) (f := α 21) hd
    rw [s1, ← s2]
    exact fin_ans_3 hq hE (by omega)
  have htx : ae_tx ((t1 :: t2 :: t3 :: ts)).length (nI 3).toNatClampNeg = some 82 := by
    rw [nI_clamp (by omega)]
    exact if_pos (by simp)
  refine ar_ev (cd := cd_Rules_answer) rfl rfl rfl ?_
  refine ar_go 2 rfl ⟨trivial, trivial, trivial⟩ ?_
  refine ar_br (fun h1 => ?_) (fun h1 => ?_)
  · try simp only [← Int32.not_le, Classical.not_not, ae_ofN] at h1
    exact absurd (show ¬ (0 : Int32) ≤ nI 3 from h1) (by decide)
  · try simp only [← Int32.not_le, Classical.not_not, ae_ofN] at h1
    refine ar_go 4 rfl ⟨trivial, trivial, trivial, trivial, trivial⟩ ?_
    refine ar_br (fun h5 => ?_) (fun h5 => ?_)
    · try simp only [← Int32.not_le, Classical.not_not, ae_ofN] at h5
      exact absurd (show σ 15 ≤ nI 3 from h5) (by rw [hs]; exact nI_ge (by simp) (by omega))
    · try simp only [← Int32.not_le, Classical.not_not, ae_ofN] at h5
      refine ar_go 4 rfl ⟨trivial, trivial, trivial, (show vp_in (nI 3) 6 from vp_in_nI (by decide) (by decide)), trivial⟩ ?_
      show ae_Run _ _ _ _ _ (_, _, [va_rf (ae_tx ((t1 :: t2 :: t3 :: ts)).length (nI 3).toNatClampNeg)]) _
      rw [htx]
      refine ar_go 9 rfl ⟨trivial, trivial, trivial, trivial, trivial, trivial, trivial, trivial, trivial, trivial⟩ ?_
      refine ar_br (fun h21 => ?_) (fun h21 => ?_)
      · try simp only [← Int32.not_le, Classical.not_not, ae_ofN] at h21
        have h21 : ¬ nI q = 0 := h21
        have q0 : q ≠ 0 := fun q0 => h21 (by rw [q0]; rfl)
        obtain ⟨s, rfl⟩ : ∃ s, q = s + 1 := ⟨q - 1, by omega⟩
        have e7 : nI s = nI (s + 1) - 1 := (nI_pred s).symm
        refine ar_go 7 rfl ⟨trivial, trivial, trivial, trivial, trivial, (show vp_in (nI (s + 1) - 1) 3 from e7 ▸ vp_in_nI (by omega) (by decide)), trivial, trivial⟩ ?_
        exact ar_to (wl (p := tB e (s + 1)) rfl) (by show (31, [_, _, _, _, _, some (Value.int (t3.2.2 (nI (s + 1) - 1).toNatClampNeg)), _, _, _], _) = _; rw [nI_pred, nI_clamp (by omega), (ht.1 s (by omega)).2.2.1]; rfl) rfl
      · try simp only [← Int32.not_le, Classical.not_not, ae_ofN] at h21
        have h21 : nI q = 0 := h21
        have q0 : q = 0 := (nI_eq (by omega) (by omega)).mp h21
        refine ar_go 3 rfl ⟨trivial, trivial, trivial, trivial⟩ ?_
        exact ar_to (wl (p := 0) (by rw [q0]; rfl)) rfl rfl
theorem st_n_4 {t1 t2 t3 t4 : ae_T} {d : Nat} {r : Option Value} {H2 : ae_H} {q E p w : Nat} {wt : Nat → Int32} {l6 l7 l8 : Option Value} (hq : q < 3) (hE : t4.2.2 q = nI E) (hp : p < E) (hl : E ≤ t4.1) (hr : t4.1 ≤ 160) {v : Nat} (hv : v ≤ 9999) (hc : t4.2.1 p = nI v) (hw : w < 160)
  (kk : ∀ l6 l7 l8 : Option Value, ae_Run P (d + 1) cd_Rules_answer r H2 (31, [some (.ref 25), some (.int (nI 4)), some (.int (nI q)), some (.ref 30), some (.ref 85), some (.int (nI (p + 1))), l6, l7, l8], []) (ae_en (au σ [(16, nI (w + 1))]) (au α [(21, (upd wt w (nI v)))]) z t0 (t1 :: t2 :: t3 :: t4 :: ts))) :
  ae_Run P (d + 1) cd_Rules_answer r H2 (31, [some (.ref 25), some (.int (nI 4)), some (.int (nI q)), some (.ref 30), some (.ref 85), some (.int (nI p)), l6, l7, l8], []) (ae_en (au σ [(16, nI w)]) (au α [(21, wt)]) z t0 (t1 :: t2 :: t3 :: t4 :: ts)) := by
  have eq : (nI q).toNatClampNeg = q := nI_clamp (by omega)
  have ep : (nI p).toNatClampNeg = p := nI_clamp (by omega)
  refine ar_go 6 rfl ⟨trivial, trivial, trivial, trivial, (show vp_in (nI q) 3 from vp_in_nI hq (by decide)), trivial, trivial⟩ ?_
  refine ar_br (fun h36 => ?_) (fun h36 => ?_)
  · try simp only [← Int32.not_le, Classical.not_not, ae_ofN] at h36
    exact absurd (show t4.2.2 (nI q).toNatClampNeg ≤ nI p from h36) (by rw [eq, hE]; exact nI_ge hp (by omega))
  · try simp only [← Int32.not_le, Classical.not_not, ae_ofN] at h36
    refine ar_go 7 rfl ⟨trivial, trivial, trivial, (show vp_in (nI p) t4.1 from vp_in_nI (by omega) (by omega)), trivial, trivial, trivial, trivial⟩ ?_
    refine ar_br (fun h43 => ?_) (fun h43 => ?_)
    · try simp only [← Int32.not_le, Classical.not_not, ae_ofN] at h43
      exact absurd (show ¬ (0 : Int32) ≤ t4.2.1 (nI p).toNatClampNeg from h43) (by rw [ep, hc]; exact fun q => q (nI_pos' (by omega)))
    · try simp only [← Int32.not_le, Classical.not_not, ae_ofN] at h43
      refine ar_go 4 rfl ⟨trivial, trivial, trivial, trivial, trivial⟩ ?_
      refine ar_br (fun h47 => ?_) (fun h47 => ?_)
      · try simp only [← Int32.not_le, Classical.not_not, ae_ofN] at h47
        exact absurd (show nI 10000 ≤ t4.2.1 (nI p).toNatClampNeg from h47) (by rw [ep, hc]; exact nI_ge (by omega) (by decide))
      · try simp only [← Int32.not_le, Classical.not_not, ae_ofN] at h47
        refine ar_go 2 rfl ⟨trivial, trivial, trivial⟩ ?_
        refine ar_call rfl rfl (ev_Rules_push (w := w) (wt := wt) (v := t4.2.1 (nI p).toNatClampNeg) hw) ?_
        rw [ep, hc]
        refine ar_go 3 rfl ⟨trivial, trivial, trivial, trivial⟩ ?_
        exact ar_to (kk _ _ _) (by rw [nI_succ p] <;> rfl) rfl
theorem st_f_4 {t1 t2 t3 t4 : ae_T} {d : Nat} {r : Option Value} {H2 : ae_H} {q E p w : Nat} {wt : Nat → Int32} {l6 l7 l8 : Option Value} (hq : q < 3) (hE : t4.2.2 q = nI E) (hp : p < E) (hl : E ≤ t4.1) (hr : t4.1 ≤ 160) {v : Nat} (hv : v < 6) (hc : t4.2.1 p = nI (10000 + v)) (hw : w < 160)
  (kk : ∀ l6 l7 l8 : Option Value, ae_Run P (d + 1) cd_Rules_answer r H2 (31, [some (.ref 25), some (.int (nI 4)), some (.int (nI q)), some (.ref 30), some (.ref 85), some (.int (nI (p + 1))), l6, l7, l8], []) (ae_en (au σ [(16, nI (w + 1))]) (au α [(21, (upd wt w (α 23 v)))]) z t0 (t1 :: t2 :: t3 :: t4 :: ts))) :
  ae_Run P (d + 1) cd_Rules_answer r H2 (31, [some (.ref 25), some (.int (nI 4)), some (.int (nI q)), some (.ref 30), some (.ref 85), some (.int (nI p)), l6, l7, l8], []) (ae_en (au σ [(16, nI w)]) (au α [(21, wt)]) z t0 (t1 :: t2 :: t3 :: t4 :: ts)) := by
  have eq : (nI q).toNatClampNeg = q := nI_clamp (by omega)
  have ep : (nI p).toNatClampNeg = p := nI_clamp (by omega)
  refine ar_go 6 rfl ⟨trivial, trivial, trivial, trivial, (show vp_in (nI q) 3 from vp_in_nI hq (by decide)), trivial, trivial⟩ ?_
  refine ar_br (fun h36 => ?_) (fun h36 => ?_)
  · try simp only [← Int32.not_le, Classical.not_not, ae_ofN] at h36
    exact absurd (show t4.2.2 (nI q).toNatClampNeg ≤ nI p from h36) (by rw [eq, hE]; exact nI_ge hp (by omega))
  · try simp only [← Int32.not_le, Classical.not_not, ae_ofN] at h36
    refine ar_go 7 rfl ⟨trivial, trivial, trivial, (show vp_in (nI p) t4.1 from vp_in_nI (by omega) (by omega)), trivial, trivial, trivial, trivial⟩ ?_
    refine ar_br (fun h43 => ?_) (fun h43 => ?_)
    · try simp only [← Int32.not_le, Classical.not_not, ae_ofN] at h43
      exact absurd (show ¬ (0 : Int32) ≤ t4.2.1 (nI p).toNatClampNeg from h43) (by rw [ep, hc]; exact fun q => q (nI_pos' (by omega)))
    · try simp only [← Int32.not_le, Classical.not_not, ae_ofN] at h43
      refine ar_go 4 rfl ⟨trivial, trivial, trivial, trivial, trivial⟩ ?_
      refine ar_br (fun h47 => ?_) (fun h47 => ?_)
      · try simp only [← Int32.not_le, Classical.not_not, ae_ofN] at h47
        have e9 : t4.2.1 (nI p).toNatClampNeg - nI 10000 = nI v := by rw [ep, hc]; exact nI_off
        refine ar_go 5 rfl ⟨trivial, trivial, trivial, trivial, (show vp_in (t4.2.1 (nI p).toNatClampNeg - nI 10000) 6 from by rw [e9]; exact vp_in_nI hv (by decide)), trivial⟩ ?_
        show ae_Run _ _ _ _ _ (_, _, [Value.int (α 23 (t4.2.1 (nI p).toNatClampNeg - nI 10000).toNatClampNeg), _]) _
        rw [e9, nI_clamp (n := v) (by omega)]
        refine ar_call rfl rfl (ev_Rules_push (w := w) (wt := wt) hw) ?_
        refine ar_go 3 rfl ⟨trivial, trivial, trivial, trivial⟩ ?_
        exact ar_to (kk _ _ _) (by rw [nI_succ p] <;> rfl) rfl
      · try simp only [← Int32.not_le, Classical.not_not, ae_ofN] at h47
        exact absurd (show ¬ nI 10000 ≤ t4.2.1 (nI p).toNatClampNeg from h47) (by rw [ep, hc]; exact fun q => q (nI_le (by omega) (by omega)))
theorem st_g_4 {t1 t2 t3 t4 : ae_T} {d : Nat} {r : Option Value} {H2 : ae_H} {q E p w : Nat} {wt : Nat → Int32} {l6 l7 l8 : Option Value} (hq : q < 3) (hE : t4.2.2 q = nI E) (hp : p < E) (hl : E ≤ t4.1) (hr : t4.1 ≤ 160) (hc : t4.2.1 p = -12) (hw : w < 160)
  (kk : ∀ l6 l7 l8 : Option Value, ae_Run P (d + 1) cd_Rules_answer r H2 (31, [some (.ref 25), some (.int (nI 4)), some (.int (nI q)), some (.ref 30), some (.ref 85), some (.int (nI (p + 1))), l6, l7, l8], []) (ae_en (au σ [(16, nI (w + 1))]) (au α [(21, (upd wt w (- wt w)))]) z t0 (t1 :: t2 :: t3 :: t4 :: ts))) :
  ae_Run P (d + 1) cd_Rules_answer r H2 (31, [some (.ref 25), some (.int (nI 4)), some (.int (nI q)), some (.ref 30), some (.ref 85), some (.int (nI p)), l6, l7, l8], []) (ae_en (au σ [(16, nI (w + 1))]) (au α [(21, wt)]) z t0 (t1 :: t2 :: t3 :: t4 :: ts)) := by
  have eq : (nI q).toNatClampNeg = q := nI_clamp (by omega)
  have ep : (nI p).toNatClampNeg = p := nI_clamp (by omega)
  refine ar_go 6 rfl ⟨trivial, trivial, trivial, trivial, (show vp_in (nI q) 3 from vp_in_nI hq (by decide)), trivial, trivial⟩ ?_
  refine ar_br (fun h36 => ?_) (fun h36 => ?_)
  · try simp only [← Int32.not_le, Classical.not_not, ae_ofN] at h36
    exact absurd (show t4.2.2 (nI q).toNatClampNeg ≤ nI p from h36) (by rw [eq, hE]; exact nI_ge hp (by omega))
  · try simp only [← Int32.not_le, Classical.not_not, ae_ofN] at h36
    refine ar_go 7 rfl ⟨trivial, trivial, trivial, (show vp_in (nI p) t4.1 from vp_in_nI (by omega) (by omega)), trivial, trivial, trivial, trivial⟩ ?_
    refine ar_br (fun h43 => ?_) (fun h43 => ?_)
    · try simp only [← Int32.not_le, Classical.not_not, ae_ofN] at h43
      refine ar_go 3 rfl ⟨trivial, trivial, trivial, trivial⟩ ?_
      refine ar_br (fun h59 => ?_) (fun h59 => ?_)
      · try simp only [← Int32.not_le, Classical.not_not, ae_ofN] at h59
        exact absurd (show ¬ t4.2.1 (nI p).toNatClampNeg = -12 from h59) (by rw [ep, hc]; decide)
      · try simp only [← Int32.not_le, Classical.not_not, ae_ofN] at h59
        refine ar_go 2 rfl ⟨trivial, trivial, trivial⟩ ?_
        refine ar_call rfl rfl (ev_Rules_pop hw) ?_
        refine ar_go 1 rfl ⟨trivial, trivial⟩ ?_
        refine ar_call rfl rfl (ev_Rules_push (w := w) (wt := wt) hw) ?_
        refine ar_go 3 rfl ⟨trivial, trivial, trivial, trivial⟩ ?_
        exact ar_to (kk _ _ _) (by rw [nI_succ p] <;> rfl) rfl
    · try simp only [← Int32.not_le, Classical.not_not, ae_ofN] at h43
      exact absurd (show (0 : Int32) ≤ t4.2.1 (nI p).toNatClampNeg from h43) (by rw [ep, hc]; decide)
theorem st_d_4 {t1 t2 t3 t4 : ae_T} {d : Nat} {r : Option Value} {H2 : ae_H} {q E p w : Nat} {wt : Nat → Int32} {l6 l7 l8 : Option Value} (hq : q < 3) (hE : t4.2.2 q = nI E) (hp : p < E) (hl : E ≤ t4.1) (hr : t4.1 ≤ 160) (hc : t4.2.1 p = -3) (hw : w < 160)
  (kk : ∀ l6 l7 l8 : Option Value, ae_Run P (d + 1) cd_Rules_answer r H2 (31, [some (.ref 25), some (.int (nI 4)), some (.int (nI q)), some (.ref 30), some (.ref 85), some (.int (nI (p + 1))), l6, l7, l8], []) (ae_en (au σ [(16, nI (w + 1))]) (au α [(21, (upd wt w (if wt w = 0 then 1 else 0)))]) z t0 (t1 :: t2 :: t3 :: t4 :: ts))) :
  ae_Run P (d + 1) cd_Rules_answer r H2 (31, [some (.ref 25), some (.int (nI 4)), some (.int (nI q)), some (.ref 30), some (.ref 85), some (.int (nI p)), l6, l7, l8], []) (ae_en (au σ [(16, nI (w + 1))]) (au α [(21, wt)]) z t0 (t1 :: t2 :: t3 :: t4 :: ts)) := by
  have eq : (nI q).toNatClampNeg = q := nI_clamp (by omega)
  have ep : (nI p).toNatClampNeg = p := nI_clamp (by omega)
  refine ar_go 6 rfl ⟨trivial, trivial, trivial, trivial, (show vp_in (nI q) 3 from vp_in_nI hq (by decide)), trivial, trivial⟩ ?_
  refine ar_br (fun h36 => ?_) (fun h36 => ?_)
  · try simp only [← Int32.not_le, Classical.not_not, ae_ofN] at h36
    exact absurd (show t4.2.2 (nI q).toNatClampNeg ≤ nI p from h36) (by rw [eq, hE]; exact nI_ge hp (by omega))
  · try simp only [← Int32.not_le, Classical.not_not, ae_ofN] at h36
    refine ar_go 7 rfl ⟨trivial, trivial, trivial, (show vp_in (nI p) t4.1 from vp_in_nI (by omega) (by omega)), trivial, trivial, trivial, trivial⟩ ?_
    refine ar_br (fun h43 => ?_) (fun h43 => ?_)
    · try simp only [← Int32.not_le, Classical.not_not, ae_ofN] at h43
      refine ar_go 3 rfl ⟨trivial, trivial, trivial, trivial⟩ ?_
      refine ar_br (fun h59 => ?_) (fun h59 => ?_)
      · try simp only [← Int32.not_le, Classical.not_not, ae_ofN] at h59
        refine ar_go 3 rfl ⟨trivial, trivial, trivial, trivial⟩ ?_
        refine ar_br (fun h68 => ?_) (fun h68 => ?_)
        · try simp only [← Int32.not_le, Classical.not_not, ae_ofN] at h68
          exact absurd (show ¬ t4.2.1 (nI p).toNatClampNeg = -3 from h68) (by rw [ep, hc]; decide)
        · try simp only [← Int32.not_le, Classical.not_not, ae_ofN] at h68
          refine ar_go 2 rfl ⟨trivial, trivial, trivial⟩ ?_
          refine ar_call rfl rfl (ev_Rules_pop hw) ?_
          refine ar_go 1 rfl ⟨trivial, trivial⟩ ?_
          refine ar_br (fun h72 => ?_) (fun h72 => ?_)
          · try simp only [← Int32.not_le, Classical.not_not, ae_ofN] at h72
            rw [if_neg h72] at kk
            refine ar_go 1 rfl ⟨trivial, trivial⟩ ?_
            refine ar_call rfl rfl (ev_Rules_push (w := w) (wt := wt) hw) ?_
            refine ar_go 3 rfl ⟨trivial, trivial, trivial, trivial⟩ ?_
            exact ar_to (kk _ _ _) (by rw [nI_succ p] <;> rfl) rfl
          · try simp only [← Int32.not_le, Classical.not_not, ae_ofN] at h72
            rw [if_pos h72] at kk
            refine ar_go 2 rfl ⟨trivial, trivial, trivial⟩ ?_
            refine ar_call rfl rfl (ev_Rules_push (w := w) (wt := wt) hw) ?_
            refine ar_go 3 rfl ⟨trivial, trivial, trivial, trivial⟩ ?_
            exact ar_to (kk _ _ _) (by rw [nI_succ p] <;> rfl) rfl
      · try simp only [← Int32.not_le, Classical.not_not, ae_ofN] at h59
        exact absurd (show t4.2.1 (nI p).toNatClampNeg = -12 from h59) (by rw [ep, hc]; decide)
    · try simp only [← Int32.not_le, Classical.not_not, ae_ofN] at h43
      exact absurd (show (0 : Int32) ≤ t4.2.1 (nI p).toNatClampNeg from h43) (by rw [ep, hc]; decide)
theorem st_b_4 {t1 t2 t3 t4 : ae_T} {d : Nat} {r : Option Value} {H2 : ae_H} {q E p w : Nat} {wt : Nat → Int32} {l6 l7 l8 : Option Value} (hq : q < 3) (hE : t4.2.2 q = nI E) (hp : p < E) (hl : E ≤ t4.1) (hr : t4.1 ≤ 160) {c : Int32} (ho : cBi c) (hc : t4.2.1 p = c) (hw : w + 1 < 160)
  (kk : ∀ l6 l7 l8 : Option Value, ae_Run P (d + 1) cd_Rules_answer r H2 (31, [some (.ref 25), some (.int (nI 4)), some (.int (nI q)), some (.ref 30), some (.ref 85), some (.int (nI (p + 1))), l6, l7, l8], []) (ae_en (au σ [(16, nI (w + 1))]) (au α [(21, (upd wt w (oV c (wt w) (wt (w + 1)))))]) z t0 (t1 :: t2 :: t3 :: t4 :: ts))) :
  ae_Run P (d + 1) cd_Rules_answer r H2 (31, [some (.ref 25), some (.int (nI 4)), some (.int (nI q)), some (.ref 30), some (.ref 85), some (.int (nI p)), l6, l7, l8], []) (ae_en (au σ [(16, nI (w + 1 + 1))]) (au α [(21, wt)]) z t0 (t1 :: t2 :: t3 :: t4 :: ts)) := by
  have eq : (nI q).toNatClampNeg = q := nI_clamp (by omega)
  have ep : (nI p).toNatClampNeg = p := nI_clamp (by omega)
  refine ar_go 6 rfl ⟨trivial, trivial, trivial, trivial, (show vp_in (nI q) 3 from vp_in_nI hq (by decide)), trivial, trivial⟩ ?_
  refine ar_br (fun h36 => ?_) (fun h36 => ?_)
  · try simp only [← Int32.not_le, Classical.not_not, ae_ofN] at h36
    exact absurd (show t4.2.2 (nI q).toNatClampNeg ≤ nI p from h36) (by rw [eq, hE]; exact nI_ge hp (by omega))
  · try simp only [← Int32.not_le, Classical.not_not, ae_ofN] at h36
    refine ar_go 7 rfl ⟨trivial, trivial, trivial, (show vp_in (nI p) t4.1 from vp_in_nI (by omega) (by omega)), trivial, trivial, trivial, trivial⟩ ?_
    refine ar_br (fun h43 => ?_) (fun h43 => ?_)
    · try simp only [← Int32.not_le, Classical.not_not, ae_ofN] at h43
      refine ar_go 3 rfl ⟨trivial, trivial, trivial, trivial⟩ ?_
      refine ar_br (fun h59 => ?_) (fun h59 => ?_)
      · try simp only [← Int32.not_le, Classical.not_not, ae_ofN] at h59
        refine ar_go 3 rfl ⟨trivial, trivial, trivial, trivial⟩ ?_
        refine ar_br (fun h68 => ?_) (fun h68 => ?_)
        · try simp only [← Int32.not_le, Classical.not_not, ae_ofN] at h68
          refine ar_go 1 rfl ⟨trivial, trivial⟩ ?_
          refine ar_call rfl rfl (ev_Rules_pop hw) ?_
          refine ar_go 2 rfl ⟨trivial, trivial, trivial⟩ ?_
          refine ar_call rfl rfl (ev_Rules_pop (Nat.lt_of_succ_lt hw)) ?_
          refine ar_go 5 rfl ⟨trivial, trivial, trivial, trivial, trivial, trivial⟩ ?_
          show ae_Run _ _ _ _ _ (_, _, [_, _, Value.int (t4.2.1 (nI p).toNatClampNeg), _]) _
          rw [ep, hc]
          refine ar_call rfl rfl (ev_Rules_joined ho) ?_
          refine ar_call rfl rfl (ev_Rules_push (w := w) (wt := wt) (Nat.lt_of_succ_lt hw)) ?_
          refine ar_go 2 rfl ⟨trivial, trivial, trivial⟩ ?_
          exact ar_to (kk _ _ _) (by rw [nI_succ p] <;> rfl) rfl
        · try simp only [← Int32.not_le, Classical.not_not, ae_ofN] at h68
          exact absurd (show t4.2.1 (nI p).toNatClampNeg = -3 from h68) (by rw [ep, hc]; exact (cBi_lt ho).2.2)
      · try simp only [← Int32.not_le, Classical.not_not, ae_ofN] at h59
        exact absurd (show t4.2.1 (nI p).toNatClampNeg = -12 from h59) (by rw [ep, hc]; exact (cBi_lt ho).2.1)
    · try simp only [← Int32.not_le, Classical.not_not, ae_ofN] at h43
      exact absurd (show (0 : Int32) ≤ t4.2.1 (nI p).toNatClampNeg from h43) (by rw [ep, hc]; exact Int32.not_le.mpr (cBi_lt ho).1)
theorem lp_ans_4 {t1 t2 t3 t4 : ae_T} {d : Nat} {r : Option Value} {H2 : ae_H} {q E : Nat} (hq : q < 3) (hE : t4.2.2 q = nI E) (hl : E ≤ t4.1) (hr : t4.1 ≤ 160) : ∀ (l : List Int32) {p w m : Nat} {wt : Nat → Int32} {l6 l7 l8 : Option Value}, dOk l w m → hasAt t4.2.1 p l → p + l.length ≤ E → w + l.length ≤ 160 →
  (∀ l6 l7 l8 : Option Value, ae_Run P (d + 1) cd_Rules_answer r H2 (31, [some (.ref 25), some (.int (nI 4)), some (.int (nI q)), some (.ref 30), some (.ref 85), some (.int (nI (p + l.length))), l6, l7, l8], []) (ae_en (au σ [(16, nI (sR (α 23) l (w, wt)).1)]) (au α [(21, (sR (α 23) l (w, wt)).2)]) z t0 (t1 :: t2 :: t3 :: t4 :: ts))) → ae_Run P (d + 1) cd_Rules_answer r H2 (31, [some (.ref 25), some (.int (nI 4)), some (.int (nI q)), some (.ref 30), some (.ref 85), some (.int (nI p)), l6, l7, l8], []) (ae_en (au σ [(16, nI w)]) (au α [(21, wt)]) z t0 (t1 :: t2 :: t3 :: t4 :: ts))
  | [], p, w, m, wt, l6, l7, l8, _, _, _, _, kk => kk l6 l7 l8
  | c :: l, p, w, m, wt, l6, l7, l8, hd, hc, h1, h2, kk => by
    rw [List.length_cons] at h1 h2 kk
    rw [sR, show p + (l.length + 1) = p + 1 + l.length by omega] at kk
    obtain ⟨hc, hc2⟩ := hc
    rcases hd with ⟨g1, g2⟩ | ⟨g1, g2, g3⟩ | ⟨g1, g2, g3⟩
    · rcases g1 with ⟨v, hv, rfl⟩ | ⟨v, hv, rfl⟩
      · rw [sSt_n _ hv] at kk
        exact st_n_4 hq hE (by omega) hl hr hv hc (by omega) (fun a b c => lp_ans_4 hq hE hl hr l g2 hc2 (by omega) (by omega) kk)
      · rw [sSt_f _ hv] at kk
        exact st_f_4 hq hE (by omega) hl hr hv hc (by omega) (fun a b c => lp_ans_4 hq hE hl hr l g2 hc2 (by omega) (by omega) kk)
    · obtain ⟨w, rfl⟩ : ∃ q, w = q + 1 := ⟨w - 1, by omega⟩
      rcases g1 with rfl | rfl
      · rw [sSt_g] at kk
        exact st_g_4 hq hE (by omega) hl hr hc (by omega) (fun a b c => lp_ans_4 hq hE hl hr l g3 hc2 (by omega) (by omega) kk)
      · rw [sSt_d] at kk
        exact st_d_4 hq hE (by omega) hl hr hc (by omega) (fun a b c => lp_ans_4 hq hE hl hr l g3 hc2 (by omega) (by omega) kk)
    · obtain ⟨w, rfl⟩ : ∃ q, w = q + 1 + 1 := ⟨w - 2, by omega⟩
      rw [sSt_b _ g1] at kk
      exact st_b_4 hq hE (by omega) hl hr g1 hc (by omega) (fun a b c => lp_ans_4 hq hE hl hr l g3 hc2 (by omega) (by omega) kk)
theorem fin_ans_4 {t1 t2 t3 t4 : ae_T} {d : Nat} {q E : Nat} {wt : Nat → Int32} {l6 l7 l8 : Option Value} (hq : q < 3) (hE : t4.2.2 q = nI E) (hl : E ≤ 160) : ae_Run P (d + 1) cd_Rules_answer (some (.int (wt 0))) (ae_en (au σ [(16, nI 1)]) (au α [(21, wt)]) z t0 (t1 :: t2 :: t3 :: t4 :: ts)) (31, [some (.ref 25), some (.int (nI 4)), some (.int (nI q)), some (.ref 30), some (.ref 85), some (.int (nI E)), l6, l7, l8], []) (ae_en (au σ [(16, nI 1)]) (au α [(21, wt)]) z t0 (t1 :: t2 :: t3 :: t4 :: ts)) := by
  have eq : (nI q).toNatClampNeg = q := nI_clamp (by omega)
  refine ar_go 6 rfl ⟨trivial, trivial, trivial, trivial, (show vp_in (nI q) 3 from vp_in_nI hq (by decide)), trivial, trivial⟩ ?_
  refine ar_br (fun h36 => ?_) (fun h36 => ?_)
  · try simp only [← Int32.not_le, Classical.not_not, ae_ofN] at h36
    refine ar_go 4 rfl ⟨trivial, trivial, trivial, trivial, trivial⟩ ?_
    refine ar_br (fun h95 => ?_) (fun h95 => ?_)
    · try simp only [← Int32.not_le, Classical.not_not, ae_ofN] at h95
      exact absurd rfl h95
    · try simp only [← Int32.not_le, Classical.not_not, ae_ofN] at h95
      refine ar_go 5 rfl ⟨trivial, trivial, trivial, (vp_in_nI (n := 0) (by decide) (by decide)), trivial, trivial⟩ ?_
      refine ar_ret rfl rfl trivial ?_ ?_
      rfl
      rfl
  · try simp only [← Int32.not_le, Classical.not_not, ae_ofN] at h36
    exact absurd (show ¬ t4.2.2 (nI q).toNatClampNeg ≤ nI E from h36) (by rw [eq, hE]; exact fun q => q (nI_le (Nat.le_refl _) (by omega)))
set_option maxRecDepth 4000 in
theorem ev_ans_4 {t1 t2 t3 t4 : ae_T} {d : Nat} {q : Nat} {e : Nat → List Int32} (hq : q < 3) (ht : tOk t4 e) (hs : σ 15 = nI ((t1 :: t2 :: t3 :: t4 :: ts).length + 1)) (hs6 : (t1 :: t2 :: t3 :: t4 :: ts).length + 1 ≤ 6) : ae_Ev P (d + 2) 89 [.ref 25, .int (nI 4), .int (nI q), .ref 30] (ae_en σ α z t0 (t1 :: t2 :: t3 :: t4 :: ts)) (some (.int (sA (α 23) (e q)))) (ae_en (au σ [(16, nI 1)]) (au α [(21, (sR (α 23) (e q) (0, α 21)).2)]) z t0 (t1 :: t2 :: t3 :: t4 :: ts)) := by
  obtain ⟨hd, hc, hE, hl⟩ := ht.1 q hq
  have hr := ht.2
  have wl : ∀ {p : Nat} {l6 l7 l8 : Option Value}, p = tB e q → ae_Run P (d + 1) cd_Rules_answer (some (.int (sA (α 23) (e q)))) (ae_en (au σ [(16, nI 1)]) (au α [(21, (sR (α 23) (e q) (0, α 21)).2)]) z t0 (t1 :: t2 :: t3 :: t4 :: ts)) (31, [some (.ref 25), some (.int (nI 4)), some (.int (nI q)), some (.ref 30), some (.ref 85), some (.int (nI p)), l6, l7, l8], []) (ae_en (au σ [(16, nI 0)]) (au α [(21, (α 21))]) z t0 (t1 :: t2 :: t3 :: t4 :: ts)) := by
    rintro p l6 l7 l8 rfl
    refine lp_ans_4 hq hE hl hr (e q) hd hc (Nat.le_refl _) (by omega) (fun l6 l7 l8 => ?_)
    obtain ⟨s1, s2⟩ := sA_wt (nm := α 23) (f := α 21) hd
    rw [s1, ← s2]
    exact fin_ans_4 hq hE (by omega)
  have htx : ae_tx ((t1 :: t2 :: t3 :: t4 :: ts)).length (nI 4).toNatClampNeg = some 85 := by
    rw [nI_clamp (by omega)]
    exact if_pos (by simp)
  refine ar_ev (cd := cd_Rules_answer) rfl rfl rfl ?_
  refine ar_go 2 rfl ⟨trivial, trivial, trivial⟩ ?_
  refine ar_br (fun h1 => ?_) (fun h1 => ?_)
  · try simp only [← Int32.not_le, Classical.not_not, ae_ofN] at h1
    exact absurd (show ¬ (0 : Int32) ≤ nI 4 from h1) (by decide)
  · try simp only [← Int32.not_le, Classical.not_not, ae_ofN] at h1
    refine ar_go 4 rfl ⟨trivial, trivial, trivial, trivial, trivial⟩ ?_
    refine ar_br (fun h5 => ?_) (fun h5 => ?_)
    · try simp only [← Int32.not_le, Classical.not_not, ae_ofN] at h5
      exact absurd (show σ 15 ≤ nI 4 from h5) (by rw [hs]; exact nI_ge (by simp) (by omega))
    · try simp only [← Int32.not_le, Classical.not_not, ae_ofN] at h5
      refine ar_go 4 rfl ⟨trivial, trivial, trivial, (show vp_in (nI 4) 6 from vp_in_nI (by decide) (by decide)), trivial⟩ ?_
      show ae_Run _ _ _ _ _ (_, _, [va_rf (ae_tx ((t1 :: t2 :: t3 :: t4 :: ts)).length (nI 4).toNatClampNeg)]) _
      rw [htx]
      refine ar_go 9 rfl ⟨trivial, trivial, trivial, trivial, trivial, trivial, trivial, trivial, trivial, trivial⟩ ?_
      refine ar_br (fun h21 => ?_) (fun h21 => ?_)
      · try simp only [← Int32.not_le, Classical.not_not, ae_ofN] at h21
        have h21 : ¬ nI q = 0 := h21
        have q0 : q ≠ 0 := fun q0 => h21 (by rw [q0]; rfl)
        obtain ⟨s, rfl⟩ : ∃ s, q = s + 1 := ⟨q - 1, by omega⟩
        have e7 : nI s = nI (s + 1) - 1 := (nI_pred s).symm
        refine ar_go 7 rfl ⟨trivial, trivial, trivial, trivial, trivial, (show vp_in (nI (s + 1) - 1) 3 from e7 ▸ vp_in_nI (by omega) (by decide)), trivial, trivial⟩ ?_
        exact ar_to (wl (p := tB e (s + 1)) rfl) (by show (31, [_, _, _, _, _, some (Value.int (t4.2.2 (nI (s + 1) - 1).toNatClampNeg)), _, _, _], _) = _; rw [nI_pred, nI_clamp (by omega), (ht.1 s (by omega)).2.2.1]; rfl) rfl
      · try simp only [← Int32.not_le, Classical.not_not, ae_ofN] at h21
        have h21 : nI q = 0 := h21
        have q0 : q = 0 := (nI_eq (by omega) (by omega)).mp h21
        refine ar_go 3 rfl ⟨trivial, trivial, trivial, trivial⟩ ?_
        exact ar_to (wl (p := 0) (by rw [q0]; rfl)) rfl rfl
theorem st_n_5 {t1 t2 t3 t4 t5 : ae_T} {d : Nat} {r : Option Value} {H2 : ae_H} {q E p w : Nat} {wt : Nat → Int32} {l6 l7 l8 : Option Value} (hq : q < 3) (hE : t5.2.2 q = nI E) (hp : p < E) (hl : E ≤ t5.1) (hr : t5.1 ≤ 160) {v : Nat} (hv : v ≤ 9999) (hc : t5.2.1 p = nI v) (hw : w < 160)
  (kk : ∀ l6 l7 l8 : Option Value, ae_Run P (d + 1) cd_Rules_answer r H2 (31, [some (.ref 25), some (.int (nI 5)), some (.int (nI q)), some (.ref 30), some (.ref 88), some (.int (nI (p + 1))), l6, l7, l8], []) (ae_en (au σ [(16, nI (w + 1))]) (au α [(21, (upd wt w (nI v)))]) z t0 (t1 :: t2 :: t3 :: t4 :: t5 :: ts))) :
  ae_Run P (d + 1) cd_Rules_answer r H2 (31, [some (.ref 25), some (.int (nI 5)), some (.int (nI q)), some (.ref 30), some (.ref 88), some (.int (nI p)), l6, l7, l8], []) (ae_en (au σ [(16, nI w)]) (au α [(21, wt)]) z t0 (t1 :: t2 :: t3 :: t4 :: t5 :: ts)) := by
  have eq : (nI q).toNatClampNeg = q := nI_clamp (by omega)
  have ep : (nI p).toNatClampNeg = p := nI_clamp (by omega)
  refine ar_go 6 rfl ⟨trivial, trivial, trivial, trivial, (show vp_in (nI q) 3 from vp_in_nI hq (by decide)), trivial, trivial⟩ ?_
  refine ar_br (fun h36 => ?_) (fun h36 => ?_)
  · try simp only [← Int32.not_le, Classical.not_not, ae_ofN] at h36
    exact absurd (show t5.2.2 (nI q).toNatClampNeg ≤ nI p from h36) (by rw [eq, hE]; exact nI_ge hp (by omega))
  · try simp only [← Int32.not_le, Classical.not_not, ae_ofN] at h36
    refine ar_go 7 rfl ⟨trivial, trivial, trivial, (show vp_in (nI p) t5.1 from vp_in_nI (by omega) (by omega)), trivial, trivial, trivial, trivial⟩ ?_
    refine ar_br (fun h43 => ?_) (fun h43 => ?_)
    · try simp only [← Int32.not_le, Classical.not_not, ae_ofN] at h43
      exact absurd (show ¬ (0 : Int32) ≤ t5.2.1 (nI p).toNatClampNeg from h43) (by rw [ep, hc]; exact fun q => q (nI_pos' (by omega)))
    · try simp only [← Int32.not_le, Classical.not_not, ae_ofN] at h43
      refine ar_go 4 rfl ⟨trivial, trivial, trivial, trivial, trivial⟩ ?_
      refine ar_br (fun h47 => ?_) (fun h47 => ?_)
      · try simp only [← Int32.not_le, Classical.not_not, ae_ofN] at h47
        exact absurd (show nI 10000 ≤ t5.2.1 (nI p).toNatClampNeg from h47) (by rw [ep, hc]; exact nI_ge (by omega) (by decide))
      · try simp only [← Int32.not_le, Classical.not_not, ae_ofN] at h47
        refine ar_go 2 rfl ⟨trivial, trivial, trivial⟩ ?_
        refine ar_call rfl rfl (ev_Rules_push (w := w) (wt := wt) (v := t5.2.1 (nI p).toNatClampNeg) hw) ?_
        rw [ep, hc]
        refine ar_go 3 rfl ⟨trivial, trivial, trivial, trivial⟩ ?_
        exact ar_to (kk _ _ _) (by rw [nI_succ p] <;> rfl) rfl
theorem st_f_5 {t1 t2 t3 t4 t5 : ae_T} {d : Nat} {r : Option Value} {H2 : ae_H} {q E p w : Nat} {wt : Nat → Int32} {l6 l7 l8 : Option Value} (hq : q < 3) (hE : t5.2.2 q = nI E) (hp : p < E) (hl : E ≤ t5.1) (hr : t5.1 ≤ 160) {v : Nat} (hv : v < 6) (hc : t5.2.1 p = nI (10000 + v)) (hw : w < 160)
  (kk : ∀ l6 l7 l8 : Option Value, ae_Run P (d + 1) cd_Rules_answer r H2 (31, [some (.ref 25), some (.int (nI 5)), some (.int (nI q)), some (.ref 30), some (.ref 88), some (.int (nI (p + 1))), l6, l7, l8], []) (ae_en (au σ [(16, nI (w + 1))]) (au α [(21, (upd wt w (α 23 v)))]) z t0 (t1 :: t2 :: t3 :: t4 :: t5 :: ts))) :
  ae_Run P (d + 1) cd_Rules_answer r H2 (31, [some (.ref 25), some (.int (nI 5)), some (.int (nI q)), some (.ref 30), some (.ref 88), some (.int (nI p)), l6, l7, l8], []) (ae_en (au σ [(16, nI w)]) (au α [(21, wt)]) z t0 (t1 :: t2 :: t3 :: t4 :: t5 :: ts)) := by
  have eq : (nI q).toNatClampNeg = q := nI_clamp (by omega)
  have ep : (nI p).toNatClampNeg = p := nI_clamp (by omega)
  refine ar_go 6 rfl ⟨trivial, trivial, trivial, trivial, (show vp_in (nI q) 3 from vp_in_nI hq (by decide)), trivial, trivial⟩ ?_
  refine ar_br (fun h36 => ?_) (fun h36 => ?_)
  · try simp only [← Int32.not_le, Classical.not_not, ae_ofN] at h36
    exact absurd (show t5.2.2 (nI q).toNatClampNeg ≤ nI p from h36) (by rw [eq, hE]; exact nI_ge hp (by omega))
  · try simp only [← Int32.not_le, Classical.not_not, ae_ofN] at h36
    refine ar_go 7 rfl ⟨trivial, trivial, trivial, (show vp_in (nI p) t5.1 from vp_in_nI (by omega) (by omega)), trivial, trivial, trivial, trivial⟩ ?_
    refine ar_br (fun h43 => ?_) (fun h43 => ?_)
    · try simp only [← Int32.not_le, Classical.not_not, ae_ofN] at h43
      exact absurd (show ¬ (0 : Int32) ≤ t5.2.1 (nI p).toNatClampNeg from h43) (by rw [ep, hc]; exact fun q => q (nI_pos' (by omega)))
    · try simp only [← Int32.not_le, Classical.not_not, ae_ofN] at h43
      refine ar_go 4 rfl ⟨trivial, trivial, trivial, trivial, trivial⟩ ?_
      refine ar_br (fun h47 => ?_) (fun h47 => ?_)
      · try simp only [← Int32.not_le, Classical.not_not, ae_ofN] at h47
        have e9 : t5.2.1 (nI p).toNatClampNeg - nI 10000 = nI v := by rw [ep, hc]; exact nI_off
        refine ar_go 5 rfl ⟨trivial, trivial, trivial, trivial, (show vp_in (t5.2.1 (nI p).toNatClampNeg - nI 10000) 6 from by rw [e9]; exact vp_in_nI hv (by decide)), trivial⟩ ?_
        show ae_Run _ _ _ _ _ (_, _, [Value.int (α 23 (t5.2.1 (nI p).toNatClampNeg - nI 10000).toNatClampNeg), _]) _
        rw [e9, nI_clamp (n := v) (by omega)]
        refine ar_call rfl rfl (ev_Rules_push (w := w) (wt := wt) hw) ?_
        refine ar_go 3 rfl ⟨trivial, trivial, trivial, trivial⟩ ?_
        exact ar_to (kk _ _ _) (by rw [nI_succ p] <;> rfl) rfl
      · try simp only [← Int32.not_le, Classical.not_not, ae_ofN] at h47
        exact absurd (show ¬ nI 10000 ≤ t5.2.1 (nI p).toNatClampNeg from h47) (by rw [ep, hc]; exact fun q => q (nI_le (by omega) (by omega)))
theorem st_g_5 {t1 t2 t3 t4 t5 : ae_T} {d : Nat} {r : Option Value} {H2 : ae_H} {q E p w : Nat} {wt : Nat → Int32} {l6 l7 l8 : Option Value} (hq : q < 3) (hE : t5.2.2 q = nI E) (hp : p < E) (hl : E ≤ t5.1) (hr : t5.1 ≤ 160) (hc : t5.2.1 p = -12) (hw : w < 160)
  (kk : ∀ l6 l7 l8 : Option Value, ae_Run P (d + 1) cd_Rules_answer r H2 (31, [some (.ref 25), some (.int (nI 5)), some (.int (nI q)), some (.ref 30), some (.ref 88), some (.int (nI (p + 1))), l6, l7, l8], []) (ae_en (au σ [(16, nI (w + 1))]) (au α [(21, (upd wt w (- wt w)))]) z t0 (t1 :: t2 :: t3 :: t4 :: t5 :: ts))) :
  ae_Run P (d + 1) cd_Rules_answer r H2 (31, [some (.ref 25), some (.int (nI 5)), some (.int (nI q)), some (.ref 30), some (.ref 88), some (.int (nI p)), l6, l7, l8], []) (ae_en (au σ [(16, nI (w + 1))]) (au α [(21, wt)]) z t0 (t1 :: t2 :: t3 :: t4 :: t5 :: ts)) := by
  have eq : (nI q).toNatClampNeg = q := nI_clamp (by omega)
  have ep : (nI p).toNatClampNeg = p := nI_clamp (by omega)
  refine ar_go 6 rfl ⟨trivial, trivial, trivial, trivial, (show vp_in (nI q) 3 from vp_in_nI hq (by decide)), trivial, trivial⟩ ?_
  refine ar_br (fun h36 => ?_) (fun h36 => ?_)
  · try simp only [← Int32.not_le, Classical.not_not, ae_ofN] at h36
    exact absurd (show t5.2.2 (nI q).toNatClampNeg ≤ nI p from h36) (by rw [eq, hE]; exact nI_ge hp (by omega))
  · try simp only [← Int32.not_le, Classical.not_not, ae_ofN] at h36
    refine ar_go 7 rfl ⟨trivial, trivial, trivial, (show vp_in (nI p) t5.1 from vp_in_nI (by omega) (by omega)), trivial, trivial, trivial, trivial⟩ ?_
    refine ar_br (fun h43 => ?_) (fun h43 => ?_)
    · try simp only [← Int32.not_le, Classical.not_not, ae_ofN] at h43
      refine ar_go 3 rfl ⟨trivial, trivial, trivial, trivial⟩ ?_
      refine ar_br (fun h59 => ?_) (fun h59 => ?_)
      · try simp only [← Int32.not_le, Classical.not_not, ae_ofN] at h59
        exact absurd (show ¬ t5.2.1 (nI p).toNatClampNeg = -12 from h59) (by rw [ep, hc]; decide)
      · try simp only [← Int32.not_le, Classical.not_not, ae_ofN] at h59
        refine ar_go 2 rfl ⟨trivial, trivial, trivial⟩ ?_
        refine ar_call rfl rfl (ev_Rules_pop hw) ?_
        refine ar_go 1 rfl ⟨trivial, trivial⟩ ?_
        refine ar_call rfl rfl (ev_Rules_push (w := w) (wt := wt) hw) ?_
        refine ar_go 3 rfl ⟨trivial, trivial, trivial, trivial⟩ ?_
        exact ar_to (kk _ _ _) (by rw [nI_succ p] <;> rfl) rfl
    · try simp only [← Int32.not_le, Classical.not_not, ae_ofN] at h43
      exact absurd (show (0 : Int32) ≤ t5.2.1 (nI p).toNatClampNeg from h43) (by rw [ep, hc]; decide)
theorem st_d_5 {t1 t2 t3 t4 t5 : ae_T} {d : Nat} {r : Option Value} {H2 : ae_H} {q E p w : Nat} {wt : Nat → Int32} {l6 l7 l8 : Option Value} (hq : q < 3) (hE : t5.2.2 q = nI E) (hp : p < E) (hl : E ≤ t5.1) (hr : t5.1 ≤ 160) (hc : t5.2.1 p = -3) (hw : w < 160)
  (kk : ∀ l6 l7 l8 : Option Value, ae_Run P (d + 1) cd_Rules_answer r H2 (31, [some (.ref 25), some (.int (nI 5)), some (.int (nI q)), some (.ref 30), some (.ref 88), some (.int (nI (p + 1))), l6, l7, l8], []) (ae_en (au σ [(16, nI (w + 1))]) (au α [(21, (upd wt w (if wt w = 0 then 1 else 0)))]) z t0 (t1 :: t2 :: t3 :: t4 :: t5 :: ts))) :
  ae_Run P (d + 1) cd_Rules_answer r H2 (31, [some (.ref 25), some (.int (nI 5)), some (.int (nI q)), some (.ref 30), some (.ref 88), some (.int (nI p)), l6, l7, l8], []) (ae_en (au σ [(16, nI (w + 1))]) (au α [(21, wt)]) z t0 (t1 :: t2 :: t3 :: t4 :: t5 :: ts)) := by
  have eq : (nI q).toNatClampNeg = q := nI_clamp (by omega)
  have ep : (nI p).toNatClampNeg = p := nI_clamp (by omega)
  refine ar_go 6 rfl ⟨trivial, trivial, trivial, trivial, (show vp_in (nI q) 3 from vp_in_nI hq (by decide)), trivial, trivial⟩ ?_
  refine ar_br (fun h36 => ?_) (fun h36 => ?_)
  · try simp only [← Int32.not_le, Classical.not_not, ae_ofN] at h36
    exact absurd (show t5.2.2 (nI q).toNatClampNeg ≤ nI p from h36) (by rw [eq, hE]; exact nI_ge hp (by omega))
  · try simp only [← Int32.not_le, Classical.not_not, ae_ofN] at h36
    refine ar_go 7 rfl ⟨trivial, trivial, trivial, (show vp_in (nI p) t5.1 from vp_in_nI (by omega) (by omega)), trivial, trivial, trivial, trivial⟩ ?_
    refine ar_br (fun h43 => ?_) (fun h43 => ?_)
    · try simp only [← Int32.not_le, Classical.not_not, ae_ofN] at h43
      refine ar_go 3 rfl ⟨trivial, trivial, trivial, trivial⟩ ?_
      refine ar_br (fun h59 => ?_) (fun h59 => ?_)
      · try simp only [← Int32.not_le, Classical.not_not, ae_ofN] at h59
        refine ar_go 3 rfl ⟨trivial, trivial, trivial, trivial⟩ ?_
        refine ar_br (fun h68 => ?_) (fun h68 => ?_)
        · try simp only [← Int32.not_le, Classical.not_not, ae_ofN] at h68
          exact absurd (show ¬ t5.2.1 (nI p).toNatClampNeg = -3 from h68) (by rw [ep, hc]; decide)
        · try simp only [← Int32.not_le, Classical.not_not, ae_ofN] at h68
          refine ar_go 2 rfl ⟨trivial, trivial, trivial⟩ ?_
          refine ar_call rfl rfl (ev_Rules_pop hw) ?_
          refine ar_go 1 rfl ⟨trivial, trivial⟩ ?_
          refine ar_br (fun h72 => ?_) (fun h72 => ?_)
          · try simp only [← Int32.not_le, Classical.not_not, ae_ofN] at h72
            rw [if_neg h72] at kk
            refine ar_go 1 rfl ⟨trivial, trivial⟩ ?_
            refine ar_call rfl rfl (ev_Rules_push (w := w) (wt := wt) hw) ?_
            refine ar_go 3 rfl ⟨trivial, trivial, trivial, trivial⟩ ?_
            exact ar_to (kk _ _ _) (by rw [nI_succ p] <;> rfl) rfl
          · try simp only [← Int32.not_le, Classical.not_not, ae_ofN] at h72
            rw [if_pos h72] at kk
            refine ar_go 2 rfl ⟨trivial, trivial, trivial⟩ ?_
            refine ar_call rfl rfl (ev_Rules_push (w := w) (wt := wt) hw) ?_
            refine ar_go 3 rfl ⟨trivial, trivial, trivial, trivial⟩ ?_
            exact ar_to (kk _ _ _) (by rw [nI_succ p] <;> rfl) rfl
      · try simp only [← Int32.not_le, Classical.not_not, ae_ofN] at h59
        exact absurd (show t5.2.1 (nI p).toNatClampNeg = -12 from h59) (by rw [ep, hc]; decide)
    · try simp only [← Int32.not_le, Classical.not_not, ae_ofN] at h43
      exact absurd (show (0 : Int32) ≤ t5.2.1 (nI p).toNatClampNeg from h43) (by rw [ep, hc]; decide)
theorem st_b_5 {t1 t2 t3 t4 t5 : ae_T} {d : Nat} {r : Option Value} {H2 : ae_H} {q E p w : Nat} {wt : Nat → Int32} {l6 l7 l8 : Option Value} (hq : q < 3) (hE : t5.2.2 q = nI E) (hp : p < E) (hl : E ≤ t5.1) (hr : t5.1 ≤ 160) {c : Int32} (ho : cBi c) (hc : t5.2.1 p = c) (hw : w + 1 < 160)
  (kk : ∀ l6 l7 l8 : Option Value, ae_Run P (d + 1) cd_Rules_answer r H2 (31, [some (.ref 25), some (.int (nI 5)), some (.int (nI q)), some (.ref 30), some (.ref 88), some (.int (nI (p + 1))), l6, l7, l8], []) (ae_en (au σ [(16, nI (w + 1))]) (au α [(21, (upd wt w (oV c (wt w) (wt (w + 1)))))]) z t0 (t1 :: t2 :: t3 :: t4 :: t5 :: ts))) :
  ae_Run P (d + 1) cd_Rules_answer r H2 (31, [some (.ref 25), some (.int (nI 5)), some (.int (nI q)), some (.ref 30), some (.ref 88), some (.int (nI p)), l6, l7, l8], []) (ae_en (au σ [(16, nI (w + 1 + 1))]) (au α [(21, wt)]) z t0 (t1 :: t2 :: t3 :: t4 :: t5 :: ts)) := by
  have eq : (nI q).toNatClampNeg = q := nI_clamp (by omega)
  have ep : (nI p).toNatClampNeg = p := nI_clamp (by omega)
  refine ar_go 6 rfl ⟨trivial, trivial, trivial, trivial, (show vp_in (nI q) 3 from vp_in_nI hq (by decide)), trivial, trivial⟩ ?_
  refine ar_br (fun h36 => ?_) (fun h36 => ?_)
  · try simp only [← Int32.not_le, Classical.not_not, ae_ofN] at h36
    exact absurd (show t5.2.2 (nI q).toNatClampNeg ≤ nI p from h36) (by rw [eq, hE]; exact nI_ge hp (by omega))
  · try simp only [← Int32.not_le, Classical.not_not, ae_ofN] at h36
    refine ar_go 7 rfl ⟨trivial, trivial, trivial, (show vp_in (nI p) t5.1 from vp_in_nI (by omega) (by omega)), trivial, trivial, trivial, trivial⟩ ?_
    refine ar_br (fun h43 => ?_) (fun h43 => ?_)
    · try simp only [← Int32.not_le, Classical.not_not, ae_ofN] at h43
      refine ar_go 3 rfl ⟨trivial, trivial, trivial, trivial⟩ ?_
      refine ar_br (fun h59 => ?_) (fun h59 => ?_)
      · try simp only [← Int32.not_le, Classical.not_not, ae_ofN] at h59
        refine ar_go 3 rfl ⟨trivial, trivial, trivial, trivial⟩ ?_
        refine ar_br (fun h68 => ?_) (fun h68 => ?_)
        · try simp only [← Int32.not_le, Classical.not_not, ae_ofN] at h68
          refine ar_go 1 rfl ⟨trivial, trivial⟩ ?_
          refine ar_call rfl rfl (ev_Rules_pop hw) ?_
          refine ar_go 2 rfl ⟨trivial, trivial, trivial⟩ ?_
          refine ar_call rfl rfl (ev_Rules_pop (Nat.lt_of_succ_lt hw)) ?_
          refine ar_go 5 rfl ⟨trivial, trivial, trivial, trivial, trivial, trivial⟩ ?_
          show ae_Run _ _ _ _ _ (_, _, [_, _, Value.int (t5.2.1 (nI p).toNatClampNeg), _]) _
          rw [ep, hc]
          refine ar_call rfl rfl (ev_Rules_joined ho) ?_
          refine ar_call rfl rfl (ev_Rules_push (w := w) (wt := wt) (Nat.lt_of_succ_lt hw)) ?_
          refine ar_go 2 rfl ⟨trivial, trivial, trivial⟩ ?_
          exact ar_to (kk _ _ _) (by rw [nI_succ p] <;> rfl) rfl
        · try simp only [← Int32.not_le, Classical.not_not, ae_ofN] at h68
          exact absurd (show t5.2.1 (nI p).toNatClampNeg = -3 from h68) (by rw [ep, hc]; exact (cBi_lt ho).2.2)
      · try simp only [← Int32.not_le, Classical.not_not, ae_ofN] at h59
        exact absurd (show t5.2.1 (nI p).toNatClampNeg = -12 from h59) (by rw [ep, hc]; exact (cBi_lt ho).2.1)
    · try simp only [← Int32.not_le, Classical.not_not, ae_ofN] at h43
      exact absurd (show (0 : Int32) ≤ t5.2.1 (nI p).toNatClampNeg from h43) (by rw [ep, hc]; exact Int32.not_le.mpr (cBi_lt ho).1)
theorem lp_ans_5 {t1 t2 t3 t4 t5 : ae_T} {d : Nat} {r : Option Value} {H2 : ae_H} {q E : Nat} (hq : q < 3) (hE : t5.2.2 q = nI E) (hl : E ≤ t5.1) (hr : t5.1 ≤ 160) : ∀ (l : List Int32) {p w m : Nat} {wt : Nat → Int32} {l6 l7 l8 : Option Value}, dOk l w m → hasAt t5.2.1 p l → p + l.length ≤ E → w + l.length ≤ 160 →
  (∀ l6 l7 l8 : Option Value, ae_Run P (d + 1) cd_Rules_answer r H2 (31, [some (.ref 25), some (.int (nI 5)), some (.int (nI q)), some (.ref 30), some (.ref 88), some (.int (nI (p + l.length))), l6, l7, l8], []) (ae_en (au σ [(16, nI (sR (α 23) l (w, wt)).1)]) (au α [(21, (sR (α 23) l (w, wt)).2)]) z t0 (t1 :: t2 :: t3 :: t4 :: t5 :: ts))) → ae_Run P (d + 1) cd_Rules_answer r H2 (31, [some (.ref 25), some (.int (nI 5)), some (.int (nI q)), some (.ref 30), some (.ref 88), some (.int (nI p)), l6, l7, l8], []) (ae_en (au σ [(16, nI w)]) (au α [(21, wt)]) z t0 (t1 :: t2 :: t3 :: t4 :: t5 :: ts))
  | [], p, w, m, wt, l6, l7, l8, _, _, _, _, kk => kk l6 l7 l8
  | c :: l, p, w, m, wt, l6, l7, l8, hd, hc, h1, h2, kk => by
    rw [List.length_cons] at h1 h2 kk
    rw [sR, show p + (l.length + 1) = p + 1 + l.length by omega] at kk
    obtain ⟨hc, hc2⟩ := hc
    rcases hd with ⟨g1, g2⟩ | ⟨g1, g2, g3⟩ | ⟨g1, g2, g3⟩
    · rcases g1 with ⟨v, hv, rfl⟩ | ⟨v, hv, rfl⟩
      · rw [sSt_n _ hv] at kk
        exact st_n_5 hq hE (by omega) hl hr hv hc (by omega) (fun a b c => lp_ans_5 hq hE hl hr l g2 hc2 (by omega) (by omega) kk)
      · rw [sSt_f _ hv] at kk
        exact st_f_5 hq hE (by omega) hl hr hv hc (by omega) (fun a b c => lp_ans_5 hq hE hl hr l g2 hc2 (by omega) (by omega) kk)
    · obtain ⟨w, rfl⟩ : ∃ q, w = q + 1 := ⟨w - 1, by omega⟩
      rcases g1 with rfl | rfl
      · rw [sSt_g] at kk
        exact st_g_5 hq hE (by omega) hl hr hc (by omega) (fun a b c => lp_ans_5 hq hE hl hr l g3 hc2 (by omega) (by omega) kk)
      · rw [sSt_d] at kk
        exact st_d_5 hq hE (by omega) hl hr hc (by omega) (fun a b c => lp_ans_5 hq hE hl hr l g3 hc2 (by omega) (by omega) kk)
    · obtain ⟨w, rfl⟩ : ∃ q, w = q + 1 + 1 := ⟨w - 2, by omega⟩
      rw [sSt_b _ g1] at kk
      exact st_b_5 hq hE (by omega) hl hr g1 hc (by omega) (fun a b c => lp_ans_5 hq hE hl hr l g3 hc2 (by omega) (by omega) kk)
theorem fin_ans_5 {t1 t2 t3 t4 t5 : ae_T} {d : Nat} {q E : Nat} {wt : Nat → Int32} {l6 l7 l8 : Option Value} (hq : q < 3) (hE : t5.2.2 q = nI E) (hl : E ≤ 160) : ae_Run P (d + 1) cd_Rules_answer (some (.int (wt 0))) (ae_en (au σ [(16, nI 1)]) (au α [(21, wt)]) z t0 (t1 :: t2 :: t3 :: t4 :: t5 :: ts)) (31, [some (.ref 25), some (.int (nI 5)), some (.int (nI q)), some (.ref 30), some (.ref 88), some (.int (nI E)), l6, l7, l8], []) (ae_en (au σ [(16, nI 1)]) (au α [(21, wt)]) z t0 (t1 :: t2 :: t3 :: t4 :: t5 :: ts)) := by
  have eq : (nI q).toNatClampNeg = q := nI_clamp (by omega)
  refine ar_go 6 rfl ⟨trivial, trivial, trivial, trivial, (show vp_in (nI q) 3 from vp_in_nI hq (by decide)), trivial, trivial⟩ ?_
  refine ar_br (fun h36 => ?_) (fun h36 => ?_)
  · try simp only [← Int32.not_le, Classical.not_not, ae_ofN] at h36
    refine ar_go 4 rfl ⟨trivial, trivial, trivial, trivial, trivial⟩ ?_
    refine ar_br (fun h95 => ?_) (fun h95 => ?_)
    · try simp only [← Int32.not_le, Classical.not_not, ae_ofN] at h95
      exact absurd rfl h95
    · try simp only [← Int32.not_le, Classical.not_not, ae_ofN] at h95
      refine ar_go 5 rfl ⟨trivial, trivial, trivial, (vp_in_nI (n := 0) (by decide) (by decide)), trivial, trivial⟩ ?_
      refine ar_ret rfl rfl trivial ?_ ?_
      rfl
      rfl
  · try simp only [← Int32.not_le, Classical.not_not, ae_ofN] at h36
    exact absurd (show ¬ t5.2.2 (nI q).toNatClampNeg ≤ nI E from h36) (by rw [eq, hE]; exact fun q => q (nI_le (Nat.le_refl _) (by omega)))
set_option maxRecDepth 4000 in
theorem ev_ans_5 {t1 t2 t3 t4 t5 : ae_T} {d : Nat} {q : Nat} {e : Nat → List Int32} (hq : q < 3) (ht : tOk t5 e) (hs : σ 15 = nI ((t1 :: t2 :: t3 :: t4 :: t5 :: ts).length + 1)) (hs6 : (t1 :: t2 :: t3 :: t4 :: t5 :: ts).length + 1 ≤ 6) : ae_Ev P (d + 2) 89 [.ref 25, .int (nI 5), .int (nI q), .ref 30] (ae_en σ α z t0 (t1 :: t2 :: t3 :: t4 :: t5 :: ts)) (some (.int (sA (α 23) (e q)))) (ae_en (au σ [(16, nI 1)]) (au α [(21, (sR (α 23) (e q) (0, α 21)).2)]) z t0 (t1 :: t2 :: t3 :: t4 :: t5 :: ts)) := by
  obtain ⟨hd, hc, hE, hl⟩ := ht.1 q hq
  have hr := ht.2
  have wl : ∀ {p : Nat} {l6 l7 l8 : Option Value}, p = tB e q → ae_Run P (d + 1) cd_Rules_answer (some (.int (sA (α 23) (e q)))) (ae_en (au σ [(16, nI 1)]) (au α [(21, (sR (α 23) (e q) (0, α 21)).2)]) z t0 (t1 :: t2 :: t3 :: t4 :: t5 :: ts)) (31, [some (.ref 25), some (.int (nI 5)), some (.int (nI q)), some (.ref 30), some (.ref 88), some (.int (nI p)), l6, l7, l8], []) (ae_en (au σ [(16, nI 0)]) (au α [(21, (α 21))]) z t0 (t1 :: t2 :: t3 :: t4 :: t5 :: ts)) := by
    rintro p l6 l7 l8 rfl
    refine lp_ans_5 hq hE hl hr (e q) hd hc (Nat.le_refl _) (by omega) (fun l6 l7 l8 => ?_)
    obtain ⟨s1, s2⟩ := sA_wt (nm := α 23) (f := α 21) hd
    rw [s1, ← s2]
    exact fin_ans_5 hq hE (by omega)
  have htx : ae_tx ((t1 :: t2 :: t3 :: t4 :: t5 :: ts)).length (nI 5).toNatClampNeg = some 88 := by
    rw [nI_clamp (by omega)]
    exact if_pos (by simp)
  refine ar_ev (cd := cd_Rules_answer) rfl rfl rfl ?_
  refine ar_go 2 rfl ⟨trivial, trivial, trivial⟩ ?_
  refine ar_br (fun h1 => ?_) (fun h1 => ?_)
  · try simp only [← Int32.not_le, Classical.not_not, ae_ofN] at h1
    exact absurd (show ¬ (0 : Int32) ≤ nI 5 from h1) (by decide)
  · try simp only [← Int32.not_le, Classical.not_not, ae_ofN] at h1
    refine ar_go 4 rfl ⟨trivial, trivial, trivial, trivial, trivial⟩ ?_
    refine ar_br (fun h5 => ?_) (fun h5 => ?_)
    · try simp only [← Int32.not_le, Classical.not_not, ae_ofN] at h5
      exact absurd (show σ 15 ≤ nI 5 from h5) (by rw [hs]; exact nI_ge (by simp) (by omega))
    · try simp only [← Int32.not_le, Classical.not_not, ae_ofN] at h5
      refine ar_go 4 rfl ⟨trivial, trivial, trivial, (show vp_in (nI 5) 6 from vp_in_nI (by decide) (by decide)), trivial⟩ ?_
      show ae_Run _ _ _ _ _ (_, _, [va_rf (ae_tx ((t1 :: t2 :: t3 :: t4 :: t5 :: ts)).length (nI 5).toNatClampNeg)]) _
      rw [htx]
      refine ar_go 9 rfl ⟨trivial, trivial, trivial, trivial, trivial, trivial, trivial, trivial, trivial, trivial⟩ ?_
      refine ar_br (fun h21 => ?_) (fun h21 => ?_)
      · try simp only [← Int32.not_le, Classical.not_not, ae_ofN] at h21
        have h21 : ¬ nI q = 0 := h21
        have q0 : q ≠ 0 := fun q0 => h21 (by rw [q0]; rfl)
        obtain ⟨s, rfl⟩ : ∃ s, q = s + 1 := ⟨q - 1, by omega⟩
        have e7 : nI s = nI (s + 1) - 1 := (nI_pred s).symm
        refine ar_go 7 rfl ⟨trivial, trivial, trivial, trivial, trivial, (show vp_in (nI (s + 1) - 1) 3 from e7 ▸ vp_in_nI (by omega) (by decide)), trivial, trivial⟩ ?_
        exact ar_to (wl (p := tB e (s + 1)) rfl) (by show (31, [_, _, _, _, _, some (Value.int (t5.2.2 (nI (s + 1) - 1).toNatClampNeg)), _, _, _], _) = _; rw [nI_pred, nI_clamp (by omega), (ht.1 s (by omega)).2.2.1]; rfl) rfl
      · try simp only [← Int32.not_le, Classical.not_not, ae_ofN] at h21
        have h21 : nI q = 0 := h21
        have q0 : q = 0 := (nI_eq (by omega) (by omega)).mp h21
        refine ar_go 3 rfl ⟨trivial, trivial, trivial, trivial⟩ ?_
        exact ar_to (wl (p := 0) (by rw [q0]; rfl)) rfl rfl
theorem ev_Rules_answer {t : ae_T} {d k q : Nat} {e : Nat → List Int32} (hk : ae_get (t0 :: ts) k = some t) (hq : q < 3) (ht : tOk t e) (hs : σ 15 = nI (ts.length + 1)) (hs6 : ts.length + 1 ≤ 6) : ae_Ev P (d + 2) 89 [.ref 25, .int (nI k), .int (nI q), .ref 30] (ae_en σ α z t0 ts) (some (.int (sA (α 23) (e q)))) (ae_en (au σ [(16, nI 1)]) (au α [(21, (sR (α 23) (e q) (0, α 21)).2)]) z t0 ts) := by
  obtain _ | k := k
  · cases hk
    exact ev_ans_0 hq ht hs hs6
  obtain _ | ⟨t1, ts⟩ := ts
  · exact absurd hk (fun q => nomatch q)
  obtain _ | k := k
  · cases hk
    exact ev_ans_1 hq ht hs hs6
  obtain _ | ⟨t2, ts⟩ := ts
  · exact absurd hk (fun q => nomatch q)
  obtain _ | k := k
  · cases hk
    exact ev_ans_2 hq ht hs hs6
  obtain _ | ⟨t3, ts⟩ := ts
  · exact absurd hk (fun q => nomatch q)
  obtain _ | k := k
  · cases hk
    exact ev_ans_3 hq ht hs hs6
  obtain _ | ⟨t4, ts⟩ := ts
  · exact absurd hk (fun q => nomatch q)
  obtain _ | k := k
  · cases hk
    exact ev_ans_4 hq ht hs hs6
  obtain _ | ⟨t5, ts⟩ := ts
  · exact absurd hk (fun q => nomatch q)
  obtain _ | k := k
  · cases hk
    exact ev_ans_5 hq ht hs hs6
  obtain rfl : ts = [] := List.eq_nil_of_length_eq_zero (by simp only [List.length_cons] at hs6; omega)
  exact absurd hk (fun q => nomatch q)
end L23b
