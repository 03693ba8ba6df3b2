/-! the reference: kinds, facts, what a rule gives -/
abbrev bnd (x : Int32) (m : Nat) : Prop := ∃ v : Nat, v ≤ m ∧ x = nI v
def bOk (B : ae_B) (n : Nat) : Prop := ∀ p, p < n → (∃ c : Nat, c < 6 ∧ B.2.1.1 p = nI c) ∧ bnd (B.2.1.2.1 p) 300 ∧ bnd (B.2.1.2.2 p) 9
def wOk (n : Nat) (w : Nat → Int32) : Prop := ∀ p, p < n → bnd (w p) 100
theorem fMx_0n (v : Nat) (h : v < 2 ^ 31) : fMx 0 (nI v) = nI v := by
  unfold fMx
  by_cases q : 0 < v
  · rw [if_pos (show (0 : Int32) < nI v from nI_lt (a := 0) q h)]
  · rw [show v = 0 by omega]
    rfl
theorem fMx_sub {a b : Nat} (ha : a < 2 ^ 30) (hb : b < 2 ^ 30) : fMx 0 (nI a - nI b) = (if nI b < nI a then nI a - nI b else 0) ∧ bnd (fMx 0 (nI a - nI b)) a := by
  unfold fMx
  rcases Nat.lt_or_ge b a with h | h
  · rw [if_pos (nI_lt h (by omega)), pk_sub (show b ≤ a by omega), if_pos (show (0 : Int32) < nI (a - b) from nI_lt (a := 0) (b := a - b) (by omega) (by omega))]
    exact ⟨rfl, a - b, by omega, rfl⟩
  · rw [if_neg (nI_nlt (by omega) (by omega))]
    rcases Nat.lt_or_ge a b with q | q
    · rw [if_neg (fun w => absurd (pk_sneg hb q) (Int32.not_lt.mpr (Int32.le_of_lt w)))]
      exact ⟨rfl, 0, by omega, rfl⟩
    · rw [show a = b by omega, Int32.sub_self]
      exact ⟨rfl, 0, by omega, rfl⟩
/-- how much a plank has grown, in the reference's words -/
theorem gGr_m {B : ae_B} {n p : Nat} {w : Nat → Int32} (hb : bOk B n) (hw : wOk n w) (hp : p < n) : bnd (gGr B w p) 18 ∧ ∃ pl nb : Nat, pl ≤ 15 ∧ nb ≤ 9 ∧ B.2.1.2.1 p * w p / 2000 = nI pl ∧ B.2.1.2.2 p = nI nb := by
  obtain ⟨⟨c, hc, ec⟩, ⟨v, hv, ev⟩, ⟨b, hb9, eb⟩⟩ := hb p hp
  obtain ⟨x, hx, ex⟩ := hw p hp
  have hvx : v * x ≤ 300 * 100 := Nat.mul_le_mul hv hx
  have e1 : B.2.1.2.1 p * w p / 2000 = nI (v * x / 2000) := by
    rw [ev, ex, pk_mul]
    exact pk_div (d := 2000) (by omega) (by decide) (by decide)
  have h15 : v * x / 2000 ≤ 15 := by omega
  refine ⟨?_, v * x / 2000, b, h15, hb9, e1, eb⟩
  unfold gGr fGr
  rw [e1, ec, eb]
  obtain rfl | rfl | rfl | rfl | rfl | rfl : c = 0 ∨ c = 1 ∨ c = 2 ∨ c = 3 ∨ c = 4 ∨ c = 5 := by omega
  · exact ⟨_, by omega, rfl⟩
  · show bnd (nI (v * x / 2000) + nI b / nI 3) 18
    exact ⟨v * x / 2000 + b / 3, by omega, by rw [pk_div (by omega) (by decide) (by decide), nI_add]⟩
  · show bnd (nI (v * x / 2000) / nI 2) 18
    exact ⟨v * x / 2000 / 2, by omega, by rw [pk_div (by omega) (by decide) (by decide)]⟩
  · show bnd (nI (v * x / 2000) + nI b / nI 3) 18
    exact ⟨v * x / 2000 + b / 3, by omega, by rw [pk_div (by omega) (by decide) (by decide), nI_add]⟩
  · show bnd (fMx 0 (nI (v * x / 2000) - nI b)) 18
    obtain ⟨y, hy, ey⟩ := (fMx_sub (a := v * x / 2000) (b := b) (by omega) (by omega)).2
    exact ⟨y, by omega, ey⟩
  · show bnd (nI (v * x / 2000) / nI 2 + nI 1) 18
    exact ⟨v * x / 2000 / 2 + 1, by omega, by rw [pk_div (by omega) (by decide) (by decide), nI_add]⟩
theorem fHeld_m (x : Int32) (m : Int32) (hm : 0 ≤ m) : fHeld x 0 m = fMx 0 (fMn m x) := by
  unfold fHeld fMx fMn
  by_cases h : x < 0
  · rw [if_pos h, if_pos (Int32.lt_of_lt_of_le h hm), if_neg (Int32.not_lt.mpr (Int32.le_of_lt h))]
  · rw [if_neg h]
    by_cases h2 : m < x
    · rw [if_pos h2, if_neg (Int32.not_lt.mpr (Int32.le_of_lt h2))]
      by_cases h3 : 0 < m
      · rw [if_pos h3]
      · rw [if_neg h3]
        exact Int32.le_antisymm (Int32.not_lt.mp h3) hm
    · rw [if_neg h2]
      by_cases h4 : x < m
      · rw [if_pos h4]
        by_cases h3 : 0 < x
        · rw [if_pos h3]
        · rw [if_neg h3]
          exact Int32.le_antisymm (Int32.not_lt.mp h3) (Int32.not_lt.mp h)
      · rw [if_neg h4]
        have e : x = m := Int32.le_antisymm (Int32.not_lt.mp h2) (Int32.not_lt.mp h4)
        subst e
        by_cases h3 : 0 < x
        · rw [if_pos h3]
        · rw [if_neg h3]
          exact Int32.le_antisymm (Int32.not_lt.mp h3) hm
/-- the steps of the rule that she begins with -/
def s01 : List Int32 := [2, 10002, 3, -8, -6, 50, 10001, -4, 4, -8, -6]
def s02 : List Int32 := [2, 10005, -6]
def s03 : List Int32 := [1, 50, 10000, -4, 2, -8, -6]
def e03 : Nat → List Int32
  | 0 => s01
  | 1 => s02
  | _ => s03
theorem sA_1 (nm : Nat → Int32) : sA nm s01 = 2 + nm 2 * 3 + (if nm 1 ≤ 50 then 0 else 4) := by
  show (2 + nm 2 * 3) + (if nm 1 ≤ 50 then 0 else 1) * 4 = _
  split <;> rfl
theorem sA_2 (nm : Nat → Int32) : sA nm s02 = 2 + nm 5 := rfl
theorem sA_3 (nm : Nat → Int32) : sA nm s03 = 1 + (if nm 0 ≤ 50 then 0 else 2) := by
  show 1 + (if nm 0 ≤ 50 then 0 else 1) * 2 = _
  split <;> rfl
/-- the reference's steps -/
def cA (c : Int32) : Int32 := if 0 ≤ c then (if c < 10000 then 1 else 2) else if c = -12 then 4 else if c = -3 then 3 else if c = -1 then 5 else if c = -2 then 6 else if c = -4 then 60 else if c = -5 then 61 else if c = -6 then 43 else if c = -7 then 45 else 42
def cW (c : Int32) : Int32 := if 0 ≤ c then (if c < 10000 then c else c - 10000) else 0
def mTx (k : Nat) (a40 a41 a42 : Nat → Int32) (e : Nat → List Int32) : Prop := ∀ q, q < 3 → dOk (e q) 0 1 ∧ hasAt (fun j => a40 (170 * k + j)) (tB e q) ((e q).map cA) ∧ hasAt (fun j => a41 (170 * k + j)) (tB e q) ((e q).map cW) ∧ a42 (3 * k + q) = nI (tB e q + (e q).length) ∧ tB e q + (e q).length ≤ 160
def mRu (s33 : Int32) (a40 a41 a42 : Nat → Int32) (e : Nat → List Int32) : Prop := ∃ k : Nat, k < 6 ∧ s33 = nI k ∧ (k = 0 → e = e03) ∧ (¬ k = 0 → mTx k a40 a41 a42 e)
def mOk (B : ae_B) (n : Nat) (s27 s29 s33 : Int32) (a31 a32 a33 a40 a41 a42 : Nat → Int32) : Prop := s27 = nI n ∧ n ≤ 10 ∧ s29 = B.2.2 ∧ a31 = B.2.1.1 ∧ a32 = B.2.1.2.1 ∧ a33 = B.2.1.2.2 ∧ bOk B n ∧ mRu s33 a40 a41 a42 B.1
theorem dOk_m {c : Int32} (h : cBi c) : ¬ 0 ≤ c := fun q => absurd (cBi_lt h).1 (Int32.not_lt.mpr q)
section L41
variable {P : ae_P} {σ : Nat → Int32} {α : Nat → Nat → Int32} {z : Int64} {t0 : ae_T} {ts : List ae_T}

theorem em_isPlank {n : Nat} {p : Int32} {zd : Nat} (hn : (σ 27) = nI n) (hn10 : n ≤ 10) : ae_Ev P (zd + 2) 112 [.ref 46, .int p] (ae_en σ α z t0 ts) (some (.int (bI (iP n p)))) (ae_en σ α z t0 ts) := by
  have h := ev_Model_isPlank (P := P) (σ := σ) (α := α) (z := z) (t0 := t0) (ts := ts) (p := p) (d := zd)
  rwa [show fIn p 0 ((σ 27) - 1) = bI (iP n p) from by
    rw [hn]
    unfold fIn
    obtain _ | m := n
    · split
      · exact bI_0 (fun q => q.1 ‹_›)
      · rw [if_pos (show nI 0 - 1 < p from Int32.lt_of_lt_of_le (b := 0) (by decide) (Int32.not_lt.mp ‹_›))]
        exact bI_0 (fun q => absurd q.2 (Nat.not_lt_zero _))
    · rw [nI_pred]
      split
      · exact bI_0 (fun q => q.1 ‹_›)
      · next h1 =>
        obtain ⟨j, hj, rfl⟩ := nI_of h1
        split
        · next h2 => exact bI_0 (fun q => by have := q.2; rw [nI_clamp hj] at this; rw [nI_ltI (by omega) hj] at h2; omega)
        · next h2 => exact bI_1 (iP_nI (by rw [nI_ltI (by omega) hj] at h2; omega) (by omega))] at h
theorem em_isGap {n : Nat} {p : Int32} {zd : Nat} (hn : (σ 27) = nI n) (hn10 : n ≤ 10) : ae_Ev P (zd + 2) 113 [.ref 46, .int p] (ae_en σ α z t0 ts) (some (.int (bI (iP (n - 1) p)))) (ae_en σ α z t0 ts) := by
  have h := ev_Model_isGap (P := P) (σ := σ) (α := α) (z := z) (t0 := t0) (ts := ts) (p := p) (d := zd)
  rwa [show fIn p 0 ((σ 27) - 2) = bI (iP (n - 1) p) from by
    rw [hn]
    unfold fIn
    obtain _ | _ | m := n
    · split
      · exact bI_0 (fun q => q.1 ‹_›)
      · rw [if_pos (show nI 0 - 2 < p from Int32.lt_of_lt_of_le (b := 0) (by decide) (Int32.not_lt.mp ‹_›))]
        exact bI_0 (fun q => absurd q.2 (Nat.not_lt_zero _))
    · split
      · exact bI_0 (fun q => q.1 ‹_›)
      · rw [if_pos (show nI (0 + 1) - 2 < p from Int32.lt_of_lt_of_le (b := 0) (by decide) (Int32.not_lt.mp ‹_›))]
        exact bI_0 (fun q => absurd q.2 (Nat.not_lt_zero _))
    · rw [show nI (m + 1 + 1) - 2 = nI m from pk_sub (a := m + 2) (b := 2) (by omega)]
      split
      · exact bI_0 (fun q => q.1 ‹_›)
      · next h1 =>
        obtain ⟨j, hj, rfl⟩ := nI_of h1
        split
        · next h2 => exact bI_0 (fun q => by have := q.2; rw [nI_clamp hj] at this; rw [nI_ltI (by omega) hj] at h2; omega)
        · next h2 => exact bI_1 (iP_nI (by rw [nI_ltI (by omega) hj] at h2; omega) (by omega))] at h
theorem em_two_5 {x y : Int32} {zd : Nat}  : ae_Ev P (zd + 1) 135 [.int 5, .int x, .int y] (ae_en σ α z t0 ts) (some (.int (oV (-1) x y))) (ae_en σ α z t0 ts) := by
  refine aw_evE (cd := cd_Model_twoOf) rfl rfl rfl ?_
  show aw_W _ _ _ _ (0, [some (.int 5), some (.int x), some (.int y)], []) (ae_en σ α z t0 ts)
  refine aw_go 2 rfl ⟨trivial, trivial, trivial⟩ ?_
  show aw_W _ _ _ _ (2, [some (.int 5), some (.int x), some (.int y)], []) (ae_en σ α z t0 ts)
  refine aw_go 2 rfl ⟨trivial, trivial, trivial⟩ ?_
  refine aw_br (c := ¬ x = 0) (fun h3 => ?_) (fun h3 => ?_)
  · skip
    show aw_W _ _ _ _ (6, [some (.int 5), some (.int x), some (.int y)], []) (ae_en σ α z t0 ts)
    refine aw_go 2 rfl ⟨trivial, trivial, trivial⟩ ?_
    refine aw_ret rfl rfl trivial ?_
    refine ⟨?_, rfl⟩
    simp [oV, ← Int32.not_le, h3]
    try rfl
  · skip
    have h3 := Classical.not_not.mp h3
    show aw_W _ _ _ _ (4, [some (.int 5), some (.int x), some (.int y)], []) (ae_en σ α z t0 ts)
    refine aw_go 2 rfl ⟨trivial, trivial, trivial⟩ ?_
    refine aw_br (c := y = 0) (fun h5 => ?_) (fun h5 => ?_)
    · skip
      show aw_W _ _ _ _ (8, [some (.int 5), some (.int x), some (.int y)], []) (ae_en σ α z t0 ts)
      refine aw_go 1 rfl ⟨trivial, trivial⟩ ?_
      refine aw_ret rfl rfl trivial ?_
      refine ⟨?_, rfl⟩
      simp [oV, ← Int32.not_le, h3, h5]
      try rfl
    · skip
      show aw_W _ _ _ _ (6, [some (.int 5), some (.int x), some (.int y)], []) (ae_en σ α z t0 ts)
      refine aw_go 2 rfl ⟨trivial, trivial, trivial⟩ ?_
      refine aw_ret rfl rfl trivial ?_
      refine ⟨?_, rfl⟩
      simp [oV, ← Int32.not_le, h3, h5]
      try rfl
theorem em_two_6 {x y : Int32} {zd : Nat}  : ae_Ev P (zd + 1) 135 [.int 6, .int x, .int y] (ae_en σ α z t0 ts) (some (.int (oV (-2) x y))) (ae_en σ α z t0 ts) := by
  refine aw_evE (cd := cd_Model_twoOf) rfl rfl rfl ?_
  show aw_W _ _ _ _ (0, [some (.int 6), some (.int x), some (.int y)], []) (ae_en σ α z t0 ts)
  refine aw_go 2 rfl ⟨trivial, trivial, trivial⟩ ?_
  show aw_W _ _ _ _ (10, [some (.int 6), some (.int x), some (.int y)], []) (ae_en σ α z t0 ts)
  refine aw_go 2 rfl ⟨trivial, trivial, trivial⟩ ?_
  refine aw_br (c := x = 0) (fun h11 => ?_) (fun h11 => ?_)
  · skip
    show aw_W _ _ _ _ (16, [some (.int 6), some (.int x), some (.int y)], []) (ae_en σ α z t0 ts)
    refine aw_go 1 rfl ⟨trivial, trivial⟩ ?_
    refine aw_ret rfl rfl trivial ?_
    refine ⟨?_, rfl⟩
    simp [oV, ← Int32.not_le, h11]
    try rfl
  · skip
    show aw_W _ _ _ _ (12, [some (.int 6), some (.int x), some (.int y)], []) (ae_en σ α z t0 ts)
    refine aw_go 2 rfl ⟨trivial, trivial, trivial⟩ ?_
    refine aw_br (c := y = 0) (fun h13 => ?_) (fun h13 => ?_)
    · skip
      show aw_W _ _ _ _ (16, [some (.int 6), some (.int x), some (.int y)], []) (ae_en σ α z t0 ts)
      refine aw_go 1 rfl ⟨trivial, trivial⟩ ?_
      refine aw_ret rfl rfl trivial ?_
      refine ⟨?_, rfl⟩
      simp [oV, ← Int32.not_le, h11, h13]
      try rfl
    · skip
      show aw_W _ _ _ _ (14, [some (.int 6), some (.int x), some (.int y)], []) (ae_en σ α z t0 ts)
      refine aw_go 2 rfl ⟨trivial, trivial, trivial⟩ ?_
      refine aw_ret rfl rfl trivial ?_
      refine ⟨?_, rfl⟩
      simp [oV, ← Int32.not_le, h11, h13]
      try rfl
theorem em_two_60 {x y : Int32} {zd : Nat}  : ae_Ev P (zd + 1) 135 [.int 60, .int x, .int y] (ae_en σ α z t0 ts) (some (.int (oV (-4) x y))) (ae_en σ α z t0 ts) := by
  refine aw_evE (cd := cd_Model_twoOf) rfl rfl rfl ?_
  show aw_W _ _ _ _ (0, [some (.int 60), some (.int x), some (.int y)], []) (ae_en σ α z t0 ts)
  refine aw_go 2 rfl ⟨trivial, trivial, trivial⟩ ?_
  show aw_W _ _ _ _ (18, [some (.int 60), some (.int x), some (.int y)], []) (ae_en σ α z t0 ts)
  refine aw_go 3 rfl ⟨trivial, trivial, trivial, trivial⟩ ?_
  refine aw_br (c := y ≤ x) (fun h20 => ?_) (fun h20 => ?_)
  · skip
    show aw_W _ _ _ _ (23, [some (.int 60), some (.int x), some (.int y)], []) (ae_en σ α z t0 ts)
    refine aw_go 1 rfl ⟨trivial, trivial⟩ ?_
    refine aw_ret rfl rfl trivial ?_
    refine ⟨?_, rfl⟩
    simp [oV, ← Int32.not_le, h20]
    try rfl
  · skip
    show aw_W _ _ _ _ (21, [some (.int 60), some (.int x), some (.int y)], []) (ae_en σ α z t0 ts)
    refine aw_go 2 rfl ⟨trivial, trivial, trivial⟩ ?_
    refine aw_ret rfl rfl trivial ?_
    refine ⟨?_, rfl⟩
    simp [oV, ← Int32.not_le, h20]
    try rfl
theorem em_two_61 {x y : Int32} {zd : Nat}  : ae_Ev P (zd + 1) 135 [.int 61, .int x, .int y] (ae_en σ α z t0 ts) (some (.int (oV (-5) x y))) (ae_en σ α z t0 ts) := by
  refine aw_evE (cd := cd_Model_twoOf) rfl rfl rfl ?_
  show aw_W _ _ _ _ (0, [some (.int 61), some (.int x), some (.int y)], []) (ae_en σ α z t0 ts)
  refine aw_go 2 rfl ⟨trivial, trivial, trivial⟩ ?_
  show aw_W _ _ _ _ (25, [some (.int 61), some (.int x), some (.int y)], []) (ae_en σ α z t0 ts)
  refine aw_go 3 rfl ⟨trivial, trivial, trivial, trivial⟩ ?_
  refine aw_br (c := ¬ x = y) (fun h27 => ?_) (fun h27 => ?_)
  · skip
    show aw_W _ _ _ _ (30, [some (.int 61), some (.int x), some (.int y)], []) (ae_en σ α z t0 ts)
    refine aw_go 1 rfl ⟨trivial, trivial⟩ ?_
    refine aw_ret rfl rfl trivial ?_
    refine ⟨?_, rfl⟩
    simp [oV, ← Int32.not_le, h27]
    try rfl
  · skip
    have h27 := Classical.not_not.mp h27
    show aw_W _ _ _ _ (28, [some (.int 61), some (.int x), some (.int y)], []) (ae_en σ α z t0 ts)
    refine aw_go 2 rfl ⟨trivial, trivial, trivial⟩ ?_
    refine aw_ret rfl rfl trivial ?_
    refine ⟨?_, rfl⟩
    simp [oV, ← Int32.not_le, h27]
    try rfl
theorem em_two_43 {x y : Int32} {zd : Nat}  : ae_Ev P (zd + 1) 135 [.int 43, .int x, .int y] (ae_en σ α z t0 ts) (some (.int (oV (-6) x y))) (ae_en σ α z t0 ts) := by
  refine aw_evE (cd := cd_Model_twoOf) rfl rfl rfl ?_
  show aw_W _ _ _ _ (0, [some (.int 43), some (.int x), some (.int y)], []) (ae_en σ α z t0 ts)
  refine aw_go 2 rfl ⟨trivial, trivial, trivial⟩ ?_
  show aw_W _ _ _ _ (32, [some (.int 43), some (.int x), some (.int y)], []) (ae_en σ α z t0 ts)
  refine aw_go 3 rfl ⟨trivial, trivial, trivial, trivial⟩ ?_
  show aw_W _ _ _ _ (35, [some (.int 43), some (.int x), some (.int y)], [.int (x + y)]) (ae_en σ α z t0 ts)
  refine aw_ret rfl rfl trivial ?_
  refine ⟨?_, rfl⟩
  simp [oV, ← Int32.not_le]
  try rfl
theorem em_two_45 {x y : Int32} {zd : Nat}  : ae_Ev P (zd + 1) 135 [.int 45, .int x, .int y] (ae_en σ α z t0 ts) (some (.int (oV (-7) x y))) (ae_en σ α z t0 ts) := by
  refine aw_evE (cd := cd_Model_twoOf) rfl rfl rfl ?_
  show aw_W _ _ _ _ (0, [some (.int 45), some (.int x), some (.int y)], []) (ae_en σ α z t0 ts)
  refine aw_go 2 rfl ⟨trivial, trivial, trivial⟩ ?_
  show aw_W _ _ _ _ (36, [some (.int 45), some (.int x), some (.int y)], []) (ae_en σ α z t0 ts)
  refine aw_go 3 rfl ⟨trivial, trivial, trivial, trivial⟩ ?_
  show aw_W _ _ _ _ (39, [some (.int 45), some (.int x), some (.int y)], [.int (x - y)]) (ae_en σ α z t0 ts)
  refine aw_ret rfl rfl trivial ?_
  refine ⟨?_, rfl⟩
  simp [oV, ← Int32.not_le]
  try rfl
theorem em_two_42 {x y : Int32} {zd : Nat}  : ae_Ev P (zd + 1) 135 [.int 42, .int x, .int y] (ae_en σ α z t0 ts) (some (.int (oV (-8) x y))) (ae_en σ α z t0 ts) := by
  refine aw_evE (cd := cd_Model_twoOf) rfl rfl rfl ?_
  show aw_W _ _ _ _ (0, [some (.int 42), some (.int x), some (.int y)], []) (ae_en σ α z t0 ts)
  refine aw_go 2 rfl ⟨trivial, trivial, trivial⟩ ?_
  show aw_W _ _ _ _ (40, [some (.int 42), some (.int x), some (.int y)], []) (ae_en σ α z t0 ts)
  refine aw_go 3 rfl ⟨trivial, trivial, trivial, trivial⟩ ?_
  show aw_W _ _ _ _ (43, [some (.int 42), some (.int x), some (.int y)], [.int (x * y)]) (ae_en σ α z t0 ts)
  refine aw_ret rfl rfl trivial ?_
  refine ⟨?_, rfl⟩
  simp [oV, ← Int32.not_le]
  try rfl
theorem em_twoOf {c x y : Int32} {zd : Nat} (h : cBi c) : ae_Ev P (zd + 1) 135 [.int (cA c), .int x, .int y] (ae_en σ α z t0 ts) (some (.int (oV c x y))) (ae_en σ α z t0 ts) := by
  rcases h with rfl | rfl | rfl | rfl | rfl | rfl | rfl
  · exact em_two_5
  · exact em_two_6
  · exact em_two_60
  · exact em_two_61
  · exact em_two_43
  · exact em_two_45
  · exact em_two_42
theorem ev_Model_growsOf {n : Nat} {B : ae_B} {p : Nat} {zd : Nat} (hM : mOk B n (σ 27) (σ 29) (σ 33) (α 31) (α 32) (α 33) (α 40) (α 41) (α 42)) (hw : wOk n (α 35)) (hp : p < n) : ae_Ev P (zd + 1) 138 [.ref 46, .int (nI p)] (ae_en σ α z t0 ts) (some (.int (gGr B (α 35) p))) (ae_en σ α z t0 ts) := by
  obtain ⟨hn, hn10, hs3, hk0, hk1, hk2, hbo, hru⟩ := id hM
  obtain ⟨-, pl, nb, hpl, hnb, epl, enb⟩ := gGr_m hbo hw hp
  refine aw_evE (cd := cd_Model_growsOf) rfl rfl rfl ?_
  show aw_W _ _ _ _ (0, [some (.ref 46), some (.int (nI p)), none], []) (ae_en σ α z t0 ts)
  refine aw_go 17 rfl ⟨trivial, trivial, trivial, (cI_in (a := p) rfl (by omega) (by decide)), trivial, trivial, trivial, (cI_in (a := p) rfl (by omega) (by decide)), trivial, trivial, (by decide), trivial, trivial, trivial, trivial, (cI_in (a := p) rfl (by omega) (by decide)), trivial, trivial⟩ ?_
  show aw_W _ _ _ _ (ae_swt (α 31 (nI p).toNatClampNeg) 60 [(1, 17), (2, 35), (3, 26), (4, 39), (5, 54)], [some (.ref 46), some (.int (nI p)), some (.int (((α 32 (nI p).toNatClampNeg) * (α 35 (nI p).toNatClampNeg)) / 2000))], []) (ae_en σ α z t0 ts)
  rw [show (nI p).toNatClampNeg = p from cI_cl (a := p) rfl (by omega)]
  refine aw_sw (x := α 31 p) (fun h16_1 => ?_) (fun h16_1 => ?_)
  · skip
    show aw_W _ _ _ _ (17, [some (.ref 46), some (.int (nI p)), some (.int (((α 32 p) * (α 35 p)) / 2000))], []) (ae_en σ α z t0 ts)
    refine aw_go 8 rfl ⟨trivial, trivial, trivial, trivial, (cI_in (a := p) rfl (by omega) (by decide)), trivial, (by decide), trivial, trivial⟩ ?_
    show aw_W _ _ _ _ (25, [some (.ref 46), some (.int (nI p)), some (.int (((α 32 p) * (α 35 p)) / 2000))], [.int ((((α 32 p) * (α 35 p)) / 2000) + ((α 33 (nI p).toNatClampNeg) / 3))]) (ae_en σ α z t0 ts)
    rw [show (nI p).toNatClampNeg = p from cI_cl (a := p) rfl (by omega)]
    refine aw_ret rfl rfl trivial ?_
    refine ⟨?_, rfl⟩
    rw [gGr, fGr, ← hk0, ← hk1, ← hk2, if_pos h16_1]
  refine aw_sw (x := α 31 p) (fun h16_2 => ?_) (fun h16_2 => ?_)
  · skip
    show aw_W _ _ _ _ (35, [some (.ref 46), some (.int (nI p)), some (.int (((α 32 p) * (α 35 p)) / 2000))], []) (ae_en σ α z t0 ts)
    refine aw_go 3 rfl ⟨trivial, trivial, (by decide), trivial⟩ ?_
    show aw_W _ _ _ _ (38, [some (.ref 46), some (.int (nI p)), some (.int (((α 32 p) * (α 35 p)) / 2000))], [.int ((((α 32 p) * (α 35 p)) / 2000) / 2)]) (ae_en σ α z t0 ts)
    refine aw_ret rfl rfl trivial ?_
    refine ⟨?_, rfl⟩
    rw [gGr, fGr, ← hk0, ← hk1, ← hk2, if_neg h16_1, if_pos h16_2]
  refine aw_sw (x := α 31 p) (fun h16_3 => ?_) (fun h16_3 => ?_)
  · skip
    show aw_W _ _ _ _ (26, [some (.ref 46), some (.int (nI p)), some (.int (((α 32 p) * (α 35 p)) / 2000))], []) (ae_en σ α z t0 ts)
    refine aw_go 8 rfl ⟨trivial, trivial, trivial, trivial, (cI_in (a := p) rfl (by omega) (by decide)), trivial, (by decide), trivial, trivial⟩ ?_
    show aw_W _ _ _ _ (34, [some (.ref 46), some (.int (nI p)), some (.int (((α 32 p) * (α 35 p)) / 2000))], [.int ((((α 32 p) * (α 35 p)) / 2000) + ((α 33 (nI p).toNatClampNeg) / 3))]) (ae_en σ α z t0 ts)
    rw [show (nI p).toNatClampNeg = p from cI_cl (a := p) rfl (by omega)]
    refine aw_ret rfl rfl trivial ?_
    refine ⟨?_, rfl⟩
    rw [gGr, fGr, ← hk0, ← hk1, ← hk2, if_neg h16_1, if_neg h16_2, if_pos h16_3]
  refine aw_sw (x := α 31 p) (fun h16_4 => ?_) (fun h16_4 => ?_)
  · skip
    show aw_W _ _ _ _ (39, [some (.ref 46), some (.int (nI p)), some (.int (((α 32 p) * (α 35 p)) / 2000))], []) (ae_en σ α z t0 ts)
    refine aw_go 6 rfl ⟨trivial, trivial, trivial, trivial, (cI_in (a := p) rfl (by omega) (by decide)), trivial, trivial⟩ ?_
    show aw_W _ _ _ _ (if (((α 32 p) * (α 35 p)) / 2000) ≤ (α 33 (nI p).toNatClampNeg) then 52 else 45, [some (.ref 46), some (.int (nI p)), some (.int (((α 32 p) * (α 35 p)) / 2000))], []) (ae_en σ α z t0 ts)
    rw [show (nI p).toNatClampNeg = p from cI_cl (a := p) rfl (by omega)]
    refine aw_br (c := (((α 32 p) * (α 35 p)) / 2000) ≤ (α 33 p)) (fun h44 => ?_) (fun h44 => ?_)
    · skip
      show aw_W _ _ _ _ (52, [some (.ref 46), some (.int (nI p)), some (.int (((α 32 p) * (α 35 p)) / 2000))], []) (ae_en σ α z t0 ts)
      refine aw_go 1 rfl ⟨trivial, trivial⟩ ?_
      refine aw_ret rfl rfl trivial ?_
      refine ⟨?_, rfl⟩
      rw [gGr, fGr, ← hk0, ← hk1, ← hk2, if_neg h16_1, if_neg h16_2, if_neg h16_3, if_pos h16_4]
      have e := (fMx_sub (a := pl) (b := nb) (by omega) (by omega)).1
      rw [← epl, ← enb, ← hk1, ← hk2] at e
      rw [e, if_neg (Int32.not_lt.mpr h44)]
    · skip
      show aw_W _ _ _ _ (45, [some (.ref 46), some (.int (nI p)), some (.int (((α 32 p) * (α 35 p)) / 2000))], []) (ae_en σ α z t0 ts)
      refine aw_go 7 rfl ⟨trivial, trivial, trivial, trivial, (cI_in (a := p) rfl (by omega) (by decide)), trivial, trivial, trivial⟩ ?_
      show aw_W _ _ _ _ (53, [some (.ref 46), some (.int (nI p)), some (.int (((α 32 p) * (α 35 p)) / 2000))], [.int ((((α 32 p) * (α 35 p)) / 2000) - (α 33 (nI p).toNatClampNeg))]) (ae_en σ α z t0 ts)
      rw [show (nI p).toNatClampNeg = p from cI_cl (a := p) rfl (by omega)]
      refine aw_ret rfl rfl trivial ?_
      refine ⟨?_, rfl⟩
      rw [gGr, fGr, ← hk0, ← hk1, ← hk2, if_neg h16_1, if_neg h16_2, if_neg h16_3, if_pos h16_4]
      have e := (fMx_sub (a := pl) (b := nb) (by omega) (by omega)).1
      rw [← epl, ← enb, ← hk1, ← hk2] at e
      rw [e, if_pos (Int32.not_le.mp h44)]
  refine aw_sw (x := α 31 p) (fun h16_5 => ?_) (fun h16_5 => ?_)
  · skip
    show aw_W _ _ _ _ (54, [some (.ref 46), some (.int (nI p)), some (.int (((α 32 p) * (α 35 p)) / 2000))], []) (ae_en σ α z t0 ts)
    refine aw_go 5 rfl ⟨trivial, trivial, (by decide), trivial, trivial, trivial⟩ ?_
    show aw_W _ _ _ _ (59, [some (.ref 46), some (.int (nI p)), some (.int (((α 32 p) * (α 35 p)) / 2000))], [.int (((((α 32 p) * (α 35 p)) / 2000) / 2) + 1)]) (ae_en σ α z t0 ts)
    refine aw_ret rfl rfl trivial ?_
    refine ⟨?_, rfl⟩
    rw [gGr, fGr, ← hk0, ← hk1, ← hk2, if_neg h16_1, if_neg h16_2, if_neg h16_3, if_neg h16_4, if_pos h16_5]
  show aw_W _ _ _ _ (60, [some (.ref 46), some (.int (nI p)), some (.int (((α 32 p) * (α 35 p)) / 2000))], []) (ae_en σ α z t0 ts)
  refine aw_go 1 rfl ⟨trivial, trivial⟩ ?_
  refine aw_ret rfl rfl trivial ?_
  refine ⟨?_, rfl⟩
  rw [gGr, fGr, ← hk0, ← hk1, ← hk2, if_neg h16_1, if_neg h16_2, if_neg h16_3, if_neg h16_4, if_neg h16_5]
theorem ev_Model_bearsOf {n : Nat} {B : ae_B} {p : Nat} {zd : Nat} (hM : mOk B n (σ 27) (σ 29) (σ 33) (α 31) (α 32) (α 33) (α 40) (α 41) (α 42)) (hp : p < n) : ae_Ev P (zd + 1) 140 [.ref 46, .int (nI p)] (ae_en σ α z t0 ts) (some (.int (gBe B p))) (ae_en σ α z t0 ts) := by
  obtain ⟨hn, hn10, hs3, hk0, hk1, hk2, hbo, hru⟩ := id hM
  refine aw_evE (cd := cd_Model_bearsOf) rfl rfl rfl ?_
  show aw_W _ _ _ _ (0, [some (.ref 46), some (.int (nI p)), none], []) (ae_en σ α z t0 ts)
  refine aw_go 12 rfl ⟨trivial, trivial, trivial, trivial, (cI_in (a := p) rfl (by omega) (by decide)), trivial, trivial, trivial, trivial, trivial, (cI_in (a := p) rfl (by omega) (by decide)), trivial, trivial⟩ ?_
  show aw_W _ _ _ _ (ae_swt (α 31 (nI p).toNatClampNeg) 32 [(1, 12), (2, 20), (3, 16), (4, 24), (5, 26)], [some (.ref 46), some (.int (nI p)), some (.int (10 + (α 33 (nI p).toNatClampNeg)))], []) (ae_en σ α z t0 ts)
  rw [show (nI p).toNatClampNeg = p from cI_cl (a := p) rfl (by omega)]
  refine aw_sw (x := α 31 p) (fun h11_1 => ?_) (fun h11_1 => ?_)
  · skip
    show aw_W _ _ _ _ (12, [some (.ref 46), some (.int (nI p)), some (.int (10 + (α 33 p)))], []) (ae_en σ α z t0 ts)
    refine aw_go 3 rfl ⟨trivial, trivial, trivial, trivial⟩ ?_
    show aw_W _ _ _ _ (15, [some (.ref 46), some (.int (nI p)), some (.int (10 + (α 33 p)))], [.int ((10 + (α 33 p)) - 5)]) (ae_en σ α z t0 ts)
    refine aw_ret rfl rfl trivial ?_
    refine ⟨?_, rfl⟩
    rw [gBe, fBe, ← hk0, ← hk2, if_pos h11_1]
  refine aw_sw (x := α 31 p) (fun h11_2 => ?_) (fun h11_2 => ?_)
  · skip
    show aw_W _ _ _ _ (20, [some (.ref 46), some (.int (nI p)), some (.int (10 + (α 33 p)))], []) (ae_en σ α z t0 ts)
    refine aw_go 3 rfl ⟨trivial, trivial, trivial, trivial⟩ ?_
    show aw_W _ _ _ _ (23, [some (.ref 46), some (.int (nI p)), some (.int (10 + (α 33 p)))], [.int (2 * (10 + (α 33 p)))]) (ae_en σ α z t0 ts)
    refine aw_ret rfl rfl trivial ?_
    refine ⟨?_, rfl⟩
    rw [gBe, fBe, ← hk0, ← hk2, if_neg h11_1, if_pos h11_2]
  refine aw_sw (x := α 31 p) (fun h11_3 => ?_) (fun h11_3 => ?_)
  · skip
    show aw_W _ _ _ _ (16, [some (.ref 46), some (.int (nI p)), some (.int (10 + (α 33 p)))], []) (ae_en σ α z t0 ts)
    refine aw_go 3 rfl ⟨trivial, trivial, trivial, trivial⟩ ?_
    show aw_W _ _ _ _ (19, [some (.ref 46), some (.int (nI p)), some (.int (10 + (α 33 p)))], [.int ((10 + (α 33 p)) - 5)]) (ae_en σ α z t0 ts)
    refine aw_ret rfl rfl trivial ?_
    refine ⟨?_, rfl⟩
    rw [gBe, fBe, ← hk0, ← hk2, if_neg h11_1, if_neg h11_2, if_pos h11_3]
  refine aw_sw (x := α 31 p) (fun h11_4 => ?_) (fun h11_4 => ?_)
  · skip
    show aw_W _ _ _ _ (24, [some (.ref 46), some (.int (nI p)), some (.int (10 + (α 33 p)))], []) (ae_en σ α z t0 ts)
    refine aw_go 1 rfl ⟨trivial, trivial⟩ ?_
    refine aw_ret rfl rfl trivial ?_
    refine ⟨?_, rfl⟩
    rw [gBe, fBe, ← hk0, ← hk2, if_neg h11_1, if_neg h11_2, if_neg h11_3, if_pos h11_4]
  refine aw_sw (x := α 31 p) (fun h11_5 => ?_) (fun h11_5 => ?_)
  · skip
    show aw_W _ _ _ _ (26, [some (.ref 46), some (.int (nI p)), some (.int (10 + (α 33 p)))], []) (ae_en σ α z t0 ts)
    refine aw_go 5 rfl ⟨trivial, trivial, trivial, trivial, trivial, trivial⟩ ?_
    show aw_W _ _ _ _ (31, [some (.ref 46), some (.int (nI p)), some (.int (10 + (α 33 p)))], [.int ((2 * (10 + (α 33 p))) + 5)]) (ae_en σ α z t0 ts)
    refine aw_ret rfl rfl trivial ?_
    refine ⟨?_, rfl⟩
    rw [gBe, fBe, ← hk0, ← hk2, if_neg h11_1, if_neg h11_2, if_neg h11_3, if_neg h11_4, if_pos h11_5]
  show aw_W _ _ _ _ (32, [some (.ref 46), some (.int (nI p)), some (.int (10 + (α 33 p)))], []) (ae_en σ α z t0 ts)
  refine aw_go 1 rfl ⟨trivial, trivial⟩ ?_
  refine aw_ret rfl rfl trivial ?_
  refine ⟨?_, rfl⟩
  rw [gBe, fBe, ← hk0, ← hk2, if_neg h11_1, if_neg h11_2, if_neg h11_3, if_neg h11_4, if_neg h11_5]
theorem ev_Model_leftOf {n : Nat} {B : ae_B} {g : Nat} {zd : Nat} (hM : mOk B n (σ 27) (σ 29) (σ 33) (α 31) (α 32) (α 33) (α 40) (α 41) (α 42)) (hw : wOk n (α 35)) (hg : g + 1 < n) : ae_Ev P (zd + 2) 142 [.ref 46, .int (nI g)] (ae_en σ α z t0 ts) (some (.int (gLf B (α 35) g ((α 36) g) ((α 37) g)))) (ae_en σ α z t0 ts) := by
  obtain ⟨hn, hn10, hs3, hk0, hk1, hk2, hbo, hru⟩ := id hM
  refine aw_evE (cd := cd_Model_leftOf) rfl rfl rfl ?_
  show aw_W _ _ _ _ (0, [some (.ref 46), some (.int (nI g))], []) (ae_en σ α z t0 ts)
  refine aw_go 6 rfl ⟨trivial, trivial, trivial, (cI_in (a := g) rfl (by omega) (by decide)), trivial, trivial, trivial⟩ ?_
  show aw_W _ _ _ _ (6, [some (.ref 46), some (.int (nI g))], [.int (nI g), .ref 46, .int (α 36 (nI g).toNatClampNeg)]) (ae_en σ α z t0 ts)
  rw [show (nI g).toNatClampNeg = g from cI_cl (a := g) rfl (by omega)]
  refine aw_callE rfl rfl (ev_Model_growsOf (p := g) hM hw (by omega)) ?_
  show aw_W _ _ _ _ (7, [some (.ref 46), some (.int (nI g))], [.int (gGr B (α 35) g), .int (α 36 g)]) (ae_en σ α z t0 ts)
  refine aw_go 4 rfl ⟨trivial, trivial, trivial, trivial, trivial⟩ ?_
  show aw_W _ _ _ _ (11, [some (.ref 46), some (.int (nI g))], [.int ((nI g) + 1), .ref 46, .int (gGr B (α 35) g), .int (α 36 g)]) (ae_en σ α z t0 ts)
  rw [show (nI g) + 1 = nI (g + 1) from (cI_add (a := g) (b := 1) rfl rfl)]
  refine aw_callE rfl rfl (ev_Model_growsOf (p := (g + 1)) hM hw hg) ?_
  show aw_W _ _ _ _ (12, [some (.ref 46), some (.int (nI g))], [.int (gGr B (α 35) (g + 1)), .int (gGr B (α 35) g), .int (α 36 g)]) (ae_en σ α z t0 ts)
  refine aw_go 9 rfl ⟨trivial, trivial, (by decide), trivial, trivial, trivial, trivial, (cI_in (a := g) rfl (by omega) (by decide)), trivial, trivial⟩ ?_
  show aw_W _ _ _ _ (21, [some (.ref 46), some (.int (nI g))], [.int (((α 36 g) - (((gGr B (α 35) g) + (gGr B (α 35) (g + 1))) / 2)) - (α 37 (nI g).toNatClampNeg))]) (ae_en σ α z t0 ts)
  rw [show (nI g).toNatClampNeg = g from cI_cl (a := g) rfl (by omega)]
  refine aw_ret rfl rfl trivial ?_
  refine ⟨?_, rfl⟩
  rfl
theorem ev_Model_openOf {n : Nat} {B : ae_B} {g : Nat} {zd : Nat} (hM : mOk B n (σ 27) (σ 29) (σ 33) (α 31) (α 32) (α 33) (α 40) (α 41) (α 42)) (hw : wOk n (α 35)) (hg : g + 1 < n) : ae_Ev P (zd + 3) 143 [.ref 46, .int (nI g)] (ae_en σ α z t0 ts) (some (.int (rOp B (α 35) (α 36) (α 37) g))) (ae_en σ α z t0 ts) := by
  refine aw_evE (cd := cd_Model_openOf) rfl rfl rfl ?_
  show aw_W _ _ _ _ (0, [some (.ref 46), some (.int (nI g))], []) (ae_en σ α z t0 ts)
  refine aw_go 2 rfl ⟨trivial, trivial, trivial⟩ ?_
  refine aw_callE rfl rfl (ev_Model_leftOf (g := g) hM hw hg) ?_
  show aw_W _ _ _ _ (3, [some (.ref 46), some (.int (nI g))], [.int (gLf B (α 35) g ((α 36) g) ((α 37) g))]) (ae_en σ α z t0 ts)
  refine aw_go 1 rfl ⟨trivial, trivial⟩ ?_
  refine aw_br (c := (gLf B (α 35) g ((α 36) g) ((α 37) g)) ≤ 0) (fun h3 => ?_) (fun h3 => ?_)
  · skip
    show aw_W _ _ _ _ (8, [some (.ref 46), some (.int (nI g))], []) (ae_en σ α z t0 ts)
    refine aw_go 1 rfl ⟨trivial, trivial⟩ ?_
    refine aw_ret rfl rfl trivial ?_
    refine ⟨?_, rfl⟩
    rw [rOp, fMx, if_neg (Int32.not_lt.mpr h3)]
  · skip
    show aw_W _ _ _ _ (4, [some (.ref 46), some (.int (nI g))], []) (ae_en σ α z t0 ts)
    refine aw_go 2 rfl ⟨trivial, trivial, trivial⟩ ?_
    refine aw_callE rfl rfl (ev_Model_leftOf (g := g) hM hw hg) ?_
    show aw_W _ _ _ _ (7, [some (.ref 46), some (.int (nI g))], [.int (gLf B (α 35) g ((α 36) g) ((α 37) g))]) (ae_en σ α z t0 ts)
    refine aw_go 1 rfl ⟨trivial, trivial⟩ ?_
    refine aw_ret rfl rfl trivial ?_
    refine ⟨?_, rfl⟩
    rw [rOp, fMx, if_pos (Int32.not_le.mp h3)]
theorem lp_mNails {zd : Nat} {n : Nat} (hn : (σ 27) = nI n) (hn10 : n ≤ 10) (k : Nat) (hk : k ≤ n) : aw_W P (zd) cd_Model_allNails (fun r H => r = some (.int (sumF (α 34) n)) ∧ H = (ae_en σ α z t0 ts)) (4, [some (.ref 46), some (.int (sumF (α 34) k)), some (.int (nI k))], []) (ae_en σ α z t0 ts) := by
  refine aw_go 4 rfl ⟨trivial, trivial, trivial, trivial, trivial⟩ ?_
  show aw_W _ _ _ _ (if (σ 27) ≤ (nI k) then 17 else 8, [some (.ref 46), some (.int (sumF (α 34) k)), some (.int (nI k))], []) (ae_en σ α z t0 ts)
  refine aw_br (c := (σ 27) ≤ (nI k)) (fun h7 => ?_) (fun h7 => ?_)
  · skip
    have h7 := cI_leT (a := n) (b := k) hn rfl (by omega) (by omega) h7
    show aw_W _ _ _ _ (17, [some (.ref 46), some (.int (sumF (α 34) k)), some (.int (nI k))], []) (ae_en σ α z t0 ts)
    have e8 : k = n := by omega
    refine aw_go 1 rfl ⟨trivial, trivial⟩ ?_
    refine aw_ret rfl rfl trivial ?_
    rw [e8]
    exact ⟨rfl, rfl⟩
  · skip
    have h7 := cI_leF (a := n) (b := k) hn rfl (by omega) (by omega) h7
    show aw_W _ _ _ _ (8, [some (.ref 46), some (.int (sumF (α 34) k)), some (.int (nI k))], []) (ae_en σ α z t0 ts)
    refine aw_go 9 rfl ⟨trivial, trivial, trivial, trivial, (cI_in (a := k) rfl (by omega) (by decide)), trivial, trivial, trivial, trivial, trivial⟩ ?_
    show aw_W _ _ _ _ (4, [some (.ref 46), some (.int ((sumF (α 34) k) + (α 34 (nI k).toNatClampNeg))), some (.int ((nI k) + 1))], []) (ae_en σ α z t0 ts)
    rw [show (nI k).toNatClampNeg = k from cI_cl (a := k) rfl (by omega)]
    rw [show (nI k) + 1 = nI (k + 1) from (cI_add (a := k) (b := 1) rfl rfl)]
    exact lp_mNails hn hn10 (k + 1) (by omega)
termination_by n - k
decreasing_by all_goals omega
theorem ev_Model_allNails {n : Nat} {zd : Nat} (hn : (σ 27) = nI n) (hn10 : n ≤ 10) : ae_Ev P (zd + 1) 146 [.ref 46] (ae_en σ α z t0 ts) (some (.int (sumF (α 34) n))) (ae_en σ α z t0 ts) := by
  refine aw_evE (cd := cd_Model_allNails) rfl rfl rfl ?_
  show aw_W _ _ _ _ (0, [some (.ref 46), none, none], []) (ae_en σ α z t0 ts)
  refine aw_go 4 rfl ⟨trivial, trivial, trivial, trivial, trivial⟩ ?_
  exact lp_mNails hn hn10 0 (Nat.zero_le _)
theorem lp_mFast {zd : Nat} {n : Nat} (hn : (σ 27) = nI n) (hn10 : n ≤ 10) (k : Nat) (hk : k ≤ n - 1) : aw_W P (zd) cd_Model_fastMany (fun r H => r = some (.int (sumF (α 38) (n - 1))) ∧ H = (ae_en σ α z t0 ts)) (4, [some (.ref 46), some (.int (sumF (α 38) k)), some (.int (nI k))], []) (ae_en σ α z t0 ts) := by
  refine aw_go 6 rfl ⟨trivial, trivial, trivial, trivial, trivial, trivial, trivial⟩ ?_
  show aw_W _ _ _ _ (if (σ 27) ≤ ((nI k) + 1) then 19 else 10, [some (.ref 46), some (.int (sumF (α 38) k)), some (.int (nI k))], []) (ae_en σ α z t0 ts)
  refine aw_br (c := (σ 27) ≤ ((nI k) + 1)) (fun h9 => ?_) (fun h9 => ?_)
  · skip
    have h9 := cI_leT (a := n) (b := k + 1) hn (cI_add (a := k) (b := 1) rfl rfl) (by omega) (by omega) h9
    show aw_W _ _ _ _ (19, [some (.ref 46), some (.int (sumF (α 38) k)), some (.int (nI k))], []) (ae_en σ α z t0 ts)
    have e8 : k = n - 1 := by omega
    refine aw_go 1 rfl ⟨trivial, trivial⟩ ?_
    refine aw_ret rfl rfl trivial ?_
    rw [e8]
    exact ⟨rfl, rfl⟩
  · skip
    have h9 := cI_leF (a := n) (b := k + 1) hn (cI_add (a := k) (b := 1) rfl rfl) (by omega) (by omega) h9
    show aw_W _ _ _ _ (10, [some (.ref 46), some (.int (sumF (α 38) k)), some (.int (nI k))], []) (ae_en σ α z t0 ts)
    refine aw_go 9 rfl ⟨trivial, trivial, trivial, trivial, (cI_in (a := k) rfl (by omega) (by decide)), trivial, trivial, trivial, trivial, trivial⟩ ?_
    show aw_W _ _ _ _ (4, [some (.ref 46), some (.int ((sumF (α 38) k) + (α 38 (nI k).toNatClampNeg))), some (.int ((nI k) + 1))], []) (ae_en σ α z t0 ts)
    rw [show (nI k).toNatClampNeg = k from cI_cl (a := k) rfl (by omega)]
    rw [show (nI k) + 1 = nI (k + 1) from (cI_add (a := k) (b := 1) rfl rfl)]
    exact lp_mFast hn hn10 (k + 1) (by omega)
termination_by n - k
decreasing_by all_goals omega
theorem ev_Model_fastMany {n : Nat} {zd : Nat} (hn : (σ 27) = nI n) (hn10 : n ≤ 10) : ae_Ev P (zd + 1) 170 [.ref 46] (ae_en σ α z t0 ts) (some (.int (sumF (α 38) (n - 1)))) (ae_en σ α z t0 ts) := by
  refine aw_evE (cd := cd_Model_fastMany) rfl rfl rfl ?_
  show aw_W _ _ _ _ (0, [some (.ref 46), none, none], []) (ae_en σ α z t0 ts)
  refine aw_go 4 rfl ⟨trivial, trivial, trivial, trivial, trivial⟩ ?_
  exact lp_mFast hn hn10 0 (Nat.zero_le _)
theorem lp_mOpen {zd : Nat} {n : Nat} {B : ae_B} (hM : mOk B n (σ 27) (σ 29) (σ 33) (α 31) (α 32) (α 33) (α 40) (α 41) (α 42)) (hw : wOk n (α 35)) (hn : (σ 27) = nI n) (hn10 : n ≤ 10) (k : Nat) (hk : k ≤ n - 1) : aw_W P (zd + 3) cd_Model_openMany (fun r H => r = some (.int (rON B (α 35) (α 36) (α 37) (n - 1))) ∧ H = (ae_en σ α z t0 ts)) (4, [some (.ref 46), some (.int (rON B (α 35) (α 36) (α 37) k)), some (.int (nI k))], []) (ae_en σ α z t0 ts) := by
  refine aw_go 6 rfl ⟨trivial, trivial, trivial, trivial, trivial, trivial, trivial⟩ ?_
  show aw_W _ _ _ _ (if (σ 27) ≤ ((nI k) + 1) then 22 else 10, [some (.ref 46), some (.int (rON B (α 35) (α 36) (α 37) k)), some (.int (nI k))], []) (ae_en σ α z t0 ts)
  refine aw_br (c := (σ 27) ≤ ((nI k) + 1)) (fun h9 => ?_) (fun h9 => ?_)
  · skip
    have h9 := cI_leT (a := n) (b := k + 1) hn (cI_add (a := k) (b := 1) rfl rfl) (by omega) (by omega) h9
    show aw_W _ _ _ _ (22, [some (.ref 46), some (.int (rON B (α 35) (α 36) (α 37) k)), some (.int (nI k))], []) (ae_en σ α z t0 ts)
    have e8 : k = n - 1 := by omega
    refine aw_go 1 rfl ⟨trivial, trivial⟩ ?_
    refine aw_ret rfl rfl trivial ?_
    rw [e8]
    exact ⟨rfl, rfl⟩
  · skip
    have h9 := cI_leF (a := n) (b := k + 1) hn (cI_add (a := k) (b := 1) rfl rfl) (by omega) (by omega) h9
    show aw_W _ _ _ _ (10, [some (.ref 46), some (.int (rON B (α 35) (α 36) (α 37) k)), some (.int (nI k))], []) (ae_en σ α z t0 ts)
    refine aw_go 3 rfl ⟨trivial, trivial, trivial, trivial⟩ ?_
    refine aw_callE rfl rfl (ev_Model_openOf (g := k) hM hw (by omega)) ?_
    show aw_W _ _ _ _ (14, [some (.ref 46), some (.int (rON B (α 35) (α 36) (α 37) k)), some (.int (nI k))], [.int (rOp B (α 35) (α 36) (α 37) k), .int (rON B (α 35) (α 36) (α 37) k)]) (ae_en σ α z t0 ts)
    refine aw_go 1 rfl ⟨trivial, trivial⟩ ?_
    refine aw_br (c := (rOp B (α 35) (α 36) (α 37) k) ≤ 0) (fun h14 => ?_) (fun h14 => ?_)
    · skip
      show aw_W _ _ _ _ (17, [some (.ref 46), some (.int (rON B (α 35) (α 36) (α 37) k)), some (.int (nI k))], [.int (rON B (α 35) (α 36) (α 37) k)]) (ae_en σ α z t0 ts)
      refine aw_go 5 rfl ⟨trivial, trivial, trivial, trivial, trivial, trivial⟩ ?_
      show aw_W _ _ _ _ (4, [some (.ref 46), some (.int ((rON B (α 35) (α 36) (α 37) k) + 0)), some (.int ((nI k) + 1))], []) (ae_en σ α z t0 ts)
      rw [show (nI k) + 1 = nI (k + 1) from (cI_add (a := k) (b := 1) rfl rfl)]
      rw [show (rON B (α 35) (α 36) (α 37) k) + 0 = rON B (α 35) (α 36) (α 37) (k + 1) from congrArg (fun q => rON B (α 35) (α 36) (α 37) k + q) (bI_0 (Int32.not_lt.mpr h14))]
      exact lp_mOpen hM hw hn hn10 (k + 1) (by omega)
    · skip
      show aw_W _ _ _ _ (15, [some (.ref 46), some (.int (rON B (α 35) (α 36) (α 37) k)), some (.int (nI k))], [.int (rON B (α 35) (α 36) (α 37) k)]) (ae_en σ α z t0 ts)
      refine aw_go 6 rfl ⟨trivial, trivial, trivial, trivial, trivial, trivial, trivial⟩ ?_
      show aw_W _ _ _ _ (4, [some (.ref 46), some (.int ((rON B (α 35) (α 36) (α 37) k) + 1)), some (.int ((nI k) + 1))], []) (ae_en σ α z t0 ts)
      rw [show (nI k) + 1 = nI (k + 1) from (cI_add (a := k) (b := 1) rfl rfl)]
      rw [show (rON B (α 35) (α 36) (α 37) k) + 1 = rON B (α 35) (α 36) (α 37) (k + 1) from congrArg (fun q => rON B (α 35) (α 36) (α 37) k + q) (bI_1 (Int32.not_le.mp h14))]
      exact lp_mOpen hM hw hn hn10 (k + 1) (by omega)
termination_by n - k
decreasing_by all_goals omega
theorem ev_Model_openMany {n : Nat} {B : ae_B} {zd : Nat} (hM : mOk B n (σ 27) (σ 29) (σ 33) (α 31) (α 32) (α 33) (α 40) (α 41) (α 42)) (hw : wOk n (α 35)) : ae_Ev P (zd + 4) 159 [.ref 46] (ae_en σ α z t0 ts) (some (.int (rON B (α 35) (α 36) (α 37) (n - 1)))) (ae_en σ α z t0 ts) := by
  obtain ⟨hn, hn10, hs3, hk0, hk1, hk2, hbo, hru⟩ := id hM
  refine aw_evE (cd := cd_Model_openMany) rfl rfl rfl ?_
  show aw_W _ _ _ _ (0, [some (.ref 46), none, none], []) (ae_en σ α z t0 ts)
  refine aw_go 4 rfl ⟨trivial, trivial, trivial, trivial, trivial⟩ ?_
  exact lp_mOpen hM hw hn hn10 0 (Nat.zero_le _)
theorem ev_Model_dayOn {x : Nat} {zd : Nat} (hx : (σ 28) = nI x) (hx9 : x ≤ 9999) : aw_X P (zd + 1) 151 [.ref 46] (ae_en σ α z t0 ts) (fun r H => r = none ∧ H = (ae_en (au σ [(28, fMn 9999 ((σ 28) + 1))]) α z t0 ts)) := by
  refine aw_ev (cd := cd_Model_dayOn) rfl rfl rfl ?_
  show aw_W _ _ _ _ (0, [some (.ref 46)], []) (ae_en σ α z t0 ts)
  refine aw_go 4 rfl ⟨trivial, trivial, trivial, trivial, trivial⟩ ?_
  show aw_W _ _ _ _ (if (9999 : Int32) ≤ (σ 28) then 10 else 4, [some (.ref 46)], []) (ae_en σ α z t0 ts)
  refine aw_br (c := (9999 : Int32) ≤ (σ 28)) (fun h3 => ?_) (fun h3 => ?_)
  · skip
    have h3 := cI_leT (a := 9999) (b := x) rfl hx (by omega) (by omega) h3
    show aw_W _ _ _ _ (10, [some (.ref 46)], []) (ae_en σ α z t0 ts)
    refine aw_ret rfl rfl trivial ?_
    refine ⟨rfl, ?_⟩
    rw [hx, ← nI_succ]
    rw [show fMn 9999 (nI (x + 1)) = nI x from by rw [fMn, if_neg (show ¬ nI (x + 1) < 9999 from nI_nlt (b := 9999) (by omega) (by omega))]; exact congrArg nI (by omega : 9999 = x)]
    show _ = ae_en (au σ [(28, nI x)]) α z t0 ts
    rw [← hx]
    rfl
  · skip
    have h3 := cI_leF (a := 9999) (b := x) rfl hx (by omega) (by omega) h3
    show aw_W _ _ _ _ (4, [some (.ref 46)], []) (ae_en σ α z t0 ts)
    refine aw_go 6 rfl ⟨trivial, trivial, trivial, trivial, trivial, trivial, trivial⟩ ?_
    show aw_W _ _ _ _ (10, [some (.ref 46)], []) (ae_en (au σ [(28, (σ 28) + 1)]) α z t0 ts)
    refine aw_ret rfl rfl trivial ?_
    refine ⟨rfl, ?_⟩
    rw [hx, ← nI_succ]
    rw [show fMn 9999 (nI (x + 1)) = nI (x + 1) from by
      rw [fMn]
      by_cases q : nI (x + 1) < 9999
      · rw [if_pos q]
      · rw [if_neg q]
        exact congrArg nI (by have := cI_ltF (a := x + 1) (b := 9999) rfl rfl (by omega) (by omega) q; omega : 9999 = x + 1)]
end L41
