/-! leaves of the class and of the reference-/
def fMx (x y : Int32) : Int32 := if x < y then y else x
def fMn (x y : Int32) : Int32 := if y < x then y else x
def fGr (k w x n : Int32) : Int32 := if k = 1 then w * x / 2000 + n / 3 else if k = 2 then w * x / 2000 / 2 else if k = 3 then w * x / 2000 + n / 3 else if k = 4 then fMx 0 (w * x / 2000 - n) else if k = 5 then w * x / 2000 / 2 + 1 else w * x / 2000
def fTk (k s n : Int32) : Int32 := if k = 2 then s / 2 else if k = 3 then fMx 0 (s - n) else if k = 4 then 2 * s else if k = 5 then s / 2 else s
def fBe (k n : Int32) : Int32 := if k = 1 then 10 + n - 5 else if k = 2 then 2 * (10 + n) else if k = 3 then 10 + n - 5 else if k = 4 then 0 else if k = 5 then 2 * (10 + n) + 5 else 10 + n
def fGaps (s : Int32) : Int32 := if s ≤ 1 then 0 else s - 1
def fIn (v a b : Int32) : Int32 := if v < a then 0 else if b < v then 0 else 1
theorem ae_ofN (n : Nat) : Int32.ofNat n = nI n := rfl
def fHeld (v a b : Int32) : Int32 := if v < a then a else if b < v then b else v
def fHas (p s : Int32) : Int32 := if p < 0 then 0 else if s ≤ p then 0 else 1
theorem fIn_b (v a b : Int32) : fIn v a b = 0 ∨ fIn v a b = 1 := by
  unfold fIn
  repeat' split
  all_goals first | exact Or.inl rfl | exact Or.inr rfl
theorem fHas_b (p s : Int32) : fHas p s = 0 ∨ fHas p s = 1 := by
  unfold fHas
  repeat' split
  all_goals first | exact Or.inl rfl | exact Or.inr rfl
section L21
variable {P : ae_P} {σ : Nat → Int32} {α : Nat → Nat → Int32} {z : Int64} {t0 : ae_T} {ts : List ae_T}

theorem ev_Boat_gaps  {d : Nat} : ae_Ev P (d + 1) 36 [.ref 1] (ae_en σ α z t0 ts) (some (.int (fGaps (σ 1)))) (ae_en σ α z t0 ts) := by
  refine ar_ev (cd := cd_Boat_gaps) rfl rfl rfl ?_
  refine ar_go 4 rfl ⟨trivial, trivial, trivial, trivial, trivial⟩ ?_
  refine ar_br (fun h3 => ?_) (fun h3 => ?_)
  · try simp only [← Int32.not_le, Classical.not_not, ae_ofN] at h3
    refine ar_go 1 rfl ⟨trivial, trivial⟩ ?_
    refine ar_ret rfl rfl trivial ?_ ?_
    simp [fGaps, ← Int32.not_le, h3]
    rfl
  · try simp only [← Int32.not_le, Classical.not_not, ae_ofN] at h3
    refine ar_go 5 rfl ⟨trivial, trivial, trivial, trivial, trivial, trivial⟩ ?_
    refine ar_ret rfl rfl trivial ?_ ?_
    simp [fGaps, ← Int32.not_le, h3]
    rfl
theorem ev_Boat_hasPlank {p : Int32} {d : Nat} : ae_Ev P (d + 1) 37 [.ref 1, .int p] (ae_en σ α z t0 ts) (some (.int (fHas p (σ 1)))) (ae_en σ α z t0 ts) := by
  refine ar_ev (cd := cd_Boat_hasPlank) rfl rfl rfl ?_
  refine ar_go 2 rfl ⟨trivial, trivial, trivial⟩ ?_
  refine ar_br (fun h1 => ?_) (fun h1 => ?_)
  · try simp only [← Int32.not_le, Classical.not_not, ae_ofN] at h1
    refine ar_go 1 rfl ⟨trivial, trivial⟩ ?_
    refine ar_ret rfl rfl (by first | exact Or.inl rfl | exact Or.inr rfl) ?_ ?_
    simp [fHas, ← Int32.not_le, h1]
    rfl
  · try simp only [← Int32.not_le, Classical.not_not, ae_ofN] at h1
    refine ar_go 4 rfl ⟨trivial, trivial, trivial, trivial, trivial⟩ ?_
    refine ar_br (fun h5 => ?_) (fun h5 => ?_)
    · try simp only [← Int32.not_le, Classical.not_not, ae_ofN] at h5
      refine ar_go 1 rfl ⟨trivial, trivial⟩ ?_
      refine ar_ret rfl rfl (by first | exact Or.inl rfl | exact Or.inr rfl) ?_ ?_
      simp [fHas, ← Int32.not_le, h1, h5]
      rfl
    · try simp only [← Int32.not_le, Classical.not_not, ae_ofN] at h5
      refine ar_go 2 rfl ⟨trivial, trivial, trivial⟩ ?_
      refine ar_ret rfl rfl (by first | exact Or.inl rfl | exact Or.inr rfl) ?_ ?_
      simp [fHas, ← Int32.not_le, h1, h5]
      rfl
theorem ev_Boat_hasGap {p : Int32} {d : Nat} : ae_Ev P (d + 2) 38 [.ref 1, .int p] (ae_en σ α z t0 ts) (some (.int (fHas p (fGaps (σ 1))))) (ae_en σ α z t0 ts) := by
  refine ar_ev (cd := cd_Boat_hasGap) rfl rfl rfl ?_
  refine ar_go 2 rfl ⟨trivial, trivial, trivial⟩ ?_
  refine ar_br (fun h1 => ?_) (fun h1 => ?_)
  · try simp only [← Int32.not_le, Classical.not_not, ae_ofN] at h1
    refine ar_go 1 rfl ⟨trivial, trivial⟩ ?_
    refine ar_ret rfl rfl (by first | exact Or.inl rfl | exact Or.inr rfl) ?_ ?_
    simp [fHas, ← Int32.not_le, h1]
    rfl
  · try simp only [← Int32.not_le, Classical.not_not, ae_ofN] at h1
    refine ar_go 2 rfl ⟨trivial, trivial, trivial⟩ ?_
    refine ar_call rfl rfl (ev_Boat_gaps) ?_
    refine ar_go 1 rfl ⟨trivial, trivial⟩ ?_
    refine ar_br (fun h5 => ?_) (fun h5 => ?_)
    · try simp only [← Int32.not_le, Classical.not_not, ae_ofN] at h5
      refine ar_go 1 rfl ⟨trivial, trivial⟩ ?_
      refine ar_ret rfl rfl (by first | exact Or.inl rfl | exact Or.inr rfl) ?_ ?_
      simp [fHas, ← Int32.not_le, h1, h5]
      rfl
    · try simp only [← Int32.not_le, Classical.not_not, ae_ofN] at h5
      refine ar_go 2 rfl ⟨trivial, trivial, trivial⟩ ?_
      refine ar_ret rfl rfl (by first | exact Or.inl rfl | exact Or.inr rfl) ?_ ?_
      simp [fHas, ← Int32.not_le, h1, h5]
      rfl
theorem ev_Wood_isKind {k : Int32} {d : Nat} : ae_Ev P (d + 1) 104 [.int k] (ae_en σ α z t0 ts) (some (.int (fHas k (nI 6)))) (ae_en σ α z t0 ts) := by
  refine ar_ev (cd := cd_Wood_isKind) rfl rfl rfl ?_
  refine ar_go 2 rfl ⟨trivial, trivial, trivial⟩ ?_
  refine ar_br (fun h1 => ?_) (fun h1 => ?_)
  · try simp only [← Int32.not_le, Classical.not_not, ae_ofN] at h1
    refine ar_go 1 rfl ⟨trivial, trivial⟩ ?_
    refine ar_ret rfl rfl (by first | exact Or.inl rfl | exact Or.inr rfl) ?_ ?_
    simp [fHas, ← Int32.not_le, h1]
    rfl
  · try simp only [← Int32.not_le, Classical.not_not, ae_ofN] at h1
    refine ar_go 4 rfl ⟨trivial, trivial, trivial, trivial, trivial⟩ ?_
    refine ar_br (fun h5 => ?_) (fun h5 => ?_)
    · try simp only [← Int32.not_le, Classical.not_not, ae_ofN] at h5
      refine ar_go 1 rfl ⟨trivial, trivial⟩ ?_
      refine ar_ret rfl rfl (by first | exact Or.inl rfl | exact Or.inr rfl) ?_ ?_
      simp [fHas, ← Int32.not_le, h1, h5]
      rfl
    · try simp only [← Int32.not_le, Classical.not_not, ae_ofN] at h5
      refine ar_go 2 rfl ⟨trivial, trivial, trivial⟩ ?_
      refine ar_ret rfl rfl (by first | exact Or.inl rfl | exact Or.inr rfl) ?_ ?_
      simp [fHas, ← Int32.not_le, h1, h5]
      rfl
theorem ev_Wood_grows {k w x n : Int32} {d : Nat} : ae_Ev P (d + 1) 106 [.int k, .int w, .int x, .int n] (ae_en σ α z t0 ts) (some (.int (fGr k w x n))) (ae_en σ α z t0 ts) := by
  refine ar_ev (cd := cd_Wood_grows) rfl rfl rfl ?_
  refine ar_go 8 rfl ⟨trivial, trivial, trivial, trivial, (by first | assumption | decide), trivial, trivial, trivial, trivial⟩ ?_
  refine ar_sw (fun h7_1 => ?_) (fun h7_1 => ?_)
  · skip
    refine ar_go 5 rfl ⟨trivial, trivial, trivial, (by first | assumption | decide), trivial, trivial⟩ ?_
    refine ar_ret rfl rfl trivial ?_ ?_
    simp [fGr, fMx, ← Int32.not_le, h7_1]
    rfl
  refine ar_sw (fun h7_2 => ?_) (fun h7_2 => ?_)
  · skip
    refine ar_go 3 rfl ⟨trivial, trivial, (by first | assumption | decide), trivial⟩ ?_
    refine ar_ret rfl rfl trivial ?_ ?_
    simp [fGr, fMx, ← Int32.not_le, h7_1, h7_2]
    rfl
  refine ar_sw (fun h7_3 => ?_) (fun h7_3 => ?_)
  · skip
    refine ar_go 5 rfl ⟨trivial, trivial, trivial, (by first | assumption | decide), trivial, trivial⟩ ?_
    refine ar_ret rfl rfl trivial ?_ ?_
    simp [fGr, fMx, ← Int32.not_le, h7_1, h7_2, h7_3]
    rfl
  refine ar_sw (fun h7_4 => ?_) (fun h7_4 => ?_)
  · skip
    refine ar_go 5 rfl ⟨trivial, trivial, trivial, trivial, trivial, trivial⟩ ?_
    refine ar_ret rfl rfl trivial ?_ ?_
    simp [fGr, fMx, ← Int32.not_le, h7_1, h7_2, h7_3, h7_4]
    rfl
  refine ar_sw (fun h7_5 => ?_) (fun h7_5 => ?_)
  · skip
    refine ar_go 5 rfl ⟨trivial, trivial, (by first | assumption | decide), trivial, trivial, trivial⟩ ?_
    refine ar_ret rfl rfl trivial ?_ ?_
    simp [fGr, fMx, ← Int32.not_le, h7_1, h7_2, h7_3, h7_4, h7_5]
    rfl
  show ae_Run _ _ _ _ _ (30, _, _) _
  refine ar_go 1 rfl ⟨trivial, trivial⟩ ?_
  refine ar_ret rfl rfl trivial ?_ ?_
  simp [fGr, fMx, ← Int32.not_le, h7_1, h7_2, h7_3, h7_4, h7_5]
  rfl
theorem ev_Wood_takesUp {k s n : Int32} {d : Nat} : ae_Ev P (d + 1) 107 [.int k, .int s, .int n] (ae_en σ α z t0 ts) (some (.int (fTk k s n))) (ae_en σ α z t0 ts) := by
  refine ar_ev (cd := cd_Wood_takesUp) rfl rfl rfl ?_
  refine ar_go 2 rfl ⟨trivial, trivial, trivial⟩ ?_
  refine ar_sw (fun h1_2 => ?_) (fun h1_2 => ?_)
  · skip
    refine ar_go 3 rfl ⟨trivial, trivial, (by first | assumption | decide), trivial⟩ ?_
    refine ar_ret rfl rfl trivial ?_ ?_
    simp [fTk, fMx, ← Int32.not_le, h1_2]
    rfl
  refine ar_sw (fun h1_3 => ?_) (fun h1_3 => ?_)
  · skip
    refine ar_go 5 rfl ⟨trivial, trivial, trivial, trivial, trivial, trivial⟩ ?_
    refine ar_ret rfl rfl trivial ?_ ?_
    simp [fTk, fMx, ← Int32.not_le, h1_2, h1_3]
    rfl
  refine ar_sw (fun h1_4 => ?_) (fun h1_4 => ?_)
  · skip
    refine ar_go 3 rfl ⟨trivial, trivial, trivial, trivial⟩ ?_
    refine ar_ret rfl rfl trivial ?_ ?_
    simp [fTk, fMx, ← Int32.not_le, h1_2, h1_3, h1_4]
    rfl
  refine ar_sw (fun h1_5 => ?_) (fun h1_5 => ?_)
  · skip
    refine ar_go 3 rfl ⟨trivial, trivial, (by first | assumption | decide), trivial⟩ ?_
    refine ar_ret rfl rfl trivial ?_ ?_
    simp [fTk, fMx, ← Int32.not_le, h1_2, h1_3, h1_4, h1_5]
    rfl
  show ae_Run _ _ _ _ _ (16, _, _) _
  refine ar_go 1 rfl ⟨trivial, trivial⟩ ?_
  refine ar_ret rfl rfl trivial ?_ ?_
  simp [fTk, fMx, ← Int32.not_le, h1_2, h1_3, h1_4, h1_5]
  rfl
theorem ev_Wood_bears {k n : Int32} {d : Nat} : ae_Ev P (d + 1) 108 [.int k, .int n] (ae_en σ α z t0 ts) (some (.int (fBe k n))) (ae_en σ α z t0 ts) := by
  refine ar_ev (cd := cd_Wood_bears) rfl rfl rfl ?_
  refine ar_go 6 rfl ⟨trivial, trivial, trivial, trivial, trivial, trivial, trivial⟩ ?_
  refine ar_sw (fun h5_1 => ?_) (fun h5_1 => ?_)
  · skip
    refine ar_go 3 rfl ⟨trivial, trivial, trivial, trivial⟩ ?_
    refine ar_ret rfl rfl trivial ?_ ?_
    simp [fBe, h5_1]
    rfl
  refine ar_sw (fun h5_2 => ?_) (fun h5_2 => ?_)
  · skip
    refine ar_go 3 rfl ⟨trivial, trivial, trivial, trivial⟩ ?_
    refine ar_ret rfl rfl trivial ?_ ?_
    simp [fBe, h5_1, h5_2]
    rfl
  refine ar_sw (fun h5_3 => ?_) (fun h5_3 => ?_)
  · skip
    refine ar_go 3 rfl ⟨trivial, trivial, trivial, trivial⟩ ?_
    refine ar_ret rfl rfl trivial ?_ ?_
    simp [fBe, h5_1, h5_2, h5_3]
    rfl
  refine ar_sw (fun h5_4 => ?_) (fun h5_4 => ?_)
  · skip
    refine ar_go 1 rfl ⟨trivial, trivial⟩ ?_
    refine ar_ret rfl rfl trivial ?_ ?_
    simp [fBe, h5_1, h5_2, h5_3, h5_4]
    rfl
  refine ar_sw (fun h5_5 => ?_) (fun h5_5 => ?_)
  · skip
    refine ar_go 5 rfl ⟨trivial, trivial, trivial, trivial, trivial, trivial⟩ ?_
    refine ar_ret rfl rfl trivial ?_ ?_
    simp [fBe, h5_1, h5_2, h5_3, h5_4, h5_5]
    rfl
  show ae_Run _ _ _ _ _ (22, _, _) _
  refine ar_go 1 rfl ⟨trivial, trivial⟩ ?_
  refine ar_ret rfl rfl trivial ?_ ?_
  simp [fBe, h5_1, h5_2, h5_3, h5_4, h5_5]
  rfl
theorem ev_Model_in {v a b : Int32} {d : Nat} : ae_Ev P (d + 1) 110 [.int v, .int a, .int b] (ae_en σ α z t0 ts) (some (.int (fIn v a b))) (ae_en σ α z t0 ts) := by
  refine ar_ev (cd := cd_Model_in) rfl rfl rfl ?_
  refine ar_go 3 rfl ⟨trivial, trivial, trivial, trivial⟩ ?_
  refine ar_br (fun h2 => ?_) (fun h2 => ?_)
  · try simp only [← Int32.not_le, Classical.not_not, ae_ofN] at h2
    refine ar_go 1 rfl ⟨trivial, trivial⟩ ?_
    refine ar_ret rfl rfl (by first | exact Or.inl rfl | exact Or.inr rfl) ?_ ?_
    simp [fIn, ← Int32.not_le, h2]
    rfl
  · try simp only [← Int32.not_le, Classical.not_not, ae_ofN] at h2
    refine ar_go 3 rfl ⟨trivial, trivial, trivial, trivial⟩ ?_
    refine ar_br (fun h5 => ?_) (fun h5 => ?_)
    · try simp only [← Int32.not_le, Classical.not_not, ae_ofN] at h5
      refine ar_go 1 rfl ⟨trivial, trivial⟩ ?_
      refine ar_ret rfl rfl (by first | exact Or.inl rfl | exact Or.inr rfl) ?_ ?_
      simp [fIn, ← Int32.not_le, h2, h5]
      rfl
    · try simp only [← Int32.not_le, Classical.not_not, ae_ofN] at h5
      refine ar_go 2 rfl ⟨trivial, trivial, trivial⟩ ?_
      refine ar_ret rfl rfl (by first | exact Or.inl rfl | exact Or.inr rfl) ?_ ?_
      simp [fIn, ← Int32.not_le, h2, h5]
      rfl
theorem ev_Model_held {v a b : Int32} {d : Nat} : ae_Ev P (d + 1) 111 [.int v, .int a, .int b] (ae_en σ α z t0 ts) (some (.int (fHeld v a b))) (ae_en σ α z t0 ts) := by
  refine ar_ev (cd := cd_Model_held) rfl rfl rfl ?_
  refine ar_go 3 rfl ⟨trivial, trivial, trivial, trivial⟩ ?_
  refine ar_br (fun h2 => ?_) (fun h2 => ?_)
  · try simp only [← Int32.not_le, Classical.not_not, ae_ofN] at h2
    refine ar_go 3 rfl ⟨trivial, trivial, trivial, trivial⟩ ?_
    refine ar_br (fun h7 => ?_) (fun h7 => ?_)
    · try simp only [← Int32.not_le, Classical.not_not, ae_ofN] at h7
      refine ar_go 1 rfl ⟨trivial, trivial⟩ ?_
      refine ar_ret rfl rfl trivial ?_ ?_
      simp [fHeld, ← Int32.not_le, h2, h7]
      rfl
    · try simp only [← Int32.not_le, Classical.not_not, ae_ofN] at h7
      refine ar_go 2 rfl ⟨trivial, trivial, trivial⟩ ?_
      refine ar_ret rfl rfl trivial ?_ ?_
      simp [fHeld, ← Int32.not_le, h2, h7]
      rfl
  · try simp only [← Int32.not_le, Classical.not_not, ae_ofN] at h2
    refine ar_go 2 rfl ⟨trivial, trivial, trivial⟩ ?_
    refine ar_ret rfl rfl trivial ?_ ?_
    simp [fHeld, ← Int32.not_le, h2]
    rfl
theorem ev_Model_isPlank {p : Int32} {d : Nat} : ae_Ev P (d + 2) 112 [.ref 46, .int p] (ae_en σ α z t0 ts) (some (.int (fIn p 0 ((σ 27) - 1)))) (ae_en σ α z t0 ts) := by
  refine ar_ev (cd := cd_Model_isPlank) rfl rfl rfl ?_
  refine ar_go 6 rfl ⟨trivial, trivial, trivial, trivial, trivial, trivial, trivial⟩ ?_
  refine ar_call rfl rfl (ev_Model_in) ?_
  refine ar_ret rfl rfl (fIn_b _ _ _) ?_ ?_
  rfl
  rfl
theorem ev_Model_isGap {p : Int32} {d : Nat} : ae_Ev P (d + 2) 113 [.ref 46, .int p] (ae_en σ α z t0 ts) (some (.int (fIn p 0 ((σ 27) - 2)))) (ae_en σ α z t0 ts) := by
  refine ar_ev (cd := cd_Model_isGap) rfl rfl rfl ?_
  refine ar_go 6 rfl ⟨trivial, trivial, trivial, trivial, trivial, trivial, trivial⟩ ?_
  refine ar_call rfl rfl (ev_Model_in) ?_
  refine ar_ret rfl rfl (fIn_b _ _ _) ?_ ?_
  rfl
  rfl
end L21
