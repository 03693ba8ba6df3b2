/-! the boat (class) -/
def sumF (f : Nat → Int32) : Nat → Int32
  | 0 => 0
  | k + 1 => sumF f k + f k
theorem fGaps_nI {n : Nat} (hn : n < 2 ^ 31) : fGaps (nI n) = nI (n - 1) := by
  unfold fGaps
  rcases Nat.lt_or_ge 1 n with h | h
  · rw [if_neg (show ¬ nI n ≤ 1 from nI_ge h hn)]
    obtain ⟨m, rfl⟩ : ∃ m, n = m + 1 := ⟨n - 1, by omega⟩
    rw [nI_pred, Nat.add_sub_cancel]
  · rw [if_pos (show nI n ≤ 1 from nI_le (b := 1) h (by decide)), show n - 1 = 0 by omega]
    rfl
theorem vp_sub1 {x : Int32} {n N : Nat} (hx : x = nI (n + 1)) (h : n < N) (hN : N < 2 ^ 31) : vp_in (x - 1) N := by
  rw [hx, nI_pred]
  exact vp_in_nI h hN
section L22
variable {P : ae_P} {σ : Nat → Int32} {α : Nat → Nat → Int32} {z : Int64} {t0 : ae_T} {ts : List ae_T}

theorem ev_Boat_bears {p : Int32} {d : Nat} (hp : vp_in p 10) : ae_Ev P (d + 2) 40 [.ref 1, .int p] (ae_en σ α z t0 ts) (some (.int (fBe ((α 0) p.toNatClampNeg) ((α 2) p.toNatClampNeg)))) (ae_en σ α z t0 ts) := by
  refine ar_ev (cd := cd_Boat_bears) rfl rfl rfl ?_
  refine ar_go 8 rfl ⟨trivial, trivial, trivial, hp, trivial, trivial, trivial, hp, trivial⟩ ?_
  refine ar_call rfl rfl (ev_Wood_bears) ?_
  refine ar_ret rfl rfl trivial ?_ ?_
  rfl
  rfl
theorem ev_Boat_bearsAtGap {g : Int32} {d : Nat} (hp : vp_in g 10) (hp1 : vp_in (g + 1) 10) : ae_Ev P (d + 3) 41 [.ref 1, .int g] (ae_en σ α z t0 ts) (some (.int (fMn (fBe ((α 0) g.toNatClampNeg) ((α 2) g.toNatClampNeg)) (fBe ((α 0) (g + 1).toNatClampNeg) ((α 2) (g + 1).toNatClampNeg))))) (ae_en σ α z t0 ts) := by
  refine ar_ev (cd := cd_Boat_bearsAtGap) rfl rfl rfl ?_
  refine ar_go 2 rfl ⟨trivial, trivial, trivial⟩ ?_
  refine ar_call rfl rfl (ev_Boat_bears hp) ?_
  refine ar_go 4 rfl ⟨trivial, trivial, trivial, trivial, trivial⟩ ?_
  refine ar_call rfl rfl (ev_Boat_bears hp1) ?_
  refine ar_go 1 rfl ⟨trivial, trivial⟩ ?_
  refine ar_ret rfl rfl trivial ?_ ?_
  rfl
  rfl
theorem lp_allNails {d : Nat} {n : Nat} (hn : (σ 1) = nI n) (hn10 : n ≤ 10) (k : Nat) (hk : k ≤ n) : ae_Run P (d) cd_Boat_allNails (some (.int (sumF (α 4) n))) (ae_en σ α z t0 ts) (4, [some (.ref 1), some (.int (sumF (α 4) k)), some (.int (nI k))], []) (ae_en σ α z t0 ts) := by
  refine ar_go 4 rfl ⟨trivial, trivial, trivial, trivial, trivial⟩ ?_
  refine ar_br (fun h7 => ?_) (fun h7 => ?_)
  · try simp only [← Int32.not_le, Classical.not_not, ae_ofN] at h7
    have h7 : n ≤ k := (nI_leI (by omega) (by omega)).mp (hn ▸ h7)
    have e7 : k = n := by omega
    subst e7
    refine ar_go 1 rfl ⟨trivial, trivial⟩ ?_
    refine ar_ret rfl rfl trivial ?_ ?_
    rfl
    rfl
  · try simp only [← Int32.not_le, Classical.not_not, ae_ofN] at h7
    have h7 : k < n := Nat.lt_of_not_le (fun q => h7 (by rw [hn]; exact nI_le q (by omega)))
    have ec : (nI k).toNatClampNeg = k := nI_clamp (by omega)
    refine ar_go 9 rfl ⟨trivial, trivial, trivial, trivial, vp_in_nI (by omega) (by omega), trivial, trivial, trivial, trivial, trivial⟩ ?_
    exact ar_to (lp_allNails hn hn10 (k + 1) (by omega)) (by rw [ec, nI_succ] <;> rfl) rfl
termination_by n - k
decreasing_by all_goals omega
theorem ev_Boat_allNails {n : Nat} {d : Nat} (hn : (σ 1) = nI n) (hn10 : n ≤ 10) : ae_Ev P (d + 1) 43 [.ref 1] (ae_en σ α z t0 ts) (some (.int (sumF (α 4) n))) (ae_en σ α z t0 ts) := by
  refine ar_ev (cd := cd_Boat_allNails) rfl rfl rfl ?_
  refine ar_go 4 rfl ⟨trivial, trivial, trivial, trivial, trivial⟩ ?_
  exact lp_allNails hn hn10 0 (by omega)
theorem lp_fastGaps {d : Nat} {n : Nat} (hn : (σ 1) = nI n) (hn10 : n ≤ 10) (k : Nat) (hk : k ≤ n - 1) : ae_Run P (d + 1) cd_Boat_fastGaps (some (.int (sumF (α 7) (n - 1)))) (ae_en σ α z t0 ts) (4, [some (.ref 1), some (.int (sumF (α 7) k)), some (.int (nI k))], []) (ae_en σ α z t0 ts) := by
  refine ar_go 2 rfl ⟨trivial, trivial, trivial⟩ ?_
  refine ar_call rfl rfl (ev_Boat_gaps) ?_
  rw [hn, fGaps_nI (by omega)]
  refine ar_go 1 rfl ⟨trivial, trivial⟩ ?_
  refine ar_br (fun h7 => ?_) (fun h7 => ?_)
  · try simp only [← Int32.not_le, Classical.not_not, ae_ofN] at h7
    have h7 : n - 1 ≤ k := (nI_leI (by omega) (by omega)).mp h7
    have e7 : k = n - 1 := by omega
    subst e7
    refine ar_go 1 rfl ⟨trivial, trivial⟩ ?_
    refine ar_ret rfl rfl trivial ?_ ?_
    rfl
    rfl
  · try simp only [← Int32.not_le, Classical.not_not, ae_ofN] at h7
    have h7 : k < n - 1 := Nat.lt_of_not_le (fun q => h7 (nI_le q (by omega)))
    have ec : (nI k).toNatClampNeg = k := nI_clamp (by omega)
    refine ar_go 9 rfl ⟨trivial, trivial, trivial, trivial, vp_in_nI (by omega) (by omega), trivial, trivial, trivial, trivial, trivial⟩ ?_
    exact ar_to (lp_fastGaps hn hn10 (k + 1) (by omega)) (by rw [ec, nI_succ] <;> rfl) rfl
termination_by n - 1 - k
decreasing_by all_goals omega
theorem ev_Boat_fastGaps {n : Nat} {d : Nat} (hn : (σ 1) = nI n) (hn10 : n ≤ 10) : ae_Ev P (d + 2) 42 [.ref 1] (ae_en σ α z t0 ts) (some (.int (sumF (α 7) (n - 1)))) (ae_en σ α z t0 ts) := by
  refine ar_ev (cd := cd_Boat_fastGaps) rfl rfl rfl ?_
  refine ar_go 4 rfl ⟨trivial, trivial, trivial, trivial, trivial⟩ ?_
  exact lp_fastGaps hn hn10 0 (by omega)
theorem ev_Boat_append_full {k x wd gp nb : Int32} {d : Nat} (h : ¬ (σ 1) < 10) : ae_Ev P (d + 1) 39 [.ref 1, .int k, .int x, .int wd, .int gp, .int nb] (ae_en σ α z t0 ts) (some (.int (-4))) (ae_en σ α z t0 ts) := by
  refine ar_ev (cd := cd_Boat_append) rfl rfl rfl ?_
  refine ar_go 4 rfl ⟨trivial, trivial, trivial, trivial, trivial⟩ ?_
  refine ar_br (fun h3 => ?_) (fun h3 => ?_)
  · try simp only [← Int32.not_le, Classical.not_not, ae_ofN] at h3
    exact absurd h3 (fun q => q (Int32.not_lt.mp h))
  · try simp only [← Int32.not_le, Classical.not_not, ae_ofN] at h3
    refine ar_go 1 rfl ⟨trivial, trivial⟩ ?_
    refine ar_ret rfl rfl trivial ?_ ?_
    rfl
    rfl
theorem ev_Boat_append_0 {k x wd gp nb : Int32} {d : Nat} (h0 : (σ 1) = 0) : ae_Ev P (d + 1) 39 [.ref 1, .int k, .int x, .int wd, .int gp, .int nb] (ae_en σ α z t0 ts) (some (.int (σ 1))) (ae_en (au σ [(1, (σ 1) + 1)]) (au α [(2, upd (α 2) (σ 1).toNatClampNeg nb), (1, upd (α 1) (σ 1).toNatClampNeg wd), (3, upd (α 3) (σ 1).toNatClampNeg x), (0, upd (α 0) (σ 1).toNatClampNeg k)]) z t0 ts) := by
  refine ar_ev (cd := cd_Boat_append) rfl rfl rfl ?_
  refine ar_go 4 rfl ⟨trivial, trivial, trivial, trivial, trivial⟩ ?_
  refine ar_br (fun h3 => ?_) (fun h3 => ?_)
  · try simp only [← Int32.not_le, Classical.not_not, ae_ofN] at h3
    refine ar_go 25 rfl ⟨trivial, trivial, trivial, trivial, trivial, trivial, trivial, (by rw [h0]; exact vp_in_nI (n := 0) (by omega) (by omega)), trivial, trivial, trivial, trivial, (by rw [h0]; exact vp_in_nI (n := 0) (by omega) (by omega)), trivial, trivial, trivial, trivial, (by rw [h0]; exact vp_in_nI (n := 0) (by omega) (by omega)), trivial, trivial, trivial, trivial, (by rw [h0]; exact vp_in_nI (n := 0) (by omega) (by omega)), trivial, trivial, trivial⟩ ?_
    refine ar_br (fun h30 => ?_) (fun h30 => ?_)
    · try simp only [← Int32.not_le, Classical.not_not, ae_ofN] at h30
      refine ar_go 7 rfl ⟨trivial, trivial, trivial, trivial, trivial, trivial, trivial, trivial⟩ ?_
      refine ar_ret rfl rfl trivial ?_ ?_
      rfl
      rfl
    · try simp only [← Int32.not_le, Classical.not_not, ae_ofN] at h30
      exact absurd (by rw [h0]; decide) h30
  · try simp only [← Int32.not_le, Classical.not_not, ae_ofN] at h3
    exact absurd h3 (by rw [h0]; decide)
theorem ev_Boat_append_s {k x wd gp nb : Int32} {d : Nat} {n : Nat} (h0 : (σ 1) = nI (n + 1)) (hn : n + 1 < 10) : ae_Ev P (d + 1) 39 [.ref 1, .int k, .int x, .int wd, .int gp, .int nb] (ae_en σ α z t0 ts) (some (.int (σ 1))) (ae_en (au σ [(1, (σ 1) + 1)]) (au α [(7, upd (α 7) ((σ 1) - 1).toNatClampNeg 1), (5, upd (α 5) ((σ 1) - 1).toNatClampNeg gp), (2, upd (α 2) (σ 1).toNatClampNeg nb), (1, upd (α 1) (σ 1).toNatClampNeg wd), (3, upd (α 3) (σ 1).toNatClampNeg x), (0, upd (α 0) (σ 1).toNatClampNeg k)]) z t0 ts) := by
  refine ar_ev (cd := cd_Boat_append) rfl rfl rfl ?_
  refine ar_go 4 rfl ⟨trivial, trivial, trivial, trivial, trivial⟩ ?_
  refine ar_br (fun h3 => ?_) (fun h3 => ?_)
  · try simp only [← Int32.not_le, Classical.not_not, ae_ofN] at h3
    refine ar_go 25 rfl ⟨trivial, trivial, trivial, trivial, trivial, trivial, trivial, (by rw [h0]; exact vp_in_nI hn (by omega)), trivial, trivial, trivial, trivial, (by rw [h0]; exact vp_in_nI hn (by omega)), trivial, trivial, trivial, trivial, (by rw [h0]; exact vp_in_nI hn (by omega)), trivial, trivial, trivial, trivial, (by rw [h0]; exact vp_in_nI hn (by omega)), trivial, trivial, trivial⟩ ?_
    refine ar_br (fun h30 => ?_) (fun h30 => ?_)
    · try simp only [← Int32.not_le, Classical.not_not, ae_ofN] at h30
      exact absurd h30 (by rw [h0]; exact nI_ge (a := 0) (by omega) (by omega))
    · try simp only [← Int32.not_le, Classical.not_not, ae_ofN] at h30
      refine ar_go 21 rfl ⟨trivial, trivial, trivial, trivial, trivial, trivial, vp_sub1 h0 (by omega) (by omega), trivial, trivial, trivial, trivial, trivial, trivial, vp_sub1 h0 (by omega) (by omega), trivial, trivial, trivial, trivial, trivial, trivial, trivial, trivial⟩ ?_
      refine ar_ret rfl rfl trivial ?_ ?_
      rfl
      rfl
  · try simp only [← Int32.not_le, Classical.not_not, ae_ofN] at h3
    exact absurd h3 (by rw [h0]; exact nI_ge (b := 10) hn (by omega))
theorem ev_Boat_take_in {pl : Int32} {d : Nat} (h1 : ¬ (0 : Int32) < 0 ∧ ¬ (0 : Int32) < 0 ∧ ¬ pl < 0 ∧ (0 : Int32).toNatClampNeg + pl.toNatClampNeg ≤ 10 ∧ (0 : Int32).toNatClampNeg + pl.toNatClampNeg ≤ 10) (h2 : ¬ (0 : Int32) < 0 ∧ ¬ (0 : Int32) < 0 ∧ ¬ (fMx 0 (pl - 1)) < 0 ∧ (0 : Int32).toNatClampNeg + (fMx 0 (pl - 1)).toNatClampNeg ≤ 9 ∧ (0 : Int32).toNatClampNeg + (fMx 0 (pl - 1)).toNatClampNeg ≤ 9) : ae_Ev P (d + 1) 44 [.ref 1, .ref 10, .int pl] (ae_en σ α z t0 ts) (none) (ae_en (au σ [(5, (σ 10)), (4, (σ 9)), (3, (σ 8)), (2, (σ 7))]) (au α [(7, va_cpy (α 15) (α 7) (0 : Int32).toNatClampNeg (0 : Int32).toNatClampNeg (fMx 0 (pl - 1)).toNatClampNeg), (6, va_cpy (α 14) (α 6) (0 : Int32).toNatClampNeg (0 : Int32).toNatClampNeg (fMx 0 (pl - 1)).toNatClampNeg), (5, va_cpy (α 13) (α 5) (0 : Int32).toNatClampNeg (0 : Int32).toNatClampNeg (fMx 0 (pl - 1)).toNatClampNeg), (4, va_cpy (α 12) (α 4) (0 : Int32).toNatClampNeg (0 : Int32).toNatClampNeg pl.toNatClampNeg), (3, va_cpy (α 11) (α 3) (0 : Int32).toNatClampNeg (0 : Int32).toNatClampNeg pl.toNatClampNeg)]) z t0 ts) := by
  refine ar_ev (cd := cd_Boat_takeFrom) rfl rfl rfl ?_
  refine ar_go 62 rfl ⟨trivial, trivial, trivial, trivial, trivial, trivial, trivial, trivial, trivial, trivial, trivial, trivial, trivial, trivial, trivial, trivial, trivial, trivial, trivial, trivial, trivial, trivial, trivial, h1, trivial, trivial, trivial, trivial, trivial, trivial, trivial, h1, trivial, trivial, trivial, trivial, trivial, trivial, trivial, trivial, trivial, trivial, trivial, trivial, trivial, h2, trivial, trivial, trivial, trivial, trivial, trivial, trivial, h2, trivial, trivial, trivial, trivial, trivial, trivial, trivial, h2, trivial⟩ ?_
  refine ar_ret rfl rfl trivial ?_ ?_
  rfl
  rfl
theorem ev_Boat_take_out {pl : Int32} {d : Nat} (h1 : ¬ (0 : Int32) < 0 ∧ ¬ (0 : Int32) < 0 ∧ ¬ pl < 0 ∧ (0 : Int32).toNatClampNeg + pl.toNatClampNeg ≤ 10 ∧ (0 : Int32).toNatClampNeg + pl.toNatClampNeg ≤ 10) (h2 : ¬ (0 : Int32) < 0 ∧ ¬ (0 : Int32) < 0 ∧ ¬ (fMx 0 (pl - 1)) < 0 ∧ (0 : Int32).toNatClampNeg + (fMx 0 (pl - 1)).toNatClampNeg ≤ 9 ∧ (0 : Int32).toNatClampNeg + (fMx 0 (pl - 1)).toNatClampNeg ≤ 9) : ae_Ev P (d + 1) 44 [.ref 10, .ref 1, .int pl] (ae_en σ α z t0 ts) (none) (ae_en (au σ [(10, (σ 5)), (9, (σ 4)), (8, (σ 3)), (7, (σ 2))]) (au α [(15, va_cpy (α 7) (α 15) (0 : Int32).toNatClampNeg (0 : Int32).toNatClampNeg (fMx 0 (pl - 1)).toNatClampNeg), (14, va_cpy (α 6) (α 14) (0 : Int32).toNatClampNeg (0 : Int32).toNatClampNeg (fMx 0 (pl - 1)).toNatClampNeg), (13, va_cpy (α 5) (α 13) (0 : Int32).toNatClampNeg (0 : Int32).toNatClampNeg (fMx 0 (pl - 1)).toNatClampNeg), (12, va_cpy (α 4) (α 12) (0 : Int32).toNatClampNeg (0 : Int32).toNatClampNeg pl.toNatClampNeg), (11, va_cpy (α 3) (α 11) (0 : Int32).toNatClampNeg (0 : Int32).toNatClampNeg pl.toNatClampNeg)]) z t0 ts) := by
  refine ar_ev (cd := cd_Boat_takeFrom) rfl rfl rfl ?_
  refine ar_go 62 rfl ⟨trivial, trivial, trivial, trivial, trivial, trivial, trivial, trivial, trivial, trivial, trivial, trivial, trivial, trivial, trivial, trivial, trivial, trivial, trivial, trivial, trivial, trivial, trivial, h1, trivial, trivial, trivial, trivial, trivial, trivial, trivial, h1, trivial, trivial, trivial, trivial, trivial, trivial, trivial, trivial, trivial, trivial, trivial, trivial, trivial, h2, trivial, trivial, trivial, trivial, trivial, trivial, trivial, h2, trivial, trivial, trivial, trivial, trivial, trivial, trivial, h2, trivial⟩ ?_
  refine ar_ret rfl rfl trivial ?_ ?_
  rfl
  rfl
end L22
