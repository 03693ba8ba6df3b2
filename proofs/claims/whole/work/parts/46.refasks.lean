/-! the reference: what calls answer -/
theorem dry_fC {B : ae_B} {n : Nat} {w : Nat → Int32} {dy : Int32} (hw : wOk n w) : fC n (fun p => fHeld (w p - gDr B n w dy p) 0 100) w = fC n (fun p => fMx 0 (w p - gDr B n w dy p)) w := fC_cg (fun j hj => (clip_dry (hw j hj) (gDr_b _ _ _ _ _)).1)
theorem dry_ok {B : ae_B} {n : Nat} {w : Nat → Int32} {dy : Int32} (hw : wOk n w) : wOk n (fC n (fun p => fMx 0 (w p - gDr B n w dy p)) w) := fun p hp => by
  rw [fC_lt hp]
  exact (clip_dry (hw p hp) (gDr_b _ _ _ _ _)).2
theorem dryN_ok {B : ae_B} {n x : Nat} {w : Nat → Int32} (hw : wOk n w) (hx : x ≤ 9999) : ∀ k, k ≤ 900000 → wOk n (dryN B n w (nI x) k).1 ∧ (dryN B n w (nI x) k).2 = dyA (nI x) k
  | 0, _ => ⟨hw, (dyA_0 hx).symm⟩
  | k + 1, hk => by
    obtain ⟨h1, h2⟩ := dryN_ok hw hx k (by omega)
    refine ⟨dry_ok h1, ?_⟩
    show fMn 9999 ((dryN B n w (nI x) k).2 + 1) = _
    rw [h2, dyA_s hx (by omega)]
section L46
variable {P : ae_P} {σ : Nat → Int32} {α : Nat → Nat → Int32} {z : Int64} {t0 : ae_T} {ts : List ae_T}

theorem ev_Model_told {n : Nat} {B : ae_B} {p what : Int32} {zd : Nat} (hM : mOk B n (σ 27) (σ 29) (σ 33) (α 31) (α 32) (α 33) (α 40) (α 41) (α 42)) (hw : wOk n (α 35)) : aw_X P (zd + 5) 141 [.ref 46, .int p, .int what] (ae_en σ α z t0 ts) (fun r H => ∃ (mg : Int32) (md : Int32) (mw : Int32) (mc : Int32) (pl : Nat → Int32) (fr : Nat → Int32) (tk : Nat → Int32) (ww : Nat → Int32) (wg : Nat → Int32) (wf : Nat → Int32) (zq : Int64), r = some (.int (aTold B n (α 35) (α 34) (σ 28) p what)) ∧ H = (ae_en (au σ [(41, mg), (42, md), (43, mw), (44, mc)]) (au α [(43, pl), (44, fr), (47, tk), (48, ww), (49, wg), (50, wf)]) zq t0 ts)) := by
  obtain ⟨hn, hn10, hs3, hk0, hk1, hk2, hbo, hru⟩ := id hM
  refine aw_ev (cd := cd_Model_told) rfl rfl rfl ?_
  show aw_W _ _ _ _ (0, [some (.ref 46), some (.int p), some (.int what)], []) (ae_en σ α z t0 ts)
  refine aw_go 2 rfl ⟨trivial, trivial, trivial⟩ ?_
  refine aw_callE rfl rfl (em_isPlank (p := p) hn hn10) ?_
  show aw_W _ _ _ _ (3, [some (.ref 46), some (.int p), some (.int what)], [.int (bI (iP n p))]) (ae_en σ α z t0 ts)
  refine aw_go 1 rfl ⟨trivial, trivial⟩ ?_
  refine aw_br (c := ¬ (bI (iP n p)) = 0) (fun h3 => ?_) (fun h3 => ?_)
  · skip
    have h3 := bI_t h3
    show aw_W _ _ _ _ (6, [some (.ref 46), some (.int p), some (.int what)], []) (ae_en σ α z t0 ts)
    obtain ⟨j, hj, rfl⟩ := iP_of h3 (by omega)
    refine aw_go 2 rfl ⟨trivial, trivial, trivial⟩ ?_
    refine aw_sw (x := what) (fun h7_0 => ?_) (fun h7_0 => ?_)
    · skip
      show aw_W _ _ _ _ (8, [some (.ref 46), some (.int (nI j)), some (.int what)], []) (ae_en σ α z t0 ts)
      refine aw_go 4 rfl ⟨trivial, trivial, trivial, (cI_in (a := j) rfl (by omega) (by decide)), trivial⟩ ?_
      show aw_W _ _ _ _ (12, [some (.ref 46), some (.int (nI j)), some (.int what)], [.int (α 31 (nI j).toNatClampNeg)]) (ae_en σ α z t0 ts)
      rw [show (nI j).toNatClampNeg = j from cI_cl (a := j) rfl (by omega)]
      refine aw_ret rfl rfl trivial ?_
      refine ⟨σ 41, σ 42, σ 43, σ 44, α 43, α 44, α 47, α 48, α 49, α 50, z, ?_, rfl⟩
      rw [aTold, if_pos (iP_nI hj (by omega)), nI_clamp (by omega), if_pos h7_0]
      rw [hk0]
      all_goals rfl
    refine aw_sw (x := what) (fun h7_1 => ?_) (fun h7_1 => ?_)
    · skip
      show aw_W _ _ _ _ (13, [some (.ref 46), some (.int (nI j)), some (.int what)], []) (ae_en σ α z t0 ts)
      refine aw_go 4 rfl ⟨trivial, trivial, trivial, (cI_in (a := j) rfl (by omega) (by decide)), trivial⟩ ?_
      show aw_W _ _ _ _ (17, [some (.ref 46), some (.int (nI j)), some (.int what)], [.int (α 32 (nI j).toNatClampNeg)]) (ae_en σ α z t0 ts)
      rw [show (nI j).toNatClampNeg = j from cI_cl (a := j) rfl (by omega)]
      refine aw_ret rfl rfl trivial ?_
      refine ⟨σ 41, σ 42, σ 43, σ 44, α 43, α 44, α 47, α 48, α 49, α 50, z, ?_, rfl⟩
      rw [aTold, if_pos (iP_nI hj (by omega)), nI_clamp (by omega), if_neg h7_0, if_pos h7_1]
      rw [hk1]
      all_goals rfl
    refine aw_sw (x := what) (fun h7_2 => ?_) (fun h7_2 => ?_)
    · skip
      show aw_W _ _ _ _ (18, [some (.ref 46), some (.int (nI j)), some (.int what)], []) (ae_en σ α z t0 ts)
      refine aw_go 4 rfl ⟨trivial, trivial, trivial, (cI_in (a := j) rfl (by omega) (by decide)), trivial⟩ ?_
      show aw_W _ _ _ _ (22, [some (.ref 46), some (.int (nI j)), some (.int what)], [.int (α 35 (nI j).toNatClampNeg)]) (ae_en σ α z t0 ts)
      rw [show (nI j).toNatClampNeg = j from cI_cl (a := j) rfl (by omega)]
      refine aw_ret rfl rfl trivial ?_
      refine ⟨σ 41, σ 42, σ 43, σ 44, α 43, α 44, α 47, α 48, α 49, α 50, z, ?_, rfl⟩
      rw [aTold, if_pos (iP_nI hj (by omega)), nI_clamp (by omega), if_neg h7_0, if_neg h7_1, if_pos h7_2]
      all_goals rfl
    refine aw_sw (x := what) (fun h7_3 => ?_) (fun h7_3 => ?_)
    · skip
      show aw_W _ _ _ _ (23, [some (.ref 46), some (.int (nI j)), some (.int what)], []) (ae_en σ α z t0 ts)
      refine aw_go 2 rfl ⟨trivial, trivial, trivial⟩ ?_
      refine aw_callE rfl rfl (ev_Model_growsOf (p := j) hM hw hj) ?_
      show aw_W _ _ _ _ (26, [some (.ref 46), some (.int (nI j)), some (.int what)], [.int (gGr B (α 35) j)]) (ae_en σ α z t0 ts)
      refine aw_ret rfl rfl trivial ?_
      refine ⟨σ 41, σ 42, σ 43, σ 44, α 43, α 44, α 47, α 48, α 49, α 50, z, ?_, rfl⟩
      rw [aTold, if_pos (iP_nI hj (by omega)), nI_clamp (by omega), if_neg h7_0, if_neg h7_1, if_neg h7_2, if_pos h7_3]
      all_goals rfl
    refine aw_sw (x := what) (fun h7_4 => ?_) (fun h7_4 => ?_)
    · skip
      show aw_W _ _ _ _ (27, [some (.ref 46), some (.int (nI j)), some (.int what)], []) (ae_en σ α z t0 ts)
      refine aw_go 2 rfl ⟨trivial, trivial, trivial⟩ ?_
      refine aw_call rfl rfl (ev_Model_takesUp (p := j) hM hj) ?_
      rintro _ _ ⟨pl_29, fr_29, rfl, rfl⟩
      show aw_W _ _ _ _ (30, [some (.ref 46), some (.int (nI j)), some (.int what)], [.int (gTk B n (α 35) (σ 28) j)]) (ae_en σ (au α [(43, pl_29), (44, fr_29)]) z t0 ts)
      refine aw_ret rfl rfl trivial ?_
      refine ⟨σ 41, σ 42, σ 43, σ 44, pl_29, fr_29, α 47, α 48, α 49, α 50, z, ?_, rfl⟩
      rw [aTold, if_pos (iP_nI hj (by omega)), nI_clamp (by omega), if_neg h7_0, if_neg h7_1, if_neg h7_2, if_neg h7_3, if_pos h7_4]
      all_goals rfl
    refine aw_sw (x := what) (fun h7_5 => ?_) (fun h7_5 => ?_)
    · skip
      show aw_W _ _ _ _ (31, [some (.ref 46), some (.int (nI j)), some (.int what)], []) (ae_en σ α z t0 ts)
      refine aw_go 2 rfl ⟨trivial, trivial, trivial⟩ ?_
      refine aw_callE rfl rfl (ev_Model_bearsOf (p := j) hM hj) ?_
      show aw_W _ _ _ _ (34, [some (.ref 46), some (.int (nI j)), some (.int what)], [.int (gBe B j)]) (ae_en σ α z t0 ts)
      refine aw_ret rfl rfl trivial ?_
      refine ⟨σ 41, σ 42, σ 43, σ 44, α 43, α 44, α 47, α 48, α 49, α 50, z, ?_, rfl⟩
      rw [aTold, if_pos (iP_nI hj (by omega)), nI_clamp (by omega), if_neg h7_0, if_neg h7_1, if_neg h7_2, if_neg h7_3, if_neg h7_4, if_pos h7_5]
      all_goals rfl
    refine aw_sw (x := what) (fun h7_6 => ?_) (fun h7_6 => ?_)
    · skip
      show aw_W _ _ _ _ (35, [some (.ref 46), some (.int (nI j)), some (.int what)], []) (ae_en σ α z t0 ts)
      refine aw_go 4 rfl ⟨trivial, trivial, trivial, (cI_in (a := j) rfl (by omega) (by decide)), trivial⟩ ?_
      show aw_W _ _ _ _ (39, [some (.ref 46), some (.int (nI j)), some (.int what)], [.int (α 34 (nI j).toNatClampNeg)]) (ae_en σ α z t0 ts)
      rw [show (nI j).toNatClampNeg = j from cI_cl (a := j) rfl (by omega)]
      refine aw_ret rfl rfl trivial ?_
      refine ⟨σ 41, σ 42, σ 43, σ 44, α 43, α 44, α 47, α 48, α 49, α 50, z, ?_, rfl⟩
      rw [aTold, if_pos (iP_nI hj (by omega)), nI_clamp (by omega), if_neg h7_0, if_neg h7_1, if_neg h7_2, if_neg h7_3, if_neg h7_4, if_neg h7_5, if_pos h7_6]
      all_goals rfl
    refine aw_sw (x := what) (fun h7_7 => ?_) (fun h7_7 => ?_)
    · skip
      show aw_W _ _ _ _ (40, [some (.ref 46), some (.int (nI j)), some (.int what)], []) (ae_en σ α z t0 ts)
      refine aw_go 4 rfl ⟨trivial, trivial, trivial, (cI_in (a := j) rfl (by omega) (by decide)), trivial⟩ ?_
      show aw_W _ _ _ _ (44, [some (.ref 46), some (.int (nI j)), some (.int what)], [.int (α 33 (nI j).toNatClampNeg)]) (ae_en σ α z t0 ts)
      rw [show (nI j).toNatClampNeg = j from cI_cl (a := j) rfl (by omega)]
      refine aw_ret rfl rfl trivial ?_
      refine ⟨σ 41, σ 42, σ 43, σ 44, α 43, α 44, α 47, α 48, α 49, α 50, z, ?_, rfl⟩
      rw [aTold, if_pos (iP_nI hj (by omega)), nI_clamp (by omega), if_neg h7_0, if_neg h7_1, if_neg h7_2, if_neg h7_3, if_neg h7_4, if_neg h7_5, if_neg h7_6, if_pos h7_7]
      rw [hk2]
      all_goals rfl
    show aw_W _ _ _ _ (45, [some (.ref 46), some (.int (nI j)), some (.int what)], []) (ae_en σ α z t0 ts)
    refine aw_go 1 rfl ⟨trivial, trivial⟩ ?_
    refine aw_ret rfl rfl trivial ?_
    refine ⟨σ 41, σ 42, σ 43, σ 44, α 43, α 44, α 47, α 48, α 49, α 50, z, ?_, rfl⟩
    rw [aTold, if_pos (iP_nI hj (by omega)), nI_clamp (by omega), if_neg h7_0, if_neg h7_1, if_neg h7_2, if_neg h7_3, if_neg h7_4, if_neg h7_5, if_neg h7_6, if_neg h7_7]
    all_goals rfl
  · skip
    have h3 := bI_f (Classical.not_not.mp h3)
    show aw_W _ _ _ _ (4, [some (.ref 46), some (.int p), some (.int what)], []) (ae_en σ α z t0 ts)
    refine aw_go 1 rfl ⟨trivial, trivial⟩ ?_
    refine aw_ret rfl rfl trivial ?_
    refine ⟨σ 41, σ 42, σ 43, σ 44, α 43, α 44, α 47, α 48, α 49, α 50, z, ?_, rfl⟩
    rw [aTold, if_neg h3]
theorem ev_Model_gap {n : Nat} {B : ae_B} {g what : Int32} {zd : Nat} (hM : mOk B n (σ 27) (σ 29) (σ 33) (α 31) (α 32) (α 33) (α 40) (α 41) (α 42)) (hw : wOk n (α 35)) (hv : vOk n 200 (α 36)) (hs : vOk n 100 (α 37)) : ae_Ev P (zd + 5) 145 [.ref 46, .int g, .int what] (ae_en σ α z t0 ts) (some (.int (aGap B n (α 35) (α 36) (α 37) (α 38) g what))) (ae_en σ α z t0 ts) := by
  obtain ⟨hn, hn10, hs3, hk0, hk1, hk2, hbo, hru⟩ := id hM
  refine aw_evE (cd := cd_Model_gap) rfl rfl rfl ?_
  show aw_W _ _ _ _ (0, [some (.ref 46), some (.int g), some (.int what)], []) (ae_en σ α z t0 ts)
  refine aw_go 2 rfl ⟨trivial, trivial, trivial⟩ ?_
  refine aw_callE rfl rfl (em_isGap (p := g) hn hn10) ?_
  show aw_W _ _ _ _ (3, [some (.ref 46), some (.int g), some (.int what)], [.int (bI (iP (n - 1) g))]) (ae_en σ α z t0 ts)
  refine aw_go 1 rfl ⟨trivial, trivial⟩ ?_
  refine aw_br (c := ¬ (bI (iP (n - 1) g)) = 0) (fun h3 => ?_) (fun h3 => ?_)
  · skip
    have h3 := bI_t h3
    show aw_W _ _ _ _ (6, [some (.ref 46), some (.int g), some (.int what)], []) (ae_en σ α z t0 ts)
    obtain ⟨j, hj, rfl⟩ := iP_of h3 (by omega)
    refine aw_go 2 rfl ⟨trivial, trivial, trivial⟩ ?_
    refine aw_sw (x := what) (fun h7_0 => ?_) (fun h7_0 => ?_)
    · skip
      show aw_W _ _ _ _ (8, [some (.ref 46), some (.int (nI j)), some (.int what)], []) (ae_en σ α z t0 ts)
      refine aw_go 4 rfl ⟨trivial, trivial, trivial, (cI_in (a := j) rfl (by omega) (by decide)), trivial⟩ ?_
      show aw_W _ _ _ _ (12, [some (.ref 46), some (.int (nI j)), some (.int what)], [.int (α 36 (nI j).toNatClampNeg)]) (ae_en σ α z t0 ts)
      rw [show (nI j).toNatClampNeg = j from cI_cl (a := j) rfl (by omega)]
      refine aw_ret rfl rfl trivial ?_
      refine ⟨?_, rfl⟩
      rw [aGap, if_pos (iP_nI hj (by omega)), nI_clamp (by omega), if_pos h7_0]
      all_goals rfl
    refine aw_sw (x := what) (fun h7_1 => ?_) (fun h7_1 => ?_)
    · skip
      show aw_W _ _ _ _ (13, [some (.ref 46), some (.int (nI j)), some (.int what)], []) (ae_en σ α z t0 ts)
      refine aw_go 4 rfl ⟨trivial, trivial, trivial, (cI_in (a := j) rfl (by omega) (by decide)), trivial⟩ ?_
      show aw_W _ _ _ _ (17, [some (.ref 46), some (.int (nI j)), some (.int what)], [.int (α 37 (nI j).toNatClampNeg)]) (ae_en σ α z t0 ts)
      rw [show (nI j).toNatClampNeg = j from cI_cl (a := j) rfl (by omega)]
      refine aw_ret rfl rfl trivial ?_
      refine ⟨?_, rfl⟩
      rw [aGap, if_pos (iP_nI hj (by omega)), nI_clamp (by omega), if_neg h7_0, if_pos h7_1]
      all_goals rfl
    refine aw_sw (x := what) (fun h7_2 => ?_) (fun h7_2 => ?_)
    · skip
      show aw_W _ _ _ _ (18, [some (.ref 46), some (.int (nI j)), some (.int what)], []) (ae_en σ α z t0 ts)
      refine aw_go 4 rfl ⟨trivial, trivial, trivial, (cI_in (a := j) rfl (by omega) (by decide)), trivial⟩ ?_
      show aw_W _ _ _ _ (22, [some (.ref 46), some (.int (nI j)), some (.int what)], [.int (α 38 (nI j).toNatClampNeg)]) (ae_en σ α z t0 ts)
      rw [show (nI j).toNatClampNeg = j from cI_cl (a := j) rfl (by omega)]
      refine aw_ret rfl rfl trivial ?_
      refine ⟨?_, rfl⟩
      rw [aGap, if_pos (iP_nI hj (by omega)), nI_clamp (by omega), if_neg h7_0, if_neg h7_1, if_pos h7_2]
      all_goals rfl
    refine aw_sw (x := what) (fun h7_3 => ?_) (fun h7_3 => ?_)
    · skip
      show aw_W _ _ _ _ (23, [some (.ref 46), some (.int (nI j)), some (.int what)], []) (ae_en σ α z t0 ts)
      refine aw_go 2 rfl ⟨trivial, trivial, trivial⟩ ?_
      refine aw_callE rfl rfl (ev_Model_openOf (g := j) hM hw (by omega)) ?_
      show aw_W _ _ _ _ (26, [some (.ref 46), some (.int (nI j)), some (.int what)], [.int (rOp B (α 35) (α 36) (α 37) j)]) (ae_en σ α z t0 ts)
      refine aw_ret rfl rfl trivial ?_
      refine ⟨?_, rfl⟩
      rw [aGap, if_pos (iP_nI hj (by omega)), nI_clamp (by omega), if_neg h7_0, if_neg h7_1, if_neg h7_2, if_pos h7_3]
      all_goals rfl
    refine aw_sw (x := what) (fun h7_4 => ?_) (fun h7_4 => ?_)
    · skip
      show aw_W _ _ _ _ (27, [some (.ref 46), some (.int (nI j)), some (.int what)], []) (ae_en σ α z t0 ts)
      refine aw_go 2 rfl ⟨trivial, trivial, trivial⟩ ?_
      refine aw_callE rfl rfl (ev_Model_pressOf (g := j) hM hw (by omega) (hv j (by omega)) (hs j (by omega))) ?_
      show aw_W _ _ _ _ (30, [some (.ref 46), some (.int (nI j)), some (.int what)], [.int (rPr B (α 35) (α 36) (α 37) j)]) (ae_en σ α z t0 ts)
      refine aw_ret rfl rfl trivial ?_
      refine ⟨?_, rfl⟩
      rw [aGap, if_pos (iP_nI hj (by omega)), nI_clamp (by omega), if_neg h7_0, if_neg h7_1, if_neg h7_2, if_neg h7_3, if_pos h7_4]
      all_goals rfl
    show aw_W _ _ _ _ (31, [some (.ref 46), some (.int (nI j)), some (.int what)], []) (ae_en σ α z t0 ts)
    refine aw_go 1 rfl ⟨trivial, trivial⟩ ?_
    refine aw_ret rfl rfl trivial ?_
    refine ⟨?_, rfl⟩
    rw [aGap, if_pos (iP_nI hj (by omega)), nI_clamp (by omega), if_neg h7_0, if_neg h7_1, if_neg h7_2, if_neg h7_3, if_neg h7_4]
    all_goals rfl
  · skip
    have h3 := bI_f (Classical.not_not.mp h3)
    show aw_W _ _ _ _ (4, [some (.ref 46), some (.int g), some (.int what)], []) (ae_en σ α z t0 ts)
    refine aw_go 1 rfl ⟨trivial, trivial⟩ ?_
    refine aw_ret rfl rfl trivial ?_
    refine ⟨?_, rfl⟩
    rw [aGap, if_neg h3]
theorem ev_Model_count {n : Nat} {B : ae_B} {what : Int32} {zd : Nat} (hM : mOk B n (σ 27) (σ 29) (σ 33) (α 31) (α 32) (α 33) (α 40) (α 41) (α 42)) (hw : wOk n (α 35)) : ae_Ev P (zd + 5) 171 [.ref 46, .int what] (ae_en σ α z t0 ts) (some (.int (aCount (σ 27) (rON B (α 35) (α 36) (α 37) (n - 1)) (sumF (α 38) (n - 1)) (σ 28) (σ 32) (σ 31) (σ 33) (σ 29) (σ 30) (sumF (α 34) n) what))) (ae_en σ α z t0 ts) := by
  obtain ⟨hn, hn10, hs3, hk0, hk1, hk2, hbo, hru⟩ := id hM
  refine aw_evE (cd := cd_Model_count) rfl rfl rfl ?_
  show aw_W _ _ _ _ (0, [some (.ref 46), some (.int what)], []) (ae_en σ α z t0 ts)
  refine aw_go 2 rfl ⟨trivial, trivial, trivial⟩ ?_
  refine aw_sw (x := what) (fun h1_0 => ?_) (fun h1_0 => ?_)
  · skip
    show aw_W _ _ _ _ (2, [some (.ref 46), some (.int what)], []) (ae_en σ α z t0 ts)
    refine aw_go 2 rfl ⟨trivial, trivial, trivial⟩ ?_
    show aw_W _ _ _ _ (4, [some (.ref 46), some (.int what)], [.int (σ 27)]) (ae_en σ α z t0 ts)
    refine aw_ret rfl rfl trivial ?_
    refine ⟨?_, rfl⟩
    rw [aCount, if_pos h1_0]
    all_goals rfl
  refine aw_sw (x := what) (fun h1_1 => ?_) (fun h1_1 => ?_)
  · skip
    show aw_W _ _ _ _ (5, [some (.ref 46), some (.int what)], []) (ae_en σ α z t0 ts)
    refine aw_go 1 rfl ⟨trivial, trivial⟩ ?_
    refine aw_callE rfl rfl (ev_Model_openMany  hM hw) ?_
    show aw_W _ _ _ _ (7, [some (.ref 46), some (.int what)], [.int (rON B (α 35) (α 36) (α 37) (n - 1))]) (ae_en σ α z t0 ts)
    refine aw_ret rfl rfl trivial ?_
    refine ⟨?_, rfl⟩
    rw [aCount, if_neg h1_0, if_pos h1_1]
    all_goals rfl
  refine aw_sw (x := what) (fun h1_2 => ?_) (fun h1_2 => ?_)
  · skip
    show aw_W _ _ _ _ (8, [some (.ref 46), some (.int what)], []) (ae_en σ α z t0 ts)
    refine aw_go 1 rfl ⟨trivial, trivial⟩ ?_
    refine aw_callE rfl rfl (ev_Model_fastMany  hn hn10) ?_
    show aw_W _ _ _ _ (10, [some (.ref 46), some (.int what)], [.int (sumF (α 38) (n - 1))]) (ae_en σ α z t0 ts)
    refine aw_ret rfl rfl trivial ?_
    refine ⟨?_, rfl⟩
    rw [aCount, if_neg h1_0, if_neg h1_1, if_pos h1_2]
    all_goals rfl
  refine aw_sw (x := what) (fun h1_3 => ?_) (fun h1_3 => ?_)
  · skip
    show aw_W _ _ _ _ (11, [some (.ref 46), some (.int what)], []) (ae_en σ α z t0 ts)
    refine aw_go 2 rfl ⟨trivial, trivial, trivial⟩ ?_
    show aw_W _ _ _ _ (13, [some (.ref 46), some (.int what)], [.int (σ 28)]) (ae_en σ α z t0 ts)
    refine aw_ret rfl rfl trivial ?_
    refine ⟨?_, rfl⟩
    rw [aCount, if_neg h1_0, if_neg h1_1, if_neg h1_2, if_pos h1_3]
    all_goals rfl
  refine aw_sw (x := what) (fun h1_4 => ?_) (fun h1_4 => ?_)
  · skip
    show aw_W _ _ _ _ (14, [some (.ref 46), some (.int what)], []) (ae_en σ α z t0 ts)
    refine aw_go 2 rfl ⟨trivial, trivial, trivial⟩ ?_
    show aw_W _ _ _ _ (16, [some (.ref 46), some (.int what)], [.int (σ 32)]) (ae_en σ α z t0 ts)
    refine aw_ret rfl rfl trivial ?_
    refine ⟨?_, rfl⟩
    rw [aCount, if_neg h1_0, if_neg h1_1, if_neg h1_2, if_neg h1_3, if_pos h1_4]
    all_goals rfl
  refine aw_sw (x := what) (fun h1_5 => ?_) (fun h1_5 => ?_)
  · skip
    show aw_W _ _ _ _ (17, [some (.ref 46), some (.int what)], []) (ae_en σ α z t0 ts)
    refine aw_go 2 rfl ⟨trivial, trivial, trivial⟩ ?_
    show aw_W _ _ _ _ (19, [some (.ref 46), some (.int what)], [.int (σ 31)]) (ae_en σ α z t0 ts)
    refine aw_ret rfl rfl trivial ?_
    refine ⟨?_, rfl⟩
    rw [aCount, if_neg h1_0, if_neg h1_1, if_neg h1_2, if_neg h1_3, if_neg h1_4, if_pos h1_5]
    all_goals rfl
  refine aw_sw (x := what) (fun h1_6 => ?_) (fun h1_6 => ?_)
  · skip
    show aw_W _ _ _ _ (20, [some (.ref 46), some (.int what)], []) (ae_en σ α z t0 ts)
    refine aw_go 2 rfl ⟨trivial, trivial, trivial⟩ ?_
    show aw_W _ _ _ _ (22, [some (.ref 46), some (.int what)], [.int (σ 33)]) (ae_en σ α z t0 ts)
    refine aw_ret rfl rfl trivial ?_
    refine ⟨?_, rfl⟩
    rw [aCount, if_neg h1_0, if_neg h1_1, if_neg h1_2, if_neg h1_3, if_neg h1_4, if_neg h1_5, if_pos h1_6]
    all_goals rfl
  refine aw_sw (x := what) (fun h1_7 => ?_) (fun h1_7 => ?_)
  · skip
    show aw_W _ _ _ _ (23, [some (.ref 46), some (.int what)], []) (ae_en σ α z t0 ts)
    refine aw_go 2 rfl ⟨trivial, trivial, trivial⟩ ?_
    show aw_W _ _ _ _ (25, [some (.ref 46), some (.int what)], [.int (σ 29)]) (ae_en σ α z t0 ts)
    refine aw_ret rfl rfl trivial ?_
    refine ⟨?_, rfl⟩
    rw [aCount, if_neg h1_0, if_neg h1_1, if_neg h1_2, if_neg h1_3, if_neg h1_4, if_neg h1_5, if_neg h1_6, if_pos h1_7]
    all_goals rfl
  refine aw_sw (x := what) (fun h1_8 => ?_) (fun h1_8 => ?_)
  · skip
    show aw_W _ _ _ _ (26, [some (.ref 46), some (.int what)], []) (ae_en σ α z t0 ts)
    refine aw_go 2 rfl ⟨trivial, trivial, trivial⟩ ?_
    show aw_W _ _ _ _ (28, [some (.ref 46), some (.int what)], [.int (σ 30)]) (ae_en σ α z t0 ts)
    refine aw_ret rfl rfl trivial ?_
    refine ⟨?_, rfl⟩
    rw [aCount, if_neg h1_0, if_neg h1_1, if_neg h1_2, if_neg h1_3, if_neg h1_4, if_neg h1_5, if_neg h1_6, if_neg h1_7, if_pos h1_8]
    all_goals rfl
  refine aw_sw (x := what) (fun h1_9 => ?_) (fun h1_9 => ?_)
  · skip
    show aw_W _ _ _ _ (29, [some (.ref 46), some (.int what)], []) (ae_en σ α z t0 ts)
    refine aw_go 1 rfl ⟨trivial, trivial⟩ ?_
    refine aw_callE rfl rfl (ev_Model_allNails  hn hn10) ?_
    show aw_W _ _ _ _ (31, [some (.ref 46), some (.int what)], [.int (sumF (α 34) n)]) (ae_en σ α z t0 ts)
    refine aw_ret rfl rfl trivial ?_
    refine ⟨?_, rfl⟩
    rw [aCount, if_neg h1_0, if_neg h1_1, if_neg h1_2, if_neg h1_3, if_neg h1_4, if_neg h1_5, if_neg h1_6, if_neg h1_7, if_neg h1_8, if_pos h1_9]
    all_goals rfl
  show aw_W _ _ _ _ (32, [some (.ref 46), some (.int what)], []) (ae_en σ α z t0 ts)
  refine aw_go 1 rfl ⟨trivial, trivial⟩ ?_
  refine aw_ret rfl rfl trivial ?_
  refine ⟨?_, rfl⟩
  rw [aCount, if_neg h1_0, if_neg h1_1, if_neg h1_2, if_neg h1_3, if_neg h1_4, if_neg h1_5, if_neg h1_6, if_neg h1_7, if_neg h1_8, if_neg h1_9]
  all_goals rfl
theorem em_run_0 {n : Nat} {B : ae_B} {N x : Nat} {W : Nat → Nat → Int32} {j : Nat} {zd : Nat} (hM : mOk B n (σ 27) (σ 29) (σ 33) (α 31) (α 32) (α 33) (α 40) (α 41) (α 42)) (hD : W = wD B n (α 35) (σ 28)) (hw : wOk n (α 35)) (hv : vOk n 200 (α 36)) (hs : vOk n 100 (α 37)) (hx : (σ 28) = nI x) (hx9 : x ≤ 9999) (hN : N ≤ 60) (hnl : nOk n (α 34)) (hN1 : 1 ≤ N) (hj : j + 1 < n) : aw_X P (zd + 7) 156 [.ref 46, .int (nI N), .int (nI j), .int 0] (ae_en σ α z t0 ts) (fun r H => ∃ (mg : Int32) (md : Int32) (mw : Int32) (mc : Int32) (pl : Nat → Int32) (fr : Nat → Int32) (tk : Nat → Int32) (ww : Nat → Int32) (wg : Nat → Int32) (wf : Nat → Int32) (zq : Int64), r = some (.long ((gOp B N W (α 36) (α 37) (α 38) N j).toInt64)) ∧ H = (ae_en (au σ [(41, mg), (42, md), (43, mw), (44, mc)]) (au α [(43, pl), (44, fr), (47, tk), (48, ww), (49, wg), (50, wf)]) zq t0 ts)) := by
  obtain ⟨hn, hn10, hs3, hk0, hk1, hk2, hbo, hru⟩ := id hM
  have hWk : ∀ d, wOk n (W d) := fun d => by rw [hD]; exact wD_ok hbo hw d
  have hgv : bnd ((vD B n N W (α 36) (α 37) (α 38) N) j) 200 := by rw [vD, fC_lt (by omega)]; exact gWd_b hbo hWk hj (hv j hj) (hs j hj)
  refine aw_ev (cd := cd_Model_run) rfl rfl rfl ?_
  show aw_W _ _ _ _ (0, [some (.ref 46), some (.int (nI N)), some (.int (nI j)), some (.int 0), none, none], []) (ae_en σ α z t0 ts)
  refine aw_go 1 rfl ⟨trivial, trivial⟩ ?_
  refine aw_callE rfl rfl (ev_Model_isRun (x := (nI N))) ?_
  show aw_W _ _ _ _ (2, [some (.ref 46), some (.int (nI N)), some (.int (nI j)), some (.int 0), none, none], [.int (bI (¬ (nI N) < 1 ∧ ¬ 60 < (nI N)))]) (ae_en σ α z t0 ts)
  refine aw_go 1 rfl ⟨trivial, trivial⟩ ?_
  refine aw_br (c := (bI (¬ (nI N) < 1 ∧ ¬ 60 < (nI N))) = 0) (fun h2 => ?_) (fun h2 => ?_)
  · skip
    have h2 := bI_f h2
    show aw_W _ _ _ _ (22, [some (.ref 46), some (.int (nI N)), some (.int (nI j)), some (.int 0), none, none], []) (ae_en σ α z t0 ts)
    exact absurd ⟨nI_nlt (b := 1) hN1 (by omega), nI_nlt (a := 60) hN (by decide)⟩ h2
  · skip
    have h2 := bI_t h2
    show aw_W _ _ _ _ (3, [some (.ref 46), some (.int (nI N)), some (.int (nI j)), some (.int 0), none, none], []) (ae_en σ α z t0 ts)
    refine aw_go 3 rfl ⟨trivial, trivial, trivial, trivial⟩ ?_
    refine aw_callE rfl rfl (em_in (v := 0) (a := 0) (b := 4)) ?_
    show aw_W _ _ _ _ (7, [some (.ref 46), some (.int (nI N)), some (.int (nI j)), some (.int 0), none, none], [.int (bI (¬ 0 < 0 ∧ ¬ 4 < 0))]) (ae_en σ α z t0 ts)
    refine aw_go 1 rfl ⟨trivial, trivial⟩ ?_
    refine aw_br (c := (bI (¬ 0 < 0 ∧ ¬ 4 < 0)) = 0) (fun h7 => ?_) (fun h7 => ?_)
    · skip
      have h7 := bI_f h7
      show aw_W _ _ _ _ (22, [some (.ref 46), some (.int (nI N)), some (.int (nI j)), some (.int 0), none, none], []) (ae_en σ α z t0 ts)
      exact absurd (by decide) h7
    · skip
      have h7 := bI_t h7
      show aw_W _ _ _ _ (8, [some (.ref 46), some (.int (nI N)), some (.int (nI j)), some (.int 0), none, none], []) (ae_en σ α z t0 ts)
      refine aw_go 3 rfl ⟨trivial, trivial, trivial, trivial⟩ ?_
      refine aw_br (c := (2 : Int32) ≤ (0 : Int32)) (fun h10 => ?_) (fun h10 => ?_)
      · skip
        have h10 := cI_leT (a := 2) (b := 0) rfl rfl (by omega) (by omega) h10
        show aw_W _ _ _ _ (15, [some (.ref 46), some (.int (nI N)), some (.int (nI j)), some (.int 0), none, none], []) (ae_en σ α z t0 ts)
        exact absurd h10 (by decide)
      · skip
        have h10 := cI_leF (a := 2) (b := 0) rfl rfl (by omega) (by omega) h10
        show aw_W _ _ _ _ (11, [some (.ref 46), some (.int (nI N)), some (.int (nI j)), some (.int 0), none, none], []) (ae_en σ α z t0 ts)
        refine aw_go 2 rfl ⟨trivial, trivial, trivial⟩ ?_
        refine aw_callE rfl rfl (em_isGap (p := (nI j)) hn hn10) ?_
        show aw_W _ _ _ _ (14, [some (.ref 46), some (.int (nI N)), some (.int (nI j)), some (.int 0), none, none], [.int (bI (iP (n - 1) (nI j)))]) (ae_en σ α z t0 ts)
        refine aw_go 1 rfl ⟨trivial, trivial⟩ ?_
        refine aw_br (c := (bI (iP (n - 1) (nI j))) = 0) (fun h14 => ?_) (fun h14 => ?_)
        · skip
          have h14 := bI_f h14
          show aw_W _ _ _ _ (22, [some (.ref 46), some (.int (nI N)), some (.int (nI j)), some (.int 0), none, none], []) (ae_en σ α z t0 ts)
          exact absurd (iP_nI (by omega) (by omega)) h14
        · skip
          have h14 := bI_t h14
          show aw_W _ _ _ _ (15, [some (.ref 46), some (.int (nI N)), some (.int (nI j)), some (.int 0), none, none], []) (ae_en σ α z t0 ts)
          refine aw_go 3 rfl ⟨trivial, trivial, trivial, trivial⟩ ?_
          refine aw_br (c := ¬ (0 : Int32) = 2) (fun h17 => ?_) (fun h17 => ?_)
          · skip
            have h17 := cI_eqF (a := 0) (b := 2) rfl rfl (by omega) (by omega) h17
            show aw_W _ _ _ _ (24, [some (.ref 46), some (.int (nI N)), some (.int (nI j)), some (.int 0), none, none], []) (ae_en σ α z t0 ts)
            refine aw_go 1 rfl ⟨trivial, trivial⟩ ?_
            refine aw_call rfl rfl (ev_Model_keepNow) ?_
            rintro _ _ ⟨rfl, rfl⟩
            show aw_W _ _ _ _ (26, [some (.ref 46), some (.int (nI N)), some (.int (nI j)), some (.int 0), none, none], []) (ae_en (au σ [(42, (σ 28))]) (au α [(48, fC 10 (α 35) (α 48)), (49, fC 10 (α 36) (α 49)), (50, fC 10 (α 38) (α 50))]) z t0 ts)
            refine aw_go 2 rfl ⟨trivial, trivial, trivial⟩ ?_
            refine aw_call rfl rfl (ev_Model_water (N := N) hM hD hw hv hs hx hx9 hN hnl) ?_
            rintro _ _ ⟨pl2_28, fr2_28, tk2_28, rfl, rfl⟩
            show aw_W _ _ _ _ (29, [some (.ref 46), some (.int (nI N)), some (.int (nI j)), some (.int 0), none, none], []) (ae_en (au σ [(28, (dyA (σ 28) N)), (41, (gGN B N W (α 36) (α 37) (α 38) N (n - 1))), (42, (σ 28))]) (au α [(35, (W N)), (36, (vD B n N W (α 36) (α 37) (α 38) N)), (38, (fD B n N W (α 36) (α 37) (α 38) N)), (43, pl2_28), (44, fr2_28), (47, tk2_28), (48, fC 10 (α 35) (α 48)), (49, fC 10 (α 36) (α 49)), (50, fC 10 (α 38) (α 50))]) ((gCI B n N W (α 36) (α 37) (α 38) (σ 28) (sumF (α 34) n) N).toInt64) t0 ts)
            refine aw_go 2 rfl ⟨trivial, trivial, trivial⟩ ?_
            refine aw_br (c := ¬ (0 : Int32) = 0) (fun h30 => ?_) (fun h30 => ?_)
            · skip
              have h30 := cI_eqF (a := 0) (b := 0) rfl rfl (by omega) (by omega) h30
              show aw_W _ _ _ _ (36, [some (.ref 46), some (.int (nI N)), some (.int (nI j)), some (.int 0), none, none], []) (ae_en (au σ [(28, (dyA (σ 28) N)), (41, (gGN B N W (α 36) (α 37) (α 38) N (n - 1))), (42, (σ 28))]) (au α [(35, (W N)), (36, (vD B n N W (α 36) (α 37) (α 38) N)), (38, (fD B n N W (α 36) (α 37) (α 38) N)), (43, pl2_28), (44, fr2_28), (47, tk2_28), (48, fC 10 (α 35) (α 48)), (49, fC 10 (α 36) (α 49)), (50, fC 10 (α 38) (α 50))]) ((gCI B n N W (α 36) (α 37) (α 38) (σ 28) (sumF (α 34) n) N).toInt64) t0 ts)
              exact absurd h30 (by decide)
            · skip
              have h30 := Classical.not_not.mp h30
              have h30 := cI_eqT (a := 0) (b := 0) rfl rfl (by omega) (by omega) h30
              show aw_W _ _ _ _ (31, [some (.ref 46), some (.int (nI N)), some (.int (nI j)), some (.int 0), none, none], []) (ae_en (au σ [(28, (dyA (σ 28) N)), (41, (gGN B N W (α 36) (α 37) (α 38) N (n - 1))), (42, (σ 28))]) (au α [(35, (W N)), (36, (vD B n N W (α 36) (α 37) (α 38) N)), (38, (fD B n N W (α 36) (α 37) (α 38) N)), (43, pl2_28), (44, fr2_28), (47, tk2_28), (48, fC 10 (α 35) (α 48)), (49, fC 10 (α 36) (α 49)), (50, fC 10 (α 38) (α 50))]) ((gCI B n N W (α 36) (α 37) (α 38) (σ 28) (sumF (α 34) n) N).toInt64) t0 ts)
              refine aw_go 2 rfl ⟨trivial, trivial, trivial⟩ ?_
              refine aw_callE rfl rfl (ev_Model_openOf (g := j) hM (hWk _) hj) ?_
              show aw_W _ _ _ _ (34, [some (.ref 46), some (.int (nI N)), some (.int (nI j)), some (.int 0), none, none], [.int (rOp B (W N) (vD B n N W (α 36) (α 37) (α 38) N) (α 37) j)]) (ae_en (au σ [(28, (dyA (σ 28) N)), (41, (gGN B N W (α 36) (α 37) (α 38) N (n - 1))), (42, (σ 28))]) (au α [(35, (W N)), (36, (vD B n N W (α 36) (α 37) (α 38) N)), (38, (fD B n N W (α 36) (α 37) (α 38) N)), (43, pl2_28), (44, fr2_28), (47, tk2_28), (48, fC 10 (α 35) (α 48)), (49, fC 10 (α 36) (α 49)), (50, fC 10 (α 38) (α 50))]) ((gCI B n N W (α 36) (α 37) (α 38) (σ 28) (sumF (α 34) n) N).toInt64) t0 ts)
              refine aw_go 4 rfl ⟨trivial, trivial, trivial, trivial, trivial⟩ ?_
              show aw_W _ _ _ _ (64, [some (.ref 46), some (.int (nI N)), some (.int (nI j)), some (.int 0), some (.long ((rOp B (W N) (vD B n N W (α 36) (α 37) (α 38) N) (α 37) j).toInt64)), none], [.ref 46]) (ae_en (au σ [(28, (dyA (σ 28) N)), (41, (gGN B N W (α 36) (α 37) (α 38) N (n - 1))), (42, (σ 28))]) (au α [(35, (W N)), (36, (vD B n N W (α 36) (α 37) (α 38) N)), (38, (fD B n N W (α 36) (α 37) (α 38) N)), (43, pl2_28), (44, fr2_28), (47, tk2_28), (48, fC 10 (α 35) (α 48)), (49, fC 10 (α 36) (α 49)), (50, fC 10 (α 38) (α 50))]) ((gCI B n N W (α 36) (α 37) (α 38) (σ 28) (sumF (α 34) n) N).toInt64) t0 ts)
              refine aw_call rfl rfl (ev_Model_layBack) ?_
              rintro _ _ ⟨rfl, rfl⟩
              show aw_W _ _ _ _ (65, [some (.ref 46), some (.int (nI N)), some (.int (nI j)), some (.int 0), some (.long ((rOp B (W N) (vD B n N W (α 36) (α 37) (α 38) N) (α 37) j).toInt64)), none], []) (ae_en (au σ [(28, (σ 28)), (41, (gGN B N W (α 36) (α 37) (α 38) N (n - 1))), (42, (σ 28))]) (au α [(35, fC 10 (fC 10 (α 35) (α 48)) (W N)), (36, fC 10 (fC 10 (α 36) (α 49)) (vD B n N W (α 36) (α 37) (α 38) N)), (38, fC 10 (fC 10 (α 38) (α 50)) (fD B n N W (α 36) (α 37) (α 38) N)), (43, pl2_28), (44, fr2_28), (47, tk2_28), (48, fC 10 (α 35) (α 48)), (49, fC 10 (α 36) (α 49)), (50, fC 10 (α 38) (α 50))]) ((gCI B n N W (α 36) (α 37) (α 38) (σ 28) (sumF (α 34) n) N).toInt64) t0 ts)
              rw [show fC 10 (fC 10 (α 35) (α 48)) (W N) = (α 35) from lb_eq (fun j hj => by rw [hD]; exact wD_out (by omega) _), show fC 10 (fC 10 (α 36) (α 49)) (vD B n N W (α 36) (α 37) (α 38) N) = (α 36) from lb_eq (fun j hj => vD_out (by omega)), show fC 10 (fC 10 (α 38) (α 50)) (fD B n N W (α 36) (α 37) (α 38) N) = (α 38) from lb_eq (fun j hj => fD_out (by omega))]
              show aw_W _ _ _ _ (65, [some (.ref 46), some (.int (nI N)), some (.int (nI j)), some (.int 0), some (.long ((rOp B (W N) (vD B n N W (α 36) (α 37) (α 38) N) (α 37) j).toInt64)), none], []) (ae_en (au σ [(41, (gGN B N W (α 36) (α 37) (α 38) N (n - 1))), (42, (σ 28))]) (au α [(43, pl2_28), (44, fr2_28), (47, tk2_28), (48, fC 10 (α 35) (α 48)), (49, fC 10 (α 36) (α 49)), (50, fC 10 (α 38) (α 50))]) ((gCI B n N W (α 36) (α 37) (α 38) (σ 28) (sumF (α 34) n) N).toInt64) t0 ts)
              refine aw_go 1 rfl ⟨trivial, trivial⟩ ?_
              refine aw_ret rfl rfl trivial ?_
              refine ⟨(gGN B N W (α 36) (α 37) (α 38) N (n - 1)), (σ 28), σ 43, σ 44, pl2_28, fr2_28, tk2_28, fC 10 (α 35) (α 48), fC 10 (α 36) (α 49), fC 10 (α 38) (α 50), (gCI B n N W (α 36) (α 37) (α 38) (σ 28) (sumF (α 34) n) N).toInt64, ?_, rfl⟩
              rw [show rOp B (W N) (vD B n N W (α 36) (α 37) (α 38) N) (α 37) j = gOp B N W (α 36) (α 37) (α 38) N j from by unfold rOp gOp gLd vD; rw [fC_lt (by omega)]]
          · skip
            have h17 := Classical.not_not.mp h17
            have h17 := cI_eqT (a := 0) (b := 2) rfl rfl (by omega) (by omega) h17
            show aw_W _ _ _ _ (18, [some (.ref 46), some (.int (nI N)), some (.int (nI j)), some (.int 0), none, none], []) (ae_en σ α z t0 ts)
            exact absurd h17 (by decide)
theorem em_run_1 {n : Nat} {B : ae_B} {N x : Nat} {W : Nat → Nat → Int32} {j : Nat} {zd : Nat} (hM : mOk B n (σ 27) (σ 29) (σ 33) (α 31) (α 32) (α 33) (α 40) (α 41) (α 42)) (hD : W = wD B n (α 35) (σ 28)) (hw : wOk n (α 35)) (hv : vOk n 200 (α 36)) (hs : vOk n 100 (α 37)) (hx : (σ 28) = nI x) (hx9 : x ≤ 9999) (hN : N ≤ 60) (hnl : nOk n (α 34)) (hN1 : 1 ≤ N) (hj : j + 1 < n) : aw_X P (zd + 7) 156 [.ref 46, .int (nI N), .int (nI j), .int 1] (ae_en σ α z t0 ts) (fun r H => ∃ (mg : Int32) (md : Int32) (mw : Int32) (mc : Int32) (pl : Nat → Int32) (fr : Nat → Int32) (tk : Nat → Int32) (ww : Nat → Int32) (wg : Nat → Int32) (wf : Nat → Int32) (zq : Int64), r = some (.long ((gPr B N W (α 36) (α 37) (α 38) N j).toInt64)) ∧ H = (ae_en (au σ [(41, mg), (42, md), (43, mw), (44, mc)]) (au α [(43, pl), (44, fr), (47, tk), (48, ww), (49, wg), (50, wf)]) zq t0 ts)) := by
  obtain ⟨hn, hn10, hs3, hk0, hk1, hk2, hbo, hru⟩ := id hM
  have hWk : ∀ d, wOk n (W d) := fun d => by rw [hD]; exact wD_ok hbo hw d
  have hgv : bnd ((vD B n N W (α 36) (α 37) (α 38) N) j) 200 := by rw [vD, fC_lt (by omega)]; exact gWd_b hbo hWk hj (hv j hj) (hs j hj)
  refine aw_ev (cd := cd_Model_run) rfl rfl rfl ?_
  show aw_W _ _ _ _ (0, [some (.ref 46), some (.int (nI N)), some (.int (nI j)), some (.int 1), none, none], []) (ae_en σ α z t0 ts)
  refine aw_go 1 rfl ⟨trivial, trivial⟩ ?_
  refine aw_callE rfl rfl (ev_Model_isRun (x := (nI N))) ?_
  show aw_W _ _ _ _ (2, [some (.ref 46), some (.int (nI N)), some (.int (nI j)), some (.int 1), none, none], [.int (bI (¬ (nI N) < 1 ∧ ¬ 60 < (nI N)))]) (ae_en σ α z t0 ts)
  refine aw_go 1 rfl ⟨trivial, trivial⟩ ?_
  refine aw_br (c := (bI (¬ (nI N) < 1 ∧ ¬ 60 < (nI N))) = 0) (fun h2 => ?_) (fun h2 => ?_)
  · skip
    have h2 := bI_f h2
    show aw_W _ _ _ _ (22, [some (.ref 46), some (.int (nI N)), some (.int (nI j)), some (.int 1), none, none], []) (ae_en σ α z t0 ts)
    exact absurd ⟨nI_nlt (b := 1) hN1 (by omega), nI_nlt (a := 60) hN (by decide)⟩ h2
  · skip
    have h2 := bI_t h2
    show aw_W _ _ _ _ (3, [some (.ref 46), some (.int (nI N)), some (.int (nI j)), some (.int 1), none, none], []) (ae_en σ α z t0 ts)
    refine aw_go 3 rfl ⟨trivial, trivial, trivial, trivial⟩ ?_
    refine aw_callE rfl rfl (em_in (v := 1) (a := 0) (b := 4)) ?_
    show aw_W _ _ _ _ (7, [some (.ref 46), some (.int (nI N)), some (.int (nI j)), some (.int 1), none, none], [.int (bI (¬ 1 < 0 ∧ ¬ 4 < 1))]) (ae_en σ α z t0 ts)
    refine aw_go 1 rfl ⟨trivial, trivial⟩ ?_
    refine aw_br (c := (bI (¬ 1 < 0 ∧ ¬ 4 < 1)) = 0) (fun h7 => ?_) (fun h7 => ?_)
    · skip
      have h7 := bI_f h7
      show aw_W _ _ _ _ (22, [some (.ref 46), some (.int (nI N)), some (.int (nI j)), some (.int 1), none, none], []) (ae_en σ α z t0 ts)
      exact absurd (by decide) h7
    · skip
      have h7 := bI_t h7
      show aw_W _ _ _ _ (8, [some (.ref 46), some (.int (nI N)), some (.int (nI j)), some (.int 1), none, none], []) (ae_en σ α z t0 ts)
      refine aw_go 3 rfl ⟨trivial, trivial, trivial, trivial⟩ ?_
      refine aw_br (c := (2 : Int32) ≤ (1 : Int32)) (fun h10 => ?_) (fun h10 => ?_)
      · skip
        have h10 := cI_leT (a := 2) (b := 1) rfl rfl (by omega) (by omega) h10
        show aw_W _ _ _ _ (15, [some (.ref 46), some (.int (nI N)), some (.int (nI j)), some (.int 1), none, none], []) (ae_en σ α z t0 ts)
        exact absurd h10 (by decide)
      · skip
        have h10 := cI_leF (a := 2) (b := 1) rfl rfl (by omega) (by omega) h10
        show aw_W _ _ _ _ (11, [some (.ref 46), some (.int (nI N)), some (.int (nI j)), some (.int 1), none, none], []) (ae_en σ α z t0 ts)
        refine aw_go 2 rfl ⟨trivial, trivial, trivial⟩ ?_
        refine aw_callE rfl rfl (em_isGap (p := (nI j)) hn hn10) ?_
        show aw_W _ _ _ _ (14, [some (.ref 46), some (.int (nI N)), some (.int (nI j)), some (.int 1), none, none], [.int (bI (iP (n - 1) (nI j)))]) (ae_en σ α z t0 ts)
        refine aw_go 1 rfl ⟨trivial, trivial⟩ ?_
        refine aw_br (c := (bI (iP (n - 1) (nI j))) = 0) (fun h14 => ?_) (fun h14 => ?_)
        · skip
          have h14 := bI_f h14
          show aw_W _ _ _ _ (22, [some (.ref 46), some (.int (nI N)), some (.int (nI j)), some (.int 1), none, none], []) (ae_en σ α z t0 ts)
          exact absurd (iP_nI (by omega) (by omega)) h14
        · skip
          have h14 := bI_t h14
          show aw_W _ _ _ _ (15, [some (.ref 46), some (.int (nI N)), some (.int (nI j)), some (.int 1), none, none], []) (ae_en σ α z t0 ts)
          refine aw_go 3 rfl ⟨trivial, trivial, trivial, trivial⟩ ?_
          refine aw_br (c := ¬ (1 : Int32) = 2) (fun h17 => ?_) (fun h17 => ?_)
          · skip
            have h17 := cI_eqF (a := 1) (b := 2) rfl rfl (by omega) (by omega) h17
            show aw_W _ _ _ _ (24, [some (.ref 46), some (.int (nI N)), some (.int (nI j)), some (.int 1), none, none], []) (ae_en σ α z t0 ts)
            refine aw_go 1 rfl ⟨trivial, trivial⟩ ?_
            refine aw_call rfl rfl (ev_Model_keepNow) ?_
            rintro _ _ ⟨rfl, rfl⟩
            show aw_W _ _ _ _ (26, [some (.ref 46), some (.int (nI N)), some (.int (nI j)), some (.int 1), none, none], []) (ae_en (au σ [(42, (σ 28))]) (au α [(48, fC 10 (α 35) (α 48)), (49, fC 10 (α 36) (α 49)), (50, fC 10 (α 38) (α 50))]) z t0 ts)
            refine aw_go 2 rfl ⟨trivial, trivial, trivial⟩ ?_
            refine aw_call rfl rfl (ev_Model_water (N := N) hM hD hw hv hs hx hx9 hN hnl) ?_
            rintro _ _ ⟨pl2_28, fr2_28, tk2_28, rfl, rfl⟩
            show aw_W _ _ _ _ (29, [some (.ref 46), some (.int (nI N)), some (.int (nI j)), some (.int 1), none, none], []) (ae_en (au σ [(28, (dyA (σ 28) N)), (41, (gGN B N W (α 36) (α 37) (α 38) N (n - 1))), (42, (σ 28))]) (au α [(35, (W N)), (36, (vD B n N W (α 36) (α 37) (α 38) N)), (38, (fD B n N W (α 36) (α 37) (α 38) N)), (43, pl2_28), (44, fr2_28), (47, tk2_28), (48, fC 10 (α 35) (α 48)), (49, fC 10 (α 36) (α 49)), (50, fC 10 (α 38) (α 50))]) ((gCI B n N W (α 36) (α 37) (α 38) (σ 28) (sumF (α 34) n) N).toInt64) t0 ts)
            refine aw_go 2 rfl ⟨trivial, trivial, trivial⟩ ?_
            refine aw_br (c := ¬ (1 : Int32) = 0) (fun h30 => ?_) (fun h30 => ?_)
            · skip
              have h30 := cI_eqF (a := 1) (b := 0) rfl rfl (by omega) (by omega) h30
              show aw_W _ _ _ _ (36, [some (.ref 46), some (.int (nI N)), some (.int (nI j)), some (.int 1), none, none], []) (ae_en (au σ [(28, (dyA (σ 28) N)), (41, (gGN B N W (α 36) (α 37) (α 38) N (n - 1))), (42, (σ 28))]) (au α [(35, (W N)), (36, (vD B n N W (α 36) (α 37) (α 38) N)), (38, (fD B n N W (α 36) (α 37) (α 38) N)), (43, pl2_28), (44, fr2_28), (47, tk2_28), (48, fC 10 (α 35) (α 48)), (49, fC 10 (α 36) (α 49)), (50, fC 10 (α 38) (α 50))]) ((gCI B n N W (α 36) (α 37) (α 38) (σ 28) (sumF (α 34) n) N).toInt64) t0 ts)
              refine aw_go 3 rfl ⟨trivial, trivial, trivial, trivial⟩ ?_
              refine aw_br (c := ¬ (1 : Int32) = 1) (fun h38 => ?_) (fun h38 => ?_)
              · skip
                have h38 := cI_eqF (a := 1) (b := 1) rfl rfl (by omega) (by omega) h38
                show aw_W _ _ _ _ (44, [some (.ref 46), some (.int (nI N)), some (.int (nI j)), some (.int 1), none, none], []) (ae_en (au σ [(28, (dyA (σ 28) N)), (41, (gGN B N W (α 36) (α 37) (α 38) N (n - 1))), (42, (σ 28))]) (au α [(35, (W N)), (36, (vD B n N W (α 36) (α 37) (α 38) N)), (38, (fD B n N W (α 36) (α 37) (α 38) N)), (43, pl2_28), (44, fr2_28), (47, tk2_28), (48, fC 10 (α 35) (α 48)), (49, fC 10 (α 36) (α 49)), (50, fC 10 (α 38) (α 50))]) ((gCI B n N W (α 36) (α 37) (α 38) (σ 28) (sumF (α 34) n) N).toInt64) t0 ts)
                exact absurd h38 (by decide)
              · skip
                have h38 := Classical.not_not.mp h38
                have h38 := cI_eqT (a := 1) (b := 1) rfl rfl (by omega) (by omega) h38
                show aw_W _ _ _ _ (39, [some (.ref 46), some (.int (nI N)), some (.int (nI j)), some (.int 1), none, none], []) (ae_en (au σ [(28, (dyA (σ 28) N)), (41, (gGN B N W (α 36) (α 37) (α 38) N (n - 1))), (42, (σ 28))]) (au α [(35, (W N)), (36, (vD B n N W (α 36) (α 37) (α 38) N)), (38, (fD B n N W (α 36) (α 37) (α 38) N)), (43, pl2_28), (44, fr2_28), (47, tk2_28), (48, fC 10 (α 35) (α 48)), (49, fC 10 (α 36) (α 49)), (50, fC 10 (α 38) (α 50))]) ((gCI B n N W (α 36) (α 37) (α 38) (σ 28) (sumF (α 34) n) N).toInt64) t0 ts)
                refine aw_go 2 rfl ⟨trivial, trivial, trivial⟩ ?_
                refine aw_callE rfl rfl (ev_Model_pressOf (g := j) hM (hWk _) hj hgv (hs j hj)) ?_
                show aw_W _ _ _ _ (42, [some (.ref 46), some (.int (nI N)), some (.int (nI j)), some (.int 1), none, none], [.int (rPr B (W N) (vD B n N W (α 36) (α 37) (α 38) N) (α 37) j)]) (ae_en (au σ [(28, (dyA (σ 28) N)), (41, (gGN B N W (α 36) (α 37) (α 38) N (n - 1))), (42, (σ 28))]) (au α [(35, (W N)), (36, (vD B n N W (α 36) (α 37) (α 38) N)), (38, (fD B n N W (α 36) (α 37) (α 38) N)), (43, pl2_28), (44, fr2_28), (47, tk2_28), (48, fC 10 (α 35) (α 48)), (49, fC 10 (α 36) (α 49)), (50, fC 10 (α 38) (α 50))]) ((gCI B n N W (α 36) (α 37) (α 38) (σ 28) (sumF (α 34) n) N).toInt64) t0 ts)
                refine aw_go 4 rfl ⟨trivial, trivial, trivial, trivial, trivial⟩ ?_
                show aw_W _ _ _ _ (64, [some (.ref 46), some (.int (nI N)), some (.int (nI j)), some (.int 1), some (.long ((rPr B (W N) (vD B n N W (α 36) (α 37) (α 38) N) (α 37) j).toInt64)), none], [.ref 46]) (ae_en (au σ [(28, (dyA (σ 28) N)), (41, (gGN B N W (α 36) (α 37) (α 38) N (n - 1))), (42, (σ 28))]) (au α [(35, (W N)), (36, (vD B n N W (α 36) (α 37) (α 38) N)), (38, (fD B n N W (α 36) (α 37) (α 38) N)), (43, pl2_28), (44, fr2_28), (47, tk2_28), (48, fC 10 (α 35) (α 48)), (49, fC 10 (α 36) (α 49)), (50, fC 10 (α 38) (α 50))]) ((gCI B n N W (α 36) (α 37) (α 38) (σ 28) (sumF (α 34) n) N).toInt64) t0 ts)
                refine aw_call rfl rfl (ev_Model_layBack) ?_
                rintro _ _ ⟨rfl, rfl⟩
                show aw_W _ _ _ _ (65, [some (.ref 46), some (.int (nI N)), some (.int (nI j)), some (.int 1), some (.long ((rPr B (W N) (vD B n N W (α 36) (α 37) (α 38) N) (α 37) j).toInt64)), none], []) (ae_en (au σ [(28, (σ 28)), (41, (gGN B N W (α 36) (α 37) (α 38) N (n - 1))), (42, (σ 28))]) (au α [(35, fC 10 (fC 10 (α 35) (α 48)) (W N)), (36, fC 10 (fC 10 (α 36) (α 49)) (vD B n N W (α 36) (α 37) (α 38) N)), (38, fC 10 (fC 10 (α 38) (α 50)) (fD B n N W (α 36) (α 37) (α 38) N)), (43, pl2_28), (44, fr2_28), (47, tk2_28), (48, fC 10 (α 35) (α 48)), (49, fC 10 (α 36) (α 49)), (50, fC 10 (α 38) (α 50))]) ((gCI B n N W (α 36) (α 37) (α 38) (σ 28) (sumF (α 34) n) N).toInt64) t0 ts)
                rw [show fC 10 (fC 10 (α 35) (α 48)) (W N) = (α 35) from lb_eq (fun j hj => by rw [hD]; exact wD_out (by omega) _), show fC 10 (fC 10 (α 36) (α 49)) (vD B n N W (α 36) (α 37) (α 38) N) = (α 36) from lb_eq (fun j hj => vD_out (by omega)), show fC 10 (fC 10 (α 38) (α 50)) (fD B n N W (α 36) (α 37) (α 38) N) = (α 38) from lb_eq (fun j hj => fD_out (by omega))]
                show aw_W _ _ _ _ (65, [some (.ref 46), some (.int (nI N)), some (.int (nI j)), some (.int 1), some (.long ((rPr B (W N) (vD B n N W (α 36) (α 37) (α 38) N) (α 37) j).toInt64)), none], []) (ae_en (au σ [(41, (gGN B N W (α 36) (α 37) (α 38) N (n - 1))), (42, (σ 28))]) (au α [(43, pl2_28), (44, fr2_28), (47, tk2_28), (48, fC 10 (α 35) (α 48)), (49, fC 10 (α 36) (α 49)), (50, fC 10 (α 38) (α 50))]) ((gCI B n N W (α 36) (α 37) (α 38) (σ 28) (sumF (α 34) n) N).toInt64) t0 ts)
                refine aw_go 1 rfl ⟨trivial, trivial⟩ ?_
                refine aw_ret rfl rfl trivial ?_
                refine ⟨(gGN B N W (α 36) (α 37) (α 38) N (n - 1)), (σ 28), σ 43, σ 44, pl2_28, fr2_28, tk2_28, fC 10 (α 35) (α 48), fC 10 (α 36) (α 49), fC 10 (α 38) (α 50), (gCI B n N W (α 36) (α 37) (α 38) (σ 28) (sumF (α 34) n) N).toInt64, ?_, rfl⟩
                rw [show rPr B (W N) (vD B n N W (α 36) (α 37) (α 38) N) (α 37) j = gPr B N W (α 36) (α 37) (α 38) N j from by unfold rPr gPr gLd vD; rw [fC_lt (by omega)]]
            · skip
              have h30 := Classical.not_not.mp h30
              have h30 := cI_eqT (a := 1) (b := 0) rfl rfl (by omega) (by omega) h30
              show aw_W _ _ _ _ (31, [some (.ref 46), some (.int (nI N)), some (.int (nI j)), some (.int 1), none, none], []) (ae_en (au σ [(28, (dyA (σ 28) N)), (41, (gGN B N W (α 36) (α 37) (α 38) N (n - 1))), (42, (σ 28))]) (au α [(35, (W N)), (36, (vD B n N W (α 36) (α 37) (α 38) N)), (38, (fD B n N W (α 36) (α 37) (α 38) N)), (43, pl2_28), (44, fr2_28), (47, tk2_28), (48, fC 10 (α 35) (α 48)), (49, fC 10 (α 36) (α 49)), (50, fC 10 (α 38) (α 50))]) ((gCI B n N W (α 36) (α 37) (α 38) (σ 28) (sumF (α 34) n) N).toInt64) t0 ts)
              exact absurd h30 (by decide)
          · skip
            have h17 := Classical.not_not.mp h17
            have h17 := cI_eqT (a := 1) (b := 2) rfl rfl (by omega) (by omega) h17
            show aw_W _ _ _ _ (18, [some (.ref 46), some (.int (nI N)), some (.int (nI j)), some (.int 1), none, none], []) (ae_en σ α z t0 ts)
            exact absurd h17 (by decide)
theorem em_run_2 {n : Nat} {B : ae_B} {N x : Nat} {W : Nat → Nat → Int32} {j : Nat} {zd : Nat} (hM : mOk B n (σ 27) (σ 29) (σ 33) (α 31) (α 32) (α 33) (α 40) (α 41) (α 42)) (hD : W = wD B n (α 35) (σ 28)) (hw : wOk n (α 35)) (hv : vOk n 200 (α 36)) (hs : vOk n 100 (α 37)) (hx : (σ 28) = nI x) (hx9 : x ≤ 9999) (hN : N ≤ 60) (hnl : nOk n (α 34)) (hN1 : 1 ≤ N) (hj : j < n) : aw_X P (zd + 7) 156 [.ref 46, .int (nI N), .int (nI j), .int 2] (ae_en σ α z t0 ts) (fun r H => ∃ (mg : Int32) (md : Int32) (mw : Int32) (mc : Int32) (pl : Nat → Int32) (fr : Nat → Int32) (tk : Nat → Int32) (ww : Nat → Int32) (wg : Nat → Int32) (wf : Nat → Int32) (zq : Int64), r = some (.long ((W N j).toInt64)) ∧ H = (ae_en (au σ [(41, mg), (42, md), (43, mw), (44, mc)]) (au α [(43, pl), (44, fr), (47, tk), (48, ww), (49, wg), (50, wf)]) zq t0 ts)) := by
  obtain ⟨hn, hn10, hs3, hk0, hk1, hk2, hbo, hru⟩ := id hM
  have hWk : ∀ d, wOk n (W d) := fun d => by rw [hD]; exact wD_ok hbo hw d
  refine aw_ev (cd := cd_Model_run) rfl rfl rfl ?_
  show aw_W _ _ _ _ (0, [some (.ref 46), some (.int (nI N)), some (.int (nI j)), some (.int 2), none, none], []) (ae_en σ α z t0 ts)
  refine aw_go 1 rfl ⟨trivial, trivial⟩ ?_
  refine aw_callE rfl rfl (ev_Model_isRun (x := (nI N))) ?_
  show aw_W _ _ _ _ (2, [some (.ref 46), some (.int (nI N)), some (.int (nI j)), some (.int 2), none, none], [.int (bI (¬ (nI N) < 1 ∧ ¬ 60 < (nI N)))]) (ae_en σ α z t0 ts)
  refine aw_go 1 rfl ⟨trivial, trivial⟩ ?_
  refine aw_br (c := (bI (¬ (nI N) < 1 ∧ ¬ 60 < (nI N))) = 0) (fun h2 => ?_) (fun h2 => ?_)
  · skip
    have h2 := bI_f h2
    show aw_W _ _ _ _ (22, [some (.ref 46), some (.int (nI N)), some (.int (nI j)), some (.int 2), none, none], []) (ae_en σ α z t0 ts)
    exact absurd ⟨nI_nlt (b := 1) hN1 (by omega), nI_nlt (a := 60) hN (by decide)⟩ h2
  · skip
    have h2 := bI_t h2
    show aw_W _ _ _ _ (3, [some (.ref 46), some (.int (nI N)), some (.int (nI j)), some (.int 2), none, none], []) (ae_en σ α z t0 ts)
    refine aw_go 3 rfl ⟨trivial, trivial, trivial, trivial⟩ ?_
    refine aw_callE rfl rfl (em_in (v := 2) (a := 0) (b := 4)) ?_
    show aw_W _ _ _ _ (7, [some (.ref 46), some (.int (nI N)), some (.int (nI j)), some (.int 2), none, none], [.int (bI (¬ 2 < 0 ∧ ¬ 4 < 2))]) (ae_en σ α z t0 ts)
    refine aw_go 1 rfl ⟨trivial, trivial⟩ ?_
    refine aw_br (c := (bI (¬ 2 < 0 ∧ ¬ 4 < 2)) = 0) (fun h7 => ?_) (fun h7 => ?_)
    · skip
      have h7 := bI_f h7
      show aw_W _ _ _ _ (22, [some (.ref 46), some (.int (nI N)), some (.int (nI j)), some (.int 2), none, none], []) (ae_en σ α z t0 ts)
      exact absurd (by decide) h7
    · skip
      have h7 := bI_t h7
      show aw_W _ _ _ _ (8, [some (.ref 46), some (.int (nI N)), some (.int (nI j)), some (.int 2), none, none], []) (ae_en σ α z t0 ts)
      refine aw_go 3 rfl ⟨trivial, trivial, trivial, trivial⟩ ?_
      refine aw_br (c := (2 : Int32) ≤ (2 : Int32)) (fun h10 => ?_) (fun h10 => ?_)
      · skip
        have h10 := cI_leT (a := 2) (b := 2) rfl rfl (by omega) (by omega) h10
        show aw_W _ _ _ _ (15, [some (.ref 46), some (.int (nI N)), some (.int (nI j)), some (.int 2), none, none], []) (ae_en σ α z t0 ts)
        refine aw_go 3 rfl ⟨trivial, trivial, trivial, trivial⟩ ?_
        refine aw_br (c := ¬ (2 : Int32) = 2) (fun h17 => ?_) (fun h17 => ?_)
        · skip
          have h17 := cI_eqF (a := 2) (b := 2) rfl rfl (by omega) (by omega) h17
          show aw_W _ _ _ _ (24, [some (.ref 46), some (.int (nI N)), some (.int (nI j)), some (.int 2), none, none], []) (ae_en σ α z t0 ts)
          exact absurd h17 (by decide)
        · skip
          have h17 := Classical.not_not.mp h17
          have h17 := cI_eqT (a := 2) (b := 2) rfl rfl (by omega) (by omega) h17
          show aw_W _ _ _ _ (18, [some (.ref 46), some (.int (nI N)), some (.int (nI j)), some (.int 2), none, none], []) (ae_en σ α z t0 ts)
          refine aw_go 2 rfl ⟨trivial, trivial, trivial⟩ ?_
          refine aw_callE rfl rfl (em_isPlank (p := (nI j)) hn hn10) ?_
          show aw_W _ _ _ _ (21, [some (.ref 46), some (.int (nI N)), some (.int (nI j)), some (.int 2), none, none], [.int (bI (iP n (nI j)))]) (ae_en σ α z t0 ts)
          refine aw_go 1 rfl ⟨trivial, trivial⟩ ?_
          refine aw_br (c := ¬ (bI (iP n (nI j))) = 0) (fun h21 => ?_) (fun h21 => ?_)
          · skip
            have h21 := bI_t h21
            show aw_W _ _ _ _ (24, [some (.ref 46), some (.int (nI N)), some (.int (nI j)), some (.int 2), none, none], []) (ae_en σ α z t0 ts)
            refine aw_go 1 rfl ⟨trivial, trivial⟩ ?_
            refine aw_call rfl rfl (ev_Model_keepNow) ?_
            rintro _ _ ⟨rfl, rfl⟩
            show aw_W _ _ _ _ (26, [some (.ref 46), some (.int (nI N)), some (.int (nI j)), some (.int 2), none, none], []) (ae_en (au σ [(42, (σ 28))]) (au α [(48, fC 10 (α 35) (α 48)), (49, fC 10 (α 36) (α 49)), (50, fC 10 (α 38) (α 50))]) z t0 ts)
            refine aw_go 2 rfl ⟨trivial, trivial, trivial⟩ ?_
            refine aw_call rfl rfl (ev_Model_water (N := N) hM hD hw hv hs hx hx9 hN hnl) ?_
            rintro _ _ ⟨pl2_28, fr2_28, tk2_28, rfl, rfl⟩
            show aw_W _ _ _ _ (29, [some (.ref 46), some (.int (nI N)), some (.int (nI j)), some (.int 2), none, none], []) (ae_en (au σ [(28, (dyA (σ 28) N)), (41, (gGN B N W (α 36) (α 37) (α 38) N (n - 1))), (42, (σ 28))]) (au α [(35, (W N)), (36, (vD B n N W (α 36) (α 37) (α 38) N)), (38, (fD B n N W (α 36) (α 37) (α 38) N)), (43, pl2_28), (44, fr2_28), (47, tk2_28), (48, fC 10 (α 35) (α 48)), (49, fC 10 (α 36) (α 49)), (50, fC 10 (α 38) (α 50))]) ((gCI B n N W (α 36) (α 37) (α 38) (σ 28) (sumF (α 34) n) N).toInt64) t0 ts)
            refine aw_go 2 rfl ⟨trivial, trivial, trivial⟩ ?_
            refine aw_br (c := ¬ (2 : Int32) = 0) (fun h30 => ?_) (fun h30 => ?_)
            · skip
              have h30 := cI_eqF (a := 2) (b := 0) rfl rfl (by omega) (by omega) h30
              show aw_W _ _ _ _ (36, [some (.ref 46), some (.int (nI N)), some (.int (nI j)), some (.int 2), none, none], []) (ae_en (au σ [(28, (dyA (σ 28) N)), (41, (gGN B N W (α 36) (α 37) (α 38) N (n - 1))), (42, (σ 28))]) (au α [(35, (W N)), (36, (vD B n N W (α 36) (α 37) (α 38) N)), (38, (fD B n N W (α 36) (α 37) (α 38) N)), (43, pl2_28), (44, fr2_28), (47, tk2_28), (48, fC 10 (α 35) (α 48)), (49, fC 10 (α 36) (α 49)), (50, fC 10 (α 38) (α 50))]) ((gCI B n N W (α 36) (α 37) (α 38) (σ 28) (sumF (α 34) n) N).toInt64) t0 ts)
              refine aw_go 3 rfl ⟨trivial, trivial, trivial, trivial⟩ ?_
              refine aw_br (c := ¬ (2 : Int32) = 1) (fun h38 => ?_) (fun h38 => ?_)
              · skip
                have h38 := cI_eqF (a := 2) (b := 1) rfl rfl (by omega) (by omega) h38
                show aw_W _ _ _ _ (44, [some (.ref 46), some (.int (nI N)), some (.int (nI j)), some (.int 2), none, none], []) (ae_en (au σ [(28, (dyA (σ 28) N)), (41, (gGN B N W (α 36) (α 37) (α 38) N (n - 1))), (42, (σ 28))]) (au α [(35, (W N)), (36, (vD B n N W (α 36) (α 37) (α 38) N)), (38, (fD B n N W (α 36) (α 37) (α 38) N)), (43, pl2_28), (44, fr2_28), (47, tk2_28), (48, fC 10 (α 35) (α 48)), (49, fC 10 (α 36) (α 49)), (50, fC 10 (α 38) (α 50))]) ((gCI B n N W (α 36) (α 37) (α 38) (σ 28) (sumF (α 34) n) N).toInt64) t0 ts)
                refine aw_go 3 rfl ⟨trivial, trivial, trivial, trivial⟩ ?_
                refine aw_br (c := ¬ (2 : Int32) = 2) (fun h46 => ?_) (fun h46 => ?_)
                · skip
                  have h46 := cI_eqF (a := 2) (b := 2) rfl rfl (by omega) (by omega) h46
                  show aw_W _ _ _ _ (53, [some (.ref 46), some (.int (nI N)), some (.int (nI j)), some (.int 2), none, none], []) (ae_en (au σ [(28, (dyA (σ 28) N)), (41, (gGN B N W (α 36) (α 37) (α 38) N (n - 1))), (42, (σ 28))]) (au α [(35, (W N)), (36, (vD B n N W (α 36) (α 37) (α 38) N)), (38, (fD B n N W (α 36) (α 37) (α 38) N)), (43, pl2_28), (44, fr2_28), (47, tk2_28), (48, fC 10 (α 35) (α 48)), (49, fC 10 (α 36) (α 49)), (50, fC 10 (α 38) (α 50))]) ((gCI B n N W (α 36) (α 37) (α 38) (σ 28) (sumF (α 34) n) N).toInt64) t0 ts)
                  exact absurd h46 (by decide)
                · skip
                  have h46 := Classical.not_not.mp h46
                  have h46 := cI_eqT (a := 2) (b := 2) rfl rfl (by omega) (by omega) h46
                  show aw_W _ _ _ _ (47, [some (.ref 46), some (.int (nI N)), some (.int (nI j)), some (.int 2), none, none], []) (ae_en (au σ [(28, (dyA (σ 28) N)), (41, (gGN B N W (α 36) (α 37) (α 38) N (n - 1))), (42, (σ 28))]) (au α [(35, (W N)), (36, (vD B n N W (α 36) (α 37) (α 38) N)), (38, (fD B n N W (α 36) (α 37) (α 38) N)), (43, pl2_28), (44, fr2_28), (47, tk2_28), (48, fC 10 (α 35) (α 48)), (49, fC 10 (α 36) (α 49)), (50, fC 10 (α 38) (α 50))]) ((gCI B n N W (α 36) (α 37) (α 38) (σ 28) (sumF (α 34) n) N).toInt64) t0 ts)
                  refine aw_go 8 rfl ⟨trivial, trivial, trivial, (cI_in (a := j) rfl (by omega) (by decide)), trivial, trivial, trivial, trivial, trivial⟩ ?_
                  show aw_W _ _ _ _ (64, [some (.ref 46), some (.int (nI N)), some (.int (nI j)), some (.int 2), some (.long (((W N) (nI j).toNatClampNeg).toInt64)), none], [.ref 46]) (ae_en (au σ [(28, (dyA (σ 28) N)), (41, (gGN B N W (α 36) (α 37) (α 38) N (n - 1))), (42, (σ 28))]) (au α [(35, (W N)), (36, (vD B n N W (α 36) (α 37) (α 38) N)), (38, (fD B n N W (α 36) (α 37) (α 38) N)), (43, pl2_28), (44, fr2_28), (47, tk2_28), (48, fC 10 (α 35) (α 48)), (49, fC 10 (α 36) (α 49)), (50, fC 10 (α 38) (α 50))]) ((gCI B n N W (α 36) (α 37) (α 38) (σ 28) (sumF (α 34) n) N).toInt64) t0 ts)
                  rw [show (nI j).toNatClampNeg = j from cI_cl (a := j) rfl (by omega)]
                  refine aw_call rfl rfl (ev_Model_layBack) ?_
                  rintro _ _ ⟨rfl, rfl⟩
                  show aw_W _ _ _ _ (65, [some (.ref 46), some (.int (nI N)), some (.int (nI j)), some (.int 2), some (.long (((W N) j).toInt64)), none], []) (ae_en (au σ [(28, (σ 28)), (41, (gGN B N W (α 36) (α 37) (α 38) N (n - 1))), (42, (σ 28))]) (au α [(35, fC 10 (fC 10 (α 35) (α 48)) (W N)), (36, fC 10 (fC 10 (α 36) (α 49)) (vD B n N W (α 36) (α 37) (α 38) N)), (38, fC 10 (fC 10 (α 38) (α 50)) (fD B n N W (α 36) (α 37) (α 38) N)), (43, pl2_28), (44, fr2_28), (47, tk2_28), (48, fC 10 (α 35) (α 48)), (49, fC 10 (α 36) (α 49)), (50, fC 10 (α 38) (α 50))]) ((gCI B n N W (α 36) (α 37) (α 38) (σ 28) (sumF (α 34) n) N).toInt64) t0 ts)
                  rw [show fC 10 (fC 10 (α 35) (α 48)) (W N) = (α 35) from lb_eq (fun j hj => by rw [hD]; exact wD_out (by omega) _), show fC 10 (fC 10 (α 36) (α 49)) (vD B n N W (α 36) (α 37) (α 38) N) = (α 36) from lb_eq (fun j hj => vD_out (by omega)), show fC 10 (fC 10 (α 38) (α 50)) (fD B n N W (α 36) (α 37) (α 38) N) = (α 38) from lb_eq (fun j hj => fD_out (by omega))]
                  show aw_W _ _ _ _ (65, [some (.ref 46), some (.int (nI N)), some (.int (nI j)), some (.int 2), some (.long (((W N) j).toInt64)), none], []) (ae_en (au σ [(41, (gGN B N W (α 36) (α 37) (α 38) N (n - 1))), (42, (σ 28))]) (au α [(43, pl2_28), (44, fr2_28), (47, tk2_28), (48, fC 10 (α 35) (α 48)), (49, fC 10 (α 36) (α 49)), (50, fC 10 (α 38) (α 50))]) ((gCI B n N W (α 36) (α 37) (α 38) (σ 28) (sumF (α 34) n) N).toInt64) t0 ts)
                  refine aw_go 1 rfl ⟨trivial, trivial⟩ ?_
                  refine aw_ret rfl rfl trivial ?_
                  refine ⟨(gGN B N W (α 36) (α 37) (α 38) N (n - 1)), (σ 28), σ 43, σ 44, pl2_28, fr2_28, tk2_28, fC 10 (α 35) (α 48), fC 10 (α 36) (α 49), fC 10 (α 38) (α 50), (gCI B n N W (α 36) (α 37) (α 38) (σ 28) (sumF (α 34) n) N).toInt64, ?_, rfl⟩
                  rfl
              · skip
                have h38 := Classical.not_not.mp h38
                have h38 := cI_eqT (a := 2) (b := 1) rfl rfl (by omega) (by omega) h38
                show aw_W _ _ _ _ (39, [some (.ref 46), some (.int (nI N)), some (.int (nI j)), some (.int 2), none, none], []) (ae_en (au σ [(28, (dyA (σ 28) N)), (41, (gGN B N W (α 36) (α 37) (α 38) N (n - 1))), (42, (σ 28))]) (au α [(35, (W N)), (36, (vD B n N W (α 36) (α 37) (α 38) N)), (38, (fD B n N W (α 36) (α 37) (α 38) N)), (43, pl2_28), (44, fr2_28), (47, tk2_28), (48, fC 10 (α 35) (α 48)), (49, fC 10 (α 36) (α 49)), (50, fC 10 (α 38) (α 50))]) ((gCI B n N W (α 36) (α 37) (α 38) (σ 28) (sumF (α 34) n) N).toInt64) t0 ts)
                exact absurd h38 (by decide)
            · skip
              have h30 := Classical.not_not.mp h30
              have h30 := cI_eqT (a := 2) (b := 0) rfl rfl (by omega) (by omega) h30
              show aw_W _ _ _ _ (31, [some (.ref 46), some (.int (nI N)), some (.int (nI j)), some (.int 2), none, none], []) (ae_en (au σ [(28, (dyA (σ 28) N)), (41, (gGN B N W (α 36) (α 37) (α 38) N (n - 1))), (42, (σ 28))]) (au α [(35, (W N)), (36, (vD B n N W (α 36) (α 37) (α 38) N)), (38, (fD B n N W (α 36) (α 37) (α 38) N)), (43, pl2_28), (44, fr2_28), (47, tk2_28), (48, fC 10 (α 35) (α 48)), (49, fC 10 (α 36) (α 49)), (50, fC 10 (α 38) (α 50))]) ((gCI B n N W (α 36) (α 37) (α 38) (σ 28) (sumF (α 34) n) N).toInt64) t0 ts)
              exact absurd h30 (by decide)
          · skip
            have h21 := bI_f (Classical.not_not.mp h21)
            show aw_W _ _ _ _ (22, [some (.ref 46), some (.int (nI N)), some (.int (nI j)), some (.int 2), none, none], []) (ae_en σ α z t0 ts)
            exact absurd (iP_nI (by omega) (by omega)) h21
      · skip
        have h10 := cI_leF (a := 2) (b := 2) rfl rfl (by omega) (by omega) h10
        show aw_W _ _ _ _ (11, [some (.ref 46), some (.int (nI N)), some (.int (nI j)), some (.int 2), none, none], []) (ae_en σ α z t0 ts)
        exact absurd h10 (by decide)
theorem em_run_3 {n : Nat} {B : ae_B} {N x : Nat} {W : Nat → Nat → Int32} {o : Int32} {zd : Nat} (hM : mOk B n (σ 27) (σ 29) (σ 33) (α 31) (α 32) (α 33) (α 40) (α 41) (α 42)) (hD : W = wD B n (α 35) (σ 28)) (hw : wOk n (α 35)) (hv : vOk n 200 (α 36)) (hs : vOk n 100 (α 37)) (hx : (σ 28) = nI x) (hx9 : x ≤ 9999) (hN : N ≤ 60) (hnl : nOk n (α 34)) (hN1 : 1 ≤ N)  : aw_X P (zd + 7) 156 [.ref 46, .int (nI N), .int o, .int 3] (ae_en σ α z t0 ts) (fun r H => ∃ (mg : Int32) (md : Int32) (mw : Int32) (mc : Int32) (pl : Nat → Int32) (fr : Nat → Int32) (tk : Nat → Int32) (ww : Nat → Int32) (wg : Nat → Int32) (wf : Nat → Int32) (zq : Int64), r = some (.long ((gGN B N W (α 36) (α 37) (α 38) N (n - 1)).toInt64)) ∧ H = (ae_en (au σ [(41, mg), (42, md), (43, mw), (44, mc)]) (au α [(43, pl), (44, fr), (47, tk), (48, ww), (49, wg), (50, wf)]) zq t0 ts)) := by
  obtain ⟨hn, hn10, hs3, hk0, hk1, hk2, hbo, hru⟩ := id hM
  have hWk : ∀ d, wOk n (W d) := fun d => by rw [hD]; exact wD_ok hbo hw d
  refine aw_ev (cd := cd_Model_run) rfl rfl rfl ?_
  show aw_W _ _ _ _ (0, [some (.ref 46), some (.int (nI N)), some (.int o), some (.int 3), none, none], []) (ae_en σ α z t0 ts)
  refine aw_go 1 rfl ⟨trivial, trivial⟩ ?_
  refine aw_callE rfl rfl (ev_Model_isRun (x := (nI N))) ?_
  show aw_W _ _ _ _ (2, [some (.ref 46), some (.int (nI N)), some (.int o), some (.int 3), none, none], [.int (bI (¬ (nI N) < 1 ∧ ¬ 60 < (nI N)))]) (ae_en σ α z t0 ts)
  refine aw_go 1 rfl ⟨trivial, trivial⟩ ?_
  refine aw_br (c := (bI (¬ (nI N) < 1 ∧ ¬ 60 < (nI N))) = 0) (fun h2 => ?_) (fun h2 => ?_)
  · skip
    have h2 := bI_f h2
    show aw_W _ _ _ _ (22, [some (.ref 46), some (.int (nI N)), some (.int o), some (.int 3), none, none], []) (ae_en σ α z t0 ts)
    exact absurd ⟨nI_nlt (b := 1) hN1 (by omega), nI_nlt (a := 60) hN (by decide)⟩ h2
  · skip
    have h2 := bI_t h2
    show aw_W _ _ _ _ (3, [some (.ref 46), some (.int (nI N)), some (.int o), some (.int 3), none, none], []) (ae_en σ α z t0 ts)
    refine aw_go 3 rfl ⟨trivial, trivial, trivial, trivial⟩ ?_
    refine aw_callE rfl rfl (em_in (v := 3) (a := 0) (b := 4)) ?_
    show aw_W _ _ _ _ (7, [some (.ref 46), some (.int (nI N)), some (.int o), some (.int 3), none, none], [.int (bI (¬ 3 < 0 ∧ ¬ 4 < 3))]) (ae_en σ α z t0 ts)
    refine aw_go 1 rfl ⟨trivial, trivial⟩ ?_
    refine aw_br (c := (bI (¬ 3 < 0 ∧ ¬ 4 < 3)) = 0) (fun h7 => ?_) (fun h7 => ?_)
    · skip
      have h7 := bI_f h7
      show aw_W _ _ _ _ (22, [some (.ref 46), some (.int (nI N)), some (.int o), some (.int 3), none, none], []) (ae_en σ α z t0 ts)
      exact absurd (by decide) h7
    · skip
      have h7 := bI_t h7
      show aw_W _ _ _ _ (8, [some (.ref 46), some (.int (nI N)), some (.int o), some (.int 3), none, none], []) (ae_en σ α z t0 ts)
      refine aw_go 3 rfl ⟨trivial, trivial, trivial, trivial⟩ ?_
      refine aw_br (c := (2 : Int32) ≤ (3 : Int32)) (fun h10 => ?_) (fun h10 => ?_)
      · skip
        have h10 := cI_leT (a := 2) (b := 3) rfl rfl (by omega) (by omega) h10
        show aw_W _ _ _ _ (15, [some (.ref 46), some (.int (nI N)), some (.int o), some (.int 3), none, none], []) (ae_en σ α z t0 ts)
        refine aw_go 3 rfl ⟨trivial, trivial, trivial, trivial⟩ ?_
        refine aw_br (c := ¬ (3 : Int32) = 2) (fun h17 => ?_) (fun h17 => ?_)
        · skip
          have h17 := cI_eqF (a := 3) (b := 2) rfl rfl (by omega) (by omega) h17
          show aw_W _ _ _ _ (24, [some (.ref 46), some (.int (nI N)), some (.int o), some (.int 3), none, none], []) (ae_en σ α z t0 ts)
          refine aw_go 1 rfl ⟨trivial, trivial⟩ ?_
          refine aw_call rfl rfl (ev_Model_keepNow) ?_
          rintro _ _ ⟨rfl, rfl⟩
          show aw_W _ _ _ _ (26, [some (.ref 46), some (.int (nI N)), some (.int o), some (.int 3), none, none], []) (ae_en (au σ [(42, (σ 28))]) (au α [(48, fC 10 (α 35) (α 48)), (49, fC 10 (α 36) (α 49)), (50, fC 10 (α 38) (α 50))]) z t0 ts)
          refine aw_go 2 rfl ⟨trivial, trivial, trivial⟩ ?_
          refine aw_call rfl rfl (ev_Model_water (N := N) hM hD hw hv hs hx hx9 hN hnl) ?_
          rintro _ _ ⟨pl2_28, fr2_28, tk2_28, rfl, rfl⟩
          show aw_W _ _ _ _ (29, [some (.ref 46), some (.int (nI N)), some (.int o), some (.int 3), none, none], []) (ae_en (au σ [(28, (dyA (σ 28) N)), (41, (gGN B N W (α 36) (α 37) (α 38) N (n - 1))), (42, (σ 28))]) (au α [(35, (W N)), (36, (vD B n N W (α 36) (α 37) (α 38) N)), (38, (fD B n N W (α 36) (α 37) (α 38) N)), (43, pl2_28), (44, fr2_28), (47, tk2_28), (48, fC 10 (α 35) (α 48)), (49, fC 10 (α 36) (α 49)), (50, fC 10 (α 38) (α 50))]) ((gCI B n N W (α 36) (α 37) (α 38) (σ 28) (sumF (α 34) n) N).toInt64) t0 ts)
          refine aw_go 2 rfl ⟨trivial, trivial, trivial⟩ ?_
          refine aw_br (c := ¬ (3 : Int32) = 0) (fun h30 => ?_) (fun h30 => ?_)
          · skip
            have h30 := cI_eqF (a := 3) (b := 0) rfl rfl (by omega) (by omega) h30
            show aw_W _ _ _ _ (36, [some (.ref 46), some (.int (nI N)), some (.int o), some (.int 3), none, none], []) (ae_en (au σ [(28, (dyA (σ 28) N)), (41, (gGN B N W (α 36) (α 37) (α 38) N (n - 1))), (42, (σ 28))]) (au α [(35, (W N)), (36, (vD B n N W (α 36) (α 37) (α 38) N)), (38, (fD B n N W (α 36) (α 37) (α 38) N)), (43, pl2_28), (44, fr2_28), (47, tk2_28), (48, fC 10 (α 35) (α 48)), (49, fC 10 (α 36) (α 49)), (50, fC 10 (α 38) (α 50))]) ((gCI B n N W (α 36) (α 37) (α 38) (σ 28) (sumF (α 34) n) N).toInt64) t0 ts)
            refine aw_go 3 rfl ⟨trivial, trivial, trivial, trivial⟩ ?_
            refine aw_br (c := ¬ (3 : Int32) = 1) (fun h38 => ?_) (fun h38 => ?_)
            · skip
              have h38 := cI_eqF (a := 3) (b := 1) rfl rfl (by omega) (by omega) h38
              show aw_W _ _ _ _ (44, [some (.ref 46), some (.int (nI N)), some (.int o), some (.int 3), none, none], []) (ae_en (au σ [(28, (dyA (σ 28) N)), (41, (gGN B N W (α 36) (α 37) (α 38) N (n - 1))), (42, (σ 28))]) (au α [(35, (W N)), (36, (vD B n N W (α 36) (α 37) (α 38) N)), (38, (fD B n N W (α 36) (α 37) (α 38) N)), (43, pl2_28), (44, fr2_28), (47, tk2_28), (48, fC 10 (α 35) (α 48)), (49, fC 10 (α 36) (α 49)), (50, fC 10 (α 38) (α 50))]) ((gCI B n N W (α 36) (α 37) (α 38) (σ 28) (sumF (α 34) n) N).toInt64) t0 ts)
              refine aw_go 3 rfl ⟨trivial, trivial, trivial, trivial⟩ ?_
              refine aw_br (c := ¬ (3 : Int32) = 2) (fun h46 => ?_) (fun h46 => ?_)
              · skip
                have h46 := cI_eqF (a := 3) (b := 2) rfl rfl (by omega) (by omega) h46
                show aw_W _ _ _ _ (53, [some (.ref 46), some (.int (nI N)), some (.int o), some (.int 3), none, none], []) (ae_en (au σ [(28, (dyA (σ 28) N)), (41, (gGN B N W (α 36) (α 37) (α 38) N (n - 1))), (42, (σ 28))]) (au α [(35, (W N)), (36, (vD B n N W (α 36) (α 37) (α 38) N)), (38, (fD B n N W (α 36) (α 37) (α 38) N)), (43, pl2_28), (44, fr2_28), (47, tk2_28), (48, fC 10 (α 35) (α 48)), (49, fC 10 (α 36) (α 49)), (50, fC 10 (α 38) (α 50))]) ((gCI B n N W (α 36) (α 37) (α 38) (σ 28) (sumF (α 34) n) N).toInt64) t0 ts)
                refine aw_go 3 rfl ⟨trivial, trivial, trivial, trivial⟩ ?_
                refine aw_br (c := ¬ (3 : Int32) = 3) (fun h55 => ?_) (fun h55 => ?_)
                · skip
                  have h55 := cI_eqF (a := 3) (b := 3) rfl rfl (by omega) (by omega) h55
                  show aw_W _ _ _ _ (60, [some (.ref 46), some (.int (nI N)), some (.int o), some (.int 3), none, none], []) (ae_en (au σ [(28, (dyA (σ 28) N)), (41, (gGN B N W (α 36) (α 37) (α 38) N (n - 1))), (42, (σ 28))]) (au α [(35, (W N)), (36, (vD B n N W (α 36) (α 37) (α 38) N)), (38, (fD B n N W (α 36) (α 37) (α 38) N)), (43, pl2_28), (44, fr2_28), (47, tk2_28), (48, fC 10 (α 35) (α 48)), (49, fC 10 (α 36) (α 49)), (50, fC 10 (α 38) (α 50))]) ((gCI B n N W (α 36) (α 37) (α 38) (σ 28) (sumF (α 34) n) N).toInt64) t0 ts)
                  exact absurd h55 (by decide)
                · skip
                  have h55 := Classical.not_not.mp h55
                  have h55 := cI_eqT (a := 3) (b := 3) rfl rfl (by omega) (by omega) h55
                  show aw_W _ _ _ _ (56, [some (.ref 46), some (.int (nI N)), some (.int o), some (.int 3), none, none], []) (ae_en (au σ [(28, (dyA (σ 28) N)), (41, (gGN B N W (α 36) (α 37) (α 38) N (n - 1))), (42, (σ 28))]) (au α [(35, (W N)), (36, (vD B n N W (α 36) (α 37) (α 38) N)), (38, (fD B n N W (α 36) (α 37) (α 38) N)), (43, pl2_28), (44, fr2_28), (47, tk2_28), (48, fC 10 (α 35) (α 48)), (49, fC 10 (α 36) (α 49)), (50, fC 10 (α 38) (α 50))]) ((gCI B n N W (α 36) (α 37) (α 38) (σ 28) (sumF (α 34) n) N).toInt64) t0 ts)
                  refine aw_go 6 rfl ⟨trivial, trivial, trivial, trivial, trivial, trivial, trivial⟩ ?_
                  show aw_W _ _ _ _ (64, [some (.ref 46), some (.int (nI N)), some (.int o), some (.int 3), some (.long ((gGN B N W (α 36) (α 37) (α 38) N (n - 1)).toInt64)), none], [.ref 46]) (ae_en (au σ [(28, (dyA (σ 28) N)), (41, (gGN B N W (α 36) (α 37) (α 38) N (n - 1))), (42, (σ 28))]) (au α [(35, (W N)), (36, (vD B n N W (α 36) (α 37) (α 38) N)), (38, (fD B n N W (α 36) (α 37) (α 38) N)), (43, pl2_28), (44, fr2_28), (47, tk2_28), (48, fC 10 (α 35) (α 48)), (49, fC 10 (α 36) (α 49)), (50, fC 10 (α 38) (α 50))]) ((gCI B n N W (α 36) (α 37) (α 38) (σ 28) (sumF (α 34) n) N).toInt64) t0 ts)
                  refine aw_call rfl rfl (ev_Model_layBack) ?_
                  rintro _ _ ⟨rfl, rfl⟩
                  show aw_W _ _ _ _ (65, [some (.ref 46), some (.int (nI N)), some (.int o), some (.int 3), some (.long ((gGN B N W (α 36) (α 37) (α 38) N (n - 1)).toInt64)), none], []) (ae_en (au σ [(28, (σ 28)), (41, (gGN B N W (α 36) (α 37) (α 38) N (n - 1))), (42, (σ 28))]) (au α [(35, fC 10 (fC 10 (α 35) (α 48)) (W N)), (36, fC 10 (fC 10 (α 36) (α 49)) (vD B n N W (α 36) (α 37) (α 38) N)), (38, fC 10 (fC 10 (α 38) (α 50)) (fD B n N W (α 36) (α 37) (α 38) N)), (43, pl2_28), (44, fr2_28), (47, tk2_28), (48, fC 10 (α 35) (α 48)), (49, fC 10 (α 36) (α 49)), (50, fC 10 (α 38) (α 50))]) ((gCI B n N W (α 36) (α 37) (α 38) (σ 28) (sumF (α 34) n) N).toInt64) t0 ts)
                  rw [show fC 10 (fC 10 (α 35) (α 48)) (W N) = (α 35) from lb_eq (fun j hj => by rw [hD]; exact wD_out (by omega) _), show fC 10 (fC 10 (α 36) (α 49)) (vD B n N W (α 36) (α 37) (α 38) N) = (α 36) from lb_eq (fun j hj => vD_out (by omega)), show fC 10 (fC 10 (α 38) (α 50)) (fD B n N W (α 36) (α 37) (α 38) N) = (α 38) from lb_eq (fun j hj => fD_out (by omega))]
                  show aw_W _ _ _ _ (65, [some (.ref 46), some (.int (nI N)), some (.int o), some (.int 3), some (.long ((gGN B N W (α 36) (α 37) (α 38) N (n - 1)).toInt64)), none], []) (ae_en (au σ [(41, (gGN B N W (α 36) (α 37) (α 38) N (n - 1))), (42, (σ 28))]) (au α [(43, pl2_28), (44, fr2_28), (47, tk2_28), (48, fC 10 (α 35) (α 48)), (49, fC 10 (α 36) (α 49)), (50, fC 10 (α 38) (α 50))]) ((gCI B n N W (α 36) (α 37) (α 38) (σ 28) (sumF (α 34) n) N).toInt64) t0 ts)
                  refine aw_go 1 rfl ⟨trivial, trivial⟩ ?_
                  refine aw_ret rfl rfl trivial ?_
                  refine ⟨(gGN B N W (α 36) (α 37) (α 38) N (n - 1)), (σ 28), σ 43, σ 44, pl2_28, fr2_28, tk2_28, fC 10 (α 35) (α 48), fC 10 (α 36) (α 49), fC 10 (α 38) (α 50), (gCI B n N W (α 36) (α 37) (α 38) (σ 28) (sumF (α 34) n) N).toInt64, ?_, rfl⟩
                  rfl
              · skip
                have h46 := Classical.not_not.mp h46
                have h46 := cI_eqT (a := 3) (b := 2) rfl rfl (by omega) (by omega) h46
                show aw_W _ _ _ _ (47, [some (.ref 46), some (.int (nI N)), some (.int o), some (.int 3), none, none], []) (ae_en (au σ [(28, (dyA (σ 28) N)), (41, (gGN B N W (α 36) (α 37) (α 38) N (n - 1))), (42, (σ 28))]) (au α [(35, (W N)), (36, (vD B n N W (α 36) (α 37) (α 38) N)), (38, (fD B n N W (α 36) (α 37) (α 38) N)), (43, pl2_28), (44, fr2_28), (47, tk2_28), (48, fC 10 (α 35) (α 48)), (49, fC 10 (α 36) (α 49)), (50, fC 10 (α 38) (α 50))]) ((gCI B n N W (α 36) (α 37) (α 38) (σ 28) (sumF (α 34) n) N).toInt64) t0 ts)
                exact absurd h46 (by decide)
            · skip
              have h38 := Classical.not_not.mp h38
              have h38 := cI_eqT (a := 3) (b := 1) rfl rfl (by omega) (by omega) h38
              show aw_W _ _ _ _ (39, [some (.ref 46), some (.int (nI N)), some (.int o), some (.int 3), none, none], []) (ae_en (au σ [(28, (dyA (σ 28) N)), (41, (gGN B N W (α 36) (α 37) (α 38) N (n - 1))), (42, (σ 28))]) (au α [(35, (W N)), (36, (vD B n N W (α 36) (α 37) (α 38) N)), (38, (fD B n N W (α 36) (α 37) (α 38) N)), (43, pl2_28), (44, fr2_28), (47, tk2_28), (48, fC 10 (α 35) (α 48)), (49, fC 10 (α 36) (α 49)), (50, fC 10 (α 38) (α 50))]) ((gCI B n N W (α 36) (α 37) (α 38) (σ 28) (sumF (α 34) n) N).toInt64) t0 ts)
              exact absurd h38 (by decide)
          · skip
            have h30 := Classical.not_not.mp h30
            have h30 := cI_eqT (a := 3) (b := 0) rfl rfl (by omega) (by omega) h30
            show aw_W _ _ _ _ (31, [some (.ref 46), some (.int (nI N)), some (.int o), some (.int 3), none, none], []) (ae_en (au σ [(28, (dyA (σ 28) N)), (41, (gGN B N W (α 36) (α 37) (α 38) N (n - 1))), (42, (σ 28))]) (au α [(35, (W N)), (36, (vD B n N W (α 36) (α 37) (α 38) N)), (38, (fD B n N W (α 36) (α 37) (α 38) N)), (43, pl2_28), (44, fr2_28), (47, tk2_28), (48, fC 10 (α 35) (α 48)), (49, fC 10 (α 36) (α 49)), (50, fC 10 (α 38) (α 50))]) ((gCI B n N W (α 36) (α 37) (α 38) (σ 28) (sumF (α 34) n) N).toInt64) t0 ts)
            exact absurd h30 (by decide)
        · skip
          have h17 := Classical.not_not.mp h17
          have h17 := cI_eqT (a := 3) (b := 2) rfl rfl (by omega) (by omega) h17
          show aw_W _ _ _ _ (18, [some (.ref 46), some (.int (nI N)), some (.int o), some (.int 3), none, none], []) (ae_en σ α z t0 ts)
          exact absurd h17 (by decide)
      · skip
        have h10 := cI_leF (a := 2) (b := 3) rfl rfl (by omega) (by omega) h10
        show aw_W _ _ _ _ (11, [some (.ref 46), some (.int (nI N)), some (.int o), some (.int 3), none, none], []) (ae_en σ α z t0 ts)
        exact absurd h10 (by decide)
theorem em_run_4 {n : Nat} {B : ae_B} {N x : Nat} {W : Nat → Nat → Int32} {o : Int32} {zd : Nat} (hM : mOk B n (σ 27) (σ 29) (σ 33) (α 31) (α 32) (α 33) (α 40) (α 41) (α 42)) (hD : W = wD B n (α 35) (σ 28)) (hw : wOk n (α 35)) (hv : vOk n 200 (α 36)) (hs : vOk n 100 (α 37)) (hx : (σ 28) = nI x) (hx9 : x ≤ 9999) (hN : N ≤ 60) (hnl : nOk n (α 34)) (hN1 : 1 ≤ N)  : aw_X P (zd + 7) 156 [.ref 46, .int (nI N), .int o, .int 4] (ae_en σ α z t0 ts) (fun r H => ∃ (mg : Int32) (md : Int32) (mw : Int32) (mc : Int32) (pl : Nat → Int32) (fr : Nat → Int32) (tk : Nat → Int32) (ww : Nat → Int32) (wg : Nat → Int32) (wf : Nat → Int32) (zq : Int64), r = some (.long ((gCI B n N W (α 36) (α 37) (α 38) (σ 28) (sumF (α 34) n) N).toInt64)) ∧ H = (ae_en (au σ [(41, mg), (42, md), (43, mw), (44, mc)]) (au α [(43, pl), (44, fr), (47, tk), (48, ww), (49, wg), (50, wf)]) zq t0 ts)) := by
  obtain ⟨hn, hn10, hs3, hk0, hk1, hk2, hbo, hru⟩ := id hM
  have hWk : ∀ d, wOk n (W d) := fun d => by rw [hD]; exact wD_ok hbo hw d
  refine aw_ev (cd := cd_Model_run) rfl rfl rfl ?_
  show aw_W _ _ _ _ (0, [some (.ref 46), some (.int (nI N)), some (.int o), some (.int 4), none, none], []) (ae_en σ α z t0 ts)
  refine aw_go 1 rfl ⟨trivial, trivial⟩ ?_
  refine aw_callE rfl rfl (ev_Model_isRun (x := (nI N))) ?_
  show aw_W _ _ _ _ (2, [some (.ref 46), some (.int (nI N)), some (.int o), some (.int 4), none, none], [.int (bI (¬ (nI N) < 1 ∧ ¬ 60 < (nI N)))]) (ae_en σ α z t0 ts)
  refine aw_go 1 rfl ⟨trivial, trivial⟩ ?_
  refine aw_br (c := (bI (¬ (nI N) < 1 ∧ ¬ 60 < (nI N))) = 0) (fun h2 => ?_) (fun h2 => ?_)
  · skip
    have h2 := bI_f h2
    show aw_W _ _ _ _ (22, [some (.ref 46), some (.int (nI N)), some (.int o), some (.int 4), none, none], []) (ae_en σ α z t0 ts)
    exact absurd ⟨nI_nlt (b := 1) hN1 (by omega), nI_nlt (a := 60) hN (by decide)⟩ h2
  · skip
    have h2 := bI_t h2
    show aw_W _ _ _ _ (3, [some (.ref 46), some (.int (nI N)), some (.int o), some (.int 4), none, none], []) (ae_en σ α z t0 ts)
    refine aw_go 3 rfl ⟨trivial, trivial, trivial, trivial⟩ ?_
    refine aw_callE rfl rfl (em_in (v := 4) (a := 0) (b := 4)) ?_
    show aw_W _ _ _ _ (7, [some (.ref 46), some (.int (nI N)), some (.int o), some (.int 4), none, none], [.int (bI (¬ 4 < 0 ∧ ¬ 4 < 4))]) (ae_en σ α z t0 ts)
    refine aw_go 1 rfl ⟨trivial, trivial⟩ ?_
    refine aw_br (c := (bI (¬ 4 < 0 ∧ ¬ 4 < 4)) = 0) (fun h7 => ?_) (fun h7 => ?_)
    · skip
      have h7 := bI_f h7
      show aw_W _ _ _ _ (22, [some (.ref 46), some (.int (nI N)), some (.int o), some (.int 4), none, none], []) (ae_en σ α z t0 ts)
      exact absurd (by decide) h7
    · skip
      have h7 := bI_t h7
      show aw_W _ _ _ _ (8, [some (.ref 46), some (.int (nI N)), some (.int o), some (.int 4), none, none], []) (ae_en σ α z t0 ts)
      refine aw_go 3 rfl ⟨trivial, trivial, trivial, trivial⟩ ?_
      refine aw_br (c := (2 : Int32) ≤ (4 : Int32)) (fun h10 => ?_) (fun h10 => ?_)
      · skip
        have h10 := cI_leT (a := 2) (b := 4) rfl rfl (by omega) (by omega) h10
        show aw_W _ _ _ _ (15, [some (.ref 46), some (.int (nI N)), some (.int o), some (.int 4), none, none], []) (ae_en σ α z t0 ts)
        refine aw_go 3 rfl ⟨trivial, trivial, trivial, trivial⟩ ?_
        refine aw_br (c := ¬ (4 : Int32) = 2) (fun h17 => ?_) (fun h17 => ?_)
        · skip
          have h17 := cI_eqF (a := 4) (b := 2) rfl rfl (by omega) (by omega) h17
          show aw_W _ _ _ _ (24, [some (.ref 46), some (.int (nI N)), some (.int o), some (.int 4), none, none], []) (ae_en σ α z t0 ts)
          refine aw_go 1 rfl ⟨trivial, trivial⟩ ?_
          refine aw_call rfl rfl (ev_Model_keepNow) ?_
          rintro _ _ ⟨rfl, rfl⟩
          show aw_W _ _ _ _ (26, [some (.ref 46), some (.int (nI N)), some (.int o), some (.int 4), none, none], []) (ae_en (au σ [(42, (σ 28))]) (au α [(48, fC 10 (α 35) (α 48)), (49, fC 10 (α 36) (α 49)), (50, fC 10 (α 38) (α 50))]) z t0 ts)
          refine aw_go 2 rfl ⟨trivial, trivial, trivial⟩ ?_
          refine aw_call rfl rfl (ev_Model_water (N := N) hM hD hw hv hs hx hx9 hN hnl) ?_
          rintro _ _ ⟨pl2_28, fr2_28, tk2_28, rfl, rfl⟩
          show aw_W _ _ _ _ (29, [some (.ref 46), some (.int (nI N)), some (.int o), some (.int 4), none, none], []) (ae_en (au σ [(28, (dyA (σ 28) N)), (41, (gGN B N W (α 36) (α 37) (α 38) N (n - 1))), (42, (σ 28))]) (au α [(35, (W N)), (36, (vD B n N W (α 36) (α 37) (α 38) N)), (38, (fD B n N W (α 36) (α 37) (α 38) N)), (43, pl2_28), (44, fr2_28), (47, tk2_28), (48, fC 10 (α 35) (α 48)), (49, fC 10 (α 36) (α 49)), (50, fC 10 (α 38) (α 50))]) ((gCI B n N W (α 36) (α 37) (α 38) (σ 28) (sumF (α 34) n) N).toInt64) t0 ts)
          refine aw_go 2 rfl ⟨trivial, trivial, trivial⟩ ?_
          refine aw_br (c := ¬ (4 : Int32) = 0) (fun h30 => ?_) (fun h30 => ?_)
          · skip
            have h30 := cI_eqF (a := 4) (b := 0) rfl rfl (by omega) (by omega) h30
            show aw_W _ _ _ _ (36, [some (.ref 46), some (.int (nI N)), some (.int o), some (.int 4), none, none], []) (ae_en (au σ [(28, (dyA (σ 28) N)), (41, (gGN B N W (α 36) (α 37) (α 38) N (n - 1))), (42, (σ 28))]) (au α [(35, (W N)), (36, (vD B n N W (α 36) (α 37) (α 38) N)), (38, (fD B n N W (α 36) (α 37) (α 38) N)), (43, pl2_28), (44, fr2_28), (47, tk2_28), (48, fC 10 (α 35) (α 48)), (49, fC 10 (α 36) (α 49)), (50, fC 10 (α 38) (α 50))]) ((gCI B n N W (α 36) (α 37) (α 38) (σ 28) (sumF (α 34) n) N).toInt64) t0 ts)
            refine aw_go 3 rfl ⟨trivial, trivial, trivial, trivial⟩ ?_
            refine aw_br (c := ¬ (4 : Int32) = 1) (fun h38 => ?_) (fun h38 => ?_)
            · skip
              have h38 := cI_eqF (a := 4) (b := 1) rfl rfl (by omega) (by omega) h38
              show aw_W _ _ _ _ (44, [some (.ref 46), some (.int (nI N)), some (.int o), some (.int 4), none, none], []) (ae_en (au σ [(28, (dyA (σ 28) N)), (41, (gGN B N W (α 36) (α 37) (α 38) N (n - 1))), (42, (σ 28))]) (au α [(35, (W N)), (36, (vD B n N W (α 36) (α 37) (α 38) N)), (38, (fD B n N W (α 36) (α 37) (α 38) N)), (43, pl2_28), (44, fr2_28), (47, tk2_28), (48, fC 10 (α 35) (α 48)), (49, fC 10 (α 36) (α 49)), (50, fC 10 (α 38) (α 50))]) ((gCI B n N W (α 36) (α 37) (α 38) (σ 28) (sumF (α 34) n) N).toInt64) t0 ts)
              refine aw_go 3 rfl ⟨trivial, trivial, trivial, trivial⟩ ?_
              refine aw_br (c := ¬ (4 : Int32) = 2) (fun h46 => ?_) (fun h46 => ?_)
              · skip
                have h46 := cI_eqF (a := 4) (b := 2) rfl rfl (by omega) (by omega) h46
                show aw_W _ _ _ _ (53, [some (.ref 46), some (.int (nI N)), some (.int o), some (.int 4), none, none], []) (ae_en (au σ [(28, (dyA (σ 28) N)), (41, (gGN B N W (α 36) (α 37) (α 38) N (n - 1))), (42, (σ 28))]) (au α [(35, (W N)), (36, (vD B n N W (α 36) (α 37) (α 38) N)), (38, (fD B n N W (α 36) (α 37) (α 38) N)), (43, pl2_28), (44, fr2_28), (47, tk2_28), (48, fC 10 (α 35) (α 48)), (49, fC 10 (α 36) (α 49)), (50, fC 10 (α 38) (α 50))]) ((gCI B n N W (α 36) (α 37) (α 38) (σ 28) (sumF (α 34) n) N).toInt64) t0 ts)
                refine aw_go 3 rfl ⟨trivial, trivial, trivial, trivial⟩ ?_
                refine aw_br (c := ¬ (4 : Int32) = 3) (fun h55 => ?_) (fun h55 => ?_)
                · skip
                  have h55 := cI_eqF (a := 4) (b := 3) rfl rfl (by omega) (by omega) h55
                  show aw_W _ _ _ _ (60, [some (.ref 46), some (.int (nI N)), some (.int o), some (.int 4), none, none], []) (ae_en (au σ [(28, (dyA (σ 28) N)), (41, (gGN B N W (α 36) (α 37) (α 38) N (n - 1))), (42, (σ 28))]) (au α [(35, (W N)), (36, (vD B n N W (α 36) (α 37) (α 38) N)), (38, (fD B n N W (α 36) (α 37) (α 38) N)), (43, pl2_28), (44, fr2_28), (47, tk2_28), (48, fC 10 (α 35) (α 48)), (49, fC 10 (α 36) (α 49)), (50, fC 10 (α 38) (α 50))]) ((gCI B n N W (α 36) (α 37) (α 38) (σ 28) (sumF (α 34) n) N).toInt64) t0 ts)
                  refine aw_go 4 rfl ⟨trivial, trivial, trivial, trivial, trivial⟩ ?_
                  show aw_W _ _ _ _ (64, [some (.ref 46), some (.int (nI N)), some (.int o), some (.int 4), some (.long ((gCI B n N W (α 36) (α 37) (α 38) (σ 28) (sumF (α 34) n) N).toInt64)), none], [.ref 46]) (ae_en (au σ [(28, (dyA (σ 28) N)), (41, (gGN B N W (α 36) (α 37) (α 38) N (n - 1))), (42, (σ 28))]) (au α [(35, (W N)), (36, (vD B n N W (α 36) (α 37) (α 38) N)), (38, (fD B n N W (α 36) (α 37) (α 38) N)), (43, pl2_28), (44, fr2_28), (47, tk2_28), (48, fC 10 (α 35) (α 48)), (49, fC 10 (α 36) (α 49)), (50, fC 10 (α 38) (α 50))]) ((gCI B n N W (α 36) (α 37) (α 38) (σ 28) (sumF (α 34) n) N).toInt64) t0 ts)
                  refine aw_call rfl rfl (ev_Model_layBack) ?_
                  rintro _ _ ⟨rfl, rfl⟩
                  show aw_W _ _ _ _ (65, [some (.ref 46), some (.int (nI N)), some (.int o), some (.int 4), some (.long ((gCI B n N W (α 36) (α 37) (α 38) (σ 28) (sumF (α 34) n) N).toInt64)), none], []) (ae_en (au σ [(28, (σ 28)), (41, (gGN B N W (α 36) (α 37) (α 38) N (n - 1))), (42, (σ 28))]) (au α [(35, fC 10 (fC 10 (α 35) (α 48)) (W N)), (36, fC 10 (fC 10 (α 36) (α 49)) (vD B n N W (α 36) (α 37) (α 38) N)), (38, fC 10 (fC 10 (α 38) (α 50)) (fD B n N W (α 36) (α 37) (α 38) N)), (43, pl2_28), (44, fr2_28), (47, tk2_28), (48, fC 10 (α 35) (α 48)), (49, fC 10 (α 36) (α 49)), (50, fC 10 (α 38) (α 50))]) ((gCI B n N W (α 36) (α 37) (α 38) (σ 28) (sumF (α 34) n) N).toInt64) t0 ts)
                  rw [show fC 10 (fC 10 (α 35) (α 48)) (W N) = (α 35) from lb_eq (fun j hj => by rw [hD]; exact wD_out (by omega) _), show fC 10 (fC 10 (α 36) (α 49)) (vD B n N W (α 36) (α 37) (α 38) N) = (α 36) from lb_eq (fun j hj => vD_out (by omega)), show fC 10 (fC 10 (α 38) (α 50)) (fD B n N W (α 36) (α 37) (α 38) N) = (α 38) from lb_eq (fun j hj => fD_out (by omega))]
                  show aw_W _ _ _ _ (65, [some (.ref 46), some (.int (nI N)), some (.int o), some (.int 4), some (.long ((gCI B n N W (α 36) (α 37) (α 38) (σ 28) (sumF (α 34) n) N).toInt64)), none], []) (ae_en (au σ [(41, (gGN B N W (α 36) (α 37) (α 38) N (n - 1))), (42, (σ 28))]) (au α [(43, pl2_28), (44, fr2_28), (47, tk2_28), (48, fC 10 (α 35) (α 48)), (49, fC 10 (α 36) (α 49)), (50, fC 10 (α 38) (α 50))]) ((gCI B n N W (α 36) (α 37) (α 38) (σ 28) (sumF (α 34) n) N).toInt64) t0 ts)
                  refine aw_go 1 rfl ⟨trivial, trivial⟩ ?_
                  refine aw_ret rfl rfl trivial ?_
                  refine ⟨(gGN B N W (α 36) (α 37) (α 38) N (n - 1)), (σ 28), σ 43, σ 44, pl2_28, fr2_28, tk2_28, fC 10 (α 35) (α 48), fC 10 (α 36) (α 49), fC 10 (α 38) (α 50), (gCI B n N W (α 36) (α 37) (α 38) (σ 28) (sumF (α 34) n) N).toInt64, ?_, rfl⟩
                  rfl
                · skip
                  have h55 := Classical.not_not.mp h55
                  have h55 := cI_eqT (a := 4) (b := 3) rfl rfl (by omega) (by omega) h55
                  show aw_W _ _ _ _ (56, [some (.ref 46), some (.int (nI N)), some (.int o), some (.int 4), none, none], []) (ae_en (au σ [(28, (dyA (σ 28) N)), (41, (gGN B N W (α 36) (α 37) (α 38) N (n - 1))), (42, (σ 28))]) (au α [(35, (W N)), (36, (vD B n N W (α 36) (α 37) (α 38) N)), (38, (fD B n N W (α 36) (α 37) (α 38) N)), (43, pl2_28), (44, fr2_28), (47, tk2_28), (48, fC 10 (α 35) (α 48)), (49, fC 10 (α 36) (α 49)), (50, fC 10 (α 38) (α 50))]) ((gCI B n N W (α 36) (α 37) (α 38) (σ 28) (sumF (α 34) n) N).toInt64) t0 ts)
                  exact absurd h55 (by decide)
              · skip
                have h46 := Classical.not_not.mp h46
                have h46 := cI_eqT (a := 4) (b := 2) rfl rfl (by omega) (by omega) h46
                show aw_W _ _ _ _ (47, [some (.ref 46), some (.int (nI N)), some (.int o), some (.int 4), none, none], []) (ae_en (au σ [(28, (dyA (σ 28) N)), (41, (gGN B N W (α 36) (α 37) (α 38) N (n - 1))), (42, (σ 28))]) (au α [(35, (W N)), (36, (vD B n N W (α 36) (α 37) (α 38) N)), (38, (fD B n N W (α 36) (α 37) (α 38) N)), (43, pl2_28), (44, fr2_28), (47, tk2_28), (48, fC 10 (α 35) (α 48)), (49, fC 10 (α 36) (α 49)), (50, fC 10 (α 38) (α 50))]) ((gCI B n N W (α 36) (α 37) (α 38) (σ 28) (sumF (α 34) n) N).toInt64) t0 ts)
                exact absurd h46 (by decide)
            · skip
              have h38 := Classical.not_not.mp h38
              have h38 := cI_eqT (a := 4) (b := 1) rfl rfl (by omega) (by omega) h38
              show aw_W _ _ _ _ (39, [some (.ref 46), some (.int (nI N)), some (.int o), some (.int 4), none, none], []) (ae_en (au σ [(28, (dyA (σ 28) N)), (41, (gGN B N W (α 36) (α 37) (α 38) N (n - 1))), (42, (σ 28))]) (au α [(35, (W N)), (36, (vD B n N W (α 36) (α 37) (α 38) N)), (38, (fD B n N W (α 36) (α 37) (α 38) N)), (43, pl2_28), (44, fr2_28), (47, tk2_28), (48, fC 10 (α 35) (α 48)), (49, fC 10 (α 36) (α 49)), (50, fC 10 (α 38) (α 50))]) ((gCI B n N W (α 36) (α 37) (α 38) (σ 28) (sumF (α 34) n) N).toInt64) t0 ts)
              exact absurd h38 (by decide)
          · skip
            have h30 := Classical.not_not.mp h30
            have h30 := cI_eqT (a := 4) (b := 0) rfl rfl (by omega) (by omega) h30
            show aw_W _ _ _ _ (31, [some (.ref 46), some (.int (nI N)), some (.int o), some (.int 4), none, none], []) (ae_en (au σ [(28, (dyA (σ 28) N)), (41, (gGN B N W (α 36) (α 37) (α 38) N (n - 1))), (42, (σ 28))]) (au α [(35, (W N)), (36, (vD B n N W (α 36) (α 37) (α 38) N)), (38, (fD B n N W (α 36) (α 37) (α 38) N)), (43, pl2_28), (44, fr2_28), (47, tk2_28), (48, fC 10 (α 35) (α 48)), (49, fC 10 (α 36) (α 49)), (50, fC 10 (α 38) (α 50))]) ((gCI B n N W (α 36) (α 37) (α 38) (σ 28) (sumF (α 34) n) N).toInt64) t0 ts)
            exact absurd h30 (by decide)
        · skip
          have h17 := Classical.not_not.mp h17
          have h17 := cI_eqT (a := 4) (b := 2) rfl rfl (by omega) (by omega) h17
          show aw_W _ _ _ _ (18, [some (.ref 46), some (.int (nI N)), some (.int o), some (.int 4), none, none], []) (ae_en σ α z t0 ts)
          exact absurd h17 (by decide)
      · skip
        have h10 := cI_leF (a := 2) (b := 4) rfl rfl (by omega) (by omega) h10
        show aw_W _ _ _ _ (11, [some (.ref 46), some (.int (nI N)), some (.int o), some (.int 4), none, none], []) (ae_en σ α z t0 ts)
        exact absurd h10 (by decide)
end L46
