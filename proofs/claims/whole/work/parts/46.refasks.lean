/-! the reference: what calls answer -/
theorem dry_fC {B : ae_B} {n : Nat} {w : Nat → Int32} {dy : Int32} (hw : wOk n w) : fC n (fun p => fHeld (w p - gDr B n w dy p) 0 100) w = fC n (fun p => fMx 0 (w p - gDr B n w dy p)) w := fC_cg (fun j hj => (clip_dry (hw j hj) (gDr_b _ _ _ _ _)).1)
theorem dry_ok {B : ae_B} {n : Nat} {w : Nat → Int32} {dy : Int32} (hw : wOk n w) : wOk n (fC n (fun p => fMx 0 (w p - gDr B n w dy p)) w) := fun p hp => by
  rw [fC_lt hp]
  exact (clip_dry (hw p hp) (gDr_b _ _ _ _ _)).2
theorem dryN_ok {B : ae_B} {n x : Nat} {w : Nat → Int32} (hw : wOk n w) (hx : x ≤ 9999) : ∀ k, k ≤ 900000 → wOk n (dryN B n w (nI x) k).1 ∧ (dryN B n w (nI x) k).2 = dyA (nI x) k
  | 0, _ => ⟨hw, (dyA_0 hx).symm⟩
  | k + 1, hk => by
    obtain ⟨h1, h2⟩ := dryN_ok hw hx k (by omega)
    refine ⟨dry_ok h1, ?_⟩
    show fMn 9999 ((dryN B n w (nI x) k).2 + 1) = _
    rw [h2, dyA_s hx (by omega)]
section L46
variable {P : ae_P} {σ : Nat → Int32} {α : Nat → Nat → Int32} {z : Int64} {t0 : ae_T} {ts : List ae_T}

theorem ev_Model_told {n : Nat} {B : ae_B} {p what : Int32} {zd : Nat} (hM : mOk B n (σ 27) (σ 29) (σ 33) (α 31) (α 32) (α 33) (α 40) (α 41) (α 42)) (hw : wOk n (α 35)) : aw_X P (zd + 5) 141 [.ref 46, .int p, .int what] (ae_en σ α z t0 ts) (fun r H => ∃ (mg : Int32) (md : Int32) (mw : Int32) (mc : Int32) (pl : Nat → Int32) (fr : Nat → Int32) (tk : Nat → Int32) (ww : Nat → Int32) (wg : Nat → Int32) (wf : Nat → Int32) (zq : Int64), r = some (.int (aTold B n (α 35) (α 34) (σ 28) p what)) ∧ H = (ae_en (au σ [(41, mg), (42, md), (43, mw), (44, mc)]) (au α [(43, pl), (44, fr), (47, tk), (48, ww), (49, wg), (50, wf)]) zq t0 ts)) := by
  obtain ⟨hn, hn10, hs3, hk0, hk1, hk2, hbo, hru⟩ := id hM
  refine aw_ev (cd := cd_Model_told) rfl rfl rfl ?_
  show aw_W _ _ _ _ (0, [some (.ref 46), some (.int p), some (.int what)], []) (ae_en σ α z t0 ts)
  refine aw_go 2 rfl ⟨trivial, trivial, trivial⟩ ?_
  refine aw_callE rfl rfl (em_isPlank (p := p) hn hn10) ?_
  show aw_W _ _ _ _ (3, [some (.ref 46), some (.int p), some (.int what)], [.int (bI (iP n p))]) (ae_en σ α z t0 ts)
  refine aw_go 1 rfl ⟨trivial, trivial⟩ ?_
  refine aw_br (c := ¬ (bI (iP n p)) = 0) (fun h3 => ?_) (fun h3 => ?_)
  · skip
    have h3 := bI_t h3
    show aw_W _ _ _ _ (6, [some (.ref 46), some (.int p), some (.int what)], []) (ae_en σ α z t0 ts)
    obtain ⟨j, hj, rfl⟩ := iP_of h3 (by omega)
    refine aw_go 2 rfl ⟨trivial, trivial, trivial⟩ ?_
    refine aw_sw (x := what) (fun h7_0 => ?_) (fun h7_0 => ?_)
    · skip
      show aw_W _ _ _ _ (8, [some (.ref 46), some (.int (nI j)), some (.int what)], []) (ae_en σ α z t0 ts)
      refine aw_go 4 rfl ⟨trivial, trivial, trivial, (cI_in (a := j) rfl (by omega) (by decide)), trivial⟩ ?_
      show aw_W _ _ _ _ (12, [some (.ref 46), some (.int (nI j)), some (.int what)], [.int (α 31 (nI j).toNatClampNeg)]) (ae_en σ α z t0 ts)
      rw [show (nI j).toNatClampNeg = j from cI_cl (a := j) rfl (by omega)]
      refine aw_ret rfl rfl trivial ?_
      refine ⟨σ 41, σ 42, σ 43, σ 44, α 43, α 44, α 47, α 48, α 49, α 50, z, ?_, rfl⟩
      rw [aTold, if_pos (iP_nI hj (by omega)), nI_clamp (by omega), if_pos h7_0]
      rw [hk0]
      all_goals rfl
    refine aw_sw (x := what) (fun h7_1 => ?_) (fun h7_1 => ?_)
    · skip
      show aw_W _ _ _ _ (13, [some (.ref 46), some (.int (nI j)), some (.int what)], []) (ae_en σ α z t0 ts)
      refine aw_go 4 rfl ⟨trivial, trivial, trivial, (cI_in (a := j) rfl (by omega) (by decide)), trivial⟩ ?_
      show aw_W _ _ _ _ (17, [some (.ref 46), some (.int (nI j)), some (.int what)], [.int (α 32 (nI j).toNatClampNeg)]) (ae_en σ α z t0 ts)
      rw [show (nI j).toNatClampNeg = j from cI_cl (a := j) rfl (by omega)]
      refine aw_ret rfl rfl trivial ?_
      refine ⟨σ 41, σ 42, σ 43, σ 44, α 43, α 44, α 47, α 48, α 49, α 50, z, ?_, rfl⟩
      rw [aTold, if_pos (iP_nI hj (by omega)), nI_clamp (by omega), if_neg h7_0, if_pos h7_1]
      rw [hk1]
      all_goals rfl
    refine aw_sw (x := what) (fun h7_2 => ?_) (fun h7_2 => ?_)
    · skip
      show aw_W _ _ _ _ (18, [some (.ref 46), some (.int (nI j)), some (.int what)], []) (ae_en σ α z t0 ts)
      refine aw_go 4 rfl ⟨trivial, trivial, trivial, (cI_in (a := j) rfl (by omega) (by decide)), trivial⟩ ?_
      show aw_W _ _ _ _ (22, [some (.ref 46), some (.int (nI j)), some (.int what)], [.int (α 35 (nI j).toNatClampNeg)]) (ae_en σ α z t0 ts)
      rw [show (nI j).toNatClampNeg = j from cI_cl (a := j) rfl (by omega)]
      refine aw_ret rfl rfl trivial ?_
      refine ⟨σ 41, σ 42, σ 43, σ 44, α 43, α 44, α 47, α 48, α 49, α 50, z, ?_, rfl⟩
      rw [aTold, if_pos (iP_nI hj (by omega)), nI_clamp (by omega), if_neg h7_0, if_neg h7_1, if_pos h7_2]
      all_goals rfl
    refine aw_sw (x := what) (fun h7_3 => ?_) (fun h7_3 => ?_)
    · skip
      show aw_W _ _ _ _ (23, [some (.ref 46), some (.int (nI j)), some (.int what)], []) (ae_en σ α z t0 ts)
      refine aw_go 2 rfl ⟨trivial, trivial, trivial⟩ ?_
      refine aw_callE rfl rfl (ev_Model_growsOf (p := j) hM hw hj) ?_
      show aw_W _ _ _ _ (26, [some (.ref 46), some (.int (nI j)), some (.int what)], [.int (gGr B (α 35) j)]) (ae_en σ α z t0 ts)
      refine aw_ret rfl rfl trivial ?_
      refine ⟨σ 41, σ 42, σ 43, σ 44, α 43, α 44, α 47, α 48, α 49, α 50, z, ?_, rfl⟩
      rw [aTold, if_pos (iP_nI hj (by omega)), nI_clamp (by omega), if_neg h7_0, if_neg h7_1, if_neg h7_2, if_pos h7_3]
      all_goals rfl
    refine aw_sw (x := what) (fun h7_4 => ?_) (fun h7_4 => ?_)
    · skip
      show aw_W _ _ _ _ (27, [some (.ref 46), some (.int (nI j)), some (.int what)], []) (ae_en σ α z t0 ts)
      refine aw_go 2 rfl ⟨trivial, trivial, trivial⟩ ?_
      refine aw_call rfl rfl (ev_Model_takesUp (p := j) hM hj) ?_
      rintro _ _ ⟨pl_29, fr_29, rfl, rfl⟩
      show aw_W _ _ _ _ (30, [some (.ref 46), some (.int (nI j)), some (.int what)], [.int (gTk B n (α 35) (σ 28) j)]) (ae_en σ (au α [(43, pl_29), (44, fr_29)]) z t0 ts)
      refine aw_ret rfl rfl trivial ?_
      refine ⟨σ 41, σ 42, σ 43, σ 44, pl_29, fr_29, α 47, α 48, α 49, α 50, z, ?_, rfl⟩
      rw [aTold, if_pos (iP_nI hj (by omega)), nI_clamp (by omega), if_neg h7_0, if_neg h7_1, if_neg h7_2, if_neg h7_3, if_pos h7_4]
      all_goals rfl
    refine aw_sw (x := what) (fun h7_5 => ?_) (fun h7_5 => ?_)
    · skip
      show aw_W _ _ _ _ (31, [some (.ref 46), some (.int (nI j)), some (.int what)], []) (ae_en σ α z t0 ts)
      refine aw_go 2 rfl ⟨trivial, trivial, trivial⟩ ?_
      refine aw_callE rfl rfl (ev_Model_bearsOf (p := j) hM hj) ?_
      show aw_W _ _ _ _ (34, [some (.ref 46), some (.int (nI j)), some (.int what)], [.int (gBe B j)]) (ae_en σ α z t0 ts)
      refine aw_ret rfl rfl trivial ?_
      refine ⟨σ 41, σ 42, σ 43, σ 44, α 43, α 44, α 47, α 48, α 49, α 50, z, ?_, rfl⟩
      rw [aTold, if_pos (iP_nI hj (by omega)), nI_clamp (by omega), if_neg h7_0, if_neg h7_1, if_neg h7_2, if_neg h7_3, if_neg h7_4, if_pos h7_5]
      all_goals rfl
    refine aw_sw (x := what) (fun h7_6 => ?_) (fun h7_6 => ?_)
    · skip
      show aw_W _ _ _ _ (35, [some (.ref 46), some (.int (nI j)), some (.int what)], []) (ae_en σ α z t0 ts)
      refine aw_go 4 rfl ⟨trivial, trivial, trivial, (cI_in (a := j) rfl (by omega) (by decide)), trivial⟩ ?_
      show aw_W _ _ _ _ (39, [some (.ref 46), some (.int (nI j)), some (.int what)], [.int (α 34 (nI j).toNatClampNeg)]) (ae_en σ α z t0 ts)
      rw [show (nI j).toNatClampNeg = j from cI_cl (a := j) rfl (by omega)]
      refine aw_ret rfl rfl trivial ?_
      refine ⟨σ 41, σ 42, σ 43, σ 44, α 43, α 44, α 47, α 48, α 49, α 50, z, ?_, rfl⟩
      rw [aTold, if_pos (iP_nI hj (by omega)), nI_clamp (by omega), if_neg h7_0, if_neg h7_1, if_neg h7_2, if_neg h7_3, if_neg h7_4, if_neg h7_5, if_pos h7_6]
      all_goals rfl
    refine aw_sw (x := what) (fun h7_7 => ?_) (fun h7_7 => ?_)
    · skip
      show aw_W _ _ _ _ (40, [some (.ref 46), some (.int (nI j)), some (.int what)], []) (ae_en σ α z t0 ts)
      refine aw_go 4 rfl ⟨trivial, trivial, trivial, (cI_in (a := j) rfl (by omega) (by decide)), trivial⟩ ?_
      show aw_W _ _ _ _ (44, [some (.ref 46), some (.int (nI j)), some (.int what)], [.int (α 33 (nI j).toNatClampNeg)]) (ae_en σ α z t0 ts)
      rw [show (nI j).toNatClampNeg = j from cI_cl (a := j) rfl (by omega)]
      refine aw_ret rfl rfl trivial ?_
      refine ⟨σ 41, σ 42, σ 43, σ 44, α 43, α 44, α 47, α 48, α 49, α 50, z, ?_, rfl⟩
      rw [aTold, if_pos (iP_nI hj (by omega)), nI_clamp (by omega), if_neg h7_0, if_neg h7_1, if_neg h7_2, if_neg h7_3, if_neg h7_4, if_neg h7_5, if_neg h7_6, if_pos h7_7]
      rw [hk2]
      all_goals rfl
    show aw_W _ _ _ _ (45, [some (.ref 46), some (.int (nI j)), some (.int what)], []) (ae_en σ α z t0 ts)
    refine aw_go 1 rfl ⟨trivial, trivial⟩ ?_
    refine aw_ret rfl rfl trivial ?_
    refine ⟨σ 41, σ 42, σ 43, σ 44, α 43, α 44, α 47, α 48, α 49, α 50, z, ?_, rfl⟩
    rw [aTold, if_pos (iP_nI hj (by omega)), nI_clamp (by omega), if_neg h7_0, if_neg h7_1, if_neg h7_2, if_neg h7_3, if_neg h7_4, if_neg h7_5, if_neg h7_6, if_neg h7_7]
    all_goals rfl
  · skip
    have h3 := bI_f (Classical.not_not.mp h3)
    show aw_W _ _ _ _ (4, [some (.ref 46), some (.int p), some (.int what)], []) (ae_en σ α z t0 ts)
    refine aw_go 1 rfl ⟨trivial, trivial⟩ ?_
    refine aw_ret rfl rfl trivial ?_
    refine ⟨σ 41, σ 42, σ 43, σ 44, α 43, α 44, α 47, α 48, α 49, α 50, z, ?_, rfl⟩
    rw [aTold, if_neg h3]
theorem ev_Model_gap {n : Nat} {B : ae_B} {g what : Int32} {zd : Nat} (hM : mOk B n (σ 27) (σ 29) (σ 33) (α 31) (α 32) (α 33) (α 40) (α 41) (α 42)) (hw : wOk n (α 35)) (hv : vOk n 200 (α 36)) (hs : vOk n 100 (α 37)) : ae_Ev P (zd + 5) 145 [.ref 46, .int g, .int what] (ae_en σ α z t0 ts) (some (.int (aGap B n (α 35) (α 36) (α 37) (α 38) g what))) (ae_en σ α z t0 ts) := by
  obtain ⟨hn, hn10, hs3, hk0, hk1, hk2, hbo, hru⟩ := id hM
  refine aw_evE (cd := cd_Model_gap) rfl rfl rfl ?_
  show aw_W _ _ _ _ (0, [some (.ref 46), some (.int g), some (.int what)], []) (ae_en σ α z t0 ts)
  refine aw_go 2 rfl ⟨trivial, trivial, trivial⟩ ?_
  refine aw_callE rfl rfl (em_isGap (p := g) hn hn10) ?_
  show aw_W _ _ _ _ (3, [some (.ref 46), some (.int g), some (.int what)], [.int (bI (iP (n - 1) g))]) (ae_en σ α z t0 ts)
  refine aw_go 1 rfl ⟨trivial, trivial⟩ ?_
  refine aw_br (c := ¬ (bI (iP (n - 1) g)) = 0) (fun h3 => ?_) (fun h3 => ?_)
  · skip
    have h3 := bI_t h3
    show aw_W _ _ _ _ (6, [some (.ref 46), some (.int g), some (.int what)], []) (ae_en σ α z t0 ts)
    obtain ⟨j, hj, rfl⟩ := iP_of h3 (by omega)
    refine aw_go 2 rfl ⟨trivial, trivial, trivial⟩ ?_
    refine aw_sw (x := what) (fun h7_0 => ?_) (fun h7_0 => ?_)
    · skip
      show aw_W _ _ _ _ (8, [some (.ref 46), some (.int (nI j)), some (.int what)], []) (ae_en σ α z t0 ts)
      refine aw_go 4 rfl ⟨trivial, trivial, trivial, (cI_in (a := j) rfl (by omega) (by decide)), trivial⟩ ?_
      show aw_W _ _ _ _ (12, [some (.ref 46), some (.int (nI j)), some (.int what)], [.int (α 36 (nI j).toNatClampNeg)]) (ae_en σ α z t0 ts)
      rw [show (nI j).toNatClampNeg = j from cI_cl (a := j) rfl (by omega)]
      refine aw_ret rfl rfl trivial ?_
      refine ⟨?_, rfl⟩
      rw [aGap, if_pos (iP_nI hj (by omega)), nI_clamp (by omega), if_pos h7_0]
      all_goals rfl
    refine aw_sw (x := what) (fun h7_1 => ?_) (fun h7_1 => ?_)
    · skip
      show aw_W _ _ _ _ (13, [some (.ref 46), some (.int (nI j)), some (.int what)], []) (ae_en σ α z t0 ts)
      refine aw_go 4 rfl ⟨trivial, trivial, trivial, (cI_in (a := j) rfl (by omega) (by decide)), trivial⟩ ?_
      show aw_W _ _ _ _ (17, [some (.ref 46), some (.int (nI j)), some (.int what)], [.int (α 37 (nI j).toNatClampNeg)]) (ae_en σ α z t0 ts)
      rw [show (nI j).toNatClampNeg = j from cI_cl (a := j) rfl (by omega)]
      refine aw_ret rfl rfl trivial ?_
      refine ⟨?_, rfl⟩
      rw [aGap, if_pos (iP_nI hj (by omega)), nI_clamp (by omega), if_neg h7_0, if_pos h7_1]
      all_goals rfl
    refine aw_sw (x := what) (fun h7_2 => ?_) (fun h7_2 => ?_)
    · skip
      show aw_W _ _ _ _ (18, [some (.ref 46), some (.int (nI j)), some (.int what)], []) (ae_en σ α z t0 ts)
      refine aw_go 4 rfl ⟨trivial, trivial, trivial, (cI_in (a := j) rfl (by omega) (by decide)), trivial⟩ ?_
      show aw_W _ _ _ _ (22, [some (.ref 46), some (.int (nI j)), some (.int what)], [.int (α 38 (nI j).toNatClampNeg)]) (ae_en σ α z t0 ts)
      rw [show (nI j).toNatClampNeg = j from cI_cl (a := j) rfl (by omega)]
      refine aw_ret rfl rfl trivial ?_
      refine ⟨?_, rfl⟩
      rw [aGap, if_pos (iP_nI hj (by omega)), nI_clamp (by omega), if_neg h7_0, if_neg h7_1, if_pos h7_2]
      all_goals rfl
    refine aw_sw (x := what) (fun h7_3 => ?_) (fun h7_3 => ?_)
    · skip
      show aw_W _ _ _ _ (23, [some (.ref 46), some (.int (nI j)), some (.int what)], []) (ae_en σ α z t0 ts)
      refine aw_go 2 rfl ⟨trivial, trivial, trivial⟩ ?_
      refine aw_callE rfl rfl (ev_Model_openOf (g := j) hM hw (by omega)) ?_
      show aw_W _ _ _ _ (26, [some (.ref 46), some (.int (nI j)), some (.int what)], [.int (rOp B (α 35) (α 36) (α 37) j)]) (ae_en σ α z t0 ts)
      refine aw_ret rfl rfl trivial ?_
      refine ⟨?_, rfl⟩
      rw [aGap, if_pos (iP_nI hj (by omega)), nI_clamp (by omega), if_neg h7_0, if_neg h7_1, if_neg h7_2, if_pos h7_3]
      all_goals rfl
    refine aw_sw (x := what) (fun h7_4 => ?_) (fun h7_4 => ?_)
    · skip
      show aw_W _ _ _ _ (27, [some (.ref 46), some (.int (nI j)), some (.int what)], []) (ae_en σ α z t0 ts)
      refine aw_go 2 rfl ⟨trivial, trivial, trivial⟩ ?_
      refine aw_callE rfl rfl (ev_Model_pressOf (g := j) hM hw (by omega) (hv j (by omega)) (hs j (by omega))) ?_
      show aw_W _ _ _ _ (30, [some (.ref 46), some (.int (nI j)), some (.int what)], [.int (rPr B (α 35) (α 36) (α 37) j)]) (ae_en σ α z t0 ts)
      refine aw_ret rfl rfl trivial ?_
      refine ⟨?_, rfl⟩
      rw [aGap, if_pos (iP_nI hj (by omega)), nI_clamp (by omega), if_neg h7_0, if_neg h7_1, if_neg h7_2, if_neg h7_3, if_pos h7_4]
      all_goals rfl
    show aw_W _ _ _ _ (31, [some (.ref 46), some (.int (nI j)), some (.int what)], []) (ae_en σ α z t0 ts)
    refine aw_go 1 rfl ⟨trivial, trivial⟩ ?_
    refine aw_ret rfl rfl trivial ?_
    refine ⟨?_, rfl⟩
    rw [aGap, if_pos (iP_nI hj (by omega)), nI_clamp (by omega), if_neg h7_0, if_neg h7_1, if_neg h7_2, if_neg h7_3, if_neg h7_4]
    all_goals rfl
  · skip
    have h3 := bI_f (Classical.not_not.mp h3)
    show aw_W _ _ _ _ (4, [some (.ref 46), some (.int g), some (.int what)], []) (ae_en σ α z t0 ts)
    refine aw_go 1 rfl ⟨trivial, trivial⟩ ?_
    refine aw_ret rfl rfl trivial ?_
    refine ⟨?_, rfl⟩
    rw [aGap, if_neg h3]
theorem ev_Model_count {n : Nat} {B : ae_B} {what : Int32} {zd : Nat} (hM : mOk B n (σ 27) (σ 29) (σ 33) (α 31) (α 32) (α 33) (α 40) (α 41) (α 42)) (hw : wOk n (α 35)) : ae_Ev P (zd + 5) 171 [.ref 46, .int what] (ae_en σ α z t0 ts) (some (.int (aCount (σ 27) (rON B (α 35) (α 36) (α 37) (n - 1)) (sumF (α 38) (n - 1)) (σ 28) (σ 32) (σ 31) (σ 33) (σ 29) (σ 30) (sumF (α 34) n) what))) (ae_en σ α z t0 ts) := by
  obtain ⟨hn, hn10, hs3, hk0, hk1, hk2, hbo, hru⟩ := id hM
  refine aw_evE (cd := cd_Model_count) rfl rfl rfl ?_
  show aw_W _ _ _ _ (0, [some (.ref 46), some (.int what)], []) (ae_en σ α z t0 ts)
  refine aw_go 2 rfl ⟨trivial, trivial, trivial⟩ ?_
  refine aw_sw (x := what) (fun h1_0 => ?_) (fun h1_0 => ?_)
  · skip
    show aw_W _ _ _ _ (2, [some (.ref 46), some (.int what)], []) (ae_en σ α z t0 ts)
    refine aw_go 2 rfl ⟨trivial, trivial, trivial⟩ ?_
    show aw_W _ _ _ _ (4, [some (.ref 46), some (.int what)], [.int (σ 27)]) (ae_en σ α z t0 ts)
    refine aw_ret rfl rfl trivial ?_
    refine ⟨?_, rfl⟩
    rw [aCount, if_pos h1_0]
    all_goals rfl
  refine aw_sw (x := what) (fun h1_1 => ?_) (fun h1_1 => ?_)
  · skip
    show aw_W _ _ _ _ (5, [some (.ref 46), some (.int what)], []) (ae_en σ α z t0 ts)
    refine aw_go 1 rfl ⟨trivial, trivial⟩ ?_
    refine aw_callE rfl rfl (ev_Model_openMany  hM hw) ?_
    show aw_W _ _ _ _ (7, [some (.ref 46), some (.int what)], [.int (rON B (α 35) (α 36) (α 37) (n - 1))]) (ae_en σ α z t0 ts)
    refine aw_ret rfl rfl trivial ?_
    refine ⟨?_, rfl⟩
    rw [aCount, if_neg h1_0, if_pos h1_1]
    all_goals rfl
  refine aw_sw (x := what) (fun h1_2 => ?_) (fun h1_2 => ?_)
  · skip
    show aw_W _ _ _ _ (8, [some (.ref 46), some (.int what)], []) (ae_en σ α z t0 ts)
    refine aw_go 1 rfl ⟨trivial, trivial⟩ ?_
    refine aw_callE rfl rfl (ev_Model_fastMany  hn hn10) ?_
    show aw_W _ _ _ _ (10, [some (.ref 46), some (.int what)], [.int (sumF (α 38) (n - 1))]) (ae_en σ α z t0 ts)
    refine aw_ret rfl rfl trivial ?_
    refine ⟨?_, rfl⟩
    rw [aCount, if_neg h1_0, if_neg h1_1, if_pos h1_2]
    all_goals rfl
  refine aw_sw (x := what) (fun h1_3 => ?_) (fun h1_3 => ?_)
  · skip
    show aw_W _ _ _ _ (11, [some (.ref 46), some (.int what)], []) (ae_en σ α z t0 ts)
    refine aw_go 2 rfl ⟨trivial, trivial, trivial⟩ ?_
    show aw_W _ _ _ _ (13, [some (.ref 46), some (.int what)], [.int (σ 28)]) (ae_en σ α z t0 ts)
    refine aw_ret rfl rfl trivial ?_
    refine ⟨?_, rfl⟩
    rw [aCount, if_neg h1_0, if_neg h1_1, if_neg h1_2, if_pos h1_3]
    all_goals rfl
  refine aw_sw (x := what) (fun h1_4 => ?_) (fun h1_4 => ?_)
  · skip
    show aw_W _ _ _ _ (14, [some (.ref 46), some (.int what)], []) (ae_en σ α z t0 ts)
    refine aw_go 2 rfl ⟨trivial, trivial, trivial⟩ ?_
    show aw_W _ _ _ _ (16, [some (.ref 46), some (.int what)], [.int (σ 32)]) (ae_en σ α z t0 ts)
    refine aw_ret rfl rfl trivial ?_
    refine ⟨?_, rfl⟩
    rw [aCount, if_neg h1_0, if_neg h1_1, if_neg h1_2, if_neg h1_3, if_pos h1_4]
    all_goals rfl
  refine aw_sw (x := what) (fun h1_5 => ?_) (fun h1_5 => ?_)
  · skip
    show aw_W _ _ _ _ (17, [some (.ref 46), some (.int what)], []) (ae_en σ α z t0 ts)
    refine aw_go 2 rfl ⟨trivial, trivial, trivial⟩ ?_
    show aw_W _ _ _ _ (19, [some (.ref 46), some (.int what)], [.int (σ 31)]) (ae_en σ α z t0 ts)
    refine aw_ret rfl rfl trivial ?_
    refine ⟨?_, rfl⟩
    rw [aCount, if_neg h1_0, if_neg h1_1, if_neg h1_2, if_neg h1_3, if_neg h1_4, if_pos h1_5]
    all_goals rfl
  refine aw_sw (x := what) (fun h1_6 => ?_) (fun h1_6 => ?_)
  · skip
    show aw_W _ _ _ _ (20, [some (.ref 46), some (.int what)], []) (ae_en σ α z t0 ts)
    refine aw_go 2 rfl ⟨trivial, trivial, trivial⟩ ?_
    show aw_W _ _ _ _ (22, [some (.ref 46), some (.int what)], [.int (σ 33)]) (ae_en σ α z t0 ts)
    refine aw_ret rfl rfl trivial ?_
    refine ⟨?_, rfl⟩
    rw [aCount, if_neg h1_0, if_neg h1_1, if_neg h1_2, if_neg h1_3, if_neg h1_4, if_neg h1_5, if_pos h1_6]
    all_goals rfl
  refine aw_sw (x := what) (fun h1_7 => ?_) (fun h1_7 => ?_)
  · skip
    show aw_W _ _ _ _ (23, [some (.ref 46), some (.int what)], []) (ae_en σ α z t0 ts)
    refine aw_go 2 rfl ⟨trivial, trivial, trivial⟩ ?_
    show aw_W _ _ _ _ (25, [some (.ref 46), some (.int what)], [.int (σ 29)]) (ae_en σ α z t0 ts)
    refine aw_ret rfl rfl trivial ?_
    refine ⟨?_, rfl⟩
    rw [aCount, if_neg h1_0, if_neg h1_1, if_neg h1_2, if_neg h1_3, if_neg h1_4, if_neg h1_5, if_neg h1_6, if_pos h1_7]
    all_goals rfl
  refine aw_sw (x := what) (fun h1_8 => ?_) (fun h1_8 => ?_)
  · skip
    show aw_W _ _ _ _ (26, [some (.ref 46), some (.int what)], []) (ae_en σ α z t0 ts)
    refine aw_go 2 rfl ⟨trivial, trivial, trivial⟩ ?_
    show aw_W _ _ _ _ (28, [some (.ref 46), some (.int what)], [.int (σ 30)]) (ae_en σ α z t0 ts)
    refine aw_ret rfl rfl trivial ?_
    refine ⟨?_, rfl⟩
    rw [aCount, if_neg h1_0, if_neg h1_1, if_neg h1_2, if_neg h1_3, if_neg h1_4, if_neg h1_5, if_neg h1_6, if_neg h1_7, if_pos h1_8]
    all_goals rfl
  refine aw_sw (x := what) (fun h1_9 => ?_) (fun h1_9 => ?_)
  · skip
    show aw_W _ _ _ _ (29, [some (.ref 46), some (.int what)], []) (ae_en σ α z t0 ts)
    refine aw_go 1 rfl ⟨trivial, trivial⟩ ?_
    refine aw_callE rfl rfl (ev_Model_allNails  hn hn10) ?_
    show aw_W _ _ _ _ (31, [some (.ref 46), some (.int what)], [.int (sumF (α 34) n)]) (ae_en σ α z t0 ts)
    refine aw_ret rfl rfl trivial ?_
    refine ⟨?_, rfl⟩
    rw [aCount, if_neg h1_0, if_neg h1_1, if_neg h1_2, if_neg h1_3, if_neg h1_4, if_neg h1_5, if_neg h1_6, if_neg h1_7, if_neg h1_8, if_pos h1_9]
    all_goals rfl
  show aw_W _ _ _ _ (32, [some (.ref 46), some (.int what)], []) (ae_en σ α z t0 ts)
  refine aw_go 1 rfl ⟨trivial, trivial⟩ ?_
  refine aw_ret rfl rfl trivial ?_
  refine ⟨?_, rfl⟩
  rw [aCount, if_neg h1_0, if_neg h1_1, if_neg h1_2, if_neg h1_3, if_neg h1_4, if_neg h1_5, if_neg h1_6, if_neg h1_7, if_neg h1_8, if_neg h1_9]
  all_goals rfl
end L46
