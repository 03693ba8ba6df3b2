/-! the reference: how soon, which gap -/
section L48
variable {P : ae_P} {σ : Nat → Int32} {α : Nat → Nat → Int32} {z : Int64} {t0 : ae_T} {ts : List ae_T}

theorem lpF_tight {zd : Nat} {n : Nat} {B : ae_B} {x : Nat} {W : Nat → Nat → Int32} {go : Int32} {pl fr tk ww wg wf : Nat → Int32} {zz : Int64} (hM : mOk B n (σ 27) (σ 29) (σ 33) (α 31) (α 32) (α 33) (α 40) (α 41) (α 42)) (hD : W = wD B n (α 35) (σ 28)) (hw : wOk n (α 35)) (hv : vOk n 200 (α 36)) (hs : vOk n 100 (α 37)) (hx : (σ 28) = nI x) (hx9 : x ≤ 9999) (hn10 : n ≤ 10) (k : Nat) (hk : k ≤ 60) (f q : Nat) (hf : f ≤ 60) (hq : q ≤ 61) (hI : tD (fun d => decide (gON B 60 W (α 36) (α 37) (α 38) d (n - 1) = 0)) 61 0 = nI f) : aw_W P (zd + 5) cd_Model_tight (fun r H => ∃ (mg : Int32) (md : Int32) (mw : Int32) (mc : Int32) (pl : Nat → Int32) (fr : Nat → Int32) (tk : Nat → Int32) (ww : Nat → Int32) (wg : Nat → Int32) (wf : Nat → Int32) (zq : Int64), r = some (.int (aTight B n (α 35) (α 36) (α 37) (α 38) (σ 28))) ∧ H = (ae_en (au σ [(41, mg), (42, md), (43, mw), (44, mc)]) (au α [(43, pl), (44, fr), (47, tk), (48, ww), (49, wg), (50, wf)]) zq t0 ts)) (11, [some (.ref 46), some (.int (nI f)), some (.int (nI q))], []) (ae_en (au σ [(28, (dyA (σ 28) k)), (41, go), (42, (σ 28))]) (au α [(35, (W k)), (36, (vD B n 60 W (α 36) (α 37) (α 38) k)), (38, (fD B n 60 W (α 36) (α 37) (α 38) k)), (43, pl), (44, fr), (47, tk), (48, (fC 10 (α 35) ww)), (49, (fC 10 (α 36) wg)), (50, (fC 10 (α 38) wf))]) zz t0 ts) := by
  refine aw_go 3 rfl ⟨trivial, trivial, trivial, trivial⟩ ?_
  refine aw_br (c := (60 : Int32) < (nI q)) (fun h13 => ?_) (fun h13 => ?_)
  · skip
    have h13 := cI_ltT (a := 60) (b := q) rfl rfl (by omega) (by omega) h13
    show aw_W _ _ _ _ (25, [some (.ref 46), some (.int (nI f)), some (.int (nI q))], []) (ae_en (au σ [(28, (dyA (σ 28) k)), (41, go), (42, (σ 28))]) (au α [(35, (W k)), (36, (vD B n 60 W (α 36) (α 37) (α 38) k)), (38, (fD B n 60 W (α 36) (α 37) (α 38) k)), (43, pl), (44, fr), (47, tk), (48, (fC 10 (α 35) ww)), (49, (fC 10 (α 36) wg)), (50, (fC 10 (α 38) wf))]) zz t0 ts)
    refine aw_go 1 rfl ⟨trivial, trivial⟩ ?_
    refine aw_call rfl rfl (ev_Model_layBack) ?_
    rintro _ _ ⟨rfl, rfl⟩
    show aw_W _ _ _ _ (27, [some (.ref 46), some (.int (nI f)), some (.int (nI q))], []) (ae_en (au σ [(28, (σ 28)), (41, go), (42, (σ 28))]) (au α [(35, fC 10 (fC 10 (α 35) ww) (W k)), (36, fC 10 (fC 10 (α 36) wg) (vD B n 60 W (α 36) (α 37) (α 38) k)), (38, fC 10 (fC 10 (α 38) wf) (fD B n 60 W (α 36) (α 37) (α 38) k)), (43, pl), (44, fr), (47, tk), (48, (fC 10 (α 35) ww)), (49, (fC 10 (α 36) wg)), (50, (fC 10 (α 38) wf))]) zz t0 ts)
    rw [show fC 10 (fC 10 (α 35) ww) (W k) = (α 35) from lb_eq (fun j hj => by rw [hD]; exact wD_out (by omega) _), show fC 10 (fC 10 (α 36) wg) (vD B n 60 W (α 36) (α 37) (α 38) k) = (α 36) from lb_eq (fun j hj => vD_out (by omega)), show fC 10 (fC 10 (α 38) wf) (fD B n 60 W (α 36) (α 37) (α 38) k) = (α 38) from lb_eq (fun j hj => fD_out (by omega))]
    show aw_W _ _ _ _ (27, [some (.ref 46), some (.int (nI f)), some (.int (nI q))], []) (ae_en (au σ [(41, go), (42, (σ 28))]) (au α [(43, pl), (44, fr), (47, tk), (48, (fC 10 (α 35) ww)), (49, (fC 10 (α 36) wg)), (50, (fC 10 (α 38) wf))]) zz t0 ts)
    refine aw_go 1 rfl ⟨trivial, trivial⟩ ?_
    refine aw_ret rfl rfl trivial ?_
    refine ⟨go, (σ 28), σ 43, σ 44, pl, fr, tk, (fC 10 (α 35) ww), (fC 10 (α 36) wg), (fC 10 (α 38) wf), zz, ?_, rfl⟩
    rw [hD] at hI
    exact congrArg (fun q => some (Value.int q)) hI.symm
  · skip
    have h13 := cI_ltF (a := 60) (b := q) rfl rfl (by omega) (by omega) h13
    show aw_W _ _ _ _ (14, [some (.ref 46), some (.int (nI f)), some (.int (nI q))], []) (ae_en (au σ [(28, (dyA (σ 28) k)), (41, go), (42, (σ 28))]) (au α [(35, (W k)), (36, (vD B n 60 W (α 36) (α 37) (α 38) k)), (38, (fD B n 60 W (α 36) (α 37) (α 38) k)), (43, pl), (44, fr), (47, tk), (48, (fC 10 (α 35) ww)), (49, (fC 10 (α 36) wg)), (50, (fC 10 (α 38) wf))]) zz t0 ts)
    refine aw_go 2 rfl ⟨trivial, trivial, trivial⟩ ?_
    refine aw_br (c := (0 : Int32) ≤ (nI f)) (fun h15 => ?_) (fun h15 => ?_)
    · skip
      have h15 := cI_leT (a := 0) (b := f) rfl rfl (by omega) (by omega) h15
      show aw_W _ _ _ _ (25, [some (.ref 46), some (.int (nI f)), some (.int (nI q))], []) (ae_en (au σ [(28, (dyA (σ 28) k)), (41, go), (42, (σ 28))]) (au α [(35, (W k)), (36, (vD B n 60 W (α 36) (α 37) (α 38) k)), (38, (fD B n 60 W (α 36) (α 37) (α 38) k)), (43, pl), (44, fr), (47, tk), (48, (fC 10 (α 35) ww)), (49, (fC 10 (α 36) wg)), (50, (fC 10 (α 38) wf))]) zz t0 ts)
      refine aw_go 1 rfl ⟨trivial, trivial⟩ ?_
      refine aw_call rfl rfl (ev_Model_layBack) ?_
      rintro _ _ ⟨rfl, rfl⟩
      show aw_W _ _ _ _ (27, [some (.ref 46), some (.int (nI f)), some (.int (nI q))], []) (ae_en (au σ [(28, (σ 28)), (41, go), (42, (σ 28))]) (au α [(35, fC 10 (fC 10 (α 35) ww) (W k)), (36, fC 10 (fC 10 (α 36) wg) (vD B n 60 W (α 36) (α 37) (α 38) k)), (38, fC 10 (fC 10 (α 38) wf) (fD B n 60 W (α 36) (α 37) (α 38) k)), (43, pl), (44, fr), (47, tk), (48, (fC 10 (α 35) ww)), (49, (fC 10 (α 36) wg)), (50, (fC 10 (α 38) wf))]) zz t0 ts)
      rw [show fC 10 (fC 10 (α 35) ww) (W k) = (α 35) from lb_eq (fun j hj => by rw [hD]; exact wD_out (by omega) _), show fC 10 (fC 10 (α 36) wg) (vD B n 60 W (α 36) (α 37) (α 38) k) = (α 36) from lb_eq (fun j hj => vD_out (by omega)), show fC 10 (fC 10 (α 38) wf) (fD B n 60 W (α 36) (α 37) (α 38) k) = (α 38) from lb_eq (fun j hj => fD_out (by omega))]
      show aw_W _ _ _ _ (27, [some (.ref 46), some (.int (nI f)), some (.int (nI q))], []) (ae_en (au σ [(41, go), (42, (σ 28))]) (au α [(43, pl), (44, fr), (47, tk), (48, (fC 10 (α 35) ww)), (49, (fC 10 (α 36) wg)), (50, (fC 10 (α 38) wf))]) zz t0 ts)
      refine aw_go 1 rfl ⟨trivial, trivial⟩ ?_
      refine aw_ret rfl rfl trivial ?_
      refine ⟨go, (σ 28), σ 43, σ 44, pl, fr, tk, (fC 10 (α 35) ww), (fC 10 (α 36) wg), (fC 10 (α 38) wf), zz, ?_, rfl⟩
      rw [hD] at hI
      exact congrArg (fun q => some (Value.int q)) hI.symm
    · skip
      have h15 := cI_leF (a := 0) (b := f) rfl rfl (by omega) (by omega) h15
      show aw_W _ _ _ _ (16, [some (.ref 46), some (.int (nI f)), some (.int (nI q))], []) (ae_en (au σ [(28, (dyA (σ 28) k)), (41, go), (42, (σ 28))]) (au α [(35, (W k)), (36, (vD B n 60 W (α 36) (α 37) (α 38) k)), (38, (fD B n 60 W (α 36) (α 37) (α 38) k)), (43, pl), (44, fr), (47, tk), (48, (fC 10 (α 35) ww)), (49, (fC 10 (α 36) wg)), (50, (fC 10 (α 38) wf))]) zz t0 ts)
      exact absurd h15 (by omega)
theorem lp_mtight {zd : Nat} {n : Nat} {B : ae_B} {x : Nat} {W : Nat → Nat → Int32} {go : Int32} {pl fr tk ww wg wf : Nat → Int32} {zz : Int64} (hM : mOk B n (σ 27) (σ 29) (σ 33) (α 31) (α 32) (α 33) (α 40) (α 41) (α 42)) (hD : W = wD B n (α 35) (σ 28)) (hw : wOk n (α 35)) (hv : vOk n 200 (α 36)) (hs : vOk n 100 (α 37)) (hx : (σ 28) = nI x) (hx9 : x ≤ 9999) (hWk : ∀ d, wOk n (W d)) (hn : (σ 27) = nI n) (hn10 : n ≤ 10) (k : Nat) (hk : k ≤ 60) (hI : tD (fun d => decide (gON B 60 W (α 36) (α 37) (α 38) d (n - 1) = 0)) 61 0 = tD (fun d => decide (gON B 60 W (α 36) (α 37) (α 38) d (n - 1) = 0)) (60 - k) (k + 1)) : aw_W P (zd + 5) cd_Model_tight (fun r H => ∃ (mg : Int32) (md : Int32) (mw : Int32) (mc : Int32) (pl : Nat → Int32) (fr : Nat → Int32) (tk : Nat → Int32) (ww : Nat → Int32) (wg : Nat → Int32) (wf : Nat → Int32) (zq : Int64), r = some (.int (aTight B n (α 35) (α 36) (α 37) (α 38) (σ 28))) ∧ H = (ae_en (au σ [(41, mg), (42, md), (43, mw), (44, mc)]) (au α [(43, pl), (44, fr), (47, tk), (48, ww), (49, wg), (50, wf)]) zq t0 ts)) (11, [some (.ref 46), some (.int (-1)), some (.int (nI (k + 1)))], []) (ae_en (au σ [(28, (dyA (σ 28) k)), (41, go), (42, (σ 28))]) (au α [(35, (W k)), (36, (vD B n 60 W (α 36) (α 37) (α 38) k)), (38, (fD B n 60 W (α 36) (α 37) (α 38) k)), (43, pl), (44, fr), (47, tk), (48, (fC 10 (α 35) ww)), (49, (fC 10 (α 36) wg)), (50, (fC 10 (α 38) wf))]) zz t0 ts) := by
  have hbo : bOk B n := hM.2.2.2.2.2.2.1
  refine aw_go 3 rfl ⟨trivial, trivial, trivial, trivial⟩ ?_
  refine aw_br (c := (60 : Int32) < (nI (k + 1))) (fun h13 => ?_) (fun h13 => ?_)
  · skip
    have h13 := cI_ltT (a := 60) (b := k + 1) rfl rfl (by omega) (by omega) h13
    show aw_W _ _ _ _ (25, [some (.ref 46), some (.int (-1)), some (.int (nI (k + 1)))], []) (ae_en (au σ [(28, (dyA (σ 28) k)), (41, go), (42, (σ 28))]) (au α [(35, (W k)), (36, (vD B n 60 W (α 36) (α 37) (α 38) k)), (38, (fD B n 60 W (α 36) (α 37) (α 38) k)), (43, pl), (44, fr), (47, tk), (48, (fC 10 (α 35) ww)), (49, (fC 10 (α 36) wg)), (50, (fC 10 (α 38) wf))]) zz t0 ts)
    have e8 : k = 60 := by omega
    refine aw_go 1 rfl ⟨trivial, trivial⟩ ?_
    refine aw_call rfl rfl (ev_Model_layBack) ?_
    rintro _ _ ⟨rfl, rfl⟩
    show aw_W _ _ _ _ (27, [some (.ref 46), some (.int (-1)), some (.int (nI (k + 1)))], []) (ae_en (au σ [(28, (σ 28)), (41, go), (42, (σ 28))]) (au α [(35, fC 10 (fC 10 (α 35) ww) (W k)), (36, fC 10 (fC 10 (α 36) wg) (vD B n 60 W (α 36) (α 37) (α 38) k)), (38, fC 10 (fC 10 (α 38) wf) (fD B n 60 W (α 36) (α 37) (α 38) k)), (43, pl), (44, fr), (47, tk), (48, (fC 10 (α 35) ww)), (49, (fC 10 (α 36) wg)), (50, (fC 10 (α 38) wf))]) zz t0 ts)
    rw [show fC 10 (fC 10 (α 35) ww) (W k) = (α 35) from lb_eq (fun j hj => by rw [hD]; exact wD_out (by omega) _), show fC 10 (fC 10 (α 36) wg) (vD B n 60 W (α 36) (α 37) (α 38) k) = (α 36) from lb_eq (fun j hj => vD_out (by omega)), show fC 10 (fC 10 (α 38) wf) (fD B n 60 W (α 36) (α 37) (α 38) k) = (α 38) from lb_eq (fun j hj => fD_out (by omega))]
    show aw_W _ _ _ _ (27, [some (.ref 46), some (.int (-1)), some (.int (nI (k + 1)))], []) (ae_en (au σ [(41, go), (42, (σ 28))]) (au α [(43, pl), (44, fr), (47, tk), (48, (fC 10 (α 35) ww)), (49, (fC 10 (α 36) wg)), (50, (fC 10 (α 38) wf))]) zz t0 ts)
    refine aw_go 1 rfl ⟨trivial, trivial⟩ ?_
    refine aw_ret rfl rfl trivial ?_
    refine ⟨go, (σ 28), σ 43, σ 44, pl, fr, tk, (fC 10 (α 35) ww), (fC 10 (α 36) wg), (fC 10 (α 38) wf), zz, ?_, rfl⟩
    rw [e8] at hI
    rw [hD] at hI
    exact congrArg (fun q => some (Value.int q)) hI.symm
  · skip
    have h13 := cI_ltF (a := 60) (b := k + 1) rfl rfl (by omega) (by omega) h13
    show aw_W _ _ _ _ (14, [some (.ref 46), some (.int (-1)), some (.int (nI (k + 1)))], []) (ae_en (au σ [(28, (dyA (σ 28) k)), (41, go), (42, (σ 28))]) (au α [(35, (W k)), (36, (vD B n 60 W (α 36) (α 37) (α 38) k)), (38, (fD B n 60 W (α 36) (α 37) (α 38) k)), (43, pl), (44, fr), (47, tk), (48, (fC 10 (α 35) ww)), (49, (fC 10 (α 36) wg)), (50, (fC 10 (α 38) wf))]) zz t0 ts)
    obtain ⟨m, hr⟩ : ∃ m, 60 - k = m + 1 := ⟨59 - k, by omega⟩
    refine aw_go 2 rfl ⟨trivial, trivial, trivial⟩ ?_
    refine aw_br (c := (0 : Int32) ≤ (-1)) (fun h15 => ?_) (fun h15 => ?_)
    · skip
      show aw_W _ _ _ _ (25, [some (.ref 46), some (.int (-1)), some (.int (nI (k + 1)))], []) (ae_en (au σ [(28, (dyA (σ 28) k)), (41, go), (42, (σ 28))]) (au α [(35, (W k)), (36, (vD B n 60 W (α 36) (α 37) (α 38) k)), (38, (fD B n 60 W (α 36) (α 37) (α 38) k)), (43, pl), (44, fr), (47, tk), (48, (fC 10 (α 35) ww)), (49, (fC 10 (α 36) wg)), (50, (fC 10 (α 38) wf))]) zz t0 ts)
      exact absurd h15 (by decide)
    · skip
      show aw_W _ _ _ _ (16, [some (.ref 46), some (.int (-1)), some (.int (nI (k + 1)))], []) (ae_en (au σ [(28, (dyA (σ 28) k)), (41, go), (42, (σ 28))]) (au α [(35, (W k)), (36, (vD B n 60 W (α 36) (α 37) (α 38) k)), (38, (fD B n 60 W (α 36) (α 37) (α 38) k)), (43, pl), (44, fr), (47, tk), (48, (fC 10 (α 35) ww)), (49, (fC 10 (α 36) wg)), (50, (fC 10 (α 38) wf))]) zz t0 ts)
      refine aw_go 1 rfl ⟨trivial, trivial⟩ ?_
      refine aw_call rfl rfl (ev_Model_inWater (N := 60) (σ := au σ [(42, (σ 28))]) (α := au α [(48, (fC 10 (α 35) ww)), (49, (fC 10 (α 36) wg)), (50, (fC 10 (α 38) wf))]) (k := k) (go := go) (pl := pl) (fr := fr) (tk := tk) (zz := zz)  hM hD hw hv hs hx hx9 (by decide) (by omega)) ?_
      rintro _ _ ⟨pl2_17, fr2_17, tk2_17, rfl, rfl⟩
      show aw_W _ _ _ _ (18, [some (.ref 46), some (.int (-1)), some (.int (nI (k + 1)))], []) (ae_en (au σ [(28, (dyA (σ 28) (k + 1))), (41, (go + (nGo B 60 W (α 36) (α 37) (α 38) k (n - 1)))), (42, (σ 28))]) (au α [(35, (W (k + 1))), (36, (vD B n 60 W (α 36) (α 37) (α 38) (k + 1))), (38, (fD B n 60 W (α 36) (α 37) (α 38) (k + 1))), (43, pl2_17), (44, fr2_17), (47, tk2_17), (48, (fC 10 (α 35) ww)), (49, (fC 10 (α 36) wg)), (50, (fC 10 (α 38) wf))]) (zz + (gCm B n 60 W (α 36) (α 37) (α 38) (σ 28) (sumF (α 34) n) (k + 1) (n - 1)).toInt64) t0 ts)
      refine aw_go 1 rfl ⟨trivial, trivial⟩ ?_
      refine aw_callE rfl rfl (ev_Model_openMany  hM (hWk _)) ?_
      show aw_W _ _ _ _ (20, [some (.ref 46), some (.int (-1)), some (.int (nI (k + 1)))], [.int (rON B (W (k + 1)) (vD B n 60 W (α 36) (α 37) (α 38) (k + 1)) (α 37) (n - 1))]) (ae_en (au σ [(28, (dyA (σ 28) (k + 1))), (41, (go + (nGo B 60 W (α 36) (α 37) (α 38) k (n - 1)))), (42, (σ 28))]) (au α [(35, (W (k + 1))), (36, (vD B n 60 W (α 36) (α 37) (α 38) (k + 1))), (38, (fD B n 60 W (α 36) (α 37) (α 38) (k + 1))), (43, pl2_17), (44, fr2_17), (47, tk2_17), (48, (fC 10 (α 35) ww)), (49, (fC 10 (α 36) wg)), (50, (fC 10 (α 38) wf))]) (zz + (gCm B n 60 W (α 36) (α 37) (α 38) (σ 28) (sumF (α 34) n) (k + 1) (n - 1)).toInt64) t0 ts)
      refine aw_go 1 rfl ⟨trivial, trivial⟩ ?_
      refine aw_br (c := ¬ (rON B (W (k + 1)) (vD B n 60 W (α 36) (α 37) (α 38) (k + 1)) (α 37) (n - 1)) = 0) (fun h20 => ?_) (fun h20 => ?_)
      · skip
        show aw_W _ _ _ _ (23, [some (.ref 46), some (.int (-1)), some (.int (nI (k + 1)))], []) (ae_en (au σ [(28, (dyA (σ 28) (k + 1))), (41, (go + (nGo B 60 W (α 36) (α 37) (α 38) k (n - 1)))), (42, (σ 28))]) (au α [(35, (W (k + 1))), (36, (vD B n 60 W (α 36) (α 37) (α 38) (k + 1))), (38, (fD B n 60 W (α 36) (α 37) (α 38) (k + 1))), (43, pl2_17), (44, fr2_17), (47, tk2_17), (48, (fC 10 (α 35) ww)), (49, (fC 10 (α 36) wg)), (50, (fC 10 (α 38) wf))]) (zz + (gCm B n 60 W (α 36) (α 37) (α 38) (σ 28) (sumF (α 34) n) (k + 1) (n - 1)).toInt64) t0 ts)
        have hc : ¬ gON B 60 W (α 36) (α 37) (α 38) (k + 1) (n - 1) = 0 := by rw [← rON_g (vd := (vD B n 60 W (α 36) (α 37) (α 38) (k + 1))) (n - 1) (fun j hj => fC_lt hj)]; exact h20
        refine aw_go 2 rfl ⟨trivial, trivial, trivial⟩ ?_
        show aw_W _ _ _ _ (11, [some (.ref 46), some (.int (-1)), some (.int ((nI (k + 1)) + 1))], []) (ae_en (au σ [(28, (dyA (σ 28) (k + 1))), (41, (go + (nGo B 60 W (α 36) (α 37) (α 38) k (n - 1)))), (42, (σ 28))]) (au α [(35, (W (k + 1))), (36, (vD B n 60 W (α 36) (α 37) (α 38) (k + 1))), (38, (fD B n 60 W (α 36) (α 37) (α 38) (k + 1))), (43, pl2_17), (44, fr2_17), (47, tk2_17), (48, (fC 10 (α 35) ww)), (49, (fC 10 (α 36) wg)), (50, (fC 10 (α 38) wf))]) (zz + (gCm B n 60 W (α 36) (α 37) (α 38) (σ 28) (sumF (α 34) n) (k + 1) (n - 1)).toInt64) t0 ts)
        rw [show (nI (k + 1)) + 1 = nI ((k + 1) + 1) from (cI_add (a := k + 1) (b := 1) rfl rfl)]
        exact lp_mtight hM hD hw hv hs hx hx9 hWk hn hn10 (k + 1) (by omega) (hI.trans (by rw [hr, show 60 - (k + 1) = m by omega]; exact tD_n (fun q => absurd (of_decide_eq_true q) hc)))
      · skip
        have h20 := Classical.not_not.mp h20
        show aw_W _ _ _ _ (21, [some (.ref 46), some (.int (-1)), some (.int (nI (k + 1)))], []) (ae_en (au σ [(28, (dyA (σ 28) (k + 1))), (41, (go + (nGo B 60 W (α 36) (α 37) (α 38) k (n - 1)))), (42, (σ 28))]) (au α [(35, (W (k + 1))), (36, (vD B n 60 W (α 36) (α 37) (α 38) (k + 1))), (38, (fD B n 60 W (α 36) (α 37) (α 38) (k + 1))), (43, pl2_17), (44, fr2_17), (47, tk2_17), (48, (fC 10 (α 35) ww)), (49, (fC 10 (α 36) wg)), (50, (fC 10 (α 38) wf))]) (zz + (gCm B n 60 W (α 36) (α 37) (α 38) (σ 28) (sumF (α 34) n) (k + 1) (n - 1)).toInt64) t0 ts)
        have hc : gON B 60 W (α 36) (α 37) (α 38) (k + 1) (n - 1) = 0 := by rw [← rON_g (vd := (vD B n 60 W (α 36) (α 37) (α 38) (k + 1))) (n - 1) (fun j hj => fC_lt hj)]; exact h20
        refine aw_go 4 rfl ⟨trivial, trivial, trivial, trivial, trivial⟩ ?_
        show aw_W _ _ _ _ (11, [some (.ref 46), some (.int (nI (k + 1))), some (.int ((nI (k + 1)) + 1))], []) (ae_en (au σ [(28, (dyA (σ 28) (k + 1))), (41, (go + (nGo B 60 W (α 36) (α 37) (α 38) k (n - 1)))), (42, (σ 28))]) (au α [(35, (W (k + 1))), (36, (vD B n 60 W (α 36) (α 37) (α 38) (k + 1))), (38, (fD B n 60 W (α 36) (α 37) (α 38) (k + 1))), (43, pl2_17), (44, fr2_17), (47, tk2_17), (48, (fC 10 (α 35) ww)), (49, (fC 10 (α 36) wg)), (50, (fC 10 (α 38) wf))]) (zz + (gCm B n 60 W (α 36) (α 37) (α 38) (σ 28) (sumF (α 34) n) (k + 1) (n - 1)).toInt64) t0 ts)
        rw [show (nI (k + 1)) + 1 = nI ((k + 1) + 1) from (cI_add (a := k + 1) (b := 1) rfl rfl)]
        exact lpF_tight hM hD hw hv hs hx hx9 hn10 (k + 1) (by omega) (k + 1) (k + 1 + 1) (by omega) (by omega) (hI.trans (by rw [hr]; exact tD_s (decide_eq_true hc)))
termination_by 60 - k
decreasing_by all_goals omega
theorem ev_Model_tight {n : Nat} {B : ae_B} {x : Nat} {W : Nat → Nat → Int32} {zd : Nat} (hM : mOk B n (σ 27) (σ 29) (σ 33) (α 31) (α 32) (α 33) (α 40) (α 41) (α 42)) (hD : W = wD B n (α 35) (σ 28)) (hw : wOk n (α 35)) (hv : vOk n 200 (α 36)) (hs : vOk n 100 (α 37)) (hx : (σ 28) = nI x) (hx9 : x ≤ 9999) : aw_X P (zd + 6) 160 [.ref 46] (ae_en σ α z t0 ts) (fun r H => ∃ (mg : Int32) (md : Int32) (mw : Int32) (mc : Int32) (pl : Nat → Int32) (fr : Nat → Int32) (tk : Nat → Int32) (ww : Nat → Int32) (wg : Nat → Int32) (wf : Nat → Int32) (zq : Int64), r = some (.int (aTight B n (α 35) (α 36) (α 37) (α 38) (σ 28))) ∧ H = (ae_en (au σ [(41, mg), (42, md), (43, mw), (44, mc)]) (au α [(43, pl), (44, fr), (47, tk), (48, ww), (49, wg), (50, wf)]) zq t0 ts)) := by
  obtain ⟨hn, hn10, hs3, hk0, hk1, hk2, hbo, hru⟩ := id hM
  have hWk : ∀ d, wOk n (W d) := fun d => by rw [hD]; exact wD_ok hbo hw d
  refine aw_ev (cd := cd_Model_tight) rfl rfl rfl ?_
  show aw_W _ _ _ _ (0, [some (.ref 46), none, none], []) (ae_en σ α z t0 ts)
  refine aw_go 1 rfl ⟨trivial, trivial⟩ ?_
  refine aw_call rfl rfl (ev_Model_keepNow) ?_
  rintro _ _ ⟨rfl, rfl⟩
  show aw_W _ _ _ _ (2, [some (.ref 46), none, none], []) (ae_en (au σ [(42, (σ 28))]) (au α [(48, fC 10 (α 35) (α 48)), (49, fC 10 (α 36) (α 49)), (50, fC 10 (α 38) (α 50))]) z t0 ts)
  refine aw_go 1 rfl ⟨trivial, trivial⟩ ?_
  refine aw_callE rfl rfl (ev_Model_openMany  hM hw) ?_
  show aw_W _ _ _ _ (4, [some (.ref 46), none, none], [.int (rON B (α 35) (α 36) (α 37) (n - 1))]) (ae_en (au σ [(42, (σ 28))]) (au α [(48, fC 10 (α 35) (α 48)), (49, fC 10 (α 36) (α 49)), (50, fC 10 (α 38) (α 50))]) z t0 ts)
  refine aw_go 1 rfl ⟨trivial, trivial⟩ ?_
  refine aw_br (c := ¬ (rON B (α 35) (α 36) (α 37) (n - 1)) = 0) (fun h4 => ?_) (fun h4 => ?_)
  · skip
    show aw_W _ _ _ _ (7, [some (.ref 46), none, none], []) (ae_en (au σ [(42, (σ 28))]) (au α [(48, fC 10 (α 35) (α 48)), (49, fC 10 (α 36) (α 49)), (50, fC 10 (α 38) (α 50))]) z t0 ts)
    have h4b : ¬ gON B 60 W (α 36) (α 37) (α 38) 0 (n - 1) = 0 := by rw [gON_0, hD]; exact h4
    refine aw_go 4 rfl ⟨trivial, trivial, trivial, trivial, trivial⟩ ?_
    refine aw_to (lp_mtight (pl := α 43) (fr := α 44) (tk := α 47) (ww := α 48) (wg := α 49) (wf := α 50) (go := σ 41) (zz := z) hM hD hw hv hs hx hx9 hWk hn hn10 0 (by decide) ?_) rfl ?_
    · exact (tD_n (c := (fun d => decide (gON B 60 W (α 36) (α 37) (α 38) d (n - 1) = 0))) (m := 60) (k := 0) (fun q => absurd (of_decide_eq_true q) h4b))
    · rw [show dyA (σ 28) 0 = σ 28 from by rw [hx]; exact dyA_0 hx9, vD_0, fD_0, show W 0 = (α 35) from by rw [hD]; rfl]
      rfl
  · skip
    have h4 := Classical.not_not.mp h4
    show aw_W _ _ _ _ (5, [some (.ref 46), none, none], []) (ae_en (au σ [(42, (σ 28))]) (au α [(48, fC 10 (α 35) (α 48)), (49, fC 10 (α 36) (α 49)), (50, fC 10 (α 38) (α 50))]) z t0 ts)
    have h4b : gON B 60 W (α 36) (α 37) (α 38) 0 (n - 1) = 0 := by rw [gON_0, hD]; exact h4
    refine aw_go 5 rfl ⟨trivial, trivial, trivial, trivial, trivial, trivial⟩ ?_
    refine aw_to (lpF_tight (pl := α 43) (fr := α 44) (tk := α 47) (ww := α 48) (wg := α 49) (wf := α 50) (go := σ 41) (zz := z) hM hD hw hv hs hx hx9 hn10 0 (by decide) 0 1 (by decide) (by decide) ?_) rfl ?_
    · exact tD_s (decide_eq_true h4b)
    · rw [show dyA (σ 28) 0 = σ 28 from by rw [hx]; exact dyA_0 hx9, vD_0, fD_0, show W 0 = (α 35) from by rw [hD]; rfl]
      rfl
theorem lpF_out {zd : Nat} {n : Nat} {B : ae_B} {x : Nat} {W : Nat → Nat → Int32} {go : Int32} {pl fr tk ww wg wf : Nat → Int32} {zz : Int64} (hM : mOk B n (σ 27) (σ 29) (σ 33) (α 31) (α 32) (α 33) (α 40) (α 41) (α 42)) (hD : W = wD B n (α 35) (σ 28)) (hw : wOk n (α 35)) (hv : vOk n 200 (α 36)) (hs : vOk n 100 (α 37)) (hx : (σ 28) = nI x) (hx9 : x ≤ 9999) (hn10 : n ≤ 10) (k : Nat) (hk : k ≤ 60) (f q : Nat) (hf : f ≤ 60) (hq : q ≤ 61) (hI : tD (fun d => decide (gCm B n 60 W (α 36) (α 37) (α 38) (σ 28) (sumF (α 34) n) d (n - 1) ≤ (σ 30))) 61 0 = nI f) : aw_W P (zd + 5) cd_Model_out (fun r H => ∃ (mg : Int32) (md : Int32) (mw : Int32) (mc : Int32) (pl : Nat → Int32) (fr : Nat → Int32) (tk : Nat → Int32) (ww : Nat → Int32) (wg : Nat → Int32) (wf : Nat → Int32) (zq : Int64), r = some (.int (aOut B n (α 35) (α 36) (α 37) (α 38) (σ 28) (sumF (α 34) n) (σ 30))) ∧ H = (ae_en (au σ [(41, mg), (42, md), (43, mw), (44, mc)]) (au α [(43, pl), (44, fr), (47, tk), (48, ww), (49, wg), (50, wf)]) zq t0 ts)) (13, [some (.ref 46), some (.int (nI f)), some (.int (nI q))], []) (ae_en (au σ [(28, (dyA (σ 28) k)), (41, go), (42, (σ 28))]) (au α [(35, (W k)), (36, (vD B n 60 W (α 36) (α 37) (α 38) k)), (38, (fD B n 60 W (α 36) (α 37) (α 38) k)), (43, pl), (44, fr), (47, tk), (48, (fC 10 (α 35) ww)), (49, (fC 10 (α 36) wg)), (50, (fC 10 (α 38) wf))]) zz t0 ts) := by
  refine aw_go 3 rfl ⟨trivial, trivial, trivial, trivial⟩ ?_
  refine aw_br (c := (60 : Int32) < (nI q)) (fun h15 => ?_) (fun h15 => ?_)
  · skip
    have h15 := cI_ltT (a := 60) (b := q) rfl rfl (by omega) (by omega) h15
    show aw_W _ _ _ _ (29, [some (.ref 46), some (.int (nI f)), some (.int (nI q))], []) (ae_en (au σ [(28, (dyA (σ 28) k)), (41, go), (42, (σ 28))]) (au α [(35, (W k)), (36, (vD B n 60 W (α 36) (α 37) (α 38) k)), (38, (fD B n 60 W (α 36) (α 37) (α 38) k)), (43, pl), (44, fr), (47, tk), (48, (fC 10 (α 35) ww)), (49, (fC 10 (α 36) wg)), (50, (fC 10 (α 38) wf))]) zz t0 ts)
    refine aw_go 1 rfl ⟨trivial, trivial⟩ ?_
    refine aw_call rfl rfl (ev_Model_layBack) ?_
    rintro _ _ ⟨rfl, rfl⟩
    show aw_W _ _ _ _ (31, [some (.ref 46), some (.int (nI f)), some (.int (nI q))], []) (ae_en (au σ [(28, (σ 28)), (41, go), (42, (σ 28))]) (au α [(35, fC 10 (fC 10 (α 35) ww) (W k)), (36, fC 10 (fC 10 (α 36) wg) (vD B n 60 W (α 36) (α 37) (α 38) k)), (38, fC 10 (fC 10 (α 38) wf) (fD B n 60 W (α 36) (α 37) (α 38) k)), (43, pl), (44, fr), (47, tk), (48, (fC 10 (α 35) ww)), (49, (fC 10 (α 36) wg)), (50, (fC 10 (α 38) wf))]) zz t0 ts)
    rw [show fC 10 (fC 10 (α 35) ww) (W k) = (α 35) from lb_eq (fun j hj => by rw [hD]; exact wD_out (by omega) _), show fC 10 (fC 10 (α 36) wg) (vD B n 60 W (α 36) (α 37) (α 38) k) = (α 36) from lb_eq (fun j hj => vD_out (by omega)), show fC 10 (fC 10 (α 38) wf) (fD B n 60 W (α 36) (α 37) (α 38) k) = (α 38) from lb_eq (fun j hj => fD_out (by omega))]
    show aw_W _ _ _ _ (31, [some (.ref 46), some (.int (nI f)), some (.int (nI q))], []) (ae_en (au σ [(41, go), (42, (σ 28))]) (au α [(43, pl), (44, fr), (47, tk), (48, (fC 10 (α 35) ww)), (49, (fC 10 (α 36) wg)), (50, (fC 10 (α 38) wf))]) zz t0 ts)
    refine aw_go 1 rfl ⟨trivial, trivial⟩ ?_
    refine aw_ret rfl rfl trivial ?_
    refine ⟨go, (σ 28), σ 43, σ 44, pl, fr, tk, (fC 10 (α 35) ww), (fC 10 (α 36) wg), (fC 10 (α 38) wf), zz, ?_, rfl⟩
    rw [hD] at hI
    exact congrArg (fun q => some (Value.int q)) hI.symm
  · skip
    have h15 := cI_ltF (a := 60) (b := q) rfl rfl (by omega) (by omega) h15
    show aw_W _ _ _ _ (16, [some (.ref 46), some (.int (nI f)), some (.int (nI q))], []) (ae_en (au σ [(28, (dyA (σ 28) k)), (41, go), (42, (σ 28))]) (au α [(35, (W k)), (36, (vD B n 60 W (α 36) (α 37) (α 38) k)), (38, (fD B n 60 W (α 36) (α 37) (α 38) k)), (43, pl), (44, fr), (47, tk), (48, (fC 10 (α 35) ww)), (49, (fC 10 (α 36) wg)), (50, (fC 10 (α 38) wf))]) zz t0 ts)
    refine aw_go 2 rfl ⟨trivial, trivial, trivial⟩ ?_
    refine aw_br (c := (0 : Int32) ≤ (nI f)) (fun h17 => ?_) (fun h17 => ?_)
    · skip
      have h17 := cI_leT (a := 0) (b := f) rfl rfl (by omega) (by omega) h17
      show aw_W _ _ _ _ (29, [some (.ref 46), some (.int (nI f)), some (.int (nI q))], []) (ae_en (au σ [(28, (dyA (σ 28) k)), (41, go), (42, (σ 28))]) (au α [(35, (W k)), (36, (vD B n 60 W (α 36) (α 37) (α 38) k)), (38, (fD B n 60 W (α 36) (α 37) (α 38) k)), (43, pl), (44, fr), (47, tk), (48, (fC 10 (α 35) ww)), (49, (fC 10 (α 36) wg)), (50, (fC 10 (α 38) wf))]) zz t0 ts)
      refine aw_go 1 rfl ⟨trivial, trivial⟩ ?_
      refine aw_call rfl rfl (ev_Model_layBack) ?_
      rintro _ _ ⟨rfl, rfl⟩
      show aw_W _ _ _ _ (31, [some (.ref 46), some (.int (nI f)), some (.int (nI q))], []) (ae_en (au σ [(28, (σ 28)), (41, go), (42, (σ 28))]) (au α [(35, fC 10 (fC 10 (α 35) ww) (W k)), (36, fC 10 (fC 10 (α 36) wg) (vD B n 60 W (α 36) (α 37) (α 38) k)), (38, fC 10 (fC 10 (α 38) wf) (fD B n 60 W (α 36) (α 37) (α 38) k)), (43, pl), (44, fr), (47, tk), (48, (fC 10 (α 35) ww)), (49, (fC 10 (α 36) wg)), (50, (fC 10 (α 38) wf))]) zz t0 ts)
      rw [show fC 10 (fC 10 (α 35) ww) (W k) = (α 35) from lb_eq (fun j hj => by rw [hD]; exact wD_out (by omega) _), show fC 10 (fC 10 (α 36) wg) (vD B n 60 W (α 36) (α 37) (α 38) k) = (α 36) from lb_eq (fun j hj => vD_out (by omega)), show fC 10 (fC 10 (α 38) wf) (fD B n 60 W (α 36) (α 37) (α 38) k) = (α 38) from lb_eq (fun j hj => fD_out (by omega))]
      show aw_W _ _ _ _ (31, [some (.ref 46), some (.int (nI f)), some (.int (nI q))], []) (ae_en (au σ [(41, go), (42, (σ 28))]) (au α [(43, pl), (44, fr), (47, tk), (48, (fC 10 (α 35) ww)), (49, (fC 10 (α 36) wg)), (50, (fC 10 (α 38) wf))]) zz t0 ts)
      refine aw_go 1 rfl ⟨trivial, trivial⟩ ?_
      refine aw_ret rfl rfl trivial ?_
      refine ⟨go, (σ 28), σ 43, σ 44, pl, fr, tk, (fC 10 (α 35) ww), (fC 10 (α 36) wg), (fC 10 (α 38) wf), zz, ?_, rfl⟩
      rw [hD] at hI
      exact congrArg (fun q => some (Value.int q)) hI.symm
    · skip
      have h17 := cI_leF (a := 0) (b := f) rfl rfl (by omega) (by omega) h17
      show aw_W _ _ _ _ (18, [some (.ref 46), some (.int (nI f)), some (.int (nI q))], []) (ae_en (au σ [(28, (dyA (σ 28) k)), (41, go), (42, (σ 28))]) (au α [(35, (W k)), (36, (vD B n 60 W (α 36) (α 37) (α 38) k)), (38, (fD B n 60 W (α 36) (α 37) (α 38) k)), (43, pl), (44, fr), (47, tk), (48, (fC 10 (α 35) ww)), (49, (fC 10 (α 36) wg)), (50, (fC 10 (α 38) wf))]) zz t0 ts)
      exact absurd h17 (by omega)
theorem lp_mout {zd : Nat} {n : Nat} {B : ae_B} {x : Nat} {W : Nat → Nat → Int32} {go : Int32} {pl fr tk ww wg wf : Nat → Int32} {zz : Int64} (hM : mOk B n (σ 27) (σ 29) (σ 33) (α 31) (α 32) (α 33) (α 40) (α 41) (α 42)) (hD : W = wD B n (α 35) (σ 28)) (hw : wOk n (α 35)) (hv : vOk n 200 (α 36)) (hs : vOk n 100 (α 37)) (hx : (σ 28) = nI x) (hx9 : x ≤ 9999) (hWk : ∀ d, wOk n (W d)) (hn : (σ 27) = nI n) (hn10 : n ≤ 10) (k : Nat) (hk : k ≤ 60) (hI : tD (fun d => decide (gCm B n 60 W (α 36) (α 37) (α 38) (σ 28) (sumF (α 34) n) d (n - 1) ≤ (σ 30))) 61 0 = tD (fun d => decide (gCm B n 60 W (α 36) (α 37) (α 38) (σ 28) (sumF (α 34) n) d (n - 1) ≤ (σ 30))) (60 - k) (k + 1)) : aw_W P (zd + 5) cd_Model_out (fun r H => ∃ (mg : Int32) (md : Int32) (mw : Int32) (mc : Int32) (pl : Nat → Int32) (fr : Nat → Int32) (tk : Nat → Int32) (ww : Nat → Int32) (wg : Nat → Int32) (wf : Nat → Int32) (zq : Int64), r = some (.int (aOut B n (α 35) (α 36) (α 37) (α 38) (σ 28) (sumF (α 34) n) (σ 30))) ∧ H = (ae_en (au σ [(41, mg), (42, md), (43, mw), (44, mc)]) (au α [(43, pl), (44, fr), (47, tk), (48, ww), (49, wg), (50, wf)]) zq t0 ts)) (13, [some (.ref 46), some (.int (-1)), some (.int (nI (k + 1)))], []) (ae_en (au σ [(28, (dyA (σ 28) k)), (41, go), (42, (σ 28))]) (au α [(35, (W k)), (36, (vD B n 60 W (α 36) (α 37) (α 38) k)), (38, (fD B n 60 W (α 36) (α 37) (α 38) k)), (43, pl), (44, fr), (47, tk), (48, (fC 10 (α 35) ww)), (49, (fC 10 (α 36) wg)), (50, (fC 10 (α 38) wf))]) zz t0 ts) := by
  have hbo : bOk B n := hM.2.2.2.2.2.2.1
  refine aw_go 3 rfl ⟨trivial, trivial, trivial, trivial⟩ ?_
  refine aw_br (c := (60 : Int32) < (nI (k + 1))) (fun h15 => ?_) (fun h15 => ?_)
  · skip
    have h15 := cI_ltT (a := 60) (b := k + 1) rfl rfl (by omega) (by omega) h15
    show aw_W _ _ _ _ (29, [some (.ref 46), some (.int (-1)), some (.int (nI (k + 1)))], []) (ae_en (au σ [(28, (dyA (σ 28) k)), (41, go), (42, (σ 28))]) (au α [(35, (W k)), (36, (vD B n 60 W (α 36) (α 37) (α 38) k)), (38, (fD B n 60 W (α 36) (α 37) (α 38) k)), (43, pl), (44, fr), (47, tk), (48, (fC 10 (α 35) ww)), (49, (fC 10 (α 36) wg)), (50, (fC 10 (α 38) wf))]) zz t0 ts)
    have e8 : k = 60 := by omega
    refine aw_go 1 rfl ⟨trivial, trivial⟩ ?_
    refine aw_call rfl rfl (ev_Model_layBack) ?_
    rintro _ _ ⟨rfl, rfl⟩
    show aw_W _ _ _ _ (31, [some (.ref 46), some (.int (-1)), some (.int (nI (k + 1)))], []) (ae_en (au σ [(28, (σ 28)), (41, go), (42, (σ 28))]) (au α [(35, fC 10 (fC 10 (α 35) ww) (W k)), (36, fC 10 (fC 10 (α 36) wg) (vD B n 60 W (α 36) (α 37) (α 38) k)), (38, fC 10 (fC 10 (α 38) wf) (fD B n 60 W (α 36) (α 37) (α 38) k)), (43, pl), (44, fr), (47, tk), (48, (fC 10 (α 35) ww)), (49, (fC 10 (α 36) wg)), (50, (fC 10 (α 38) wf))]) zz t0 ts)
    rw [show fC 10 (fC 10 (α 35) ww) (W k) = (α 35) from lb_eq (fun j hj => by rw [hD]; exact wD_out (by omega) _), show fC 10 (fC 10 (α 36) wg) (vD B n 60 W (α 36) (α 37) (α 38) k) = (α 36) from lb_eq (fun j hj => vD_out (by omega)), show fC 10 (fC 10 (α 38) wf) (fD B n 60 W (α 36) (α 37) (α 38) k) = (α 38) from lb_eq (fun j hj => fD_out (by omega))]
    show aw_W _ _ _ _ (31, [some (.ref 46), some (.int (-1)), some (.int (nI (k + 1)))], []) (ae_en (au σ [(41, go), (42, (σ 28))]) (au α [(43, pl), (44, fr), (47, tk), (48, (fC 10 (α 35) ww)), (49, (fC 10 (α 36) wg)), (50, (fC 10 (α 38) wf))]) zz t0 ts)
    refine aw_go 1 rfl ⟨trivial, trivial⟩ ?_
    refine aw_ret rfl rfl trivial ?_
    refine ⟨go, (σ 28), σ 43, σ 44, pl, fr, tk, (fC 10 (α 35) ww), (fC 10 (α 36) wg), (fC 10 (α 38) wf), zz, ?_, rfl⟩
    rw [e8] at hI
    rw [hD] at hI
    exact congrArg (fun q => some (Value.int q)) hI.symm
  · skip
    have h15 := cI_ltF (a := 60) (b := k + 1) rfl rfl (by omega) (by omega) h15
    show aw_W _ _ _ _ (16, [some (.ref 46), some (.int (-1)), some (.int (nI (k + 1)))], []) (ae_en (au σ [(28, (dyA (σ 28) k)), (41, go), (42, (σ 28))]) (au α [(35, (W k)), (36, (vD B n 60 W (α 36) (α 37) (α 38) k)), (38, (fD B n 60 W (α 36) (α 37) (α 38) k)), (43, pl), (44, fr), (47, tk), (48, (fC 10 (α 35) ww)), (49, (fC 10 (α 36) wg)), (50, (fC 10 (α 38) wf))]) zz t0 ts)
    obtain ⟨m, hr⟩ : ∃ m, 60 - k = m + 1 := ⟨59 - k, by omega⟩
    refine aw_go 2 rfl ⟨trivial, trivial, trivial⟩ ?_
    refine aw_br (c := (0 : Int32) ≤ (-1)) (fun h17 => ?_) (fun h17 => ?_)
    · skip
      show aw_W _ _ _ _ (29, [some (.ref 46), some (.int (-1)), some (.int (nI (k + 1)))], []) (ae_en (au σ [(28, (dyA (σ 28) k)), (41, go), (42, (σ 28))]) (au α [(35, (W k)), (36, (vD B n 60 W (α 36) (α 37) (α 38) k)), (38, (fD B n 60 W (α 36) (α 37) (α 38) k)), (43, pl), (44, fr), (47, tk), (48, (fC 10 (α 35) ww)), (49, (fC 10 (α 36) wg)), (50, (fC 10 (α 38) wf))]) zz t0 ts)
      exact absurd h17 (by decide)
    · skip
      show aw_W _ _ _ _ (18, [some (.ref 46), some (.int (-1)), some (.int (nI (k + 1)))], []) (ae_en (au σ [(28, (dyA (σ 28) k)), (41, go), (42, (σ 28))]) (au α [(35, (W k)), (36, (vD B n 60 W (α 36) (α 37) (α 38) k)), (38, (fD B n 60 W (α 36) (α 37) (α 38) k)), (43, pl), (44, fr), (47, tk), (48, (fC 10 (α 35) ww)), (49, (fC 10 (α 36) wg)), (50, (fC 10 (α 38) wf))]) zz t0 ts)
      refine aw_go 1 rfl ⟨trivial, trivial⟩ ?_
      refine aw_call rfl rfl (ev_Model_inWater (N := 60) (σ := au σ [(42, (σ 28))]) (α := au α [(48, (fC 10 (α 35) ww)), (49, (fC 10 (α 36) wg)), (50, (fC 10 (α 38) wf))]) (k := k) (go := go) (pl := pl) (fr := fr) (tk := tk) (zz := zz)  hM hD hw hv hs hx hx9 (by decide) (by omega)) ?_
      rintro _ _ ⟨pl2_19, fr2_19, tk2_19, rfl, rfl⟩
      show aw_W _ _ _ _ (20, [some (.ref 46), some (.int (-1)), some (.int (nI (k + 1)))], []) (ae_en (au σ [(28, (dyA (σ 28) (k + 1))), (41, (go + (nGo B 60 W (α 36) (α 37) (α 38) k (n - 1)))), (42, (σ 28))]) (au α [(35, (W (k + 1))), (36, (vD B n 60 W (α 36) (α 37) (α 38) (k + 1))), (38, (fD B n 60 W (α 36) (α 37) (α 38) (k + 1))), (43, pl2_19), (44, fr2_19), (47, tk2_19), (48, (fC 10 (α 35) ww)), (49, (fC 10 (α 36) wg)), (50, (fC 10 (α 38) wf))]) (zz + (gCm B n 60 W (α 36) (α 37) (α 38) (σ 28) (sumF (α 34) n) (k + 1) (n - 1)).toInt64) t0 ts)
      refine aw_go 1 rfl ⟨trivial, trivial⟩ ?_
      refine aw_call rfl rfl (ev_Model_comesIn  hM (hWk _)) ?_
      rintro _ _ ⟨pl_21, fr_21, rfl, rfl⟩
      show aw_W _ _ _ _ (22, [some (.ref 46), some (.int (-1)), some (.int (nI (k + 1)))], [.int (rCm B n (W (k + 1)) (vD B n 60 W (α 36) (α 37) (α 38) (k + 1)) (α 37) (dyA (σ 28) (k + 1)) (sumF (α 34) n) (n - 1))]) (ae_en (au σ [(28, (dyA (σ 28) (k + 1))), (41, (go + (nGo B 60 W (α 36) (α 37) (α 38) k (n - 1)))), (42, (σ 28))]) (au α [(35, (W (k + 1))), (36, (vD B n 60 W (α 36) (α 37) (α 38) (k + 1))), (38, (fD B n 60 W (α 36) (α 37) (α 38) (k + 1))), (43, pl_21), (44, fr_21), (47, tk2_19), (48, (fC 10 (α 35) ww)), (49, (fC 10 (α 36) wg)), (50, (fC 10 (α 38) wf))]) (zz + (gCm B n 60 W (α 36) (α 37) (α 38) (σ 28) (sumF (α 34) n) (k + 1) (n - 1)).toInt64) t0 ts)
      refine aw_go 3 rfl ⟨trivial, trivial, trivial, trivial⟩ ?_
      show aw_W _ _ _ _ (if (σ 30) < (rCm B n (W (k + 1)) (vD B n 60 W (α 36) (α 37) (α 38) (k + 1)) (α 37) (dyA (σ 28) (k + 1)) (sumF (α 34) n) (n - 1)) then 27 else 25, [some (.ref 46), some (.int (-1)), some (.int (nI (k + 1)))], []) (ae_en (au σ [(28, (dyA (σ 28) (k + 1))), (41, (go + (nGo B 60 W (α 36) (α 37) (α 38) k (n - 1)))), (42, (σ 28))]) (au α [(35, (W (k + 1))), (36, (vD B n 60 W (α 36) (α 37) (α 38) (k + 1))), (38, (fD B n 60 W (α 36) (α 37) (α 38) (k + 1))), (43, pl_21), (44, fr_21), (47, tk2_19), (48, (fC 10 (α 35) ww)), (49, (fC 10 (α 36) wg)), (50, (fC 10 (α 38) wf))]) (zz + (gCm B n 60 W (α 36) (α 37) (α 38) (σ 28) (sumF (α 34) n) (k + 1) (n - 1)).toInt64) t0 ts)
      refine aw_br (c := (σ 30) < (rCm B n (W (k + 1)) (vD B n 60 W (α 36) (α 37) (α 38) (k + 1)) (α 37) (dyA (σ 28) (k + 1)) (sumF (α 34) n) (n - 1))) (fun h24 => ?_) (fun h24 => ?_)
      · skip
        show aw_W _ _ _ _ (27, [some (.ref 46), some (.int (-1)), some (.int (nI (k + 1)))], []) (ae_en (au σ [(28, (dyA (σ 28) (k + 1))), (41, (go + (nGo B 60 W (α 36) (α 37) (α 38) k (n - 1)))), (42, (σ 28))]) (au α [(35, (W (k + 1))), (36, (vD B n 60 W (α 36) (α 37) (α 38) (k + 1))), (38, (fD B n 60 W (α 36) (α 37) (α 38) (k + 1))), (43, pl_21), (44, fr_21), (47, tk2_19), (48, (fC 10 (α 35) ww)), (49, (fC 10 (α 36) wg)), (50, (fC 10 (α 38) wf))]) (zz + (gCm B n 60 W (α 36) (α 37) (α 38) (σ 28) (sumF (α 34) n) (k + 1) (n - 1)).toInt64) t0 ts)
        have hc : ¬ gCm B n 60 W (α 36) (α 37) (α 38) (σ 28) (sumF (α 34) n) (k + 1) (n - 1) ≤ (σ 30) := by rw [← gCm_r (vd := (vD B n 60 W (α 36) (α 37) (α 38) (k + 1))) (n - 1) (fun j hj => fC_lt hj)]; exact Int32.not_le.mpr h24
        refine aw_go 2 rfl ⟨trivial, trivial, trivial⟩ ?_
        show aw_W _ _ _ _ (13, [some (.ref 46), some (.int (-1)), some (.int ((nI (k + 1)) + 1))], []) (ae_en (au σ [(28, (dyA (σ 28) (k + 1))), (41, (go + (nGo B 60 W (α 36) (α 37) (α 38) k (n - 1)))), (42, (σ 28))]) (au α [(35, (W (k + 1))), (36, (vD B n 60 W (α 36) (α 37) (α 38) (k + 1))), (38, (fD B n 60 W (α 36) (α 37) (α 38) (k + 1))), (43, pl_21), (44, fr_21), (47, tk2_19), (48, (fC 10 (α 35) ww)), (49, (fC 10 (α 36) wg)), (50, (fC 10 (α 38) wf))]) (zz + (gCm B n 60 W (α 36) (α 37) (α 38) (σ 28) (sumF (α 34) n) (k + 1) (n - 1)).toInt64) t0 ts)
        rw [show (nI (k + 1)) + 1 = nI ((k + 1) + 1) from (cI_add (a := k + 1) (b := 1) rfl rfl)]
        exact lp_mout hM hD hw hv hs hx hx9 hWk hn hn10 (k + 1) (by omega) (hI.trans (by rw [hr, show 60 - (k + 1) = m by omega]; exact tD_n (fun q => absurd (of_decide_eq_true q) hc)))
      · skip
        show aw_W _ _ _ _ (25, [some (.ref 46), some (.int (-1)), some (.int (nI (k + 1)))], []) (ae_en (au σ [(28, (dyA (σ 28) (k + 1))), (41, (go + (nGo B 60 W (α 36) (α 37) (α 38) k (n - 1)))), (42, (σ 28))]) (au α [(35, (W (k + 1))), (36, (vD B n 60 W (α 36) (α 37) (α 38) (k + 1))), (38, (fD B n 60 W (α 36) (α 37) (α 38) (k + 1))), (43, pl_21), (44, fr_21), (47, tk2_19), (48, (fC 10 (α 35) ww)), (49, (fC 10 (α 36) wg)), (50, (fC 10 (α 38) wf))]) (zz + (gCm B n 60 W (α 36) (α 37) (α 38) (σ 28) (sumF (α 34) n) (k + 1) (n - 1)).toInt64) t0 ts)
        have hc : gCm B n 60 W (α 36) (α 37) (α 38) (σ 28) (sumF (α 34) n) (k + 1) (n - 1) ≤ (σ 30) := by rw [← gCm_r (vd := (vD B n 60 W (α 36) (α 37) (α 38) (k + 1))) (n - 1) (fun j hj => fC_lt hj)]; exact Int32.not_lt.mp h24
        refine aw_go 4 rfl ⟨trivial, trivial, trivial, trivial, trivial⟩ ?_
        show aw_W _ _ _ _ (13, [some (.ref 46), some (.int (nI (k + 1))), some (.int ((nI (k + 1)) + 1))], []) (ae_en (au σ [(28, (dyA (σ 28) (k + 1))), (41, (go + (nGo B 60 W (α 36) (α 37) (α 38) k (n - 1)))), (42, (σ 28))]) (au α [(35, (W (k + 1))), (36, (vD B n 60 W (α 36) (α 37) (α 38) (k + 1))), (38, (fD B n 60 W (α 36) (α 37) (α 38) (k + 1))), (43, pl_21), (44, fr_21), (47, tk2_19), (48, (fC 10 (α 35) ww)), (49, (fC 10 (α 36) wg)), (50, (fC 10 (α 38) wf))]) (zz + (gCm B n 60 W (α 36) (α 37) (α 38) (σ 28) (sumF (α 34) n) (k + 1) (n - 1)).toInt64) t0 ts)
        rw [show (nI (k + 1)) + 1 = nI ((k + 1) + 1) from (cI_add (a := k + 1) (b := 1) rfl rfl)]
        exact lpF_out hM hD hw hv hs hx hx9 hn10 (k + 1) (by omega) (k + 1) (k + 1 + 1) (by omega) (by omega) (hI.trans (by rw [hr]; exact tD_s (decide_eq_true hc)))
termination_by 60 - k
decreasing_by all_goals omega
theorem ev_Model_out {n : Nat} {B : ae_B} {x : Nat} {W : Nat → Nat → Int32} {zd : Nat} (hM : mOk B n (σ 27) (σ 29) (σ 33) (α 31) (α 32) (α 33) (α 40) (α 41) (α 42)) (hD : W = wD B n (α 35) (σ 28)) (hw : wOk n (α 35)) (hv : vOk n 200 (α 36)) (hs : vOk n 100 (α 37)) (hx : (σ 28) = nI x) (hx9 : x ≤ 9999) : aw_X P (zd + 6) 161 [.ref 46] (ae_en σ α z t0 ts) (fun r H => ∃ (mg : Int32) (md : Int32) (mw : Int32) (mc : Int32) (pl : Nat → Int32) (fr : Nat → Int32) (tk : Nat → Int32) (ww : Nat → Int32) (wg : Nat → Int32) (wf : Nat → Int32) (zq : Int64), r = some (.int (aOut B n (α 35) (α 36) (α 37) (α 38) (σ 28) (sumF (α 34) n) (σ 30))) ∧ H = (ae_en (au σ [(41, mg), (42, md), (43, mw), (44, mc)]) (au α [(43, pl), (44, fr), (47, tk), (48, ww), (49, wg), (50, wf)]) zq t0 ts)) := by
  obtain ⟨hn, hn10, hs3, hk0, hk1, hk2, hbo, hru⟩ := id hM
  have hWk : ∀ d, wOk n (W d) := fun d => by rw [hD]; exact wD_ok hbo hw d
  refine aw_ev (cd := cd_Model_out) rfl rfl rfl ?_
  show aw_W _ _ _ _ (0, [some (.ref 46), none, none], []) (ae_en σ α z t0 ts)
  refine aw_go 1 rfl ⟨trivial, trivial⟩ ?_
  refine aw_call rfl rfl (ev_Model_keepNow) ?_
  rintro _ _ ⟨rfl, rfl⟩
  show aw_W _ _ _ _ (2, [some (.ref 46), none, none], []) (ae_en (au σ [(42, (σ 28))]) (au α [(48, fC 10 (α 35) (α 48)), (49, fC 10 (α 36) (α 49)), (50, fC 10 (α 38) (α 50))]) z t0 ts)
  refine aw_go 1 rfl ⟨trivial, trivial⟩ ?_
  refine aw_call rfl rfl (ev_Model_comesIn  hM hw) ?_
  rintro _ _ ⟨pl_3, fr_3, rfl, rfl⟩
  show aw_W _ _ _ _ (4, [some (.ref 46), none, none], [.int (rCm B n (α 35) (α 36) (α 37) (σ 28) (sumF (α 34) n) (n - 1))]) (ae_en (au σ [(42, (σ 28))]) (au α [(43, pl_3), (44, fr_3), (48, fC 10 (α 35) (α 48)), (49, fC 10 (α 36) (α 49)), (50, fC 10 (α 38) (α 50))]) z t0 ts)
  refine aw_go 3 rfl ⟨trivial, trivial, trivial, trivial⟩ ?_
  show aw_W _ _ _ _ (if (σ 30) < (rCm B n (α 35) (α 36) (α 37) (σ 28) (sumF (α 34) n) (n - 1)) then 9 else 7, [some (.ref 46), none, none], []) (ae_en (au σ [(42, (σ 28))]) (au α [(43, pl_3), (44, fr_3), (48, fC 10 (α 35) (α 48)), (49, fC 10 (α 36) (α 49)), (50, fC 10 (α 38) (α 50))]) z t0 ts)
  refine aw_br (c := (σ 30) < (rCm B n (α 35) (α 36) (α 37) (σ 28) (sumF (α 34) n) (n - 1))) (fun h6 => ?_) (fun h6 => ?_)
  · skip
    show aw_W _ _ _ _ (9, [some (.ref 46), none, none], []) (ae_en (au σ [(42, (σ 28))]) (au α [(43, pl_3), (44, fr_3), (48, fC 10 (α 35) (α 48)), (49, fC 10 (α 36) (α 49)), (50, fC 10 (α 38) (α 50))]) z t0 ts)
    have h6b : ¬ gCm B n 60 W (α 36) (α 37) (α 38) (σ 28) (sumF (α 34) n) 0 (n - 1) ≤ (σ 30) := by rw [gCm_0 _ _ _ _ _ _ _ _ _ (by rw [hx]; exact dyA_0 hx9), hD]; exact Int32.not_le.mpr h6
    refine aw_go 4 rfl ⟨trivial, trivial, trivial, trivial, trivial⟩ ?_
    refine aw_to (lp_mout (pl := pl_3) (fr := fr_3) (tk := α 47) (ww := α 48) (wg := α 49) (wf := α 50) (go := σ 41) (zz := z) hM hD hw hv hs hx hx9 hWk hn hn10 0 (by decide) ?_) rfl ?_
    · exact (tD_n (c := (fun d => decide (gCm B n 60 W (α 36) (α 37) (α 38) (σ 28) (sumF (α 34) n) d (n - 1) ≤ (σ 30)))) (m := 60) (k := 0) (fun q => absurd (of_decide_eq_true q) h6b))
    · rw [show dyA (σ 28) 0 = σ 28 from by rw [hx]; exact dyA_0 hx9, vD_0, fD_0, show W 0 = (α 35) from by rw [hD]; rfl]
      rfl
  · skip
    show aw_W _ _ _ _ (7, [some (.ref 46), none, none], []) (ae_en (au σ [(42, (σ 28))]) (au α [(43, pl_3), (44, fr_3), (48, fC 10 (α 35) (α 48)), (49, fC 10 (α 36) (α 49)), (50, fC 10 (α 38) (α 50))]) z t0 ts)
    have h6b : gCm B n 60 W (α 36) (α 37) (α 38) (σ 28) (sumF (α 34) n) 0 (n - 1) ≤ (σ 30) := by rw [gCm_0 _ _ _ _ _ _ _ _ _ (by rw [hx]; exact dyA_0 hx9), hD]; exact Int32.not_lt.mp h6
    refine aw_go 5 rfl ⟨trivial, trivial, trivial, trivial, trivial, trivial⟩ ?_
    refine aw_to (lpF_out (pl := pl_3) (fr := fr_3) (tk := α 47) (ww := α 48) (wg := α 49) (wf := α 50) (go := σ 41) (zz := z) hM hD hw hv hs hx hx9 hn10 0 (by decide) 0 1 (by decide) (by decide) ?_) rfl ?_
    · exact tD_s (decide_eq_true h6b)
    · rw [show dyA (σ 28) 0 = σ 28 from by rw [hx]; exact dyA_0 hx9, vD_0, fD_0, show W 0 = (α 35) from by rw [hD]; rfl]
      rfl
end L48
