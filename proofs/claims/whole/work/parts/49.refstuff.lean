/-! the reference: which gap to stuff -/
theorem vOk_upd {n g m : Nat} {s : Nat → Int32} {x : Int32} (h : vOk n m s) (hx : bnd x m) : vOk n m (upd s g x) := by
  intro j hj
  unfold upd
  split
  · exact hx
  · exact h j hj
theorem mM_b {n g : Nat} {s : Nat → Int32} {x : Nat} (hs : vOk n 100 s) (hg : g + 1 < n) (hx : x ≤ 100) : fHeld (s g + nI x) 0 100 = mM s (nI x) g ∧ bnd (mM s (nI x) g) 100 := by
  obtain ⟨a, ha, ea⟩ := hs g hg
  unfold mM
  rw [ea]
  exact clip_wet (x := nI a) (t := nI x) ⟨a, ha, rfl⟩ ⟨x, by omega, rfl⟩
section L49
variable {P : ae_P} {σ : Nat → Int32} {α : Nat → Nat → Int32} {z : Int64} {t0 : ae_T} {ts : List ae_T}

theorem ev_Model_tryStuffing {n : Nat} {B : ae_B} {x : Nat} {W : Nat → Nat → Int32} {g : Nat} {y : Int32} {zd : Nat} (hM : mOk B n (σ 27) (σ 29) (σ 33) (α 31) (α 32) (α 33) (α 40) (α 41) (α 42)) (hD : W = wD B n (α 35) (σ 28)) (hw : wOk n (α 35)) (hv : vOk n 200 (α 36)) (hs : vOk n 100 (α 37)) (hx : (σ 28) = nI x) (hx9 : x ≤ 9999) (hnl : nOk n (α 34)) (hg : g + 1 < n) (hy : bnd y 100) : aw_X P (zd + 7) 163 [.ref 46, .int (nI g), .int y] (ae_en σ α z t0 ts) (fun r H => ∃ (mg : Int32) (md : Int32) (pl : Nat → Int32) (fr : Nat → Int32) (tk : Nat → Int32) (ww : Nat → Int32) (wg : Nat → Int32) (wf : Nat → Int32) (zq : Int64), r = none ∧ H = (ae_en (au σ [(41, mg), (42, md), (43, (gGN B 60 W (α 36) (upd (α 37) g y) (α 38) 60 (n - 1))), (44, (gCm B n 60 W (α 36) (upd (α 37) g y) (α 38) (σ 28) (sumF (α 34) n) 60 (n - 1)))]) (au α [(43, pl), (44, fr), (47, tk), (48, ww), (49, wg), (50, wf)]) zq t0 ts)) := by
  obtain ⟨hn, hn10, hs3, hk0, hk1, hk2, hbo, hru⟩ := id hM
  have hWk : ∀ d, wOk n (W d) := fun d => by rw [hD]; exact wD_ok hbo hw d
  refine aw_ev (cd := cd_Model_tryStuffing) rfl rfl rfl ?_
  show aw_W _ _ _ _ (0, [some (.ref 46), some (.int (nI g)), some (.int y), none], []) (ae_en σ α z t0 ts)
  refine aw_go 11 rfl ⟨trivial, trivial, trivial, (cI_in (a := g) rfl (by omega) (by decide)), trivial, trivial, trivial, trivial, trivial, (cI_in (a := g) rfl (by omega) (by decide)), trivial, trivial⟩ ?_
  show aw_W _ _ _ _ (11, [some (.ref 46), some (.int (nI g)), some (.int y), some (.int (α 37 (nI g).toNatClampNeg))], [.ref 46]) (ae_en σ (au α [(37, upd (α 37) (nI g).toNatClampNeg y)]) z t0 ts)
  rw [show (nI g).toNatClampNeg = g from cI_cl (a := g) rfl (by omega)]
  refine aw_call rfl rfl (ev_Model_keepNow) ?_
  rintro _ _ ⟨rfl, rfl⟩
  show aw_W _ _ _ _ (12, [some (.ref 46), some (.int (nI g)), some (.int y), some (.int (α 37 g))], []) (ae_en (au σ [(42, (σ 28))]) (au α [(37, upd (α 37) g y), (48, fC 10 (α 35) (α 48)), (49, fC 10 (α 36) (α 49)), (50, fC 10 (α 38) (α 50))]) z t0 ts)
  refine aw_go 2 rfl ⟨trivial, trivial, trivial⟩ ?_
  refine aw_call rfl rfl (ev_Model_water (N := 60) (W := W) (x := x) (σ := au σ [(42, (σ 28))]) (α := au α [(37, upd (α 37) g y), (48, fC 10 (α 35) (α 48)), (49, fC 10 (α 36) (α 49)), (50, fC 10 (α 38) (α 50))])  hM hD hw hv (vOk_upd hs hy) hx hx9 (by decide) hnl) ?_
  rintro _ _ ⟨pl2_14, fr2_14, tk2_14, rfl, rfl⟩
  show aw_W _ _ _ _ (15, [some (.ref 46), some (.int (nI g)), some (.int y), some (.int (α 37 g))], []) (ae_en (au σ [(28, (dyA (σ 28) 60)), (41, (gGN B 60 W (α 36) (upd (α 37) g y) (α 38) 60 (n - 1))), (42, (σ 28))]) (au α [(35, (W 60)), (36, (vD B n 60 W (α 36) (upd (α 37) g y) (α 38) 60)), (37, upd (α 37) g y), (38, (fD B n 60 W (α 36) (upd (α 37) g y) (α 38) 60)), (43, pl2_14), (44, fr2_14), (47, tk2_14), (48, fC 10 (α 35) (α 48)), (49, fC 10 (α 36) (α 49)), (50, fC 10 (α 38) (α 50))]) ((gCI B n 60 W (α 36) (upd (α 37) g y) (α 38) (σ 28) (sumF (α 34) n) 60).toInt64) t0 ts)
  refine aw_go 6 rfl ⟨trivial, trivial, trivial, trivial, trivial, trivial, trivial⟩ ?_
  show aw_W _ _ _ _ (21, [some (.ref 46), some (.int (nI g)), some (.int y), some (.int (α 37 g))], [.ref 46, .ref 46]) (ae_en (au σ [(28, (dyA (σ 28) 60)), (41, (gGN B 60 W (α 36) (upd (α 37) g y) (α 38) 60 (n - 1))), (42, (σ 28)), (43, (gGN B 60 W (α 36) (upd (α 37) g y) (α 38) 60 (n - 1)))]) (au α [(35, (W 60)), (36, (vD B n 60 W (α 36) (upd (α 37) g y) (α 38) 60)), (37, upd (α 37) g y), (38, (fD B n 60 W (α 36) (upd (α 37) g y) (α 38) 60)), (43, pl2_14), (44, fr2_14), (47, tk2_14), (48, fC 10 (α 35) (α 48)), (49, fC 10 (α 36) (α 49)), (50, fC 10 (α 38) (α 50))]) ((gCI B n 60 W (α 36) (upd (α 37) g y) (α 38) (σ 28) (sumF (α 34) n) 60).toInt64) t0 ts)
  refine aw_call rfl rfl (ev_Model_comesIn  hM (hWk _)) ?_
  rintro _ _ ⟨pl_21, fr_21, rfl, rfl⟩
  show aw_W _ _ _ _ (22, [some (.ref 46), some (.int (nI g)), some (.int y), some (.int (α 37 g))], [.int (rCm B n (W 60) (vD B n 60 W (α 36) (upd (α 37) g y) (α 38) 60) (upd (α 37) g y) (dyA (σ 28) 60) (sumF (α 34) n) (n - 1)), .ref 46]) (ae_en (au σ [(28, (dyA (σ 28) 60)), (41, (gGN B 60 W (α 36) (upd (α 37) g y) (α 38) 60 (n - 1))), (42, (σ 28)), (43, (gGN B 60 W (α 36) (upd (α 37) g y) (α 38) 60 (n - 1)))]) (au α [(35, (W 60)), (36, (vD B n 60 W (α 36) (upd (α 37) g y) (α 38) 60)), (37, upd (α 37) g y), (38, (fD B n 60 W (α 36) (upd (α 37) g y) (α 38) 60)), (43, pl_21), (44, fr_21), (47, tk2_14), (48, fC 10 (α 35) (α 48)), (49, fC 10 (α 36) (α 49)), (50, fC 10 (α 38) (α 50))]) ((gCI B n 60 W (α 36) (upd (α 37) g y) (α 38) (σ 28) (sumF (α 34) n) 60).toInt64) t0 ts)
  rw [show rCm B n (W 60) (vD B n 60 W (α 36) (upd (α 37) g y) (α 38) 60) (upd (α 37) g y) (dyA (σ 28) 60) (sumF (α 34) n) (n - 1) = (gCm B n 60 W (α 36) (upd (α 37) g y) (α 38) (σ 28) (sumF (α 34) n) 60 (n - 1)) from gCm_r (n - 1) (fun j hj => fC_lt hj)]
  refine aw_go 2 rfl ⟨trivial, trivial, trivial⟩ ?_
  show aw_W _ _ _ _ (24, [some (.ref 46), some (.int (nI g)), some (.int y), some (.int (α 37 g))], [.ref 46]) (ae_en (au σ [(28, (dyA (σ 28) 60)), (41, (gGN B 60 W (α 36) (upd (α 37) g y) (α 38) 60 (n - 1))), (42, (σ 28)), (43, (gGN B 60 W (α 36) (upd (α 37) g y) (α 38) 60 (n - 1))), (44, (gCm B n 60 W (α 36) (upd (α 37) g y) (α 38) (σ 28) (sumF (α 34) n) 60 (n - 1)))]) (au α [(35, (W 60)), (36, (vD B n 60 W (α 36) (upd (α 37) g y) (α 38) 60)), (37, upd (α 37) g y), (38, (fD B n 60 W (α 36) (upd (α 37) g y) (α 38) 60)), (43, pl_21), (44, fr_21), (47, tk2_14), (48, fC 10 (α 35) (α 48)), (49, fC 10 (α 36) (α 49)), (50, fC 10 (α 38) (α 50))]) ((gCI B n 60 W (α 36) (upd (α 37) g y) (α 38) (σ 28) (sumF (α 34) n) 60).toInt64) t0 ts)
  refine aw_call rfl rfl (ev_Model_layBack) ?_
  rintro _ _ ⟨rfl, rfl⟩
  show aw_W _ _ _ _ (25, [some (.ref 46), some (.int (nI g)), some (.int y), some (.int (α 37 g))], []) (ae_en (au σ [(28, (σ 28)), (41, (gGN B 60 W (α 36) (upd (α 37) g y) (α 38) 60 (n - 1))), (42, (σ 28)), (43, (gGN B 60 W (α 36) (upd (α 37) g y) (α 38) 60 (n - 1))), (44, (gCm B n 60 W (α 36) (upd (α 37) g y) (α 38) (σ 28) (sumF (α 34) n) 60 (n - 1)))]) (au α [(35, fC 10 (fC 10 (α 35) (α 48)) (W 60)), (36, fC 10 (fC 10 (α 36) (α 49)) (vD B n 60 W (α 36) (upd (α 37) g y) (α 38) 60)), (37, upd (α 37) g y), (38, fC 10 (fC 10 (α 38) (α 50)) (fD B n 60 W (α 36) (upd (α 37) g y) (α 38) 60)), (43, pl_21), (44, fr_21), (47, tk2_14), (48, fC 10 (α 35) (α 48)), (49, fC 10 (α 36) (α 49)), (50, fC 10 (α 38) (α 50))]) ((gCI B n 60 W (α 36) (upd (α 37) g y) (α 38) (σ 28) (sumF (α 34) n) 60).toInt64) t0 ts)
  rw [show fC 10 (fC 10 (α 35) (α 48)) (W 60) = (α 35) from lb_eq (fun j hj => by rw [hD]; exact wD_out (by omega) _), show fC 10 (fC 10 (α 36) (α 49)) (vD B n 60 W (α 36) (upd (α 37) g y) (α 38) 60) = (α 36) from lb_eq (fun j hj => vD_out (by omega)), show fC 10 (fC 10 (α 38) (α 50)) (fD B n 60 W (α 36) (upd (α 37) g y) (α 38) 60) = (α 38) from lb_eq (fun j hj => fD_out (by omega))]
  show aw_W _ _ _ _ (25, [some (.ref 46), some (.int (nI g)), some (.int y), some (.int (α 37 g))], []) (ae_en (au σ [(41, (gGN B 60 W (α 36) (upd (α 37) g y) (α 38) 60 (n - 1))), (42, (σ 28)), (43, (gGN B 60 W (α 36) (upd (α 37) g y) (α 38) 60 (n - 1))), (44, (gCm B n 60 W (α 36) (upd (α 37) g y) (α 38) (σ 28) (sumF (α 34) n) 60 (n - 1)))]) (au α [(37, upd (α 37) g y), (43, pl_21), (44, fr_21), (47, tk2_14), (48, fC 10 (α 35) (α 48)), (49, fC 10 (α 36) (α 49)), (50, fC 10 (α 38) (α 50))]) ((gCI B n 60 W (α 36) (upd (α 37) g y) (α 38) (σ 28) (sumF (α 34) n) 60).toInt64) t0 ts)
  refine aw_go 5 rfl ⟨trivial, trivial, trivial, trivial, (cI_in (a := g) rfl (by omega) (by decide)), trivial⟩ ?_
  show aw_W _ _ _ _ (30, [some (.ref 46), some (.int (nI g)), some (.int y), some (.int (α 37 g))], []) (ae_en (au σ [(41, (gGN B 60 W (α 36) (upd (α 37) g y) (α 38) 60 (n - 1))), (42, (σ 28)), (43, (gGN B 60 W (α 36) (upd (α 37) g y) (α 38) 60 (n - 1))), (44, (gCm B n 60 W (α 36) (upd (α 37) g y) (α 38) (σ 28) (sumF (α 34) n) 60 (n - 1)))]) (au α [(37, upd (upd (α 37) g y) (nI g).toNatClampNeg (α 37 g)), (43, pl_21), (44, fr_21), (47, tk2_14), (48, fC 10 (α 35) (α 48)), (49, fC 10 (α 36) (α 49)), (50, fC 10 (α 38) (α 50))]) ((gCI B n 60 W (α 36) (upd (α 37) g y) (α 38) (σ 28) (sumF (α 34) n) 60).toInt64) t0 ts)
  rw [show (nI g).toNatClampNeg = g from cI_cl (a := g) rfl (by omega)]
  rw [show upd (upd (α 37) g y) g (α 37 g) = (α 37) from by rw [upd_2, upd_same]]
  show aw_W _ _ _ _ (30, [some (.ref 46), some (.int (nI g)), some (.int y), some (.int (α 37 g))], []) (ae_en (au σ [(41, (gGN B 60 W (α 36) (upd (α 37) g y) (α 38) 60 (n - 1))), (42, (σ 28)), (43, (gGN B 60 W (α 36) (upd (α 37) g y) (α 38) 60 (n - 1))), (44, (gCm B n 60 W (α 36) (upd (α 37) g y) (α 38) (σ 28) (sumF (α 34) n) 60 (n - 1)))]) (au α [(43, pl_21), (44, fr_21), (47, tk2_14), (48, fC 10 (α 35) (α 48)), (49, fC 10 (α 36) (α 49)), (50, fC 10 (α 38) (α 50))]) ((gCI B n 60 W (α 36) (upd (α 37) g y) (α 38) (σ 28) (sumF (α 34) n) 60).toInt64) t0 ts)
  refine aw_ret rfl rfl trivial ?_
  exact ⟨(gGN B 60 W (α 36) (upd (α 37) g y) (α 38) 60 (n - 1)), (σ 28), pl_21, fr_21, tk2_14, fC 10 (α 35) (α 48), fC 10 (α 36) (α 49), fC 10 (α 38) (α 50), (gCI B n 60 W (α 36) (upd (α 37) g y) (α 38) (σ 28) (sumF (α 34) n) 60).toInt64, rfl, rfl⟩
theorem lp_mMost {zd : Nat} {n : Nat} {B : ae_B} {x : Nat} {W : Nat → Nat → Int32} {mg md mw mc : Int32} {pl fr tk ww wg wf : Nat → Int32} {zq : Int64} {j : Nat} (hM : mOk B n (σ 27) (σ 29) (σ 33) (α 31) (α 32) (α 33) (α 40) (α 41) (α 42)) (hD : W = wD B n (α 35) (σ 28)) (hw : wOk n (α 35)) (hv : vOk n 200 (α 36)) (hs : vOk n 100 (α 37)) (hx : (σ 28) = nI x) (hx9 : x ≤ 9999) (hnl : nOk n (α 34)) (hn : (σ 27) = nI n) (hn10 : n ≤ 10) (hj : j < n - 1) (k : Nat) (hk : k ≤ 100) (hI : tM (fun k => decide (aGn B n 60 (α 35) (α 36) (α 37) (α 38) (σ 28) j (nI k) ≤ aGn B n 60 (α 35) (α 36) (α 37) (α 38) (σ 28) j 0)) k = tM (fun k => decide (aGn B n 60 (α 35) (α 36) (α 37) (α 38) (σ 28) j (nI k) ≤ aGn B n 60 (α 35) (α 36) (α 37) (α 38) (σ 28) j 0)) 100) : aw_W P (zd + 7) cd_Model_most (fun r H => ∃ (mg : Int32) (md : Int32) (mw : Int32) (mc : Int32) (pl : Nat → Int32) (fr : Nat → Int32) (tk : Nat → Int32) (ww : Nat → Int32) (wg : Nat → Int32) (wf : Nat → Int32) (zq : Int64), r = some (.int (aMost B n (α 35) (α 36) (α 37) (α 38) (σ 28) (nI j))) ∧ H = (ae_en (au σ [(41, mg), (42, md), (43, mw), (44, mc)]) (au α [(43, pl), (44, fr), (47, tk), (48, ww), (49, wg), (50, wf)]) zq t0 ts)) (15, [some (.ref 46), some (.int (nI j)), some (.int (aGn B n 60 (α 35) (α 36) (α 37) (α 38) (σ 28) j 0)), some (.int (nI k))], []) (ae_en (au σ [(41, mg), (42, md), (43, mw), (44, mc)]) (au α [(43, pl), (44, fr), (47, tk), (48, ww), (49, wg), (50, wf)]) zq t0 ts) := by
  refine aw_go 2 rfl ⟨trivial, trivial, trivial⟩ ?_
  refine aw_br (c := (nI k) ≤ 0) (fun h16 => ?_) (fun h16 => ?_)
  · skip
    have h16 := cI_leT (a := k) (b := 0) rfl rfl (by omega) (by omega) h16
    show aw_W _ _ _ _ (29, [some (.ref 46), some (.int (nI j)), some (.int (aGn B n 60 (α 35) (α 36) (α 37) (α 38) (σ 28) j 0)), some (.int (nI k))], []) (ae_en (au σ [(41, mg), (42, md), (43, mw), (44, mc)]) (au α [(43, pl), (44, fr), (47, tk), (48, ww), (49, wg), (50, wf)]) zq t0 ts)
    have k0 : k = 0 := by omega
    rw [k0] at hI
    refine aw_go 1 rfl ⟨trivial, trivial⟩ ?_
    refine aw_ret rfl rfl trivial ?_
    refine ⟨mg, md, mw, mc, pl, fr, tk, ww, wg, wf, zq, ?_, rfl⟩
    rw [aMost, if_pos (iP_nI hj (by omega)), nI_clamp (by omega), ← hI]
    all_goals rfl
  · skip
    have h16 := cI_leF (a := k) (b := 0) rfl rfl (by omega) (by omega) h16
    show aw_W _ _ _ _ (17, [some (.ref 46), some (.int (nI j)), some (.int (aGn B n 60 (α 35) (α 36) (α 37) (α 38) (σ 28) j 0)), some (.int (nI k))], []) (ae_en (au σ [(41, mg), (42, md), (43, mw), (44, mc)]) (au α [(43, pl), (44, fr), (47, tk), (48, ww), (49, wg), (50, wf)]) zq t0 ts)
    have e3 := hI
    obtain ⟨m, hm⟩ : ∃ m, k = m + 1 := ⟨k - 1, by omega⟩
    rw [hm, tM, ← hm] at e3
    refine aw_go 3 rfl ⟨trivial, trivial, trivial, trivial⟩ ?_
    refine aw_call rfl rfl (ev_Model_tryStuffing (g := j) (y := (nI k)) hM hD hw hv hs hx hx9 hnl (by omega) ⟨k, hk, rfl⟩) ?_
    rintro _ _ ⟨mg_20, md_20, pl_20, fr_20, tk_20, ww_20, wg_20, wf_20, zq_20, rfl, rfl⟩
    show aw_W _ _ _ _ (21, [some (.ref 46), some (.int (nI j)), some (.int (aGn B n 60 (α 35) (α 36) (α 37) (α 38) (σ 28) j 0)), some (.int (nI k))], []) (ae_en (au σ [(41, mg_20), (42, md_20), (43, (gGN B 60 W (α 36) (upd (α 37) j (nI k)) (α 38) 60 (n - 1))), (44, (gCm B n 60 W (α 36) (upd (α 37) j (nI k)) (α 38) (σ 28) (sumF (α 34) n) 60 (n - 1)))]) (au α [(43, pl_20), (44, fr_20), (47, tk_20), (48, ww_20), (49, wg_20), (50, wf_20)]) zq_20 t0 ts)
    refine aw_go 4 rfl ⟨trivial, trivial, trivial, trivial, trivial⟩ ?_
    show aw_W _ _ _ _ (if (aGn B n 60 (α 35) (α 36) (α 37) (α 38) (σ 28) j 0) < (gGN B 60 W (α 36) (upd (α 37) j (nI k)) (α 38) 60 (n - 1)) then 27 else 25, [some (.ref 46), some (.int (nI j)), some (.int (aGn B n 60 (α 35) (α 36) (α 37) (α 38) (σ 28) j 0)), some (.int (nI k))], []) (ae_en (au σ [(41, mg_20), (42, md_20), (43, (gGN B 60 W (α 36) (upd (α 37) j (nI k)) (α 38) 60 (n - 1))), (44, (gCm B n 60 W (α 36) (upd (α 37) j (nI k)) (α 38) (σ 28) (sumF (α 34) n) 60 (n - 1)))]) (au α [(43, pl_20), (44, fr_20), (47, tk_20), (48, ww_20), (49, wg_20), (50, wf_20)]) zq_20 t0 ts)
    refine aw_br (c := (aGn B n 60 (α 35) (α 36) (α 37) (α 38) (σ 28) j 0) < (gGN B 60 W (α 36) (upd (α 37) j (nI k)) (α 38) 60 (n - 1))) (fun h24 => ?_) (fun h24 => ?_)
    · skip
      show aw_W _ _ _ _ (27, [some (.ref 46), some (.int (nI j)), some (.int (aGn B n 60 (α 35) (α 36) (α 37) (α 38) (σ 28) j 0)), some (.int (nI k))], []) (ae_en (au σ [(41, mg_20), (42, md_20), (43, (gGN B 60 W (α 36) (upd (α 37) j (nI k)) (α 38) 60 (n - 1))), (44, (gCm B n 60 W (α 36) (upd (α 37) j (nI k)) (α 38) (σ 28) (sumF (α 34) n) 60 (n - 1)))]) (au α [(43, pl_20), (44, fr_20), (47, tk_20), (48, ww_20), (49, wg_20), (50, wf_20)]) zq_20 t0 ts)
      have h24b : ¬ aGn B n 60 (α 35) (α 36) (α 37) (α 38) (σ 28) j (nI k) ≤ aGn B n 60 (α 35) (α 36) (α 37) (α 38) (σ 28) j 0 := by
        rw [hD] at h24
        exact Int32.not_le.mpr h24
      rw [if_neg (fun q => absurd (of_decide_eq_true q) h24b)] at e3
      refine aw_go 2 rfl ⟨trivial, trivial, trivial⟩ ?_
      show aw_W _ _ _ _ (15, [some (.ref 46), some (.int (nI j)), some (.int (aGn B n 60 (α 35) (α 36) (α 37) (α 38) (σ 28) j 0)), some (.int ((nI k) + (-1)))], []) (ae_en (au σ [(41, mg_20), (42, md_20), (43, (gGN B 60 W (α 36) (upd (α 37) j (nI k)) (α 38) 60 (n - 1))), (44, (gCm B n 60 W (α 36) (upd (α 37) j (nI k)) (α 38) (σ 28) (sumF (α 34) n) 60 (n - 1)))]) (au α [(43, pl_20), (44, fr_20), (47, tk_20), (48, ww_20), (49, wg_20), (50, wf_20)]) zq_20 t0 ts)
      rw [show nI k + (-1) = nI m from by rw [hm, pk_m1]]
      exact lp_mMost hM hD hw hv hs hx hx9 hnl hn hn10 hj m (by omega) e3
    · skip
      show aw_W _ _ _ _ (25, [some (.ref 46), some (.int (nI j)), some (.int (aGn B n 60 (α 35) (α 36) (α 37) (α 38) (σ 28) j 0)), some (.int (nI k))], []) (ae_en (au σ [(41, mg_20), (42, md_20), (43, (gGN B 60 W (α 36) (upd (α 37) j (nI k)) (α 38) 60 (n - 1))), (44, (gCm B n 60 W (α 36) (upd (α 37) j (nI k)) (α 38) (σ 28) (sumF (α 34) n) 60 (n - 1)))]) (au α [(43, pl_20), (44, fr_20), (47, tk_20), (48, ww_20), (49, wg_20), (50, wf_20)]) zq_20 t0 ts)
      have h24b : aGn B n 60 (α 35) (α 36) (α 37) (α 38) (σ 28) j (nI k) ≤ aGn B n 60 (α 35) (α 36) (α 37) (α 38) (σ 28) j 0 := by
        rw [hD] at h24
        exact Int32.not_lt.mp h24
      rw [if_pos (decide_eq_true h24b)] at e3
      refine aw_go 1 rfl ⟨trivial, trivial⟩ ?_
      refine aw_ret rfl rfl trivial ?_
      refine ⟨mg_20, md_20, (gGN B 60 W (α 36) (upd (α 37) j (nI k)) (α 38) 60 (n - 1)), (gCm B n 60 W (α 36) (upd (α 37) j (nI k)) (α 38) (σ 28) (sumF (α 34) n) 60 (n - 1)), pl_20, fr_20, tk_20, ww_20, wg_20, wf_20, zq_20, ?_, rfl⟩
      rw [aMost, if_pos (iP_nI hj (by omega)), nI_clamp (by omega), ← e3]
      all_goals rfl
termination_by k
decreasing_by all_goals omega
theorem ev_Model_most {n : Nat} {B : ae_B} {x : Nat} {W : Nat → Nat → Int32} {g : Int32} {zd : Nat} (hM : mOk B n (σ 27) (σ 29) (σ 33) (α 31) (α 32) (α 33) (α 40) (α 41) (α 42)) (hD : W = wD B n (α 35) (σ 28)) (hw : wOk n (α 35)) (hv : vOk n 200 (α 36)) (hs : vOk n 100 (α 37)) (hx : (σ 28) = nI x) (hx9 : x ≤ 9999) (hnl : nOk n (α 34)) : aw_X P (zd + 8) 165 [.ref 46, .int g] (ae_en σ α z t0 ts) (fun r H => ∃ (mg : Int32) (md : Int32) (mw : Int32) (mc : Int32) (pl : Nat → Int32) (fr : Nat → Int32) (tk : Nat → Int32) (ww : Nat → Int32) (wg : Nat → Int32) (wf : Nat → Int32) (zq : Int64), r = some (.int (aMost B n (α 35) (α 36) (α 37) (α 38) (σ 28) g)) ∧ H = (ae_en (au σ [(41, mg), (42, md), (43, mw), (44, mc)]) (au α [(43, pl), (44, fr), (47, tk), (48, ww), (49, wg), (50, wf)]) zq t0 ts)) := by
  obtain ⟨hn, hn10, hs3, hk0, hk1, hk2, hbo, hru⟩ := id hM
  refine aw_ev (cd := cd_Model_most) rfl rfl rfl ?_
  show aw_W _ _ _ _ (0, [some (.ref 46), some (.int g), none, none], []) (ae_en σ α z t0 ts)
  refine aw_go 2 rfl ⟨trivial, trivial, trivial⟩ ?_
  refine aw_callE rfl rfl (em_isGap (p := g) hn hn10) ?_
  show aw_W _ _ _ _ (3, [some (.ref 46), some (.int g), none, none], [.int (bI (iP (n - 1) g))]) (ae_en σ α z t0 ts)
  refine aw_go 1 rfl ⟨trivial, trivial⟩ ?_
  refine aw_br (c := ¬ (bI (iP (n - 1) g)) = 0) (fun h3 => ?_) (fun h3 => ?_)
  · skip
    have h3 := bI_t h3
    show aw_W _ _ _ _ (6, [some (.ref 46), some (.int g), none, none], []) (ae_en σ α z t0 ts)
    obtain ⟨j, hj, rfl⟩ := iP_of h3 (by omega)
    refine aw_go 3 rfl ⟨trivial, trivial, trivial, trivial⟩ ?_
    refine aw_call rfl rfl (ev_Model_tryStuffing (g := j) (y := 0) hM hD hw hv hs hx hx9 hnl (by omega) ⟨0, by omega, rfl⟩) ?_
    rintro _ _ ⟨mg_9, md_9, pl_9, fr_9, tk_9, ww_9, wg_9, wf_9, zq_9, rfl, rfl⟩
    show aw_W _ _ _ _ (10, [some (.ref 46), some (.int (nI j)), none, none], []) (ae_en (au σ [(41, mg_9), (42, md_9), (43, (gGN B 60 W (α 36) (upd (α 37) j 0) (α 38) 60 (n - 1))), (44, (gCm B n 60 W (α 36) (upd (α 37) j 0) (α 38) (σ 28) (sumF (α 34) n) 60 (n - 1)))]) (au α [(43, pl_9), (44, fr_9), (47, tk_9), (48, ww_9), (49, wg_9), (50, wf_9)]) zq_9 t0 ts)
    refine aw_go 5 rfl ⟨trivial, trivial, trivial, trivial, trivial, trivial⟩ ?_
    show aw_W _ _ _ _ (15, [some (.ref 46), some (.int (nI j)), some (.int (gGN B 60 W (α 36) (upd (α 37) j 0) (α 38) 60 (n - 1))), some (.int 100)], []) (ae_en (au σ [(41, mg_9), (42, md_9), (43, (gGN B 60 W (α 36) (upd (α 37) j 0) (α 38) 60 (n - 1))), (44, (gCm B n 60 W (α 36) (upd (α 37) j 0) (α 38) (σ 28) (sumF (α 34) n) 60 (n - 1)))]) (au α [(43, pl_9), (44, fr_9), (47, tk_9), (48, ww_9), (49, wg_9), (50, wf_9)]) zq_9 t0 ts)
    rw [show (gGN B 60 W (α 36) (upd (α 37) j 0) (α 38) 60 (n - 1)) = aGn B n 60 (α 35) (α 36) (α 37) (α 38) (σ 28) j 0 from by rw [hD]; rfl]
    exact lp_mMost hM hD hw hv hs hx hx9 hnl hn hn10 hj 100 (by decide) rfl
  · skip
    have h3 := bI_f (Classical.not_not.mp h3)
    show aw_W _ _ _ _ (4, [some (.ref 46), some (.int g), none, none], []) (ae_en σ α z t0 ts)
    refine aw_go 1 rfl ⟨trivial, trivial⟩ ?_
    refine aw_ret rfl rfl trivial ?_
    refine ⟨σ 41, σ 42, σ 43, σ 44, α 43, α 44, α 47, α 48, α 49, α 50, z, ?_, rfl⟩
    rw [aMost, if_neg h3]
end L49
