/-! the reference: first, sack, far, nails -/
theorem aFi_1 (m gn cm : Nat → Int32) : ∀ g, g < 1000 → (aFi m gn cm g).1 = -1 ∨ ∃ j, j < 1000 ∧ (aFi m gn cm g).1 = nI j
  | 0, _ => Or.inl rfl
  | g + 1, hg => by
    unfold aFi
    split
    · exact Or.inr ⟨g, by omega, rfl⟩
    · exact aFi_1 m gn cm g (by omega)
theorem i2l_sub {x y : Int32} {a b : Nat} (hx : bnd x a) (hy : bnd y b) (h : a < 2 ^ 30) (h2 : b < 2 ^ 30) : x.toInt64 - y.toInt64 = (x - y).toInt64 := by
  obtain ⟨m, hm, rfl⟩ := hx
  obtain ⟨k, hk, rfl⟩ := hy
  apply Int64.toInt_inj.mp
  rw [Int64.toInt_sub, Int32.toInt_toInt64, Int32.toInt_toInt64, Int32.toInt_toInt64, pk_sub_toInt (by omega) (by omega), nI_toInt (by omega), nI_toInt (by omega)]
  exact Int.bmod_eq_of_le (by omega) (by omega)
section L50
variable {P : ae_P} {σ : Nat → Int32} {α : Nat → Nat → Int32} {z : Int64} {t0 : ae_T} {ts : List ae_T}

theorem lp_mFirst {zd : Nat} {n : Nat} {B : ae_B} {x : Nat} {W : Nat → Nat → Int32} {mg md mw mc : Int32} {pl fr tk ww wg wf : Nat → Int32} {zq : Int64} {X : Nat} (hM : mOk B n (σ 27) (σ 29) (σ 33) (α 31) (α 32) (α 33) (α 40) (α 41) (α 42)) (hD : W = wD B n (α 35) (σ 28)) (hw : wOk n (α 35)) (hv : vOk n 200 (α 36)) (hs : vOk n 100 (α 37)) (hx : (σ 28) = nI x) (hx9 : x ≤ 9999) (hnl : nOk n (α 34)) (hn : (σ 27) = nI n) (hn10 : n ≤ 10) (hX : X ≤ 100) (hxx : 1 ≤ nI X ∧ nI X ≤ 100) (g : Nat) (hg : g ≤ n - 1) : aw_W P (zd + 7) cd_Model_first (fun r H => ∃ (mg : Int32) (md : Int32) (mw : Int32) (mc : Int32) (pl : Nat → Int32) (fr : Nat → Int32) (tk : Nat → Int32) (ww : Nat → Int32) (wg : Nat → Int32) (wf : Nat → Int32) (zq : Int64), r = some (.int (aFirst B n (α 35) (α 36) (α 37) (α 38) (σ 28) (sumF (α 34) n) (nI X))) ∧ H = (ae_en (au σ [(41, mg), (42, md), (43, mw), (44, mc)]) (au α [(43, pl), (44, fr), (47, tk), (48, ww), (49, wg), (50, wf)]) zq t0 ts)) (15, [some (.ref 46), some (.int (nI X)), some (.int ((aFi (α 37) (aGs B n (α 35) (α 36) (α 37) (α 38) (σ 28) (nI X)) (aCs B n (α 35) (α 36) (α 37) (α 38) (σ 28) (sumF (α 34) n) (nI X)) g).1)), some (.int ((aFi (α 37) (aGs B n (α 35) (α 36) (α 37) (α 38) (σ 28) (nI X)) (aCs B n (α 35) (α 36) (α 37) (α 38) (σ 28) (sumF (α 34) n) (nI X)) g).2.1)), some (.int ((aFi (α 37) (aGs B n (α 35) (α 36) (α 37) (α 38) (σ 28) (nI X)) (aCs B n (α 35) (α 36) (α 37) (α 38) (σ 28) (sumF (α 34) n) (nI X)) g).2.2)), some (.int (nI g))], []) (ae_en (au σ [(41, mg), (42, md), (43, mw), (44, mc)]) (au α [(43, pl), (44, fr), (47, tk), (48, ww), (49, wg), (50, wf)]) zq t0 ts) := by
  have hm1 : (aFi (α 37) (aGs B n (α 35) (α 36) (α 37) (α 38) (σ 28) (nI X)) (aCs B n (α 35) (α 36) (α 37) (α 38) (σ 28) (sumF (α 34) n) (nI X)) g).1 < 0 → (aFi (α 37) (aGs B n (α 35) (α 36) (α 37) (α 38) (σ 28) (nI X)) (aCs B n (α 35) (α 36) (α 37) (α 38) (σ 28) (sumF (α 34) n) (nI X)) g).1 = -1 := by
    intro q
    rcases aFi_1 (α 37) (aGs B n (α 35) (α 36) (α 37) (α 38) (σ 28) (nI X)) (aCs B n (α 35) (α 36) (α 37) (α 38) (σ 28) (sumF (α 34) n) (nI X)) g (by omega) with e | ⟨j, hj, e⟩
    · exact e
    · rw [e] at q
      exact absurd q (nI_pos (by omega))
  refine aw_go 6 rfl ⟨trivial, trivial, trivial, trivial, trivial, trivial, trivial⟩ ?_
  show aw_W _ _ _ _ (if (σ 27) ≤ ((nI g) + 1) then 58 else 21, [some (.ref 46), some (.int (nI X)), some (.int ((aFi (α 37) (aGs B n (α 35) (α 36) (α 37) (α 38) (σ 28) (nI X)) (aCs B n (α 35) (α 36) (α 37) (α 38) (σ 28) (sumF (α 34) n) (nI X)) g).1)), some (.int ((aFi (α 37) (aGs B n (α 35) (α 36) (α 37) (α 38) (σ 28) (nI X)) (aCs B n (α 35) (α 36) (α 37) (α 38) (σ 28) (sumF (α 34) n) (nI X)) g).2.1)), some (.int ((aFi (α 37) (aGs B n (α 35) (α 36) (α 37) (α 38) (σ 28) (nI X)) (aCs B n (α 35) (α 36) (α 37) (α 38) (σ 28) (sumF (α 34) n) (nI X)) g).2.2)), some (.int (nI g))], []) (ae_en (au σ [(41, mg), (42, md), (43, mw), (44, mc)]) (au α [(43, pl), (44, fr), (47, tk), (48, ww), (49, wg), (50, wf)]) zq t0 ts)
  refine aw_br (c := (σ 27) ≤ ((nI g) + 1)) (fun h20 => ?_) (fun h20 => ?_)
  · skip
    have h20 := cI_leT (a := n) (b := g + 1) hn (cI_add (a := g) (b := 1) rfl rfl) (by omega) (by omega) h20
    show aw_W _ _ _ _ (58, [some (.ref 46), some (.int (nI X)), some (.int ((aFi (α 37) (aGs B n (α 35) (α 36) (α 37) (α 38) (σ 28) (nI X)) (aCs B n (α 35) (α 36) (α 37) (α 38) (σ 28) (sumF (α 34) n) (nI X)) g).1)), some (.int ((aFi (α 37) (aGs B n (α 35) (α 36) (α 37) (α 38) (σ 28) (nI X)) (aCs B n (α 35) (α 36) (α 37) (α 38) (σ 28) (sumF (α 34) n) (nI X)) g).2.1)), some (.int ((aFi (α 37) (aGs B n (α 35) (α 36) (α 37) (α 38) (σ 28) (nI X)) (aCs B n (α 35) (α 36) (α 37) (α 38) (σ 28) (sumF (α 34) n) (nI X)) g).2.2)), some (.int (nI g))], []) (ae_en (au σ [(41, mg), (42, md), (43, mw), (44, mc)]) (au α [(43, pl), (44, fr), (47, tk), (48, ww), (49, wg), (50, wf)]) zq t0 ts)
    have e8 : g = n - 1 := by omega
    refine aw_go 1 rfl ⟨trivial, trivial⟩ ?_
    refine aw_ret rfl rfl trivial ?_
    refine ⟨mg, md, mw, mc, pl, fr, tk, ww, wg, wf, zq, ?_, rfl⟩
    rw [aFirst, if_pos hxx, e8]
  · skip
    have h20 := cI_leF (a := n) (b := g + 1) hn (cI_add (a := g) (b := 1) rfl rfl) (by omega) (by omega) h20
    show aw_W _ _ _ _ (21, [some (.ref 46), some (.int (nI X)), some (.int ((aFi (α 37) (aGs B n (α 35) (α 36) (α 37) (α 38) (σ 28) (nI X)) (aCs B n (α 35) (α 36) (α 37) (α 38) (σ 28) (sumF (α 34) n) (nI X)) g).1)), some (.int ((aFi (α 37) (aGs B n (α 35) (α 36) (α 37) (α 38) (σ 28) (nI X)) (aCs B n (α 35) (α 36) (α 37) (α 38) (σ 28) (sumF (α 34) n) (nI X)) g).2.1)), some (.int ((aFi (α 37) (aGs B n (α 35) (α 36) (α 37) (α 38) (σ 28) (nI X)) (aCs B n (α 35) (α 36) (α 37) (α 38) (σ 28) (sumF (α 34) n) (nI X)) g).2.2)), some (.int (nI g))], []) (ae_en (au σ [(41, mg), (42, md), (43, mw), (44, mc)]) (au α [(43, pl), (44, fr), (47, tk), (48, ww), (49, wg), (50, wf)]) zq t0 ts)
    refine aw_go 10 rfl ⟨trivial, trivial, trivial, trivial, trivial, (cI_in (a := g) rfl (by omega) (by decide)), trivial, trivial, trivial, trivial, trivial⟩ ?_
    show aw_W _ _ _ _ (31, [some (.ref 46), some (.int (nI X)), some (.int ((aFi (α 37) (aGs B n (α 35) (α 36) (α 37) (α 38) (σ 28) (nI X)) (aCs B n (α 35) (α 36) (α 37) (α 38) (σ 28) (sumF (α 34) n) (nI X)) g).1)), some (.int ((aFi (α 37) (aGs B n (α 35) (α 36) (α 37) (α 38) (σ 28) (nI X)) (aCs B n (α 35) (α 36) (α 37) (α 38) (σ 28) (sumF (α 34) n) (nI X)) g).2.1)), some (.int ((aFi (α 37) (aGs B n (α 35) (α 36) (α 37) (α 38) (σ 28) (nI X)) (aCs B n (α 35) (α 36) (α 37) (α 38) (σ 28) (sumF (α 34) n) (nI X)) g).2.2)), some (.int (nI g))], [.int 100, .int 0, .int ((α 37 (nI g).toNatClampNeg) + (nI X)), .int (nI g), .ref 46]) (ae_en (au σ [(41, mg), (42, md), (43, mw), (44, mc)]) (au α [(43, pl), (44, fr), (47, tk), (48, ww), (49, wg), (50, wf)]) zq t0 ts)
    rw [show (nI g).toNatClampNeg = g from cI_cl (a := g) rfl (by omega)]
    refine aw_callE rfl rfl (ev_Model_held (v := ((α 37 g) + (nI X))) (a := 0) (b := 100)) ?_
    show aw_W _ _ _ _ (32, [some (.ref 46), some (.int (nI X)), some (.int ((aFi (α 37) (aGs B n (α 35) (α 36) (α 37) (α 38) (σ 28) (nI X)) (aCs B n (α 35) (α 36) (α 37) (α 38) (σ 28) (sumF (α 34) n) (nI X)) g).1)), some (.int ((aFi (α 37) (aGs B n (α 35) (α 36) (α 37) (α 38) (σ 28) (nI X)) (aCs B n (α 35) (α 36) (α 37) (α 38) (σ 28) (sumF (α 34) n) (nI X)) g).2.1)), some (.int ((aFi (α 37) (aGs B n (α 35) (α 36) (α 37) (α 38) (σ 28) (nI X)) (aCs B n (α 35) (α 36) (α 37) (α 38) (σ 28) (sumF (α 34) n) (nI X)) g).2.2)), some (.int (nI g))], [.int (fHeld ((α 37 g) + (nI X)) 0 100), .int (nI g), .ref 46]) (ae_en (au σ [(41, mg), (42, md), (43, mw), (44, mc)]) (au α [(43, pl), (44, fr), (47, tk), (48, ww), (49, wg), (50, wf)]) zq t0 ts)
    rw [show fHeld ((α 37 g) + (nI X)) 0 100 = mM (α 37) (nI X) g from (mM_b hs (show g + 1 < n by omega) hX).1]
    refine aw_call rfl rfl (ev_Model_tryStuffing (g := g) (y := (mM (α 37) (nI X) g)) hM hD hw hv hs hx hx9 hnl (by omega) (mM_b hs (show g + 1 < n by omega) hX).2) ?_
    rintro _ _ ⟨mg_32, md_32, pl_32, fr_32, tk_32, ww_32, wg_32, wf_32, zq_32, rfl, rfl⟩
    show aw_W _ _ _ _ (33, [some (.ref 46), some (.int (nI X)), some (.int ((aFi (α 37) (aGs B n (α 35) (α 36) (α 37) (α 38) (σ 28) (nI X)) (aCs B n (α 35) (α 36) (α 37) (α 38) (σ 28) (sumF (α 34) n) (nI X)) g).1)), some (.int ((aFi (α 37) (aGs B n (α 35) (α 36) (α 37) (α 38) (σ 28) (nI X)) (aCs B n (α 35) (α 36) (α 37) (α 38) (σ 28) (sumF (α 34) n) (nI X)) g).2.1)), some (.int ((aFi (α 37) (aGs B n (α 35) (α 36) (α 37) (α 38) (σ 28) (nI X)) (aCs B n (α 35) (α 36) (α 37) (α 38) (σ 28) (sumF (α 34) n) (nI X)) g).2.2)), some (.int (nI g))], []) (ae_en (au σ [(41, mg_32), (42, md_32), (43, (gGN B 60 W (α 36) (upd (α 37) g (mM (α 37) (nI X) g)) (α 38) 60 (n - 1))), (44, (gCm B n 60 W (α 36) (upd (α 37) g (mM (α 37) (nI X) g)) (α 38) (σ 28) (sumF (α 34) n) 60 (n - 1)))]) (au α [(43, pl_32), (44, fr_32), (47, tk_32), (48, ww_32), (49, wg_32), (50, wf_32)]) zq_32 t0 ts)
    rw [show (gGN B 60 W (α 36) (upd (α 37) g (mM (α 37) (nI X) g)) (α 38) 60 (n - 1)) = aGs B n (α 35) (α 36) (α 37) (α 38) (σ 28) (nI X) g from by rw [hD]; rfl, show (gCm B n 60 W (α 36) (upd (α 37) g (mM (α 37) (nI X) g)) (α 38) (σ 28) (sumF (α 34) n) 60 (n - 1)) = aCs B n (α 35) (α 36) (α 37) (α 38) (σ 28) (sumF (α 34) n) (nI X) g from by rw [hD]; rfl]
    refine aw_go 2 rfl ⟨trivial, trivial, trivial⟩ ?_
    refine aw_br (c := ((aFi (α 37) (aGs B n (α 35) (α 36) (α 37) (α 38) (σ 28) (nI X)) (aCs B n (α 35) (α 36) (α 37) (α 38) (σ 28) (sumF (α 34) n) (nI X)) g).1) < 0) (fun h34 => ?_) (fun h34 => ?_)
    · skip
      show aw_W _ _ _ _ (48, [some (.ref 46), some (.int (nI X)), some (.int ((aFi (α 37) (aGs B n (α 35) (α 36) (α 37) (α 38) (σ 28) (nI X)) (aCs B n (α 35) (α 36) (α 37) (α 38) (σ 28) (sumF (α 34) n) (nI X)) g).1)), some (.int ((aFi (α 37) (aGs B n (α 35) (α 36) (α 37) (α 38) (σ 28) (nI X)) (aCs B n (α 35) (α 36) (α 37) (α 38) (σ 28) (sumF (α 34) n) (nI X)) g).2.1)), some (.int ((aFi (α 37) (aGs B n (α 35) (α 36) (α 37) (α 38) (σ 28) (nI X)) (aCs B n (α 35) (α 36) (α 37) (α 38) (σ 28) (sumF (α 34) n) (nI X)) g).2.2)), some (.int (nI g))], []) (ae_en (au σ [(41, mg_32), (42, md_32), (43, aGs B n (α 35) (α 36) (α 37) (α 38) (σ 28) (nI X) g), (44, aCs B n (α 35) (α 36) (α 37) (α 38) (σ 28) (sumF (α 34) n) (nI X) g)]) (au α [(43, pl_32), (44, fr_32), (47, tk_32), (48, ww_32), (49, wg_32), (50, wf_32)]) zq_32 t0 ts)
      refine aw_go 10 rfl ⟨trivial, trivial, trivial, trivial, trivial, trivial, trivial, trivial, trivial, trivial, trivial⟩ ?_
      show aw_W _ _ _ _ (15, [some (.ref 46), some (.int (nI X)), some (.int (nI g)), some (.int (aGs B n (α 35) (α 36) (α 37) (α 38) (σ 28) (nI X) g)), some (.int (aCs B n (α 35) (α 36) (α 37) (α 38) (σ 28) (sumF (α 34) n) (nI X) g)), some (.int ((nI g) + 1))], []) (ae_en (au σ [(41, mg_32), (42, md_32), (43, aGs B n (α 35) (α 36) (α 37) (α 38) (σ 28) (nI X) g), (44, aCs B n (α 35) (α 36) (α 37) (α 38) (σ 28) (sumF (α 34) n) (nI X) g)]) (au α [(43, pl_32), (44, fr_32), (47, tk_32), (48, ww_32), (49, wg_32), (50, wf_32)]) zq_32 t0 ts)
      rw [show (nI g) + 1 = nI (g + 1) from (cI_add (a := g) (b := 1) rfl rfl)]
      have e1 := aFi_y (m := (α 37)) (gn := aGs B n (α 35) (α 36) (α 37) (α 38) (σ 28) (nI X)) (cm := aCs B n (α 35) (α 36) (α 37) (α 38) (σ 28) (sumF (α 34) n) (nI X)) (g := g) (Or.inl (hm1 h34))
      exact aw_to (lp_mFirst hM hD hw hv hs hx hx9 hnl hn hn10 hX hxx (g + 1) (by omega)) (by rw [e1]) rfl
    · skip
      show aw_W _ _ _ _ (35, [some (.ref 46), some (.int (nI X)), some (.int ((aFi (α 37) (aGs B n (α 35) (α 36) (α 37) (α 38) (σ 28) (nI X)) (aCs B n (α 35) (α 36) (α 37) (α 38) (σ 28) (sumF (α 34) n) (nI X)) g).1)), some (.int ((aFi (α 37) (aGs B n (α 35) (α 36) (α 37) (α 38) (σ 28) (nI X)) (aCs B n (α 35) (α 36) (α 37) (α 38) (σ 28) (sumF (α 34) n) (nI X)) g).2.1)), some (.int ((aFi (α 37) (aGs B n (α 35) (α 36) (α 37) (α 38) (σ 28) (nI X)) (aCs B n (α 35) (α 36) (α 37) (α 38) (σ 28) (sumF (α 34) n) (nI X)) g).2.2)), some (.int (nI g))], []) (ae_en (au σ [(41, mg_32), (42, md_32), (43, aGs B n (α 35) (α 36) (α 37) (α 38) (σ 28) (nI X) g), (44, aCs B n (α 35) (α 36) (α 37) (α 38) (σ 28) (sumF (α 34) n) (nI X) g)]) (au α [(43, pl_32), (44, fr_32), (47, tk_32), (48, ww_32), (49, wg_32), (50, wf_32)]) zq_32 t0 ts)
      refine aw_go 4 rfl ⟨trivial, trivial, trivial, trivial, trivial⟩ ?_
      show aw_W _ _ _ _ (if ((aFi (α 37) (aGs B n (α 35) (α 36) (α 37) (α 38) (σ 28) (nI X)) (aCs B n (α 35) (α 36) (α 37) (α 38) (σ 28) (sumF (α 34) n) (nI X)) g).2.1) < (aGs B n (α 35) (α 36) (α 37) (α 38) (σ 28) (nI X) g) then 56 else 39, [some (.ref 46), some (.int (nI X)), some (.int ((aFi (α 37) (aGs B n (α 35) (α 36) (α 37) (α 38) (σ 28) (nI X)) (aCs B n (α 35) (α 36) (α 37) (α 38) (σ 28) (sumF (α 34) n) (nI X)) g).1)), some (.int ((aFi (α 37) (aGs B n (α 35) (α 36) (α 37) (α 38) (σ 28) (nI X)) (aCs B n (α 35) (α 36) (α 37) (α 38) (σ 28) (sumF (α 34) n) (nI X)) g).2.1)), some (.int ((aFi (α 37) (aGs B n (α 35) (α 36) (α 37) (α 38) (σ 28) (nI X)) (aCs B n (α 35) (α 36) (α 37) (α 38) (σ 28) (sumF (α 34) n) (nI X)) g).2.2)), some (.int (nI g))], []) (ae_en (au σ [(41, mg_32), (42, md_32), (43, aGs B n (α 35) (α 36) (α 37) (α 38) (σ 28) (nI X) g), (44, aCs B n (α 35) (α 36) (α 37) (α 38) (σ 28) (sumF (α 34) n) (nI X) g)]) (au α [(43, pl_32), (44, fr_32), (47, tk_32), (48, ww_32), (49, wg_32), (50, wf_32)]) zq_32 t0 ts)
      refine aw_br (c := ((aFi (α 37) (aGs B n (α 35) (α 36) (α 37) (α 38) (σ 28) (nI X)) (aCs B n (α 35) (α 36) (α 37) (α 38) (σ 28) (sumF (α 34) n) (nI X)) g).2.1) < (aGs B n (α 35) (α 36) (α 37) (α 38) (σ 28) (nI X) g)) (fun h38 => ?_) (fun h38 => ?_)
      · skip
        show aw_W _ _ _ _ (56, [some (.ref 46), some (.int (nI X)), some (.int ((aFi (α 37) (aGs B n (α 35) (α 36) (α 37) (α 38) (σ 28) (nI X)) (aCs B n (α 35) (α 36) (α 37) (α 38) (σ 28) (sumF (α 34) n) (nI X)) g).1)), some (.int ((aFi (α 37) (aGs B n (α 35) (α 36) (α 37) (α 38) (σ 28) (nI X)) (aCs B n (α 35) (α 36) (α 37) (α 38) (σ 28) (sumF (α 34) n) (nI X)) g).2.1)), some (.int ((aFi (α 37) (aGs B n (α 35) (α 36) (α 37) (α 38) (σ 28) (nI X)) (aCs B n (α 35) (α 36) (α 37) (α 38) (σ 28) (sumF (α 34) n) (nI X)) g).2.2)), some (.int (nI g))], []) (ae_en (au σ [(41, mg_32), (42, md_32), (43, aGs B n (α 35) (α 36) (α 37) (α 38) (σ 28) (nI X) g), (44, aCs B n (α 35) (α 36) (α 37) (α 38) (σ 28) (sumF (α 34) n) (nI X) g)]) (au α [(43, pl_32), (44, fr_32), (47, tk_32), (48, ww_32), (49, wg_32), (50, wf_32)]) zq_32 t0 ts)
        refine aw_go 2 rfl ⟨trivial, trivial, trivial⟩ ?_
        show aw_W _ _ _ _ (15, [some (.ref 46), some (.int (nI X)), some (.int ((aFi (α 37) (aGs B n (α 35) (α 36) (α 37) (α 38) (σ 28) (nI X)) (aCs B n (α 35) (α 36) (α 37) (α 38) (σ 28) (sumF (α 34) n) (nI X)) g).1)), some (.int ((aFi (α 37) (aGs B n (α 35) (α 36) (α 37) (α 38) (σ 28) (nI X)) (aCs B n (α 35) (α 36) (α 37) (α 38) (σ 28) (sumF (α 34) n) (nI X)) g).2.1)), some (.int ((aFi (α 37) (aGs B n (α 35) (α 36) (α 37) (α 38) (σ 28) (nI X)) (aCs B n (α 35) (α 36) (α 37) (α 38) (σ 28) (sumF (α 34) n) (nI X)) g).2.2)), some (.int ((nI g) + 1))], []) (ae_en (au σ [(41, mg_32), (42, md_32), (43, aGs B n (α 35) (α 36) (α 37) (α 38) (σ 28) (nI X) g), (44, aCs B n (α 35) (α 36) (α 37) (α 38) (σ 28) (sumF (α 34) n) (nI X) g)]) (au α [(43, pl_32), (44, fr_32), (47, tk_32), (48, ww_32), (49, wg_32), (50, wf_32)]) zq_32 t0 ts)
        rw [show (nI g) + 1 = nI (g + 1) from (cI_add (a := g) (b := 1) rfl rfl)]
        have e1 := aFi_n (m := (α 37)) (gn := aGs B n (α 35) (α 36) (α 37) (α 38) (σ 28) (nI X)) (cm := aCs B n (α 35) (α 36) (α 37) (α 38) (σ 28) (sumF (α 34) n) (nI X)) (g := g) (fun q => h34 (by rw [q]; decide)) (Int32.not_lt.mpr (Int32.le_of_lt h38)) (fun q => absurd h38 (by rw [q.1]; exact Int32.lt_irrefl))
        exact aw_to (lp_mFirst hM hD hw hv hs hx hx9 hnl hn hn10 hX hxx (g + 1) (by omega)) (by rw [e1]) rfl
      · skip
        show aw_W _ _ _ _ (39, [some (.ref 46), some (.int (nI X)), some (.int ((aFi (α 37) (aGs B n (α 35) (α 36) (α 37) (α 38) (σ 28) (nI X)) (aCs B n (α 35) (α 36) (α 37) (α 38) (σ 28) (sumF (α 34) n) (nI X)) g).1)), some (.int ((aFi (α 37) (aGs B n (α 35) (α 36) (α 37) (α 38) (σ 28) (nI X)) (aCs B n (α 35) (α 36) (α 37) (α 38) (σ 28) (sumF (α 34) n) (nI X)) g).2.1)), some (.int ((aFi (α 37) (aGs B n (α 35) (α 36) (α 37) (α 38) (σ 28) (nI X)) (aCs B n (α 35) (α 36) (α 37) (α 38) (σ 28) (sumF (α 34) n) (nI X)) g).2.2)), some (.int (nI g))], []) (ae_en (au σ [(41, mg_32), (42, md_32), (43, aGs B n (α 35) (α 36) (α 37) (α 38) (σ 28) (nI X) g), (44, aCs B n (α 35) (α 36) (α 37) (α 38) (σ 28) (sumF (α 34) n) (nI X) g)]) (au α [(43, pl_32), (44, fr_32), (47, tk_32), (48, ww_32), (49, wg_32), (50, wf_32)]) zq_32 t0 ts)
        refine aw_go 4 rfl ⟨trivial, trivial, trivial, trivial, trivial⟩ ?_
        show aw_W _ _ _ _ (if ¬ (aGs B n (α 35) (α 36) (α 37) (α 38) (σ 28) (nI X) g) = ((aFi (α 37) (aGs B n (α 35) (α 36) (α 37) (α 38) (σ 28) (nI X)) (aCs B n (α 35) (α 36) (α 37) (α 38) (σ 28) (sumF (α 34) n) (nI X)) g).2.1) then 48 else 43, [some (.ref 46), some (.int (nI X)), some (.int ((aFi (α 37) (aGs B n (α 35) (α 36) (α 37) (α 38) (σ 28) (nI X)) (aCs B n (α 35) (α 36) (α 37) (α 38) (σ 28) (sumF (α 34) n) (nI X)) g).1)), some (.int ((aFi (α 37) (aGs B n (α 35) (α 36) (α 37) (α 38) (σ 28) (nI X)) (aCs B n (α 35) (α 36) (α 37) (α 38) (σ 28) (sumF (α 34) n) (nI X)) g).2.1)), some (.int ((aFi (α 37) (aGs B n (α 35) (α 36) (α 37) (α 38) (σ 28) (nI X)) (aCs B n (α 35) (α 36) (α 37) (α 38) (σ 28) (sumF (α 34) n) (nI X)) g).2.2)), some (.int (nI g))], []) (ae_en (au σ [(41, mg_32), (42, md_32), (43, aGs B n (α 35) (α 36) (α 37) (α 38) (σ 28) (nI X) g), (44, aCs B n (α 35) (α 36) (α 37) (α 38) (σ 28) (sumF (α 34) n) (nI X) g)]) (au α [(43, pl_32), (44, fr_32), (47, tk_32), (48, ww_32), (49, wg_32), (50, wf_32)]) zq_32 t0 ts)
        refine aw_br (c := ¬ (aGs B n (α 35) (α 36) (α 37) (α 38) (σ 28) (nI X) g) = ((aFi (α 37) (aGs B n (α 35) (α 36) (α 37) (α 38) (σ 28) (nI X)) (aCs B n (α 35) (α 36) (α 37) (α 38) (σ 28) (sumF (α 34) n) (nI X)) g).2.1)) (fun h42 => ?_) (fun h42 => ?_)
        · skip
          show aw_W _ _ _ _ (48, [some (.ref 46), some (.int (nI X)), some (.int ((aFi (α 37) (aGs B n (α 35) (α 36) (α 37) (α 38) (σ 28) (nI X)) (aCs B n (α 35) (α 36) (α 37) (α 38) (σ 28) (sumF (α 34) n) (nI X)) g).1)), some (.int ((aFi (α 37) (aGs B n (α 35) (α 36) (α 37) (α 38) (σ 28) (nI X)) (aCs B n (α 35) (α 36) (α 37) (α 38) (σ 28) (sumF (α 34) n) (nI X)) g).2.1)), some (.int ((aFi (α 37) (aGs B n (α 35) (α 36) (α 37) (α 38) (σ 28) (nI X)) (aCs B n (α 35) (α 36) (α 37) (α 38) (σ 28) (sumF (α 34) n) (nI X)) g).2.2)), some (.int (nI g))], []) (ae_en (au σ [(41, mg_32), (42, md_32), (43, aGs B n (α 35) (α 36) (α 37) (α 38) (σ 28) (nI X) g), (44, aCs B n (α 35) (α 36) (α 37) (α 38) (σ 28) (sumF (α 34) n) (nI X) g)]) (au α [(43, pl_32), (44, fr_32), (47, tk_32), (48, ww_32), (49, wg_32), (50, wf_32)]) zq_32 t0 ts)
          refine aw_go 10 rfl ⟨trivial, trivial, trivial, trivial, trivial, trivial, trivial, trivial, trivial, trivial, trivial⟩ ?_
          show aw_W _ _ _ _ (15, [some (.ref 46), some (.int (nI X)), some (.int (nI g)), some (.int (aGs B n (α 35) (α 36) (α 37) (α 38) (σ 28) (nI X) g)), some (.int (aCs B n (α 35) (α 36) (α 37) (α 38) (σ 28) (sumF (α 34) n) (nI X) g)), some (.int ((nI g) + 1))], []) (ae_en (au σ [(41, mg_32), (42, md_32), (43, aGs B n (α 35) (α 36) (α 37) (α 38) (σ 28) (nI X) g), (44, aCs B n (α 35) (α 36) (α 37) (α 38) (σ 28) (sumF (α 34) n) (nI X) g)]) (au α [(43, pl_32), (44, fr_32), (47, tk_32), (48, ww_32), (49, wg_32), (50, wf_32)]) zq_32 t0 ts)
          rw [show (nI g) + 1 = nI (g + 1) from (cI_add (a := g) (b := 1) rfl rfl)]
          have e1 := aFi_y (m := (α 37)) (gn := aGs B n (α 35) (α 36) (α 37) (α 38) (σ 28) (nI X)) (cm := aCs B n (α 35) (α 36) (α 37) (α 38) (σ 28) (sumF (α 34) n) (nI X)) (g := g) (Or.inr (Or.inl (Int32.lt_of_le_of_ne (Int32.not_lt.mp h38) h42)))
          exact aw_to (lp_mFirst hM hD hw hv hs hx hx9 hnl hn hn10 hX hxx (g + 1) (by omega)) (by rw [e1]) rfl
        · skip
          have h42 := Classical.not_not.mp h42
          show aw_W _ _ _ _ (43, [some (.ref 46), some (.int (nI X)), some (.int ((aFi (α 37) (aGs B n (α 35) (α 36) (α 37) (α 38) (σ 28) (nI X)) (aCs B n (α 35) (α 36) (α 37) (α 38) (σ 28) (sumF (α 34) n) (nI X)) g).1)), some (.int ((aFi (α 37) (aGs B n (α 35) (α 36) (α 37) (α 38) (σ 28) (nI X)) (aCs B n (α 35) (α 36) (α 37) (α 38) (σ 28) (sumF (α 34) n) (nI X)) g).2.1)), some (.int ((aFi (α 37) (aGs B n (α 35) (α 36) (α 37) (α 38) (σ 28) (nI X)) (aCs B n (α 35) (α 36) (α 37) (α 38) (σ 28) (sumF (α 34) n) (nI X)) g).2.2)), some (.int (nI g))], []) (ae_en (au σ [(41, mg_32), (42, md_32), (43, aGs B n (α 35) (α 36) (α 37) (α 38) (σ 28) (nI X) g), (44, aCs B n (α 35) (α 36) (α 37) (α 38) (σ 28) (sumF (α 34) n) (nI X) g)]) (au α [(43, pl_32), (44, fr_32), (47, tk_32), (48, ww_32), (49, wg_32), (50, wf_32)]) zq_32 t0 ts)
          refine aw_go 4 rfl ⟨trivial, trivial, trivial, trivial, trivial⟩ ?_
          show aw_W _ _ _ _ (if (aCs B n (α 35) (α 36) (α 37) (α 38) (σ 28) (sumF (α 34) n) (nI X) g) < ((aFi (α 37) (aGs B n (α 35) (α 36) (α 37) (α 38) (σ 28) (nI X)) (aCs B n (α 35) (α 36) (α 37) (α 38) (σ 28) (sumF (α 34) n) (nI X)) g).2.2) then 48 else 47, [some (.ref 46), some (.int (nI X)), some (.int ((aFi (α 37) (aGs B n (α 35) (α 36) (α 37) (α 38) (σ 28) (nI X)) (aCs B n (α 35) (α 36) (α 37) (α 38) (σ 28) (sumF (α 34) n) (nI X)) g).1)), some (.int ((aFi (α 37) (aGs B n (α 35) (α 36) (α 37) (α 38) (σ 28) (nI X)) (aCs B n (α 35) (α 36) (α 37) (α 38) (σ 28) (sumF (α 34) n) (nI X)) g).2.1)), some (.int ((aFi (α 37) (aGs B n (α 35) (α 36) (α 37) (α 38) (σ 28) (nI X)) (aCs B n (α 35) (α 36) (α 37) (α 38) (σ 28) (sumF (α 34) n) (nI X)) g).2.2)), some (.int (nI g))], []) (ae_en (au σ [(41, mg_32), (42, md_32), (43, aGs B n (α 35) (α 36) (α 37) (α 38) (σ 28) (nI X) g), (44, aCs B n (α 35) (α 36) (α 37) (α 38) (σ 28) (sumF (α 34) n) (nI X) g)]) (au α [(43, pl_32), (44, fr_32), (47, tk_32), (48, ww_32), (49, wg_32), (50, wf_32)]) zq_32 t0 ts)
          refine aw_br (c := (aCs B n (α 35) (α 36) (α 37) (α 38) (σ 28) (sumF (α 34) n) (nI X) g) < ((aFi (α 37) (aGs B n (α 35) (α 36) (α 37) (α 38) (σ 28) (nI X)) (aCs B n (α 35) (α 36) (α 37) (α 38) (σ 28) (sumF (α 34) n) (nI X)) g).2.2)) (fun h46 => ?_) (fun h46 => ?_)
          · skip
            show aw_W _ _ _ _ (48, [some (.ref 46), some (.int (nI X)), some (.int ((aFi (α 37) (aGs B n (α 35) (α 36) (α 37) (α 38) (σ 28) (nI X)) (aCs B n (α 35) (α 36) (α 37) (α 38) (σ 28) (sumF (α 34) n) (nI X)) g).1)), some (.int ((aFi (α 37) (aGs B n (α 35) (α 36) (α 37) (α 38) (σ 28) (nI X)) (aCs B n (α 35) (α 36) (α 37) (α 38) (σ 28) (sumF (α 34) n) (nI X)) g).2.1)), some (.int ((aFi (α 37) (aGs B n (α 35) (α 36) (α 37) (α 38) (σ 28) (nI X)) (aCs B n (α 35) (α 36) (α 37) (α 38) (σ 28) (sumF (α 34) n) (nI X)) g).2.2)), some (.int (nI g))], []) (ae_en (au σ [(41, mg_32), (42, md_32), (43, aGs B n (α 35) (α 36) (α 37) (α 38) (σ 28) (nI X) g), (44, aCs B n (α 35) (α 36) (α 37) (α 38) (σ 28) (sumF (α 34) n) (nI X) g)]) (au α [(43, pl_32), (44, fr_32), (47, tk_32), (48, ww_32), (49, wg_32), (50, wf_32)]) zq_32 t0 ts)
            refine aw_go 10 rfl ⟨trivial, trivial, trivial, trivial, trivial, trivial, trivial, trivial, trivial, trivial, trivial⟩ ?_
            show aw_W _ _ _ _ (15, [some (.ref 46), some (.int (nI X)), some (.int (nI g)), some (.int (aGs B n (α 35) (α 36) (α 37) (α 38) (σ 28) (nI X) g)), some (.int (aCs B n (α 35) (α 36) (α 37) (α 38) (σ 28) (sumF (α 34) n) (nI X) g)), some (.int ((nI g) + 1))], []) (ae_en (au σ [(41, mg_32), (42, md_32), (43, aGs B n (α 35) (α 36) (α 37) (α 38) (σ 28) (nI X) g), (44, aCs B n (α 35) (α 36) (α 37) (α 38) (σ 28) (sumF (α 34) n) (nI X) g)]) (au α [(43, pl_32), (44, fr_32), (47, tk_32), (48, ww_32), (49, wg_32), (50, wf_32)]) zq_32 t0 ts)
            rw [show (nI g) + 1 = nI (g + 1) from (cI_add (a := g) (b := 1) rfl rfl)]
            have e1 := aFi_y (m := (α 37)) (gn := aGs B n (α 35) (α 36) (α 37) (α 38) (σ 28) (nI X)) (cm := aCs B n (α 35) (α 36) (α 37) (α 38) (σ 28) (sumF (α 34) n) (nI X)) (g := g) (Or.inr (Or.inr ⟨h42, h46⟩))
            exact aw_to (lp_mFirst hM hD hw hv hs hx hx9 hnl hn hn10 hX hxx (g + 1) (by omega)) (by rw [e1]) rfl
          · skip
            show aw_W _ _ _ _ (47, [some (.ref 46), some (.int (nI X)), some (.int ((aFi (α 37) (aGs B n (α 35) (α 36) (α 37) (α 38) (σ 28) (nI X)) (aCs B n (α 35) (α 36) (α 37) (α 38) (σ 28) (sumF (α 34) n) (nI X)) g).1)), some (.int ((aFi (α 37) (aGs B n (α 35) (α 36) (α 37) (α 38) (σ 28) (nI X)) (aCs B n (α 35) (α 36) (α 37) (α 38) (σ 28) (sumF (α 34) n) (nI X)) g).2.1)), some (.int ((aFi (α 37) (aGs B n (α 35) (α 36) (α 37) (α 38) (σ 28) (nI X)) (aCs B n (α 35) (α 36) (α 37) (α 38) (σ 28) (sumF (α 34) n) (nI X)) g).2.2)), some (.int (nI g))], []) (ae_en (au σ [(41, mg_32), (42, md_32), (43, aGs B n (α 35) (α 36) (α 37) (α 38) (σ 28) (nI X) g), (44, aCs B n (α 35) (α 36) (α 37) (α 38) (σ 28) (sumF (α 34) n) (nI X) g)]) (au α [(43, pl_32), (44, fr_32), (47, tk_32), (48, ww_32), (49, wg_32), (50, wf_32)]) zq_32 t0 ts)
            refine aw_go 3 rfl ⟨trivial, trivial, trivial, trivial⟩ ?_
            show aw_W _ _ _ _ (15, [some (.ref 46), some (.int (nI X)), some (.int ((aFi (α 37) (aGs B n (α 35) (α 36) (α 37) (α 38) (σ 28) (nI X)) (aCs B n (α 35) (α 36) (α 37) (α 38) (σ 28) (sumF (α 34) n) (nI X)) g).1)), some (.int ((aFi (α 37) (aGs B n (α 35) (α 36) (α 37) (α 38) (σ 28) (nI X)) (aCs B n (α 35) (α 36) (α 37) (α 38) (σ 28) (sumF (α 34) n) (nI X)) g).2.1)), some (.int ((aFi (α 37) (aGs B n (α 35) (α 36) (α 37) (α 38) (σ 28) (nI X)) (aCs B n (α 35) (α 36) (α 37) (α 38) (σ 28) (sumF (α 34) n) (nI X)) g).2.2)), some (.int ((nI g) + 1))], []) (ae_en (au σ [(41, mg_32), (42, md_32), (43, aGs B n (α 35) (α 36) (α 37) (α 38) (σ 28) (nI X) g), (44, aCs B n (α 35) (α 36) (α 37) (α 38) (σ 28) (sumF (α 34) n) (nI X) g)]) (au α [(43, pl_32), (44, fr_32), (47, tk_32), (48, ww_32), (49, wg_32), (50, wf_32)]) zq_32 t0 ts)
            rw [show (nI g) + 1 = nI (g + 1) from (cI_add (a := g) (b := 1) rfl rfl)]
            have e1 := aFi_n (m := (α 37)) (gn := aGs B n (α 35) (α 36) (α 37) (α 38) (σ 28) (nI X)) (cm := aCs B n (α 35) (α 36) (α 37) (α 38) (σ 28) (sumF (α 34) n) (nI X)) (g := g) (fun q => h34 (by rw [q]; decide)) (by rw [h42]; exact Int32.lt_irrefl) (fun q => absurd q.2 h46)
            exact aw_to (lp_mFirst hM hD hw hv hs hx hx9 hnl hn hn10 hX hxx (g + 1) (by omega)) (by rw [e1]) rfl
termination_by n - 1 - g
decreasing_by all_goals omega
theorem ev_Model_first {n : Nat} {B : ae_B} {x : Nat} {W : Nat → Nat → Int32} {x0 : Int32} {zd : Nat} (hM : mOk B n (σ 27) (σ 29) (σ 33) (α 31) (α 32) (α 33) (α 40) (α 41) (α 42)) (hD : W = wD B n (α 35) (σ 28)) (hw : wOk n (α 35)) (hv : vOk n 200 (α 36)) (hs : vOk n 100 (α 37)) (hx : (σ 28) = nI x) (hx9 : x ≤ 9999) (hnl : nOk n (α 34)) : aw_X P (zd + 8) 164 [.ref 46, .int x0] (ae_en σ α z t0 ts) (fun r H => ∃ (mg : Int32) (md : Int32) (mw : Int32) (mc : Int32) (pl : Nat → Int32) (fr : Nat → Int32) (tk : Nat → Int32) (ww : Nat → Int32) (wg : Nat → Int32) (wf : Nat → Int32) (zq : Int64), r = some (.int (aFirst B n (α 35) (α 36) (α 37) (α 38) (σ 28) (sumF (α 34) n) x0)) ∧ H = (ae_en (au σ [(41, mg), (42, md), (43, mw), (44, mc)]) (au α [(43, pl), (44, fr), (47, tk), (48, ww), (49, wg), (50, wf)]) zq t0 ts)) := by
  obtain ⟨hn, hn10, hs3, hk0, hk1, hk2, hbo, hru⟩ := id hM
  refine aw_ev (cd := cd_Model_first) rfl rfl rfl ?_
  show aw_W _ _ _ _ (0, [some (.ref 46), some (.int x0), none, none, none, none], []) (ae_en σ α z t0 ts)
  refine aw_go 3 rfl ⟨trivial, trivial, trivial, trivial⟩ ?_
  refine aw_callE rfl rfl (em_in (v := x0) (a := 1) (b := 100)) ?_
  show aw_W _ _ _ _ (4, [some (.ref 46), some (.int x0), none, none, none, none], [.int (bI (¬ x0 < 1 ∧ ¬ 100 < x0))]) (ae_en σ α z t0 ts)
  refine aw_go 1 rfl ⟨trivial, trivial⟩ ?_
  refine aw_br (c := ¬ (bI (¬ x0 < 1 ∧ ¬ 100 < x0)) = 0) (fun h4 => ?_) (fun h4 => ?_)
  · skip
    have h4 := bI_t h4
    show aw_W _ _ _ _ (7, [some (.ref 46), some (.int x0), none, none, none, none], []) (ae_en σ α z t0 ts)
    have h4c := h4
    obtain ⟨X, hX, rfl⟩ := nI_of2 (x := x0) (M := 100) (n := 100) rfl (fun q => h4.1 (Int32.lt_of_lt_of_le q (by decide))) (Int32.not_lt.mp h4.2)
    refine aw_go 8 rfl ⟨trivial, trivial, trivial, trivial, trivial, trivial, trivial, trivial, trivial⟩ ?_
    exact aw_to (lp_mFirst (mg := σ 41) (md := σ 42) (mw := σ 43) (mc := σ 44) (pl := α 43) (fr := α 44) (tk := α 47) (ww := α 48) (wg := α 49) (wf := α 50) (zq := z) hM hD hw hv hs hx hx9 hnl hn hn10 hX ⟨Int32.not_lt.mp h4c.1, Int32.not_lt.mp h4c.2⟩ 0 (Nat.zero_le _)) rfl rfl
  · skip
    have h4 := bI_f (Classical.not_not.mp h4)
    show aw_W _ _ _ _ (5, [some (.ref 46), some (.int x0), none, none, none, none], []) (ae_en σ α z t0 ts)
    refine aw_go 1 rfl ⟨trivial, trivial⟩ ?_
    refine aw_ret rfl rfl trivial ?_
    refine ⟨σ 41, σ 42, σ 43, σ 44, α 43, α 44, α 47, α 48, α 49, α 50, z, ?_, rfl⟩
    rw [aFirst, if_neg (fun q => h4 ⟨Int32.not_lt.mpr q.1, Int32.not_lt.mpr q.2⟩)]
theorem ev_Model_far {n : Nat} {B : ae_B} {x0 : Int32} {zd : Nat} (hM : mOk B n (σ 27) (σ 29) (σ 33) (α 31) (α 32) (α 33) (α 40) (α 41) (α 42)) (hw : wOk n (α 35)) (hv : vOk n 200 (α 36)) (hs : vOk n 100 (α 37)) (hnl : nOk n (α 34)) : aw_X P (zd + 6) 166 [.ref 46, .int x0] (ae_en σ α z t0 ts) (fun r H => ∃ (mg : Int32) (md : Int32) (mw : Int32) (mc : Int32) (pl : Nat → Int32) (fr : Nat → Int32) (tk : Nat → Int32) (ww : Nat → Int32) (wg : Nat → Int32) (wf : Nat → Int32) (zq : Int64), r = some (.int (aFar (rCm B n (α 35) (α 36) (α 37) (σ 28) (sumF (α 34) n) (n - 1)) x0)) ∧ H = (ae_en (au σ [(41, mg), (42, md), (43, mw), (44, mc)]) (au α [(43, pl), (44, fr), (47, tk), (48, ww), (49, wg), (50, wf)]) zq t0 ts)) := by
  obtain ⟨hn, hn10, hs3, hk0, hk1, hk2, hbo, hru⟩ := id hM
  have hnb : bnd (sumF (α 34) n) 990 := by
    obtain ⟨a, ha, ea⟩ := sumF_b hnl n (Nat.le_refl n)
    exact ⟨a, by omega, ea⟩
  obtain ⟨cm, hcm, ecm⟩ := rCm_b (dy := (σ 28)) hbo hw hv hs hnb (n - 1) (Nat.le_refl _)
  have hcm2 : cm ≤ 1808100 := by omega
  have e24 : (nI cm + 23) / 24 = nI ((cm + 23) / 24) := by
    rw [show nI cm + 23 = nI (cm + 23) from nI_add cm 23]
    exact pk_div (d := 24) (by omega) (by decide) (by decide)
  refine aw_ev (cd := cd_Model_far) rfl rfl rfl ?_
  show aw_W _ _ _ _ (0, [some (.ref 46), some (.int x0), none, none], []) (ae_en σ α z t0 ts)
  refine aw_go 3 rfl ⟨trivial, trivial, trivial, trivial⟩ ?_
  refine aw_callE rfl rfl (em_in (v := x0) (a := 0) (b := 9999)) ?_
  show aw_W _ _ _ _ (4, [some (.ref 46), some (.int x0), none, none], [.int (bI (¬ x0 < 0 ∧ ¬ 9999 < x0))]) (ae_en σ α z t0 ts)
  refine aw_go 1 rfl ⟨trivial, trivial⟩ ?_
  refine aw_br (c := ¬ (bI (¬ x0 < 0 ∧ ¬ 9999 < x0)) = 0) (fun h4 => ?_) (fun h4 => ?_)
  · skip
    have h4 := bI_t h4
    show aw_W _ _ _ _ (7, [some (.ref 46), some (.int x0), none, none], []) (ae_en σ α z t0 ts)
    refine aw_go 1 rfl ⟨trivial, trivial⟩ ?_
    refine aw_call rfl rfl (ev_Model_comesIn  hM hw) ?_
    rintro _ _ ⟨pl_8, fr_8, rfl, rfl⟩
    show aw_W _ _ _ _ (9, [some (.ref 46), some (.int x0), none, none], [.int (rCm B n (α 35) (α 36) (α 37) (σ 28) (sumF (α 34) n) (n - 1))]) (ae_en σ (au α [(43, pl_8), (44, fr_8)]) z t0 ts)
    rw [show rCm B n (α 35) (α 36) (α 37) (σ 28) (sumF (α 34) n) (n - 1) = nI cm from ecm]
    refine aw_go 3 rfl ⟨trivial, trivial, trivial, trivial⟩ ?_
    refine aw_br (c := ¬ (nI cm) = 0) (fun h11 => ?_) (fun h11 => ?_)
    · skip
      have h11 := cI_eqF (a := cm) (b := 0) rfl rfl (by omega) (by omega) h11
      show aw_W _ _ _ _ (14, [some (.ref 46), some (.int x0), some (.int (nI cm)), none], []) (ae_en σ (au α [(43, pl_8), (44, fr_8)]) z t0 ts)
      refine aw_go 11 rfl ⟨trivial, trivial, trivial, trivial, trivial, (by decide), (by show ¬ (nI cm + 23) / 24 = 0; rw [e24]; exact nI_ne0 (by omega) (by omega)), trivial, trivial, trivial, trivial, trivial⟩ ?_
      show aw_W _ _ _ _ (if (x0 / (((nI cm) + 23) / 24)) ≤ 999 then 27 else 25, [some (.ref 46), some (.int x0), some (.int (nI cm)), some (.int (x0 / (((nI cm) + 23) / 24)))], []) (ae_en σ (au α [(43, pl_8), (44, fr_8)]) z t0 ts)
      refine aw_br (c := (x0 / (((nI cm) + 23) / 24)) ≤ 999) (fun h24 => ?_) (fun h24 => ?_)
      · skip
        show aw_W _ _ _ _ (27, [some (.ref 46), some (.int x0), some (.int (nI cm)), some (.int (x0 / (((nI cm) + 23) / 24)))], []) (ae_en σ (au α [(43, pl_8), (44, fr_8)]) z t0 ts)
        refine aw_go 1 rfl ⟨trivial, trivial⟩ ?_
        refine aw_ret rfl rfl trivial ?_
        refine ⟨σ 41, σ 42, σ 43, σ 44, pl_8, fr_8, α 47, α 48, α 49, α 50, z, ?_, rfl⟩
        rw [aFar, if_pos ⟨Int32.not_lt.mp h4.1, Int32.not_lt.mp h4.2⟩, if_neg (by rw [e24]; exact nI_nlt (b := 1) (by omega) (by omega)), fMn_le h24]
        all_goals rfl
      · skip
        show aw_W _ _ _ _ (25, [some (.ref 46), some (.int x0), some (.int (nI cm)), some (.int (x0 / (((nI cm) + 23) / 24)))], []) (ae_en σ (au α [(43, pl_8), (44, fr_8)]) z t0 ts)
        refine aw_go 2 rfl ⟨trivial, trivial, trivial⟩ ?_
        refine aw_ret rfl rfl trivial ?_
        refine ⟨σ 41, σ 42, σ 43, σ 44, pl_8, fr_8, α 47, α 48, α 49, α 50, z, ?_, rfl⟩
        rw [aFar, if_pos ⟨Int32.not_lt.mp h4.1, Int32.not_lt.mp h4.2⟩, if_neg (by rw [e24]; exact nI_nlt (b := 1) (by omega) (by omega)), fMn_gt (Int32.not_le.mp h24)]
        all_goals rfl
    · skip
      have h11 := Classical.not_not.mp h11
      have h11 := cI_eqT (a := cm) (b := 0) rfl rfl (by omega) (by omega) h11
      show aw_W _ _ _ _ (12, [some (.ref 46), some (.int x0), some (.int (nI cm)), none], []) (ae_en σ (au α [(43, pl_8), (44, fr_8)]) z t0 ts)
      refine aw_go 1 rfl ⟨trivial, trivial⟩ ?_
      refine aw_ret rfl rfl trivial ?_
      refine ⟨σ 41, σ 42, σ 43, σ 44, pl_8, fr_8, α 47, α 48, α 49, α 50, z, ?_, rfl⟩
      rw [aFar, if_pos ⟨Int32.not_lt.mp h4.1, Int32.not_lt.mp h4.2⟩, if_pos (by rw [h11]; decide)]
  · skip
    have h4 := bI_f (Classical.not_not.mp h4)
    show aw_W _ _ _ _ (5, [some (.ref 46), some (.int x0), none, none], []) (ae_en σ α z t0 ts)
    refine aw_go 1 rfl ⟨trivial, trivial⟩ ?_
    refine aw_ret rfl rfl trivial ?_
    refine ⟨σ 41, σ 42, σ 43, σ 44, α 43, α 44, α 47, α 48, α 49, α 50, z, ?_, rfl⟩
    rw [aFar, if_neg (fun q => h4 ⟨Int32.not_lt.mpr q.1, Int32.not_lt.mpr q.2⟩)]
theorem lp_mSack {zd : Nat} {n : Nat} {B : ae_B} {mg md mw mc : Int32} {pl fr tk ww wg wf : Nat → Int32} {zq : Int64} {X k : Nat} (hM : mOk B n (σ 27) (σ 29) (σ 33) (α 31) (α 32) (α 33) (α 40) (α 41) (α 42)) (hw : wOk n (α 35)) (hv : vOk n 200 (α 36)) (hs : vOk n 100 (α 37)) (hnl : nOk n (α 34)) (hn : (σ 27) = nI n) (hn10 : n ≤ 10) (hX : X ≤ 100) (h8 : 2 ≤ n) (hk : k + 1 ≤ n - 1) : aw_W P (zd + 5) cd_Model_sack (fun r H => ∃ (mg : Int32) (md : Int32) (mw : Int32) (mc : Int32) (pl : Nat → Int32) (fr : Nat → Int32) (tk : Nat → Int32) (ww : Nat → Int32) (wg : Nat → Int32) (wf : Nat → Int32) (zq : Int64), r = some (.long (aSack B n (α 35) (α 36) (α 37) (σ 28) (sumF (α 34) n) (nI X))) ∧ H = (ae_en (au σ [(41, mg), (42, md), (43, mw), (44, mc)]) (au α [(43, pl), (44, fr), (47, tk), (48, ww), (49, wg), (50, wf)]) zq t0 ts)) (15, [some (.ref 46), some (.int (nI X)), some (.int (nI (gMO (rOp B (α 35) (α 36) (α 37)) (k + 1)))), some (.int (nI (k + 1))), none, none], []) (ae_en (au σ [(41, mg), (42, md), (43, mw), (44, mc)]) (au α [(43, pl), (44, fr), (47, tk), (48, ww), (49, wg), (50, wf)]) zq t0 ts) := by
  have hmo := gMO_lt (rOp B (α 35) (α 36) (α 37)) (k + 1) (by omega)
  refine aw_go 6 rfl ⟨trivial, trivial, trivial, trivial, trivial, trivial, trivial⟩ ?_
  show aw_W _ _ _ _ (if (σ 27) ≤ ((nI (k + 1)) + 1) then 32 else 21, [some (.ref 46), some (.int (nI X)), some (.int (nI (gMO (rOp B (α 35) (α 36) (α 37)) (k + 1)))), some (.int (nI (k + 1))), none, none], []) (ae_en (au σ [(41, mg), (42, md), (43, mw), (44, mc)]) (au α [(43, pl), (44, fr), (47, tk), (48, ww), (49, wg), (50, wf)]) zq t0 ts)
  refine aw_br (c := (σ 27) ≤ ((nI (k + 1)) + 1)) (fun h20 => ?_) (fun h20 => ?_)
  · skip
    have h20 := cI_leT (a := n) (b := (k + 1) + 1) hn (cI_add (a := k + 1) (b := 1) rfl rfl) (by omega) (by omega) h20
    show aw_W _ _ _ _ (32, [some (.ref 46), some (.int (nI X)), some (.int (nI (gMO (rOp B (α 35) (α 36) (α 37)) (k + 1)))), some (.int (nI (k + 1))), none, none], []) (ae_en (au σ [(41, mg), (42, md), (43, mw), (44, mc)]) (au α [(43, pl), (44, fr), (47, tk), (48, ww), (49, wg), (50, wf)]) zq t0 ts)
    have e8 : k + 1 = n - 1 := by omega
    have hG := gMO_lt (rOp B (α 35) (α 36) (α 37)) (n - 1) (by omega)
    rw [e8]
    have eS : aSackG B n (α 35) (α 36) (α 37) = gMO (rOp B (α 35) (α 36) (α 37)) (n - 1) := rfl
    generalize gMO (rOp B (α 35) (α 36) (α 37)) (n - 1) = G at hG eS ⊢
    have hnb : bnd (sumF (α 34) n) 990 := by
      obtain ⟨a, ha, ea⟩ := sumF_b hnl n (Nat.le_refl n)
      exact ⟨a, by omega, ea⟩
    have hbo : bOk B n := hM.2.2.2.2.2.2.1
    have hb1 := rCm_b (dy := (σ 28)) hbo hw hv hs hnb (n - 1) (Nat.le_refl _)
    have hm2 := mM_b (g := G) hs (by omega) hX
    have hb2 := rCm_b (dy := (σ 28)) hbo hw hv (vOk_upd (g := G) hs hm2.2) hnb (n - 1) (Nat.le_refl _)
    refine aw_go 1 rfl ⟨trivial, trivial⟩ ?_
    refine aw_call rfl rfl (ev_Model_comesIn  hM hw) ?_
    rintro _ _ ⟨pl_33, fr_33, rfl, rfl⟩
    show aw_W _ _ _ _ (34, [some (.ref 46), some (.int (nI X)), some (.int (nI G)), some (.int (nI (n - 1))), none, none], [.int (rCm B n (α 35) (α 36) (α 37) (σ 28) (sumF (α 34) n) (n - 1))]) (ae_en (au σ [(41, mg), (42, md), (43, mw), (44, mc)]) (au α [(43, pl_33), (44, fr_33), (47, tk), (48, ww), (49, wg), (50, wf)]) zq t0 ts)
    refine aw_go 14 rfl ⟨trivial, trivial, trivial, trivial, (cI_in (a := G) rfl (by omega) (by decide)), trivial, trivial, trivial, trivial, trivial, trivial, trivial, trivial, trivial, trivial⟩ ?_
    show aw_W _ _ _ _ (48, [some (.ref 46), some (.int (nI X)), some (.int (nI G)), some (.int (rCm B n (α 35) (α 36) (α 37) (σ 28) (sumF (α 34) n) (n - 1))), some (.int (α 37 (nI G).toNatClampNeg)), none], [.int 100, .int 0, .int ((α 37 (nI G).toNatClampNeg) + (nI X)), .int (nI G), .ref 53]) (ae_en (au σ [(41, mg), (42, md), (43, mw), (44, mc)]) (au α [(43, pl_33), (44, fr_33), (47, tk), (48, ww), (49, wg), (50, wf)]) zq t0 ts)
    rw [show (nI G).toNatClampNeg = G from cI_cl (a := G) rfl (by omega)]
    refine aw_callE rfl rfl (ev_Model_held (v := ((α 37 G) + (nI X))) (a := 0) (b := 100)) ?_
    show aw_W _ _ _ _ (49, [some (.ref 46), some (.int (nI X)), some (.int (nI G)), some (.int (rCm B n (α 35) (α 36) (α 37) (σ 28) (sumF (α 34) n) (n - 1))), some (.int (α 37 G)), none], [.int (fHeld ((α 37 G) + (nI X)) 0 100), .int (nI G), .ref 53]) (ae_en (au σ [(41, mg), (42, md), (43, mw), (44, mc)]) (au α [(43, pl_33), (44, fr_33), (47, tk), (48, ww), (49, wg), (50, wf)]) zq t0 ts)
    rw [show fHeld ((α 37 G) + (nI X)) 0 100 = mM (α 37) (nI X) G from hm2.1]
    refine aw_go 2 rfl ⟨(cI_in (a := G) rfl (by omega) (by decide)), trivial, trivial⟩ ?_
    show aw_W _ _ _ _ (51, [some (.ref 46), some (.int (nI X)), some (.int (nI G)), some (.int (rCm B n (α 35) (α 36) (α 37) (σ 28) (sumF (α 34) n) (n - 1))), some (.int (α 37 G)), none], [.ref 46]) (ae_en (au σ [(41, mg), (42, md), (43, mw), (44, mc)]) (au α [(37, upd (α 37) (nI G).toNatClampNeg (mM (α 37) (nI X) G)), (43, pl_33), (44, fr_33), (47, tk), (48, ww), (49, wg), (50, wf)]) zq t0 ts)
    rw [show (nI G).toNatClampNeg = G from cI_cl (a := G) rfl (by omega)]
    refine aw_call rfl rfl (ev_Model_comesIn  hM hw) ?_
    rintro _ _ ⟨pl_51, fr_51, rfl, rfl⟩
    show aw_W _ _ _ _ (52, [some (.ref 46), some (.int (nI X)), some (.int (nI G)), some (.int (rCm B n (α 35) (α 36) (α 37) (σ 28) (sumF (α 34) n) (n - 1))), some (.int (α 37 G)), none], [.int (rCm B n (α 35) (α 36) (upd (α 37) G (mM (α 37) (nI X) G)) (σ 28) (sumF (α 34) n) (n - 1))]) (ae_en (au σ [(41, mg), (42, md), (43, mw), (44, mc)]) (au α [(37, upd (α 37) G (mM (α 37) (nI X) G)), (43, pl_51), (44, fr_51), (47, tk), (48, ww), (49, wg), (50, wf)]) zq t0 ts)
    refine aw_go 11 rfl ⟨trivial, trivial, trivial, trivial, trivial, (cI_in (a := G) rfl (by omega) (by decide)), trivial, trivial, trivial, trivial, trivial, trivial⟩ ?_
    show aw_W _ _ _ _ (63, [some (.ref 46), some (.int (nI X)), some (.int (nI G)), some (.int (rCm B n (α 35) (α 36) (α 37) (σ 28) (sumF (α 34) n) (n - 1))), some (.int (α 37 G)), some (.int (rCm B n (α 35) (α 36) (upd (α 37) G (mM (α 37) (nI X) G)) (σ 28) (sumF (α 34) n) (n - 1)))], [.long (((rCm B n (α 35) (α 36) (α 37) (σ 28) (sumF (α 34) n) (n - 1)).toInt64) - ((rCm B n (α 35) (α 36) (upd (α 37) G (mM (α 37) (nI X) G)) (σ 28) (sumF (α 34) n) (n - 1)).toInt64))]) (ae_en (au σ [(41, mg), (42, md), (43, mw), (44, mc)]) (au α [(37, upd (upd (α 37) G (mM (α 37) (nI X) G)) (nI G).toNatClampNeg (α 37 G)), (43, pl_51), (44, fr_51), (47, tk), (48, ww), (49, wg), (50, wf)]) zq t0 ts)
    rw [show (nI G).toNatClampNeg = G from cI_cl (a := G) rfl (by omega)]
    rw [show upd (upd (α 37) G (mM (α 37) (nI X) G)) G (α 37 G) = (α 37) from by rw [upd_2, upd_same]]
    show aw_W _ _ _ _ (63, [some (.ref 46), some (.int (nI X)), some (.int (nI G)), some (.int (rCm B n (α 35) (α 36) (α 37) (σ 28) (sumF (α 34) n) (n - 1))), some (.int (α 37 G)), some (.int (rCm B n (α 35) (α 36) (upd (α 37) G (mM (α 37) (nI X) G)) (σ 28) (sumF (α 34) n) (n - 1)))], [.long (((rCm B n (α 35) (α 36) (α 37) (σ 28) (sumF (α 34) n) (n - 1)).toInt64) - ((rCm B n (α 35) (α 36) (upd (α 37) G (mM (α 37) (nI X) G)) (σ 28) (sumF (α 34) n) (n - 1)).toInt64))]) (ae_en (au σ [(41, mg), (42, md), (43, mw), (44, mc)]) (au α [(43, pl_51), (44, fr_51), (47, tk), (48, ww), (49, wg), (50, wf)]) zq t0 ts)
    refine aw_ret rfl rfl trivial ?_
    refine ⟨mg, md, mw, mc, pl_51, fr_51, tk, ww, wg, wf, zq, ?_, rfl⟩
    rw [aSack, if_pos ⟨nI_pos' (by omega), nI_le (b := 100) hX (by decide), h8⟩, eS, i2l_sub hb1 hb2 (by omega) (by omega)]
    all_goals rfl
  · skip
    have h20 := cI_leF (a := n) (b := (k + 1) + 1) hn (cI_add (a := k + 1) (b := 1) rfl rfl) (by omega) (by omega) h20
    show aw_W _ _ _ _ (21, [some (.ref 46), some (.int (nI X)), some (.int (nI (gMO (rOp B (α 35) (α 36) (α 37)) (k + 1)))), some (.int (nI (k + 1))), none, none], []) (ae_en (au σ [(41, mg), (42, md), (43, mw), (44, mc)]) (au α [(43, pl), (44, fr), (47, tk), (48, ww), (49, wg), (50, wf)]) zq t0 ts)
    refine aw_go 2 rfl ⟨trivial, trivial, trivial⟩ ?_
    refine aw_callE rfl rfl (ev_Model_openOf (g := (k + 1)) hM hw (by omega)) ?_
    show aw_W _ _ _ _ (24, [some (.ref 46), some (.int (nI X)), some (.int (nI (gMO (rOp B (α 35) (α 36) (α 37)) (k + 1)))), some (.int (nI (k + 1))), none, none], [.int (rOp B (α 35) (α 36) (α 37) (k + 1))]) (ae_en (au σ [(41, mg), (42, md), (43, mw), (44, mc)]) (au α [(43, pl), (44, fr), (47, tk), (48, ww), (49, wg), (50, wf)]) zq t0 ts)
    refine aw_go 2 rfl ⟨trivial, trivial, trivial⟩ ?_
    refine aw_callE rfl rfl (ev_Model_openOf (g := (gMO (rOp B (α 35) (α 36) (α 37)) (k + 1))) hM hw (by omega)) ?_
    show aw_W _ _ _ _ (27, [some (.ref 46), some (.int (nI X)), some (.int (nI (gMO (rOp B (α 35) (α 36) (α 37)) (k + 1)))), some (.int (nI (k + 1))), none, none], [.int (rOp B (α 35) (α 36) (α 37) (gMO (rOp B (α 35) (α 36) (α 37)) (k + 1))), .int (rOp B (α 35) (α 36) (α 37) (k + 1))]) (ae_en (au σ [(41, mg), (42, md), (43, mw), (44, mc)]) (au α [(43, pl), (44, fr), (47, tk), (48, ww), (49, wg), (50, wf)]) zq t0 ts)
    refine aw_go 1 rfl ⟨trivial, trivial⟩ ?_
    refine aw_br (c := (rOp B (α 35) (α 36) (α 37) (k + 1)) ≤ (rOp B (α 35) (α 36) (α 37) (gMO (rOp B (α 35) (α 36) (α 37)) (k + 1)))) (fun h27 => ?_) (fun h27 => ?_)
    · skip
      show aw_W _ _ _ _ (30, [some (.ref 46), some (.int (nI X)), some (.int (nI (gMO (rOp B (α 35) (α 36) (α 37)) (k + 1)))), some (.int (nI (k + 1))), none, none], []) (ae_en (au σ [(41, mg), (42, md), (43, mw), (44, mc)]) (au α [(43, pl), (44, fr), (47, tk), (48, ww), (49, wg), (50, wf)]) zq t0 ts)
      refine aw_go 2 rfl ⟨trivial, trivial, trivial⟩ ?_
      show aw_W _ _ _ _ (15, [some (.ref 46), some (.int (nI X)), some (.int (nI (gMO (rOp B (α 35) (α 36) (α 37)) (k + 1)))), some (.int ((nI (k + 1)) + 1)), none, none], []) (ae_en (au σ [(41, mg), (42, md), (43, mw), (44, mc)]) (au α [(43, pl), (44, fr), (47, tk), (48, ww), (49, wg), (50, wf)]) zq t0 ts)
      rw [show (nI (k + 1)) + 1 = nI ((k + 1) + 1) from (cI_add (a := k + 1) (b := 1) rfl rfl)]
      rw [show nI (gMO (rOp B (α 35) (α 36) (α 37)) (k + 1)) = nI (gMO (rOp B (α 35) (α 36) (α 37)) (k + 1 + 1)) from congrArg nI (show gMO (rOp B (α 35) (α 36) (α 37)) (k + 1 + 1) = _ from by rw [gMO, if_neg (by omega), if_neg (Int32.not_lt.mpr h27)]).symm]
      exact lp_mSack (k := k + 1) hM hw hv hs hnl hn hn10 hX h8 (by omega)
    · skip
      show aw_W _ _ _ _ (28, [some (.ref 46), some (.int (nI X)), some (.int (nI (gMO (rOp B (α 35) (α 36) (α 37)) (k + 1)))), some (.int (nI (k + 1))), none, none], []) (ae_en (au σ [(41, mg), (42, md), (43, mw), (44, mc)]) (au α [(43, pl), (44, fr), (47, tk), (48, ww), (49, wg), (50, wf)]) zq t0 ts)
      refine aw_go 4 rfl ⟨trivial, trivial, trivial, trivial, trivial⟩ ?_
      show aw_W _ _ _ _ (15, [some (.ref 46), some (.int (nI X)), some (.int (nI (k + 1))), some (.int ((nI (k + 1)) + 1)), none, none], []) (ae_en (au σ [(41, mg), (42, md), (43, mw), (44, mc)]) (au α [(43, pl), (44, fr), (47, tk), (48, ww), (49, wg), (50, wf)]) zq t0 ts)
      rw [show (nI (k + 1)) + 1 = nI ((k + 1) + 1) from (cI_add (a := k + 1) (b := 1) rfl rfl)]
      rw [show nI (k + 1) = nI (gMO (rOp B (α 35) (α 36) (α 37)) (k + 1 + 1)) from congrArg nI (show gMO (rOp B (α 35) (α 36) (α 37)) (k + 1 + 1) = _ from by rw [gMO, if_neg (by omega), if_pos (Int32.not_le.mp h27)]).symm]
      exact lp_mSack (k := k + 1) hM hw hv hs hnl hn hn10 hX h8 (by omega)
termination_by n - 1 - k
decreasing_by all_goals omega
theorem ev_Model_sack {n : Nat} {B : ae_B} {x0 : Int32} {zd : Nat} (hM : mOk B n (σ 27) (σ 29) (σ 33) (α 31) (α 32) (α 33) (α 40) (α 41) (α 42)) (hw : wOk n (α 35)) (hv : vOk n 200 (α 36)) (hs : vOk n 100 (α 37)) (hnl : nOk n (α 34)) : aw_X P (zd + 6) 162 [.ref 46, .int x0] (ae_en σ α z t0 ts) (fun r H => ∃ (mg : Int32) (md : Int32) (mw : Int32) (mc : Int32) (pl : Nat → Int32) (fr : Nat → Int32) (tk : Nat → Int32) (ww : Nat → Int32) (wg : Nat → Int32) (wf : Nat → Int32) (zq : Int64), r = some (.long (aSack B n (α 35) (α 36) (α 37) (σ 28) (sumF (α 34) n) x0)) ∧ H = (ae_en (au σ [(41, mg), (42, md), (43, mw), (44, mc)]) (au α [(43, pl), (44, fr), (47, tk), (48, ww), (49, wg), (50, wf)]) zq t0 ts)) := by
  obtain ⟨hn, hn10, hs3, hk0, hk1, hk2, hbo, hru⟩ := id hM
  refine aw_ev (cd := cd_Model_sack) rfl rfl rfl ?_
  show aw_W _ _ _ _ (0, [some (.ref 46), some (.int x0), none, none, none, none], []) (ae_en σ α z t0 ts)
  refine aw_go 3 rfl ⟨trivial, trivial, trivial, trivial⟩ ?_
  refine aw_callE rfl rfl (em_in (v := x0) (a := 0) (b := 100)) ?_
  show aw_W _ _ _ _ (4, [some (.ref 46), some (.int x0), none, none, none, none], [.int (bI (¬ x0 < 0 ∧ ¬ 100 < x0))]) (ae_en σ α z t0 ts)
  refine aw_go 1 rfl ⟨trivial, trivial⟩ ?_
  refine aw_br (c := (bI (¬ x0 < 0 ∧ ¬ 100 < x0)) = 0) (fun h4 => ?_) (fun h4 => ?_)
  · skip
    have h4 := bI_f h4
    show aw_W _ _ _ _ (9, [some (.ref 46), some (.int x0), none, none, none, none], []) (ae_en σ α z t0 ts)
    refine aw_go 1 rfl ⟨trivial, trivial⟩ ?_
    refine aw_ret rfl rfl trivial ?_
    refine ⟨σ 41, σ 42, σ 43, σ 44, α 43, α 44, α 47, α 48, α 49, α 50, z, ?_, rfl⟩
    rw [aSack, if_neg (fun q => h4 ⟨Int32.not_lt.mpr q.1, Int32.not_lt.mpr q.2.1⟩)]
  · skip
    have h4 := bI_t h4
    show aw_W _ _ _ _ (5, [some (.ref 46), some (.int x0), none, none, none, none], []) (ae_en σ α z t0 ts)
    have h4c := h4
    obtain ⟨X, hX, rfl⟩ := nI_of2 (x := x0) (M := 100) (n := 100) rfl (fun q => h4.1 (Int32.lt_of_lt_of_le q (by decide))) (Int32.not_lt.mp h4.2)
    refine aw_go 4 rfl ⟨trivial, trivial, trivial, trivial, trivial⟩ ?_
    show aw_W _ _ _ _ (if (2 : Int32) ≤ (σ 27) then 11 else 9, [some (.ref 46), some (.int (nI X)), none, none, none, none], []) (ae_en σ α z t0 ts)
    refine aw_br (c := (2 : Int32) ≤ (σ 27)) (fun h8 => ?_) (fun h8 => ?_)
    · skip
      have h8 := cI_leT (a := 2) (b := n) rfl hn (by omega) (by omega) h8
      show aw_W _ _ _ _ (11, [some (.ref 46), some (.int (nI X)), none, none, none, none], []) (ae_en σ α z t0 ts)
      refine aw_go 4 rfl ⟨trivial, trivial, trivial, trivial, trivial⟩ ?_
      exact aw_to (lp_mSack (k := 0) (mg := σ 41) (md := σ 42) (mw := σ 43) (mc := σ 44) (pl := α 43) (fr := α 44) (tk := α 47) (ww := α 48) (wg := α 49) (wf := α 50) (zq := z) hM hw hv hs hnl hn hn10 hX h8 (by omega)) rfl rfl
    · skip
      have h8 := cI_leF (a := 2) (b := n) rfl hn (by omega) (by omega) h8
      show aw_W _ _ _ _ (9, [some (.ref 46), some (.int (nI X)), none, none, none, none], []) (ae_en σ α z t0 ts)
      refine aw_go 1 rfl ⟨trivial, trivial⟩ ?_
      refine aw_ret rfl rfl trivial ?_
      refine ⟨σ 41, σ 42, σ 43, σ 44, α 43, α 44, α 47, α 48, α 49, α 50, z, ?_, rfl⟩
      rw [aSack, if_neg (fun q => absurd q.2.2 (by omega))]
end L50
