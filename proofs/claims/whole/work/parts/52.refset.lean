/-! the reference: calls that change a boat -/
section L52
variable {P : ae_P} {σ : Nat → Int32} {α : Nat → Nat → Int32} {z : Int64} {t0 : ae_T} {ts : List ae_T}

theorem ev_Model_plank {n : Nat} {k x m : Int32} {zd : Nat} (hn : (σ 27) = nI n) (hn10 : n ≤ 10) : aw_X P (zd + 2) 114 [.ref 46, .int k, .int x, .int m] (ae_en σ α z t0 ts) (fun r H => r = some (.int ((pPlank n ((α 31), (α 32), (α 33), (α 35), (α 36), (α 38)) k x m).1)) ∧ H = (ae_en (au σ [(27, nI (pPlank n ((α 31), (α 32), (α 33), (α 35), (α 36), (α 38)) k x m).2.1)]) (au α [(31, (pPlank n ((α 31), (α 32), (α 33), (α 35), (α 36), (α 38)) k x m).2.2.1), (32, (pPlank n ((α 31), (α 32), (α 33), (α 35), (α 36), (α 38)) k x m).2.2.2.1), (33, (pPlank n ((α 31), (α 32), (α 33), (α 35), (α 36), (α 38)) k x m).2.2.2.2.1), (35, (pPlank n ((α 31), (α 32), (α 33), (α 35), (α 36), (α 38)) k x m).2.2.2.2.2.1), (36, (pPlank n ((α 31), (α 32), (α 33), (α 35), (α 36), (α 38)) k x m).2.2.2.2.2.2.1), (38, (pPlank n ((α 31), (α 32), (α 33), (α 35), (α 36), (α 38)) k x m).2.2.2.2.2.2.2)]) z t0 ts)) := by
  refine aw_ev (cd := cd_Model_plank) rfl rfl rfl ?_
  show aw_W _ _ _ _ (0, [some (.ref 46), some (.int k), some (.int x), some (.int m)], []) (ae_en σ α z t0 ts)
  refine aw_go 3 rfl ⟨trivial, trivial, trivial, trivial⟩ ?_
  refine aw_callE rfl rfl (em_in (v := k) (a := 0) (b := 5)) ?_
  show aw_W _ _ _ _ (4, [some (.ref 46), some (.int k), some (.int x), some (.int m)], [.int (bI (¬ k < 0 ∧ ¬ 5 < k))]) (ae_en σ α z t0 ts)
  refine aw_go 1 rfl ⟨trivial, trivial⟩ ?_
  refine aw_br (c := (bI (¬ k < 0 ∧ ¬ 5 < k)) = 0) (fun h4 => ?_) (fun h4 => ?_)
  · skip
    have h4 := bI_f h4
    show aw_W _ _ _ _ (29, [some (.ref 46), some (.int k), some (.int x), some (.int m)], []) (ae_en σ α z t0 ts)
    refine aw_go 1 rfl ⟨trivial, trivial⟩ ?_
    refine aw_ret rfl rfl trivial ?_
    rw [pPlank, if_neg (fun q => h4 (okP_2 q).1), ← hn]
    exact ⟨rfl, rfl⟩
  · skip
    have h4 := bI_t h4
    show aw_W _ _ _ _ (5, [some (.ref 46), some (.int k), some (.int x), some (.int m)], []) (ae_en σ α z t0 ts)
    refine aw_go 3 rfl ⟨trivial, trivial, trivial, trivial⟩ ?_
    refine aw_callE rfl rfl (em_in (v := x) (a := 0) (b := 100999)) ?_
    show aw_W _ _ _ _ (9, [some (.ref 46), some (.int k), some (.int x), some (.int m)], [.int (bI (¬ x < 0 ∧ ¬ 100999 < x))]) (ae_en σ α z t0 ts)
    refine aw_go 1 rfl ⟨trivial, trivial⟩ ?_
    refine aw_br (c := (bI (¬ x < 0 ∧ ¬ 100999 < x)) = 0) (fun h9 => ?_) (fun h9 => ?_)
    · skip
      have h9 := bI_f h9
      show aw_W _ _ _ _ (29, [some (.ref 46), some (.int k), some (.int x), some (.int m)], []) (ae_en σ α z t0 ts)
      refine aw_go 1 rfl ⟨trivial, trivial⟩ ?_
      refine aw_ret rfl rfl trivial ?_
      rw [pPlank, if_neg (fun q => h9 (okP_2 q).2.1), ← hn]
      exact ⟨rfl, rfl⟩
    · skip
      have h9 := bI_t h9
      show aw_W _ _ _ _ (10, [some (.ref 46), some (.int k), some (.int x), some (.int m)], []) (ae_en σ α z t0 ts)
      refine aw_go 5 rfl ⟨trivial, trivial, (by decide), trivial, trivial, trivial⟩ ?_
      show aw_W _ _ _ _ (15, [some (.ref 46), some (.int k), some (.int x), some (.int m)], [.int 100, .int 0, .int (x / 1000)]) (ae_en σ α z t0 ts)
      refine aw_callE rfl rfl (em_in (v := (x / 1000)) (a := 0) (b := 100)) ?_
      show aw_W _ _ _ _ (16, [some (.ref 46), some (.int k), some (.int x), some (.int m)], [.int (bI (¬ (x / 1000) < 0 ∧ ¬ 100 < (x / 1000)))]) (ae_en σ α z t0 ts)
      refine aw_go 1 rfl ⟨trivial, trivial⟩ ?_
      refine aw_br (c := (bI (¬ (x / 1000) < 0 ∧ ¬ 100 < (x / 1000))) = 0) (fun h16 => ?_) (fun h16 => ?_)
      · skip
        have h16 := bI_f h16
        show aw_W _ _ _ _ (29, [some (.ref 46), some (.int k), some (.int x), some (.int m)], []) (ae_en σ α z t0 ts)
        refine aw_go 1 rfl ⟨trivial, trivial⟩ ?_
        refine aw_ret rfl rfl trivial ?_
        rw [pPlank, if_neg (fun q => h16 (okP_2 q).2.2.1), ← hn]
        exact ⟨rfl, rfl⟩
      · skip
        have h16 := bI_t h16
        show aw_W _ _ _ _ (17, [some (.ref 46), some (.int k), some (.int x), some (.int m)], []) (ae_en σ α z t0 ts)
        refine aw_go 5 rfl ⟨trivial, trivial, (by decide), trivial, trivial, trivial⟩ ?_
        show aw_W _ _ _ _ (22, [some (.ref 46), some (.int k), some (.int x), some (.int m)], [.int 300, .int 10, .int (x - x / 1000 * 1000)]) (ae_en σ α z t0 ts)
        refine aw_callE rfl rfl (em_in (v := (x - x / 1000 * 1000)) (a := 10) (b := 300)) ?_
        show aw_W _ _ _ _ (23, [some (.ref 46), some (.int k), some (.int x), some (.int m)], [.int (bI (¬ (x - x / 1000 * 1000) < 10 ∧ ¬ 300 < (x - x / 1000 * 1000)))]) (ae_en σ α z t0 ts)
        refine aw_go 1 rfl ⟨trivial, trivial⟩ ?_
        refine aw_br (c := (bI (¬ (x - x / 1000 * 1000) < 10 ∧ ¬ 300 < (x - x / 1000 * 1000))) = 0) (fun h23 => ?_) (fun h23 => ?_)
        · skip
          have h23 := bI_f h23
          show aw_W _ _ _ _ (29, [some (.ref 46), some (.int k), some (.int x), some (.int m)], []) (ae_en σ α z t0 ts)
          refine aw_go 1 rfl ⟨trivial, trivial⟩ ?_
          refine aw_ret rfl rfl trivial ?_
          rw [pPlank, if_neg (fun q => h23 (okP_2 q).2.2.2.1), ← hn]
          exact ⟨rfl, rfl⟩
        · skip
          have h23 := bI_t h23
          show aw_W _ _ _ _ (24, [some (.ref 46), some (.int k), some (.int x), some (.int m)], []) (ae_en σ α z t0 ts)
          refine aw_go 3 rfl ⟨trivial, trivial, trivial, trivial⟩ ?_
          refine aw_callE rfl rfl (em_in (v := m) (a := 0) (b := 2009)) ?_
          show aw_W _ _ _ _ (28, [some (.ref 46), some (.int k), some (.int x), some (.int m)], [.int (bI (¬ m < 0 ∧ ¬ 2009 < m))]) (ae_en σ α z t0 ts)
          refine aw_go 1 rfl ⟨trivial, trivial⟩ ?_
          refine aw_br (c := ¬ (bI (¬ m < 0 ∧ ¬ 2009 < m)) = 0) (fun h28 => ?_) (fun h28 => ?_)
          · skip
            have h28 := bI_t h28
            show aw_W _ _ _ _ (31, [some (.ref 46), some (.int k), some (.int x), some (.int m)], []) (ae_en σ α z t0 ts)
            refine aw_go 4 rfl ⟨trivial, trivial, trivial, trivial, trivial⟩ ?_
            show aw_W _ _ _ _ (if ¬ (σ 27) = 10 then 37 else 35, [some (.ref 46), some (.int k), some (.int x), some (.int m)], []) (ae_en σ α z t0 ts)
            refine aw_br (c := ¬ (σ 27) = 10) (fun h34 => ?_) (fun h34 => ?_)
            · skip
              have h34 := cI_eqF (a := n) (b := 10) hn rfl (by omega) (by omega) h34
              show aw_W _ _ _ _ (37, [some (.ref 46), some (.int k), some (.int x), some (.int m)], []) (ae_en σ α z t0 ts)
              refine aw_go 33 rfl ⟨trivial, trivial, trivial, trivial, trivial, (cI_in (a := n) hn (by omega) (by decide)), trivial, trivial, trivial, trivial, trivial, trivial, (by decide), (cI_in (a := n) hn (by omega) (by decide)), trivial, trivial, trivial, trivial, trivial, trivial, (by decide), (cI_in (a := n) hn (by omega) (by decide)), trivial, trivial, trivial, trivial, trivial, trivial, (by decide), (cI_in (a := n) hn (by omega) (by decide)), trivial, trivial, trivial, trivial⟩ ?_
              show aw_W _ _ _ _ (if (σ 27) ≤ 0 then 88 else 70, [some (.ref 46), some (.int k), some (.int x), some (.int m)], []) (ae_en σ (au α [(31, upd (α 31) (σ 27).toNatClampNeg k), (32, upd (α 32) (σ 27).toNatClampNeg (x - x / 1000 * 1000)), (33, upd (α 33) (σ 27).toNatClampNeg (m - m / 10 * 10)), (35, upd (α 35) (σ 27).toNatClampNeg (x / 1000))]) z t0 ts)
              rw [show (σ 27).toNatClampNeg = n from cI_cl (a := n) hn (by omega)]
              refine aw_br (c := (σ 27) ≤ 0) (fun h69 => ?_) (fun h69 => ?_)
              · skip
                have h69 := cI_leT (a := n) (b := 0) hn rfl (by omega) (by omega) h69
                show aw_W _ _ _ _ (88, [some (.ref 46), some (.int k), some (.int x), some (.int m)], []) (ae_en σ (au α [(31, upd (α 31) n k), (32, upd (α 32) n (x - x / 1000 * 1000)), (33, upd (α 33) n (m - m / 10 * 10)), (35, upd (α 35) n (x / 1000))]) z t0 ts)
                refine aw_go 6 rfl ⟨trivial, trivial, trivial, trivial, trivial, trivial, trivial⟩ ?_
                show aw_W _ _ _ _ (94, [some (.ref 46), some (.int k), some (.int x), some (.int m)], []) (ae_en (au σ [(27, (σ 27) + 1)]) (au α [(31, upd (α 31) n k), (32, upd (α 32) n (x - x / 1000 * 1000)), (33, upd (α 33) n (m - m / 10 * 10)), (35, upd (α 35) n (x / 1000))]) z t0 ts)
                rw [show (σ 27) + 1 = nI (n + 1) from cI_add hn rfl]
                refine aw_go 4 rfl ⟨trivial, trivial, trivial, trivial, trivial⟩ ?_
                show aw_W _ _ _ _ (98, [some (.ref 46), some (.int k), some (.int x), some (.int m)], [.int ((nI (n + 1)) - 1)]) (ae_en (au σ [(27, nI (n + 1))]) (au α [(31, upd (α 31) n k), (32, upd (α 32) n (x - x / 1000 * 1000)), (33, upd (α 33) n (m - m / 10 * 10)), (35, upd (α 35) n (x / 1000))]) z t0 ts)
                rw [show (nI (n + 1)) - 1 = nI ((n + 1) - 1) from (cI_sub (a := n + 1) (b := 1) rfl rfl (by omega))]
                refine aw_ret rfl rfl trivial ?_
                rw [pPlank, if_pos (okP_m h4 h9 h16 h23 h28), pApp, if_neg h34, if_pos (show n = 0 by omega), if_pos (show n = 0 by omega)]
                exact ⟨rfl, rfl⟩
              · skip
                have h69 := cI_leF (a := n) (b := 0) hn rfl (by omega) (by omega) h69
                show aw_W _ _ _ _ (70, [some (.ref 46), some (.int k), some (.int x), some (.int m)], []) (ae_en σ (au α [(31, upd (α 31) n k), (32, upd (α 32) n (x - x / 1000 * 1000)), (33, upd (α 33) n (m - m / 10 * 10)), (35, upd (α 35) n (x / 1000))]) z t0 ts)
                refine aw_go 24 rfl ⟨trivial, trivial, trivial, trivial, trivial, trivial, trivial, trivial, (by decide), (cI_in (a := n - 1) (cI_sub (a := n) (b := 1) hn rfl (by omega)) (by omega) (by decide)), trivial, trivial, trivial, trivial, trivial, trivial, trivial, (cI_in (a := n - 1) (cI_sub (a := n) (b := 1) hn rfl (by omega)) (by omega) (by decide)), trivial, trivial, trivial, trivial, trivial, trivial, trivial⟩ ?_
                show aw_W _ _ _ _ (94, [some (.ref 46), some (.int k), some (.int x), some (.int m)], []) (ae_en (au σ [(27, (σ 27) + 1)]) (au α [(31, upd (α 31) n k), (32, upd (α 32) n (x - x / 1000 * 1000)), (33, upd (α 33) n (m - m / 10 * 10)), (35, upd (α 35) n (x / 1000)), (36, upd (α 36) ((σ 27) - 1).toNatClampNeg (m / 10)), (38, upd (α 38) ((σ 27) - 1).toNatClampNeg 1)]) z t0 ts)
                rw [show ((σ 27) - 1).toNatClampNeg = n - 1 from cI_cl (a := n - 1) (cI_sub (a := n) (b := 1) hn rfl (by omega)) (by omega)]
                rw [show (σ 27) + 1 = nI (n + 1) from cI_add hn rfl]
                refine aw_go 4 rfl ⟨trivial, trivial, trivial, trivial, trivial⟩ ?_
                show aw_W _ _ _ _ (98, [some (.ref 46), some (.int k), some (.int x), some (.int m)], [.int ((nI (n + 1)) - 1)]) (ae_en (au σ [(27, nI (n + 1))]) (au α [(31, upd (α 31) n k), (32, upd (α 32) n (x - x / 1000 * 1000)), (33, upd (α 33) n (m - m / 10 * 10)), (35, upd (α 35) n (x / 1000)), (36, upd (α 36) (n - 1) (m / 10)), (38, upd (α 38) (n - 1) 1)]) z t0 ts)
                rw [show (nI (n + 1)) - 1 = nI ((n + 1) - 1) from (cI_sub (a := n + 1) (b := 1) rfl rfl (by omega))]
                refine aw_ret rfl rfl trivial ?_
                rw [pPlank, if_pos (okP_m h4 h9 h16 h23 h28), pApp, if_neg h34, if_neg (show ¬ n = 0 by omega), if_neg (show ¬ n = 0 by omega)]
                exact ⟨rfl, rfl⟩
            · skip
              have h34 := Classical.not_not.mp h34
              have h34 := cI_eqT (a := n) (b := 10) hn rfl (by omega) (by omega) h34
              show aw_W _ _ _ _ (35, [some (.ref 46), some (.int k), some (.int x), some (.int m)], []) (ae_en σ α z t0 ts)
              refine aw_go 1 rfl ⟨trivial, trivial⟩ ?_
              refine aw_ret rfl rfl trivial ?_
              rw [pPlank, if_pos (okP_m h4 h9 h16 h23 h28), pApp, if_pos h34, ← hn]
              exact ⟨rfl, rfl⟩
          · skip
            have h28 := bI_f (Classical.not_not.mp h28)
            show aw_W _ _ _ _ (29, [some (.ref 46), some (.int k), some (.int x), some (.int m)], []) (ae_en σ α z t0 ts)
            refine aw_go 1 rfl ⟨trivial, trivial⟩ ?_
            refine aw_ret rfl rfl trivial ?_
            rw [pPlank, if_neg (fun q => h28 (okP_2 q).2.2.2.2), ← hn]
            exact ⟨rfl, rfl⟩
theorem ev_Model_set {n : Nat} {what o v : Int32} {zd : Nat} (hn : (σ 27) = nI n) (hn10 : n ≤ 10) : aw_X P (zd + 3) 115 [.ref 46, .int what, .int o, .int v] (ae_en σ α z t0 ts) (fun r H => r = some (.int ((pSet n (((α 35), (α 34), (α 36), (α 37), (α 38)), (σ 29), (σ 30)) what o v).1)) ∧ H = (ae_en (au σ [(29, (pSet n (((α 35), (α 34), (α 36), (α 37), (α 38)), (σ 29), (σ 30)) what o v).2.2.1), (30, (pSet n (((α 35), (α 34), (α 36), (α 37), (α 38)), (σ 29), (σ 30)) what o v).2.2.2)]) (au α [(34, (pSet n (((α 35), (α 34), (α 36), (α 37), (α 38)), (σ 29), (σ 30)) what o v).2.1.2.1), (35, (pSet n (((α 35), (α 34), (α 36), (α 37), (α 38)), (σ 29), (σ 30)) what o v).2.1.1), (36, (pSet n (((α 35), (α 34), (α 36), (α 37), (α 38)), (σ 29), (σ 30)) what o v).2.1.2.2.1), (37, (pSet n (((α 35), (α 34), (α 36), (α 37), (α 38)), (σ 29), (σ 30)) what o v).2.1.2.2.2.1), (38, (pSet n (((α 35), (α 34), (α 36), (α 37), (α 38)), (σ 29), (σ 30)) what o v).2.1.2.2.2.2)]) z t0 ts)) := by
  refine aw_ev (cd := cd_Model_set) rfl rfl rfl ?_
  show aw_W _ _ _ _ (0, [some (.ref 46), some (.int what), some (.int o), some (.int v), none], []) (ae_en σ α z t0 ts)
  refine aw_go 2 rfl ⟨trivial, trivial, trivial⟩ ?_
  refine aw_sw (x := what) (fun h1_0 => ?_) (fun h1_0 => ?_)
  · skip
    show aw_W _ _ _ _ (2, [some (.ref 46), some (.int what), some (.int o), some (.int v), none], []) (ae_en σ α z t0 ts)
    refine aw_go 2 rfl ⟨trivial, trivial, trivial⟩ ?_
    refine aw_callE rfl rfl (em_isPlank (p := o) hn hn10) ?_
    show aw_W _ _ _ _ (5, [some (.ref 46), some (.int what), some (.int o), some (.int v), none], [.int (bI (iP n o))]) (ae_en σ α z t0 ts)
    refine aw_go 1 rfl ⟨trivial, trivial⟩ ?_
    refine aw_br (c := (bI (iP n o)) = 0) (fun h5 => ?_) (fun h5 => ?_)
    · skip
      have h5 := bI_f h5
      show aw_W _ _ _ _ (11, [some (.ref 46), some (.int what), some (.int o), some (.int v), none], []) (ae_en σ α z t0 ts)
      refine aw_go 1 rfl ⟨trivial, trivial⟩ ?_
      refine aw_ret rfl rfl trivial ?_
      rw [pSet, if_pos h1_0, pCh, if_neg (fun q => h5 q.1)]
      exact ⟨rfl, rfl⟩
    · skip
      have h5 := bI_t h5
      show aw_W _ _ _ _ (6, [some (.ref 46), some (.int what), some (.int o), some (.int v), none], []) (ae_en σ α z t0 ts)
      refine aw_go 3 rfl ⟨trivial, trivial, trivial, trivial⟩ ?_
      refine aw_callE rfl rfl (em_in (v := v) (a := 0) (b := 100)) ?_
      show aw_W _ _ _ _ (10, [some (.ref 46), some (.int what), some (.int o), some (.int v), none], [.int (bI (¬ v < 0 ∧ ¬ 100 < v))]) (ae_en σ α z t0 ts)
      refine aw_go 1 rfl ⟨trivial, trivial⟩ ?_
      refine aw_br (c := ¬ (bI (¬ v < 0 ∧ ¬ 100 < v)) = 0) (fun h10 => ?_) (fun h10 => ?_)
      · skip
        have h10 := bI_t h10
        show aw_W _ _ _ _ (13, [some (.ref 46), some (.int what), some (.int o), some (.int v), none], []) (ae_en σ α z t0 ts)
        obtain ⟨j, hj, rfl⟩ := iP_of h5 (by omega)
        refine aw_go 11 rfl ⟨trivial, trivial, trivial, (cI_in (a := j) rfl (by omega) (by decide)), trivial, trivial, trivial, trivial, trivial, (cI_in (a := j) rfl (by omega) (by decide)), trivial, trivial⟩ ?_
        show aw_W _ _ _ _ (24, [some (.ref 46), some (.int what), some (.int (nI j)), some (.int v), some (.int (α 35 (nI j).toNatClampNeg))], [.int (α 35 (nI j).toNatClampNeg)]) (ae_en σ (au α [(35, upd (α 35) (nI j).toNatClampNeg v)]) z t0 ts)
        rw [show (nI j).toNatClampNeg = j from cI_cl (a := j) rfl (by omega)]
        refine aw_ret rfl rfl trivial ?_
        rw [pSet, if_pos h1_0, pCh, if_pos ⟨iP_nI hj (by omega), h10⟩, nI_clamp (by omega)]
        exact ⟨rfl, rfl⟩
      · skip
        have h10 := bI_f (Classical.not_not.mp h10)
        show aw_W _ _ _ _ (11, [some (.ref 46), some (.int what), some (.int o), some (.int v), none], []) (ae_en σ α z t0 ts)
        refine aw_go 1 rfl ⟨trivial, trivial⟩ ?_
        refine aw_ret rfl rfl trivial ?_
        rw [pSet, if_pos h1_0, pCh, if_neg (fun q => h10 q.2)]
        exact ⟨rfl, rfl⟩
  refine aw_sw (x := what) (fun h1_1 => ?_) (fun h1_1 => ?_)
  · skip
    show aw_W _ _ _ _ (25, [some (.ref 46), some (.int what), some (.int o), some (.int v), none], []) (ae_en σ α z t0 ts)
    refine aw_go 2 rfl ⟨trivial, trivial, trivial⟩ ?_
    refine aw_callE rfl rfl (em_isPlank (p := o) hn hn10) ?_
    show aw_W _ _ _ _ (28, [some (.ref 46), some (.int what), some (.int o), some (.int v), none], [.int (bI (iP n o))]) (ae_en σ α z t0 ts)
    refine aw_go 1 rfl ⟨trivial, trivial⟩ ?_
    refine aw_br (c := (bI (iP n o)) = 0) (fun h28 => ?_) (fun h28 => ?_)
    · skip
      have h28 := bI_f h28
      show aw_W _ _ _ _ (34, [some (.ref 46), some (.int what), some (.int o), some (.int v), none], []) (ae_en σ α z t0 ts)
      refine aw_go 1 rfl ⟨trivial, trivial⟩ ?_
      refine aw_ret rfl rfl trivial ?_
      rw [pSet, if_neg h1_0, if_pos h1_1, pCh, if_neg (fun q => h28 q.1)]
      exact ⟨rfl, rfl⟩
    · skip
      have h28 := bI_t h28
      show aw_W _ _ _ _ (29, [some (.ref 46), some (.int what), some (.int o), some (.int v), none], []) (ae_en σ α z t0 ts)
      refine aw_go 3 rfl ⟨trivial, trivial, trivial, trivial⟩ ?_
      refine aw_callE rfl rfl (em_in (v := v) (a := 0) (b := 99)) ?_
      show aw_W _ _ _ _ (33, [some (.ref 46), some (.int what), some (.int o), some (.int v), none], [.int (bI (¬ v < 0 ∧ ¬ 99 < v))]) (ae_en σ α z t0 ts)
      refine aw_go 1 rfl ⟨trivial, trivial⟩ ?_
      refine aw_br (c := ¬ (bI (¬ v < 0 ∧ ¬ 99 < v)) = 0) (fun h33 => ?_) (fun h33 => ?_)
      · skip
        have h33 := bI_t h33
        show aw_W _ _ _ _ (36, [some (.ref 46), some (.int what), some (.int o), some (.int v), none], []) (ae_en σ α z t0 ts)
        obtain ⟨j, hj, rfl⟩ := iP_of h28 (by omega)
        refine aw_go 11 rfl ⟨trivial, trivial, trivial, (cI_in (a := j) rfl (by omega) (by decide)), trivial, trivial, trivial, trivial, trivial, (cI_in (a := j) rfl (by omega) (by decide)), trivial, trivial⟩ ?_
        show aw_W _ _ _ _ (47, [some (.ref 46), some (.int what), some (.int (nI j)), some (.int v), some (.int (α 34 (nI j).toNatClampNeg))], [.int (α 34 (nI j).toNatClampNeg)]) (ae_en σ (au α [(34, upd (α 34) (nI j).toNatClampNeg v)]) z t0 ts)
        rw [show (nI j).toNatClampNeg = j from cI_cl (a := j) rfl (by omega)]
        refine aw_ret rfl rfl trivial ?_
        rw [pSet, if_neg h1_0, if_pos h1_1, pCh, if_pos ⟨iP_nI hj (by omega), h33⟩, nI_clamp (by omega)]
        exact ⟨rfl, rfl⟩
      · skip
        have h33 := bI_f (Classical.not_not.mp h33)
        show aw_W _ _ _ _ (34, [some (.ref 46), some (.int what), some (.int o), some (.int v), none], []) (ae_en σ α z t0 ts)
        refine aw_go 1 rfl ⟨trivial, trivial⟩ ?_
        refine aw_ret rfl rfl trivial ?_
        rw [pSet, if_neg h1_0, if_pos h1_1, pCh, if_neg (fun q => h33 q.2)]
        exact ⟨rfl, rfl⟩
  refine aw_sw (x := what) (fun h1_2 => ?_) (fun h1_2 => ?_)
  · skip
    show aw_W _ _ _ _ (48, [some (.ref 46), some (.int what), some (.int o), some (.int v), none], []) (ae_en σ α z t0 ts)
    refine aw_go 2 rfl ⟨trivial, trivial, trivial⟩ ?_
    refine aw_callE rfl rfl (em_isGap (p := o) hn hn10) ?_
    show aw_W _ _ _ _ (51, [some (.ref 46), some (.int what), some (.int o), some (.int v), none], [.int (bI (iP (n - 1) o))]) (ae_en σ α z t0 ts)
    refine aw_go 1 rfl ⟨trivial, trivial⟩ ?_
    refine aw_br (c := (bI (iP (n - 1) o)) = 0) (fun h51 => ?_) (fun h51 => ?_)
    · skip
      have h51 := bI_f h51
      show aw_W _ _ _ _ (57, [some (.ref 46), some (.int what), some (.int o), some (.int v), none], []) (ae_en σ α z t0 ts)
      refine aw_go 1 rfl ⟨trivial, trivial⟩ ?_
      refine aw_ret rfl rfl trivial ?_
      rw [pSet, if_neg h1_0, if_neg h1_1, if_pos h1_2, pCh, if_neg (fun q => h51 q.1)]
      exact ⟨rfl, rfl⟩
    · skip
      have h51 := bI_t h51
      show aw_W _ _ _ _ (52, [some (.ref 46), some (.int what), some (.int o), some (.int v), none], []) (ae_en σ α z t0 ts)
      refine aw_go 3 rfl ⟨trivial, trivial, trivial, trivial⟩ ?_
      refine aw_callE rfl rfl (em_in (v := v) (a := 0) (b := 200)) ?_
      show aw_W _ _ _ _ (56, [some (.ref 46), some (.int what), some (.int o), some (.int v), none], [.int (bI (¬ v < 0 ∧ ¬ 200 < v))]) (ae_en σ α z t0 ts)
      refine aw_go 1 rfl ⟨trivial, trivial⟩ ?_
      refine aw_br (c := ¬ (bI (¬ v < 0 ∧ ¬ 200 < v)) = 0) (fun h56 => ?_) (fun h56 => ?_)
      · skip
        have h56 := bI_t h56
        show aw_W _ _ _ _ (59, [some (.ref 46), some (.int what), some (.int o), some (.int v), none], []) (ae_en σ α z t0 ts)
        obtain ⟨j, hj, rfl⟩ := iP_of h51 (by omega)
        refine aw_go 11 rfl ⟨trivial, trivial, trivial, (cI_in (a := j) rfl (by omega) (by decide)), trivial, trivial, trivial, trivial, trivial, (cI_in (a := j) rfl (by omega) (by decide)), trivial, trivial⟩ ?_
        show aw_W _ _ _ _ (70, [some (.ref 46), some (.int what), some (.int (nI j)), some (.int v), some (.int (α 36 (nI j).toNatClampNeg))], [.int (α 36 (nI j).toNatClampNeg)]) (ae_en σ (au α [(36, upd (α 36) (nI j).toNatClampNeg v)]) z t0 ts)
        rw [show (nI j).toNatClampNeg = j from cI_cl (a := j) rfl (by omega)]
        refine aw_ret rfl rfl trivial ?_
        rw [pSet, if_neg h1_0, if_neg h1_1, if_pos h1_2, pCh, if_pos ⟨iP_nI hj (by omega), h56⟩, nI_clamp (by omega)]
        exact ⟨rfl, rfl⟩
      · skip
        have h56 := bI_f (Classical.not_not.mp h56)
        show aw_W _ _ _ _ (57, [some (.ref 46), some (.int what), some (.int o), some (.int v), none], []) (ae_en σ α z t0 ts)
        refine aw_go 1 rfl ⟨trivial, trivial⟩ ?_
        refine aw_ret rfl rfl trivial ?_
        rw [pSet, if_neg h1_0, if_neg h1_1, if_pos h1_2, pCh, if_neg (fun q => h56 q.2)]
        exact ⟨rfl, rfl⟩
  refine aw_sw (x := what) (fun h1_3 => ?_) (fun h1_3 => ?_)
  · skip
    show aw_W _ _ _ _ (71, [some (.ref 46), some (.int what), some (.int o), some (.int v), none], []) (ae_en σ α z t0 ts)
    refine aw_go 2 rfl ⟨trivial, trivial, trivial⟩ ?_
    refine aw_callE rfl rfl (em_isGap (p := o) hn hn10) ?_
    show aw_W _ _ _ _ (74, [some (.ref 46), some (.int what), some (.int o), some (.int v), none], [.int (bI (iP (n - 1) o))]) (ae_en σ α z t0 ts)
    refine aw_go 1 rfl ⟨trivial, trivial⟩ ?_
    refine aw_br (c := (bI (iP (n - 1) o)) = 0) (fun h74 => ?_) (fun h74 => ?_)
    · skip
      have h74 := bI_f h74
      show aw_W _ _ _ _ (80, [some (.ref 46), some (.int what), some (.int o), some (.int v), none], []) (ae_en σ α z t0 ts)
      refine aw_go 1 rfl ⟨trivial, trivial⟩ ?_
      refine aw_ret rfl rfl trivial ?_
      rw [pSet, if_neg h1_0, if_neg h1_1, if_neg h1_2, if_pos h1_3, pCh, if_neg (fun q => h74 q.1)]
      exact ⟨rfl, rfl⟩
    · skip
      have h74 := bI_t h74
      show aw_W _ _ _ _ (75, [some (.ref 46), some (.int what), some (.int o), some (.int v), none], []) (ae_en σ α z t0 ts)
      refine aw_go 3 rfl ⟨trivial, trivial, trivial, trivial⟩ ?_
      refine aw_callE rfl rfl (em_in (v := v) (a := 0) (b := 100)) ?_
      show aw_W _ _ _ _ (79, [some (.ref 46), some (.int what), some (.int o), some (.int v), none], [.int (bI (¬ v < 0 ∧ ¬ 100 < v))]) (ae_en σ α z t0 ts)
      refine aw_go 1 rfl ⟨trivial, trivial⟩ ?_
      refine aw_br (c := ¬ (bI (¬ v < 0 ∧ ¬ 100 < v)) = 0) (fun h79 => ?_) (fun h79 => ?_)
      · skip
        have h79 := bI_t h79
        show aw_W _ _ _ _ (82, [some (.ref 46), some (.int what), some (.int o), some (.int v), none], []) (ae_en σ α z t0 ts)
        obtain ⟨j, hj, rfl⟩ := iP_of h74 (by omega)
        refine aw_go 11 rfl ⟨trivial, trivial, trivial, (cI_in (a := j) rfl (by omega) (by decide)), trivial, trivial, trivial, trivial, trivial, (cI_in (a := j) rfl (by omega) (by decide)), trivial, trivial⟩ ?_
        show aw_W _ _ _ _ (93, [some (.ref 46), some (.int what), some (.int (nI j)), some (.int v), some (.int (α 37 (nI j).toNatClampNeg))], [.int (α 37 (nI j).toNatClampNeg)]) (ae_en σ (au α [(37, upd (α 37) (nI j).toNatClampNeg v)]) z t0 ts)
        rw [show (nI j).toNatClampNeg = j from cI_cl (a := j) rfl (by omega)]
        refine aw_ret rfl rfl trivial ?_
        rw [pSet, if_neg h1_0, if_neg h1_1, if_neg h1_2, if_pos h1_3, pCh, if_pos ⟨iP_nI hj (by omega), h79⟩, nI_clamp (by omega)]
        exact ⟨rfl, rfl⟩
      · skip
        have h79 := bI_f (Classical.not_not.mp h79)
        show aw_W _ _ _ _ (80, [some (.ref 46), some (.int what), some (.int o), some (.int v), none], []) (ae_en σ α z t0 ts)
        refine aw_go 1 rfl ⟨trivial, trivial⟩ ?_
        refine aw_ret rfl rfl trivial ?_
        rw [pSet, if_neg h1_0, if_neg h1_1, if_neg h1_2, if_pos h1_3, pCh, if_neg (fun q => h79 q.2)]
        exact ⟨rfl, rfl⟩
  refine aw_sw (x := what) (fun h1_4 => ?_) (fun h1_4 => ?_)
  · skip
    show aw_W _ _ _ _ (94, [some (.ref 46), some (.int what), some (.int o), some (.int v), none], []) (ae_en σ α z t0 ts)
    refine aw_go 2 rfl ⟨trivial, trivial, trivial⟩ ?_
    refine aw_callE rfl rfl (em_isGap (p := o) hn hn10) ?_
    show aw_W _ _ _ _ (97, [some (.ref 46), some (.int what), some (.int o), some (.int v), none], [.int (bI (iP (n - 1) o))]) (ae_en σ α z t0 ts)
    refine aw_go 1 rfl ⟨trivial, trivial⟩ ?_
    refine aw_br (c := (bI (iP (n - 1) o)) = 0) (fun h97 => ?_) (fun h97 => ?_)
    · skip
      have h97 := bI_f h97
      show aw_W _ _ _ _ (103, [some (.ref 46), some (.int what), some (.int o), some (.int v), none], []) (ae_en σ α z t0 ts)
      refine aw_go 1 rfl ⟨trivial, trivial⟩ ?_
      refine aw_ret rfl rfl trivial ?_
      rw [pSet, if_neg h1_0, if_neg h1_1, if_neg h1_2, if_neg h1_3, if_pos h1_4, pCh, if_neg (fun q => h97 q.1)]
      exact ⟨rfl, rfl⟩
    · skip
      have h97 := bI_t h97
      show aw_W _ _ _ _ (98, [some (.ref 46), some (.int what), some (.int o), some (.int v), none], []) (ae_en σ α z t0 ts)
      refine aw_go 3 rfl ⟨trivial, trivial, trivial, trivial⟩ ?_
      refine aw_callE rfl rfl (em_in (v := v) (a := 0) (b := 1)) ?_
      show aw_W _ _ _ _ (102, [some (.ref 46), some (.int what), some (.int o), some (.int v), none], [.int (bI (¬ v < 0 ∧ ¬ 1 < v))]) (ae_en σ α z t0 ts)
      refine aw_go 1 rfl ⟨trivial, trivial⟩ ?_
      refine aw_br (c := ¬ (bI (¬ v < 0 ∧ ¬ 1 < v)) = 0) (fun h102 => ?_) (fun h102 => ?_)
      · skip
        have h102 := bI_t h102
        show aw_W _ _ _ _ (105, [some (.ref 46), some (.int what), some (.int o), some (.int v), none], []) (ae_en σ α z t0 ts)
        obtain ⟨j, hj, rfl⟩ := iP_of h97 (by omega)
        refine aw_go 11 rfl ⟨trivial, trivial, trivial, (cI_in (a := j) rfl (by omega) (by decide)), trivial, trivial, trivial, trivial, trivial, (cI_in (a := j) rfl (by omega) (by decide)), trivial, trivial⟩ ?_
        show aw_W _ _ _ _ (116, [some (.ref 46), some (.int what), some (.int (nI j)), some (.int v), some (.int (α 38 (nI j).toNatClampNeg))], [.int (α 38 (nI j).toNatClampNeg)]) (ae_en σ (au α [(38, upd (α 38) (nI j).toNatClampNeg v)]) z t0 ts)
        rw [show (nI j).toNatClampNeg = j from cI_cl (a := j) rfl (by omega)]
        refine aw_ret rfl rfl trivial ?_
        rw [pSet, if_neg h1_0, if_neg h1_1, if_neg h1_2, if_neg h1_3, if_pos h1_4, pCh, if_pos ⟨iP_nI hj (by omega), h102⟩, nI_clamp (by omega)]
        exact ⟨rfl, rfl⟩
      · skip
        have h102 := bI_f (Classical.not_not.mp h102)
        show aw_W _ _ _ _ (103, [some (.ref 46), some (.int what), some (.int o), some (.int v), none], []) (ae_en σ α z t0 ts)
        refine aw_go 1 rfl ⟨trivial, trivial⟩ ?_
        refine aw_ret rfl rfl trivial ?_
        rw [pSet, if_neg h1_0, if_neg h1_1, if_neg h1_2, if_neg h1_3, if_pos h1_4, pCh, if_neg (fun q => h102 q.2)]
        exact ⟨rfl, rfl⟩
  refine aw_sw (x := what) (fun h1_5 => ?_) (fun h1_5 => ?_)
  · skip
    show aw_W _ _ _ _ (117, [some (.ref 46), some (.int what), some (.int o), some (.int v), none], []) (ae_en σ α z t0 ts)
    refine aw_go 3 rfl ⟨trivial, trivial, trivial, trivial⟩ ?_
    refine aw_callE rfl rfl (em_in (v := v) (a := 0) (b := 9)) ?_
    show aw_W _ _ _ _ (121, [some (.ref 46), some (.int what), some (.int o), some (.int v), none], [.int (bI (¬ v < 0 ∧ ¬ 9 < v))]) (ae_en σ α z t0 ts)
    refine aw_go 1 rfl ⟨trivial, trivial⟩ ?_
    refine aw_br (c := ¬ (bI (¬ v < 0 ∧ ¬ 9 < v)) = 0) (fun h121 => ?_) (fun h121 => ?_)
    · skip
      have h121 := bI_t h121
      show aw_W _ _ _ _ (124, [some (.ref 46), some (.int what), some (.int o), some (.int v), none], []) (ae_en σ α z t0 ts)
      refine aw_go 7 rfl ⟨trivial, trivial, trivial, trivial, trivial, trivial, trivial, trivial⟩ ?_
      show aw_W _ _ _ _ (131, [some (.ref 46), some (.int what), some (.int o), some (.int v), some (.int (σ 29))], [.int (σ 29)]) (ae_en (au σ [(29, v)]) α z t0 ts)
      refine aw_ret rfl rfl trivial ?_
      rw [pSet, if_neg h1_0, if_neg h1_1, if_neg h1_2, if_neg h1_3, if_neg h1_4, if_pos h1_5, pC1, if_pos h121]
      exact ⟨rfl, rfl⟩
    · skip
      have h121 := bI_f (Classical.not_not.mp h121)
      show aw_W _ _ _ _ (122, [some (.ref 46), some (.int what), some (.int o), some (.int v), none], []) (ae_en σ α z t0 ts)
      refine aw_go 1 rfl ⟨trivial, trivial⟩ ?_
      refine aw_ret rfl rfl trivial ?_
      rw [pSet, if_neg h1_0, if_neg h1_1, if_neg h1_2, if_neg h1_3, if_neg h1_4, if_pos h1_5, pC1, if_neg h121]
      exact ⟨rfl, rfl⟩
  refine aw_sw (x := what) (fun h1_6 => ?_) (fun h1_6 => ?_)
  · skip
    show aw_W _ _ _ _ (132, [some (.ref 46), some (.int what), some (.int o), some (.int v), none], []) (ae_en σ α z t0 ts)
    refine aw_go 3 rfl ⟨trivial, trivial, trivial, trivial⟩ ?_
    refine aw_callE rfl rfl (em_in (v := v) (a := 0) (b := 9999)) ?_
    show aw_W _ _ _ _ (136, [some (.ref 46), some (.int what), some (.int o), some (.int v), none], [.int (bI (¬ v < 0 ∧ ¬ 9999 < v))]) (ae_en σ α z t0 ts)
    refine aw_go 1 rfl ⟨trivial, trivial⟩ ?_
    refine aw_br (c := ¬ (bI (¬ v < 0 ∧ ¬ 9999 < v)) = 0) (fun h136 => ?_) (fun h136 => ?_)
    · skip
      have h136 := bI_t h136
      show aw_W _ _ _ _ (139, [some (.ref 46), some (.int what), some (.int o), some (.int v), none], []) (ae_en σ α z t0 ts)
      refine aw_go 7 rfl ⟨trivial, trivial, trivial, trivial, trivial, trivial, trivial, trivial⟩ ?_
      show aw_W _ _ _ _ (146, [some (.ref 46), some (.int what), some (.int o), some (.int v), some (.int (σ 30))], [.int (σ 30)]) (ae_en (au σ [(30, v)]) α z t0 ts)
      refine aw_ret rfl rfl trivial ?_
      rw [pSet, if_neg h1_0, if_neg h1_1, if_neg h1_2, if_neg h1_3, if_neg h1_4, if_neg h1_5, if_pos h1_6, pC1, if_pos h136]
      exact ⟨rfl, rfl⟩
    · skip
      have h136 := bI_f (Classical.not_not.mp h136)
      show aw_W _ _ _ _ (137, [some (.ref 46), some (.int what), some (.int o), some (.int v), none], []) (ae_en σ α z t0 ts)
      refine aw_go 1 rfl ⟨trivial, trivial⟩ ?_
      refine aw_ret rfl rfl trivial ?_
      rw [pSet, if_neg h1_0, if_neg h1_1, if_neg h1_2, if_neg h1_3, if_neg h1_4, if_neg h1_5, if_pos h1_6, pC1, if_neg h136]
      exact ⟨rfl, rfl⟩
  show aw_W _ _ _ _ (147, [some (.ref 46), some (.int what), some (.int o), some (.int v), none], []) (ae_en σ α z t0 ts)
  refine aw_go 1 rfl ⟨trivial, trivial⟩ ?_
  refine aw_ret rfl rfl trivial ?_
  rw [pSet, if_neg h1_0, if_neg h1_1, if_neg h1_2, if_neg h1_3, if_neg h1_4, if_neg h1_5, if_neg h1_6]
  exact ⟨rfl, rfl⟩
theorem ev_Model_force {m : Nat} {x : Int32} {zd : Nat} (hm : (σ 32) = nI m) (hm1 : 1 ≤ m) (hm6 : m ≤ 6) : aw_X P (zd + 2) 134 [.ref 46, .int x] (ae_en σ α z t0 ts) (fun r H => r = some (.int (if iP m x then (σ 33) else -2)) ∧ H = (ae_en (au σ [(33, (if iP m x then x else (σ 33)))]) α z t0 ts)) := by
  have hi : (¬ x < 0 ∧ ¬ nI (m - 1) < x) ↔ iP m x := by
    have := iP_in (m := m - 1) (by omega) (x := x)
    rwa [show m - 1 + 1 = m by omega] at this
  refine aw_ev (cd := cd_Model_force) rfl rfl rfl ?_
  show aw_W _ _ _ _ (0, [some (.ref 46), some (.int x), none], []) (ae_en σ α z t0 ts)
  refine aw_go 6 rfl ⟨trivial, trivial, trivial, trivial, trivial, trivial, trivial⟩ ?_
  show aw_W _ _ _ _ (6, [some (.ref 46), some (.int x), none], [.int ((σ 32) - 1), .int 0, .int x]) (ae_en σ α z t0 ts)
  rw [show (σ 32) - 1 = nI (m - 1) from (cI_sub (a := m) (b := 1) hm rfl (by omega))]
  refine aw_callE rfl rfl (em_in (v := x) (a := 0) (b := (nI (m - 1)))) ?_
  show aw_W _ _ _ _ (7, [some (.ref 46), some (.int x), none], [.int (bI (¬ x < 0 ∧ ¬ (nI (m - 1)) < x))]) (ae_en σ α z t0 ts)
  refine aw_go 1 rfl ⟨trivial, trivial⟩ ?_
  refine aw_br (c := ¬ (bI (¬ x < 0 ∧ ¬ (nI (m - 1)) < x)) = 0) (fun h7 => ?_) (fun h7 => ?_)
  · skip
    have h7 := bI_t h7
    show aw_W _ _ _ _ (10, [some (.ref 46), some (.int x), none], []) (ae_en σ α z t0 ts)
    refine aw_go 7 rfl ⟨trivial, trivial, trivial, trivial, trivial, trivial, trivial, trivial⟩ ?_
    show aw_W _ _ _ _ (17, [some (.ref 46), some (.int x), some (.int (σ 33))], [.int (σ 33)]) (ae_en (au σ [(33, x)]) α z t0 ts)
    refine aw_ret rfl rfl trivial ?_
    rw [if_pos (hi.mp h7), if_pos (hi.mp h7)]
    exact ⟨rfl, rfl⟩
  · skip
    have h7 := bI_f (Classical.not_not.mp h7)
    show aw_W _ _ _ _ (8, [some (.ref 46), some (.int x), none], []) (ae_en σ α z t0 ts)
    refine aw_go 1 rfl ⟨trivial, trivial⟩ ?_
    refine aw_ret rfl rfl trivial ?_
    rw [if_neg (fun q => h7 (hi.mpr q)), if_neg (fun q => h7 (hi.mpr q))]
    exact ⟨rfl, rfl⟩
theorem ev_Model_isUnder {k a : Int32} {zd : Nat}  : ae_Ev P (zd + 1) 177 [.int k, .int a] (ae_en σ α z t0 ts) (some (.int (bI (fUn k a)))) (ae_en σ α z t0 ts) := by
  refine aw_evE (cd := cd_Model_isUnder) rfl rfl rfl ?_
  show aw_W _ _ _ _ (0, [some (.int k), some (.int a)], []) (ae_en σ α z t0 ts)
  refine aw_go 2 rfl ⟨trivial, trivial, trivial⟩ ?_
  refine aw_br (c := a = 0) (fun h1 => ?_) (fun h1 => ?_)
  · skip
    show aw_W _ _ _ _ (17, [some (.int k), some (.int a)], []) (ae_en σ α z t0 ts)
    refine aw_go 2 rfl ⟨trivial, trivial, trivial⟩ ?_
    refine aw_ret rfl rfl (by first | exact Or.inl rfl | exact Or.inr rfl | exact bI_b _) ?_
    refine ⟨?_, rfl⟩
    exact congrArg (fun q => some (Value.int q)) (bI_1 (Or.inl h1))
  · skip
    show aw_W _ _ _ _ (2, [some (.int k), some (.int a)], []) (ae_en σ α z t0 ts)
    refine aw_go 3 rfl ⟨trivial, trivial, trivial, trivial⟩ ?_
    refine aw_br (c := k = a) (fun h4 => ?_) (fun h4 => ?_)
    · skip
      show aw_W _ _ _ _ (17, [some (.int k), some (.int a)], []) (ae_en σ α z t0 ts)
      refine aw_go 2 rfl ⟨trivial, trivial, trivial⟩ ?_
      refine aw_ret rfl rfl (by first | exact Or.inl rfl | exact Or.inr rfl | exact bI_b _) ?_
      refine ⟨?_, rfl⟩
      exact congrArg (fun q => some (Value.int q)) (bI_1 (Or.inr (Or.inl h4)))
    · skip
      show aw_W _ _ _ _ (5, [some (.int k), some (.int a)], []) (ae_en σ α z t0 ts)
      refine aw_go 3 rfl ⟨trivial, trivial, trivial, trivial⟩ ?_
      refine aw_br (c := ¬ a = 1) (fun h7 => ?_) (fun h7 => ?_)
      · skip
        show aw_W _ _ _ _ (11, [some (.int k), some (.int a)], []) (ae_en σ α z t0 ts)
        refine aw_go 3 rfl ⟨trivial, trivial, trivial, trivial⟩ ?_
        refine aw_br (c := ¬ a = 2) (fun h13 => ?_) (fun h13 => ?_)
        · skip
          show aw_W _ _ _ _ (19, [some (.int k), some (.int a)], []) (ae_en σ α z t0 ts)
          refine aw_go 1 rfl ⟨trivial, trivial⟩ ?_
          refine aw_ret rfl rfl (by first | exact Or.inl rfl | exact Or.inr rfl | exact bI_b _) ?_
          refine ⟨?_, rfl⟩
          exact congrArg (fun q => some (Value.int q)) (bI_0 (by
            rintro (q | q | ⟨q, r⟩ | ⟨q, r⟩)
            · exact h1 q
            · exact h4 q
            · exact h7 q
            · exact h13 q))
        · skip
          have h13 := Classical.not_not.mp h13
          show aw_W _ _ _ _ (14, [some (.int k), some (.int a)], []) (ae_en σ α z t0 ts)
          refine aw_go 3 rfl ⟨trivial, trivial, trivial, trivial⟩ ?_
          refine aw_br (c := ¬ k = 5) (fun h16 => ?_) (fun h16 => ?_)
          · skip
            show aw_W _ _ _ _ (19, [some (.int k), some (.int a)], []) (ae_en σ α z t0 ts)
            refine aw_go 1 rfl ⟨trivial, trivial⟩ ?_
            refine aw_ret rfl rfl (by first | exact Or.inl rfl | exact Or.inr rfl | exact bI_b _) ?_
            refine ⟨?_, rfl⟩
            exact congrArg (fun q => some (Value.int q)) (bI_0 (by
              rintro (q | q | ⟨q, r⟩ | ⟨q, r⟩)
              · exact h1 q
              · exact h4 q
              · exact h7 q
              · exact h16 r))
          · skip
            have h16 := Classical.not_not.mp h16
            show aw_W _ _ _ _ (17, [some (.int k), some (.int a)], []) (ae_en σ α z t0 ts)
            refine aw_go 2 rfl ⟨trivial, trivial, trivial⟩ ?_
            refine aw_ret rfl rfl (by first | exact Or.inl rfl | exact Or.inr rfl | exact bI_b _) ?_
            refine ⟨?_, rfl⟩
            exact congrArg (fun q => some (Value.int q)) (bI_1 (Or.inr (Or.inr (Or.inr ⟨h13, h16⟩))))
      · skip
        have h7 := Classical.not_not.mp h7
        show aw_W _ _ _ _ (8, [some (.int k), some (.int a)], []) (ae_en σ α z t0 ts)
        refine aw_go 3 rfl ⟨trivial, trivial, trivial, trivial⟩ ?_
        refine aw_br (c := k = 3) (fun h10 => ?_) (fun h10 => ?_)
        · skip
          show aw_W _ _ _ _ (17, [some (.int k), some (.int a)], []) (ae_en σ α z t0 ts)
          refine aw_go 2 rfl ⟨trivial, trivial, trivial⟩ ?_
          refine aw_ret rfl rfl (by first | exact Or.inl rfl | exact Or.inr rfl | exact bI_b _) ?_
          refine ⟨?_, rfl⟩
          exact congrArg (fun q => some (Value.int q)) (bI_1 (Or.inr (Or.inr (Or.inl ⟨h7, h10⟩))))
        · skip
          show aw_W _ _ _ _ (11, [some (.int k), some (.int a)], []) (ae_en σ α z t0 ts)
          refine aw_go 3 rfl ⟨trivial, trivial, trivial, trivial⟩ ?_
          refine aw_br (c := ¬ a = 2) (fun h13 => ?_) (fun h13 => ?_)
          · skip
            show aw_W _ _ _ _ (19, [some (.int k), some (.int a)], []) (ae_en σ α z t0 ts)
            refine aw_go 1 rfl ⟨trivial, trivial⟩ ?_
            refine aw_ret rfl rfl (by first | exact Or.inl rfl | exact Or.inr rfl | exact bI_b _) ?_
            refine ⟨?_, rfl⟩
            exact congrArg (fun q => some (Value.int q)) (bI_0 (by
              rintro (q | q | ⟨q, r⟩ | ⟨q, r⟩)
              · exact h1 q
              · exact h4 q
              · exact h10 r
              · exact h13 q))
          · skip
            have h13 := Classical.not_not.mp h13
            show aw_W _ _ _ _ (14, [some (.int k), some (.int a)], []) (ae_en σ α z t0 ts)
            refine aw_go 3 rfl ⟨trivial, trivial, trivial, trivial⟩ ?_
            refine aw_br (c := ¬ k = 5) (fun h16 => ?_) (fun h16 => ?_)
            · skip
              show aw_W _ _ _ _ (19, [some (.int k), some (.int a)], []) (ae_en σ α z t0 ts)
              refine aw_go 1 rfl ⟨trivial, trivial⟩ ?_
              refine aw_ret rfl rfl (by first | exact Or.inl rfl | exact Or.inr rfl | exact bI_b _) ?_
              refine ⟨?_, rfl⟩
              exact congrArg (fun q => some (Value.int q)) (bI_0 (by
                rintro (q | q | ⟨q, r⟩ | ⟨q, r⟩)
                · exact h1 q
                · exact h4 q
                · exact h10 r
                · exact h16 r))
            · skip
              have h16 := Classical.not_not.mp h16
              show aw_W _ _ _ _ (17, [some (.int k), some (.int a)], []) (ae_en σ α z t0 ts)
              refine aw_go 2 rfl ⟨trivial, trivial, trivial⟩ ?_
              refine aw_ret rfl rfl (by first | exact Or.inl rfl | exact Or.inr rfl | exact bI_b _) ?_
              refine ⟨?_, rfl⟩
              exact congrArg (fun q => some (Value.int q)) (bI_1 (Or.inr (Or.inr (Or.inr ⟨h13, h16⟩))))
theorem ev_Model_taken {n : Nat} {p k : Int32} {zd : Nat} (hn : (σ 27) = nI n) (hn10 : n ≤ 10) : ae_Ev P (zd + 3) 178 [.ref 46, .int p, .int k] (ae_en σ α z t0 ts) (some (.int (aTaken n (α 31) (α 33) p k))) (ae_en σ α z t0 ts) := by
  refine aw_evE (cd := cd_Model_taken) rfl rfl rfl ?_
  show aw_W _ _ _ _ (0, [some (.ref 46), some (.int p), some (.int k)], []) (ae_en σ α z t0 ts)
  refine aw_go 3 rfl ⟨trivial, trivial, trivial, trivial⟩ ?_
  refine aw_callE rfl rfl (em_in (v := k) (a := 0) (b := 5)) ?_
  show aw_W _ _ _ _ (4, [some (.ref 46), some (.int p), some (.int k)], [.int (bI (¬ k < 0 ∧ ¬ 5 < k))]) (ae_en σ α z t0 ts)
  refine aw_go 1 rfl ⟨trivial, trivial⟩ ?_
  refine aw_br (c := ¬ (bI (¬ k < 0 ∧ ¬ 5 < k)) = 0) (fun h4 => ?_) (fun h4 => ?_)
  · skip
    have h4 := bI_t h4
    show aw_W _ _ _ _ (7, [some (.ref 46), some (.int p), some (.int k)], []) (ae_en σ α z t0 ts)
    refine aw_go 2 rfl ⟨trivial, trivial, trivial⟩ ?_
    refine aw_callE rfl rfl (em_isPlank (p := p) hn hn10) ?_
    show aw_W _ _ _ _ (10, [some (.ref 46), some (.int p), some (.int k)], [.int (bI (iP n p))]) (ae_en σ α z t0 ts)
    refine aw_go 1 rfl ⟨trivial, trivial⟩ ?_
    refine aw_br (c := ¬ (bI (iP n p)) = 0) (fun h10 => ?_) (fun h10 => ?_)
    · skip
      have h10 := bI_t h10
      show aw_W _ _ _ _ (13, [some (.ref 46), some (.int p), some (.int k)], []) (ae_en σ α z t0 ts)
      obtain ⟨j, hj, rfl⟩ := iP_of h10 (by omega)
      refine aw_go 5 rfl ⟨trivial, trivial, trivial, (cI_in (a := j) rfl (by omega) (by decide)), trivial, trivial⟩ ?_
      show aw_W _ _ _ _ (18, [some (.ref 46), some (.int (nI j)), some (.int k)], [.int k, .int (α 31 (nI j).toNatClampNeg)]) (ae_en σ α z t0 ts)
      rw [show (nI j).toNatClampNeg = j from cI_cl (a := j) rfl (by omega)]
      refine aw_callE rfl rfl (ev_Model_isUnder (k := (α 31 j)) (a := k)) ?_
      show aw_W _ _ _ _ (19, [some (.ref 46), some (.int (nI j)), some (.int k)], [.int (bI (fUn (α 31 j) k))]) (ae_en σ α z t0 ts)
      refine aw_go 1 rfl ⟨trivial, trivial⟩ ?_
      refine aw_br (c := (bI (fUn (α 31 j) k)) = 0) (fun h19 => ?_) (fun h19 => ?_)
      · skip
        have h19 := bI_f h19
        show aw_W _ _ _ _ (25, [some (.ref 46), some (.int (nI j)), some (.int k)], []) (ae_en σ α z t0 ts)
        refine aw_go 1 rfl ⟨trivial, trivial⟩ ?_
        refine aw_ret rfl rfl trivial ?_
        refine ⟨?_, rfl⟩
        rw [aTaken, if_pos ((iP_in (m := 5) (by decide)).mp h4), if_pos (iP_nI hj (by omega)), nI_clamp (by omega), if_neg h19]
      · skip
        have h19 := bI_t h19
        show aw_W _ _ _ _ (20, [some (.ref 46), some (.int (nI j)), some (.int k)], []) (ae_en σ α z t0 ts)
        refine aw_go 5 rfl ⟨trivial, trivial, trivial, (cI_in (a := j) rfl (by omega) (by decide)), trivial, trivial⟩ ?_
        show aw_W _ _ _ _ (26, [some (.ref 46), some (.int (nI j)), some (.int k)], [.int (α 33 (nI j).toNatClampNeg)]) (ae_en σ α z t0 ts)
        rw [show (nI j).toNatClampNeg = j from cI_cl (a := j) rfl (by omega)]
        refine aw_ret rfl rfl trivial ?_
        refine ⟨?_, rfl⟩
        rw [aTaken, if_pos ((iP_in (m := 5) (by decide)).mp h4), if_pos (iP_nI hj (by omega)), nI_clamp (by omega), if_pos h19]
    · skip
      have h10 := bI_f (Classical.not_not.mp h10)
      show aw_W _ _ _ _ (11, [some (.ref 46), some (.int p), some (.int k)], []) (ae_en σ α z t0 ts)
      refine aw_go 1 rfl ⟨trivial, trivial⟩ ?_
      refine aw_ret rfl rfl trivial ?_
      refine ⟨?_, rfl⟩
      rw [aTaken, if_pos ((iP_in (m := 5) (by decide)).mp h4), if_neg h10]
  · skip
    have h4 := bI_f (Classical.not_not.mp h4)
    show aw_W _ _ _ _ (5, [some (.ref 46), some (.int p), some (.int k)], []) (ae_en σ α z t0 ts)
    refine aw_go 1 rfl ⟨trivial, trivial⟩ ?_
    refine aw_ret rfl rfl trivial ?_
    refine ⟨?_, rfl⟩
    rw [aTaken, if_neg (fun q => h4 ((iP_in (m := 5) (by decide)).mpr q))]
theorem lp_mImage {zd : Nat}  (k : Nat) (hk : k ≤ 10) : aw_W P (zd) cd_Model_image (fun r H => r = some (.int (σ 28)) ∧ H = (ae_en (au σ [(45, 1), (46, (σ 27)), (47, (σ 28)), (48, (σ 29)), (49, (σ 30)), (50, (σ 33))]) (au α [(51, fC 10 (α 35) (α 51)), (52, fC 10 (α 34) (α 52)), (53, fC 10 (α 36) (α 53)), (54, fC 10 (α 37) (α 54)), (55, fC 10 (α 38) (α 55))]) z t0 ts)) (25, [some (.ref 46), some (.int (nI k))], []) (ae_en (au σ [(45, 1), (46, (σ 27)), (47, (σ 28)), (48, (σ 29)), (49, (σ 30)), (50, (σ 33))]) (au α [(51, fC k (α 35) (α 51)), (52, fC k (α 34) (α 52)), (53, fC k (α 36) (α 53)), (54, fC k (α 37) (α 54)), (55, fC k (α 38) (α 55))]) z t0 ts) := by
  refine aw_go 3 rfl ⟨trivial, trivial, trivial, trivial⟩ ?_
  refine aw_br (c := (10 : Int32) ≤ (nI k)) (fun h27 => ?_) (fun h27 => ?_)
  · skip
    have h27 := cI_leT (a := 10) (b := k) rfl rfl (by omega) (by omega) h27
    show aw_W _ _ _ _ (70, [some (.ref 46), some (.int (nI k))], []) (ae_en (au σ [(45, 1), (46, (σ 27)), (47, (σ 28)), (48, (σ 29)), (49, (σ 30)), (50, (σ 33))]) (au α [(51, fC k (α 35) (α 51)), (52, fC k (α 34) (α 52)), (53, fC k (α 36) (α 53)), (54, fC k (α 37) (α 54)), (55, fC k (α 38) (α 55))]) z t0 ts)
    have e8 : k = 10 := by omega
    refine aw_go 2 rfl ⟨trivial, trivial, trivial⟩ ?_
    show aw_W _ _ _ _ (72, [some (.ref 46), some (.int (nI k))], [.int (σ 28)]) (ae_en (au σ [(45, 1), (46, (σ 27)), (47, (σ 28)), (48, (σ 29)), (49, (σ 30)), (50, (σ 33))]) (au α [(51, fC k (α 35) (α 51)), (52, fC k (α 34) (α 52)), (53, fC k (α 36) (α 53)), (54, fC k (α 37) (α 54)), (55, fC k (α 38) (α 55))]) z t0 ts)
    refine aw_ret rfl rfl trivial ?_
    rw [e8]
    exact ⟨rfl, rfl⟩
  · skip
    have h27 := cI_leF (a := 10) (b := k) rfl rfl (by omega) (by omega) h27
    show aw_W _ _ _ _ (28, [some (.ref 46), some (.int (nI k))], []) (ae_en (au σ [(45, 1), (46, (σ 27)), (47, (σ 28)), (48, (σ 29)), (49, (σ 30)), (50, (σ 33))]) (au α [(51, fC k (α 35) (α 51)), (52, fC k (α 34) (α 52)), (53, fC k (α 36) (α 53)), (54, fC k (α 37) (α 54)), (55, fC k (α 38) (α 55))]) z t0 ts)
    refine aw_go 42 rfl ⟨trivial, trivial, trivial, trivial, trivial, trivial, (cI_in (a := k) rfl (by omega) (by decide)), (cI_in (a := k) rfl (by omega) (by decide)), trivial, trivial, trivial, trivial, trivial, trivial, (cI_in (a := k) rfl (by omega) (by decide)), (cI_in (a := k) rfl (by omega) (by decide)), trivial, trivial, trivial, trivial, trivial, trivial, (cI_in (a := k) rfl (by omega) (by decide)), (cI_in (a := k) rfl (by omega) (by decide)), trivial, trivial, trivial, trivial, trivial, trivial, (cI_in (a := k) rfl (by omega) (by decide)), (cI_in (a := k) rfl (by omega) (by decide)), trivial, trivial, trivial, trivial, trivial, trivial, (cI_in (a := k) rfl (by omega) (by decide)), (cI_in (a := k) rfl (by omega) (by decide)), trivial, trivial, trivial⟩ ?_
    show aw_W _ _ _ _ (25, [some (.ref 46), some (.int ((nI k) + 1))], []) (ae_en (au σ [(45, 1), (46, (σ 27)), (47, (σ 28)), (48, (σ 29)), (49, (σ 30)), (50, (σ 33))]) (au α [(51, upd (fC k (α 35) (α 51)) (nI k).toNatClampNeg (α 35 (nI k).toNatClampNeg)), (52, upd (fC k (α 34) (α 52)) (nI k).toNatClampNeg (α 34 (nI k).toNatClampNeg)), (53, upd (fC k (α 36) (α 53)) (nI k).toNatClampNeg (α 36 (nI k).toNatClampNeg)), (54, upd (fC k (α 37) (α 54)) (nI k).toNatClampNeg (α 37 (nI k).toNatClampNeg)), (55, upd (fC k (α 38) (α 55)) (nI k).toNatClampNeg (α 38 (nI k).toNatClampNeg))]) z t0 ts)
    rw [show (nI k).toNatClampNeg = k from cI_cl (a := k) rfl (by omega)]
    rw [show (nI k) + 1 = nI (k + 1) from (cI_add (a := k) (b := 1) rfl rfl)]
    rw [fC_s (X := α 35) (f := α 51) rfl, fC_s (X := α 34) (f := α 52) rfl, fC_s (X := α 36) (f := α 53) rfl, fC_s (X := α 37) (f := α 54) rfl, fC_s (X := α 38) (f := α 55) rfl]
    exact lp_mImage (k + 1) (by omega)
termination_by 10 - k
decreasing_by all_goals omega
theorem ev_Model_image  {zd : Nat}  : aw_X P (zd + 1) 168 [.ref 46] (ae_en σ α z t0 ts) (fun r H => r = some (.int (σ 28)) ∧ H = (ae_en (au σ [(45, 1), (46, (σ 27)), (47, (σ 28)), (48, (σ 29)), (49, (σ 30)), (50, (σ 33))]) (au α [(51, fC 10 (α 35) (α 51)), (52, fC 10 (α 34) (α 52)), (53, fC 10 (α 36) (α 53)), (54, fC 10 (α 37) (α 54)), (55, fC 10 (α 38) (α 55))]) z t0 ts)) := by
  refine aw_ev (cd := cd_Model_image) rfl rfl rfl ?_
  show aw_W _ _ _ _ (0, [some (.ref 46), none], []) (ae_en σ α z t0 ts)
  refine aw_go 25 rfl ⟨trivial, trivial, (by first | exact Or.inl rfl | exact Or.inr rfl), trivial, trivial, trivial, trivial, trivial, trivial, trivial, trivial, trivial, trivial, trivial, trivial, trivial, trivial, trivial, trivial, trivial, trivial, trivial, trivial, trivial, trivial, trivial⟩ ?_
  show aw_W _ _ _ _ (25, [some (.ref 46), some (.int 0)], []) (ae_en (au σ [(45, 1), (46, σ 27), (47, σ 28), (48, σ 29), (49, σ 30), (50, σ 33)]) α z t0 ts)
  exact aw_to (lp_mImage 0 (by decide)) rfl (by rw [fC_0, fC_0, fC_0, fC_0, fC_0]; rfl)
theorem em_back_no  {zd : Nat} (h0 : (σ 45) = 0) : ae_Ev P (zd + 1) 169 [.ref 46] (ae_en σ α z t0 ts) (some (.int (-3))) (ae_en σ α z t0 ts) := by
  refine aw_evE (cd := cd_Model_back) rfl rfl rfl ?_
  show aw_W _ _ _ _ (0, [some (.ref 46), none], []) (ae_en σ α z t0 ts)
  refine aw_go 3 rfl ⟨trivial, trivial, trivial, trivial⟩ ?_
  show aw_W _ _ _ _ (if ¬ (σ 45) = 0 then 5 else 3, [some (.ref 46), none], []) (ae_en σ α z t0 ts)
  refine aw_br (c := ¬ (σ 45) = 0) (fun h2 => ?_) (fun h2 => ?_)
  · skip
    show aw_W _ _ _ _ (5, [some (.ref 46), none], []) (ae_en σ α z t0 ts)
    exact absurd h0 h2
  · skip
    have h2 := Classical.not_not.mp h2
    show aw_W _ _ _ _ (3, [some (.ref 46), none], []) (ae_en σ α z t0 ts)
    refine aw_go 1 rfl ⟨trivial, trivial⟩ ?_
    refine aw_ret rfl rfl trivial ?_
    refine ⟨?_, rfl⟩
    rfl
theorem lp_mBack {zd : Nat} {q : Nat} (hk : (σ 46) = nI q) (hq10 : q ≤ 10) (k : Nat) (hkq : k ≤ q) : aw_W P (zd) cd_Model_back (fun r H => r = some (.int (σ 47)) ∧ H = (ae_en (au σ [(28, (σ 47)), (29, (σ 48)), (30, (σ 49)), (33, (σ 50))]) (au α [(34, fC q (α 52) (α 34)), (35, fC q (α 51) (α 35)), (36, fC (q - 1) (α 53) (α 36)), (37, fC (q - 1) (α 54) (α 37)), (38, fC (q - 1) (α 55) (α 38))]) z t0 ts)) (23, [some (.ref 46), some (.int (nI k))], []) (ae_en (au σ [(28, (σ 47)), (29, (σ 48)), (30, (σ 49)), (33, (σ 50))]) (au α [(34, fC k (α 52) (α 34)), (35, fC k (α 51) (α 35)), (36, fC (min k (q - 1)) (α 53) (α 36)), (37, fC (min k (q - 1)) (α 54) (α 37)), (38, fC (min k (q - 1)) (α 55) (α 38))]) z t0 ts) := by
  refine aw_go 4 rfl ⟨trivial, trivial, trivial, trivial, trivial⟩ ?_
  show aw_W _ _ _ _ (if (σ 46) ≤ (nI k) then 76 else 27, [some (.ref 46), some (.int (nI k))], []) (ae_en (au σ [(28, (σ 47)), (29, (σ 48)), (30, (σ 49)), (33, (σ 50))]) (au α [(34, fC k (α 52) (α 34)), (35, fC k (α 51) (α 35)), (36, fC (min k (q - 1)) (α 53) (α 36)), (37, fC (min k (q - 1)) (α 54) (α 37)), (38, fC (min k (q - 1)) (α 55) (α 38))]) z t0 ts)
  refine aw_br (c := (σ 46) ≤ (nI k)) (fun h26 => ?_) (fun h26 => ?_)
  · skip
    have h26 := cI_leT (a := q) (b := k) hk rfl (by omega) (by omega) h26
    show aw_W _ _ _ _ (76, [some (.ref 46), some (.int (nI k))], []) (ae_en (au σ [(28, (σ 47)), (29, (σ 48)), (30, (σ 49)), (33, (σ 50))]) (au α [(34, fC k (α 52) (α 34)), (35, fC k (α 51) (α 35)), (36, fC (min k (q - 1)) (α 53) (α 36)), (37, fC (min k (q - 1)) (α 54) (α 37)), (38, fC (min k (q - 1)) (α 55) (α 38))]) z t0 ts)
    have e8 : k = q := by omega
    refine aw_go 2 rfl ⟨trivial, trivial, trivial⟩ ?_
    show aw_W _ _ _ _ (78, [some (.ref 46), some (.int (nI k))], [.int (σ 47)]) (ae_en (au σ [(28, (σ 47)), (29, (σ 48)), (30, (σ 49)), (33, (σ 50))]) (au α [(34, fC k (α 52) (α 34)), (35, fC k (α 51) (α 35)), (36, fC (min k (q - 1)) (α 53) (α 36)), (37, fC (min k (q - 1)) (α 54) (α 37)), (38, fC (min k (q - 1)) (α 55) (α 38))]) z t0 ts)
    refine aw_ret rfl rfl trivial ?_
    rw [e8, show min q (q - 1) = q - 1 by omega]
    exact ⟨rfl, rfl⟩
  · skip
    have h26 := cI_leF (a := q) (b := k) hk rfl (by omega) (by omega) h26
    show aw_W _ _ _ _ (27, [some (.ref 46), some (.int (nI k))], []) (ae_en (au σ [(28, (σ 47)), (29, (σ 48)), (30, (σ 49)), (33, (σ 50))]) (au α [(34, fC k (α 52) (α 34)), (35, fC k (α 51) (α 35)), (36, fC (min k (q - 1)) (α 53) (α 36)), (37, fC (min k (q - 1)) (α 54) (α 37)), (38, fC (min k (q - 1)) (α 55) (α 38))]) z t0 ts)
    refine aw_go 22 rfl ⟨trivial, trivial, trivial, trivial, trivial, trivial, (cI_in (a := k) rfl (by omega) (by decide)), (cI_in (a := k) rfl (by omega) (by decide)), trivial, trivial, trivial, trivial, trivial, trivial, (cI_in (a := k) rfl (by omega) (by decide)), (cI_in (a := k) rfl (by omega) (by decide)), trivial, trivial, trivial, trivial, trivial, trivial, trivial⟩ ?_
    show aw_W _ _ _ _ (if ¬ ((nI k) + 1) = (σ 46) then 50 else 49, [some (.ref 46), some (.int (nI k))], []) (ae_en (au σ [(28, (σ 47)), (29, (σ 48)), (30, (σ 49)), (33, (σ 50))]) (au α [(34, upd (fC k (α 52) (α 34)) (nI k).toNatClampNeg (α 52 (nI k).toNatClampNeg)), (35, upd (fC k (α 51) (α 35)) (nI k).toNatClampNeg (α 51 (nI k).toNatClampNeg)), (36, fC (min k (q - 1)) (α 53) (α 36)), (37, fC (min k (q - 1)) (α 54) (α 37)), (38, fC (min k (q - 1)) (α 55) (α 38))]) z t0 ts)
    rw [show (nI k).toNatClampNeg = k from cI_cl (a := k) rfl (by omega)]
    refine aw_br (c := ¬ ((nI k) + 1) = (σ 46)) (fun h48 => ?_) (fun h48 => ?_)
    · skip
      have h48 := cI_eqF (a := k + 1) (b := q) (cI_add (a := k) (b := 1) rfl rfl) hk (by omega) (by omega) h48
      show aw_W _ _ _ _ (50, [some (.ref 46), some (.int (nI k))], []) (ae_en (au σ [(28, (σ 47)), (29, (σ 48)), (30, (σ 49)), (33, (σ 50))]) (au α [(34, upd (fC k (α 52) (α 34)) k (α 52 k)), (35, upd (fC k (α 51) (α 35)) k (α 51 k)), (36, fC (min k (q - 1)) (α 53) (α 36)), (37, fC (min k (q - 1)) (α 54) (α 37)), (38, fC (min k (q - 1)) (α 55) (α 38))]) z t0 ts)
      refine aw_go 26 rfl ⟨trivial, trivial, trivial, trivial, trivial, trivial, (cI_in (a := k) rfl (by omega) (by decide)), (cI_in (a := k) rfl (by omega) (by decide)), trivial, trivial, trivial, trivial, trivial, trivial, (cI_in (a := k) rfl (by omega) (by decide)), (cI_in (a := k) rfl (by omega) (by decide)), trivial, trivial, trivial, trivial, trivial, trivial, (cI_in (a := k) rfl (by omega) (by decide)), (cI_in (a := k) rfl (by omega) (by decide)), trivial, trivial, trivial⟩ ?_
      show aw_W _ _ _ _ (23, [some (.ref 46), some (.int ((nI k) + 1))], []) (ae_en (au σ [(28, (σ 47)), (29, (σ 48)), (30, (σ 49)), (33, (σ 50))]) (au α [(34, upd (fC k (α 52) (α 34)) k (α 52 k)), (35, upd (fC k (α 51) (α 35)) k (α 51 k)), (36, upd (fC (min k (q - 1)) (α 53) (α 36)) (nI k).toNatClampNeg (α 53 (nI k).toNatClampNeg)), (37, upd (fC (min k (q - 1)) (α 54) (α 37)) (nI k).toNatClampNeg (α 54 (nI k).toNatClampNeg)), (38, upd (fC (min k (q - 1)) (α 55) (α 38)) (nI k).toNatClampNeg (α 55 (nI k).toNatClampNeg))]) z t0 ts)
      rw [show (nI k).toNatClampNeg = k from cI_cl (a := k) rfl (by omega)]
      rw [show (nI k) + 1 = nI (k + 1) from (cI_add (a := k) (b := 1) rfl rfl)]
      rw [fC_s (X := α 51) (f := α 35) rfl, fC_s (X := α 52) (f := α 34) rfl, show min k (q - 1) = k by omega, fC_s (X := α 53) (f := α 36) rfl, fC_s (X := α 54) (f := α 37) rfl, fC_s (X := α 55) (f := α 38) rfl]
      exact aw_to (lp_mBack hk hq10 (k + 1) (by omega)) rfl (by rw [show min (k + 1) (q - 1) = k + 1 by omega])
    · skip
      have h48 := Classical.not_not.mp h48
      have h48 := cI_eqT (a := k + 1) (b := q) (cI_add (a := k) (b := 1) rfl rfl) hk (by omega) (by omega) h48
      show aw_W _ _ _ _ (49, [some (.ref 46), some (.int (nI k))], []) (ae_en (au σ [(28, (σ 47)), (29, (σ 48)), (30, (σ 49)), (33, (σ 50))]) (au α [(34, upd (fC k (α 52) (α 34)) k (α 52 k)), (35, upd (fC k (α 51) (α 35)) k (α 51 k)), (36, fC (min k (q - 1)) (α 53) (α 36)), (37, fC (min k (q - 1)) (α 54) (α 37)), (38, fC (min k (q - 1)) (α 55) (α 38))]) z t0 ts)
      refine aw_go 3 rfl ⟨trivial, trivial, trivial, trivial⟩ ?_
      show aw_W _ _ _ _ (23, [some (.ref 46), some (.int ((nI k) + 1))], []) (ae_en (au σ [(28, (σ 47)), (29, (σ 48)), (30, (σ 49)), (33, (σ 50))]) (au α [(34, upd (fC k (α 52) (α 34)) k (α 52 k)), (35, upd (fC k (α 51) (α 35)) k (α 51 k)), (36, fC (min k (q - 1)) (α 53) (α 36)), (37, fC (min k (q - 1)) (α 54) (α 37)), (38, fC (min k (q - 1)) (α 55) (α 38))]) z t0 ts)
      rw [show (nI k) + 1 = nI (k + 1) from (cI_add (a := k) (b := 1) rfl rfl)]
      rw [fC_s (X := α 51) (f := α 35) rfl, fC_s (X := α 52) (f := α 34) rfl, show min k (q - 1) = min (k + 1) (q - 1) by omega]
      exact lp_mBack hk hq10 (k + 1) (by omega)
termination_by q - k
decreasing_by all_goals omega
theorem ev_Model_back {q : Nat} {zd : Nat} (h0 : ¬ (σ 45) = 0) (hk : (σ 46) = nI q) (hq10 : q ≤ 10) : aw_X P (zd + 1) 169 [.ref 46] (ae_en σ α z t0 ts) (fun r H => r = some (.int (σ 47)) ∧ H = (ae_en (au σ [(28, (σ 47)), (29, (σ 48)), (30, (σ 49)), (33, (σ 50))]) (au α [(34, fC q (α 52) (α 34)), (35, fC q (α 51) (α 35)), (36, fC (q - 1) (α 53) (α 36)), (37, fC (q - 1) (α 54) (α 37)), (38, fC (q - 1) (α 55) (α 38))]) z t0 ts)) := by
  refine aw_ev (cd := cd_Model_back) rfl rfl rfl ?_
  show aw_W _ _ _ _ (0, [some (.ref 46), none], []) (ae_en σ α z t0 ts)
  refine aw_go 3 rfl ⟨trivial, trivial, trivial, trivial⟩ ?_
  show aw_W _ _ _ _ (if ¬ (σ 45) = 0 then 5 else 3, [some (.ref 46), none], []) (ae_en σ α z t0 ts)
  refine aw_br (c := ¬ (σ 45) = 0) (fun h2 => ?_) (fun h2 => ?_)
  · skip
    show aw_W _ _ _ _ (5, [some (.ref 46), none], []) (ae_en σ α z t0 ts)
    refine aw_go 18 rfl ⟨trivial, trivial, trivial, trivial, trivial, trivial, trivial, trivial, trivial, trivial, trivial, trivial, trivial, trivial, trivial, trivial, trivial, trivial, trivial⟩ ?_
    show aw_W _ _ _ _ (23, [some (.ref 46), some (.int 0)], []) (ae_en (au σ [(28, σ 47), (29, σ 48), (30, σ 49), (33, σ 50)]) α z t0 ts)
    exact aw_to (lp_mBack hk hq10 0 (Nat.zero_le _)) rfl (by rw [fC_0, fC_0, show min 0 (q - 1) = 0 from Nat.zero_min _, fC_0, fC_0, fC_0]; rfl)
  · skip
    have h2 := Classical.not_not.mp h2
    show aw_W _ _ _ _ (3, [some (.ref 46), none], []) (ae_en σ α z t0 ts)
    exact absurd h2 h0
end L52
