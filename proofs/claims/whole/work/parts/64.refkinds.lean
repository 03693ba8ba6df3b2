/-! the reference's grammar: denied, one, all kinds -/
section L64
variable {P : ae_P} {σ : Nat → Int32} {α : Nat → Nat → Int32} {z : Int64} {t0 : ae_T} {ts : List ae_T}

theorem mr_next2 {s : Nat} {l : ae_TL} {zd : Nat} (h1 : mTb (α 45) (α 46)) (h2 : σ 31 = nI s) (h3 : s ≤ 160) (h : mrT s (α 39) l (σ 37) (σ 38) (σ 39) (σ 40)) (hn : ¬ hdT l = -17) : aw_X P (zd + 3) 120 [.ref 46] (ae_en σ α z t0 ts) (fun r H => ∃ (fr tt so iz : Int32), r = none ∧ H = ae_en (au σ [(37, fr), (38, tt), (39, so), (40, iz)]) α z t0 ts ∧ mrT s (α 39) l.tail fr tt so iz) := by
  obtain ⟨-, -, -, e, he, hes, hr⟩ := h
  obtain ⟨m, hm1, hm2⟩ := hr hn
  refine ax_mono (ev_Model_next h1 h2 h3 he hes hm2 hm1.symm) ?_
  rintro r H ⟨so, iz, e2, rfl, rfl, k1, k2, k3⟩
  exact ⟨_, _, _, _, rfl, rfl, rfl, by rw [hm1]; exact lx_hdP _ _ _ _ hes, k1, e2, rfl, k2, k3⟩
theorem en_56 {o : Nat} {n a b c d : Int32} {A W : Nat → Int32} (h5 : σ 35 = -1) (h6 : σ 36 = nI o) : ae_en (au σ [(34, n), (37, a), (38, b), (39, c), (40, d)]) (au α [(40, A), (41, W)]) z t0 ts = ae_en (au σ [(34, n), (35, -1), (36, nI o), (37, a), (38, b), (39, c), (40, d)]) (au α [(40, A), (41, W)]) z t0 ts := by
  rw [← h5, ← h6]
  rfl
theorem mr_denied {s m : Nat} (ih4 : mrX P z t0 ts s m 4) (ih5 : mrX P z t0 ts s m 5) : mrX P z t0 ts s (m + 1) 4 := by
  intro σ α o l R c D hpp hP hD
  obtain ⟨D, rfl⟩ : ∃ E, D = E + 6 := ⟨D - 6, by simp only [mrD] at hD; omega⟩
  have a0 := hP
  obtain ⟨a1, a2, a3, a4, a5, a6, a7, a8, a9, a10⟩ := hP
  have a7t := a7.2.2.1
  have a7p := a7.2.1
  rw [pp] at hpp
  refine aw_ev (cd := cd_Model_denied) rfl rfl rfl ?_
  by_cases e : hdT l = -3
  · rw [if_pos e] at hpp
    have e17 : ¬ hdT l = -17 := by rw [e]; decide
    have ht := pH_tail (l := l) e17
    have ht1 := ht.1
    have hlp := gL_pos (ht.2.1 a9)
    by_cases e5 : o < 5
    · rw [if_pos e5] at hpp
      rcases bP_some hpp with ⟨l1, s1, q1, hpp⟩ | ⟨l1, s1, q1, rfl⟩
      · have hp := (pp_pH _ _ _ _ _ _ _ q1).1
        have hp1 := hp.1
        have hl1 := gL_pos (hp.2.1 (ht.2.1 a9))
        cases hpp
        show aw_W _ _ _ _ (0, [some (.ref 46), none], []) (ae_en σ α z t0 ts)
        refine aw_go 2 rfl ⟨trivial, trivial, trivial⟩ ?_
        refine aw_callE rfl rfl (ev_Model_isKey (b := 15)) ?_
        show aw_W _ _ _ _ (3, [some (.ref 46), none], [.int (bI ((σ 35) < 0 ∧ (σ 39) = 1 ∧ (σ 40) = 15))]) (ae_en σ α z t0 ts)
        refine aw_top (x2 := 1) ((is_k15 a7t a5).trans (bI_1 e).symm) ?_
        refine aw_go 1 rfl ⟨trivial, trivial⟩ ?_
        refine aw_br (c := (1 : Int32) = 0) (fun h3 => ?_) (fun h3 => ?_)
        · skip
          have h3 := cI_eqT (a := 1) (b := 0) rfl rfl (by omega) (by omega) h3
          show aw_W _ _ _ _ (21, [some (.ref 46), none], []) (ae_en σ α z t0 ts)
          exact absurd h3 (by decide)
        · skip
          have h3 := cI_eqF (a := 1) (b := 0) rfl rfl (by omega) (by omega) h3
          show aw_W _ _ _ _ (4, [some (.ref 46), none], []) (ae_en σ α z t0 ts)
          refine aw_go 1 rfl ⟨trivial, trivial⟩ ?_
          refine aw_call rfl rfl (mr_opens_yes a0 e17 (by omega)) ?_
          rintro _ _ ⟨fr_5, tt_5, so_5, iz_5, rfl, rfl, ht_5⟩
          show aw_W _ _ _ _ (6, [some (.ref 46), none], [.int 1]) (ae_en (au σ [(36, nI (o + 1)), (37, fr_5), (38, tt_5), (39, so_5), (40, iz_5)]) α z t0 ts)
          refine aw_go 1 rfl ⟨trivial, trivial⟩ ?_
          refine aw_br (c := ¬ (1 : Int32) = 0) (fun h6 => ?_) (fun h6 => ?_)
          · skip
            have h6 := cI_eqF (a := 1) (b := 0) rfl rfl (by omega) (by omega) h6
            show aw_W _ _ _ _ (8, [some (.ref 46), none], []) (ae_en (au σ [(36, nI (o + 1)), (37, fr_5), (38, tt_5), (39, so_5), (40, iz_5)]) α z t0 ts)
            refine aw_go 1 rfl ⟨trivial, trivial⟩ ?_
            refine aw_call rfl rfl (mrX_y ih4 q1 ⟨a1, a2, a3, a4, a5, rfl, ht_5, (by omega), (ht.2.1 a9), (by omega)⟩ (by simp only [mrD] at hD ⊢; omega)) ?_
            rintro _ _ ⟨fr_9, tt_9, so_9, iz_9, rfl, rfl, ht_9⟩
            show aw_W _ _ _ _ (10, [some (.ref 46), none], []) (ae_en (au σ [(34, nI (c + s1.length)), (35, (-1)), (36, nI (o + 1)), (37, fr_9), (38, tt_9), (39, so_9), (40, iz_9)]) (au α [(40, putL (α 40) (1020 + c) (s1.map cA)), (41, putL (α 41) (1020 + c) (s1.map cW))]) z t0 ts)
            refine aw_go 6 rfl ⟨trivial, trivial, trivial, trivial, trivial, trivial, trivial⟩ ?_
            show aw_W _ _ _ _ (16, [some (.ref 46), none], []) (ae_en (au σ [(34, nI (c + s1.length)), (35, (-1)), (36, (nI (o + 1)) - 1), (37, fr_9), (38, tt_9), (39, so_9), (40, iz_9)]) (au α [(40, putL (α 40) (1020 + c) (s1.map cA)), (41, putL (α 41) (1020 + c) (s1.map cW))]) z t0 ts)
            rw [show (nI (o + 1)) - 1 = nI o from cI_sub (a := o + 1) (b := 1) rfl rfl (by omega)]
            refine aw_go 3 rfl ⟨trivial, trivial, trivial, trivial⟩ ?_
            refine aw_call rfl rfl (ev_Model_addStep (a := 3) (b := 0) (c := (c + s1.length)) rfl (by omega)) ?_
            rintro _ _ ⟨rfl, rfl⟩
            show aw_W _ _ _ _ (20, [some (.ref 46), none], []) (ae_en (au σ [(34, nI ((c + s1.length) + 1)), (35, (-1)), (36, nI o), (37, fr_9), (38, tt_9), (39, so_9), (40, iz_9)]) (au α [(40, upd (putL (α 40) (1020 + c) (s1.map cA)) (1020 + (c + s1.length)) 3), (41, upd (putL (α 41) (1020 + c) (s1.map cW)) (1020 + (c + s1.length)) 0)]) z t0 ts)
            refine aw_ret rfl rfl trivial ?_
            exact mrQ_ok (by rw [List.length_append]; rfl) (up_map (by omega) rfl) (up_map (by omega) rfl) ht_9
          · skip
            have h6 := Classical.not_not.mp h6
            have h6 := cI_eqT (a := 1) (b := 0) rfl rfl (by omega) (by omega) h6
            show aw_W _ _ _ _ (7, [some (.ref 46), none], []) (ae_en (au σ [(36, nI (o + 1)), (37, fr_5), (38, tt_5), (39, so_5), (40, iz_5)]) α z t0 ts)
            exact absurd h6 (by decide)
      · have hp := (pp_pH _ _ _ _ _ _ _ q1).1
        have hp1 := hp.1
        have hl1 := gL_pos (hp.2.1 (ht.2.1 a9))
        show aw_W _ _ _ _ (0, [some (.ref 46), none], []) (ae_en σ α z t0 ts)
        refine aw_go 2 rfl ⟨trivial, trivial, trivial⟩ ?_
        refine aw_callE rfl rfl (ev_Model_isKey (b := 15)) ?_
        show aw_W _ _ _ _ (3, [some (.ref 46), none], [.int (bI ((σ 35) < 0 ∧ (σ 39) = 1 ∧ (σ 40) = 15))]) (ae_en σ α z t0 ts)
        refine aw_top (x2 := 1) ((is_k15 a7t a5).trans (bI_1 e).symm) ?_
        refine aw_go 1 rfl ⟨trivial, trivial⟩ ?_
        refine aw_br (c := (1 : Int32) = 0) (fun h3 => ?_) (fun h3 => ?_)
        · skip
          have h3 := cI_eqT (a := 1) (b := 0) rfl rfl (by omega) (by omega) h3
          show aw_W _ _ _ _ (21, [some (.ref 46), none], []) (ae_en σ α z t0 ts)
          exact absurd h3 (by decide)
        · skip
          have h3 := cI_eqF (a := 1) (b := 0) rfl rfl (by omega) (by omega) h3
          show aw_W _ _ _ _ (4, [some (.ref 46), none], []) (ae_en σ α z t0 ts)
          refine aw_go 1 rfl ⟨trivial, trivial⟩ ?_
          refine aw_call rfl rfl (mr_opens_yes a0 e17 (by omega)) ?_
          rintro _ _ ⟨fr_5, tt_5, so_5, iz_5, rfl, rfl, ht_5⟩
          show aw_W _ _ _ _ (6, [some (.ref 46), none], [.int 1]) (ae_en (au σ [(36, nI (o + 1)), (37, fr_5), (38, tt_5), (39, so_5), (40, iz_5)]) α z t0 ts)
          refine aw_go 1 rfl ⟨trivial, trivial⟩ ?_
          refine aw_br (c := ¬ (1 : Int32) = 0) (fun h6 => ?_) (fun h6 => ?_)
          · skip
            have h6 := cI_eqF (a := 1) (b := 0) rfl rfl (by omega) (by omega) h6
            show aw_W _ _ _ _ (8, [some (.ref 46), none], []) (ae_en (au σ [(36, nI (o + 1)), (37, fr_5), (38, tt_5), (39, so_5), (40, iz_5)]) α z t0 ts)
            refine aw_go 1 rfl ⟨trivial, trivial⟩ ?_
            refine aw_call rfl rfl (mrX_n ih4 q1 ⟨a1, a2, a3, a4, a5, rfl, ht_5, (by omega), (ht.2.1 a9), (by omega)⟩ (by simp only [mrD] at hD ⊢; omega)) ?_
            rintro _ _ ⟨k_9, op_9, fr_9, tt_9, so_9, iz_9, A_9, W_9, rfl, rfl, f1_9, f2_9, f3_9, f4_9⟩
            show aw_W _ _ _ _ (10, [some (.ref 46), none], []) (ae_en (au σ [(34, nI k_9), (35, nI (hdP l1)), (36, op_9), (37, fr_9), (38, tt_9), (39, so_9), (40, iz_9)]) (au α [(40, A_9), (41, W_9)]) z t0 ts)
            refine aw_go 9 rfl ⟨trivial, trivial, trivial, trivial, trivial, trivial, trivial, trivial, trivial, trivial⟩ ?_
            show aw_W _ _ _ _ (19, [some (.ref 46), none], [.int 0, .int 3, .ref 46]) (ae_en (au σ [(34, nI k_9), (35, nI (hdP l1)), (36, op_9 - 1), (37, fr_9), (38, tt_9), (39, so_9), (40, iz_9)]) (au α [(40, A_9), (41, W_9)]) z t0 ts)
            refine aw_call rfl rfl (ev_Model_addStep (a := 3) (b := 0) (c := k_9) rfl (by omega)) ?_
            rintro _ _ ⟨rfl, rfl⟩
            show aw_W _ _ _ _ (20, [some (.ref 46), none], []) (ae_en (au σ [(34, nI (k_9 + 1)), (35, nI (hdP l1)), (36, op_9 - 1), (37, fr_9), (38, tt_9), (39, so_9), (40, iz_9)]) (au α [(40, upd A_9 (1020 + k_9) 3), (41, upd W_9 (1020 + k_9) 0)]) z t0 ts)
            refine aw_ret rfl rfl trivial ?_
            exact mrQ_bad f1_9 (by omega) (by omega) (up_out f4_9)
          · skip
            have h6 := Classical.not_not.mp h6
            have h6 := cI_eqT (a := 1) (b := 0) rfl rfl (by omega) (by omega) h6
            show aw_W _ _ _ _ (7, [some (.ref 46), none], []) (ae_en (au σ [(36, nI (o + 1)), (37, fr_5), (38, tt_5), (39, so_5), (40, iz_5)]) α z t0 ts)
            exact absurd h6 (by decide)
    · rw [if_neg e5] at hpp
      cases hpp
      show aw_W _ _ _ _ (0, [some (.ref 46), none], []) (ae_en σ α z t0 ts)
      refine aw_go 2 rfl ⟨trivial, trivial, trivial⟩ ?_
      refine aw_callE rfl rfl (ev_Model_isKey (b := 15)) ?_
      show aw_W _ _ _ _ (3, [some (.ref 46), none], [.int (bI ((σ 35) < 0 ∧ (σ 39) = 1 ∧ (σ 40) = 15))]) (ae_en σ α z t0 ts)
      refine aw_top (x2 := 1) ((is_k15 a7t a5).trans (bI_1 e).symm) ?_
      refine aw_go 1 rfl ⟨trivial, trivial⟩ ?_
      refine aw_br (c := (1 : Int32) = 0) (fun h3 => ?_) (fun h3 => ?_)
      · skip
        have h3 := cI_eqT (a := 1) (b := 0) rfl rfl (by omega) (by omega) h3
        show aw_W _ _ _ _ (21, [some (.ref 46), none], []) (ae_en σ α z t0 ts)
        exact absurd h3 (by decide)
      · skip
        have h3 := cI_eqF (a := 1) (b := 0) rfl rfl (by omega) (by omega) h3
        show aw_W _ _ _ _ (4, [some (.ref 46), none], []) (ae_en σ α z t0 ts)
        refine aw_go 1 rfl ⟨trivial, trivial⟩ ?_
        refine aw_call rfl rfl (ev_opens_no  a5 (a6.trans (by rw [show o = 5 by omega]; rfl))) ?_
        rintro _ _ ⟨rfl, rfl⟩
        show aw_W _ _ _ _ (6, [some (.ref 46), none], [.int 0]) (ae_en (au σ [(35, (σ 37))]) α z t0 ts)
        refine aw_go 1 rfl ⟨trivial, trivial⟩ ?_
        refine aw_br (c := ¬ (0 : Int32) = 0) (fun h6 => ?_) (fun h6 => ?_)
        · skip
          have h6 := cI_eqF (a := 0) (b := 0) rfl rfl (by omega) (by omega) h6
          show aw_W _ _ _ _ (8, [some (.ref 46), none], []) (ae_en (au σ [(35, (σ 37))]) α z t0 ts)
          exact absurd h6 (by decide)
        · skip
          have h6 := Classical.not_not.mp h6
          have h6 := cI_eqT (a := 0) (b := 0) rfl rfl (by omega) (by omega) h6
          show aw_W _ _ _ _ (7, [some (.ref 46), none], []) (ae_en (au σ [(35, (σ 37))]) α z t0 ts)
          refine aw_ret rfl rfl trivial ?_
          exact mrQ_no a0
  · rw [if_neg e] at hpp
    rcases bP_some hpp with ⟨l1, s1, q1, hpp⟩ | ⟨l1, s1, q1, rfl⟩
    · have hp := (pp_pH _ _ _ _ _ _ _ q1).1
      have hp1 := hp.1
      have hg1 := hp.2.1 a9
      have hl1 := gL_pos hg1
      by_cases f : hdT l1 = -4 ∨ hdT l1 = -5
      · rw [if_pos f] at hpp
        have f17 : ¬ hdT l1 = -17 := by rcases f with f | f <;> (rw [f]; decide)
        have ht := pH_tail (l := l1) f17
        have ht1 := ht.1
        have hlp := gL_pos (ht.2.1 hg1)
        rcases bP_some hpp with ⟨l2, s2, q2, hpp⟩ | ⟨l2, s2, q2, rfl⟩
        · have hq := (pp_pH _ _ _ _ _ _ _ q2).1
          have hq1 := hq.1
          have hl2 := gL_pos (hq.2.1 (ht.2.1 hg1))
          cases hpp
          show aw_W _ _ _ _ (0, [some (.ref 46), none], []) (ae_en σ α z t0 ts)
          refine aw_go 2 rfl ⟨trivial, trivial, trivial⟩ ?_
          refine aw_callE rfl rfl (ev_Model_isKey (b := 15)) ?_
          show aw_W _ _ _ _ (3, [some (.ref 46), none], [.int (bI ((σ 35) < 0 ∧ (σ 39) = 1 ∧ (σ 40) = 15))]) (ae_en σ α z t0 ts)
          refine aw_top (x2 := 0) ((is_k15 a7t a5).trans (bI_0 e).symm) ?_
          refine aw_go 1 rfl ⟨trivial, trivial⟩ ?_
          refine aw_br (c := (0 : Int32) = 0) (fun h3 => ?_) (fun h3 => ?_)
          · skip
            have h3 := cI_eqT (a := 0) (b := 0) rfl rfl (by omega) (by omega) h3
            show aw_W _ _ _ _ (21, [some (.ref 46), none], []) (ae_en σ α z t0 ts)
            refine aw_go 1 rfl ⟨trivial, trivial⟩ ?_
            refine aw_call rfl rfl (mrX_y ih5 q1 a0 (by simp only [mrD] at hD ⊢; omega)) ?_
            rintro _ _ ⟨fr_22, tt_22, so_22, iz_22, rfl, rfl, ht_22⟩
            show aw_W _ _ _ _ (23, [some (.ref 46), none], []) (ae_en (au σ [(34, nI (c + s1.length)), (35, (-1)), (36, nI o), (37, fr_22), (38, tt_22), (39, so_22), (40, iz_22)]) (au α [(40, putL (α 40) (1020 + c) (s1.map cA)), (41, putL (α 41) (1020 + c) (s1.map cW))]) z t0 ts)
            refine aw_go 2 rfl ⟨trivial, trivial, trivial⟩ ?_
            refine aw_callE rfl rfl (ev_Model_isSign (b := 60)) ?_
            show aw_W _ _ _ _ (26, [some (.ref 46), none], [.int (bI ((-1) < 0 ∧ so_22 = 3 ∧ iz_22 = 60))]) (ae_en (au σ [(34, nI (c + s1.length)), (35, (-1)), (36, nI o), (37, fr_22), (38, tt_22), (39, so_22), (40, iz_22)]) (au α [(40, putL (α 40) (1020 + c) (s1.map cA)), (41, putL (α 41) (1020 + c) (s1.map cW))]) z t0 ts)
            refine aw_top (x2 := bI (hdT l1 = -4)) (is_s60 ht_22.2.2.1 rfl) ?_
            refine aw_go 1 rfl ⟨trivial, trivial⟩ ?_
            refine aw_br (c := ¬ (bI (hdT l1 = -4)) = 0) (fun h26 => ?_) (fun h26 => ?_)
            · skip
              have h26 := bI_t h26
              show aw_W _ _ _ _ (32, [some (.ref 46), none], []) (ae_en (au σ [(34, nI (c + s1.length)), (35, (-1)), (36, nI o), (37, fr_22), (38, tt_22), (39, so_22), (40, iz_22)]) (au α [(40, putL (α 40) (1020 + c) (s1.map cA)), (41, putL (α 41) (1020 + c) (s1.map cW))]) z t0 ts)
              refine aw_go 4 rfl ⟨trivial, trivial, trivial, trivial, trivial⟩ ?_
              show aw_W _ _ _ _ (36, [some (.ref 46), some (.int iz_22)], [.ref 46]) (ae_en (au σ [(34, nI (c + s1.length)), (35, (-1)), (36, nI o), (37, fr_22), (38, tt_22), (39, so_22), (40, iz_22)]) (au α [(40, putL (α 40) (1020 + c) (s1.map cA)), (41, putL (α 41) (1020 + c) (s1.map cW))]) z t0 ts)
              refine aw_call rfl rfl (mr_next2 (s := s) (l := l1) a1 a2 a3 ht_22 f17) ?_
              rintro _ _ ⟨fr_36, tt_36, so_36, iz_36, rfl, rfl, ht_36⟩
              show aw_W _ _ _ _ (37, [some (.ref 46), some (.int iz_22)], []) (ae_en (au σ [(34, nI (c + s1.length)), (35, (-1)), (36, nI o), (37, fr_36), (38, tt_36), (39, so_36), (40, iz_36)]) (au α [(40, putL (α 40) (1020 + c) (s1.map cA)), (41, putL (α 41) (1020 + c) (s1.map cW))]) z t0 ts)
              refine aw_go 1 rfl ⟨trivial, trivial⟩ ?_
              refine aw_call rfl rfl (mrX_y ih5 q2 ⟨a1, a2, a3, rfl, rfl, rfl, ht_36, (by omega), (ht.2.1 hg1), a10⟩ (by simp only [mrD] at hD ⊢; omega)) ?_
              rintro _ _ ⟨fr_38, tt_38, so_38, iz_38, rfl, rfl, ht_38⟩
              show aw_W _ _ _ _ (39, [some (.ref 46), some (.int iz_22)], []) (ae_en (au σ [(34, nI ((c + s1.length) + s2.length)), (35, (-1)), (36, nI o), (37, fr_38), (38, tt_38), (39, so_38), (40, iz_38)]) (au α [(40, putL (putL (α 40) (1020 + c) (s1.map cA)) (1020 + (c + s1.length)) (s2.map cA)), (41, putL (putL (α 41) (1020 + c) (s1.map cW)) (1020 + (c + s1.length)) (s2.map cW))]) z t0 ts)
              refine aw_go 3 rfl ⟨trivial, trivial, trivial, trivial⟩ ?_
              refine aw_call rfl rfl (ev_Model_addStep (a := iz_22) (b := 0) (c := (c + s1.length + s2.length)) rfl (by omega)) ?_
              rintro _ _ ⟨rfl, rfl⟩
              show aw_W _ _ _ _ (43, [some (.ref 46), some (.int iz_22)], []) (ae_en (au σ [(34, nI ((c + s1.length + s2.length) + 1)), (35, (-1)), (36, nI o), (37, fr_38), (38, tt_38), (39, so_38), (40, iz_38)]) (au α [(40, upd (putL (putL (α 40) (1020 + c) (s1.map cA)) (1020 + (c + s1.length)) (s2.map cA)) (1020 + (c + s1.length + s2.length)) iz_22), (41, upd (putL (putL (α 41) (1020 + c) (s1.map cW)) (1020 + (c + s1.length)) (s2.map cW)) (1020 + (c + s1.length + s2.length)) 0)]) z t0 ts)
              refine aw_ret rfl rfl trivial ?_
              obtain ⟨b1, b2⟩ := tk_bin ht_22.2.2.1 (f.elim Or.inl (fun q => Or.inr (Or.inl q)))
              exact mrQ_ok (by simp only [List.length_append, List.length_cons, List.length_nil]; omega) (up_map2 (by omega) (by omega) b1) (up_map2 (by omega) (by omega) b2) ht_38
            · skip
              have h26 := bI_f (Classical.not_not.mp h26)
              show aw_W _ _ _ _ (27, [some (.ref 46), none], []) (ae_en (au σ [(34, nI (c + s1.length)), (35, (-1)), (36, nI o), (37, fr_22), (38, tt_22), (39, so_22), (40, iz_22)]) (au α [(40, putL (α 40) (1020 + c) (s1.map cA)), (41, putL (α 41) (1020 + c) (s1.map cW))]) z t0 ts)
              refine aw_go 2 rfl ⟨trivial, trivial, trivial⟩ ?_
              refine aw_callE rfl rfl (ev_Model_isSign (b := 61)) ?_
              show aw_W _ _ _ _ (30, [some (.ref 46), none], [.int (bI ((-1) < 0 ∧ so_22 = 3 ∧ iz_22 = 61))]) (ae_en (au σ [(34, nI (c + s1.length)), (35, (-1)), (36, nI o), (37, fr_22), (38, tt_22), (39, so_22), (40, iz_22)]) (au α [(40, putL (α 40) (1020 + c) (s1.map cA)), (41, putL (α 41) (1020 + c) (s1.map cW))]) z t0 ts)
              refine aw_top (x2 := bI (hdT l1 = -5)) (is_s61 ht_22.2.2.1 rfl) ?_
              refine aw_go 1 rfl ⟨trivial, trivial⟩ ?_
              refine aw_br (c := ¬ (bI (hdT l1 = -5)) = 0) (fun h30 => ?_) (fun h30 => ?_)
              · skip
                have h30 := bI_t h30
                show aw_W _ _ _ _ (32, [some (.ref 46), none], []) (ae_en (au σ [(34, nI (c + s1.length)), (35, (-1)), (36, nI o), (37, fr_22), (38, tt_22), (39, so_22), (40, iz_22)]) (au α [(40, putL (α 40) (1020 + c) (s1.map cA)), (41, putL (α 41) (1020 + c) (s1.map cW))]) z t0 ts)
                refine aw_go 4 rfl ⟨trivial, trivial, trivial, trivial, trivial⟩ ?_
                show aw_W _ _ _ _ (36, [some (.ref 46), some (.int iz_22)], [.ref 46]) (ae_en (au σ [(34, nI (c + s1.length)), (35, (-1)), (36, nI o), (37, fr_22), (38, tt_22), (39, so_22), (40, iz_22)]) (au α [(40, putL (α 40) (1020 + c) (s1.map cA)), (41, putL (α 41) (1020 + c) (s1.map cW))]) z t0 ts)
                refine aw_call rfl rfl (mr_next2 (s := s) (l := l1) a1 a2 a3 ht_22 f17) ?_
                rintro _ _ ⟨fr_36, tt_36, so_36, iz_36, rfl, rfl, ht_36⟩
                show aw_W _ _ _ _ (37, [some (.ref 46), some (.int iz_22)], []) (ae_en (au σ [(34, nI (c + s1.length)), (35, (-1)), (36, nI o), (37, fr_36), (38, tt_36), (39, so_36), (40, iz_36)]) (au α [(40, putL (α 40) (1020 + c) (s1.map cA)), (41, putL (α 41) (1020 + c) (s1.map cW))]) z t0 ts)
                refine aw_go 1 rfl ⟨trivial, trivial⟩ ?_
                refine aw_call rfl rfl (mrX_y ih5 q2 ⟨a1, a2, a3, rfl, rfl, rfl, ht_36, (by omega), (ht.2.1 hg1), a10⟩ (by simp only [mrD] at hD ⊢; omega)) ?_
                rintro _ _ ⟨fr_38, tt_38, so_38, iz_38, rfl, rfl, ht_38⟩
                show aw_W _ _ _ _ (39, [some (.ref 46), some (.int iz_22)], []) (ae_en (au σ [(34, nI ((c + s1.length) + s2.length)), (35, (-1)), (36, nI o), (37, fr_38), (38, tt_38), (39, so_38), (40, iz_38)]) (au α [(40, putL (putL (α 40) (1020 + c) (s1.map cA)) (1020 + (c + s1.length)) (s2.map cA)), (41, putL (putL (α 41) (1020 + c) (s1.map cW)) (1020 + (c + s1.length)) (s2.map cW))]) z t0 ts)
                refine aw_go 3 rfl ⟨trivial, trivial, trivial, trivial⟩ ?_
                refine aw_call rfl rfl (ev_Model_addStep (a := iz_22) (b := 0) (c := (c + s1.length + s2.length)) rfl (by omega)) ?_
                rintro _ _ ⟨rfl, rfl⟩
                show aw_W _ _ _ _ (43, [some (.ref 46), some (.int iz_22)], []) (ae_en (au σ [(34, nI ((c + s1.length + s2.length) + 1)), (35, (-1)), (36, nI o), (37, fr_38), (38, tt_38), (39, so_38), (40, iz_38)]) (au α [(40, upd (putL (putL (α 40) (1020 + c) (s1.map cA)) (1020 + (c + s1.length)) (s2.map cA)) (1020 + (c + s1.length + s2.length)) iz_22), (41, upd (putL (putL (α 41) (1020 + c) (s1.map cW)) (1020 + (c + s1.length)) (s2.map cW)) (1020 + (c + s1.length + s2.length)) 0)]) z t0 ts)
                refine aw_ret rfl rfl trivial ?_
                obtain ⟨b1, b2⟩ := tk_bin ht_22.2.2.1 (f.elim Or.inl (fun q => Or.inr (Or.inl q)))
                exact mrQ_ok (by simp only [List.length_append, List.length_cons, List.length_nil]; omega) (up_map2 (by omega) (by omega) b1) (up_map2 (by omega) (by omega) b2) ht_38
              · skip
                have h30 := bI_f (Classical.not_not.mp h30)
                show aw_W _ _ _ _ (31, [some (.ref 46), none], []) (ae_en (au σ [(34, nI (c + s1.length)), (35, (-1)), (36, nI o), (37, fr_22), (38, tt_22), (39, so_22), (40, iz_22)]) (au α [(40, putL (α 40) (1020 + c) (s1.map cA)), (41, putL (α 41) (1020 + c) (s1.map cW))]) z t0 ts)
                exact absurd f (fun q => q.elim h26 h30)
          · skip
            have h3 := cI_eqF (a := 0) (b := 0) rfl rfl (by omega) (by omega) h3
            show aw_W _ _ _ _ (4, [some (.ref 46), none], []) (ae_en σ α z t0 ts)
            exact absurd h3 (by decide)
        · have hq := (pp_pH _ _ _ _ _ _ _ q2).1
          have hq1 := hq.1
          have hl2 := gL_pos (hq.2.1 (ht.2.1 hg1))
          show aw_W _ _ _ _ (0, [some (.ref 46), none], []) (ae_en σ α z t0 ts)
          refine aw_go 2 rfl ⟨trivial, trivial, trivial⟩ ?_
          refine aw_callE rfl rfl (ev_Model_isKey (b := 15)) ?_
          show aw_W _ _ _ _ (3, [some (.ref 46), none], [.int (bI ((σ 35) < 0 ∧ (σ 39) = 1 ∧ (σ 40) = 15))]) (ae_en σ α z t0 ts)
          refine aw_top (x2 := 0) ((is_k15 a7t a5).trans (bI_0 e).symm) ?_
          refine aw_go 1 rfl ⟨trivial, trivial⟩ ?_
          refine aw_br (c := (0 : Int32) = 0) (fun h3 => ?_) (fun h3 => ?_)
          · skip
            have h3 := cI_eqT (a := 0) (b := 0) rfl rfl (by omega) (by omega) h3
            show aw_W _ _ _ _ (21, [some (.ref 46), none], []) (ae_en σ α z t0 ts)
            refine aw_go 1 rfl ⟨trivial, trivial⟩ ?_
            refine aw_call rfl rfl (mrX_y ih5 q1 a0 (by simp only [mrD] at hD ⊢; omega)) ?_
            rintro _ _ ⟨fr_22, tt_22, so_22, iz_22, rfl, rfl, ht_22⟩
            show aw_W _ _ _ _ (23, [some (.ref 46), none], []) (ae_en (au σ [(34, nI (c + s1.length)), (35, (-1)), (36, nI o), (37, fr_22), (38, tt_22), (39, so_22), (40, iz_22)]) (au α [(40, putL (α 40) (1020 + c) (s1.map cA)), (41, putL (α 41) (1020 + c) (s1.map cW))]) z t0 ts)
            refine aw_go 2 rfl ⟨trivial, trivial, trivial⟩ ?_
            refine aw_callE rfl rfl (ev_Model_isSign (b := 60)) ?_
            show aw_W _ _ _ _ (26, [some (.ref 46), none], [.int (bI ((-1) < 0 ∧ so_22 = 3 ∧ iz_22 = 60))]) (ae_en (au σ [(34, nI (c + s1.length)), (35, (-1)), (36, nI o), (37, fr_22), (38, tt_22), (39, so_22), (40, iz_22)]) (au α [(40, putL (α 40) (1020 + c) (s1.map cA)), (41, putL (α 41) (1020 + c) (s1.map cW))]) z t0 ts)
            refine aw_top (x2 := bI (hdT l1 = -4)) (is_s60 ht_22.2.2.1 rfl) ?_
            refine aw_go 1 rfl ⟨trivial, trivial⟩ ?_
            refine aw_br (c := ¬ (bI (hdT l1 = -4)) = 0) (fun h26 => ?_) (fun h26 => ?_)
            · skip
              have h26 := bI_t h26
              show aw_W _ _ _ _ (32, [some (.ref 46), none], []) (ae_en (au σ [(34, nI (c + s1.length)), (35, (-1)), (36, nI o), (37, fr_22), (38, tt_22), (39, so_22), (40, iz_22)]) (au α [(40, putL (α 40) (1020 + c) (s1.map cA)), (41, putL (α 41) (1020 + c) (s1.map cW))]) z t0 ts)
              refine aw_go 4 rfl ⟨trivial, trivial, trivial, trivial, trivial⟩ ?_
              show aw_W _ _ _ _ (36, [some (.ref 46), some (.int iz_22)], [.ref 46]) (ae_en (au σ [(34, nI (c + s1.length)), (35, (-1)), (36, nI o), (37, fr_22), (38, tt_22), (39, so_22), (40, iz_22)]) (au α [(40, putL (α 40) (1020 + c) (s1.map cA)), (41, putL (α 41) (1020 + c) (s1.map cW))]) z t0 ts)
              refine aw_call rfl rfl (mr_next2 (s := s) (l := l1) a1 a2 a3 ht_22 f17) ?_
              rintro _ _ ⟨fr_36, tt_36, so_36, iz_36, rfl, rfl, ht_36⟩
              show aw_W _ _ _ _ (37, [some (.ref 46), some (.int iz_22)], []) (ae_en (au σ [(34, nI (c + s1.length)), (35, (-1)), (36, nI o), (37, fr_36), (38, tt_36), (39, so_36), (40, iz_36)]) (au α [(40, putL (α 40) (1020 + c) (s1.map cA)), (41, putL (α 41) (1020 + c) (s1.map cW))]) z t0 ts)
              refine aw_go 1 rfl ⟨trivial, trivial⟩ ?_
              refine aw_call rfl rfl (mrX_n ih5 q2 ⟨a1, a2, a3, rfl, rfl, rfl, ht_36, (by omega), (ht.2.1 hg1), a10⟩ (by simp only [mrD] at hD ⊢; omega)) ?_
              rintro _ _ ⟨k_38, op_38, fr_38, tt_38, so_38, iz_38, A_38, W_38, rfl, rfl, f1_38, f2_38, f3_38, f4_38⟩
              show aw_W _ _ _ _ (39, [some (.ref 46), some (.int iz_22)], []) (ae_en (au σ [(34, nI k_38), (35, nI (hdP l2)), (36, op_38), (37, fr_38), (38, tt_38), (39, so_38), (40, iz_38)]) (au α [(40, A_38), (41, W_38)]) z t0 ts)
              refine aw_go 3 rfl ⟨trivial, trivial, trivial, trivial⟩ ?_
              refine aw_call rfl rfl (ev_Model_addStep (a := iz_22) (b := 0) (c := k_38) rfl (by omega)) ?_
              rintro _ _ ⟨rfl, rfl⟩
              show aw_W _ _ _ _ (43, [some (.ref 46), some (.int iz_22)], []) (ae_en (au σ [(34, nI (k_38 + 1)), (35, nI (hdP l2)), (36, op_38), (37, fr_38), (38, tt_38), (39, so_38), (40, iz_38)]) (au α [(40, upd A_38 (1020 + k_38) iz_22), (41, upd W_38 (1020 + k_38) 0)]) z t0 ts)
              refine aw_ret rfl rfl trivial ?_
              exact mrQ_bad f1_38 (by omega) (by omega) (up_out (out_tr f4_38 put_out))
            · skip
              have h26 := bI_f (Classical.not_not.mp h26)
              show aw_W _ _ _ _ (27, [some (.ref 46), none], []) (ae_en (au σ [(34, nI (c + s1.length)), (35, (-1)), (36, nI o), (37, fr_22), (38, tt_22), (39, so_22), (40, iz_22)]) (au α [(40, putL (α 40) (1020 + c) (s1.map cA)), (41, putL (α 41) (1020 + c) (s1.map cW))]) z t0 ts)
              refine aw_go 2 rfl ⟨trivial, trivial, trivial⟩ ?_
              refine aw_callE rfl rfl (ev_Model_isSign (b := 61)) ?_
              show aw_W _ _ _ _ (30, [some (.ref 46), none], [.int (bI ((-1) < 0 ∧ so_22 = 3 ∧ iz_22 = 61))]) (ae_en (au σ [(34, nI (c + s1.length)), (35, (-1)), (36, nI o), (37, fr_22), (38, tt_22), (39, so_22), (40, iz_22)]) (au α [(40, putL (α 40) (1020 + c) (s1.map cA)), (41, putL (α 41) (1020 + c) (s1.map cW))]) z t0 ts)
              refine aw_top (x2 := bI (hdT l1 = -5)) (is_s61 ht_22.2.2.1 rfl) ?_
              refine aw_go 1 rfl ⟨trivial, trivial⟩ ?_
              refine aw_br (c := ¬ (bI (hdT l1 = -5)) = 0) (fun h30 => ?_) (fun h30 => ?_)
              · skip
                have h30 := bI_t h30
                show aw_W _ _ _ _ (32, [some (.ref 46), none], []) (ae_en (au σ [(34, nI (c + s1.length)), (35, (-1)), (36, nI o), (37, fr_22), (38, tt_22), (39, so_22), (40, iz_22)]) (au α [(40, putL (α 40) (1020 + c) (s1.map cA)), (41, putL (α 41) (1020 + c) (s1.map cW))]) z t0 ts)
                refine aw_go 4 rfl ⟨trivial, trivial, trivial, trivial, trivial⟩ ?_
                show aw_W _ _ _ _ (36, [some (.ref 46), some (.int iz_22)], [.ref 46]) (ae_en (au σ [(34, nI (c + s1.length)), (35, (-1)), (36, nI o), (37, fr_22), (38, tt_22), (39, so_22), (40, iz_22)]) (au α [(40, putL (α 40) (1020 + c) (s1.map cA)), (41, putL (α 41) (1020 + c) (s1.map cW))]) z t0 ts)
                refine aw_call rfl rfl (mr_next2 (s := s) (l := l1) a1 a2 a3 ht_22 f17) ?_
                rintro _ _ ⟨fr_36, tt_36, so_36, iz_36, rfl, rfl, ht_36⟩
                show aw_W _ _ _ _ (37, [some (.ref 46), some (.int iz_22)], []) (ae_en (au σ [(34, nI (c + s1.length)), (35, (-1)), (36, nI o), (37, fr_36), (38, tt_36), (39, so_36), (40, iz_36)]) (au α [(40, putL (α 40) (1020 + c) (s1.map cA)), (41, putL (α 41) (1020 + c) (s1.map cW))]) z t0 ts)
                refine aw_go 1 rfl ⟨trivial, trivial⟩ ?_
                refine aw_call rfl rfl (mrX_n ih5 q2 ⟨a1, a2, a3, rfl, rfl, rfl, ht_36, (by omega), (ht.2.1 hg1), a10⟩ (by simp only [mrD] at hD ⊢; omega)) ?_
                rintro _ _ ⟨k_38, op_38, fr_38, tt_38, so_38, iz_38, A_38, W_38, rfl, rfl, f1_38, f2_38, f3_38, f4_38⟩
                show aw_W _ _ _ _ (39, [some (.ref 46), some (.int iz_22)], []) (ae_en (au σ [(34, nI k_38), (35, nI (hdP l2)), (36, op_38), (37, fr_38), (38, tt_38), (39, so_38), (40, iz_38)]) (au α [(40, A_38), (41, W_38)]) z t0 ts)
                refine aw_go 3 rfl ⟨trivial, trivial, trivial, trivial⟩ ?_
                refine aw_call rfl rfl (ev_Model_addStep (a := iz_22) (b := 0) (c := k_38) rfl (by omega)) ?_
                rintro _ _ ⟨rfl, rfl⟩
                show aw_W _ _ _ _ (43, [some (.ref 46), some (.int iz_22)], []) (ae_en (au σ [(34, nI (k_38 + 1)), (35, nI (hdP l2)), (36, op_38), (37, fr_38), (38, tt_38), (39, so_38), (40, iz_38)]) (au α [(40, upd A_38 (1020 + k_38) iz_22), (41, upd W_38 (1020 + k_38) 0)]) z t0 ts)
                refine aw_ret rfl rfl trivial ?_
                exact mrQ_bad f1_38 (by omega) (by omega) (up_out (out_tr f4_38 put_out))
              · skip
                have h30 := bI_f (Classical.not_not.mp h30)
                show aw_W _ _ _ _ (31, [some (.ref 46), none], []) (ae_en (au σ [(34, nI (c + s1.length)), (35, (-1)), (36, nI o), (37, fr_22), (38, tt_22), (39, so_22), (40, iz_22)]) (au α [(40, putL (α 40) (1020 + c) (s1.map cA)), (41, putL (α 41) (1020 + c) (s1.map cW))]) z t0 ts)
                exact absurd f (fun q => q.elim h26 h30)
          · skip
            have h3 := cI_eqF (a := 0) (b := 0) rfl rfl (by omega) (by omega) h3
            show aw_W _ _ _ _ (4, [some (.ref 46), none], []) (ae_en σ α z t0 ts)
            exact absurd h3 (by decide)
      · rw [if_neg f] at hpp
        cases hpp
        show aw_W _ _ _ _ (0, [some (.ref 46), none], []) (ae_en σ α z t0 ts)
        refine aw_go 2 rfl ⟨trivial, trivial, trivial⟩ ?_
        refine aw_callE rfl rfl (ev_Model_isKey (b := 15)) ?_
        show aw_W _ _ _ _ (3, [some (.ref 46), none], [.int (bI ((σ 35) < 0 ∧ (σ 39) = 1 ∧ (σ 40) = 15))]) (ae_en σ α z t0 ts)
        refine aw_top (x2 := 0) ((is_k15 a7t a5).trans (bI_0 e).symm) ?_
        refine aw_go 1 rfl ⟨trivial, trivial⟩ ?_
        refine aw_br (c := (0 : Int32) = 0) (fun h3 => ?_) (fun h3 => ?_)
        · skip
          have h3 := cI_eqT (a := 0) (b := 0) rfl rfl (by omega) (by omega) h3
          show aw_W _ _ _ _ (21, [some (.ref 46), none], []) (ae_en σ α z t0 ts)
          refine aw_go 1 rfl ⟨trivial, trivial⟩ ?_
          refine aw_call rfl rfl (mrX_y ih5 q1 a0 (by simp only [mrD] at hD ⊢; omega)) ?_
          rintro _ _ ⟨fr_22, tt_22, so_22, iz_22, rfl, rfl, ht_22⟩
          show aw_W _ _ _ _ (23, [some (.ref 46), none], []) (ae_en (au σ [(34, nI (c + s1.length)), (35, (-1)), (36, nI o), (37, fr_22), (38, tt_22), (39, so_22), (40, iz_22)]) (au α [(40, putL (α 40) (1020 + c) (s1.map cA)), (41, putL (α 41) (1020 + c) (s1.map cW))]) z t0 ts)
          refine aw_go 2 rfl ⟨trivial, trivial, trivial⟩ ?_
          refine aw_callE rfl rfl (ev_Model_isSign (b := 60)) ?_
          show aw_W _ _ _ _ (26, [some (.ref 46), none], [.int (bI ((-1) < 0 ∧ so_22 = 3 ∧ iz_22 = 60))]) (ae_en (au σ [(34, nI (c + s1.length)), (35, (-1)), (36, nI o), (37, fr_22), (38, tt_22), (39, so_22), (40, iz_22)]) (au α [(40, putL (α 40) (1020 + c) (s1.map cA)), (41, putL (α 41) (1020 + c) (s1.map cW))]) z t0 ts)
          refine aw_top (x2 := bI (hdT l1 = -4)) (is_s60 ht_22.2.2.1 rfl) ?_
          refine aw_go 1 rfl ⟨trivial, trivial⟩ ?_
          refine aw_br (c := ¬ (bI (hdT l1 = -4)) = 0) (fun h26 => ?_) (fun h26 => ?_)
          · skip
            have h26 := bI_t h26
            show aw_W _ _ _ _ (32, [some (.ref 46), none], []) (ae_en (au σ [(34, nI (c + s1.length)), (35, (-1)), (36, nI o), (37, fr_22), (38, tt_22), (39, so_22), (40, iz_22)]) (au α [(40, putL (α 40) (1020 + c) (s1.map cA)), (41, putL (α 41) (1020 + c) (s1.map cW))]) z t0 ts)
            exact absurd (Or.inl h26) f
          · skip
            have h26 := bI_f (Classical.not_not.mp h26)
            show aw_W _ _ _ _ (27, [some (.ref 46), none], []) (ae_en (au σ [(34, nI (c + s1.length)), (35, (-1)), (36, nI o), (37, fr_22), (38, tt_22), (39, so_22), (40, iz_22)]) (au α [(40, putL (α 40) (1020 + c) (s1.map cA)), (41, putL (α 41) (1020 + c) (s1.map cW))]) z t0 ts)
            refine aw_go 2 rfl ⟨trivial, trivial, trivial⟩ ?_
            refine aw_callE rfl rfl (ev_Model_isSign (b := 61)) ?_
            show aw_W _ _ _ _ (30, [some (.ref 46), none], [.int (bI ((-1) < 0 ∧ so_22 = 3 ∧ iz_22 = 61))]) (ae_en (au σ [(34, nI (c + s1.length)), (35, (-1)), (36, nI o), (37, fr_22), (38, tt_22), (39, so_22), (40, iz_22)]) (au α [(40, putL (α 40) (1020 + c) (s1.map cA)), (41, putL (α 41) (1020 + c) (s1.map cW))]) z t0 ts)
            refine aw_top (x2 := bI (hdT l1 = -5)) (is_s61 ht_22.2.2.1 rfl) ?_
            refine aw_go 1 rfl ⟨trivial, trivial⟩ ?_
            refine aw_br (c := ¬ (bI (hdT l1 = -5)) = 0) (fun h30 => ?_) (fun h30 => ?_)
            · skip
              have h30 := bI_t h30
              show aw_W _ _ _ _ (32, [some (.ref 46), none], []) (ae_en (au σ [(34, nI (c + s1.length)), (35, (-1)), (36, nI o), (37, fr_22), (38, tt_22), (39, so_22), (40, iz_22)]) (au α [(40, putL (α 40) (1020 + c) (s1.map cA)), (41, putL (α 41) (1020 + c) (s1.map cW))]) z t0 ts)
              exact absurd (Or.inr h30) f
            · skip
              have h30 := bI_f (Classical.not_not.mp h30)
              show aw_W _ _ _ _ (31, [some (.ref 46), none], []) (ae_en (au σ [(34, nI (c + s1.length)), (35, (-1)), (36, nI o), (37, fr_22), (38, tt_22), (39, so_22), (40, iz_22)]) (au α [(40, putL (α 40) (1020 + c) (s1.map cA)), (41, putL (α 41) (1020 + c) (s1.map cW))]) z t0 ts)
              refine aw_ret rfl rfl trivial ?_
              exact mrQ_ok rfl rfl rfl ht_22
        · skip
          have h3 := cI_eqF (a := 0) (b := 0) rfl rfl (by omega) (by omega) h3
          show aw_W _ _ _ _ (4, [some (.ref 46), none], []) (ae_en σ α z t0 ts)
          exact absurd h3 (by decide)
    · have hp := (pp_pH _ _ _ _ _ _ _ q1).1
      have hp1 := hp.1
      show aw_W _ _ _ _ (0, [some (.ref 46), none], []) (ae_en σ α z t0 ts)
      refine aw_go 2 rfl ⟨trivial, trivial, trivial⟩ ?_
      refine aw_callE rfl rfl (ev_Model_isKey (b := 15)) ?_
      show aw_W _ _ _ _ (3, [some (.ref 46), none], [.int (bI ((σ 35) < 0 ∧ (σ 39) = 1 ∧ (σ 40) = 15))]) (ae_en σ α z t0 ts)
      refine aw_top (x2 := 0) ((is_k15 a7t a5).trans (bI_0 e).symm) ?_
      refine aw_go 1 rfl ⟨trivial, trivial⟩ ?_
      refine aw_br (c := (0 : Int32) = 0) (fun h3 => ?_) (fun h3 => ?_)
      · skip
        have h3 := cI_eqT (a := 0) (b := 0) rfl rfl (by omega) (by omega) h3
        show aw_W _ _ _ _ (21, [some (.ref 46), none], []) (ae_en σ α z t0 ts)
        refine aw_go 1 rfl ⟨trivial, trivial⟩ ?_
        refine aw_call rfl rfl (mrX_n ih5 q1 a0 (by simp only [mrD] at hD ⊢; omega)) ?_
        rintro _ _ ⟨k_22, op_22, fr_22, tt_22, so_22, iz_22, A_22, W_22, rfl, rfl, f1_22, f2_22, f3_22, f4_22⟩
        show aw_W _ _ _ _ (23, [some (.ref 46), none], []) (ae_en (au σ [(34, nI k_22), (35, nI (hdP l1)), (36, op_22), (37, fr_22), (38, tt_22), (39, so_22), (40, iz_22)]) (au α [(40, A_22), (41, W_22)]) z t0 ts)
        refine aw_go 2 rfl ⟨trivial, trivial, trivial⟩ ?_
        refine aw_callE rfl rfl (ev_Model_isSign (b := 60)) ?_
        show aw_W _ _ _ _ (26, [some (.ref 46), none], [.int (bI ((nI (hdP l1)) < 0 ∧ so_22 = 3 ∧ iz_22 = 60))]) (ae_en (au σ [(34, nI k_22), (35, nI (hdP l1)), (36, op_22), (37, fr_22), (38, tt_22), (39, so_22), (40, iz_22)]) (au α [(40, A_22), (41, W_22)]) z t0 ts)
        refine aw_top (x2 := 0) (is_no (p := hdP l1) (by omega) rfl) ?_
        refine aw_go 1 rfl ⟨trivial, trivial⟩ ?_
        refine aw_br (c := ¬ (0 : Int32) = 0) (fun h26 => ?_) (fun h26 => ?_)
        · skip
          have h26 := cI_eqF (a := 0) (b := 0) rfl rfl (by omega) (by omega) h26
          show aw_W _ _ _ _ (32, [some (.ref 46), none], []) (ae_en (au σ [(34, nI k_22), (35, nI (hdP l1)), (36, op_22), (37, fr_22), (38, tt_22), (39, so_22), (40, iz_22)]) (au α [(40, A_22), (41, W_22)]) z t0 ts)
          exact absurd h26 (by decide)
        · skip
          have h26 := Classical.not_not.mp h26
          have h26 := cI_eqT (a := 0) (b := 0) rfl rfl (by omega) (by omega) h26
          show aw_W _ _ _ _ (27, [some (.ref 46), none], []) (ae_en (au σ [(34, nI k_22), (35, nI (hdP l1)), (36, op_22), (37, fr_22), (38, tt_22), (39, so_22), (40, iz_22)]) (au α [(40, A_22), (41, W_22)]) z t0 ts)
          refine aw_go 2 rfl ⟨trivial, trivial, trivial⟩ ?_
          refine aw_callE rfl rfl (ev_Model_isSign (b := 61)) ?_
          show aw_W _ _ _ _ (30, [some (.ref 46), none], [.int (bI ((nI (hdP l1)) < 0 ∧ so_22 = 3 ∧ iz_22 = 61))]) (ae_en (au σ [(34, nI k_22), (35, nI (hdP l1)), (36, op_22), (37, fr_22), (38, tt_22), (39, so_22), (40, iz_22)]) (au α [(40, A_22), (41, W_22)]) z t0 ts)
          refine aw_top (x2 := 0) (is_no (p := hdP l1) (by omega) rfl) ?_
          refine aw_go 1 rfl ⟨trivial, trivial⟩ ?_
          refine aw_br (c := ¬ (0 : Int32) = 0) (fun h30 => ?_) (fun h30 => ?_)
          · skip
            have h30 := cI_eqF (a := 0) (b := 0) rfl rfl (by omega) (by omega) h30
            show aw_W _ _ _ _ (32, [some (.ref 46), none], []) (ae_en (au σ [(34, nI k_22), (35, nI (hdP l1)), (36, op_22), (37, fr_22), (38, tt_22), (39, so_22), (40, iz_22)]) (au α [(40, A_22), (41, W_22)]) z t0 ts)
            exact absurd h30 (by decide)
          · skip
            have h30 := Classical.not_not.mp h30
            have h30 := cI_eqT (a := 0) (b := 0) rfl rfl (by omega) (by omega) h30
            show aw_W _ _ _ _ (31, [some (.ref 46), none], []) (ae_en (au σ [(34, nI k_22), (35, nI (hdP l1)), (36, op_22), (37, fr_22), (38, tt_22), (39, so_22), (40, iz_22)]) (au α [(40, A_22), (41, W_22)]) z t0 ts)
            refine aw_ret rfl rfl trivial ?_
            exact mrQ_bad f1_22 (by omega) (by omega) f4_22
      · skip
        have h3 := cI_eqF (a := 0) (b := 0) rfl rfl (by omega) (by omega) h3
        show aw_W _ _ _ _ (4, [some (.ref 46), none], []) (ae_en σ α z t0 ts)
        exact absurd h3 (by decide)
theorem mr_one {s m : Nat} (ih0 : mrX P z t0 ts s m 0) (ih9 : mrX P z t0 ts s m 9) : mrX P z t0 ts s (m + 1) 9 := by
  intro σ α o l R c D hpp hP hD
  obtain ⟨D, rfl⟩ : ∃ E, D = E + 6 := ⟨D - 6, by simp only [mrD] at hD; omega⟩
  have a0 := hP
  obtain ⟨a1, a2, a3, a4, a5, a6, a7, a8, a9, a10⟩ := hP
  have a7t := a7.2.2.1
  have a7p := a7.2.1
  have hlp0 := gL_pos a9
  refine aw_ev (cd := cd_Model_one) rfl rfl rfl ?_
  replace hpp : (if ¬ hdT l < 0 ∧ ¬ 10005 < hdT l then some (true, l.tail, [hdT l]) else if 5 ≤ o then some (false, l, []) else if hdT l = -7 then bP (pp m 9 (o + 1) l.tail) (fun l1 s1 => some (true, l1, s1 ++ [-12])) else if hdT l = -9 then bP (pp m 0 (o + 1) l.tail) (fun l1 s1 => if hdT l1 = -10 then some (true, l1.tail, s1) else some (false, l1, [])) else some (false, l, [])) = some R := hpp
  by_cases e : ¬ hdT l < 0 ∧ ¬ 10005 < hdT l
  · rw [if_pos e] at hpp
    cases hpp
    have e17 : ¬ hdT l = -17 := fun q => e.1 (by rw [q]; decide)
    show aw_W _ _ _ _ (0, [some (.ref 46)], []) (ae_en σ α z t0 ts)
    refine aw_go 3 rfl ⟨trivial, trivial, trivial, trivial⟩ ?_
    show aw_W _ _ _ _ (if (σ 35) < 0 then 4 else 3, [some (.ref 46)], []) (ae_en σ α z t0 ts)
    refine aw_br (c := (σ 35) < 0) (fun h2 => ?_) (fun h2 => ?_)
    · skip
      show aw_W _ _ _ _ (4, [some (.ref 46)], []) (ae_en σ α z t0 ts)
      refine aw_go 4 rfl ⟨trivial, trivial, trivial, trivial, trivial⟩ ?_
      show aw_W _ _ _ _ (if ¬ (σ 39) = 2 then 16 else 8, [some (.ref 46)], []) (ae_en σ α z t0 ts)
      refine aw_br (c := ¬ (σ 39) = 2) (fun h7 => ?_) (fun h7 => ?_)
      · skip
        show aw_W _ _ _ _ (16, [some (.ref 46)], []) (ae_en σ α z t0 ts)
        refine aw_go 4 rfl ⟨trivial, trivial, trivial, trivial, trivial⟩ ?_
        show aw_W _ _ _ _ (if ¬ (σ 39) = 1 then 32 else 20, [some (.ref 46)], []) (ae_en σ α z t0 ts)
        refine aw_br (c := ¬ (σ 39) = 1) (fun h19 => ?_) (fun h19 => ?_)
        · skip
          show aw_W _ _ _ _ (32, [some (.ref 46)], []) (ae_en σ α z t0 ts)
          exact absurd (tk_none a7t h7 (fun q => h19 q.1)) e.1
        · skip
          have h19 := Classical.not_not.mp h19
          show aw_W _ _ _ _ (20, [some (.ref 46)], []) (ae_en σ α z t0 ts)
          refine aw_go 4 rfl ⟨trivial, trivial, trivial, trivial, trivial⟩ ?_
          show aw_W _ _ _ _ (if (6 : Int32) ≤ (σ 40) then 32 else 24, [some (.ref 46)], []) (ae_en σ α z t0 ts)
          refine aw_br (c := (6 : Int32) ≤ (σ 40)) (fun h23 => ?_) (fun h23 => ?_)
          · skip
            show aw_W _ _ _ _ (32, [some (.ref 46)], []) (ae_en σ α z t0 ts)
            exact absurd (tk_none a7t h7 (fun q => Int32.not_lt.mpr h23 q.2)) e.1
          · skip
            show aw_W _ _ _ _ (24, [some (.ref 46)], []) (ae_en σ α z t0 ts)
            refine aw_go 4 rfl ⟨trivial, trivial, trivial, trivial, trivial⟩ ?_
            show aw_W _ _ _ _ (28, [some (.ref 46)], [.int (σ 40), .int 2, .ref 46]) (ae_en σ α z t0 ts)
            refine aw_call rfl rfl (ev_Model_addStep (a := 2) (b := (σ 40)) (c := c) a4 (by omega)) ?_
            rintro _ _ ⟨rfl, rfl⟩
            show aw_W _ _ _ _ (29, [some (.ref 46)], []) (ae_en (au σ [(34, nI (c + 1))]) (au α [(40, upd (α 40) (1020 + c) 2), (41, upd (α 41) (1020 + c) (σ 40))]) z t0 ts)
            refine aw_go 1 rfl ⟨trivial, trivial⟩ ?_
            refine aw_call rfl rfl (mr_next2 (s := s) (l := l) a1 a2 a3 a7 e17) ?_
            rintro _ _ ⟨fr_30, tt_30, so_30, iz_30, rfl, rfl, ht_30⟩
            show aw_W _ _ _ _ (31, [some (.ref 46)], []) (ae_en (au σ [(34, nI (c + 1)), (37, fr_30), (38, tt_30), (39, so_30), (40, iz_30)]) (au α [(40, upd (α 40) (1020 + c) 2), (41, upd (α 41) (1020 + c) (σ 40))]) z t0 ts)
            refine aw_go 1 rfl ⟨trivial, trivial⟩ ?_
            refine aw_ret rfl rfl trivial ?_
            rw [en_56 a5 a6]
            exact mrQ_ok rfl (congrArg (fun x => upd (α 40) (1020 + c) x) (tk_fact a7t h19 (Int32.not_le.mp h23)).2.2.1.symm) (congrArg (fun x => upd (α 41) (1020 + c) x) (tk_fact a7t h19 (Int32.not_le.mp h23)).2.2.2.symm) ht_30
      · skip
        have h7 := Classical.not_not.mp h7
        show aw_W _ _ _ _ (8, [some (.ref 46)], []) (ae_en σ α z t0 ts)
        refine aw_go 4 rfl ⟨trivial, trivial, trivial, trivial, trivial⟩ ?_
        show aw_W _ _ _ _ (12, [some (.ref 46)], [.int (σ 40), .int 1, .ref 46]) (ae_en σ α z t0 ts)
        refine aw_call rfl rfl (ev_Model_addStep (a := 1) (b := (σ 40)) (c := c) a4 (by omega)) ?_
        rintro _ _ ⟨rfl, rfl⟩
        show aw_W _ _ _ _ (13, [some (.ref 46)], []) (ae_en (au σ [(34, nI (c + 1))]) (au α [(40, upd (α 40) (1020 + c) 1), (41, upd (α 41) (1020 + c) (σ 40))]) z t0 ts)
        refine aw_go 1 rfl ⟨trivial, trivial⟩ ?_
        refine aw_call rfl rfl (mr_next2 (s := s) (l := l) a1 a2 a3 a7 e17) ?_
        rintro _ _ ⟨fr_14, tt_14, so_14, iz_14, rfl, rfl, ht_14⟩
        show aw_W _ _ _ _ (15, [some (.ref 46)], []) (ae_en (au σ [(34, nI (c + 1)), (37, fr_14), (38, tt_14), (39, so_14), (40, iz_14)]) (au α [(40, upd (α 40) (1020 + c) 1), (41, upd (α 41) (1020 + c) (σ 40))]) z t0 ts)
        refine aw_go 1 rfl ⟨trivial, trivial⟩ ?_
        refine aw_ret rfl rfl trivial ?_
        rw [en_56 a5 a6]
        exact mrQ_ok rfl (congrArg (fun x => upd (α 40) (1020 + c) x) (tk_num a7t h7).2.2.1.symm) (congrArg (fun x => upd (α 41) (1020 + c) x) (tk_num a7t h7).2.2.2.symm) ht_14
    · skip
      show aw_W _ _ _ _ (3, [some (.ref 46)], []) (ae_en σ α z t0 ts)
      exact absurd (by rw [a5]; decide) h2
  · rw [if_neg e] at hpp
    by_cases e5 : 5 ≤ o
    · rw [if_pos e5] at hpp
      cases hpp
      show aw_W _ _ _ _ (0, [some (.ref 46)], []) (ae_en σ α z t0 ts)
      refine aw_go 3 rfl ⟨trivial, trivial, trivial, trivial⟩ ?_
      show aw_W _ _ _ _ (if (σ 35) < 0 then 4 else 3, [some (.ref 46)], []) (ae_en σ α z t0 ts)
      refine aw_br (c := (σ 35) < 0) (fun h2 => ?_) (fun h2 => ?_)
      · skip
        show aw_W _ _ _ _ (4, [some (.ref 46)], []) (ae_en σ α z t0 ts)
        refine aw_go 4 rfl ⟨trivial, trivial, trivial, trivial, trivial⟩ ?_
        show aw_W _ _ _ _ (if ¬ (σ 39) = 2 then 16 else 8, [some (.ref 46)], []) (ae_en σ α z t0 ts)
        refine aw_br (c := ¬ (σ 39) = 2) (fun h7 => ?_) (fun h7 => ?_)
        · skip
          show aw_W _ _ _ _ (16, [some (.ref 46)], []) (ae_en σ α z t0 ts)
          refine aw_go 4 rfl ⟨trivial, trivial, trivial, trivial, trivial⟩ ?_
          show aw_W _ _ _ _ (if ¬ (σ 39) = 1 then 32 else 20, [some (.ref 46)], []) (ae_en σ α z t0 ts)
          refine aw_br (c := ¬ (σ 39) = 1) (fun h19 => ?_) (fun h19 => ?_)
          · skip
            show aw_W _ _ _ _ (32, [some (.ref 46)], []) (ae_en σ α z t0 ts)
            refine aw_go 2 rfl ⟨trivial, trivial, trivial⟩ ?_
            refine aw_callE rfl rfl (ev_Model_isSign (b := 45)) ?_
            show aw_W _ _ _ _ (35, [some (.ref 46)], [.int (bI ((σ 35) < 0 ∧ (σ 39) = 3 ∧ (σ 40) = 45))]) (ae_en σ α z t0 ts)
            refine aw_top (x2 := bI (hdT l = -7)) (is_s45 a7t a5) ?_
            refine aw_go 1 rfl ⟨trivial, trivial⟩ ?_
            refine aw_br (c := (bI (hdT l = -7)) = 0) (fun h35 => ?_) (fun h35 => ?_)
            · skip
              have h35 := bI_f h35
              show aw_W _ _ _ _ (53, [some (.ref 46)], []) (ae_en σ α z t0 ts)
              refine aw_go 2 rfl ⟨trivial, trivial, trivial⟩ ?_
              refine aw_callE rfl rfl (ev_Model_isSign (b := 40)) ?_
              show aw_W _ _ _ _ (56, [some (.ref 46)], [.int (bI ((σ 35) < 0 ∧ (σ 39) = 3 ∧ (σ 40) = 40))]) (ae_en σ α z t0 ts)
              refine aw_top (x2 := bI (hdT l = -9)) (is_s40 a7t a5) ?_
              refine aw_go 1 rfl ⟨trivial, trivial⟩ ?_
              refine aw_br (c := (bI (hdT l = -9)) = 0) (fun h56 => ?_) (fun h56 => ?_)
              · skip
                have h56 := bI_f h56
                show aw_W _ _ _ _ (79, [some (.ref 46)], []) (ae_en σ α z t0 ts)
                refine aw_go 1 rfl ⟨trivial, trivial⟩ ?_
                refine aw_call rfl rfl (ev_faulty_1  a5) ?_
                rintro _ _ ⟨rfl, rfl⟩
                show aw_W _ _ _ _ (81, [some (.ref 46)], []) (ae_en (au σ [(35, (σ 37))]) α z t0 ts)
                refine aw_ret rfl rfl trivial ?_
                exact mrQ_no a0
              · skip
                have h56 := bI_t h56
                show aw_W _ _ _ _ (57, [some (.ref 46)], []) (ae_en σ α z t0 ts)
                refine aw_go 1 rfl ⟨trivial, trivial⟩ ?_
                refine aw_call rfl rfl (ev_opens_no  a5 (a6.trans (by rw [show o = 5 by omega]; rfl))) ?_
                rintro _ _ ⟨rfl, rfl⟩
                show aw_W _ _ _ _ (59, [some (.ref 46)], [.int 0]) (ae_en (au σ [(35, (σ 37))]) α z t0 ts)
                refine aw_go 1 rfl ⟨trivial, trivial⟩ ?_
                refine aw_br (c := ¬ (0 : Int32) = 0) (fun h59 => ?_) (fun h59 => ?_)
                · skip
                  have h59 := cI_eqF (a := 0) (b := 0) rfl rfl (by omega) (by omega) h59
                  show aw_W _ _ _ _ (61, [some (.ref 46)], []) (ae_en (au σ [(35, (σ 37))]) α z t0 ts)
                  exact absurd h59 (by decide)
                · skip
                  have h59 := Classical.not_not.mp h59
                  have h59 := cI_eqT (a := 0) (b := 0) rfl rfl (by omega) (by omega) h59
                  show aw_W _ _ _ _ (60, [some (.ref 46)], []) (ae_en (au σ [(35, (σ 37))]) α z t0 ts)
                  refine aw_ret rfl rfl trivial ?_
                  exact mrQ_no a0
            · skip
              have h35 := bI_t h35
              show aw_W _ _ _ _ (36, [some (.ref 46)], []) (ae_en σ α z t0 ts)
              refine aw_go 1 rfl ⟨trivial, trivial⟩ ?_
              refine aw_call rfl rfl (ev_opens_no  a5 (a6.trans (by rw [show o = 5 by omega]; rfl))) ?_
              rintro _ _ ⟨rfl, rfl⟩
              show aw_W _ _ _ _ (38, [some (.ref 46)], [.int 0]) (ae_en (au σ [(35, (σ 37))]) α z t0 ts)
              refine aw_go 1 rfl ⟨trivial, trivial⟩ ?_
              refine aw_br (c := ¬ (0 : Int32) = 0) (fun h38 => ?_) (fun h38 => ?_)
              · skip
                have h38 := cI_eqF (a := 0) (b := 0) rfl rfl (by omega) (by omega) h38
                show aw_W _ _ _ _ (40, [some (.ref 46)], []) (ae_en (au σ [(35, (σ 37))]) α z t0 ts)
                exact absurd h38 (by decide)
              · skip
                have h38 := Classical.not_not.mp h38
                have h38 := cI_eqT (a := 0) (b := 0) rfl rfl (by omega) (by omega) h38
                show aw_W _ _ _ _ (39, [some (.ref 46)], []) (ae_en (au σ [(35, (σ 37))]) α z t0 ts)
                refine aw_ret rfl rfl trivial ?_
                exact mrQ_no a0
          · skip
            have h19 := Classical.not_not.mp h19
            show aw_W _ _ _ _ (20, [some (.ref 46)], []) (ae_en σ α z t0 ts)
            refine aw_go 4 rfl ⟨trivial, trivial, trivial, trivial, trivial⟩ ?_
            show aw_W _ _ _ _ (if (6 : Int32) ≤ (σ 40) then 32 else 24, [some (.ref 46)], []) (ae_en σ α z t0 ts)
            refine aw_br (c := (6 : Int32) ≤ (σ 40)) (fun h23 => ?_) (fun h23 => ?_)
            · skip
              show aw_W _ _ _ _ (32, [some (.ref 46)], []) (ae_en σ α z t0 ts)
              refine aw_go 2 rfl ⟨trivial, trivial, trivial⟩ ?_
              refine aw_callE rfl rfl (ev_Model_isSign (b := 45)) ?_
              show aw_W _ _ _ _ (35, [some (.ref 46)], [.int (bI ((σ 35) < 0 ∧ (σ 39) = 3 ∧ (σ 40) = 45))]) (ae_en σ α z t0 ts)
              refine aw_top (x2 := bI (hdT l = -7)) (is_s45 a7t a5) ?_
              refine aw_go 1 rfl ⟨trivial, trivial⟩ ?_
              refine aw_br (c := (bI (hdT l = -7)) = 0) (fun h35 => ?_) (fun h35 => ?_)
              · skip
                have h35 := bI_f h35
                show aw_W _ _ _ _ (53, [some (.ref 46)], []) (ae_en σ α z t0 ts)
                refine aw_go 2 rfl ⟨trivial, trivial, trivial⟩ ?_
                refine aw_callE rfl rfl (ev_Model_isSign (b := 40)) ?_
                show aw_W _ _ _ _ (56, [some (.ref 46)], [.int (bI ((σ 35) < 0 ∧ (σ 39) = 3 ∧ (σ 40) = 40))]) (ae_en σ α z t0 ts)
                refine aw_top (x2 := bI (hdT l = -9)) (is_s40 a7t a5) ?_
                refine aw_go 1 rfl ⟨trivial, trivial⟩ ?_
                refine aw_br (c := (bI (hdT l = -9)) = 0) (fun h56 => ?_) (fun h56 => ?_)
                · skip
                  have h56 := bI_f h56
                  show aw_W _ _ _ _ (79, [some (.ref 46)], []) (ae_en σ α z t0 ts)
                  refine aw_go 1 rfl ⟨trivial, trivial⟩ ?_
                  refine aw_call rfl rfl (ev_faulty_1  a5) ?_
                  rintro _ _ ⟨rfl, rfl⟩
                  show aw_W _ _ _ _ (81, [some (.ref 46)], []) (ae_en (au σ [(35, (σ 37))]) α z t0 ts)
                  refine aw_ret rfl rfl trivial ?_
                  exact mrQ_no a0
                · skip
                  have h56 := bI_t h56
                  show aw_W _ _ _ _ (57, [some (.ref 46)], []) (ae_en σ α z t0 ts)
                  refine aw_go 1 rfl ⟨trivial, trivial⟩ ?_
                  refine aw_call rfl rfl (ev_opens_no  a5 (a6.trans (by rw [show o = 5 by omega]; rfl))) ?_
                  rintro _ _ ⟨rfl, rfl⟩
                  show aw_W _ _ _ _ (59, [some (.ref 46)], [.int 0]) (ae_en (au σ [(35, (σ 37))]) α z t0 ts)
                  refine aw_go 1 rfl ⟨trivial, trivial⟩ ?_
                  refine aw_br (c := ¬ (0 : Int32) = 0) (fun h59 => ?_) (fun h59 => ?_)
                  · skip
                    have h59 := cI_eqF (a := 0) (b := 0) rfl rfl (by omega) (by omega) h59
                    show aw_W _ _ _ _ (61, [some (.ref 46)], []) (ae_en (au σ [(35, (σ 37))]) α z t0 ts)
                    exact absurd h59 (by decide)
                  · skip
                    have h59 := Classical.not_not.mp h59
                    have h59 := cI_eqT (a := 0) (b := 0) rfl rfl (by omega) (by omega) h59
                    show aw_W _ _ _ _ (60, [some (.ref 46)], []) (ae_en (au σ [(35, (σ 37))]) α z t0 ts)
                    refine aw_ret rfl rfl trivial ?_
                    exact mrQ_no a0
              · skip
                have h35 := bI_t h35
                show aw_W _ _ _ _ (36, [some (.ref 46)], []) (ae_en σ α z t0 ts)
                refine aw_go 1 rfl ⟨trivial, trivial⟩ ?_
                refine aw_call rfl rfl (ev_opens_no  a5 (a6.trans (by rw [show o = 5 by omega]; rfl))) ?_
                rintro _ _ ⟨rfl, rfl⟩
                show aw_W _ _ _ _ (38, [some (.ref 46)], [.int 0]) (ae_en (au σ [(35, (σ 37))]) α z t0 ts)
                refine aw_go 1 rfl ⟨trivial, trivial⟩ ?_
                refine aw_br (c := ¬ (0 : Int32) = 0) (fun h38 => ?_) (fun h38 => ?_)
                · skip
                  have h38 := cI_eqF (a := 0) (b := 0) rfl rfl (by omega) (by omega) h38
                  show aw_W _ _ _ _ (40, [some (.ref 46)], []) (ae_en (au σ [(35, (σ 37))]) α z t0 ts)
                  exact absurd h38 (by decide)
                · skip
                  have h38 := Classical.not_not.mp h38
                  have h38 := cI_eqT (a := 0) (b := 0) rfl rfl (by omega) (by omega) h38
                  show aw_W _ _ _ _ (39, [some (.ref 46)], []) (ae_en (au σ [(35, (σ 37))]) α z t0 ts)
                  refine aw_ret rfl rfl trivial ?_
                  exact mrQ_no a0
            · skip
              show aw_W _ _ _ _ (24, [some (.ref 46)], []) (ae_en σ α z t0 ts)
              exact absurd ⟨(tk_fact a7t h19 (Int32.not_le.mp h23)).1, (tk_fact a7t h19 (Int32.not_le.mp h23)).2.1⟩ e
        · skip
          have h7 := Classical.not_not.mp h7
          show aw_W _ _ _ _ (8, [some (.ref 46)], []) (ae_en σ α z t0 ts)
          exact absurd ⟨(tk_num a7t h7).1, (tk_num a7t h7).2.1⟩ e
      · skip
        show aw_W _ _ _ _ (3, [some (.ref 46)], []) (ae_en σ α z t0 ts)
        exact absurd (by rw [a5]; decide) h2
    · rw [if_neg e5] at hpp
      by_cases e7 : hdT l = -7
      · rw [if_pos e7] at hpp
        have e17 : ¬ hdT l = -17 := by rw [e7]; decide
        have ht := pH_tail (l := l) e17
        have ht1 := ht.1
        have hlp := gL_pos (ht.2.1 a9)
        rcases bP_some hpp with ⟨l1, s1, q1, hpp⟩ | ⟨l1, s1, q1, rfl⟩
        · have hp := (pp_pH _ _ _ _ _ _ _ q1).1
          have hp1 := hp.1
          have hl1 := gL_pos (hp.2.1 (ht.2.1 a9))
          cases hpp
          show aw_W _ _ _ _ (0, [some (.ref 46)], []) (ae_en σ α z t0 ts)
          refine aw_go 3 rfl ⟨trivial, trivial, trivial, trivial⟩ ?_
          show aw_W _ _ _ _ (if (σ 35) < 0 then 4 else 3, [some (.ref 46)], []) (ae_en σ α z t0 ts)
          refine aw_br (c := (σ 35) < 0) (fun h2 => ?_) (fun h2 => ?_)
          · skip
            show aw_W _ _ _ _ (4, [some (.ref 46)], []) (ae_en σ α z t0 ts)
            refine aw_go 4 rfl ⟨trivial, trivial, trivial, trivial, trivial⟩ ?_
            show aw_W _ _ _ _ (if ¬ (σ 39) = 2 then 16 else 8, [some (.ref 46)], []) (ae_en σ α z t0 ts)
            refine aw_br (c := ¬ (σ 39) = 2) (fun h7 => ?_) (fun h7 => ?_)
            · skip
              show aw_W _ _ _ _ (16, [some (.ref 46)], []) (ae_en σ α z t0 ts)
              refine aw_go 4 rfl ⟨trivial, trivial, trivial, trivial, trivial⟩ ?_
              show aw_W _ _ _ _ (if ¬ (σ 39) = 1 then 32 else 20, [some (.ref 46)], []) (ae_en σ α z t0 ts)
              refine aw_br (c := ¬ (σ 39) = 1) (fun h19 => ?_) (fun h19 => ?_)
              · skip
                show aw_W _ _ _ _ (32, [some (.ref 46)], []) (ae_en σ α z t0 ts)
                refine aw_go 2 rfl ⟨trivial, trivial, trivial⟩ ?_
                refine aw_callE rfl rfl (ev_Model_isSign (b := 45)) ?_
                show aw_W _ _ _ _ (35, [some (.ref 46)], [.int (bI ((σ 35) < 0 ∧ (σ 39) = 3 ∧ (σ 40) = 45))]) (ae_en σ α z t0 ts)
                refine aw_top (x2 := 1) ((is_s45 a7t a5).trans (bI_1 e7).symm) ?_
                refine aw_go 1 rfl ⟨trivial, trivial⟩ ?_
                refine aw_br (c := (1 : Int32) = 0) (fun h35 => ?_) (fun h35 => ?_)
                · skip
                  have h35 := cI_eqT (a := 1) (b := 0) rfl rfl (by omega) (by omega) h35
                  show aw_W _ _ _ _ (53, [some (.ref 46)], []) (ae_en σ α z t0 ts)
                  exact absurd h35 (by decide)
                · skip
                  have h35 := cI_eqF (a := 1) (b := 0) rfl rfl (by omega) (by omega) h35
                  show aw_W _ _ _ _ (36, [some (.ref 46)], []) (ae_en σ α z t0 ts)
                  refine aw_go 1 rfl ⟨trivial, trivial⟩ ?_
                  refine aw_call rfl rfl (mr_opens_yes a0 e17 (by omega)) ?_
                  rintro _ _ ⟨fr_37, tt_37, so_37, iz_37, rfl, rfl, ht_37⟩
                  show aw_W _ _ _ _ (38, [some (.ref 46)], [.int 1]) (ae_en (au σ [(36, nI (o + 1)), (37, fr_37), (38, tt_37), (39, so_37), (40, iz_37)]) α z t0 ts)
                  refine aw_go 1 rfl ⟨trivial, trivial⟩ ?_
                  refine aw_br (c := ¬ (1 : Int32) = 0) (fun h38 => ?_) (fun h38 => ?_)
                  · skip
                    have h38 := cI_eqF (a := 1) (b := 0) rfl rfl (by omega) (by omega) h38
                    show aw_W _ _ _ _ (40, [some (.ref 46)], []) (ae_en (au σ [(36, nI (o + 1)), (37, fr_37), (38, tt_37), (39, so_37), (40, iz_37)]) α z t0 ts)
                    refine aw_go 1 rfl ⟨trivial, trivial⟩ ?_
                    refine aw_call rfl rfl (mrX_y ih9 q1 ⟨a1, a2, a3, a4, a5, rfl, ht_37, (by omega), (ht.2.1 a9), (by omega)⟩ (by simp only [mrD] at hD ⊢; omega)) ?_
                    rintro _ _ ⟨fr_41, tt_41, so_41, iz_41, rfl, rfl, ht_41⟩
                    show aw_W _ _ _ _ (42, [some (.ref 46)], []) (ae_en (au σ [(34, nI (c + s1.length)), (35, (-1)), (36, nI (o + 1)), (37, fr_41), (38, tt_41), (39, so_41), (40, iz_41)]) (au α [(40, putL (α 40) (1020 + c) (s1.map cA)), (41, putL (α 41) (1020 + c) (s1.map cW))]) z t0 ts)
                    refine aw_go 6 rfl ⟨trivial, trivial, trivial, trivial, trivial, trivial, trivial⟩ ?_
                    show aw_W _ _ _ _ (48, [some (.ref 46)], []) (ae_en (au σ [(34, nI (c + s1.length)), (35, (-1)), (36, (nI (o + 1)) - 1), (37, fr_41), (38, tt_41), (39, so_41), (40, iz_41)]) (au α [(40, putL (α 40) (1020 + c) (s1.map cA)), (41, putL (α 41) (1020 + c) (s1.map cW))]) z t0 ts)
                    rw [show (nI (o + 1)) - 1 = nI o from cI_sub (a := o + 1) (b := 1) rfl rfl (by omega)]
                    refine aw_go 3 rfl ⟨trivial, trivial, trivial, trivial⟩ ?_
                    refine aw_call rfl rfl (ev_Model_addStep (a := 4) (b := 0) (c := (c + s1.length)) rfl (by omega)) ?_
                    rintro _ _ ⟨rfl, rfl⟩
                    show aw_W _ _ _ _ (52, [some (.ref 46)], []) (ae_en (au σ [(34, nI ((c + s1.length) + 1)), (35, (-1)), (36, nI o), (37, fr_41), (38, tt_41), (39, so_41), (40, iz_41)]) (au α [(40, upd (putL (α 40) (1020 + c) (s1.map cA)) (1020 + (c + s1.length)) 4), (41, upd (putL (α 41) (1020 + c) (s1.map cW)) (1020 + (c + s1.length)) 0)]) z t0 ts)
                    refine aw_go 1 rfl ⟨trivial, trivial⟩ ?_
                    refine aw_ret rfl rfl trivial ?_
                    exact mrQ_ok (by rw [List.length_append]; rfl) (up_map (by omega) rfl) (up_map (by omega) rfl) ht_41
                  · skip
                    have h38 := Classical.not_not.mp h38
                    have h38 := cI_eqT (a := 1) (b := 0) rfl rfl (by omega) (by omega) h38
                    show aw_W _ _ _ _ (39, [some (.ref 46)], []) (ae_en (au σ [(36, nI (o + 1)), (37, fr_37), (38, tt_37), (39, so_37), (40, iz_37)]) α z t0 ts)
                    exact absurd h38 (by decide)
              · skip
                have h19 := Classical.not_not.mp h19
                show aw_W _ _ _ _ (20, [some (.ref 46)], []) (ae_en σ α z t0 ts)
                refine aw_go 4 rfl ⟨trivial, trivial, trivial, trivial, trivial⟩ ?_
                show aw_W _ _ _ _ (if (6 : Int32) ≤ (σ 40) then 32 else 24, [some (.ref 46)], []) (ae_en σ α z t0 ts)
                refine aw_br (c := (6 : Int32) ≤ (σ 40)) (fun h23 => ?_) (fun h23 => ?_)
                · skip
                  show aw_W _ _ _ _ (32, [some (.ref 46)], []) (ae_en σ α z t0 ts)
                  refine aw_go 2 rfl ⟨trivial, trivial, trivial⟩ ?_
                  refine aw_callE rfl rfl (ev_Model_isSign (b := 45)) ?_
                  show aw_W _ _ _ _ (35, [some (.ref 46)], [.int (bI ((σ 35) < 0 ∧ (σ 39) = 3 ∧ (σ 40) = 45))]) (ae_en σ α z t0 ts)
                  refine aw_top (x2 := 1) ((is_s45 a7t a5).trans (bI_1 e7).symm) ?_
                  refine aw_go 1 rfl ⟨trivial, trivial⟩ ?_
                  refine aw_br (c := (1 : Int32) = 0) (fun h35 => ?_) (fun h35 => ?_)
                  · skip
                    have h35 := cI_eqT (a := 1) (b := 0) rfl rfl (by omega) (by omega) h35
                    show aw_W _ _ _ _ (53, [some (.ref 46)], []) (ae_en σ α z t0 ts)
                    exact absurd h35 (by decide)
                  · skip
                    have h35 := cI_eqF (a := 1) (b := 0) rfl rfl (by omega) (by omega) h35
                    show aw_W _ _ _ _ (36, [some (.ref 46)], []) (ae_en σ α z t0 ts)
                    refine aw_go 1 rfl ⟨trivial, trivial⟩ ?_
                    refine aw_call rfl rfl (mr_opens_yes a0 e17 (by omega)) ?_
                    rintro _ _ ⟨fr_37, tt_37, so_37, iz_37, rfl, rfl, ht_37⟩
                    show aw_W _ _ _ _ (38, [some (.ref 46)], [.int 1]) (ae_en (au σ [(36, nI (o + 1)), (37, fr_37), (38, tt_37), (39, so_37), (40, iz_37)]) α z t0 ts)
                    refine aw_go 1 rfl ⟨trivial, trivial⟩ ?_
                    refine aw_br (c := ¬ (1 : Int32) = 0) (fun h38 => ?_) (fun h38 => ?_)
                    · skip
                      have h38 := cI_eqF (a := 1) (b := 0) rfl rfl (by omega) (by omega) h38
                      show aw_W _ _ _ _ (40, [some (.ref 46)], []) (ae_en (au σ [(36, nI (o + 1)), (37, fr_37), (38, tt_37), (39, so_37), (40, iz_37)]) α z t0 ts)
                      refine aw_go 1 rfl ⟨trivial, trivial⟩ ?_
                      refine aw_call rfl rfl (mrX_y ih9 q1 ⟨a1, a2, a3, a4, a5, rfl, ht_37, (by omega), (ht.2.1 a9), (by omega)⟩ (by simp only [mrD] at hD ⊢; omega)) ?_
                      rintro _ _ ⟨fr_41, tt_41, so_41, iz_41, rfl, rfl, ht_41⟩
                      show aw_W _ _ _ _ (42, [some (.ref 46)], []) (ae_en (au σ [(34, nI (c + s1.length)), (35, (-1)), (36, nI (o + 1)), (37, fr_41), (38, tt_41), (39, so_41), (40, iz_41)]) (au α [(40, putL (α 40) (1020 + c) (s1.map cA)), (41, putL (α 41) (1020 + c) (s1.map cW))]) z t0 ts)
                      refine aw_go 6 rfl ⟨trivial, trivial, trivial, trivial, trivial, trivial, trivial⟩ ?_
                      show aw_W _ _ _ _ (48, [some (.ref 46)], []) (ae_en (au σ [(34, nI (c + s1.length)), (35, (-1)), (36, (nI (o + 1)) - 1), (37, fr_41), (38, tt_41), (39, so_41), (40, iz_41)]) (au α [(40, putL (α 40) (1020 + c) (s1.map cA)), (41, putL (α 41) (1020 + c) (s1.map cW))]) z t0 ts)
                      rw [show (nI (o + 1)) - 1 = nI o from cI_sub (a := o + 1) (b := 1) rfl rfl (by omega)]
                      refine aw_go 3 rfl ⟨trivial, trivial, trivial, trivial⟩ ?_
                      refine aw_call rfl rfl (ev_Model_addStep (a := 4) (b := 0) (c := (c + s1.length)) rfl (by omega)) ?_
                      rintro _ _ ⟨rfl, rfl⟩
                      show aw_W _ _ _ _ (52, [some (.ref 46)], []) (ae_en (au σ [(34, nI ((c + s1.length) + 1)), (35, (-1)), (36, nI o), (37, fr_41), (38, tt_41), (39, so_41), (40, iz_41)]) (au α [(40, upd (putL (α 40) (1020 + c) (s1.map cA)) (1020 + (c + s1.length)) 4), (41, upd (putL (α 41) (1020 + c) (s1.map cW)) (1020 + (c + s1.length)) 0)]) z t0 ts)
                      refine aw_go 1 rfl ⟨trivial, trivial⟩ ?_
                      refine aw_ret rfl rfl trivial ?_
                      exact mrQ_ok (by rw [List.length_append]; rfl) (up_map (by omega) rfl) (up_map (by omega) rfl) ht_41
                    · skip
                      have h38 := Classical.not_not.mp h38
                      have h38 := cI_eqT (a := 1) (b := 0) rfl rfl (by omega) (by omega) h38
                      show aw_W _ _ _ _ (39, [some (.ref 46)], []) (ae_en (au σ [(36, nI (o + 1)), (37, fr_37), (38, tt_37), (39, so_37), (40, iz_37)]) α z t0 ts)
                      exact absurd h38 (by decide)
                · skip
                  show aw_W _ _ _ _ (24, [some (.ref 46)], []) (ae_en σ α z t0 ts)
                  exact absurd ⟨(tk_fact a7t h19 (Int32.not_le.mp h23)).1, (tk_fact a7t h19 (Int32.not_le.mp h23)).2.1⟩ e
            · skip
              have h7 := Classical.not_not.mp h7
              show aw_W _ _ _ _ (8, [some (.ref 46)], []) (ae_en σ α z t0 ts)
              exact absurd ⟨(tk_num a7t h7).1, (tk_num a7t h7).2.1⟩ e
          · skip
            show aw_W _ _ _ _ (3, [some (.ref 46)], []) (ae_en σ α z t0 ts)
            exact absurd (by rw [a5]; decide) h2
        · have hp := (pp_pH _ _ _ _ _ _ _ q1).1
          have hp1 := hp.1
          have hl1 := gL_pos (hp.2.1 (ht.2.1 a9))
          show aw_W _ _ _ _ (0, [some (.ref 46)], []) (ae_en σ α z t0 ts)
          refine aw_go 3 rfl ⟨trivial, trivial, trivial, trivial⟩ ?_
          show aw_W _ _ _ _ (if (σ 35) < 0 then 4 else 3, [some (.ref 46)], []) (ae_en σ α z t0 ts)
          refine aw_br (c := (σ 35) < 0) (fun h2 => ?_) (fun h2 => ?_)
          · skip
            show aw_W _ _ _ _ (4, [some (.ref 46)], []) (ae_en σ α z t0 ts)
            refine aw_go 4 rfl ⟨trivial, trivial, trivial, trivial, trivial⟩ ?_
            show aw_W _ _ _ _ (if ¬ (σ 39) = 2 then 16 else 8, [some (.ref 46)], []) (ae_en σ α z t0 ts)
            refine aw_br (c := ¬ (σ 39) = 2) (fun h7 => ?_) (fun h7 => ?_)
            · skip
              show aw_W _ _ _ _ (16, [some (.ref 46)], []) (ae_en σ α z t0 ts)
              refine aw_go 4 rfl ⟨trivial, trivial, trivial, trivial, trivial⟩ ?_
              show aw_W _ _ _ _ (if ¬ (σ 39) = 1 then 32 else 20, [some (.ref 46)], []) (ae_en σ α z t0 ts)
              refine aw_br (c := ¬ (σ 39) = 1) (fun h19 => ?_) (fun h19 => ?_)
              · skip
                show aw_W _ _ _ _ (32, [some (.ref 46)], []) (ae_en σ α z t0 ts)
                refine aw_go 2 rfl ⟨trivial, trivial, trivial⟩ ?_
                refine aw_callE rfl rfl (ev_Model_isSign (b := 45)) ?_
                show aw_W _ _ _ _ (35, [some (.ref 46)], [.int (bI ((σ 35) < 0 ∧ (σ 39) = 3 ∧ (σ 40) = 45))]) (ae_en σ α z t0 ts)
                refine aw_top (x2 := 1) ((is_s45 a7t a5).trans (bI_1 e7).symm) ?_
                refine aw_go 1 rfl ⟨trivial, trivial⟩ ?_
                refine aw_br (c := (1 : Int32) = 0) (fun h35 => ?_) (fun h35 => ?_)
                · skip
                  have h35 := cI_eqT (a := 1) (b := 0) rfl rfl (by omega) (by omega) h35
                  show aw_W _ _ _ _ (53, [some (.ref 46)], []) (ae_en σ α z t0 ts)
                  exact absurd h35 (by decide)
                · skip
                  have h35 := cI_eqF (a := 1) (b := 0) rfl rfl (by omega) (by omega) h35
                  show aw_W _ _ _ _ (36, [some (.ref 46)], []) (ae_en σ α z t0 ts)
                  refine aw_go 1 rfl ⟨trivial, trivial⟩ ?_
                  refine aw_call rfl rfl (mr_opens_yes a0 e17 (by omega)) ?_
                  rintro _ _ ⟨fr_37, tt_37, so_37, iz_37, rfl, rfl, ht_37⟩
                  show aw_W _ _ _ _ (38, [some (.ref 46)], [.int 1]) (ae_en (au σ [(36, nI (o + 1)), (37, fr_37), (38, tt_37), (39, so_37), (40, iz_37)]) α z t0 ts)
                  refine aw_go 1 rfl ⟨trivial, trivial⟩ ?_
                  refine aw_br (c := ¬ (1 : Int32) = 0) (fun h38 => ?_) (fun h38 => ?_)
                  · skip
                    have h38 := cI_eqF (a := 1) (b := 0) rfl rfl (by omega) (by omega) h38
                    show aw_W _ _ _ _ (40, [some (.ref 46)], []) (ae_en (au σ [(36, nI (o + 1)), (37, fr_37), (38, tt_37), (39, so_37), (40, iz_37)]) α z t0 ts)
                    refine aw_go 1 rfl ⟨trivial, trivial⟩ ?_
                    refine aw_call rfl rfl (mrX_n ih9 q1 ⟨a1, a2, a3, a4, a5, rfl, ht_37, (by omega), (ht.2.1 a9), (by omega)⟩ (by simp only [mrD] at hD ⊢; omega)) ?_
                    rintro _ _ ⟨k_41, op_41, fr_41, tt_41, so_41, iz_41, A_41, W_41, rfl, rfl, f1_41, f2_41, f3_41, f4_41⟩
                    show aw_W _ _ _ _ (42, [some (.ref 46)], []) (ae_en (au σ [(34, nI k_41), (35, nI (hdP l1)), (36, op_41), (37, fr_41), (38, tt_41), (39, so_41), (40, iz_41)]) (au α [(40, A_41), (41, W_41)]) z t0 ts)
                    refine aw_go 9 rfl ⟨trivial, trivial, trivial, trivial, trivial, trivial, trivial, trivial, trivial, trivial⟩ ?_
                    show aw_W _ _ _ _ (51, [some (.ref 46)], [.int 0, .int 4, .ref 46]) (ae_en (au σ [(34, nI k_41), (35, nI (hdP l1)), (36, op_41 - 1), (37, fr_41), (38, tt_41), (39, so_41), (40, iz_41)]) (au α [(40, A_41), (41, W_41)]) z t0 ts)
                    refine aw_call rfl rfl (ev_Model_addStep (a := 4) (b := 0) (c := k_41) rfl (by omega)) ?_
                    rintro _ _ ⟨rfl, rfl⟩
                    show aw_W _ _ _ _ (52, [some (.ref 46)], []) (ae_en (au σ [(34, nI (k_41 + 1)), (35, nI (hdP l1)), (36, op_41 - 1), (37, fr_41), (38, tt_41), (39, so_41), (40, iz_41)]) (au α [(40, upd A_41 (1020 + k_41) 4), (41, upd W_41 (1020 + k_41) 0)]) z t0 ts)
                    refine aw_go 1 rfl ⟨trivial, trivial⟩ ?_
                    refine aw_ret rfl rfl trivial ?_
                    exact mrQ_bad f1_41 (by omega) (by omega) (up_out f4_41)
                  · skip
                    have h38 := Classical.not_not.mp h38
                    have h38 := cI_eqT (a := 1) (b := 0) rfl rfl (by omega) (by omega) h38
                    show aw_W _ _ _ _ (39, [some (.ref 46)], []) (ae_en (au σ [(36, nI (o + 1)), (37, fr_37), (38, tt_37), (39, so_37), (40, iz_37)]) α z t0 ts)
                    exact absurd h38 (by decide)
              · skip
                have h19 := Classical.not_not.mp h19
                show aw_W _ _ _ _ (20, [some (.ref 46)], []) (ae_en σ α z t0 ts)
                refine aw_go 4 rfl ⟨trivial, trivial, trivial, trivial, trivial⟩ ?_
                show aw_W _ _ _ _ (if (6 : Int32) ≤ (σ 40) then 32 else 24, [some (.ref 46)], []) (ae_en σ α z t0 ts)
                refine aw_br (c := (6 : Int32) ≤ (σ 40)) (fun h23 => ?_) (fun h23 => ?_)
                · skip
                  show aw_W _ _ _ _ (32, [some (.ref 46)], []) (ae_en σ α z t0 ts)
                  refine aw_go 2 rfl ⟨trivial, trivial, trivial⟩ ?_
                  refine aw_callE rfl rfl (ev_Model_isSign (b := 45)) ?_
                  show aw_W _ _ _ _ (35, [some (.ref 46)], [.int (bI ((σ 35) < 0 ∧ (σ 39) = 3 ∧ (σ 40) = 45))]) (ae_en σ α z t0 ts)
                  refine aw_top (x2 := 1) ((is_s45 a7t a5).trans (bI_1 e7).symm) ?_
                  refine aw_go 1 rfl ⟨trivial, trivial⟩ ?_
                  refine aw_br (c := (1 : Int32) = 0) (fun h35 => ?_) (fun h35 => ?_)
                  · skip
                    have h35 := cI_eqT (a := 1) (b := 0) rfl rfl (by omega) (by omega) h35
                    show aw_W _ _ _ _ (53, [some (.ref 46)], []) (ae_en σ α z t0 ts)
                    exact absurd h35 (by decide)
                  · skip
                    have h35 := cI_eqF (a := 1) (b := 0) rfl rfl (by omega) (by omega) h35
                    show aw_W _ _ _ _ (36, [some (.ref 46)], []) (ae_en σ α z t0 ts)
                    refine aw_go 1 rfl ⟨trivial, trivial⟩ ?_
                    refine aw_call rfl rfl (mr_opens_yes a0 e17 (by omega)) ?_
                    rintro _ _ ⟨fr_37, tt_37, so_37, iz_37, rfl, rfl, ht_37⟩
                    show aw_W _ _ _ _ (38, [some (.ref 46)], [.int 1]) (ae_en (au σ [(36, nI (o + 1)), (37, fr_37), (38, tt_37), (39, so_37), (40, iz_37)]) α z t0 ts)
                    refine aw_go 1 rfl ⟨trivial, trivial⟩ ?_
                    refine aw_br (c := ¬ (1 : Int32) = 0) (fun h38 => ?_) (fun h38 => ?_)
                    · skip
                      have h38 := cI_eqF (a := 1) (b := 0) rfl rfl (by omega) (by omega) h38
                      show aw_W _ _ _ _ (40, [some (.ref 46)], []) (ae_en (au σ [(36, nI (o + 1)), (37, fr_37), (38, tt_37), (39, so_37), (40, iz_37)]) α z t0 ts)
                      refine aw_go 1 rfl ⟨trivial, trivial⟩ ?_
                      refine aw_call rfl rfl (mrX_n ih9 q1 ⟨a1, a2, a3, a4, a5, rfl, ht_37, (by omega), (ht.2.1 a9), (by omega)⟩ (by simp only [mrD] at hD ⊢; omega)) ?_
                      rintro _ _ ⟨k_41, op_41, fr_41, tt_41, so_41, iz_41, A_41, W_41, rfl, rfl, f1_41, f2_41, f3_41, f4_41⟩
                      show aw_W _ _ _ _ (42, [some (.ref 46)], []) (ae_en (au σ [(34, nI k_41), (35, nI (hdP l1)), (36, op_41), (37, fr_41), (38, tt_41), (39, so_41), (40, iz_41)]) (au α [(40, A_41), (41, W_41)]) z t0 ts)
                      refine aw_go 9 rfl ⟨trivial, trivial, trivial, trivial, trivial, trivial, trivial, trivial, trivial, trivial⟩ ?_
                      show aw_W _ _ _ _ (51, [some (.ref 46)], [.int 0, .int 4, .ref 46]) (ae_en (au σ [(34, nI k_41), (35, nI (hdP l1)), (36, op_41 - 1), (37, fr_41), (38, tt_41), (39, so_41), (40, iz_41)]) (au α [(40, A_41), (41, W_41)]) z t0 ts)
                      refine aw_call rfl rfl (ev_Model_addStep (a := 4) (b := 0) (c := k_41) rfl (by omega)) ?_
                      rintro _ _ ⟨rfl, rfl⟩
                      show aw_W _ _ _ _ (52, [some (.ref 46)], []) (ae_en (au σ [(34, nI (k_41 + 1)), (35, nI (hdP l1)), (36, op_41 - 1), (37, fr_41), (38, tt_41), (39, so_41), (40, iz_41)]) (au α [(40, upd A_41 (1020 + k_41) 4), (41, upd W_41 (1020 + k_41) 0)]) z t0 ts)
                      refine aw_go 1 rfl ⟨trivial, trivial⟩ ?_
                      refine aw_ret rfl rfl trivial ?_
                      exact mrQ_bad f1_41 (by omega) (by omega) (up_out f4_41)
                    · skip
                      have h38 := Classical.not_not.mp h38
                      have h38 := cI_eqT (a := 1) (b := 0) rfl rfl (by omega) (by omega) h38
                      show aw_W _ _ _ _ (39, [some (.ref 46)], []) (ae_en (au σ [(36, nI (o + 1)), (37, fr_37), (38, tt_37), (39, so_37), (40, iz_37)]) α z t0 ts)
                      exact absurd h38 (by decide)
                · skip
                  show aw_W _ _ _ _ (24, [some (.ref 46)], []) (ae_en σ α z t0 ts)
                  exact absurd ⟨(tk_fact a7t h19 (Int32.not_le.mp h23)).1, (tk_fact a7t h19 (Int32.not_le.mp h23)).2.1⟩ e
            · skip
              have h7 := Classical.not_not.mp h7
              show aw_W _ _ _ _ (8, [some (.ref 46)], []) (ae_en σ α z t0 ts)
              exact absurd ⟨(tk_num a7t h7).1, (tk_num a7t h7).2.1⟩ e
          · skip
            show aw_W _ _ _ _ (3, [some (.ref 46)], []) (ae_en σ α z t0 ts)
            exact absurd (by rw [a5]; decide) h2
      · rw [if_neg e7] at hpp
        by_cases e9 : hdT l = -9
        · rw [if_pos e9] at hpp
          have e17 : ¬ hdT l = -17 := by rw [e9]; decide
          have ht := pH_tail (l := l) e17
          have ht1 := ht.1
          have hlp := gL_pos (ht.2.1 a9)
          rcases bP_some hpp with ⟨l1, s1, q1, hpp⟩ | ⟨l1, s1, q1, rfl⟩
          · have hp := (pp_pH _ _ _ _ _ _ _ q1).1
            have hp1 := hp.1
            have hg1 := hp.2.1 (ht.2.1 a9)
            have hl1 := gL_pos hg1
            by_cases f : hdT l1 = -10
            · rw [if_pos f] at hpp
              cases hpp
              have f17 : ¬ hdT l1 = -17 := by rw [f]; decide
              show aw_W _ _ _ _ (0, [some (.ref 46)], []) (ae_en σ α z t0 ts)
              refine aw_go 3 rfl ⟨trivial, trivial, trivial, trivial⟩ ?_
              show aw_W _ _ _ _ (if (σ 35) < 0 then 4 else 3, [some (.ref 46)], []) (ae_en σ α z t0 ts)
              refine aw_br (c := (σ 35) < 0) (fun h2 => ?_) (fun h2 => ?_)
              · skip
                show aw_W _ _ _ _ (4, [some (.ref 46)], []) (ae_en σ α z t0 ts)
                refine aw_go 4 rfl ⟨trivial, trivial, trivial, trivial, trivial⟩ ?_
                show aw_W _ _ _ _ (if ¬ (σ 39) = 2 then 16 else 8, [some (.ref 46)], []) (ae_en σ α z t0 ts)
                refine aw_br (c := ¬ (σ 39) = 2) (fun h7 => ?_) (fun h7 => ?_)
                · skip
                  show aw_W _ _ _ _ (16, [some (.ref 46)], []) (ae_en σ α z t0 ts)
                  refine aw_go 4 rfl ⟨trivial, trivial, trivial, trivial, trivial⟩ ?_
                  show aw_W _ _ _ _ (if ¬ (σ 39) = 1 then 32 else 20, [some (.ref 46)], []) (ae_en σ α z t0 ts)
                  refine aw_br (c := ¬ (σ 39) = 1) (fun h19 => ?_) (fun h19 => ?_)
                  · skip
                    show aw_W _ _ _ _ (32, [some (.ref 46)], []) (ae_en σ α z t0 ts)
                    refine aw_go 2 rfl ⟨trivial, trivial, trivial⟩ ?_
                    refine aw_callE rfl rfl (ev_Model_isSign (b := 45)) ?_
                    show aw_W _ _ _ _ (35, [some (.ref 46)], [.int (bI ((σ 35) < 0 ∧ (σ 39) = 3 ∧ (σ 40) = 45))]) (ae_en σ α z t0 ts)
                    refine aw_top (x2 := 0) ((is_s45 a7t a5).trans (bI_0 e7).symm) ?_
                    refine aw_go 1 rfl ⟨trivial, trivial⟩ ?_
                    refine aw_br (c := (0 : Int32) = 0) (fun h35 => ?_) (fun h35 => ?_)
                    · skip
                      have h35 := cI_eqT (a := 0) (b := 0) rfl rfl (by omega) (by omega) h35
                      show aw_W _ _ _ _ (53, [some (.ref 46)], []) (ae_en σ α z t0 ts)
                      refine aw_go 2 rfl ⟨trivial, trivial, trivial⟩ ?_
                      refine aw_callE rfl rfl (ev_Model_isSign (b := 40)) ?_
                      show aw_W _ _ _ _ (56, [some (.ref 46)], [.int (bI ((σ 35) < 0 ∧ (σ 39) = 3 ∧ (σ 40) = 40))]) (ae_en σ α z t0 ts)
                      refine aw_top (x2 := 1) ((is_s40 a7t a5).trans (bI_1 e9).symm) ?_
                      refine aw_go 1 rfl ⟨trivial, trivial⟩ ?_
                      refine aw_br (c := (1 : Int32) = 0) (fun h56 => ?_) (fun h56 => ?_)
                      · skip
                        have h56 := cI_eqT (a := 1) (b := 0) rfl rfl (by omega) (by omega) h56
                        show aw_W _ _ _ _ (79, [some (.ref 46)], []) (ae_en σ α z t0 ts)
                        exact absurd h56 (by decide)
                      · skip
                        have h56 := cI_eqF (a := 1) (b := 0) rfl rfl (by omega) (by omega) h56
                        show aw_W _ _ _ _ (57, [some (.ref 46)], []) (ae_en σ α z t0 ts)
                        refine aw_go 1 rfl ⟨trivial, trivial⟩ ?_
                        refine aw_call rfl rfl (mr_opens_yes a0 e17 (by omega)) ?_
                        rintro _ _ ⟨fr_58, tt_58, so_58, iz_58, rfl, rfl, ht_58⟩
                        show aw_W _ _ _ _ (59, [some (.ref 46)], [.int 1]) (ae_en (au σ [(36, nI (o + 1)), (37, fr_58), (38, tt_58), (39, so_58), (40, iz_58)]) α z t0 ts)
                        refine aw_go 1 rfl ⟨trivial, trivial⟩ ?_
                        refine aw_br (c := ¬ (1 : Int32) = 0) (fun h59 => ?_) (fun h59 => ?_)
                        · skip
                          have h59 := cI_eqF (a := 1) (b := 0) rfl rfl (by omega) (by omega) h59
                          show aw_W _ _ _ _ (61, [some (.ref 46)], []) (ae_en (au σ [(36, nI (o + 1)), (37, fr_58), (38, tt_58), (39, so_58), (40, iz_58)]) α z t0 ts)
                          refine aw_go 1 rfl ⟨trivial, trivial⟩ ?_
                          refine aw_call rfl rfl (mrX_y ih0 q1 ⟨a1, a2, a3, a4, a5, rfl, ht_58, (by omega), (ht.2.1 a9), (by omega)⟩ (by simp only [mrD] at hD ⊢; omega)) ?_
                          rintro _ _ ⟨fr_62, tt_62, so_62, iz_62, rfl, rfl, ht_62⟩
                          show aw_W _ _ _ _ (63, [some (.ref 46)], []) (ae_en (au σ [(34, nI (c + s1.length)), (35, (-1)), (36, nI (o + 1)), (37, fr_62), (38, tt_62), (39, so_62), (40, iz_62)]) (au α [(40, putL (α 40) (1020 + c) (s1.map cA)), (41, putL (α 41) (1020 + c) (s1.map cW))]) z t0 ts)
                          refine aw_go 2 rfl ⟨trivial, trivial, trivial⟩ ?_
                          refine aw_callE rfl rfl (ev_Model_isSign (b := 41)) ?_
                          show aw_W _ _ _ _ (66, [some (.ref 46)], [.int (bI ((-1) < 0 ∧ so_62 = 3 ∧ iz_62 = 41))]) (ae_en (au σ [(34, nI (c + s1.length)), (35, (-1)), (36, nI (o + 1)), (37, fr_62), (38, tt_62), (39, so_62), (40, iz_62)]) (au α [(40, putL (α 40) (1020 + c) (s1.map cA)), (41, putL (α 41) (1020 + c) (s1.map cW))]) z t0 ts)
                          refine aw_top (x2 := 1) ((is_s41 ht_62.2.2.1 rfl).trans (bI_1 f).symm) ?_
                          refine aw_go 1 rfl ⟨trivial, trivial⟩ ?_
                          refine aw_br (c := ¬ (1 : Int32) = 0) (fun h66 => ?_) (fun h66 => ?_)
                          · skip
                            have h66 := cI_eqF (a := 1) (b := 0) rfl rfl (by omega) (by omega) h66
                            show aw_W _ _ _ _ (70, [some (.ref 46)], []) (ae_en (au σ [(34, nI (c + s1.length)), (35, (-1)), (36, nI (o + 1)), (37, fr_62), (38, tt_62), (39, so_62), (40, iz_62)]) (au α [(40, putL (α 40) (1020 + c) (s1.map cA)), (41, putL (α 41) (1020 + c) (s1.map cW))]) z t0 ts)
                            refine aw_go 6 rfl ⟨trivial, trivial, trivial, trivial, trivial, trivial, trivial⟩ ?_
                            show aw_W _ _ _ _ (76, [some (.ref 46)], []) (ae_en (au σ [(34, nI (c + s1.length)), (35, (-1)), (36, (nI (o + 1)) - 1), (37, fr_62), (38, tt_62), (39, so_62), (40, iz_62)]) (au α [(40, putL (α 40) (1020 + c) (s1.map cA)), (41, putL (α 41) (1020 + c) (s1.map cW))]) z t0 ts)
                            rw [show (nI (o + 1)) - 1 = nI o from cI_sub (a := o + 1) (b := 1) rfl rfl (by omega)]
                            refine aw_go 1 rfl ⟨trivial, trivial⟩ ?_
                            refine aw_call rfl rfl (mr_next2 (s := s) (l := l1) a1 a2 a3 ht_62 f17) ?_
                            rintro _ _ ⟨fr_77, tt_77, so_77, iz_77, rfl, rfl, ht_77⟩
                            show aw_W _ _ _ _ (78, [some (.ref 46)], []) (ae_en (au σ [(34, nI (c + s1.length)), (35, (-1)), (36, nI o), (37, fr_77), (38, tt_77), (39, so_77), (40, iz_77)]) (au α [(40, putL (α 40) (1020 + c) (s1.map cA)), (41, putL (α 41) (1020 + c) (s1.map cW))]) z t0 ts)
                            refine aw_go 1 rfl ⟨trivial, trivial⟩ ?_
                            refine aw_ret rfl rfl trivial ?_
                            exact mrQ_ok rfl rfl rfl ht_77
                          · skip
                            have h66 := Classical.not_not.mp h66
                            have h66 := cI_eqT (a := 1) (b := 0) rfl rfl (by omega) (by omega) h66
                            show aw_W _ _ _ _ (67, [some (.ref 46)], []) (ae_en (au σ [(34, nI (c + s1.length)), (35, (-1)), (36, nI (o + 1)), (37, fr_62), (38, tt_62), (39, so_62), (40, iz_62)]) (au α [(40, putL (α 40) (1020 + c) (s1.map cA)), (41, putL (α 41) (1020 + c) (s1.map cW))]) z t0 ts)
                            exact absurd h66 (by decide)
                        · skip
                          have h59 := Classical.not_not.mp h59
                          have h59 := cI_eqT (a := 1) (b := 0) rfl rfl (by omega) (by omega) h59
                          show aw_W _ _ _ _ (60, [some (.ref 46)], []) (ae_en (au σ [(36, nI (o + 1)), (37, fr_58), (38, tt_58), (39, so_58), (40, iz_58)]) α z t0 ts)
                          exact absurd h59 (by decide)
                    · skip
                      have h35 := cI_eqF (a := 0) (b := 0) rfl rfl (by omega) (by omega) h35
                      show aw_W _ _ _ _ (36, [some (.ref 46)], []) (ae_en σ α z t0 ts)
                      exact absurd h35 (by decide)
                  · skip
                    have h19 := Classical.not_not.mp h19
                    show aw_W _ _ _ _ (20, [some (.ref 46)], []) (ae_en σ α z t0 ts)
                    refine aw_go 4 rfl ⟨trivial, trivial, trivial, trivial, trivial⟩ ?_
                    show aw_W _ _ _ _ (if (6 : Int32) ≤ (σ 40) then 32 else 24, [some (.ref 46)], []) (ae_en σ α z t0 ts)
                    refine aw_br (c := (6 : Int32) ≤ (σ 40)) (fun h23 => ?_) (fun h23 => ?_)
                    · skip
                      show aw_W _ _ _ _ (32, [some (.ref 46)], []) (ae_en σ α z t0 ts)
                      refine aw_go 2 rfl ⟨trivial, trivial, trivial⟩ ?_
                      refine aw_callE rfl rfl (ev_Model_isSign (b := 45)) ?_
                      show aw_W _ _ _ _ (35, [some (.ref 46)], [.int (bI ((σ 35) < 0 ∧ (σ 39) = 3 ∧ (σ 40) = 45))]) (ae_en σ α z t0 ts)
                      refine aw_top (x2 := 0) ((is_s45 a7t a5).trans (bI_0 e7).symm) ?_
                      refine aw_go 1 rfl ⟨trivial, trivial⟩ ?_
                      refine aw_br (c := (0 : Int32) = 0) (fun h35 => ?_) (fun h35 => ?_)
                      · skip
                        have h35 := cI_eqT (a := 0) (b := 0) rfl rfl (by omega) (by omega) h35
                        show aw_W _ _ _ _ (53, [some (.ref 46)], []) (ae_en σ α z t0 ts)
                        refine aw_go 2 rfl ⟨trivial, trivial, trivial⟩ ?_
                        refine aw_callE rfl rfl (ev_Model_isSign (b := 40)) ?_
                        show aw_W _ _ _ _ (56, [some (.ref 46)], [.int (bI ((σ 35) < 0 ∧ (σ 39) = 3 ∧ (σ 40) = 40))]) (ae_en σ α z t0 ts)
                        refine aw_top (x2 := 1) ((is_s40 a7t a5).trans (bI_1 e9).symm) ?_
                        refine aw_go 1 rfl ⟨trivial, trivial⟩ ?_
                        refine aw_br (c := (1 : Int32) = 0) (fun h56 => ?_) (fun h56 => ?_)
                        · skip
                          have h56 := cI_eqT (a := 1) (b := 0) rfl rfl (by omega) (by omega) h56
                          show aw_W _ _ _ _ (79, [some (.ref 46)], []) (ae_en σ α z t0 ts)
                          exact absurd h56 (by decide)
                        · skip
                          have h56 := cI_eqF (a := 1) (b := 0) rfl rfl (by omega) (by omega) h56
                          show aw_W _ _ _ _ (57, [some (.ref 46)], []) (ae_en σ α z t0 ts)
                          refine aw_go 1 rfl ⟨trivial, trivial⟩ ?_
                          refine aw_call rfl rfl (mr_opens_yes a0 e17 (by omega)) ?_
                          rintro _ _ ⟨fr_58, tt_58, so_58, iz_58, rfl, rfl, ht_58⟩
                          show aw_W _ _ _ _ (59, [some (.ref 46)], [.int 1]) (ae_en (au σ [(36, nI (o + 1)), (37, fr_58), (38, tt_58), (39, so_58), (40, iz_58)]) α z t0 ts)
                          refine aw_go 1 rfl ⟨trivial, trivial⟩ ?_
                          refine aw_br (c := ¬ (1 : Int32) = 0) (fun h59 => ?_) (fun h59 => ?_)
                          · skip
                            have h59 := cI_eqF (a := 1) (b := 0) rfl rfl (by omega) (by omega) h59
                            show aw_W _ _ _ _ (61, [some (.ref 46)], []) (ae_en (au σ [(36, nI (o + 1)), (37, fr_58), (38, tt_58), (39, so_58), (40, iz_58)]) α z t0 ts)
                            refine aw_go 1 rfl ⟨trivial, trivial⟩ ?_
                            refine aw_call rfl rfl (mrX_y ih0 q1 ⟨a1, a2, a3, a4, a5, rfl, ht_58, (by omega), (ht.2.1 a9), (by omega)⟩ (by simp only [mrD] at hD ⊢; omega)) ?_
                            rintro _ _ ⟨fr_62, tt_62, so_62, iz_62, rfl, rfl, ht_62⟩
                            show aw_W _ _ _ _ (63, [some (.ref 46)], []) (ae_en (au σ [(34, nI (c + s1.length)), (35, (-1)), (36, nI (o + 1)), (37, fr_62), (38, tt_62), (39, so_62), (40, iz_62)]) (au α [(40, putL (α 40) (1020 + c) (s1.map cA)), (41, putL (α 41) (1020 + c) (s1.map cW))]) z t0 ts)
                            refine aw_go 2 rfl ⟨trivial, trivial, trivial⟩ ?_
                            refine aw_callE rfl rfl (ev_Model_isSign (b := 41)) ?_
                            show aw_W _ _ _ _ (66, [some (.ref 46)], [.int (bI ((-1) < 0 ∧ so_62 = 3 ∧ iz_62 = 41))]) (ae_en (au σ [(34, nI (c + s1.length)), (35, (-1)), (36, nI (o + 1)), (37, fr_62), (38, tt_62), (39, so_62), (40, iz_62)]) (au α [(40, putL (α 40) (1020 + c) (s1.map cA)), (41, putL (α 41) (1020 + c) (s1.map cW))]) z t0 ts)
                            refine aw_top (x2 := 1) ((is_s41 ht_62.2.2.1 rfl).trans (bI_1 f).symm) ?_
                            refine aw_go 1 rfl ⟨trivial, trivial⟩ ?_
                            refine aw_br (c := ¬ (1 : Int32) = 0) (fun h66 => ?_) (fun h66 => ?_)
                            · skip
                              have h66 := cI_eqF (a := 1) (b := 0) rfl rfl (by omega) (by omega) h66
                              show aw_W _ _ _ _ (70, [some (.ref 46)], []) (ae_en (au σ [(34, nI (c + s1.length)), (35, (-1)), (36, nI (o + 1)), (37, fr_62), (38, tt_62), (39, so_62), (40, iz_62)]) (au α [(40, putL (α 40) (1020 + c) (s1.map cA)), (41, putL (α 41) (1020 + c) (s1.map cW))]) z t0 ts)
                              refine aw_go 6 rfl ⟨trivial, trivial, trivial, trivial, trivial, trivial, trivial⟩ ?_
                              show aw_W _ _ _ _ (76, [some (.ref 46)], []) (ae_en (au σ [(34, nI (c + s1.length)), (35, (-1)), (36, (nI (o + 1)) - 1), (37, fr_62), (38, tt_62), (39, so_62), (40, iz_62)]) (au α [(40, putL (α 40) (1020 + c) (s1.map cA)), (41, putL (α 41) (1020 + c) (s1.map cW))]) z t0 ts)
                              rw [show (nI (o + 1)) - 1 = nI o from cI_sub (a := o + 1) (b := 1) rfl rfl (by omega)]
                              refine aw_go 1 rfl ⟨trivial, trivial⟩ ?_
                              refine aw_call rfl rfl (mr_next2 (s := s) (l := l1) a1 a2 a3 ht_62 f17) ?_
                              rintro _ _ ⟨fr_77, tt_77, so_77, iz_77, rfl, rfl, ht_77⟩
                              show aw_W _ _ _ _ (78, [some (.ref 46)], []) (ae_en (au σ [(34, nI (c + s1.length)), (35, (-1)), (36, nI o), (37, fr_77), (38, tt_77), (39, so_77), (40, iz_77)]) (au α [(40, putL (α 40) (1020 + c) (s1.map cA)), (41, putL (α 41) (1020 + c) (s1.map cW))]) z t0 ts)
                              refine aw_go 1 rfl ⟨trivial, trivial⟩ ?_
                              refine aw_ret rfl rfl trivial ?_
                              exact mrQ_ok rfl rfl rfl ht_77
                            · skip
                              have h66 := Classical.not_not.mp h66
                              have h66 := cI_eqT (a := 1) (b := 0) rfl rfl (by omega) (by omega) h66
                              show aw_W _ _ _ _ (67, [some (.ref 46)], []) (ae_en (au σ [(34, nI (c + s1.length)), (35, (-1)), (36, nI (o + 1)), (37, fr_62), (38, tt_62), (39, so_62), (40, iz_62)]) (au α [(40, putL (α 40) (1020 + c) (s1.map cA)), (41, putL (α 41) (1020 + c) (s1.map cW))]) z t0 ts)
                              exact absurd h66 (by decide)
                          · skip
                            have h59 := Classical.not_not.mp h59
                            have h59 := cI_eqT (a := 1) (b := 0) rfl rfl (by omega) (by omega) h59
                            show aw_W _ _ _ _ (60, [some (.ref 46)], []) (ae_en (au σ [(36, nI (o + 1)), (37, fr_58), (38, tt_58), (39, so_58), (40, iz_58)]) α z t0 ts)
                            exact absurd h59 (by decide)
                      · skip
                        have h35 := cI_eqF (a := 0) (b := 0) rfl rfl (by omega) (by omega) h35
                        show aw_W _ _ _ _ (36, [some (.ref 46)], []) (ae_en σ α z t0 ts)
                        exact absurd h35 (by decide)
                    · skip
                      show aw_W _ _ _ _ (24, [some (.ref 46)], []) (ae_en σ α z t0 ts)
                      exact absurd ⟨(tk_fact a7t h19 (Int32.not_le.mp h23)).1, (tk_fact a7t h19 (Int32.not_le.mp h23)).2.1⟩ e
                · skip
                  have h7 := Classical.not_not.mp h7
                  show aw_W _ _ _ _ (8, [some (.ref 46)], []) (ae_en σ α z t0 ts)
                  exact absurd ⟨(tk_num a7t h7).1, (tk_num a7t h7).2.1⟩ e
              · skip
                show aw_W _ _ _ _ (3, [some (.ref 46)], []) (ae_en σ α z t0 ts)
                exact absurd (by rw [a5]; decide) h2
            · rw [if_neg f] at hpp
              cases hpp
              show aw_W _ _ _ _ (0, [some (.ref 46)], []) (ae_en σ α z t0 ts)
              refine aw_go 3 rfl ⟨trivial, trivial, trivial, trivial⟩ ?_
              show aw_W _ _ _ _ (if (σ 35) < 0 then 4 else 3, [some (.ref 46)], []) (ae_en σ α z t0 ts)
              refine aw_br (c := (σ 35) < 0) (fun h2 => ?_) (fun h2 => ?_)
              · skip
                show aw_W _ _ _ _ (4, [some (.ref 46)], []) (ae_en σ α z t0 ts)
                refine aw_go 4 rfl ⟨trivial, trivial, trivial, trivial, trivial⟩ ?_
                show aw_W _ _ _ _ (if ¬ (σ 39) = 2 then 16 else 8, [some (.ref 46)], []) (ae_en σ α z t0 ts)
                refine aw_br (c := ¬ (σ 39) = 2) (fun h7 => ?_) (fun h7 => ?_)
                · skip
                  show aw_W _ _ _ _ (16, [some (.ref 46)], []) (ae_en σ α z t0 ts)
                  refine aw_go 4 rfl ⟨trivial, trivial, trivial, trivial, trivial⟩ ?_
                  show aw_W _ _ _ _ (if ¬ (σ 39) = 1 then 32 else 20, [some (.ref 46)], []) (ae_en σ α z t0 ts)
                  refine aw_br (c := ¬ (σ 39) = 1) (fun h19 => ?_) (fun h19 => ?_)
                  · skip
                    show aw_W _ _ _ _ (32, [some (.ref 46)], []) (ae_en σ α z t0 ts)
                    refine aw_go 2 rfl ⟨trivial, trivial, trivial⟩ ?_
                    refine aw_callE rfl rfl (ev_Model_isSign (b := 45)) ?_
                    show aw_W _ _ _ _ (35, [some (.ref 46)], [.int (bI ((σ 35) < 0 ∧ (σ 39) = 3 ∧ (σ 40) = 45))]) (ae_en σ α z t0 ts)
                    refine aw_top (x2 := 0) ((is_s45 a7t a5).trans (bI_0 e7).symm) ?_
                    refine aw_go 1 rfl ⟨trivial, trivial⟩ ?_
                    refine aw_br (c := (0 : Int32) = 0) (fun h35 => ?_) (fun h35 => ?_)
                    · skip
                      have h35 := cI_eqT (a := 0) (b := 0) rfl rfl (by omega) (by omega) h35
                      show aw_W _ _ _ _ (53, [some (.ref 46)], []) (ae_en σ α z t0 ts)
                      refine aw_go 2 rfl ⟨trivial, trivial, trivial⟩ ?_
                      refine aw_callE rfl rfl (ev_Model_isSign (b := 40)) ?_
                      show aw_W _ _ _ _ (56, [some (.ref 46)], [.int (bI ((σ 35) < 0 ∧ (σ 39) = 3 ∧ (σ 40) = 40))]) (ae_en σ α z t0 ts)
                      refine aw_top (x2 := 1) ((is_s40 a7t a5).trans (bI_1 e9).symm) ?_
                      refine aw_go 1 rfl ⟨trivial, trivial⟩ ?_
                      refine aw_br (c := (1 : Int32) = 0) (fun h56 => ?_) (fun h56 => ?_)
                      · skip
                        have h56 := cI_eqT (a := 1) (b := 0) rfl rfl (by omega) (by omega) h56
                        show aw_W _ _ _ _ (79, [some (.ref 46)], []) (ae_en σ α z t0 ts)
                        exact absurd h56 (by decide)
                      · skip
                        have h56 := cI_eqF (a := 1) (b := 0) rfl rfl (by omega) (by omega) h56
                        show aw_W _ _ _ _ (57, [some (.ref 46)], []) (ae_en σ α z t0 ts)
                        refine aw_go 1 rfl ⟨trivial, trivial⟩ ?_
                        refine aw_call rfl rfl (mr_opens_yes a0 e17 (by omega)) ?_
                        rintro _ _ ⟨fr_58, tt_58, so_58, iz_58, rfl, rfl, ht_58⟩
                        show aw_W _ _ _ _ (59, [some (.ref 46)], [.int 1]) (ae_en (au σ [(36, nI (o + 1)), (37, fr_58), (38, tt_58), (39, so_58), (40, iz_58)]) α z t0 ts)
                        refine aw_go 1 rfl ⟨trivial, trivial⟩ ?_
                        refine aw_br (c := ¬ (1 : Int32) = 0) (fun h59 => ?_) (fun h59 => ?_)
                        · skip
                          have h59 := cI_eqF (a := 1) (b := 0) rfl rfl (by omega) (by omega) h59
                          show aw_W _ _ _ _ (61, [some (.ref 46)], []) (ae_en (au σ [(36, nI (o + 1)), (37, fr_58), (38, tt_58), (39, so_58), (40, iz_58)]) α z t0 ts)
                          refine aw_go 1 rfl ⟨trivial, trivial⟩ ?_
                          refine aw_call rfl rfl (mrX_y ih0 q1 ⟨a1, a2, a3, a4, a5, rfl, ht_58, (by omega), (ht.2.1 a9), (by omega)⟩ (by simp only [mrD] at hD ⊢; omega)) ?_
                          rintro _ _ ⟨fr_62, tt_62, so_62, iz_62, rfl, rfl, ht_62⟩
                          show aw_W _ _ _ _ (63, [some (.ref 46)], []) (ae_en (au σ [(34, nI (c + s1.length)), (35, (-1)), (36, nI (o + 1)), (37, fr_62), (38, tt_62), (39, so_62), (40, iz_62)]) (au α [(40, putL (α 40) (1020 + c) (s1.map cA)), (41, putL (α 41) (1020 + c) (s1.map cW))]) z t0 ts)
                          refine aw_go 2 rfl ⟨trivial, trivial, trivial⟩ ?_
                          refine aw_callE rfl rfl (ev_Model_isSign (b := 41)) ?_
                          show aw_W _ _ _ _ (66, [some (.ref 46)], [.int (bI ((-1) < 0 ∧ so_62 = 3 ∧ iz_62 = 41))]) (ae_en (au σ [(34, nI (c + s1.length)), (35, (-1)), (36, nI (o + 1)), (37, fr_62), (38, tt_62), (39, so_62), (40, iz_62)]) (au α [(40, putL (α 40) (1020 + c) (s1.map cA)), (41, putL (α 41) (1020 + c) (s1.map cW))]) z t0 ts)
                          refine aw_top (x2 := 0) ((is_s41 ht_62.2.2.1 rfl).trans (bI_0 f).symm) ?_
                          refine aw_go 1 rfl ⟨trivial, trivial⟩ ?_
                          refine aw_br (c := ¬ (0 : Int32) = 0) (fun h66 => ?_) (fun h66 => ?_)
                          · skip
                            have h66 := cI_eqF (a := 0) (b := 0) rfl rfl (by omega) (by omega) h66
                            show aw_W _ _ _ _ (70, [some (.ref 46)], []) (ae_en (au σ [(34, nI (c + s1.length)), (35, (-1)), (36, nI (o + 1)), (37, fr_62), (38, tt_62), (39, so_62), (40, iz_62)]) (au α [(40, putL (α 40) (1020 + c) (s1.map cA)), (41, putL (α 41) (1020 + c) (s1.map cW))]) z t0 ts)
                            exact absurd h66 (by decide)
                          · skip
                            have h66 := Classical.not_not.mp h66
                            have h66 := cI_eqT (a := 0) (b := 0) rfl rfl (by omega) (by omega) h66
                            show aw_W _ _ _ _ (67, [some (.ref 46)], []) (ae_en (au σ [(34, nI (c + s1.length)), (35, (-1)), (36, nI (o + 1)), (37, fr_62), (38, tt_62), (39, so_62), (40, iz_62)]) (au α [(40, putL (α 40) (1020 + c) (s1.map cA)), (41, putL (α 41) (1020 + c) (s1.map cW))]) z t0 ts)
                            refine aw_go 1 rfl ⟨trivial, trivial⟩ ?_
                            refine aw_call rfl rfl (ev_faulty_1  rfl) ?_
                            rintro _ _ ⟨rfl, rfl⟩
                            show aw_W _ _ _ _ (69, [some (.ref 46)], []) (ae_en (au σ [(34, nI (c + s1.length)), (35, fr_62), (36, nI (o + 1)), (37, fr_62), (38, tt_62), (39, so_62), (40, iz_62)]) (au α [(40, putL (α 40) (1020 + c) (s1.map cA)), (41, putL (α 41) (1020 + c) (s1.map cW))]) z t0 ts)
                            refine aw_ret rfl rfl trivial ?_
                            rw [ht_62.1]
                            exact mrQ_bad ht_62.2.1 (by omega) (by omega) put_out
                        · skip
                          have h59 := Classical.not_not.mp h59
                          have h59 := cI_eqT (a := 1) (b := 0) rfl rfl (by omega) (by omega) h59
                          show aw_W _ _ _ _ (60, [some (.ref 46)], []) (ae_en (au σ [(36, nI (o + 1)), (37, fr_58), (38, tt_58), (39, so_58), (40, iz_58)]) α z t0 ts)
                          exact absurd h59 (by decide)
                    · skip
                      have h35 := cI_eqF (a := 0) (b := 0) rfl rfl (by omega) (by omega) h35
                      show aw_W _ _ _ _ (36, [some (.ref 46)], []) (ae_en σ α z t0 ts)
                      exact absurd h35 (by decide)
                  · skip
                    have h19 := Classical.not_not.mp h19
                    show aw_W _ _ _ _ (20, [some (.ref 46)], []) (ae_en σ α z t0 ts)
                    refine aw_go 4 rfl ⟨trivial, trivial, trivial, trivial, trivial⟩ ?_
                    show aw_W _ _ _ _ (if (6 : Int32) ≤ (σ 40) then 32 else 24, [some (.ref 46)], []) (ae_en σ α z t0 ts)
                    refine aw_br (c := (6 : Int32) ≤ (σ 40)) (fun h23 => ?_) (fun h23 => ?_)
                    · skip
                      show aw_W _ _ _ _ (32, [some (.ref 46)], []) (ae_en σ α z t0 ts)
                      refine aw_go 2 rfl ⟨trivial, trivial, trivial⟩ ?_
                      refine aw_callE rfl rfl (ev_Model_isSign (b := 45)) ?_
                      show aw_W _ _ _ _ (35, [some (.ref 46)], [.int (bI ((σ 35) < 0 ∧ (σ 39) = 3 ∧ (σ 40) = 45))]) (ae_en σ α z t0 ts)
                      refine aw_top (x2 := 0) ((is_s45 a7t a5).trans (bI_0 e7).symm) ?_
                      refine aw_go 1 rfl ⟨trivial, trivial⟩ ?_
                      refine aw_br (c := (0 : Int32) = 0) (fun h35 => ?_) (fun h35 => ?_)
                      · skip
                        have h35 := cI_eqT (a := 0) (b := 0) rfl rfl (by omega) (by omega) h35
                        show aw_W _ _ _ _ (53, [some (.ref 46)], []) (ae_en σ α z t0 ts)
                        refine aw_go 2 rfl ⟨trivial, trivial, trivial⟩ ?_
                        refine aw_callE rfl rfl (ev_Model_isSign (b := 40)) ?_
                        show aw_W _ _ _ _ (56, [some (.ref 46)], [.int (bI ((σ 35) < 0 ∧ (σ 39) = 3 ∧ (σ 40) = 40))]) (ae_en σ α z t0 ts)
                        refine aw_top (x2 := 1) ((is_s40 a7t a5).trans (bI_1 e9).symm) ?_
                        refine aw_go 1 rfl ⟨trivial, trivial⟩ ?_
                        refine aw_br (c := (1 : Int32) = 0) (fun h56 => ?_) (fun h56 => ?_)
                        · skip
                          have h56 := cI_eqT (a := 1) (b := 0) rfl rfl (by omega) (by omega) h56
                          show aw_W _ _ _ _ (79, [some (.ref 46)], []) (ae_en σ α z t0 ts)
                          exact absurd h56 (by decide)
                        · skip
                          have h56 := cI_eqF (a := 1) (b := 0) rfl rfl (by omega) (by omega) h56
                          show aw_W _ _ _ _ (57, [some (.ref 46)], []) (ae_en σ α z t0 ts)
                          refine aw_go 1 rfl ⟨trivial, trivial⟩ ?_
                          refine aw_call rfl rfl (mr_opens_yes a0 e17 (by omega)) ?_
                          rintro _ _ ⟨fr_58, tt_58, so_58, iz_58, rfl, rfl, ht_58⟩
                          show aw_W _ _ _ _ (59, [some (.ref 46)], [.int 1]) (ae_en (au σ [(36, nI (o + 1)), (37, fr_58), (38, tt_58), (39, so_58), (40, iz_58)]) α z t0 ts)
                          refine aw_go 1 rfl ⟨trivial, trivial⟩ ?_
                          refine aw_br (c := ¬ (1 : Int32) = 0) (fun h59 => ?_) (fun h59 => ?_)
                          · skip
                            have h59 := cI_eqF (a := 1) (b := 0) rfl rfl (by omega) (by omega) h59
                            show aw_W _ _ _ _ (61, [some (.ref 46)], []) (ae_en (au σ [(36, nI (o + 1)), (37, fr_58), (38, tt_58), (39, so_58), (40, iz_58)]) α z t0 ts)
                            refine aw_go 1 rfl ⟨trivial, trivial⟩ ?_
                            refine aw_call rfl rfl (mrX_y ih0 q1 ⟨a1, a2, a3, a4, a5, rfl, ht_58, (by omega), (ht.2.1 a9), (by omega)⟩ (by simp only [mrD] at hD ⊢; omega)) ?_
                            rintro _ _ ⟨fr_62, tt_62, so_62, iz_62, rfl, rfl, ht_62⟩
                            show aw_W _ _ _ _ (63, [some (.ref 46)], []) (ae_en (au σ [(34, nI (c + s1.length)), (35, (-1)), (36, nI (o + 1)), (37, fr_62), (38, tt_62), (39, so_62), (40, iz_62)]) (au α [(40, putL (α 40) (1020 + c) (s1.map cA)), (41, putL (α 41) (1020 + c) (s1.map cW))]) z t0 ts)
                            refine aw_go 2 rfl ⟨trivial, trivial, trivial⟩ ?_
                            refine aw_callE rfl rfl (ev_Model_isSign (b := 41)) ?_
                            show aw_W _ _ _ _ (66, [some (.ref 46)], [.int (bI ((-1) < 0 ∧ so_62 = 3 ∧ iz_62 = 41))]) (ae_en (au σ [(34, nI (c + s1.length)), (35, (-1)), (36, nI (o + 1)), (37, fr_62), (38, tt_62), (39, so_62), (40, iz_62)]) (au α [(40, putL (α 40) (1020 + c) (s1.map cA)), (41, putL (α 41) (1020 + c) (s1.map cW))]) z t0 ts)
                            refine aw_top (x2 := 0) ((is_s41 ht_62.2.2.1 rfl).trans (bI_0 f).symm) ?_
                            refine aw_go 1 rfl ⟨trivial, trivial⟩ ?_
                            refine aw_br (c := ¬ (0 : Int32) = 0) (fun h66 => ?_) (fun h66 => ?_)
                            · skip
                              have h66 := cI_eqF (a := 0) (b := 0) rfl rfl (by omega) (by omega) h66
                              show aw_W _ _ _ _ (70, [some (.ref 46)], []) (ae_en (au σ [(34, nI (c + s1.length)), (35, (-1)), (36, nI (o + 1)), (37, fr_62), (38, tt_62), (39, so_62), (40, iz_62)]) (au α [(40, putL (α 40) (1020 + c) (s1.map cA)), (41, putL (α 41) (1020 + c) (s1.map cW))]) z t0 ts)
                              exact absurd h66 (by decide)
                            · skip
                              have h66 := Classical.not_not.mp h66
                              have h66 := cI_eqT (a := 0) (b := 0) rfl rfl (by omega) (by omega) h66
                              show aw_W _ _ _ _ (67, [some (.ref 46)], []) (ae_en (au σ [(34, nI (c + s1.length)), (35, (-1)), (36, nI (o + 1)), (37, fr_62), (38, tt_62), (39, so_62), (40, iz_62)]) (au α [(40, putL (α 40) (1020 + c) (s1.map cA)), (41, putL (α 41) (1020 + c) (s1.map cW))]) z t0 ts)
                              refine aw_go 1 rfl ⟨trivial, trivial⟩ ?_
                              refine aw_call rfl rfl (ev_faulty_1  rfl) ?_
                              rintro _ _ ⟨rfl, rfl⟩
                              show aw_W _ _ _ _ (69, [some (.ref 46)], []) (ae_en (au σ [(34, nI (c + s1.length)), (35, fr_62), (36, nI (o + 1)), (37, fr_62), (38, tt_62), (39, so_62), (40, iz_62)]) (au α [(40, putL (α 40) (1020 + c) (s1.map cA)), (41, putL (α 41) (1020 + c) (s1.map cW))]) z t0 ts)
                              refine aw_ret rfl rfl trivial ?_
                              rw [ht_62.1]
                              exact mrQ_bad ht_62.2.1 (by omega) (by omega) put_out
                          · skip
                            have h59 := Classical.not_not.mp h59
                            have h59 := cI_eqT (a := 1) (b := 0) rfl rfl (by omega) (by omega) h59
                            show aw_W _ _ _ _ (60, [some (.ref 46)], []) (ae_en (au σ [(36, nI (o + 1)), (37, fr_58), (38, tt_58), (39, so_58), (40, iz_58)]) α z t0 ts)
                            exact absurd h59 (by decide)
                      · skip
                        have h35 := cI_eqF (a := 0) (b := 0) rfl rfl (by omega) (by omega) h35
                        show aw_W _ _ _ _ (36, [some (.ref 46)], []) (ae_en σ α z t0 ts)
                        exact absurd h35 (by decide)
                    · skip
                      show aw_W _ _ _ _ (24, [some (.ref 46)], []) (ae_en σ α z t0 ts)
                      exact absurd ⟨(tk_fact a7t h19 (Int32.not_le.mp h23)).1, (tk_fact a7t h19 (Int32.not_le.mp h23)).2.1⟩ e
                · skip
                  have h7 := Classical.not_not.mp h7
                  show aw_W _ _ _ _ (8, [some (.ref 46)], []) (ae_en σ α z t0 ts)
                  exact absurd ⟨(tk_num a7t h7).1, (tk_num a7t h7).2.1⟩ e
              · skip
                show aw_W _ _ _ _ (3, [some (.ref 46)], []) (ae_en σ α z t0 ts)
                exact absurd (by rw [a5]; decide) h2
          · have hp := (pp_pH _ _ _ _ _ _ _ q1).1
            have hp1 := hp.1
            show aw_W _ _ _ _ (0, [some (.ref 46)], []) (ae_en σ α z t0 ts)
            refine aw_go 3 rfl ⟨trivial, trivial, trivial, trivial⟩ ?_
            show aw_W _ _ _ _ (if (σ 35) < 0 then 4 else 3, [some (.ref 46)], []) (ae_en σ α z t0 ts)
            refine aw_br (c := (σ 35) < 0) (fun h2 => ?_) (fun h2 => ?_)
            · skip
              show aw_W _ _ _ _ (4, [some (.ref 46)], []) (ae_en σ α z t0 ts)
              refine aw_go 4 rfl ⟨trivial, trivial, trivial, trivial, trivial⟩ ?_
              show aw_W _ _ _ _ (if ¬ (σ 39) = 2 then 16 else 8, [some (.ref 46)], []) (ae_en σ α z t0 ts)
              refine aw_br (c := ¬ (σ 39) = 2) (fun h7 => ?_) (fun h7 => ?_)
              · skip
                show aw_W _ _ _ _ (16, [some (.ref 46)], []) (ae_en σ α z t0 ts)
                refine aw_go 4 rfl ⟨trivial, trivial, trivial, trivial, trivial⟩ ?_
                show aw_W _ _ _ _ (if ¬ (σ 39) = 1 then 32 else 20, [some (.ref 46)], []) (ae_en σ α z t0 ts)
                refine aw_br (c := ¬ (σ 39) = 1) (fun h19 => ?_) (fun h19 => ?_)
                · skip
                  show aw_W _ _ _ _ (32, [some (.ref 46)], []) (ae_en σ α z t0 ts)
                  refine aw_go 2 rfl ⟨trivial, trivial, trivial⟩ ?_
                  refine aw_callE rfl rfl (ev_Model_isSign (b := 45)) ?_
                  show aw_W _ _ _ _ (35, [some (.ref 46)], [.int (bI ((σ 35) < 0 ∧ (σ 39) = 3 ∧ (σ 40) = 45))]) (ae_en σ α z t0 ts)
                  refine aw_top (x2 := 0) ((is_s45 a7t a5).trans (bI_0 e7).symm) ?_
                  refine aw_go 1 rfl ⟨trivial, trivial⟩ ?_
                  refine aw_br (c := (0 : Int32) = 0) (fun h35 => ?_) (fun h35 => ?_)
                  · skip
                    have h35 := cI_eqT (a := 0) (b := 0) rfl rfl (by omega) (by omega) h35
                    show aw_W _ _ _ _ (53, [some (.ref 46)], []) (ae_en σ α z t0 ts)
                    refine aw_go 2 rfl ⟨trivial, trivial, trivial⟩ ?_
                    refine aw_callE rfl rfl (ev_Model_isSign (b := 40)) ?_
                    show aw_W _ _ _ _ (56, [some (.ref 46)], [.int (bI ((σ 35) < 0 ∧ (σ 39) = 3 ∧ (σ 40) = 40))]) (ae_en σ α z t0 ts)
                    refine aw_top (x2 := 1) ((is_s40 a7t a5).trans (bI_1 e9).symm) ?_
                    refine aw_go 1 rfl ⟨trivial, trivial⟩ ?_
                    refine aw_br (c := (1 : Int32) = 0) (fun h56 => ?_) (fun h56 => ?_)
                    · skip
                      have h56 := cI_eqT (a := 1) (b := 0) rfl rfl (by omega) (by omega) h56
                      show aw_W _ _ _ _ (79, [some (.ref 46)], []) (ae_en σ α z t0 ts)
                      exact absurd h56 (by decide)
                    · skip
                      have h56 := cI_eqF (a := 1) (b := 0) rfl rfl (by omega) (by omega) h56
                      show aw_W _ _ _ _ (57, [some (.ref 46)], []) (ae_en σ α z t0 ts)
                      refine aw_go 1 rfl ⟨trivial, trivial⟩ ?_
                      refine aw_call rfl rfl (mr_opens_yes a0 e17 (by omega)) ?_
                      rintro _ _ ⟨fr_58, tt_58, so_58, iz_58, rfl, rfl, ht_58⟩
                      show aw_W _ _ _ _ (59, [some (.ref 46)], [.int 1]) (ae_en (au σ [(36, nI (o + 1)), (37, fr_58), (38, tt_58), (39, so_58), (40, iz_58)]) α z t0 ts)
                      refine aw_go 1 rfl ⟨trivial, trivial⟩ ?_
                      refine aw_br (c := ¬ (1 : Int32) = 0) (fun h59 => ?_) (fun h59 => ?_)
                      · skip
                        have h59 := cI_eqF (a := 1) (b := 0) rfl rfl (by omega) (by omega) h59
                        show aw_W _ _ _ _ (61, [some (.ref 46)], []) (ae_en (au σ [(36, nI (o + 1)), (37, fr_58), (38, tt_58), (39, so_58), (40, iz_58)]) α z t0 ts)
                        refine aw_go 1 rfl ⟨trivial, trivial⟩ ?_
                        refine aw_call rfl rfl (mrX_n ih0 q1 ⟨a1, a2, a3, a4, a5, rfl, ht_58, (by omega), (ht.2.1 a9), (by omega)⟩ (by simp only [mrD] at hD ⊢; omega)) ?_
                        rintro _ _ ⟨k_62, op_62, fr_62, tt_62, so_62, iz_62, A_62, W_62, rfl, rfl, f1_62, f2_62, f3_62, f4_62⟩
                        show aw_W _ _ _ _ (63, [some (.ref 46)], []) (ae_en (au σ [(34, nI k_62), (35, nI (hdP l1)), (36, op_62), (37, fr_62), (38, tt_62), (39, so_62), (40, iz_62)]) (au α [(40, A_62), (41, W_62)]) z t0 ts)
                        refine aw_go 2 rfl ⟨trivial, trivial, trivial⟩ ?_
                        refine aw_callE rfl rfl (ev_Model_isSign (b := 41)) ?_
                        show aw_W _ _ _ _ (66, [some (.ref 46)], [.int (bI ((nI (hdP l1)) < 0 ∧ so_62 = 3 ∧ iz_62 = 41))]) (ae_en (au σ [(34, nI k_62), (35, nI (hdP l1)), (36, op_62), (37, fr_62), (38, tt_62), (39, so_62), (40, iz_62)]) (au α [(40, A_62), (41, W_62)]) z t0 ts)
                        refine aw_top (x2 := 0) (is_no (p := hdP l1) (by omega) rfl) ?_
                        refine aw_go 1 rfl ⟨trivial, trivial⟩ ?_
                        refine aw_br (c := ¬ (0 : Int32) = 0) (fun h66 => ?_) (fun h66 => ?_)
                        · skip
                          have h66 := cI_eqF (a := 0) (b := 0) rfl rfl (by omega) (by omega) h66
                          show aw_W _ _ _ _ (70, [some (.ref 46)], []) (ae_en (au σ [(34, nI k_62), (35, nI (hdP l1)), (36, op_62), (37, fr_62), (38, tt_62), (39, so_62), (40, iz_62)]) (au α [(40, A_62), (41, W_62)]) z t0 ts)
                          exact absurd h66 (by decide)
                        · skip
                          have h66 := Classical.not_not.mp h66
                          have h66 := cI_eqT (a := 0) (b := 0) rfl rfl (by omega) (by omega) h66
                          show aw_W _ _ _ _ (67, [some (.ref 46)], []) (ae_en (au σ [(34, nI k_62), (35, nI (hdP l1)), (36, op_62), (37, fr_62), (38, tt_62), (39, so_62), (40, iz_62)]) (au α [(40, A_62), (41, W_62)]) z t0 ts)
                          refine aw_go 1 rfl ⟨trivial, trivial⟩ ?_
                          refine aw_callE rfl rfl (ev_faulty_0  (Int32.not_lt.mp (nI_nneg (by omega)))) ?_
                          show aw_W _ _ _ _ (69, [some (.ref 46)], []) (ae_en (au σ [(34, nI k_62), (35, nI (hdP l1)), (36, op_62), (37, fr_62), (38, tt_62), (39, so_62), (40, iz_62)]) (au α [(40, A_62), (41, W_62)]) z t0 ts)
                          refine aw_ret rfl rfl trivial ?_
                          exact mrQ_bad f1_62 (by omega) (by omega) f4_62
                      · skip
                        have h59 := Classical.not_not.mp h59
                        have h59 := cI_eqT (a := 1) (b := 0) rfl rfl (by omega) (by omega) h59
                        show aw_W _ _ _ _ (60, [some (.ref 46)], []) (ae_en (au σ [(36, nI (o + 1)), (37, fr_58), (38, tt_58), (39, so_58), (40, iz_58)]) α z t0 ts)
                        exact absurd h59 (by decide)
                  · skip
                    have h35 := cI_eqF (a := 0) (b := 0) rfl rfl (by omega) (by omega) h35
                    show aw_W _ _ _ _ (36, [some (.ref 46)], []) (ae_en σ α z t0 ts)
                    exact absurd h35 (by decide)
                · skip
                  have h19 := Classical.not_not.mp h19
                  show aw_W _ _ _ _ (20, [some (.ref 46)], []) (ae_en σ α z t0 ts)
                  refine aw_go 4 rfl ⟨trivial, trivial, trivial, trivial, trivial⟩ ?_
                  show aw_W _ _ _ _ (if (6 : Int32) ≤ (σ 40) then 32 else 24, [some (.ref 46)], []) (ae_en σ α z t0 ts)
                  refine aw_br (c := (6 : Int32) ≤ (σ 40)) (fun h23 => ?_) (fun h23 => ?_)
                  · skip
                    show aw_W _ _ _ _ (32, [some (.ref 46)], []) (ae_en σ α z t0 ts)
                    refine aw_go 2 rfl ⟨trivial, trivial, trivial⟩ ?_
                    refine aw_callE rfl rfl (ev_Model_isSign (b := 45)) ?_
                    show aw_W _ _ _ _ (35, [some (.ref 46)], [.int (bI ((σ 35) < 0 ∧ (σ 39) = 3 ∧ (σ 40) = 45))]) (ae_en σ α z t0 ts)
                    refine aw_top (x2 := 0) ((is_s45 a7t a5).trans (bI_0 e7).symm) ?_
                    refine aw_go 1 rfl ⟨trivial, trivial⟩ ?_
                    refine aw_br (c := (0 : Int32) = 0) (fun h35 => ?_) (fun h35 => ?_)
                    · skip
                      have h35 := cI_eqT (a := 0) (b := 0) rfl rfl (by omega) (by omega) h35
                      show aw_W _ _ _ _ (53, [some (.ref 46)], []) (ae_en σ α z t0 ts)
                      refine aw_go 2 rfl ⟨trivial, trivial, trivial⟩ ?_
                      refine aw_callE rfl rfl (ev_Model_isSign (b := 40)) ?_
                      show aw_W _ _ _ _ (56, [some (.ref 46)], [.int (bI ((σ 35) < 0 ∧ (σ 39) = 3 ∧ (σ 40) = 40))]) (ae_en σ α z t0 ts)
                      refine aw_top (x2 := 1) ((is_s40 a7t a5).trans (bI_1 e9).symm) ?_
                      refine aw_go 1 rfl ⟨trivial, trivial⟩ ?_
                      refine aw_br (c := (1 : Int32) = 0) (fun h56 => ?_) (fun h56 => ?_)
                      · skip
                        have h56 := cI_eqT (a := 1) (b := 0) rfl rfl (by omega) (by omega) h56
                        show aw_W _ _ _ _ (79, [some (.ref 46)], []) (ae_en σ α z t0 ts)
                        exact absurd h56 (by decide)
                      · skip
                        have h56 := cI_eqF (a := 1) (b := 0) rfl rfl (by omega) (by omega) h56
                        show aw_W _ _ _ _ (57, [some (.ref 46)], []) (ae_en σ α z t0 ts)
                        refine aw_go 1 rfl ⟨trivial, trivial⟩ ?_
                        refine aw_call rfl rfl (mr_opens_yes a0 e17 (by omega)) ?_
                        rintro _ _ ⟨fr_58, tt_58, so_58, iz_58, rfl, rfl, ht_58⟩
                        show aw_W _ _ _ _ (59, [some (.ref 46)], [.int 1]) (ae_en (au σ [(36, nI (o + 1)), (37, fr_58), (38, tt_58), (39, so_58), (40, iz_58)]) α z t0 ts)
                        refine aw_go 1 rfl ⟨trivial, trivial⟩ ?_
                        refine aw_br (c := ¬ (1 : Int32) = 0) (fun h59 => ?_) (fun h59 => ?_)
                        · skip
                          have h59 := cI_eqF (a := 1) (b := 0) rfl rfl (by omega) (by omega) h59
                          show aw_W _ _ _ _ (61, [some (.ref 46)], []) (ae_en (au σ [(36, nI (o + 1)), (37, fr_58), (38, tt_58), (39, so_58), (40, iz_58)]) α z t0 ts)
                          refine aw_go 1 rfl ⟨trivial, trivial⟩ ?_
                          refine aw_call rfl rfl (mrX_n ih0 q1 ⟨a1, a2, a3, a4, a5, rfl, ht_58, (by omega), (ht.2.1 a9), (by omega)⟩ (by simp only [mrD] at hD ⊢; omega)) ?_
                          rintro _ _ ⟨k_62, op_62, fr_62, tt_62, so_62, iz_62, A_62, W_62, rfl, rfl, f1_62, f2_62, f3_62, f4_62⟩
                          show aw_W _ _ _ _ (63, [some (.ref 46)], []) (ae_en (au σ [(34, nI k_62), (35, nI (hdP l1)), (36, op_62), (37, fr_62), (38, tt_62), (39, so_62), (40, iz_62)]) (au α [(40, A_62), (41, W_62)]) z t0 ts)
                          refine aw_go 2 rfl ⟨trivial, trivial, trivial⟩ ?_
                          refine aw_callE rfl rfl (ev_Model_isSign (b := 41)) ?_
                          show aw_W _ _ _ _ (66, [some (.ref 46)], [.int (bI ((nI (hdP l1)) < 0 ∧ so_62 = 3 ∧ iz_62 = 41))]) (ae_en (au σ [(34, nI k_62), (35, nI (hdP l1)), (36, op_62), (37, fr_62), (38, tt_62), (39, so_62), (40, iz_62)]) (au α [(40, A_62), (41, W_62)]) z t0 ts)
                          refine aw_top (x2 := 0) (is_no (p := hdP l1) (by omega) rfl) ?_
                          refine aw_go 1 rfl ⟨trivial, trivial⟩ ?_
                          refine aw_br (c := ¬ (0 : Int32) = 0) (fun h66 => ?_) (fun h66 => ?_)
                          · skip
                            have h66 := cI_eqF (a := 0) (b := 0) rfl rfl (by omega) (by omega) h66
                            show aw_W _ _ _ _ (70, [some (.ref 46)], []) (ae_en (au σ [(34, nI k_62), (35, nI (hdP l1)), (36, op_62), (37, fr_62), (38, tt_62), (39, so_62), (40, iz_62)]) (au α [(40, A_62), (41, W_62)]) z t0 ts)
                            exact absurd h66 (by decide)
                          · skip
                            have h66 := Classical.not_not.mp h66
                            have h66 := cI_eqT (a := 0) (b := 0) rfl rfl (by omega) (by omega) h66
                            show aw_W _ _ _ _ (67, [some (.ref 46)], []) (ae_en (au σ [(34, nI k_62), (35, nI (hdP l1)), (36, op_62), (37, fr_62), (38, tt_62), (39, so_62), (40, iz_62)]) (au α [(40, A_62), (41, W_62)]) z t0 ts)
                            refine aw_go 1 rfl ⟨trivial, trivial⟩ ?_
                            refine aw_callE rfl rfl (ev_faulty_0  (Int32.not_lt.mp (nI_nneg (by omega)))) ?_
                            show aw_W _ _ _ _ (69, [some (.ref 46)], []) (ae_en (au σ [(34, nI k_62), (35, nI (hdP l1)), (36, op_62), (37, fr_62), (38, tt_62), (39, so_62), (40, iz_62)]) (au α [(40, A_62), (41, W_62)]) z t0 ts)
                            refine aw_ret rfl rfl trivial ?_
                            exact mrQ_bad f1_62 (by omega) (by omega) f4_62
                        · skip
                          have h59 := Classical.not_not.mp h59
                          have h59 := cI_eqT (a := 1) (b := 0) rfl rfl (by omega) (by omega) h59
                          show aw_W _ _ _ _ (60, [some (.ref 46)], []) (ae_en (au σ [(36, nI (o + 1)), (37, fr_58), (38, tt_58), (39, so_58), (40, iz_58)]) α z t0 ts)
                          exact absurd h59 (by decide)
                    · skip
                      have h35 := cI_eqF (a := 0) (b := 0) rfl rfl (by omega) (by omega) h35
                      show aw_W _ _ _ _ (36, [some (.ref 46)], []) (ae_en σ α z t0 ts)
                      exact absurd h35 (by decide)
                  · skip
                    show aw_W _ _ _ _ (24, [some (.ref 46)], []) (ae_en σ α z t0 ts)
                    exact absurd ⟨(tk_fact a7t h19 (Int32.not_le.mp h23)).1, (tk_fact a7t h19 (Int32.not_le.mp h23)).2.1⟩ e
              · skip
                have h7 := Classical.not_not.mp h7
                show aw_W _ _ _ _ (8, [some (.ref 46)], []) (ae_en σ α z t0 ts)
                exact absurd ⟨(tk_num a7t h7).1, (tk_num a7t h7).2.1⟩ e
            · skip
              show aw_W _ _ _ _ (3, [some (.ref 46)], []) (ae_en σ α z t0 ts)
              exact absurd (by rw [a5]; decide) h2
        · rw [if_neg e9] at hpp
          cases hpp
          show aw_W _ _ _ _ (0, [some (.ref 46)], []) (ae_en σ α z t0 ts)
          refine aw_go 3 rfl ⟨trivial, trivial, trivial, trivial⟩ ?_
          show aw_W _ _ _ _ (if (σ 35) < 0 then 4 else 3, [some (.ref 46)], []) (ae_en σ α z t0 ts)
          refine aw_br (c := (σ 35) < 0) (fun h2 => ?_) (fun h2 => ?_)
          · skip
            show aw_W _ _ _ _ (4, [some (.ref 46)], []) (ae_en σ α z t0 ts)
            refine aw_go 4 rfl ⟨trivial, trivial, trivial, trivial, trivial⟩ ?_
            show aw_W _ _ _ _ (if ¬ (σ 39) = 2 then 16 else 8, [some (.ref 46)], []) (ae_en σ α z t0 ts)
            refine aw_br (c := ¬ (σ 39) = 2) (fun h7 => ?_) (fun h7 => ?_)
            · skip
              show aw_W _ _ _ _ (16, [some (.ref 46)], []) (ae_en σ α z t0 ts)
              refine aw_go 4 rfl ⟨trivial, trivial, trivial, trivial, trivial⟩ ?_
              show aw_W _ _ _ _ (if ¬ (σ 39) = 1 then 32 else 20, [some (.ref 46)], []) (ae_en σ α z t0 ts)
              refine aw_br (c := ¬ (σ 39) = 1) (fun h19 => ?_) (fun h19 => ?_)
              · skip
                show aw_W _ _ _ _ (32, [some (.ref 46)], []) (ae_en σ α z t0 ts)
                refine aw_go 2 rfl ⟨trivial, trivial, trivial⟩ ?_
                refine aw_callE rfl rfl (ev_Model_isSign (b := 45)) ?_
                show aw_W _ _ _ _ (35, [some (.ref 46)], [.int (bI ((σ 35) < 0 ∧ (σ 39) = 3 ∧ (σ 40) = 45))]) (ae_en σ α z t0 ts)
                refine aw_top (x2 := 0) ((is_s45 a7t a5).trans (bI_0 e7).symm) ?_
                refine aw_go 1 rfl ⟨trivial, trivial⟩ ?_
                refine aw_br (c := (0 : Int32) = 0) (fun h35 => ?_) (fun h35 => ?_)
                · skip
                  have h35 := cI_eqT (a := 0) (b := 0) rfl rfl (by omega) (by omega) h35
                  show aw_W _ _ _ _ (53, [some (.ref 46)], []) (ae_en σ α z t0 ts)
                  refine aw_go 2 rfl ⟨trivial, trivial, trivial⟩ ?_
                  refine aw_callE rfl rfl (ev_Model_isSign (b := 40)) ?_
                  show aw_W _ _ _ _ (56, [some (.ref 46)], [.int (bI ((σ 35) < 0 ∧ (σ 39) = 3 ∧ (σ 40) = 40))]) (ae_en σ α z t0 ts)
                  refine aw_top (x2 := 0) ((is_s40 a7t a5).trans (bI_0 e9).symm) ?_
                  refine aw_go 1 rfl ⟨trivial, trivial⟩ ?_
                  refine aw_br (c := (0 : Int32) = 0) (fun h56 => ?_) (fun h56 => ?_)
                  · skip
                    have h56 := cI_eqT (a := 0) (b := 0) rfl rfl (by omega) (by omega) h56
                    show aw_W _ _ _ _ (79, [some (.ref 46)], []) (ae_en σ α z t0 ts)
                    refine aw_go 1 rfl ⟨trivial, trivial⟩ ?_
                    refine aw_call rfl rfl (ev_faulty_1  a5) ?_
                    rintro _ _ ⟨rfl, rfl⟩
                    show aw_W _ _ _ _ (81, [some (.ref 46)], []) (ae_en (au σ [(35, (σ 37))]) α z t0 ts)
                    refine aw_ret rfl rfl trivial ?_
                    exact mrQ_no a0
                  · skip
                    have h56 := cI_eqF (a := 0) (b := 0) rfl rfl (by omega) (by omega) h56
                    show aw_W _ _ _ _ (57, [some (.ref 46)], []) (ae_en σ α z t0 ts)
                    exact absurd h56 (by decide)
                · skip
                  have h35 := cI_eqF (a := 0) (b := 0) rfl rfl (by omega) (by omega) h35
                  show aw_W _ _ _ _ (36, [some (.ref 46)], []) (ae_en σ α z t0 ts)
                  exact absurd h35 (by decide)
              · skip
                have h19 := Classical.not_not.mp h19
                show aw_W _ _ _ _ (20, [some (.ref 46)], []) (ae_en σ α z t0 ts)
                refine aw_go 4 rfl ⟨trivial, trivial, trivial, trivial, trivial⟩ ?_
                show aw_W _ _ _ _ (if (6 : Int32) ≤ (σ 40) then 32 else 24, [some (.ref 46)], []) (ae_en σ α z t0 ts)
                refine aw_br (c := (6 : Int32) ≤ (σ 40)) (fun h23 => ?_) (fun h23 => ?_)
                · skip
                  show aw_W _ _ _ _ (32, [some (.ref 46)], []) (ae_en σ α z t0 ts)
                  refine aw_go 2 rfl ⟨trivial, trivial, trivial⟩ ?_
                  refine aw_callE rfl rfl (ev_Model_isSign (b := 45)) ?_
                  show aw_W _ _ _ _ (35, [some (.ref 46)], [.int (bI ((σ 35) < 0 ∧ (σ 39) = 3 ∧ (σ 40) = 45))]) (ae_en σ α z t0 ts)
                  refine aw_top (x2 := 0) ((is_s45 a7t a5).trans (bI_0 e7).symm) ?_
                  refine aw_go 1 rfl ⟨trivial, trivial⟩ ?_
                  refine aw_br (c := (0 : Int32) = 0) (fun h35 => ?_) (fun h35 => ?_)
                  · skip
                    have h35 := cI_eqT (a := 0) (b := 0) rfl rfl (by omega) (by omega) h35
                    show aw_W _ _ _ _ (53, [some (.ref 46)], []) (ae_en σ α z t0 ts)
                    refine aw_go 2 rfl ⟨trivial, trivial, trivial⟩ ?_
                    refine aw_callE rfl rfl (ev_Model_isSign (b := 40)) ?_
                    show aw_W _ _ _ _ (56, [some (.ref 46)], [.int (bI ((σ 35) < 0 ∧ (σ 39) = 3 ∧ (σ 40) = 40))]) (ae_en σ α z t0 ts)
                    refine aw_top (x2 := 0) ((is_s40 a7t a5).trans (bI_0 e9).symm) ?_
                    refine aw_go 1 rfl ⟨trivial, trivial⟩ ?_
                    refine aw_br (c := (0 : Int32) = 0) (fun h56 => ?_) (fun h56 => ?_)
                    · skip
                      have h56 := cI_eqT (a := 0) (b := 0) rfl rfl (by omega) (by omega) h56
                      show aw_W _ _ _ _ (79, [some (.ref 46)], []) (ae_en σ α z t0 ts)
                      refine aw_go 1 rfl ⟨trivial, trivial⟩ ?_
                      refine aw_call rfl rfl (ev_faulty_1  a5) ?_
                      rintro _ _ ⟨rfl, rfl⟩
                      show aw_W _ _ _ _ (81, [some (.ref 46)], []) (ae_en (au σ [(35, (σ 37))]) α z t0 ts)
                      refine aw_ret rfl rfl trivial ?_
                      exact mrQ_no a0
                    · skip
                      have h56 := cI_eqF (a := 0) (b := 0) rfl rfl (by omega) (by omega) h56
                      show aw_W _ _ _ _ (57, [some (.ref 46)], []) (ae_en σ α z t0 ts)
                      exact absurd h56 (by decide)
                  · skip
                    have h35 := cI_eqF (a := 0) (b := 0) rfl rfl (by omega) (by omega) h35
                    show aw_W _ _ _ _ (36, [some (.ref 46)], []) (ae_en σ α z t0 ts)
                    exact absurd h35 (by decide)
                · skip
                  show aw_W _ _ _ _ (24, [some (.ref 46)], []) (ae_en σ α z t0 ts)
                  exact absurd ⟨(tk_fact a7t h19 (Int32.not_le.mp h23)).1, (tk_fact a7t h19 (Int32.not_le.mp h23)).2.1⟩ e
            · skip
              have h7 := Classical.not_not.mp h7
              show aw_W _ _ _ _ (8, [some (.ref 46)], []) (ae_en σ α z t0 ts)
              exact absurd ⟨(tk_num a7t h7).1, (tk_num a7t h7).2.1⟩ e
          · skip
            show aw_W _ _ _ _ (3, [some (.ref 46)], []) (ae_en σ α z t0 ts)
            exact absurd (by rw [a5]; decide) h2
theorem mr_kinds {s : Nat} : ∀ m, mrX P z t0 ts s m 0 ∧ mrX P z t0 ts s m 2 ∧ mrX P z t0 ts s m 4 ∧ mrX P z t0 ts s m 5 ∧ mrX P z t0 ts s m 7 ∧ mrX P z t0 ts s m 9 ∧ mrL P z t0 ts s m 1 0 cd_Model_either ∧ mrL P z t0 ts s m 3 2 cd_Model_all ∧ mrL P z t0 ts s m 8 7 cd_Model_term ∧ mrM P z t0 ts s m
  | 0 => by
    refine ⟨?_, ?_, ?_, ?_, ?_, ?_, ?_, ?_, ?_, ?_⟩
    all_goals (intro σ α o l R; intros; rename pp 0 _ _ _ = _ => h; cases h)
  | m + 1 => by
    obtain ⟨i0, i2, i4, i5, i7, i9, j1, j3, j8, j6⟩ := mr_kinds m
    exact ⟨mr_either i2 j1, mr_all i4 j3, mr_denied i4 i5, mr_sum i7 j6, mr_term i9 j8, mr_one i0 i9, ml_either i2 j1, ml_all i4 j3, ml_term i9 j8, ml_sum i7 j6⟩
end L64
