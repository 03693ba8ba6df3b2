/-! the reference's text() -/
section L66
variable {P : ae_P} {σ : Nat → Int32} {α : Nat → Nat → Int32} {z : Int64} {t0 : ae_T} {ts : List ae_T}

theorem em_text_full  {zd : Nat} (hk : (σ 32) = 6) : ae_Ev P (zd + 1) 133 [.ref 46] (ae_en σ α z t0 ts) (some (.int (-4))) (ae_en σ α z t0 ts) := by
  refine aw_evE (cd := cd_Model_text) rfl rfl rfl ?_
  show aw_W _ _ _ _ (0, [some (.ref 46), none], []) (ae_en σ α z t0 ts)
  refine aw_go 4 rfl ⟨trivial, trivial, trivial, trivial, trivial⟩ ?_
  show aw_W _ _ _ _ (if ¬ (σ 32) = 6 then 6 else 4, [some (.ref 46), none], []) (ae_en σ α z t0 ts)
  refine aw_br (c := ¬ (σ 32) = 6) (fun h3 => ?_) (fun h3 => ?_)
  · skip
    show aw_W _ _ _ _ (6, [some (.ref 46), none], []) (ae_en σ α z t0 ts)
    exact absurd hk h3
  · skip
    have h3 := Classical.not_not.mp h3
    show aw_W _ _ _ _ (4, [some (.ref 46), none], []) (ae_en σ α z t0 ts)
    refine aw_go 1 rfl ⟨trivial, trivial⟩ ?_
    refine aw_ret rfl rfl trivial ?_
    refine ⟨?_, rfl⟩
    rfl
theorem em_text_no {zd : Nat} {s M k : Nat} {L0 : ae_TL} (hTb : mTb (α 45) (α 46)) (hs : (σ 31) = nI s) (hs160 : s ≤ 160) (hk : (σ 32) = nI k) (hk6 : k < 6) (hL : lx (α 39) s 160 0 = L0) {r0 : ae_TL} {x y z2 : List Int32} (hpp : pTx M L0 = some (false, r0, x, y, z2)) : aw_X P (zd + 51) 133 [.ref 46] (ae_en σ α z t0 ts) (fun r H => ∃ (la op fr tt so iz : Int32) (A W E : Nat → Int32), r = some (.int ((-100) - nI (hdP r0))) ∧ H = ae_en (au σ [(31, 0), (34, la), (35, nI (hdP r0)), (36, op), (37, fr), (38, tt), (39, so), (40, iz)]) (au α [(40, A), (41, W), (42, E)]) z t0 ts ∧ (∀ j, j < 1020 → A j = α 40 j ∧ W j = α 41 j) ∧ ∀ j, j < 18 → E j = α 42 j) := by
  have hln : L0.length ≤ 161 := by rw [← hL]; exact lx_len (α 39) s 160 0
  have hg0 : gL L0 := by rw [← hL]; exact lx_gL (α 39) s 160 0
  have hp0 : hdP L0 ≤ s := by rw [← hL]; exact lx_hdP (α 39) s 160 0 (Nat.zero_le _)
  refine aw_ev (cd := cd_Model_text) rfl rfl rfl ?_
  rcases pTx_n hpp with ⟨a, q1⟩ | ⟨l1, s1, a, q1, q2⟩ | ⟨l1, s1, l2, s2, a, q1, q2, q3⟩ | ⟨l1, s1, l2, s2, s3, q1, q2, q3, f⟩
  · skip
    show aw_W _ _ _ _ (0, [some (.ref 46), none], []) (ae_en σ α z t0 ts)
    refine aw_go 4 rfl ⟨trivial, trivial, trivial, trivial, trivial⟩ ?_
    show aw_W _ _ _ _ (if ¬ (σ 32) = 6 then 6 else 4, [some (.ref 46), none], []) (ae_en σ α z t0 ts)
    refine aw_br (c := ¬ (σ 32) = 6) (fun h3 => ?_) (fun h3 => ?_)
    · skip
      have h3 := cI_eqF (a := k) (b := 6) hk rfl (by omega) (by omega) h3
      show aw_W _ _ _ _ (6, [some (.ref 46), none], []) (ae_en σ α z t0 ts)
      refine aw_go 13 rfl ⟨trivial, trivial, trivial, trivial, trivial, trivial, trivial, trivial, trivial, trivial, trivial, trivial, trivial, trivial⟩ ?_
      show aw_W _ _ _ _ (19, [some (.ref 46), none], [.ref 46]) (ae_en (au σ [(34, 0), (35, (-1)), (36, 0), (38, 0)]) α z t0 ts)
      refine aw_call rfl rfl (ev_Model_next  hTb hs hs160 (q := 0) (m := 160) rfl (Nat.zero_le _) (by omega) hL) ?_
      rintro _ _ ⟨so_19, iz_19, e_19, rfl, rfl, ht_19, he_19, hr_19⟩
      show aw_W _ _ _ _ (20, [some (.ref 46), none], []) (ae_en (au σ [(34, 0), (35, (-1)), (36, 0), (37, nI (hdP L0)), (38, nI e_19), (39, so_19), (40, iz_19)]) α z t0 ts)
      have hT0 : mrT s (α 39) L0 (nI (hdP L0)) (nI e_19) so_19 iz_19 := ⟨rfl, hp0, ht_19, e_19, rfl, he_19, hr_19⟩
      refine aw_go 5 rfl ⟨trivial, trivial, trivial, trivial, trivial, trivial⟩ ?_
      refine aw_br (c := (2 : Int32) < (0 : Int32)) (fun h24 => ?_) (fun h24 => ?_)
      · skip
        have h24 := cI_ltT (a := 2) (b := 0) rfl rfl (by omega) (by omega) h24
        show aw_W _ _ _ _ (33, [some (.ref 46), some (.int 0)], []) (ae_en (au σ [(34, 0), (35, (-1)), (36, 0), (37, nI (hdP L0)), (38, nI e_19), (39, so_19), (40, iz_19)]) α z t0 ts)
        exact absurd h24 (by decide)
      · skip
        have h24 := cI_ltF (a := 2) (b := 0) rfl rfl (by omega) (by omega) h24
        show aw_W _ _ _ _ (25, [some (.ref 46), some (.int 0)], []) (ae_en (au σ [(34, 0), (35, (-1)), (36, 0), (37, nI (hdP L0)), (38, nI e_19), (39, so_19), (40, iz_19)]) α z t0 ts)
        refine aw_go 3 rfl ⟨trivial, trivial, trivial, trivial⟩ ?_
        show aw_W _ _ _ _ (if (0 : Int32) ≤ (-1) then 33 else 28, [some (.ref 46), some (.int 0)], []) (ae_en (au σ [(34, 0), (35, (-1)), (36, 0), (37, nI (hdP L0)), (38, nI e_19), (39, so_19), (40, iz_19)]) α z t0 ts)
        refine aw_br (c := (0 : Int32) ≤ (-1)) (fun h27 => ?_) (fun h27 => ?_)
        · skip
          show aw_W _ _ _ _ (33, [some (.ref 46), some (.int 0)], []) (ae_en (au σ [(34, 0), (35, (-1)), (36, 0), (37, nI (hdP L0)), (38, nI e_19), (39, so_19), (40, iz_19)]) α z t0 ts)
          exact absurd h27 (by decide)
        · skip
          show aw_W _ _ _ _ (28, [some (.ref 46), some (.int 0)], []) (ae_en (au σ [(34, 0), (35, (-1)), (36, 0), (37, nI (hdP L0)), (38, nI e_19), (39, so_19), (40, iz_19)]) α z t0 ts)
          refine aw_go 2 rfl ⟨trivial, trivial, trivial⟩ ?_
          refine aw_call rfl rfl (mr_rule_n0 (c := 0) q1 ⟨hTb, hs, hs160, rfl, rfl, rfl, hT0, (by omega), hg0, (by omega)⟩) ?_
          rintro _ _ ⟨k_30, op_30, fr_30, tt_30, so_30, iz_30, A_30, W_30, rfl, rfl, f1_30, f4_30⟩
          show aw_W _ _ _ _ (31, [some (.ref 46), some (.int 0)], []) (ae_en (au σ [(34, nI k_30), (35, nI (hdP r0)), (36, op_30), (37, fr_30), (38, tt_30), (39, so_30), (40, iz_30)]) (au α [(40, A_30), (41, W_30)]) z t0 ts)
          refine aw_go 5 rfl ⟨trivial, trivial, trivial, trivial, trivial, trivial⟩ ?_
          show aw_W _ _ _ _ (if (2 : Int32) < (0 + 1) then 33 else 25, [some (.ref 46), some (.int (0 + 1))], []) (ae_en (au σ [(34, nI k_30), (35, nI (hdP r0)), (36, op_30), (37, fr_30), (38, tt_30), (39, so_30), (40, iz_30)]) (au α [(40, A_30), (41, W_30)]) z t0 ts)
          refine aw_br (c := (2 : Int32) < (0 + 1)) (fun h24b => ?_) (fun h24b => ?_)
          · skip
            have h24b := cI_ltT (a := 2) (b := 1) rfl (cI_add (a := 0) (b := 1) rfl rfl) (by omega) (by omega) h24b
            show aw_W _ _ _ _ (33, [some (.ref 46), some (.int (0 + 1))], []) (ae_en (au σ [(34, nI k_30), (35, nI (hdP r0)), (36, op_30), (37, fr_30), (38, tt_30), (39, so_30), (40, iz_30)]) (au α [(40, A_30), (41, W_30)]) z t0 ts)
            exact absurd h24b (by decide)
          · skip
            have h24b := cI_ltF (a := 2) (b := 1) rfl (cI_add (a := 0) (b := 1) rfl rfl) (by omega) (by omega) h24b
            show aw_W _ _ _ _ (25, [some (.ref 46), some (.int (0 + 1))], []) (ae_en (au σ [(34, nI k_30), (35, nI (hdP r0)), (36, op_30), (37, fr_30), (38, tt_30), (39, so_30), (40, iz_30)]) (au α [(40, A_30), (41, W_30)]) z t0 ts)
            refine aw_go 3 rfl ⟨trivial, trivial, trivial, trivial⟩ ?_
            show aw_W _ _ _ _ (if (0 : Int32) ≤ (nI (hdP r0)) then 33 else 28, [some (.ref 46), some (.int (0 + 1))], []) (ae_en (au σ [(34, nI k_30), (35, nI (hdP r0)), (36, op_30), (37, fr_30), (38, tt_30), (39, so_30), (40, iz_30)]) (au α [(40, A_30), (41, W_30)]) z t0 ts)
            refine aw_br (c := (0 : Int32) ≤ (nI (hdP r0))) (fun h27b => ?_) (fun h27b => ?_)
            · skip
              have h27b := cI_leT (a := 0) (b := hdP r0) rfl rfl (by omega) (by omega) h27b
              show aw_W _ _ _ _ (33, [some (.ref 46), some (.int (0 + 1))], []) (ae_en (au σ [(34, nI k_30), (35, nI (hdP r0)), (36, op_30), (37, fr_30), (38, tt_30), (39, so_30), (40, iz_30)]) (au α [(40, A_30), (41, W_30)]) z t0 ts)
              refine aw_go 3 rfl ⟨trivial, trivial, trivial, trivial⟩ ?_
              show aw_W _ _ _ _ (if (0 : Int32) ≤ (nI (hdP r0)) then 42 else 36, [some (.ref 46), some (.int (0 + 1))], []) (ae_en (au σ [(34, nI k_30), (35, nI (hdP r0)), (36, op_30), (37, fr_30), (38, tt_30), (39, so_30), (40, iz_30)]) (au α [(40, A_30), (41, W_30)]) z t0 ts)
              refine aw_br (c := (0 : Int32) ≤ (nI (hdP r0))) (fun h35 => ?_) (fun h35 => ?_)
              · skip
                have h35 := cI_leT (a := 0) (b := hdP r0) rfl rfl (by omega) (by omega) h35
                show aw_W _ _ _ _ (42, [some (.ref 46), some (.int (0 + 1))], []) (ae_en (au σ [(34, nI k_30), (35, nI (hdP r0)), (36, op_30), (37, fr_30), (38, tt_30), (39, so_30), (40, iz_30)]) (au α [(40, A_30), (41, W_30)]) z t0 ts)
                refine aw_go 6 rfl ⟨trivial, trivial, trivial, trivial, trivial, trivial, trivial⟩ ?_
                show aw_W _ _ _ _ (if (nI (hdP r0)) < 0 then 53 else 48, [some (.ref 46), some (.int (0 + 1))], []) (ae_en (au σ [(31, 0), (34, nI k_30), (35, nI (hdP r0)), (36, op_30), (37, fr_30), (38, tt_30), (39, so_30), (40, iz_30)]) (au α [(40, A_30), (41, W_30)]) z t0 ts)
                refine aw_br (c := (nI (hdP r0)) < 0) (fun h47 => ?_) (fun h47 => ?_)
                · skip
                  have h47 := cI_ltT (a := hdP r0) (b := 0) rfl rfl (by omega) (by omega) h47
                  show aw_W _ _ _ _ (53, [some (.ref 46), some (.int (0 + 1))], []) (ae_en (au σ [(31, 0), (34, nI k_30), (35, nI (hdP r0)), (36, op_30), (37, fr_30), (38, tt_30), (39, so_30), (40, iz_30)]) (au α [(40, A_30), (41, W_30)]) z t0 ts)
                  exact absurd h47 (by omega)
                · skip
                  have h47 := cI_ltF (a := hdP r0) (b := 0) rfl rfl (by omega) (by omega) h47
                  show aw_W _ _ _ _ (48, [some (.ref 46), some (.int (0 + 1))], []) (ae_en (au σ [(31, 0), (34, nI k_30), (35, nI (hdP r0)), (36, op_30), (37, fr_30), (38, tt_30), (39, so_30), (40, iz_30)]) (au α [(40, A_30), (41, W_30)]) z t0 ts)
                  refine aw_go 4 rfl ⟨trivial, trivial, trivial, trivial, trivial⟩ ?_
                  show aw_W _ _ _ _ (52, [some (.ref 46), some (.int (0 + 1))], [.int ((-100) - (nI (hdP r0)))]) (ae_en (au σ [(31, 0), (34, nI k_30), (35, nI (hdP r0)), (36, op_30), (37, fr_30), (38, tt_30), (39, so_30), (40, iz_30)]) (au α [(40, A_30), (41, W_30)]) z t0 ts)
                  rw [show 0 + 1 = nI 1 from (cI_add (a := 0) (b := 1) rfl rfl)]
                  refine aw_ret rfl rfl trivial ?_
                  refine ⟨_, _, _, _, _, _, _, _, α 42, rfl, rfl, f4_30, fun j hj => rfl⟩
              · skip
                have h35 := cI_leF (a := 0) (b := hdP r0) rfl rfl (by omega) (by omega) h35
                show aw_W _ _ _ _ (36, [some (.ref 46), some (.int (0 + 1))], []) (ae_en (au σ [(34, nI k_30), (35, nI (hdP r0)), (36, op_30), (37, fr_30), (38, tt_30), (39, so_30), (40, iz_30)]) (au α [(40, A_30), (41, W_30)]) z t0 ts)
                exact absurd h35 (by omega)
            · skip
              have h27b := cI_leF (a := 0) (b := hdP r0) rfl rfl (by omega) (by omega) h27b
              show aw_W _ _ _ _ (28, [some (.ref 46), some (.int (0 + 1))], []) (ae_en (au σ [(34, nI k_30), (35, nI (hdP r0)), (36, op_30), (37, fr_30), (38, tt_30), (39, so_30), (40, iz_30)]) (au α [(40, A_30), (41, W_30)]) z t0 ts)
              exact absurd h27 (by omega)
    · skip
      have h3 := Classical.not_not.mp h3
      have h3 := cI_eqT (a := k) (b := 6) hk rfl (by omega) (by omega) h3
      show aw_W _ _ _ _ (4, [some (.ref 46), none], []) (ae_en σ α z t0 ts)
      exact absurd h3 (by omega)
  · skip
    obtain ⟨d1, p1⟩ := (pPt_pH (by decide) q1).2 rfl
    have p1b := p1.1
    have hg1 : gL l1 := p1.2.1 hg0
    show aw_W _ _ _ _ (0, [some (.ref 46), none], []) (ae_en σ α z t0 ts)
    refine aw_go 4 rfl ⟨trivial, trivial, trivial, trivial, trivial⟩ ?_
    show aw_W _ _ _ _ (if ¬ (σ 32) = 6 then 6 else 4, [some (.ref 46), none], []) (ae_en σ α z t0 ts)
    refine aw_br (c := ¬ (σ 32) = 6) (fun h3 => ?_) (fun h3 => ?_)
    · skip
      have h3 := cI_eqF (a := k) (b := 6) hk rfl (by omega) (by omega) h3
      show aw_W _ _ _ _ (6, [some (.ref 46), none], []) (ae_en σ α z t0 ts)
      refine aw_go 13 rfl ⟨trivial, trivial, trivial, trivial, trivial, trivial, trivial, trivial, trivial, trivial, trivial, trivial, trivial, trivial⟩ ?_
      show aw_W _ _ _ _ (19, [some (.ref 46), none], [.ref 46]) (ae_en (au σ [(34, 0), (35, (-1)), (36, 0), (38, 0)]) α z t0 ts)
      refine aw_call rfl rfl (ev_Model_next  hTb hs hs160 (q := 0) (m := 160) rfl (Nat.zero_le _) (by omega) hL) ?_
      rintro _ _ ⟨so_19, iz_19, e_19, rfl, rfl, ht_19, he_19, hr_19⟩
      show aw_W _ _ _ _ (20, [some (.ref 46), none], []) (ae_en (au σ [(34, 0), (35, (-1)), (36, 0), (37, nI (hdP L0)), (38, nI e_19), (39, so_19), (40, iz_19)]) α z t0 ts)
      have hT0 : mrT s (α 39) L0 (nI (hdP L0)) (nI e_19) so_19 iz_19 := ⟨rfl, hp0, ht_19, e_19, rfl, he_19, hr_19⟩
      refine aw_go 5 rfl ⟨trivial, trivial, trivial, trivial, trivial, trivial⟩ ?_
      refine aw_br (c := (2 : Int32) < (0 : Int32)) (fun h24 => ?_) (fun h24 => ?_)
      · skip
        have h24 := cI_ltT (a := 2) (b := 0) rfl rfl (by omega) (by omega) h24
        show aw_W _ _ _ _ (33, [some (.ref 46), some (.int 0)], []) (ae_en (au σ [(34, 0), (35, (-1)), (36, 0), (37, nI (hdP L0)), (38, nI e_19), (39, so_19), (40, iz_19)]) α z t0 ts)
        exact absurd h24 (by decide)
      · skip
        have h24 := cI_ltF (a := 2) (b := 0) rfl rfl (by omega) (by omega) h24
        show aw_W _ _ _ _ (25, [some (.ref 46), some (.int 0)], []) (ae_en (au σ [(34, 0), (35, (-1)), (36, 0), (37, nI (hdP L0)), (38, nI e_19), (39, so_19), (40, iz_19)]) α z t0 ts)
        refine aw_go 3 rfl ⟨trivial, trivial, trivial, trivial⟩ ?_
        show aw_W _ _ _ _ (if (0 : Int32) ≤ (-1) then 33 else 28, [some (.ref 46), some (.int 0)], []) (ae_en (au σ [(34, 0), (35, (-1)), (36, 0), (37, nI (hdP L0)), (38, nI e_19), (39, so_19), (40, iz_19)]) α z t0 ts)
        refine aw_br (c := (0 : Int32) ≤ (-1)) (fun h27 => ?_) (fun h27 => ?_)
        · skip
          show aw_W _ _ _ _ (33, [some (.ref 46), some (.int 0)], []) (ae_en (au σ [(34, 0), (35, (-1)), (36, 0), (37, nI (hdP L0)), (38, nI e_19), (39, so_19), (40, iz_19)]) α z t0 ts)
          exact absurd h27 (by decide)
        · skip
          show aw_W _ _ _ _ (28, [some (.ref 46), some (.int 0)], []) (ae_en (au σ [(34, 0), (35, (-1)), (36, 0), (37, nI (hdP L0)), (38, nI e_19), (39, so_19), (40, iz_19)]) α z t0 ts)
          refine aw_go 2 rfl ⟨trivial, trivial, trivial⟩ ?_
          refine aw_call rfl rfl (mr_rule_y0 (c := 0) q1 ⟨hTb, hs, hs160, rfl, rfl, rfl, hT0, (by omega), hg0, (by omega)⟩) ?_
          rintro _ _ ⟨fr_30, tt_30, so_30, iz_30, rfl, rfl, ht_30⟩
          show aw_W _ _ _ _ (31, [some (.ref 46), some (.int 0)], []) (ae_en (au σ [(34, nI (0 + s1.length)), (35, (-1)), (36, nI 0), (37, fr_30), (38, tt_30), (39, so_30), (40, iz_30)]) (au α [(40, putL (α 40) (1020 + 0) (s1.map cA)), (41, putL (α 41) (1020 + 0) (s1.map cW)), (42, upd (α 42) 18 (nI (0 + s1.length)))]) z t0 ts)
          refine aw_go 5 rfl ⟨trivial, trivial, trivial, trivial, trivial, trivial⟩ ?_
          show aw_W _ _ _ _ (if (2 : Int32) < (0 + 1) then 33 else 25, [some (.ref 46), some (.int (0 + 1))], []) (ae_en (au σ [(34, nI (0 + s1.length)), (35, (-1)), (36, nI 0), (37, fr_30), (38, tt_30), (39, so_30), (40, iz_30)]) (au α [(40, putL (α 40) (1020 + 0) (s1.map cA)), (41, putL (α 41) (1020 + 0) (s1.map cW)), (42, upd (α 42) 18 (nI (0 + s1.length)))]) z t0 ts)
          refine aw_br (c := (2 : Int32) < (0 + 1)) (fun h24b => ?_) (fun h24b => ?_)
          · skip
            have h24b := cI_ltT (a := 2) (b := 1) rfl (cI_add (a := 0) (b := 1) rfl rfl) (by omega) (by omega) h24b
            show aw_W _ _ _ _ (33, [some (.ref 46), some (.int (0 + 1))], []) (ae_en (au σ [(34, nI (0 + s1.length)), (35, (-1)), (36, nI 0), (37, fr_30), (38, tt_30), (39, so_30), (40, iz_30)]) (au α [(40, putL (α 40) (1020 + 0) (s1.map cA)), (41, putL (α 41) (1020 + 0) (s1.map cW)), (42, upd (α 42) 18 (nI (0 + s1.length)))]) z t0 ts)
            exact absurd h24b (by decide)
          · skip
            have h24b := cI_ltF (a := 2) (b := 1) rfl (cI_add (a := 0) (b := 1) rfl rfl) (by omega) (by omega) h24b
            show aw_W _ _ _ _ (25, [some (.ref 46), some (.int (0 + 1))], []) (ae_en (au σ [(34, nI (0 + s1.length)), (35, (-1)), (36, nI 0), (37, fr_30), (38, tt_30), (39, so_30), (40, iz_30)]) (au α [(40, putL (α 40) (1020 + 0) (s1.map cA)), (41, putL (α 41) (1020 + 0) (s1.map cW)), (42, upd (α 42) 18 (nI (0 + s1.length)))]) z t0 ts)
            refine aw_go 3 rfl ⟨trivial, trivial, trivial, trivial⟩ ?_
            show aw_W _ _ _ _ (if (0 : Int32) ≤ (-1) then 33 else 28, [some (.ref 46), some (.int (0 + 1))], []) (ae_en (au σ [(34, nI (0 + s1.length)), (35, (-1)), (36, nI 0), (37, fr_30), (38, tt_30), (39, so_30), (40, iz_30)]) (au α [(40, putL (α 40) (1020 + 0) (s1.map cA)), (41, putL (α 41) (1020 + 0) (s1.map cW)), (42, upd (α 42) 18 (nI (0 + s1.length)))]) z t0 ts)
            refine aw_br (c := (0 : Int32) ≤ (-1)) (fun h27b => ?_) (fun h27b => ?_)
            · skip
              show aw_W _ _ _ _ (33, [some (.ref 46), some (.int (0 + 1))], []) (ae_en (au σ [(34, nI (0 + s1.length)), (35, (-1)), (36, nI 0), (37, fr_30), (38, tt_30), (39, so_30), (40, iz_30)]) (au α [(40, putL (α 40) (1020 + 0) (s1.map cA)), (41, putL (α 41) (1020 + 0) (s1.map cW)), (42, upd (α 42) 18 (nI (0 + s1.length)))]) z t0 ts)
              exact absurd h27b (by decide)
            · skip
              show aw_W _ _ _ _ (28, [some (.ref 46), some (.int (0 + 1))], []) (ae_en (au σ [(34, nI (0 + s1.length)), (35, (-1)), (36, nI 0), (37, fr_30), (38, tt_30), (39, so_30), (40, iz_30)]) (au α [(40, putL (α 40) (1020 + 0) (s1.map cA)), (41, putL (α 41) (1020 + 0) (s1.map cW)), (42, upd (α 42) 18 (nI (0 + s1.length)))]) z t0 ts)
              refine aw_go 2 rfl ⟨trivial, trivial, trivial⟩ ?_
              rw [show 0 + 1 = nI 1 from (cI_add (a := 0) (b := 1) rfl rfl)]
              refine aw_call rfl rfl (mr_rule_n1 (c := 0 + s1.length) q2 ⟨hTb, hs, hs160, rfl, rfl, rfl, ht_30, (by omega), hg1, (by omega)⟩) ?_
              rintro _ _ ⟨k_30, op_30, fr_30, tt_30, so_30, iz_30, A_30, W_30, rfl, rfl, f1_30, f4_30⟩
              show aw_W _ _ _ _ (31, [some (.ref 46), some (.int (nI 1))], []) (ae_en (au σ [(34, nI k_30), (35, nI (hdP r0)), (36, op_30), (37, fr_30), (38, tt_30), (39, so_30), (40, iz_30)]) (au α [(40, A_30), (41, W_30), (42, upd (α 42) 18 (nI (0 + s1.length)))]) z t0 ts)
              refine aw_go 5 rfl ⟨trivial, trivial, trivial, trivial, trivial, trivial⟩ ?_
              show aw_W _ _ _ _ (if (2 : Int32) < ((nI 1) + 1) then 33 else 25, [some (.ref 46), some (.int ((nI 1) + 1))], []) (ae_en (au σ [(34, nI k_30), (35, nI (hdP r0)), (36, op_30), (37, fr_30), (38, tt_30), (39, so_30), (40, iz_30)]) (au α [(40, A_30), (41, W_30), (42, upd (α 42) 18 (nI (0 + s1.length)))]) z t0 ts)
              refine aw_br (c := (2 : Int32) < ((nI 1) + 1)) (fun h24c => ?_) (fun h24c => ?_)
              · skip
                have h24c := cI_ltT (a := 2) (b := 2) rfl (cI_add (a := 1) (b := 1) rfl rfl) (by omega) (by omega) h24c
                show aw_W _ _ _ _ (33, [some (.ref 46), some (.int ((nI 1) + 1))], []) (ae_en (au σ [(34, nI k_30), (35, nI (hdP r0)), (36, op_30), (37, fr_30), (38, tt_30), (39, so_30), (40, iz_30)]) (au α [(40, A_30), (41, W_30), (42, upd (α 42) 18 (nI (0 + s1.length)))]) z t0 ts)
                exact absurd h24c (by decide)
              · skip
                have h24c := cI_ltF (a := 2) (b := 2) rfl (cI_add (a := 1) (b := 1) rfl rfl) (by omega) (by omega) h24c
                show aw_W _ _ _ _ (25, [some (.ref 46), some (.int ((nI 1) + 1))], []) (ae_en (au σ [(34, nI k_30), (35, nI (hdP r0)), (36, op_30), (37, fr_30), (38, tt_30), (39, so_30), (40, iz_30)]) (au α [(40, A_30), (41, W_30), (42, upd (α 42) 18 (nI (0 + s1.length)))]) z t0 ts)
                refine aw_go 3 rfl ⟨trivial, trivial, trivial, trivial⟩ ?_
                show aw_W _ _ _ _ (if (0 : Int32) ≤ (nI (hdP r0)) then 33 else 28, [some (.ref 46), some (.int ((nI 1) + 1))], []) (ae_en (au σ [(34, nI k_30), (35, nI (hdP r0)), (36, op_30), (37, fr_30), (38, tt_30), (39, so_30), (40, iz_30)]) (au α [(40, A_30), (41, W_30), (42, upd (α 42) 18 (nI (0 + s1.length)))]) z t0 ts)
                refine aw_br (c := (0 : Int32) ≤ (nI (hdP r0))) (fun h27c => ?_) (fun h27c => ?_)
                · skip
                  have h27c := cI_leT (a := 0) (b := hdP r0) rfl rfl (by omega) (by omega) h27c
                  show aw_W _ _ _ _ (33, [some (.ref 46), some (.int ((nI 1) + 1))], []) (ae_en (au σ [(34, nI k_30), (35, nI (hdP r0)), (36, op_30), (37, fr_30), (38, tt_30), (39, so_30), (40, iz_30)]) (au α [(40, A_30), (41, W_30), (42, upd (α 42) 18 (nI (0 + s1.length)))]) z t0 ts)
                  refine aw_go 3 rfl ⟨trivial, trivial, trivial, trivial⟩ ?_
                  show aw_W _ _ _ _ (if (0 : Int32) ≤ (nI (hdP r0)) then 42 else 36, [some (.ref 46), some (.int ((nI 1) + 1))], []) (ae_en (au σ [(34, nI k_30), (35, nI (hdP r0)), (36, op_30), (37, fr_30), (38, tt_30), (39, so_30), (40, iz_30)]) (au α [(40, A_30), (41, W_30), (42, upd (α 42) 18 (nI (0 + s1.length)))]) z t0 ts)
                  refine aw_br (c := (0 : Int32) ≤ (nI (hdP r0))) (fun h35 => ?_) (fun h35 => ?_)
                  · skip
                    have h35 := cI_leT (a := 0) (b := hdP r0) rfl rfl (by omega) (by omega) h35
                    show aw_W _ _ _ _ (42, [some (.ref 46), some (.int ((nI 1) + 1))], []) (ae_en (au σ [(34, nI k_30), (35, nI (hdP r0)), (36, op_30), (37, fr_30), (38, tt_30), (39, so_30), (40, iz_30)]) (au α [(40, A_30), (41, W_30), (42, upd (α 42) 18 (nI (0 + s1.length)))]) z t0 ts)
                    refine aw_go 6 rfl ⟨trivial, trivial, trivial, trivial, trivial, trivial, trivial⟩ ?_
                    show aw_W _ _ _ _ (if (nI (hdP r0)) < 0 then 53 else 48, [some (.ref 46), some (.int ((nI 1) + 1))], []) (ae_en (au σ [(31, 0), (34, nI k_30), (35, nI (hdP r0)), (36, op_30), (37, fr_30), (38, tt_30), (39, so_30), (40, iz_30)]) (au α [(40, A_30), (41, W_30), (42, upd (α 42) 18 (nI (0 + s1.length)))]) z t0 ts)
                    refine aw_br (c := (nI (hdP r0)) < 0) (fun h47 => ?_) (fun h47 => ?_)
                    · skip
                      have h47 := cI_ltT (a := hdP r0) (b := 0) rfl rfl (by omega) (by omega) h47
                      show aw_W _ _ _ _ (53, [some (.ref 46), some (.int ((nI 1) + 1))], []) (ae_en (au σ [(31, 0), (34, nI k_30), (35, nI (hdP r0)), (36, op_30), (37, fr_30), (38, tt_30), (39, so_30), (40, iz_30)]) (au α [(40, A_30), (41, W_30), (42, upd (α 42) 18 (nI (0 + s1.length)))]) z t0 ts)
                      exact absurd h47 (by omega)
                    · skip
                      have h47 := cI_ltF (a := hdP r0) (b := 0) rfl rfl (by omega) (by omega) h47
                      show aw_W _ _ _ _ (48, [some (.ref 46), some (.int ((nI 1) + 1))], []) (ae_en (au σ [(31, 0), (34, nI k_30), (35, nI (hdP r0)), (36, op_30), (37, fr_30), (38, tt_30), (39, so_30), (40, iz_30)]) (au α [(40, A_30), (41, W_30), (42, upd (α 42) 18 (nI (0 + s1.length)))]) z t0 ts)
                      refine aw_go 4 rfl ⟨trivial, trivial, trivial, trivial, trivial⟩ ?_
                      show aw_W _ _ _ _ (52, [some (.ref 46), some (.int ((nI 1) + 1))], [.int ((-100) - (nI (hdP r0)))]) (ae_en (au σ [(31, 0), (34, nI k_30), (35, nI (hdP r0)), (36, op_30), (37, fr_30), (38, tt_30), (39, so_30), (40, iz_30)]) (au α [(40, A_30), (41, W_30), (42, upd (α 42) 18 (nI (0 + s1.length)))]) z t0 ts)
                      rw [show (nI 1) + 1 = nI 2 from (cI_add (a := 1) (b := 1) rfl rfl)]
                      refine aw_ret rfl rfl trivial ?_
                      refine ⟨_, _, _, _, _, _, _, _, _, rfl, rfl, out_tr (f4_30) put_out, fun j hj => (upd_ne (by omega))⟩
                  · skip
                    have h35 := cI_leF (a := 0) (b := hdP r0) rfl rfl (by omega) (by omega) h35
                    show aw_W _ _ _ _ (36, [some (.ref 46), some (.int ((nI 1) + 1))], []) (ae_en (au σ [(34, nI k_30), (35, nI (hdP r0)), (36, op_30), (37, fr_30), (38, tt_30), (39, so_30), (40, iz_30)]) (au α [(40, A_30), (41, W_30), (42, upd (α 42) 18 (nI (0 + s1.length)))]) z t0 ts)
                    exact absurd h35 (by omega)
                · skip
                  have h27c := cI_leF (a := 0) (b := hdP r0) rfl rfl (by omega) (by omega) h27c
                  show aw_W _ _ _ _ (28, [some (.ref 46), some (.int ((nI 1) + 1))], []) (ae_en (au σ [(34, nI k_30), (35, nI (hdP r0)), (36, op_30), (37, fr_30), (38, tt_30), (39, so_30), (40, iz_30)]) (au α [(40, A_30), (41, W_30), (42, upd (α 42) 18 (nI (0 + s1.length)))]) z t0 ts)
                  exact absurd h27 (by omega)
    · skip
      have h3 := Classical.not_not.mp h3
      have h3 := cI_eqT (a := k) (b := 6) hk rfl (by omega) (by omega) h3
      show aw_W _ _ _ _ (4, [some (.ref 46), none], []) (ae_en σ α z t0 ts)
      exact absurd h3 (by omega)
  · skip
    obtain ⟨d1, p1⟩ := (pPt_pH (by decide) q1).2 rfl
    have p1b := p1.1
    have hg1 : gL l1 := p1.2.1 hg0
    obtain ⟨d2, p2⟩ := (pPt_pH (by decide) q2).2 rfl
    have p2b := p2.1
    have hg2 : gL l2 := p2.2.1 hg1
    show aw_W _ _ _ _ (0, [some (.ref 46), none], []) (ae_en σ α z t0 ts)
    refine aw_go 4 rfl ⟨trivial, trivial, trivial, trivial, trivial⟩ ?_
    show aw_W _ _ _ _ (if ¬ (σ 32) = 6 then 6 else 4, [some (.ref 46), none], []) (ae_en σ α z t0 ts)
    refine aw_br (c := ¬ (σ 32) = 6) (fun h3 => ?_) (fun h3 => ?_)
    · skip
      have h3 := cI_eqF (a := k) (b := 6) hk rfl (by omega) (by omega) h3
      show aw_W _ _ _ _ (6, [some (.ref 46), none], []) (ae_en σ α z t0 ts)
      refine aw_go 13 rfl ⟨trivial, trivial, trivial, trivial, trivial, trivial, trivial, trivial, trivial, trivial, trivial, trivial, trivial, trivial⟩ ?_
      show aw_W _ _ _ _ (19, [some (.ref 46), none], [.ref 46]) (ae_en (au σ [(34, 0), (35, (-1)), (36, 0), (38, 0)]) α z t0 ts)
      refine aw_call rfl rfl (ev_Model_next  hTb hs hs160 (q := 0) (m := 160) rfl (Nat.zero_le _) (by omega) hL) ?_
      rintro _ _ ⟨so_19, iz_19, e_19, rfl, rfl, ht_19, he_19, hr_19⟩
      show aw_W _ _ _ _ (20, [some (.ref 46), none], []) (ae_en (au σ [(34, 0), (35, (-1)), (36, 0), (37, nI (hdP L0)), (38, nI e_19), (39, so_19), (40, iz_19)]) α z t0 ts)
      have hT0 : mrT s (α 39) L0 (nI (hdP L0)) (nI e_19) so_19 iz_19 := ⟨rfl, hp0, ht_19, e_19, rfl, he_19, hr_19⟩
      refine aw_go 5 rfl ⟨trivial, trivial, trivial, trivial, trivial, trivial⟩ ?_
      refine aw_br (c := (2 : Int32) < (0 : Int32)) (fun h24 => ?_) (fun h24 => ?_)
      · skip
        have h24 := cI_ltT (a := 2) (b := 0) rfl rfl (by omega) (by omega) h24
        show aw_W _ _ _ _ (33, [some (.ref 46), some (.int 0)], []) (ae_en (au σ [(34, 0), (35, (-1)), (36, 0), (37, nI (hdP L0)), (38, nI e_19), (39, so_19), (40, iz_19)]) α z t0 ts)
        exact absurd h24 (by decide)
      · skip
        have h24 := cI_ltF (a := 2) (b := 0) rfl rfl (by omega) (by omega) h24
        show aw_W _ _ _ _ (25, [some (.ref 46), some (.int 0)], []) (ae_en (au σ [(34, 0), (35, (-1)), (36, 0), (37, nI (hdP L0)), (38, nI e_19), (39, so_19), (40, iz_19)]) α z t0 ts)
        refine aw_go 3 rfl ⟨trivial, trivial, trivial, trivial⟩ ?_
        show aw_W _ _ _ _ (if (0 : Int32) ≤ (-1) then 33 else 28, [some (.ref 46), some (.int 0)], []) (ae_en (au σ [(34, 0), (35, (-1)), (36, 0), (37, nI (hdP L0)), (38, nI e_19), (39, so_19), (40, iz_19)]) α z t0 ts)
        refine aw_br (c := (0 : Int32) ≤ (-1)) (fun h27 => ?_) (fun h27 => ?_)
        · skip
          show aw_W _ _ _ _ (33, [some (.ref 46), some (.int 0)], []) (ae_en (au σ [(34, 0), (35, (-1)), (36, 0), (37, nI (hdP L0)), (38, nI e_19), (39, so_19), (40, iz_19)]) α z t0 ts)
          exact absurd h27 (by decide)
        · skip
          show aw_W _ _ _ _ (28, [some (.ref 46), some (.int 0)], []) (ae_en (au σ [(34, 0), (35, (-1)), (36, 0), (37, nI (hdP L0)), (38, nI e_19), (39, so_19), (40, iz_19)]) α z t0 ts)
          refine aw_go 2 rfl ⟨trivial, trivial, trivial⟩ ?_
          refine aw_call rfl rfl (mr_rule_y0 (c := 0) q1 ⟨hTb, hs, hs160, rfl, rfl, rfl, hT0, (by omega), hg0, (by omega)⟩) ?_
          rintro _ _ ⟨fr_30, tt_30, so_30, iz_30, rfl, rfl, ht_30⟩
          show aw_W _ _ _ _ (31, [some (.ref 46), some (.int 0)], []) (ae_en (au σ [(34, nI (0 + s1.length)), (35, (-1)), (36, nI 0), (37, fr_30), (38, tt_30), (39, so_30), (40, iz_30)]) (au α [(40, putL (α 40) (1020 + 0) (s1.map cA)), (41, putL (α 41) (1020 + 0) (s1.map cW)), (42, upd (α 42) 18 (nI (0 + s1.length)))]) z t0 ts)
          refine aw_go 5 rfl ⟨trivial, trivial, trivial, trivial, trivial, trivial⟩ ?_
          show aw_W _ _ _ _ (if (2 : Int32) < (0 + 1) then 33 else 25, [some (.ref 46), some (.int (0 + 1))], []) (ae_en (au σ [(34, nI (0 + s1.length)), (35, (-1)), (36, nI 0), (37, fr_30), (38, tt_30), (39, so_30), (40, iz_30)]) (au α [(40, putL (α 40) (1020 + 0) (s1.map cA)), (41, putL (α 41) (1020 + 0) (s1.map cW)), (42, upd (α 42) 18 (nI (0 + s1.length)))]) z t0 ts)
          refine aw_br (c := (2 : Int32) < (0 + 1)) (fun h24b => ?_) (fun h24b => ?_)
          · skip
            have h24b := cI_ltT (a := 2) (b := 1) rfl (cI_add (a := 0) (b := 1) rfl rfl) (by omega) (by omega) h24b
            show aw_W _ _ _ _ (33, [some (.ref 46), some (.int (0 + 1))], []) (ae_en (au σ [(34, nI (0 + s1.length)), (35, (-1)), (36, nI 0), (37, fr_30), (38, tt_30), (39, so_30), (40, iz_30)]) (au α [(40, putL (α 40) (1020 + 0) (s1.map cA)), (41, putL (α 41) (1020 + 0) (s1.map cW)), (42, upd (α 42) 18 (nI (0 + s1.length)))]) z t0 ts)
            exact absurd h24b (by decide)
          · skip
            have h24b := cI_ltF (a := 2) (b := 1) rfl (cI_add (a := 0) (b := 1) rfl rfl) (by omega) (by omega) h24b
            show aw_W _ _ _ _ (25, [some (.ref 46), some (.int (0 + 1))], []) (ae_en (au σ [(34, nI (0 + s1.length)), (35, (-1)), (36, nI 0), (37, fr_30), (38, tt_30), (39, so_30), (40, iz_30)]) (au α [(40, putL (α 40) (1020 + 0) (s1.map cA)), (41, putL (α 41) (1020 + 0) (s1.map cW)), (42, upd (α 42) 18 (nI (0 + s1.length)))]) z t0 ts)
            refine aw_go 3 rfl ⟨trivial, trivial, trivial, trivial⟩ ?_
            show aw_W _ _ _ _ (if (0 : Int32) ≤ (-1) then 33 else 28, [some (.ref 46), some (.int (0 + 1))], []) (ae_en (au σ [(34, nI (0 + s1.length)), (35, (-1)), (36, nI 0), (37, fr_30), (38, tt_30), (39, so_30), (40, iz_30)]) (au α [(40, putL (α 40) (1020 + 0) (s1.map cA)), (41, putL (α 41) (1020 + 0) (s1.map cW)), (42, upd (α 42) 18 (nI (0 + s1.length)))]) z t0 ts)
            refine aw_br (c := (0 : Int32) ≤ (-1)) (fun h27b => ?_) (fun h27b => ?_)
            · skip
              show aw_W _ _ _ _ (33, [some (.ref 46), some (.int (0 + 1))], []) (ae_en (au σ [(34, nI (0 + s1.length)), (35, (-1)), (36, nI 0), (37, fr_30), (38, tt_30), (39, so_30), (40, iz_30)]) (au α [(40, putL (α 40) (1020 + 0) (s1.map cA)), (41, putL (α 41) (1020 + 0) (s1.map cW)), (42, upd (α 42) 18 (nI (0 + s1.length)))]) z t0 ts)
              exact absurd h27b (by decide)
            · skip
              show aw_W _ _ _ _ (28, [some (.ref 46), some (.int (0 + 1))], []) (ae_en (au σ [(34, nI (0 + s1.length)), (35, (-1)), (36, nI 0), (37, fr_30), (38, tt_30), (39, so_30), (40, iz_30)]) (au α [(40, putL (α 40) (1020 + 0) (s1.map cA)), (41, putL (α 41) (1020 + 0) (s1.map cW)), (42, upd (α 42) 18 (nI (0 + s1.length)))]) z t0 ts)
              refine aw_go 2 rfl ⟨trivial, trivial, trivial⟩ ?_
              rw [show 0 + 1 = nI 1 from (cI_add (a := 0) (b := 1) rfl rfl)]
              refine aw_call rfl rfl (mr_rule_y1 (c := 0 + s1.length) q2 ⟨hTb, hs, hs160, rfl, rfl, rfl, ht_30, (by omega), hg1, (by omega)⟩) ?_
              rintro _ _ ⟨fr_30, tt_30, so_30, iz_30, rfl, rfl, ht_30⟩
              show aw_W _ _ _ _ (31, [some (.ref 46), some (.int (nI 1))], []) (ae_en (au σ [(34, nI (0 + s1.length + s2.length)), (35, (-1)), (36, nI 0), (37, fr_30), (38, tt_30), (39, so_30), (40, iz_30)]) (au α [(40, putL (putL (α 40) (1020 + 0) (s1.map cA)) (1020 + (0 + s1.length)) (s2.map cA)), (41, putL (putL (α 41) (1020 + 0) (s1.map cW)) (1020 + (0 + s1.length)) (s2.map cW)), (42, upd (upd (α 42) 18 (nI (0 + s1.length))) 19 (nI (0 + s1.length + s2.length)))]) z t0 ts)
              refine aw_go 5 rfl ⟨trivial, trivial, trivial, trivial, trivial, trivial⟩ ?_
              show aw_W _ _ _ _ (if (2 : Int32) < ((nI 1) + 1) then 33 else 25, [some (.ref 46), some (.int ((nI 1) + 1))], []) (ae_en (au σ [(34, nI (0 + s1.length + s2.length)), (35, (-1)), (36, nI 0), (37, fr_30), (38, tt_30), (39, so_30), (40, iz_30)]) (au α [(40, putL (putL (α 40) (1020 + 0) (s1.map cA)) (1020 + (0 + s1.length)) (s2.map cA)), (41, putL (putL (α 41) (1020 + 0) (s1.map cW)) (1020 + (0 + s1.length)) (s2.map cW)), (42, upd (upd (α 42) 18 (nI (0 + s1.length))) 19 (nI (0 + s1.length + s2.length)))]) z t0 ts)
              refine aw_br (c := (2 : Int32) < ((nI 1) + 1)) (fun h24c => ?_) (fun h24c => ?_)
              · skip
                have h24c := cI_ltT (a := 2) (b := 2) rfl (cI_add (a := 1) (b := 1) rfl rfl) (by omega) (by omega) h24c
                show aw_W _ _ _ _ (33, [some (.ref 46), some (.int ((nI 1) + 1))], []) (ae_en (au σ [(34, nI (0 + s1.length + s2.length)), (35, (-1)), (36, nI 0), (37, fr_30), (38, tt_30), (39, so_30), (40, iz_30)]) (au α [(40, putL (putL (α 40) (1020 + 0) (s1.map cA)) (1020 + (0 + s1.length)) (s2.map cA)), (41, putL (putL (α 41) (1020 + 0) (s1.map cW)) (1020 + (0 + s1.length)) (s2.map cW)), (42, upd (upd (α 42) 18 (nI (0 + s1.length))) 19 (nI (0 + s1.length + s2.length)))]) z t0 ts)
                exact absurd h24c (by decide)
              · skip
                have h24c := cI_ltF (a := 2) (b := 2) rfl (cI_add (a := 1) (b := 1) rfl rfl) (by omega) (by omega) h24c
                show aw_W _ _ _ _ (25, [some (.ref 46), some (.int ((nI 1) + 1))], []) (ae_en (au σ [(34, nI (0 + s1.length + s2.length)), (35, (-1)), (36, nI 0), (37, fr_30), (38, tt_30), (39, so_30), (40, iz_30)]) (au α [(40, putL (putL (α 40) (1020 + 0) (s1.map cA)) (1020 + (0 + s1.length)) (s2.map cA)), (41, putL (putL (α 41) (1020 + 0) (s1.map cW)) (1020 + (0 + s1.length)) (s2.map cW)), (42, upd (upd (α 42) 18 (nI (0 + s1.length))) 19 (nI (0 + s1.length + s2.length)))]) z t0 ts)
                refine aw_go 3 rfl ⟨trivial, trivial, trivial, trivial⟩ ?_
                show aw_W _ _ _ _ (if (0 : Int32) ≤ (-1) then 33 else 28, [some (.ref 46), some (.int ((nI 1) + 1))], []) (ae_en (au σ [(34, nI (0 + s1.length + s2.length)), (35, (-1)), (36, nI 0), (37, fr_30), (38, tt_30), (39, so_30), (40, iz_30)]) (au α [(40, putL (putL (α 40) (1020 + 0) (s1.map cA)) (1020 + (0 + s1.length)) (s2.map cA)), (41, putL (putL (α 41) (1020 + 0) (s1.map cW)) (1020 + (0 + s1.length)) (s2.map cW)), (42, upd (upd (α 42) 18 (nI (0 + s1.length))) 19 (nI (0 + s1.length + s2.length)))]) z t0 ts)
                refine aw_br (c := (0 : Int32) ≤ (-1)) (fun h27c => ?_) (fun h27c => ?_)
                · skip
                  show aw_W _ _ _ _ (33, [some (.ref 46), some (.int ((nI 1) + 1))], []) (ae_en (au σ [(34, nI (0 + s1.length + s2.length)), (35, (-1)), (36, nI 0), (37, fr_30), (38, tt_30), (39, so_30), (40, iz_30)]) (au α [(40, putL (putL (α 40) (1020 + 0) (s1.map cA)) (1020 + (0 + s1.length)) (s2.map cA)), (41, putL (putL (α 41) (1020 + 0) (s1.map cW)) (1020 + (0 + s1.length)) (s2.map cW)), (42, upd (upd (α 42) 18 (nI (0 + s1.length))) 19 (nI (0 + s1.length + s2.length)))]) z t0 ts)
                  exact absurd h27c (by decide)
                · skip
                  show aw_W _ _ _ _ (28, [some (.ref 46), some (.int ((nI 1) + 1))], []) (ae_en (au σ [(34, nI (0 + s1.length + s2.length)), (35, (-1)), (36, nI 0), (37, fr_30), (38, tt_30), (39, so_30), (40, iz_30)]) (au α [(40, putL (putL (α 40) (1020 + 0) (s1.map cA)) (1020 + (0 + s1.length)) (s2.map cA)), (41, putL (putL (α 41) (1020 + 0) (s1.map cW)) (1020 + (0 + s1.length)) (s2.map cW)), (42, upd (upd (α 42) 18 (nI (0 + s1.length))) 19 (nI (0 + s1.length + s2.length)))]) z t0 ts)
                  refine aw_go 2 rfl ⟨trivial, trivial, trivial⟩ ?_
                  rw [show (nI 1) + 1 = nI 2 from (cI_add (a := 1) (b := 1) rfl rfl)]
                  refine aw_call rfl rfl (mr_rule_n2 (c := 0 + s1.length + s2.length) q3 ⟨hTb, hs, hs160, rfl, rfl, rfl, ht_30, (by omega), hg2, (by omega)⟩) ?_
                  rintro _ _ ⟨k_30, op_30, fr_30, tt_30, so_30, iz_30, A_30, W_30, rfl, rfl, f1_30, f4_30⟩
                  show aw_W _ _ _ _ (31, [some (.ref 46), some (.int (nI 2))], []) (ae_en (au σ [(34, nI k_30), (35, nI (hdP r0)), (36, op_30), (37, fr_30), (38, tt_30), (39, so_30), (40, iz_30)]) (au α [(40, A_30), (41, W_30), (42, upd (upd (α 42) 18 (nI (0 + s1.length))) 19 (nI (0 + s1.length + s2.length)))]) z t0 ts)
                  refine aw_go 5 rfl ⟨trivial, trivial, trivial, trivial, trivial, trivial⟩ ?_
                  show aw_W _ _ _ _ (if (2 : Int32) < ((nI 2) + 1) then 33 else 25, [some (.ref 46), some (.int ((nI 2) + 1))], []) (ae_en (au σ [(34, nI k_30), (35, nI (hdP r0)), (36, op_30), (37, fr_30), (38, tt_30), (39, so_30), (40, iz_30)]) (au α [(40, A_30), (41, W_30), (42, upd (upd (α 42) 18 (nI (0 + s1.length))) 19 (nI (0 + s1.length + s2.length)))]) z t0 ts)
                  refine aw_br (c := (2 : Int32) < ((nI 2) + 1)) (fun h24d => ?_) (fun h24d => ?_)
                  · skip
                    have h24d := cI_ltT (a := 2) (b := 3) rfl (cI_add (a := 2) (b := 1) rfl rfl) (by omega) (by omega) h24d
                    show aw_W _ _ _ _ (33, [some (.ref 46), some (.int ((nI 2) + 1))], []) (ae_en (au σ [(34, nI k_30), (35, nI (hdP r0)), (36, op_30), (37, fr_30), (38, tt_30), (39, so_30), (40, iz_30)]) (au α [(40, A_30), (41, W_30), (42, upd (upd (α 42) 18 (nI (0 + s1.length))) 19 (nI (0 + s1.length + s2.length)))]) z t0 ts)
                    refine aw_go 3 rfl ⟨trivial, trivial, trivial, trivial⟩ ?_
                    show aw_W _ _ _ _ (if (0 : Int32) ≤ (nI (hdP r0)) then 42 else 36, [some (.ref 46), some (.int ((nI 2) + 1))], []) (ae_en (au σ [(34, nI k_30), (35, nI (hdP r0)), (36, op_30), (37, fr_30), (38, tt_30), (39, so_30), (40, iz_30)]) (au α [(40, A_30), (41, W_30), (42, upd (upd (α 42) 18 (nI (0 + s1.length))) 19 (nI (0 + s1.length + s2.length)))]) z t0 ts)
                    refine aw_br (c := (0 : Int32) ≤ (nI (hdP r0))) (fun h35 => ?_) (fun h35 => ?_)
                    · skip
                      have h35 := cI_leT (a := 0) (b := hdP r0) rfl rfl (by omega) (by omega) h35
                      show aw_W _ _ _ _ (42, [some (.ref 46), some (.int ((nI 2) + 1))], []) (ae_en (au σ [(34, nI k_30), (35, nI (hdP r0)), (36, op_30), (37, fr_30), (38, tt_30), (39, so_30), (40, iz_30)]) (au α [(40, A_30), (41, W_30), (42, upd (upd (α 42) 18 (nI (0 + s1.length))) 19 (nI (0 + s1.length + s2.length)))]) z t0 ts)
                      refine aw_go 6 rfl ⟨trivial, trivial, trivial, trivial, trivial, trivial, trivial⟩ ?_
                      show aw_W _ _ _ _ (if (nI (hdP r0)) < 0 then 53 else 48, [some (.ref 46), some (.int ((nI 2) + 1))], []) (ae_en (au σ [(31, 0), (34, nI k_30), (35, nI (hdP r0)), (36, op_30), (37, fr_30), (38, tt_30), (39, so_30), (40, iz_30)]) (au α [(40, A_30), (41, W_30), (42, upd (upd (α 42) 18 (nI (0 + s1.length))) 19 (nI (0 + s1.length + s2.length)))]) z t0 ts)
                      refine aw_br (c := (nI (hdP r0)) < 0) (fun h47 => ?_) (fun h47 => ?_)
                      · skip
                        have h47 := cI_ltT (a := hdP r0) (b := 0) rfl rfl (by omega) (by omega) h47
                        show aw_W _ _ _ _ (53, [some (.ref 46), some (.int ((nI 2) + 1))], []) (ae_en (au σ [(31, 0), (34, nI k_30), (35, nI (hdP r0)), (36, op_30), (37, fr_30), (38, tt_30), (39, so_30), (40, iz_30)]) (au α [(40, A_30), (41, W_30), (42, upd (upd (α 42) 18 (nI (0 + s1.length))) 19 (nI (0 + s1.length + s2.length)))]) z t0 ts)
                        exact absurd h47 (by omega)
                      · skip
                        have h47 := cI_ltF (a := hdP r0) (b := 0) rfl rfl (by omega) (by omega) h47
                        show aw_W _ _ _ _ (48, [some (.ref 46), some (.int ((nI 2) + 1))], []) (ae_en (au σ [(31, 0), (34, nI k_30), (35, nI (hdP r0)), (36, op_30), (37, fr_30), (38, tt_30), (39, so_30), (40, iz_30)]) (au α [(40, A_30), (41, W_30), (42, upd (upd (α 42) 18 (nI (0 + s1.length))) 19 (nI (0 + s1.length + s2.length)))]) z t0 ts)
                        refine aw_go 4 rfl ⟨trivial, trivial, trivial, trivial, trivial⟩ ?_
                        show aw_W _ _ _ _ (52, [some (.ref 46), some (.int ((nI 2) + 1))], [.int ((-100) - (nI (hdP r0)))]) (ae_en (au σ [(31, 0), (34, nI k_30), (35, nI (hdP r0)), (36, op_30), (37, fr_30), (38, tt_30), (39, so_30), (40, iz_30)]) (au α [(40, A_30), (41, W_30), (42, upd (upd (α 42) 18 (nI (0 + s1.length))) 19 (nI (0 + s1.length + s2.length)))]) z t0 ts)
                        rw [show (nI 2) + 1 = nI 3 from (cI_add (a := 2) (b := 1) rfl rfl)]
                        refine aw_ret rfl rfl trivial ?_
                        refine ⟨_, _, _, _, _, _, _, _, _, rfl, rfl, out_tr (out_tr (f4_30) put_out) put_out, fun j hj => (upd_ne (by omega)).trans ((upd_ne (by omega)))⟩
                    · skip
                      have h35 := cI_leF (a := 0) (b := hdP r0) rfl rfl (by omega) (by omega) h35
                      show aw_W _ _ _ _ (36, [some (.ref 46), some (.int ((nI 2) + 1))], []) (ae_en (au σ [(34, nI k_30), (35, nI (hdP r0)), (36, op_30), (37, fr_30), (38, tt_30), (39, so_30), (40, iz_30)]) (au α [(40, A_30), (41, W_30), (42, upd (upd (α 42) 18 (nI (0 + s1.length))) 19 (nI (0 + s1.length + s2.length)))]) z t0 ts)
                      exact absurd h35 (by omega)
                  · skip
                    have h24d := cI_ltF (a := 2) (b := 3) rfl (cI_add (a := 2) (b := 1) rfl rfl) (by omega) (by omega) h24d
                    show aw_W _ _ _ _ (25, [some (.ref 46), some (.int ((nI 2) + 1))], []) (ae_en (au σ [(34, nI k_30), (35, nI (hdP r0)), (36, op_30), (37, fr_30), (38, tt_30), (39, so_30), (40, iz_30)]) (au α [(40, A_30), (41, W_30), (42, upd (upd (α 42) 18 (nI (0 + s1.length))) 19 (nI (0 + s1.length + s2.length)))]) z t0 ts)
                    exact absurd h24d (by decide)
    · skip
      have h3 := Classical.not_not.mp h3
      have h3 := cI_eqT (a := k) (b := 6) hk rfl (by omega) (by omega) h3
      show aw_W _ _ _ _ (4, [some (.ref 46), none], []) (ae_en σ α z t0 ts)
      exact absurd h3 (by omega)
  · skip
    obtain ⟨d1, p1⟩ := (pPt_pH (by decide) q1).2 rfl
    have p1b := p1.1
    have hg1 : gL l1 := p1.2.1 hg0
    obtain ⟨d2, p2⟩ := (pPt_pH (by decide) q2).2 rfl
    have p2b := p2.1
    have hg2 : gL l2 := p2.2.1 hg1
    obtain ⟨d3, p3⟩ := (pPt_pH (by decide) q3).2 rfl
    have p3b := p3.1
    have hg3 : gL r0 := p3.2.1 hg2
    show aw_W _ _ _ _ (0, [some (.ref 46), none], []) (ae_en σ α z t0 ts)
    refine aw_go 4 rfl ⟨trivial, trivial, trivial, trivial, trivial⟩ ?_
    show aw_W _ _ _ _ (if ¬ (σ 32) = 6 then 6 else 4, [some (.ref 46), none], []) (ae_en σ α z t0 ts)
    refine aw_br (c := ¬ (σ 32) = 6) (fun h3 => ?_) (fun h3 => ?_)
    · skip
      have h3 := cI_eqF (a := k) (b := 6) hk rfl (by omega) (by omega) h3
      show aw_W _ _ _ _ (6, [some (.ref 46), none], []) (ae_en σ α z t0 ts)
      refine aw_go 13 rfl ⟨trivial, trivial, trivial, trivial, trivial, trivial, trivial, trivial, trivial, trivial, trivial, trivial, trivial, trivial⟩ ?_
      show aw_W _ _ _ _ (19, [some (.ref 46), none], [.ref 46]) (ae_en (au σ [(34, 0), (35, (-1)), (36, 0), (38, 0)]) α z t0 ts)
      refine aw_call rfl rfl (ev_Model_next  hTb hs hs160 (q := 0) (m := 160) rfl (Nat.zero_le _) (by omega) hL) ?_
      rintro _ _ ⟨so_19, iz_19, e_19, rfl, rfl, ht_19, he_19, hr_19⟩
      show aw_W _ _ _ _ (20, [some (.ref 46), none], []) (ae_en (au σ [(34, 0), (35, (-1)), (36, 0), (37, nI (hdP L0)), (38, nI e_19), (39, so_19), (40, iz_19)]) α z t0 ts)
      have hT0 : mrT s (α 39) L0 (nI (hdP L0)) (nI e_19) so_19 iz_19 := ⟨rfl, hp0, ht_19, e_19, rfl, he_19, hr_19⟩
      refine aw_go 5 rfl ⟨trivial, trivial, trivial, trivial, trivial, trivial⟩ ?_
      refine aw_br (c := (2 : Int32) < (0 : Int32)) (fun h24 => ?_) (fun h24 => ?_)
      · skip
        have h24 := cI_ltT (a := 2) (b := 0) rfl rfl (by omega) (by omega) h24
        show aw_W _ _ _ _ (33, [some (.ref 46), some (.int 0)], []) (ae_en (au σ [(34, 0), (35, (-1)), (36, 0), (37, nI (hdP L0)), (38, nI e_19), (39, so_19), (40, iz_19)]) α z t0 ts)
        exact absurd h24 (by decide)
      · skip
        have h24 := cI_ltF (a := 2) (b := 0) rfl rfl (by omega) (by omega) h24
        show aw_W _ _ _ _ (25, [some (.ref 46), some (.int 0)], []) (ae_en (au σ [(34, 0), (35, (-1)), (36, 0), (37, nI (hdP L0)), (38, nI e_19), (39, so_19), (40, iz_19)]) α z t0 ts)
        refine aw_go 3 rfl ⟨trivial, trivial, trivial, trivial⟩ ?_
        show aw_W _ _ _ _ (if (0 : Int32) ≤ (-1) then 33 else 28, [some (.ref 46), some (.int 0)], []) (ae_en (au σ [(34, 0), (35, (-1)), (36, 0), (37, nI (hdP L0)), (38, nI e_19), (39, so_19), (40, iz_19)]) α z t0 ts)
        refine aw_br (c := (0 : Int32) ≤ (-1)) (fun h27 => ?_) (fun h27 => ?_)
        · skip
          show aw_W _ _ _ _ (33, [some (.ref 46), some (.int 0)], []) (ae_en (au σ [(34, 0), (35, (-1)), (36, 0), (37, nI (hdP L0)), (38, nI e_19), (39, so_19), (40, iz_19)]) α z t0 ts)
          exact absurd h27 (by decide)
        · skip
          show aw_W _ _ _ _ (28, [some (.ref 46), some (.int 0)], []) (ae_en (au σ [(34, 0), (35, (-1)), (36, 0), (37, nI (hdP L0)), (38, nI e_19), (39, so_19), (40, iz_19)]) α z t0 ts)
          refine aw_go 2 rfl ⟨trivial, trivial, trivial⟩ ?_
          refine aw_call rfl rfl (mr_rule_y0 (c := 0) q1 ⟨hTb, hs, hs160, rfl, rfl, rfl, hT0, (by omega), hg0, (by omega)⟩) ?_
          rintro _ _ ⟨fr_30, tt_30, so_30, iz_30, rfl, rfl, ht_30⟩
          show aw_W _ _ _ _ (31, [some (.ref 46), some (.int 0)], []) (ae_en (au σ [(34, nI (0 + s1.length)), (35, (-1)), (36, nI 0), (37, fr_30), (38, tt_30), (39, so_30), (40, iz_30)]) (au α [(40, putL (α 40) (1020 + 0) (s1.map cA)), (41, putL (α 41) (1020 + 0) (s1.map cW)), (42, upd (α 42) 18 (nI (0 + s1.length)))]) z t0 ts)
          refine aw_go 5 rfl ⟨trivial, trivial, trivial, trivial, trivial, trivial⟩ ?_
          show aw_W _ _ _ _ (if (2 : Int32) < (0 + 1) then 33 else 25, [some (.ref 46), some (.int (0 + 1))], []) (ae_en (au σ [(34, nI (0 + s1.length)), (35, (-1)), (36, nI 0), (37, fr_30), (38, tt_30), (39, so_30), (40, iz_30)]) (au α [(40, putL (α 40) (1020 + 0) (s1.map cA)), (41, putL (α 41) (1020 + 0) (s1.map cW)), (42, upd (α 42) 18 (nI (0 + s1.length)))]) z t0 ts)
          refine aw_br (c := (2 : Int32) < (0 + 1)) (fun h24b => ?_) (fun h24b => ?_)
          · skip
            have h24b := cI_ltT (a := 2) (b := 1) rfl (cI_add (a := 0) (b := 1) rfl rfl) (by omega) (by omega) h24b
            show aw_W _ _ _ _ (33, [some (.ref 46), some (.int (0 + 1))], []) (ae_en (au σ [(34, nI (0 + s1.length)), (35, (-1)), (36, nI 0), (37, fr_30), (38, tt_30), (39, so_30), (40, iz_30)]) (au α [(40, putL (α 40) (1020 + 0) (s1.map cA)), (41, putL (α 41) (1020 + 0) (s1.map cW)), (42, upd (α 42) 18 (nI (0 + s1.length)))]) z t0 ts)
            exact absurd h24b (by decide)
          · skip
            have h24b := cI_ltF (a := 2) (b := 1) rfl (cI_add (a := 0) (b := 1) rfl rfl) (by omega) (by omega) h24b
            show aw_W _ _ _ _ (25, [some (.ref 46), some (.int (0 + 1))], []) (ae_en (au σ [(34, nI (0 + s1.length)), (35, (-1)), (36, nI 0), (37, fr_30), (38, tt_30), (39, so_30), (40, iz_30)]) (au α [(40, putL (α 40) (1020 + 0) (s1.map cA)), (41, putL (α 41) (1020 + 0) (s1.map cW)), (42, upd (α 42) 18 (nI (0 + s1.length)))]) z t0 ts)
            refine aw_go 3 rfl ⟨trivial, trivial, trivial, trivial⟩ ?_
            show aw_W _ _ _ _ (if (0 : Int32) ≤ (-1) then 33 else 28, [some (.ref 46), some (.int (0 + 1))], []) (ae_en (au σ [(34, nI (0 + s1.length)), (35, (-1)), (36, nI 0), (37, fr_30), (38, tt_30), (39, so_30), (40, iz_30)]) (au α [(40, putL (α 40) (1020 + 0) (s1.map cA)), (41, putL (α 41) (1020 + 0) (s1.map cW)), (42, upd (α 42) 18 (nI (0 + s1.length)))]) z t0 ts)
            refine aw_br (c := (0 : Int32) ≤ (-1)) (fun h27b => ?_) (fun h27b => ?_)
            · skip
              show aw_W _ _ _ _ (33, [some (.ref 46), some (.int (0 + 1))], []) (ae_en (au σ [(34, nI (0 + s1.length)), (35, (-1)), (36, nI 0), (37, fr_30), (38, tt_30), (39, so_30), (40, iz_30)]) (au α [(40, putL (α 40) (1020 + 0) (s1.map cA)), (41, putL (α 41) (1020 + 0) (s1.map cW)), (42, upd (α 42) 18 (nI (0 + s1.length)))]) z t0 ts)
              exact absurd h27b (by decide)
            · skip
              show aw_W _ _ _ _ (28, [some (.ref 46), some (.int (0 + 1))], []) (ae_en (au σ [(34, nI (0 + s1.length)), (35, (-1)), (36, nI 0), (37, fr_30), (38, tt_30), (39, so_30), (40, iz_30)]) (au α [(40, putL (α 40) (1020 + 0) (s1.map cA)), (41, putL (α 41) (1020 + 0) (s1.map cW)), (42, upd (α 42) 18 (nI (0 + s1.length)))]) z t0 ts)
              refine aw_go 2 rfl ⟨trivial, trivial, trivial⟩ ?_
              rw [show 0 + 1 = nI 1 from (cI_add (a := 0) (b := 1) rfl rfl)]
              refine aw_call rfl rfl (mr_rule_y1 (c := 0 + s1.length) q2 ⟨hTb, hs, hs160, rfl, rfl, rfl, ht_30, (by omega), hg1, (by omega)⟩) ?_
              rintro _ _ ⟨fr_30, tt_30, so_30, iz_30, rfl, rfl, ht_30⟩
              show aw_W _ _ _ _ (31, [some (.ref 46), some (.int (nI 1))], []) (ae_en (au σ [(34, nI (0 + s1.length + s2.length)), (35, (-1)), (36, nI 0), (37, fr_30), (38, tt_30), (39, so_30), (40, iz_30)]) (au α [(40, putL (putL (α 40) (1020 + 0) (s1.map cA)) (1020 + (0 + s1.length)) (s2.map cA)), (41, putL (putL (α 41) (1020 + 0) (s1.map cW)) (1020 + (0 + s1.length)) (s2.map cW)), (42, upd (upd (α 42) 18 (nI (0 + s1.length))) 19 (nI (0 + s1.length + s2.length)))]) z t0 ts)
              refine aw_go 5 rfl ⟨trivial, trivial, trivial, trivial, trivial, trivial⟩ ?_
              show aw_W _ _ _ _ (if (2 : Int32) < ((nI 1) + 1) then 33 else 25, [some (.ref 46), some (.int ((nI 1) + 1))], []) (ae_en (au σ [(34, nI (0 + s1.length + s2.length)), (35, (-1)), (36, nI 0), (37, fr_30), (38, tt_30), (39, so_30), (40, iz_30)]) (au α [(40, putL (putL (α 40) (1020 + 0) (s1.map cA)) (1020 + (0 + s1.length)) (s2.map cA)), (41, putL (putL (α 41) (1020 + 0) (s1.map cW)) (1020 + (0 + s1.length)) (s2.map cW)), (42, upd (upd (α 42) 18 (nI (0 + s1.length))) 19 (nI (0 + s1.length + s2.length)))]) z t0 ts)
              refine aw_br (c := (2 : Int32) < ((nI 1) + 1)) (fun h24c => ?_) (fun h24c => ?_)
              · skip
                have h24c := cI_ltT (a := 2) (b := 2) rfl (cI_add (a := 1) (b := 1) rfl rfl) (by omega) (by omega) h24c
                show aw_W _ _ _ _ (33, [some (.ref 46), some (.int ((nI 1) + 1))], []) (ae_en (au σ [(34, nI (0 + s1.length + s2.length)), (35, (-1)), (36, nI 0), (37, fr_30), (38, tt_30), (39, so_30), (40, iz_30)]) (au α [(40, putL (putL (α 40) (1020 + 0) (s1.map cA)) (1020 + (0 + s1.length)) (s2.map cA)), (41, putL (putL (α 41) (1020 + 0) (s1.map cW)) (1020 + (0 + s1.length)) (s2.map cW)), (42, upd (upd (α 42) 18 (nI (0 + s1.length))) 19 (nI (0 + s1.length + s2.length)))]) z t0 ts)
                exact absurd h24c (by decide)
              · skip
                have h24c := cI_ltF (a := 2) (b := 2) rfl (cI_add (a := 1) (b := 1) rfl rfl) (by omega) (by omega) h24c
                show aw_W _ _ _ _ (25, [some (.ref 46), some (.int ((nI 1) + 1))], []) (ae_en (au σ [(34, nI (0 + s1.length + s2.length)), (35, (-1)), (36, nI 0), (37, fr_30), (38, tt_30), (39, so_30), (40, iz_30)]) (au α [(40, putL (putL (α 40) (1020 + 0) (s1.map cA)) (1020 + (0 + s1.length)) (s2.map cA)), (41, putL (putL (α 41) (1020 + 0) (s1.map cW)) (1020 + (0 + s1.length)) (s2.map cW)), (42, upd (upd (α 42) 18 (nI (0 + s1.length))) 19 (nI (0 + s1.length + s2.length)))]) z t0 ts)
                refine aw_go 3 rfl ⟨trivial, trivial, trivial, trivial⟩ ?_
                show aw_W _ _ _ _ (if (0 : Int32) ≤ (-1) then 33 else 28, [some (.ref 46), some (.int ((nI 1) + 1))], []) (ae_en (au σ [(34, nI (0 + s1.length + s2.length)), (35, (-1)), (36, nI 0), (37, fr_30), (38, tt_30), (39, so_30), (40, iz_30)]) (au α [(40, putL (putL (α 40) (1020 + 0) (s1.map cA)) (1020 + (0 + s1.length)) (s2.map cA)), (41, putL (putL (α 41) (1020 + 0) (s1.map cW)) (1020 + (0 + s1.length)) (s2.map cW)), (42, upd (upd (α 42) 18 (nI (0 + s1.length))) 19 (nI (0 + s1.length + s2.length)))]) z t0 ts)
                refine aw_br (c := (0 : Int32) ≤ (-1)) (fun h27c => ?_) (fun h27c => ?_)
                · skip
                  show aw_W _ _ _ _ (33, [some (.ref 46), some (.int ((nI 1) + 1))], []) (ae_en (au σ [(34, nI (0 + s1.length + s2.length)), (35, (-1)), (36, nI 0), (37, fr_30), (38, tt_30), (39, so_30), (40, iz_30)]) (au α [(40, putL (putL (α 40) (1020 + 0) (s1.map cA)) (1020 + (0 + s1.length)) (s2.map cA)), (41, putL (putL (α 41) (1020 + 0) (s1.map cW)) (1020 + (0 + s1.length)) (s2.map cW)), (42, upd (upd (α 42) 18 (nI (0 + s1.length))) 19 (nI (0 + s1.length + s2.length)))]) z t0 ts)
                  exact absurd h27c (by decide)
                · skip
                  show aw_W _ _ _ _ (28, [some (.ref 46), some (.int ((nI 1) + 1))], []) (ae_en (au σ [(34, nI (0 + s1.length + s2.length)), (35, (-1)), (36, nI 0), (37, fr_30), (38, tt_30), (39, so_30), (40, iz_30)]) (au α [(40, putL (putL (α 40) (1020 + 0) (s1.map cA)) (1020 + (0 + s1.length)) (s2.map cA)), (41, putL (putL (α 41) (1020 + 0) (s1.map cW)) (1020 + (0 + s1.length)) (s2.map cW)), (42, upd (upd (α 42) 18 (nI (0 + s1.length))) 19 (nI (0 + s1.length + s2.length)))]) z t0 ts)
                  refine aw_go 2 rfl ⟨trivial, trivial, trivial⟩ ?_
                  rw [show (nI 1) + 1 = nI 2 from (cI_add (a := 1) (b := 1) rfl rfl)]
                  refine aw_call rfl rfl (mr_rule_y2 (c := 0 + s1.length + s2.length) q3 ⟨hTb, hs, hs160, rfl, rfl, rfl, ht_30, (by omega), hg2, (by omega)⟩) ?_
                  rintro _ _ ⟨fr_30, tt_30, so_30, iz_30, rfl, rfl, ht_30⟩
                  show aw_W _ _ _ _ (31, [some (.ref 46), some (.int (nI 2))], []) (ae_en (au σ [(34, nI (0 + s1.length + s2.length + s3.length)), (35, (-1)), (36, nI 0), (37, fr_30), (38, tt_30), (39, so_30), (40, iz_30)]) (au α [(40, putL (putL (putL (α 40) (1020 + 0) (s1.map cA)) (1020 + (0 + s1.length)) (s2.map cA)) (1020 + (0 + s1.length + s2.length)) (s3.map cA)), (41, putL (putL (putL (α 41) (1020 + 0) (s1.map cW)) (1020 + (0 + s1.length)) (s2.map cW)) (1020 + (0 + s1.length + s2.length)) (s3.map cW)), (42, upd (upd (upd (α 42) 18 (nI (0 + s1.length))) 19 (nI (0 + s1.length + s2.length))) 20 (nI (0 + s1.length + s2.length + s3.length)))]) z t0 ts)
                  refine aw_go 5 rfl ⟨trivial, trivial, trivial, trivial, trivial, trivial⟩ ?_
                  show aw_W _ _ _ _ (if (2 : Int32) < ((nI 2) + 1) then 33 else 25, [some (.ref 46), some (.int ((nI 2) + 1))], []) (ae_en (au σ [(34, nI (0 + s1.length + s2.length + s3.length)), (35, (-1)), (36, nI 0), (37, fr_30), (38, tt_30), (39, so_30), (40, iz_30)]) (au α [(40, putL (putL (putL (α 40) (1020 + 0) (s1.map cA)) (1020 + (0 + s1.length)) (s2.map cA)) (1020 + (0 + s1.length + s2.length)) (s3.map cA)), (41, putL (putL (putL (α 41) (1020 + 0) (s1.map cW)) (1020 + (0 + s1.length)) (s2.map cW)) (1020 + (0 + s1.length + s2.length)) (s3.map cW)), (42, upd (upd (upd (α 42) 18 (nI (0 + s1.length))) 19 (nI (0 + s1.length + s2.length))) 20 (nI (0 + s1.length + s2.length + s3.length)))]) z t0 ts)
                  refine aw_br (c := (2 : Int32) < ((nI 2) + 1)) (fun h24d => ?_) (fun h24d => ?_)
                  · skip
                    have h24d := cI_ltT (a := 2) (b := 3) rfl (cI_add (a := 2) (b := 1) rfl rfl) (by omega) (by omega) h24d
                    show aw_W _ _ _ _ (33, [some (.ref 46), some (.int ((nI 2) + 1))], []) (ae_en (au σ [(34, nI (0 + s1.length + s2.length + s3.length)), (35, (-1)), (36, nI 0), (37, fr_30), (38, tt_30), (39, so_30), (40, iz_30)]) (au α [(40, putL (putL (putL (α 40) (1020 + 0) (s1.map cA)) (1020 + (0 + s1.length)) (s2.map cA)) (1020 + (0 + s1.length + s2.length)) (s3.map cA)), (41, putL (putL (putL (α 41) (1020 + 0) (s1.map cW)) (1020 + (0 + s1.length)) (s2.map cW)) (1020 + (0 + s1.length + s2.length)) (s3.map cW)), (42, upd (upd (upd (α 42) 18 (nI (0 + s1.length))) 19 (nI (0 + s1.length + s2.length))) 20 (nI (0 + s1.length + s2.length + s3.length)))]) z t0 ts)
                    refine aw_go 3 rfl ⟨trivial, trivial, trivial, trivial⟩ ?_
                    show aw_W _ _ _ _ (if (0 : Int32) ≤ (-1) then 42 else 36, [some (.ref 46), some (.int ((nI 2) + 1))], []) (ae_en (au σ [(34, nI (0 + s1.length + s2.length + s3.length)), (35, (-1)), (36, nI 0), (37, fr_30), (38, tt_30), (39, so_30), (40, iz_30)]) (au α [(40, putL (putL (putL (α 40) (1020 + 0) (s1.map cA)) (1020 + (0 + s1.length)) (s2.map cA)) (1020 + (0 + s1.length + s2.length)) (s3.map cA)), (41, putL (putL (putL (α 41) (1020 + 0) (s1.map cW)) (1020 + (0 + s1.length)) (s2.map cW)) (1020 + (0 + s1.length + s2.length)) (s3.map cW)), (42, upd (upd (upd (α 42) 18 (nI (0 + s1.length))) 19 (nI (0 + s1.length + s2.length))) 20 (nI (0 + s1.length + s2.length + s3.length)))]) z t0 ts)
                    refine aw_br (c := (0 : Int32) ≤ (-1)) (fun h35 => ?_) (fun h35 => ?_)
                    · skip
                      show aw_W _ _ _ _ (42, [some (.ref 46), some (.int ((nI 2) + 1))], []) (ae_en (au σ [(34, nI (0 + s1.length + s2.length + s3.length)), (35, (-1)), (36, nI 0), (37, fr_30), (38, tt_30), (39, so_30), (40, iz_30)]) (au α [(40, putL (putL (putL (α 40) (1020 + 0) (s1.map cA)) (1020 + (0 + s1.length)) (s2.map cA)) (1020 + (0 + s1.length + s2.length)) (s3.map cA)), (41, putL (putL (putL (α 41) (1020 + 0) (s1.map cW)) (1020 + (0 + s1.length)) (s2.map cW)) (1020 + (0 + s1.length + s2.length)) (s3.map cW)), (42, upd (upd (upd (α 42) 18 (nI (0 + s1.length))) 19 (nI (0 + s1.length + s2.length))) 20 (nI (0 + s1.length + s2.length + s3.length)))]) z t0 ts)
                      exact absurd h35 (by decide)
                    · skip
                      show aw_W _ _ _ _ (36, [some (.ref 46), some (.int ((nI 2) + 1))], []) (ae_en (au σ [(34, nI (0 + s1.length + s2.length + s3.length)), (35, (-1)), (36, nI 0), (37, fr_30), (38, tt_30), (39, so_30), (40, iz_30)]) (au α [(40, putL (putL (putL (α 40) (1020 + 0) (s1.map cA)) (1020 + (0 + s1.length)) (s2.map cA)) (1020 + (0 + s1.length + s2.length)) (s3.map cA)), (41, putL (putL (putL (α 41) (1020 + 0) (s1.map cW)) (1020 + (0 + s1.length)) (s2.map cW)) (1020 + (0 + s1.length + s2.length)) (s3.map cW)), (42, upd (upd (upd (α 42) 18 (nI (0 + s1.length))) 19 (nI (0 + s1.length + s2.length))) 20 (nI (0 + s1.length + s2.length + s3.length)))]) z t0 ts)
                      refine aw_go 4 rfl ⟨trivial, trivial, trivial, trivial, trivial⟩ ?_
                      show aw_W _ _ _ _ (if so_30 = 4 then 42 else 40, [some (.ref 46), some (.int ((nI 2) + 1))], []) (ae_en (au σ [(34, nI (0 + s1.length + s2.length + s3.length)), (35, (-1)), (36, nI 0), (37, fr_30), (38, tt_30), (39, so_30), (40, iz_30)]) (au α [(40, putL (putL (putL (α 40) (1020 + 0) (s1.map cA)) (1020 + (0 + s1.length)) (s2.map cA)) (1020 + (0 + s1.length + s2.length)) (s3.map cA)), (41, putL (putL (putL (α 41) (1020 + 0) (s1.map cW)) (1020 + (0 + s1.length)) (s2.map cW)) (1020 + (0 + s1.length + s2.length)) (s3.map cW)), (42, upd (upd (upd (α 42) 18 (nI (0 + s1.length))) 19 (nI (0 + s1.length + s2.length))) 20 (nI (0 + s1.length + s2.length + s3.length)))]) z t0 ts)
                      refine aw_br (c := so_30 = 4) (fun h39 => ?_) (fun h39 => ?_)
                      · skip
                        show aw_W _ _ _ _ (42, [some (.ref 46), some (.int ((nI 2) + 1))], []) (ae_en (au σ [(34, nI (0 + s1.length + s2.length + s3.length)), (35, (-1)), (36, nI 0), (37, fr_30), (38, tt_30), (39, so_30), (40, iz_30)]) (au α [(40, putL (putL (putL (α 40) (1020 + 0) (s1.map cA)) (1020 + (0 + s1.length)) (s2.map cA)) (1020 + (0 + s1.length + s2.length)) (s3.map cA)), (41, putL (putL (putL (α 41) (1020 + 0) (s1.map cW)) (1020 + (0 + s1.length)) (s2.map cW)) (1020 + (0 + s1.length + s2.length)) (s3.map cW)), (42, upd (upd (upd (α 42) 18 (nI (0 + s1.length))) 19 (nI (0 + s1.length + s2.length))) 20 (nI (0 + s1.length + s2.length + s3.length)))]) z t0 ts)
                        exact absurd h39 (tk_n4 ht_30.2.2.1 f)
                      · skip
                        show aw_W _ _ _ _ (40, [some (.ref 46), some (.int ((nI 2) + 1))], []) (ae_en (au σ [(34, nI (0 + s1.length + s2.length + s3.length)), (35, (-1)), (36, nI 0), (37, fr_30), (38, tt_30), (39, so_30), (40, iz_30)]) (au α [(40, putL (putL (putL (α 40) (1020 + 0) (s1.map cA)) (1020 + (0 + s1.length)) (s2.map cA)) (1020 + (0 + s1.length + s2.length)) (s3.map cA)), (41, putL (putL (putL (α 41) (1020 + 0) (s1.map cW)) (1020 + (0 + s1.length)) (s2.map cW)) (1020 + (0 + s1.length + s2.length)) (s3.map cW)), (42, upd (upd (upd (α 42) 18 (nI (0 + s1.length))) 19 (nI (0 + s1.length + s2.length))) 20 (nI (0 + s1.length + s2.length + s3.length)))]) z t0 ts)
                        refine aw_go 1 rfl ⟨trivial, trivial⟩ ?_
                        rw [show (nI 2) + 1 = nI 3 from (cI_add (a := 2) (b := 1) rfl rfl)]
                        refine aw_call rfl rfl (ev_faulty_1  rfl) ?_
                        rintro _ _ ⟨rfl, rfl⟩
                        show aw_W _ _ _ _ (42, [some (.ref 46), some (.int (nI 3))], []) (ae_en (au σ [(34, nI (0 + s1.length + s2.length + s3.length)), (35, fr_30), (36, nI 0), (37, fr_30), (38, tt_30), (39, so_30), (40, iz_30)]) (au α [(40, putL (putL (putL (α 40) (1020 + 0) (s1.map cA)) (1020 + (0 + s1.length)) (s2.map cA)) (1020 + (0 + s1.length + s2.length)) (s3.map cA)), (41, putL (putL (putL (α 41) (1020 + 0) (s1.map cW)) (1020 + (0 + s1.length)) (s2.map cW)) (1020 + (0 + s1.length + s2.length)) (s3.map cW)), (42, upd (upd (upd (α 42) 18 (nI (0 + s1.length))) 19 (nI (0 + s1.length + s2.length))) 20 (nI (0 + s1.length + s2.length + s3.length)))]) z t0 ts)
                        rw [ht_30.1]
                        have f1_30 := ht_30.2.1
                        refine aw_go 6 rfl ⟨trivial, trivial, trivial, trivial, trivial, trivial, trivial⟩ ?_
                        show aw_W _ _ _ _ (if (nI (hdP r0)) < 0 then 53 else 48, [some (.ref 46), some (.int (nI 3))], []) (ae_en (au σ [(31, 0), (34, nI (0 + s1.length + s2.length + s3.length)), (35, nI (hdP r0)), (36, nI 0), (37, nI (hdP r0)), (38, tt_30), (39, so_30), (40, iz_30)]) (au α [(40, putL (putL (putL (α 40) (1020 + 0) (s1.map cA)) (1020 + (0 + s1.length)) (s2.map cA)) (1020 + (0 + s1.length + s2.length)) (s3.map cA)), (41, putL (putL (putL (α 41) (1020 + 0) (s1.map cW)) (1020 + (0 + s1.length)) (s2.map cW)) (1020 + (0 + s1.length + s2.length)) (s3.map cW)), (42, upd (upd (upd (α 42) 18 (nI (0 + s1.length))) 19 (nI (0 + s1.length + s2.length))) 20 (nI (0 + s1.length + s2.length + s3.length)))]) z t0 ts)
                        refine aw_br (c := (nI (hdP r0)) < 0) (fun h47 => ?_) (fun h47 => ?_)
                        · skip
                          have h47 := cI_ltT (a := hdP r0) (b := 0) rfl rfl (by omega) (by omega) h47
                          show aw_W _ _ _ _ (53, [some (.ref 46), some (.int (nI 3))], []) (ae_en (au σ [(31, 0), (34, nI (0 + s1.length + s2.length + s3.length)), (35, nI (hdP r0)), (36, nI 0), (37, nI (hdP r0)), (38, tt_30), (39, so_30), (40, iz_30)]) (au α [(40, putL (putL (putL (α 40) (1020 + 0) (s1.map cA)) (1020 + (0 + s1.length)) (s2.map cA)) (1020 + (0 + s1.length + s2.length)) (s3.map cA)), (41, putL (putL (putL (α 41) (1020 + 0) (s1.map cW)) (1020 + (0 + s1.length)) (s2.map cW)) (1020 + (0 + s1.length + s2.length)) (s3.map cW)), (42, upd (upd (upd (α 42) 18 (nI (0 + s1.length))) 19 (nI (0 + s1.length + s2.length))) 20 (nI (0 + s1.length + s2.length + s3.length)))]) z t0 ts)
                          exact absurd h47 (by omega)
                        · skip
                          have h47 := cI_ltF (a := hdP r0) (b := 0) rfl rfl (by omega) (by omega) h47
                          show aw_W _ _ _ _ (48, [some (.ref 46), some (.int (nI 3))], []) (ae_en (au σ [(31, 0), (34, nI (0 + s1.length + s2.length + s3.length)), (35, nI (hdP r0)), (36, nI 0), (37, nI (hdP r0)), (38, tt_30), (39, so_30), (40, iz_30)]) (au α [(40, putL (putL (putL (α 40) (1020 + 0) (s1.map cA)) (1020 + (0 + s1.length)) (s2.map cA)) (1020 + (0 + s1.length + s2.length)) (s3.map cA)), (41, putL (putL (putL (α 41) (1020 + 0) (s1.map cW)) (1020 + (0 + s1.length)) (s2.map cW)) (1020 + (0 + s1.length + s2.length)) (s3.map cW)), (42, upd (upd (upd (α 42) 18 (nI (0 + s1.length))) 19 (nI (0 + s1.length + s2.length))) 20 (nI (0 + s1.length + s2.length + s3.length)))]) z t0 ts)
                          refine aw_go 4 rfl ⟨trivial, trivial, trivial, trivial, trivial⟩ ?_
                          show aw_W _ _ _ _ (52, [some (.ref 46), some (.int (nI 3))], [.int ((-100) - (nI (hdP r0)))]) (ae_en (au σ [(31, 0), (34, nI (0 + s1.length + s2.length + s3.length)), (35, nI (hdP r0)), (36, nI 0), (37, nI (hdP r0)), (38, tt_30), (39, so_30), (40, iz_30)]) (au α [(40, putL (putL (putL (α 40) (1020 + 0) (s1.map cA)) (1020 + (0 + s1.length)) (s2.map cA)) (1020 + (0 + s1.length + s2.length)) (s3.map cA)), (41, putL (putL (putL (α 41) (1020 + 0) (s1.map cW)) (1020 + (0 + s1.length)) (s2.map cW)) (1020 + (0 + s1.length + s2.length)) (s3.map cW)), (42, upd (upd (upd (α 42) 18 (nI (0 + s1.length))) 19 (nI (0 + s1.length + s2.length))) 20 (nI (0 + s1.length + s2.length + s3.length)))]) z t0 ts)
                          refine aw_ret rfl rfl trivial ?_
                          refine ⟨_, _, _, _, _, _, _, _, _, rfl, rfl, out_tr (out_tr (put_out) put_out) put_out, fun j hj => (upd_ne (by omega)).trans ((upd_ne (by omega)).trans ((upd_ne (by omega))))⟩
                  · skip
                    have h24d := cI_ltF (a := 2) (b := 3) rfl (cI_add (a := 2) (b := 1) rfl rfl) (by omega) (by omega) h24d
                    show aw_W _ _ _ _ (25, [some (.ref 46), some (.int ((nI 2) + 1))], []) (ae_en (au σ [(34, nI (0 + s1.length + s2.length + s3.length)), (35, (-1)), (36, nI 0), (37, fr_30), (38, tt_30), (39, so_30), (40, iz_30)]) (au α [(40, putL (putL (putL (α 40) (1020 + 0) (s1.map cA)) (1020 + (0 + s1.length)) (s2.map cA)) (1020 + (0 + s1.length + s2.length)) (s3.map cA)), (41, putL (putL (putL (α 41) (1020 + 0) (s1.map cW)) (1020 + (0 + s1.length)) (s2.map cW)) (1020 + (0 + s1.length + s2.length)) (s3.map cW)), (42, upd (upd (upd (α 42) 18 (nI (0 + s1.length))) 19 (nI (0 + s1.length + s2.length))) 20 (nI (0 + s1.length + s2.length + s3.length)))]) z t0 ts)
                    exact absurd h24d (by decide)
    · skip
      have h3 := Classical.not_not.mp h3
      have h3 := cI_eqT (a := k) (b := 6) hk rfl (by omega) (by omega) h3
      show aw_W _ _ _ _ (4, [some (.ref 46), none], []) (ae_en σ α z t0 ts)
      exact absurd h3 (by omega)
theorem em_text_yes {zd : Nat} {s M k : Nat} {L0 : ae_TL} (hTb : mTb (α 45) (α 46)) (hs : (σ 31) = nI s) (hs160 : s ≤ 160) (hk : (σ 32) = nI k) (hk6 : k < 6) (hL : lx (α 39) s 160 0 = L0) {r0 : ae_TL} {s1 s2 s3 : List Int32} (hpp : pTx M L0 = some (true, r0, s1, s2, s3)) : aw_X P (zd + 51) 133 [.ref 46] (ae_en σ α z t0 ts) (fun r H => ∃ (la op fr tt so iz : Int32) (A W E : Nat → Int32), r = some (.int (nI k)) ∧ H = ae_en (au σ [(31, 0), (32, nI (k + 1)), (34, la), (35, -1), (36, op), (37, fr), (38, tt), (39, so), (40, iz)]) (au α [(40, A), (41, W), (42, E)]) z t0 ts ∧ mTx k A W E (e3 s1 s2 s3) ∧ (∀ j, j < 170 * k → A j = α 40 j ∧ W j = α 41 j) ∧ ∀ j, j < 3 * k → E j = α 42 j) := by
  have hln : L0.length ≤ 161 := by rw [← hL]; exact lx_len (α 39) s 160 0
  have hg0 : gL L0 := by rw [← hL]; exact lx_gL (α 39) s 160 0
  have hp0 : hdP L0 ≤ s := by rw [← hL]; exact lx_hdP (α 39) s 160 0 (Nat.zero_le _)
  refine aw_ev (cd := cd_Model_text) rfl rfl rfl ?_
  obtain ⟨l1, l2, q1, q2, q3, f⟩ := pTx_y hpp
  obtain ⟨d1, p1⟩ := (pPt_pH (by decide) q1).2 rfl
  have p1b := p1.1
  have hg1 : gL l1 := p1.2.1 hg0
  obtain ⟨d2, p2⟩ := (pPt_pH (by decide) q2).2 rfl
  have p2b := p2.1
  have hg2 : gL l2 := p2.2.1 hg1
  obtain ⟨d3, p3⟩ := (pPt_pH (by decide) q3).2 rfl
  have p3b := p3.1
  have hg3 : gL r0 := p3.2.1 hg2
  have hr1 := gL_pos hg3
  show aw_W _ _ _ _ (0, [some (.ref 46), none], []) (ae_en σ α z t0 ts)
  refine aw_go 4 rfl ⟨trivial, trivial, trivial, trivial, trivial⟩ ?_
  show aw_W _ _ _ _ (if ¬ (σ 32) = 6 then 6 else 4, [some (.ref 46), none], []) (ae_en σ α z t0 ts)
  refine aw_br (c := ¬ (σ 32) = 6) (fun h3 => ?_) (fun h3 => ?_)
  · skip
    have h3 := cI_eqF (a := k) (b := 6) hk rfl (by omega) (by omega) h3
    show aw_W _ _ _ _ (6, [some (.ref 46), none], []) (ae_en σ α z t0 ts)
    refine aw_go 13 rfl ⟨trivial, trivial, trivial, trivial, trivial, trivial, trivial, trivial, trivial, trivial, trivial, trivial, trivial, trivial⟩ ?_
    show aw_W _ _ _ _ (19, [some (.ref 46), none], [.ref 46]) (ae_en (au σ [(34, 0), (35, (-1)), (36, 0), (38, 0)]) α z t0 ts)
    refine aw_call rfl rfl (ev_Model_next  hTb hs hs160 (q := 0) (m := 160) rfl (Nat.zero_le _) (by omega) hL) ?_
    rintro _ _ ⟨so_19, iz_19, e_19, rfl, rfl, ht_19, he_19, hr_19⟩
    show aw_W _ _ _ _ (20, [some (.ref 46), none], []) (ae_en (au σ [(34, 0), (35, (-1)), (36, 0), (37, nI (hdP L0)), (38, nI e_19), (39, so_19), (40, iz_19)]) α z t0 ts)
    have hT0 : mrT s (α 39) L0 (nI (hdP L0)) (nI e_19) so_19 iz_19 := ⟨rfl, hp0, ht_19, e_19, rfl, he_19, hr_19⟩
    refine aw_go 5 rfl ⟨trivial, trivial, trivial, trivial, trivial, trivial⟩ ?_
    refine aw_br (c := (2 : Int32) < (0 : Int32)) (fun h24 => ?_) (fun h24 => ?_)
    · skip
      have h24 := cI_ltT (a := 2) (b := 0) rfl rfl (by omega) (by omega) h24
      show aw_W _ _ _ _ (33, [some (.ref 46), some (.int 0)], []) (ae_en (au σ [(34, 0), (35, (-1)), (36, 0), (37, nI (hdP L0)), (38, nI e_19), (39, so_19), (40, iz_19)]) α z t0 ts)
      exact absurd h24 (by decide)
    · skip
      have h24 := cI_ltF (a := 2) (b := 0) rfl rfl (by omega) (by omega) h24
      show aw_W _ _ _ _ (25, [some (.ref 46), some (.int 0)], []) (ae_en (au σ [(34, 0), (35, (-1)), (36, 0), (37, nI (hdP L0)), (38, nI e_19), (39, so_19), (40, iz_19)]) α z t0 ts)
      refine aw_go 3 rfl ⟨trivial, trivial, trivial, trivial⟩ ?_
      show aw_W _ _ _ _ (if (0 : Int32) ≤ (-1) then 33 else 28, [some (.ref 46), some (.int 0)], []) (ae_en (au σ [(34, 0), (35, (-1)), (36, 0), (37, nI (hdP L0)), (38, nI e_19), (39, so_19), (40, iz_19)]) α z t0 ts)
      refine aw_br (c := (0 : Int32) ≤ (-1)) (fun h27 => ?_) (fun h27 => ?_)
      · skip
        show aw_W _ _ _ _ (33, [some (.ref 46), some (.int 0)], []) (ae_en (au σ [(34, 0), (35, (-1)), (36, 0), (37, nI (hdP L0)), (38, nI e_19), (39, so_19), (40, iz_19)]) α z t0 ts)
        exact absurd h27 (by decide)
      · skip
        show aw_W _ _ _ _ (28, [some (.ref 46), some (.int 0)], []) (ae_en (au σ [(34, 0), (35, (-1)), (36, 0), (37, nI (hdP L0)), (38, nI e_19), (39, so_19), (40, iz_19)]) α z t0 ts)
        refine aw_go 2 rfl ⟨trivial, trivial, trivial⟩ ?_
        refine aw_call rfl rfl (mr_rule_y0 (c := 0) q1 ⟨hTb, hs, hs160, rfl, rfl, rfl, hT0, (by omega), hg0, (by omega)⟩) ?_
        rintro _ _ ⟨fr_30, tt_30, so_30, iz_30, rfl, rfl, ht_30⟩
        show aw_W _ _ _ _ (31, [some (.ref 46), some (.int 0)], []) (ae_en (au σ [(34, nI (0 + s1.length)), (35, (-1)), (36, nI 0), (37, fr_30), (38, tt_30), (39, so_30), (40, iz_30)]) (au α [(40, putL (α 40) (1020 + 0) (s1.map cA)), (41, putL (α 41) (1020 + 0) (s1.map cW)), (42, upd (α 42) 18 (nI (0 + s1.length)))]) z t0 ts)
        refine aw_go 5 rfl ⟨trivial, trivial, trivial, trivial, trivial, trivial⟩ ?_
        show aw_W _ _ _ _ (if (2 : Int32) < (0 + 1) then 33 else 25, [some (.ref 46), some (.int (0 + 1))], []) (ae_en (au σ [(34, nI (0 + s1.length)), (35, (-1)), (36, nI 0), (37, fr_30), (38, tt_30), (39, so_30), (40, iz_30)]) (au α [(40, putL (α 40) (1020 + 0) (s1.map cA)), (41, putL (α 41) (1020 + 0) (s1.map cW)), (42, upd (α 42) 18 (nI (0 + s1.length)))]) z t0 ts)
        refine aw_br (c := (2 : Int32) < (0 + 1)) (fun h24b => ?_) (fun h24b => ?_)
        · skip
          have h24b := cI_ltT (a := 2) (b := 1) rfl (cI_add (a := 0) (b := 1) rfl rfl) (by omega) (by omega) h24b
          show aw_W _ _ _ _ (33, [some (.ref 46), some (.int (0 + 1))], []) (ae_en (au σ [(34, nI (0 + s1.length)), (35, (-1)), (36, nI 0), (37, fr_30), (38, tt_30), (39, so_30), (40, iz_30)]) (au α [(40, putL (α 40) (1020 + 0) (s1.map cA)), (41, putL (α 41) (1020 + 0) (s1.map cW)), (42, upd (α 42) 18 (nI (0 + s1.length)))]) z t0 ts)
          exact absurd h24b (by decide)
        · skip
          have h24b := cI_ltF (a := 2) (b := 1) rfl (cI_add (a := 0) (b := 1) rfl rfl) (by omega) (by omega) h24b
          show aw_W _ _ _ _ (25, [some (.ref 46), some (.int (0 + 1))], []) (ae_en (au σ [(34, nI (0 + s1.length)), (35, (-1)), (36, nI 0), (37, fr_30), (38, tt_30), (39, so_30), (40, iz_30)]) (au α [(40, putL (α 40) (1020 + 0) (s1.map cA)), (41, putL (α 41) (1020 + 0) (s1.map cW)), (42, upd (α 42) 18 (nI (0 + s1.length)))]) z t0 ts)
          refine aw_go 3 rfl ⟨trivial, trivial, trivial, trivial⟩ ?_
          show aw_W _ _ _ _ (if (0 : Int32) ≤ (-1) then 33 else 28, [some (.ref 46), some (.int (0 + 1))], []) (ae_en (au σ [(34, nI (0 + s1.length)), (35, (-1)), (36, nI 0), (37, fr_30), (38, tt_30), (39, so_30), (40, iz_30)]) (au α [(40, putL (α 40) (1020 + 0) (s1.map cA)), (41, putL (α 41) (1020 + 0) (s1.map cW)), (42, upd (α 42) 18 (nI (0 + s1.length)))]) z t0 ts)
          refine aw_br (c := (0 : Int32) ≤ (-1)) (fun h27b => ?_) (fun h27b => ?_)
          · skip
            show aw_W _ _ _ _ (33, [some (.ref 46), some (.int (0 + 1))], []) (ae_en (au σ [(34, nI (0 + s1.length)), (35, (-1)), (36, nI 0), (37, fr_30), (38, tt_30), (39, so_30), (40, iz_30)]) (au α [(40, putL (α 40) (1020 + 0) (s1.map cA)), (41, putL (α 41) (1020 + 0) (s1.map cW)), (42, upd (α 42) 18 (nI (0 + s1.length)))]) z t0 ts)
            exact absurd h27b (by decide)
          · skip
            show aw_W _ _ _ _ (28, [some (.ref 46), some (.int (0 + 1))], []) (ae_en (au σ [(34, nI (0 + s1.length)), (35, (-1)), (36, nI 0), (37, fr_30), (38, tt_30), (39, so_30), (40, iz_30)]) (au α [(40, putL (α 40) (1020 + 0) (s1.map cA)), (41, putL (α 41) (1020 + 0) (s1.map cW)), (42, upd (α 42) 18 (nI (0 + s1.length)))]) z t0 ts)
            refine aw_go 2 rfl ⟨trivial, trivial, trivial⟩ ?_
            rw [show 0 + 1 = nI 1 from (cI_add (a := 0) (b := 1) rfl rfl)]
            refine aw_call rfl rfl (mr_rule_y1 (c := 0 + s1.length) q2 ⟨hTb, hs, hs160, rfl, rfl, rfl, ht_30, (by omega), hg1, (by omega)⟩) ?_
            rintro _ _ ⟨fr_30, tt_30, so_30, iz_30, rfl, rfl, ht_30⟩
            show aw_W _ _ _ _ (31, [some (.ref 46), some (.int (nI 1))], []) (ae_en (au σ [(34, nI (0 + s1.length + s2.length)), (35, (-1)), (36, nI 0), (37, fr_30), (38, tt_30), (39, so_30), (40, iz_30)]) (au α [(40, putL (putL (α 40) (1020 + 0) (s1.map cA)) (1020 + (0 + s1.length)) (s2.map cA)), (41, putL (putL (α 41) (1020 + 0) (s1.map cW)) (1020 + (0 + s1.length)) (s2.map cW)), (42, upd (upd (α 42) 18 (nI (0 + s1.length))) 19 (nI (0 + s1.length + s2.length)))]) z t0 ts)
            refine aw_go 5 rfl ⟨trivial, trivial, trivial, trivial, trivial, trivial⟩ ?_
            show aw_W _ _ _ _ (if (2 : Int32) < ((nI 1) + 1) then 33 else 25, [some (.ref 46), some (.int ((nI 1) + 1))], []) (ae_en (au σ [(34, nI (0 + s1.length + s2.length)), (35, (-1)), (36, nI 0), (37, fr_30), (38, tt_30), (39, so_30), (40, iz_30)]) (au α [(40, putL (putL (α 40) (1020 + 0) (s1.map cA)) (1020 + (0 + s1.length)) (s2.map cA)), (41, putL (putL (α 41) (1020 + 0) (s1.map cW)) (1020 + (0 + s1.length)) (s2.map cW)), (42, upd (upd (α 42) 18 (nI (0 + s1.length))) 19 (nI (0 + s1.length + s2.length)))]) z t0 ts)
            refine aw_br (c := (2 : Int32) < ((nI 1) + 1)) (fun h24c => ?_) (fun h24c => ?_)
            · skip
              have h24c := cI_ltT (a := 2) (b := 2) rfl (cI_add (a := 1) (b := 1) rfl rfl) (by omega) (by omega) h24c
              show aw_W _ _ _ _ (33, [some (.ref 46), some (.int ((nI 1) + 1))], []) (ae_en (au σ [(34, nI (0 + s1.length + s2.length)), (35, (-1)), (36, nI 0), (37, fr_30), (38, tt_30), (39, so_30), (40, iz_30)]) (au α [(40, putL (putL (α 40) (1020 + 0) (s1.map cA)) (1020 + (0 + s1.length)) (s2.map cA)), (41, putL (putL (α 41) (1020 + 0) (s1.map cW)) (1020 + (0 + s1.length)) (s2.map cW)), (42, upd (upd (α 42) 18 (nI (0 + s1.length))) 19 (nI (0 + s1.length + s2.length)))]) z t0 ts)
              exact absurd h24c (by decide)
            · skip
              have h24c := cI_ltF (a := 2) (b := 2) rfl (cI_add (a := 1) (b := 1) rfl rfl) (by omega) (by omega) h24c
              show aw_W _ _ _ _ (25, [some (.ref 46), some (.int ((nI 1) + 1))], []) (ae_en (au σ [(34, nI (0 + s1.length + s2.length)), (35, (-1)), (36, nI 0), (37, fr_30), (38, tt_30), (39, so_30), (40, iz_30)]) (au α [(40, putL (putL (α 40) (1020 + 0) (s1.map cA)) (1020 + (0 + s1.length)) (s2.map cA)), (41, putL (putL (α 41) (1020 + 0) (s1.map cW)) (1020 + (0 + s1.length)) (s2.map cW)), (42, upd (upd (α 42) 18 (nI (0 + s1.length))) 19 (nI (0 + s1.length + s2.length)))]) z t0 ts)
              refine aw_go 3 rfl ⟨trivial, trivial, trivial, trivial⟩ ?_
              show aw_W _ _ _ _ (if (0 : Int32) ≤ (-1) then 33 else 28, [some (.ref 46), some (.int ((nI 1) + 1))], []) (ae_en (au σ [(34, nI (0 + s1.length + s2.length)), (35, (-1)), (36, nI 0), (37, fr_30), (38, tt_30), (39, so_30), (40, iz_30)]) (au α [(40, putL (putL (α 40) (1020 + 0) (s1.map cA)) (1020 + (0 + s1.length)) (s2.map cA)), (41, putL (putL (α 41) (1020 + 0) (s1.map cW)) (1020 + (0 + s1.length)) (s2.map cW)), (42, upd (upd (α 42) 18 (nI (0 + s1.length))) 19 (nI (0 + s1.length + s2.length)))]) z t0 ts)
              refine aw_br (c := (0 : Int32) ≤ (-1)) (fun h27c => ?_) (fun h27c => ?_)
              · skip
                show aw_W _ _ _ _ (33, [some (.ref 46), some (.int ((nI 1) + 1))], []) (ae_en (au σ [(34, nI (0 + s1.length + s2.length)), (35, (-1)), (36, nI 0), (37, fr_30), (38, tt_30), (39, so_30), (40, iz_30)]) (au α [(40, putL (putL (α 40) (1020 + 0) (s1.map cA)) (1020 + (0 + s1.length)) (s2.map cA)), (41, putL (putL (α 41) (1020 + 0) (s1.map cW)) (1020 + (0 + s1.length)) (s2.map cW)), (42, upd (upd (α 42) 18 (nI (0 + s1.length))) 19 (nI (0 + s1.length + s2.length)))]) z t0 ts)
                exact absurd h27c (by decide)
              · skip
                show aw_W _ _ _ _ (28, [some (.ref 46), some (.int ((nI 1) + 1))], []) (ae_en (au σ [(34, nI (0 + s1.length + s2.length)), (35, (-1)), (36, nI 0), (37, fr_30), (38, tt_30), (39, so_30), (40, iz_30)]) (au α [(40, putL (putL (α 40) (1020 + 0) (s1.map cA)) (1020 + (0 + s1.length)) (s2.map cA)), (41, putL (putL (α 41) (1020 + 0) (s1.map cW)) (1020 + (0 + s1.length)) (s2.map cW)), (42, upd (upd (α 42) 18 (nI (0 + s1.length))) 19 (nI (0 + s1.length + s2.length)))]) z t0 ts)
                refine aw_go 2 rfl ⟨trivial, trivial, trivial⟩ ?_
                rw [show (nI 1) + 1 = nI 2 from (cI_add (a := 1) (b := 1) rfl rfl)]
                refine aw_call rfl rfl (mr_rule_y2 (c := 0 + s1.length + s2.length) q3 ⟨hTb, hs, hs160, rfl, rfl, rfl, ht_30, (by omega), hg2, (by omega)⟩) ?_
                rintro _ _ ⟨fr_30, tt_30, so_30, iz_30, rfl, rfl, ht_30⟩
                show aw_W _ _ _ _ (31, [some (.ref 46), some (.int (nI 2))], []) (ae_en (au σ [(34, nI (0 + s1.length + s2.length + s3.length)), (35, (-1)), (36, nI 0), (37, fr_30), (38, tt_30), (39, so_30), (40, iz_30)]) (au α [(40, putL (putL (putL (α 40) (1020 + 0) (s1.map cA)) (1020 + (0 + s1.length)) (s2.map cA)) (1020 + (0 + s1.length + s2.length)) (s3.map cA)), (41, putL (putL (putL (α 41) (1020 + 0) (s1.map cW)) (1020 + (0 + s1.length)) (s2.map cW)) (1020 + (0 + s1.length + s2.length)) (s3.map cW)), (42, upd (upd (upd (α 42) 18 (nI (0 + s1.length))) 19 (nI (0 + s1.length + s2.length))) 20 (nI (0 + s1.length + s2.length + s3.length)))]) z t0 ts)
                refine aw_go 5 rfl ⟨trivial, trivial, trivial, trivial, trivial, trivial⟩ ?_
                show aw_W _ _ _ _ (if (2 : Int32) < ((nI 2) + 1) then 33 else 25, [some (.ref 46), some (.int ((nI 2) + 1))], []) (ae_en (au σ [(34, nI (0 + s1.length + s2.length + s3.length)), (35, (-1)), (36, nI 0), (37, fr_30), (38, tt_30), (39, so_30), (40, iz_30)]) (au α [(40, putL (putL (putL (α 40) (1020 + 0) (s1.map cA)) (1020 + (0 + s1.length)) (s2.map cA)) (1020 + (0 + s1.length + s2.length)) (s3.map cA)), (41, putL (putL (putL (α 41) (1020 + 0) (s1.map cW)) (1020 + (0 + s1.length)) (s2.map cW)) (1020 + (0 + s1.length + s2.length)) (s3.map cW)), (42, upd (upd (upd (α 42) 18 (nI (0 + s1.length))) 19 (nI (0 + s1.length + s2.length))) 20 (nI (0 + s1.length + s2.length + s3.length)))]) z t0 ts)
                refine aw_br (c := (2 : Int32) < ((nI 2) + 1)) (fun h24d => ?_) (fun h24d => ?_)
                · skip
                  have h24d := cI_ltT (a := 2) (b := 3) rfl (cI_add (a := 2) (b := 1) rfl rfl) (by omega) (by omega) h24d
                  show aw_W _ _ _ _ (33, [some (.ref 46), some (.int ((nI 2) + 1))], []) (ae_en (au σ [(34, nI (0 + s1.length + s2.length + s3.length)), (35, (-1)), (36, nI 0), (37, fr_30), (38, tt_30), (39, so_30), (40, iz_30)]) (au α [(40, putL (putL (putL (α 40) (1020 + 0) (s1.map cA)) (1020 + (0 + s1.length)) (s2.map cA)) (1020 + (0 + s1.length + s2.length)) (s3.map cA)), (41, putL (putL (putL (α 41) (1020 + 0) (s1.map cW)) (1020 + (0 + s1.length)) (s2.map cW)) (1020 + (0 + s1.length + s2.length)) (s3.map cW)), (42, upd (upd (upd (α 42) 18 (nI (0 + s1.length))) 19 (nI (0 + s1.length + s2.length))) 20 (nI (0 + s1.length + s2.length + s3.length)))]) z t0 ts)
                  refine aw_go 3 rfl ⟨trivial, trivial, trivial, trivial⟩ ?_
                  show aw_W _ _ _ _ (if (0 : Int32) ≤ (-1) then 42 else 36, [some (.ref 46), some (.int ((nI 2) + 1))], []) (ae_en (au σ [(34, nI (0 + s1.length + s2.length + s3.length)), (35, (-1)), (36, nI 0), (37, fr_30), (38, tt_30), (39, so_30), (40, iz_30)]) (au α [(40, putL (putL (putL (α 40) (1020 + 0) (s1.map cA)) (1020 + (0 + s1.length)) (s2.map cA)) (1020 + (0 + s1.length + s2.length)) (s3.map cA)), (41, putL (putL (putL (α 41) (1020 + 0) (s1.map cW)) (1020 + (0 + s1.length)) (s2.map cW)) (1020 + (0 + s1.length + s2.length)) (s3.map cW)), (42, upd (upd (upd (α 42) 18 (nI (0 + s1.length))) 19 (nI (0 + s1.length + s2.length))) 20 (nI (0 + s1.length + s2.length + s3.length)))]) z t0 ts)
                  refine aw_br (c := (0 : Int32) ≤ (-1)) (fun h35 => ?_) (fun h35 => ?_)
                  · skip
                    show aw_W _ _ _ _ (42, [some (.ref 46), some (.int ((nI 2) + 1))], []) (ae_en (au σ [(34, nI (0 + s1.length + s2.length + s3.length)), (35, (-1)), (36, nI 0), (37, fr_30), (38, tt_30), (39, so_30), (40, iz_30)]) (au α [(40, putL (putL (putL (α 40) (1020 + 0) (s1.map cA)) (1020 + (0 + s1.length)) (s2.map cA)) (1020 + (0 + s1.length + s2.length)) (s3.map cA)), (41, putL (putL (putL (α 41) (1020 + 0) (s1.map cW)) (1020 + (0 + s1.length)) (s2.map cW)) (1020 + (0 + s1.length + s2.length)) (s3.map cW)), (42, upd (upd (upd (α 42) 18 (nI (0 + s1.length))) 19 (nI (0 + s1.length + s2.length))) 20 (nI (0 + s1.length + s2.length + s3.length)))]) z t0 ts)
                    exact absurd h35 (by decide)
                  · skip
                    show aw_W _ _ _ _ (36, [some (.ref 46), some (.int ((nI 2) + 1))], []) (ae_en (au σ [(34, nI (0 + s1.length + s2.length + s3.length)), (35, (-1)), (36, nI 0), (37, fr_30), (38, tt_30), (39, so_30), (40, iz_30)]) (au α [(40, putL (putL (putL (α 40) (1020 + 0) (s1.map cA)) (1020 + (0 + s1.length)) (s2.map cA)) (1020 + (0 + s1.length + s2.length)) (s3.map cA)), (41, putL (putL (putL (α 41) (1020 + 0) (s1.map cW)) (1020 + (0 + s1.length)) (s2.map cW)) (1020 + (0 + s1.length + s2.length)) (s3.map cW)), (42, upd (upd (upd (α 42) 18 (nI (0 + s1.length))) 19 (nI (0 + s1.length + s2.length))) 20 (nI (0 + s1.length + s2.length + s3.length)))]) z t0 ts)
                    refine aw_go 4 rfl ⟨trivial, trivial, trivial, trivial, trivial⟩ ?_
                    show aw_W _ _ _ _ (if so_30 = 4 then 42 else 40, [some (.ref 46), some (.int ((nI 2) + 1))], []) (ae_en (au σ [(34, nI (0 + s1.length + s2.length + s3.length)), (35, (-1)), (36, nI 0), (37, fr_30), (38, tt_30), (39, so_30), (40, iz_30)]) (au α [(40, putL (putL (putL (α 40) (1020 + 0) (s1.map cA)) (1020 + (0 + s1.length)) (s2.map cA)) (1020 + (0 + s1.length + s2.length)) (s3.map cA)), (41, putL (putL (putL (α 41) (1020 + 0) (s1.map cW)) (1020 + (0 + s1.length)) (s2.map cW)) (1020 + (0 + s1.length + s2.length)) (s3.map cW)), (42, upd (upd (upd (α 42) 18 (nI (0 + s1.length))) 19 (nI (0 + s1.length + s2.length))) 20 (nI (0 + s1.length + s2.length + s3.length)))]) z t0 ts)
                    refine aw_br (c := so_30 = 4) (fun h39 => ?_) (fun h39 => ?_)
                    · skip
                      show aw_W _ _ _ _ (42, [some (.ref 46), some (.int ((nI 2) + 1))], []) (ae_en (au σ [(34, nI (0 + s1.length + s2.length + s3.length)), (35, (-1)), (36, nI 0), (37, fr_30), (38, tt_30), (39, so_30), (40, iz_30)]) (au α [(40, putL (putL (putL (α 40) (1020 + 0) (s1.map cA)) (1020 + (0 + s1.length)) (s2.map cA)) (1020 + (0 + s1.length + s2.length)) (s3.map cA)), (41, putL (putL (putL (α 41) (1020 + 0) (s1.map cW)) (1020 + (0 + s1.length)) (s2.map cW)) (1020 + (0 + s1.length + s2.length)) (s3.map cW)), (42, upd (upd (upd (α 42) 18 (nI (0 + s1.length))) 19 (nI (0 + s1.length + s2.length))) 20 (nI (0 + s1.length + s2.length + s3.length)))]) z t0 ts)
                      refine aw_go 6 rfl ⟨trivial, trivial, trivial, trivial, trivial, trivial, trivial⟩ ?_
                      show aw_W _ _ _ _ (if (-1) < 0 then 53 else 48, [some (.ref 46), some (.int ((nI 2) + 1))], []) (ae_en (au σ [(31, 0), (34, nI (0 + s1.length + s2.length + s3.length)), (35, (-1)), (36, nI 0), (37, fr_30), (38, tt_30), (39, so_30), (40, iz_30)]) (au α [(40, putL (putL (putL (α 40) (1020 + 0) (s1.map cA)) (1020 + (0 + s1.length)) (s2.map cA)) (1020 + (0 + s1.length + s2.length)) (s3.map cA)), (41, putL (putL (putL (α 41) (1020 + 0) (s1.map cW)) (1020 + (0 + s1.length)) (s2.map cW)) (1020 + (0 + s1.length + s2.length)) (s3.map cW)), (42, upd (upd (upd (α 42) 18 (nI (0 + s1.length))) 19 (nI (0 + s1.length + s2.length))) 20 (nI (0 + s1.length + s2.length + s3.length)))]) z t0 ts)
                      refine aw_br (c := (-1) < 0) (fun h47 => ?_) (fun h47 => ?_)
                      · skip
                        show aw_W _ _ _ _ (53, [some (.ref 46), some (.int ((nI 2) + 1))], []) (ae_en (au σ [(31, 0), (34, nI (0 + s1.length + s2.length + s3.length)), (35, (-1)), (36, nI 0), (37, fr_30), (38, tt_30), (39, so_30), (40, iz_30)]) (au α [(40, putL (putL (putL (α 40) (1020 + 0) (s1.map cA)) (1020 + (0 + s1.length)) (s2.map cA)) (1020 + (0 + s1.length + s2.length)) (s3.map cA)), (41, putL (putL (putL (α 41) (1020 + 0) (s1.map cW)) (1020 + (0 + s1.length)) (s2.map cW)) (1020 + (0 + s1.length + s2.length)) (s3.map cW)), (42, upd (upd (upd (α 42) 18 (nI (0 + s1.length))) 19 (nI (0 + s1.length + s2.length))) 20 (nI (0 + s1.length + s2.length + s3.length)))]) z t0 ts)
                        refine aw_go 2 rfl ⟨trivial, trivial, trivial⟩ ?_
                        refine aw_mono (aw_to (lp_tcp (σ := au σ [(31, 0), (34, nI (0 + s1.length + s2.length + s3.length)), (35, (-1)), (36, nI 0), (37, fr_30), (38, tt_30), (39, so_30), (40, iz_30)]) (α := au α [(40, putL (putL (putL (α 40) (1020 + 0) (s1.map cA)) (1020 + (0 + s1.length)) (s2.map cA)) (1020 + (0 + s1.length + s2.length)) (s3.map cA)), (41, putL (putL (putL (α 41) (1020 + 0) (s1.map cW)) (1020 + (0 + s1.length)) (s2.map cW)) (1020 + (0 + s1.length + s2.length)) (s3.map cW)), (42, upd (upd (upd (α 42) 18 (nI (0 + s1.length))) 19 (nI (0 + s1.length + s2.length))) 20 (nI (0 + s1.length + s2.length + s3.length)))]) (n := 0 + s1.length + s2.length + s3.length) (k := k) rfl (by omega) hk hk6 0 (Nat.zero_le _)) rfl (by rw [cpy_0, cpy_0]; rfl)) ?_
                        rintro r H ⟨rfl, rfl⟩
                        refine ⟨_, _, _, _, _, _, va_cpy (mF3 cA (α 40) s1 s2 s3) (mF3 cA (α 40) s1 s2 s3) 1020 (170 * k) (0 + s1.length + s2.length + s3.length), va_cpy (mF3 cW (α 41) s1 s2 s3) (mF3 cW (α 41) s1 s2 s3) 1020 (170 * k) (0 + s1.length + s2.length + s3.length), mEn (mE3 (α 42) s1 s2 s3) k, rfl, rfl, mTx_of hk6 d1 d2 d3 (by omega), fun j hj => ⟨(cpy_lo hj).trans (mF3_lt (by omega)), (cpy_lo hj).trans (mF3_lt (by omega))⟩, fun j hj => (mEn_lt hj).trans (mE3_lt (by omega))⟩
                      · skip
                        show aw_W _ _ _ _ (48, [some (.ref 46), some (.int ((nI 2) + 1))], []) (ae_en (au σ [(31, 0), (34, nI (0 + s1.length + s2.length + s3.length)), (35, (-1)), (36, nI 0), (37, fr_30), (38, tt_30), (39, so_30), (40, iz_30)]) (au α [(40, putL (putL (putL (α 40) (1020 + 0) (s1.map cA)) (1020 + (0 + s1.length)) (s2.map cA)) (1020 + (0 + s1.length + s2.length)) (s3.map cA)), (41, putL (putL (putL (α 41) (1020 + 0) (s1.map cW)) (1020 + (0 + s1.length)) (s2.map cW)) (1020 + (0 + s1.length + s2.length)) (s3.map cW)), (42, upd (upd (upd (α 42) 18 (nI (0 + s1.length))) 19 (nI (0 + s1.length + s2.length))) 20 (nI (0 + s1.length + s2.length + s3.length)))]) z t0 ts)
                        exact absurd h47 (by decide)
                    · skip
                      show aw_W _ _ _ _ (40, [some (.ref 46), some (.int ((nI 2) + 1))], []) (ae_en (au σ [(34, nI (0 + s1.length + s2.length + s3.length)), (35, (-1)), (36, nI 0), (37, fr_30), (38, tt_30), (39, so_30), (40, iz_30)]) (au α [(40, putL (putL (putL (α 40) (1020 + 0) (s1.map cA)) (1020 + (0 + s1.length)) (s2.map cA)) (1020 + (0 + s1.length + s2.length)) (s3.map cA)), (41, putL (putL (putL (α 41) (1020 + 0) (s1.map cW)) (1020 + (0 + s1.length)) (s2.map cW)) (1020 + (0 + s1.length + s2.length)) (s3.map cW)), (42, upd (upd (upd (α 42) 18 (nI (0 + s1.length))) 19 (nI (0 + s1.length + s2.length))) 20 (nI (0 + s1.length + s2.length + s3.length)))]) z t0 ts)
                      exact absurd (tk_end ht_30.2.2.1 f) h39
                · skip
                  have h24d := cI_ltF (a := 2) (b := 3) rfl (cI_add (a := 2) (b := 1) rfl rfl) (by omega) (by omega) h24d
                  show aw_W _ _ _ _ (25, [some (.ref 46), some (.int ((nI 2) + 1))], []) (ae_en (au σ [(34, nI (0 + s1.length + s2.length + s3.length)), (35, (-1)), (36, nI 0), (37, fr_30), (38, tt_30), (39, so_30), (40, iz_30)]) (au α [(40, putL (putL (putL (α 40) (1020 + 0) (s1.map cA)) (1020 + (0 + s1.length)) (s2.map cA)) (1020 + (0 + s1.length + s2.length)) (s3.map cA)), (41, putL (putL (putL (α 41) (1020 + 0) (s1.map cW)) (1020 + (0 + s1.length)) (s2.map cW)) (1020 + (0 + s1.length + s2.length)) (s3.map cW)), (42, upd (upd (upd (α 42) 18 (nI (0 + s1.length))) 19 (nI (0 + s1.length + s2.length))) 20 (nI (0 + s1.length + s2.length + s3.length)))]) z t0 ts)
                  exact absurd h24d (by decide)
  · skip
    have h3 := Classical.not_not.mp h3
    have h3 := cI_eqT (a := k) (b := 6) hk rfl (by omega) (by omega) h3
    show aw_W _ _ _ _ (4, [some (.ref 46), none], []) (ae_en σ α z t0 ts)
    exact absurd h3 (by omega)
end L66
