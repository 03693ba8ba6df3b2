theorem au_s4 {σ : Nat → Int32} {a b c : Int32} : au σ [(37, a), (38, b), (39, c)] = au σ [(37, a), (38, b), (39, c), (40, σ 40)] := by
  funext j
  show (if j = 37 then a else if j = 38 then b else if j = 39 then c else σ j) = (if j = 37 then a else if j = 38 then b else if j = 39 then c else if j = 40 then σ 40 else σ j)
  by_cases h : j = 40
  · subst h; rfl
  · rw [if_neg h]
theorem isL_nD {b : Int32} (h : isL b) : ¬ isD b := fun q => q.2 (Int32.lt_of_lt_of_le (by decide : (57 : Int32) < 97) (Int32.not_lt.mp h.1))
section L58
variable {P : ae_P} {σ : Nat → Int32} {α : Nat → Nat → Int32} {z : Int64} {t0 : ae_T} {ts : List ae_T}

theorem lp_nxS {zd : Nat} {s : Nat} {l : ae_TL} (hTb : mTb (α 45) (α 46)) (hs : (σ 31) = nI s) (hs160 : s ≤ 160) (m q : Nat) (hq : q ≤ s) (hm : s - q ≤ m) (hl : lx (α 39) s m q = l) : aw_W P (zd + 2) cd_Model_next (fun r H => ∃ (so iz : Int32) (e : Nat), r = none ∧ H = ae_en (au σ [(37, nI (hdP l)), (38, nI e), (39, so), (40, iz)]) α z t0 ts ∧ tokR so iz (hdT l) ∧ e ≤ s ∧ (¬ hdT l = -17 → ∃ m2, l.tail = lx (α 39) s m2 e ∧ s - e ≤ m2)) (4, [some (.ref 46), none], []) (ae_en (au σ [(37, nI q)]) α z t0 ts) := by
  refine aw_go 5 rfl ⟨trivial, trivial, trivial, trivial, trivial, trivial⟩ ?_
  show aw_W _ _ _ _ (if (σ 31) ≤ (nI q) then 30 else 9, [some (.ref 46), none], []) (ae_en (au σ [(37, nI q)]) α z t0 ts)
  refine aw_br (c := (σ 31) ≤ (nI q)) (fun h8 => ?_) (fun h8 => ?_)
  · skip
    have h8 := cI_leT (a := s) (b := q) hs rfl (by omega) (by omega) h8
    show aw_W _ _ _ _ (30, [some (.ref 46), none], []) (ae_en (au σ [(37, nI q)]) α z t0 ts)
    refine aw_go 9 rfl ⟨trivial, trivial, trivial, trivial, trivial, trivial, trivial, trivial, trivial, trivial⟩ ?_
    show aw_W _ _ _ _ (if (nI q) < (σ 31) then 47 else 39, [some (.ref 46), none], []) (ae_en (au σ [(37, nI q), (38, nI q)]) α z t0 ts)
    refine aw_br (c := (nI q) < (σ 31)) (fun h38 => ?_) (fun h38 => ?_)
    · skip
      have h38 := cI_ltT (a := q) (b := s) rfl hs (by omega) (by omega) h38
      show aw_W _ _ _ _ (47, [some (.ref 46), none], []) (ae_en (au σ [(37, nI q), (38, nI q)]) α z t0 ts)
      omega
    · skip
      have h38 := cI_ltF (a := q) (b := s) rfl hs (by omega) (by omega) h38
      show aw_W _ _ _ _ (39, [some (.ref 46), none], []) (ae_en (au σ [(37, nI q), (38, nI q)]) α z t0 ts)
      refine aw_go 7 rfl ⟨trivial, trivial, trivial, trivial, trivial, trivial, trivial, trivial⟩ ?_
      show aw_W _ _ _ _ (46, [some (.ref 46), none], []) (ae_en (au σ [(37, σ 31), (38, nI q), (39, 4)]) α z t0 ts)
      have hqs : q = s := by omega
      rw [lx_end (by omega)] at hl
      subst hl
      refine aw_ret rfl rfl trivial ?_
      refine ⟨4, σ 40, q, rfl, ?_, Or.inr (Or.inr (Or.inr (Or.inr (Or.inr (Or.inr (Or.inr (Or.inr (Or.inr (Or.inr (Or.inr (Or.inr (Or.inr (Or.inr (Or.inr (Or.inr (Or.inr (⟨rfl, rfl⟩))))))))))))))))), hq, fun h => absurd rfl h⟩
      rw [← au_s4, hs]
      rfl
  · skip
    have h8 := cI_leF (a := s) (b := q) hs rfl (by omega) (by omega) h8
    show aw_W _ _ _ _ (9, [some (.ref 46), none], []) (ae_en (au σ [(37, nI q)]) α z t0 ts)
    have hq8 : q < s := by omega
    obtain ⟨m, rfl⟩ : ∃ w, m = w + 1 := ⟨m - 1, by omega⟩
    refine aw_go 7 rfl ⟨trivial, trivial, trivial, trivial, (cI_in (a := q) rfl (by omega) (by decide)), trivial, trivial, trivial⟩ ?_
    show aw_W _ _ _ _ (if (α 39 (nI q).toNatClampNeg) = 32 then 23 else 16, [some (.ref 46), none], []) (ae_en (au σ [(37, nI q)]) α z t0 ts)
    rw [show (nI q).toNatClampNeg = q from cI_cl (a := q) rfl (by omega)]
    refine aw_br (c := (α 39 q) = 32) (fun h15 => ?_) (fun h15 => ?_)
    · skip
      show aw_W _ _ _ _ (23, [some (.ref 46), none], []) (ae_en (au σ [(37, nI q)]) α z t0 ts)
      refine aw_go 7 rfl ⟨trivial, trivial, trivial, trivial, trivial, trivial, trivial, trivial⟩ ?_
      show aw_W _ _ _ _ (4, [some (.ref 46), none], []) (ae_en (au σ [(37, (nI q) + 1)]) α z t0 ts)
      rw [show nI q + 1 = nI (q + 1) from cI_add (a := q) (b := 1) rfl rfl]
      exact lp_nxS hTb hs hs160 m (q + 1) (by omega) (by omega) (by rw [← hl, lx_sp hq8 (Or.inl h15)])
    · skip
      show aw_W _ _ _ _ (16, [some (.ref 46), none], []) (ae_en (au σ [(37, nI q)]) α z t0 ts)
      refine aw_go 7 rfl ⟨trivial, trivial, trivial, trivial, (cI_in (a := q) rfl (by omega) (by decide)), trivial, trivial, trivial⟩ ?_
      show aw_W _ _ _ _ (if ¬ (α 39 (nI q).toNatClampNeg) = 10 then 30 else 23, [some (.ref 46), none], []) (ae_en (au σ [(37, nI q)]) α z t0 ts)
      rw [show (nI q).toNatClampNeg = q from cI_cl (a := q) rfl (by omega)]
      refine aw_br (c := ¬ (α 39 q) = 10) (fun h22 => ?_) (fun h22 => ?_)
      · skip
        show aw_W _ _ _ _ (30, [some (.ref 46), none], []) (ae_en (au σ [(37, nI q)]) α z t0 ts)
        refine aw_go 9 rfl ⟨trivial, trivial, trivial, trivial, trivial, trivial, trivial, trivial, trivial, trivial⟩ ?_
        show aw_W _ _ _ _ (if (nI q) < (σ 31) then 47 else 39, [some (.ref 46), none], []) (ae_en (au σ [(37, nI q), (38, nI q)]) α z t0 ts)
        refine aw_br (c := (nI q) < (σ 31)) (fun h38 => ?_) (fun h38 => ?_)
        · skip
          have h38 := cI_ltT (a := q) (b := s) rfl hs (by omega) (by omega) h38
          show aw_W _ _ _ _ (47, [some (.ref 46), none], []) (ae_en (au σ [(37, nI q), (38, nI q)]) α z t0 ts)
          refine aw_go 7 rfl ⟨trivial, trivial, trivial, trivial, (cI_in (a := q) rfl (by omega) (by decide)), trivial, trivial, trivial⟩ ?_
          show aw_W _ _ _ _ (54, [some (.ref 46), some (.int (α 39 (nI q).toNatClampNeg))], [.int (α 39 (nI q).toNatClampNeg)]) (ae_en (au σ [(37, nI q), (38, nI q)]) α z t0 ts)
          rw [show (nI q).toNatClampNeg = q from cI_cl (a := q) rfl (by omega)]
          refine aw_callE rfl rfl (ev_Model_isLetter (b := (α 39 q))) ?_
          show aw_W _ _ _ _ (55, [some (.ref 46), some (.int (α 39 q))], [.int (bI (isL (α 39 q)))]) (ae_en (au σ [(37, nI q), (38, nI q)]) α z t0 ts)
          refine aw_go 1 rfl ⟨trivial, trivial⟩ ?_
          refine aw_br (c := (bI (isL (α 39 q))) = 0) (fun h55 => ?_) (fun h55 => ?_)
          · skip
            have h55 := bI_f h55
            show aw_W _ _ _ _ (88, [some (.ref 46), some (.int (α 39 q))], []) (ae_en (au σ [(37, nI q), (38, nI q)]) α z t0 ts)
            refine aw_go 1 rfl ⟨trivial, trivial⟩ ?_
            refine aw_callE rfl rfl (ev_Model_isDigit (b := (α 39 q))) ?_
            show aw_W _ _ _ _ (90, [some (.ref 46), some (.int (α 39 q))], [.int (bI (isD (α 39 q)))]) (ae_en (au σ [(37, nI q), (38, nI q)]) α z t0 ts)
            refine aw_go 1 rfl ⟨trivial, trivial⟩ ?_
            refine aw_br (c := (bI (isD (α 39 q))) = 0) (fun h90 => ?_) (fun h90 => ?_)
            · skip
              have h90 := bI_f h90
              show aw_W _ _ _ _ (147, [some (.ref 46), some (.int (α 39 q))], []) (ae_en (au σ [(37, nI q), (38, nI q)]) α z t0 ts)
              refine aw_go 13 rfl ⟨trivial, trivial, trivial, trivial, trivial, trivial, trivial, trivial, trivial, trivial, trivial, trivial, trivial, trivial⟩ ?_
              show aw_W _ _ _ _ (if (α 39 q) = 40 then 181 else 160, [some (.ref 46), some (.int (α 39 q))], [.ref 46]) (ae_en (au σ [(37, nI q), (38, (nI q) + 1), (40, α 39 q)]) α z t0 ts)
              refine aw_br (c := (α 39 q) = 40) (fun h159 => ?_) (fun h159 => ?_)
              · skip
                show aw_W _ _ _ _ (181, [some (.ref 46), some (.int (α 39 q))], [.ref 46]) (ae_en (au σ [(37, nI q), (38, (nI q) + 1), (40, α 39 q)]) α z t0 ts)
                refine aw_go 3 rfl ⟨trivial, trivial, trivial, trivial⟩ ?_
                show aw_W _ _ _ _ (185, [some (.ref 46), some (.int (α 39 q))], []) (ae_en (au σ [(37, nI q), (38, (nI q) + 1), (39, 3), (40, α 39 q)]) α z t0 ts)
                rw [lx_si hq8 (by rintro (v | v) <;> contradiction) h90 h55] at hl
                subst hl
                rw [show nI q + 1 = nI (q + 1) from cI_add (a := q) (b := 1) rfl rfl]
                have w := tSg_M ((α 39) q)
                rw [if_pos (Or.inl h159)] at w
                refine aw_ret rfl rfl trivial ?_
                exact ⟨_, _, q + 1, rfl, rfl, w, by omega, fun _ => ⟨m, rfl, by omega⟩⟩
              · skip
                show aw_W _ _ _ _ (160, [some (.ref 46), some (.int (α 39 q))], [.ref 46]) (ae_en (au σ [(37, nI q), (38, (nI q) + 1), (40, α 39 q)]) α z t0 ts)
                refine aw_go 3 rfl ⟨trivial, trivial, trivial, trivial⟩ ?_
                refine aw_br (c := (α 39 q) = 41) (fun h162 => ?_) (fun h162 => ?_)
                · skip
                  show aw_W _ _ _ _ (181, [some (.ref 46), some (.int (α 39 q))], [.ref 46]) (ae_en (au σ [(37, nI q), (38, (nI q) + 1), (40, α 39 q)]) α z t0 ts)
                  refine aw_go 3 rfl ⟨trivial, trivial, trivial, trivial⟩ ?_
                  show aw_W _ _ _ _ (185, [some (.ref 46), some (.int (α 39 q))], []) (ae_en (au σ [(37, nI q), (38, (nI q) + 1), (39, 3), (40, α 39 q)]) α z t0 ts)
                  rw [lx_si hq8 (by rintro (v | v) <;> contradiction) h90 h55] at hl
                  subst hl
                  rw [show nI q + 1 = nI (q + 1) from cI_add (a := q) (b := 1) rfl rfl]
                  have w := tSg_M ((α 39) q)
                  rw [if_pos (Or.inr (Or.inl h162))] at w
                  refine aw_ret rfl rfl trivial ?_
                  exact ⟨_, _, q + 1, rfl, rfl, w, by omega, fun _ => ⟨m, rfl, by omega⟩⟩
                · skip
                  show aw_W _ _ _ _ (163, [some (.ref 46), some (.int (α 39 q))], [.ref 46]) (ae_en (au σ [(37, nI q), (38, (nI q) + 1), (40, α 39 q)]) α z t0 ts)
                  refine aw_go 3 rfl ⟨trivial, trivial, trivial, trivial⟩ ?_
                  refine aw_br (c := (α 39 q) = 59) (fun h165 => ?_) (fun h165 => ?_)
                  · skip
                    show aw_W _ _ _ _ (181, [some (.ref 46), some (.int (α 39 q))], [.ref 46]) (ae_en (au σ [(37, nI q), (38, (nI q) + 1), (40, α 39 q)]) α z t0 ts)
                    refine aw_go 3 rfl ⟨trivial, trivial, trivial, trivial⟩ ?_
                    show aw_W _ _ _ _ (185, [some (.ref 46), some (.int (α 39 q))], []) (ae_en (au σ [(37, nI q), (38, (nI q) + 1), (39, 3), (40, α 39 q)]) α z t0 ts)
                    rw [lx_si hq8 (by rintro (v | v) <;> contradiction) h90 h55] at hl
                    subst hl
                    rw [show nI q + 1 = nI (q + 1) from cI_add (a := q) (b := 1) rfl rfl]
                    have w := tSg_M ((α 39) q)
                    rw [if_pos (Or.inr (Or.inr (Or.inl h165)))] at w
                    refine aw_ret rfl rfl trivial ?_
                    exact ⟨_, _, q + 1, rfl, rfl, w, by omega, fun _ => ⟨m, rfl, by omega⟩⟩
                  · skip
                    show aw_W _ _ _ _ (166, [some (.ref 46), some (.int (α 39 q))], [.ref 46]) (ae_en (au σ [(37, nI q), (38, (nI q) + 1), (40, α 39 q)]) α z t0 ts)
                    refine aw_go 3 rfl ⟨trivial, trivial, trivial, trivial⟩ ?_
                    refine aw_br (c := (α 39 q) = 43) (fun h168 => ?_) (fun h168 => ?_)
                    · skip
                      show aw_W _ _ _ _ (181, [some (.ref 46), some (.int (α 39 q))], [.ref 46]) (ae_en (au σ [(37, nI q), (38, (nI q) + 1), (40, α 39 q)]) α z t0 ts)
                      refine aw_go 3 rfl ⟨trivial, trivial, trivial, trivial⟩ ?_
                      show aw_W _ _ _ _ (185, [some (.ref 46), some (.int (α 39 q))], []) (ae_en (au σ [(37, nI q), (38, (nI q) + 1), (39, 3), (40, α 39 q)]) α z t0 ts)
                      rw [lx_si hq8 (by rintro (v | v) <;> contradiction) h90 h55] at hl
                      subst hl
                      rw [show nI q + 1 = nI (q + 1) from cI_add (a := q) (b := 1) rfl rfl]
                      have w := tSg_M ((α 39) q)
                      rw [if_pos (Or.inr (Or.inr (Or.inr (Or.inl h168))))] at w
                      refine aw_ret rfl rfl trivial ?_
                      exact ⟨_, _, q + 1, rfl, rfl, w, by omega, fun _ => ⟨m, rfl, by omega⟩⟩
                    · skip
                      show aw_W _ _ _ _ (169, [some (.ref 46), some (.int (α 39 q))], [.ref 46]) (ae_en (au σ [(37, nI q), (38, (nI q) + 1), (40, α 39 q)]) α z t0 ts)
                      refine aw_go 3 rfl ⟨trivial, trivial, trivial, trivial⟩ ?_
                      refine aw_br (c := (α 39 q) = 45) (fun h171 => ?_) (fun h171 => ?_)
                      · skip
                        show aw_W _ _ _ _ (181, [some (.ref 46), some (.int (α 39 q))], [.ref 46]) (ae_en (au σ [(37, nI q), (38, (nI q) + 1), (40, α 39 q)]) α z t0 ts)
                        refine aw_go 3 rfl ⟨trivial, trivial, trivial, trivial⟩ ?_
                        show aw_W _ _ _ _ (185, [some (.ref 46), some (.int (α 39 q))], []) (ae_en (au σ [(37, nI q), (38, (nI q) + 1), (39, 3), (40, α 39 q)]) α z t0 ts)
                        rw [lx_si hq8 (by rintro (v | v) <;> contradiction) h90 h55] at hl
                        subst hl
                        rw [show nI q + 1 = nI (q + 1) from cI_add (a := q) (b := 1) rfl rfl]
                        have w := tSg_M ((α 39) q)
                        rw [if_pos (Or.inr (Or.inr (Or.inr (Or.inr (Or.inl h171)))))] at w
                        refine aw_ret rfl rfl trivial ?_
                        exact ⟨_, _, q + 1, rfl, rfl, w, by omega, fun _ => ⟨m, rfl, by omega⟩⟩
                      · skip
                        show aw_W _ _ _ _ (172, [some (.ref 46), some (.int (α 39 q))], [.ref 46]) (ae_en (au σ [(37, nI q), (38, (nI q) + 1), (40, α 39 q)]) α z t0 ts)
                        refine aw_go 3 rfl ⟨trivial, trivial, trivial, trivial⟩ ?_
                        refine aw_br (c := (α 39 q) = 42) (fun h174 => ?_) (fun h174 => ?_)
                        · skip
                          show aw_W _ _ _ _ (181, [some (.ref 46), some (.int (α 39 q))], [.ref 46]) (ae_en (au σ [(37, nI q), (38, (nI q) + 1), (40, α 39 q)]) α z t0 ts)
                          refine aw_go 3 rfl ⟨trivial, trivial, trivial, trivial⟩ ?_
                          show aw_W _ _ _ _ (185, [some (.ref 46), some (.int (α 39 q))], []) (ae_en (au σ [(37, nI q), (38, (nI q) + 1), (39, 3), (40, α 39 q)]) α z t0 ts)
                          rw [lx_si hq8 (by rintro (v | v) <;> contradiction) h90 h55] at hl
                          subst hl
                          rw [show nI q + 1 = nI (q + 1) from cI_add (a := q) (b := 1) rfl rfl]
                          have w := tSg_M ((α 39) q)
                          rw [if_pos (Or.inr (Or.inr (Or.inr (Or.inr (Or.inr (Or.inl h174))))))] at w
                          refine aw_ret rfl rfl trivial ?_
                          exact ⟨_, _, q + 1, rfl, rfl, w, by omega, fun _ => ⟨m, rfl, by omega⟩⟩
                        · skip
                          show aw_W _ _ _ _ (175, [some (.ref 46), some (.int (α 39 q))], [.ref 46]) (ae_en (au σ [(37, nI q), (38, (nI q) + 1), (40, α 39 q)]) α z t0 ts)
                          refine aw_go 3 rfl ⟨trivial, trivial, trivial, trivial⟩ ?_
                          refine aw_br (c := (α 39 q) = 60) (fun h177 => ?_) (fun h177 => ?_)
                          · skip
                            show aw_W _ _ _ _ (181, [some (.ref 46), some (.int (α 39 q))], [.ref 46]) (ae_en (au σ [(37, nI q), (38, (nI q) + 1), (40, α 39 q)]) α z t0 ts)
                            refine aw_go 3 rfl ⟨trivial, trivial, trivial, trivial⟩ ?_
                            show aw_W _ _ _ _ (185, [some (.ref 46), some (.int (α 39 q))], []) (ae_en (au σ [(37, nI q), (38, (nI q) + 1), (39, 3), (40, α 39 q)]) α z t0 ts)
                            rw [lx_si hq8 (by rintro (v | v) <;> contradiction) h90 h55] at hl
                            subst hl
                            rw [show nI q + 1 = nI (q + 1) from cI_add (a := q) (b := 1) rfl rfl]
                            have w := tSg_M ((α 39) q)
                            rw [if_pos (Or.inr (Or.inr (Or.inr (Or.inr (Or.inr (Or.inr (Or.inl h177)))))))] at w
                            refine aw_ret rfl rfl trivial ?_
                            exact ⟨_, _, q + 1, rfl, rfl, w, by omega, fun _ => ⟨m, rfl, by omega⟩⟩
                          · skip
                            show aw_W _ _ _ _ (178, [some (.ref 46), some (.int (α 39 q))], [.ref 46]) (ae_en (au σ [(37, nI q), (38, (nI q) + 1), (40, α 39 q)]) α z t0 ts)
                            refine aw_go 3 rfl ⟨trivial, trivial, trivial, trivial⟩ ?_
                            refine aw_br (c := ¬ (α 39 q) = 61) (fun h180 => ?_) (fun h180 => ?_)
                            · skip
                              show aw_W _ _ _ _ (183, [some (.ref 46), some (.int (α 39 q))], [.ref 46]) (ae_en (au σ [(37, nI q), (38, (nI q) + 1), (40, α 39 q)]) α z t0 ts)
                              refine aw_go 2 rfl ⟨trivial, trivial, trivial⟩ ?_
                              show aw_W _ _ _ _ (185, [some (.ref 46), some (.int (α 39 q))], []) (ae_en (au σ [(37, nI q), (38, (nI q) + 1), (39, 5), (40, α 39 q)]) α z t0 ts)
                              rw [lx_si hq8 (by rintro (v | v) <;> contradiction) h90 h55] at hl
                              subst hl
                              rw [show nI q + 1 = nI (q + 1) from cI_add (a := q) (b := 1) rfl rfl]
                              have w := tSg_M ((α 39) q)
                              rw [if_neg (by rintro (v | v | v | v | v | v | v | v) <;> contradiction)] at w
                              refine aw_ret rfl rfl trivial ?_
                              exact ⟨_, _, q + 1, rfl, rfl, w, by omega, fun _ => ⟨m, rfl, by omega⟩⟩
                            · skip
                              have h180 := Classical.not_not.mp h180
                              show aw_W _ _ _ _ (181, [some (.ref 46), some (.int (α 39 q))], [.ref 46]) (ae_en (au σ [(37, nI q), (38, (nI q) + 1), (40, α 39 q)]) α z t0 ts)
                              refine aw_go 3 rfl ⟨trivial, trivial, trivial, trivial⟩ ?_
                              show aw_W _ _ _ _ (185, [some (.ref 46), some (.int (α 39 q))], []) (ae_en (au σ [(37, nI q), (38, (nI q) + 1), (39, 3), (40, α 39 q)]) α z t0 ts)
                              rw [lx_si hq8 (by rintro (v | v) <;> contradiction) h90 h55] at hl
                              subst hl
                              rw [show nI q + 1 = nI (q + 1) from cI_add (a := q) (b := 1) rfl rfl]
                              have w := tSg_M ((α 39) q)
                              rw [if_pos (Or.inr (Or.inr (Or.inr (Or.inr (Or.inr (Or.inr (Or.inr (h180))))))))] at w
                              refine aw_ret rfl rfl trivial ?_
                              exact ⟨_, _, q + 1, rfl, rfl, w, by omega, fun _ => ⟨m, rfl, by omega⟩⟩
            · skip
              have h90 := bI_t h90
              show aw_W _ _ _ _ (91, [some (.ref 46), some (.int (α 39 q))], []) (ae_en (au σ [(37, nI q), (38, nI q)]) α z t0 ts)
              refine aw_go 3 rfl ⟨trivial, trivial, trivial, trivial⟩ ?_
              show aw_W _ _ _ _ (94, [some (.ref 46), some (.int (α 39 q))], []) (ae_en (au σ [(37, nI q), (38, nI q), (40, 0)]) α z t0 ts)
              exact aw_to (lp_nxD hTb hs hs160 hl hq8 (by rintro (v | v) <;> contradiction) hm h90 160 q (by omega) (Nat.le_refl _) (by omega) rfl) rfl (by rw [Nat.sub_self]; rfl)
          · skip
            have h55 := bI_t h55
            show aw_W _ _ _ _ (56, [some (.ref 46), some (.int (α 39 q))], []) (ae_en (au σ [(37, nI q), (38, nI q)]) α z t0 ts)
            exact lp_nxW hTb hs hs160 hl hq8 (by rintro (v | v) <;> contradiction) hm h55 (isL_nD h55) 160 q (by omega) (Nat.le_refl _) (by omega) rfl
        · skip
          have h38 := cI_ltF (a := q) (b := s) rfl hs (by omega) (by omega) h38
          show aw_W _ _ _ _ (39, [some (.ref 46), none], []) (ae_en (au σ [(37, nI q), (38, nI q)]) α z t0 ts)
          omega
      · skip
        have h22 := Classical.not_not.mp h22
        show aw_W _ _ _ _ (23, [some (.ref 46), none], []) (ae_en (au σ [(37, nI q)]) α z t0 ts)
        refine aw_go 7 rfl ⟨trivial, trivial, trivial, trivial, trivial, trivial, trivial, trivial⟩ ?_
        show aw_W _ _ _ _ (4, [some (.ref 46), none], []) (ae_en (au σ [(37, (nI q) + 1)]) α z t0 ts)
        rw [show nI q + 1 = nI (q + 1) from cI_add (a := q) (b := 1) rfl rfl]
        exact lp_nxS hTb hs hs160 m (q + 1) (by omega) (by omega) (by rw [← hl, lx_sp hq8 (Or.inr h22)])
termination_by m
decreasing_by all_goals omega
theorem ev_Model_next {s q m : Nat} {l : ae_TL} {zd : Nat} (hTb : mTb (α 45) (α 46)) (hs : (σ 31) = nI s) (hs160 : s ≤ 160) (hto : (σ 38) = nI q) (hq : q ≤ s) (hm : s - q ≤ m) (hl : lx (α 39) s m q = l) : aw_X P (zd + 3) 120 [.ref 46] (ae_en σ α z t0 ts) (fun r H => ∃ (so : Int32) (iz : Int32) (e : Nat), r = none ∧ H = (ae_en (au σ [(37, nI (hdP l)), (38, nI e), (39, so), (40, iz)]) α z t0 ts) ∧ tokR so iz (hdT l) ∧ e ≤ s ∧ (¬ hdT l = -17 → ∃ m2, l.tail = lx (α 39) s m2 e ∧ s - e ≤ m2)) := by
  refine aw_ev (cd := cd_Model_next) rfl rfl rfl ?_
  show aw_W _ _ _ _ (0, [some (.ref 46), none], []) (ae_en σ α z t0 ts)
  refine aw_go 4 rfl ⟨trivial, trivial, trivial, trivial, trivial⟩ ?_
  show aw_W _ _ _ _ (4, [some (.ref 46), none], []) (ae_en (au σ [(37, σ 38)]) α z t0 ts)
  rw [hto]
  exact lp_nxS hTb hs hs160 m q hq hm hl
end L58
