/-! the class learns a text -/
theorem nI_n1 {n : Nat} (h : n < 2 ^ 31) : ¬ nI n = -1 := fun q => nI_pos h (by rw [q]; decide)
section L40
variable {P : ae_P} {σ : Nat → Int32} {α : Nat → Nat → Int32} {tx : Nat → Option Nat} {tl : List va_E}

theorem ev_learn_no {s M : Nat} {zd : Nat} {L0 : ae_TL} (hL : lx (α 16) s 160 0 = L0) (hz : P.2.2 = .null ∨ P.2.2 = .retAddr 700) (hs : (σ 11) = nI s) (hs160 : s ≤ 160) {r0 : ae_TL} {x y z2 : List Int32} (hpp : pTx M L0 = some (false, r0, x, y, z2)) : aw_X P (zd + 63) 10 [.ref 0] (ae_rd σ α tx tl) (fun r H => ∃ (ct av cv : Int32) (rt rp S2 E2 : Nat → Int32), r = some (.int ((-100) - nI (hdP r0))) ∧ H = ae_rd (au σ [(11, 0), (12, ct), (13, av), (14, cv)]) (au α [(17, rt), (18, rp), (19, S2), (20, E2)]) tx tl) := by
  refine aw_ev (cd := cd_Dried_learn) rfl rfl rfl ?_
  show aw_W _ _ _ _ (0, [some (.ref 0), none], []) (ae_rd σ α tx tl)
  refine aw_go 2 rfl ⟨trivial, trivial, trivial⟩ ?_
  show aw_W _ _ _ _ (2, [some (.ref 0), none], [.ref 19]) (ae_rd σ α tx tl)
  refine aw_call rfl rfl (ev_read_no  hL hz hs hs160 hpp) ?_
  rintro _ _ ⟨ct_2, av_2, cv_2, rt_2, rp_2, S2_2, E2_2, rfl, rfl, hg_2, hk_2⟩
  show aw_W _ _ _ _ (3, [some (.ref 0), none], [.int (nI (hdP r0))]) (ae_rd (au σ [(12, ct_2), (13, av_2), (14, cv_2)]) (au α [(17, rt_2), (18, rp_2), (19, S2_2), (20, E2_2)]) tx tl)
  obtain ⟨kk, hk2⟩ := hk_2
  have hb : hdP r0 < 2 ^ 31 := by
    have := hdP_le (hL ▸ lx_pl (α 16) s 160 0 (Nat.zero_le _)) hk2 hg_2
    omega
  refine aw_go 8 rfl ⟨trivial, trivial, trivial, trivial, trivial, trivial, trivial, trivial, trivial⟩ ?_
  show aw_W _ _ _ _ (if ¬ (nI (hdP r0)) = (-1) then 17 else 11, [some (.ref 0), some (.int (nI (hdP r0)))], []) (ae_rd (au σ [(11, 0), (12, ct_2), (13, av_2), (14, cv_2)]) (au α [(17, rt_2), (18, rp_2), (19, S2_2), (20, E2_2)]) tx tl)
  refine aw_br (c := ¬ (nI (hdP r0)) = (-1)) (fun h10 => ?_) (fun h10 => ?_)
  · skip
    show aw_W _ _ _ _ (17, [some (.ref 0), some (.int (nI (hdP r0)))], []) (ae_rd (au σ [(11, 0), (12, ct_2), (13, av_2), (14, cv_2)]) (au α [(17, rt_2), (18, rp_2), (19, S2_2), (20, E2_2)]) tx tl)
    refine aw_go 3 rfl ⟨trivial, trivial, trivial, trivial⟩ ?_
    show aw_W _ _ _ _ (20, [some (.ref 0), some (.int (nI (hdP r0)))], [.int ((-100) - (nI (hdP r0)))]) (ae_rd (au σ [(11, 0), (12, ct_2), (13, av_2), (14, cv_2)]) (au α [(17, rt_2), (18, rp_2), (19, S2_2), (20, E2_2)]) tx tl)
    refine aw_ret rfl rfl trivial ?_
    exact ⟨_, _, _, _, _, _, _, rfl, rfl⟩
  · skip
    have h10 := Classical.not_not.mp h10
    show aw_W _ _ _ _ (11, [some (.ref 0), some (.int (nI (hdP r0)))], []) (ae_rd (au σ [(11, 0), (12, ct_2), (13, av_2), (14, cv_2)]) (au α [(17, rt_2), (18, rp_2), (19, S2_2), (20, E2_2)]) tx tl)
    exact absurd h10 (nI_n1 hb)
end L40
section L40i
variable {P : ae_P} {σ : Nat → Int32} {α : Nat → Nat → Int32} {z : Int64} {t0 : ae_T}
theorem ev_learn_i {s M : Nat} {zd : Nat} {L0 : ae_TL} (hL : lx (α 16) s 160 0 = L0) (hz : P.2.2 = .null ∨ P.2.2 = .retAddr 700) (hs : (σ 11) = nI s) (hs160 : s ≤ 160) (hu : (σ 15) = nI 0) {r0 : ae_TL} {s1 s2 s3 : List Int32} (hpp : pTx M L0 = some (true, r0, s1, s2, s3)) : aw_X P (zd + 63) 10 [.ref 0] (ae_rd σ α (fun _ => none) ([] : List va_E)) (fun r H => ∃ (ct av : Int32) (rt rp : Nat → Int32), r = some (.int (nI 0)) ∧ H = ae_rd (au σ [(11, 0), (12, ct), (13, av), (14, nI (0 + s1.length + s2.length + s3.length)), (15, nI 1)]) (au α [(17, rt), (18, rp), (19, (putL (putL (putL (α 19) 0 s1) (0 + s1.length) s2) (0 + s1.length + s2.length) s3)), (20, (upd (upd (upd (α 20) 0 (nI (0 + s1.length))) 1 (nI (0 + s1.length + s2.length))) 2 (nI (0 + s1.length + s2.length + s3.length))))]) (ae_tx 0) (([] : List va_E) ++ [.inr (5, [.ref 45, .ref 44]), .inl (0, 3, .inl (tK (putL (putL (putL (α 19) 0 s1) (0 + s1.length) s2) (0 + s1.length + s2.length) s3) (upd (upd (upd (α 20) 0 (nI (0 + s1.length))) 1 (nI (0 + s1.length + s2.length))) 2 (nI (0 + s1.length + s2.length + s3.length))) (0 + s1.length + s2.length + s3.length)).2.2), .inl (0, (tK (putL (putL (putL (α 19) 0 s1) (0 + s1.length) s2) (0 + s1.length + s2.length) s3) (upd (upd (upd (α 20) 0 (nI (0 + s1.length))) 1 (nI (0 + s1.length + s2.length))) 2 (nI (0 + s1.length + s2.length + s3.length))) (0 + s1.length + s2.length + s3.length)).1, .inl (tK (putL (putL (putL (α 19) 0 s1) (0 + s1.length) s2) (0 + s1.length + s2.length) s3) (upd (upd (upd (α 20) 0 (nI (0 + s1.length))) 1 (nI (0 + s1.length + s2.length))) 2 (nI (0 + s1.length + s2.length + s3.length))) (0 + s1.length + s2.length + s3.length)).2.1)]) ∧ dOk s1 0 1 ∧ dOk s2 0 1 ∧ dOk s3 0 1 ∧ s1.length + s2.length + s3.length ≤ 160) := by
  refine aw_ev (cd := cd_Dried_learn) rfl rfl rfl ?_
  show aw_W _ _ _ _ (0, [some (.ref 0), none], []) (ae_rd σ α (fun _ => none) ([] : List va_E))
  refine aw_go 2 rfl ⟨trivial, trivial, trivial⟩ ?_
  show aw_W _ _ _ _ (2, [some (.ref 0), none], [.ref 19]) (ae_rd σ α (fun _ => none) ([] : List va_E))
  refine aw_call rfl rfl (ev_read_yes  hL hz hs hs160 hpp) ?_
  rintro _ _ ⟨ct_2, av_2, rt_2, rp_2, rfl, rfl, d1_2, d2_2, d3_2, dl_2⟩
  show aw_W _ _ _ _ (3, [some (.ref 0), none], [.int (-1)]) (ae_rd (au σ [(12, ct_2), (13, av_2), (14, nI (0 + s1.length + s2.length + s3.length))]) (au α [(17, rt_2), (18, rp_2), (19, (putL (putL (putL (α 19) 0 s1) (0 + s1.length) s2) (0 + s1.length + s2.length) s3)), (20, (upd (upd (upd (α 20) 0 (nI (0 + s1.length))) 1 (nI (0 + s1.length + s2.length))) 2 (nI (0 + s1.length + s2.length + s3.length))))]) (fun _ => none) ([] : List va_E))
  refine aw_go 8 rfl ⟨trivial, trivial, trivial, trivial, trivial, trivial, trivial, trivial, trivial⟩ ?_
  show aw_W _ _ _ _ (if ¬ (-1) = (-1) then 17 else 11, [some (.ref 0), some (.int (-1))], []) (ae_rd (au σ [(11, 0), (12, ct_2), (13, av_2), (14, nI (0 + s1.length + s2.length + s3.length))]) (au α [(17, rt_2), (18, rp_2), (19, (putL (putL (putL (α 19) 0 s1) (0 + s1.length) s2) (0 + s1.length + s2.length) s3)), (20, (upd (upd (upd (α 20) 0 (nI (0 + s1.length))) 1 (nI (0 + s1.length + s2.length))) 2 (nI (0 + s1.length + s2.length + s3.length))))]) (fun _ => none) ([] : List va_E))
  refine aw_br (c := ¬ (-1) = (-1)) (fun h10 => ?_) (fun h10 => ?_)
  · skip
    show aw_W _ _ _ _ (17, [some (.ref 0), some (.int (-1))], []) (ae_rd (au σ [(11, 0), (12, ct_2), (13, av_2), (14, nI (0 + s1.length + s2.length + s3.length))]) (au α [(17, rt_2), (18, rp_2), (19, (putL (putL (putL (α 19) 0 s1) (0 + s1.length) s2) (0 + s1.length + s2.length) s3)), (20, (upd (upd (upd (α 20) 0 (nI (0 + s1.length))) 1 (nI (0 + s1.length + s2.length))) 2 (nI (0 + s1.length + s2.length + s3.length))))]) (fun _ => none) ([] : List va_E))
    exact absurd rfl h10
  · skip
    have h10 := Classical.not_not.mp h10
    show aw_W _ _ _ _ (11, [some (.ref 0), some (.int (-1))], []) (ae_rd (au σ [(11, 0), (12, ct_2), (13, av_2), (14, nI (0 + s1.length + s2.length + s3.length))]) (au α [(17, rt_2), (18, rp_2), (19, (putL (putL (putL (α 19) 0 s1) (0 + s1.length) s2) (0 + s1.length + s2.length) s3)), (20, (upd (upd (upd (α 20) 0 (nI (0 + s1.length))) 1 (nI (0 + s1.length + s2.length))) 2 (nI (0 + s1.length + s2.length + s3.length))))]) (fun _ => none) ([] : List va_E))
    refine aw_go 4 rfl ⟨trivial, trivial, trivial, trivial, trivial⟩ ?_
    show aw_W _ _ _ _ (15, [some (.ref 0), some (.int (-1))], [.ref 19, .ref 25]) (ae_rd (au σ [(11, 0), (12, ct_2), (13, av_2), (14, nI (0 + s1.length + s2.length + s3.length))]) (au α [(17, rt_2), (18, rp_2), (19, (putL (putL (putL (α 19) 0 s1) (0 + s1.length) s2) (0 + s1.length + s2.length) s3)), (20, (upd (upd (upd (α 20) 0 (nI (0 + s1.length))) 1 (nI (0 + s1.length + s2.length))) 2 (nI (0 + s1.length + s2.length + s3.length))))]) (fun _ => none) ([] : List va_E))
    refine aw_call rfl rfl (ev_keep_i (σ := au σ [(11, 0), (12, ct_2), (13, av_2), (14, nI (0 + s1.length + s2.length + s3.length))]) (α := au α [(17, rt_2), (18, rp_2), (19, (putL (putL (putL (α 19) 0 s1) (0 + s1.length) s2) (0 + s1.length + s2.length) s3)), (20, (upd (upd (upd (α 20) 0 (nI (0 + s1.length))) 1 (nI (0 + s1.length + s2.length))) 2 (nI (0 + s1.length + s2.length + s3.length))))])  hu rfl (by omega)) ?_
    rintro _ _ ⟨rfl, rfl⟩
    show aw_W _ _ _ _ (16, [some (.ref 0), some (.int (-1))], [.int (nI 0)]) (ae_rd (au σ [(11, 0), (12, ct_2), (13, av_2), (14, nI (0 + s1.length + s2.length + s3.length)), (15, nI 1)]) (au α [(17, rt_2), (18, rp_2), (19, (putL (putL (putL (α 19) 0 s1) (0 + s1.length) s2) (0 + s1.length + s2.length) s3)), (20, (upd (upd (upd (α 20) 0 (nI (0 + s1.length))) 1 (nI (0 + s1.length + s2.length))) 2 (nI (0 + s1.length + s2.length + s3.length))))]) (ae_tx 0) (([] : List va_E) ++ [.inr (5, [.ref 45, .ref 44]), .inl (0, 3, .inl (tK (putL (putL (putL (α 19) 0 s1) (0 + s1.length) s2) (0 + s1.length + s2.length) s3) (upd (upd (upd (α 20) 0 (nI (0 + s1.length))) 1 (nI (0 + s1.length + s2.length))) 2 (nI (0 + s1.length + s2.length + s3.length))) (0 + s1.length + s2.length + s3.length)).2.2), .inl (0, (tK (putL (putL (putL (α 19) 0 s1) (0 + s1.length) s2) (0 + s1.length + s2.length) s3) (upd (upd (upd (α 20) 0 (nI (0 + s1.length))) 1 (nI (0 + s1.length + s2.length))) 2 (nI (0 + s1.length + s2.length + s3.length))) (0 + s1.length + s2.length + s3.length)).1, .inl (tK (putL (putL (putL (α 19) 0 s1) (0 + s1.length) s2) (0 + s1.length + s2.length) s3) (upd (upd (upd (α 20) 0 (nI (0 + s1.length))) 1 (nI (0 + s1.length + s2.length))) 2 (nI (0 + s1.length + s2.length + s3.length))) (0 + s1.length + s2.length + s3.length)).2.1)]))
    refine aw_go 1 rfl ⟨trivial, trivial⟩ ?_
    refine aw_ret rfl rfl trivial ?_
    exact ⟨_, _, _, _, rfl, rfl, d1_2, d2_2, d3_2, dl_2⟩
end L40i
section L400
variable {P : ae_P} {σ : Nat → Int32} {α : Nat → Nat → Int32} {z : Int64} {t0 : ae_T}
theorem ev_learn_0 {s M : Nat} {zd : Nat} {L0 : ae_TL} (hL : lx (α 16) s 160 0 = L0) (hz : P.2.2 = .null ∨ P.2.2 = .retAddr 700) (hs : (σ 11) = nI s) (hs160 : s ≤ 160) (hu : (σ 15) = nI 1) {r0 : ae_TL} {s1 s2 s3 : List Int32} (hpp : pTx M L0 = some (true, r0, s1, s2, s3)) : aw_X P (zd + 63) 10 [.ref 0] (ae_rd σ α (ae_tx 0) (ae_tlL σ α z t0 [])) (fun r H => ∃ (ct av : Int32) (rt rp : Nat → Int32), r = some (.int (nI 1)) ∧ H = ae_rd (au σ [(11, 0), (12, ct), (13, av), (14, nI (0 + s1.length + s2.length + s3.length)), (15, nI 2)]) (au α [(17, rt), (18, rp), (19, (putL (putL (putL (α 19) 0 s1) (0 + s1.length) s2) (0 + s1.length + s2.length) s3)), (20, (upd (upd (upd (α 20) 0 (nI (0 + s1.length))) 1 (nI (0 + s1.length + s2.length))) 2 (nI (0 + s1.length + s2.length + s3.length))))]) (ae_tx 1) (ae_tlL σ α z t0 [] ++ [.inr (5, [.ref 78, .ref 77]), .inl (0, 3, .inl (tK (putL (putL (putL (α 19) 0 s1) (0 + s1.length) s2) (0 + s1.length + s2.length) s3) (upd (upd (upd (α 20) 0 (nI (0 + s1.length))) 1 (nI (0 + s1.length + s2.length))) 2 (nI (0 + s1.length + s2.length + s3.length))) (0 + s1.length + s2.length + s3.length)).2.2), .inl (0, (tK (putL (putL (putL (α 19) 0 s1) (0 + s1.length) s2) (0 + s1.length + s2.length) s3) (upd (upd (upd (α 20) 0 (nI (0 + s1.length))) 1 (nI (0 + s1.length + s2.length))) 2 (nI (0 + s1.length + s2.length + s3.length))) (0 + s1.length + s2.length + s3.length)).1, .inl (tK (putL (putL (putL (α 19) 0 s1) (0 + s1.length) s2) (0 + s1.length + s2.length) s3) (upd (upd (upd (α 20) 0 (nI (0 + s1.length))) 1 (nI (0 + s1.length + s2.length))) 2 (nI (0 + s1.length + s2.length + s3.length))) (0 + s1.length + s2.length + s3.length)).2.1)]) ∧ dOk s1 0 1 ∧ dOk s2 0 1 ∧ dOk s3 0 1 ∧ s1.length + s2.length + s3.length ≤ 160) := by
  refine aw_ev (cd := cd_Dried_learn) rfl rfl rfl ?_
  show aw_W _ _ _ _ (0, [some (.ref 0), none], []) (ae_rd σ α (ae_tx 0) (ae_tlL σ α z t0 []))
  refine aw_go 2 rfl ⟨trivial, trivial, trivial⟩ ?_
  show aw_W _ _ _ _ (2, [some (.ref 0), none], [.ref 19]) (ae_rd σ α (ae_tx 0) (ae_tlL σ α z t0 []))
  refine aw_call rfl rfl (ev_read_yes  hL hz hs hs160 hpp) ?_
  rintro _ _ ⟨ct_2, av_2, rt_2, rp_2, rfl, rfl, d1_2, d2_2, d3_2, dl_2⟩
  show aw_W _ _ _ _ (3, [some (.ref 0), none], [.int (-1)]) (ae_rd (au σ [(12, ct_2), (13, av_2), (14, nI (0 + s1.length + s2.length + s3.length))]) (au α [(17, rt_2), (18, rp_2), (19, (putL (putL (putL (α 19) 0 s1) (0 + s1.length) s2) (0 + s1.length + s2.length) s3)), (20, (upd (upd (upd (α 20) 0 (nI (0 + s1.length))) 1 (nI (0 + s1.length + s2.length))) 2 (nI (0 + s1.length + s2.length + s3.length))))]) (ae_tx 0) (ae_tlL σ α z t0 []))
  refine aw_go 8 rfl ⟨trivial, trivial, trivial, trivial, trivial, trivial, trivial, trivial, trivial⟩ ?_
  show aw_W _ _ _ _ (if ¬ (-1) = (-1) then 17 else 11, [some (.ref 0), some (.int (-1))], []) (ae_rd (au σ [(11, 0), (12, ct_2), (13, av_2), (14, nI (0 + s1.length + s2.length + s3.length))]) (au α [(17, rt_2), (18, rp_2), (19, (putL (putL (putL (α 19) 0 s1) (0 + s1.length) s2) (0 + s1.length + s2.length) s3)), (20, (upd (upd (upd (α 20) 0 (nI (0 + s1.length))) 1 (nI (0 + s1.length + s2.length))) 2 (nI (0 + s1.length + s2.length + s3.length))))]) (ae_tx 0) (ae_tlL σ α z t0 []))
  refine aw_br (c := ¬ (-1) = (-1)) (fun h10 => ?_) (fun h10 => ?_)
  · skip
    show aw_W _ _ _ _ (17, [some (.ref 0), some (.int (-1))], []) (ae_rd (au σ [(11, 0), (12, ct_2), (13, av_2), (14, nI (0 + s1.length + s2.length + s3.length))]) (au α [(17, rt_2), (18, rp_2), (19, (putL (putL (putL (α 19) 0 s1) (0 + s1.length) s2) (0 + s1.length + s2.length) s3)), (20, (upd (upd (upd (α 20) 0 (nI (0 + s1.length))) 1 (nI (0 + s1.length + s2.length))) 2 (nI (0 + s1.length + s2.length + s3.length))))]) (ae_tx 0) (ae_tlL σ α z t0 []))
    exact absurd rfl h10
  · skip
    have h10 := Classical.not_not.mp h10
    show aw_W _ _ _ _ (11, [some (.ref 0), some (.int (-1))], []) (ae_rd (au σ [(11, 0), (12, ct_2), (13, av_2), (14, nI (0 + s1.length + s2.length + s3.length))]) (au α [(17, rt_2), (18, rp_2), (19, (putL (putL (putL (α 19) 0 s1) (0 + s1.length) s2) (0 + s1.length + s2.length) s3)), (20, (upd (upd (upd (α 20) 0 (nI (0 + s1.length))) 1 (nI (0 + s1.length + s2.length))) 2 (nI (0 + s1.length + s2.length + s3.length))))]) (ae_tx 0) (ae_tlL σ α z t0 []))
    refine aw_go 4 rfl ⟨trivial, trivial, trivial, trivial, trivial⟩ ?_
    show aw_W _ _ _ _ (15, [some (.ref 0), some (.int (-1))], [.ref 19, .ref 25]) (ae_rd (au σ [(11, 0), (12, ct_2), (13, av_2), (14, nI (0 + s1.length + s2.length + s3.length))]) (au α [(17, rt_2), (18, rp_2), (19, (putL (putL (putL (α 19) 0 s1) (0 + s1.length) s2) (0 + s1.length + s2.length) s3)), (20, (upd (upd (upd (α 20) 0 (nI (0 + s1.length))) 1 (nI (0 + s1.length + s2.length))) 2 (nI (0 + s1.length + s2.length + s3.length))))]) (ae_tx 0) (ae_tlL σ α z t0 []))
    refine aw_call rfl rfl (ev_keep_0 (σ := au σ [(11, 0), (12, ct_2), (13, av_2), (14, nI (0 + s1.length + s2.length + s3.length))]) (α := au α [(17, rt_2), (18, rp_2), (19, (putL (putL (putL (α 19) 0 s1) (0 + s1.length) s2) (0 + s1.length + s2.length) s3)), (20, (upd (upd (upd (α 20) 0 (nI (0 + s1.length))) 1 (nI (0 + s1.length + s2.length))) 2 (nI (0 + s1.length + s2.length + s3.length))))]) (z := z) (t0 := t0)  hu rfl (by omega)) ?_
    rintro _ _ ⟨rfl, rfl⟩
    show aw_W _ _ _ _ (16, [some (.ref 0), some (.int (-1))], [.int (nI 1)]) (ae_rd (au σ [(11, 0), (12, ct_2), (13, av_2), (14, nI (0 + s1.length + s2.length + s3.length)), (15, nI 2)]) (au α [(17, rt_2), (18, rp_2), (19, (putL (putL (putL (α 19) 0 s1) (0 + s1.length) s2) (0 + s1.length + s2.length) s3)), (20, (upd (upd (upd (α 20) 0 (nI (0 + s1.length))) 1 (nI (0 + s1.length + s2.length))) 2 (nI (0 + s1.length + s2.length + s3.length))))]) (ae_tx 1) (ae_tlL σ α z t0 [] ++ [.inr (5, [.ref 78, .ref 77]), .inl (0, 3, .inl (tK (putL (putL (putL (α 19) 0 s1) (0 + s1.length) s2) (0 + s1.length + s2.length) s3) (upd (upd (upd (α 20) 0 (nI (0 + s1.length))) 1 (nI (0 + s1.length + s2.length))) 2 (nI (0 + s1.length + s2.length + s3.length))) (0 + s1.length + s2.length + s3.length)).2.2), .inl (0, (tK (putL (putL (putL (α 19) 0 s1) (0 + s1.length) s2) (0 + s1.length + s2.length) s3) (upd (upd (upd (α 20) 0 (nI (0 + s1.length))) 1 (nI (0 + s1.length + s2.length))) 2 (nI (0 + s1.length + s2.length + s3.length))) (0 + s1.length + s2.length + s3.length)).1, .inl (tK (putL (putL (putL (α 19) 0 s1) (0 + s1.length) s2) (0 + s1.length + s2.length) s3) (upd (upd (upd (α 20) 0 (nI (0 + s1.length))) 1 (nI (0 + s1.length + s2.length))) 2 (nI (0 + s1.length + s2.length + s3.length))) (0 + s1.length + s2.length + s3.length)).2.1)]))
    refine aw_go 1 rfl ⟨trivial, trivial⟩ ?_
    refine aw_ret rfl rfl trivial ?_
    exact ⟨_, _, _, _, rfl, rfl, d1_2, d2_2, d3_2, dl_2⟩
end L400
section L401
variable {P : ae_P} {σ : Nat → Int32} {α : Nat → Nat → Int32} {z : Int64} {t0 : ae_T}
theorem ev_learn_1 {t1 : ae_T} {s M : Nat} {zd : Nat} {L0 : ae_TL} (hL : lx (α 16) s 160 0 = L0) (hz : P.2.2 = .null ∨ P.2.2 = .retAddr 700) (hs : (σ 11) = nI s) (hs160 : s ≤ 160) (hu : (σ 15) = nI 2) {r0 : ae_TL} {s1 s2 s3 : List Int32} (hpp : pTx M L0 = some (true, r0, s1, s2, s3)) : aw_X P (zd + 63) 10 [.ref 0] (ae_rd σ α (ae_tx 1) (ae_tlL σ α z t0 [t1])) (fun r H => ∃ (ct av : Int32) (rt rp : Nat → Int32), r = some (.int (nI 2)) ∧ H = ae_rd (au σ [(11, 0), (12, ct), (13, av), (14, nI (0 + s1.length + s2.length + s3.length)), (15, nI 3)]) (au α [(17, rt), (18, rp), (19, (putL (putL (putL (α 19) 0 s1) (0 + s1.length) s2) (0 + s1.length + s2.length) s3)), (20, (upd (upd (upd (α 20) 0 (nI (0 + s1.length))) 1 (nI (0 + s1.length + s2.length))) 2 (nI (0 + s1.length + s2.length + s3.length))))]) (ae_tx 2) (ae_tlL σ α z t0 [t1] ++ [.inr (5, [.ref 81, .ref 80]), .inl (0, 3, .inl (tK (putL (putL (putL (α 19) 0 s1) (0 + s1.length) s2) (0 + s1.length + s2.length) s3) (upd (upd (upd (α 20) 0 (nI (0 + s1.length))) 1 (nI (0 + s1.length + s2.length))) 2 (nI (0 + s1.length + s2.length + s3.length))) (0 + s1.length + s2.length + s3.length)).2.2), .inl (0, (tK (putL (putL (putL (α 19) 0 s1) (0 + s1.length) s2) (0 + s1.length + s2.length) s3) (upd (upd (upd (α 20) 0 (nI (0 + s1.length))) 1 (nI (0 + s1.length + s2.length))) 2 (nI (0 + s1.length + s2.length + s3.length))) (0 + s1.length + s2.length + s3.length)).1, .inl (tK (putL (putL (putL (α 19) 0 s1) (0 + s1.length) s2) (0 + s1.length + s2.length) s3) (upd (upd (upd (α 20) 0 (nI (0 + s1.length))) 1 (nI (0 + s1.length + s2.length))) 2 (nI (0 + s1.length + s2.length + s3.length))) (0 + s1.length + s2.length + s3.length)).2.1)]) ∧ dOk s1 0 1 ∧ dOk s2 0 1 ∧ dOk s3 0 1 ∧ s1.length + s2.length + s3.length ≤ 160) := by
  refine aw_ev (cd := cd_Dried_learn) rfl rfl rfl ?_
  show aw_W _ _ _ _ (0, [some (.ref 0), none], []) (ae_rd σ α (ae_tx 1) (ae_tlL σ α z t0 [t1]))
  refine aw_go 2 rfl ⟨trivial, trivial, trivial⟩ ?_
  show aw_W _ _ _ _ (2, [some (.ref 0), none], [.ref 19]) (ae_rd σ α (ae_tx 1) (ae_tlL σ α z t0 [t1]))
  refine aw_call rfl rfl (ev_read_yes  hL hz hs hs160 hpp) ?_
  rintro _ _ ⟨ct_2, av_2, rt_2, rp_2, rfl, rfl, d1_2, d2_2, d3_2, dl_2⟩
  show aw_W _ _ _ _ (3, [some (.ref 0), none], [.int (-1)]) (ae_rd (au σ [(12, ct_2), (13, av_2), (14, nI (0 + s1.length + s2.length + s3.length))]) (au α [(17, rt_2), (18, rp_2), (19, (putL (putL (putL (α 19) 0 s1) (0 + s1.length) s2) (0 + s1.length + s2.length) s3)), (20, (upd (upd (upd (α 20) 0 (nI (0 + s1.length))) 1 (nI (0 + s1.length + s2.length))) 2 (nI (0 + s1.length + s2.length + s3.length))))]) (ae_tx 1) (ae_tlL σ α z t0 [t1]))
  refine aw_go 8 rfl ⟨trivial, trivial, trivial, trivial, trivial, trivial, trivial, trivial, trivial⟩ ?_
  show aw_W _ _ _ _ (if ¬ (-1) = (-1) then 17 else 11, [some (.ref 0), some (.int (-1))], []) (ae_rd (au σ [(11, 0), (12, ct_2), (13, av_2), (14, nI (0 + s1.length + s2.length + s3.length))]) (au α [(17, rt_2), (18, rp_2), (19, (putL (putL (putL (α 19) 0 s1) (0 + s1.length) s2) (0 + s1.length + s2.length) s3)), (20, (upd (upd (upd (α 20) 0 (nI (0 + s1.length))) 1 (nI (0 + s1.length + s2.length))) 2 (nI (0 + s1.length + s2.length + s3.length))))]) (ae_tx 1) (ae_tlL σ α z t0 [t1]))
  refine aw_br (c := ¬ (-1) = (-1)) (fun h10 => ?_) (fun h10 => ?_)
  · skip
    show aw_W _ _ _ _ (17, [some (.ref 0), some (.int (-1))], []) (ae_rd (au σ [(11, 0), (12, ct_2), (13, av_2), (14, nI (0 + s1.length + s2.length + s3.length))]) (au α [(17, rt_2), (18, rp_2), (19, (putL (putL (putL (α 19) 0 s1) (0 + s1.length) s2) (0 + s1.length + s2.length) s3)), (20, (upd (upd (upd (α 20) 0 (nI (0 + s1.length))) 1 (nI (0 + s1.length + s2.length))) 2 (nI (0 + s1.length + s2.length + s3.length))))]) (ae_tx 1) (ae_tlL σ α z t0 [t1]))
    exact absurd rfl h10
  · skip
    have h10 := Classical.not_not.mp h10
    show aw_W _ _ _ _ (11, [some (.ref 0), some (.int (-1))], []) (ae_rd (au σ [(11, 0), (12, ct_2), (13, av_2), (14, nI (0 + s1.length + s2.length + s3.length))]) (au α [(17, rt_2), (18, rp_2), (19, (putL (putL (putL (α 19) 0 s1) (0 + s1.length) s2) (0 + s1.length + s2.length) s3)), (20, (upd (upd (upd (α 20) 0 (nI (0 + s1.length))) 1 (nI (0 + s1.length + s2.length))) 2 (nI (0 + s1.length + s2.length + s3.length))))]) (ae_tx 1) (ae_tlL σ α z t0 [t1]))
    refine aw_go 4 rfl ⟨trivial, trivial, trivial, trivial, trivial⟩ ?_
    show aw_W _ _ _ _ (15, [some (.ref 0), some (.int (-1))], [.ref 19, .ref 25]) (ae_rd (au σ [(11, 0), (12, ct_2), (13, av_2), (14, nI (0 + s1.length + s2.length + s3.length))]) (au α [(17, rt_2), (18, rp_2), (19, (putL (putL (putL (α 19) 0 s1) (0 + s1.length) s2) (0 + s1.length + s2.length) s3)), (20, (upd (upd (upd (α 20) 0 (nI (0 + s1.length))) 1 (nI (0 + s1.length + s2.length))) 2 (nI (0 + s1.length + s2.length + s3.length))))]) (ae_tx 1) (ae_tlL σ α z t0 [t1]))
    refine aw_call rfl rfl (ev_keep_1 (σ := au σ [(11, 0), (12, ct_2), (13, av_2), (14, nI (0 + s1.length + s2.length + s3.length))]) (α := au α [(17, rt_2), (18, rp_2), (19, (putL (putL (putL (α 19) 0 s1) (0 + s1.length) s2) (0 + s1.length + s2.length) s3)), (20, (upd (upd (upd (α 20) 0 (nI (0 + s1.length))) 1 (nI (0 + s1.length + s2.length))) 2 (nI (0 + s1.length + s2.length + s3.length))))]) (z := z) (t0 := t0) (t1 := t1)  hu rfl (by omega)) ?_
    rintro _ _ ⟨rfl, rfl⟩
    show aw_W _ _ _ _ (16, [some (.ref 0), some (.int (-1))], [.int (nI 2)]) (ae_rd (au σ [(11, 0), (12, ct_2), (13, av_2), (14, nI (0 + s1.length + s2.length + s3.length)), (15, nI 3)]) (au α [(17, rt_2), (18, rp_2), (19, (putL (putL (putL (α 19) 0 s1) (0 + s1.length) s2) (0 + s1.length + s2.length) s3)), (20, (upd (upd (upd (α 20) 0 (nI (0 + s1.length))) 1 (nI (0 + s1.length + s2.length))) 2 (nI (0 + s1.length + s2.length + s3.length))))]) (ae_tx 2) (ae_tlL σ α z t0 [t1] ++ [.inr (5, [.ref 81, .ref 80]), .inl (0, 3, .inl (tK (putL (putL (putL (α 19) 0 s1) (0 + s1.length) s2) (0 + s1.length + s2.length) s3) (upd (upd (upd (α 20) 0 (nI (0 + s1.length))) 1 (nI (0 + s1.length + s2.length))) 2 (nI (0 + s1.length + s2.length + s3.length))) (0 + s1.length + s2.length + s3.length)).2.2), .inl (0, (tK (putL (putL (putL (α 19) 0 s1) (0 + s1.length) s2) (0 + s1.length + s2.length) s3) (upd (upd (upd (α 20) 0 (nI (0 + s1.length))) 1 (nI (0 + s1.length + s2.length))) 2 (nI (0 + s1.length + s2.length + s3.length))) (0 + s1.length + s2.length + s3.length)).1, .inl (tK (putL (putL (putL (α 19) 0 s1) (0 + s1.length) s2) (0 + s1.length + s2.length) s3) (upd (upd (upd (α 20) 0 (nI (0 + s1.length))) 1 (nI (0 + s1.length + s2.length))) 2 (nI (0 + s1.length + s2.length + s3.length))) (0 + s1.length + s2.length + s3.length)).2.1)]))
    refine aw_go 1 rfl ⟨trivial, trivial⟩ ?_
    refine aw_ret rfl rfl trivial ?_
    exact ⟨_, _, _, _, rfl, rfl, d1_2, d2_2, d3_2, dl_2⟩
end L401
section L402
variable {P : ae_P} {σ : Nat → Int32} {α : Nat → Nat → Int32} {z : Int64} {t0 : ae_T}
theorem ev_learn_2 {t1 t2 : ae_T} {s M : Nat} {zd : Nat} {L0 : ae_TL} (hL : lx (α 16) s 160 0 = L0) (hz : P.2.2 = .null ∨ P.2.2 = .retAddr 700) (hs : (σ 11) = nI s) (hs160 : s ≤ 160) (hu : (σ 15) = nI 3) {r0 : ae_TL} {s1 s2 s3 : List Int32} (hpp : pTx M L0 = some (true, r0, s1, s2, s3)) : aw_X P (zd + 63) 10 [.ref 0] (ae_rd σ α (ae_tx 2) (ae_tlL σ α z t0 [t1, t2])) (fun r H => ∃ (ct av : Int32) (rt rp : Nat → Int32), r = some (.int (nI 3)) ∧ H = ae_rd (au σ [(11, 0), (12, ct), (13, av), (14, nI (0 + s1.length + s2.length + s3.length)), (15, nI 4)]) (au α [(17, rt), (18, rp), (19, (putL (putL (putL (α 19) 0 s1) (0 + s1.length) s2) (0 + s1.length + s2.length) s3)), (20, (upd (upd (upd (α 20) 0 (nI (0 + s1.length))) 1 (nI (0 + s1.length + s2.length))) 2 (nI (0 + s1.length + s2.length + s3.length))))]) (ae_tx 3) (ae_tlL σ α z t0 [t1, t2] ++ [.inr (5, [.ref 84, .ref 83]), .inl (0, 3, .inl (tK (putL (putL (putL (α 19) 0 s1) (0 + s1.length) s2) (0 + s1.length + s2.length) s3) (upd (upd (upd (α 20) 0 (nI (0 + s1.length))) 1 (nI (0 + s1.length + s2.length))) 2 (nI (0 + s1.length + s2.length + s3.length))) (0 + s1.length + s2.length + s3.length)).2.2), .inl (0, (tK (putL (putL (putL (α 19) 0 s1) (0 + s1.length) s2) (0 + s1.length + s2.length) s3) (upd (upd (upd (α 20) 0 (nI (0 + s1.length))) 1 (nI (0 + s1.length + s2.length))) 2 (nI (0 + s1.length + s2.length + s3.length))) (0 + s1.length + s2.length + s3.length)).1, .inl (tK (putL (putL (putL (α 19) 0 s1) (0 + s1.length) s2) (0 + s1.length + s2.length) s3) (upd (upd (upd (α 20) 0 (nI (0 + s1.length))) 1 (nI (0 + s1.length + s2.length))) 2 (nI (0 + s1.length + s2.length + s3.length))) (0 + s1.length + s2.length + s3.length)).2.1)]) ∧ dOk s1 0 1 ∧ dOk s2 0 1 ∧ dOk s3 0 1 ∧ s1.length + s2.length + s3.length ≤ 160) := by
  refine aw_ev (cd := cd_Dried_learn) rfl rfl rfl ?_
  show aw_W _ _ _ _ (0, [some (.ref 0), none], []) (ae_rd σ α (ae_tx 2) (ae_tlL σ α z t0 [t1, t2]))
  refine aw_go 2 rfl ⟨trivial, trivial, trivial⟩ ?_
  show aw_W _ _ _ _ (2, [some (.ref 0), none], [.ref 19]) (ae_rd σ α (ae_tx 2) (ae_tlL σ α z t0 [t1, t2]))
  refine aw_call rfl rfl (ev_read_yes  hL hz hs hs160 hpp) ?_
  rintro _ _ ⟨ct_2, av_2, rt_2, rp_2, rfl, rfl, d1_2, d2_2, d3_2, dl_2⟩
  show aw_W _ _ _ _ (3, [some (.ref 0), none], [.int (-1)]) (ae_rd (au σ [(12, ct_2), (13, av_2), (14, nI (0 + s1.length + s2.length + s3.length))]) (au α [(17, rt_2), (18, rp_2), (19, (putL (putL (putL (α 19) 0 s1) (0 + s1.length) s2) (0 + s1.length + s2.length) s3)), (20, (upd (upd (upd (α 20) 0 (nI (0 + s1.length))) 1 (nI (0 + s1.length + s2.length))) 2 (nI (0 + s1.length + s2.length + s3.length))))]) (ae_tx 2) (ae_tlL σ α z t0 [t1, t2]))
  refine aw_go 8 rfl ⟨trivial, trivial, trivial, trivial, trivial, trivial, trivial, trivial, trivial⟩ ?_
  show aw_W _ _ _ _ (if ¬ (-1) = (-1) then 17 else 11, [some (.ref 0), some (.int (-1))], []) (ae_rd (au σ [(11, 0), (12, ct_2), (13, av_2), (14, nI (0 + s1.length + s2.length + s3.length))]) (au α [(17, rt_2), (18, rp_2), (19, (putL (putL (putL (α 19) 0 s1) (0 + s1.length) s2) (0 + s1.length + s2.length) s3)), (20, (upd (upd (upd (α 20) 0 (nI (0 + s1.length))) 1 (nI (0 + s1.length + s2.length))) 2 (nI (0 + s1.length + s2.length + s3.length))))]) (ae_tx 2) (ae_tlL σ α z t0 [t1, t2]))
  refine aw_br (c := ¬ (-1) = (-1)) (fun h10 => ?_) (fun h10 => ?_)
  · skip
    show aw_W _ _ _ _ (17, [some (.ref 0), some (.int (-1))], []) (ae_rd (au σ [(11, 0), (12, ct_2), (13, av_2), (14, nI (0 + s1.length + s2.length + s3.length))]) (au α [(17, rt_2), (18, rp_2), (19, (putL (putL (putL (α 19) 0 s1) (0 + s1.length) s2) (0 + s1.length + s2.length) s3)), (20, (upd (upd (upd (α 20) 0 (nI (0 + s1.length))) 1 (nI (0 + s1.length + s2.length))) 2 (nI (0 + s1.length + s2.length + s3.length))))]) (ae_tx 2) (ae_tlL σ α z t0 [t1, t2]))
    exact absurd rfl h10
  · skip
    have h10 := Classical.not_not.mp h10
    show aw_W _ _ _ _ (11, [some (.ref 0), some (.int (-1))], []) (ae_rd (au σ [(11, 0), (12, ct_2), (13, av_2), (14, nI (0 + s1.length + s2.length + s3.length))]) (au α [(17, rt_2), (18, rp_2), (19, (putL (putL (putL (α 19) 0 s1) (0 + s1.length) s2) (0 + s1.length + s2.length) s3)), (20, (upd (upd (upd (α 20) 0 (nI (0 + s1.length))) 1 (nI (0 + s1.length + s2.length))) 2 (nI (0 + s1.length + s2.length + s3.length))))]) (ae_tx 2) (ae_tlL σ α z t0 [t1, t2]))
    refine aw_go 4 rfl ⟨trivial, trivial, trivial, trivial, trivial⟩ ?_
    show aw_W _ _ _ _ (15, [some (.ref 0), some (.int (-1))], [.ref 19, .ref 25]) (ae_rd (au σ [(11, 0), (12, ct_2), (13, av_2), (14, nI (0 + s1.length + s2.length + s3.length))]) (au α [(17, rt_2), (18, rp_2), (19, (putL (putL (putL (α 19) 0 s1) (0 + s1.length) s2) (0 + s1.length + s2.length) s3)), (20, (upd (upd (upd (α 20) 0 (nI (0 + s1.length))) 1 (nI (0 + s1.length + s2.length))) 2 (nI (0 + s1.length + s2.length + s3.length))))]) (ae_tx 2) (ae_tlL σ α z t0 [t1, t2]))
    refine aw_call rfl rfl (ev_keep_2 (σ := au σ [(11, 0), (12, ct_2), (13, av_2), (14, nI (0 + s1.length + s2.length + s3.length))]) (α := au α [(17, rt_2), (18, rp_2), (19, (putL (putL (putL (α 19) 0 s1) (0 + s1.length) s2) (0 + s1.length + s2.length) s3)), (20, (upd (upd (upd (α 20) 0 (nI (0 + s1.length))) 1 (nI (0 + s1.length + s2.length))) 2 (nI (0 + s1.length + s2.length + s3.length))))]) (z := z) (t0 := t0) (t1 := t1) (t2 := t2)  hu rfl (by omega)) ?_
    rintro _ _ ⟨rfl, rfl⟩
    show aw_W _ _ _ _ (16, [some (.ref 0), some (.int (-1))], [.int (nI 3)]) (ae_rd (au σ [(11, 0), (12, ct_2), (13, av_2), (14, nI (0 + s1.length + s2.length + s3.length)), (15, nI 4)]) (au α [(17, rt_2), (18, rp_2), (19, (putL (putL (putL (α 19) 0 s1) (0 + s1.length) s2) (0 + s1.length + s2.length) s3)), (20, (upd (upd (upd (α 20) 0 (nI (0 + s1.length))) 1 (nI (0 + s1.length + s2.length))) 2 (nI (0 + s1.length + s2.length + s3.length))))]) (ae_tx 3) (ae_tlL σ α z t0 [t1, t2] ++ [.inr (5, [.ref 84, .ref 83]), .inl (0, 3, .inl (tK (putL (putL (putL (α 19) 0 s1) (0 + s1.length) s2) (0 + s1.length + s2.length) s3) (upd (upd (upd (α 20) 0 (nI (0 + s1.length))) 1 (nI (0 + s1.length + s2.length))) 2 (nI (0 + s1.length + s2.length + s3.length))) (0 + s1.length + s2.length + s3.length)).2.2), .inl (0, (tK (putL (putL (putL (α 19) 0 s1) (0 + s1.length) s2) (0 + s1.length + s2.length) s3) (upd (upd (upd (α 20) 0 (nI (0 + s1.length))) 1 (nI (0 + s1.length + s2.length))) 2 (nI (0 + s1.length + s2.length + s3.length))) (0 + s1.length + s2.length + s3.length)).1, .inl (tK (putL (putL (putL (α 19) 0 s1) (0 + s1.length) s2) (0 + s1.length + s2.length) s3) (upd (upd (upd (α 20) 0 (nI (0 + s1.length))) 1 (nI (0 + s1.length + s2.length))) 2 (nI (0 + s1.length + s2.length + s3.length))) (0 + s1.length + s2.length + s3.length)).2.1)]))
    refine aw_go 1 rfl ⟨trivial, trivial⟩ ?_
    refine aw_ret rfl rfl trivial ?_
    exact ⟨_, _, _, _, rfl, rfl, d1_2, d2_2, d3_2, dl_2⟩
end L402
section L403
variable {P : ae_P} {σ : Nat → Int32} {α : Nat → Nat → Int32} {z : Int64} {t0 : ae_T}
theorem ev_learn_3 {t1 t2 t3 : ae_T} {s M : Nat} {zd : Nat} {L0 : ae_TL} (hL : lx (α 16) s 160 0 = L0) (hz : P.2.2 = .null ∨ P.2.2 = .retAddr 700) (hs : (σ 11) = nI s) (hs160 : s ≤ 160) (hu : (σ 15) = nI 4) {r0 : ae_TL} {s1 s2 s3 : List Int32} (hpp : pTx M L0 = some (true, r0, s1, s2, s3)) : aw_X P (zd + 63) 10 [.ref 0] (ae_rd σ α (ae_tx 3) (ae_tlL σ α z t0 [t1, t2, t3])) (fun r H => ∃ (ct av : Int32) (rt rp : Nat → Int32), r = some (.int (nI 4)) ∧ H = ae_rd (au σ [(11, 0), (12, ct), (13, av), (14, nI (0 + s1.length + s2.length + s3.length)), (15, nI 5)]) (au α [(17, rt), (18, rp), (19, (putL (putL (putL (α 19) 0 s1) (0 + s1.length) s2) (0 + s1.length + s2.length) s3)), (20, (upd (upd (upd (α 20) 0 (nI (0 + s1.length))) 1 (nI (0 + s1.length + s2.length))) 2 (nI (0 + s1.length + s2.length + s3.length))))]) (ae_tx 4) (ae_tlL σ α z t0 [t1, t2, t3] ++ [.inr (5, [.ref 87, .ref 86]), .inl (0, 3, .inl (tK (putL (putL (putL (α 19) 0 s1) (0 + s1.length) s2) (0 + s1.length + s2.length) s3) (upd (upd (upd (α 20) 0 (nI (0 + s1.length))) 1 (nI (0 + s1.length + s2.length))) 2 (nI (0 + s1.length + s2.length + s3.length))) (0 + s1.length + s2.length + s3.length)).2.2), .inl (0, (tK (putL (putL (putL (α 19) 0 s1) (0 + s1.length) s2) (0 + s1.length + s2.length) s3) (upd (upd (upd (α 20) 0 (nI (0 + s1.length))) 1 (nI (0 + s1.length + s2.length))) 2 (nI (0 + s1.length + s2.length + s3.length))) (0 + s1.length + s2.length + s3.length)).1, .inl (tK (putL (putL (putL (α 19) 0 s1) (0 + s1.length) s2) (0 + s1.length + s2.length) s3) (upd (upd (upd (α 20) 0 (nI (0 + s1.length))) 1 (nI (0 + s1.length + s2.length))) 2 (nI (0 + s1.length + s2.length + s3.length))) (0 + s1.length + s2.length + s3.length)).2.1)]) ∧ dOk s1 0 1 ∧ dOk s2 0 1 ∧ dOk s3 0 1 ∧ s1.length + s2.length + s3.length ≤ 160) := by
  refine aw_ev (cd := cd_Dried_learn) rfl rfl rfl ?_
  show aw_W _ _ _ _ (0, [some (.ref 0), none], []) (ae_rd σ α (ae_tx 3) (ae_tlL σ α z t0 [t1, t2, t3]))
  refine aw_go 2 rfl ⟨trivial, trivial, trivial⟩ ?_
  show aw_W _ _ _ _ (2, [some (.ref 0), none], [.ref 19]) (ae_rd σ α (ae_tx 3) (ae_tlL σ α z t0 [t1, t2, t3]))
  refine aw_call rfl rfl (ev_read_yes  hL hz hs hs160 hpp) ?_
  rintro _ _ ⟨ct_2, av_2, rt_2, rp_2, rfl, rfl, d1_2, d2_2, d3_2, dl_2⟩
  show aw_W _ _ _ _ (3, [some (.ref 0), none], [.int (-1)]) (ae_rd (au σ [(12, ct_2), (13, av_2), (14, nI (0 + s1.length + s2.length + s3.length))]) (au α [(17, rt_2), (18, rp_2), (19, (putL (putL (putL (α 19) 0 s1) (0 + s1.length) s2) (0 + s1.length + s2.length) s3)), (20, (upd (upd (upd (α 20) 0 (nI (0 + s1.length))) 1 (nI (0 + s1.length + s2.length))) 2 (nI (0 + s1.length + s2.length + s3.length))))]) (ae_tx 3) (ae_tlL σ α z t0 [t1, t2, t3]))
  refine aw_go 8 rfl ⟨trivial, trivial, trivial, trivial, trivial, trivial, trivial, trivial, trivial⟩ ?_
  show aw_W _ _ _ _ (if ¬ (-1) = (-1) then 17 else 11, [some (.ref 0), some (.int (-1))], []) (ae_rd (au σ [(11, 0), (12, ct_2), (13, av_2), (14, nI (0 + s1.length + s2.length + s3.length))]) (au α [(17, rt_2), (18, rp_2), (19, (putL (putL (putL (α 19) 0 s1) (0 + s1.length) s2) (0 + s1.length + s2.length) s3)), (20, (upd (upd (upd (α 20) 0 (nI (0 + s1.length))) 1 (nI (0 + s1.length + s2.length))) 2 (nI (0 + s1.length + s2.length + s3.length))))]) (ae_tx 3) (ae_tlL σ α z t0 [t1, t2, t3]))
  refine aw_br (c := ¬ (-1) = (-1)) (fun h10 => ?_) (fun h10 => ?_)
  · skip
    show aw_W _ _ _ _ (17, [some (.ref 0), some (.int (-1))], []) (ae_rd (au σ [(11, 0), (12, ct_2), (13, av_2), (14, nI (0 + s1.length + s2.length + s3.length))]) (au α [(17, rt_2), (18, rp_2), (19, (putL (putL (putL (α 19) 0 s1) (0 + s1.length) s2) (0 + s1.length + s2.length) s3)), (20, (upd (upd (upd (α 20) 0 (nI (0 + s1.length))) 1 (nI (0 + s1.length + s2.length))) 2 (nI (0 + s1.length + s2.length + s3.length))))]) (ae_tx 3) (ae_tlL σ α z t0 [t1, t2, t3]))
    exact absurd rfl h10
  · skip
    have h10 := Classical.not_not.mp h10
    show aw_W _ _ _ _ (11, [some (.ref 0), some (.int (-1))], []) (ae_rd (au σ [(11, 0), (12, ct_2), (13, av_2), (14, nI (0 + s1.length + s2.length + s3.length))]) (au α [(17, rt_2), (18, rp_2), (19, (putL (putL (putL (α 19) 0 s1) (0 + s1.length) s2) (0 + s1.length + s2.length) s3)), (20, (upd (upd (upd (α 20) 0 (nI (0 + s1.length))) 1 (nI (0 + s1.length + s2.length))) 2 (nI (0 + s1.length + s2.length + s3.length))))]) (ae_tx 3) (ae_tlL σ α z t0 [t1, t2, t3]))
    refine aw_go 4 rfl ⟨trivial, trivial, trivial, trivial, trivial⟩ ?_
    show aw_W _ _ _ _ (15, [some (.ref 0), some (.int (-1))], [.ref 19, .ref 25]) (ae_rd (au σ [(11, 0), (12, ct_2), (13, av_2), (14, nI (0 + s1.length + s2.length + s3.length))]) (au α [(17, rt_2), (18, rp_2), (19, (putL (putL (putL (α 19) 0 s1) (0 + s1.length) s2) (0 + s1.length + s2.length) s3)), (20, (upd (upd (upd (α 20) 0 (nI (0 + s1.length))) 1 (nI (0 + s1.length + s2.length))) 2 (nI (0 + s1.length + s2.length + s3.length))))]) (ae_tx 3) (ae_tlL σ α z t0 [t1, t2, t3]))
    refine aw_call rfl rfl (ev_keep_3 (σ := au σ [(11, 0), (12, ct_2), (13, av_2), (14, nI (0 + s1.length + s2.length + s3.length))]) (α := au α [(17, rt_2), (18, rp_2), (19, (putL (putL (putL (α 19) 0 s1) (0 + s1.length) s2) (0 + s1.length + s2.length) s3)), (20, (upd (upd (upd (α 20) 0 (nI (0 + s1.length))) 1 (nI (0 + s1.length + s2.length))) 2 (nI (0 + s1.length + s2.length + s3.length))))]) (z := z) (t0 := t0) (t1 := t1) (t2 := t2) (t3 := t3)  hu rfl (by omega)) ?_
    rintro _ _ ⟨rfl, rfl⟩
    show aw_W _ _ _ _ (16, [some (.ref 0), some (.int (-1))], [.int (nI 4)]) (ae_rd (au σ [(11, 0), (12, ct_2), (13, av_2), (14, nI (0 + s1.length + s2.length + s3.length)), (15, nI 5)]) (au α [(17, rt_2), (18, rp_2), (19, (putL (putL (putL (α 19) 0 s1) (0 + s1.length) s2) (0 + s1.length + s2.length) s3)), (20, (upd (upd (upd (α 20) 0 (nI (0 + s1.length))) 1 (nI (0 + s1.length + s2.length))) 2 (nI (0 + s1.length + s2.length + s3.length))))]) (ae_tx 4) (ae_tlL σ α z t0 [t1, t2, t3] ++ [.inr (5, [.ref 87, .ref 86]), .inl (0, 3, .inl (tK (putL (putL (putL (α 19) 0 s1) (0 + s1.length) s2) (0 + s1.length + s2.length) s3) (upd (upd (upd (α 20) 0 (nI (0 + s1.length))) 1 (nI (0 + s1.length + s2.length))) 2 (nI (0 + s1.length + s2.length + s3.length))) (0 + s1.length + s2.length + s3.length)).2.2), .inl (0, (tK (putL (putL (putL (α 19) 0 s1) (0 + s1.length) s2) (0 + s1.length + s2.length) s3) (upd (upd (upd (α 20) 0 (nI (0 + s1.length))) 1 (nI (0 + s1.length + s2.length))) 2 (nI (0 + s1.length + s2.length + s3.length))) (0 + s1.length + s2.length + s3.length)).1, .inl (tK (putL (putL (putL (α 19) 0 s1) (0 + s1.length) s2) (0 + s1.length + s2.length) s3) (upd (upd (upd (α 20) 0 (nI (0 + s1.length))) 1 (nI (0 + s1.length + s2.length))) 2 (nI (0 + s1.length + s2.length + s3.length))) (0 + s1.length + s2.length + s3.length)).2.1)]))
    refine aw_go 1 rfl ⟨trivial, trivial⟩ ?_
    refine aw_ret rfl rfl trivial ?_
    exact ⟨_, _, _, _, rfl, rfl, d1_2, d2_2, d3_2, dl_2⟩
end L403
section L404
variable {P : ae_P} {σ : Nat → Int32} {α : Nat → Nat → Int32} {z : Int64} {t0 : ae_T}
theorem ev_learn_4 {t1 t2 t3 t4 : ae_T} {s M : Nat} {zd : Nat} {L0 : ae_TL} (hL : lx (α 16) s 160 0 = L0) (hz : P.2.2 = .null ∨ P.2.2 = .retAddr 700) (hs : (σ 11) = nI s) (hs160 : s ≤ 160) (hu : (σ 15) = nI 5) {r0 : ae_TL} {s1 s2 s3 : List Int32} (hpp : pTx M L0 = some (true, r0, s1, s2, s3)) : aw_X P (zd + 63) 10 [.ref 0] (ae_rd σ α (ae_tx 4) (ae_tlL σ α z t0 [t1, t2, t3, t4])) (fun r H => ∃ (ct av : Int32) (rt rp : Nat → Int32), r = some (.int (nI 5)) ∧ H = ae_rd (au σ [(11, 0), (12, ct), (13, av), (14, nI (0 + s1.length + s2.length + s3.length)), (15, nI 6)]) (au α [(17, rt), (18, rp), (19, (putL (putL (putL (α 19) 0 s1) (0 + s1.length) s2) (0 + s1.length + s2.length) s3)), (20, (upd (upd (upd (α 20) 0 (nI (0 + s1.length))) 1 (nI (0 + s1.length + s2.length))) 2 (nI (0 + s1.length + s2.length + s3.length))))]) (ae_tx 5) (ae_tlL σ α z t0 [t1, t2, t3, t4] ++ [.inr (5, [.ref 90, .ref 89]), .inl (0, 3, .inl (tK (putL (putL (putL (α 19) 0 s1) (0 + s1.length) s2) (0 + s1.length + s2.length) s3) (upd (upd (upd (α 20) 0 (nI (0 + s1.length))) 1 (nI (0 + s1.length + s2.length))) 2 (nI (0 + s1.length + s2.length + s3.length))) (0 + s1.length + s2.length + s3.length)).2.2), .inl (0, (tK (putL (putL (putL (α 19) 0 s1) (0 + s1.length) s2) (0 + s1.length + s2.length) s3) (upd (upd (upd (α 20) 0 (nI (0 + s1.length))) 1 (nI (0 + s1.length + s2.length))) 2 (nI (0 + s1.length + s2.length + s3.length))) (0 + s1.length + s2.length + s3.length)).1, .inl (tK (putL (putL (putL (α 19) 0 s1) (0 + s1.length) s2) (0 + s1.length + s2.length) s3) (upd (upd (upd (α 20) 0 (nI (0 + s1.length))) 1 (nI (0 + s1.length + s2.length))) 2 (nI (0 + s1.length + s2.length + s3.length))) (0 + s1.length + s2.length + s3.length)).2.1)]) ∧ dOk s1 0 1 ∧ dOk s2 0 1 ∧ dOk s3 0 1 ∧ s1.length + s2.length + s3.length ≤ 160) := by
  refine aw_ev (cd := cd_Dried_learn) rfl rfl rfl ?_
  show aw_W _ _ _ _ (0, [some (.ref 0), none], []) (ae_rd σ α (ae_tx 4) (ae_tlL σ α z t0 [t1, t2, t3, t4]))
  refine aw_go 2 rfl ⟨trivial, trivial, trivial⟩ ?_
  show aw_W _ _ _ _ (2, [some (.ref 0), none], [.ref 19]) (ae_rd σ α (ae_tx 4) (ae_tlL σ α z t0 [t1, t2, t3, t4]))
  refine aw_call rfl rfl (ev_read_yes  hL hz hs hs160 hpp) ?_
  rintro _ _ ⟨ct_2, av_2, rt_2, rp_2, rfl, rfl, d1_2, d2_2, d3_2, dl_2⟩
  show aw_W _ _ _ _ (3, [some (.ref 0), none], [.int (-1)]) (ae_rd (au σ [(12, ct_2), (13, av_2), (14, nI (0 + s1.length + s2.length + s3.length))]) (au α [(17, rt_2), (18, rp_2), (19, (putL (putL (putL (α 19) 0 s1) (0 + s1.length) s2) (0 + s1.length + s2.length) s3)), (20, (upd (upd (upd (α 20) 0 (nI (0 + s1.length))) 1 (nI (0 + s1.length + s2.length))) 2 (nI (0 + s1.length + s2.length + s3.length))))]) (ae_tx 4) (ae_tlL σ α z t0 [t1, t2, t3, t4]))
  refine aw_go 8 rfl ⟨trivial, trivial, trivial, trivial, trivial, trivial, trivial, trivial, trivial⟩ ?_
  show aw_W _ _ _ _ (if ¬ (-1) = (-1) then 17 else 11, [some (.ref 0), some (.int (-1))], []) (ae_rd (au σ [(11, 0), (12, ct_2), (13, av_2), (14, nI (0 + s1.length + s2.length + s3.length))]) (au α [(17, rt_2), (18, rp_2), (19, (putL (putL (putL (α 19) 0 s1) (0 + s1.length) s2) (0 + s1.length + s2.length) s3)), (20, (upd (upd (upd (α 20) 0 (nI (0 + s1.length))) 1 (nI (0 + s1.length + s2.length))) 2 (nI (0 + s1.length + s2.length + s3.length))))]) (ae_tx 4) (ae_tlL σ α z t0 [t1, t2, t3, t4]))
  refine aw_br (c := ¬ (-1) = (-1)) (fun h10 => ?_) (fun h10 => ?_)
  · skip
    show aw_W _ _ _ _ (17, [some (.ref 0), some (.int (-1))], []) (ae_rd (au σ [(11, 0), (12, ct_2), (13, av_2), (14, nI (0 + s1.length + s2.length + s3.length))]) (au α [(17, rt_2), (18, rp_2), (19, (putL (putL (putL (α 19) 0 s1) (0 + s1.length) s2) (0 + s1.length + s2.length) s3)), (20, (upd (upd (upd (α 20) 0 (nI (0 + s1.length))) 1 (nI (0 + s1.length + s2.length))) 2 (nI (0 + s1.length + s2.length + s3.length))))]) (ae_tx 4) (ae_tlL σ α z t0 [t1, t2, t3, t4]))
    exact absurd rfl h10
  · skip
    have h10 := Classical.not_not.mp h10
    show aw_W _ _ _ _ (11, [some (.ref 0), some (.int (-1))], []) (ae_rd (au σ [(11, 0), (12, ct_2), (13, av_2), (14, nI (0 + s1.length + s2.length + s3.length))]) (au α [(17, rt_2), (18, rp_2), (19, (putL (putL (putL (α 19) 0 s1) (0 + s1.length) s2) (0 + s1.length + s2.length) s3)), (20, (upd (upd (upd (α 20) 0 (nI (0 + s1.length))) 1 (nI (0 + s1.length + s2.length))) 2 (nI (0 + s1.length + s2.length + s3.length))))]) (ae_tx 4) (ae_tlL σ α z t0 [t1, t2, t3, t4]))
    refine aw_go 4 rfl ⟨trivial, trivial, trivial, trivial, trivial⟩ ?_
    show aw_W _ _ _ _ (15, [some (.ref 0), some (.int (-1))], [.ref 19, .ref 25]) (ae_rd (au σ [(11, 0), (12, ct_2), (13, av_2), (14, nI (0 + s1.length + s2.length + s3.length))]) (au α [(17, rt_2), (18, rp_2), (19, (putL (putL (putL (α 19) 0 s1) (0 + s1.length) s2) (0 + s1.length + s2.length) s3)), (20, (upd (upd (upd (α 20) 0 (nI (0 + s1.length))) 1 (nI (0 + s1.length + s2.length))) 2 (nI (0 + s1.length + s2.length + s3.length))))]) (ae_tx 4) (ae_tlL σ α z t0 [t1, t2, t3, t4]))
    refine aw_call rfl rfl (ev_keep_4 (σ := au σ [(11, 0), (12, ct_2), (13, av_2), (14, nI (0 + s1.length + s2.length + s3.length))]) (α := au α [(17, rt_2), (18, rp_2), (19, (putL (putL (putL (α 19) 0 s1) (0 + s1.length) s2) (0 + s1.length + s2.length) s3)), (20, (upd (upd (upd (α 20) 0 (nI (0 + s1.length))) 1 (nI (0 + s1.length + s2.length))) 2 (nI (0 + s1.length + s2.length + s3.length))))]) (z := z) (t0 := t0) (t1 := t1) (t2 := t2) (t3 := t3) (t4 := t4)  hu rfl (by omega)) ?_
    rintro _ _ ⟨rfl, rfl⟩
    show aw_W _ _ _ _ (16, [some (.ref 0), some (.int (-1))], [.int (nI 5)]) (ae_rd (au σ [(11, 0), (12, ct_2), (13, av_2), (14, nI (0 + s1.length + s2.length + s3.length)), (15, nI 6)]) (au α [(17, rt_2), (18, rp_2), (19, (putL (putL (putL (α 19) 0 s1) (0 + s1.length) s2) (0 + s1.length + s2.length) s3)), (20, (upd (upd (upd (α 20) 0 (nI (0 + s1.length))) 1 (nI (0 + s1.length + s2.length))) 2 (nI (0 + s1.length + s2.length + s3.length))))]) (ae_tx 5) (ae_tlL σ α z t0 [t1, t2, t3, t4] ++ [.inr (5, [.ref 90, .ref 89]), .inl (0, 3, .inl (tK (putL (putL (putL (α 19) 0 s1) (0 + s1.length) s2) (0 + s1.length + s2.length) s3) (upd (upd (upd (α 20) 0 (nI (0 + s1.length))) 1 (nI (0 + s1.length + s2.length))) 2 (nI (0 + s1.length + s2.length + s3.length))) (0 + s1.length + s2.length + s3.length)).2.2), .inl (0, (tK (putL (putL (putL (α 19) 0 s1) (0 + s1.length) s2) (0 + s1.length + s2.length) s3) (upd (upd (upd (α 20) 0 (nI (0 + s1.length))) 1 (nI (0 + s1.length + s2.length))) 2 (nI (0 + s1.length + s2.length + s3.length))) (0 + s1.length + s2.length + s3.length)).1, .inl (tK (putL (putL (putL (α 19) 0 s1) (0 + s1.length) s2) (0 + s1.length + s2.length) s3) (upd (upd (upd (α 20) 0 (nI (0 + s1.length))) 1 (nI (0 + s1.length + s2.length))) 2 (nI (0 + s1.length + s2.length + s3.length))) (0 + s1.length + s2.length + s3.length)).2.1)]))
    refine aw_go 1 rfl ⟨trivial, trivial⟩ ?_
    refine aw_ret rfl rfl trivial ?_
    exact ⟨_, _, _, _, rfl, rfl, d1_2, d2_2, d3_2, dl_2⟩
end L404
section L40e
variable {P : ae_P} {σ : Nat → Int32} {α : Nat → Nat → Int32} {z : Int64} {t0 : ae_T} {ts : List ae_T}

theorem ev_text_full  {zd : Nat} (hu : (σ 15) = nI 6) : ae_Ev P (zd + 1) 9 [.ref 0] (ae_en σ α z t0 ts) (some (.int (-4))) (ae_en σ α z t0 ts) := by
  refine aw_evE (cd := cd_Dried_text) rfl rfl rfl ?_
  show aw_W _ _ _ _ (0, [some (.ref 0)], []) (ae_en σ α z t0 ts)
  refine aw_go 5 rfl ⟨trivial, trivial, trivial, trivial, trivial, trivial⟩ ?_
  show aw_W _ _ _ _ (if (σ 15) < 6 then 7 else 5, [some (.ref 0)], []) (ae_en σ α z t0 ts)
  refine aw_br (c := (σ 15) < 6) (fun h4 => ?_) (fun h4 => ?_)
  · skip
    have h4 := cI_ltT (a := 6) (b := 6) hu rfl (by omega) (by omega) h4
    show aw_W _ _ _ _ (7, [some (.ref 0)], []) (ae_en σ α z t0 ts)
    exact absurd h4 (by omega)
  · skip
    have h4 := cI_ltF (a := 6) (b := 6) hu rfl (by omega) (by omega) h4
    show aw_W _ _ _ _ (5, [some (.ref 0)], []) (ae_en σ α z t0 ts)
    refine aw_go 2 rfl ⟨trivial, trivial, trivial⟩ ?_
    refine aw_ret rfl rfl trivial ?_
    refine ⟨?_, rfl⟩
    rfl
theorem en_learn_no {s M : Nat} {zd : Nat} {L0 : ae_TL} (hL : lx (α 16) s 160 0 = L0) (hz : P.2.2 = .null ∨ P.2.2 = .retAddr 700) (hs : (σ 11) = nI s) (hs160 : s ≤ 160) {r0 : ae_TL} {x y z2 : List Int32} (hpp : pTx M L0 = some (false, r0, x, y, z2)) : aw_X P (zd + 63) 10 [.ref 0] (ae_en σ α z t0 ts) (fun r H => ∃ (ct av cv : Int32) (rt rp S2 E2 : Nat → Int32), r = some (.int ((-100) - nI (hdP r0))) ∧ H = ae_en (au σ [(11, 0), (12, ct), (13, av), (14, cv)]) (au α [(17, rt), (18, rp), (19, S2), (20, E2)]) z t0 ts) := by
  refine ax_mono (ev_learn_no (tx := ae_tx ts.length) (tl := ae_tlL σ α z t0 ts) hL hz hs hs160 hpp) ?_
  rintro r H ⟨ct, av, cv, rt, rp, S2, E2, rfl, rfl⟩
  exact ⟨ct, av, cv, rt, rp, S2, E2, rfl, rfl⟩
theorem en_learn_yes {s M : Nat} {zd : Nat} {L0 : ae_TL} (hL : lx (α 16) s 160 0 = L0) (hz : P.2.2 = .null ∨ P.2.2 = .retAddr 700) (hs : (σ 11) = nI s) (hs160 : s ≤ 160) (hu : (σ 15) = nI (ts.length + 1)) (hu5 : ts.length < 5) {r0 : ae_TL} {s1 s2 s3 : List Int32} (hpp : pTx M L0 = some (true, r0, s1, s2, s3)) : aw_X P (zd + 63) 10 [.ref 0] (ae_en σ α z t0 ts) (fun r H => ∃ (ct av cv : Int32) (rt rp S2 E2 : Nat → Int32) (t : ae_T), r = some (.int (nI (ts.length + 1))) ∧ H = ae_en (au σ [(11, 0), (12, ct), (13, av), (14, cv), (15, nI (ts.length + 2))]) (au α [(17, rt), (18, rp), (19, S2), (20, E2)]) z t0 (ts ++ [t]) ∧ tOk t (e3 s1 s2 s3)) := by
  obtain _ | ⟨t1, ts⟩ := ts
  · refine ax_mono (ev_learn_0 (z := z) (t0 := t0) hL hz hs hs160 hu hpp) ?_
    rintro r H ⟨ct, av, rt, rp, rfl, rfl, d1, d2, d3, dl⟩
    exact ⟨ct, av, _, rt, rp, _, _, (tK (putL (putL (putL (α 19) 0 s1) (0 + s1.length) s2) (0 + s1.length + s2.length) s3) (upd (upd (upd (α 20) 0 (nI (0 + s1.length))) 1 (nI (0 + s1.length + s2.length))) 2 (nI (0 + s1.length + s2.length + s3.length))) (0 + s1.length + s2.length + s3.length)), rfl, rfl, tK_ok d1 d2 d3 dl⟩
  obtain _ | ⟨t2, ts⟩ := ts
  · refine ax_mono (ev_learn_1 (z := z) (t0 := t0) (t1 := t1) hL hz hs hs160 hu hpp) ?_
    rintro r H ⟨ct, av, rt, rp, rfl, rfl, d1, d2, d3, dl⟩
    exact ⟨ct, av, _, rt, rp, _, _, (tK (putL (putL (putL (α 19) 0 s1) (0 + s1.length) s2) (0 + s1.length + s2.length) s3) (upd (upd (upd (α 20) 0 (nI (0 + s1.length))) 1 (nI (0 + s1.length + s2.length))) 2 (nI (0 + s1.length + s2.length + s3.length))) (0 + s1.length + s2.length + s3.length)), rfl, rfl, tK_ok d1 d2 d3 dl⟩
  obtain _ | ⟨t3, ts⟩ := ts
  · refine ax_mono (ev_learn_2 (z := z) (t0 := t0) (t1 := t1) (t2 := t2) hL hz hs hs160 hu hpp) ?_
    rintro r H ⟨ct, av, rt, rp, rfl, rfl, d1, d2, d3, dl⟩
    exact ⟨ct, av, _, rt, rp, _, _, (tK (putL (putL (putL (α 19) 0 s1) (0 + s1.length) s2) (0 + s1.length + s2.length) s3) (upd (upd (upd (α 20) 0 (nI (0 + s1.length))) 1 (nI (0 + s1.length + s2.length))) 2 (nI (0 + s1.length + s2.length + s3.length))) (0 + s1.length + s2.length + s3.length)), rfl, rfl, tK_ok d1 d2 d3 dl⟩
  obtain _ | ⟨t4, ts⟩ := ts
  · refine ax_mono (ev_learn_3 (z := z) (t0 := t0) (t1 := t1) (t2 := t2) (t3 := t3) hL hz hs hs160 hu hpp) ?_
    rintro r H ⟨ct, av, rt, rp, rfl, rfl, d1, d2, d3, dl⟩
    exact ⟨ct, av, _, rt, rp, _, _, (tK (putL (putL (putL (α 19) 0 s1) (0 + s1.length) s2) (0 + s1.length + s2.length) s3) (upd (upd (upd (α 20) 0 (nI (0 + s1.length))) 1 (nI (0 + s1.length + s2.length))) 2 (nI (0 + s1.length + s2.length + s3.length))) (0 + s1.length + s2.length + s3.length)), rfl, rfl, tK_ok d1 d2 d3 dl⟩
  obtain _ | ⟨t5, ts⟩ := ts
  · refine ax_mono (ev_learn_4 (z := z) (t0 := t0) (t1 := t1) (t2 := t2) (t3 := t3) (t4 := t4) hL hz hs hs160 hu hpp) ?_
    rintro r H ⟨ct, av, rt, rp, rfl, rfl, d1, d2, d3, dl⟩
    exact ⟨ct, av, _, rt, rp, _, _, (tK (putL (putL (putL (α 19) 0 s1) (0 + s1.length) s2) (0 + s1.length + s2.length) s3) (upd (upd (upd (α 20) 0 (nI (0 + s1.length))) 1 (nI (0 + s1.length + s2.length))) 2 (nI (0 + s1.length + s2.length + s3.length))) (0 + s1.length + s2.length + s3.length)), rfl, rfl, tK_ok d1 d2 d3 dl⟩
  simp only [List.length_cons] at hu5
  omega
theorem ev_text_no {s M : Nat} {zd : Nat} {L0 : ae_TL} (hL : lx (α 16) s 160 0 = L0) (hz : P.2.2 = .null ∨ P.2.2 = .retAddr 700) (hs : (σ 11) = nI s) (hs160 : s ≤ 160) (hu : (σ 15) = nI (ts.length + 1)) (hu5 : ts.length < 5) {r0 : ae_TL} {x y z2 : List Int32} (hpp : pTx M L0 = some (false, r0, x, y, z2)) : aw_X P (zd + 64) 9 [.ref 0] (ae_en σ α z t0 ts) (fun r H => ∃ (ct av cv : Int32) (rt rp S2 E2 : Nat → Int32), r = some (.int ((-100) - nI (hdP r0))) ∧ H = ae_en (au σ [(11, 0), (12, ct), (13, av), (14, cv)]) (au α [(17, rt), (18, rp), (19, S2), (20, E2)]) z t0 ts) := by
  refine aw_ev (cd := cd_Dried_text) rfl rfl rfl ?_
  show aw_W _ _ _ _ (0, [some (.ref 0)], []) (ae_en σ α z t0 ts)
  refine aw_go 5 rfl ⟨trivial, trivial, trivial, trivial, trivial, trivial⟩ ?_
  refine aw_br (c := σ 15 < 6) (fun h => ?_) (fun h => ?_)
  · refine aw_go 1 rfl ⟨trivial, trivial⟩ ?_
    refine aw_call rfl rfl (en_learn_no hL hz hs hs160 hpp) ?_
    intro r1 H1 h1
    obtain ⟨ct, av, cv, rt, rp, S2, E2, rfl, rfl⟩ := h1
    exact aw_ret rfl rfl trivial ⟨ct, av, cv, rt, rp, S2, E2, rfl, rfl⟩
  · exact absurd (by rw [hu]; exact nI_lt (b := 6) (by omega) (by decide)) h
theorem ev_text_yes {s M : Nat} {zd : Nat} {L0 : ae_TL} (hL : lx (α 16) s 160 0 = L0) (hz : P.2.2 = .null ∨ P.2.2 = .retAddr 700) (hs : (σ 11) = nI s) (hs160 : s ≤ 160) (hu : (σ 15) = nI (ts.length + 1)) (hu5 : ts.length < 5) {r0 : ae_TL} {s1 s2 s3 : List Int32} (hpp : pTx M L0 = some (true, r0, s1, s2, s3)) : aw_X P (zd + 64) 9 [.ref 0] (ae_en σ α z t0 ts) (fun r H => ∃ (ct av cv : Int32) (rt rp S2 E2 : Nat → Int32) (t : ae_T), r = some (.int (nI (ts.length + 1))) ∧ H = ae_en (au σ [(11, 0), (12, ct), (13, av), (14, cv), (15, nI (ts.length + 2))]) (au α [(17, rt), (18, rp), (19, S2), (20, E2)]) z t0 (ts ++ [t]) ∧ tOk t (e3 s1 s2 s3)) := by
  refine aw_ev (cd := cd_Dried_text) rfl rfl rfl ?_
  show aw_W _ _ _ _ (0, [some (.ref 0)], []) (ae_en σ α z t0 ts)
  refine aw_go 5 rfl ⟨trivial, trivial, trivial, trivial, trivial, trivial⟩ ?_
  refine aw_br (c := σ 15 < 6) (fun h => ?_) (fun h => ?_)
  · refine aw_go 1 rfl ⟨trivial, trivial⟩ ?_
    refine aw_call rfl rfl (en_learn_yes hL hz hs hs160 hu hu5 hpp) ?_
    intro r1 H1 h1
    obtain ⟨ct, av, cv, rt, rp, S2, E2, t, rfl, rfl, h2⟩ := h1
    exact aw_ret rfl rfl trivial ⟨ct, av, cv, rt, rp, S2, E2, t, rfl, rfl, h2⟩
  · exact absurd (by rw [hu]; exact nI_lt (b := 6) (by omega) (by decide)) h
end L40e
