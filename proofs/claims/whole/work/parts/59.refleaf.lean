/-! the reference's grammar: leaves -/
section L59
variable {P : ae_P} {σ : Nat → Int32} {α : Nat → Nat → Int32} {z : Int64} {t0 : ae_T} {ts : List ae_T}

theorem ev_faulty_1  {zd : Nat} (hf : (σ 35) = -1) : aw_X P (zd + 1) 121 [.ref 46] (ae_en σ α z t0 ts) (fun r H => r = none ∧ H = (ae_en (au σ [(35, (σ 37))]) α z t0 ts)) := by
  refine aw_ev (cd := cd_Model_faulty) rfl rfl rfl ?_
  show aw_W _ _ _ _ (0, [some (.ref 46)], []) (ae_en σ α z t0 ts)
  refine aw_go 3 rfl ⟨trivial, trivial, trivial, trivial⟩ ?_
  show aw_W _ _ _ _ (if (0 : Int32) ≤ (σ 35) then 7 else 3, [some (.ref 46)], []) (ae_en σ α z t0 ts)
  refine aw_br (c := (0 : Int32) ≤ (σ 35)) (fun h2 => ?_) (fun h2 => ?_)
  · skip
    show aw_W _ _ _ _ (7, [some (.ref 46)], []) (ae_en σ α z t0 ts)
    exact absurd (hf ▸ h2) (by decide)
  · skip
    show aw_W _ _ _ _ (3, [some (.ref 46)], []) (ae_en σ α z t0 ts)
    refine aw_go 4 rfl ⟨trivial, trivial, trivial, trivial, trivial⟩ ?_
    show aw_W _ _ _ _ (7, [some (.ref 46)], []) (ae_en (au σ [(35, σ 37)]) α z t0 ts)
    refine aw_ret rfl rfl trivial ?_
    exact ⟨rfl, rfl⟩
theorem ev_faulty_0  {zd : Nat} (hf : 0 ≤ (σ 35)) : ae_Ev P (zd + 1) 121 [.ref 46] (ae_en σ α z t0 ts) (none) (ae_en σ α z t0 ts) := by
  refine aw_evE (cd := cd_Model_faulty) rfl rfl rfl ?_
  show aw_W _ _ _ _ (0, [some (.ref 46)], []) (ae_en σ α z t0 ts)
  refine aw_go 3 rfl ⟨trivial, trivial, trivial, trivial⟩ ?_
  show aw_W _ _ _ _ (if (0 : Int32) ≤ (σ 35) then 7 else 3, [some (.ref 46)], []) (ae_en σ α z t0 ts)
  refine aw_br (c := (0 : Int32) ≤ (σ 35)) (fun h2 => ?_) (fun h2 => ?_)
  · skip
    show aw_W _ _ _ _ (7, [some (.ref 46)], []) (ae_en σ α z t0 ts)
    refine aw_ret rfl rfl trivial ?_
    refine ⟨?_, rfl⟩
    rfl
  · skip
    show aw_W _ _ _ _ (3, [some (.ref 46)], []) (ae_en σ α z t0 ts)
    exact absurd hf h2
theorem ev_Model_isSign {b : Int32} {zd : Nat}  : ae_Ev P (zd + 1) 122 [.ref 46, .int b] (ae_en σ α z t0 ts) (some (.int (bI ((σ 35) < 0 ∧ (σ 39) = 3 ∧ (σ 40) = b)))) (ae_en σ α z t0 ts) := by
  refine aw_evE (cd := cd_Model_isSign) rfl rfl rfl ?_
  show aw_W _ _ _ _ (0, [some (.ref 46), some (.int b)], []) (ae_en σ α z t0 ts)
  refine aw_go 3 rfl ⟨trivial, trivial, trivial, trivial⟩ ?_
  show aw_W _ _ _ _ (if (0 : Int32) ≤ (σ 35) then 13 else 3, [some (.ref 46), some (.int b)], []) (ae_en σ α z t0 ts)
  refine aw_br (c := (0 : Int32) ≤ (σ 35)) (fun h2 => ?_) (fun h2 => ?_)
  · skip
    show aw_W _ _ _ _ (13, [some (.ref 46), some (.int b)], []) (ae_en σ α z t0 ts)
    refine aw_go 1 rfl ⟨trivial, trivial⟩ ?_
    refine aw_ret rfl rfl (by first | exact Or.inl rfl | exact Or.inr rfl | exact bI_b _) ?_
    refine ⟨?_, rfl⟩
    exact congrArg (fun x => some (Value.int x)) (bI_0 (fun q => (Int32.not_lt.mpr h2) q.1))
  · skip
    show aw_W _ _ _ _ (3, [some (.ref 46), some (.int b)], []) (ae_en σ α z t0 ts)
    refine aw_go 4 rfl ⟨trivial, trivial, trivial, trivial, trivial⟩ ?_
    show aw_W _ _ _ _ (if ¬ (σ 39) = 3 then 13 else 7, [some (.ref 46), some (.int b)], []) (ae_en σ α z t0 ts)
    refine aw_br (c := ¬ (σ 39) = 3) (fun h6 => ?_) (fun h6 => ?_)
    · skip
      show aw_W _ _ _ _ (13, [some (.ref 46), some (.int b)], []) (ae_en σ α z t0 ts)
      refine aw_go 1 rfl ⟨trivial, trivial⟩ ?_
      refine aw_ret rfl rfl (by first | exact Or.inl rfl | exact Or.inr rfl | exact bI_b _) ?_
      refine ⟨?_, rfl⟩
      exact congrArg (fun x => some (Value.int x)) (bI_0 (fun q => h6 q.2.1))
    · skip
      have h6 := Classical.not_not.mp h6
      show aw_W _ _ _ _ (7, [some (.ref 46), some (.int b)], []) (ae_en σ α z t0 ts)
      refine aw_go 4 rfl ⟨trivial, trivial, trivial, trivial, trivial⟩ ?_
      show aw_W _ _ _ _ (if ¬ (σ 40) = b then 13 else 11, [some (.ref 46), some (.int b)], []) (ae_en σ α z t0 ts)
      refine aw_br (c := ¬ (σ 40) = b) (fun h10 => ?_) (fun h10 => ?_)
      · skip
        show aw_W _ _ _ _ (13, [some (.ref 46), some (.int b)], []) (ae_en σ α z t0 ts)
        refine aw_go 1 rfl ⟨trivial, trivial⟩ ?_
        refine aw_ret rfl rfl (by first | exact Or.inl rfl | exact Or.inr rfl | exact bI_b _) ?_
        refine ⟨?_, rfl⟩
        exact congrArg (fun x => some (Value.int x)) (bI_0 (fun q => h10 q.2.2))
      · skip
        have h10 := Classical.not_not.mp h10
        show aw_W _ _ _ _ (11, [some (.ref 46), some (.int b)], []) (ae_en σ α z t0 ts)
        refine aw_go 2 rfl ⟨trivial, trivial, trivial⟩ ?_
        refine aw_ret rfl rfl (by first | exact Or.inl rfl | exact Or.inr rfl | exact bI_b _) ?_
        refine ⟨?_, rfl⟩
        exact congrArg (fun x => some (Value.int x)) (bI_1 ⟨Int32.not_le.mp h2, h6, h10⟩)
theorem ev_Model_isKey {b : Int32} {zd : Nat}  : ae_Ev P (zd + 1) 123 [.ref 46, .int b] (ae_en σ α z t0 ts) (some (.int (bI ((σ 35) < 0 ∧ (σ 39) = 1 ∧ (σ 40) = b)))) (ae_en σ α z t0 ts) := by
  refine aw_evE (cd := cd_Model_isKey) rfl rfl rfl ?_
  show aw_W _ _ _ _ (0, [some (.ref 46), some (.int b)], []) (ae_en σ α z t0 ts)
  refine aw_go 3 rfl ⟨trivial, trivial, trivial, trivial⟩ ?_
  show aw_W _ _ _ _ (if (0 : Int32) ≤ (σ 35) then 13 else 3, [some (.ref 46), some (.int b)], []) (ae_en σ α z t0 ts)
  refine aw_br (c := (0 : Int32) ≤ (σ 35)) (fun h2 => ?_) (fun h2 => ?_)
  · skip
    show aw_W _ _ _ _ (13, [some (.ref 46), some (.int b)], []) (ae_en σ α z t0 ts)
    refine aw_go 1 rfl ⟨trivial, trivial⟩ ?_
    refine aw_ret rfl rfl (by first | exact Or.inl rfl | exact Or.inr rfl | exact bI_b _) ?_
    refine ⟨?_, rfl⟩
    exact congrArg (fun x => some (Value.int x)) (bI_0 (fun q => (Int32.not_lt.mpr h2) q.1))
  · skip
    show aw_W _ _ _ _ (3, [some (.ref 46), some (.int b)], []) (ae_en σ α z t0 ts)
    refine aw_go 4 rfl ⟨trivial, trivial, trivial, trivial, trivial⟩ ?_
    show aw_W _ _ _ _ (if ¬ (σ 39) = 1 then 13 else 7, [some (.ref 46), some (.int b)], []) (ae_en σ α z t0 ts)
    refine aw_br (c := ¬ (σ 39) = 1) (fun h6 => ?_) (fun h6 => ?_)
    · skip
      show aw_W _ _ _ _ (13, [some (.ref 46), some (.int b)], []) (ae_en σ α z t0 ts)
      refine aw_go 1 rfl ⟨trivial, trivial⟩ ?_
      refine aw_ret rfl rfl (by first | exact Or.inl rfl | exact Or.inr rfl | exact bI_b _) ?_
      refine ⟨?_, rfl⟩
      exact congrArg (fun x => some (Value.int x)) (bI_0 (fun q => h6 q.2.1))
    · skip
      have h6 := Classical.not_not.mp h6
      show aw_W _ _ _ _ (7, [some (.ref 46), some (.int b)], []) (ae_en σ α z t0 ts)
      refine aw_go 4 rfl ⟨trivial, trivial, trivial, trivial, trivial⟩ ?_
      show aw_W _ _ _ _ (if ¬ (σ 40) = b then 13 else 11, [some (.ref 46), some (.int b)], []) (ae_en σ α z t0 ts)
      refine aw_br (c := ¬ (σ 40) = b) (fun h10 => ?_) (fun h10 => ?_)
      · skip
        show aw_W _ _ _ _ (13, [some (.ref 46), some (.int b)], []) (ae_en σ α z t0 ts)
        refine aw_go 1 rfl ⟨trivial, trivial⟩ ?_
        refine aw_ret rfl rfl (by first | exact Or.inl rfl | exact Or.inr rfl | exact bI_b _) ?_
        refine ⟨?_, rfl⟩
        exact congrArg (fun x => some (Value.int x)) (bI_0 (fun q => h10 q.2.2))
      · skip
        have h10 := Classical.not_not.mp h10
        show aw_W _ _ _ _ (11, [some (.ref 46), some (.int b)], []) (ae_en σ α z t0 ts)
        refine aw_go 2 rfl ⟨trivial, trivial, trivial⟩ ?_
        refine aw_ret rfl rfl (by first | exact Or.inl rfl | exact Or.inr rfl | exact bI_b _) ?_
        refine ⟨?_, rfl⟩
        exact congrArg (fun x => some (Value.int x)) (bI_1 ⟨Int32.not_le.mp h2, h6, h10⟩)
theorem ev_Model_addStep {a b : Int32} {c : Nat} {zd : Nat} (hc : (σ 34) = nI c) (hc1 : c < 170) : aw_X P (zd + 1) 124 [.ref 46, .int a, .int b] (ae_en σ α z t0 ts) (fun r H => r = none ∧ H = (ae_en (au σ [(34, nI (c + 1))]) (au α [(40, upd (α 40) (1020 + c) a), (41, upd (α 41) (1020 + c) b)]) z t0 ts)) := by
  refine aw_ev (cd := cd_Model_addStep) rfl rfl rfl ?_
  show aw_W _ _ _ _ (0, [some (.ref 46), some (.int a), some (.int b)], []) (ae_en σ α z t0 ts)
  refine aw_go 22 rfl ⟨trivial, trivial, trivial, trivial, trivial, trivial, trivial, (cI_in (a := 1020 + c) (cI_add (a := 1020) (b := c) rfl hc) (by omega) (by decide)), trivial, trivial, trivial, trivial, trivial, trivial, trivial, (cI_in (a := 1020 + c) (cI_add (a := 1020) (b := c) rfl hc) (by omega) (by decide)), trivial, trivial, trivial, trivial, trivial, trivial, trivial⟩ ?_
  show aw_W _ _ _ _ (22, [some (.ref 46), some (.int a), some (.int b)], []) (ae_en (au σ [(34, (σ 34) + 1)]) (au α [(40, upd (α 40) (1020 + (σ 34)).toNatClampNeg a), (41, upd (α 41) (1020 + (σ 34)).toNatClampNeg b)]) z t0 ts)
  rw [show (1020 + (σ 34)).toNatClampNeg = 1020 + c from cI_cl (a := 1020 + c) (cI_add (a := 1020) (b := c) rfl hc) (by omega)]
  refine aw_ret rfl rfl trivial ?_
  refine ⟨rfl, ?_⟩
  rw [show (σ 34) + 1 = nI (c + 1) from cI_add (a := c) (b := 1) hc rfl]
theorem ev_opens_no  {zd : Nat} (hf : (σ 35) = -1) (ho : (σ 36) = 5) : aw_X P (zd + 2) 125 [.ref 46] (ae_en σ α z t0 ts) (fun r H => r = some (.int 0) ∧ H = (ae_en (au σ [(35, (σ 37))]) α z t0 ts)) := by
  refine aw_ev (cd := cd_Model_opens) rfl rfl rfl ?_
  show aw_W _ _ _ _ (0, [some (.ref 46)], []) (ae_en σ α z t0 ts)
  refine aw_go 4 rfl ⟨trivial, trivial, trivial, trivial, trivial⟩ ?_
  show aw_W _ _ _ _ (if ¬ (σ 36) = 5 then 8 else 4, [some (.ref 46)], []) (ae_en σ α z t0 ts)
  refine aw_br (c := ¬ (σ 36) = 5) (fun h3 => ?_) (fun h3 => ?_)
  · skip
    show aw_W _ _ _ _ (8, [some (.ref 46)], []) (ae_en σ α z t0 ts)
    exact absurd ho h3
  · skip
    have h3 := Classical.not_not.mp h3
    show aw_W _ _ _ _ (4, [some (.ref 46)], []) (ae_en σ α z t0 ts)
    refine aw_go 1 rfl ⟨trivial, trivial⟩ ?_
    refine aw_call rfl rfl (ev_faulty_1  hf) ?_
    rintro _ _ ⟨rfl, rfl⟩
    show aw_W _ _ _ _ (6, [some (.ref 46)], []) (ae_en (au σ [(35, (σ 37))]) α z t0 ts)
    refine aw_go 1 rfl ⟨trivial, trivial⟩ ?_
    refine aw_ret rfl rfl (by first | exact Or.inl rfl | exact Or.inr rfl | exact bI_b _) ?_
    exact ⟨rfl, rfl⟩
theorem ev_opens_yes {s q m o : Nat} {l : ae_TL} {zd : Nat} (hTb : mTb (α 45) (α 46)) (hs : (σ 31) = nI s) (hs160 : s ≤ 160) (hto : (σ 38) = nI q) (hq : q ≤ s) (hm : s - q ≤ m) (hl : lx (α 39) s m q = l) (ho : (σ 36) = nI o) (ho5 : o < 5) : aw_X P (zd + 4) 125 [.ref 46] (ae_en σ α z t0 ts) (fun r H => ∃ (so : Int32) (iz : Int32) (e : Nat), r = some (.int 1) ∧ H = (ae_en (au σ [(36, nI (o + 1)), (37, nI (hdP l)), (38, nI e), (39, so), (40, iz)]) α z t0 ts) ∧ tokR so iz (hdT l) ∧ e ≤ s ∧ (¬ hdT l = -17 → ∃ m2, l.tail = lx (α 39) s m2 e ∧ s - e ≤ m2)) := by
  refine aw_ev (cd := cd_Model_opens) rfl rfl rfl ?_
  show aw_W _ _ _ _ (0, [some (.ref 46)], []) (ae_en σ α z t0 ts)
  refine aw_go 4 rfl ⟨trivial, trivial, trivial, trivial, trivial⟩ ?_
  show aw_W _ _ _ _ (if ¬ (σ 36) = 5 then 8 else 4, [some (.ref 46)], []) (ae_en σ α z t0 ts)
  refine aw_br (c := ¬ (σ 36) = 5) (fun h3 => ?_) (fun h3 => ?_)
  · skip
    have h3 := cI_eqF (a := o) (b := 5) ho rfl (by omega) (by omega) h3
    show aw_W _ _ _ _ (8, [some (.ref 46)], []) (ae_en σ α z t0 ts)
    refine aw_go 7 rfl ⟨trivial, trivial, trivial, trivial, trivial, trivial, trivial, trivial⟩ ?_
    show aw_W _ _ _ _ (15, [some (.ref 46)], [.ref 46]) (ae_en (au σ [(36, (σ 36) + 1)]) α z t0 ts)
    refine aw_call rfl rfl (ev_Model_next  hTb hs hs160 hto hq hm hl) ?_
    rintro _ _ ⟨so_15, iz_15, e_15, rfl, rfl, ht_15, he_15, hr_15⟩
    show aw_W _ _ _ _ (16, [some (.ref 46)], []) (ae_en (au σ [(36, (σ 36) + 1), (37, nI (hdP l)), (38, nI e_15), (39, so_15), (40, iz_15)]) α z t0 ts)
    refine aw_go 1 rfl ⟨trivial, trivial⟩ ?_
    refine aw_ret rfl rfl (by first | exact Or.inl rfl | exact Or.inr rfl | exact bI_b _) ?_
    rw [show (σ 36) + 1 = nI (o + 1) from cI_add (a := o) (b := 1) ho rfl]
    exact ⟨_, _, _, rfl, rfl, ‹_›, ‹_›, ‹_›⟩
  · skip
    have h3 := Classical.not_not.mp h3
    have h3 := cI_eqT (a := o) (b := 5) ho rfl (by omega) (by omega) h3
    show aw_W _ _ _ _ (4, [some (.ref 46)], []) (ae_en σ α z t0 ts)
    omega
end L59
