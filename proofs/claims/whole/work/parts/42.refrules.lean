/-! the reference: rules, what comes in, days in the air -/
theorem bnd_clip (x : Int32) {m : Nat} (hm : m < 2 ^ 30) : bnd (fMx 0 (fMn (nI m) x)) m := by
  unfold fMn
  by_cases h : x < nI m
  · rw [if_pos h]
    unfold fMx
    by_cases q : (0 : Int32) < x
    · rw [if_pos q]
      obtain ⟨j, hj, rfl⟩ := nI_of (x := x) (fun w => absurd q (Int32.not_lt.mpr (Int32.le_of_lt w)))
      rw [nI_ltI hj (by omega)] at h
      exact ⟨j, by omega, rfl⟩
    · rw [if_neg q]
      exact ⟨0, Nat.zero_le _, rfl⟩
  · rw [if_neg h, fMx_0n m (by omega)]
    exact ⟨m, Nat.le_refl m, rfl⟩
theorem gDr_b (B : ae_B) (n : Nat) (w : Nat → Int32) (dy : Int32) (p : Nat) : bnd (gDr B n w dy p) 100 := bnd_clip (m := 100) _ (by decide)
theorem gLk_b (B : ae_B) (n : Nat) (w : Nat → Int32) (dy : Int32) (p : Nat) : bnd (gLk B n w dy p) 999 := bnd_clip (m := 999) _ (by decide)
theorem clip_dry {x d : Int32} (hx : bnd x 100) (hd : bnd d 100) : fHeld (x - d) 0 100 = fMx 0 (x - d) ∧ bnd (fMx 0 (x - d)) 100 := by
  obtain ⟨a, ha, rfl⟩ := hx
  obtain ⟨b, hb, rfl⟩ := hd
  obtain ⟨e1, e2, e3, e4⟩ := (fMx_sub (a := a) (b := b) (by omega) (by omega))
  refine ⟨?_, e2, by omega, e4⟩
  rw [fHeld_m _ 100 (by decide)]
  congr 1
  unfold fMn
  by_cases q : nI a - nI b < 100
  · rw [if_pos q]
  · rw [if_neg q]
    rcases Nat.lt_or_ge a b with h | h
    · exact absurd (Int32.lt_trans (pk_sneg (by omega) h) (by decide)) q
    · rw [pk_sub h] at q ⊢
      have := cI_ltF (a := a - b) (b := 100) rfl rfl (by omega) (by omega) q
      exact congrArg nI (by omega : 100 = a - b)
theorem clip_wet {x t : Int32} (hx : bnd x 100) (ht : bnd t 200) : fHeld (x + t) 0 100 = fMn 100 (x + t) ∧ bnd (fMn 100 (x + t)) 100 := by
  obtain ⟨a, ha, rfl⟩ := hx
  obtain ⟨b, hb, rfl⟩ := ht
  rw [nI_add, fHeld_m _ 100 (by decide)]
  have h := bnd_clip (nI (a + b)) (m := 100) (by decide)
  have e : fMx 0 (fMn 100 (nI (a + b))) = fMn 100 (nI (a + b)) := by
    unfold fMn
    by_cases q : nI (a + b) < 100
    · rw [if_pos q]; exact fMx_0n _ (by omega)
    · rw [if_neg q]; rfl
  exact ⟨e, by rw [← e]; exact h⟩
theorem gTk_b {B : ae_B} {n p : Nat} (w : Nat → Int32) (dy : Int32) (hb : bOk B n) (hp : p < n) : bnd (gTk B n w dy p) 200 := by
  obtain ⟨⟨c, hc, ec⟩, -, ⟨b, hb9, eb⟩⟩ := hb p hp
  unfold gTk fTk
  obtain ⟨s, hs, es⟩ := bnd_clip (gRl B n w dy p 0) (m := 100) (by decide)
  rw [show fMx 0 (fMn 100 (gRl B n w dy p 0)) = nI s from es, ec, eb]
  obtain rfl | rfl | rfl | rfl | rfl | rfl : c = 0 ∨ c = 1 ∨ c = 2 ∨ c = 3 ∨ c = 4 ∨ c = 5 := by omega
  · exact ⟨s, by omega, rfl⟩
  · exact ⟨s, by omega, rfl⟩
  · exact ⟨s / 2, by omega, pk_div (d := 2) (by omega) (by decide) (by decide)⟩
  · obtain ⟨y, hy, ey⟩ := (fMx_sub (a := s) (b := b) (by omega) (by omega)).2
    exact ⟨y, by omega, ey⟩
  · exact ⟨2 * s, by omega, pk_mul 2 s⟩
  · exact ⟨s / 2, by omega, pk_div (d := 2) (by omega) (by decide) (by decide)⟩
theorem rOp_nn (B : ae_B) (w v s : Nat → Int32) (g : Nat) : 0 ≤ rOp B w v s g := by
  unfold rOp fMx
  split
  · exact Int32.le_of_lt ‹_›
  · exact Int32.le_refl _
section L42
variable {P : ae_P} {σ : Nat → Int32} {α : Nat → Nat → Int32} {z : Int64} {t0 : ae_T} {ts : List ae_T}

theorem ev_Model_findFacts {n : Nat} {B : ae_B} {p : Nat} {zd : Nat} (hM : mOk B n (σ 27) (σ 29) (σ 33) (α 31) (α 32) (α 33) (α 40) (α 41) (α 42)) (hp : p < n) : aw_X P (zd + 1) 137 [.ref 46, .int (nI p)] (ae_en σ α z t0 ts) (fun r H => ∃ (fr : Nat → Int32), r = none ∧ H = (ae_en σ (au α [(44, fr)]) z t0 ts) ∧ ∀ j, j < 6 → fr j = gNm B n (α 35) (σ 28) p j) := by
  obtain ⟨hn, hn10, hs3, hk0, hk1, hk2, hbo, hru⟩ := id hM
  refine aw_ev (cd := cd_Model_findFacts) rfl rfl rfl ?_
  show aw_W _ _ _ _ (0, [some (.ref 46), some (.int (nI p))], []) (ae_en σ α z t0 ts)
  refine aw_go 25 rfl ⟨trivial, trivial, trivial, trivial, trivial, trivial, (cI_in (a := p) rfl (by omega) (by decide)), (cI_in (a := 0) rfl (by omega) (by decide)), trivial, trivial, trivial, trivial, trivial, trivial, trivial, (cI_in (a := p) rfl (by omega) (by decide)), trivial, (cI_in (a := 1) rfl (by omega) (by decide)), trivial, trivial, trivial, trivial, (cI_in (a := 2) rfl (by omega) (by decide)), trivial, trivial, trivial⟩ ?_
  show aw_W _ _ _ _ (if (nI p) ≤ 0 then 44 else 25, [some (.ref 46), some (.int (nI p))], []) (ae_en σ (au α [(44, upd (upd (upd (α 44) (0 : Int32).toNatClampNeg (α 35 (nI p).toNatClampNeg)) (1 : Int32).toNatClampNeg (100 - (α 35 (nI p).toNatClampNeg))) (2 : Int32).toNatClampNeg 0)]) z t0 ts)
  rw [show (nI p).toNatClampNeg = p from cI_cl (a := p) rfl (by omega)]
  rw [show (0 : Int32).toNatClampNeg = 0 from cI_cl (a := 0) rfl (by omega)]
  rw [show (1 : Int32).toNatClampNeg = 1 from cI_cl (a := 1) rfl (by omega)]
  rw [show (2 : Int32).toNatClampNeg = 2 from cI_cl (a := 2) rfl (by omega)]
  refine aw_br (c := (nI p) ≤ 0) (fun h24 => ?_) (fun h24 => ?_)
  · skip
    have h24 := cI_leT (a := p) (b := 0) rfl rfl (by omega) (by omega) h24
    show aw_W _ _ _ _ (44, [some (.ref 46), some (.int (nI p))], []) (ae_en σ (au α [(44, upd (upd (upd (α 44) 0 (α 35 p)) 1 (100 - (α 35 p))) 2 0)]) z t0 ts)
    refine aw_go 6 rfl ⟨trivial, trivial, trivial, trivial, trivial, trivial, trivial⟩ ?_
    show aw_W _ _ _ _ (if (σ 27) ≤ ((nI p) + 1) then 69 else 50, [some (.ref 46), some (.int (nI p))], []) (ae_en σ (au α [(44, upd (upd (upd (α 44) 0 (α 35 p)) 1 (100 - (α 35 p))) 2 0)]) z t0 ts)
    refine aw_br (c := (σ 27) ≤ ((nI p) + 1)) (fun h49 => ?_) (fun h49 => ?_)
    · skip
      have h49 := cI_leT (a := n) (b := p + 1) hn (cI_add (a := p) (b := 1) rfl rfl) (by omega) (by omega) h49
      show aw_W _ _ _ _ (69, [some (.ref 46), some (.int (nI p))], []) (ae_en σ (au α [(44, upd (upd (upd (α 44) 0 (α 35 p)) 1 (100 - (α 35 p))) 2 0)]) z t0 ts)
      refine aw_go 20 rfl ⟨trivial, trivial, trivial, trivial, trivial, trivial, (cI_in (a := p) rfl (by omega) (by decide)), (cI_in (a := 3) rfl (by omega) (by decide)), trivial, trivial, trivial, trivial, trivial, (cI_in (a := 4) rfl (by omega) (by decide)), trivial, trivial, trivial, trivial, trivial, (cI_in (a := 5) rfl (by omega) (by decide)), trivial⟩ ?_
      show aw_W _ _ _ _ (89, [some (.ref 46), some (.int (nI p))], []) (ae_en σ (au α [(44, upd (upd (upd (upd (upd (upd (α 44) 0 (α 35 p)) 1 (100 - (α 35 p))) 2 0) (3 : Int32).toNatClampNeg (α 33 (nI p).toNatClampNeg)) (4 : Int32).toNatClampNeg (σ 28)) (5 : Int32).toNatClampNeg (σ 29))]) z t0 ts)
      rw [show (nI p).toNatClampNeg = p from cI_cl (a := p) rfl (by omega)]
      rw [show (3 : Int32).toNatClampNeg = 3 from cI_cl (a := 3) rfl (by omega)]
      rw [show (4 : Int32).toNatClampNeg = 4 from cI_cl (a := 4) rfl (by omega)]
      rw [show (5 : Int32).toNatClampNeg = 5 from cI_cl (a := 5) rfl (by omega)]
      refine aw_ret rfl rfl trivial ?_
      refine ⟨_, rfl, rfl, fun j hj => ?_⟩
      obtain rfl | rfl | rfl | rfl | rfl | rfl : j = 0 ∨ j = 1 ∨ j = 2 ∨ j = 3 ∨ j = 4 ∨ j = 5 := by omega
      · rfl
      · rfl
      · show _ = gNr n (α 35) p
        rw [gNr, ← (bI_0 (fun q => absurd q.1 (by omega))), ← (bI_0 (fun q => absurd q.1 (by omega)))]
        rfl
      · show (α 33) p = B.2.1.2.2 p
        rw [hk2]
      · rfl
      · exact hs3
    · skip
      have h49 := cI_leF (a := n) (b := p + 1) hn (cI_add (a := p) (b := 1) rfl rfl) (by omega) (by omega) h49
      show aw_W _ _ _ _ (50, [some (.ref 46), some (.int (nI p))], []) (ae_en σ (au α [(44, upd (upd (upd (α 44) 0 (α 35 p)) 1 (100 - (α 35 p))) 2 0)]) z t0 ts)
      refine aw_go 11 rfl ⟨trivial, trivial, trivial, trivial, trivial, (cI_in (a := p + 1) (cI_add (a := p) (b := 1) rfl rfl) (by omega) (by decide)), trivial, trivial, trivial, (cI_in (a := p) rfl (by omega) (by decide)), trivial, trivial⟩ ?_
      show aw_W _ _ _ _ (if (α 35 ((nI p) + 1).toNatClampNeg) ≤ (α 35 (nI p).toNatClampNeg) then 69 else 61, [some (.ref 46), some (.int (nI p))], []) (ae_en σ (au α [(44, upd (upd (upd (α 44) 0 (α 35 p)) 1 (100 - (α 35 p))) 2 0)]) z t0 ts)
      rw [show ((nI p) + 1).toNatClampNeg = p + 1 from cI_cl (a := p + 1) (cI_add (a := p) (b := 1) rfl rfl) (by omega)]
      rw [show (nI p).toNatClampNeg = p from cI_cl (a := p) rfl (by omega)]
      refine aw_br (c := (α 35 (p + 1)) ≤ (α 35 p)) (fun h60 => ?_) (fun h60 => ?_)
      · skip
        show aw_W _ _ _ _ (69, [some (.ref 46), some (.int (nI p))], []) (ae_en σ (au α [(44, upd (upd (upd (α 44) 0 (α 35 p)) 1 (100 - (α 35 p))) 2 0)]) z t0 ts)
        refine aw_go 20 rfl ⟨trivial, trivial, trivial, trivial, trivial, trivial, (cI_in (a := p) rfl (by omega) (by decide)), (cI_in (a := 3) rfl (by omega) (by decide)), trivial, trivial, trivial, trivial, trivial, (cI_in (a := 4) rfl (by omega) (by decide)), trivial, trivial, trivial, trivial, trivial, (cI_in (a := 5) rfl (by omega) (by decide)), trivial⟩ ?_
        show aw_W _ _ _ _ (89, [some (.ref 46), some (.int (nI p))], []) (ae_en σ (au α [(44, upd (upd (upd (upd (upd (upd (α 44) 0 (α 35 p)) 1 (100 - (α 35 p))) 2 0) (3 : Int32).toNatClampNeg (α 33 (nI p).toNatClampNeg)) (4 : Int32).toNatClampNeg (σ 28)) (5 : Int32).toNatClampNeg (σ 29))]) z t0 ts)
        rw [show (nI p).toNatClampNeg = p from cI_cl (a := p) rfl (by omega)]
        rw [show (3 : Int32).toNatClampNeg = 3 from cI_cl (a := 3) rfl (by omega)]
        rw [show (4 : Int32).toNatClampNeg = 4 from cI_cl (a := 4) rfl (by omega)]
        rw [show (5 : Int32).toNatClampNeg = 5 from cI_cl (a := 5) rfl (by omega)]
        refine aw_ret rfl rfl trivial ?_
        refine ⟨_, rfl, rfl, fun j hj => ?_⟩
        obtain rfl | rfl | rfl | rfl | rfl | rfl : j = 0 ∨ j = 1 ∨ j = 2 ∨ j = 3 ∨ j = 4 ∨ j = 5 := by omega
        · rfl
        · rfl
        · show _ = gNr n (α 35) p
          rw [gNr, ← (bI_0 (fun q => absurd q.1 (by omega))), ← (bI_0 (fun q => absurd q.2 (Int32.not_lt.mpr h60)))]
          rfl
        · show (α 33) p = B.2.1.2.2 p
          rw [hk2]
        · rfl
        · exact hs3
      · skip
        show aw_W _ _ _ _ (61, [some (.ref 46), some (.int (nI p))], []) (ae_en σ (au α [(44, upd (upd (upd (α 44) 0 (α 35 p)) 1 (100 - (α 35 p))) 2 0)]) z t0 ts)
        refine aw_go 28 rfl ⟨trivial, trivial, trivial, trivial, (cI_in (a := 2) rfl (by omega) (by decide)), trivial, trivial, (cI_in (a := 2) rfl (by omega) (by decide)), trivial, trivial, trivial, trivial, trivial, trivial, (cI_in (a := p) rfl (by omega) (by decide)), (cI_in (a := 3) rfl (by omega) (by decide)), trivial, trivial, trivial, trivial, trivial, (cI_in (a := 4) rfl (by omega) (by decide)), trivial, trivial, trivial, trivial, trivial, (cI_in (a := 5) rfl (by omega) (by decide)), trivial⟩ ?_
        show aw_W _ _ _ _ (89, [some (.ref 46), some (.int (nI p))], []) (ae_en σ (au α [(44, upd (upd (upd (upd (upd (upd (upd (α 44) 0 (α 35 p)) 1 (100 - (α 35 p))) 2 0) (2 : Int32).toNatClampNeg (((upd (upd (upd (α 44) 0 (α 35 p)) 1 (100 - (α 35 p))) 2 0) (2 : Int32).toNatClampNeg) + 1)) (3 : Int32).toNatClampNeg (α 33 (nI p).toNatClampNeg)) (4 : Int32).toNatClampNeg (σ 28)) (5 : Int32).toNatClampNeg (σ 29))]) z t0 ts)
        rw [show (2 : Int32).toNatClampNeg = 2 from cI_cl (a := 2) rfl (by omega)]
        rw [show (nI p).toNatClampNeg = p from cI_cl (a := p) rfl (by omega)]
        rw [show (3 : Int32).toNatClampNeg = 3 from cI_cl (a := 3) rfl (by omega)]
        rw [show (4 : Int32).toNatClampNeg = 4 from cI_cl (a := 4) rfl (by omega)]
        rw [show (5 : Int32).toNatClampNeg = 5 from cI_cl (a := 5) rfl (by omega)]
        refine aw_ret rfl rfl trivial ?_
        refine ⟨_, rfl, rfl, fun j hj => ?_⟩
        obtain rfl | rfl | rfl | rfl | rfl | rfl : j = 0 ∨ j = 1 ∨ j = 2 ∨ j = 3 ∨ j = 4 ∨ j = 5 := by omega
        · rfl
        · rfl
        · show _ = gNr n (α 35) p
          rw [gNr, ← (bI_0 (fun q => absurd q.1 (by omega))), ← (bI_1 ⟨h49, Int32.not_le.mp h60⟩)]
          rfl
        · show (α 33) p = B.2.1.2.2 p
          rw [hk2]
        · rfl
        · exact hs3
  · skip
    have h24 := cI_leF (a := p) (b := 0) rfl rfl (by omega) (by omega) h24
    show aw_W _ _ _ _ (25, [some (.ref 46), some (.int (nI p))], []) (ae_en σ (au α [(44, upd (upd (upd (α 44) 0 (α 35 p)) 1 (100 - (α 35 p))) 2 0)]) z t0 ts)
    refine aw_go 11 rfl ⟨trivial, trivial, trivial, trivial, trivial, (cI_in (a := p - 1) (cI_sub (a := p) (b := 1) rfl rfl (by omega)) (by omega) (by decide)), trivial, trivial, trivial, (cI_in (a := p) rfl (by omega) (by decide)), trivial, trivial⟩ ?_
    show aw_W _ _ _ _ (if (α 35 ((nI p) - 1).toNatClampNeg) ≤ (α 35 (nI p).toNatClampNeg) then 44 else 36, [some (.ref 46), some (.int (nI p))], []) (ae_en σ (au α [(44, upd (upd (upd (α 44) 0 (α 35 p)) 1 (100 - (α 35 p))) 2 0)]) z t0 ts)
    rw [show ((nI p) - 1).toNatClampNeg = p - 1 from cI_cl (a := p - 1) (cI_sub (a := p) (b := 1) rfl rfl (by omega)) (by omega)]
    rw [show (nI p).toNatClampNeg = p from cI_cl (a := p) rfl (by omega)]
    refine aw_br (c := (α 35 (p - 1)) ≤ (α 35 p)) (fun h35 => ?_) (fun h35 => ?_)
    · skip
      show aw_W _ _ _ _ (44, [some (.ref 46), some (.int (nI p))], []) (ae_en σ (au α [(44, upd (upd (upd (α 44) 0 (α 35 p)) 1 (100 - (α 35 p))) 2 0)]) z t0 ts)
      refine aw_go 6 rfl ⟨trivial, trivial, trivial, trivial, trivial, trivial, trivial⟩ ?_
      show aw_W _ _ _ _ (if (σ 27) ≤ ((nI p) + 1) then 69 else 50, [some (.ref 46), some (.int (nI p))], []) (ae_en σ (au α [(44, upd (upd (upd (α 44) 0 (α 35 p)) 1 (100 - (α 35 p))) 2 0)]) z t0 ts)
      refine aw_br (c := (σ 27) ≤ ((nI p) + 1)) (fun h49 => ?_) (fun h49 => ?_)
      · skip
        have h49 := cI_leT (a := n) (b := p + 1) hn (cI_add (a := p) (b := 1) rfl rfl) (by omega) (by omega) h49
        show aw_W _ _ _ _ (69, [some (.ref 46), some (.int (nI p))], []) (ae_en σ (au α [(44, upd (upd (upd (α 44) 0 (α 35 p)) 1 (100 - (α 35 p))) 2 0)]) z t0 ts)
        refine aw_go 20 rfl ⟨trivial, trivial, trivial, trivial, trivial, trivial, (cI_in (a := p) rfl (by omega) (by decide)), (cI_in (a := 3) rfl (by omega) (by decide)), trivial, trivial, trivial, trivial, trivial, (cI_in (a := 4) rfl (by omega) (by decide)), trivial, trivial, trivial, trivial, trivial, (cI_in (a := 5) rfl (by omega) (by decide)), trivial⟩ ?_
        show aw_W _ _ _ _ (89, [some (.ref 46), some (.int (nI p))], []) (ae_en σ (au α [(44, upd (upd (upd (upd (upd (upd (α 44) 0 (α 35 p)) 1 (100 - (α 35 p))) 2 0) (3 : Int32).toNatClampNeg (α 33 (nI p).toNatClampNeg)) (4 : Int32).toNatClampNeg (σ 28)) (5 : Int32).toNatClampNeg (σ 29))]) z t0 ts)
        rw [show (nI p).toNatClampNeg = p from cI_cl (a := p) rfl (by omega)]
        rw [show (3 : Int32).toNatClampNeg = 3 from cI_cl (a := 3) rfl (by omega)]
        rw [show (4 : Int32).toNatClampNeg = 4 from cI_cl (a := 4) rfl (by omega)]
        rw [show (5 : Int32).toNatClampNeg = 5 from cI_cl (a := 5) rfl (by omega)]
        refine aw_ret rfl rfl trivial ?_
        refine ⟨_, rfl, rfl, fun j hj => ?_⟩
        obtain rfl | rfl | rfl | rfl | rfl | rfl : j = 0 ∨ j = 1 ∨ j = 2 ∨ j = 3 ∨ j = 4 ∨ j = 5 := by omega
        · rfl
        · rfl
        · show _ = gNr n (α 35) p
          rw [gNr, ← (bI_0 (fun q => absurd q.2 (Int32.not_lt.mpr h35))), ← (bI_0 (fun q => absurd q.1 (by omega)))]
          rfl
        · show (α 33) p = B.2.1.2.2 p
          rw [hk2]
        · rfl
        · exact hs3
      · skip
        have h49 := cI_leF (a := n) (b := p + 1) hn (cI_add (a := p) (b := 1) rfl rfl) (by omega) (by omega) h49
        show aw_W _ _ _ _ (50, [some (.ref 46), some (.int (nI p))], []) (ae_en σ (au α [(44, upd (upd (upd (α 44) 0 (α 35 p)) 1 (100 - (α 35 p))) 2 0)]) z t0 ts)
        refine aw_go 11 rfl ⟨trivial, trivial, trivial, trivial, trivial, (cI_in (a := p + 1) (cI_add (a := p) (b := 1) rfl rfl) (by omega) (by decide)), trivial, trivial, trivial, (cI_in (a := p) rfl (by omega) (by decide)), trivial, trivial⟩ ?_
        show aw_W _ _ _ _ (if (α 35 ((nI p) + 1).toNatClampNeg) ≤ (α 35 (nI p).toNatClampNeg) then 69 else 61, [some (.ref 46), some (.int (nI p))], []) (ae_en σ (au α [(44, upd (upd (upd (α 44) 0 (α 35 p)) 1 (100 - (α 35 p))) 2 0)]) z t0 ts)
        rw [show ((nI p) + 1).toNatClampNeg = p + 1 from cI_cl (a := p + 1) (cI_add (a := p) (b := 1) rfl rfl) (by omega)]
        rw [show (nI p).toNatClampNeg = p from cI_cl (a := p) rfl (by omega)]
        refine aw_br (c := (α 35 (p + 1)) ≤ (α 35 p)) (fun h60 => ?_) (fun h60 => ?_)
        · skip
          show aw_W _ _ _ _ (69, [some (.ref 46), some (.int (nI p))], []) (ae_en σ (au α [(44, upd (upd (upd (α 44) 0 (α 35 p)) 1 (100 - (α 35 p))) 2 0)]) z t0 ts)
          refine aw_go 20 rfl ⟨trivial, trivial, trivial, trivial, trivial, trivial, (cI_in (a := p) rfl (by omega) (by decide)), (cI_in (a := 3) rfl (by omega) (by decide)), trivial, trivial, trivial, trivial, trivial, (cI_in (a := 4) rfl (by omega) (by decide)), trivial, trivial, trivial, trivial, trivial, (cI_in (a := 5) rfl (by omega) (by decide)), trivial⟩ ?_
          show aw_W _ _ _ _ (89, [some (.ref 46), some (.int (nI p))], []) (ae_en σ (au α [(44, upd (upd (upd (upd (upd (upd (α 44) 0 (α 35 p)) 1 (100 - (α 35 p))) 2 0) (3 : Int32).toNatClampNeg (α 33 (nI p).toNatClampNeg)) (4 : Int32).toNatClampNeg (σ 28)) (5 : Int32).toNatClampNeg (σ 29))]) z t0 ts)
          rw [show (nI p).toNatClampNeg = p from cI_cl (a := p) rfl (by omega)]
          rw [show (3 : Int32).toNatClampNeg = 3 from cI_cl (a := 3) rfl (by omega)]
          rw [show (4 : Int32).toNatClampNeg = 4 from cI_cl (a := 4) rfl (by omega)]
          rw [show (5 : Int32).toNatClampNeg = 5 from cI_cl (a := 5) rfl (by omega)]
          refine aw_ret rfl rfl trivial ?_
          refine ⟨_, rfl, rfl, fun j hj => ?_⟩
          obtain rfl | rfl | rfl | rfl | rfl | rfl : j = 0 ∨ j = 1 ∨ j = 2 ∨ j = 3 ∨ j = 4 ∨ j = 5 := by omega
          · rfl
          · rfl
          · show _ = gNr n (α 35) p
            rw [gNr, ← (bI_0 (fun q => absurd q.2 (Int32.not_lt.mpr h35))), ← (bI_0 (fun q => absurd q.2 (Int32.not_lt.mpr h60)))]
            rfl
          · show (α 33) p = B.2.1.2.2 p
            rw [hk2]
          · rfl
          · exact hs3
        · skip
          show aw_W _ _ _ _ (61, [some (.ref 46), some (.int (nI p))], []) (ae_en σ (au α [(44, upd (upd (upd (α 44) 0 (α 35 p)) 1 (100 - (α 35 p))) 2 0)]) z t0 ts)
          refine aw_go 28 rfl ⟨trivial, trivial, trivial, trivial, (cI_in (a := 2) rfl (by omega) (by decide)), trivial, trivial, (cI_in (a := 2) rfl (by omega) (by decide)), trivial, trivial, trivial, trivial, trivial, trivial, (cI_in (a := p) rfl (by omega) (by decide)), (cI_in (a := 3) rfl (by omega) (by decide)), trivial, trivial, trivial, trivial, trivial, (cI_in (a := 4) rfl (by omega) (by decide)), trivial, trivial, trivial, trivial, trivial, (cI_in (a := 5) rfl (by omega) (by decide)), trivial⟩ ?_
          show aw_W _ _ _ _ (89, [some (.ref 46), some (.int (nI p))], []) (ae_en σ (au α [(44, upd (upd (upd (upd (upd (upd (upd (α 44) 0 (α 35 p)) 1 (100 - (α 35 p))) 2 0) (2 : Int32).toNatClampNeg (((upd (upd (upd (α 44) 0 (α 35 p)) 1 (100 - (α 35 p))) 2 0) (2 : Int32).toNatClampNeg) + 1)) (3 : Int32).toNatClampNeg (α 33 (nI p).toNatClampNeg)) (4 : Int32).toNatClampNeg (σ 28)) (5 : Int32).toNatClampNeg (σ 29))]) z t0 ts)
          rw [show (2 : Int32).toNatClampNeg = 2 from cI_cl (a := 2) rfl (by omega)]
          rw [show (nI p).toNatClampNeg = p from cI_cl (a := p) rfl (by omega)]
          rw [show (3 : Int32).toNatClampNeg = 3 from cI_cl (a := 3) rfl (by omega)]
          rw [show (4 : Int32).toNatClampNeg = 4 from cI_cl (a := 4) rfl (by omega)]
          rw [show (5 : Int32).toNatClampNeg = 5 from cI_cl (a := 5) rfl (by omega)]
          refine aw_ret rfl rfl trivial ?_
          refine ⟨_, rfl, rfl, fun j hj => ?_⟩
          obtain rfl | rfl | rfl | rfl | rfl | rfl : j = 0 ∨ j = 1 ∨ j = 2 ∨ j = 3 ∨ j = 4 ∨ j = 5 := by omega
          · rfl
          · rfl
          · show _ = gNr n (α 35) p
            rw [gNr, ← (bI_0 (fun q => absurd q.2 (Int32.not_lt.mpr h35))), ← (bI_1 ⟨h49, Int32.not_le.mp h60⟩)]
            rfl
          · show (α 33) p = B.2.1.2.2 p
            rw [hk2]
          · rfl
          · exact hs3
    · skip
      show aw_W _ _ _ _ (36, [some (.ref 46), some (.int (nI p))], []) (ae_en σ (au α [(44, upd (upd (upd (α 44) 0 (α 35 p)) 1 (100 - (α 35 p))) 2 0)]) z t0 ts)
      refine aw_go 14 rfl ⟨trivial, trivial, trivial, trivial, (cI_in (a := 2) rfl (by omega) (by decide)), trivial, trivial, (cI_in (a := 2) rfl (by omega) (by decide)), trivial, trivial, trivial, trivial, trivial, trivial, trivial⟩ ?_
      show aw_W _ _ _ _ (if (σ 27) ≤ ((nI p) + 1) then 69 else 50, [some (.ref 46), some (.int (nI p))], []) (ae_en σ (au α [(44, upd (upd (upd (upd (α 44) 0 (α 35 p)) 1 (100 - (α 35 p))) 2 0) (2 : Int32).toNatClampNeg (((upd (upd (upd (α 44) 0 (α 35 p)) 1 (100 - (α 35 p))) 2 0) (2 : Int32).toNatClampNeg) + 1))]) z t0 ts)
      rw [show (2 : Int32).toNatClampNeg = 2 from cI_cl (a := 2) rfl (by omega)]
      refine aw_br (c := (σ 27) ≤ ((nI p) + 1)) (fun h49 => ?_) (fun h49 => ?_)
      · skip
        have h49 := cI_leT (a := n) (b := p + 1) hn (cI_add (a := p) (b := 1) rfl rfl) (by omega) (by omega) h49
        show aw_W _ _ _ _ (69, [some (.ref 46), some (.int (nI p))], []) (ae_en σ (au α [(44, upd (upd (upd (upd (α 44) 0 (α 35 p)) 1 (100 - (α 35 p))) 2 0) 2 (((upd (upd (upd (α 44) 0 (α 35 p)) 1 (100 - (α 35 p))) 2 0) 2) + 1))]) z t0 ts)
        refine aw_go 20 rfl ⟨trivial, trivial, trivial, trivial, trivial, trivial, (cI_in (a := p) rfl (by omega) (by decide)), (cI_in (a := 3) rfl (by omega) (by decide)), trivial, trivial, trivial, trivial, trivial, (cI_in (a := 4) rfl (by omega) (by decide)), trivial, trivial, trivial, trivial, trivial, (cI_in (a := 5) rfl (by omega) (by decide)), trivial⟩ ?_
        show aw_W _ _ _ _ (89, [some (.ref 46), some (.int (nI p))], []) (ae_en σ (au α [(44, upd (upd (upd (upd (upd (upd (upd (α 44) 0 (α 35 p)) 1 (100 - (α 35 p))) 2 0) 2 (((upd (upd (upd (α 44) 0 (α 35 p)) 1 (100 - (α 35 p))) 2 0) 2) + 1)) (3 : Int32).toNatClampNeg (α 33 (nI p).toNatClampNeg)) (4 : Int32).toNatClampNeg (σ 28)) (5 : Int32).toNatClampNeg (σ 29))]) z t0 ts)
        rw [show (nI p).toNatClampNeg = p from cI_cl (a := p) rfl (by omega)]
        rw [show (3 : Int32).toNatClampNeg = 3 from cI_cl (a := 3) rfl (by omega)]
        rw [show (4 : Int32).toNatClampNeg = 4 from cI_cl (a := 4) rfl (by omega)]
        rw [show (5 : Int32).toNatClampNeg = 5 from cI_cl (a := 5) rfl (by omega)]
        refine aw_ret rfl rfl trivial ?_
        refine ⟨_, rfl, rfl, fun j hj => ?_⟩
        obtain rfl | rfl | rfl | rfl | rfl | rfl : j = 0 ∨ j = 1 ∨ j = 2 ∨ j = 3 ∨ j = 4 ∨ j = 5 := by omega
        · rfl
        · rfl
        · show _ = gNr n (α 35) p
          rw [gNr, ← (bI_1 ⟨h24, Int32.not_le.mp h35⟩), ← (bI_0 (fun q => absurd q.1 (by omega)))]
          rfl
        · show (α 33) p = B.2.1.2.2 p
          rw [hk2]
        · rfl
        · exact hs3
      · skip
        have h49 := cI_leF (a := n) (b := p + 1) hn (cI_add (a := p) (b := 1) rfl rfl) (by omega) (by omega) h49
        show aw_W _ _ _ _ (50, [some (.ref 46), some (.int (nI p))], []) (ae_en σ (au α [(44, upd (upd (upd (upd (α 44) 0 (α 35 p)) 1 (100 - (α 35 p))) 2 0) 2 (((upd (upd (upd (α 44) 0 (α 35 p)) 1 (100 - (α 35 p))) 2 0) 2) + 1))]) z t0 ts)
        refine aw_go 11 rfl ⟨trivial, trivial, trivial, trivial, trivial, (cI_in (a := p + 1) (cI_add (a := p) (b := 1) rfl rfl) (by omega) (by decide)), trivial, trivial, trivial, (cI_in (a := p) rfl (by omega) (by decide)), trivial, trivial⟩ ?_
        show aw_W _ _ _ _ (if (α 35 ((nI p) + 1).toNatClampNeg) ≤ (α 35 (nI p).toNatClampNeg) then 69 else 61, [some (.ref 46), some (.int (nI p))], []) (ae_en σ (au α [(44, upd (upd (upd (upd (α 44) 0 (α 35 p)) 1 (100 - (α 35 p))) 2 0) 2 (((upd (upd (upd (α 44) 0 (α 35 p)) 1 (100 - (α 35 p))) 2 0) 2) + 1))]) z t0 ts)
        rw [show ((nI p) + 1).toNatClampNeg = p + 1 from cI_cl (a := p + 1) (cI_add (a := p) (b := 1) rfl rfl) (by omega)]
        rw [show (nI p).toNatClampNeg = p from cI_cl (a := p) rfl (by omega)]
        refine aw_br (c := (α 35 (p + 1)) ≤ (α 35 p)) (fun h60 => ?_) (fun h60 => ?_)
        · skip
          show aw_W _ _ _ _ (69, [some (.ref 46), some (.int (nI p))], []) (ae_en σ (au α [(44, upd (upd (upd (upd (α 44) 0 (α 35 p)) 1 (100 - (α 35 p))) 2 0) 2 (((upd (upd (upd (α 44) 0 (α 35 p)) 1 (100 - (α 35 p))) 2 0) 2) + 1))]) z t0 ts)
          refine aw_go 20 rfl ⟨trivial, trivial, trivial, trivial, trivial, trivial, (cI_in (a := p) rfl (by omega) (by decide)), (cI_in (a := 3) rfl (by omega) (by decide)), trivial, trivial, trivial, trivial, trivial, (cI_in (a := 4) rfl (by omega) (by decide)), trivial, trivial, trivial, trivial, trivial, (cI_in (a := 5) rfl (by omega) (by decide)), trivial⟩ ?_
          show aw_W _ _ _ _ (89, [some (.ref 46), some (.int (nI p))], []) (ae_en σ (au α [(44, upd (upd (upd (upd (upd (upd (upd (α 44) 0 (α 35 p)) 1 (100 - (α 35 p))) 2 0) 2 (((upd (upd (upd (α 44) 0 (α 35 p)) 1 (100 - (α 35 p))) 2 0) 2) + 1)) (3 : Int32).toNatClampNeg (α 33 (nI p).toNatClampNeg)) (4 : Int32).toNatClampNeg (σ 28)) (5 : Int32).toNatClampNeg (σ 29))]) z t0 ts)
          rw [show (nI p).toNatClampNeg = p from cI_cl (a := p) rfl (by omega)]
          rw [show (3 : Int32).toNatClampNeg = 3 from cI_cl (a := 3) rfl (by omega)]
          rw [show (4 : Int32).toNatClampNeg = 4 from cI_cl (a := 4) rfl (by omega)]
          rw [show (5 : Int32).toNatClampNeg = 5 from cI_cl (a := 5) rfl (by omega)]
          refine aw_ret rfl rfl trivial ?_
          refine ⟨_, rfl, rfl, fun j hj => ?_⟩
          obtain rfl | rfl | rfl | rfl | rfl | rfl : j = 0 ∨ j = 1 ∨ j = 2 ∨ j = 3 ∨ j = 4 ∨ j = 5 := by omega
          · rfl
          · rfl
          · show _ = gNr n (α 35) p
            rw [gNr, ← (bI_1 ⟨h24, Int32.not_le.mp h35⟩), ← (bI_0 (fun q => absurd q.2 (Int32.not_lt.mpr h60)))]
            rfl
          · show (α 33) p = B.2.1.2.2 p
            rw [hk2]
          · rfl
          · exact hs3
        · skip
          show aw_W _ _ _ _ (61, [some (.ref 46), some (.int (nI p))], []) (ae_en σ (au α [(44, upd (upd (upd (upd (α 44) 0 (α 35 p)) 1 (100 - (α 35 p))) 2 0) 2 (((upd (upd (upd (α 44) 0 (α 35 p)) 1 (100 - (α 35 p))) 2 0) 2) + 1))]) z t0 ts)
          refine aw_go 28 rfl ⟨trivial, trivial, trivial, trivial, (cI_in (a := 2) rfl (by omega) (by decide)), trivial, trivial, (cI_in (a := 2) rfl (by omega) (by decide)), trivial, trivial, trivial, trivial, trivial, trivial, (cI_in (a := p) rfl (by omega) (by decide)), (cI_in (a := 3) rfl (by omega) (by decide)), trivial, trivial, trivial, trivial, trivial, (cI_in (a := 4) rfl (by omega) (by decide)), trivial, trivial, trivial, trivial, trivial, (cI_in (a := 5) rfl (by omega) (by decide)), trivial⟩ ?_
          show aw_W _ _ _ _ (89, [some (.ref 46), some (.int (nI p))], []) (ae_en σ (au α [(44, upd (upd (upd (upd (upd (upd (upd (upd (α 44) 0 (α 35 p)) 1 (100 - (α 35 p))) 2 0) 2 (((upd (upd (upd (α 44) 0 (α 35 p)) 1 (100 - (α 35 p))) 2 0) 2) + 1)) (2 : Int32).toNatClampNeg (((upd (upd (upd (upd (α 44) 0 (α 35 p)) 1 (100 - (α 35 p))) 2 0) 2 (((upd (upd (upd (α 44) 0 (α 35 p)) 1 (100 - (α 35 p))) 2 0) 2) + 1)) (2 : Int32).toNatClampNeg) + 1)) (3 : Int32).toNatClampNeg (α 33 (nI p).toNatClampNeg)) (4 : Int32).toNatClampNeg (σ 28)) (5 : Int32).toNatClampNeg (σ 29))]) z t0 ts)
          rw [show (2 : Int32).toNatClampNeg = 2 from cI_cl (a := 2) rfl (by omega)]
          rw [show (nI p).toNatClampNeg = p from cI_cl (a := p) rfl (by omega)]
          rw [show (3 : Int32).toNatClampNeg = 3 from cI_cl (a := 3) rfl (by omega)]
          rw [show (4 : Int32).toNatClampNeg = 4 from cI_cl (a := 4) rfl (by omega)]
          rw [show (5 : Int32).toNatClampNeg = 5 from cI_cl (a := 5) rfl (by omega)]
          refine aw_ret rfl rfl trivial ?_
          refine ⟨_, rfl, rfl, fun j hj => ?_⟩
          obtain rfl | rfl | rfl | rfl | rfl | rfl : j = 0 ∨ j = 1 ∨ j = 2 ∨ j = 3 ∨ j = 4 ∨ j = 5 := by omega
          · rfl
          · rfl
          · show _ = gNr n (α 35) p
            rw [gNr, ← (bI_1 ⟨h24, Int32.not_le.mp h35⟩), ← (bI_1 ⟨h49, Int32.not_le.mp h60⟩)]
            rfl
          · show (α 33) p = B.2.1.2.2 p
            rw [hk2]
          · rfl
          · exact hs3
theorem em_st_n {k q E p w : Nat} {wt : Nat → Int32} {bg : Int32} {zd : Nat} {Q : Option Value → ae_H → Prop} (hk : (σ 33) = nI k) (hk6 : k < 6) (hq : q < 3) (hE : (α 42) ((3 * k) + q) = nI E) (hp : p < E) (hE2 : E ≤ 160) {c : Int32} (ha : (α 40) (170 * k + p) = 1) (hwv : (α 41) (170 * k + p) = c) (hw : w < 160) (kk : aw_W P (zd + 1) cd_Model_gives Q (71, [some (.ref 46), some (.int (nI q)), some (.int (nI (w + 1))), some (.int bg), some (.int (nI (170 * k + (p + 1))))], []) (ae_en σ (au α [(43, upd wt w c)]) z t0 ts)) : aw_W P (zd + 1) cd_Model_gives Q (71, [some (.ref 46), some (.int (nI q)), some (.int (nI w)), some (.int bg), some (.int (nI (170 * k + p)))], []) (ae_en σ (au α [(43, wt)]) z t0 ts) := by
  refine aw_go 16 rfl ⟨trivial, trivial, trivial, trivial, trivial, trivial, trivial, trivial, trivial, trivial, trivial, trivial, trivial, (cI_in (a := (3 * k) + q) (cI_add (a := 3 * k) (b := q) (cI_mul (a := 3) (b := k) rfl hk) rfl) (by omega) (by decide)), trivial, trivial, trivial⟩ ?_
  show aw_W _ _ _ _ (if ((170 * (σ 33)) + (α 42 ((3 * (σ 33)) + (nI q)).toNatClampNeg)) ≤ (nI (170 * k + p)) then 172 else 87, [some (.ref 46), some (.int (nI q)), some (.int (nI w)), some (.int bg), some (.int (nI (170 * k + p)))], []) (ae_en σ (au α [(43, wt)]) z t0 ts)
  rw [show ((3 * (σ 33)) + (nI q)).toNatClampNeg = (3 * k) + q from cI_cl (a := (3 * k) + q) (cI_add (a := 3 * k) (b := q) (cI_mul (a := 3) (b := k) rfl hk) rfl) (by omega)]
  refine aw_br (c := ((170 * (σ 33)) + (α 42 ((3 * k) + q))) ≤ (nI (170 * k + p))) (fun h86 => ?_) (fun h86 => ?_)
  · skip
    have h86 := cI_leT (a := (170 * k) + E) (b := 170 * k + p) (cI_add (a := 170 * k) (b := E) (cI_mul (a := 170) (b := k) rfl hk) hE) rfl (by omega) (by omega) h86
    show aw_W _ _ _ _ (172, [some (.ref 46), some (.int (nI q)), some (.int (nI w)), some (.int bg), some (.int (nI (170 * k + p)))], []) (ae_en σ (au α [(43, wt)]) z t0 ts)
    exact absurd h86 (by omega)
  · skip
    have h86 := cI_leF (a := (170 * k) + E) (b := 170 * k + p) (cI_add (a := 170 * k) (b := E) (cI_mul (a := 170) (b := k) rfl hk) hE) rfl (by omega) (by omega) h86
    show aw_W _ _ _ _ (87, [some (.ref 46), some (.int (nI q)), some (.int (nI w)), some (.int bg), some (.int (nI (170 * k + p)))], []) (ae_en σ (au α [(43, wt)]) z t0 ts)
    refine aw_go 4 rfl ⟨trivial, trivial, trivial, (cI_in (a := 170 * k + p) rfl (by omega) (by decide)), trivial⟩ ?_
    show aw_W _ _ _ _ (91, [some (.ref 46), some (.int (nI q)), some (.int (nI w)), some (.int bg), some (.int (nI (170 * k + p)))], [.int (α 40 (nI (170 * k + p)).toNatClampNeg)]) (ae_en σ (au α [(43, wt)]) z t0 ts)
    rw [show (nI (170 * k + p)).toNatClampNeg = 170 * k + p from cI_cl (a := 170 * k + p) rfl (by omega)]
    rw [ha]
    refine aw_go 1 rfl ⟨trivial, trivial⟩ ?_
    show aw_W _ _ _ _ (92, [some (.ref 46), some (.int (nI q)), some (.int (nI w)), some (.int bg), some (.int (nI (170 * k + p)))], []) (ae_en σ (au α [(43, wt)]) z t0 ts)
    refine aw_go 8 rfl ⟨trivial, trivial, trivial, trivial, trivial, trivial, (cI_in (a := 170 * k + p) rfl (by omega) (by decide)), (cI_in (a := w) rfl (by omega) (by decide)), trivial⟩ ?_
    show aw_W _ _ _ _ (100, [some (.ref 46), some (.int (nI q)), some (.int (nI w)), some (.int bg), some (.int (nI (170 * k + p)))], []) (ae_en σ (au α [(43, upd wt (nI w).toNatClampNeg (α 41 (nI (170 * k + p)).toNatClampNeg))]) z t0 ts)
    rw [show (nI (170 * k + p)).toNatClampNeg = 170 * k + p from cI_cl (a := 170 * k + p) rfl (by omega)]
    rw [show (nI w).toNatClampNeg = w from cI_cl (a := w) rfl (by omega)]
    rw [hwv]
    refine aw_go 4 rfl ⟨trivial, trivial, trivial, trivial, trivial⟩ ?_
    show aw_W _ _ _ _ (71, [some (.ref 46), some (.int (nI q)), some (.int ((nI w) + 1)), some (.int bg), some (.int ((nI (170 * k + p)) + 1))], []) (ae_en σ (au α [(43, upd wt w c)]) z t0 ts)
    rw [show (nI w) + 1 = nI (w + 1) from (cI_add (a := w) (b := 1) rfl rfl)]
    rw [show (nI (170 * k + p)) + 1 = nI ((170 * k + p) + 1) from (cI_add (a := 170 * k + p) (b := 1) rfl rfl)]
    exact kk
theorem em_st_f {k q E p w : Nat} {wt : Nat → Int32} {bg : Int32} {zd : Nat} {Q : Option Value → ae_H → Prop} (hk : (σ 33) = nI k) (hk6 : k < 6) (hq : q < 3) (hE : (α 42) ((3 * k) + q) = nI E) (hp : p < E) (hE2 : E ≤ 160) {i : Nat} (hi : i < 6) (ha : (α 40) (170 * k + p) = 2) (hwv : (α 41) (170 * k + p) = nI i) (hw : w < 160) (kk : aw_W P (zd + 1) cd_Model_gives Q (71, [some (.ref 46), some (.int (nI q)), some (.int (nI (w + 1))), some (.int bg), some (.int (nI (170 * k + (p + 1))))], []) (ae_en σ (au α [(43, upd wt w ((α 44) i))]) z t0 ts)) : aw_W P (zd + 1) cd_Model_gives Q (71, [some (.ref 46), some (.int (nI q)), some (.int (nI w)), some (.int bg), some (.int (nI (170 * k + p)))], []) (ae_en σ (au α [(43, wt)]) z t0 ts) := by
  refine aw_go 16 rfl ⟨trivial, trivial, trivial, trivial, trivial, trivial, trivial, trivial, trivial, trivial, trivial, trivial, trivial, (cI_in (a := (3 * k) + q) (cI_add (a := 3 * k) (b := q) (cI_mul (a := 3) (b := k) rfl hk) rfl) (by omega) (by decide)), trivial, trivial, trivial⟩ ?_
  show aw_W _ _ _ _ (if ((170 * (σ 33)) + (α 42 ((3 * (σ 33)) + (nI q)).toNatClampNeg)) ≤ (nI (170 * k + p)) then 172 else 87, [some (.ref 46), some (.int (nI q)), some (.int (nI w)), some (.int bg), some (.int (nI (170 * k + p)))], []) (ae_en σ (au α [(43, wt)]) z t0 ts)
  rw [show ((3 * (σ 33)) + (nI q)).toNatClampNeg = (3 * k) + q from cI_cl (a := (3 * k) + q) (cI_add (a := 3 * k) (b := q) (cI_mul (a := 3) (b := k) rfl hk) rfl) (by omega)]
  refine aw_br (c := ((170 * (σ 33)) + (α 42 ((3 * k) + q))) ≤ (nI (170 * k + p))) (fun h86 => ?_) (fun h86 => ?_)
  · skip
    have h86 := cI_leT (a := (170 * k) + E) (b := 170 * k + p) (cI_add (a := 170 * k) (b := E) (cI_mul (a := 170) (b := k) rfl hk) hE) rfl (by omega) (by omega) h86
    show aw_W _ _ _ _ (172, [some (.ref 46), some (.int (nI q)), some (.int (nI w)), some (.int bg), some (.int (nI (170 * k + p)))], []) (ae_en σ (au α [(43, wt)]) z t0 ts)
    exact absurd h86 (by omega)
  · skip
    have h86 := cI_leF (a := (170 * k) + E) (b := 170 * k + p) (cI_add (a := 170 * k) (b := E) (cI_mul (a := 170) (b := k) rfl hk) hE) rfl (by omega) (by omega) h86
    show aw_W _ _ _ _ (87, [some (.ref 46), some (.int (nI q)), some (.int (nI w)), some (.int bg), some (.int (nI (170 * k + p)))], []) (ae_en σ (au α [(43, wt)]) z t0 ts)
    refine aw_go 4 rfl ⟨trivial, trivial, trivial, (cI_in (a := 170 * k + p) rfl (by omega) (by decide)), trivial⟩ ?_
    show aw_W _ _ _ _ (91, [some (.ref 46), some (.int (nI q)), some (.int (nI w)), some (.int bg), some (.int (nI (170 * k + p)))], [.int (α 40 (nI (170 * k + p)).toNatClampNeg)]) (ae_en σ (au α [(43, wt)]) z t0 ts)
    rw [show (nI (170 * k + p)).toNatClampNeg = 170 * k + p from cI_cl (a := 170 * k + p) rfl (by omega)]
    rw [ha]
    refine aw_go 1 rfl ⟨trivial, trivial⟩ ?_
    show aw_W _ _ _ _ (102, [some (.ref 46), some (.int (nI q)), some (.int (nI w)), some (.int bg), some (.int (nI (170 * k + p)))], []) (ae_en σ (au α [(43, wt)]) z t0 ts)
    refine aw_go 9 rfl ⟨trivial, trivial, trivial, trivial, trivial, trivial, trivial, trivial, (cI_in (a := 170 * k + p) rfl (by omega) (by decide)), trivial⟩ ?_
    show aw_W _ _ _ _ (111, [some (.ref 46), some (.int (nI q)), some (.int (nI w)), some (.int bg), some (.int (nI (170 * k + p)))], [.int (α 41 (nI (170 * k + p)).toNatClampNeg), .ref 60, .int (nI w), .ref 59]) (ae_en σ (au α [(43, wt)]) z t0 ts)
    rw [show (nI (170 * k + p)).toNatClampNeg = 170 * k + p from cI_cl (a := 170 * k + p) rfl (by omega)]
    refine aw_go 6 rfl ⟨(cI_in (a := i) hwv (by omega) (by decide)), (cI_in (a := w) rfl (by omega) (by decide)), trivial, trivial, trivial, trivial, trivial⟩ ?_
    show aw_W _ _ _ _ (71, [some (.ref 46), some (.int (nI q)), some (.int ((nI w) + 1)), some (.int bg), some (.int ((nI (170 * k + p)) + 1))], []) (ae_en σ (au α [(43, upd wt (nI w).toNatClampNeg (α 44 (α 41 (170 * k + p)).toNatClampNeg))]) z t0 ts)
    rw [show (α 41 (170 * k + p)).toNatClampNeg = i from cI_cl (a := i) hwv (by omega)]
    rw [show (nI w).toNatClampNeg = w from cI_cl (a := w) rfl (by omega)]
    rw [show (nI w) + 1 = nI (w + 1) from (cI_add (a := w) (b := 1) rfl rfl)]
    rw [show (nI (170 * k + p)) + 1 = nI ((170 * k + p) + 1) from (cI_add (a := 170 * k + p) (b := 1) rfl rfl)]
    exact kk
theorem em_st_d {k q E p w : Nat} {wt : Nat → Int32} {bg : Int32} {zd : Nat} {Q : Option Value → ae_H → Prop} (hk : (σ 33) = nI k) (hk6 : k < 6) (hq : q < 3) (hE : (α 42) ((3 * k) + q) = nI E) (hp : p < E) (hE2 : E ≤ 160) (ha : (α 40) (170 * k + p) = 3) (hw : w < 160) (kk : aw_W P (zd + 1) cd_Model_gives Q (71, [some (.ref 46), some (.int (nI q)), some (.int (nI (w + 1))), some (.int bg), some (.int (nI (170 * k + (p + 1))))], []) (ae_en σ (au α [(43, upd wt w (if wt w = 0 then 1 else 0))]) z t0 ts)) : aw_W P (zd + 1) cd_Model_gives Q (71, [some (.ref 46), some (.int (nI q)), some (.int (nI (w + 1))), some (.int bg), some (.int (nI (170 * k + p)))], []) (ae_en σ (au α [(43, wt)]) z t0 ts) := by
  refine aw_go 16 rfl ⟨trivial, trivial, trivial, trivial, trivial, trivial, trivial, trivial, trivial, trivial, trivial, trivial, trivial, (cI_in (a := (3 * k) + q) (cI_add (a := 3 * k) (b := q) (cI_mul (a := 3) (b := k) rfl hk) rfl) (by omega) (by decide)), trivial, trivial, trivial⟩ ?_
  show aw_W _ _ _ _ (if ((170 * (σ 33)) + (α 42 ((3 * (σ 33)) + (nI q)).toNatClampNeg)) ≤ (nI (170 * k + p)) then 172 else 87, [some (.ref 46), some (.int (nI q)), some (.int (nI (w + 1))), some (.int bg), some (.int (nI (170 * k + p)))], []) (ae_en σ (au α [(43, wt)]) z t0 ts)
  rw [show ((3 * (σ 33)) + (nI q)).toNatClampNeg = (3 * k) + q from cI_cl (a := (3 * k) + q) (cI_add (a := 3 * k) (b := q) (cI_mul (a := 3) (b := k) rfl hk) rfl) (by omega)]
  refine aw_br (c := ((170 * (σ 33)) + (α 42 ((3 * k) + q))) ≤ (nI (170 * k + p))) (fun h86 => ?_) (fun h86 => ?_)
  · skip
    have h86 := cI_leT (a := (170 * k) + E) (b := 170 * k + p) (cI_add (a := 170 * k) (b := E) (cI_mul (a := 170) (b := k) rfl hk) hE) rfl (by omega) (by omega) h86
    show aw_W _ _ _ _ (172, [some (.ref 46), some (.int (nI q)), some (.int (nI (w + 1))), some (.int bg), some (.int (nI (170 * k + p)))], []) (ae_en σ (au α [(43, wt)]) z t0 ts)
    exact absurd h86 (by omega)
  · skip
    have h86 := cI_leF (a := (170 * k) + E) (b := 170 * k + p) (cI_add (a := 170 * k) (b := E) (cI_mul (a := 170) (b := k) rfl hk) hE) rfl (by omega) (by omega) h86
    show aw_W _ _ _ _ (87, [some (.ref 46), some (.int (nI q)), some (.int (nI (w + 1))), some (.int bg), some (.int (nI (170 * k + p)))], []) (ae_en σ (au α [(43, wt)]) z t0 ts)
    refine aw_go 4 rfl ⟨trivial, trivial, trivial, (cI_in (a := 170 * k + p) rfl (by omega) (by decide)), trivial⟩ ?_
    show aw_W _ _ _ _ (91, [some (.ref 46), some (.int (nI q)), some (.int (nI (w + 1))), some (.int bg), some (.int (nI (170 * k + p)))], [.int (α 40 (nI (170 * k + p)).toNatClampNeg)]) (ae_en σ (au α [(43, wt)]) z t0 ts)
    rw [show (nI (170 * k + p)).toNatClampNeg = 170 * k + p from cI_cl (a := 170 * k + p) rfl (by omega)]
    rw [ha]
    refine aw_go 1 rfl ⟨trivial, trivial⟩ ?_
    show aw_W _ _ _ _ (115, [some (.ref 46), some (.int (nI q)), some (.int (nI (w + 1))), some (.int bg), some (.int (nI (170 * k + p)))], []) (ae_en σ (au α [(43, wt)]) z t0 ts)
    refine aw_go 12 rfl ⟨trivial, trivial, trivial, trivial, trivial, trivial, trivial, trivial, trivial, trivial, (cI_in (a := (w + 1) - 1) (cI_sub (a := w + 1) (b := 1) rfl rfl (by omega)) (by omega) (by decide)), trivial, trivial⟩ ?_
    show aw_W _ _ _ _ (if ¬ (wt ((nI (w + 1)) - 1).toNatClampNeg) = 0 then 129 else 127, [some (.ref 46), some (.int (nI q)), some (.int (nI (w + 1))), some (.int bg), some (.int (nI (170 * k + p)))], [.int ((nI (w + 1)) - 1), .ref 59]) (ae_en σ (au α [(43, wt)]) z t0 ts)
    rw [show ((nI (w + 1)) - 1).toNatClampNeg = (w + 1) - 1 from cI_cl (a := (w + 1) - 1) (cI_sub (a := w + 1) (b := 1) rfl rfl (by omega)) (by omega)]
    refine aw_br (c := ¬ (wt ((w + 1) - 1)) = 0) (fun h126 => ?_) (fun h126 => ?_)
    · skip
      show aw_W _ _ _ _ (129, [some (.ref 46), some (.int (nI q)), some (.int (nI (w + 1))), some (.int bg), some (.int (nI (170 * k + p)))], [.int ((nI (w + 1)) - 1), .ref 59]) (ae_en σ (au α [(43, wt)]) z t0 ts)
      have hz : ¬ wt w = 0 := h126
      rw [if_neg hz] at kk
      refine aw_go 5 rfl ⟨trivial, (cI_in (a := (w + 1) - 1) (cI_sub (a := w + 1) (b := 1) rfl rfl (by omega)) (by omega) (by decide)), trivial, trivial, trivial, trivial⟩ ?_
      show aw_W _ _ _ _ (71, [some (.ref 46), some (.int (nI q)), some (.int (nI (w + 1))), some (.int bg), some (.int ((nI (170 * k + p)) + 1))], []) (ae_en σ (au α [(43, upd wt ((nI (w + 1)) - 1).toNatClampNeg 0)]) z t0 ts)
      rw [show ((nI (w + 1)) - 1).toNatClampNeg = (w + 1) - 1 from cI_cl (a := (w + 1) - 1) (cI_sub (a := w + 1) (b := 1) rfl rfl (by omega)) (by omega)]
      rw [show (nI (170 * k + p)) + 1 = nI ((170 * k + p) + 1) from (cI_add (a := 170 * k + p) (b := 1) rfl rfl)]
      exact kk
    · skip
      have h126 := Classical.not_not.mp h126
      show aw_W _ _ _ _ (127, [some (.ref 46), some (.int (nI q)), some (.int (nI (w + 1))), some (.int bg), some (.int (nI (170 * k + p)))], [.int ((nI (w + 1)) - 1), .ref 59]) (ae_en σ (au α [(43, wt)]) z t0 ts)
      have hz : wt w = 0 := h126
      rw [if_pos hz] at kk
      refine aw_go 6 rfl ⟨trivial, trivial, (cI_in (a := (w + 1) - 1) (cI_sub (a := w + 1) (b := 1) rfl rfl (by omega)) (by omega) (by decide)), trivial, trivial, trivial, trivial⟩ ?_
      show aw_W _ _ _ _ (71, [some (.ref 46), some (.int (nI q)), some (.int (nI (w + 1))), some (.int bg), some (.int ((nI (170 * k + p)) + 1))], []) (ae_en σ (au α [(43, upd wt ((nI (w + 1)) - 1).toNatClampNeg 1)]) z t0 ts)
      rw [show ((nI (w + 1)) - 1).toNatClampNeg = (w + 1) - 1 from cI_cl (a := (w + 1) - 1) (cI_sub (a := w + 1) (b := 1) rfl rfl (by omega)) (by omega)]
      rw [show (nI (170 * k + p)) + 1 = nI ((170 * k + p) + 1) from (cI_add (a := 170 * k + p) (b := 1) rfl rfl)]
      exact kk
theorem em_st_g {k q E p w : Nat} {wt : Nat → Int32} {bg : Int32} {zd : Nat} {Q : Option Value → ae_H → Prop} (hk : (σ 33) = nI k) (hk6 : k < 6) (hq : q < 3) (hE : (α 42) ((3 * k) + q) = nI E) (hp : p < E) (hE2 : E ≤ 160) (ha : (α 40) (170 * k + p) = 4) (hw : w < 160) (kk : aw_W P (zd + 1) cd_Model_gives Q (71, [some (.ref 46), some (.int (nI q)), some (.int (nI (w + 1))), some (.int bg), some (.int (nI (170 * k + (p + 1))))], []) (ae_en σ (au α [(43, upd wt w (- wt w))]) z t0 ts)) : aw_W P (zd + 1) cd_Model_gives Q (71, [some (.ref 46), some (.int (nI q)), some (.int (nI (w + 1))), some (.int bg), some (.int (nI (170 * k + p)))], []) (ae_en σ (au α [(43, wt)]) z t0 ts) := by
  refine aw_go 16 rfl ⟨trivial, trivial, trivial, trivial, trivial, trivial, trivial, trivial, trivial, trivial, trivial, trivial, trivial, (cI_in (a := (3 * k) + q) (cI_add (a := 3 * k) (b := q) (cI_mul (a := 3) (b := k) rfl hk) rfl) (by omega) (by decide)), trivial, trivial, trivial⟩ ?_
  show aw_W _ _ _ _ (if ((170 * (σ 33)) + (α 42 ((3 * (σ 33)) + (nI q)).toNatClampNeg)) ≤ (nI (170 * k + p)) then 172 else 87, [some (.ref 46), some (.int (nI q)), some (.int (nI (w + 1))), some (.int bg), some (.int (nI (170 * k + p)))], []) (ae_en σ (au α [(43, wt)]) z t0 ts)
  rw [show ((3 * (σ 33)) + (nI q)).toNatClampNeg = (3 * k) + q from cI_cl (a := (3 * k) + q) (cI_add (a := 3 * k) (b := q) (cI_mul (a := 3) (b := k) rfl hk) rfl) (by omega)]
  refine aw_br (c := ((170 * (σ 33)) + (α 42 ((3 * k) + q))) ≤ (nI (170 * k + p))) (fun h86 => ?_) (fun h86 => ?_)
  · skip
    have h86 := cI_leT (a := (170 * k) + E) (b := 170 * k + p) (cI_add (a := 170 * k) (b := E) (cI_mul (a := 170) (b := k) rfl hk) hE) rfl (by omega) (by omega) h86
    show aw_W _ _ _ _ (172, [some (.ref 46), some (.int (nI q)), some (.int (nI (w + 1))), some (.int bg), some (.int (nI (170 * k + p)))], []) (ae_en σ (au α [(43, wt)]) z t0 ts)
    exact absurd h86 (by omega)
  · skip
    have h86 := cI_leF (a := (170 * k) + E) (b := 170 * k + p) (cI_add (a := 170 * k) (b := E) (cI_mul (a := 170) (b := k) rfl hk) hE) rfl (by omega) (by omega) h86
    show aw_W _ _ _ _ (87, [some (.ref 46), some (.int (nI q)), some (.int (nI (w + 1))), some (.int bg), some (.int (nI (170 * k + p)))], []) (ae_en σ (au α [(43, wt)]) z t0 ts)
    refine aw_go 4 rfl ⟨trivial, trivial, trivial, (cI_in (a := 170 * k + p) rfl (by omega) (by decide)), trivial⟩ ?_
    show aw_W _ _ _ _ (91, [some (.ref 46), some (.int (nI q)), some (.int (nI (w + 1))), some (.int bg), some (.int (nI (170 * k + p)))], [.int (α 40 (nI (170 * k + p)).toNatClampNeg)]) (ae_en σ (au α [(43, wt)]) z t0 ts)
    rw [show (nI (170 * k + p)).toNatClampNeg = 170 * k + p from cI_cl (a := 170 * k + p) rfl (by omega)]
    rw [ha]
    refine aw_go 1 rfl ⟨trivial, trivial⟩ ?_
    show aw_W _ _ _ _ (132, [some (.ref 46), some (.int (nI q)), some (.int (nI (w + 1))), some (.int bg), some (.int (nI (170 * k + p)))], []) (ae_en σ (au α [(43, wt)]) z t0 ts)
    refine aw_go 16 rfl ⟨trivial, trivial, trivial, trivial, trivial, trivial, trivial, trivial, trivial, trivial, (cI_in (a := (w + 1) - 1) (cI_sub (a := w + 1) (b := 1) rfl rfl (by omega)) (by omega) (by decide)), trivial, (cI_in (a := (w + 1) - 1) (cI_sub (a := w + 1) (b := 1) rfl rfl (by omega)) (by omega) (by decide)), trivial, trivial, trivial, trivial⟩ ?_
    show aw_W _ _ _ _ (71, [some (.ref 46), some (.int (nI q)), some (.int (nI (w + 1))), some (.int bg), some (.int ((nI (170 * k + p)) + 1))], []) (ae_en σ (au α [(43, upd wt ((nI (w + 1)) - 1).toNatClampNeg (- (wt ((nI (w + 1)) - 1).toNatClampNeg)))]) z t0 ts)
    rw [show ((nI (w + 1)) - 1).toNatClampNeg = (w + 1) - 1 from cI_cl (a := (w + 1) - 1) (cI_sub (a := w + 1) (b := 1) rfl rfl (by omega)) (by omega)]
    rw [show (nI (170 * k + p)) + 1 = nI ((170 * k + p) + 1) from (cI_add (a := 170 * k + p) (b := 1) rfl rfl)]
    exact kk
theorem em_st_b {k q E p w : Nat} {wt : Nat → Int32} {bg : Int32} {zd : Nat} {Q : Option Value → ae_H → Prop} (hk : (σ 33) = nI k) (hk6 : k < 6) (hq : q < 3) (hE : (α 42) ((3 * k) + q) = nI E) (hp : p < E) (hE2 : E ≤ 160) {c : Int32} (ho : cBi c) (ha : (α 40) (170 * k + p) = cA c) (hw : w + 1 < 160) (kk : aw_W P (zd + 1) cd_Model_gives Q (71, [some (.ref 46), some (.int (nI q)), some (.int (nI (w + 1))), some (.int bg), some (.int (nI (170 * k + (p + 1))))], []) (ae_en σ (au α [(43, upd wt w (oV c (wt w) (wt (w + 1))))]) z t0 ts)) : aw_W P (zd + 1) cd_Model_gives Q (71, [some (.ref 46), some (.int (nI q)), some (.int (nI (w + 1 + 1))), some (.int bg), some (.int (nI (170 * k + p)))], []) (ae_en σ (au α [(43, wt)]) z t0 ts) := by
  refine aw_go 16 rfl ⟨trivial, trivial, trivial, trivial, trivial, trivial, trivial, trivial, trivial, trivial, trivial, trivial, trivial, (cI_in (a := (3 * k) + q) (cI_add (a := 3 * k) (b := q) (cI_mul (a := 3) (b := k) rfl hk) rfl) (by omega) (by decide)), trivial, trivial, trivial⟩ ?_
  show aw_W _ _ _ _ (if ((170 * (σ 33)) + (α 42 ((3 * (σ 33)) + (nI q)).toNatClampNeg)) ≤ (nI (170 * k + p)) then 172 else 87, [some (.ref 46), some (.int (nI q)), some (.int (nI (w + 1 + 1))), some (.int bg), some (.int (nI (170 * k + p)))], []) (ae_en σ (au α [(43, wt)]) z t0 ts)
  rw [show ((3 * (σ 33)) + (nI q)).toNatClampNeg = (3 * k) + q from cI_cl (a := (3 * k) + q) (cI_add (a := 3 * k) (b := q) (cI_mul (a := 3) (b := k) rfl hk) rfl) (by omega)]
  refine aw_br (c := ((170 * (σ 33)) + (α 42 ((3 * k) + q))) ≤ (nI (170 * k + p))) (fun h86 => ?_) (fun h86 => ?_)
  · skip
    have h86 := cI_leT (a := (170 * k) + E) (b := 170 * k + p) (cI_add (a := 170 * k) (b := E) (cI_mul (a := 170) (b := k) rfl hk) hE) rfl (by omega) (by omega) h86
    show aw_W _ _ _ _ (172, [some (.ref 46), some (.int (nI q)), some (.int (nI (w + 1 + 1))), some (.int bg), some (.int (nI (170 * k + p)))], []) (ae_en σ (au α [(43, wt)]) z t0 ts)
    exact absurd h86 (by omega)
  · skip
    have h86 := cI_leF (a := (170 * k) + E) (b := 170 * k + p) (cI_add (a := 170 * k) (b := E) (cI_mul (a := 170) (b := k) rfl hk) hE) rfl (by omega) (by omega) h86
    show aw_W _ _ _ _ (87, [some (.ref 46), some (.int (nI q)), some (.int (nI (w + 1 + 1))), some (.int bg), some (.int (nI (170 * k + p)))], []) (ae_en σ (au α [(43, wt)]) z t0 ts)
    refine aw_go 4 rfl ⟨trivial, trivial, trivial, (cI_in (a := 170 * k + p) rfl (by omega) (by decide)), trivial⟩ ?_
    show aw_W _ _ _ _ (91, [some (.ref 46), some (.int (nI q)), some (.int (nI (w + 1 + 1))), some (.int bg), some (.int (nI (170 * k + p)))], [.int (α 40 (nI (170 * k + p)).toNatClampNeg)]) (ae_en σ (au α [(43, wt)]) z t0 ts)
    rw [show (nI (170 * k + p)).toNatClampNeg = 170 * k + p from cI_cl (a := 170 * k + p) rfl (by omega)]
    rw [ha]
    refine aw_go 1 rfl ⟨trivial, trivial⟩ ?_
    refine aw_sw (x := cA c) (fun h91_1 => ?_) (fun h91_1 => ?_)
    · skip
      show aw_W _ _ _ _ (92, [some (.ref 46), some (.int (nI q)), some (.int (nI (w + 1 + 1))), some (.int bg), some (.int (nI (170 * k + p)))], []) (ae_en σ (au α [(43, wt)]) z t0 ts)
      exact absurd h91_1 (by rcases ho with rfl | rfl | rfl | rfl | rfl | rfl | rfl <;> decide)
    refine aw_sw (x := cA c) (fun h91_2 => ?_) (fun h91_2 => ?_)
    · skip
      show aw_W _ _ _ _ (102, [some (.ref 46), some (.int (nI q)), some (.int (nI (w + 1 + 1))), some (.int bg), some (.int (nI (170 * k + p)))], []) (ae_en σ (au α [(43, wt)]) z t0 ts)
      exact absurd h91_2 (by rcases ho with rfl | rfl | rfl | rfl | rfl | rfl | rfl <;> decide)
    refine aw_sw (x := cA c) (fun h91_3 => ?_) (fun h91_3 => ?_)
    · skip
      show aw_W _ _ _ _ (115, [some (.ref 46), some (.int (nI q)), some (.int (nI (w + 1 + 1))), some (.int bg), some (.int (nI (170 * k + p)))], []) (ae_en σ (au α [(43, wt)]) z t0 ts)
      exact absurd h91_3 (by rcases ho with rfl | rfl | rfl | rfl | rfl | rfl | rfl <;> decide)
    refine aw_sw (x := cA c) (fun h91_4 => ?_) (fun h91_4 => ?_)
    · skip
      show aw_W _ _ _ _ (132, [some (.ref 46), some (.int (nI q)), some (.int (nI (w + 1 + 1))), some (.int bg), some (.int (nI (170 * k + p)))], []) (ae_en σ (au α [(43, wt)]) z t0 ts)
      exact absurd h91_4 (by rcases ho with rfl | rfl | rfl | rfl | rfl | rfl | rfl <;> decide)
    show aw_W _ _ _ _ (146, [some (.ref 46), some (.int (nI q)), some (.int (nI (w + 1 + 1))), some (.int bg), some (.int (nI (170 * k + p)))], []) (ae_en σ (au α [(43, wt)]) z t0 ts)
    refine aw_go 21 rfl ⟨trivial, trivial, trivial, trivial, trivial, trivial, trivial, trivial, (cI_in (a := 170 * k + p) rfl (by omega) (by decide)), trivial, trivial, trivial, trivial, trivial, (cI_in (a := (w + 1 + 1) - 2) (cI_sub (a := w + 1 + 1) (b := 2) rfl rfl (by omega)) (by omega) (by decide)), trivial, trivial, trivial, trivial, trivial, (cI_in (a := (w + 1 + 1) - 1) (cI_sub (a := w + 1 + 1) (b := 1) rfl rfl (by omega)) (by omega) (by decide)), trivial⟩ ?_
    show aw_W _ _ _ _ (167, [some (.ref 46), some (.int (nI q)), some (.int (nI (w + 1 + 1))), some (.int bg), some (.int (nI (170 * k + p)))], [.int (wt ((nI (w + 1 + 1)) - 1).toNatClampNeg), .int (wt ((nI (w + 1 + 1)) - 2).toNatClampNeg), .int (α 40 (nI (170 * k + p)).toNatClampNeg), .int ((nI (w + 1 + 1)) - 2), .ref 59]) (ae_en σ (au α [(43, wt)]) z t0 ts)
    rw [show (nI (170 * k + p)).toNatClampNeg = 170 * k + p from cI_cl (a := 170 * k + p) rfl (by omega)]
    rw [show ((nI (w + 1 + 1)) - 2).toNatClampNeg = (w + 1 + 1) - 2 from cI_cl (a := (w + 1 + 1) - 2) (cI_sub (a := w + 1 + 1) (b := 2) rfl rfl (by omega)) (by omega)]
    rw [show ((nI (w + 1 + 1)) - 1).toNatClampNeg = (w + 1 + 1) - 1 from cI_cl (a := (w + 1 + 1) - 1) (cI_sub (a := w + 1 + 1) (b := 1) rfl rfl (by omega)) (by omega)]
    rw [ha]
    rw [show (nI (w + 1 + 1)) - 2 = nI ((w + 1 + 1) - 2) from (cI_sub (a := w + 1 + 1) (b := 2) rfl rfl (by omega))]
    refine aw_callE rfl rfl (em_twoOf (x := (wt ((w + 1 + 1) - 2))) (y := (wt ((w + 1 + 1) - 1))) ho) ?_
    show aw_W _ _ _ _ (168, [some (.ref 46), some (.int (nI q)), some (.int (nI (w + 1 + 1))), some (.int bg), some (.int (nI (170 * k + p)))], [.int (oV c (wt ((w + 1 + 1) - 2)) (wt ((w + 1 + 1) - 1))), .int (nI ((w + 1 + 1) - 2)), .ref 59]) (ae_en σ (au α [(43, wt)]) z t0 ts)
    refine aw_go 4 rfl ⟨(cI_in (a := (w + 1 + 1) - 2) rfl (by omega) (by decide)), trivial, trivial, trivial, trivial⟩ ?_
    show aw_W _ _ _ _ (71, [some (.ref 46), some (.int (nI q)), some (.int ((nI (w + 1 + 1)) + (-1))), some (.int bg), some (.int ((nI (170 * k + p)) + 1))], []) (ae_en σ (au α [(43, upd wt (nI ((w + 1 + 1) - 2)).toNatClampNeg (oV c (wt ((w + 1 + 1) - 2)) (wt ((w + 1 + 1) - 1))))]) z t0 ts)
    rw [show (nI ((w + 1 + 1) - 2)).toNatClampNeg = (w + 1 + 1) - 2 from cI_cl (a := (w + 1 + 1) - 2) rfl (by omega)]
    rw [show (nI (170 * k + p)) + 1 = nI ((170 * k + p) + 1) from (cI_add (a := 170 * k + p) (b := 1) rfl rfl)]
    rw [pk_m1]
    exact kk
theorem em_cA_n {c : Int32} (h : cLf c) : (∃ v : Nat, v ≤ 9999 ∧ c = nI v ∧ cA c = 1 ∧ cW c = c) ∨ ∃ v : Nat, v < 6 ∧ c = nI (10000 + v) ∧ cA c = 2 ∧ cW c = nI v := by
  rcases h with ⟨v, hv, rfl⟩ | ⟨v, hv, rfl⟩
  · refine Or.inl ⟨v, hv, rfl, ?_, ?_⟩
    · rw [cA, if_pos (nI_pos' (by omega)), if_pos (show nI v < 10000 from nI_lt (b := 10000) (by omega) (by decide))]
    · rw [cW, if_pos (nI_pos' (by omega)), if_pos (show nI v < 10000 from nI_lt (b := 10000) (by omega) (by decide))]
  · refine Or.inr ⟨v, hv, rfl, ?_, ?_⟩
    · rw [cA, if_pos (nI_pos' (by omega)), if_neg (show ¬ nI (10000 + v) < 10000 from nI_nlt (b := 10000) (by omega) (by omega))]
    · rw [cW, if_pos (nI_pos' (by omega)), if_neg (show ¬ nI (10000 + v) < 10000 from nI_nlt (b := 10000) (by omega) (by omega)), nI_off]
theorem lp_gives {k q E : Nat} {bg : Int32} {zd : Nat} {Q : Option Value → ae_H → Prop} (hk : (σ 33) = nI k) (hk6 : k < 6) (hq : q < 3) (hE : (α 42) ((3 * k) + q) = nI E) (hE2 : E ≤ 160) : ∀ (l : List Int32) {p w m : Nat} {wt : Nat → Int32}, dOk l w m → hasAt (fun j => (α 40) (170 * k + j)) p (l.map cA) → hasAt (fun j => (α 41) (170 * k + j)) p (l.map cW) → p + l.length ≤ E → w + l.length ≤ 160 → aw_W P (zd + 1) cd_Model_gives Q (71, [some (.ref 46), some (.int (nI q)), some (.int (nI (sR (α 44) l (w, wt)).1)), some (.int bg), some (.int (nI (170 * k + (p + l.length))))], []) (ae_en σ (au α [(43, (sR (α 44) l (w, wt)).2)]) z t0 ts) → aw_W P (zd + 1) cd_Model_gives Q (71, [some (.ref 46), some (.int (nI q)), some (.int (nI w)), some (.int bg), some (.int (nI (170 * k + p)))], []) (ae_en σ (au α [(43, wt)]) z t0 ts)
  | [], p, w, m, wt, _, _, _, _, _, kk => kk
  | c :: l, p, w, m, wt, hd, hA, hW, h1, h2, kk => by
    rw [List.length_cons] at h1 h2 kk
    rw [sR, show p + (l.length + 1) = p + 1 + l.length by omega] at kk
    rw [List.map_cons] at hA hW
    obtain ⟨hA, hA2⟩ := hA
    obtain ⟨hW, hW2⟩ := hW
    rcases hd with ⟨g1, g2⟩ | ⟨g1, g2, g3⟩ | ⟨g1, g2, g3⟩
    · rcases em_cA_n g1 with ⟨v, hv, rfl, eA, eW⟩ | ⟨v, hv, rfl, eA, eW⟩
      · rw [sSt_n _ hv] at kk
        exact em_st_n hk hk6 hq hE (by omega) hE2 (hA.trans eA) (hW.trans eW) (by omega) (lp_gives hk hk6 hq hE hE2 l g2 hA2 hW2 (by omega) (by omega) kk)
      · rw [sSt_f _ hv] at kk
        exact em_st_f hk hk6 hq hE (by omega) hE2 hv (hA.trans eA) (hW.trans eW) (by omega) (lp_gives hk hk6 hq hE hE2 l g2 hA2 hW2 (by omega) (by omega) kk)
    · obtain ⟨w, rfl⟩ : ∃ q, w = q + 1 := ⟨w - 1, by omega⟩
      rcases g1 with rfl | rfl
      · rw [sSt_g] at kk
        exact em_st_g hk hk6 hq hE (by omega) hE2 hA (by omega) (lp_gives hk hk6 hq hE hE2 l g3 hA2 hW2 (by omega) (by omega) kk)
      · rw [sSt_d] at kk
        exact em_st_d hk hk6 hq hE (by omega) hE2 hA (by omega) (lp_gives hk hk6 hq hE hE2 l g3 hA2 hW2 (by omega) (by omega) kk)
    · obtain ⟨w, rfl⟩ : ∃ q, w = q + 1 + 1 := ⟨w - 2, by omega⟩
      rw [sSt_b _ g1] at kk
      exact em_st_b hk hk6 hq hE (by omega) hE2 g1 hA (by omega) (lp_gives hk hk6 hq hE hE2 l g3 hA2 hW2 (by omega) (by omega) kk)
theorem fin_gives {k q E : Nat} {bg x : Int32} {zd : Nat} {wt : Nat → Int32} (hk : (σ 33) = nI k) (hk6 : k < 6) (hq : q < 3) (hE : (α 42) ((3 * k) + q) = nI E) (hE2 : E ≤ 160) (hx : wt 0 = x) : aw_W P (zd + 1) cd_Model_gives (fun r H => ∃ pl : Nat → Int32, r = some (.int x) ∧ H = ae_en σ (au α [(43, pl)]) z t0 ts) (71, [some (.ref 46), some (.int (nI q)), some (.int (nI 1)), some (.int bg), some (.int (nI (170 * k + E)))], []) (ae_en σ (au α [(43, wt)]) z t0 ts) := by
  refine aw_go 16 rfl ⟨trivial, trivial, trivial, trivial, trivial, trivial, trivial, trivial, trivial, trivial, trivial, trivial, trivial, (cI_in (a := (3 * k) + q) (cI_add (a := 3 * k) (b := q) (cI_mul (a := 3) (b := k) rfl hk) rfl) (by omega) (by decide)), trivial, trivial, trivial⟩ ?_
  show aw_W _ _ _ _ (if ((170 * (σ 33)) + (α 42 ((3 * (σ 33)) + (nI q)).toNatClampNeg)) ≤ (nI (170 * k + E)) then 172 else 87, [some (.ref 46), some (.int (nI q)), some (.int (nI 1)), some (.int bg), some (.int (nI (170 * k + E)))], []) (ae_en σ (au α [(43, wt)]) z t0 ts)
  rw [show ((3 * (σ 33)) + (nI q)).toNatClampNeg = (3 * k) + q from cI_cl (a := (3 * k) + q) (cI_add (a := 3 * k) (b := q) (cI_mul (a := 3) (b := k) rfl hk) rfl) (by omega)]
  refine aw_br (c := ((170 * (σ 33)) + (α 42 ((3 * k) + q))) ≤ (nI (170 * k + E))) (fun h86 => ?_) (fun h86 => ?_)
  · skip
    have h86 := cI_leT (a := (170 * k) + E) (b := 170 * k + E) (cI_add (a := 170 * k) (b := E) (cI_mul (a := 170) (b := k) rfl hk) hE) rfl (by omega) (by omega) h86
    show aw_W _ _ _ _ (172, [some (.ref 46), some (.int (nI q)), some (.int (nI 1)), some (.int bg), some (.int (nI (170 * k + E)))], []) (ae_en σ (au α [(43, wt)]) z t0 ts)
    refine aw_go 4 rfl ⟨trivial, trivial, trivial, (cI_in (a := 0) rfl (by omega) (by decide)), trivial⟩ ?_
    show aw_W _ _ _ _ (176, [some (.ref 46), some (.int (nI q)), some (.int (nI 1)), some (.int bg), some (.int (nI (170 * k + E)))], [.int (wt (0 : Int32).toNatClampNeg)]) (ae_en σ (au α [(43, wt)]) z t0 ts)
    rw [show (0 : Int32).toNatClampNeg = 0 from cI_cl (a := 0) rfl (by omega)]
    refine aw_ret rfl rfl trivial ?_
    exact ⟨wt, by rw [hx], rfl⟩
  · skip
    have h86 := cI_leF (a := (170 * k) + E) (b := 170 * k + E) (cI_add (a := 170 * k) (b := E) (cI_mul (a := 170) (b := k) rfl hk) hE) rfl (by omega) (by omega) h86
    show aw_W _ _ _ _ (87, [some (.ref 46), some (.int (nI q)), some (.int (nI 1)), some (.int bg), some (.int (nI (170 * k + E)))], []) (ae_en σ (au α [(43, wt)]) z t0 ts)
    exact absurd h86 (by omega)
theorem ev_Model_gives {n : Nat} {B : ae_B} {q p : Nat} {wx : Nat → Int32} {dy : Int32} {zd : Nat} (hM : mOk B n (σ 27) (σ 29) (σ 33) (α 31) (α 32) (α 33) (α 40) (α 41) (α 42)) (hq : q < 3) (hf : ∀ j, j < 6 → (α 44) j = gNm B n wx dy p j) : aw_X P (zd + 2) 136 [.ref 46, .int (nI q)] (ae_en σ α z t0 ts) (fun r H => ∃ (pl : Nat → Int32), r = some (.int (gRl B n wx dy p q)) ∧ H = (ae_en σ (au α [(43, pl)]) z t0 ts)) := by
  obtain ⟨hn, hn10, hs3, hk0, hk1, hk2, hbo, hru⟩ := id hM
  obtain ⟨k, hk6, hk, hr0, hr1⟩ := hru
  refine aw_ev (cd := cd_Model_gives) rfl rfl rfl ?_
  show aw_W _ _ _ _ (0, [some (.ref 46), some (.int (nI q)), none, none, none], []) (ae_en σ α z t0 ts)
  refine aw_go 3 rfl ⟨trivial, trivial, trivial, trivial⟩ ?_
  show aw_W _ _ _ _ (if ¬ (σ 33) = 0 then 46 else 3, [some (.ref 46), some (.int (nI q)), none, none, none], []) (ae_en σ α z t0 ts)
  refine aw_br (c := ¬ (σ 33) = 0) (fun h2 => ?_) (fun h2 => ?_)
  · skip
    have h2 := cI_eqF (a := k) (b := 0) hk rfl (by omega) (by omega) h2
    show aw_W _ _ _ _ (46, [some (.ref 46), some (.int (nI q)), none, none, none], []) (ae_en σ α z t0 ts)
    refine aw_go 4 rfl ⟨trivial, trivial, trivial, trivial, trivial⟩ ?_
    refine aw_br (c := ¬ (nI q) = 0) (fun h49 => ?_) (fun h49 => ?_)
    · skip
      have h49 := cI_eqF (a := q) (b := 0) rfl rfl (by omega) (by omega) h49
      show aw_W _ _ _ _ (52, [some (.ref 46), some (.int (nI q)), some (.int 0), none, none], []) (ae_en σ α z t0 ts)
      have heq : (α 42) (((3 * k) + q) - 1) = nI (tB B.1 q) := by
        obtain ⟨s, rfl⟩ : ∃ s, q = s + 1 := ⟨q - 1, by omega⟩
        exact (hr1 h2 s (by omega)).2.2.2.1
      refine aw_go 19 rfl ⟨trivial, trivial, trivial, trivial, trivial, trivial, trivial, trivial, trivial, trivial, (cI_in (a := ((3 * k) + q) - 1) (cI_sub (a := (3 * k) + q) (b := 1) (cI_add (a := 3 * k) (b := q) (cI_mul (a := 3) (b := k) rfl hk) rfl) rfl (by omega)) (by omega) (by decide)), trivial, trivial, trivial, trivial, trivial, trivial, trivial, trivial, trivial⟩ ?_
      show aw_W _ _ _ _ (71, [some (.ref 46), some (.int (nI q)), some (.int 0), some (.int (α 42 (((3 * (σ 33)) + (nI q)) - 1).toNatClampNeg)), some (.int ((170 * (σ 33)) + (α 42 (((3 * (σ 33)) + (nI q)) - 1).toNatClampNeg)))], []) (ae_en σ α z t0 ts)
      rw [show (((3 * (σ 33)) + (nI q)) - 1).toNatClampNeg = ((3 * k) + q) - 1 from cI_cl (a := ((3 * k) + q) - 1) (cI_sub (a := (3 * k) + q) (b := 1) (cI_add (a := 3 * k) (b := q) (cI_mul (a := 3) (b := k) rfl hk) rfl) rfl (by omega)) (by omega)]
      rw [show (170 * (σ 33)) + (α 42 (((3 * k) + q) - 1)) = nI ((170 * k) + (tB B.1 q)) from (cI_add (a := 170 * k) (b := tB B.1 q) (cI_mul (a := 170) (b := k) rfl hk) heq)]
      obtain ⟨d1, d2, d3, d4, d5⟩ := hr1 h2 q hq
      refine aw_to (lp_gives hk hk6 hq d4 d5 (B.1 q) (w := 0) (p := tB B.1 q) (wt := α 43) d1 d2 d3 (Nat.le_refl _) (by omega) ?_) (by rfl) rfl
      obtain ⟨r1, r2⟩ := sA_wt (nm := α 44) (f := α 43) d1
      rw [r1]
      exact fin_gives hk hk6 hq d4 d5 (by rw [r2, gRl]; exact (sA_cg hf d1))
    · skip
      have h49 := Classical.not_not.mp h49
      have h49 := cI_eqT (a := q) (b := 0) rfl rfl (by omega) (by omega) h49
      show aw_W _ _ _ _ (50, [some (.ref 46), some (.int (nI q)), some (.int 0), none, none], []) (ae_en σ α z t0 ts)
      refine aw_go 10 rfl ⟨trivial, trivial, trivial, trivial, trivial, trivial, trivial, trivial, trivial, trivial, trivial⟩ ?_
      show aw_W _ _ _ _ (71, [some (.ref 46), some (.int (nI q)), some (.int 0), some (.int 0), some (.int ((170 * (σ 33)) + 0))], []) (ae_en σ α z t0 ts)
      rw [show (170 * (σ 33)) + 0 = nI ((170 * k) + 0) from (cI_add (a := 170 * k) (b := 0) (cI_mul (a := 170) (b := k) rfl hk) rfl)]
      obtain ⟨d1, d2, d3, d4, d5⟩ := hr1 h2 q hq
      refine aw_to (lp_gives hk hk6 hq d4 d5 (B.1 q) (w := 0) (p := tB B.1 q) (wt := α 43) d1 d2 d3 (Nat.le_refl _) (by omega) ?_) (by rw [h49]; rfl) rfl
      obtain ⟨r1, r2⟩ := sA_wt (nm := α 44) (f := α 43) d1
      rw [r1]
      exact fin_gives hk hk6 hq d4 d5 (by rw [r2, gRl]; exact (sA_cg hf d1))
  · skip
    have h2 := Classical.not_not.mp h2
    have h2 := cI_eqT (a := k) (b := 0) hk rfl (by omega) (by omega) h2
    show aw_W _ _ _ _ (3, [some (.ref 46), some (.int (nI q)), none, none, none], []) (ae_en σ α z t0 ts)
    refine aw_go 2 rfl ⟨trivial, trivial, trivial⟩ ?_
    refine aw_br (c := ¬ (nI q) = 0) (fun h4 => ?_) (fun h4 => ?_)
    · skip
      have h4 := cI_eqF (a := q) (b := 0) rfl rfl (by omega) (by omega) h4
      show aw_W _ _ _ _ (24, [some (.ref 46), some (.int (nI q)), none, none, none], []) (ae_en σ α z t0 ts)
      refine aw_go 3 rfl ⟨trivial, trivial, trivial, trivial⟩ ?_
      refine aw_br (c := ¬ (nI q) = 1) (fun h26 => ?_) (fun h26 => ?_)
      · skip
        have h26 := cI_eqF (a := q) (b := 1) rfl rfl (by omega) (by omega) h26
        show aw_W _ _ _ _ (34, [some (.ref 46), some (.int (nI q)), none, none, none], []) (ae_en σ α z t0 ts)
        refine aw_go 7 rfl ⟨trivial, trivial, trivial, trivial, trivial, (cI_in (a := 0) rfl (by omega) (by decide)), trivial, trivial⟩ ?_
        show aw_W _ _ _ _ (if (α 44 (0 : Int32).toNatClampNeg) ≤ (50 : Int32) then 43 else 41, [some (.ref 46), some (.int (nI q)), none, none, none], [.int 1]) (ae_en σ α z t0 ts)
        rw [show (0 : Int32).toNatClampNeg = 0 from cI_cl (a := 0) rfl (by omega)]
        refine aw_br (c := (α 44 0) ≤ (50 : Int32)) (fun h40 => ?_) (fun h40 => ?_)
        · skip
          show aw_W _ _ _ _ (43, [some (.ref 46), some (.int (nI q)), none, none, none], [.int 1]) (ae_en σ α z t0 ts)
          refine aw_go 2 rfl ⟨trivial, trivial, trivial⟩ ?_
          show aw_W _ _ _ _ (45, [some (.ref 46), some (.int (nI q)), none, none, none], [.int (1 + 0)]) (ae_en σ α z t0 ts)
          rw [show 1 + 0 = nI 1 from (cI_add (a := 1) (b := 0) rfl rfl)]
          refine aw_ret rfl rfl trivial ?_
          obtain rfl : q = 2 := by omega
          refine ⟨_, ?_, rfl⟩
          rw [gRl, hr0 h2]
          show _ = some (Value.int (sA _ s03))
          rw [sA_3, ← hf 0 (by decide), if_pos h40]
          all_goals rfl
        · skip
          show aw_W _ _ _ _ (41, [some (.ref 46), some (.int (nI q)), none, none, none], [.int 1]) (ae_en σ α z t0 ts)
          refine aw_go 3 rfl ⟨trivial, trivial, trivial, trivial⟩ ?_
          show aw_W _ _ _ _ (45, [some (.ref 46), some (.int (nI q)), none, none, none], [.int (1 + 2)]) (ae_en σ α z t0 ts)
          rw [show 1 + 2 = nI 3 from (cI_add (a := 1) (b := 2) rfl rfl)]
          refine aw_ret rfl rfl trivial ?_
          obtain rfl : q = 2 := by omega
          refine ⟨_, ?_, rfl⟩
          rw [gRl, hr0 h2]
          show _ = some (Value.int (sA _ s03))
          rw [sA_3, ← hf 0 (by decide), if_neg h40]
          all_goals rfl
      · skip
        have h26 := Classical.not_not.mp h26
        have h26 := cI_eqT (a := q) (b := 1) rfl rfl (by omega) (by omega) h26
        show aw_W _ _ _ _ (27, [some (.ref 46), some (.int (nI q)), none, none, none], []) (ae_en σ α z t0 ts)
        refine aw_go 7 rfl ⟨trivial, trivial, trivial, trivial, (cI_in (a := 5) rfl (by omega) (by decide)), trivial, trivial, trivial⟩ ?_
        show aw_W _ _ _ _ (45, [some (.ref 46), some (.int (nI q)), none, none, none], [.int (2 + (α 44 (5 : Int32).toNatClampNeg))]) (ae_en σ α z t0 ts)
        rw [show (5 : Int32).toNatClampNeg = 5 from cI_cl (a := 5) rfl (by omega)]
        refine aw_ret rfl rfl trivial ?_
        subst h26
        refine ⟨_, ?_, rfl⟩
        rw [gRl, hr0 h2]
        show _ = some (Value.int (sA _ s02))
        rw [sA_2, ← hf 5 (by decide)]
    · skip
      have h4 := Classical.not_not.mp h4
      have h4 := cI_eqT (a := q) (b := 0) rfl rfl (by omega) (by omega) h4
      show aw_W _ _ _ _ (5, [some (.ref 46), some (.int (nI q)), none, none, none], []) (ae_en σ α z t0 ts)
      refine aw_go 14 rfl ⟨trivial, trivial, trivial, trivial, (cI_in (a := 2) rfl (by omega) (by decide)), trivial, trivial, trivial, trivial, trivial, trivial, trivial, (cI_in (a := 1) rfl (by omega) (by decide)), trivial, trivial⟩ ?_
      show aw_W _ _ _ _ (if (α 44 (1 : Int32).toNatClampNeg) ≤ (50 : Int32) then 21 else 19, [some (.ref 46), some (.int (nI q)), none, none, none], [.int (2 + ((α 44 (2 : Int32).toNatClampNeg) * 3))]) (ae_en σ α z t0 ts)
      rw [show (2 : Int32).toNatClampNeg = 2 from cI_cl (a := 2) rfl (by omega)]
      rw [show (1 : Int32).toNatClampNeg = 1 from cI_cl (a := 1) rfl (by omega)]
      refine aw_br (c := (α 44 1) ≤ (50 : Int32)) (fun h18 => ?_) (fun h18 => ?_)
      · skip
        show aw_W _ _ _ _ (21, [some (.ref 46), some (.int (nI q)), none, none, none], [.int (2 + ((α 44 2) * 3))]) (ae_en σ α z t0 ts)
        refine aw_go 3 rfl ⟨trivial, trivial, trivial, trivial⟩ ?_
        show aw_W _ _ _ _ (45, [some (.ref 46), some (.int (nI q)), none, none, none], [.int ((2 + ((α 44 2) * 3)) + 0)]) (ae_en σ α z t0 ts)
        refine aw_ret rfl rfl trivial ?_
        subst h4
        refine ⟨_, ?_, rfl⟩
        rw [gRl, hr0 h2]
        show _ = some (Value.int (sA _ s01))
        rw [sA_1, ← hf 2 (by decide), ← hf 1 (by decide), if_pos h18]
      · skip
        show aw_W _ _ _ _ (19, [some (.ref 46), some (.int (nI q)), none, none, none], [.int (2 + ((α 44 2) * 3))]) (ae_en σ α z t0 ts)
        refine aw_go 4 rfl ⟨trivial, trivial, trivial, trivial, trivial⟩ ?_
        show aw_W _ _ _ _ (45, [some (.ref 46), some (.int (nI q)), none, none, none], [.int ((2 + ((α 44 2) * 3)) + 4)]) (ae_en σ α z t0 ts)
        refine aw_ret rfl rfl trivial ?_
        subst h4
        refine ⟨_, ?_, rfl⟩
        rw [gRl, hr0 h2]
        show _ = some (Value.int (sA _ s01))
        rw [sA_1, ← hf 2 (by decide), ← hf 1 (by decide), if_neg h18]
theorem ev_Model_takesUp {n : Nat} {B : ae_B} {p : Nat} {zd : Nat} (hM : mOk B n (σ 27) (σ 29) (σ 33) (α 31) (α 32) (α 33) (α 40) (α 41) (α 42)) (hp : p < n) : aw_X P (zd + 3) 139 [.ref 46, .int (nI p)] (ae_en σ α z t0 ts) (fun r H => ∃ (pl : Nat → Int32) (fr : Nat → Int32), r = some (.int (gTk B n (α 35) (σ 28) p)) ∧ H = (ae_en σ (au α [(43, pl), (44, fr)]) z t0 ts)) := by
  obtain ⟨hn, hn10, hs3, hk0, hk1, hk2, hbo, hru⟩ := id hM
  refine aw_ev (cd := cd_Model_takesUp) rfl rfl rfl ?_
  show aw_W _ _ _ _ (0, [some (.ref 46), some (.int (nI p)), none], []) (ae_en σ α z t0 ts)
  refine aw_go 2 rfl ⟨trivial, trivial, trivial⟩ ?_
  refine aw_call rfl rfl (ev_Model_findFacts (p := p) hM hp) ?_
  rintro _ _ ⟨fr_2, rfl, rfl, hf_2⟩
  show aw_W _ _ _ _ (3, [some (.ref 46), some (.int (nI p)), none], []) (ae_en σ (au α [(44, fr_2)]) z t0 ts)
  refine aw_go 2 rfl ⟨trivial, trivial, trivial⟩ ?_
  refine aw_call rfl rfl (ev_Model_gives (q := 0) hM (by decide) hf_2) ?_
  rintro _ _ ⟨pl_5, rfl, rfl⟩
  show aw_W _ _ _ _ (6, [some (.ref 46), some (.int (nI p)), none], [.int (gRl B n (α 35) (σ 28) p 0)]) (ae_en σ (au α [(43, pl_5), (44, fr_2)]) z t0 ts)
  refine aw_go 2 rfl ⟨trivial, trivial, trivial⟩ ?_
  refine aw_callE rfl rfl (ev_Model_held (v := (gRl B n (α 35) (σ 28) p 0)) (a := 0) (b := 100)) ?_
  show aw_W _ _ _ _ (9, [some (.ref 46), some (.int (nI p)), none], [.int (fHeld (gRl B n (α 35) (σ 28) p 0) 0 100)]) (ae_en σ (au α [(43, pl_5), (44, fr_2)]) z t0 ts)
  obtain ⟨sk, hsk, esk⟩ := bnd_clip (gRl B n (α 35) (σ 28) p 0) (m := 100) (by decide)
  rw [fHeld_m _ 100 (by decide), show fMx 0 (fMn 100 (gRl B n (α 35) (σ 28) p 0)) = nI sk from esk]
  replace esk : fMx 0 (fMn 100 (gRl B n (α 35) (σ 28) p 0)) = nI sk := esk
  refine aw_go 6 rfl ⟨trivial, trivial, trivial, trivial, (cI_in (a := p) rfl (by omega) (by decide)), trivial, trivial⟩ ?_
  show aw_W _ _ _ _ (ae_swt (α 31 (nI p).toNatClampNeg) 42 [(2, 15), (3, 23), (4, 38), (5, 19)], [some (.ref 46), some (.int (nI p)), some (.int (nI sk))], []) (ae_en σ (au α [(43, pl_5), (44, fr_2)]) z t0 ts)
  rw [show (nI p).toNatClampNeg = p from cI_cl (a := p) rfl (by omega)]
  refine aw_sw (x := α 31 p) (fun h14_2 => ?_) (fun h14_2 => ?_)
  · skip
    show aw_W _ _ _ _ (15, [some (.ref 46), some (.int (nI p)), some (.int (nI sk))], []) (ae_en σ (au α [(43, pl_5), (44, fr_2)]) z t0 ts)
    refine aw_go 3 rfl ⟨trivial, trivial, (by decide), trivial⟩ ?_
    show aw_W _ _ _ _ (18, [some (.ref 46), some (.int (nI p)), some (.int (nI sk))], [.int ((nI sk) / 2)]) (ae_en σ (au α [(43, pl_5), (44, fr_2)]) z t0 ts)
    refine aw_ret rfl rfl trivial ?_
    refine ⟨_, _, ?_, rfl⟩
    rw [gTk, fTk, esk, ← hk0, ← hk2, if_pos h14_2]
    all_goals rfl
  refine aw_sw (x := α 31 p) (fun h14_3 => ?_) (fun h14_3 => ?_)
  · skip
    show aw_W _ _ _ _ (23, [some (.ref 46), some (.int (nI p)), some (.int (nI sk))], []) (ae_en σ (au α [(43, pl_5), (44, fr_2)]) z t0 ts)
    refine aw_go 6 rfl ⟨trivial, trivial, trivial, trivial, (cI_in (a := p) rfl (by omega) (by decide)), trivial, trivial⟩ ?_
    show aw_W _ _ _ _ (if (nI sk) ≤ (α 33 (nI p).toNatClampNeg) then 36 else 29, [some (.ref 46), some (.int (nI p)), some (.int (nI sk))], []) (ae_en σ (au α [(43, pl_5), (44, fr_2)]) z t0 ts)
    rw [show (nI p).toNatClampNeg = p from cI_cl (a := p) rfl (by omega)]
    refine aw_br (c := (nI sk) ≤ (α 33 p)) (fun h28 => ?_) (fun h28 => ?_)
    · skip
      show aw_W _ _ _ _ (36, [some (.ref 46), some (.int (nI p)), some (.int (nI sk))], []) (ae_en σ (au α [(43, pl_5), (44, fr_2)]) z t0 ts)
      refine aw_go 1 rfl ⟨trivial, trivial⟩ ?_
      refine aw_ret rfl rfl trivial ?_
      refine ⟨_, _, ?_, rfl⟩
      rw [gTk, fTk, esk, ← hk0, ← hk2, if_neg h14_2, if_pos h14_3]
      obtain ⟨b, hb9, eb⟩ := (hbo p hp).2.2
      have e := (fMx_sub (a := sk) (b := b) (by omega) (by omega)).1
      rw [← eb, ← hk2] at e
      rw [e, if_neg (Int32.not_lt.mpr h28)]
      all_goals rfl
    · skip
      show aw_W _ _ _ _ (29, [some (.ref 46), some (.int (nI p)), some (.int (nI sk))], []) (ae_en σ (au α [(43, pl_5), (44, fr_2)]) z t0 ts)
      refine aw_go 7 rfl ⟨trivial, trivial, trivial, trivial, (cI_in (a := p) rfl (by omega) (by decide)), trivial, trivial, trivial⟩ ?_
      show aw_W _ _ _ _ (37, [some (.ref 46), some (.int (nI p)), some (.int (nI sk))], [.int ((nI sk) - (α 33 (nI p).toNatClampNeg))]) (ae_en σ (au α [(43, pl_5), (44, fr_2)]) z t0 ts)
      rw [show (nI p).toNatClampNeg = p from cI_cl (a := p) rfl (by omega)]
      refine aw_ret rfl rfl trivial ?_
      refine ⟨_, _, ?_, rfl⟩
      rw [gTk, fTk, esk, ← hk0, ← hk2, if_neg h14_2, if_pos h14_3]
      obtain ⟨b, hb9, eb⟩ := (hbo p hp).2.2
      have e := (fMx_sub (a := sk) (b := b) (by omega) (by omega)).1
      rw [← eb, ← hk2] at e
      rw [e, if_pos (Int32.not_le.mp h28)]
      all_goals rfl
  refine aw_sw (x := α 31 p) (fun h14_4 => ?_) (fun h14_4 => ?_)
  · skip
    show aw_W _ _ _ _ (38, [some (.ref 46), some (.int (nI p)), some (.int (nI sk))], []) (ae_en σ (au α [(43, pl_5), (44, fr_2)]) z t0 ts)
    refine aw_go 3 rfl ⟨trivial, trivial, trivial, trivial⟩ ?_
    show aw_W _ _ _ _ (41, [some (.ref 46), some (.int (nI p)), some (.int (nI sk))], [.int (2 * (nI sk))]) (ae_en σ (au α [(43, pl_5), (44, fr_2)]) z t0 ts)
    rw [show 2 * (nI sk) = nI (2 * sk) from (cI_mul (a := 2) (b := sk) rfl rfl)]
    refine aw_ret rfl rfl trivial ?_
    refine ⟨_, _, ?_, rfl⟩
    rw [gTk, fTk, esk, ← hk0, ← hk2, if_neg h14_2, if_neg h14_3, if_pos h14_4]
    rw [← pk_mul 2 sk]
    all_goals rfl
  refine aw_sw (x := α 31 p) (fun h14_5 => ?_) (fun h14_5 => ?_)
  · skip
    show aw_W _ _ _ _ (19, [some (.ref 46), some (.int (nI p)), some (.int (nI sk))], []) (ae_en σ (au α [(43, pl_5), (44, fr_2)]) z t0 ts)
    refine aw_go 3 rfl ⟨trivial, trivial, (by decide), trivial⟩ ?_
    show aw_W _ _ _ _ (22, [some (.ref 46), some (.int (nI p)), some (.int (nI sk))], [.int ((nI sk) / 2)]) (ae_en σ (au α [(43, pl_5), (44, fr_2)]) z t0 ts)
    refine aw_ret rfl rfl trivial ?_
    refine ⟨_, _, ?_, rfl⟩
    rw [gTk, fTk, esk, ← hk0, ← hk2, if_neg h14_2, if_neg h14_3, if_neg h14_4, if_pos h14_5]
    all_goals rfl
  show aw_W _ _ _ _ (42, [some (.ref 46), some (.int (nI p)), some (.int (nI sk))], []) (ae_en σ (au α [(43, pl_5), (44, fr_2)]) z t0 ts)
  refine aw_go 1 rfl ⟨trivial, trivial⟩ ?_
  refine aw_ret rfl rfl trivial ?_
  refine ⟨_, _, ?_, rfl⟩
  rw [gTk, fTk, esk, ← hk0, ← hk2, if_neg h14_2, if_neg h14_3, if_neg h14_4, if_neg h14_5]
  all_goals rfl
theorem lp_mComes {zd : Nat} {n : Nat} {B : ae_B} {pl fr : Nat → Int32} {l3 : Option Value} (hM : mOk B n (σ 27) (σ 29) (σ 33) (α 31) (α 32) (α 33) (α 40) (α 41) (α 42)) (hw : wOk n (α 35)) (hn : (σ 27) = nI n) (hn10 : n ≤ 10) (k : Nat) (hk : k ≤ n - 1) : aw_W P (zd + 3) cd_Model_comesIn (fun r H => ∃ (pl : Nat → Int32) (fr : Nat → Int32), r = some (.int (rCm B n (α 35) (α 36) (α 37) (σ 28) (sumF (α 34) n) (n - 1))) ∧ H = (ae_en σ (au α [(43, pl), (44, fr)]) z t0 ts)) (7, [some (.ref 46), some (.int (rCm B n (α 35) (α 36) (α 37) (σ 28) (sumF (α 34) n) k)), some (.int (nI k)), l3], []) (ae_en σ (au α [(43, pl), (44, fr)]) z t0 ts) := by
  refine aw_go 6 rfl ⟨trivial, trivial, trivial, trivial, trivial, trivial, trivial⟩ ?_
  show aw_W _ _ _ _ (if (σ 27) ≤ ((nI k) + 1) then 36 else 13, [some (.ref 46), some (.int (rCm B n (α 35) (α 36) (α 37) (σ 28) (sumF (α 34) n) k)), some (.int (nI k)), l3], []) (ae_en σ (au α [(43, pl), (44, fr)]) z t0 ts)
  refine aw_br (c := (σ 27) ≤ ((nI k) + 1)) (fun h12 => ?_) (fun h12 => ?_)
  · skip
    have h12 := cI_leT (a := n) (b := k + 1) hn (cI_add (a := k) (b := 1) rfl rfl) (by omega) (by omega) h12
    show aw_W _ _ _ _ (36, [some (.ref 46), some (.int (rCm B n (α 35) (α 36) (α 37) (σ 28) (sumF (α 34) n) k)), some (.int (nI k)), l3], []) (ae_en σ (au α [(43, pl), (44, fr)]) z t0 ts)
    have e8 : k = n - 1 := by omega
    refine aw_go 1 rfl ⟨trivial, trivial⟩ ?_
    refine aw_ret rfl rfl trivial ?_
    rw [e8]
    exact ⟨_, _, rfl, rfl⟩
  · skip
    have h12 := cI_leF (a := n) (b := k + 1) hn (cI_add (a := k) (b := 1) rfl rfl) (by omega) (by omega) h12
    show aw_W _ _ _ _ (13, [some (.ref 46), some (.int (rCm B n (α 35) (α 36) (α 37) (σ 28) (sumF (α 34) n) k)), some (.int (nI k)), l3], []) (ae_en σ (au α [(43, pl), (44, fr)]) z t0 ts)
    refine aw_go 2 rfl ⟨trivial, trivial, trivial⟩ ?_
    refine aw_callE rfl rfl (ev_Model_openOf (g := k) hM hw (by omega)) ?_
    show aw_W _ _ _ _ (16, [some (.ref 46), some (.int (rCm B n (α 35) (α 36) (α 37) (σ 28) (sumF (α 34) n) k)), some (.int (nI k)), l3], [.int (rOp B (α 35) (α 36) (α 37) k)]) (ae_en σ (au α [(43, pl), (44, fr)]) z t0 ts)
    refine aw_go 3 rfl ⟨trivial, trivial, trivial, trivial⟩ ?_
    refine aw_br (c := ¬ (rOp B (α 35) (α 36) (α 37) k) = 0) (fun h18 => ?_) (fun h18 => ?_)
    · skip
      show aw_W _ _ _ _ (20, [some (.ref 46), some (.int (rCm B n (α 35) (α 36) (α 37) (σ 28) (sumF (α 34) n) k)), some (.int (nI k)), some (.int (rOp B (α 35) (α 36) (α 37) k))], []) (ae_en σ (au α [(43, pl), (44, fr)]) z t0 ts)
      have hz : 0 < rOp B (α 35) (α 36) (α 37) k := Int32.not_le.mp (fun q => h18 (Int32.le_antisymm q (rOp_nn _ _ _ _ _)))
      refine aw_go 2 rfl ⟨trivial, trivial, trivial⟩ ?_
      refine aw_call rfl rfl (ev_Model_findFacts (p := k) hM (by omega)) ?_
      rintro _ _ ⟨fr_22, rfl, rfl, hf_22⟩
      show aw_W _ _ _ _ (23, [some (.ref 46), some (.int (rCm B n (α 35) (α 36) (α 37) (σ 28) (sumF (α 34) n) k)), some (.int (nI k)), some (.int (rOp B (α 35) (α 36) (α 37) k))], []) (ae_en σ (au α [(43, pl), (44, fr_22)]) z t0 ts)
      refine aw_go 4 rfl ⟨trivial, trivial, trivial, trivial, trivial⟩ ?_
      refine aw_call rfl rfl (ev_Model_gives (q := 1) hM (by decide) hf_22) ?_
      rintro _ _ ⟨pl_27, rfl, rfl⟩
      show aw_W _ _ _ _ (28, [some (.ref 46), some (.int (rCm B n (α 35) (α 36) (α 37) (σ 28) (sumF (α 34) n) k)), some (.int (nI k)), some (.int (rOp B (α 35) (α 36) (α 37) k))], [.int (gRl B n (α 35) (σ 28) k 1), .int (rOp B (α 35) (α 36) (α 37) k), .int (rCm B n (α 35) (α 36) (α 37) (σ 28) (sumF (α 34) n) k)]) (ae_en σ (au α [(43, pl_27), (44, fr_22)]) z t0 ts)
      refine aw_go 2 rfl ⟨trivial, trivial, trivial⟩ ?_
      refine aw_callE rfl rfl (ev_Model_held (v := (gRl B n (α 35) (σ 28) k 1)) (a := 0) (b := 999)) ?_
      show aw_W _ _ _ _ (31, [some (.ref 46), some (.int (rCm B n (α 35) (α 36) (α 37) (σ 28) (sumF (α 34) n) k)), some (.int (nI k)), some (.int (rOp B (α 35) (α 36) (α 37) k))], [.int (fHeld (gRl B n (α 35) (σ 28) k 1) 0 999), .int (rOp B (α 35) (α 36) (α 37) k), .int (rCm B n (α 35) (α 36) (α 37) (σ 28) (sumF (α 34) n) k)]) (ae_en σ (au α [(43, pl_27), (44, fr_22)]) z t0 ts)
      refine aw_go 5 rfl ⟨trivial, trivial, trivial, trivial, trivial, trivial⟩ ?_
      show aw_W _ _ _ _ (7, [some (.ref 46), some (.int ((rCm B n (α 35) (α 36) (α 37) (σ 28) (sumF (α 34) n) k) + ((rOp B (α 35) (α 36) (α 37) k) * (fHeld (gRl B n (α 35) (σ 28) k 1) 0 999)))), some (.int ((nI k) + 1)), some (.int (rOp B (α 35) (α 36) (α 37) k))], []) (ae_en σ (au α [(43, pl_27), (44, fr_22)]) z t0 ts)
      rw [show (nI k) + 1 = nI (k + 1) from (cI_add (a := k) (b := 1) rfl rfl)]
      rw [fHeld_m _ 999 (by decide)]
      rw [show (rCm B n (α 35) (α 36) (α 37) (σ 28) (sumF (α 34) n) k) + ((rOp B (α 35) (α 36) (α 37) k) * (fMx 0 (fMn 999 (gRl B n (α 35) (σ 28) k 1)))) = rCm B n (α 35) (α 36) (α 37) (σ 28) (sumF (α 34) n) (k + 1) from congrArg (fun q => rCm B n (α 35) (α 36) (α 37) (σ 28) (sumF (α 34) n) k + q) (if_pos hz).symm]
      exact lp_mComes hM hw hn hn10 (k + 1) (by omega)
    · skip
      have h18 := Classical.not_not.mp h18
      show aw_W _ _ _ _ (19, [some (.ref 46), some (.int (rCm B n (α 35) (α 36) (α 37) (σ 28) (sumF (α 34) n) k)), some (.int (nI k)), some (.int (rOp B (α 35) (α 36) (α 37) k))], []) (ae_en σ (au α [(43, pl), (44, fr)]) z t0 ts)
      have hz : ¬ 0 < rOp B (α 35) (α 36) (α 37) k := by rw [h18]; decide
      refine aw_go 3 rfl ⟨trivial, trivial, trivial, trivial⟩ ?_
      show aw_W _ _ _ _ (7, [some (.ref 46), some (.int (rCm B n (α 35) (α 36) (α 37) (σ 28) (sumF (α 34) n) k)), some (.int ((nI k) + 1)), some (.int (rOp B (α 35) (α 36) (α 37) k))], []) (ae_en σ (au α [(43, pl), (44, fr)]) z t0 ts)
      rw [show (nI k) + 1 = nI (k + 1) from (cI_add (a := k) (b := 1) rfl rfl)]
      rw [show rCm B n (α 35) (α 36) (α 37) (σ 28) (sumF (α 34) n) k = rCm B n (α 35) (α 36) (α 37) (σ 28) (sumF (α 34) n) (k + 1) from (show rCm B n (α 35) (α 36) (α 37) (σ 28) (sumF (α 34) n) (k + 1) = _ from by rw [rCm, if_neg hz, Int32.add_zero]).symm]
      exact lp_mComes hM hw hn hn10 (k + 1) (by omega)
termination_by n - k
decreasing_by all_goals omega
theorem ev_Model_comesIn {n : Nat} {B : ae_B} {zd : Nat} (hM : mOk B n (σ 27) (σ 29) (σ 33) (α 31) (α 32) (α 33) (α 40) (α 41) (α 42)) (hw : wOk n (α 35)) : aw_X P (zd + 4) 147 [.ref 46] (ae_en σ α z t0 ts) (fun r H => ∃ (pl : Nat → Int32) (fr : Nat → Int32), r = some (.int (rCm B n (α 35) (α 36) (α 37) (σ 28) (sumF (α 34) n) (n - 1))) ∧ H = (ae_en σ (au α [(43, pl), (44, fr)]) z t0 ts)) := by
  obtain ⟨hn, hn10, hs3, hk0, hk1, hk2, hbo, hru⟩ := id hM
  refine aw_ev (cd := cd_Model_comesIn) rfl rfl rfl ?_
  show aw_W _ _ _ _ (0, [some (.ref 46), none, none, none], []) (ae_en σ α z t0 ts)
  refine aw_go 2 rfl ⟨trivial, trivial, trivial⟩ ?_
  refine aw_callE rfl rfl (ev_Model_allNails  hn hn10) ?_
  show aw_W _ _ _ _ (3, [some (.ref 46), none, none, none], [.int (sumF (α 34) n), .int 10]) (ae_en σ α z t0 ts)
  refine aw_go 4 rfl ⟨trivial, trivial, trivial, trivial, trivial⟩ ?_
  show aw_W _ _ _ _ (7, [some (.ref 46), some (.int (10 * (sumF (α 34) n))), some (.int 0), none], []) (ae_en σ α z t0 ts)
  exact aw_to (lp_mComes (pl := α 43) (fr := α 44) hM hw hn hn10 0 (Nat.zero_le _)) rfl rfl
theorem ev_Model_comes {n : Nat} {B : ae_B} {zd : Nat} (hM : mOk B n (σ 27) (σ 29) (σ 33) (α 31) (α 32) (α 33) (α 40) (α 41) (α 42)) (hw : wOk n (α 35)) : aw_X P (zd + 5) 148 [.ref 46] (ae_en σ α z t0 ts) (fun r H => ∃ (pl : Nat → Int32) (fr : Nat → Int32), r = some (.int (rCm B n (α 35) (α 36) (α 37) (σ 28) (sumF (α 34) n) (n - 1))) ∧ H = (ae_en σ (au α [(43, pl), (44, fr)]) z t0 ts)) := by
  refine aw_ev (cd := cd_Model_comes) rfl rfl rfl ?_
  show aw_W _ _ _ _ (0, [some (.ref 46)], []) (ae_en σ α z t0 ts)
  refine aw_go 1 rfl ⟨trivial, trivial⟩ ?_
  refine aw_call rfl rfl (ev_Model_comesIn  hM hw) ?_
  rintro _ _ ⟨pl_1, fr_1, rfl, rfl⟩
  show aw_W _ _ _ _ (2, [some (.ref 46)], [.int (rCm B n (α 35) (α 36) (α 37) (σ 28) (sumF (α 34) n) (n - 1))]) (ae_en σ (au α [(43, pl_1), (44, fr_1)]) z t0 ts)
  refine aw_ret rfl rfl trivial ?_
  exact ⟨_, _, rfl, rfl⟩
end L42
