/-! the reference: nails; calls that change a boat -/
theorem iP_in {m : Nat} (hm : m < 1000000) {x : Int32} : (¬ x < 0 ∧ ¬ nI m < x) ↔ iP (m + 1) x := by
  constructor
  · rintro ⟨h1, h2⟩
    obtain ⟨j, hj, rfl⟩ := nI_of h1
    rw [nI_ltI (by omega) hj] at h2
    exact iP_nI (by omega) (by omega)
  · intro h
    obtain ⟨j, hj, rfl⟩ := iP_of h (by omega)
    exact ⟨nI_pos (by omega), by rw [nI_ltI (by omega) (by omega)]; omega⟩
theorem okP_m {k x m : Int32} (h1 : ¬ k < 0 ∧ ¬ 5 < k) (h2 : ¬ x < 0 ∧ ¬ 100999 < x) (h3 : ¬ x / 1000 < 0 ∧ ¬ 100 < x / 1000) (h4 : ¬ x - x / 1000 * 1000 < 10 ∧ ¬ 300 < x - x / 1000 * 1000) (h5 : ¬ m < 0 ∧ ¬ 2009 < m) : okP k x m := by
  refine ⟨(iP_in (m := 5) (by decide)).mp h1, h2.1, h5.1, h3.2, h4.1, h4.2, ?_⟩
  obtain ⟨y, hy, rfl⟩ := nI_of h5.1
  have h6 : ¬ nI 2009 < nI y := h5.2
  rw [nI_ltI (by decide) hy] at h6
  show ¬ nI 200 < nI y / nI 10
  rw [pk_div hy (by decide) (by decide), nI_ltI (by decide) (by omega)]
  omega
theorem okP_2 {k x m : Int32} (h : okP k x m) : (¬ k < 0 ∧ ¬ 5 < k) ∧ (¬ x < 0 ∧ ¬ 100999 < x) ∧ (¬ x / 1000 < 0 ∧ ¬ 100 < x / 1000) ∧ (¬ x - x / 1000 * 1000 < 10 ∧ ¬ 300 < x - x / 1000 * 1000) ∧ (¬ m < 0 ∧ ¬ 2009 < m) := by
  obtain ⟨a1, a2, a3, a4, a5, a6, a7⟩ := h
  obtain ⟨y, hy, rfl⟩ := nI_of a2
  obtain ⟨u, hu, rfl⟩ := nI_of a3
  have e : nI y / 1000 = nI (y / 1000) := pk_div (d := 1000) hy (by decide) (by decide)
  have e2 : nI u / 10 = nI (u / 10) := pk_div (d := 10) hu (by decide) (by decide)
  rw [e2] at a7
  have a7 : ¬ nI 200 < nI (u / 10) := a7
  rw [nI_ltI (by decide) (by omega)] at a7
  have b4 := a4
  rw [e] at b4
  have b4 : ¬ nI 100 < nI (y / 1000) := b4
  rw [nI_ltI (by decide) (by omega)] at b4
  refine ⟨(iP_in (m := 5) (by decide)).mpr a1, ⟨a2, ?_⟩, ⟨?_, a4⟩, ⟨a5, a6⟩, a3, ?_⟩
  · show ¬ nI 100999 < nI y
    rw [nI_ltI (by decide) hy]
    omega
  · rw [e]; exact nI_pos (by omega)
  · show ¬ nI 2009 < nI u
    rw [nI_ltI (by decide) hu]
    omega
section L51
variable {P : ae_P} {σ : Nat → Int32} {α : Nat → Nat → Int32} {z : Int64} {t0 : ae_T} {ts : List ae_T}

theorem lp_mGcd {zd p A C : Nat} {l10 : Option Value} {H : ae_H} (hp : p ≤ 1) (hA : A < 2 ^ 31) (hC : C < 2 ^ 31) (hA0 : 0 < A) (hC0 : 0 < C) {a b : Nat} (ha : a < 2 ^ 31) (hb : b < 2 ^ 31) (hG : Nat.gcd a b = Nat.gcd A C) : aw_W P zd cd_Model_nails (fun r H1 => r = some (.long (if p = 0 then lN A / lN (Nat.gcd A C) else lN C / lN (Nat.gcd A C))) ∧ H1 = H) (35, [some (.ref 46), some (.int (nI p)), some (.long (lN C)), none, some (.long (lN A)), none, some (.long (lN a)), none, some (.long (lN b)), none, l10, none], []) H := by
  have hGp : 0 < Nat.gcd A C := Nat.gcd_pos_of_pos_left _ hA0
  have hGn : ¬ lN (Nat.gcd A C) = 0 := fun q => by
    have := (lN_eq (b := 0) (Nat.lt_of_le_of_lt (Nat.gcd_le_left _ hA0) hA) (by decide)).mp q
    omega
  refine aw_go 4 rfl ⟨trivial, trivial, trivial, trivial, trivial⟩ ?_
  show aw_W _ _ _ _ (if (lg_cmp (lN b) 0) = 0 then 48 else 39, [some (.ref 46), some (.int (nI p)), some (.long (lN C)), none, some (.long (lN A)), none, some (.long (lN a)), none, some (.long (lN b)), none, l10, none], []) H
  refine aw_br (c := (lg_cmp (lN b) 0) = 0) (fun h38 => ?_) (fun h38 => ?_)
  · skip
    show aw_W _ _ _ _ (48, [some (.ref 46), some (.int (nI p)), some (.long (lN C)), none, some (.long (lN A)), none, some (.long (lN a)), none, some (.long (lN b)), none, l10, none], []) H
    have hb0 : b = 0 := (lgc0 hb).mp h38
    rw [hb0, Nat.gcd_zero_right] at hG
    rw [hG]
    refine aw_go 2 rfl ⟨trivial, trivial, trivial⟩ ?_
    refine aw_br (c := ¬ (nI p) = 0) (fun h49 => ?_) (fun h49 => ?_)
    · skip
      have h49 := cI_eqF (a := p) (b := 0) rfl rfl (by omega) (by omega) h49
      show aw_W _ _ _ _ (54, [some (.ref 46), some (.int (nI p)), some (.long (lN C)), none, some (.long (lN A)), none, some (.long (lN (Nat.gcd A C))), none, some (.long (lN b)), none, l10, none], []) H
      refine aw_go 3 rfl ⟨trivial, trivial, (by first | exact hGn | (rw [← hG]; exact hGn) | (rw [hG]; exact hGn)), trivial⟩ ?_
      show aw_W _ _ _ _ (57, [some (.ref 46), some (.int (nI p)), some (.long (lN C)), none, some (.long (lN A)), none, some (.long (lN (Nat.gcd A C))), none, some (.long (lN b)), none, l10, none], [.long ((lN C) / (lN (Nat.gcd A C)))]) H
      refine aw_ret rfl rfl trivial ?_
      exact ⟨by rw [if_neg h49], rfl⟩
    · skip
      have h49 := Classical.not_not.mp h49
      have h49 := cI_eqT (a := p) (b := 0) rfl rfl (by omega) (by omega) h49
      show aw_W _ _ _ _ (50, [some (.ref 46), some (.int (nI p)), some (.long (lN C)), none, some (.long (lN A)), none, some (.long (lN (Nat.gcd A C))), none, some (.long (lN b)), none, l10, none], []) H
      refine aw_go 4 rfl ⟨trivial, trivial, (by first | exact hGn | (rw [← hG]; exact hGn) | (rw [hG]; exact hGn)), trivial, trivial⟩ ?_
      show aw_W _ _ _ _ (57, [some (.ref 46), some (.int (nI p)), some (.long (lN C)), none, some (.long (lN A)), none, some (.long (lN (Nat.gcd A C))), none, some (.long (lN b)), none, l10, none], [.long ((lN A) / (lN (Nat.gcd A C)))]) H
      refine aw_ret rfl rfl trivial ?_
      exact ⟨by rw [if_pos h49], rfl⟩
  · skip
    show aw_W _ _ _ _ (39, [some (.ref 46), some (.int (nI p)), some (.long (lN C)), none, some (.long (lN A)), none, some (.long (lN a)), none, some (.long (lN b)), none, l10, none], []) H
    have hb0 : ¬ b = 0 := fun q => h38 ((lgc0 hb).mpr q)
    refine aw_go 3 rfl ⟨trivial, trivial, (fun q => hb0 (by have := (lN_eq (b := 0) hb (by decide)).mp q; exact this)), trivial⟩ ?_
    show aw_W _ _ _ _ (42, [some (.ref 46), some (.int (nI p)), some (.long (lN C)), none, some (.long (lN A)), none, some (.long (lN a)), none, some (.long (lN b)), none, l10, none], [.long ((lN a) - (lN a) / (lN b) * (lN b))]) H
    rw [show lN a - lN a / lN b * lN b = lN (a % b) from pk_lRem (by omega) (by omega) (by omega)]
    refine aw_go 6 rfl ⟨trivial, trivial, trivial, trivial, trivial, trivial, trivial⟩ ?_
    have hmod : a % b < b := Nat.mod_lt _ (by omega)
    exact lp_mGcd hp hA hC hA0 hC0 hb (by omega) (by rw [← hG, Nat.gcd_comm a b, Nat.gcd_rec b a, Nat.gcd_comm])
termination_by b
decreasing_by all_goals omega
theorem ev_Model_nails {n : Nat} {B : ae_B} {x0 : Int32} {zd : Nat} (hM : mOk B n (σ 27) (σ 29) (σ 33) (α 31) (α 32) (α 33) (α 40) (α 41) (α 42)) (hw : wOk n (α 35)) (hv : vOk n 200 (α 36)) (hs : vOk n 100 (α 37)) (hnl : nOk n (α 34)) : aw_X P (zd + 6) 167 [.ref 46, .int x0] (ae_en σ α z t0 ts) (fun r H => ∃ (mg : Int32) (md : Int32) (mw : Int32) (mc : Int32) (pl : Nat → Int32) (fr : Nat → Int32) (tk : Nat → Int32) (ww : Nat → Int32) (wg : Nat → Int32) (wf : Nat → Int32) (zq : Int64), r = some (.long (aNails (rCm B n (α 35) (α 36) (α 37) (σ 28) (sumF (α 34) n) (n - 1)) (10 * sumF (α 34) n) x0)) ∧ H = (ae_en (au σ [(41, mg), (42, md), (43, mw), (44, mc)]) (au α [(43, pl), (44, fr), (47, tk), (48, ww), (49, wg), (50, wf)]) zq t0 ts)) := by
  obtain ⟨hn, hn10, hs3, hk0, hk1, hk2, hbo, hru⟩ := id hM
  have hnb : bnd (sumF (α 34) n) 990 := by
    obtain ⟨a, ha, ea⟩ := sumF_b hnl n (Nat.le_refl n)
    exact ⟨a, by omega, ea⟩
  obtain ⟨cm, hcm, ecm⟩ := rCm_b (dy := (σ 28)) hbo hw hv hs hnb (n - 1) (Nat.le_refl _)
  have hcm2 : cm ≤ 1808100 := by omega
  obtain ⟨an, han, ean⟩ := hnb
  have eA : 10 * sumF (α 34) n = nI (10 * an) := by rw [ean]; exact pk_mul 10 an
  have hq1 : 10 * an / Nat.gcd (10 * an) cm ≤ 10 * an := Nat.div_le_self _ _
  have hq2 : cm / Nat.gcd (10 * an) cm ≤ cm := Nat.div_le_self _ _
  refine aw_ev (cd := cd_Model_nails) rfl rfl rfl ?_
  show aw_W _ _ _ _ (0, [some (.ref 46), some (.int x0), none, none, none, none, none, none, none, none, none, none], []) (ae_en σ α z t0 ts)
  refine aw_go 3 rfl ⟨trivial, trivial, trivial, trivial⟩ ?_
  refine aw_callE rfl rfl (em_in (v := x0) (a := 0) (b := 1)) ?_
  show aw_W _ _ _ _ (4, [some (.ref 46), some (.int x0), none, none, none, none, none, none, none, none, none, none], [.int (bI (¬ x0 < 0 ∧ ¬ 1 < x0))]) (ae_en σ α z t0 ts)
  refine aw_go 1 rfl ⟨trivial, trivial⟩ ?_
  refine aw_br (c := ¬ (bI (¬ x0 < 0 ∧ ¬ 1 < x0)) = 0) (fun h4 => ?_) (fun h4 => ?_)
  · skip
    have h4 := bI_t h4
    show aw_W _ _ _ _ (7, [some (.ref 46), some (.int x0), none, none, none, none, none, none, none, none, none, none], []) (ae_en σ α z t0 ts)
    obtain ⟨p, hp, rfl⟩ := nI_of2 (x := x0) (M := 1) (n := 1) rfl h4.1 (Int32.not_lt.mp h4.2)
    have hp01 : nI p = 0 ∨ nI p = 1 := by
      rcases (show p = 0 ∨ p = 1 by omega) with q | q
      · exact Or.inl (by rw [q]; rfl)
      · exact Or.inr (by rw [q]; rfl)
    refine aw_go 1 rfl ⟨trivial, trivial⟩ ?_
    refine aw_call rfl rfl (ev_Model_comesIn  hM hw) ?_
    rintro _ _ ⟨pl_8, fr_8, rfl, rfl⟩
    show aw_W _ _ _ _ (9, [some (.ref 46), some (.int (nI p)), none, none, none, none, none, none, none, none, none, none], [.int (rCm B n (α 35) (α 36) (α 37) (σ 28) (sumF (α 34) n) (n - 1))]) (ae_en σ (au α [(43, pl_8), (44, fr_8)]) z t0 ts)
    rw [show rCm B n (α 35) (α 36) (α 37) (σ 28) (sumF (α 34) n) (n - 1) = nI cm from ecm]
    refine aw_go 1 rfl ⟨trivial, trivial⟩ ?_
    show aw_W _ _ _ _ (10, [some (.ref 46), some (.int (nI p)), none, none, none, none, none, none, none, none, none, none], [.long ((nI cm).toInt64)]) (ae_en σ (au α [(43, pl_8), (44, fr_8)]) z t0 ts)
    rw [nI_l (n := cm) (by omega)]
    refine aw_go 3 rfl ⟨trivial, trivial, trivial, trivial⟩ ?_
    refine aw_callE rfl rfl (ev_Model_allNails  hn hn10) ?_
    show aw_W _ _ _ _ (14, [some (.ref 46), some (.int (nI p)), some (.long (lN cm)), none, none, none, none, none, none, none, none, none], [.int (sumF (α 34) n), .long 10]) (ae_en σ (au α [(43, pl_8), (44, fr_8)]) z t0 ts)
    rw [show sumF (α 34) n = nI an from ean]
    refine aw_go 2 rfl ⟨trivial, trivial, trivial⟩ ?_
    show aw_W _ _ _ _ (16, [some (.ref 46), some (.int (nI p)), some (.long (lN cm)), none, none, none, none, none, none, none, none, none], [.long (10 * ((nI an).toInt64))]) (ae_en σ (au α [(43, pl_8), (44, fr_8)]) z t0 ts)
    rw [nI_l (n := an) (by omega), show (10 : Int64) * lN an = lN (10 * an) from lN_mul 10 an]
    refine aw_go 5 rfl ⟨trivial, trivial, trivial, trivial, trivial, trivial⟩ ?_
    show aw_W _ _ _ _ (if (lg_cmp (lN cm) 0) = 0 then 25 else 21, [some (.ref 46), some (.int (nI p)), some (.long (lN cm)), none, some (.long (lN (10 * an))), none, none, none, none, none, none, none], []) (ae_en σ (au α [(43, pl_8), (44, fr_8)]) z t0 ts)
    refine aw_br (c := (lg_cmp (lN cm) 0) = 0) (fun h20 => ?_) (fun h20 => ?_)
    · skip
      show aw_W _ _ _ _ (25, [some (.ref 46), some (.int (nI p)), some (.long (lN cm)), none, some (.long (lN (10 * an))), none, none, none, none, none, none, none], []) (ae_en σ (au α [(43, pl_8), (44, fr_8)]) z t0 ts)
      refine aw_go 2 rfl ⟨trivial, trivial, trivial⟩ ?_
      refine aw_br (c := ¬ (nI p) = 0) (fun h26 => ?_) (fun h26 => ?_)
      · skip
        have h26 := cI_eqF (a := p) (b := 0) rfl rfl (by omega) (by omega) h26
        show aw_W _ _ _ _ (29, [some (.ref 46), some (.int (nI p)), some (.long (lN cm)), none, some (.long (lN (10 * an))), none, none, none, none, none, none, none], []) (ae_en σ (au α [(43, pl_8), (44, fr_8)]) z t0 ts)
        refine aw_go 1 rfl ⟨trivial, trivial⟩ ?_
        refine aw_ret rfl rfl trivial ?_
        refine ⟨σ 41, σ 42, σ 43, σ 44, pl_8, fr_8, α 47, α 48, α 49, α 50, z, ?_, rfl⟩
        have hc0 : cm = 0 := (lgc0 (by omega)).mp h20
        rw [aNails, if_pos hp01, if_pos (by rw [hc0]; rfl), show p = 1 by omega]
        all_goals rfl
      · skip
        have h26 := Classical.not_not.mp h26
        have h26 := cI_eqT (a := p) (b := 0) rfl rfl (by omega) (by omega) h26
        show aw_W _ _ _ _ (27, [some (.ref 46), some (.int (nI p)), some (.long (lN cm)), none, some (.long (lN (10 * an))), none, none, none, none, none, none, none], []) (ae_en σ (au α [(43, pl_8), (44, fr_8)]) z t0 ts)
        refine aw_go 2 rfl ⟨trivial, trivial, trivial⟩ ?_
        refine aw_ret rfl rfl trivial ?_
        refine ⟨σ 41, σ 42, σ 43, σ 44, pl_8, fr_8, α 47, α 48, α 49, α 50, z, ?_, rfl⟩
        have hc0 : cm = 0 := (lgc0 (by omega)).mp h20
        rw [aNails, if_pos hp01, if_pos (by rw [hc0]; rfl), show p = 0 from h26]
        all_goals rfl
    · skip
      show aw_W _ _ _ _ (21, [some (.ref 46), some (.int (nI p)), some (.long (lN cm)), none, some (.long (lN (10 * an))), none, none, none, none, none, none, none], []) (ae_en σ (au α [(43, pl_8), (44, fr_8)]) z t0 ts)
      refine aw_go 4 rfl ⟨trivial, trivial, trivial, trivial, trivial⟩ ?_
      show aw_W _ _ _ _ (if ¬ (lg_cmp (lN (10 * an)) 0) = 0 then 31 else 25, [some (.ref 46), some (.int (nI p)), some (.long (lN cm)), none, some (.long (lN (10 * an))), none, none, none, none, none, none, none], []) (ae_en σ (au α [(43, pl_8), (44, fr_8)]) z t0 ts)
      refine aw_br (c := ¬ (lg_cmp (lN (10 * an)) 0) = 0) (fun h24 => ?_) (fun h24 => ?_)
      · skip
        show aw_W _ _ _ _ (31, [some (.ref 46), some (.int (nI p)), some (.long (lN cm)), none, some (.long (lN (10 * an))), none, none, none, none, none, none, none], []) (ae_en σ (au α [(43, pl_8), (44, fr_8)]) z t0 ts)
        refine aw_go 4 rfl ⟨trivial, trivial, trivial, trivial, trivial⟩ ?_
        have hc0 : ¬ cm = 0 := fun q => h20 ((lgc0 (by omega)).mpr q)
        have hA0 : ¬ 10 * an = 0 := fun q => h24 ((lgc0 (by omega)).mpr q)
        refine aw_mono (lp_mGcd (A := 10 * an) (C := cm) (l10 := none) hp (by omega) (by omega) (by omega) (by omega) (a := 10 * an) (b := cm) (by omega) (by omega) rfl) ?_
        rintro r H ⟨rfl, rfl⟩
        refine ⟨σ 41, σ 42, σ 43, σ 44, pl_8, fr_8, α 47, α 48, α 49, α 50, z, ?_, rfl⟩
        have hG : 0 < Nat.gcd (10 * an) cm := Nat.gcd_pos_of_pos_left _ (by omega)
        have hG2 : Nat.gcd (10 * an) cm ≤ 10 * an := Nat.gcd_le_left _ (by omega)
        rw [aNails, show (10 : Int32) * nI an = nI (10 * an) from pk_mul 10 an, if_pos hp01, if_neg (nI_ne0 (by omega) (by omega)), gcI_g 21 64 _ _ (by omega) (by omega) (by omega) (by decide), if_neg (show ¬ nI (Nat.gcd (10 * an) cm) < 1 from nI_nlt (b := 1) (by omega) (by omega))]
        rcases (show p = 0 ∨ p = 1 by omega) with q | q
        · rw [if_pos q, if_pos (show nI p = 0 by rw [q]; rfl), pk_div (by omega) hG (by omega), nI_l (by omega : 10 * an / Nat.gcd (10 * an) cm < 2 ^ 31), pk_lDiv (by omega) hG (by omega)]
        · rw [if_neg (show ¬ p = 0 by omega), if_neg (show ¬ nI p = 0 from nI_ne0 (by omega) (by omega)), pk_div (by omega) hG (by omega), nI_l (by omega : cm / Nat.gcd (10 * an) cm < 2 ^ 31), pk_lDiv (by omega) hG (by omega)]
      · skip
        have h24 := Classical.not_not.mp h24
        show aw_W _ _ _ _ (25, [some (.ref 46), some (.int (nI p)), some (.long (lN cm)), none, some (.long (lN (10 * an))), none, none, none, none, none, none, none], []) (ae_en σ (au α [(43, pl_8), (44, fr_8)]) z t0 ts)
        refine aw_go 2 rfl ⟨trivial, trivial, trivial⟩ ?_
        refine aw_br (c := ¬ (nI p) = 0) (fun h26 => ?_) (fun h26 => ?_)
        · skip
          have h26 := cI_eqF (a := p) (b := 0) rfl rfl (by omega) (by omega) h26
          show aw_W _ _ _ _ (29, [some (.ref 46), some (.int (nI p)), some (.long (lN cm)), none, some (.long (lN (10 * an))), none, none, none, none, none, none, none], []) (ae_en σ (au α [(43, pl_8), (44, fr_8)]) z t0 ts)
          refine aw_go 1 rfl ⟨trivial, trivial⟩ ?_
          refine aw_ret rfl rfl trivial ?_
          refine ⟨σ 41, σ 42, σ 43, σ 44, pl_8, fr_8, α 47, α 48, α 49, α 50, z, ?_, rfl⟩
          have hc0 : ¬ cm = 0 := fun q => h20 ((lgc0 (by omega)).mpr q)
          have hA0 : 10 * an = 0 := (lgc0 (by omega)).mp h24
          rw [aNails, show (10 : Int32) * nI an = nI (10 * an) from pk_mul 10 an, if_pos hp01, if_neg (nI_ne0 (by omega) (by omega)), gcI_g 21 64 _ _ (by omega) (by omega) (by omega) (by decide), hA0, Nat.gcd_zero_left, if_neg (show ¬ nI cm < 1 from nI_nlt (b := 1) (by omega) (by omega)), if_neg (nI_ne0 (by omega) (by omega)), pk_div (by omega) (by omega) (by omega), Nat.div_self (by omega)]
          all_goals rfl
        · skip
          have h26 := Classical.not_not.mp h26
          have h26 := cI_eqT (a := p) (b := 0) rfl rfl (by omega) (by omega) h26
          show aw_W _ _ _ _ (27, [some (.ref 46), some (.int (nI p)), some (.long (lN cm)), none, some (.long (lN (10 * an))), none, none, none, none, none, none, none], []) (ae_en σ (au α [(43, pl_8), (44, fr_8)]) z t0 ts)
          refine aw_go 2 rfl ⟨trivial, trivial, trivial⟩ ?_
          refine aw_ret rfl rfl trivial ?_
          refine ⟨σ 41, σ 42, σ 43, σ 44, pl_8, fr_8, α 47, α 48, α 49, α 50, z, ?_, rfl⟩
          have hc0 : ¬ cm = 0 := fun q => h20 ((lgc0 (by omega)).mpr q)
          have hA0 : 10 * an = 0 := (lgc0 (by omega)).mp h24
          rw [aNails, show (10 : Int32) * nI an = nI (10 * an) from pk_mul 10 an, if_pos hp01, if_neg (nI_ne0 (by omega) (by omega)), gcI_g 21 64 _ _ (by omega) (by omega) (by omega) (by decide), hA0, Nat.gcd_zero_left, if_neg (show ¬ nI cm < 1 from nI_nlt (b := 1) (by omega) (by omega)), if_pos (by rw [show p = 0 from h26]; rfl), pk_div (by decide) (by omega) (by omega), Nat.zero_div]
          all_goals rfl
  · skip
    have h4 := bI_f (Classical.not_not.mp h4)
    show aw_W _ _ _ _ (5, [some (.ref 46), some (.int x0), none, none, none, none, none, none, none, none, none, none], []) (ae_en σ α z t0 ts)
    refine aw_go 1 rfl ⟨trivial, trivial⟩ ?_
    refine aw_ret rfl rfl trivial ?_
    refine ⟨σ 41, σ 42, σ 43, σ 44, α 43, α 44, α 47, α 48, α 49, α 50, z, ?_, rfl⟩
    rw [aNails, if_neg (fun q => h4 (q.elim (fun e => by rw [e]; exact ⟨by decide, by decide⟩) (fun e => by rw [e]; exact ⟨by decide, by decide⟩)))]
end L51
