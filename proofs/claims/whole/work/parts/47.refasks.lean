/-! the reference: what calls answer, further -/
theorem fMn_le {m y : Int32} (h : y ≤ m) : fMn m y = y := by
  unfold fMn
  split
  · rfl
  · exact Int32.le_antisymm (Int32.not_lt.mp ‹_›) h
theorem fMn_gt {m y : Int32} (h : m < y) : fMn m y = m := by
  unfold fMn
  rw [if_neg (Int32.not_lt.mpr (Int32.le_of_lt h))]
theorem tD_s {c : Nat → Bool} {m k : Nat} (h : c k = true) : tD c (m + 1) k = nI k := if_pos h
theorem tD_n {c : Nat → Bool} {m k : Nat} (h : ¬ c k = true) : tD c (m + 1) k = tD c m (k + 1) := if_neg h
theorem gcI_s {m a b : Nat} (ha : a < 2 ^ 31) (hb : b < 2 ^ 31) : gcI (m + 1) (nI a) (nI b) = if b = 0 then nI a else gcI m (nI b) (nI (a % b)) := by
  rw [gcI]
  by_cases h : b = 0
  · subst h
    rfl
  · rw [if_neg h, if_neg (nI_ne0 (by omega) hb), pk_rem ha (by omega) hb]
theorem gcI_g : ∀ (j m a b : Nat), a < 2 ^ 31 → b < 2 ^ 31 → b < 2 ^ j → 2 * j ≤ m → gcI m (nI a) (nI b) = nI (Nat.gcd a b)
  | 0, m, a, b, ha, hb, h, hm => by
    have : b = 0 := by omega
    subst this
    rw [Nat.gcd_zero_right]
    cases m with
    | zero => rfl
    | succ m => exact if_pos rfl
  | j + 1, m, a, b, ha, hb, h, hm => by
    obtain ⟨m, rfl⟩ : ∃ q, m = q + 1 + 1 := ⟨m - 2, by omega⟩
    rw [gcI_s ha hb]
    by_cases h0 : b = 0
    · rw [if_pos h0, h0, Nat.gcd_zero_right]
    · have hr : a % b < b := Nat.mod_lt _ (by omega)
      rw [if_neg h0, gcI_s hb (by omega), Nat.gcd_comm, Nat.gcd_rec]
      by_cases h1 : a % b = 0
      · rw [if_pos h1, h1, Nat.gcd_zero_left]
      · have hr2 : b % (a % b) < a % b := Nat.mod_lt _ (by omega)
        have hq : 1 ≤ b / (a % b) := (Nat.le_div_iff_mul_le (by omega)).mpr (by omega)
        have hd := Nat.div_add_mod b (a % b)
        have hm2 : a % b * 1 ≤ a % b * (b / (a % b)) := Nat.mul_le_mul_left _ hq
        rw [if_neg h1, gcI_g j m _ _ (by omega) (by omega) (by rw [Nat.pow_succ] at h; omega) (by omega), Nat.gcd_comm, ← Nat.gcd_rec, Nat.gcd_comm]
theorem lgc0 {b : Nat} (h : b < 2 ^ 31) : lg_cmp (lN b) 0 = 0 ↔ b = 0 := by
  unfold lg_cmp
  have e : (0 : Int64) = lN 0 := rfl
  rw [e]
  by_cases q : b = 0
  · subst q
    simp
  · rw [if_pos ((lN_lt (by omega) h).mpr (by omega))]
    exact ⟨fun w => absurd w (by decide), fun w => absurd w q⟩
section L47
variable {P : ae_P} {σ : Nat → Int32} {α : Nat → Nat → Int32} {z : Int64} {t0 : ae_T} {ts : List ae_T}

theorem em_run_no {n : Nat} {nn o what : Int32} {zd : Nat} (hn : (σ 27) = nI n) (hn10 : n ≤ 10) (hno : ¬ (1 ≤ nn ∧ nn ≤ 60 ∧ ¬ aTR n o what = 0)) : ae_Ev P (zd + 3) 156 [.ref 46, .int nn, .int o, .int what] (ae_en σ α z t0 ts) (some (.long (-4611686018427387904))) (ae_en σ α z t0 ts) := by
  refine aw_evE (cd := cd_Model_run) rfl rfl rfl ?_
  show aw_W _ _ _ _ (0, [some (.ref 46), some (.int nn), some (.int o), some (.int what), none, none], []) (ae_en σ α z t0 ts)
  refine aw_go 1 rfl ⟨trivial, trivial⟩ ?_
  refine aw_callE rfl rfl (ev_Model_isRun (x := nn)) ?_
  show aw_W _ _ _ _ (2, [some (.ref 46), some (.int nn), some (.int o), some (.int what), none, none], [.int (bI (¬ nn < 1 ∧ ¬ 60 < nn))]) (ae_en σ α z t0 ts)
  refine aw_go 1 rfl ⟨trivial, trivial⟩ ?_
  refine aw_br (c := (bI (¬ nn < 1 ∧ ¬ 60 < nn)) = 0) (fun h2 => ?_) (fun h2 => ?_)
  · skip
    have h2 := bI_f h2
    show aw_W _ _ _ _ (22, [some (.ref 46), some (.int nn), some (.int o), some (.int what), none, none], []) (ae_en σ α z t0 ts)
    refine aw_go 1 rfl ⟨trivial, trivial⟩ ?_
    refine aw_ret rfl rfl trivial ?_
    refine ⟨?_, rfl⟩
    rfl
  · skip
    have h2 := bI_t h2
    show aw_W _ _ _ _ (3, [some (.ref 46), some (.int nn), some (.int o), some (.int what), none, none], []) (ae_en σ α z t0 ts)
    refine aw_go 3 rfl ⟨trivial, trivial, trivial, trivial⟩ ?_
    refine aw_callE rfl rfl (em_in (v := what) (a := 0) (b := 4)) ?_
    show aw_W _ _ _ _ (7, [some (.ref 46), some (.int nn), some (.int o), some (.int what), none, none], [.int (bI (¬ what < 0 ∧ ¬ 4 < what))]) (ae_en σ α z t0 ts)
    refine aw_go 1 rfl ⟨trivial, trivial⟩ ?_
    refine aw_br (c := (bI (¬ what < 0 ∧ ¬ 4 < what)) = 0) (fun h7 => ?_) (fun h7 => ?_)
    · skip
      have h7 := bI_f h7
      show aw_W _ _ _ _ (22, [some (.ref 46), some (.int nn), some (.int o), some (.int what), none, none], []) (ae_en σ α z t0 ts)
      refine aw_go 1 rfl ⟨trivial, trivial⟩ ?_
      refine aw_ret rfl rfl trivial ?_
      refine ⟨?_, rfl⟩
      rfl
    · skip
      have h7 := bI_t h7
      show aw_W _ _ _ _ (8, [some (.ref 46), some (.int nn), some (.int o), some (.int what), none, none], []) (ae_en σ α z t0 ts)
      refine aw_go 3 rfl ⟨trivial, trivial, trivial, trivial⟩ ?_
      refine aw_br (c := (2 : Int32) ≤ what) (fun h10 => ?_) (fun h10 => ?_)
      · skip
        show aw_W _ _ _ _ (15, [some (.ref 46), some (.int nn), some (.int o), some (.int what), none, none], []) (ae_en σ α z t0 ts)
        refine aw_go 3 rfl ⟨trivial, trivial, trivial, trivial⟩ ?_
        refine aw_br (c := ¬ what = 2) (fun h17 => ?_) (fun h17 => ?_)
        · skip
          show aw_W _ _ _ _ (24, [some (.ref 46), some (.int nn), some (.int o), some (.int what), none, none], []) (ae_en σ α z t0 ts)
          have h7c := h7
          obtain ⟨c, hc, rfl⟩ := nI_of2 (x := what) (M := 4) (n := 4) rfl h7.1 (Int32.not_lt.mp h7.2)
          have c2 : ¬ c = 2 := fun q => h17 (by rw [q]; rfl)
          have h10b : 2 ≤ c := (nI_leI (a := 2) (by decide) (by omega)).mp h10
          obtain rfl | rfl : c = 3 ∨ c = 4 := by omega
          · exact absurd ⟨Int32.not_lt.mp h2.1, Int32.not_lt.mp h2.2, by show ¬ (1 : Int32) = 0; decide⟩ hno
          · exact absurd ⟨Int32.not_lt.mp h2.1, Int32.not_lt.mp h2.2, by show ¬ (1 : Int32) = 0; decide⟩ hno
        · skip
          have h17 := Classical.not_not.mp h17
          show aw_W _ _ _ _ (18, [some (.ref 46), some (.int nn), some (.int o), some (.int what), none, none], []) (ae_en σ α z t0 ts)
          refine aw_go 2 rfl ⟨trivial, trivial, trivial⟩ ?_
          refine aw_callE rfl rfl (em_isPlank (p := o) hn hn10) ?_
          show aw_W _ _ _ _ (21, [some (.ref 46), some (.int nn), some (.int o), some (.int what), none, none], [.int (bI (iP n o))]) (ae_en σ α z t0 ts)
          refine aw_go 1 rfl ⟨trivial, trivial⟩ ?_
          refine aw_br (c := ¬ (bI (iP n o)) = 0) (fun h21 => ?_) (fun h21 => ?_)
          · skip
            have h21 := bI_t h21
            show aw_W _ _ _ _ (24, [some (.ref 46), some (.int nn), some (.int o), some (.int what), none, none], []) (ae_en σ α z t0 ts)
            exact absurd ⟨Int32.not_lt.mp h2.1, Int32.not_lt.mp h2.2, by rw [show what = 2 from h17]; show ¬ bI (iP n o) = 0; rw [← bI_1 h21]; decide⟩ hno
          · skip
            have h21 := bI_f (Classical.not_not.mp h21)
            show aw_W _ _ _ _ (22, [some (.ref 46), some (.int nn), some (.int o), some (.int what), none, none], []) (ae_en σ α z t0 ts)
            refine aw_go 1 rfl ⟨trivial, trivial⟩ ?_
            refine aw_ret rfl rfl trivial ?_
            refine ⟨?_, rfl⟩
            rfl
      · skip
        show aw_W _ _ _ _ (11, [some (.ref 46), some (.int nn), some (.int o), some (.int what), none, none], []) (ae_en σ α z t0 ts)
        refine aw_go 2 rfl ⟨trivial, trivial, trivial⟩ ?_
        refine aw_callE rfl rfl (em_isGap (p := o) hn hn10) ?_
        show aw_W _ _ _ _ (14, [some (.ref 46), some (.int nn), some (.int o), some (.int what), none, none], [.int (bI (iP (n - 1) o))]) (ae_en σ α z t0 ts)
        refine aw_go 1 rfl ⟨trivial, trivial⟩ ?_
        refine aw_br (c := (bI (iP (n - 1) o)) = 0) (fun h14 => ?_) (fun h14 => ?_)
        · skip
          have h14 := bI_f h14
          show aw_W _ _ _ _ (22, [some (.ref 46), some (.int nn), some (.int o), some (.int what), none, none], []) (ae_en σ α z t0 ts)
          refine aw_go 1 rfl ⟨trivial, trivial⟩ ?_
          refine aw_ret rfl rfl trivial ?_
          refine ⟨?_, rfl⟩
          rfl
        · skip
          have h14 := bI_t h14
          show aw_W _ _ _ _ (15, [some (.ref 46), some (.int nn), some (.int o), some (.int what), none, none], []) (ae_en σ α z t0 ts)
          refine aw_go 3 rfl ⟨trivial, trivial, trivial, trivial⟩ ?_
          refine aw_br (c := ¬ what = 2) (fun h17 => ?_) (fun h17 => ?_)
          · skip
            show aw_W _ _ _ _ (24, [some (.ref 46), some (.int nn), some (.int o), some (.int what), none, none], []) (ae_en σ α z t0 ts)
            have h7c := h7
            obtain ⟨c, hc, rfl⟩ := nI_of2 (x := what) (M := 4) (n := 4) rfl h7.1 (Int32.not_lt.mp h7.2)
            have c2 : ¬ c = 2 := fun q => h17 (by rw [q]; rfl)
            have h10b : ¬ 2 ≤ c := fun q => h10 (nI_le (a := 2) q (by omega))
            obtain rfl | rfl : c = 0 ∨ c = 1 := by omega
            · exact absurd ⟨Int32.not_lt.mp h2.1, Int32.not_lt.mp h2.2, by show ¬ bI (iP (n - 1) o) = 0; rw [← bI_1 h14]; decide⟩ hno
            · exact absurd ⟨Int32.not_lt.mp h2.1, Int32.not_lt.mp h2.2, by show ¬ bI (iP (n - 1) o) = 0; rw [← bI_1 h14]; decide⟩ hno
          · skip
            have h17 := Classical.not_not.mp h17
            show aw_W _ _ _ _ (18, [some (.ref 46), some (.int nn), some (.int o), some (.int what), none, none], []) (ae_en σ α z t0 ts)
            refine aw_go 2 rfl ⟨trivial, trivial, trivial⟩ ?_
            refine aw_callE rfl rfl (em_isPlank (p := o) hn hn10) ?_
            show aw_W _ _ _ _ (21, [some (.ref 46), some (.int nn), some (.int o), some (.int what), none, none], [.int (bI (iP n o))]) (ae_en σ α z t0 ts)
            refine aw_go 1 rfl ⟨trivial, trivial⟩ ?_
            refine aw_br (c := ¬ (bI (iP n o)) = 0) (fun h21 => ?_) (fun h21 => ?_)
            · skip
              have h21 := bI_t h21
              show aw_W _ _ _ _ (24, [some (.ref 46), some (.int nn), some (.int o), some (.int what), none, none], []) (ae_en σ α z t0 ts)
              exact absurd ⟨Int32.not_lt.mp h2.1, Int32.not_lt.mp h2.2, by rw [show what = 2 from h17]; show ¬ bI (iP n o) = 0; rw [← bI_1 h21]; decide⟩ hno
            · skip
              have h21 := bI_f (Classical.not_not.mp h21)
              show aw_W _ _ _ _ (22, [some (.ref 46), some (.int nn), some (.int o), some (.int what), none, none], []) (ae_en σ α z t0 ts)
              refine aw_go 1 rfl ⟨trivial, trivial⟩ ?_
              refine aw_ret rfl rfl trivial ?_
              refine ⟨?_, rfl⟩
              rfl
theorem ev_Model_lay {n : Nat} {B : ae_B} {N x : Nat} {W : Nat → Nat → Int32} {zd : Nat} (hM : mOk B n (σ 27) (σ 29) (σ 33) (α 31) (α 32) (α 33) (α 40) (α 41) (α 42)) (hD : W = wD B n (α 35) (σ 28)) (hw : wOk n (α 35)) (hv : vOk n 200 (α 36)) (hs : vOk n 100 (α 37)) (hx : (σ 28) = nI x) (hx9 : x ≤ 9999) (hN : N ≤ 60) (hnl : nOk n (α 34)) (hN1 : 1 ≤ N) : aw_X P (zd + 7) 157 [.ref 46, .int (nI N)] (ae_en σ α z t0 ts) (fun r H => ∃ (pl2 : Nat → Int32) (fr2 : Nat → Int32) (tk2 : Nat → Int32), r = some (.int (gGN B N W (α 36) (α 37) (α 38) N (n - 1))) ∧ H = (ae_en (au σ [(28, (dyA (σ 28) N)), (41, (gGN B N W (α 36) (α 37) (α 38) N (n - 1)))]) (au α [(35, (W N)), (36, (vD B n N W (α 36) (α 37) (α 38) N)), (38, (fD B n N W (α 36) (α 37) (α 38) N)), (43, pl2), (44, fr2), (47, tk2)]) ((gCI B n N W (α 36) (α 37) (α 38) (σ 28) (sumF (α 34) n) N).toInt64) t0 ts)) := by
  refine aw_ev (cd := cd_Model_lay) rfl rfl rfl ?_
  show aw_W _ _ _ _ (0, [some (.ref 46), some (.int (nI N))], []) (ae_en σ α z t0 ts)
  refine aw_go 1 rfl ⟨trivial, trivial⟩ ?_
  refine aw_callE rfl rfl (ev_Model_isRun (x := (nI N))) ?_
  show aw_W _ _ _ _ (2, [some (.ref 46), some (.int (nI N))], [.int (bI (¬ (nI N) < 1 ∧ ¬ 60 < (nI N)))]) (ae_en σ α z t0 ts)
  refine aw_go 1 rfl ⟨trivial, trivial⟩ ?_
  refine aw_br (c := ¬ (bI (¬ (nI N) < 1 ∧ ¬ 60 < (nI N))) = 0) (fun h2 => ?_) (fun h2 => ?_)
  · skip
    have h2 := bI_t h2
    show aw_W _ _ _ _ (5, [some (.ref 46), some (.int (nI N))], []) (ae_en σ α z t0 ts)
    refine aw_go 2 rfl ⟨trivial, trivial, trivial⟩ ?_
    refine aw_call rfl rfl (ev_Model_water (N := N) hM hD hw hv hs hx hx9 hN hnl) ?_
    rintro _ _ ⟨pl2_7, fr2_7, tk2_7, rfl, rfl⟩
    show aw_W _ _ _ _ (8, [some (.ref 46), some (.int (nI N))], []) (ae_en (au σ [(28, (dyA (σ 28) N)), (41, (gGN B N W (α 36) (α 37) (α 38) N (n - 1)))]) (au α [(35, (W N)), (36, (vD B n N W (α 36) (α 37) (α 38) N)), (38, (fD B n N W (α 36) (α 37) (α 38) N)), (43, pl2_7), (44, fr2_7), (47, tk2_7)]) ((gCI B n N W (α 36) (α 37) (α 38) (σ 28) (sumF (α 34) n) N).toInt64) t0 ts)
    refine aw_go 2 rfl ⟨trivial, trivial, trivial⟩ ?_
    show aw_W _ _ _ _ (10, [some (.ref 46), some (.int (nI N))], [.int (gGN B N W (α 36) (α 37) (α 38) N (n - 1))]) (ae_en (au σ [(28, (dyA (σ 28) N)), (41, (gGN B N W (α 36) (α 37) (α 38) N (n - 1)))]) (au α [(35, (W N)), (36, (vD B n N W (α 36) (α 37) (α 38) N)), (38, (fD B n N W (α 36) (α 37) (α 38) N)), (43, pl2_7), (44, fr2_7), (47, tk2_7)]) ((gCI B n N W (α 36) (α 37) (α 38) (σ 28) (sumF (α 34) n) N).toInt64) t0 ts)
    refine aw_ret rfl rfl trivial ?_
    exact ⟨_, _, _, rfl, rfl⟩
  · skip
    have h2 := bI_f (Classical.not_not.mp h2)
    show aw_W _ _ _ _ (3, [some (.ref 46), some (.int (nI N))], []) (ae_en σ α z t0 ts)
    exact absurd ⟨nI_nlt (b := 1) hN1 (by omega), nI_nlt (a := 60) hN (by decide)⟩ h2
theorem em_lay_bad {x : Int32} {zd : Nat} (hx : ¬ (1 ≤ x ∧ x ≤ 60)) : ae_Ev P (zd + 3) 157 [.ref 46, .int x] (ae_en σ α z t0 ts) (some (.int (-2))) (ae_en σ α z t0 ts) := by
  refine aw_evE (cd := cd_Model_lay) rfl rfl rfl ?_
  show aw_W _ _ _ _ (0, [some (.ref 46), some (.int x)], []) (ae_en σ α z t0 ts)
  refine aw_go 1 rfl ⟨trivial, trivial⟩ ?_
  refine aw_callE rfl rfl (ev_Model_isRun (x := x)) ?_
  show aw_W _ _ _ _ (2, [some (.ref 46), some (.int x)], [.int (bI (¬ x < 1 ∧ ¬ 60 < x))]) (ae_en σ α z t0 ts)
  refine aw_go 1 rfl ⟨trivial, trivial⟩ ?_
  refine aw_br (c := ¬ (bI (¬ x < 1 ∧ ¬ 60 < x)) = 0) (fun h2 => ?_) (fun h2 => ?_)
  · skip
    have h2 := bI_t h2
    show aw_W _ _ _ _ (5, [some (.ref 46), some (.int x)], []) (ae_en σ α z t0 ts)
    exact absurd ⟨Int32.not_lt.mp h2.1, Int32.not_lt.mp h2.2⟩ hx
  · skip
    have h2 := bI_f (Classical.not_not.mp h2)
    show aw_W _ _ _ _ (3, [some (.ref 46), some (.int x)], []) (ae_en σ α z t0 ts)
    refine aw_go 1 rfl ⟨trivial, trivial⟩ ?_
    refine aw_ret rfl rfl trivial ?_
    refine ⟨?_, rfl⟩
    rfl
theorem em_air_bad {x : Int32} {zd : Nat} (hx : ¬ (1 ≤ x ∧ x ≤ 60)) : ae_Ev P (zd + 3) 158 [.ref 46, .int x] (ae_en σ α z t0 ts) (some (.int (-2))) (ae_en σ α z t0 ts) := by
  refine aw_evE (cd := cd_Model_air) rfl rfl rfl ?_
  show aw_W _ _ _ _ (0, [some (.ref 46), some (.int x), none], []) (ae_en σ α z t0 ts)
  refine aw_go 1 rfl ⟨trivial, trivial⟩ ?_
  refine aw_callE rfl rfl (ev_Model_isRun (x := x)) ?_
  show aw_W _ _ _ _ (2, [some (.ref 46), some (.int x), none], [.int (bI (¬ x < 1 ∧ ¬ 60 < x))]) (ae_en σ α z t0 ts)
  refine aw_go 1 rfl ⟨trivial, trivial⟩ ?_
  refine aw_br (c := ¬ (bI (¬ x < 1 ∧ ¬ 60 < x)) = 0) (fun h2 => ?_) (fun h2 => ?_)
  · skip
    have h2 := bI_t h2
    show aw_W _ _ _ _ (5, [some (.ref 46), some (.int x), none], []) (ae_en σ α z t0 ts)
    exact absurd ⟨Int32.not_lt.mp h2.1, Int32.not_lt.mp h2.2⟩ hx
  · skip
    have h2 := bI_f (Classical.not_not.mp h2)
    show aw_W _ _ _ _ (3, [some (.ref 46), some (.int x), none], []) (ae_en σ α z t0 ts)
    refine aw_go 1 rfl ⟨trivial, trivial⟩ ?_
    refine aw_ret rfl rfl trivial ?_
    refine ⟨?_, rfl⟩
    rfl
theorem lp_air2 {zd : Nat} {n : Nat} {B : ae_B} {x : Nat} {pl fr tk : Nat → Int32} (hM : mOk B n (σ 27) (σ 29) (σ 33) (α 31) (α 32) (α 33) (α 40) (α 41) (α 42)) (hw : wOk n (α 35)) (hx : (σ 28) = nI x) (hx9 : x ≤ 9999) (hn : (σ 27) = nI n) (hn10 : n ≤ 10) (p : Nat) (hp : p ≤ n) : aw_W P (zd + 3) cd_Model_inAir (fun r H => ∃ (pl2 : Nat → Int32) (fr2 : Nat → Int32) (tk2 : Nat → Int32), r = none ∧ H = (ae_en (au σ [(28, fMn 9999 ((σ 28) + 1))]) (au α [(35, fC n (fun p => fMx 0 ((α 35) p - gDr B n (α 35) (σ 28) p)) (α 35)), (43, pl2), (44, fr2), (47, tk2)]) z t0 ts)) (23, [some (.ref 46), some (.int (nI p))], []) (ae_en σ (au α [(35, (fC p (fun p => fMx 0 ((α 35) p - gDr B n (α 35) (σ 28) p)) (α 35))), (43, pl), (44, fr), (47, (fC n (fun p => gDr B n (α 35) (σ 28) p) tk))]) z t0 ts) := by
  refine aw_go 4 rfl ⟨trivial, trivial, trivial, trivial, trivial⟩ ?_
  show aw_W _ _ _ _ (if (σ 27) ≤ (nI p) then 45 else 27, [some (.ref 46), some (.int (nI p))], []) (ae_en σ (au α [(35, (fC p (fun p => fMx 0 ((α 35) p - gDr B n (α 35) (σ 28) p)) (α 35))), (43, pl), (44, fr), (47, (fC n (fun p => gDr B n (α 35) (σ 28) p) tk))]) z t0 ts)
  refine aw_br (c := (σ 27) ≤ (nI p)) (fun h26 => ?_) (fun h26 => ?_)
  · skip
    have h26 := cI_leT (a := n) (b := p) hn rfl (by omega) (by omega) h26
    show aw_W _ _ _ _ (45, [some (.ref 46), some (.int (nI p))], []) (ae_en σ (au α [(35, (fC p (fun p => fMx 0 ((α 35) p - gDr B n (α 35) (σ 28) p)) (α 35))), (43, pl), (44, fr), (47, (fC n (fun p => gDr B n (α 35) (σ 28) p) tk))]) z t0 ts)
    have e8 : p = n := by omega
    refine aw_go 1 rfl ⟨trivial, trivial⟩ ?_
    refine aw_call rfl rfl (ev_Model_dayOn  hx hx9) ?_
    rintro _ _ ⟨rfl, rfl⟩
    show aw_W _ _ _ _ (47, [some (.ref 46), some (.int (nI p))], []) (ae_en (au σ [(28, fMn 9999 ((σ 28) + 1))]) (au α [(35, (fC p (fun p => fMx 0 ((α 35) p - gDr B n (α 35) (σ 28) p)) (α 35))), (43, pl), (44, fr), (47, (fC n (fun p => gDr B n (α 35) (σ 28) p) tk))]) z t0 ts)
    refine aw_ret rfl rfl trivial ?_
    rw [e8]
    exact ⟨_, _, _, rfl, rfl⟩
  · skip
    have h26 := cI_leF (a := n) (b := p) hn rfl (by omega) (by omega) h26
    show aw_W _ _ _ _ (27, [some (.ref 46), some (.int (nI p))], []) (ae_en σ (au α [(35, (fC p (fun p => fMx 0 ((α 35) p - gDr B n (α 35) (σ 28) p)) (α 35))), (43, pl), (44, fr), (47, (fC n (fun p => gDr B n (α 35) (σ 28) p) tk))]) z t0 ts)
    refine aw_go 14 rfl ⟨trivial, trivial, trivial, trivial, trivial, trivial, (cI_in (a := p) rfl (by omega) (by decide)), trivial, trivial, trivial, (cI_in (a := p) rfl (by omega) (by decide)), trivial, trivial, trivial, trivial⟩ ?_
    show aw_W _ _ _ _ (41, [some (.ref 46), some (.int (nI p))], [.int 100, .int 0, .int (((fC p (fun p => fMx 0 ((α 35) p - gDr B n (α 35) (σ 28) p)) (α 35)) (nI p).toNatClampNeg) - ((fC n (fun p => gDr B n (α 35) (σ 28) p) tk) (nI p).toNatClampNeg)), .int (nI p), .ref 51]) (ae_en σ (au α [(35, (fC p (fun p => fMx 0 ((α 35) p - gDr B n (α 35) (σ 28) p)) (α 35))), (43, pl), (44, fr), (47, (fC n (fun p => gDr B n (α 35) (σ 28) p) tk))]) z t0 ts)
    rw [show (nI p).toNatClampNeg = p from cI_cl (a := p) rfl (by omega)]
    refine aw_callE rfl rfl (ev_Model_held (v := (((fC p (fun p => fMx 0 ((α 35) p - gDr B n (α 35) (σ 28) p)) (α 35)) p) - ((fC n (fun p => gDr B n (α 35) (σ 28) p) tk) p))) (a := 0) (b := 100)) ?_
    show aw_W _ _ _ _ (42, [some (.ref 46), some (.int (nI p))], [.int (fHeld (((fC p (fun p => fMx 0 ((α 35) p - gDr B n (α 35) (σ 28) p)) (α 35)) p) - ((fC n (fun p => gDr B n (α 35) (σ 28) p) tk) p)) 0 100), .int (nI p), .ref 51]) (ae_en σ (au α [(35, (fC p (fun p => fMx 0 ((α 35) p - gDr B n (α 35) (σ 28) p)) (α 35))), (43, pl), (44, fr), (47, (fC n (fun p => gDr B n (α 35) (σ 28) p) tk))]) z t0 ts)
    refine aw_go 3 rfl ⟨(cI_in (a := p) rfl (by omega) (by decide)), trivial, trivial, trivial⟩ ?_
    show aw_W _ _ _ _ (23, [some (.ref 46), some (.int ((nI p) + 1))], []) (ae_en σ (au α [(35, upd (fC p (fun p => fMx 0 ((α 35) p - gDr B n (α 35) (σ 28) p)) (α 35)) (nI p).toNatClampNeg (fHeld (((fC p (fun p => fMx 0 ((α 35) p - gDr B n (α 35) (σ 28) p)) (α 35)) p) - ((fC n (fun p => gDr B n (α 35) (σ 28) p) tk) p)) 0 100)), (43, pl), (44, fr), (47, (fC n (fun p => gDr B n (α 35) (σ 28) p) tk))]) z t0 ts)
    rw [show (nI p).toNatClampNeg = p from cI_cl (a := p) rfl (by omega)]
    rw [show (nI p) + 1 = nI (p + 1) from (cI_add (a := p) (b := 1) rfl rfl)]
    rw [fC_s (X := (fun p => fMx 0 ((α 35) p - gDr B n (α 35) (σ 28) p))) (by rw [fC_at (Nat.le_refl p), fC_lt (show p < n by omega)]; exact (clip_dry (hw p (by omega)) (gDr_b _ _ _ _ _)).1)]
    exact lp_air2 hM hw hx hx9 hn hn10 (p + 1) (by omega)
termination_by n - p
decreasing_by all_goals omega
theorem lp_air1 {zd : Nat} {n : Nat} {B : ae_B} {x : Nat} {pl fr tk : Nat → Int32} (hM : mOk B n (σ 27) (σ 29) (σ 33) (α 31) (α 32) (α 33) (α 40) (α 41) (α 42)) (hw : wOk n (α 35)) (hx : (σ 28) = nI x) (hx9 : x ≤ 9999) (hn : (σ 27) = nI n) (hn10 : n ≤ 10) (p : Nat) (hp : p ≤ n) : aw_W P (zd + 3) cd_Model_inAir (fun r H => ∃ (pl2 : Nat → Int32) (fr2 : Nat → Int32) (tk2 : Nat → Int32), r = none ∧ H = (ae_en (au σ [(28, fMn 9999 ((σ 28) + 1))]) (au α [(35, fC n (fun p => fMx 0 ((α 35) p - gDr B n (α 35) (σ 28) p)) (α 35)), (43, pl2), (44, fr2), (47, tk2)]) z t0 ts)) (2, [some (.ref 46), some (.int (nI p))], []) (ae_en σ (au α [(43, pl), (44, fr), (47, (fC p (fun p => gDr B n (α 35) (σ 28) p) tk))]) z t0 ts) := by
  refine aw_go 4 rfl ⟨trivial, trivial, trivial, trivial, trivial⟩ ?_
  show aw_W _ _ _ _ (if (σ 27) ≤ (nI p) then 21 else 6, [some (.ref 46), some (.int (nI p))], []) (ae_en σ (au α [(43, pl), (44, fr), (47, (fC p (fun p => gDr B n (α 35) (σ 28) p) tk))]) z t0 ts)
  refine aw_br (c := (σ 27) ≤ (nI p)) (fun h5 => ?_) (fun h5 => ?_)
  · skip
    have h5 := cI_leT (a := n) (b := p) hn rfl (by omega) (by omega) h5
    show aw_W _ _ _ _ (21, [some (.ref 46), some (.int (nI p))], []) (ae_en σ (au α [(43, pl), (44, fr), (47, (fC p (fun p => gDr B n (α 35) (σ 28) p) tk))]) z t0 ts)
    have e8 : p = n := by omega
    refine aw_go 2 rfl ⟨trivial, trivial, trivial⟩ ?_
    rw [e8]
    exact aw_to (lp_air2 hM hw hx hx9 hn hn10 0 (Nat.zero_le _)) rfl (by rw [fC_0]; rfl)
  · skip
    have h5 := cI_leF (a := n) (b := p) hn rfl (by omega) (by omega) h5
    show aw_W _ _ _ _ (6, [some (.ref 46), some (.int (nI p))], []) (ae_en σ (au α [(43, pl), (44, fr), (47, (fC p (fun p => gDr B n (α 35) (σ 28) p) tk))]) z t0 ts)
    refine aw_go 2 rfl ⟨trivial, trivial, trivial⟩ ?_
    refine aw_call rfl rfl (ev_Model_findFacts (p := p) hM (by omega)) ?_
    rintro _ _ ⟨fr_8, rfl, rfl, hf_8⟩
    show aw_W _ _ _ _ (9, [some (.ref 46), some (.int (nI p))], []) (ae_en σ (au α [(43, pl), (44, fr_8), (47, (fC p (fun p => gDr B n (α 35) (σ 28) p) tk))]) z t0 ts)
    refine aw_go 5 rfl ⟨trivial, trivial, trivial, trivial, trivial, trivial⟩ ?_
    show aw_W _ _ _ _ (14, [some (.ref 46), some (.int (nI p))], [.int 2, .ref 46, .int (nI p), .ref 63]) (ae_en σ (au α [(43, pl), (44, fr_8), (47, (fC p (fun p => gDr B n (α 35) (σ 28) p) tk))]) z t0 ts)
    refine aw_call rfl rfl (ev_Model_gives (q := 2) hM (by decide) hf_8) ?_
    rintro _ _ ⟨pl_14, rfl, rfl⟩
    show aw_W _ _ _ _ (15, [some (.ref 46), some (.int (nI p))], [.int (gRl B n (α 35) (σ 28) p 2), .int (nI p), .ref 63]) (ae_en σ (au α [(43, pl_14), (44, fr_8), (47, (fC p (fun p => gDr B n (α 35) (σ 28) p) tk))]) z t0 ts)
    refine aw_go 2 rfl ⟨trivial, trivial, trivial⟩ ?_
    refine aw_callE rfl rfl (ev_Model_held (v := (gRl B n (α 35) (σ 28) p 2)) (a := 0) (b := 100)) ?_
    show aw_W _ _ _ _ (18, [some (.ref 46), some (.int (nI p))], [.int (fHeld (gRl B n (α 35) (σ 28) p 2) 0 100), .int (nI p), .ref 63]) (ae_en σ (au α [(43, pl_14), (44, fr_8), (47, (fC p (fun p => gDr B n (α 35) (σ 28) p) tk))]) z t0 ts)
    refine aw_go 3 rfl ⟨(cI_in (a := p) rfl (by omega) (by decide)), trivial, trivial, trivial⟩ ?_
    show aw_W _ _ _ _ (2, [some (.ref 46), some (.int ((nI p) + 1))], []) (ae_en σ (au α [(43, pl_14), (44, fr_8), (47, upd (fC p (fun p => gDr B n (α 35) (σ 28) p) tk) (nI p).toNatClampNeg (fHeld (gRl B n (α 35) (σ 28) p 2) 0 100))]) z t0 ts)
    rw [show (nI p).toNatClampNeg = p from cI_cl (a := p) rfl (by omega)]
    rw [show (nI p) + 1 = nI (p + 1) from (cI_add (a := p) (b := 1) rfl rfl)]
    rw [fC_s (X := (fun p => gDr B n (α 35) (σ 28) p)) (fHeld_m _ 100 (by decide))]
    exact lp_air1 hM hw hx hx9 hn hn10 (p + 1) (by omega)
termination_by n - p
decreasing_by all_goals omega
theorem ev_Model_inAir {n : Nat} {B : ae_B} {x : Nat} {zd : Nat} (hM : mOk B n (σ 27) (σ 29) (σ 33) (α 31) (α 32) (α 33) (α 40) (α 41) (α 42)) (hw : wOk n (α 35)) (hx : (σ 28) = nI x) (hx9 : x ≤ 9999) : aw_X P (zd + 4) 153 [.ref 46] (ae_en σ α z t0 ts) (fun r H => ∃ (pl2 : Nat → Int32) (fr2 : Nat → Int32) (tk2 : Nat → Int32), r = none ∧ H = (ae_en (au σ [(28, fMn 9999 ((σ 28) + 1))]) (au α [(35, fC n (fun p => fMx 0 ((α 35) p - gDr B n (α 35) (σ 28) p)) (α 35)), (43, pl2), (44, fr2), (47, tk2)]) z t0 ts)) := by
  obtain ⟨hn, hn10, hs3, hk0, hk1, hk2, hbo, hru⟩ := id hM
  refine aw_ev (cd := cd_Model_inAir) rfl rfl rfl ?_
  show aw_W _ _ _ _ (0, [some (.ref 46), none], []) (ae_en σ α z t0 ts)
  refine aw_go 2 rfl ⟨trivial, trivial, trivial⟩ ?_
  exact aw_to (lp_air1 (pl := α 43) (fr := α 44) (tk := α 47) hM hw hx hx9 hn hn10 0 (Nat.zero_le _)) rfl (by rw [fC_0]; rfl)
theorem lp_mAir {zd : Nat} {n : Nat} {B : ae_B} {N x : Nat} {pl fr tk : Nat → Int32} (hM : mOk B n (σ 27) (σ 29) (σ 33) (α 31) (α 32) (α 33) (α 40) (α 41) (α 42)) (hw : wOk n (α 35)) (hx : (σ 28) = nI x) (hx9 : x ≤ 9999) (hN : N ≤ 60) (k : Nat) (hk : k ≤ N) : aw_W P (zd + 4) cd_Model_air (fun r H => ∃ (pl2 : Nat → Int32) (fr2 : Nat → Int32) (tk2 : Nat → Int32), r = some (.int ((dryN B n (α 35) (σ 28) N).2)) ∧ H = (ae_en (au σ [(28, (dryN B n (α 35) (σ 28) N).2)]) (au α [(35, (dryN B n (α 35) (σ 28) N).1), (43, pl2), (44, fr2), (47, tk2)]) z t0 ts)) (7, [some (.ref 46), some (.int (nI N)), some (.int (nI k))], []) (ae_en (au σ [(28, (dryN B n (α 35) (σ 28) k).2)]) (au α [(35, (dryN B n (α 35) (σ 28) k).1), (43, pl), (44, fr), (47, tk)]) z t0 ts) := by
  have hq := dryN_ok (B := B) hw hx9 k (by omega)
  rw [← hx] at hq
  obtain ⟨q1, q2⟩ := hq
  refine aw_go 3 rfl ⟨trivial, trivial, trivial, trivial⟩ ?_
  refine aw_br (c := (nI N) ≤ (nI k)) (fun h9 => ?_) (fun h9 => ?_)
  · skip
    have h9 := cI_leT (a := N) (b := k) rfl rfl (by omega) (by omega) h9
    show aw_W _ _ _ _ (14, [some (.ref 46), some (.int (nI N)), some (.int (nI k))], []) (ae_en (au σ [(28, (dryN B n (α 35) (σ 28) k).2)]) (au α [(35, (dryN B n (α 35) (σ 28) k).1), (43, pl), (44, fr), (47, tk)]) z t0 ts)
    have e8 : k = N := by omega
    refine aw_go 2 rfl ⟨trivial, trivial, trivial⟩ ?_
    show aw_W _ _ _ _ (16, [some (.ref 46), some (.int (nI N)), some (.int (nI k))], [.int ((dryN B n (α 35) (σ 28) k).2)]) (ae_en (au σ [(28, (dryN B n (α 35) (σ 28) k).2)]) (au α [(35, (dryN B n (α 35) (σ 28) k).1), (43, pl), (44, fr), (47, tk)]) z t0 ts)
    refine aw_ret rfl rfl trivial ?_
    rw [e8]
    exact ⟨_, _, _, rfl, rfl⟩
  · skip
    have h9 := cI_leF (a := N) (b := k) rfl rfl (by omega) (by omega) h9
    show aw_W _ _ _ _ (10, [some (.ref 46), some (.int (nI N)), some (.int (nI k))], []) (ae_en (au σ [(28, (dryN B n (α 35) (σ 28) k).2)]) (au α [(35, (dryN B n (α 35) (σ 28) k).1), (43, pl), (44, fr), (47, tk)]) z t0 ts)
    refine aw_go 1 rfl ⟨trivial, trivial⟩ ?_
    refine aw_call rfl rfl (ev_Model_inAir  hM q1 (q2.trans (by rw [hx]; exact dyA_n hx9 (by omega))) (by split <;> omega)) ?_
    rintro _ _ ⟨pl2_11, fr2_11, tk2_11, rfl, rfl⟩
    show aw_W _ _ _ _ (12, [some (.ref 46), some (.int (nI N)), some (.int (nI k))], []) (ae_en (au σ [(28, fMn 9999 (((dryN B n (α 35) (σ 28) k).2) + 1))]) (au α [(35, fC n (fun p => fMx 0 (((dryN B n (α 35) (σ 28) k).1) p - gDr B n ((dryN B n (α 35) (σ 28) k).1) ((dryN B n (α 35) (σ 28) k).2) p)) ((dryN B n (α 35) (σ 28) k).1)), (43, pl2_11), (44, fr2_11), (47, tk2_11)]) z t0 ts)
    refine aw_go 2 rfl ⟨trivial, trivial, trivial⟩ ?_
    show aw_W _ _ _ _ (7, [some (.ref 46), some (.int (nI N)), some (.int ((nI k) + 1))], []) (ae_en (au σ [(28, fMn 9999 (((dryN B n (α 35) (σ 28) k).2) + 1))]) (au α [(35, fC n (fun p => fMx 0 (((dryN B n (α 35) (σ 28) k).1) p - gDr B n ((dryN B n (α 35) (σ 28) k).1) ((dryN B n (α 35) (σ 28) k).2) p)) ((dryN B n (α 35) (σ 28) k).1)), (43, pl2_11), (44, fr2_11), (47, tk2_11)]) z t0 ts)
    rw [show (nI k) + 1 = nI (k + 1) from (cI_add (a := k) (b := 1) rfl rfl)]
    rw [show fC n (fun p => fMx 0 ((dryN B n (α 35) (σ 28) k).1 p - gDr B n (dryN B n (α 35) (σ 28) k).1 (dryN B n (α 35) (σ 28) k).2 p)) (dryN B n (α 35) (σ 28) k).1 = (dryN B n (α 35) (σ 28) (k + 1)).1 from by show _ = fC n (fun p => fMx 0 ((dryN B n (α 35) (σ 28) k).1 p - gDr B n (dryN B n (α 35) (σ 28) k).1 (dyA (dryN B n (α 35) (σ 28) k).2 0) p)) (dryN B n (α 35) (σ 28) k).1; rw [show dyA (dryN B n (α 35) (σ 28) k).2 0 = (dryN B n (α 35) (σ 28) k).2 from by rw [q2, hx, dyA_n hx9 (by omega)]; exact dyA_0 (by split <;> omega)]]
    exact lp_mAir hM hw hx hx9 hN (k + 1) (by omega)
termination_by N - k
decreasing_by all_goals omega
theorem ev_Model_air {n : Nat} {B : ae_B} {N x : Nat} {zd : Nat} (hM : mOk B n (σ 27) (σ 29) (σ 33) (α 31) (α 32) (α 33) (α 40) (α 41) (α 42)) (hw : wOk n (α 35)) (hx : (σ 28) = nI x) (hx9 : x ≤ 9999) (hN1 : 1 ≤ N) (hN : N ≤ 60) : aw_X P (zd + 5) 158 [.ref 46, .int (nI N)] (ae_en σ α z t0 ts) (fun r H => ∃ (pl2 : Nat → Int32) (fr2 : Nat → Int32) (tk2 : Nat → Int32), r = some (.int ((dryN B n (α 35) (σ 28) N).2)) ∧ H = (ae_en (au σ [(28, (dryN B n (α 35) (σ 28) N).2)]) (au α [(35, (dryN B n (α 35) (σ 28) N).1), (43, pl2), (44, fr2), (47, tk2)]) z t0 ts)) := by
  refine aw_ev (cd := cd_Model_air) rfl rfl rfl ?_
  show aw_W _ _ _ _ (0, [some (.ref 46), some (.int (nI N)), none], []) (ae_en σ α z t0 ts)
  refine aw_go 1 rfl ⟨trivial, trivial⟩ ?_
  refine aw_callE rfl rfl (ev_Model_isRun (x := (nI N))) ?_
  show aw_W _ _ _ _ (2, [some (.ref 46), some (.int (nI N)), none], [.int (bI (¬ (nI N) < 1 ∧ ¬ 60 < (nI N)))]) (ae_en σ α z t0 ts)
  refine aw_go 1 rfl ⟨trivial, trivial⟩ ?_
  refine aw_br (c := ¬ (bI (¬ (nI N) < 1 ∧ ¬ 60 < (nI N))) = 0) (fun h2 => ?_) (fun h2 => ?_)
  · skip
    have h2 := bI_t h2
    show aw_W _ _ _ _ (5, [some (.ref 46), some (.int (nI N)), none], []) (ae_en σ α z t0 ts)
    refine aw_go 2 rfl ⟨trivial, trivial, trivial⟩ ?_
    exact aw_to (lp_mAir (pl := α 43) (fr := α 44) (tk := α 47) hM hw hx hx9 hN 0 (Nat.zero_le _)) rfl rfl
  · skip
    have h2 := bI_f (Classical.not_not.mp h2)
    show aw_W _ _ _ _ (3, [some (.ref 46), some (.int (nI N)), none], []) (ae_en σ α z t0 ts)
    exact absurd ⟨nI_nlt (b := 1) hN1 (by omega), nI_nlt (a := 60) hN (by decide)⟩ h2
end L47
