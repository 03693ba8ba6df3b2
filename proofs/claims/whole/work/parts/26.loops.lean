/-! days of a boat: the class' loops -/
/-- a row of which the first k are new -/
def fC (k : Nat) (X f : Nat → Int32) : Nat → Int32 := fun j => if j < k then X j else f j
theorem fC_0 (X f : Nat → Int32) : fC 0 X f = f := funext fun j => if_neg (Nat.not_lt_zero j)
theorem fC_s {k : Nat} {X f : Nat → Int32} {x : Int32} (h : x = X k) : upd (fC k X f) k x = fC (k + 1) X f := by
  funext j
  unfold upd fC
  by_cases e : j = k
  · subst e
    rw [if_pos rfl, if_pos (Nat.lt_succ_self j), h]
  · rw [if_neg e]
    by_cases q : j < k
    · rw [if_pos q, if_pos (by omega)]
    · rw [if_neg q, if_neg (by omega)]
theorem fC_at {k j : Nat} {X f : Nat → Int32} (h : k ≤ j) : fC k X f j = f j := if_neg (by omega)
theorem fC_lt {k j : Nat} {X f : Nat → Int32} (h : j < k) : fC k X f j = X j := if_pos h
theorem fC_cg {k : Nat} {X Y f : Nat → Int32} (h : ∀ j, j < k → X j = Y j) : fC k X f = fC k Y f := by
  funext j
  unfold fC
  split
  · exact h j ‹_›
  · rfl
theorem fC_cpy (X f : Nat → Int32) (s n : Nat) : va_cpy X f s 0 n = fC n (fun j => X (s + j)) f := by
  funext j
  unfold va_cpy fC
  by_cases q : j < n
  · rw [if_pos q, if_pos ⟨Nat.zero_le _, by omega⟩, Nat.sub_zero]
  · rw [if_neg q, if_neg (by omega)]
theorem upd_2 (f : Nat → Int32) (i : Nat) (x y : Int32) : upd (upd f i x) i y = upd f i y := by
  funext j
  unfold upd
  split <;> rfl
theorem upd_eq (f : Nat → Int32) (i : Nat) (x : Int32) : upd f i x i = x := if_pos rfl
theorem upd_ne {f : Nat → Int32} {i j : Nat} {x : Int32} (h : j ≠ i) : upd f i x j = f j := if_neg h
section L26
variable {P : ae_P} {σ : Nat → Int32} {α : Nat → Nat → Int32} {z : Int64} {t0 : ae_T} {ts : List ae_T}

theorem lp_openGaps {zd : Nat} {n N : Nat} {B : ae_B} {W : Nat → Nat → Int32} {t : Nat → Int32} {d : Nat} (hC : cOk B n (σ 1) (σ 3) (σ 5) (σ 15) (α 0) (α 1) (α 2) t0 ts) (hW : fW n N W (α 22)) (hN : N ≤ 60) (hL : fL B (n - 1) N W (α 5) t (α 7) (α 24) (α 25) (α 26)) (hd : d ≤ N) (hn : (σ 1) = nI n) (hn10 : n ≤ 10) (k : Nat) (hk : k ≤ n - 1) : aw_W P (zd + 4) cd_Forecast_openGaps (fun r H => r = some (.int (gON B N W (α 5) t (α 7) d (n - 1))) ∧ H = (ae_en σ α z t0 ts)) (4, [some (.ref 28), some (.int (nI d)), some (.int (gON B N W (α 5) t (α 7) d k)), some (.int (nI k))], []) (ae_en σ α z t0 ts) := by
  refine aw_go 3 rfl ⟨trivial, trivial, trivial, trivial⟩ ?_
  show aw_W _ _ _ _ (7, [some (.ref 28), some (.int (nI d)), some (.int (gON B N W (α 5) t (α 7) d k)), some (.int (nI k))], [.ref 1, .int (nI k)]) (ae_en σ α z t0 ts)
  refine aw_callE rfl rfl (ec_Boat_gaps  hn hn10) ?_
  show aw_W _ _ _ _ (8, [some (.ref 28), some (.int (nI d)), some (.int (gON B N W (α 5) t (α 7) d k)), some (.int (nI k))], [.int (nI (n - 1)), .int (nI k)]) (ae_en σ α z t0 ts)
  refine aw_go 1 rfl ⟨trivial, trivial⟩ ?_
  refine aw_br (c := (nI (n - 1)) ≤ (nI k)) (fun h8 => ?_) (fun h8 => ?_)
  · skip
    have h8 := cI_leT (a := n - 1) (b := k) rfl rfl (by omega) (by omega) h8
    show aw_W _ _ _ _ (22, [some (.ref 28), some (.int (nI d)), some (.int (gON B N W (α 5) t (α 7) d k)), some (.int (nI k))], []) (ae_en σ α z t0 ts)
    have e8 : k = n - 1 := by omega
    subst e8
    refine aw_go 1 rfl ⟨trivial, trivial⟩ ?_
    refine aw_ret rfl rfl trivial ?_
    exact ⟨rfl, rfl⟩
  · skip
    have h8 := cI_leF (a := n - 1) (b := k) rfl rfl (by omega) (by omega) h8
    show aw_W _ _ _ _ (9, [some (.ref 28), some (.int (nI d)), some (.int (gON B N W (α 5) t (α 7) d k)), some (.int (nI k))], []) (ae_en σ α z t0 ts)
    refine aw_go 4 rfl ⟨trivial, trivial, trivial, trivial, trivial⟩ ?_
    refine aw_callE rfl rfl (ev_Forecast_open (d := d) (g := k) hC hW hN hL hd (by omega)) ?_
    show aw_W _ _ _ _ (14, [some (.ref 28), some (.int (nI d)), some (.int (gON B N W (α 5) t (α 7) d k)), some (.int (nI k))], [.int (gOp B N W (α 5) t (α 7) d k), .int (gON B N W (α 5) t (α 7) d k)]) (ae_en σ α z t0 ts)
    refine aw_go 1 rfl ⟨trivial, trivial⟩ ?_
    refine aw_br (c := (gOp B N W (α 5) t (α 7) d k) ≤ 0) (fun h14 => ?_) (fun h14 => ?_)
    · skip
      show aw_W _ _ _ _ (17, [some (.ref 28), some (.int (nI d)), some (.int (gON B N W (α 5) t (α 7) d k)), some (.int (nI k))], [.int (gON B N W (α 5) t (α 7) d k)]) (ae_en σ α z t0 ts)
      refine aw_go 5 rfl ⟨trivial, trivial, trivial, trivial, trivial, trivial⟩ ?_
      show aw_W _ _ _ _ (4, [some (.ref 28), some (.int (nI d)), some (.int ((gON B N W (α 5) t (α 7) d k) + 0)), some (.int ((nI k) + 1))], []) (ae_en σ α z t0 ts)
      rw [show (nI k) + 1 = nI (k + 1) from (cI_add (a := k) (b := 1) rfl rfl)]
      rw [show (gON B N W (α 5) t (α 7) d k) + 0 = gON B N W (α 5) t (α 7) d (k + 1) from congrArg (fun q => gON B N W (α 5) t (α 7) d k + q) (bI_0 (Int32.not_lt.mpr h14))]
      exact lp_openGaps hC hW hN hL hd hn hn10 (k + 1) (by omega)
    · skip
      show aw_W _ _ _ _ (15, [some (.ref 28), some (.int (nI d)), some (.int (gON B N W (α 5) t (α 7) d k)), some (.int (nI k))], [.int (gON B N W (α 5) t (α 7) d k)]) (ae_en σ α z t0 ts)
      refine aw_go 6 rfl ⟨trivial, trivial, trivial, trivial, trivial, trivial, trivial⟩ ?_
      show aw_W _ _ _ _ (4, [some (.ref 28), some (.int (nI d)), some (.int ((gON B N W (α 5) t (α 7) d k) + 1)), some (.int ((nI k) + 1))], []) (ae_en σ α z t0 ts)
      rw [show (nI k) + 1 = nI (k + 1) from (cI_add (a := k) (b := 1) rfl rfl)]
      rw [show (gON B N W (α 5) t (α 7) d k) + 1 = gON B N W (α 5) t (α 7) d (k + 1) from congrArg (fun q => gON B N W (α 5) t (α 7) d k + q) (bI_1 (Int32.not_le.mp h14))]
      exact lp_openGaps hC hW hN hL hd hn hn10 (k + 1) (by omega)
termination_by n - 1 - k
decreasing_by all_goals omega
theorem ev_Forecast_openGaps {n N : Nat} {B : ae_B} {W : Nat → Nat → Int32} {t : Nat → Int32} {d : Nat} {zd : Nat} (hC : cOk B n (σ 1) (σ 3) (σ 5) (σ 15) (α 0) (α 1) (α 2) t0 ts) (hW : fW n N W (α 22)) (hN : N ≤ 60) (hL : fL B (n - 1) N W (α 5) t (α 7) (α 24) (α 25) (α 26)) (hd : d ≤ N) : ae_Ev P (zd + 5) 60 [.ref 28, .int (nI d)] (ae_en σ α z t0 ts) (some (.int (gON B N W (α 5) t (α 7) d (n - 1)))) (ae_en σ α z t0 ts) := by
  obtain ⟨hn, hn10, hs3, hk0, hk1, hk2, hr⟩ := id hC
  refine aw_evE (cd := cd_Forecast_openGaps) rfl rfl rfl ?_
  show aw_W _ _ _ _ (0, [some (.ref 28), some (.int (nI d)), none, none], []) (ae_en σ α z t0 ts)
  refine aw_go 4 rfl ⟨trivial, trivial, trivial, trivial, trivial⟩ ?_
  exact lp_openGaps hC hW hN hL hd hn hn10 0 (Nat.zero_le _)
theorem lp_mostOpen {zd : Nat} {n N : Nat} {B : ae_B} {W : Nat → Nat → Int32} {t : Nat → Int32} (hC : cOk B n (σ 1) (σ 3) (σ 5) (σ 15) (α 0) (α 1) (α 2) t0 ts) (hW : fW n N W (α 22)) (hN : N ≤ 60) (hL : fL B (n - 1) N W (α 5) t (α 7) (α 24) (α 25) (α 26)) (hd : 0 ≤ N) (hn : (σ 1) = nI n) (hn10 : n ≤ 10) (k : Nat) (hk : k + 1 ≤ n - 1) : aw_W P (zd + 4) cd_Forecast_mostOpen (fun r H => r = some (.int (nI (gMO (fun g => gOp B N W (α 5) t (α 7) 0 g) (n - 1)))) ∧ H = (ae_en σ α z t0 ts)) (4, [some (.ref 28), some (.int (nI (gMO (fun g => gOp B N W (α 5) t (α 7) 0 g) (k + 1)))), some (.int (nI (k + 1)))], []) (ae_en σ α z t0 ts) := by
  have hm := gMO_lt (fun g => gOp B N W (α 5) t (α 7) 0 g) (k + 1) (by omega)
  refine aw_go 3 rfl ⟨trivial, trivial, trivial, trivial⟩ ?_
  show aw_W _ _ _ _ (7, [some (.ref 28), some (.int (nI (gMO (fun g => gOp B N W (α 5) t (α 7) 0 g) (k + 1)))), some (.int (nI (k + 1)))], [.ref 1, .int (nI (k + 1))]) (ae_en σ α z t0 ts)
  refine aw_callE rfl rfl (ec_Boat_gaps  hn hn10) ?_
  show aw_W _ _ _ _ (8, [some (.ref 28), some (.int (nI (gMO (fun g => gOp B N W (α 5) t (α 7) 0 g) (k + 1)))), some (.int (nI (k + 1)))], [.int (nI (n - 1)), .int (nI (k + 1))]) (ae_en σ α z t0 ts)
  refine aw_go 1 rfl ⟨trivial, trivial⟩ ?_
  refine aw_br (c := (nI (n - 1)) ≤ (nI (k + 1))) (fun h8 => ?_) (fun h8 => ?_)
  · skip
    have h8 := cI_leT (a := n - 1) (b := k + 1) rfl rfl (by omega) (by omega) h8
    show aw_W _ _ _ _ (22, [some (.ref 28), some (.int (nI (gMO (fun g => gOp B N W (α 5) t (α 7) 0 g) (k + 1)))), some (.int (nI (k + 1)))], []) (ae_en σ α z t0 ts)
    have e8 : k + 1 = n - 1 := by omega
    rw [e8]
    refine aw_go 1 rfl ⟨trivial, trivial⟩ ?_
    refine aw_ret rfl rfl trivial ?_
    exact ⟨rfl, rfl⟩
  · skip
    have h8 := cI_leF (a := n - 1) (b := k + 1) rfl rfl (by omega) (by omega) h8
    show aw_W _ _ _ _ (9, [some (.ref 28), some (.int (nI (gMO (fun g => gOp B N W (α 5) t (α 7) 0 g) (k + 1)))), some (.int (nI (k + 1)))], []) (ae_en σ α z t0 ts)
    refine aw_go 3 rfl ⟨trivial, trivial, trivial, trivial⟩ ?_
    refine aw_callE rfl rfl (ev_Forecast_open (d := 0) (g := (k + 1)) hC hW hN hL hd (by omega)) ?_
    show aw_W _ _ _ _ (13, [some (.ref 28), some (.int (nI (gMO (fun g => gOp B N W (α 5) t (α 7) 0 g) (k + 1)))), some (.int (nI (k + 1)))], [.int (gOp B N W (α 5) t (α 7) 0 (k + 1))]) (ae_en σ α z t0 ts)
    refine aw_go 3 rfl ⟨trivial, trivial, trivial, trivial⟩ ?_
    refine aw_callE rfl rfl (ev_Forecast_open (d := 0) (g := (gMO (fun g => gOp B N W (α 5) t (α 7) 0 g) (k + 1))) hC hW hN hL hd (by omega)) ?_
    show aw_W _ _ _ _ (17, [some (.ref 28), some (.int (nI (gMO (fun g => gOp B N W (α 5) t (α 7) 0 g) (k + 1)))), some (.int (nI (k + 1)))], [.int (gOp B N W (α 5) t (α 7) 0 (gMO (fun g => gOp B N W (α 5) t (α 7) 0 g) (k + 1))), .int (gOp B N W (α 5) t (α 7) 0 (k + 1))]) (ae_en σ α z t0 ts)
    refine aw_go 1 rfl ⟨trivial, trivial⟩ ?_
    refine aw_br (c := (gOp B N W (α 5) t (α 7) 0 (k + 1)) ≤ (gOp B N W (α 5) t (α 7) 0 (gMO (fun g => gOp B N W (α 5) t (α 7) 0 g) (k + 1)))) (fun h17 => ?_) (fun h17 => ?_)
    · skip
      show aw_W _ _ _ _ (20, [some (.ref 28), some (.int (nI (gMO (fun g => gOp B N W (α 5) t (α 7) 0 g) (k + 1)))), some (.int (nI (k + 1)))], []) (ae_en σ α z t0 ts)
      refine aw_go 2 rfl ⟨trivial, trivial, trivial⟩ ?_
      show aw_W _ _ _ _ (4, [some (.ref 28), some (.int (nI (gMO (fun g => gOp B N W (α 5) t (α 7) 0 g) (k + 1)))), some (.int ((nI (k + 1)) + 1))], []) (ae_en σ α z t0 ts)
      rw [show (nI (k + 1)) + 1 = nI ((k + 1) + 1) from (cI_add (a := k + 1) (b := 1) rfl rfl)]
      rw [show nI (gMO (fun g => gOp B N W (α 5) t (α 7) 0 g) (k + 1)) = nI (gMO (fun g => gOp B N W (α 5) t (α 7) 0 g) (k + 1 + 1)) from congrArg nI ((show gMO (fun g => gOp B N W (α 5) t (α 7) 0 g) (k + 1 + 1) = _ from by rw [gMO, if_neg (by omega), if_neg (Int32.not_lt.mpr h17)]).symm)]
      exact lp_mostOpen hC hW hN hL hd hn hn10 (k + 1) (by omega)
    · skip
      show aw_W _ _ _ _ (18, [some (.ref 28), some (.int (nI (gMO (fun g => gOp B N W (α 5) t (α 7) 0 g) (k + 1)))), some (.int (nI (k + 1)))], []) (ae_en σ α z t0 ts)
      refine aw_go 4 rfl ⟨trivial, trivial, trivial, trivial, trivial⟩ ?_
      show aw_W _ _ _ _ (4, [some (.ref 28), some (.int (nI (k + 1))), some (.int ((nI (k + 1)) + 1))], []) (ae_en σ α z t0 ts)
      rw [show (nI (k + 1)) + 1 = nI ((k + 1) + 1) from (cI_add (a := k + 1) (b := 1) rfl rfl)]
      rw [show nI (k + 1) = nI (gMO (fun g => gOp B N W (α 5) t (α 7) 0 g) (k + 1 + 1)) from congrArg nI ((show gMO (fun g => gOp B N W (α 5) t (α 7) 0 g) (k + 1 + 1) = _ from by rw [gMO, if_neg (by omega), if_pos (Int32.not_le.mp h17)]).symm)]
      exact lp_mostOpen hC hW hN hL hd hn hn10 (k + 1) (by omega)
termination_by n - 1 - k
decreasing_by all_goals omega
theorem ev_Forecast_mostOpen {n N : Nat} {B : ae_B} {W : Nat → Nat → Int32} {t : Nat → Int32} {zd : Nat} (hC : cOk B n (σ 1) (σ 3) (σ 5) (σ 15) (α 0) (α 1) (α 2) t0 ts) (hW : fW n N W (α 22)) (hN : N ≤ 60) (hL : fL B (n - 1) N W (α 5) t (α 7) (α 24) (α 25) (α 26)) (h2 : 2 ≤ n) : ae_Ev P (zd + 5) 61 [.ref 28] (ae_en σ α z t0 ts) (some (.int (nI (gMO (fun g => gOp B N W (α 5) t (α 7) 0 g) (n - 1))))) (ae_en σ α z t0 ts) := by
  obtain ⟨hn, hn10, hs3, hk0, hk1, hk2, hr⟩ := id hC
  have hd := Nat.zero_le N
  refine aw_evE (cd := cd_Forecast_mostOpen) rfl rfl rfl ?_
  show aw_W _ _ _ _ (0, [some (.ref 28), none, none], []) (ae_en σ α z t0 ts)
  refine aw_go 4 rfl ⟨trivial, trivial, trivial, trivial, trivial⟩ ?_
  exact lp_mostOpen hC hW hN hL hd hn hn10 0 (by omega)
theorem lp_comesIn {zd : Nat} {n N : Nat} {B : ae_B} {W : Nat → Nat → Int32} {t : Nat → Int32} {d : Nat} {w : Int32} {wt nv : Nat → Int32} {l4 : Option Value} (hC : cOk B n (σ 1) (σ 3) (σ 5) (σ 15) (α 0) (α 1) (α 2) t0 ts) (hW : fW n N W (α 22)) (hN : N ≤ 60) (hL : fL B (n - 1) N W (α 5) t (α 7) (α 24) (α 25) (α 26)) (hd : d ≤ N) (hn : (σ 1) = nI n) (hn10 : n ≤ 10) (k : Nat) (hk : k ≤ n - 1) : aw_W P (zd + 5) cd_Forecast_comesIn (fun r H => ∃ (w : Int32) (wt : Nat → Int32) (nv : Nat → Int32), r = some (.int (gCm B n N W (α 5) t (α 7) (σ 2) (sumF (α 4) n) d (n - 1))) ∧ H = (ae_en (au σ [(16, w)]) (au α [(21, wt), (23, nv)]) z t0 ts)) (8, [some (.ref 28), some (.int (nI d)), some (.int (gCm B n N W (α 5) t (α 7) (σ 2) (sumF (α 4) n) d k)), some (.int (nI k)), l4], []) (ae_en (au σ [(16, w)]) (au α [(21, wt), (23, nv)]) z t0 ts) := by
  refine aw_go 3 rfl ⟨trivial, trivial, trivial, trivial⟩ ?_
  show aw_W _ _ _ _ (11, [some (.ref 28), some (.int (nI d)), some (.int (gCm B n N W (α 5) t (α 7) (σ 2) (sumF (α 4) n) d k)), some (.int (nI k)), l4], [.ref 1, .int (nI k)]) (ae_en (au σ [(16, w)]) (au α [(21, wt), (23, nv)]) z t0 ts)
  refine aw_callE rfl rfl (ec_Boat_gaps  hn hn10) ?_
  show aw_W _ _ _ _ (12, [some (.ref 28), some (.int (nI d)), some (.int (gCm B n N W (α 5) t (α 7) (σ 2) (sumF (α 4) n) d k)), some (.int (nI k)), l4], [.int (nI (n - 1)), .int (nI k)]) (ae_en (au σ [(16, w)]) (au α [(21, wt), (23, nv)]) z t0 ts)
  refine aw_go 1 rfl ⟨trivial, trivial⟩ ?_
  refine aw_br (c := (nI (n - 1)) ≤ (nI k)) (fun h12 => ?_) (fun h12 => ?_)
  · skip
    have h12 := cI_leT (a := n - 1) (b := k) rfl rfl (by omega) (by omega) h12
    show aw_W _ _ _ _ (33, [some (.ref 28), some (.int (nI d)), some (.int (gCm B n N W (α 5) t (α 7) (σ 2) (sumF (α 4) n) d k)), some (.int (nI k)), l4], []) (ae_en (au σ [(16, w)]) (au α [(21, wt), (23, nv)]) z t0 ts)
    have e8 : k = n - 1 := by omega
    subst e8
    refine aw_go 1 rfl ⟨trivial, trivial⟩ ?_
    refine aw_ret rfl rfl trivial ?_
    exact ⟨_, _, _, rfl, rfl⟩
  · skip
    have h12 := cI_leF (a := n - 1) (b := k) rfl rfl (by omega) (by omega) h12
    show aw_W _ _ _ _ (13, [some (.ref 28), some (.int (nI d)), some (.int (gCm B n N W (α 5) t (α 7) (σ 2) (sumF (α 4) n) d k)), some (.int (nI k)), l4], []) (ae_en (au σ [(16, w)]) (au α [(21, wt), (23, nv)]) z t0 ts)
    refine aw_go 3 rfl ⟨trivial, trivial, trivial, trivial⟩ ?_
    refine aw_callE rfl rfl (ev_Forecast_open (d := d) (g := k) hC hW hN hL hd (by omega)) ?_
    show aw_W _ _ _ _ (17, [some (.ref 28), some (.int (nI d)), some (.int (gCm B n N W (α 5) t (α 7) (σ 2) (sumF (α 4) n) d k)), some (.int (nI k)), l4], [.int (gOp B N W (α 5) t (α 7) d k)]) (ae_en (au σ [(16, w)]) (au α [(21, wt), (23, nv)]) z t0 ts)
    refine aw_go 4 rfl ⟨trivial, trivial, trivial, trivial, trivial⟩ ?_
    refine aw_br (c := (gOp B N W (α 5) t (α 7) d k) ≤ 0) (fun h20 => ?_) (fun h20 => ?_)
    · skip
      show aw_W _ _ _ _ (28, [some (.ref 28), some (.int (nI d)), some (.int (gCm B n N W (α 5) t (α 7) (σ 2) (sumF (α 4) n) d k)), some (.int (nI k)), some (.int (gOp B N W (α 5) t (α 7) d k))], [.int (gCm B n N W (α 5) t (α 7) (σ 2) (sumF (α 4) n) d k)]) (ae_en (au σ [(16, w)]) (au α [(21, wt), (23, nv)]) z t0 ts)
      refine aw_go 5 rfl ⟨trivial, trivial, trivial, trivial, trivial, trivial⟩ ?_
      show aw_W _ _ _ _ (8, [some (.ref 28), some (.int (nI d)), some (.int ((gCm B n N W (α 5) t (α 7) (σ 2) (sumF (α 4) n) d k) + 0)), some (.int ((nI k) + 1)), some (.int (gOp B N W (α 5) t (α 7) d k))], []) (ae_en (au σ [(16, w)]) (au α [(21, wt), (23, nv)]) z t0 ts)
      rw [show (nI k) + 1 = nI (k + 1) from (cI_add (a := k) (b := 1) rfl rfl)]
      rw [show (gCm B n N W (α 5) t (α 7) (σ 2) (sumF (α 4) n) d k) + 0 = gCm B n N W (α 5) t (α 7) (σ 2) (sumF (α 4) n) d (k + 1) from congrArg (fun q => gCm B n N W (α 5) t (α 7) (σ 2) (sumF (α 4) n) d k + q) (if_neg (Int32.not_lt.mpr h20)).symm]
      exact lp_comesIn hC hW hN hL hd hn hn10 (k + 1) (by omega)
    · skip
      show aw_W _ _ _ _ (21, [some (.ref 28), some (.int (nI d)), some (.int (gCm B n N W (α 5) t (α 7) (σ 2) (sumF (α 4) n) d k)), some (.int (nI k)), some (.int (gOp B N W (α 5) t (α 7) d k))], [.int (gCm B n N W (α 5) t (α 7) (σ 2) (sumF (α 4) n) d k)]) (ae_en (au σ [(16, w)]) (au α [(21, wt), (23, nv)]) z t0 ts)
      refine aw_go 4 rfl ⟨trivial, trivial, trivial, trivial, trivial⟩ ?_
      refine aw_call rfl rfl (ev_Forecast_leak (d := d) (p := k) hC hW hN hd (by omega)) ?_
      rintro _ _ ⟨wt_25, nv_25, rfl, rfl⟩
      show aw_W _ _ _ _ (26, [some (.ref 28), some (.int (nI d)), some (.int (gCm B n N W (α 5) t (α 7) (σ 2) (sumF (α 4) n) d k)), some (.int (nI k)), some (.int (gOp B N W (α 5) t (α 7) d k))], [.int (gLk B n (W d) (dyA (σ 2) d) k), .int (gOp B N W (α 5) t (α 7) d k), .int (gCm B n N W (α 5) t (α 7) (σ 2) (sumF (α 4) n) d k)]) (ae_en (au σ [(16, nI 1)]) (au α [(21, wt_25), (23, nv_25)]) z t0 ts)
      refine aw_go 6 rfl ⟨trivial, trivial, trivial, trivial, trivial, trivial, trivial⟩ ?_
      show aw_W _ _ _ _ (8, [some (.ref 28), some (.int (nI d)), some (.int ((gCm B n N W (α 5) t (α 7) (σ 2) (sumF (α 4) n) d k) + ((gOp B N W (α 5) t (α 7) d k) * (gLk B n (W d) (dyA (σ 2) d) k)))), some (.int ((nI k) + 1)), some (.int (gOp B N W (α 5) t (α 7) d k))], []) (ae_en (au σ [(16, nI 1)]) (au α [(21, wt_25), (23, nv_25)]) z t0 ts)
      rw [show (nI k) + 1 = nI (k + 1) from (cI_add (a := k) (b := 1) rfl rfl)]
      rw [show (gCm B n N W (α 5) t (α 7) (σ 2) (sumF (α 4) n) d k) + ((gOp B N W (α 5) t (α 7) d k) * (gLk B n (W d) (dyA (σ 2) d) k)) = gCm B n N W (α 5) t (α 7) (σ 2) (sumF (α 4) n) d (k + 1) from congrArg (fun q => gCm B n N W (α 5) t (α 7) (σ 2) (sumF (α 4) n) d k + q) (if_pos (Int32.not_le.mp h20)).symm]
      exact lp_comesIn hC hW hN hL hd hn hn10 (k + 1) (by omega)
termination_by n - 1 - k
decreasing_by all_goals omega
theorem ev_Forecast_comesIn {n N : Nat} {B : ae_B} {W : Nat → Nat → Int32} {t : Nat → Int32} {d : Nat} {zd : Nat} (hC : cOk B n (σ 1) (σ 3) (σ 5) (σ 15) (α 0) (α 1) (α 2) t0 ts) (hW : fW n N W (α 22)) (hN : N ≤ 60) (hL : fL B (n - 1) N W (α 5) t (α 7) (α 24) (α 25) (α 26)) (hd : d ≤ N) : aw_X P (zd + 6) 62 [.ref 28, .int (nI d)] (ae_en σ α z t0 ts) (fun r H => ∃ (w : Int32) (wt : Nat → Int32) (nv : Nat → Int32), r = some (.int (gCm B n N W (α 5) t (α 7) (σ 2) (sumF (α 4) n) d (n - 1))) ∧ H = (ae_en (au σ [(16, w)]) (au α [(21, wt), (23, nv)]) z t0 ts)) := by
  obtain ⟨hn, hn10, hs3, hk0, hk1, hk2, hr⟩ := id hC
  refine aw_ev (cd := cd_Forecast_comesIn) rfl rfl rfl ?_
  show aw_W _ _ _ _ (0, [some (.ref 28), some (.int (nI d)), none, none, none], []) (ae_en σ α z t0 ts)
  refine aw_go 3 rfl ⟨trivial, trivial, trivial, trivial⟩ ?_
  show aw_W _ _ _ _ (3, [some (.ref 28), some (.int (nI d)), none, none, none], [.ref 1, .int 10]) (ae_en σ α z t0 ts)
  refine aw_callE rfl rfl (ev_Boat_allNails  hn hn10) ?_
  show aw_W _ _ _ _ (4, [some (.ref 28), some (.int (nI d)), none, none, none], [.int (sumF (α 4) n), .int 10]) (ae_en σ α z t0 ts)
  refine aw_go 4 rfl ⟨trivial, trivial, trivial, trivial, trivial⟩ ?_
  show aw_W _ _ _ _ (8, [some (.ref 28), some (.int (nI d)), some (.int (10 * (sumF (α 4) n))), some (.int 0), none], []) (ae_en σ α z t0 ts)
  exact aw_to (lp_comesIn (w := σ 16) (wt := α 21) (nv := α 23) hC hW hN hL hd hn hn10 0 (Nat.zero_le _)) rfl rfl
theorem lp_cameIn {zd : Nat} {n N : Nat} {B : ae_B} {W : Nat → Nat → Int32} {t : Nat → Int32} {w : Int32} {wt nv : Nat → Int32} (hC : cOk B n (σ 1) (σ 3) (σ 5) (σ 15) (α 0) (α 1) (α 2) t0 ts) (hW : fW n N W (α 22)) (hN : N ≤ 60) (hL : fL B (n - 1) N W (α 5) t (α 7) (α 24) (α 25) (α 26)) (hs : (σ 17) = nI N) (hn10 : n ≤ 10) (k : Nat) (hk : k ≤ N) : aw_W P (zd + 6) cd_Forecast_cameIn (fun r H => ∃ (w : Int32) (wt : Nat → Int32) (nv : Nat → Int32), r = some (.int (gCI B n N W (α 5) t (α 7) (σ 2) (sumF (α 4) n) N)) ∧ H = (ae_en (au σ [(16, w)]) (au α [(21, wt), (23, nv)]) z t0 ts)) (4, [some (.ref 28), some (.int (gCI B n N W (α 5) t (α 7) (σ 2) (sumF (α 4) n) k)), some (.int (nI (k + 1)))], []) (ae_en (au σ [(16, w)]) (au α [(21, wt), (23, nv)]) z t0 ts) := by
  refine aw_go 4 rfl ⟨trivial, trivial, trivial, trivial, trivial⟩ ?_
  show aw_W _ _ _ _ (if (σ 17) < (nI (k + 1)) then 16 else 8, [some (.ref 28), some (.int (gCI B n N W (α 5) t (α 7) (σ 2) (sumF (α 4) n) k)), some (.int (nI (k + 1)))], []) (ae_en (au σ [(16, w)]) (au α [(21, wt), (23, nv)]) z t0 ts)
  refine aw_br (c := (σ 17) < (nI (k + 1))) (fun h7 => ?_) (fun h7 => ?_)
  · skip
    have h7 := cI_ltT (a := N) (b := k + 1) hs rfl (by omega) (by omega) h7
    show aw_W _ _ _ _ (16, [some (.ref 28), some (.int (gCI B n N W (α 5) t (α 7) (σ 2) (sumF (α 4) n) k)), some (.int (nI (k + 1)))], []) (ae_en (au σ [(16, w)]) (au α [(21, wt), (23, nv)]) z t0 ts)
    have e8 : k = N := by omega
    subst e8
    refine aw_go 1 rfl ⟨trivial, trivial⟩ ?_
    refine aw_ret rfl rfl trivial ?_
    exact ⟨_, _, _, rfl, rfl⟩
  · skip
    have h7 := cI_ltF (a := N) (b := k + 1) hs rfl (by omega) (by omega) h7
    show aw_W _ _ _ _ (8, [some (.ref 28), some (.int (gCI B n N W (α 5) t (α 7) (σ 2) (sumF (α 4) n) k)), some (.int (nI (k + 1)))], []) (ae_en (au σ [(16, w)]) (au α [(21, wt), (23, nv)]) z t0 ts)
    refine aw_go 3 rfl ⟨trivial, trivial, trivial, trivial⟩ ?_
    refine aw_call rfl rfl (ev_Forecast_comesIn (d := (k + 1)) hC hW hN hL (by omega)) ?_
    rintro _ _ ⟨w_11, wt_11, nv_11, rfl, rfl⟩
    show aw_W _ _ _ _ (12, [some (.ref 28), some (.int (gCI B n N W (α 5) t (α 7) (σ 2) (sumF (α 4) n) k)), some (.int (nI (k + 1)))], [.int (gCm B n N W (α 5) t (α 7) (σ 2) (sumF (α 4) n) (k + 1) (n - 1)), .int (gCI B n N W (α 5) t (α 7) (σ 2) (sumF (α 4) n) k)]) (ae_en (au σ [(16, w_11)]) (au α [(21, wt_11), (23, nv_11)]) z t0 ts)
    refine aw_go 4 rfl ⟨trivial, trivial, trivial, trivial, trivial⟩ ?_
    show aw_W _ _ _ _ (4, [some (.ref 28), some (.int ((gCI B n N W (α 5) t (α 7) (σ 2) (sumF (α 4) n) k) + (gCm B n N W (α 5) t (α 7) (σ 2) (sumF (α 4) n) (k + 1) (n - 1)))), some (.int ((nI (k + 1)) + 1))], []) (ae_en (au σ [(16, w_11)]) (au α [(21, wt_11), (23, nv_11)]) z t0 ts)
    rw [show (nI (k + 1)) + 1 = nI ((k + 1) + 1) from (cI_add (a := k + 1) (b := 1) rfl rfl)]
    exact lp_cameIn hC hW hN hL hs hn10 (k + 1) (by omega)
termination_by N - k
decreasing_by all_goals omega
theorem ev_Forecast_cameIn {n N : Nat} {B : ae_B} {W : Nat → Nat → Int32} {t : Nat → Int32} {zd : Nat} (hC : cOk B n (σ 1) (σ 3) (σ 5) (σ 15) (α 0) (α 1) (α 2) t0 ts) (hW : fW n N W (α 22)) (hN : N ≤ 60) (hL : fL B (n - 1) N W (α 5) t (α 7) (α 24) (α 25) (α 26)) (hs : (σ 17) = nI N) : aw_X P (zd + 7) 63 [.ref 28] (ae_en σ α z t0 ts) (fun r H => ∃ (w : Int32) (wt : Nat → Int32) (nv : Nat → Int32), r = some (.int (gCI B n N W (α 5) t (α 7) (σ 2) (sumF (α 4) n) N)) ∧ H = (ae_en (au σ [(16, w)]) (au α [(21, wt), (23, nv)]) z t0 ts)) := by
  obtain ⟨hn, hn10, hs3, hk0, hk1, hk2, hr⟩ := id hC
  refine aw_ev (cd := cd_Forecast_cameIn) rfl rfl rfl ?_
  show aw_W _ _ _ _ (0, [some (.ref 28), none, none], []) (ae_en σ α z t0 ts)
  refine aw_go 4 rfl ⟨trivial, trivial, trivial, trivial, trivial⟩ ?_
  exact aw_to (lp_cameIn (w := σ 16) (wt := α 21) (nv := α 23) hC hW hN hL hs hn10 0 (Nat.zero_le _)) rfl rfl
theorem lp_gone {zd : Nat} {n N : Nat} {B : ae_B} {W : Nat → Nat → Int32} {t v f : Nat → Int32} (hC : cOk B n (σ 1) (σ 3) (σ 5) (σ 15) (α 0) (α 1) (α 2) t0 ts) (hW : fW n N W (α 22)) (hN : N ≤ 60) (hL : fL B (n - 1) N W v t f (α 24) (α 25) (α 26)) (hs : (σ 17) = nI N) (hn : (σ 1) = nI n) (hn10 : n ≤ 10) (k : Nat) (hk : k ≤ n - 1) : aw_W P (zd + 2) cd_Forecast_gone (fun r H => r = some (.int (gGN B N W v t f N (n - 1))) ∧ H = (ae_en σ α z t0 ts)) (4, [some (.ref 28), some (.int (gGN B N W v t f N k)), some (.int (nI k))], []) (ae_en σ α z t0 ts) := by
  refine aw_go 3 rfl ⟨trivial, trivial, trivial, trivial⟩ ?_
  show aw_W _ _ _ _ (7, [some (.ref 28), some (.int (gGN B N W v t f N k)), some (.int (nI k))], [.ref 1, .int (nI k)]) (ae_en σ α z t0 ts)
  refine aw_callE rfl rfl (ec_Boat_gaps  hn hn10) ?_
  show aw_W _ _ _ _ (8, [some (.ref 28), some (.int (gGN B N W v t f N k)), some (.int (nI k))], [.int (nI (n - 1)), .int (nI k)]) (ae_en σ α z t0 ts)
  refine aw_go 1 rfl ⟨trivial, trivial⟩ ?_
  refine aw_br (c := (nI (n - 1)) ≤ (nI k)) (fun h8 => ?_) (fun h8 => ?_)
  · skip
    have h8 := cI_leT (a := n - 1) (b := k) rfl rfl (by omega) (by omega) h8
    show aw_W _ _ _ _ (23, [some (.ref 28), some (.int (gGN B N W v t f N k)), some (.int (nI k))], []) (ae_en σ α z t0 ts)
    have e8 : k = n - 1 := by omega
    subst e8
    refine aw_go 1 rfl ⟨trivial, trivial⟩ ?_
    refine aw_ret rfl rfl trivial ?_
    exact ⟨rfl, rfl⟩
  · skip
    have h8 := cI_leF (a := n - 1) (b := k) rfl rfl (by omega) (by omega) h8
    show aw_W _ _ _ _ (9, [some (.ref 28), some (.int (gGN B N W v t f N k)), some (.int (nI k))], []) (ae_en σ α z t0 ts)
    refine aw_go 5 rfl ⟨trivial, trivial, trivial, trivial, trivial, trivial⟩ ?_
    show aw_W _ _ _ _ (14, [some (.ref 28), some (.int (gGN B N W v t f N k)), some (.int (nI k))], [.int (nI k), .int (σ 17), .ref 28, .int (gGN B N W v t f N k)]) (ae_en σ α z t0 ts)
    rw [show σ 17 = nI N from hs]
    refine aw_callE rfl rfl (ek_Forecast_isGone (d := N) (g := k) hC hW hN hL (Nat.le_refl _) (by omega)) ?_
    show aw_W _ _ _ _ (15, [some (.ref 28), some (.int (gGN B N W v t f N k)), some (.int (nI k))], [.int (bI (0 < gGo B N W k (v k) (t k) (f k) ∧ gGo B N W k (v k) (t k) (f k) ≤ N)), .int (gGN B N W v t f N k)]) (ae_en σ α z t0 ts)
    refine aw_go 1 rfl ⟨trivial, trivial⟩ ?_
    refine aw_br (c := (bI (0 < gGo B N W k (v k) (t k) (f k) ∧ gGo B N W k (v k) (t k) (f k) ≤ N)) = 0) (fun h15 => ?_) (fun h15 => ?_)
    · skip
      have h15 := bI_f h15
      show aw_W _ _ _ _ (18, [some (.ref 28), some (.int (gGN B N W v t f N k)), some (.int (nI k))], [.int (gGN B N W v t f N k)]) (ae_en σ α z t0 ts)
      refine aw_go 5 rfl ⟨trivial, trivial, trivial, trivial, trivial, trivial⟩ ?_
      show aw_W _ _ _ _ (4, [some (.ref 28), some (.int ((gGN B N W v t f N k) + 0)), some (.int ((nI k) + 1))], []) (ae_en σ α z t0 ts)
      rw [show (nI k) + 1 = nI (k + 1) from (cI_add (a := k) (b := 1) rfl rfl)]
      rw [show (gGN B N W v t f N k) + 0 = gGN B N W v t f N (k + 1) from congrArg (fun q => gGN B N W v t f N k + q) (bI_0 h15)]
      exact lp_gone hC hW hN hL hs hn hn10 (k + 1) (by omega)
    · skip
      have h15 := bI_t h15
      show aw_W _ _ _ _ (16, [some (.ref 28), some (.int (gGN B N W v t f N k)), some (.int (nI k))], [.int (gGN B N W v t f N k)]) (ae_en σ α z t0 ts)
      refine aw_go 6 rfl ⟨trivial, trivial, trivial, trivial, trivial, trivial, trivial⟩ ?_
      show aw_W _ _ _ _ (4, [some (.ref 28), some (.int ((gGN B N W v t f N k) + 1)), some (.int ((nI k) + 1))], []) (ae_en σ α z t0 ts)
      rw [show (nI k) + 1 = nI (k + 1) from (cI_add (a := k) (b := 1) rfl rfl)]
      rw [show (gGN B N W v t f N k) + 1 = gGN B N W v t f N (k + 1) from congrArg (fun q => gGN B N W v t f N k + q) (bI_1 h15)]
      exact lp_gone hC hW hN hL hs hn hn10 (k + 1) (by omega)
termination_by n - 1 - k
decreasing_by all_goals omega
theorem ev_Forecast_gone {n N : Nat} {B : ae_B} {W : Nat → Nat → Int32} {t v f : Nat → Int32} {zd : Nat} (hC : cOk B n (σ 1) (σ 3) (σ 5) (σ 15) (α 0) (α 1) (α 2) t0 ts) (hW : fW n N W (α 22)) (hN : N ≤ 60) (hL : fL B (n - 1) N W v t f (α 24) (α 25) (α 26)) (hs : (σ 17) = nI N) : ae_Ev P (zd + 3) 64 [.ref 28] (ae_en σ α z t0 ts) (some (.int (gGN B N W v t f N (n - 1)))) (ae_en σ α z t0 ts) := by
  obtain ⟨hn, hn10, hs3, hk0, hk1, hk2, hr⟩ := id hC
  refine aw_evE (cd := cd_Forecast_gone) rfl rfl rfl ?_
  show aw_W _ _ _ _ (0, [some (.ref 28), none, none], []) (ae_en σ α z t0 ts)
  refine aw_go 4 rfl ⟨trivial, trivial, trivial, trivial, trivial⟩ ?_
  exact lp_gone hC hW hN hL hs hn hn10 0 (Nat.zero_le _)
end L26
