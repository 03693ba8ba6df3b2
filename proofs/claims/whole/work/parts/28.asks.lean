/-! what calls answer about a boat (class) -/
def rOp (B : ae_B) (w v s : Nat → Int32) (g : Nat) : Int32 := fMx 0 (gLf B w g (v g) (s g))
def rPr (B : ae_B) (w v s : Nat → Int32) (g : Nat) : Int32 := fMx 0 (- gLf B w g (v g) (s g))
def rCm (B : ae_B) (n : Nat) (w v s : Nat → Int32) (dy nl : Int32) : Nat → Int32
  | 0 => 10 * nl
  | g + 1 => rCm B n w v s dy nl g + (if 0 < rOp B w v s g then rOp B w v s g * gLk B n w dy g else 0)
def rON (B : ae_B) (w v s : Nat → Int32) : Nat → Int32
  | 0 => 0
  | g + 1 => rON B w v s g + bI (0 < rOp B w v s g)
theorem gWd_0 (B : ae_B) (N : Nat) (W : Nat → Nat → Int32) (g : Nat) (v t f : Int32) : gWd B N W 0 g v t f = v := by
  unfold gWd
  rw [if_neg (by omega), Int32.add_zero]
theorem gOp_0 (B : ae_B) (N : Nat) (W : Nat → Nat → Int32) (v t f : Nat → Int32) (g : Nat) : gOp B N W v t f 0 g = rOp B (W 0) v t g := by
  unfold gOp gLd rOp
  rw [gWd_0]
theorem gPr_0 (B : ae_B) (N : Nat) (W : Nat → Nat → Int32) (v t f : Nat → Int32) (g : Nat) : gPr B N W v t f 0 g = rPr B (W 0) v t g := by
  unfold gPr gLd rPr
  rw [gWd_0]
theorem gON_0 (B : ae_B) (N : Nat) (W : Nat → Nat → Int32) (v t f : Nat → Int32) : ∀ g, gON B N W v t f 0 g = rON B (W 0) v t g
  | 0 => rfl
  | g + 1 => by rw [gON, rON, gON_0 B N W v t f g, gOp_0]
theorem gCm_0 (B : ae_B) (n N : Nat) (W : Nat → Nat → Int32) (v t f : Nat → Int32) (dy nl : Int32) (hd : dyA dy 0 = dy) : ∀ g, gCm B n N W v t f dy nl 0 g = rCm B n (W 0) v t dy nl g
  | 0 => rfl
  | g + 1 => by rw [gCm, rCm, gCm_0 B n N W v t f dy nl hd g, gOp_0, hd]
/-- the first from k on, m at most -/
def tD (c : Nat → Bool) : Nat → Nat → Int32
  | 0, _ => -1
  | m + 1, k => if c k = true then nI k else tD c m (k + 1)
/-- the most of m, m - 1 .. 1 -/
def tM (c : Nat → Bool) : Nat → Int32
  | 0 => 0
  | m + 1 => if c (m + 1) = true then nI (m + 1) else tM c m
def aTold (B : ae_B) (n : Nat) (w nl : Nat → Int32) (dy p what : Int32) : Int32 :=
  if iP n p then (if what = 0 then B.2.1.1 p.toNatClampNeg else if what = 1 then B.2.1.2.1 p.toNatClampNeg else if what = 2 then w p.toNatClampNeg else if what = 3 then gGr B w p.toNatClampNeg else if what = 4 then gTk B n w dy p.toNatClampNeg else if what = 5 then gBe B p.toNatClampNeg else if what = 6 then nl p.toNatClampNeg else if what = 7 then B.2.1.2.2 p.toNatClampNeg else -2) else -2
def aGap (B : ae_B) (n : Nat) (w v s f : Nat → Int32) (g what : Int32) : Int32 :=
  if iP (n - 1) g then (if what = 0 then v g.toNatClampNeg else if what = 1 then s g.toNatClampNeg else if what = 2 then f g.toNatClampNeg else if what = 3 then rOp B w v s g.toNatClampNeg else if what = 4 then rPr B w v s g.toNatClampNeg else -2) else -2
def aTR (n : Nat) (o what : Int32) : Int32 := if what = 0 then bI (iP (n - 1) o) else if what = 1 then bI (iP (n - 1) o) else if what = 2 then bI (iP n o) else if what = 3 then 1 else if what = 4 then 1 else 0
theorem aTR_b (n : Nat) (o what : Int32) : aTR n o what = 0 ∨ aTR n o what = 1 := by
  unfold aTR
  split
  · exact bI_b _
  · split
    · exact bI_b _
    · split
      · exact bI_b _
      · split
        · exact Or.inr rfl
        · split
          · exact Or.inr rfl
          · exact Or.inl rfl
def aRun (B : ae_B) (n : Nat) (w v s f : Nat → Int32) (dy nl nn o what : Int32) : Int64 :=
  if 1 ≤ nn ∧ nn ≤ 60 ∧ ¬ aTR n o what = 0 then (if what = 0 then (gOp B nn.toNatClampNeg (wD B n w dy) v s f nn.toNatClampNeg o.toNatClampNeg).toInt64 else if what = 1 then (gPr B nn.toNatClampNeg (wD B n w dy) v s f nn.toNatClampNeg o.toNatClampNeg).toInt64 else if what = 2 then (wD B n w dy nn.toNatClampNeg o.toNatClampNeg).toInt64 else if what = 3 then (gGN B nn.toNatClampNeg (wD B n w dy) v s f nn.toNatClampNeg (n - 1)).toInt64 else (gCI B n nn.toNatClampNeg (wD B n w dy) v s f dy nl nn.toNatClampNeg).toInt64) else -4611686018427387904
theorem nR {x : Int32} (h : ¬ x < 1) (h5 : ¬ 60 < x) : ∃ N : Nat, 1 ≤ N ∧ N ≤ 60 ∧ x = nI N := by
  have h1 : (1 : Int32) ≤ x := Int32.not_lt.mp h
  obtain ⟨j, hj, e⟩ := nI_of2 (x := x) (M := 60) (n := 60) rfl (fun q => h (Int32.lt_of_lt_of_le q (by decide))) (Int32.not_lt.mp h5)
  subst e
  exact ⟨j, (nI_leI (a := 1) (by decide) (by omega)).mp h1, hj, rfl⟩
section L28
variable {P : ae_P} {σ : Nat → Int32} {α : Nat → Nat → Int32} {z : Int64} {t0 : ae_T} {ts : List ae_T}

theorem ev_Dried_told {n : Nat} {B : ae_B} {p what : Int32} {zd : Nat} (hC : cOk B n (σ 1) (σ 3) (σ 5) (σ 15) (α 0) (α 1) (α 2) t0 ts) (hdy : dyA (σ 2) 0 = (σ 2)) : aw_X P (zd + 7) 6 [.ref 0, .int p, .int what] (ae_en σ α z t0 ts) (fun r H => ∃ (w : Int32) (wd : Int32) (wt : Nat → Int32) (wr : Nat → Int32) (nv : Nat → Int32) (ra : Nat → Int32) (rb : Nat → Int32) (rc : Nat → Int32), r = some (.int (aTold B n (α 3) (α 4) (σ 2) p what)) ∧ H = (ae_en (au σ [(16, w), (17, wd)]) (au α [(21, wt), (22, wr), (23, nv), (24, ra), (25, rb), (26, rc)]) z t0 ts)) := by
  obtain ⟨hn, hn10, hs3, hk0, hk1, hk2, hr⟩ := id hC
  refine aw_ev (cd := cd_Dried_told) rfl rfl rfl ?_
  show aw_W _ _ _ _ (0, [some (.ref 0), some (.int p), some (.int what)], []) (ae_en σ α z t0 ts)
  refine aw_go 3 rfl ⟨trivial, trivial, trivial, trivial⟩ ?_
  show aw_W _ _ _ _ (3, [some (.ref 0), some (.int p), some (.int what)], [.int p, .ref 1]) (ae_en σ α z t0 ts)
  refine aw_callE rfl rfl (ec_Boat_hasPlank (p := p) hn hn10) ?_
  show aw_W _ _ _ _ (4, [some (.ref 0), some (.int p), some (.int what)], [.int (bI (iP n p))]) (ae_en σ α z t0 ts)
  refine aw_go 1 rfl ⟨trivial, trivial⟩ ?_
  refine aw_br (c := ¬ (bI (iP n p)) = 0) (fun h4 => ?_) (fun h4 => ?_)
  · skip
    have h4 := bI_t h4
    show aw_W _ _ _ _ (7, [some (.ref 0), some (.int p), some (.int what)], []) (ae_en σ α z t0 ts)
    obtain ⟨j, hj, rfl⟩ := iP_of h4 (by omega)
    refine aw_go 3 rfl ⟨trivial, trivial, trivial, trivial⟩ ?_
    show aw_W _ _ _ _ (10, [some (.ref 0), some (.int (nI j)), some (.int what)], [.int 0, .ref 28]) (ae_en σ α z t0 ts)
    refine aw_call rfl rfl (ev_Forecast_look (N := 0) hC (by decide) rfl) ?_
    rintro _ _ ⟨w_10, wt_10, wr_10, nv_10, ra_10, rb_10, rc_10, rfl, rfl, hW_10, hL_10⟩
    show aw_W _ _ _ _ (11, [some (.ref 0), some (.int (nI j)), some (.int what)], []) (ae_en (au σ [(16, w_10), (17, nI 0)]) (au α [(21, wt_10), (22, wr_10), (23, nv_10), (24, ra_10), (25, rb_10), (26, rc_10)]) z t0 ts)
    refine aw_go 2 rfl ⟨trivial, trivial, trivial⟩ ?_
    refine aw_sw (x := what) (fun h12_0 => ?_) (fun h12_0 => ?_)
    · skip
      show aw_W _ _ _ _ (13, [some (.ref 0), some (.int (nI j)), some (.int what)], []) (ae_en (au σ [(16, w_10), (17, nI 0)]) (au α [(21, wt_10), (22, wr_10), (23, nv_10), (24, ra_10), (25, rb_10), (26, rc_10)]) z t0 ts)
      refine aw_go 5 rfl ⟨trivial, trivial, trivial, trivial, (cI_in (a := j) rfl (by omega) (by decide)), trivial⟩ ?_
      show aw_W _ _ _ _ (18, [some (.ref 0), some (.int (nI j)), some (.int what)], [.int (α 0 (nI j).toNatClampNeg)]) (ae_en (au σ [(16, w_10), (17, nI 0)]) (au α [(21, wt_10), (22, wr_10), (23, nv_10), (24, ra_10), (25, rb_10), (26, rc_10)]) z t0 ts)
      rw [show (nI j).toNatClampNeg = j from cI_cl (a := j) rfl (by omega)]
      refine aw_ret rfl rfl trivial ?_
      refine ⟨w_10, nI 0, wt_10, wr_10, nv_10, ra_10, rb_10, rc_10, ?_, rfl⟩
      rw [aTold, if_pos (iP_nI hj (by omega)), nI_clamp (by omega), if_pos h12_0]
      rw [hk0]
      all_goals rfl
    refine aw_sw (x := what) (fun h12_1 => ?_) (fun h12_1 => ?_)
    · skip
      show aw_W _ _ _ _ (19, [some (.ref 0), some (.int (nI j)), some (.int what)], []) (ae_en (au σ [(16, w_10), (17, nI 0)]) (au α [(21, wt_10), (22, wr_10), (23, nv_10), (24, ra_10), (25, rb_10), (26, rc_10)]) z t0 ts)
      refine aw_go 5 rfl ⟨trivial, trivial, trivial, trivial, (cI_in (a := j) rfl (by omega) (by decide)), trivial⟩ ?_
      show aw_W _ _ _ _ (24, [some (.ref 0), some (.int (nI j)), some (.int what)], [.int (α 1 (nI j).toNatClampNeg)]) (ae_en (au σ [(16, w_10), (17, nI 0)]) (au α [(21, wt_10), (22, wr_10), (23, nv_10), (24, ra_10), (25, rb_10), (26, rc_10)]) z t0 ts)
      rw [show (nI j).toNatClampNeg = j from cI_cl (a := j) rfl (by omega)]
      refine aw_ret rfl rfl trivial ?_
      refine ⟨w_10, nI 0, wt_10, wr_10, nv_10, ra_10, rb_10, rc_10, ?_, rfl⟩
      rw [aTold, if_pos (iP_nI hj (by omega)), nI_clamp (by omega), if_neg h12_0, if_pos h12_1]
      rw [hk1]
      all_goals rfl
    refine aw_sw (x := what) (fun h12_2 => ?_) (fun h12_2 => ?_)
    · skip
      show aw_W _ _ _ _ (25, [some (.ref 0), some (.int (nI j)), some (.int what)], []) (ae_en (au σ [(16, w_10), (17, nI 0)]) (au α [(21, wt_10), (22, wr_10), (23, nv_10), (24, ra_10), (25, rb_10), (26, rc_10)]) z t0 ts)
      refine aw_go 5 rfl ⟨trivial, trivial, trivial, trivial, (cI_in (a := j) rfl (by omega) (by decide)), trivial⟩ ?_
      show aw_W _ _ _ _ (30, [some (.ref 0), some (.int (nI j)), some (.int what)], [.int (α 3 (nI j).toNatClampNeg)]) (ae_en (au σ [(16, w_10), (17, nI 0)]) (au α [(21, wt_10), (22, wr_10), (23, nv_10), (24, ra_10), (25, rb_10), (26, rc_10)]) z t0 ts)
      rw [show (nI j).toNatClampNeg = j from cI_cl (a := j) rfl (by omega)]
      refine aw_ret rfl rfl trivial ?_
      refine ⟨w_10, nI 0, wt_10, wr_10, nv_10, ra_10, rb_10, rc_10, ?_, rfl⟩
      rw [aTold, if_pos (iP_nI hj (by omega)), nI_clamp (by omega), if_neg h12_0, if_neg h12_1, if_pos h12_2]
      all_goals rfl
    refine aw_sw (x := what) (fun h12_3 => ?_) (fun h12_3 => ?_)
    · skip
      show aw_W _ _ _ _ (31, [some (.ref 0), some (.int (nI j)), some (.int what)], []) (ae_en (au σ [(16, w_10), (17, nI 0)]) (au α [(21, wt_10), (22, wr_10), (23, nv_10), (24, ra_10), (25, rb_10), (26, rc_10)]) z t0 ts)
      refine aw_go 4 rfl ⟨trivial, trivial, trivial, trivial, trivial⟩ ?_
      show aw_W _ _ _ _ (35, [some (.ref 0), some (.int (nI j)), some (.int what)], [.int (nI j), .int 0, .ref 28]) (ae_en (au σ [(16, w_10), (17, nI 0)]) (au α [(21, wt_10), (22, wr_10), (23, nv_10), (24, ra_10), (25, rb_10), (26, rc_10)]) z t0 ts)
      refine aw_callE rfl rfl (ev_Forecast_grows (d := 0) (p := j) hC hW_10 (by decide) (Nat.le_refl _) hj) ?_
      show aw_W _ _ _ _ (36, [some (.ref 0), some (.int (nI j)), some (.int what)], [.int (gGr B ((wD B n (α 3) (σ 2)) 0) j)]) (ae_en (au σ [(16, w_10), (17, nI 0)]) (au α [(21, wt_10), (22, wr_10), (23, nv_10), (24, ra_10), (25, rb_10), (26, rc_10)]) z t0 ts)
      refine aw_ret rfl rfl trivial ?_
      refine ⟨w_10, nI 0, wt_10, wr_10, nv_10, ra_10, rb_10, rc_10, ?_, rfl⟩
      rw [aTold, if_pos (iP_nI hj (by omega)), nI_clamp (by omega), if_neg h12_0, if_neg h12_1, if_neg h12_2, if_pos h12_3]
      all_goals rfl
    refine aw_sw (x := what) (fun h12_4 => ?_) (fun h12_4 => ?_)
    · skip
      show aw_W _ _ _ _ (37, [some (.ref 0), some (.int (nI j)), some (.int what)], []) (ae_en (au σ [(16, w_10), (17, nI 0)]) (au α [(21, wt_10), (22, wr_10), (23, nv_10), (24, ra_10), (25, rb_10), (26, rc_10)]) z t0 ts)
      refine aw_go 4 rfl ⟨trivial, trivial, trivial, trivial, trivial⟩ ?_
      show aw_W _ _ _ _ (41, [some (.ref 0), some (.int (nI j)), some (.int what)], [.int (nI j), .int 0, .ref 28]) (ae_en (au σ [(16, w_10), (17, nI 0)]) (au α [(21, wt_10), (22, wr_10), (23, nv_10), (24, ra_10), (25, rb_10), (26, rc_10)]) z t0 ts)
      refine aw_call rfl rfl (ev_Forecast_takesUp (d := 0) (p := j) hC hW_10 (by decide) (Nat.le_refl _) hj) ?_
      rintro _ _ ⟨wt_41, nv_41, rfl, rfl⟩
      show aw_W _ _ _ _ (42, [some (.ref 0), some (.int (nI j)), some (.int what)], [.int (gTk B n ((wD B n (α 3) (σ 2)) 0) (dyA (σ 2) 0) j)]) (ae_en (au σ [(16, nI 1), (17, nI 0)]) (au α [(21, wt_41), (22, wr_10), (23, nv_41), (24, ra_10), (25, rb_10), (26, rc_10)]) z t0 ts)
      refine aw_ret rfl rfl trivial ?_
      refine ⟨nI 1, nI 0, wt_41, wr_10, nv_41, ra_10, rb_10, rc_10, ?_, rfl⟩
      rw [aTold, if_pos (iP_nI hj (by omega)), nI_clamp (by omega), if_neg h12_0, if_neg h12_1, if_neg h12_2, if_neg h12_3, if_pos h12_4]
      rw [hdy]
      all_goals rfl
    refine aw_sw (x := what) (fun h12_5 => ?_) (fun h12_5 => ?_)
    · skip
      show aw_W _ _ _ _ (43, [some (.ref 0), some (.int (nI j)), some (.int what)], []) (ae_en (au σ [(16, w_10), (17, nI 0)]) (au α [(21, wt_10), (22, wr_10), (23, nv_10), (24, ra_10), (25, rb_10), (26, rc_10)]) z t0 ts)
      refine aw_go 3 rfl ⟨trivial, trivial, trivial, trivial⟩ ?_
      show aw_W _ _ _ _ (46, [some (.ref 0), some (.int (nI j)), some (.int what)], [.int (nI j), .ref 1]) (ae_en (au σ [(16, w_10), (17, nI 0)]) (au α [(21, wt_10), (22, wr_10), (23, nv_10), (24, ra_10), (25, rb_10), (26, rc_10)]) z t0 ts)
      refine aw_callE rfl rfl (ec_Boat_bears (p := j) hC hj) ?_
      show aw_W _ _ _ _ (47, [some (.ref 0), some (.int (nI j)), some (.int what)], [.int (gBe B j)]) (ae_en (au σ [(16, w_10), (17, nI 0)]) (au α [(21, wt_10), (22, wr_10), (23, nv_10), (24, ra_10), (25, rb_10), (26, rc_10)]) z t0 ts)
      refine aw_ret rfl rfl trivial ?_
      refine ⟨w_10, nI 0, wt_10, wr_10, nv_10, ra_10, rb_10, rc_10, ?_, rfl⟩
      rw [aTold, if_pos (iP_nI hj (by omega)), nI_clamp (by omega), if_neg h12_0, if_neg h12_1, if_neg h12_2, if_neg h12_3, if_neg h12_4, if_pos h12_5]
      all_goals rfl
    refine aw_sw (x := what) (fun h12_6 => ?_) (fun h12_6 => ?_)
    · skip
      show aw_W _ _ _ _ (48, [some (.ref 0), some (.int (nI j)), some (.int what)], []) (ae_en (au σ [(16, w_10), (17, nI 0)]) (au α [(21, wt_10), (22, wr_10), (23, nv_10), (24, ra_10), (25, rb_10), (26, rc_10)]) z t0 ts)
      refine aw_go 5 rfl ⟨trivial, trivial, trivial, trivial, (cI_in (a := j) rfl (by omega) (by decide)), trivial⟩ ?_
      show aw_W _ _ _ _ (53, [some (.ref 0), some (.int (nI j)), some (.int what)], [.int (α 4 (nI j).toNatClampNeg)]) (ae_en (au σ [(16, w_10), (17, nI 0)]) (au α [(21, wt_10), (22, wr_10), (23, nv_10), (24, ra_10), (25, rb_10), (26, rc_10)]) z t0 ts)
      rw [show (nI j).toNatClampNeg = j from cI_cl (a := j) rfl (by omega)]
      refine aw_ret rfl rfl trivial ?_
      refine ⟨w_10, nI 0, wt_10, wr_10, nv_10, ra_10, rb_10, rc_10, ?_, rfl⟩
      rw [aTold, if_pos (iP_nI hj (by omega)), nI_clamp (by omega), if_neg h12_0, if_neg h12_1, if_neg h12_2, if_neg h12_3, if_neg h12_4, if_neg h12_5, if_pos h12_6]
      all_goals rfl
    refine aw_sw (x := what) (fun h12_7 => ?_) (fun h12_7 => ?_)
    · skip
      show aw_W _ _ _ _ (54, [some (.ref 0), some (.int (nI j)), some (.int what)], []) (ae_en (au σ [(16, w_10), (17, nI 0)]) (au α [(21, wt_10), (22, wr_10), (23, nv_10), (24, ra_10), (25, rb_10), (26, rc_10)]) z t0 ts)
      refine aw_go 5 rfl ⟨trivial, trivial, trivial, trivial, (cI_in (a := j) rfl (by omega) (by decide)), trivial⟩ ?_
      show aw_W _ _ _ _ (59, [some (.ref 0), some (.int (nI j)), some (.int what)], [.int (α 2 (nI j).toNatClampNeg)]) (ae_en (au σ [(16, w_10), (17, nI 0)]) (au α [(21, wt_10), (22, wr_10), (23, nv_10), (24, ra_10), (25, rb_10), (26, rc_10)]) z t0 ts)
      rw [show (nI j).toNatClampNeg = j from cI_cl (a := j) rfl (by omega)]
      refine aw_ret rfl rfl trivial ?_
      refine ⟨w_10, nI 0, wt_10, wr_10, nv_10, ra_10, rb_10, rc_10, ?_, rfl⟩
      rw [aTold, if_pos (iP_nI hj (by omega)), nI_clamp (by omega), if_neg h12_0, if_neg h12_1, if_neg h12_2, if_neg h12_3, if_neg h12_4, if_neg h12_5, if_neg h12_6, if_pos h12_7]
      rw [hk2]
      all_goals rfl
    show aw_W _ _ _ _ (60, [some (.ref 0), some (.int (nI j)), some (.int what)], []) (ae_en (au σ [(16, w_10), (17, nI 0)]) (au α [(21, wt_10), (22, wr_10), (23, nv_10), (24, ra_10), (25, rb_10), (26, rc_10)]) z t0 ts)
    refine aw_go 1 rfl ⟨trivial, trivial⟩ ?_
    refine aw_ret rfl rfl trivial ?_
    refine ⟨w_10, nI 0, wt_10, wr_10, nv_10, ra_10, rb_10, rc_10, ?_, rfl⟩
    rw [aTold, if_pos (iP_nI hj (by omega)), nI_clamp (by omega), if_neg h12_0, if_neg h12_1, if_neg h12_2, if_neg h12_3, if_neg h12_4, if_neg h12_5, if_neg h12_6, if_neg h12_7]
    all_goals rfl
  · skip
    have h4 := bI_f (Classical.not_not.mp h4)
    show aw_W _ _ _ _ (5, [some (.ref 0), some (.int p), some (.int what)], []) (ae_en σ α z t0 ts)
    refine aw_go 1 rfl ⟨trivial, trivial⟩ ?_
    refine aw_ret rfl rfl trivial ?_
    refine ⟨σ 16, σ 17, α 21, α 22, α 23, α 24, α 25, α 26, ?_, rfl⟩
    rw [aTold, if_neg h4]
theorem ev_Dried_gap {n : Nat} {B : ae_B} {g what : Int32} {zd : Nat} (hC : cOk B n (σ 1) (σ 3) (σ 5) (σ 15) (α 0) (α 1) (α 2) t0 ts) : aw_X P (zd + 7) 7 [.ref 0, .int g, .int what] (ae_en σ α z t0 ts) (fun r H => ∃ (w : Int32) (wd : Int32) (wt : Nat → Int32) (wr : Nat → Int32) (nv : Nat → Int32) (ra : Nat → Int32) (rb : Nat → Int32) (rc : Nat → Int32), r = some (.int (aGap B n (α 3) (α 5) (α 6) (α 7) g what)) ∧ H = (ae_en (au σ [(16, w), (17, wd)]) (au α [(21, wt), (22, wr), (23, nv), (24, ra), (25, rb), (26, rc)]) z t0 ts)) := by
  obtain ⟨hn, hn10, hs3, hk0, hk1, hk2, hr⟩ := id hC
  refine aw_ev (cd := cd_Dried_gap) rfl rfl rfl ?_
  show aw_W _ _ _ _ (0, [some (.ref 0), some (.int g), some (.int what)], []) (ae_en σ α z t0 ts)
  refine aw_go 3 rfl ⟨trivial, trivial, trivial, trivial⟩ ?_
  show aw_W _ _ _ _ (3, [some (.ref 0), some (.int g), some (.int what)], [.int g, .ref 1]) (ae_en σ α z t0 ts)
  refine aw_callE rfl rfl (ec_Boat_hasGap (p := g) hn hn10) ?_
  show aw_W _ _ _ _ (4, [some (.ref 0), some (.int g), some (.int what)], [.int (bI (iP (n - 1) g))]) (ae_en σ α z t0 ts)
  refine aw_go 1 rfl ⟨trivial, trivial⟩ ?_
  refine aw_br (c := ¬ (bI (iP (n - 1) g)) = 0) (fun h4 => ?_) (fun h4 => ?_)
  · skip
    have h4 := bI_t h4
    show aw_W _ _ _ _ (7, [some (.ref 0), some (.int g), some (.int what)], []) (ae_en σ α z t0 ts)
    obtain ⟨j, hj, rfl⟩ := iP_of h4 (by omega)
    refine aw_go 3 rfl ⟨trivial, trivial, trivial, trivial⟩ ?_
    show aw_W _ _ _ _ (10, [some (.ref 0), some (.int (nI j)), some (.int what)], [.int 0, .ref 28]) (ae_en σ α z t0 ts)
    refine aw_call rfl rfl (ev_Forecast_look (N := 0) hC (by decide) rfl) ?_
    rintro _ _ ⟨w_10, wt_10, wr_10, nv_10, ra_10, rb_10, rc_10, rfl, rfl, hW_10, hL_10⟩
    show aw_W _ _ _ _ (11, [some (.ref 0), some (.int (nI j)), some (.int what)], []) (ae_en (au σ [(16, w_10), (17, nI 0)]) (au α [(21, wt_10), (22, wr_10), (23, nv_10), (24, ra_10), (25, rb_10), (26, rc_10)]) z t0 ts)
    refine aw_go 2 rfl ⟨trivial, trivial, trivial⟩ ?_
    refine aw_sw (x := what) (fun h12_0 => ?_) (fun h12_0 => ?_)
    · skip
      show aw_W _ _ _ _ (13, [some (.ref 0), some (.int (nI j)), some (.int what)], []) (ae_en (au σ [(16, w_10), (17, nI 0)]) (au α [(21, wt_10), (22, wr_10), (23, nv_10), (24, ra_10), (25, rb_10), (26, rc_10)]) z t0 ts)
      refine aw_go 5 rfl ⟨trivial, trivial, trivial, trivial, (cI_in (a := j) rfl (by omega) (by decide)), trivial⟩ ?_
      show aw_W _ _ _ _ (18, [some (.ref 0), some (.int (nI j)), some (.int what)], [.int (α 5 (nI j).toNatClampNeg)]) (ae_en (au σ [(16, w_10), (17, nI 0)]) (au α [(21, wt_10), (22, wr_10), (23, nv_10), (24, ra_10), (25, rb_10), (26, rc_10)]) z t0 ts)
      rw [show (nI j).toNatClampNeg = j from cI_cl (a := j) rfl (by omega)]
      refine aw_ret rfl rfl trivial ?_
      refine ⟨w_10, nI 0, wt_10, wr_10, nv_10, ra_10, rb_10, rc_10, ?_, rfl⟩
      rw [aGap, if_pos (iP_nI hj (by omega)), nI_clamp (by omega), if_pos h12_0]
      all_goals rfl
    refine aw_sw (x := what) (fun h12_1 => ?_) (fun h12_1 => ?_)
    · skip
      show aw_W _ _ _ _ (19, [some (.ref 0), some (.int (nI j)), some (.int what)], []) (ae_en (au σ [(16, w_10), (17, nI 0)]) (au α [(21, wt_10), (22, wr_10), (23, nv_10), (24, ra_10), (25, rb_10), (26, rc_10)]) z t0 ts)
      refine aw_go 5 rfl ⟨trivial, trivial, trivial, trivial, (cI_in (a := j) rfl (by omega) (by decide)), trivial⟩ ?_
      show aw_W _ _ _ _ (24, [some (.ref 0), some (.int (nI j)), some (.int what)], [.int (α 6 (nI j).toNatClampNeg)]) (ae_en (au σ [(16, w_10), (17, nI 0)]) (au α [(21, wt_10), (22, wr_10), (23, nv_10), (24, ra_10), (25, rb_10), (26, rc_10)]) z t0 ts)
      rw [show (nI j).toNatClampNeg = j from cI_cl (a := j) rfl (by omega)]
      refine aw_ret rfl rfl trivial ?_
      refine ⟨w_10, nI 0, wt_10, wr_10, nv_10, ra_10, rb_10, rc_10, ?_, rfl⟩
      rw [aGap, if_pos (iP_nI hj (by omega)), nI_clamp (by omega), if_neg h12_0, if_pos h12_1]
      all_goals rfl
    refine aw_sw (x := what) (fun h12_2 => ?_) (fun h12_2 => ?_)
    · skip
      show aw_W _ _ _ _ (25, [some (.ref 0), some (.int (nI j)), some (.int what)], []) (ae_en (au σ [(16, w_10), (17, nI 0)]) (au α [(21, wt_10), (22, wr_10), (23, nv_10), (24, ra_10), (25, rb_10), (26, rc_10)]) z t0 ts)
      refine aw_go 5 rfl ⟨trivial, trivial, trivial, trivial, (cI_in (a := j) rfl (by omega) (by decide)), trivial⟩ ?_
      show aw_W _ _ _ _ (30, [some (.ref 0), some (.int (nI j)), some (.int what)], [.int (α 7 (nI j).toNatClampNeg)]) (ae_en (au σ [(16, w_10), (17, nI 0)]) (au α [(21, wt_10), (22, wr_10), (23, nv_10), (24, ra_10), (25, rb_10), (26, rc_10)]) z t0 ts)
      rw [show (nI j).toNatClampNeg = j from cI_cl (a := j) rfl (by omega)]
      refine aw_ret rfl rfl trivial ?_
      refine ⟨w_10, nI 0, wt_10, wr_10, nv_10, ra_10, rb_10, rc_10, ?_, rfl⟩
      rw [aGap, if_pos (iP_nI hj (by omega)), nI_clamp (by omega), if_neg h12_0, if_neg h12_1, if_pos h12_2]
      all_goals rfl
    refine aw_sw (x := what) (fun h12_3 => ?_) (fun h12_3 => ?_)
    · skip
      show aw_W _ _ _ _ (31, [some (.ref 0), some (.int (nI j)), some (.int what)], []) (ae_en (au σ [(16, w_10), (17, nI 0)]) (au α [(21, wt_10), (22, wr_10), (23, nv_10), (24, ra_10), (25, rb_10), (26, rc_10)]) z t0 ts)
      refine aw_go 4 rfl ⟨trivial, trivial, trivial, trivial, trivial⟩ ?_
      show aw_W _ _ _ _ (35, [some (.ref 0), some (.int (nI j)), some (.int what)], [.int (nI j), .int 0, .ref 28]) (ae_en (au σ [(16, w_10), (17, nI 0)]) (au α [(21, wt_10), (22, wr_10), (23, nv_10), (24, ra_10), (25, rb_10), (26, rc_10)]) z t0 ts)
      refine aw_callE rfl rfl (ev_Forecast_open (d := 0) (g := j) hC hW_10 (by decide) hL_10 (Nat.le_refl _) (by omega)) ?_
      show aw_W _ _ _ _ (36, [some (.ref 0), some (.int (nI j)), some (.int what)], [.int (gOp B 0 (wD B n (α 3) (σ 2)) (α 5) (α 6) (α 7) 0 j)]) (ae_en (au σ [(16, w_10), (17, nI 0)]) (au α [(21, wt_10), (22, wr_10), (23, nv_10), (24, ra_10), (25, rb_10), (26, rc_10)]) z t0 ts)
      refine aw_ret rfl rfl trivial ?_
      refine ⟨w_10, nI 0, wt_10, wr_10, nv_10, ra_10, rb_10, rc_10, ?_, rfl⟩
      rw [aGap, if_pos (iP_nI hj (by omega)), nI_clamp (by omega), if_neg h12_0, if_neg h12_1, if_neg h12_2, if_pos h12_3]
      rw [gOp_0]
      all_goals rfl
    refine aw_sw (x := what) (fun h12_4 => ?_) (fun h12_4 => ?_)
    · skip
      show aw_W _ _ _ _ (37, [some (.ref 0), some (.int (nI j)), some (.int what)], []) (ae_en (au σ [(16, w_10), (17, nI 0)]) (au α [(21, wt_10), (22, wr_10), (23, nv_10), (24, ra_10), (25, rb_10), (26, rc_10)]) z t0 ts)
      refine aw_go 4 rfl ⟨trivial, trivial, trivial, trivial, trivial⟩ ?_
      show aw_W _ _ _ _ (41, [some (.ref 0), some (.int (nI j)), some (.int what)], [.int (nI j), .int 0, .ref 28]) (ae_en (au σ [(16, w_10), (17, nI 0)]) (au α [(21, wt_10), (22, wr_10), (23, nv_10), (24, ra_10), (25, rb_10), (26, rc_10)]) z t0 ts)
      refine aw_callE rfl rfl (ev_Forecast_press (d := 0) (g := j) hC hW_10 (by decide) hL_10 (Nat.le_refl _) (by omega)) ?_
      show aw_W _ _ _ _ (42, [some (.ref 0), some (.int (nI j)), some (.int what)], [.int (gPr B 0 (wD B n (α 3) (σ 2)) (α 5) (α 6) (α 7) 0 j)]) (ae_en (au σ [(16, w_10), (17, nI 0)]) (au α [(21, wt_10), (22, wr_10), (23, nv_10), (24, ra_10), (25, rb_10), (26, rc_10)]) z t0 ts)
      refine aw_ret rfl rfl trivial ?_
      refine ⟨w_10, nI 0, wt_10, wr_10, nv_10, ra_10, rb_10, rc_10, ?_, rfl⟩
      rw [aGap, if_pos (iP_nI hj (by omega)), nI_clamp (by omega), if_neg h12_0, if_neg h12_1, if_neg h12_2, if_neg h12_3, if_pos h12_4]
      rw [gPr_0]
      all_goals rfl
    show aw_W _ _ _ _ (43, [some (.ref 0), some (.int (nI j)), some (.int what)], []) (ae_en (au σ [(16, w_10), (17, nI 0)]) (au α [(21, wt_10), (22, wr_10), (23, nv_10), (24, ra_10), (25, rb_10), (26, rc_10)]) z t0 ts)
    refine aw_go 1 rfl ⟨trivial, trivial⟩ ?_
    refine aw_ret rfl rfl trivial ?_
    refine ⟨w_10, nI 0, wt_10, wr_10, nv_10, ra_10, rb_10, rc_10, ?_, rfl⟩
    rw [aGap, if_pos (iP_nI hj (by omega)), nI_clamp (by omega), if_neg h12_0, if_neg h12_1, if_neg h12_2, if_neg h12_3, if_neg h12_4]
    all_goals rfl
  · skip
    have h4 := bI_f (Classical.not_not.mp h4)
    show aw_W _ _ _ _ (5, [some (.ref 0), some (.int g), some (.int what)], []) (ae_en σ α z t0 ts)
    refine aw_go 1 rfl ⟨trivial, trivial⟩ ?_
    refine aw_ret rfl rfl trivial ?_
    refine ⟨σ 16, σ 17, α 21, α 22, α 23, α 24, α 25, α 26, ?_, rfl⟩
    rw [aGap, if_neg h4]
theorem ev_Dried_comes {n : Nat} {B : ae_B} {zd : Nat} (hC : cOk B n (σ 1) (σ 3) (σ 5) (σ 15) (α 0) (α 1) (α 2) t0 ts) (hdy : dyA (σ 2) 0 = (σ 2)) : aw_X P (zd + 7) 12 [.ref 0] (ae_en σ α z t0 ts) (fun r H => ∃ (w : Int32) (wd : Int32) (wt : Nat → Int32) (wr : Nat → Int32) (nv : Nat → Int32) (ra : Nat → Int32) (rb : Nat → Int32) (rc : Nat → Int32), r = some (.int (rCm B n (α 3) (α 5) (α 6) (σ 2) (sumF (α 4) n) (n - 1))) ∧ H = (ae_en (au σ [(16, w), (17, wd)]) (au α [(21, wt), (22, wr), (23, nv), (24, ra), (25, rb), (26, rc)]) z t0 ts)) := by
  obtain ⟨hn, hn10, hs3, hk0, hk1, hk2, hr⟩ := id hC
  refine aw_ev (cd := cd_Dried_comes) rfl rfl rfl ?_
  show aw_W _ _ _ _ (0, [some (.ref 0)], []) (ae_en σ α z t0 ts)
  refine aw_go 3 rfl ⟨trivial, trivial, trivial, trivial⟩ ?_
  show aw_W _ _ _ _ (3, [some (.ref 0)], [.int 0, .ref 28]) (ae_en σ α z t0 ts)
  refine aw_call rfl rfl (ev_Forecast_look (N := 0) hC (by decide) rfl) ?_
  rintro _ _ ⟨w_3, wt_3, wr_3, nv_3, ra_3, rb_3, rc_3, rfl, rfl, hW_3, hL_3⟩
  show aw_W _ _ _ _ (4, [some (.ref 0)], []) (ae_en (au σ [(16, w_3), (17, nI 0)]) (au α [(21, wt_3), (22, wr_3), (23, nv_3), (24, ra_3), (25, rb_3), (26, rc_3)]) z t0 ts)
  refine aw_go 3 rfl ⟨trivial, trivial, trivial, trivial⟩ ?_
  show aw_W _ _ _ _ (7, [some (.ref 0)], [.int 0, .ref 28]) (ae_en (au σ [(16, w_3), (17, nI 0)]) (au α [(21, wt_3), (22, wr_3), (23, nv_3), (24, ra_3), (25, rb_3), (26, rc_3)]) z t0 ts)
  refine aw_call rfl rfl (ev_Forecast_comesIn (d := 0) hC hW_3 (by decide) hL_3 (Nat.le_refl _)) ?_
  rintro _ _ ⟨w_7, wt_7, nv_7, rfl, rfl⟩
  show aw_W _ _ _ _ (8, [some (.ref 0)], [.int (gCm B n 0 (wD B n (α 3) (σ 2)) (α 5) (α 6) (α 7) (σ 2) (sumF (α 4) n) 0 (n - 1))]) (ae_en (au σ [(16, w_7), (17, nI 0)]) (au α [(21, wt_7), (22, wr_3), (23, nv_7), (24, ra_3), (25, rb_3), (26, rc_3)]) z t0 ts)
  refine aw_ret rfl rfl trivial ?_
  refine ⟨w_7, nI 0, wt_7, wr_3, nv_7, ra_3, rb_3, rc_3, ?_, rfl⟩
  rw [gCm_0 B n 0 _ _ _ _ _ _ hdy]
  all_goals rfl
theorem ev_Dried_isToldOfRun {n : Nat} {o what : Int32} {zd : Nat} (hn : (σ 1) = nI n) (hn10 : n ≤ 10) : ae_Ev P (zd + 3) 14 [.ref 0, .int o, .int what] (ae_en σ α z t0 ts) (some (.int (aTR n o what))) (ae_en σ α z t0 ts) := by
  refine aw_evE (cd := cd_Dried_isToldOfRun) rfl rfl rfl ?_
  show aw_W _ _ _ _ (0, [some (.ref 0), some (.int o), some (.int what)], []) (ae_en σ α z t0 ts)
  refine aw_go 2 rfl ⟨trivial, trivial, trivial⟩ ?_
  refine aw_sw (x := what) (fun h1_0 => ?_) (fun h1_0 => ?_)
  · skip
    show aw_W _ _ _ _ (2, [some (.ref 0), some (.int o), some (.int what)], []) (ae_en σ α z t0 ts)
    refine aw_go 3 rfl ⟨trivial, trivial, trivial, trivial⟩ ?_
    show aw_W _ _ _ _ (5, [some (.ref 0), some (.int o), some (.int what)], [.int o, .ref 1]) (ae_en σ α z t0 ts)
    refine aw_callE rfl rfl (ec_Boat_hasGap (p := o) hn hn10) ?_
    show aw_W _ _ _ _ (6, [some (.ref 0), some (.int o), some (.int what)], [.int (bI (iP (n - 1) o))]) (ae_en σ α z t0 ts)
    refine aw_ret rfl rfl (by first | exact Or.inl rfl | exact Or.inr rfl | exact bI_b _) ?_
    refine ⟨?_, rfl⟩
    rw [aTR, if_pos h1_0]
  refine aw_sw (x := what) (fun h1_1 => ?_) (fun h1_1 => ?_)
  · skip
    show aw_W _ _ _ _ (2, [some (.ref 0), some (.int o), some (.int what)], []) (ae_en σ α z t0 ts)
    refine aw_go 3 rfl ⟨trivial, trivial, trivial, trivial⟩ ?_
    show aw_W _ _ _ _ (5, [some (.ref 0), some (.int o), some (.int what)], [.int o, .ref 1]) (ae_en σ α z t0 ts)
    refine aw_callE rfl rfl (ec_Boat_hasGap (p := o) hn hn10) ?_
    show aw_W _ _ _ _ (6, [some (.ref 0), some (.int o), some (.int what)], [.int (bI (iP (n - 1) o))]) (ae_en σ α z t0 ts)
    refine aw_ret rfl rfl (by first | exact Or.inl rfl | exact Or.inr rfl | exact bI_b _) ?_
    refine ⟨?_, rfl⟩
    rw [aTR, if_neg h1_0, if_pos h1_1]
  refine aw_sw (x := what) (fun h1_2 => ?_) (fun h1_2 => ?_)
  · skip
    show aw_W _ _ _ _ (7, [some (.ref 0), some (.int o), some (.int what)], []) (ae_en σ α z t0 ts)
    refine aw_go 3 rfl ⟨trivial, trivial, trivial, trivial⟩ ?_
    show aw_W _ _ _ _ (10, [some (.ref 0), some (.int o), some (.int what)], [.int o, .ref 1]) (ae_en σ α z t0 ts)
    refine aw_callE rfl rfl (ec_Boat_hasPlank (p := o) hn hn10) ?_
    show aw_W _ _ _ _ (11, [some (.ref 0), some (.int o), some (.int what)], [.int (bI (iP n o))]) (ae_en σ α z t0 ts)
    refine aw_ret rfl rfl (by first | exact Or.inl rfl | exact Or.inr rfl | exact bI_b _) ?_
    refine ⟨?_, rfl⟩
    rw [aTR, if_neg h1_0, if_neg h1_1, if_pos h1_2]
  refine aw_sw (x := what) (fun h1_3 => ?_) (fun h1_3 => ?_)
  · skip
    show aw_W _ _ _ _ (12, [some (.ref 0), some (.int o), some (.int what)], []) (ae_en σ α z t0 ts)
    refine aw_go 1 rfl ⟨trivial, trivial⟩ ?_
    refine aw_ret rfl rfl (by first | exact Or.inl rfl | exact Or.inr rfl | exact bI_b _) ?_
    refine ⟨?_, rfl⟩
    rw [aTR, if_neg h1_0, if_neg h1_1, if_neg h1_2, if_pos h1_3]
  refine aw_sw (x := what) (fun h1_4 => ?_) (fun h1_4 => ?_)
  · skip
    show aw_W _ _ _ _ (12, [some (.ref 0), some (.int o), some (.int what)], []) (ae_en σ α z t0 ts)
    refine aw_go 1 rfl ⟨trivial, trivial⟩ ?_
    refine aw_ret rfl rfl (by first | exact Or.inl rfl | exact Or.inr rfl | exact bI_b _) ?_
    refine ⟨?_, rfl⟩
    rw [aTR, if_neg h1_0, if_neg h1_1, if_neg h1_2, if_neg h1_3, if_pos h1_4]
  show aw_W _ _ _ _ (14, [some (.ref 0), some (.int o), some (.int what)], []) (ae_en σ α z t0 ts)
  refine aw_go 1 rfl ⟨trivial, trivial⟩ ?_
  refine aw_ret rfl rfl (by first | exact Or.inl rfl | exact Or.inr rfl | exact bI_b _) ?_
  refine ⟨?_, rfl⟩
  rw [aTR, if_neg h1_0, if_neg h1_1, if_neg h1_2, if_neg h1_3, if_neg h1_4]
theorem ev_Dried_run {n : Nat} {B : ae_B} {nn o what : Int32} {zd : Nat} (hC : cOk B n (σ 1) (σ 3) (σ 5) (σ 15) (α 0) (α 1) (α 2) t0 ts) : aw_X P (zd + 8) 13 [.ref 0, .int nn, .int o, .int what] (ae_en σ α z t0 ts) (fun r H => ∃ (w : Int32) (wd : Int32) (wt : Nat → Int32) (wr : Nat → Int32) (nv : Nat → Int32) (ra : Nat → Int32) (rb : Nat → Int32) (rc : Nat → Int32), r = some (.long (aRun B n (α 3) (α 5) (α 6) (α 7) (σ 2) (sumF (α 4) n) nn o what)) ∧ H = (ae_en (au σ [(16, w), (17, wd)]) (au α [(21, wt), (22, wr), (23, nv), (24, ra), (25, rb), (26, rc)]) z t0 ts)) := by
  obtain ⟨hn, hn10, hs3, hk0, hk1, hk2, hr⟩ := id hC
  refine aw_ev (cd := cd_Dried_run) rfl rfl rfl ?_
  show aw_W _ _ _ _ (0, [some (.ref 0), some (.int nn), some (.int o), some (.int what)], []) (ae_en σ α z t0 ts)
  refine aw_go 3 rfl ⟨trivial, trivial, trivial, trivial⟩ ?_
  refine aw_br (c := nn < 1) (fun h2 => ?_) (fun h2 => ?_)
  · skip
    show aw_W _ _ _ _ (11, [some (.ref 0), some (.int nn), some (.int o), some (.int what)], []) (ae_en σ α z t0 ts)
    refine aw_go 1 rfl ⟨trivial, trivial⟩ ?_
    refine aw_ret rfl rfl trivial ?_
    refine ⟨σ 16, σ 17, α 21, α 22, α 23, α 24, α 25, α 26, ?_, rfl⟩
    rw [aRun, if_neg (fun q => absurd q.1 (Int32.not_le.mpr h2))]
  · skip
    show aw_W _ _ _ _ (3, [some (.ref 0), some (.int nn), some (.int o), some (.int what)], []) (ae_en σ α z t0 ts)
    refine aw_go 3 rfl ⟨trivial, trivial, trivial, trivial⟩ ?_
    refine aw_br (c := (60 : Int32) < nn) (fun h5 => ?_) (fun h5 => ?_)
    · skip
      show aw_W _ _ _ _ (11, [some (.ref 0), some (.int nn), some (.int o), some (.int what)], []) (ae_en σ α z t0 ts)
      refine aw_go 1 rfl ⟨trivial, trivial⟩ ?_
      refine aw_ret rfl rfl trivial ?_
      refine ⟨σ 16, σ 17, α 21, α 22, α 23, α 24, α 25, α 26, ?_, rfl⟩
      rw [aRun, if_neg (fun q => absurd q.2.1 (Int32.not_le.mpr h5))]
    · skip
      show aw_W _ _ _ _ (6, [some (.ref 0), some (.int nn), some (.int o), some (.int what)], []) (ae_en σ α z t0 ts)
      obtain ⟨N, hN1, hN60, rfl⟩ := nR h2 h5
      refine aw_go 3 rfl ⟨trivial, trivial, trivial, trivial⟩ ?_
      refine aw_callE rfl rfl (ev_Dried_isToldOfRun (o := o) (what := what) hn hn10) ?_
      show aw_W _ _ _ _ (10, [some (.ref 0), some (.int (nI N)), some (.int o), some (.int what)], [.int (aTR n o what)]) (ae_en σ α z t0 ts)
      refine aw_go 1 rfl ⟨trivial, trivial⟩ ?_
      refine aw_br (c := ¬ (aTR n o what) = 0) (fun h10 => ?_) (fun h10 => ?_)
      · skip
        show aw_W _ _ _ _ (13, [some (.ref 0), some (.int (nI N)), some (.int o), some (.int what)], []) (ae_en σ α z t0 ts)
        refine aw_go 3 rfl ⟨trivial, trivial, trivial, trivial⟩ ?_
        show aw_W _ _ _ _ (16, [some (.ref 0), some (.int (nI N)), some (.int o), some (.int what)], [.int (nI N), .ref 28]) (ae_en σ α z t0 ts)
        refine aw_call rfl rfl (ev_Forecast_look (N := N) hC hN60 rfl) ?_
        rintro _ _ ⟨w_16, wt_16, wr_16, nv_16, ra_16, rb_16, rc_16, rfl, rfl, hW_16, hL_16⟩
        show aw_W _ _ _ _ (17, [some (.ref 0), some (.int (nI N)), some (.int o), some (.int what)], []) (ae_en (au σ [(16, w_16), (17, nI N)]) (au α [(21, wt_16), (22, wr_16), (23, nv_16), (24, ra_16), (25, rb_16), (26, rc_16)]) z t0 ts)
        refine aw_go 2 rfl ⟨trivial, trivial, trivial⟩ ?_
        refine aw_sw (x := what) (fun h18_0 => ?_) (fun h18_0 => ?_)
        · skip
          show aw_W _ _ _ _ (19, [some (.ref 0), some (.int (nI N)), some (.int o), some (.int what)], []) (ae_en (au σ [(16, w_16), (17, nI N)]) (au α [(21, wt_16), (22, wr_16), (23, nv_16), (24, ra_16), (25, rb_16), (26, rc_16)]) z t0 ts)
          have hg := bI_t (show ¬ bI (iP (n - 1) o) = 0 from fun q => h10 ((show aTR n o what = bI (iP (n - 1) o) from by rw [h18_0]; rfl).trans q))
          obtain ⟨j, hj, rfl⟩ := iP_of hg (by omega)
          refine aw_go 4 rfl ⟨trivial, trivial, trivial, trivial, trivial⟩ ?_
          show aw_W _ _ _ _ (23, [some (.ref 0), some (.int (nI N)), some (.int (nI j)), some (.int what)], [.int (nI j), .int (nI N), .ref 28]) (ae_en (au σ [(16, w_16), (17, nI N)]) (au α [(21, wt_16), (22, wr_16), (23, nv_16), (24, ra_16), (25, rb_16), (26, rc_16)]) z t0 ts)
          refine aw_callE rfl rfl (ev_Forecast_open (d := N) (g := j) hC hW_16 hN60 hL_16 (Nat.le_refl _) (by omega)) ?_
          show aw_W _ _ _ _ (24, [some (.ref 0), some (.int (nI N)), some (.int (nI j)), some (.int what)], [.int (gOp B N (wD B n (α 3) (σ 2)) (α 5) (α 6) (α 7) N j)]) (ae_en (au σ [(16, w_16), (17, nI N)]) (au α [(21, wt_16), (22, wr_16), (23, nv_16), (24, ra_16), (25, rb_16), (26, rc_16)]) z t0 ts)
          refine aw_go 1 rfl ⟨trivial, trivial⟩ ?_
          show aw_W _ _ _ _ (25, [some (.ref 0), some (.int (nI N)), some (.int (nI j)), some (.int what)], [.long ((gOp B N (wD B n (α 3) (σ 2)) (α 5) (α 6) (α 7) N j).toInt64)]) (ae_en (au σ [(16, w_16), (17, nI N)]) (au α [(21, wt_16), (22, wr_16), (23, nv_16), (24, ra_16), (25, rb_16), (26, rc_16)]) z t0 ts)
          refine aw_ret rfl rfl trivial ?_
          refine ⟨w_16, nI N, wt_16, wr_16, nv_16, ra_16, rb_16, rc_16, ?_, rfl⟩
          rw [aRun, if_pos ⟨nI_le (a := 1) hN1 (by omega), nI_le (b := 60) hN60 (by decide), h10⟩, nI_clamp (by omega), nI_clamp (by omega), if_pos h18_0]
          all_goals rfl
        refine aw_sw (x := what) (fun h18_1 => ?_) (fun h18_1 => ?_)
        · skip
          show aw_W _ _ _ _ (26, [some (.ref 0), some (.int (nI N)), some (.int o), some (.int what)], []) (ae_en (au σ [(16, w_16), (17, nI N)]) (au α [(21, wt_16), (22, wr_16), (23, nv_16), (24, ra_16), (25, rb_16), (26, rc_16)]) z t0 ts)
          have hg := bI_t (show ¬ bI (iP (n - 1) o) = 0 from fun q => h10 ((show aTR n o what = bI (iP (n - 1) o) from by rw [h18_1]; rfl).trans q))
          obtain ⟨j, hj, rfl⟩ := iP_of hg (by omega)
          refine aw_go 4 rfl ⟨trivial, trivial, trivial, trivial, trivial⟩ ?_
          show aw_W _ _ _ _ (30, [some (.ref 0), some (.int (nI N)), some (.int (nI j)), some (.int what)], [.int (nI j), .int (nI N), .ref 28]) (ae_en (au σ [(16, w_16), (17, nI N)]) (au α [(21, wt_16), (22, wr_16), (23, nv_16), (24, ra_16), (25, rb_16), (26, rc_16)]) z t0 ts)
          refine aw_callE rfl rfl (ev_Forecast_press (d := N) (g := j) hC hW_16 hN60 hL_16 (Nat.le_refl _) (by omega)) ?_
          show aw_W _ _ _ _ (31, [some (.ref 0), some (.int (nI N)), some (.int (nI j)), some (.int what)], [.int (gPr B N (wD B n (α 3) (σ 2)) (α 5) (α 6) (α 7) N j)]) (ae_en (au σ [(16, w_16), (17, nI N)]) (au α [(21, wt_16), (22, wr_16), (23, nv_16), (24, ra_16), (25, rb_16), (26, rc_16)]) z t0 ts)
          refine aw_go 1 rfl ⟨trivial, trivial⟩ ?_
          show aw_W _ _ _ _ (32, [some (.ref 0), some (.int (nI N)), some (.int (nI j)), some (.int what)], [.long ((gPr B N (wD B n (α 3) (σ 2)) (α 5) (α 6) (α 7) N j).toInt64)]) (ae_en (au σ [(16, w_16), (17, nI N)]) (au α [(21, wt_16), (22, wr_16), (23, nv_16), (24, ra_16), (25, rb_16), (26, rc_16)]) z t0 ts)
          refine aw_ret rfl rfl trivial ?_
          refine ⟨w_16, nI N, wt_16, wr_16, nv_16, ra_16, rb_16, rc_16, ?_, rfl⟩
          rw [aRun, if_pos ⟨nI_le (a := 1) hN1 (by omega), nI_le (b := 60) hN60 (by decide), h10⟩, nI_clamp (by omega), nI_clamp (by omega), if_neg h18_0, if_pos h18_1]
          all_goals rfl
        refine aw_sw (x := what) (fun h18_2 => ?_) (fun h18_2 => ?_)
        · skip
          show aw_W _ _ _ _ (33, [some (.ref 0), some (.int (nI N)), some (.int o), some (.int what)], []) (ae_en (au σ [(16, w_16), (17, nI N)]) (au α [(21, wt_16), (22, wr_16), (23, nv_16), (24, ra_16), (25, rb_16), (26, rc_16)]) z t0 ts)
          have hg := bI_t (show ¬ bI (iP n o) = 0 from fun q => h10 ((show aTR n o what = bI (iP n o) from by rw [h18_2]; rfl).trans q))
          obtain ⟨j, hj, rfl⟩ := iP_of hg (by omega)
          refine aw_go 4 rfl ⟨trivial, trivial, trivial, trivial, trivial⟩ ?_
          show aw_W _ _ _ _ (37, [some (.ref 0), some (.int (nI N)), some (.int (nI j)), some (.int what)], [.int (nI j), .int (nI N), .ref 28]) (ae_en (au σ [(16, w_16), (17, nI N)]) (au α [(21, wt_16), (22, wr_16), (23, nv_16), (24, ra_16), (25, rb_16), (26, rc_16)]) z t0 ts)
          refine aw_callE rfl rfl (ev_Forecast_wetBehind (d := N) (p := j) hC hW_16 hN60 (Nat.le_refl _) hj) ?_
          show aw_W _ _ _ _ (38, [some (.ref 0), some (.int (nI N)), some (.int (nI j)), some (.int what)], [.int ((wD B n (α 3) (σ 2)) N j)]) (ae_en (au σ [(16, w_16), (17, nI N)]) (au α [(21, wt_16), (22, wr_16), (23, nv_16), (24, ra_16), (25, rb_16), (26, rc_16)]) z t0 ts)
          refine aw_go 1 rfl ⟨trivial, trivial⟩ ?_
          show aw_W _ _ _ _ (39, [some (.ref 0), some (.int (nI N)), some (.int (nI j)), some (.int what)], [.long (((wD B n (α 3) (σ 2)) N j).toInt64)]) (ae_en (au σ [(16, w_16), (17, nI N)]) (au α [(21, wt_16), (22, wr_16), (23, nv_16), (24, ra_16), (25, rb_16), (26, rc_16)]) z t0 ts)
          refine aw_ret rfl rfl trivial ?_
          refine ⟨w_16, nI N, wt_16, wr_16, nv_16, ra_16, rb_16, rc_16, ?_, rfl⟩
          rw [aRun, if_pos ⟨nI_le (a := 1) hN1 (by omega), nI_le (b := 60) hN60 (by decide), h10⟩, nI_clamp (by omega), nI_clamp (by omega), if_neg h18_0, if_neg h18_1, if_pos h18_2]
          all_goals rfl
        refine aw_sw (x := what) (fun h18_3 => ?_) (fun h18_3 => ?_)
        · skip
          show aw_W _ _ _ _ (40, [some (.ref 0), some (.int (nI N)), some (.int o), some (.int what)], []) (ae_en (au σ [(16, w_16), (17, nI N)]) (au α [(21, wt_16), (22, wr_16), (23, nv_16), (24, ra_16), (25, rb_16), (26, rc_16)]) z t0 ts)
          refine aw_go 2 rfl ⟨trivial, trivial, trivial⟩ ?_
          show aw_W _ _ _ _ (42, [some (.ref 0), some (.int (nI N)), some (.int o), some (.int what)], [.ref 28]) (ae_en (au σ [(16, w_16), (17, nI N)]) (au α [(21, wt_16), (22, wr_16), (23, nv_16), (24, ra_16), (25, rb_16), (26, rc_16)]) z t0 ts)
          refine aw_callE rfl rfl (ev_Forecast_gone  hC hW_16 hN60 hL_16 rfl) ?_
          show aw_W _ _ _ _ (43, [some (.ref 0), some (.int (nI N)), some (.int o), some (.int what)], [.int (gGN B N (wD B n (α 3) (σ 2)) (α 5) (α 6) (α 7) N (n - 1))]) (ae_en (au σ [(16, w_16), (17, nI N)]) (au α [(21, wt_16), (22, wr_16), (23, nv_16), (24, ra_16), (25, rb_16), (26, rc_16)]) z t0 ts)
          refine aw_go 1 rfl ⟨trivial, trivial⟩ ?_
          show aw_W _ _ _ _ (44, [some (.ref 0), some (.int (nI N)), some (.int o), some (.int what)], [.long ((gGN B N (wD B n (α 3) (σ 2)) (α 5) (α 6) (α 7) N (n - 1)).toInt64)]) (ae_en (au σ [(16, w_16), (17, nI N)]) (au α [(21, wt_16), (22, wr_16), (23, nv_16), (24, ra_16), (25, rb_16), (26, rc_16)]) z t0 ts)
          refine aw_ret rfl rfl trivial ?_
          refine ⟨w_16, nI N, wt_16, wr_16, nv_16, ra_16, rb_16, rc_16, ?_, rfl⟩
          rw [aRun, if_pos ⟨nI_le (a := 1) hN1 (by omega), nI_le (b := 60) hN60 (by decide), h10⟩, nI_clamp (by omega), if_neg h18_0, if_neg h18_1, if_neg h18_2, if_pos h18_3]
          all_goals rfl
        show aw_W _ _ _ _ (45, [some (.ref 0), some (.int (nI N)), some (.int o), some (.int what)], []) (ae_en (au σ [(16, w_16), (17, nI N)]) (au α [(21, wt_16), (22, wr_16), (23, nv_16), (24, ra_16), (25, rb_16), (26, rc_16)]) z t0 ts)
        refine aw_go 2 rfl ⟨trivial, trivial, trivial⟩ ?_
        show aw_W _ _ _ _ (47, [some (.ref 0), some (.int (nI N)), some (.int o), some (.int what)], [.ref 28]) (ae_en (au σ [(16, w_16), (17, nI N)]) (au α [(21, wt_16), (22, wr_16), (23, nv_16), (24, ra_16), (25, rb_16), (26, rc_16)]) z t0 ts)
        refine aw_call rfl rfl (ev_Forecast_cameIn  hC hW_16 hN60 hL_16 rfl) ?_
        rintro _ _ ⟨w_47, wt_47, nv_47, rfl, rfl⟩
        show aw_W _ _ _ _ (48, [some (.ref 0), some (.int (nI N)), some (.int o), some (.int what)], [.int (gCI B n N (wD B n (α 3) (σ 2)) (α 5) (α 6) (α 7) (σ 2) (sumF (α 4) n) N)]) (ae_en (au σ [(16, w_47), (17, nI N)]) (au α [(21, wt_47), (22, wr_16), (23, nv_47), (24, ra_16), (25, rb_16), (26, rc_16)]) z t0 ts)
        refine aw_go 1 rfl ⟨trivial, trivial⟩ ?_
        show aw_W _ _ _ _ (49, [some (.ref 0), some (.int (nI N)), some (.int o), some (.int what)], [.long ((gCI B n N (wD B n (α 3) (σ 2)) (α 5) (α 6) (α 7) (σ 2) (sumF (α 4) n) N).toInt64)]) (ae_en (au σ [(16, w_47), (17, nI N)]) (au α [(21, wt_47), (22, wr_16), (23, nv_47), (24, ra_16), (25, rb_16), (26, rc_16)]) z t0 ts)
        refine aw_ret rfl rfl trivial ?_
        refine ⟨w_47, nI N, wt_47, wr_16, nv_47, ra_16, rb_16, rc_16, ?_, rfl⟩
        rw [aRun, if_pos ⟨nI_le (a := 1) hN1 (by omega), nI_le (b := 60) hN60 (by decide), h10⟩, nI_clamp (by omega), if_neg h18_0, if_neg h18_1, if_neg h18_2, if_neg h18_3]
        all_goals rfl
      · skip
        have h10 := Classical.not_not.mp h10
        show aw_W _ _ _ _ (11, [some (.ref 0), some (.int (nI N)), some (.int o), some (.int what)], []) (ae_en σ α z t0 ts)
        refine aw_go 1 rfl ⟨trivial, trivial⟩ ?_
        refine aw_ret rfl rfl trivial ?_
        refine ⟨σ 16, σ 17, α 21, α 22, α 23, α 24, α 25, α 26, ?_, rfl⟩
        rw [aRun, if_neg (fun q => absurd h10 q.2.2)]
end L28
