/-! what calls answer about a boat (class), further -/
/-- the answers with one gap's stuffing tried -/
def aGn (B : ae_B) (n N : Nat) (w v s f : Nat → Int32) (dy : Int32) (g : Nat) (x : Int32) : Int32 := gGN B N (wD B n w dy) v (upd s g x) f N (n - 1)
def aFi (m : Nat → Int32) (gn cm : Nat → Int32) : Nat → Int32 × Int32 × Int32
  | 0 => (-1, 0, 0)
  | g + 1 => if (aFi m gn cm g).1 = -1 ∨ gn g < (aFi m gn cm g).2.1 ∨ (gn g = (aFi m gn cm g).2.1 ∧ cm g < (aFi m gn cm g).2.2) then (nI g, gn g, cm g) else aFi m gn cm g
theorem aFi_y {m gn cm : Nat → Int32} {g : Nat} (h : (aFi m gn cm g).1 = -1 ∨ gn g < (aFi m gn cm g).2.1 ∨ (gn g = (aFi m gn cm g).2.1 ∧ cm g < (aFi m gn cm g).2.2)) : aFi m gn cm (g + 1) = (nI g, gn g, cm g) := if_pos h
theorem aFi_n {m gn cm : Nat → Int32} {g : Nat} (h : ¬ (aFi m gn cm g).1 = -1) (h2 : ¬ gn g < (aFi m gn cm g).2.1) (h3 : ¬ (gn g = (aFi m gn cm g).2.1 ∧ cm g < (aFi m gn cm g).2.2)) : aFi m gn cm (g + 1) = aFi m gn cm g := if_neg (fun q => q.elim h (fun q => q.elim h2 h3))
def mM (s : Nat → Int32) (x : Int32) (g : Nat) : Int32 := fMn 100 (s g + x)
def aGs (B : ae_B) (n : Nat) (w v s f : Nat → Int32) (dy x : Int32) (g : Nat) : Int32 := gGN B 60 (wD B n w dy) v (upd s g (mM s x g)) f 60 (n - 1)
def aCs (B : ae_B) (n : Nat) (w v s f : Nat → Int32) (dy nl x : Int32) (g : Nat) : Int32 := gCm B n 60 (wD B n w dy) v (upd s g (mM s x g)) f dy nl 60 (n - 1)
def aFirst (B : ae_B) (n : Nat) (w v s f : Nat → Int32) (dy nl x : Int32) : Int32 := if 1 ≤ x ∧ x ≤ 100 then (aFi s (aGs B n w v s f dy x) (aCs B n w v s f dy nl x) (n - 1)).1 else -2
def aMost (B : ae_B) (n : Nat) (w v s f : Nat → Int32) (dy g : Int32) : Int32 :=
  if iP (n - 1) g then tM (fun k => decide (aGn B n 60 w v s f dy g.toNatClampNeg (nI k) ≤ aGn B n 60 w v s f dy g.toNatClampNeg 0)) 100 else -2
def aTight (B : ae_B) (n : Nat) (w v s f : Nat → Int32) (dy : Int32) : Int32 := tD (fun d => decide (gON B 60 (wD B n w dy) v s f d (n - 1) = 0)) 61 0
def aOut (B : ae_B) (n : Nat) (w v s f : Nat → Int32) (dy nl pm : Int32) : Int32 := tD (fun d => decide (gCm B n 60 (wD B n w dy) v s f dy nl d (n - 1) ≤ pm)) 61 0
def aSackG (B : ae_B) (n : Nat) (w v s : Nat → Int32) : Nat := gMO (rOp B w v s) (n - 1)
def aSack (B : ae_B) (n : Nat) (w v s : Nat → Int32) (dy nl x : Int32) : Int64 :=
  if 0 ≤ x ∧ x ≤ 100 ∧ 2 ≤ n then (rCm B n w v s dy nl (n - 1) - rCm B n w v (upd s (aSackG B n w v s) (mM s x (aSackG B n w v s))) dy nl (n - 1)).toInt64 else -4611686018427387904
def aFar (c h : Int32) : Int32 := if 0 ≤ h ∧ h ≤ 9999 then (if (c + 23) / 24 < 1 then 999 else fMn 999 (h / ((c + 23) / 24))) else -2
/-- the class' chain of remainders, m steps at most -/
def gcI : Nat → Int32 → Int32 → Int32
  | 0, a, _ => a
  | m + 1, a, b => if b = 0 then a else gcI m b (a - a / b * b)
def aNails (c a p : Int32) : Int64 :=
  if p = 0 ∨ p = 1 then (if c = 0 then p.toInt64 else if gcI 64 a c < 1 then -4611686018427387904 else ((if p = 0 then a else c) / gcI 64 a c).toInt64) else -4611686018427387904
def aLayW (B : ae_B) (n N : Nat) (w : Nat → Int32) (dy : Int32) : Nat → Int32 := fC n (wD B n w dy N) w
def aLayV (B : ae_B) (n N : Nat) (w v s f : Nat → Int32) (dy : Int32) : Nat → Int32 := fC (n - 1) (fun g => gWd B N (wD B n w dy) N g (v g) (s g) (f g)) v
def aLayF (B : ae_B) (n N : Nat) (w v s f : Nat → Int32) (dy : Int32) : Nat → Int32 := fC (n - 1) (fun g => if 0 < gGo B N (wD B n w dy) g (v g) (s g) (f g) ∧ gGo B N (wD B n w dy) g (v g) (s g) (f g) ≤ N then 0 else f g) f
theorem gCm_00 (B : ae_B) (n N : Nat) (w v t f : Nat → Int32) (dy nl : Int32) (hd : dyA dy 0 = dy) (g : Nat) : gCm B n N (wD B n w dy) v t f dy nl 0 g = rCm B n w v t dy nl g := gCm_0 B n N _ v t f dy nl hd g
theorem upd_same (f : Nat → Int32) (i : Nat) : upd f i (f i) = f := by
  funext j
  unfold upd
  split
  · rw [‹j = i›]
  · rfl
section L29
variable {P : ae_P} {σ : Nat → Int32} {α : Nat → Nat → Int32} {z : Int64} {t0 : ae_T} {ts : List ae_T}

theorem lp_tight {zd : Nat} {n : Nat} {B : ae_B} {w : Int32} {wt wr nv ra rb rc : Nat → Int32} (hC : cOk B n (σ 1) (σ 3) (σ 5) (σ 15) (α 0) (α 1) (α 2) t0 ts) (hW : fW n 60 (wD B n (α 3) (σ 2)) wr) (hL : fL B (n - 1) 60 (wD B n (α 3) (σ 2)) (α 5) (α 6) (α 7) ra rb rc) (d : Nat) (hd : d ≤ 61) (hI : tD (fun d => decide (gON B 60 (wD B n (α 3) (σ 2)) (α 5) (α 6) (α 7) d (n - 1) = 0)) (61 - d) d = aTight B n (α 3) (α 5) (α 6) (α 7) (σ 2)) : aw_W P (zd + 6) cd_Dried_tight (fun r H => ∃ (w : Int32) (wd : Int32) (wt : Nat → Int32) (wr : Nat → Int32) (nv : Nat → Int32) (ra : Nat → Int32) (rb : Nat → Int32) (rc : Nat → Int32), r = some (.int (aTight B n (α 3) (α 5) (α 6) (α 7) (σ 2))) ∧ H = (ae_en (au σ [(16, w), (17, wd)]) (au α [(21, wt), (22, wr), (23, nv), (24, ra), (25, rb), (26, rc)]) z t0 ts)) (6, [some (.ref 0), some (.int (nI d))], []) (ae_en (au σ [(16, w), (17, nI 60)]) (au α [(21, wt), (22, wr), (23, nv), (24, ra), (25, rb), (26, rc)]) z t0 ts) := by
  refine aw_go 3 rfl ⟨trivial, trivial, trivial, trivial⟩ ?_
  refine aw_br (c := (60 : Int32) < (nI d)) (fun h8 => ?_) (fun h8 => ?_)
  · skip
    have h8 := cI_ltT (a := 60) (b := d) rfl rfl (by omega) (by omega) h8
    show aw_W _ _ _ _ (18, [some (.ref 0), some (.int (nI d))], []) (ae_en (au σ [(16, w), (17, nI 60)]) (au α [(21, wt), (22, wr), (23, nv), (24, ra), (25, rb), (26, rc)]) z t0 ts)
    rw [show 61 - d = 0 by omega] at hI
    refine aw_go 1 rfl ⟨trivial, trivial⟩ ?_
    refine aw_ret rfl rfl trivial ?_
    refine ⟨w, nI 60, wt, wr, nv, ra, rb, rc, ?_, rfl⟩
    rw [← hI]
    all_goals rfl
  · skip
    have h8 := cI_ltF (a := 60) (b := d) rfl rfl (by omega) (by omega) h8
    show aw_W _ _ _ _ (9, [some (.ref 0), some (.int (nI d))], []) (ae_en (au σ [(16, w), (17, nI 60)]) (au α [(21, wt), (22, wr), (23, nv), (24, ra), (25, rb), (26, rc)]) z t0 ts)
    obtain ⟨m, hm⟩ : ∃ m, 61 - d = m + 1 := ⟨60 - d, by omega⟩
    rw [hm, tD] at hI
    refine aw_go 3 rfl ⟨trivial, trivial, trivial, trivial⟩ ?_
    show aw_W _ _ _ _ (12, [some (.ref 0), some (.int (nI d))], [.int (nI d), .ref 28]) (ae_en (au σ [(16, w), (17, nI 60)]) (au α [(21, wt), (22, wr), (23, nv), (24, ra), (25, rb), (26, rc)]) z t0 ts)
    refine aw_callE rfl rfl (ev_Forecast_openGaps (d := d) hC hW (by decide) hL (by omega)) ?_
    show aw_W _ _ _ _ (13, [some (.ref 0), some (.int (nI d))], [.int (gON B 60 (wD B n (α 3) (σ 2)) (α 5) (α 6) (α 7) d (n - 1))]) (ae_en (au σ [(16, w), (17, nI 60)]) (au α [(21, wt), (22, wr), (23, nv), (24, ra), (25, rb), (26, rc)]) z t0 ts)
    refine aw_go 1 rfl ⟨trivial, trivial⟩ ?_
    refine aw_br (c := ¬ (gON B 60 (wD B n (α 3) (σ 2)) (α 5) (α 6) (α 7) d (n - 1)) = 0) (fun h13 => ?_) (fun h13 => ?_)
    · skip
      show aw_W _ _ _ _ (16, [some (.ref 0), some (.int (nI d))], []) (ae_en (au σ [(16, w), (17, nI 60)]) (au α [(21, wt), (22, wr), (23, nv), (24, ra), (25, rb), (26, rc)]) z t0 ts)
      rw [if_neg (fun q => absurd (of_decide_eq_true q) h13)] at hI
      refine aw_go 2 rfl ⟨trivial, trivial, trivial⟩ ?_
      show aw_W _ _ _ _ (6, [some (.ref 0), some (.int ((nI d) + 1))], []) (ae_en (au σ [(16, w), (17, nI 60)]) (au α [(21, wt), (22, wr), (23, nv), (24, ra), (25, rb), (26, rc)]) z t0 ts)
      rw [show (nI d) + 1 = nI (d + 1) from (cI_add (a := d) (b := 1) rfl rfl)]
      exact lp_tight hC hW hL (d + 1) (by omega) (by rw [show 61 - (d + 1) = m by omega]; exact hI)
    · skip
      have h13 := Classical.not_not.mp h13
      show aw_W _ _ _ _ (14, [some (.ref 0), some (.int (nI d))], []) (ae_en (au σ [(16, w), (17, nI 60)]) (au α [(21, wt), (22, wr), (23, nv), (24, ra), (25, rb), (26, rc)]) z t0 ts)
      rw [if_pos (decide_eq_true h13)] at hI
      refine aw_go 1 rfl ⟨trivial, trivial⟩ ?_
      refine aw_ret rfl rfl trivial ?_
      refine ⟨w, nI 60, wt, wr, nv, ra, rb, rc, ?_, rfl⟩
      rw [← hI]
      all_goals rfl
termination_by 61 - d
decreasing_by all_goals omega
theorem ev_Dried_tight {n : Nat} {B : ae_B} {zd : Nat} (hC : cOk B n (σ 1) (σ 3) (σ 5) (σ 15) (α 0) (α 1) (α 2) t0 ts) : aw_X P (zd + 7) 17 [.ref 0] (ae_en σ α z t0 ts) (fun r H => ∃ (w : Int32) (wd : Int32) (wt : Nat → Int32) (wr : Nat → Int32) (nv : Nat → Int32) (ra : Nat → Int32) (rb : Nat → Int32) (rc : Nat → Int32), r = some (.int (aTight B n (α 3) (α 5) (α 6) (α 7) (σ 2))) ∧ H = (ae_en (au σ [(16, w), (17, wd)]) (au α [(21, wt), (22, wr), (23, nv), (24, ra), (25, rb), (26, rc)]) z t0 ts)) := by
  obtain ⟨hn, hn10, hs3, hk0, hk1, hk2, hr⟩ := id hC
  refine aw_ev (cd := cd_Dried_tight) rfl rfl rfl ?_
  show aw_W _ _ _ _ (0, [some (.ref 0), none], []) (ae_en σ α z t0 ts)
  refine aw_go 3 rfl ⟨trivial, trivial, trivial, trivial⟩ ?_
  show aw_W _ _ _ _ (3, [some (.ref 0), none], [.int 60, .ref 28]) (ae_en σ α z t0 ts)
  refine aw_call rfl rfl (ev_Forecast_look (N := 60) hC (by decide) rfl) ?_
  rintro _ _ ⟨w_3, wt_3, wr_3, nv_3, ra_3, rb_3, rc_3, rfl, rfl, hW_3, hL_3⟩
  show aw_W _ _ _ _ (4, [some (.ref 0), none], []) (ae_en (au σ [(16, w_3), (17, nI 60)]) (au α [(21, wt_3), (22, wr_3), (23, nv_3), (24, ra_3), (25, rb_3), (26, rc_3)]) z t0 ts)
  refine aw_go 2 rfl ⟨trivial, trivial, trivial⟩ ?_
  exact lp_tight hC hW_3 hL_3 0 (by decide) rfl
theorem lp_out {zd : Nat} {n : Nat} {B : ae_B} {w : Int32} {wt wr nv ra rb rc : Nat → Int32} (hC : cOk B n (σ 1) (σ 3) (σ 5) (σ 15) (α 0) (α 1) (α 2) t0 ts) (hW : fW n 60 (wD B n (α 3) (σ 2)) wr) (hL : fL B (n - 1) 60 (wD B n (α 3) (σ 2)) (α 5) (α 6) (α 7) ra rb rc) (d : Nat) (hd : d ≤ 61) (hI : tD (fun d => decide (gCm B n 60 (wD B n (α 3) (σ 2)) (α 5) (α 6) (α 7) (σ 2) (sumF (α 4) n) d (n - 1) ≤ (σ 4))) (61 - d) d = aOut B n (α 3) (α 5) (α 6) (α 7) (σ 2) (sumF (α 4) n) (σ 4)) : aw_W P (zd + 7) cd_Dried_out (fun r H => ∃ (w : Int32) (wd : Int32) (wt : Nat → Int32) (wr : Nat → Int32) (nv : Nat → Int32) (ra : Nat → Int32) (rb : Nat → Int32) (rc : Nat → Int32), r = some (.int (aOut B n (α 3) (α 5) (α 6) (α 7) (σ 2) (sumF (α 4) n) (σ 4))) ∧ H = (ae_en (au σ [(16, w), (17, wd)]) (au α [(21, wt), (22, wr), (23, nv), (24, ra), (25, rb), (26, rc)]) z t0 ts)) (6, [some (.ref 0), some (.int (nI d))], []) (ae_en (au σ [(16, w), (17, nI 60)]) (au α [(21, wt), (22, wr), (23, nv), (24, ra), (25, rb), (26, rc)]) z t0 ts) := by
  refine aw_go 3 rfl ⟨trivial, trivial, trivial, trivial⟩ ?_
  refine aw_br (c := (60 : Int32) < (nI d)) (fun h8 => ?_) (fun h8 => ?_)
  · skip
    have h8 := cI_ltT (a := 60) (b := d) rfl rfl (by omega) (by omega) h8
    show aw_W _ _ _ _ (21, [some (.ref 0), some (.int (nI d))], []) (ae_en (au σ [(16, w), (17, nI 60)]) (au α [(21, wt), (22, wr), (23, nv), (24, ra), (25, rb), (26, rc)]) z t0 ts)
    rw [show 61 - d = 0 by omega] at hI
    refine aw_go 1 rfl ⟨trivial, trivial⟩ ?_
    refine aw_ret rfl rfl trivial ?_
    refine ⟨w, nI 60, wt, wr, nv, ra, rb, rc, ?_, rfl⟩
    rw [← hI]
    all_goals rfl
  · skip
    have h8 := cI_ltF (a := 60) (b := d) rfl rfl (by omega) (by omega) h8
    show aw_W _ _ _ _ (9, [some (.ref 0), some (.int (nI d))], []) (ae_en (au σ [(16, w), (17, nI 60)]) (au α [(21, wt), (22, wr), (23, nv), (24, ra), (25, rb), (26, rc)]) z t0 ts)
    obtain ⟨m, hm⟩ : ∃ m, 61 - d = m + 1 := ⟨60 - d, by omega⟩
    rw [hm, tD] at hI
    refine aw_go 3 rfl ⟨trivial, trivial, trivial, trivial⟩ ?_
    show aw_W _ _ _ _ (12, [some (.ref 0), some (.int (nI d))], [.int (nI d), .ref 28]) (ae_en (au σ [(16, w), (17, nI 60)]) (au α [(21, wt), (22, wr), (23, nv), (24, ra), (25, rb), (26, rc)]) z t0 ts)
    refine aw_call rfl rfl (ev_Forecast_comesIn (d := d) hC hW (by decide) hL (by omega)) ?_
    rintro _ _ ⟨w_12, wt_12, nv_12, rfl, rfl⟩
    show aw_W _ _ _ _ (13, [some (.ref 0), some (.int (nI d))], [.int (gCm B n 60 (wD B n (α 3) (σ 2)) (α 5) (α 6) (α 7) (σ 2) (sumF (α 4) n) d (n - 1))]) (ae_en (au σ [(16, w_12), (17, nI 60)]) (au α [(21, wt_12), (22, wr), (23, nv_12), (24, ra), (25, rb), (26, rc)]) z t0 ts)
    refine aw_go 4 rfl ⟨trivial, trivial, trivial, trivial, trivial⟩ ?_
    show aw_W _ _ _ _ (if (σ 4) < (gCm B n 60 (wD B n (α 3) (σ 2)) (α 5) (α 6) (α 7) (σ 2) (sumF (α 4) n) d (n - 1)) then 19 else 17, [some (.ref 0), some (.int (nI d))], []) (ae_en (au σ [(16, w_12), (17, nI 60)]) (au α [(21, wt_12), (22, wr), (23, nv_12), (24, ra), (25, rb), (26, rc)]) z t0 ts)
    refine aw_br (c := (σ 4) < (gCm B n 60 (wD B n (α 3) (σ 2)) (α 5) (α 6) (α 7) (σ 2) (sumF (α 4) n) d (n - 1))) (fun h16 => ?_) (fun h16 => ?_)
    · skip
      show aw_W _ _ _ _ (19, [some (.ref 0), some (.int (nI d))], []) (ae_en (au σ [(16, w_12), (17, nI 60)]) (au α [(21, wt_12), (22, wr), (23, nv_12), (24, ra), (25, rb), (26, rc)]) z t0 ts)
      rw [if_neg (fun q => absurd (of_decide_eq_true q) (Int32.not_le.mpr h16))] at hI
      refine aw_go 2 rfl ⟨trivial, trivial, trivial⟩ ?_
      show aw_W _ _ _ _ (6, [some (.ref 0), some (.int ((nI d) + 1))], []) (ae_en (au σ [(16, w_12), (17, nI 60)]) (au α [(21, wt_12), (22, wr), (23, nv_12), (24, ra), (25, rb), (26, rc)]) z t0 ts)
      rw [show (nI d) + 1 = nI (d + 1) from (cI_add (a := d) (b := 1) rfl rfl)]
      exact lp_out hC hW hL (d + 1) (by omega) (by rw [show 61 - (d + 1) = m by omega]; exact hI)
    · skip
      show aw_W _ _ _ _ (17, [some (.ref 0), some (.int (nI d))], []) (ae_en (au σ [(16, w_12), (17, nI 60)]) (au α [(21, wt_12), (22, wr), (23, nv_12), (24, ra), (25, rb), (26, rc)]) z t0 ts)
      rw [if_pos (decide_eq_true (Int32.not_lt.mp h16))] at hI
      refine aw_go 1 rfl ⟨trivial, trivial⟩ ?_
      refine aw_ret rfl rfl trivial ?_
      refine ⟨w_12, nI 60, wt_12, wr, nv_12, ra, rb, rc, ?_, rfl⟩
      rw [← hI]
      all_goals rfl
termination_by 61 - d
decreasing_by all_goals omega
theorem ev_Dried_out {n : Nat} {B : ae_B} {zd : Nat} (hC : cOk B n (σ 1) (σ 3) (σ 5) (σ 15) (α 0) (α 1) (α 2) t0 ts) : aw_X P (zd + 8) 18 [.ref 0] (ae_en σ α z t0 ts) (fun r H => ∃ (w : Int32) (wd : Int32) (wt : Nat → Int32) (wr : Nat → Int32) (nv : Nat → Int32) (ra : Nat → Int32) (rb : Nat → Int32) (rc : Nat → Int32), r = some (.int (aOut B n (α 3) (α 5) (α 6) (α 7) (σ 2) (sumF (α 4) n) (σ 4))) ∧ H = (ae_en (au σ [(16, w), (17, wd)]) (au α [(21, wt), (22, wr), (23, nv), (24, ra), (25, rb), (26, rc)]) z t0 ts)) := by
  obtain ⟨hn, hn10, hs3, hk0, hk1, hk2, hr⟩ := id hC
  refine aw_ev (cd := cd_Dried_out) rfl rfl rfl ?_
  show aw_W _ _ _ _ (0, [some (.ref 0), none], []) (ae_en σ α z t0 ts)
  refine aw_go 3 rfl ⟨trivial, trivial, trivial, trivial⟩ ?_
  show aw_W _ _ _ _ (3, [some (.ref 0), none], [.int 60, .ref 28]) (ae_en σ α z t0 ts)
  refine aw_call rfl rfl (ev_Forecast_look (N := 60) hC (by decide) rfl) ?_
  rintro _ _ ⟨w_3, wt_3, wr_3, nv_3, ra_3, rb_3, rc_3, rfl, rfl, hW_3, hL_3⟩
  show aw_W _ _ _ _ (4, [some (.ref 0), none], []) (ae_en (au σ [(16, w_3), (17, nI 60)]) (au α [(21, wt_3), (22, wr_3), (23, nv_3), (24, ra_3), (25, rb_3), (26, rc_3)]) z t0 ts)
  refine aw_go 2 rfl ⟨trivial, trivial, trivial⟩ ?_
  exact lp_out hC hW_3 hL_3 0 (by decide) rfl
theorem ev_Dried_withMore {g : Nat} {x : Int32} {zd : Nat} (g9 : g < 9) : ae_Ev P (zd + 1) 20 [.ref 0, .int (nI g), .int x] (ae_en σ α z t0 ts) (some (.int (mM (α 6) x g))) (ae_en σ α z t0 ts) := by
  refine aw_evE (cd := cd_Dried_withMore) rfl rfl rfl ?_
  show aw_W _ _ _ _ (0, [some (.ref 0), some (.int (nI g)), some (.int x)], []) (ae_en σ α z t0 ts)
  refine aw_go 9 rfl ⟨trivial, trivial, trivial, trivial, trivial, (cI_in (a := g) rfl (by omega) (by decide)), trivial, trivial, trivial, trivial⟩ ?_
  show aw_W _ _ _ _ (9, [some (.ref 0), some (.int (nI g)), some (.int x)], [.int (fMn 100 ((α 6 (nI g).toNatClampNeg) + x))]) (ae_en σ α z t0 ts)
  rw [show (nI g).toNatClampNeg = g from cI_cl (a := g) rfl (by omega)]
  refine aw_ret rfl rfl trivial ?_
  refine ⟨?_, rfl⟩
  rfl
theorem ev_Dried_sack {n : Nat} {B : ae_B} {x : Int32} {zd : Nat} (hC : cOk B n (σ 1) (σ 3) (σ 5) (σ 15) (α 0) (α 1) (α 2) t0 ts) (hdy : dyA (σ 2) 0 = (σ 2)) : aw_X P (zd + 8) 19 [.ref 0, .int x] (ae_en σ α z t0 ts) (fun r H => ∃ (w : Int32) (wd : Int32) (wt : Nat → Int32) (wr : Nat → Int32) (nv : Nat → Int32) (ra : Nat → Int32) (rb : Nat → Int32) (rc : Nat → Int32), r = some (.long (aSack B n (α 3) (α 5) (α 6) (σ 2) (sumF (α 4) n) x)) ∧ H = (ae_en (au σ [(16, w), (17, wd)]) (au α [(21, wt), (22, wr), (23, nv), (24, ra), (25, rb), (26, rc)]) z t0 ts)) := by
  obtain ⟨hn, hn10, hs3, hk0, hk1, hk2, hr⟩ := id hC
  refine aw_ev (cd := cd_Dried_sack) rfl rfl rfl ?_
  show aw_W _ _ _ _ (0, [some (.ref 0), some (.int x), none, none], []) (ae_en σ α z t0 ts)
  refine aw_go 2 rfl ⟨trivial, trivial, trivial⟩ ?_
  refine aw_br (c := x < 0) (fun h1 => ?_) (fun h1 => ?_)
  · skip
    show aw_W _ _ _ _ (9, [some (.ref 0), some (.int x), none, none], []) (ae_en σ α z t0 ts)
    refine aw_go 1 rfl ⟨trivial, trivial⟩ ?_
    refine aw_ret rfl rfl trivial ?_
    refine ⟨σ 16, σ 17, α 21, α 22, α 23, α 24, α 25, α 26, ?_, rfl⟩
    rw [aSack, if_neg (fun q => absurd q.1 (Int32.not_le.mpr h1))]
  · skip
    show aw_W _ _ _ _ (2, [some (.ref 0), some (.int x), none, none], []) (ae_en σ α z t0 ts)
    refine aw_go 3 rfl ⟨trivial, trivial, trivial, trivial⟩ ?_
    refine aw_br (c := (100 : Int32) < x) (fun h4 => ?_) (fun h4 => ?_)
    · skip
      show aw_W _ _ _ _ (9, [some (.ref 0), some (.int x), none, none], []) (ae_en σ α z t0 ts)
      refine aw_go 1 rfl ⟨trivial, trivial⟩ ?_
      refine aw_ret rfl rfl trivial ?_
      refine ⟨σ 16, σ 17, α 21, α 22, α 23, α 24, α 25, α 26, ?_, rfl⟩
      rw [aSack, if_neg (fun q => absurd q.2.1 (Int32.not_le.mpr h4))]
    · skip
      show aw_W _ _ _ _ (5, [some (.ref 0), some (.int x), none, none], []) (ae_en σ α z t0 ts)
      refine aw_go 2 rfl ⟨trivial, trivial, trivial⟩ ?_
      show aw_W _ _ _ _ (7, [some (.ref 0), some (.int x), none, none], [.ref 1]) (ae_en σ α z t0 ts)
      refine aw_callE rfl rfl (ec_Boat_gaps  hn hn10) ?_
      show aw_W _ _ _ _ (8, [some (.ref 0), some (.int x), none, none], [.int (nI (n - 1))]) (ae_en σ α z t0 ts)
      refine aw_go 1 rfl ⟨trivial, trivial⟩ ?_
      refine aw_br (c := ¬ (nI (n - 1)) = 0) (fun h8 => ?_) (fun h8 => ?_)
      · skip
        have h8 := cI_eqF (a := n - 1) (b := 0) rfl rfl (by omega) (by omega) h8
        show aw_W _ _ _ _ (11, [some (.ref 0), some (.int x), none, none], []) (ae_en σ α z t0 ts)
        refine aw_go 3 rfl ⟨trivial, trivial, trivial, trivial⟩ ?_
        show aw_W _ _ _ _ (14, [some (.ref 0), some (.int x), none, none], [.int 0, .ref 28]) (ae_en σ α z t0 ts)
        refine aw_call rfl rfl (ev_Forecast_look (N := 0) hC (by decide) rfl) ?_
        rintro _ _ ⟨w_14, wt_14, wr_14, nv_14, ra_14, rb_14, rc_14, rfl, rfl, hW_14, hL_14⟩
        show aw_W _ _ _ _ (15, [some (.ref 0), some (.int x), none, none], []) (ae_en (au σ [(16, w_14), (17, nI 0)]) (au α [(21, wt_14), (22, wr_14), (23, nv_14), (24, ra_14), (25, rb_14), (26, rc_14)]) z t0 ts)
        refine aw_go 3 rfl ⟨trivial, trivial, trivial, trivial⟩ ?_
        show aw_W _ _ _ _ (18, [some (.ref 0), some (.int x), none, none], [.int 0, .ref 28]) (ae_en (au σ [(16, w_14), (17, nI 0)]) (au α [(21, wt_14), (22, wr_14), (23, nv_14), (24, ra_14), (25, rb_14), (26, rc_14)]) z t0 ts)
        refine aw_call rfl rfl (ev_Forecast_comesIn (d := 0) hC hW_14 (by decide) hL_14 (Nat.le_refl _)) ?_
        rintro _ _ ⟨w_18, wt_18, nv_18, rfl, rfl⟩
        show aw_W _ _ _ _ (19, [some (.ref 0), some (.int x), none, none], [.int (gCm B n 0 (wD B n (α 3) (σ 2)) (α 5) (α 6) (α 7) (σ 2) (sumF (α 4) n) 0 (n - 1))]) (ae_en (au σ [(16, w_18), (17, nI 0)]) (au α [(21, wt_18), (22, wr_14), (23, nv_18), (24, ra_14), (25, rb_14), (26, rc_14)]) z t0 ts)
        refine aw_go 3 rfl ⟨trivial, trivial, trivial, trivial⟩ ?_
        show aw_W _ _ _ _ (22, [some (.ref 0), some (.int x), some (.int (gCm B n 0 (wD B n (α 3) (σ 2)) (α 5) (α 6) (α 7) (σ 2) (sumF (α 4) n) 0 (n - 1))), none], [.ref 28]) (ae_en (au σ [(16, w_18), (17, nI 0)]) (au α [(21, wt_18), (22, wr_14), (23, nv_18), (24, ra_14), (25, rb_14), (26, rc_14)]) z t0 ts)
        refine aw_callE rfl rfl (ev_Forecast_mostOpen  hC hW_14 (by decide) hL_14 (by omega)) ?_
        show aw_W _ _ _ _ (23, [some (.ref 0), some (.int x), some (.int (gCm B n 0 (wD B n (α 3) (σ 2)) (α 5) (α 6) (α 7) (σ 2) (sumF (α 4) n) 0 (n - 1))), none], [.int (nI (gMO (fun g => gOp B 0 (wD B n (α 3) (σ 2)) (α 5) (α 6) (α 7) 0 g) (n - 1)))]) (ae_en (au σ [(16, w_18), (17, nI 0)]) (au α [(21, wt_18), (22, wr_14), (23, nv_18), (24, ra_14), (25, rb_14), (26, rc_14)]) z t0 ts)
        refine aw_go 7 rfl ⟨trivial, trivial, trivial, trivial, trivial, trivial, trivial, trivial⟩ ?_
        show aw_W _ _ _ _ (30, [some (.ref 0), some (.int x), some (.int (gCm B n 0 (wD B n (α 3) (σ 2)) (α 5) (α 6) (α 7) (σ 2) (sumF (α 4) n) 0 (n - 1))), some (.int (nI (gMO (fun g => gOp B 0 (wD B n (α 3) (σ 2)) (α 5) (α 6) (α 7) 0 g) (n - 1))))], [.int x, .int (nI (gMO (fun g => gOp B 0 (wD B n (α 3) (σ 2)) (α 5) (α 6) (α 7) 0 g) (n - 1))), .ref 0, .int (nI (gMO (fun g => gOp B 0 (wD B n (α 3) (σ 2)) (α 5) (α 6) (α 7) 0 g) (n - 1))), .ref 28]) (ae_en (au σ [(16, w_18), (17, nI 0)]) (au α [(21, wt_18), (22, wr_14), (23, nv_18), (24, ra_14), (25, rb_14), (26, rc_14)]) z t0 ts)
        refine aw_callE rfl rfl (ev_Dried_withMore (g := (gMO (fun g => gOp B 0 (wD B n (α 3) (σ 2)) (α 5) (α 6) (α 7) 0 g) (n - 1))) (x := x) (by have := gMO_lt (fun g => gOp B 0 (wD B n (α 3) (σ 2)) (α 5) (α 6) (α 7) 0 g) (n - 1) (by omega); omega)) ?_
        show aw_W _ _ _ _ (31, [some (.ref 0), some (.int x), some (.int (gCm B n 0 (wD B n (α 3) (σ 2)) (α 5) (α 6) (α 7) (σ 2) (sumF (α 4) n) 0 (n - 1))), some (.int (nI (gMO (fun g => gOp B 0 (wD B n (α 3) (σ 2)) (α 5) (α 6) (α 7) 0 g) (n - 1))))], [.int (mM (α 6) x (gMO (fun g => gOp B 0 (wD B n (α 3) (σ 2)) (α 5) (α 6) (α 7) 0 g) (n - 1))), .int (nI (gMO (fun g => gOp B 0 (wD B n (α 3) (σ 2)) (α 5) (α 6) (α 7) 0 g) (n - 1))), .ref 28]) (ae_en (au σ [(16, w_18), (17, nI 0)]) (au α [(21, wt_18), (22, wr_14), (23, nv_18), (24, ra_14), (25, rb_14), (26, rc_14)]) z t0 ts)
        refine aw_call rfl rfl (ev_Forecast_stuff (g := (gMO (fun g => gOp B 0 (wD B n (α 3) (σ 2)) (α 5) (α 6) (α 7) 0 g) (n - 1))) (v := (mM (α 6) x (gMO (fun g => gOp B 0 (wD B n (α 3) (σ 2)) (α 5) (α 6) (α 7) 0 g) (n - 1)))) hC hW_14 (by decide) (by have := gMO_lt (fun g => gOp B 0 (wD B n (α 3) (σ 2)) (α 5) (α 6) (α 7) 0 g) (n - 1) (by omega); omega) rfl) ?_
        rintro _ _ ⟨rfl, rfl⟩
        show aw_W _ _ _ _ (32, [some (.ref 0), some (.int x), some (.int (gCm B n 0 (wD B n (α 3) (σ 2)) (α 5) (α 6) (α 7) (σ 2) (sumF (α 4) n) 0 (n - 1))), some (.int (nI (gMO (fun g => gOp B 0 (wD B n (α 3) (σ 2)) (α 5) (α 6) (α 7) 0 g) (n - 1))))], []) (ae_en (au σ [(16, w_18), (17, nI 0)]) (au α [(21, wt_18), (22, wr_14), (23, nv_18), (24, upd ra_14 (gMO (fun g => gOp B 0 (wD B n (α 3) (σ 2)) (α 5) (α 6) (α 7) 0 g) (n - 1)) (mM (α 6) x (gMO (fun g => gOp B 0 (wD B n (α 3) (σ 2)) (α 5) (α 6) (α 7) 0 g) (n - 1)))), (25, upd rb_14 (gMO (fun g => gOp B 0 (wD B n (α 3) (σ 2)) (α 5) (α 6) (α 7) 0 g) (n - 1)) (nI (gGo B 0 (wD B n (α 3) (σ 2)) (gMO (fun g => gOp B 0 (wD B n (α 3) (σ 2)) (α 5) (α 6) (α 7) 0 g) (n - 1)) ((α 5) (gMO (fun g => gOp B 0 (wD B n (α 3) (σ 2)) (α 5) (α 6) (α 7) 0 g) (n - 1))) (mM (α 6) x (gMO (fun g => gOp B 0 (wD B n (α 3) (σ 2)) (α 5) (α 6) (α 7) 0 g) (n - 1))) ((α 7) (gMO (fun g => gOp B 0 (wD B n (α 3) (σ 2)) (α 5) (α 6) (α 7) 0 g) (n - 1)))))), (26, upd rc_14 (gMO (fun g => gOp B 0 (wD B n (α 3) (σ 2)) (α 5) (α 6) (α 7) 0 g) (n - 1)) (gWi B 0 (wD B n (α 3) (σ 2)) (gMO (fun g => gOp B 0 (wD B n (α 3) (σ 2)) (α 5) (α 6) (α 7) 0 g) (n - 1)) ((α 5) (gMO (fun g => gOp B 0 (wD B n (α 3) (σ 2)) (α 5) (α 6) (α 7) 0 g) (n - 1))) (mM (α 6) x (gMO (fun g => gOp B 0 (wD B n (α 3) (σ 2)) (α 5) (α 6) (α 7) 0 g) (n - 1))) ((α 7) (gMO (fun g => gOp B 0 (wD B n (α 3) (σ 2)) (α 5) (α 6) (α 7) 0 g) (n - 1)))))]) z t0 ts)
        refine aw_go 4 rfl ⟨trivial, trivial, trivial, trivial, trivial⟩ ?_
        show aw_W _ _ _ _ (36, [some (.ref 0), some (.int x), some (.int (gCm B n 0 (wD B n (α 3) (σ 2)) (α 5) (α 6) (α 7) (σ 2) (sumF (α 4) n) 0 (n - 1))), some (.int (nI (gMO (fun g => gOp B 0 (wD B n (α 3) (σ 2)) (α 5) (α 6) (α 7) 0 g) (n - 1))))], [.int 0, .ref 28, .int (gCm B n 0 (wD B n (α 3) (σ 2)) (α 5) (α 6) (α 7) (σ 2) (sumF (α 4) n) 0 (n - 1))]) (ae_en (au σ [(16, w_18), (17, nI 0)]) (au α [(21, wt_18), (22, wr_14), (23, nv_18), (24, upd ra_14 (gMO (fun g => gOp B 0 (wD B n (α 3) (σ 2)) (α 5) (α 6) (α 7) 0 g) (n - 1)) (mM (α 6) x (gMO (fun g => gOp B 0 (wD B n (α 3) (σ 2)) (α 5) (α 6) (α 7) 0 g) (n - 1)))), (25, upd rb_14 (gMO (fun g => gOp B 0 (wD B n (α 3) (σ 2)) (α 5) (α 6) (α 7) 0 g) (n - 1)) (nI (gGo B 0 (wD B n (α 3) (σ 2)) (gMO (fun g => gOp B 0 (wD B n (α 3) (σ 2)) (α 5) (α 6) (α 7) 0 g) (n - 1)) ((α 5) (gMO (fun g => gOp B 0 (wD B n (α 3) (σ 2)) (α 5) (α 6) (α 7) 0 g) (n - 1))) (mM (α 6) x (gMO (fun g => gOp B 0 (wD B n (α 3) (σ 2)) (α 5) (α 6) (α 7) 0 g) (n - 1))) ((α 7) (gMO (fun g => gOp B 0 (wD B n (α 3) (σ 2)) (α 5) (α 6) (α 7) 0 g) (n - 1)))))), (26, upd rc_14 (gMO (fun g => gOp B 0 (wD B n (α 3) (σ 2)) (α 5) (α 6) (α 7) 0 g) (n - 1)) (gWi B 0 (wD B n (α 3) (σ 2)) (gMO (fun g => gOp B 0 (wD B n (α 3) (σ 2)) (α 5) (α 6) (α 7) 0 g) (n - 1)) ((α 5) (gMO (fun g => gOp B 0 (wD B n (α 3) (σ 2)) (α 5) (α 6) (α 7) 0 g) (n - 1))) (mM (α 6) x (gMO (fun g => gOp B 0 (wD B n (α 3) (σ 2)) (α 5) (α 6) (α 7) 0 g) (n - 1))) ((α 7) (gMO (fun g => gOp B 0 (wD B n (α 3) (σ 2)) (α 5) (α 6) (α 7) 0 g) (n - 1)))))]) z t0 ts)
        refine aw_call rfl rfl (ev_Forecast_comesIn (d := 0) hC hW_14 (by decide) (fL_upd hL_14) (Nat.le_refl _)) ?_
        rintro _ _ ⟨w_36, wt_36, nv_36, rfl, rfl⟩
        show aw_W _ _ _ _ (37, [some (.ref 0), some (.int x), some (.int (gCm B n 0 (wD B n (α 3) (σ 2)) (α 5) (α 6) (α 7) (σ 2) (sumF (α 4) n) 0 (n - 1))), some (.int (nI (gMO (fun g => gOp B 0 (wD B n (α 3) (σ 2)) (α 5) (α 6) (α 7) 0 g) (n - 1))))], [.int (gCm B n 0 (wD B n (α 3) (σ 2)) (α 5) (upd (α 6) (gMO (fun g => gOp B 0 (wD B n (α 3) (σ 2)) (α 5) (α 6) (α 7) 0 g) (n - 1)) (mM (α 6) x (gMO (fun g => gOp B 0 (wD B n (α 3) (σ 2)) (α 5) (α 6) (α 7) 0 g) (n - 1)))) (α 7) (σ 2) (sumF (α 4) n) 0 (n - 1)), .int (gCm B n 0 (wD B n (α 3) (σ 2)) (α 5) (α 6) (α 7) (σ 2) (sumF (α 4) n) 0 (n - 1))]) (ae_en (au σ [(16, w_36), (17, nI 0)]) (au α [(21, wt_36), (22, wr_14), (23, nv_36), (24, upd ra_14 (gMO (fun g => gOp B 0 (wD B n (α 3) (σ 2)) (α 5) (α 6) (α 7) 0 g) (n - 1)) (mM (α 6) x (gMO (fun g => gOp B 0 (wD B n (α 3) (σ 2)) (α 5) (α 6) (α 7) 0 g) (n - 1)))), (25, upd rb_14 (gMO (fun g => gOp B 0 (wD B n (α 3) (σ 2)) (α 5) (α 6) (α 7) 0 g) (n - 1)) (nI (gGo B 0 (wD B n (α 3) (σ 2)) (gMO (fun g => gOp B 0 (wD B n (α 3) (σ 2)) (α 5) (α 6) (α 7) 0 g) (n - 1)) ((α 5) (gMO (fun g => gOp B 0 (wD B n (α 3) (σ 2)) (α 5) (α 6) (α 7) 0 g) (n - 1))) (mM (α 6) x (gMO (fun g => gOp B 0 (wD B n (α 3) (σ 2)) (α 5) (α 6) (α 7) 0 g) (n - 1))) ((α 7) (gMO (fun g => gOp B 0 (wD B n (α 3) (σ 2)) (α 5) (α 6) (α 7) 0 g) (n - 1)))))), (26, upd rc_14 (gMO (fun g => gOp B 0 (wD B n (α 3) (σ 2)) (α 5) (α 6) (α 7) 0 g) (n - 1)) (gWi B 0 (wD B n (α 3) (σ 2)) (gMO (fun g => gOp B 0 (wD B n (α 3) (σ 2)) (α 5) (α 6) (α 7) 0 g) (n - 1)) ((α 5) (gMO (fun g => gOp B 0 (wD B n (α 3) (σ 2)) (α 5) (α 6) (α 7) 0 g) (n - 1))) (mM (α 6) x (gMO (fun g => gOp B 0 (wD B n (α 3) (σ 2)) (α 5) (α 6) (α 7) 0 g) (n - 1))) ((α 7) (gMO (fun g => gOp B 0 (wD B n (α 3) (σ 2)) (α 5) (α 6) (α 7) 0 g) (n - 1)))))]) z t0 ts)
        refine aw_go 2 rfl ⟨trivial, trivial, trivial⟩ ?_
        show aw_W _ _ _ _ (39, [some (.ref 0), some (.int x), some (.int (gCm B n 0 (wD B n (α 3) (σ 2)) (α 5) (α 6) (α 7) (σ 2) (sumF (α 4) n) 0 (n - 1))), some (.int (nI (gMO (fun g => gOp B 0 (wD B n (α 3) (σ 2)) (α 5) (α 6) (α 7) 0 g) (n - 1))))], [.long (((gCm B n 0 (wD B n (α 3) (σ 2)) (α 5) (α 6) (α 7) (σ 2) (sumF (α 4) n) 0 (n - 1)) - (gCm B n 0 (wD B n (α 3) (σ 2)) (α 5) (upd (α 6) (gMO (fun g => gOp B 0 (wD B n (α 3) (σ 2)) (α 5) (α 6) (α 7) 0 g) (n - 1)) (mM (α 6) x (gMO (fun g => gOp B 0 (wD B n (α 3) (σ 2)) (α 5) (α 6) (α 7) 0 g) (n - 1)))) (α 7) (σ 2) (sumF (α 4) n) 0 (n - 1))).toInt64)]) (ae_en (au σ [(16, w_36), (17, nI 0)]) (au α [(21, wt_36), (22, wr_14), (23, nv_36), (24, upd ra_14 (gMO (fun g => gOp B 0 (wD B n (α 3) (σ 2)) (α 5) (α 6) (α 7) 0 g) (n - 1)) (mM (α 6) x (gMO (fun g => gOp B 0 (wD B n (α 3) (σ 2)) (α 5) (α 6) (α 7) 0 g) (n - 1)))), (25, upd rb_14 (gMO (fun g => gOp B 0 (wD B n (α 3) (σ 2)) (α 5) (α 6) (α 7) 0 g) (n - 1)) (nI (gGo B 0 (wD B n (α 3) (σ 2)) (gMO (fun g => gOp B 0 (wD B n (α 3) (σ 2)) (α 5) (α 6) (α 7) 0 g) (n - 1)) ((α 5) (gMO (fun g => gOp B 0 (wD B n (α 3) (σ 2)) (α 5) (α 6) (α 7) 0 g) (n - 1))) (mM (α 6) x (gMO (fun g => gOp B 0 (wD B n (α 3) (σ 2)) (α 5) (α 6) (α 7) 0 g) (n - 1))) ((α 7) (gMO (fun g => gOp B 0 (wD B n (α 3) (σ 2)) (α 5) (α 6) (α 7) 0 g) (n - 1)))))), (26, upd rc_14 (gMO (fun g => gOp B 0 (wD B n (α 3) (σ 2)) (α 5) (α 6) (α 7) 0 g) (n - 1)) (gWi B 0 (wD B n (α 3) (σ 2)) (gMO (fun g => gOp B 0 (wD B n (α 3) (σ 2)) (α 5) (α 6) (α 7) 0 g) (n - 1)) ((α 5) (gMO (fun g => gOp B 0 (wD B n (α 3) (σ 2)) (α 5) (α 6) (α 7) 0 g) (n - 1))) (mM (α 6) x (gMO (fun g => gOp B 0 (wD B n (α 3) (σ 2)) (α 5) (α 6) (α 7) 0 g) (n - 1))) ((α 7) (gMO (fun g => gOp B 0 (wD B n (α 3) (σ 2)) (α 5) (α 6) (α 7) 0 g) (n - 1)))))]) z t0 ts)
        refine aw_ret rfl rfl trivial ?_
        refine ⟨w_36, nI 0, wt_36, wr_14, nv_36, upd ra_14 (gMO (fun g => gOp B 0 (wD B n (α 3) (σ 2)) (α 5) (α 6) (α 7) 0 g) (n - 1)) (mM (α 6) x (gMO (fun g => gOp B 0 (wD B n (α 3) (σ 2)) (α 5) (α 6) (α 7) 0 g) (n - 1))), upd rb_14 (gMO (fun g => gOp B 0 (wD B n (α 3) (σ 2)) (α 5) (α 6) (α 7) 0 g) (n - 1)) (nI (gGo B 0 (wD B n (α 3) (σ 2)) (gMO (fun g => gOp B 0 (wD B n (α 3) (σ 2)) (α 5) (α 6) (α 7) 0 g) (n - 1)) ((α 5) (gMO (fun g => gOp B 0 (wD B n (α 3) (σ 2)) (α 5) (α 6) (α 7) 0 g) (n - 1))) (mM (α 6) x (gMO (fun g => gOp B 0 (wD B n (α 3) (σ 2)) (α 5) (α 6) (α 7) 0 g) (n - 1))) ((α 7) (gMO (fun g => gOp B 0 (wD B n (α 3) (σ 2)) (α 5) (α 6) (α 7) 0 g) (n - 1))))), upd rc_14 (gMO (fun g => gOp B 0 (wD B n (α 3) (σ 2)) (α 5) (α 6) (α 7) 0 g) (n - 1)) (gWi B 0 (wD B n (α 3) (σ 2)) (gMO (fun g => gOp B 0 (wD B n (α 3) (σ 2)) (α 5) (α 6) (α 7) 0 g) (n - 1)) ((α 5) (gMO (fun g => gOp B 0 (wD B n (α 3) (σ 2)) (α 5) (α 6) (α 7) 0 g) (n - 1))) (mM (α 6) x (gMO (fun g => gOp B 0 (wD B n (α 3) (σ 2)) (α 5) (α 6) (α 7) 0 g) (n - 1))) ((α 7) (gMO (fun g => gOp B 0 (wD B n (α 3) (σ 2)) (α 5) (α 6) (α 7) 0 g) (n - 1)))), ?_, rfl⟩
        rw [aSack, if_pos ⟨Int32.not_lt.mp h1, Int32.not_lt.mp h4, by omega⟩, aSackG, gCm_00 B n 0 _ _ _ _ _ _ hdy, gCm_00 B n 0 _ _ _ _ _ _ hdy, show (fun g => gOp B 0 (wD B n (α 3) (σ 2)) (α 5) (α 6) (α 7) 0 g) = rOp B (α 3) (α 5) (α 6) from funext fun g => gOp_0 _ _ _ _ _ _ _]
        all_goals rfl
      · skip
        have h8 := Classical.not_not.mp h8
        have h8 := cI_eqT (a := n - 1) (b := 0) rfl rfl (by omega) (by omega) h8
        show aw_W _ _ _ _ (9, [some (.ref 0), some (.int x), none, none], []) (ae_en σ α z t0 ts)
        refine aw_go 1 rfl ⟨trivial, trivial⟩ ?_
        refine aw_ret rfl rfl trivial ?_
        refine ⟨σ 16, σ 17, α 21, α 22, α 23, α 24, α 25, α 26, ?_, rfl⟩
        rw [aSack, if_neg (fun q => absurd q.2.2 (by omega))]
theorem ev_Dried_far {n : Nat} {B : ae_B} {x : Int32} {zd : Nat} (hC : cOk B n (σ 1) (σ 3) (σ 5) (σ 15) (α 0) (α 1) (α 2) t0 ts) (hdy : dyA (σ 2) 0 = (σ 2)) : aw_X P (zd + 8) 23 [.ref 0, .int x] (ae_en σ α z t0 ts) (fun r H => ∃ (w : Int32) (wd : Int32) (wt : Nat → Int32) (wr : Nat → Int32) (nv : Nat → Int32) (ra : Nat → Int32) (rb : Nat → Int32) (rc : Nat → Int32), r = some (.int (aFar (rCm B n (α 3) (α 5) (α 6) (σ 2) (sumF (α 4) n) (n - 1)) x)) ∧ H = (ae_en (au σ [(16, w), (17, wd)]) (au α [(21, wt), (22, wr), (23, nv), (24, ra), (25, rb), (26, rc)]) z t0 ts)) := by
  obtain ⟨hn, hn10, hs3, hk0, hk1, hk2, hr⟩ := id hC
  refine aw_ev (cd := cd_Dried_far) rfl rfl rfl ?_
  show aw_W _ _ _ _ (0, [some (.ref 0), some (.int x), none], []) (ae_en σ α z t0 ts)
  refine aw_go 2 rfl ⟨trivial, trivial, trivial⟩ ?_
  refine aw_br (c := x < 0) (fun h1 => ?_) (fun h1 => ?_)
  · skip
    show aw_W _ _ _ _ (5, [some (.ref 0), some (.int x), none], []) (ae_en σ α z t0 ts)
    refine aw_go 1 rfl ⟨trivial, trivial⟩ ?_
    refine aw_ret rfl rfl trivial ?_
    refine ⟨σ 16, σ 17, α 21, α 22, α 23, α 24, α 25, α 26, ?_, rfl⟩
    rw [aFar, if_neg (fun q => absurd q.1 (Int32.not_le.mpr h1))]
  · skip
    show aw_W _ _ _ _ (2, [some (.ref 0), some (.int x), none], []) (ae_en σ α z t0 ts)
    refine aw_go 3 rfl ⟨trivial, trivial, trivial, trivial⟩ ?_
    refine aw_br (c := x ≤ 9999) (fun h4 => ?_) (fun h4 => ?_)
    · skip
      show aw_W _ _ _ _ (7, [some (.ref 0), some (.int x), none], []) (ae_en σ α z t0 ts)
      refine aw_go 3 rfl ⟨trivial, trivial, trivial, trivial⟩ ?_
      show aw_W _ _ _ _ (10, [some (.ref 0), some (.int x), none], [.int 0, .ref 28]) (ae_en σ α z t0 ts)
      refine aw_call rfl rfl (ev_Forecast_look (N := 0) hC (by decide) rfl) ?_
      rintro _ _ ⟨w_10, wt_10, wr_10, nv_10, ra_10, rb_10, rc_10, rfl, rfl, hW_10, hL_10⟩
      show aw_W _ _ _ _ (11, [some (.ref 0), some (.int x), none], []) (ae_en (au σ [(16, w_10), (17, nI 0)]) (au α [(21, wt_10), (22, wr_10), (23, nv_10), (24, ra_10), (25, rb_10), (26, rc_10)]) z t0 ts)
      refine aw_go 3 rfl ⟨trivial, trivial, trivial, trivial⟩ ?_
      show aw_W _ _ _ _ (14, [some (.ref 0), some (.int x), none], [.int 0, .ref 28]) (ae_en (au σ [(16, w_10), (17, nI 0)]) (au α [(21, wt_10), (22, wr_10), (23, nv_10), (24, ra_10), (25, rb_10), (26, rc_10)]) z t0 ts)
      refine aw_call rfl rfl (ev_Forecast_comesIn (d := 0) hC hW_10 (by decide) hL_10 (Nat.le_refl _)) ?_
      rintro _ _ ⟨w_14, wt_14, nv_14, rfl, rfl⟩
      show aw_W _ _ _ _ (15, [some (.ref 0), some (.int x), none], [.int (gCm B n 0 (wD B n (α 3) (σ 2)) (α 5) (α 6) (α 7) (σ 2) (sumF (α 4) n) 0 (n - 1))]) (ae_en (au σ [(16, w_14), (17, nI 0)]) (au α [(21, wt_14), (22, wr_10), (23, nv_14), (24, ra_10), (25, rb_10), (26, rc_10)]) z t0 ts)
      refine aw_go 8 rfl ⟨trivial, trivial, trivial, (by decide), trivial, trivial, trivial, trivial, trivial⟩ ?_
      show aw_W _ _ _ _ (if (1 : Int32) ≤ (((gCm B n 0 (wD B n (α 3) (σ 2)) (α 5) (α 6) (α 7) (σ 2) (sumF (α 4) n) 0 (n - 1)) + 23) / 24) then 25 else 23, [some (.ref 0), some (.int x), some (.int (((gCm B n 0 (wD B n (α 3) (σ 2)) (α 5) (α 6) (α 7) (σ 2) (sumF (α 4) n) 0 (n - 1)) + 23) / 24))], []) (ae_en (au σ [(16, w_14), (17, nI 0)]) (au α [(21, wt_14), (22, wr_10), (23, nv_14), (24, ra_10), (25, rb_10), (26, rc_10)]) z t0 ts)
      refine aw_br (c := (1 : Int32) ≤ (((gCm B n 0 (wD B n (α 3) (σ 2)) (α 5) (α 6) (α 7) (σ 2) (sumF (α 4) n) 0 (n - 1)) + 23) / 24)) (fun h22 => ?_) (fun h22 => ?_)
      · skip
        show aw_W _ _ _ _ (25, [some (.ref 0), some (.int x), some (.int (((gCm B n 0 (wD B n (α 3) (σ 2)) (α 5) (α 6) (α 7) (σ 2) (sumF (α 4) n) 0 (n - 1)) + 23) / 24))], []) (ae_en (au σ [(16, w_14), (17, nI 0)]) (au α [(21, wt_14), (22, wr_10), (23, nv_14), (24, ra_10), (25, rb_10), (26, rc_10)]) z t0 ts)
        refine aw_go 5 rfl ⟨trivial, trivial, trivial, (fun q => absurd (show (1 : Int32) ≤ _ from h22) (by rw [q]; decide)), trivial, trivial⟩ ?_
        show aw_W _ _ _ _ (30, [some (.ref 0), some (.int x), some (.int (((gCm B n 0 (wD B n (α 3) (σ 2)) (α 5) (α 6) (α 7) (σ 2) (sumF (α 4) n) 0 (n - 1)) + 23) / 24))], [.int (fMn 999 (x / (((gCm B n 0 (wD B n (α 3) (σ 2)) (α 5) (α 6) (α 7) (σ 2) (sumF (α 4) n) 0 (n - 1)) + 23) / 24)))]) (ae_en (au σ [(16, w_14), (17, nI 0)]) (au α [(21, wt_14), (22, wr_10), (23, nv_14), (24, ra_10), (25, rb_10), (26, rc_10)]) z t0 ts)
        refine aw_ret rfl rfl trivial ?_
        refine ⟨w_14, nI 0, wt_14, wr_10, nv_14, ra_10, rb_10, rc_10, ?_, rfl⟩
        rw [gCm_00 B n 0 _ _ _ _ _ _ hdy] at h22 ⊢
        rw [aFar, if_pos ⟨Int32.not_lt.mp h1, h4⟩, if_neg (Int32.not_lt.mpr h22)]
        all_goals rfl
      · skip
        show aw_W _ _ _ _ (23, [some (.ref 0), some (.int x), some (.int (((gCm B n 0 (wD B n (α 3) (σ 2)) (α 5) (α 6) (α 7) (σ 2) (sumF (α 4) n) 0 (n - 1)) + 23) / 24))], []) (ae_en (au σ [(16, w_14), (17, nI 0)]) (au α [(21, wt_14), (22, wr_10), (23, nv_14), (24, ra_10), (25, rb_10), (26, rc_10)]) z t0 ts)
        refine aw_go 2 rfl ⟨trivial, trivial, trivial⟩ ?_
        refine aw_ret rfl rfl trivial ?_
        refine ⟨w_14, nI 0, wt_14, wr_10, nv_14, ra_10, rb_10, rc_10, ?_, rfl⟩
        rw [gCm_00 B n 0 _ _ _ _ _ _ hdy] at h22
        rw [aFar, if_pos ⟨Int32.not_lt.mp h1, h4⟩, if_pos (Int32.not_le.mp h22)]
        all_goals rfl
    · skip
      show aw_W _ _ _ _ (5, [some (.ref 0), some (.int x), none], []) (ae_en σ α z t0 ts)
      refine aw_go 1 rfl ⟨trivial, trivial⟩ ?_
      refine aw_ret rfl rfl trivial ?_
      refine ⟨σ 16, σ 17, α 21, α 22, α 23, α 24, α 25, α 26, ?_, rfl⟩
      rw [aFar, if_neg (fun q => absurd q.2 (Int32.not_le.mpr (Int32.not_le.mp h4)))]
theorem lp_gcd {zd : Nat} {a b a2 b2 : Int32} {l3 : Option Value} (k : Nat) (hk : k ≤ 64) (hI : gcI (64 - k) a2 b2 = gcI 64 a b) : aw_W P (zd) cd_Dried_greatestDivisor (fun r H => r = some (.int (gcI 64 a b)) ∧ H = (ae_en σ α z t0 ts)) (2, [some (.int a2), some (.int b2), some (.int (nI k)), l3], []) (ae_en σ α z t0 ts) := by
  refine aw_go 3 rfl ⟨trivial, trivial, trivial, trivial⟩ ?_
  refine aw_br (c := (64 : Int32) ≤ (nI k)) (fun h4 => ?_) (fun h4 => ?_)
  · skip
    have h4 := cI_leT (a := 64) (b := k) rfl rfl (by omega) (by omega) h4
    show aw_W _ _ _ _ (17, [some (.int a2), some (.int b2), some (.int (nI k)), l3], []) (ae_en σ α z t0 ts)
    rw [show 64 - k = 0 by omega] at hI
    refine aw_go 1 rfl ⟨trivial, trivial⟩ ?_
    refine aw_ret rfl rfl trivial ?_
    refine ⟨?_, rfl⟩
    rw [← hI]
    all_goals rfl
  · skip
    have h4 := cI_leF (a := 64) (b := k) rfl rfl (by omega) (by omega) h4
    show aw_W _ _ _ _ (5, [some (.int a2), some (.int b2), some (.int (nI k)), l3], []) (ae_en σ α z t0 ts)
    obtain ⟨m, hm⟩ : ∃ m, 64 - k = m + 1 := ⟨63 - k, by omega⟩
    rw [hm, gcI] at hI
    refine aw_go 2 rfl ⟨trivial, trivial, trivial⟩ ?_
    refine aw_br (c := b2 = 0) (fun h6 => ?_) (fun h6 => ?_)
    · skip
      show aw_W _ _ _ _ (17, [some (.int a2), some (.int b2), some (.int (nI k)), l3], []) (ae_en σ α z t0 ts)
      rw [if_pos h6] at hI
      refine aw_go 1 rfl ⟨trivial, trivial⟩ ?_
      refine aw_ret rfl rfl trivial ?_
      refine ⟨?_, rfl⟩
      rw [← hI]
      all_goals rfl
    · skip
      show aw_W _ _ _ _ (7, [some (.int a2), some (.int b2), some (.int (nI k)), l3], []) (ae_en σ α z t0 ts)
      rw [if_neg h6] at hI
      refine aw_go 10 rfl ⟨trivial, trivial, h6, trivial, trivial, trivial, trivial, trivial, trivial, trivial, trivial⟩ ?_
      show aw_W _ _ _ _ (2, [some (.int b2), some (.int (a2 - a2 / b2 * b2)), some (.int ((nI k) + 1)), some (.int (a2 - a2 / b2 * b2))], []) (ae_en σ α z t0 ts)
      rw [show (nI k) + 1 = nI (k + 1) from (cI_add (a := k) (b := 1) rfl rfl)]
      exact lp_gcd (k + 1) (by omega) (by rw [show 64 - (k + 1) = m by omega]; exact hI)
termination_by 64 - k
decreasing_by all_goals omega
theorem ev_Dried_greatestDivisor {a b : Int32} {zd : Nat}  : ae_Ev P (zd + 1) 25 [.int a, .int b] (ae_en σ α z t0 ts) (some (.int (gcI 64 a b))) (ae_en σ α z t0 ts) := by
  refine aw_evE (cd := cd_Dried_greatestDivisor) rfl rfl rfl ?_
  show aw_W _ _ _ _ (0, [some (.int a), some (.int b), none, none], []) (ae_en σ α z t0 ts)
  refine aw_go 2 rfl ⟨trivial, trivial, trivial⟩ ?_
  exact lp_gcd 0 (by decide) rfl
theorem ev_Dried_nails {n : Nat} {B : ae_B} {x : Int32} {zd : Nat} (hC : cOk B n (σ 1) (σ 3) (σ 5) (σ 15) (α 0) (α 1) (α 2) t0 ts) (hdy : dyA (σ 2) 0 = (σ 2)) : aw_X P (zd + 8) 24 [.ref 0, .int x] (ae_en σ α z t0 ts) (fun r H => ∃ (w : Int32) (wd : Int32) (wt : Nat → Int32) (wr : Nat → Int32) (nv : Nat → Int32) (ra : Nat → Int32) (rb : Nat → Int32) (rc : Nat → Int32), r = some (.long (aNails (rCm B n (α 3) (α 5) (α 6) (σ 2) (sumF (α 4) n) (n - 1)) (10 * sumF (α 4) n) x)) ∧ H = (ae_en (au σ [(16, w), (17, wd)]) (au α [(21, wt), (22, wr), (23, nv), (24, ra), (25, rb), (26, rc)]) z t0 ts)) := by
  obtain ⟨hn, hn10, hs3, hk0, hk1, hk2, hr⟩ := id hC
  refine aw_ev (cd := cd_Dried_nails) rfl rfl rfl ?_
  show aw_W _ _ _ _ (0, [some (.ref 0), some (.int x), none, none, none], []) (ae_en σ α z t0 ts)
  refine aw_go 2 rfl ⟨trivial, trivial, trivial⟩ ?_
  refine aw_br (c := x = 0) (fun h1 => ?_) (fun h1 => ?_)
  · skip
    show aw_W _ _ _ _ (7, [some (.ref 0), some (.int x), none, none, none], []) (ae_en σ α z t0 ts)
    refine aw_go 3 rfl ⟨trivial, trivial, trivial, trivial⟩ ?_
    show aw_W _ _ _ _ (10, [some (.ref 0), some (.int x), none, none, none], [.int 0, .ref 28]) (ae_en σ α z t0 ts)
    refine aw_call rfl rfl (ev_Forecast_look (N := 0) hC (by decide) rfl) ?_
    rintro _ _ ⟨w_10, wt_10, wr_10, nv_10, ra_10, rb_10, rc_10, rfl, rfl, hW_10, hL_10⟩
    show aw_W _ _ _ _ (11, [some (.ref 0), some (.int x), none, none, none], []) (ae_en (au σ [(16, w_10), (17, nI 0)]) (au α [(21, wt_10), (22, wr_10), (23, nv_10), (24, ra_10), (25, rb_10), (26, rc_10)]) z t0 ts)
    refine aw_go 3 rfl ⟨trivial, trivial, trivial, trivial⟩ ?_
    show aw_W _ _ _ _ (14, [some (.ref 0), some (.int x), none, none, none], [.ref 1, .int 10]) (ae_en (au σ [(16, w_10), (17, nI 0)]) (au α [(21, wt_10), (22, wr_10), (23, nv_10), (24, ra_10), (25, rb_10), (26, rc_10)]) z t0 ts)
    refine aw_callE rfl rfl (ev_Boat_allNails  hn hn10) ?_
    show aw_W _ _ _ _ (15, [some (.ref 0), some (.int x), none, none, none], [.int (sumF (α 4) n), .int 10]) (ae_en (au σ [(16, w_10), (17, nI 0)]) (au α [(21, wt_10), (22, wr_10), (23, nv_10), (24, ra_10), (25, rb_10), (26, rc_10)]) z t0 ts)
    refine aw_go 5 rfl ⟨trivial, trivial, trivial, trivial, trivial, trivial⟩ ?_
    show aw_W _ _ _ _ (20, [some (.ref 0), some (.int x), some (.int (10 * (sumF (α 4) n))), none, none], [.int 0, .ref 28]) (ae_en (au σ [(16, w_10), (17, nI 0)]) (au α [(21, wt_10), (22, wr_10), (23, nv_10), (24, ra_10), (25, rb_10), (26, rc_10)]) z t0 ts)
    refine aw_call rfl rfl (ev_Forecast_comesIn (d := 0) hC hW_10 (by decide) hL_10 (Nat.le_refl _)) ?_
    rintro _ _ ⟨w_20, wt_20, nv_20, rfl, rfl⟩
    show aw_W _ _ _ _ (21, [some (.ref 0), some (.int x), some (.int (10 * (sumF (α 4) n))), none, none], [.int (gCm B n 0 (wD B n (α 3) (σ 2)) (α 5) (α 6) (α 7) (σ 2) (sumF (α 4) n) 0 (n - 1))]) (ae_en (au σ [(16, w_20), (17, nI 0)]) (au α [(21, wt_20), (22, wr_10), (23, nv_20), (24, ra_10), (25, rb_10), (26, rc_10)]) z t0 ts)
    refine aw_go 3 rfl ⟨trivial, trivial, trivial, trivial⟩ ?_
    refine aw_br (c := ¬ (gCm B n 0 (wD B n (α 3) (σ 2)) (α 5) (α 6) (α 7) (σ 2) (sumF (α 4) n) 0 (n - 1)) = 0) (fun h23 => ?_) (fun h23 => ?_)
    · skip
      show aw_W _ _ _ _ (27, [some (.ref 0), some (.int x), some (.int (10 * (sumF (α 4) n))), some (.int (gCm B n 0 (wD B n (α 3) (σ 2)) (α 5) (α 6) (α 7) (σ 2) (sumF (α 4) n) 0 (n - 1))), none], []) (ae_en (au σ [(16, w_20), (17, nI 0)]) (au α [(21, wt_20), (22, wr_10), (23, nv_20), (24, ra_10), (25, rb_10), (26, rc_10)]) z t0 ts)
      refine aw_go 2 rfl ⟨trivial, trivial, trivial⟩ ?_
      refine aw_callE rfl rfl (ev_Dried_greatestDivisor (a := (10 * (sumF (α 4) n))) (b := (gCm B n 0 (wD B n (α 3) (σ 2)) (α 5) (α 6) (α 7) (σ 2) (sumF (α 4) n) 0 (n - 1)))) ?_
      show aw_W _ _ _ _ (30, [some (.ref 0), some (.int x), some (.int (10 * (sumF (α 4) n))), some (.int (gCm B n 0 (wD B n (α 3) (σ 2)) (α 5) (α 6) (α 7) (σ 2) (sumF (α 4) n) 0 (n - 1))), none], [.int (gcI 64 (10 * (sumF (α 4) n)) (gCm B n 0 (wD B n (α 3) (σ 2)) (α 5) (α 6) (α 7) (σ 2) (sumF (α 4) n) 0 (n - 1)))]) (ae_en (au σ [(16, w_20), (17, nI 0)]) (au α [(21, wt_20), (22, wr_10), (23, nv_20), (24, ra_10), (25, rb_10), (26, rc_10)]) z t0 ts)
      refine aw_go 4 rfl ⟨trivial, trivial, trivial, trivial, trivial⟩ ?_
      refine aw_br (c := (1 : Int32) ≤ (gcI 64 (10 * (sumF (α 4) n)) (gCm B n 0 (wD B n (α 3) (σ 2)) (α 5) (α 6) (α 7) (σ 2) (sumF (α 4) n) 0 (n - 1)))) (fun h33 => ?_) (fun h33 => ?_)
      · skip
        show aw_W _ _ _ _ (36, [some (.ref 0), some (.int x), some (.int (10 * (sumF (α 4) n))), some (.int (gCm B n 0 (wD B n (α 3) (σ 2)) (α 5) (α 6) (α 7) (σ 2) (sumF (α 4) n) 0 (n - 1))), some (.int (gcI 64 (10 * (sumF (α 4) n)) (gCm B n 0 (wD B n (α 3) (σ 2)) (α 5) (α 6) (α 7) (σ 2) (sumF (α 4) n) 0 (n - 1))))], []) (ae_en (au σ [(16, w_20), (17, nI 0)]) (au α [(21, wt_20), (22, wr_10), (23, nv_20), (24, ra_10), (25, rb_10), (26, rc_10)]) z t0 ts)
        refine aw_go 2 rfl ⟨trivial, trivial, trivial⟩ ?_
        refine aw_br (c := ¬ x = 0) (fun h37 => ?_) (fun h37 => ?_)
        · skip
          show aw_W _ _ _ _ (40, [some (.ref 0), some (.int x), some (.int (10 * (sumF (α 4) n))), some (.int (gCm B n 0 (wD B n (α 3) (σ 2)) (α 5) (α 6) (α 7) (σ 2) (sumF (α 4) n) 0 (n - 1))), some (.int (gcI 64 (10 * (sumF (α 4) n)) (gCm B n 0 (wD B n (α 3) (σ 2)) (α 5) (α 6) (α 7) (σ 2) (sumF (α 4) n) 0 (n - 1))))], []) (ae_en (au σ [(16, w_20), (17, nI 0)]) (au α [(21, wt_20), (22, wr_10), (23, nv_20), (24, ra_10), (25, rb_10), (26, rc_10)]) z t0 ts)
          refine aw_go 4 rfl ⟨trivial, trivial, (fun q => absurd (show (1 : Int32) ≤ _ from h33) (by rw [q]; decide)), trivial, trivial⟩ ?_
          show aw_W _ _ _ _ (44, [some (.ref 0), some (.int x), some (.int (10 * (sumF (α 4) n))), some (.int (gCm B n 0 (wD B n (α 3) (σ 2)) (α 5) (α 6) (α 7) (σ 2) (sumF (α 4) n) 0 (n - 1))), some (.int (gcI 64 (10 * (sumF (α 4) n)) (gCm B n 0 (wD B n (α 3) (σ 2)) (α 5) (α 6) (α 7) (σ 2) (sumF (α 4) n) 0 (n - 1))))], [.long (((gCm B n 0 (wD B n (α 3) (σ 2)) (α 5) (α 6) (α 7) (σ 2) (sumF (α 4) n) 0 (n - 1)) / (gcI 64 (10 * (sumF (α 4) n)) (gCm B n 0 (wD B n (α 3) (σ 2)) (α 5) (α 6) (α 7) (σ 2) (sumF (α 4) n) 0 (n - 1)))).toInt64)]) (ae_en (au σ [(16, w_20), (17, nI 0)]) (au α [(21, wt_20), (22, wr_10), (23, nv_20), (24, ra_10), (25, rb_10), (26, rc_10)]) z t0 ts)
          refine aw_ret rfl rfl trivial ?_
          refine ⟨w_20, nI 0, wt_20, wr_10, nv_20, ra_10, rb_10, rc_10, ?_, rfl⟩
          rw [gCm_00 B n 0 _ _ _ _ _ _ hdy] at h23 h33 ⊢
          rw [aNails, if_pos (Or.inl h1), if_neg h23, if_neg (Int32.not_lt.mpr h33), if_neg h37]
          all_goals rfl
        · skip
          have h37 := Classical.not_not.mp h37
          show aw_W _ _ _ _ (38, [some (.ref 0), some (.int x), some (.int (10 * (sumF (α 4) n))), some (.int (gCm B n 0 (wD B n (α 3) (σ 2)) (α 5) (α 6) (α 7) (σ 2) (sumF (α 4) n) 0 (n - 1))), some (.int (gcI 64 (10 * (sumF (α 4) n)) (gCm B n 0 (wD B n (α 3) (σ 2)) (α 5) (α 6) (α 7) (σ 2) (sumF (α 4) n) 0 (n - 1))))], []) (ae_en (au σ [(16, w_20), (17, nI 0)]) (au α [(21, wt_20), (22, wr_10), (23, nv_20), (24, ra_10), (25, rb_10), (26, rc_10)]) z t0 ts)
          refine aw_go 5 rfl ⟨trivial, trivial, trivial, (fun q => absurd (show (1 : Int32) ≤ _ from h33) (by rw [q]; decide)), trivial, trivial⟩ ?_
          show aw_W _ _ _ _ (44, [some (.ref 0), some (.int x), some (.int (10 * (sumF (α 4) n))), some (.int (gCm B n 0 (wD B n (α 3) (σ 2)) (α 5) (α 6) (α 7) (σ 2) (sumF (α 4) n) 0 (n - 1))), some (.int (gcI 64 (10 * (sumF (α 4) n)) (gCm B n 0 (wD B n (α 3) (σ 2)) (α 5) (α 6) (α 7) (σ 2) (sumF (α 4) n) 0 (n - 1))))], [.long (((10 * (sumF (α 4) n)) / (gcI 64 (10 * (sumF (α 4) n)) (gCm B n 0 (wD B n (α 3) (σ 2)) (α 5) (α 6) (α 7) (σ 2) (sumF (α 4) n) 0 (n - 1)))).toInt64)]) (ae_en (au σ [(16, w_20), (17, nI 0)]) (au α [(21, wt_20), (22, wr_10), (23, nv_20), (24, ra_10), (25, rb_10), (26, rc_10)]) z t0 ts)
          refine aw_ret rfl rfl trivial ?_
          refine ⟨w_20, nI 0, wt_20, wr_10, nv_20, ra_10, rb_10, rc_10, ?_, rfl⟩
          rw [gCm_00 B n 0 _ _ _ _ _ _ hdy] at h23 h33 ⊢
          rw [aNails, if_pos (Or.inl h1), if_neg h23, if_neg (Int32.not_lt.mpr h33), if_pos h37]
          all_goals rfl
      · skip
        show aw_W _ _ _ _ (34, [some (.ref 0), some (.int x), some (.int (10 * (sumF (α 4) n))), some (.int (gCm B n 0 (wD B n (α 3) (σ 2)) (α 5) (α 6) (α 7) (σ 2) (sumF (α 4) n) 0 (n - 1))), some (.int (gcI 64 (10 * (sumF (α 4) n)) (gCm B n 0 (wD B n (α 3) (σ 2)) (α 5) (α 6) (α 7) (σ 2) (sumF (α 4) n) 0 (n - 1))))], []) (ae_en (au σ [(16, w_20), (17, nI 0)]) (au α [(21, wt_20), (22, wr_10), (23, nv_20), (24, ra_10), (25, rb_10), (26, rc_10)]) z t0 ts)
        refine aw_go 2 rfl ⟨trivial, trivial, trivial⟩ ?_
        refine aw_ret rfl rfl trivial ?_
        refine ⟨w_20, nI 0, wt_20, wr_10, nv_20, ra_10, rb_10, rc_10, ?_, rfl⟩
        rw [gCm_00 B n 0 _ _ _ _ _ _ hdy] at h23 h33
        rw [aNails, if_pos (Or.inl h1), if_neg h23, if_pos (Int32.not_le.mp h33)]
        all_goals rfl
    · skip
      have h23 := Classical.not_not.mp h23
      show aw_W _ _ _ _ (24, [some (.ref 0), some (.int x), some (.int (10 * (sumF (α 4) n))), some (.int (gCm B n 0 (wD B n (α 3) (σ 2)) (α 5) (α 6) (α 7) (σ 2) (sumF (α 4) n) 0 (n - 1))), none], []) (ae_en (au σ [(16, w_20), (17, nI 0)]) (au α [(21, wt_20), (22, wr_10), (23, nv_20), (24, ra_10), (25, rb_10), (26, rc_10)]) z t0 ts)
      refine aw_go 2 rfl ⟨trivial, trivial, trivial⟩ ?_
      show aw_W _ _ _ _ (26, [some (.ref 0), some (.int x), some (.int (10 * (sumF (α 4) n))), some (.int (gCm B n 0 (wD B n (α 3) (σ 2)) (α 5) (α 6) (α 7) (σ 2) (sumF (α 4) n) 0 (n - 1))), none], [.long x.toInt64]) (ae_en (au σ [(16, w_20), (17, nI 0)]) (au α [(21, wt_20), (22, wr_10), (23, nv_20), (24, ra_10), (25, rb_10), (26, rc_10)]) z t0 ts)
      refine aw_ret rfl rfl trivial ?_
      refine ⟨w_20, nI 0, wt_20, wr_10, nv_20, ra_10, rb_10, rc_10, ?_, rfl⟩
      rw [gCm_00 B n 0 _ _ _ _ _ _ hdy] at h23
      rw [aNails, if_pos (Or.inl h1), if_pos h23]
  · skip
    show aw_W _ _ _ _ (2, [some (.ref 0), some (.int x), none, none, none], []) (ae_en σ α z t0 ts)
    refine aw_go 3 rfl ⟨trivial, trivial, trivial, trivial⟩ ?_
    refine aw_br (c := x = 1) (fun h4 => ?_) (fun h4 => ?_)
    · skip
      show aw_W _ _ _ _ (7, [some (.ref 0), some (.int x), none, none, none], []) (ae_en σ α z t0 ts)
      refine aw_go 3 rfl ⟨trivial, trivial, trivial, trivial⟩ ?_
      show aw_W _ _ _ _ (10, [some (.ref 0), some (.int x), none, none, none], [.int 0, .ref 28]) (ae_en σ α z t0 ts)
      refine aw_call rfl rfl (ev_Forecast_look (N := 0) hC (by decide) rfl) ?_
      rintro _ _ ⟨w_10, wt_10, wr_10, nv_10, ra_10, rb_10, rc_10, rfl, rfl, hW_10, hL_10⟩
      show aw_W _ _ _ _ (11, [some (.ref 0), some (.int x), none, none, none], []) (ae_en (au σ [(16, w_10), (17, nI 0)]) (au α [(21, wt_10), (22, wr_10), (23, nv_10), (24, ra_10), (25, rb_10), (26, rc_10)]) z t0 ts)
      refine aw_go 3 rfl ⟨trivial, trivial, trivial, trivial⟩ ?_
      show aw_W _ _ _ _ (14, [some (.ref 0), some (.int x), none, none, none], [.ref 1, .int 10]) (ae_en (au σ [(16, w_10), (17, nI 0)]) (au α [(21, wt_10), (22, wr_10), (23, nv_10), (24, ra_10), (25, rb_10), (26, rc_10)]) z t0 ts)
      refine aw_callE rfl rfl (ev_Boat_allNails  hn hn10) ?_
      show aw_W _ _ _ _ (15, [some (.ref 0), some (.int x), none, none, none], [.int (sumF (α 4) n), .int 10]) (ae_en (au σ [(16, w_10), (17, nI 0)]) (au α [(21, wt_10), (22, wr_10), (23, nv_10), (24, ra_10), (25, rb_10), (26, rc_10)]) z t0 ts)
      refine aw_go 5 rfl ⟨trivial, trivial, trivial, trivial, trivial, trivial⟩ ?_
      show aw_W _ _ _ _ (20, [some (.ref 0), some (.int x), some (.int (10 * (sumF (α 4) n))), none, none], [.int 0, .ref 28]) (ae_en (au σ [(16, w_10), (17, nI 0)]) (au α [(21, wt_10), (22, wr_10), (23, nv_10), (24, ra_10), (25, rb_10), (26, rc_10)]) z t0 ts)
      refine aw_call rfl rfl (ev_Forecast_comesIn (d := 0) hC hW_10 (by decide) hL_10 (Nat.le_refl _)) ?_
      rintro _ _ ⟨w_20, wt_20, nv_20, rfl, rfl⟩
      show aw_W _ _ _ _ (21, [some (.ref 0), some (.int x), some (.int (10 * (sumF (α 4) n))), none, none], [.int (gCm B n 0 (wD B n (α 3) (σ 2)) (α 5) (α 6) (α 7) (σ 2) (sumF (α 4) n) 0 (n - 1))]) (ae_en (au σ [(16, w_20), (17, nI 0)]) (au α [(21, wt_20), (22, wr_10), (23, nv_20), (24, ra_10), (25, rb_10), (26, rc_10)]) z t0 ts)
      refine aw_go 3 rfl ⟨trivial, trivial, trivial, trivial⟩ ?_
      refine aw_br (c := ¬ (gCm B n 0 (wD B n (α 3) (σ 2)) (α 5) (α 6) (α 7) (σ 2) (sumF (α 4) n) 0 (n - 1)) = 0) (fun h23 => ?_) (fun h23 => ?_)
      · skip
        show aw_W _ _ _ _ (27, [some (.ref 0), some (.int x), some (.int (10 * (sumF (α 4) n))), some (.int (gCm B n 0 (wD B n (α 3) (σ 2)) (α 5) (α 6) (α 7) (σ 2) (sumF (α 4) n) 0 (n - 1))), none], []) (ae_en (au σ [(16, w_20), (17, nI 0)]) (au α [(21, wt_20), (22, wr_10), (23, nv_20), (24, ra_10), (25, rb_10), (26, rc_10)]) z t0 ts)
        refine aw_go 2 rfl ⟨trivial, trivial, trivial⟩ ?_
        refine aw_callE rfl rfl (ev_Dried_greatestDivisor (a := (10 * (sumF (α 4) n))) (b := (gCm B n 0 (wD B n (α 3) (σ 2)) (α 5) (α 6) (α 7) (σ 2) (sumF (α 4) n) 0 (n - 1)))) ?_
        show aw_W _ _ _ _ (30, [some (.ref 0), some (.int x), some (.int (10 * (sumF (α 4) n))), some (.int (gCm B n 0 (wD B n (α 3) (σ 2)) (α 5) (α 6) (α 7) (σ 2) (sumF (α 4) n) 0 (n - 1))), none], [.int (gcI 64 (10 * (sumF (α 4) n)) (gCm B n 0 (wD B n (α 3) (σ 2)) (α 5) (α 6) (α 7) (σ 2) (sumF (α 4) n) 0 (n - 1)))]) (ae_en (au σ [(16, w_20), (17, nI 0)]) (au α [(21, wt_20), (22, wr_10), (23, nv_20), (24, ra_10), (25, rb_10), (26, rc_10)]) z t0 ts)
        refine aw_go 4 rfl ⟨trivial, trivial, trivial, trivial, trivial⟩ ?_
        refine aw_br (c := (1 : Int32) ≤ (gcI 64 (10 * (sumF (α 4) n)) (gCm B n 0 (wD B n (α 3) (σ 2)) (α 5) (α 6) (α 7) (σ 2) (sumF (α 4) n) 0 (n - 1)))) (fun h33 => ?_) (fun h33 => ?_)
        · skip
          show aw_W _ _ _ _ (36, [some (.ref 0), some (.int x), some (.int (10 * (sumF (α 4) n))), some (.int (gCm B n 0 (wD B n (α 3) (σ 2)) (α 5) (α 6) (α 7) (σ 2) (sumF (α 4) n) 0 (n - 1))), some (.int (gcI 64 (10 * (sumF (α 4) n)) (gCm B n 0 (wD B n (α 3) (σ 2)) (α 5) (α 6) (α 7) (σ 2) (sumF (α 4) n) 0 (n - 1))))], []) (ae_en (au σ [(16, w_20), (17, nI 0)]) (au α [(21, wt_20), (22, wr_10), (23, nv_20), (24, ra_10), (25, rb_10), (26, rc_10)]) z t0 ts)
          refine aw_go 2 rfl ⟨trivial, trivial, trivial⟩ ?_
          refine aw_br (c := ¬ x = 0) (fun h37 => ?_) (fun h37 => ?_)
          · skip
            show aw_W _ _ _ _ (40, [some (.ref 0), some (.int x), some (.int (10 * (sumF (α 4) n))), some (.int (gCm B n 0 (wD B n (α 3) (σ 2)) (α 5) (α 6) (α 7) (σ 2) (sumF (α 4) n) 0 (n - 1))), some (.int (gcI 64 (10 * (sumF (α 4) n)) (gCm B n 0 (wD B n (α 3) (σ 2)) (α 5) (α 6) (α 7) (σ 2) (sumF (α 4) n) 0 (n - 1))))], []) (ae_en (au σ [(16, w_20), (17, nI 0)]) (au α [(21, wt_20), (22, wr_10), (23, nv_20), (24, ra_10), (25, rb_10), (26, rc_10)]) z t0 ts)
            refine aw_go 4 rfl ⟨trivial, trivial, (fun q => absurd (show (1 : Int32) ≤ _ from h33) (by rw [q]; decide)), trivial, trivial⟩ ?_
            show aw_W _ _ _ _ (44, [some (.ref 0), some (.int x), some (.int (10 * (sumF (α 4) n))), some (.int (gCm B n 0 (wD B n (α 3) (σ 2)) (α 5) (α 6) (α 7) (σ 2) (sumF (α 4) n) 0 (n - 1))), some (.int (gcI 64 (10 * (sumF (α 4) n)) (gCm B n 0 (wD B n (α 3) (σ 2)) (α 5) (α 6) (α 7) (σ 2) (sumF (α 4) n) 0 (n - 1))))], [.long (((gCm B n 0 (wD B n (α 3) (σ 2)) (α 5) (α 6) (α 7) (σ 2) (sumF (α 4) n) 0 (n - 1)) / (gcI 64 (10 * (sumF (α 4) n)) (gCm B n 0 (wD B n (α 3) (σ 2)) (α 5) (α 6) (α 7) (σ 2) (sumF (α 4) n) 0 (n - 1)))).toInt64)]) (ae_en (au σ [(16, w_20), (17, nI 0)]) (au α [(21, wt_20), (22, wr_10), (23, nv_20), (24, ra_10), (25, rb_10), (26, rc_10)]) z t0 ts)
            refine aw_ret rfl rfl trivial ?_
            refine ⟨w_20, nI 0, wt_20, wr_10, nv_20, ra_10, rb_10, rc_10, ?_, rfl⟩
            rw [gCm_00 B n 0 _ _ _ _ _ _ hdy] at h23 h33 ⊢
            rw [aNails, if_pos (Or.inr h4), if_neg h23, if_neg (Int32.not_lt.mpr h33), if_neg h37]
            all_goals rfl
          · skip
            have h37 := Classical.not_not.mp h37
            show aw_W _ _ _ _ (38, [some (.ref 0), some (.int x), some (.int (10 * (sumF (α 4) n))), some (.int (gCm B n 0 (wD B n (α 3) (σ 2)) (α 5) (α 6) (α 7) (σ 2) (sumF (α 4) n) 0 (n - 1))), some (.int (gcI 64 (10 * (sumF (α 4) n)) (gCm B n 0 (wD B n (α 3) (σ 2)) (α 5) (α 6) (α 7) (σ 2) (sumF (α 4) n) 0 (n - 1))))], []) (ae_en (au σ [(16, w_20), (17, nI 0)]) (au α [(21, wt_20), (22, wr_10), (23, nv_20), (24, ra_10), (25, rb_10), (26, rc_10)]) z t0 ts)
            refine aw_go 5 rfl ⟨trivial, trivial, trivial, (fun q => absurd (show (1 : Int32) ≤ _ from h33) (by rw [q]; decide)), trivial, trivial⟩ ?_
            show aw_W _ _ _ _ (44, [some (.ref 0), some (.int x), some (.int (10 * (sumF (α 4) n))), some (.int (gCm B n 0 (wD B n (α 3) (σ 2)) (α 5) (α 6) (α 7) (σ 2) (sumF (α 4) n) 0 (n - 1))), some (.int (gcI 64 (10 * (sumF (α 4) n)) (gCm B n 0 (wD B n (α 3) (σ 2)) (α 5) (α 6) (α 7) (σ 2) (sumF (α 4) n) 0 (n - 1))))], [.long (((10 * (sumF (α 4) n)) / (gcI 64 (10 * (sumF (α 4) n)) (gCm B n 0 (wD B n (α 3) (σ 2)) (α 5) (α 6) (α 7) (σ 2) (sumF (α 4) n) 0 (n - 1)))).toInt64)]) (ae_en (au σ [(16, w_20), (17, nI 0)]) (au α [(21, wt_20), (22, wr_10), (23, nv_20), (24, ra_10), (25, rb_10), (26, rc_10)]) z t0 ts)
            refine aw_ret rfl rfl trivial ?_
            refine ⟨w_20, nI 0, wt_20, wr_10, nv_20, ra_10, rb_10, rc_10, ?_, rfl⟩
            rw [gCm_00 B n 0 _ _ _ _ _ _ hdy] at h23 h33 ⊢
            rw [aNails, if_pos (Or.inr h4), if_neg h23, if_neg (Int32.not_lt.mpr h33), if_pos h37]
            all_goals rfl
        · skip
          show aw_W _ _ _ _ (34, [some (.ref 0), some (.int x), some (.int (10 * (sumF (α 4) n))), some (.int (gCm B n 0 (wD B n (α 3) (σ 2)) (α 5) (α 6) (α 7) (σ 2) (sumF (α 4) n) 0 (n - 1))), some (.int (gcI 64 (10 * (sumF (α 4) n)) (gCm B n 0 (wD B n (α 3) (σ 2)) (α 5) (α 6) (α 7) (σ 2) (sumF (α 4) n) 0 (n - 1))))], []) (ae_en (au σ [(16, w_20), (17, nI 0)]) (au α [(21, wt_20), (22, wr_10), (23, nv_20), (24, ra_10), (25, rb_10), (26, rc_10)]) z t0 ts)
          refine aw_go 2 rfl ⟨trivial, trivial, trivial⟩ ?_
          refine aw_ret rfl rfl trivial ?_
          refine ⟨w_20, nI 0, wt_20, wr_10, nv_20, ra_10, rb_10, rc_10, ?_, rfl⟩
          rw [gCm_00 B n 0 _ _ _ _ _ _ hdy] at h23 h33
          rw [aNails, if_pos (Or.inr h4), if_neg h23, if_pos (Int32.not_le.mp h33)]
          all_goals rfl
      · skip
        have h23 := Classical.not_not.mp h23
        show aw_W _ _ _ _ (24, [some (.ref 0), some (.int x), some (.int (10 * (sumF (α 4) n))), some (.int (gCm B n 0 (wD B n (α 3) (σ 2)) (α 5) (α 6) (α 7) (σ 2) (sumF (α 4) n) 0 (n - 1))), none], []) (ae_en (au σ [(16, w_20), (17, nI 0)]) (au α [(21, wt_20), (22, wr_10), (23, nv_20), (24, ra_10), (25, rb_10), (26, rc_10)]) z t0 ts)
        refine aw_go 2 rfl ⟨trivial, trivial, trivial⟩ ?_
        show aw_W _ _ _ _ (26, [some (.ref 0), some (.int x), some (.int (10 * (sumF (α 4) n))), some (.int (gCm B n 0 (wD B n (α 3) (σ 2)) (α 5) (α 6) (α 7) (σ 2) (sumF (α 4) n) 0 (n - 1))), none], [.long x.toInt64]) (ae_en (au σ [(16, w_20), (17, nI 0)]) (au α [(21, wt_20), (22, wr_10), (23, nv_20), (24, ra_10), (25, rb_10), (26, rc_10)]) z t0 ts)
        refine aw_ret rfl rfl trivial ?_
        refine ⟨w_20, nI 0, wt_20, wr_10, nv_20, ra_10, rb_10, rc_10, ?_, rfl⟩
        rw [gCm_00 B n 0 _ _ _ _ _ _ hdy] at h23
        rw [aNails, if_pos (Or.inr h4), if_pos h23]
    · skip
      show aw_W _ _ _ _ (5, [some (.ref 0), some (.int x), none, none, none], []) (ae_en σ α z t0 ts)
      refine aw_go 1 rfl ⟨trivial, trivial⟩ ?_
      refine aw_ret rfl rfl trivial ?_
      refine ⟨σ 16, σ 17, α 21, α 22, α 23, α 24, α 25, α 26, ?_, rfl⟩
      rw [aNails, if_neg (fun q => q.elim h1 h4)]
theorem lp_first {zd : Nat} {n : Nat} {B : ae_B} {w : Int32} {wt wr nv ra rb rc : Nat → Int32} {x : Int32} {l6 l7 : Option Value} (hC : cOk B n (σ 1) (σ 3) (σ 5) (σ 15) (α 0) (α 1) (α 2) t0 ts) (hn : (σ 1) = nI n) (hn10 : n ≤ 10) (hx : 1 ≤ x ∧ x ≤ 100) (hW : fW n 60 (wD B n (α 3) (σ 2)) wr) (hL : fL B (n - 1) 60 (wD B n (α 3) (σ 2)) (α 5) (α 6) (α 7) ra rb rc) (g : Nat) (hg : g ≤ n - 1) : aw_W P (zd + 7) cd_Dried_first (fun r H => ∃ (w : Int32) (wd : Int32) (wt : Nat → Int32) (wr : Nat → Int32) (nv : Nat → Int32) (ra : Nat → Int32) (rb : Nat → Int32) (rc : Nat → Int32), r = some (.int (aFirst B n (α 3) (α 5) (α 6) (α 7) (σ 2) (sumF (α 4) n) x)) ∧ H = (ae_en (au σ [(16, w), (17, wd)]) (au α [(21, wt), (22, wr), (23, nv), (24, ra), (25, rb), (26, rc)]) z t0 ts)) (20, [some (.ref 0), some (.int x), some (.int ((aFi (α 6) (aGs B n (α 3) (α 5) (α 6) (α 7) (σ 2) x) (aCs B n (α 3) (α 5) (α 6) (α 7) (σ 2) (sumF (α 4) n) x) g).1)), some (.int ((aFi (α 6) (aGs B n (α 3) (α 5) (α 6) (α 7) (σ 2) x) (aCs B n (α 3) (α 5) (α 6) (α 7) (σ 2) (sumF (α 4) n) x) g).2.1)), some (.int ((aFi (α 6) (aGs B n (α 3) (α 5) (α 6) (α 7) (σ 2) x) (aCs B n (α 3) (α 5) (α 6) (α 7) (σ 2) (sumF (α 4) n) x) g).2.2)), some (.int (nI g)), l6, l7], []) (ae_en (au σ [(16, w), (17, nI 60)]) (au α [(21, wt), (22, wr), (23, nv), (24, ra), (25, rb), (26, rc)]) z t0 ts) := by
  refine aw_go 3 rfl ⟨trivial, trivial, trivial, trivial⟩ ?_
  show aw_W _ _ _ _ (23, [some (.ref 0), some (.int x), some (.int ((aFi (α 6) (aGs B n (α 3) (α 5) (α 6) (α 7) (σ 2) x) (aCs B n (α 3) (α 5) (α 6) (α 7) (σ 2) (sumF (α 4) n) x) g).1)), some (.int ((aFi (α 6) (aGs B n (α 3) (α 5) (α 6) (α 7) (σ 2) x) (aCs B n (α 3) (α 5) (α 6) (α 7) (σ 2) (sumF (α 4) n) x) g).2.1)), some (.int ((aFi (α 6) (aGs B n (α 3) (α 5) (α 6) (α 7) (σ 2) x) (aCs B n (α 3) (α 5) (α 6) (α 7) (σ 2) (sumF (α 4) n) x) g).2.2)), some (.int (nI g)), l6, l7], [.ref 1, .int (nI g)]) (ae_en (au σ [(16, w), (17, nI 60)]) (au α [(21, wt), (22, wr), (23, nv), (24, ra), (25, rb), (26, rc)]) z t0 ts)
  refine aw_callE rfl rfl (ec_Boat_gaps  hn hn10) ?_
  show aw_W _ _ _ _ (24, [some (.ref 0), some (.int x), some (.int ((aFi (α 6) (aGs B n (α 3) (α 5) (α 6) (α 7) (σ 2) x) (aCs B n (α 3) (α 5) (α 6) (α 7) (σ 2) (sumF (α 4) n) x) g).1)), some (.int ((aFi (α 6) (aGs B n (α 3) (α 5) (α 6) (α 7) (σ 2) x) (aCs B n (α 3) (α 5) (α 6) (α 7) (σ 2) (sumF (α 4) n) x) g).2.1)), some (.int ((aFi (α 6) (aGs B n (α 3) (α 5) (α 6) (α 7) (σ 2) x) (aCs B n (α 3) (α 5) (α 6) (α 7) (σ 2) (sumF (α 4) n) x) g).2.2)), some (.int (nI g)), l6, l7], [.int (nI (n - 1)), .int (nI g)]) (ae_en (au σ [(16, w), (17, nI 60)]) (au α [(21, wt), (22, wr), (23, nv), (24, ra), (25, rb), (26, rc)]) z t0 ts)
  refine aw_go 1 rfl ⟨trivial, trivial⟩ ?_
  refine aw_br (c := (nI (n - 1)) ≤ (nI g)) (fun h24 => ?_) (fun h24 => ?_)
  · skip
    have h24 := cI_leT (a := n - 1) (b := g) rfl rfl (by omega) (by omega) h24
    show aw_W _ _ _ _ (71, [some (.ref 0), some (.int x), some (.int ((aFi (α 6) (aGs B n (α 3) (α 5) (α 6) (α 7) (σ 2) x) (aCs B n (α 3) (α 5) (α 6) (α 7) (σ 2) (sumF (α 4) n) x) g).1)), some (.int ((aFi (α 6) (aGs B n (α 3) (α 5) (α 6) (α 7) (σ 2) x) (aCs B n (α 3) (α 5) (α 6) (α 7) (σ 2) (sumF (α 4) n) x) g).2.1)), some (.int ((aFi (α 6) (aGs B n (α 3) (α 5) (α 6) (α 7) (σ 2) x) (aCs B n (α 3) (α 5) (α 6) (α 7) (σ 2) (sumF (α 4) n) x) g).2.2)), some (.int (nI g)), l6, l7], []) (ae_en (au σ [(16, w), (17, nI 60)]) (au α [(21, wt), (22, wr), (23, nv), (24, ra), (25, rb), (26, rc)]) z t0 ts)
    have e8 : g = n - 1 := by omega
    refine aw_go 1 rfl ⟨trivial, trivial⟩ ?_
    refine aw_ret rfl rfl trivial ?_
    refine ⟨w, nI 60, wt, wr, nv, ra, rb, rc, ?_, rfl⟩
    rw [aFirst, if_pos hx, e8]
  · skip
    have h24 := cI_leF (a := n - 1) (b := g) rfl rfl (by omega) (by omega) h24
    show aw_W _ _ _ _ (25, [some (.ref 0), some (.int x), some (.int ((aFi (α 6) (aGs B n (α 3) (α 5) (α 6) (α 7) (σ 2) x) (aCs B n (α 3) (α 5) (α 6) (α 7) (σ 2) (sumF (α 4) n) x) g).1)), some (.int ((aFi (α 6) (aGs B n (α 3) (α 5) (α 6) (α 7) (σ 2) x) (aCs B n (α 3) (α 5) (α 6) (α 7) (σ 2) (sumF (α 4) n) x) g).2.1)), some (.int ((aFi (α 6) (aGs B n (α 3) (α 5) (α 6) (α 7) (σ 2) x) (aCs B n (α 3) (α 5) (α 6) (α 7) (σ 2) (sumF (α 4) n) x) g).2.2)), some (.int (nI g)), l6, l7], []) (ae_en (au σ [(16, w), (17, nI 60)]) (au α [(21, wt), (22, wr), (23, nv), (24, ra), (25, rb), (26, rc)]) z t0 ts)
    refine aw_go 6 rfl ⟨trivial, trivial, trivial, trivial, trivial, trivial, trivial⟩ ?_
    show aw_W _ _ _ _ (31, [some (.ref 0), some (.int x), some (.int ((aFi (α 6) (aGs B n (α 3) (α 5) (α 6) (α 7) (σ 2) x) (aCs B n (α 3) (α 5) (α 6) (α 7) (σ 2) (sumF (α 4) n) x) g).1)), some (.int ((aFi (α 6) (aGs B n (α 3) (α 5) (α 6) (α 7) (σ 2) x) (aCs B n (α 3) (α 5) (α 6) (α 7) (σ 2) (sumF (α 4) n) x) g).2.1)), some (.int ((aFi (α 6) (aGs B n (α 3) (α 5) (α 6) (α 7) (σ 2) x) (aCs B n (α 3) (α 5) (α 6) (α 7) (σ 2) (sumF (α 4) n) x) g).2.2)), some (.int (nI g)), l6, l7], [.int x, .int (nI g), .ref 0, .int (nI g), .ref 28]) (ae_en (au σ [(16, w), (17, nI 60)]) (au α [(21, wt), (22, wr), (23, nv), (24, ra), (25, rb), (26, rc)]) z t0 ts)
    refine aw_callE rfl rfl (ev_Dried_withMore (g := g) (x := x) (by omega)) ?_
    show aw_W _ _ _ _ (32, [some (.ref 0), some (.int x), some (.int ((aFi (α 6) (aGs B n (α 3) (α 5) (α 6) (α 7) (σ 2) x) (aCs B n (α 3) (α 5) (α 6) (α 7) (σ 2) (sumF (α 4) n) x) g).1)), some (.int ((aFi (α 6) (aGs B n (α 3) (α 5) (α 6) (α 7) (σ 2) x) (aCs B n (α 3) (α 5) (α 6) (α 7) (σ 2) (sumF (α 4) n) x) g).2.1)), some (.int ((aFi (α 6) (aGs B n (α 3) (α 5) (α 6) (α 7) (σ 2) x) (aCs B n (α 3) (α 5) (α 6) (α 7) (σ 2) (sumF (α 4) n) x) g).2.2)), some (.int (nI g)), l6, l7], [.int (mM (α 6) x g), .int (nI g), .ref 28]) (ae_en (au σ [(16, w), (17, nI 60)]) (au α [(21, wt), (22, wr), (23, nv), (24, ra), (25, rb), (26, rc)]) z t0 ts)
    refine aw_call rfl rfl (ev_Forecast_stuff (g := g) (v := (mM (α 6) x g)) hC hW (by decide) (by omega) rfl) ?_
    rintro _ _ ⟨rfl, rfl⟩
    show aw_W _ _ _ _ (33, [some (.ref 0), some (.int x), some (.int ((aFi (α 6) (aGs B n (α 3) (α 5) (α 6) (α 7) (σ 2) x) (aCs B n (α 3) (α 5) (α 6) (α 7) (σ 2) (sumF (α 4) n) x) g).1)), some (.int ((aFi (α 6) (aGs B n (α 3) (α 5) (α 6) (α 7) (σ 2) x) (aCs B n (α 3) (α 5) (α 6) (α 7) (σ 2) (sumF (α 4) n) x) g).2.1)), some (.int ((aFi (α 6) (aGs B n (α 3) (α 5) (α 6) (α 7) (σ 2) x) (aCs B n (α 3) (α 5) (α 6) (α 7) (σ 2) (sumF (α 4) n) x) g).2.2)), some (.int (nI g)), l6, l7], []) (ae_en (au σ [(16, w), (17, nI 60)]) (au α [(21, wt), (22, wr), (23, nv), (24, upd ra g (mM (α 6) x g)), (25, upd rb g (nI (gGo B 60 (wD B n (α 3) (σ 2)) g ((α 5) g) (mM (α 6) x g) ((α 7) g)))), (26, upd rc g (gWi B 60 (wD B n (α 3) (σ 2)) g ((α 5) g) (mM (α 6) x g) ((α 7) g)))]) z t0 ts)
    refine aw_go 2 rfl ⟨trivial, trivial, trivial⟩ ?_
    show aw_W _ _ _ _ (35, [some (.ref 0), some (.int x), some (.int ((aFi (α 6) (aGs B n (α 3) (α 5) (α 6) (α 7) (σ 2) x) (aCs B n (α 3) (α 5) (α 6) (α 7) (σ 2) (sumF (α 4) n) x) g).1)), some (.int ((aFi (α 6) (aGs B n (α 3) (α 5) (α 6) (α 7) (σ 2) x) (aCs B n (α 3) (α 5) (α 6) (α 7) (σ 2) (sumF (α 4) n) x) g).2.1)), some (.int ((aFi (α 6) (aGs B n (α 3) (α 5) (α 6) (α 7) (σ 2) x) (aCs B n (α 3) (α 5) (α 6) (α 7) (σ 2) (sumF (α 4) n) x) g).2.2)), some (.int (nI g)), l6, l7], [.ref 28]) (ae_en (au σ [(16, w), (17, nI 60)]) (au α [(21, wt), (22, wr), (23, nv), (24, upd ra g (mM (α 6) x g)), (25, upd rb g (nI (gGo B 60 (wD B n (α 3) (σ 2)) g ((α 5) g) (mM (α 6) x g) ((α 7) g)))), (26, upd rc g (gWi B 60 (wD B n (α 3) (σ 2)) g ((α 5) g) (mM (α 6) x g) ((α 7) g)))]) z t0 ts)
    refine aw_callE rfl rfl (ev_Forecast_gone  hC hW (by decide) (fL_upd hL) rfl) ?_
    show aw_W _ _ _ _ (36, [some (.ref 0), some (.int x), some (.int ((aFi (α 6) (aGs B n (α 3) (α 5) (α 6) (α 7) (σ 2) x) (aCs B n (α 3) (α 5) (α 6) (α 7) (σ 2) (sumF (α 4) n) x) g).1)), some (.int ((aFi (α 6) (aGs B n (α 3) (α 5) (α 6) (α 7) (σ 2) x) (aCs B n (α 3) (α 5) (α 6) (α 7) (σ 2) (sumF (α 4) n) x) g).2.1)), some (.int ((aFi (α 6) (aGs B n (α 3) (α 5) (α 6) (α 7) (σ 2) x) (aCs B n (α 3) (α 5) (α 6) (α 7) (σ 2) (sumF (α 4) n) x) g).2.2)), some (.int (nI g)), l6, l7], [.int (gGN B 60 (wD B n (α 3) (σ 2)) (α 5) (upd (α 6) g (mM (α 6) x g)) (α 7) 60 (n - 1))]) (ae_en (au σ [(16, w), (17, nI 60)]) (au α [(21, wt), (22, wr), (23, nv), (24, upd ra g (mM (α 6) x g)), (25, upd rb g (nI (gGo B 60 (wD B n (α 3) (σ 2)) g ((α 5) g) (mM (α 6) x g) ((α 7) g)))), (26, upd rc g (gWi B 60 (wD B n (α 3) (σ 2)) g ((α 5) g) (mM (α 6) x g) ((α 7) g)))]) z t0 ts)
    refine aw_go 4 rfl ⟨trivial, trivial, trivial, trivial, trivial⟩ ?_
    show aw_W _ _ _ _ (40, [some (.ref 0), some (.int x), some (.int ((aFi (α 6) (aGs B n (α 3) (α 5) (α 6) (α 7) (σ 2) x) (aCs B n (α 3) (α 5) (α 6) (α 7) (σ 2) (sumF (α 4) n) x) g).1)), some (.int ((aFi (α 6) (aGs B n (α 3) (α 5) (α 6) (α 7) (σ 2) x) (aCs B n (α 3) (α 5) (α 6) (α 7) (σ 2) (sumF (α 4) n) x) g).2.1)), some (.int ((aFi (α 6) (aGs B n (α 3) (α 5) (α 6) (α 7) (σ 2) x) (aCs B n (α 3) (α 5) (α 6) (α 7) (σ 2) (sumF (α 4) n) x) g).2.2)), some (.int (nI g)), some (.int (gGN B 60 (wD B n (α 3) (σ 2)) (α 5) (upd (α 6) g (mM (α 6) x g)) (α 7) 60 (n - 1))), l7], [.int 60, .ref 28]) (ae_en (au σ [(16, w), (17, nI 60)]) (au α [(21, wt), (22, wr), (23, nv), (24, upd ra g (mM (α 6) x g)), (25, upd rb g (nI (gGo B 60 (wD B n (α 3) (σ 2)) g ((α 5) g) (mM (α 6) x g) ((α 7) g)))), (26, upd rc g (gWi B 60 (wD B n (α 3) (σ 2)) g ((α 5) g) (mM (α 6) x g) ((α 7) g)))]) z t0 ts)
    refine aw_call rfl rfl (ev_Forecast_comesIn (d := 60) hC hW (by decide) (fL_upd hL) (Nat.le_refl _)) ?_
    rintro _ _ ⟨w_40, wt_40, nv_40, rfl, rfl⟩
    show aw_W _ _ _ _ (41, [some (.ref 0), some (.int x), some (.int ((aFi (α 6) (aGs B n (α 3) (α 5) (α 6) (α 7) (σ 2) x) (aCs B n (α 3) (α 5) (α 6) (α 7) (σ 2) (sumF (α 4) n) x) g).1)), some (.int ((aFi (α 6) (aGs B n (α 3) (α 5) (α 6) (α 7) (σ 2) x) (aCs B n (α 3) (α 5) (α 6) (α 7) (σ 2) (sumF (α 4) n) x) g).2.1)), some (.int ((aFi (α 6) (aGs B n (α 3) (α 5) (α 6) (α 7) (σ 2) x) (aCs B n (α 3) (α 5) (α 6) (α 7) (σ 2) (sumF (α 4) n) x) g).2.2)), some (.int (nI g)), some (.int (gGN B 60 (wD B n (α 3) (σ 2)) (α 5) (upd (α 6) g (mM (α 6) x g)) (α 7) 60 (n - 1))), l7], [.int (gCm B n 60 (wD B n (α 3) (σ 2)) (α 5) (upd (α 6) g (mM (α 6) x g)) (α 7) (σ 2) (sumF (α 4) n) 60 (n - 1))]) (ae_en (au σ [(16, w_40), (17, nI 60)]) (au α [(21, wt_40), (22, wr), (23, nv_40), (24, upd ra g (mM (α 6) x g)), (25, upd rb g (nI (gGo B 60 (wD B n (α 3) (σ 2)) g ((α 5) g) (mM (α 6) x g) ((α 7) g)))), (26, upd rc g (gWi B 60 (wD B n (α 3) (σ 2)) g ((α 5) g) (mM (α 6) x g) ((α 7) g)))]) z t0 ts)
    refine aw_go 4 rfl ⟨trivial, trivial, trivial, trivial, trivial⟩ ?_
    refine aw_br (c := ((aFi (α 6) (aGs B n (α 3) (α 5) (α 6) (α 7) (σ 2) x) (aCs B n (α 3) (α 5) (α 6) (α 7) (σ 2) (sumF (α 4) n) x) g).1) = (-1)) (fun h44 => ?_) (fun h44 => ?_)
    · skip
      show aw_W _ _ _ _ (54, [some (.ref 0), some (.int x), some (.int ((aFi (α 6) (aGs B n (α 3) (α 5) (α 6) (α 7) (σ 2) x) (aCs B n (α 3) (α 5) (α 6) (α 7) (σ 2) (sumF (α 4) n) x) g).1)), some (.int ((aFi (α 6) (aGs B n (α 3) (α 5) (α 6) (α 7) (σ 2) x) (aCs B n (α 3) (α 5) (α 6) (α 7) (σ 2) (sumF (α 4) n) x) g).2.1)), some (.int ((aFi (α 6) (aGs B n (α 3) (α 5) (α 6) (α 7) (σ 2) x) (aCs B n (α 3) (α 5) (α 6) (α 7) (σ 2) (sumF (α 4) n) x) g).2.2)), some (.int (nI g)), some (.int (gGN B 60 (wD B n (α 3) (σ 2)) (α 5) (upd (α 6) g (mM (α 6) x g)) (α 7) 60 (n - 1))), some (.int (gCm B n 60 (wD B n (α 3) (σ 2)) (α 5) (upd (α 6) g (mM (α 6) x g)) (α 7) (σ 2) (sumF (α 4) n) 60 (n - 1)))], []) (ae_en (au σ [(16, w_40), (17, nI 60)]) (au α [(21, wt_40), (22, wr), (23, nv_40), (24, upd ra g (mM (α 6) x g)), (25, upd rb g (nI (gGo B 60 (wD B n (α 3) (σ 2)) g ((α 5) g) (mM (α 6) x g) ((α 7) g)))), (26, upd rc g (gWi B 60 (wD B n (α 3) (σ 2)) g ((α 5) g) (mM (α 6) x g) ((α 7) g)))]) z t0 ts)
      refine aw_go 14 rfl ⟨trivial, trivial, trivial, trivial, trivial, trivial, trivial, trivial, trivial, trivial, trivial, trivial, trivial, (cI_in (a := g) rfl (by omega) (by decide)), trivial⟩ ?_
      show aw_W _ _ _ _ (68, [some (.ref 0), some (.int x), some (.int (nI g)), some (.int (gGN B 60 (wD B n (α 3) (σ 2)) (α 5) (upd (α 6) g (mM (α 6) x g)) (α 7) 60 (n - 1))), some (.int (gCm B n 60 (wD B n (α 3) (σ 2)) (α 5) (upd (α 6) g (mM (α 6) x g)) (α 7) (σ 2) (sumF (α 4) n) 60 (n - 1))), some (.int (nI g)), some (.int (gGN B 60 (wD B n (α 3) (σ 2)) (α 5) (upd (α 6) g (mM (α 6) x g)) (α 7) 60 (n - 1))), some (.int (gCm B n 60 (wD B n (α 3) (σ 2)) (α 5) (upd (α 6) g (mM (α 6) x g)) (α 7) (σ 2) (sumF (α 4) n) 60 (n - 1)))], [.int (α 6 (nI g).toNatClampNeg), .int (nI g), .ref 28]) (ae_en (au σ [(16, w_40), (17, nI 60)]) (au α [(21, wt_40), (22, wr), (23, nv_40), (24, upd ra g (mM (α 6) x g)), (25, upd rb g (nI (gGo B 60 (wD B n (α 3) (σ 2)) g ((α 5) g) (mM (α 6) x g) ((α 7) g)))), (26, upd rc g (gWi B 60 (wD B n (α 3) (σ 2)) g ((α 5) g) (mM (α 6) x g) ((α 7) g)))]) z t0 ts)
      rw [show (nI g).toNatClampNeg = g from cI_cl (a := g) rfl (by omega)]
      refine aw_call rfl rfl (ev_Forecast_stuff (g := g) (v := (α 6 g)) hC hW (by decide) (by omega) rfl) ?_
      rintro _ _ ⟨rfl, rfl⟩
      show aw_W _ _ _ _ (69, [some (.ref 0), some (.int x), some (.int (nI g)), some (.int (gGN B 60 (wD B n (α 3) (σ 2)) (α 5) (upd (α 6) g (mM (α 6) x g)) (α 7) 60 (n - 1))), some (.int (gCm B n 60 (wD B n (α 3) (σ 2)) (α 5) (upd (α 6) g (mM (α 6) x g)) (α 7) (σ 2) (sumF (α 4) n) 60 (n - 1))), some (.int (nI g)), some (.int (gGN B 60 (wD B n (α 3) (σ 2)) (α 5) (upd (α 6) g (mM (α 6) x g)) (α 7) 60 (n - 1))), some (.int (gCm B n 60 (wD B n (α 3) (σ 2)) (α 5) (upd (α 6) g (mM (α 6) x g)) (α 7) (σ 2) (sumF (α 4) n) 60 (n - 1)))], []) (ae_en (au σ [(16, w_40), (17, nI 60)]) (au α [(21, wt_40), (22, wr), (23, nv_40), (24, upd (upd ra g (mM (α 6) x g)) g (α 6 g)), (25, upd (upd rb g (nI (gGo B 60 (wD B n (α 3) (σ 2)) g ((α 5) g) (mM (α 6) x g) ((α 7) g)))) g (nI (gGo B 60 (wD B n (α 3) (σ 2)) g ((α 5) g) (α 6 g) ((α 7) g)))), (26, upd (upd rc g (gWi B 60 (wD B n (α 3) (σ 2)) g ((α 5) g) (mM (α 6) x g) ((α 7) g))) g (gWi B 60 (wD B n (α 3) (σ 2)) g ((α 5) g) (α 6 g) ((α 7) g)))]) z t0 ts)
      refine aw_go 2 rfl ⟨trivial, trivial, trivial⟩ ?_
      show aw_W _ _ _ _ (20, [some (.ref 0), some (.int x), some (.int (nI g)), some (.int (gGN B 60 (wD B n (α 3) (σ 2)) (α 5) (upd (α 6) g (mM (α 6) x g)) (α 7) 60 (n - 1))), some (.int (gCm B n 60 (wD B n (α 3) (σ 2)) (α 5) (upd (α 6) g (mM (α 6) x g)) (α 7) (σ 2) (sumF (α 4) n) 60 (n - 1))), some (.int ((nI g) + 1)), some (.int (gGN B 60 (wD B n (α 3) (σ 2)) (α 5) (upd (α 6) g (mM (α 6) x g)) (α 7) 60 (n - 1))), some (.int (gCm B n 60 (wD B n (α 3) (σ 2)) (α 5) (upd (α 6) g (mM (α 6) x g)) (α 7) (σ 2) (sumF (α 4) n) 60 (n - 1)))], []) (ae_en (au σ [(16, w_40), (17, nI 60)]) (au α [(21, wt_40), (22, wr), (23, nv_40), (24, upd (upd ra g (mM (α 6) x g)) g (α 6 g)), (25, upd (upd rb g (nI (gGo B 60 (wD B n (α 3) (σ 2)) g ((α 5) g) (mM (α 6) x g) ((α 7) g)))) g (nI (gGo B 60 (wD B n (α 3) (σ 2)) g ((α 5) g) (α 6 g) ((α 7) g)))), (26, upd (upd rc g (gWi B 60 (wD B n (α 3) (σ 2)) g ((α 5) g) (mM (α 6) x g) ((α 7) g))) g (gWi B 60 (wD B n (α 3) (σ 2)) g ((α 5) g) (α 6 g) ((α 7) g)))]) z t0 ts)
      rw [show (nI g) + 1 = nI (g + 1) from (cI_add (a := g) (b := 1) rfl rfl)]
      have e1 := aFi_y (m := (α 6)) (gn := aGs B n (α 3) (α 5) (α 6) (α 7) (σ 2) x) (cm := aCs B n (α 3) (α 5) (α 6) (α 7) (σ 2) (sumF (α 4) n) x) (g := g) (Or.inl h44)
      exact aw_to (lp_first hC hn hn10 hx hW (by have := fL_upd (g := g) (x := (α 6) g) (fL_upd (g := g) (x := mM (α 6) x g) hL); rw [upd_2, upd_same] at this; exact this) (g + 1) (by omega)) (by rw [e1]; rfl) rfl
    · skip
      show aw_W _ _ _ _ (45, [some (.ref 0), some (.int x), some (.int ((aFi (α 6) (aGs B n (α 3) (α 5) (α 6) (α 7) (σ 2) x) (aCs B n (α 3) (α 5) (α 6) (α 7) (σ 2) (sumF (α 4) n) x) g).1)), some (.int ((aFi (α 6) (aGs B n (α 3) (α 5) (α 6) (α 7) (σ 2) x) (aCs B n (α 3) (α 5) (α 6) (α 7) (σ 2) (sumF (α 4) n) x) g).2.1)), some (.int ((aFi (α 6) (aGs B n (α 3) (α 5) (α 6) (α 7) (σ 2) x) (aCs B n (α 3) (α 5) (α 6) (α 7) (σ 2) (sumF (α 4) n) x) g).2.2)), some (.int (nI g)), some (.int (gGN B 60 (wD B n (α 3) (σ 2)) (α 5) (upd (α 6) g (mM (α 6) x g)) (α 7) 60 (n - 1))), some (.int (gCm B n 60 (wD B n (α 3) (σ 2)) (α 5) (upd (α 6) g (mM (α 6) x g)) (α 7) (σ 2) (sumF (α 4) n) 60 (n - 1)))], []) (ae_en (au σ [(16, w_40), (17, nI 60)]) (au α [(21, wt_40), (22, wr), (23, nv_40), (24, upd ra g (mM (α 6) x g)), (25, upd rb g (nI (gGo B 60 (wD B n (α 3) (σ 2)) g ((α 5) g) (mM (α 6) x g) ((α 7) g)))), (26, upd rc g (gWi B 60 (wD B n (α 3) (σ 2)) g ((α 5) g) (mM (α 6) x g) ((α 7) g)))]) z t0 ts)
      refine aw_go 3 rfl ⟨trivial, trivial, trivial, trivial⟩ ?_
      refine aw_br (c := (gGN B 60 (wD B n (α 3) (σ 2)) (α 5) (upd (α 6) g (mM (α 6) x g)) (α 7) 60 (n - 1)) < ((aFi (α 6) (aGs B n (α 3) (α 5) (α 6) (α 7) (σ 2) x) (aCs B n (α 3) (α 5) (α 6) (α 7) (σ 2) (sumF (α 4) n) x) g).2.1)) (fun h47 => ?_) (fun h47 => ?_)
      · skip
        show aw_W _ _ _ _ (54, [some (.ref 0), some (.int x), some (.int ((aFi (α 6) (aGs B n (α 3) (α 5) (α 6) (α 7) (σ 2) x) (aCs B n (α 3) (α 5) (α 6) (α 7) (σ 2) (sumF (α 4) n) x) g).1)), some (.int ((aFi (α 6) (aGs B n (α 3) (α 5) (α 6) (α 7) (σ 2) x) (aCs B n (α 3) (α 5) (α 6) (α 7) (σ 2) (sumF (α 4) n) x) g).2.1)), some (.int ((aFi (α 6) (aGs B n (α 3) (α 5) (α 6) (α 7) (σ 2) x) (aCs B n (α 3) (α 5) (α 6) (α 7) (σ 2) (sumF (α 4) n) x) g).2.2)), some (.int (nI g)), some (.int (gGN B 60 (wD B n (α 3) (σ 2)) (α 5) (upd (α 6) g (mM (α 6) x g)) (α 7) 60 (n - 1))), some (.int (gCm B n 60 (wD B n (α 3) (σ 2)) (α 5) (upd (α 6) g (mM (α 6) x g)) (α 7) (σ 2) (sumF (α 4) n) 60 (n - 1)))], []) (ae_en (au σ [(16, w_40), (17, nI 60)]) (au α [(21, wt_40), (22, wr), (23, nv_40), (24, upd ra g (mM (α 6) x g)), (25, upd rb g (nI (gGo B 60 (wD B n (α 3) (σ 2)) g ((α 5) g) (mM (α 6) x g) ((α 7) g)))), (26, upd rc g (gWi B 60 (wD B n (α 3) (σ 2)) g ((α 5) g) (mM (α 6) x g) ((α 7) g)))]) z t0 ts)
        refine aw_go 14 rfl ⟨trivial, trivial, trivial, trivial, trivial, trivial, trivial, trivial, trivial, trivial, trivial, trivial, trivial, (cI_in (a := g) rfl (by omega) (by decide)), trivial⟩ ?_
        show aw_W _ _ _ _ (68, [some (.ref 0), some (.int x), some (.int (nI g)), some (.int (gGN B 60 (wD B n (α 3) (σ 2)) (α 5) (upd (α 6) g (mM (α 6) x g)) (α 7) 60 (n - 1))), some (.int (gCm B n 60 (wD B n (α 3) (σ 2)) (α 5) (upd (α 6) g (mM (α 6) x g)) (α 7) (σ 2) (sumF (α 4) n) 60 (n - 1))), some (.int (nI g)), some (.int (gGN B 60 (wD B n (α 3) (σ 2)) (α 5) (upd (α 6) g (mM (α 6) x g)) (α 7) 60 (n - 1))), some (.int (gCm B n 60 (wD B n (α 3) (σ 2)) (α 5) (upd (α 6) g (mM (α 6) x g)) (α 7) (σ 2) (sumF (α 4) n) 60 (n - 1)))], [.int (α 6 (nI g).toNatClampNeg), .int (nI g), .ref 28]) (ae_en (au σ [(16, w_40), (17, nI 60)]) (au α [(21, wt_40), (22, wr), (23, nv_40), (24, upd ra g (mM (α 6) x g)), (25, upd rb g (nI (gGo B 60 (wD B n (α 3) (σ 2)) g ((α 5) g) (mM (α 6) x g) ((α 7) g)))), (26, upd rc g (gWi B 60 (wD B n (α 3) (σ 2)) g ((α 5) g) (mM (α 6) x g) ((α 7) g)))]) z t0 ts)
        rw [show (nI g).toNatClampNeg = g from cI_cl (a := g) rfl (by omega)]
        refine aw_call rfl rfl (ev_Forecast_stuff (g := g) (v := (α 6 g)) hC hW (by decide) (by omega) rfl) ?_
        rintro _ _ ⟨rfl, rfl⟩
        show aw_W _ _ _ _ (69, [some (.ref 0), some (.int x), some (.int (nI g)), some (.int (gGN B 60 (wD B n (α 3) (σ 2)) (α 5) (upd (α 6) g (mM (α 6) x g)) (α 7) 60 (n - 1))), some (.int (gCm B n 60 (wD B n (α 3) (σ 2)) (α 5) (upd (α 6) g (mM (α 6) x g)) (α 7) (σ 2) (sumF (α 4) n) 60 (n - 1))), some (.int (nI g)), some (.int (gGN B 60 (wD B n (α 3) (σ 2)) (α 5) (upd (α 6) g (mM (α 6) x g)) (α 7) 60 (n - 1))), some (.int (gCm B n 60 (wD B n (α 3) (σ 2)) (α 5) (upd (α 6) g (mM (α 6) x g)) (α 7) (σ 2) (sumF (α 4) n) 60 (n - 1)))], []) (ae_en (au σ [(16, w_40), (17, nI 60)]) (au α [(21, wt_40), (22, wr), (23, nv_40), (24, upd (upd ra g (mM (α 6) x g)) g (α 6 g)), (25, upd (upd rb g (nI (gGo B 60 (wD B n (α 3) (σ 2)) g ((α 5) g) (mM (α 6) x g) ((α 7) g)))) g (nI (gGo B 60 (wD B n (α 3) (σ 2)) g ((α 5) g) (α 6 g) ((α 7) g)))), (26, upd (upd rc g (gWi B 60 (wD B n (α 3) (σ 2)) g ((α 5) g) (mM (α 6) x g) ((α 7) g))) g (gWi B 60 (wD B n (α 3) (σ 2)) g ((α 5) g) (α 6 g) ((α 7) g)))]) z t0 ts)
        refine aw_go 2 rfl ⟨trivial, trivial, trivial⟩ ?_
        show aw_W _ _ _ _ (20, [some (.ref 0), some (.int x), some (.int (nI g)), some (.int (gGN B 60 (wD B n (α 3) (σ 2)) (α 5) (upd (α 6) g (mM (α 6) x g)) (α 7) 60 (n - 1))), some (.int (gCm B n 60 (wD B n (α 3) (σ 2)) (α 5) (upd (α 6) g (mM (α 6) x g)) (α 7) (σ 2) (sumF (α 4) n) 60 (n - 1))), some (.int ((nI g) + 1)), some (.int (gGN B 60 (wD B n (α 3) (σ 2)) (α 5) (upd (α 6) g (mM (α 6) x g)) (α 7) 60 (n - 1))), some (.int (gCm B n 60 (wD B n (α 3) (σ 2)) (α 5) (upd (α 6) g (mM (α 6) x g)) (α 7) (σ 2) (sumF (α 4) n) 60 (n - 1)))], []) (ae_en (au σ [(16, w_40), (17, nI 60)]) (au α [(21, wt_40), (22, wr), (23, nv_40), (24, upd (upd ra g (mM (α 6) x g)) g (α 6 g)), (25, upd (upd rb g (nI (gGo B 60 (wD B n (α 3) (σ 2)) g ((α 5) g) (mM (α 6) x g) ((α 7) g)))) g (nI (gGo B 60 (wD B n (α 3) (σ 2)) g ((α 5) g) (α 6 g) ((α 7) g)))), (26, upd (upd rc g (gWi B 60 (wD B n (α 3) (σ 2)) g ((α 5) g) (mM (α 6) x g) ((α 7) g))) g (gWi B 60 (wD B n (α 3) (σ 2)) g ((α 5) g) (α 6 g) ((α 7) g)))]) z t0 ts)
        rw [show (nI g) + 1 = nI (g + 1) from (cI_add (a := g) (b := 1) rfl rfl)]
        have e1 := aFi_y (m := (α 6)) (gn := aGs B n (α 3) (α 5) (α 6) (α 7) (σ 2) x) (cm := aCs B n (α 3) (α 5) (α 6) (α 7) (σ 2) (sumF (α 4) n) x) (g := g) (Or.inr (Or.inl h47))
        exact aw_to (lp_first hC hn hn10 hx hW (by have := fL_upd (g := g) (x := (α 6) g) (fL_upd (g := g) (x := mM (α 6) x g) hL); rw [upd_2, upd_same] at this; exact this) (g + 1) (by omega)) (by rw [e1]; rfl) rfl
      · skip
        show aw_W _ _ _ _ (48, [some (.ref 0), some (.int x), some (.int ((aFi (α 6) (aGs B n (α 3) (α 5) (α 6) (α 7) (σ 2) x) (aCs B n (α 3) (α 5) (α 6) (α 7) (σ 2) (sumF (α 4) n) x) g).1)), some (.int ((aFi (α 6) (aGs B n (α 3) (α 5) (α 6) (α 7) (σ 2) x) (aCs B n (α 3) (α 5) (α 6) (α 7) (σ 2) (sumF (α 4) n) x) g).2.1)), some (.int ((aFi (α 6) (aGs B n (α 3) (α 5) (α 6) (α 7) (σ 2) x) (aCs B n (α 3) (α 5) (α 6) (α 7) (σ 2) (sumF (α 4) n) x) g).2.2)), some (.int (nI g)), some (.int (gGN B 60 (wD B n (α 3) (σ 2)) (α 5) (upd (α 6) g (mM (α 6) x g)) (α 7) 60 (n - 1))), some (.int (gCm B n 60 (wD B n (α 3) (σ 2)) (α 5) (upd (α 6) g (mM (α 6) x g)) (α 7) (σ 2) (sumF (α 4) n) 60 (n - 1)))], []) (ae_en (au σ [(16, w_40), (17, nI 60)]) (au α [(21, wt_40), (22, wr), (23, nv_40), (24, upd ra g (mM (α 6) x g)), (25, upd rb g (nI (gGo B 60 (wD B n (α 3) (σ 2)) g ((α 5) g) (mM (α 6) x g) ((α 7) g)))), (26, upd rc g (gWi B 60 (wD B n (α 3) (σ 2)) g ((α 5) g) (mM (α 6) x g) ((α 7) g)))]) z t0 ts)
        refine aw_go 3 rfl ⟨trivial, trivial, trivial, trivial⟩ ?_
        refine aw_br (c := ¬ (gGN B 60 (wD B n (α 3) (σ 2)) (α 5) (upd (α 6) g (mM (α 6) x g)) (α 7) 60 (n - 1)) = ((aFi (α 6) (aGs B n (α 3) (α 5) (α 6) (α 7) (σ 2) x) (aCs B n (α 3) (α 5) (α 6) (α 7) (σ 2) (sumF (α 4) n) x) g).2.1)) (fun h50 => ?_) (fun h50 => ?_)
        · skip
          show aw_W _ _ _ _ (60, [some (.ref 0), some (.int x), some (.int ((aFi (α 6) (aGs B n (α 3) (α 5) (α 6) (α 7) (σ 2) x) (aCs B n (α 3) (α 5) (α 6) (α 7) (σ 2) (sumF (α 4) n) x) g).1)), some (.int ((aFi (α 6) (aGs B n (α 3) (α 5) (α 6) (α 7) (σ 2) x) (aCs B n (α 3) (α 5) (α 6) (α 7) (σ 2) (sumF (α 4) n) x) g).2.1)), some (.int ((aFi (α 6) (aGs B n (α 3) (α 5) (α 6) (α 7) (σ 2) x) (aCs B n (α 3) (α 5) (α 6) (α 7) (σ 2) (sumF (α 4) n) x) g).2.2)), some (.int (nI g)), some (.int (gGN B 60 (wD B n (α 3) (σ 2)) (α 5) (upd (α 6) g (mM (α 6) x g)) (α 7) 60 (n - 1))), some (.int (gCm B n 60 (wD B n (α 3) (σ 2)) (α 5) (upd (α 6) g (mM (α 6) x g)) (α 7) (σ 2) (sumF (α 4) n) 60 (n - 1)))], []) (ae_en (au σ [(16, w_40), (17, nI 60)]) (au α [(21, wt_40), (22, wr), (23, nv_40), (24, upd ra g (mM (α 6) x g)), (25, upd rb g (nI (gGo B 60 (wD B n (α 3) (σ 2)) g ((α 5) g) (mM (α 6) x g) ((α 7) g)))), (26, upd rc g (gWi B 60 (wD B n (α 3) (σ 2)) g ((α 5) g) (mM (α 6) x g) ((α 7) g)))]) z t0 ts)
          refine aw_go 8 rfl ⟨trivial, trivial, trivial, trivial, trivial, trivial, trivial, (cI_in (a := g) rfl (by omega) (by decide)), trivial⟩ ?_
          show aw_W _ _ _ _ (68, [some (.ref 0), some (.int x), some (.int ((aFi (α 6) (aGs B n (α 3) (α 5) (α 6) (α 7) (σ 2) x) (aCs B n (α 3) (α 5) (α 6) (α 7) (σ 2) (sumF (α 4) n) x) g).1)), some (.int ((aFi (α 6) (aGs B n (α 3) (α 5) (α 6) (α 7) (σ 2) x) (aCs B n (α 3) (α 5) (α 6) (α 7) (σ 2) (sumF (α 4) n) x) g).2.1)), some (.int ((aFi (α 6) (aGs B n (α 3) (α 5) (α 6) (α 7) (σ 2) x) (aCs B n (α 3) (α 5) (α 6) (α 7) (σ 2) (sumF (α 4) n) x) g).2.2)), some (.int (nI g)), some (.int (gGN B 60 (wD B n (α 3) (σ 2)) (α 5) (upd (α 6) g (mM (α 6) x g)) (α 7) 60 (n - 1))), some (.int (gCm B n 60 (wD B n (α 3) (σ 2)) (α 5) (upd (α 6) g (mM (α 6) x g)) (α 7) (σ 2) (sumF (α 4) n) 60 (n - 1)))], [.int (α 6 (nI g).toNatClampNeg), .int (nI g), .ref 28]) (ae_en (au σ [(16, w_40), (17, nI 60)]) (au α [(21, wt_40), (22, wr), (23, nv_40), (24, upd ra g (mM (α 6) x g)), (25, upd rb g (nI (gGo B 60 (wD B n (α 3) (σ 2)) g ((α 5) g) (mM (α 6) x g) ((α 7) g)))), (26, upd rc g (gWi B 60 (wD B n (α 3) (σ 2)) g ((α 5) g) (mM (α 6) x g) ((α 7) g)))]) z t0 ts)
          rw [show (nI g).toNatClampNeg = g from cI_cl (a := g) rfl (by omega)]
          refine aw_call rfl rfl (ev_Forecast_stuff (g := g) (v := (α 6 g)) hC hW (by decide) (by omega) rfl) ?_
          rintro _ _ ⟨rfl, rfl⟩
          show aw_W _ _ _ _ (69, [some (.ref 0), some (.int x), some (.int ((aFi (α 6) (aGs B n (α 3) (α 5) (α 6) (α 7) (σ 2) x) (aCs B n (α 3) (α 5) (α 6) (α 7) (σ 2) (sumF (α 4) n) x) g).1)), some (.int ((aFi (α 6) (aGs B n (α 3) (α 5) (α 6) (α 7) (σ 2) x) (aCs B n (α 3) (α 5) (α 6) (α 7) (σ 2) (sumF (α 4) n) x) g).2.1)), some (.int ((aFi (α 6) (aGs B n (α 3) (α 5) (α 6) (α 7) (σ 2) x) (aCs B n (α 3) (α 5) (α 6) (α 7) (σ 2) (sumF (α 4) n) x) g).2.2)), some (.int (nI g)), some (.int (gGN B 60 (wD B n (α 3) (σ 2)) (α 5) (upd (α 6) g (mM (α 6) x g)) (α 7) 60 (n - 1))), some (.int (gCm B n 60 (wD B n (α 3) (σ 2)) (α 5) (upd (α 6) g (mM (α 6) x g)) (α 7) (σ 2) (sumF (α 4) n) 60 (n - 1)))], []) (ae_en (au σ [(16, w_40), (17, nI 60)]) (au α [(21, wt_40), (22, wr), (23, nv_40), (24, upd (upd ra g (mM (α 6) x g)) g (α 6 g)), (25, upd (upd rb g (nI (gGo B 60 (wD B n (α 3) (σ 2)) g ((α 5) g) (mM (α 6) x g) ((α 7) g)))) g (nI (gGo B 60 (wD B n (α 3) (σ 2)) g ((α 5) g) (α 6 g) ((α 7) g)))), (26, upd (upd rc g (gWi B 60 (wD B n (α 3) (σ 2)) g ((α 5) g) (mM (α 6) x g) ((α 7) g))) g (gWi B 60 (wD B n (α 3) (σ 2)) g ((α 5) g) (α 6 g) ((α 7) g)))]) z t0 ts)
          refine aw_go 2 rfl ⟨trivial, trivial, trivial⟩ ?_
          show aw_W _ _ _ _ (20, [some (.ref 0), some (.int x), some (.int ((aFi (α 6) (aGs B n (α 3) (α 5) (α 6) (α 7) (σ 2) x) (aCs B n (α 3) (α 5) (α 6) (α 7) (σ 2) (sumF (α 4) n) x) g).1)), some (.int ((aFi (α 6) (aGs B n (α 3) (α 5) (α 6) (α 7) (σ 2) x) (aCs B n (α 3) (α 5) (α 6) (α 7) (σ 2) (sumF (α 4) n) x) g).2.1)), some (.int ((aFi (α 6) (aGs B n (α 3) (α 5) (α 6) (α 7) (σ 2) x) (aCs B n (α 3) (α 5) (α 6) (α 7) (σ 2) (sumF (α 4) n) x) g).2.2)), some (.int ((nI g) + 1)), some (.int (gGN B 60 (wD B n (α 3) (σ 2)) (α 5) (upd (α 6) g (mM (α 6) x g)) (α 7) 60 (n - 1))), some (.int (gCm B n 60 (wD B n (α 3) (σ 2)) (α 5) (upd (α 6) g (mM (α 6) x g)) (α 7) (σ 2) (sumF (α 4) n) 60 (n - 1)))], []) (ae_en (au σ [(16, w_40), (17, nI 60)]) (au α [(21, wt_40), (22, wr), (23, nv_40), (24, upd (upd ra g (mM (α 6) x g)) g (α 6 g)), (25, upd (upd rb g (nI (gGo B 60 (wD B n (α 3) (σ 2)) g ((α 5) g) (mM (α 6) x g) ((α 7) g)))) g (nI (gGo B 60 (wD B n (α 3) (σ 2)) g ((α 5) g) (α 6 g) ((α 7) g)))), (26, upd (upd rc g (gWi B 60 (wD B n (α 3) (σ 2)) g ((α 5) g) (mM (α 6) x g) ((α 7) g))) g (gWi B 60 (wD B n (α 3) (σ 2)) g ((α 5) g) (α 6 g) ((α 7) g)))]) z t0 ts)
          rw [show (nI g) + 1 = nI (g + 1) from (cI_add (a := g) (b := 1) rfl rfl)]
          have e1 := aFi_n (m := (α 6)) (gn := aGs B n (α 3) (α 5) (α 6) (α 7) (σ 2) x) (cm := aCs B n (α 3) (α 5) (α 6) (α 7) (σ 2) (sumF (α 4) n) x) (g := g) h44 h47 (fun q => h50 q.1)
          exact aw_to (lp_first hC hn hn10 hx hW (by have := fL_upd (g := g) (x := (α 6) g) (fL_upd (g := g) (x := mM (α 6) x g) hL); rw [upd_2, upd_same] at this; exact this) (g + 1) (by omega)) (by rw [e1]) rfl
        · skip
          have h50 := Classical.not_not.mp h50
          show aw_W _ _ _ _ (51, [some (.ref 0), some (.int x), some (.int ((aFi (α 6) (aGs B n (α 3) (α 5) (α 6) (α 7) (σ 2) x) (aCs B n (α 3) (α 5) (α 6) (α 7) (σ 2) (sumF (α 4) n) x) g).1)), some (.int ((aFi (α 6) (aGs B n (α 3) (α 5) (α 6) (α 7) (σ 2) x) (aCs B n (α 3) (α 5) (α 6) (α 7) (σ 2) (sumF (α 4) n) x) g).2.1)), some (.int ((aFi (α 6) (aGs B n (α 3) (α 5) (α 6) (α 7) (σ 2) x) (aCs B n (α 3) (α 5) (α 6) (α 7) (σ 2) (sumF (α 4) n) x) g).2.2)), some (.int (nI g)), some (.int (gGN B 60 (wD B n (α 3) (σ 2)) (α 5) (upd (α 6) g (mM (α 6) x g)) (α 7) 60 (n - 1))), some (.int (gCm B n 60 (wD B n (α 3) (σ 2)) (α 5) (upd (α 6) g (mM (α 6) x g)) (α 7) (σ 2) (sumF (α 4) n) 60 (n - 1)))], []) (ae_en (au σ [(16, w_40), (17, nI 60)]) (au α [(21, wt_40), (22, wr), (23, nv_40), (24, upd ra g (mM (α 6) x g)), (25, upd rb g (nI (gGo B 60 (wD B n (α 3) (σ 2)) g ((α 5) g) (mM (α 6) x g) ((α 7) g)))), (26, upd rc g (gWi B 60 (wD B n (α 3) (σ 2)) g ((α 5) g) (mM (α 6) x g) ((α 7) g)))]) z t0 ts)
          refine aw_go 3 rfl ⟨trivial, trivial, trivial, trivial⟩ ?_
          refine aw_br (c := ((aFi (α 6) (aGs B n (α 3) (α 5) (α 6) (α 7) (σ 2) x) (aCs B n (α 3) (α 5) (α 6) (α 7) (σ 2) (sumF (α 4) n) x) g).2.2) ≤ (gCm B n 60 (wD B n (α 3) (σ 2)) (α 5) (upd (α 6) g (mM (α 6) x g)) (α 7) (σ 2) (sumF (α 4) n) 60 (n - 1))) (fun h53 => ?_) (fun h53 => ?_)
          · skip
            show aw_W _ _ _ _ (60, [some (.ref 0), some (.int x), some (.int ((aFi (α 6) (aGs B n (α 3) (α 5) (α 6) (α 7) (σ 2) x) (aCs B n (α 3) (α 5) (α 6) (α 7) (σ 2) (sumF (α 4) n) x) g).1)), some (.int ((aFi (α 6) (aGs B n (α 3) (α 5) (α 6) (α 7) (σ 2) x) (aCs B n (α 3) (α 5) (α 6) (α 7) (σ 2) (sumF (α 4) n) x) g).2.1)), some (.int ((aFi (α 6) (aGs B n (α 3) (α 5) (α 6) (α 7) (σ 2) x) (aCs B n (α 3) (α 5) (α 6) (α 7) (σ 2) (sumF (α 4) n) x) g).2.2)), some (.int (nI g)), some (.int (gGN B 60 (wD B n (α 3) (σ 2)) (α 5) (upd (α 6) g (mM (α 6) x g)) (α 7) 60 (n - 1))), some (.int (gCm B n 60 (wD B n (α 3) (σ 2)) (α 5) (upd (α 6) g (mM (α 6) x g)) (α 7) (σ 2) (sumF (α 4) n) 60 (n - 1)))], []) (ae_en (au σ [(16, w_40), (17, nI 60)]) (au α [(21, wt_40), (22, wr), (23, nv_40), (24, upd ra g (mM (α 6) x g)), (25, upd rb g (nI (gGo B 60 (wD B n (α 3) (σ 2)) g ((α 5) g) (mM (α 6) x g) ((α 7) g)))), (26, upd rc g (gWi B 60 (wD B n (α 3) (σ 2)) g ((α 5) g) (mM (α 6) x g) ((α 7) g)))]) z t0 ts)
            refine aw_go 8 rfl ⟨trivial, trivial, trivial, trivial, trivial, trivial, trivial, (cI_in (a := g) rfl (by omega) (by decide)), trivial⟩ ?_
            show aw_W _ _ _ _ (68, [some (.ref 0), some (.int x), some (.int ((aFi (α 6) (aGs B n (α 3) (α 5) (α 6) (α 7) (σ 2) x) (aCs B n (α 3) (α 5) (α 6) (α 7) (σ 2) (sumF (α 4) n) x) g).1)), some (.int ((aFi (α 6) (aGs B n (α 3) (α 5) (α 6) (α 7) (σ 2) x) (aCs B n (α 3) (α 5) (α 6) (α 7) (σ 2) (sumF (α 4) n) x) g).2.1)), some (.int ((aFi (α 6) (aGs B n (α 3) (α 5) (α 6) (α 7) (σ 2) x) (aCs B n (α 3) (α 5) (α 6) (α 7) (σ 2) (sumF (α 4) n) x) g).2.2)), some (.int (nI g)), some (.int (gGN B 60 (wD B n (α 3) (σ 2)) (α 5) (upd (α 6) g (mM (α 6) x g)) (α 7) 60 (n - 1))), some (.int (gCm B n 60 (wD B n (α 3) (σ 2)) (α 5) (upd (α 6) g (mM (α 6) x g)) (α 7) (σ 2) (sumF (α 4) n) 60 (n - 1)))], [.int (α 6 (nI g).toNatClampNeg), .int (nI g), .ref 28]) (ae_en (au σ [(16, w_40), (17, nI 60)]) (au α [(21, wt_40), (22, wr), (23, nv_40), (24, upd ra g (mM (α 6) x g)), (25, upd rb g (nI (gGo B 60 (wD B n (α 3) (σ 2)) g ((α 5) g) (mM (α 6) x g) ((α 7) g)))), (26, upd rc g (gWi B 60 (wD B n (α 3) (σ 2)) g ((α 5) g) (mM (α 6) x g) ((α 7) g)))]) z t0 ts)
            rw [show (nI g).toNatClampNeg = g from cI_cl (a := g) rfl (by omega)]
            refine aw_call rfl rfl (ev_Forecast_stuff (g := g) (v := (α 6 g)) hC hW (by decide) (by omega) rfl) ?_
            rintro _ _ ⟨rfl, rfl⟩
            show aw_W _ _ _ _ (69, [some (.ref 0), some (.int x), some (.int ((aFi (α 6) (aGs B n (α 3) (α 5) (α 6) (α 7) (σ 2) x) (aCs B n (α 3) (α 5) (α 6) (α 7) (σ 2) (sumF (α 4) n) x) g).1)), some (.int ((aFi (α 6) (aGs B n (α 3) (α 5) (α 6) (α 7) (σ 2) x) (aCs B n (α 3) (α 5) (α 6) (α 7) (σ 2) (sumF (α 4) n) x) g).2.1)), some (.int ((aFi (α 6) (aGs B n (α 3) (α 5) (α 6) (α 7) (σ 2) x) (aCs B n (α 3) (α 5) (α 6) (α 7) (σ 2) (sumF (α 4) n) x) g).2.2)), some (.int (nI g)), some (.int (gGN B 60 (wD B n (α 3) (σ 2)) (α 5) (upd (α 6) g (mM (α 6) x g)) (α 7) 60 (n - 1))), some (.int (gCm B n 60 (wD B n (α 3) (σ 2)) (α 5) (upd (α 6) g (mM (α 6) x g)) (α 7) (σ 2) (sumF (α 4) n) 60 (n - 1)))], []) (ae_en (au σ [(16, w_40), (17, nI 60)]) (au α [(21, wt_40), (22, wr), (23, nv_40), (24, upd (upd ra g (mM (α 6) x g)) g (α 6 g)), (25, upd (upd rb g (nI (gGo B 60 (wD B n (α 3) (σ 2)) g ((α 5) g) (mM (α 6) x g) ((α 7) g)))) g (nI (gGo B 60 (wD B n (α 3) (σ 2)) g ((α 5) g) (α 6 g) ((α 7) g)))), (26, upd (upd rc g (gWi B 60 (wD B n (α 3) (σ 2)) g ((α 5) g) (mM (α 6) x g) ((α 7) g))) g (gWi B 60 (wD B n (α 3) (σ 2)) g ((α 5) g) (α 6 g) ((α 7) g)))]) z t0 ts)
            refine aw_go 2 rfl ⟨trivial, trivial, trivial⟩ ?_
            show aw_W _ _ _ _ (20, [some (.ref 0), some (.int x), some (.int ((aFi (α 6) (aGs B n (α 3) (α 5) (α 6) (α 7) (σ 2) x) (aCs B n (α 3) (α 5) (α 6) (α 7) (σ 2) (sumF (α 4) n) x) g).1)), some (.int ((aFi (α 6) (aGs B n (α 3) (α 5) (α 6) (α 7) (σ 2) x) (aCs B n (α 3) (α 5) (α 6) (α 7) (σ 2) (sumF (α 4) n) x) g).2.1)), some (.int ((aFi (α 6) (aGs B n (α 3) (α 5) (α 6) (α 7) (σ 2) x) (aCs B n (α 3) (α 5) (α 6) (α 7) (σ 2) (sumF (α 4) n) x) g).2.2)), some (.int ((nI g) + 1)), some (.int (gGN B 60 (wD B n (α 3) (σ 2)) (α 5) (upd (α 6) g (mM (α 6) x g)) (α 7) 60 (n - 1))), some (.int (gCm B n 60 (wD B n (α 3) (σ 2)) (α 5) (upd (α 6) g (mM (α 6) x g)) (α 7) (σ 2) (sumF (α 4) n) 60 (n - 1)))], []) (ae_en (au σ [(16, w_40), (17, nI 60)]) (au α [(21, wt_40), (22, wr), (23, nv_40), (24, upd (upd ra g (mM (α 6) x g)) g (α 6 g)), (25, upd (upd rb g (nI (gGo B 60 (wD B n (α 3) (σ 2)) g ((α 5) g) (mM (α 6) x g) ((α 7) g)))) g (nI (gGo B 60 (wD B n (α 3) (σ 2)) g ((α 5) g) (α 6 g) ((α 7) g)))), (26, upd (upd rc g (gWi B 60 (wD B n (α 3) (σ 2)) g ((α 5) g) (mM (α 6) x g) ((α 7) g))) g (gWi B 60 (wD B n (α 3) (σ 2)) g ((α 5) g) (α 6 g) ((α 7) g)))]) z t0 ts)
            rw [show (nI g) + 1 = nI (g + 1) from (cI_add (a := g) (b := 1) rfl rfl)]
            have e1 := aFi_n (m := (α 6)) (gn := aGs B n (α 3) (α 5) (α 6) (α 7) (σ 2) x) (cm := aCs B n (α 3) (α 5) (α 6) (α 7) (σ 2) (sumF (α 4) n) x) (g := g) h44 h47 (fun q => absurd q.2 (Int32.not_lt.mpr h53))
            exact aw_to (lp_first hC hn hn10 hx hW (by have := fL_upd (g := g) (x := (α 6) g) (fL_upd (g := g) (x := mM (α 6) x g) hL); rw [upd_2, upd_same] at this; exact this) (g + 1) (by omega)) (by rw [e1]) rfl
          · skip
            show aw_W _ _ _ _ (54, [some (.ref 0), some (.int x), some (.int ((aFi (α 6) (aGs B n (α 3) (α 5) (α 6) (α 7) (σ 2) x) (aCs B n (α 3) (α 5) (α 6) (α 7) (σ 2) (sumF (α 4) n) x) g).1)), some (.int ((aFi (α 6) (aGs B n (α 3) (α 5) (α 6) (α 7) (σ 2) x) (aCs B n (α 3) (α 5) (α 6) (α 7) (σ 2) (sumF (α 4) n) x) g).2.1)), some (.int ((aFi (α 6) (aGs B n (α 3) (α 5) (α 6) (α 7) (σ 2) x) (aCs B n (α 3) (α 5) (α 6) (α 7) (σ 2) (sumF (α 4) n) x) g).2.2)), some (.int (nI g)), some (.int (gGN B 60 (wD B n (α 3) (σ 2)) (α 5) (upd (α 6) g (mM (α 6) x g)) (α 7) 60 (n - 1))), some (.int (gCm B n 60 (wD B n (α 3) (σ 2)) (α 5) (upd (α 6) g (mM (α 6) x g)) (α 7) (σ 2) (sumF (α 4) n) 60 (n - 1)))], []) (ae_en (au σ [(16, w_40), (17, nI 60)]) (au α [(21, wt_40), (22, wr), (23, nv_40), (24, upd ra g (mM (α 6) x g)), (25, upd rb g (nI (gGo B 60 (wD B n (α 3) (σ 2)) g ((α 5) g) (mM (α 6) x g) ((α 7) g)))), (26, upd rc g (gWi B 60 (wD B n (α 3) (σ 2)) g ((α 5) g) (mM (α 6) x g) ((α 7) g)))]) z t0 ts)
            refine aw_go 14 rfl ⟨trivial, trivial, trivial, trivial, trivial, trivial, trivial, trivial, trivial, trivial, trivial, trivial, trivial, (cI_in (a := g) rfl (by omega) (by decide)), trivial⟩ ?_
            show aw_W _ _ _ _ (68, [some (.ref 0), some (.int x), some (.int (nI g)), some (.int (gGN B 60 (wD B n (α 3) (σ 2)) (α 5) (upd (α 6) g (mM (α 6) x g)) (α 7) 60 (n - 1))), some (.int (gCm B n 60 (wD B n (α 3) (σ 2)) (α 5) (upd (α 6) g (mM (α 6) x g)) (α 7) (σ 2) (sumF (α 4) n) 60 (n - 1))), some (.int (nI g)), some (.int (gGN B 60 (wD B n (α 3) (σ 2)) (α 5) (upd (α 6) g (mM (α 6) x g)) (α 7) 60 (n - 1))), some (.int (gCm B n 60 (wD B n (α 3) (σ 2)) (α 5) (upd (α 6) g (mM (α 6) x g)) (α 7) (σ 2) (sumF (α 4) n) 60 (n - 1)))], [.int (α 6 (nI g).toNatClampNeg), .int (nI g), .ref 28]) (ae_en (au σ [(16, w_40), (17, nI 60)]) (au α [(21, wt_40), (22, wr), (23, nv_40), (24, upd ra g (mM (α 6) x g)), (25, upd rb g (nI (gGo B 60 (wD B n (α 3) (σ 2)) g ((α 5) g) (mM (α 6) x g) ((α 7) g)))), (26, upd rc g (gWi B 60 (wD B n (α 3) (σ 2)) g ((α 5) g) (mM (α 6) x g) ((α 7) g)))]) z t0 ts)
            rw [show (nI g).toNatClampNeg = g from cI_cl (a := g) rfl (by omega)]
            refine aw_call rfl rfl (ev_Forecast_stuff (g := g) (v := (α 6 g)) hC hW (by decide) (by omega) rfl) ?_
            rintro _ _ ⟨rfl, rfl⟩
            show aw_W _ _ _ _ (69, [some (.ref 0), some (.int x), some (.int (nI g)), some (.int (gGN B 60 (wD B n (α 3) (σ 2)) (α 5) (upd (α 6) g (mM (α 6) x g)) (α 7) 60 (n - 1))), some (.int (gCm B n 60 (wD B n (α 3) (σ 2)) (α 5) (upd (α 6) g (mM (α 6) x g)) (α 7) (σ 2) (sumF (α 4) n) 60 (n - 1))), some (.int (nI g)), some (.int (gGN B 60 (wD B n (α 3) (σ 2)) (α 5) (upd (α 6) g (mM (α 6) x g)) (α 7) 60 (n - 1))), some (.int (gCm B n 60 (wD B n (α 3) (σ 2)) (α 5) (upd (α 6) g (mM (α 6) x g)) (α 7) (σ 2) (sumF (α 4) n) 60 (n - 1)))], []) (ae_en (au σ [(16, w_40), (17, nI 60)]) (au α [(21, wt_40), (22, wr), (23, nv_40), (24, upd (upd ra g (mM (α 6) x g)) g (α 6 g)), (25, upd (upd rb g (nI (gGo B 60 (wD B n (α 3) (σ 2)) g ((α 5) g) (mM (α 6) x g) ((α 7) g)))) g (nI (gGo B 60 (wD B n (α 3) (σ 2)) g ((α 5) g) (α 6 g) ((α 7) g)))), (26, upd (upd rc g (gWi B 60 (wD B n (α 3) (σ 2)) g ((α 5) g) (mM (α 6) x g) ((α 7) g))) g (gWi B 60 (wD B n (α 3) (σ 2)) g ((α 5) g) (α 6 g) ((α 7) g)))]) z t0 ts)
            refine aw_go 2 rfl ⟨trivial, trivial, trivial⟩ ?_
            show aw_W _ _ _ _ (20, [some (.ref 0), some (.int x), some (.int (nI g)), some (.int (gGN B 60 (wD B n (α 3) (σ 2)) (α 5) (upd (α 6) g (mM (α 6) x g)) (α 7) 60 (n - 1))), some (.int (gCm B n 60 (wD B n (α 3) (σ 2)) (α 5) (upd (α 6) g (mM (α 6) x g)) (α 7) (σ 2) (sumF (α 4) n) 60 (n - 1))), some (.int ((nI g) + 1)), some (.int (gGN B 60 (wD B n (α 3) (σ 2)) (α 5) (upd (α 6) g (mM (α 6) x g)) (α 7) 60 (n - 1))), some (.int (gCm B n 60 (wD B n (α 3) (σ 2)) (α 5) (upd (α 6) g (mM (α 6) x g)) (α 7) (σ 2) (sumF (α 4) n) 60 (n - 1)))], []) (ae_en (au σ [(16, w_40), (17, nI 60)]) (au α [(21, wt_40), (22, wr), (23, nv_40), (24, upd (upd ra g (mM (α 6) x g)) g (α 6 g)), (25, upd (upd rb g (nI (gGo B 60 (wD B n (α 3) (σ 2)) g ((α 5) g) (mM (α 6) x g) ((α 7) g)))) g (nI (gGo B 60 (wD B n (α 3) (σ 2)) g ((α 5) g) (α 6 g) ((α 7) g)))), (26, upd (upd rc g (gWi B 60 (wD B n (α 3) (σ 2)) g ((α 5) g) (mM (α 6) x g) ((α 7) g))) g (gWi B 60 (wD B n (α 3) (σ 2)) g ((α 5) g) (α 6 g) ((α 7) g)))]) z t0 ts)
            rw [show (nI g) + 1 = nI (g + 1) from (cI_add (a := g) (b := 1) rfl rfl)]
            have e1 := aFi_y (m := (α 6)) (gn := aGs B n (α 3) (α 5) (α 6) (α 7) (σ 2) x) (cm := aCs B n (α 3) (α 5) (α 6) (α 7) (σ 2) (sumF (α 4) n) x) (g := g) (Or.inr (Or.inr ⟨h50, Int32.not_le.mp h53⟩))
            exact aw_to (lp_first hC hn hn10 hx hW (by have := fL_upd (g := g) (x := (α 6) g) (fL_upd (g := g) (x := mM (α 6) x g) hL); rw [upd_2, upd_same] at this; exact this) (g + 1) (by omega)) (by rw [e1]; rfl) rfl
termination_by n - 1 - g
decreasing_by all_goals omega
theorem ev_Dried_first {n : Nat} {B : ae_B} {x : Int32} {zd : Nat} (hC : cOk B n (σ 1) (σ 3) (σ 5) (σ 15) (α 0) (α 1) (α 2) t0 ts) : aw_X P (zd + 8) 21 [.ref 0, .int x] (ae_en σ α z t0 ts) (fun r H => ∃ (w : Int32) (wd : Int32) (wt : Nat → Int32) (wr : Nat → Int32) (nv : Nat → Int32) (ra : Nat → Int32) (rb : Nat → Int32) (rc : Nat → Int32), r = some (.int (aFirst B n (α 3) (α 5) (α 6) (α 7) (σ 2) (sumF (α 4) n) x)) ∧ H = (ae_en (au σ [(16, w), (17, wd)]) (au α [(21, wt), (22, wr), (23, nv), (24, ra), (25, rb), (26, rc)]) z t0 ts)) := by
  obtain ⟨hn, hn10, hs3, hk0, hk1, hk2, hr⟩ := id hC
  refine aw_ev (cd := cd_Dried_first) rfl rfl rfl ?_
  show aw_W _ _ _ _ (0, [some (.ref 0), some (.int x), none, none, none, none, none, none], []) (ae_en σ α z t0 ts)
  refine aw_go 3 rfl ⟨trivial, trivial, trivial, trivial⟩ ?_
  refine aw_br (c := x < 1) (fun h2 => ?_) (fun h2 => ?_)
  · skip
    show aw_W _ _ _ _ (6, [some (.ref 0), some (.int x), none, none, none, none, none, none], []) (ae_en σ α z t0 ts)
    refine aw_go 1 rfl ⟨trivial, trivial⟩ ?_
    refine aw_ret rfl rfl trivial ?_
    refine ⟨σ 16, σ 17, α 21, α 22, α 23, α 24, α 25, α 26, ?_, rfl⟩
    rw [aFirst, if_neg (fun q => absurd q.1 (Int32.not_le.mpr h2))]
  · skip
    show aw_W _ _ _ _ (3, [some (.ref 0), some (.int x), none, none, none, none, none, none], []) (ae_en σ α z t0 ts)
    refine aw_go 3 rfl ⟨trivial, trivial, trivial, trivial⟩ ?_
    refine aw_br (c := x ≤ 100) (fun h5 => ?_) (fun h5 => ?_)
    · skip
      show aw_W _ _ _ _ (8, [some (.ref 0), some (.int x), none, none, none, none, none, none], []) (ae_en σ α z t0 ts)
      refine aw_go 3 rfl ⟨trivial, trivial, trivial, trivial⟩ ?_
      show aw_W _ _ _ _ (11, [some (.ref 0), some (.int x), none, none, none, none, none, none], [.int 60, .ref 28]) (ae_en σ α z t0 ts)
      refine aw_call rfl rfl (ev_Forecast_look (N := 60) hC (by decide) rfl) ?_
      rintro _ _ ⟨w_11, wt_11, wr_11, nv_11, ra_11, rb_11, rc_11, rfl, rfl, hW_11, hL_11⟩
      show aw_W _ _ _ _ (12, [some (.ref 0), some (.int x), none, none, none, none, none, none], []) (ae_en (au σ [(16, w_11), (17, nI 60)]) (au α [(21, wt_11), (22, wr_11), (23, nv_11), (24, ra_11), (25, rb_11), (26, rc_11)]) z t0 ts)
      refine aw_go 8 rfl ⟨trivial, trivial, trivial, trivial, trivial, trivial, trivial, trivial, trivial⟩ ?_
      refine lp_first hC hn hn10 ⟨Int32.not_lt.mp h2, h5⟩ hW_11 hL_11 0 (Nat.zero_le _)
    · skip
      show aw_W _ _ _ _ (6, [some (.ref 0), some (.int x), none, none, none, none, none, none], []) (ae_en σ α z t0 ts)
      refine aw_go 1 rfl ⟨trivial, trivial⟩ ?_
      refine aw_ret rfl rfl trivial ?_
      refine ⟨σ 16, σ 17, α 21, α 22, α 23, α 24, α 25, α 26, ?_, rfl⟩
      rw [aFirst, if_neg (fun q => absurd q.2 (Int32.not_le.mpr (Int32.not_le.mp h5)))]
theorem lp_most {zd : Nat} {n : Nat} {B : ae_B} {w : Int32} {wt wr nv ra rb rc : Nat → Int32} {j : Nat} {y : Int32} (hC : cOk B n (σ 1) (σ 3) (σ 5) (σ 15) (α 0) (α 1) (α 2) t0 ts) (hn : (σ 1) = nI n) (hn10 : n ≤ 10) (hj : j < n - 1) (hW : fW n 60 (wD B n (α 3) (σ 2)) wr) (hL : fL B (n - 1) 60 (wD B n (α 3) (σ 2)) (α 5) (upd (α 6) j y) (α 7) ra rb rc) (k : Nat) (hk : k ≤ 100) (hI : tM (fun k => decide (aGn B n 60 (α 3) (α 5) (α 6) (α 7) (σ 2) j (nI k) ≤ aGn B n 60 (α 3) (α 5) (α 6) (α 7) (σ 2) j 0)) k = tM (fun k => decide (aGn B n 60 (α 3) (α 5) (α 6) (α 7) (σ 2) j (nI k) ≤ aGn B n 60 (α 3) (α 5) (α 6) (α 7) (σ 2) j 0)) 100) : aw_W P (zd + 7) cd_Dried_most (fun r H => ∃ (w : Int32) (wd : Int32) (wt : Nat → Int32) (wr : Nat → Int32) (nv : Nat → Int32) (ra : Nat → Int32) (rb : Nat → Int32) (rc : Nat → Int32), r = some (.int (aMost B n (α 3) (α 5) (α 6) (α 7) (σ 2) (nI j))) ∧ H = (ae_en (au σ [(16, w), (17, wd)]) (au α [(21, wt), (22, wr), (23, nv), (24, ra), (25, rb), (26, rc)]) z t0 ts)) (22, [some (.ref 0), some (.int (nI j)), some (.int (aGn B n 60 (α 3) (α 5) (α 6) (α 7) (σ 2) j 0)), some (.int (nI k))], []) (ae_en (au σ [(16, w), (17, nI 60)]) (au α [(21, wt), (22, wr), (23, nv), (24, ra), (25, rb), (26, rc)]) z t0 ts) := by
  refine aw_go 2 rfl ⟨trivial, trivial, trivial⟩ ?_
  refine aw_br (c := (nI k) ≤ 0) (fun h23 => ?_) (fun h23 => ?_)
  · skip
    have h23 := cI_leT (a := k) (b := 0) rfl rfl (by omega) (by omega) h23
    show aw_W _ _ _ _ (38, [some (.ref 0), some (.int (nI j)), some (.int (aGn B n 60 (α 3) (α 5) (α 6) (α 7) (σ 2) j 0)), some (.int (nI k))], []) (ae_en (au σ [(16, w), (17, nI 60)]) (au α [(21, wt), (22, wr), (23, nv), (24, ra), (25, rb), (26, rc)]) z t0 ts)
    have k0 : k = 0 := by omega
    rw [k0] at hI
    refine aw_go 1 rfl ⟨trivial, trivial⟩ ?_
    refine aw_ret rfl rfl trivial ?_
    refine ⟨w, nI 60, wt, wr, nv, ra, rb, rc, ?_, rfl⟩
    rw [aMost, if_pos (iP_nI hj (by omega)), nI_clamp (by omega), ← hI]
    all_goals rfl
  · skip
    have h23 := cI_leF (a := k) (b := 0) rfl rfl (by omega) (by omega) h23
    show aw_W _ _ _ _ (24, [some (.ref 0), some (.int (nI j)), some (.int (aGn B n 60 (α 3) (α 5) (α 6) (α 7) (σ 2) j 0)), some (.int (nI k))], []) (ae_en (au σ [(16, w), (17, nI 60)]) (au α [(21, wt), (22, wr), (23, nv), (24, ra), (25, rb), (26, rc)]) z t0 ts)
    have e3 := hI
    obtain ⟨m, hm⟩ : ∃ m, k = m + 1 := ⟨k - 1, by omega⟩
    rw [hm, tM, ← hm] at e3
    refine aw_go 4 rfl ⟨trivial, trivial, trivial, trivial, trivial⟩ ?_
    show aw_W _ _ _ _ (28, [some (.ref 0), some (.int (nI j)), some (.int (aGn B n 60 (α 3) (α 5) (α 6) (α 7) (σ 2) j 0)), some (.int (nI k))], [.int (nI k), .int (nI j), .ref 28]) (ae_en (au σ [(16, w), (17, nI 60)]) (au α [(21, wt), (22, wr), (23, nv), (24, ra), (25, rb), (26, rc)]) z t0 ts)
    refine aw_call rfl rfl (ev_Forecast_stuff (g := j) (v := (nI k)) hC hW (by decide) (by omega) rfl) ?_
    rintro _ _ ⟨rfl, rfl⟩
    show aw_W _ _ _ _ (29, [some (.ref 0), some (.int (nI j)), some (.int (aGn B n 60 (α 3) (α 5) (α 6) (α 7) (σ 2) j 0)), some (.int (nI k))], []) (ae_en (au σ [(16, w), (17, nI 60)]) (au α [(21, wt), (22, wr), (23, nv), (24, upd ra j (nI k)), (25, upd rb j (nI (gGo B 60 (wD B n (α 3) (σ 2)) j ((α 5) j) (nI k) ((α 7) j)))), (26, upd rc j (gWi B 60 (wD B n (α 3) (σ 2)) j ((α 5) j) (nI k) ((α 7) j)))]) z t0 ts)
    have hL2 := fL_upd (g := j) (x := nI k) hL
    rw [upd_2] at hL2
    refine aw_go 2 rfl ⟨trivial, trivial, trivial⟩ ?_
    show aw_W _ _ _ _ (31, [some (.ref 0), some (.int (nI j)), some (.int (aGn B n 60 (α 3) (α 5) (α 6) (α 7) (σ 2) j 0)), some (.int (nI k))], [.ref 28]) (ae_en (au σ [(16, w), (17, nI 60)]) (au α [(21, wt), (22, wr), (23, nv), (24, upd ra j (nI k)), (25, upd rb j (nI (gGo B 60 (wD B n (α 3) (σ 2)) j ((α 5) j) (nI k) ((α 7) j)))), (26, upd rc j (gWi B 60 (wD B n (α 3) (σ 2)) j ((α 5) j) (nI k) ((α 7) j)))]) z t0 ts)
    refine aw_callE rfl rfl (ev_Forecast_gone  hC hW (by decide) hL2 rfl) ?_
    show aw_W _ _ _ _ (32, [some (.ref 0), some (.int (nI j)), some (.int (aGn B n 60 (α 3) (α 5) (α 6) (α 7) (σ 2) j 0)), some (.int (nI k))], [.int (gGN B 60 (wD B n (α 3) (σ 2)) (α 5) (upd (α 6) j (nI k)) (α 7) 60 (n - 1))]) (ae_en (au σ [(16, w), (17, nI 60)]) (au α [(21, wt), (22, wr), (23, nv), (24, upd ra j (nI k)), (25, upd rb j (nI (gGo B 60 (wD B n (α 3) (σ 2)) j ((α 5) j) (nI k) ((α 7) j)))), (26, upd rc j (gWi B 60 (wD B n (α 3) (σ 2)) j ((α 5) j) (nI k) ((α 7) j)))]) z t0 ts)
    refine aw_go 2 rfl ⟨trivial, trivial, trivial⟩ ?_
    refine aw_br (c := (aGn B n 60 (α 3) (α 5) (α 6) (α 7) (σ 2) j 0) < (gGN B 60 (wD B n (α 3) (σ 2)) (α 5) (upd (α 6) j (nI k)) (α 7) 60 (n - 1))) (fun h33 => ?_) (fun h33 => ?_)
    · skip
      show aw_W _ _ _ _ (36, [some (.ref 0), some (.int (nI j)), some (.int (aGn B n 60 (α 3) (α 5) (α 6) (α 7) (σ 2) j 0)), some (.int (nI k))], []) (ae_en (au σ [(16, w), (17, nI 60)]) (au α [(21, wt), (22, wr), (23, nv), (24, upd ra j (nI k)), (25, upd rb j (nI (gGo B 60 (wD B n (α 3) (σ 2)) j ((α 5) j) (nI k) ((α 7) j)))), (26, upd rc j (gWi B 60 (wD B n (α 3) (σ 2)) j ((α 5) j) (nI k) ((α 7) j)))]) z t0 ts)
      rw [if_neg (fun q => absurd (show aGn B n 60 (α 3) (α 5) (α 6) (α 7) (σ 2) j (nI k) ≤ aGn B n 60 (α 3) (α 5) (α 6) (α 7) (σ 2) j 0 from of_decide_eq_true q) (Int32.not_le.mpr h33))] at e3
      refine aw_go 2 rfl ⟨trivial, trivial, trivial⟩ ?_
      show aw_W _ _ _ _ (22, [some (.ref 0), some (.int (nI j)), some (.int (aGn B n 60 (α 3) (α 5) (α 6) (α 7) (σ 2) j 0)), some (.int ((nI k) + (-1)))], []) (ae_en (au σ [(16, w), (17, nI 60)]) (au α [(21, wt), (22, wr), (23, nv), (24, upd ra j (nI k)), (25, upd rb j (nI (gGo B 60 (wD B n (α 3) (σ 2)) j ((α 5) j) (nI k) ((α 7) j)))), (26, upd rc j (gWi B 60 (wD B n (α 3) (σ 2)) j ((α 5) j) (nI k) ((α 7) j)))]) z t0 ts)
      rw [show nI k + (-1) = nI m from by rw [hm, ← Int32.sub_eq_add_neg, nI_pred]]
      exact lp_most hC hn hn10 hj hW hL2 m (by omega) e3
    · skip
      show aw_W _ _ _ _ (34, [some (.ref 0), some (.int (nI j)), some (.int (aGn B n 60 (α 3) (α 5) (α 6) (α 7) (σ 2) j 0)), some (.int (nI k))], []) (ae_en (au σ [(16, w), (17, nI 60)]) (au α [(21, wt), (22, wr), (23, nv), (24, upd ra j (nI k)), (25, upd rb j (nI (gGo B 60 (wD B n (α 3) (σ 2)) j ((α 5) j) (nI k) ((α 7) j)))), (26, upd rc j (gWi B 60 (wD B n (α 3) (σ 2)) j ((α 5) j) (nI k) ((α 7) j)))]) z t0 ts)
      rw [if_pos (decide_eq_true (show aGn B n 60 (α 3) (α 5) (α 6) (α 7) (σ 2) j (nI k) ≤ aGn B n 60 (α 3) (α 5) (α 6) (α 7) (σ 2) j 0 from Int32.not_lt.mp h33))] at e3
      refine aw_go 1 rfl ⟨trivial, trivial⟩ ?_
      refine aw_ret rfl rfl trivial ?_
      refine ⟨w, nI 60, wt, wr, nv, upd ra j (nI k), upd rb j (nI (gGo B 60 (wD B n (α 3) (σ 2)) j ((α 5) j) (nI k) ((α 7) j))), upd rc j (gWi B 60 (wD B n (α 3) (σ 2)) j ((α 5) j) (nI k) ((α 7) j)), ?_, rfl⟩
      rw [aMost, if_pos (iP_nI hj (by omega)), nI_clamp (by omega), ← e3]
      all_goals rfl
termination_by k
decreasing_by all_goals omega
theorem ev_Dried_most {n : Nat} {B : ae_B} {g : Int32} {zd : Nat} (hC : cOk B n (σ 1) (σ 3) (σ 5) (σ 15) (α 0) (α 1) (α 2) t0 ts) : aw_X P (zd + 8) 22 [.ref 0, .int g] (ae_en σ α z t0 ts) (fun r H => ∃ (w : Int32) (wd : Int32) (wt : Nat → Int32) (wr : Nat → Int32) (nv : Nat → Int32) (ra : Nat → Int32) (rb : Nat → Int32) (rc : Nat → Int32), r = some (.int (aMost B n (α 3) (α 5) (α 6) (α 7) (σ 2) g)) ∧ H = (ae_en (au σ [(16, w), (17, wd)]) (au α [(21, wt), (22, wr), (23, nv), (24, ra), (25, rb), (26, rc)]) z t0 ts)) := by
  obtain ⟨hn, hn10, hs3, hk0, hk1, hk2, hr⟩ := id hC
  refine aw_ev (cd := cd_Dried_most) rfl rfl rfl ?_
  show aw_W _ _ _ _ (0, [some (.ref 0), some (.int g), none, none], []) (ae_en σ α z t0 ts)
  refine aw_go 3 rfl ⟨trivial, trivial, trivial, trivial⟩ ?_
  show aw_W _ _ _ _ (3, [some (.ref 0), some (.int g), none, none], [.int g, .ref 1]) (ae_en σ α z t0 ts)
  refine aw_callE rfl rfl (ec_Boat_hasGap (p := g) hn hn10) ?_
  show aw_W _ _ _ _ (4, [some (.ref 0), some (.int g), none, none], [.int (bI (iP (n - 1) g))]) (ae_en σ α z t0 ts)
  refine aw_go 1 rfl ⟨trivial, trivial⟩ ?_
  refine aw_br (c := ¬ (bI (iP (n - 1) g)) = 0) (fun h4 => ?_) (fun h4 => ?_)
  · skip
    have h4 := bI_t h4
    show aw_W _ _ _ _ (7, [some (.ref 0), some (.int g), none, none], []) (ae_en σ α z t0 ts)
    obtain ⟨j, hj, rfl⟩ := iP_of h4 (by omega)
    refine aw_go 3 rfl ⟨trivial, trivial, trivial, trivial⟩ ?_
    show aw_W _ _ _ _ (10, [some (.ref 0), some (.int (nI j)), none, none], [.int 60, .ref 28]) (ae_en σ α z t0 ts)
    refine aw_call rfl rfl (ev_Forecast_look (N := 60) hC (by decide) rfl) ?_
    rintro _ _ ⟨w_10, wt_10, wr_10, nv_10, ra_10, rb_10, rc_10, rfl, rfl, hW_10, hL_10⟩
    show aw_W _ _ _ _ (11, [some (.ref 0), some (.int (nI j)), none, none], []) (ae_en (au σ [(16, w_10), (17, nI 60)]) (au α [(21, wt_10), (22, wr_10), (23, nv_10), (24, ra_10), (25, rb_10), (26, rc_10)]) z t0 ts)
    refine aw_go 4 rfl ⟨trivial, trivial, trivial, trivial, trivial⟩ ?_
    show aw_W _ _ _ _ (15, [some (.ref 0), some (.int (nI j)), none, none], [.int 0, .int (nI j), .ref 28]) (ae_en (au σ [(16, w_10), (17, nI 60)]) (au α [(21, wt_10), (22, wr_10), (23, nv_10), (24, ra_10), (25, rb_10), (26, rc_10)]) z t0 ts)
    refine aw_call rfl rfl (ev_Forecast_stuff (g := j) (v := 0) hC hW_10 (by decide) (by omega) rfl) ?_
    rintro _ _ ⟨rfl, rfl⟩
    show aw_W _ _ _ _ (16, [some (.ref 0), some (.int (nI j)), none, none], []) (ae_en (au σ [(16, w_10), (17, nI 60)]) (au α [(21, wt_10), (22, wr_10), (23, nv_10), (24, upd ra_10 j 0), (25, upd rb_10 j (nI (gGo B 60 (wD B n (α 3) (σ 2)) j ((α 5) j) 0 ((α 7) j)))), (26, upd rc_10 j (gWi B 60 (wD B n (α 3) (σ 2)) j ((α 5) j) 0 ((α 7) j)))]) z t0 ts)
    refine aw_go 2 rfl ⟨trivial, trivial, trivial⟩ ?_
    show aw_W _ _ _ _ (18, [some (.ref 0), some (.int (nI j)), none, none], [.ref 28]) (ae_en (au σ [(16, w_10), (17, nI 60)]) (au α [(21, wt_10), (22, wr_10), (23, nv_10), (24, upd ra_10 j 0), (25, upd rb_10 j (nI (gGo B 60 (wD B n (α 3) (σ 2)) j ((α 5) j) 0 ((α 7) j)))), (26, upd rc_10 j (gWi B 60 (wD B n (α 3) (σ 2)) j ((α 5) j) 0 ((α 7) j)))]) z t0 ts)
    refine aw_callE rfl rfl (ev_Forecast_gone  hC hW_10 (by decide) (fL_upd hL_10) rfl) ?_
    show aw_W _ _ _ _ (19, [some (.ref 0), some (.int (nI j)), none, none], [.int (gGN B 60 (wD B n (α 3) (σ 2)) (α 5) (upd (α 6) j 0) (α 7) 60 (n - 1))]) (ae_en (au σ [(16, w_10), (17, nI 60)]) (au α [(21, wt_10), (22, wr_10), (23, nv_10), (24, upd ra_10 j 0), (25, upd rb_10 j (nI (gGo B 60 (wD B n (α 3) (σ 2)) j ((α 5) j) 0 ((α 7) j)))), (26, upd rc_10 j (gWi B 60 (wD B n (α 3) (σ 2)) j ((α 5) j) 0 ((α 7) j)))]) z t0 ts)
    refine aw_go 3 rfl ⟨trivial, trivial, trivial, trivial⟩ ?_
    exact lp_most hC hn hn10 hj hW_10 (fL_upd hL_10) 100 (by decide) rfl
  · skip
    have h4 := bI_f (Classical.not_not.mp h4)
    show aw_W _ _ _ _ (5, [some (.ref 0), some (.int g), none, none], []) (ae_en σ α z t0 ts)
    refine aw_go 1 rfl ⟨trivial, trivial⟩ ?_
    refine aw_ret rfl rfl trivial ?_
    refine ⟨σ 16, σ 17, α 21, α 22, α 23, α 24, α 25, α 26, ?_, rfl⟩
    rw [aMost, if_neg h4]
theorem ev_Dried_lay {n : Nat} {B : ae_B} {N : Nat} {x : Int32} {zd : Nat} (hC : cOk B n (σ 1) (σ 3) (σ 5) (σ 15) (α 0) (α 1) (α 2) t0 ts) (hN1 : 1 ≤ N) (hN60 : N ≤ 60) (hx : x = nI N) : aw_X P (zd + 8) 15 [.ref 0, .int x] (ae_en σ α z t0 ts) (fun r H => ∃ (w : Int32) (wd : Int32) (wt : Nat → Int32) (wr : Nat → Int32) (nv : Nat → Int32) (ra : Nat → Int32) (rb : Nat → Int32) (rc : Nat → Int32), r = some (.int (gGN B N (wD B n (α 3) (σ 2)) (α 5) (α 6) (α 7) N (n - 1))) ∧ H = (ae_en (au σ [(2, fMn 9999 ((σ 2) + nI N)), (16, w), (17, wd)]) (au α [(3, aLayW B n N (α 3) (σ 2)), (5, aLayV B n N (α 3) (α 5) (α 6) (α 7) (σ 2)), (7, aLayF B n N (α 3) (α 5) (α 6) (α 7) (σ 2)), (21, wt), (22, wr), (23, nv), (24, ra), (25, rb), (26, rc)]) z t0 ts)) := by
  obtain ⟨hn, hn10, hs3, hk0, hk1, hk2, hr⟩ := id hC
  refine aw_ev (cd := cd_Dried_lay) rfl rfl rfl ?_
  show aw_W _ _ _ _ (0, [some (.ref 0), some (.int x)], []) (ae_en σ α z t0 ts)
  refine aw_go 3 rfl ⟨trivial, trivial, trivial, trivial⟩ ?_
  refine aw_br (c := x < 1) (fun h2 => ?_) (fun h2 => ?_)
  · skip
    have h2 := cI_ltT (a := N) (b := 1) hx rfl (by omega) (by omega) h2
    show aw_W _ _ _ _ (6, [some (.ref 0), some (.int x)], []) (ae_en σ α z t0 ts)
    exact absurd h2 (by omega)
  · skip
    have h2 := cI_ltF (a := N) (b := 1) hx rfl (by omega) (by omega) h2
    show aw_W _ _ _ _ (3, [some (.ref 0), some (.int x)], []) (ae_en σ α z t0 ts)
    refine aw_go 3 rfl ⟨trivial, trivial, trivial, trivial⟩ ?_
    refine aw_br (c := x ≤ 60) (fun h5 => ?_) (fun h5 => ?_)
    · skip
      have h5 := cI_leT (a := N) (b := 60) hx rfl (by omega) (by omega) h5
      show aw_W _ _ _ _ (8, [some (.ref 0), some (.int x)], []) (ae_en σ α z t0 ts)
      refine aw_go 3 rfl ⟨trivial, trivial, trivial, trivial⟩ ?_
      show aw_W _ _ _ _ (11, [some (.ref 0), some (.int x)], [.int x, .ref 28]) (ae_en σ α z t0 ts)
      rw [show x = nI N from hx]
      refine aw_call rfl rfl (ev_Forecast_look (N := N) hC hN60 rfl) ?_
      rintro _ _ ⟨w_11, wt_11, wr_11, nv_11, ra_11, rb_11, rc_11, rfl, rfl, hW_11, hL_11⟩
      show aw_W _ _ _ _ (12, [some (.ref 0), some (.int (nI N))], []) (ae_en (au σ [(16, w_11), (17, nI N)]) (au α [(21, wt_11), (22, wr_11), (23, nv_11), (24, ra_11), (25, rb_11), (26, rc_11)]) z t0 ts)
      refine aw_go 2 rfl ⟨trivial, trivial, trivial⟩ ?_
      show aw_W _ _ _ _ (14, [some (.ref 0), some (.int (nI N))], [.ref 28]) (ae_en (au σ [(16, w_11), (17, nI N)]) (au α [(21, wt_11), (22, wr_11), (23, nv_11), (24, ra_11), (25, rb_11), (26, rc_11)]) z t0 ts)
      refine aw_call rfl rfl (ev_Forecast_comeTrue  hC hW_11 hN60 hL_11 rfl) ?_
      rintro _ _ ⟨rfl, rfl⟩
      show aw_W _ _ _ _ (15, [some (.ref 0), some (.int (nI N))], []) (ae_en (au σ [(2, fMn 9999 ((σ 2) + nI N)), (16, w_11), (17, nI N)]) (au α [(3, fC n ((wD B n (α 3) (σ 2)) N) (α 3)), (5, fC (n - 1) (fun g => gWd B N (wD B n (α 3) (σ 2)) N g ((α 5) g) ((α 6) g) ((α 7) g)) (α 5)), (7, fC (n - 1) (fun g => if 0 < gGo B N (wD B n (α 3) (σ 2)) g ((α 5) g) ((α 6) g) ((α 7) g) ∧ gGo B N (wD B n (α 3) (σ 2)) g ((α 5) g) ((α 6) g) ((α 7) g) ≤ N then 0 else (α 7) g) (α 7)), (21, wt_11), (22, wr_11), (23, nv_11), (24, ra_11), (25, rb_11), (26, rc_11)]) z t0 ts)
      refine aw_go 2 rfl ⟨trivial, trivial, trivial⟩ ?_
      show aw_W _ _ _ _ (17, [some (.ref 0), some (.int (nI N))], [.ref 28]) (ae_en (au σ [(2, fMn 9999 ((σ 2) + nI N)), (16, w_11), (17, nI N)]) (au α [(3, fC n ((wD B n (α 3) (σ 2)) N) (α 3)), (5, fC (n - 1) (fun g => gWd B N (wD B n (α 3) (σ 2)) N g ((α 5) g) ((α 6) g) ((α 7) g)) (α 5)), (7, fC (n - 1) (fun g => if 0 < gGo B N (wD B n (α 3) (σ 2)) g ((α 5) g) ((α 6) g) ((α 7) g) ∧ gGo B N (wD B n (α 3) (σ 2)) g ((α 5) g) ((α 6) g) ((α 7) g) ≤ N then 0 else (α 7) g) (α 7)), (21, wt_11), (22, wr_11), (23, nv_11), (24, ra_11), (25, rb_11), (26, rc_11)]) z t0 ts)
      refine aw_callE rfl rfl (ev_Forecast_gone  hC hW_11 hN60 hL_11 rfl) ?_
      show aw_W _ _ _ _ (18, [some (.ref 0), some (.int (nI N))], [.int (gGN B N (wD B n (α 3) (σ 2)) (α 5) (α 6) (α 7) N (n - 1))]) (ae_en (au σ [(2, fMn 9999 ((σ 2) + nI N)), (16, w_11), (17, nI N)]) (au α [(3, fC n ((wD B n (α 3) (σ 2)) N) (α 3)), (5, fC (n - 1) (fun g => gWd B N (wD B n (α 3) (σ 2)) N g ((α 5) g) ((α 6) g) ((α 7) g)) (α 5)), (7, fC (n - 1) (fun g => if 0 < gGo B N (wD B n (α 3) (σ 2)) g ((α 5) g) ((α 6) g) ((α 7) g) ∧ gGo B N (wD B n (α 3) (σ 2)) g ((α 5) g) ((α 6) g) ((α 7) g) ≤ N then 0 else (α 7) g) (α 7)), (21, wt_11), (22, wr_11), (23, nv_11), (24, ra_11), (25, rb_11), (26, rc_11)]) z t0 ts)
      refine aw_ret rfl rfl trivial ?_
      refine ⟨w_11, nI N, wt_11, wr_11, nv_11, ra_11, rb_11, rc_11, ?_, rfl⟩
      rfl
    · skip
      have h5 := cI_leF (a := N) (b := 60) hx rfl (by omega) (by omega) h5
      show aw_W _ _ _ _ (6, [some (.ref 0), some (.int x)], []) (ae_en σ α z t0 ts)
      exact absurd h5 (by omega)
theorem ev_Dried_lay_bad {x : Int32} {zd : Nat} (hx : ¬ (1 ≤ x ∧ x ≤ 60)) : ae_Ev P (zd + 1) 15 [.ref 0, .int x] (ae_en σ α z t0 ts) (some (.int (-2))) (ae_en σ α z t0 ts) := by
  refine aw_evE (cd := cd_Dried_lay) rfl rfl rfl ?_
  show aw_W _ _ _ _ (0, [some (.ref 0), some (.int x)], []) (ae_en σ α z t0 ts)
  refine aw_go 3 rfl ⟨trivial, trivial, trivial, trivial⟩ ?_
  refine aw_br (c := x < 1) (fun h2 => ?_) (fun h2 => ?_)
  · skip
    show aw_W _ _ _ _ (6, [some (.ref 0), some (.int x)], []) (ae_en σ α z t0 ts)
    refine aw_go 1 rfl ⟨trivial, trivial⟩ ?_
    refine aw_ret rfl rfl trivial ?_
    refine ⟨?_, rfl⟩
    rfl
  · skip
    show aw_W _ _ _ _ (3, [some (.ref 0), some (.int x)], []) (ae_en σ α z t0 ts)
    refine aw_go 3 rfl ⟨trivial, trivial, trivial, trivial⟩ ?_
    refine aw_br (c := x ≤ 60) (fun h5 => ?_) (fun h5 => ?_)
    · skip
      show aw_W _ _ _ _ (8, [some (.ref 0), some (.int x)], []) (ae_en σ α z t0 ts)
      exact absurd ⟨Int32.not_lt.mp h2, h5⟩ hx
    · skip
      show aw_W _ _ _ _ (6, [some (.ref 0), some (.int x)], []) (ae_en σ α z t0 ts)
      refine aw_go 1 rfl ⟨trivial, trivial⟩ ?_
      refine aw_ret rfl rfl trivial ?_
      refine ⟨?_, rfl⟩
      rfl
end L29
