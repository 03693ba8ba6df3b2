/-! calls that change a boat (class) -/
theorem fC_cpy0 (X f : Nat → Int32) (n : Nat) : va_cpy X f 0 0 n = fC n X f := by
  rw [fC_cpy, fC_cg (Y := X) (fun j _ => by rw [Nat.zero_add])]
def dryN (B : ae_B) (n : Nat) (w : Nat → Int32) (dy : Int32) : Nat → (Nat → Int32) × Int32
  | 0 => (w, dy)
  | k + 1 => (fC n (fun p => fMx 0 ((dryN B n w dy k).1 p - gDr B n (dryN B n w dy k).1 (dyA (dryN B n w dy k).2 0) p)) (dryN B n w dy k).1, fMn 9999 ((dryN B n w dy k).2 + 1))
def aCount (sz on fg dy tx rd rl sl pm an what : Int32) : Int32 := if what = 0 then sz else if what = 1 then on else if what = 2 then fg else if what = 3 then dy else if what = 4 then tx else if what = 5 then rd else if what = 6 then rl else if what = 7 then sl else if what = 8 then pm else if what = 9 then an else -2
/-- an int among 0 .. m -/
abbrev inR (m v : Int32) : Prop := ¬ v < 0 ∧ ¬ m < v
def pCh (n : Nat) (m : Int32) (r : Nat → Int32) (o v : Int32) : Int32 × (Nat → Int32) := if iP n o ∧ inR m v then (r o.toNatClampNeg, upd r o.toNatClampNeg v) else (-2, r)
def pC1 (m x v : Int32) : Int32 × Int32 := if inR m v then (x, v) else (-2, x)
/-- wet, nailed, wide, stuffing, fast; salt, pump -/
abbrev ae_S5 : Type := ((Nat → Int32) × (Nat → Int32) × (Nat → Int32) × (Nat → Int32) × (Nat → Int32)) × Int32 × Int32
def pSet (n : Nat) (q : ae_S5) (what o v : Int32) : Int32 × ae_S5 :=
  if what = 0 then ((pCh n 100 q.1.1 o v).1, ((pCh n 100 q.1.1 o v).2, q.1.2), q.2)
  else if what = 1 then ((pCh n 99 q.1.2.1 o v).1, (q.1.1, (pCh n 99 q.1.2.1 o v).2, q.1.2.2), q.2)
  else if what = 2 then ((pCh (n - 1) 200 q.1.2.2.1 o v).1, (q.1.1, q.1.2.1, (pCh (n - 1) 200 q.1.2.2.1 o v).2, q.1.2.2.2), q.2)
  else if what = 3 then ((pCh (n - 1) 100 q.1.2.2.2.1 o v).1, (q.1.1, q.1.2.1, q.1.2.2.1, (pCh (n - 1) 100 q.1.2.2.2.1 o v).2, q.1.2.2.2.2), q.2)
  else if what = 4 then ((pCh (n - 1) 1 q.1.2.2.2.2 o v).1, (q.1.1, q.1.2.1, q.1.2.2.1, q.1.2.2.2.1, (pCh (n - 1) 1 q.1.2.2.2.2 o v).2), q.2)
  else if what = 5 then ((pC1 9 q.2.1 v).1, q.1, (pC1 9 q.2.1 v).2, q.2.2)
  else if what = 6 then ((pC1 9999 q.2.2 v).1, q.1, q.2.1, (pC1 9999 q.2.2 v).2)
  else (-2, q)
abbrev okP (k x m : Int32) : Prop := iP 6 k ∧ ¬ x < 0 ∧ ¬ m < 0 ∧ ¬ 100 < x / 1000 ∧ ¬ x - x / 1000 * 1000 < 10 ∧ ¬ 300 < x - x / 1000 * 1000 ∧ ¬ 200 < m / 10
/-- kind, width, number, wet, wide, fast -/
abbrev ae_S6 : Type := (Nat → Int32) × (Nat → Int32) × (Nat → Int32) × (Nat → Int32) × (Nat → Int32) × (Nat → Int32)
def pApp (n : Nat) (q : ae_S6) (k x wd gp nb : Int32) : Int32 × Nat × ae_S6 :=
  if n = 10 then (-4, n, q) else (nI n, n + 1, upd q.1 n k, upd q.2.1 n wd, upd q.2.2.1 n nb, upd q.2.2.2.1 n x, (if n = 0 then q.2.2.2.2.1 else upd q.2.2.2.2.1 (n - 1) gp), (if n = 0 then q.2.2.2.2.2 else upd q.2.2.2.2.2 (n - 1) 1))
def pPlank (n : Nat) (q : ae_S6) (k x m : Int32) : Int32 × Nat × ae_S6 :=
  if okP k x m then pApp n q k (x / 1000) (x - x / 1000 * 1000) (m / 10) (m - m / 10 * 10) else (-2, n, q)

theorem fMx_n1 {n : Nat} (hn : n ≤ 10) : fMx 0 (nI n - 1) = nI (n - 1) := by
  obtain _ | n := n
  · rfl
  · rw [nI_pred, fMx, Nat.add_sub_cancel]
    by_cases h : (0 : Int32) < nI n
    · rw [if_pos h]
    · rw [if_neg h]
      have : ¬ 0 < n := fun q => h (nI_lt (a := 0) q (by omega))
      rw [show n = 0 by omega]
      rfl
section L30
variable {P : ae_P} {σ : Nat → Int32} {α : Nat → Nat → Int32} {z : Int64} {t0 : ae_T} {ts : List ae_T}

theorem aw_take_in {n : Nat} {zd : Nat} (hn : n ≤ 10) : aw_X P (zd + 1) 44 [.ref 1, .ref 10, .int (nI n)] (ae_en σ α z t0 ts) (fun r H => r = none ∧ H = (ae_en (au σ [(2, (σ 7)), (3, (σ 8)), (4, (σ 9)), (5, (σ 10))]) (au α [(3, fC n (α 11) (α 3)), (4, fC n (α 12) (α 4)), (5, fC (n - 1) (α 13) (α 5)), (6, fC (n - 1) (α 14) (α 6)), (7, fC (n - 1) (α 15) (α 7))]) z t0 ts)) := by
  have e := fMx_n1 hn
  refine ⟨_, _, ⟨rfl, ?_⟩, ev_Boat_take_in (cp0 (by omega) (by omega) (by omega)) (by rw [e]; exact cp0 (by omega) (by omega) (by omega))⟩
  rw [e, nI_clamp (show n < 2 ^ 31 by omega), nI_clamp (show n - 1 < 2 ^ 31 by omega), show (0 : Int32).toNatClampNeg = 0 from rfl, fC_cpy0, fC_cpy0, fC_cpy0, fC_cpy0, fC_cpy0]
  rfl
theorem aw_take_out {n : Nat} {zd : Nat} (hn : n ≤ 10) : aw_X P (zd + 1) 44 [.ref 10, .ref 1, .int (nI n)] (ae_en σ α z t0 ts) (fun r H => r = none ∧ H = (ae_en (au σ [(7, (σ 2)), (8, (σ 3)), (9, (σ 4)), (10, (σ 5))]) (au α [(11, fC n (α 3) (α 11)), (12, fC n (α 4) (α 12)), (13, fC (n - 1) (α 5) (α 13)), (14, fC (n - 1) (α 6) (α 14)), (15, fC (n - 1) (α 7) (α 15))]) z t0 ts)) := by
  have e := fMx_n1 hn
  refine ⟨_, _, ⟨rfl, ?_⟩, ev_Boat_take_out (cp0 (by omega) (by omega) (by omega)) (by rw [e]; exact cp0 (by omega) (by omega) (by omega))⟩
  rw [e, nI_clamp (show n < 2 ^ 31 by omega), nI_clamp (show n - 1 < 2 ^ 31 by omega), show (0 : Int32).toNatClampNeg = 0 from rfl, fC_cpy0, fC_cpy0, fC_cpy0, fC_cpy0, fC_cpy0]
  rfl
theorem ev_Dried_image {n : Nat} {zd : Nat} (hn : (σ 1) = nI n) (hn10 : n ≤ 10) : aw_X P (zd + 2) 26 [.ref 0] (ae_en σ α z t0 ts) (fun r H => r = some (.int (σ 2)) ∧ H = (ae_en (au σ [(0, 1), (6, nI n), (7, (σ 2)), (8, (σ 3)), (9, (σ 4)), (10, (σ 5))]) (au α [(11, fC n (α 3) (α 11)), (12, fC n (α 4) (α 12)), (13, fC (n - 1) (α 5) (α 13)), (14, fC (n - 1) (α 6) (α 14)), (15, fC (n - 1) (α 7) (α 15))]) z t0 ts)) := by
  refine aw_ev (cd := cd_Dried_image) rfl rfl rfl ?_
  show aw_W _ _ _ _ (0, [some (.ref 0)], []) (ae_en σ α z t0 ts)
  refine aw_go 8 rfl ⟨trivial, trivial, trivial, trivial, trivial, trivial, trivial, trivial, trivial⟩ ?_
  show aw_W _ _ _ _ (8, [some (.ref 0)], [.ref 10]) (ae_en (au σ [(6, σ 1)]) α z t0 ts)
  rw [hn]
  show aw_W _ _ _ _ (8, [some (.ref 0)], [.ref 10]) (ae_en (au σ [(6, nI n)]) α z t0 ts)
  refine aw_go 5 rfl ⟨trivial, trivial, trivial, trivial, trivial, trivial⟩ ?_
  show aw_W _ _ _ _ (13, [some (.ref 0)], [.int (σ 1), .ref 1, .ref 10]) (ae_en (au σ [(6, nI n)]) α z t0 ts)
  rw [show σ 1 = nI n from hn]
  refine aw_call rfl rfl (aw_take_out (n := n) hn10) ?_
  rintro _ _ ⟨rfl, rfl⟩
  show aw_W _ _ _ _ (14, [some (.ref 0)], []) (ae_en (au σ [(6, nI n), (7, (σ 2)), (8, (σ 3)), (9, (σ 4)), (10, (σ 5))]) (au α [(11, fC n (α 3) (α 11)), (12, fC n (α 4) (α 12)), (13, fC (n - 1) (α 5) (α 13)), (14, fC (n - 1) (α 6) (α 14)), (15, fC (n - 1) (α 7) (α 15))]) z t0 ts)
  refine aw_go 6 rfl ⟨trivial, trivial, (by first | exact Or.inl rfl | exact Or.inr rfl), trivial, trivial, trivial, trivial⟩ ?_
  show aw_W _ _ _ _ (20, [some (.ref 0)], [.int (σ 2)]) (ae_en (au σ [(0, 1), (6, nI n), (7, (σ 2)), (8, (σ 3)), (9, (σ 4)), (10, (σ 5))]) (au α [(11, fC n (α 3) (α 11)), (12, fC n (α 4) (α 12)), (13, fC (n - 1) (α 5) (α 13)), (14, fC (n - 1) (α 6) (α 14)), (15, fC (n - 1) (α 7) (α 15))]) z t0 ts)
  refine aw_ret rfl rfl trivial ?_
  exact ⟨rfl, rfl⟩
theorem ev_Dried_back {n : Nat} {zd : Nat} (h0 : ¬ (σ 0) = 0) (hn : (σ 6) = nI n) (hn10 : n ≤ 10) : aw_X P (zd + 2) 27 [.ref 0] (ae_en σ α z t0 ts) (fun r H => r = some (.int (σ 7)) ∧ H = (ae_en (au σ [(2, (σ 7)), (3, (σ 8)), (4, (σ 9)), (5, (σ 10))]) (au α [(3, fC n (α 11) (α 3)), (4, fC n (α 12) (α 4)), (5, fC (n - 1) (α 13) (α 5)), (6, fC (n - 1) (α 14) (α 6)), (7, fC (n - 1) (α 15) (α 7))]) z t0 ts)) := by
  refine aw_ev (cd := cd_Dried_back) rfl rfl rfl ?_
  show aw_W _ _ _ _ (0, [some (.ref 0)], []) (ae_en σ α z t0 ts)
  refine aw_go 3 rfl ⟨trivial, trivial, trivial, trivial⟩ ?_
  show aw_W _ _ _ _ (if ¬ (σ 0) = 0 then 5 else 3, [some (.ref 0)], []) (ae_en σ α z t0 ts)
  refine aw_br (c := ¬ (σ 0) = 0) (fun h2 => ?_) (fun h2 => ?_)
  · skip
    show aw_W _ _ _ _ (5, [some (.ref 0)], []) (ae_en σ α z t0 ts)
    refine aw_go 7 rfl ⟨trivial, trivial, trivial, trivial, trivial, trivial, trivial, trivial⟩ ?_
    show aw_W _ _ _ _ (12, [some (.ref 0)], [.int (σ 6), .ref 10, .ref 1]) (ae_en σ α z t0 ts)
    rw [show σ 6 = nI n from hn]
    refine aw_call rfl rfl (aw_take_in (n := n) hn10) ?_
    rintro _ _ ⟨rfl, rfl⟩
    show aw_W _ _ _ _ (13, [some (.ref 0)], []) (ae_en (au σ [(2, (σ 7)), (3, (σ 8)), (4, (σ 9)), (5, (σ 10))]) (au α [(3, fC n (α 11) (α 3)), (4, fC n (α 12) (α 4)), (5, fC (n - 1) (α 13) (α 5)), (6, fC (n - 1) (α 14) (α 6)), (7, fC (n - 1) (α 15) (α 7))]) z t0 ts)
    refine aw_go 3 rfl ⟨trivial, trivial, trivial, trivial⟩ ?_
    show aw_W _ _ _ _ (16, [some (.ref 0)], [.int (σ 7)]) (ae_en (au σ [(2, (σ 7)), (3, (σ 8)), (4, (σ 9)), (5, (σ 10))]) (au α [(3, fC n (α 11) (α 3)), (4, fC n (α 12) (α 4)), (5, fC (n - 1) (α 13) (α 5)), (6, fC (n - 1) (α 14) (α 6)), (7, fC (n - 1) (α 15) (α 7))]) z t0 ts)
    refine aw_ret rfl rfl trivial ?_
    exact ⟨rfl, rfl⟩
  · skip
    have h2 := Classical.not_not.mp h2
    show aw_W _ _ _ _ (3, [some (.ref 0)], []) (ae_en σ α z t0 ts)
    exact absurd h2 h0
theorem ev_Dried_back_no  {zd : Nat} (h0 : (σ 0) = 0) : ae_Ev P (zd + 1) 27 [.ref 0] (ae_en σ α z t0 ts) (some (.int (-3))) (ae_en σ α z t0 ts) := by
  refine aw_evE (cd := cd_Dried_back) rfl rfl rfl ?_
  show aw_W _ _ _ _ (0, [some (.ref 0)], []) (ae_en σ α z t0 ts)
  refine aw_go 3 rfl ⟨trivial, trivial, trivial, trivial⟩ ?_
  show aw_W _ _ _ _ (if ¬ (σ 0) = 0 then 5 else 3, [some (.ref 0)], []) (ae_en σ α z t0 ts)
  refine aw_br (c := ¬ (σ 0) = 0) (fun h2 => ?_) (fun h2 => ?_)
  · skip
    show aw_W _ _ _ _ (5, [some (.ref 0)], []) (ae_en σ α z t0 ts)
    exact absurd h0 h2
  · skip
    have h2 := Classical.not_not.mp h2
    show aw_W _ _ _ _ (3, [some (.ref 0)], []) (ae_en σ α z t0 ts)
    refine aw_go 1 rfl ⟨trivial, trivial⟩ ?_
    refine aw_ret rfl rfl trivial ?_
    refine ⟨?_, rfl⟩
    rfl
theorem lp_air {zd : Nat} {n : Nat} {B : ae_B} {N : Nat} {w wd : Int32} {wt wr nv ra rb rc : Nat → Int32} (hC : cOk B n (σ 1) (σ 3) (σ 5) (σ 15) (α 0) (α 1) (α 2) t0 ts) (hN60 : N ≤ 60) (k : Nat) (hk : k ≤ N) : aw_W P (zd + 7) cd_Dried_air (fun r H => ∃ (w : Int32) (wd : Int32) (wt : Nat → Int32) (wr : Nat → Int32) (nv : Nat → Int32) (ra : Nat → Int32) (rb : Nat → Int32) (rc : Nat → Int32), r = some (.int ((dryN B n (α 3) (σ 2) N).2)) ∧ H = (ae_en (au σ [(2, (dryN B n (α 3) (σ 2) N).2), (16, w), (17, wd)]) (au α [(3, (dryN B n (α 3) (σ 2) N).1), (21, wt), (22, wr), (23, nv), (24, ra), (25, rb), (26, rc)]) z t0 ts)) (10, [some (.ref 0), some (.int (nI N)), some (.int (nI k))], []) (ae_en (au σ [(2, (dryN B n (α 3) (σ 2) k).2), (16, w), (17, wd)]) (au α [(3, (dryN B n (α 3) (σ 2) k).1), (21, wt), (22, wr), (23, nv), (24, ra), (25, rb), (26, rc)]) z t0 ts) := by
  refine aw_go 3 rfl ⟨trivial, trivial, trivial, trivial⟩ ?_
  refine aw_br (c := (nI N) ≤ (nI k)) (fun h12 => ?_) (fun h12 => ?_)
  · skip
    have h12 := cI_leT (a := N) (b := k) rfl rfl (by omega) (by omega) h12
    show aw_W _ _ _ _ (18, [some (.ref 0), some (.int (nI N)), some (.int (nI k))], []) (ae_en (au σ [(2, (dryN B n (α 3) (σ 2) k).2), (16, w), (17, wd)]) (au α [(3, (dryN B n (α 3) (σ 2) k).1), (21, wt), (22, wr), (23, nv), (24, ra), (25, rb), (26, rc)]) z t0 ts)
    have e8 : k = N := by omega
    refine aw_go 3 rfl ⟨trivial, trivial, trivial, trivial⟩ ?_
    show aw_W _ _ _ _ (21, [some (.ref 0), some (.int (nI N)), some (.int (nI k))], [.int ((dryN B n (α 3) (σ 2) k).2)]) (ae_en (au σ [(2, (dryN B n (α 3) (σ 2) k).2), (16, w), (17, wd)]) (au α [(3, (dryN B n (α 3) (σ 2) k).1), (21, wt), (22, wr), (23, nv), (24, ra), (25, rb), (26, rc)]) z t0 ts)
    refine aw_ret rfl rfl trivial ?_
    rw [e8]
    exact ⟨w, wd, wt, wr, nv, ra, rb, rc, rfl, rfl⟩
  · skip
    have h12 := cI_leF (a := N) (b := k) rfl rfl (by omega) (by omega) h12
    show aw_W _ _ _ _ (13, [some (.ref 0), some (.int (nI N)), some (.int (nI k))], []) (ae_en (au σ [(2, (dryN B n (α 3) (σ 2) k).2), (16, w), (17, wd)]) (au α [(3, (dryN B n (α 3) (σ 2) k).1), (21, wt), (22, wr), (23, nv), (24, ra), (25, rb), (26, rc)]) z t0 ts)
    refine aw_go 2 rfl ⟨trivial, trivial, trivial⟩ ?_
    show aw_W _ _ _ _ (15, [some (.ref 0), some (.int (nI N)), some (.int (nI k))], [.ref 28]) (ae_en (au σ [(2, (dryN B n (α 3) (σ 2) k).2), (16, w), (17, wd)]) (au α [(3, (dryN B n (α 3) (σ 2) k).1), (21, wt), (22, wr), (23, nv), (24, ra), (25, rb), (26, rc)]) z t0 ts)
    refine aw_call rfl rfl (ev_Forecast_dryOneDay  hC) ?_
    rintro _ _ ⟨w_15, wt_15, wr_15, nv_15, ra_15, rb_15, rc_15, rfl, rfl⟩
    show aw_W _ _ _ _ (16, [some (.ref 0), some (.int (nI N)), some (.int (nI k))], []) (ae_en (au σ [(2, fMn 9999 (((dryN B n (α 3) (σ 2) k).2) + 1)), (16, w_15), (17, nI 0)]) (au α [(3, fC n (fun p => fMx 0 (((dryN B n (α 3) (σ 2) k).1) p - gDr B n ((dryN B n (α 3) (σ 2) k).1) (dyA ((dryN B n (α 3) (σ 2) k).2) 0) p)) ((dryN B n (α 3) (σ 2) k).1)), (21, wt_15), (22, wr_15), (23, nv_15), (24, ra_15), (25, rb_15), (26, rc_15)]) z t0 ts)
    refine aw_go 2 rfl ⟨trivial, trivial, trivial⟩ ?_
    show aw_W _ _ _ _ (10, [some (.ref 0), some (.int (nI N)), some (.int ((nI k) + 1))], []) (ae_en (au σ [(2, fMn 9999 (((dryN B n (α 3) (σ 2) k).2) + 1)), (16, w_15), (17, nI 0)]) (au α [(3, fC n (fun p => fMx 0 (((dryN B n (α 3) (σ 2) k).1) p - gDr B n ((dryN B n (α 3) (σ 2) k).1) (dyA ((dryN B n (α 3) (σ 2) k).2) 0) p)) ((dryN B n (α 3) (σ 2) k).1)), (21, wt_15), (22, wr_15), (23, nv_15), (24, ra_15), (25, rb_15), (26, rc_15)]) z t0 ts)
    rw [show (nI k) + 1 = nI (k + 1) from (cI_add (a := k) (b := 1) rfl rfl)]
    exact lp_air hC hN60 (k + 1) (by omega)
termination_by N - k
decreasing_by all_goals omega
theorem ev_Dried_air {n : Nat} {B : ae_B} {N : Nat} {zd : Nat} (hC : cOk B n (σ 1) (σ 3) (σ 5) (σ 15) (α 0) (α 1) (α 2) t0 ts) (hN1 : 1 ≤ N) (hN60 : N ≤ 60) : aw_X P (zd + 8) 16 [.ref 0, .int (nI N)] (ae_en σ α z t0 ts) (fun r H => ∃ (w : Int32) (wd : Int32) (wt : Nat → Int32) (wr : Nat → Int32) (nv : Nat → Int32) (ra : Nat → Int32) (rb : Nat → Int32) (rc : Nat → Int32), r = some (.int ((dryN B n (α 3) (σ 2) N).2)) ∧ H = (ae_en (au σ [(2, (dryN B n (α 3) (σ 2) N).2), (16, w), (17, wd)]) (au α [(3, (dryN B n (α 3) (σ 2) N).1), (21, wt), (22, wr), (23, nv), (24, ra), (25, rb), (26, rc)]) z t0 ts)) := by
  obtain ⟨hn, hn10, hs3, hk0, hk1, hk2, hr⟩ := id hC
  refine aw_ev (cd := cd_Dried_air) rfl rfl rfl ?_
  show aw_W _ _ _ _ (0, [some (.ref 0), some (.int (nI N)), none], []) (ae_en σ α z t0 ts)
  refine aw_go 3 rfl ⟨trivial, trivial, trivial, trivial⟩ ?_
  refine aw_br (c := (nI N) < 1) (fun h2 => ?_) (fun h2 => ?_)
  · skip
    have h2 := cI_ltT (a := N) (b := 1) rfl rfl (by omega) (by omega) h2
    show aw_W _ _ _ _ (6, [some (.ref 0), some (.int (nI N)), none], []) (ae_en σ α z t0 ts)
    exact absurd h2 (by omega)
  · skip
    have h2 := cI_ltF (a := N) (b := 1) rfl rfl (by omega) (by omega) h2
    show aw_W _ _ _ _ (3, [some (.ref 0), some (.int (nI N)), none], []) (ae_en σ α z t0 ts)
    refine aw_go 3 rfl ⟨trivial, trivial, trivial, trivial⟩ ?_
    refine aw_br (c := (nI N) ≤ 60) (fun h5 => ?_) (fun h5 => ?_)
    · skip
      have h5 := cI_leT (a := N) (b := 60) rfl rfl (by omega) (by omega) h5
      show aw_W _ _ _ _ (8, [some (.ref 0), some (.int (nI N)), none], []) (ae_en σ α z t0 ts)
      refine aw_go 2 rfl ⟨trivial, trivial, trivial⟩ ?_
      exact aw_to (lp_air (w := σ 16) (wd := σ 17) (wt := α 21) (wr := α 22) (nv := α 23) (ra := α 24) (rb := α 25) (rc := α 26) hC hN60 0 (Nat.zero_le _)) rfl rfl
    · skip
      have h5 := cI_leF (a := N) (b := 60) rfl rfl (by omega) (by omega) h5
      show aw_W _ _ _ _ (6, [some (.ref 0), some (.int (nI N)), none], []) (ae_en σ α z t0 ts)
      exact absurd h5 (by omega)
theorem ev_Dried_air_bad {x : Int32} {zd : Nat} (hx : ¬ (1 ≤ x ∧ x ≤ 60)) : ae_Ev P (zd + 1) 16 [.ref 0, .int x] (ae_en σ α z t0 ts) (some (.int (-2))) (ae_en σ α z t0 ts) := by
  refine aw_evE (cd := cd_Dried_air) rfl rfl rfl ?_
  show aw_W _ _ _ _ (0, [some (.ref 0), some (.int x), none], []) (ae_en σ α z t0 ts)
  refine aw_go 3 rfl ⟨trivial, trivial, trivial, trivial⟩ ?_
  refine aw_br (c := x < 1) (fun h2 => ?_) (fun h2 => ?_)
  · skip
    show aw_W _ _ _ _ (6, [some (.ref 0), some (.int x), none], []) (ae_en σ α z t0 ts)
    refine aw_go 1 rfl ⟨trivial, trivial⟩ ?_
    refine aw_ret rfl rfl trivial ?_
    refine ⟨?_, rfl⟩
    rfl
  · skip
    show aw_W _ _ _ _ (3, [some (.ref 0), some (.int x), none], []) (ae_en σ α z t0 ts)
    refine aw_go 3 rfl ⟨trivial, trivial, trivial, trivial⟩ ?_
    refine aw_br (c := x ≤ 60) (fun h5 => ?_) (fun h5 => ?_)
    · skip
      show aw_W _ _ _ _ (8, [some (.ref 0), some (.int x), none], []) (ae_en σ α z t0 ts)
      exact absurd ⟨Int32.not_lt.mp h2, h5⟩ hx
    · skip
      show aw_W _ _ _ _ (6, [some (.ref 0), some (.int x), none], []) (ae_en σ α z t0 ts)
      refine aw_go 1 rfl ⟨trivial, trivial⟩ ?_
      refine aw_ret rfl rfl trivial ?_
      refine ⟨?_, rfl⟩
      rfl
theorem ev_Dried_count {n : Nat} {B : ae_B} {what : Int32} {zd : Nat} (hC : cOk B n (σ 1) (σ 3) (σ 5) (σ 15) (α 0) (α 1) (α 2) t0 ts) : aw_X P (zd + 7) 28 [.ref 0, .int what] (ae_en σ α z t0 ts) (fun r H => ∃ (w : Int32) (wd : Int32) (wt : Nat → Int32) (wr : Nat → Int32) (nv : Nat → Int32) (ra : Nat → Int32) (rb : Nat → Int32) (rc : Nat → Int32), r = some (.int (aCount (σ 1) (rON B (α 3) (α 5) (α 6) (n - 1)) (sumF (α 7) (n - 1)) (σ 2) (σ 15) (σ 11) (σ 5) (σ 3) (σ 4) (sumF (α 4) n) what)) ∧ H = (ae_en (au σ [(16, w), (17, wd)]) (au α [(21, wt), (22, wr), (23, nv), (24, ra), (25, rb), (26, rc)]) z t0 ts)) := by
  obtain ⟨hn, hn10, hs3, hk0, hk1, hk2, hr⟩ := id hC
  refine aw_ev (cd := cd_Dried_count) rfl rfl rfl ?_
  show aw_W _ _ _ _ (0, [some (.ref 0), some (.int what)], []) (ae_en σ α z t0 ts)
  refine aw_go 2 rfl ⟨trivial, trivial, trivial⟩ ?_
  refine aw_sw (x := what) (fun h1_0 => ?_) (fun h1_0 => ?_)
  · skip
    show aw_W _ _ _ _ (2, [some (.ref 0), some (.int what)], []) (ae_en σ α z t0 ts)
    refine aw_go 3 rfl ⟨trivial, trivial, trivial, trivial⟩ ?_
    show aw_W _ _ _ _ (5, [some (.ref 0), some (.int what)], [.int (σ 1)]) (ae_en σ α z t0 ts)
    refine aw_ret rfl rfl trivial ?_
    refine ⟨σ 16, σ 17, α 21, α 22, α 23, α 24, α 25, α 26, ?_, rfl⟩
    rw [aCount, if_pos h1_0]
    all_goals rfl
  refine aw_sw (x := what) (fun h1_1 => ?_) (fun h1_1 => ?_)
  · skip
    show aw_W _ _ _ _ (6, [some (.ref 0), some (.int what)], []) (ae_en σ α z t0 ts)
    refine aw_go 3 rfl ⟨trivial, trivial, trivial, trivial⟩ ?_
    show aw_W _ _ _ _ (9, [some (.ref 0), some (.int what)], [.int 0, .ref 28]) (ae_en σ α z t0 ts)
    refine aw_call rfl rfl (ev_Forecast_look (N := 0) hC (by decide) rfl) ?_
    rintro _ _ ⟨w_9, wt_9, wr_9, nv_9, ra_9, rb_9, rc_9, rfl, rfl, hW_9, hL_9⟩
    show aw_W _ _ _ _ (10, [some (.ref 0), some (.int what)], []) (ae_en (au σ [(16, w_9), (17, nI 0)]) (au α [(21, wt_9), (22, wr_9), (23, nv_9), (24, ra_9), (25, rb_9), (26, rc_9)]) z t0 ts)
    refine aw_go 3 rfl ⟨trivial, trivial, trivial, trivial⟩ ?_
    show aw_W _ _ _ _ (13, [some (.ref 0), some (.int what)], [.int 0, .ref 28]) (ae_en (au σ [(16, w_9), (17, nI 0)]) (au α [(21, wt_9), (22, wr_9), (23, nv_9), (24, ra_9), (25, rb_9), (26, rc_9)]) z t0 ts)
    refine aw_callE rfl rfl (ev_Forecast_openGaps (d := 0) hC hW_9 (by decide) hL_9 (Nat.le_refl _)) ?_
    show aw_W _ _ _ _ (14, [some (.ref 0), some (.int what)], [.int (gON B 0 (wD B n (α 3) (σ 2)) (α 5) (α 6) (α 7) 0 (n - 1))]) (ae_en (au σ [(16, w_9), (17, nI 0)]) (au α [(21, wt_9), (22, wr_9), (23, nv_9), (24, ra_9), (25, rb_9), (26, rc_9)]) z t0 ts)
    refine aw_ret rfl rfl trivial ?_
    refine ⟨w_9, nI 0, wt_9, wr_9, nv_9, ra_9, rb_9, rc_9, ?_, rfl⟩
    rw [aCount, if_neg h1_0, if_pos h1_1, gON_0]
    all_goals rfl
  refine aw_sw (x := what) (fun h1_2 => ?_) (fun h1_2 => ?_)
  · skip
    show aw_W _ _ _ _ (15, [some (.ref 0), some (.int what)], []) (ae_en σ α z t0 ts)
    refine aw_go 2 rfl ⟨trivial, trivial, trivial⟩ ?_
    show aw_W _ _ _ _ (17, [some (.ref 0), some (.int what)], [.ref 1]) (ae_en σ α z t0 ts)
    refine aw_callE rfl rfl (ev_Boat_fastGaps  hn hn10) ?_
    show aw_W _ _ _ _ (18, [some (.ref 0), some (.int what)], [.int (sumF (α 7) (n - 1))]) (ae_en σ α z t0 ts)
    refine aw_ret rfl rfl trivial ?_
    refine ⟨σ 16, σ 17, α 21, α 22, α 23, α 24, α 25, α 26, ?_, rfl⟩
    rw [aCount, if_neg h1_0, if_neg h1_1, if_pos h1_2]
    all_goals rfl
  refine aw_sw (x := what) (fun h1_3 => ?_) (fun h1_3 => ?_)
  · skip
    show aw_W _ _ _ _ (19, [some (.ref 0), some (.int what)], []) (ae_en σ α z t0 ts)
    refine aw_go 3 rfl ⟨trivial, trivial, trivial, trivial⟩ ?_
    show aw_W _ _ _ _ (22, [some (.ref 0), some (.int what)], [.int (σ 2)]) (ae_en σ α z t0 ts)
    refine aw_ret rfl rfl trivial ?_
    refine ⟨σ 16, σ 17, α 21, α 22, α 23, α 24, α 25, α 26, ?_, rfl⟩
    rw [aCount, if_neg h1_0, if_neg h1_1, if_neg h1_2, if_pos h1_3]
    all_goals rfl
  refine aw_sw (x := what) (fun h1_4 => ?_) (fun h1_4 => ?_)
  · skip
    show aw_W _ _ _ _ (23, [some (.ref 0), some (.int what)], []) (ae_en σ α z t0 ts)
    refine aw_go 3 rfl ⟨trivial, trivial, trivial, trivial⟩ ?_
    show aw_W _ _ _ _ (26, [some (.ref 0), some (.int what)], [.int (σ 15)]) (ae_en σ α z t0 ts)
    refine aw_ret rfl rfl trivial ?_
    refine ⟨σ 16, σ 17, α 21, α 22, α 23, α 24, α 25, α 26, ?_, rfl⟩
    rw [aCount, if_neg h1_0, if_neg h1_1, if_neg h1_2, if_neg h1_3, if_pos h1_4]
    all_goals rfl
  refine aw_sw (x := what) (fun h1_5 => ?_) (fun h1_5 => ?_)
  · skip
    show aw_W _ _ _ _ (27, [some (.ref 0), some (.int what)], []) (ae_en σ α z t0 ts)
    refine aw_go 3 rfl ⟨trivial, trivial, trivial, trivial⟩ ?_
    show aw_W _ _ _ _ (30, [some (.ref 0), some (.int what)], [.int (σ 11)]) (ae_en σ α z t0 ts)
    refine aw_ret rfl rfl trivial ?_
    refine ⟨σ 16, σ 17, α 21, α 22, α 23, α 24, α 25, α 26, ?_, rfl⟩
    rw [aCount, if_neg h1_0, if_neg h1_1, if_neg h1_2, if_neg h1_3, if_neg h1_4, if_pos h1_5]
    all_goals rfl
  refine aw_sw (x := what) (fun h1_6 => ?_) (fun h1_6 => ?_)
  · skip
    show aw_W _ _ _ _ (31, [some (.ref 0), some (.int what)], []) (ae_en σ α z t0 ts)
    refine aw_go 3 rfl ⟨trivial, trivial, trivial, trivial⟩ ?_
    show aw_W _ _ _ _ (34, [some (.ref 0), some (.int what)], [.int (σ 5)]) (ae_en σ α z t0 ts)
    refine aw_ret rfl rfl trivial ?_
    refine ⟨σ 16, σ 17, α 21, α 22, α 23, α 24, α 25, α 26, ?_, rfl⟩
    rw [aCount, if_neg h1_0, if_neg h1_1, if_neg h1_2, if_neg h1_3, if_neg h1_4, if_neg h1_5, if_pos h1_6]
    all_goals rfl
  refine aw_sw (x := what) (fun h1_7 => ?_) (fun h1_7 => ?_)
  · skip
    show aw_W _ _ _ _ (35, [some (.ref 0), some (.int what)], []) (ae_en σ α z t0 ts)
    refine aw_go 3 rfl ⟨trivial, trivial, trivial, trivial⟩ ?_
    show aw_W _ _ _ _ (38, [some (.ref 0), some (.int what)], [.int (σ 3)]) (ae_en σ α z t0 ts)
    refine aw_ret rfl rfl trivial ?_
    refine ⟨σ 16, σ 17, α 21, α 22, α 23, α 24, α 25, α 26, ?_, rfl⟩
    rw [aCount, if_neg h1_0, if_neg h1_1, if_neg h1_2, if_neg h1_3, if_neg h1_4, if_neg h1_5, if_neg h1_6, if_pos h1_7]
    all_goals rfl
  refine aw_sw (x := what) (fun h1_8 => ?_) (fun h1_8 => ?_)
  · skip
    show aw_W _ _ _ _ (39, [some (.ref 0), some (.int what)], []) (ae_en σ α z t0 ts)
    refine aw_go 3 rfl ⟨trivial, trivial, trivial, trivial⟩ ?_
    show aw_W _ _ _ _ (42, [some (.ref 0), some (.int what)], [.int (σ 4)]) (ae_en σ α z t0 ts)
    refine aw_ret rfl rfl trivial ?_
    refine ⟨σ 16, σ 17, α 21, α 22, α 23, α 24, α 25, α 26, ?_, rfl⟩
    rw [aCount, if_neg h1_0, if_neg h1_1, if_neg h1_2, if_neg h1_3, if_neg h1_4, if_neg h1_5, if_neg h1_6, if_neg h1_7, if_pos h1_8]
    all_goals rfl
  refine aw_sw (x := what) (fun h1_9 => ?_) (fun h1_9 => ?_)
  · skip
    show aw_W _ _ _ _ (43, [some (.ref 0), some (.int what)], []) (ae_en σ α z t0 ts)
    refine aw_go 2 rfl ⟨trivial, trivial, trivial⟩ ?_
    show aw_W _ _ _ _ (45, [some (.ref 0), some (.int what)], [.ref 1]) (ae_en σ α z t0 ts)
    refine aw_callE rfl rfl (ev_Boat_allNails  hn hn10) ?_
    show aw_W _ _ _ _ (46, [some (.ref 0), some (.int what)], [.int (sumF (α 4) n)]) (ae_en σ α z t0 ts)
    refine aw_ret rfl rfl trivial ?_
    refine ⟨σ 16, σ 17, α 21, α 22, α 23, α 24, α 25, α 26, ?_, rfl⟩
    rw [aCount, if_neg h1_0, if_neg h1_1, if_neg h1_2, if_neg h1_3, if_neg h1_4, if_neg h1_5, if_neg h1_6, if_neg h1_7, if_neg h1_8, if_pos h1_9]
    all_goals rfl
  show aw_W _ _ _ _ (47, [some (.ref 0), some (.int what)], []) (ae_en σ α z t0 ts)
  refine aw_go 1 rfl ⟨trivial, trivial⟩ ?_
  refine aw_ret rfl rfl trivial ?_
  refine ⟨σ 16, σ 17, α 21, α 22, α 23, α 24, α 25, α 26, ?_, rfl⟩
  rw [aCount, if_neg h1_0, if_neg h1_1, if_neg h1_2, if_neg h1_3, if_neg h1_4, if_neg h1_5, if_neg h1_6, if_neg h1_7, if_neg h1_8, if_neg h1_9]
  all_goals rfl
theorem ev_change_wet {sz : Nat} {o v m : Int32} {zd : Nat} (hsz : sz < 11) (hlen : sz ≤ 10) : aw_X P (zd + 1) 3 [.ref 5, .int (nI sz), .int o, .int v, .int m] (ae_en σ α z t0 ts) (fun r H => r = some (.int ((pCh sz m (α 3) o v).1)) ∧ H = (ae_en σ (au α [(3, (pCh sz m (α 3) o v).2)]) z t0 ts)) := by
  refine aw_ev (cd := cd_Dried_change) rfl rfl rfl ?_
  show aw_W _ _ _ _ (0, [some (.ref 5), some (.int (nI sz)), some (.int o), some (.int v), some (.int m), none], []) (ae_en σ α z t0 ts)
  refine aw_go 2 rfl ⟨trivial, trivial, trivial⟩ ?_
  refine aw_br (c := o < 0) (fun h1 => ?_) (fun h1 => ?_)
  · skip
    show aw_W _ _ _ _ (10, [some (.ref 5), some (.int (nI sz)), some (.int o), some (.int v), some (.int m), none], []) (ae_en σ α z t0 ts)
    refine aw_go 1 rfl ⟨trivial, trivial⟩ ?_
    refine aw_ret rfl rfl trivial ?_
    have e : pCh sz m (α 3) o v = (-2, (α 3)) := if_neg (fun q => q.1.1 h1)
    rw [e]
    exact ⟨rfl, rfl⟩
  · skip
    show aw_W _ _ _ _ (2, [some (.ref 5), some (.int (nI sz)), some (.int o), some (.int v), some (.int m), none], []) (ae_en σ α z t0 ts)
    refine aw_go 3 rfl ⟨trivial, trivial, trivial, trivial⟩ ?_
    refine aw_br (c := (nI sz) ≤ o) (fun h4 => ?_) (fun h4 => ?_)
    · skip
      show aw_W _ _ _ _ (10, [some (.ref 5), some (.int (nI sz)), some (.int o), some (.int v), some (.int m), none], []) (ae_en σ α z t0 ts)
      refine aw_go 1 rfl ⟨trivial, trivial⟩ ?_
      refine aw_ret rfl rfl trivial ?_
      have e : pCh sz m (α 3) o v = (-2, (α 3)) := if_neg (fun q => iP_not h1 h4 (by omega) q.1)
      rw [e]
      exact ⟨rfl, rfl⟩
    · skip
      show aw_W _ _ _ _ (5, [some (.ref 5), some (.int (nI sz)), some (.int o), some (.int v), some (.int m), none], []) (ae_en σ α z t0 ts)
      refine aw_go 2 rfl ⟨trivial, trivial, trivial⟩ ?_
      refine aw_br (c := v < 0) (fun h6 => ?_) (fun h6 => ?_)
      · skip
        show aw_W _ _ _ _ (10, [some (.ref 5), some (.int (nI sz)), some (.int o), some (.int v), some (.int m), none], []) (ae_en σ α z t0 ts)
        refine aw_go 1 rfl ⟨trivial, trivial⟩ ?_
        refine aw_ret rfl rfl trivial ?_
        have e : pCh sz m (α 3) o v = (-2, (α 3)) := if_neg (fun q => q.2.1 h6)
        rw [e]
        exact ⟨rfl, rfl⟩
      · skip
        show aw_W _ _ _ _ (7, [some (.ref 5), some (.int (nI sz)), some (.int o), some (.int v), some (.int m), none], []) (ae_en σ α z t0 ts)
        refine aw_go 3 rfl ⟨trivial, trivial, trivial, trivial⟩ ?_
        refine aw_br (c := v ≤ m) (fun h9 => ?_) (fun h9 => ?_)
        · skip
          show aw_W _ _ _ _ (12, [some (.ref 5), some (.int (nI sz)), some (.int o), some (.int v), some (.int m), none], []) (ae_en σ α z t0 ts)
          refine aw_go 9 rfl ⟨trivial, trivial, (by obtain ⟨j, hj, rfl⟩ := iP_of (iP_yes h1 (Int32.not_le.mpr (Int32.not_le.mp h4)) (by omega)) (by omega); exact vp_in_nI (by omega) (by omega)), trivial, trivial, trivial, trivial, (by obtain ⟨j, hj, rfl⟩ := iP_of (iP_yes h1 (Int32.not_le.mpr (Int32.not_le.mp h4)) (by omega)) (by omega); exact vp_in_nI (by omega) (by omega)), trivial, trivial⟩ ?_
          show aw_W _ _ _ _ (21, [some (.ref 5), some (.int (nI sz)), some (.int o), some (.int v), some (.int m), some (.int (α 3 (o.toNatClampNeg)))], [.int (α 3 (o.toNatClampNeg))]) (ae_en σ (au α [(3, upd (α 3) (o.toNatClampNeg) v)]) z t0 ts)
          refine aw_ret rfl rfl trivial ?_
          have e : pCh sz m (α 3) o v = ((α 3) o.toNatClampNeg, upd (α 3) o.toNatClampNeg v) := if_pos ⟨iP_yes h1 h4 (by omega), h6, Int32.not_lt.mpr h9⟩
          rw [e]
          exact ⟨rfl, rfl⟩
        · skip
          show aw_W _ _ _ _ (10, [some (.ref 5), some (.int (nI sz)), some (.int o), some (.int v), some (.int m), none], []) (ae_en σ α z t0 ts)
          refine aw_go 1 rfl ⟨trivial, trivial⟩ ?_
          refine aw_ret rfl rfl trivial ?_
          have e : pCh sz m (α 3) o v = (-2, (α 3)) := if_neg (fun q => q.2.2 (Int32.not_le.mp h9))
          rw [e]
          exact ⟨rfl, rfl⟩
theorem ev_change_nailed {sz : Nat} {o v m : Int32} {zd : Nat} (hsz : sz < 11) (hlen : sz ≤ 10) : aw_X P (zd + 1) 3 [.ref 6, .int (nI sz), .int o, .int v, .int m] (ae_en σ α z t0 ts) (fun r H => r = some (.int ((pCh sz m (α 4) o v).1)) ∧ H = (ae_en σ (au α [(4, (pCh sz m (α 4) o v).2)]) z t0 ts)) := by
  refine aw_ev (cd := cd_Dried_change) rfl rfl rfl ?_
  show aw_W _ _ _ _ (0, [some (.ref 6), some (.int (nI sz)), some (.int o), some (.int v), some (.int m), none], []) (ae_en σ α z t0 ts)
  refine aw_go 2 rfl ⟨trivial, trivial, trivial⟩ ?_
  refine aw_br (c := o < 0) (fun h1 => ?_) (fun h1 => ?_)
  · skip
    show aw_W _ _ _ _ (10, [some (.ref 6), some (.int (nI sz)), some (.int o), some (.int v), some (.int m), none], []) (ae_en σ α z t0 ts)
    refine aw_go 1 rfl ⟨trivial, trivial⟩ ?_
    refine aw_ret rfl rfl trivial ?_
    have e : pCh sz m (α 4) o v = (-2, (α 4)) := if_neg (fun q => q.1.1 h1)
    rw [e]
    exact ⟨rfl, rfl⟩
  · skip
    show aw_W _ _ _ _ (2, [some (.ref 6), some (.int (nI sz)), some (.int o), some (.int v), some (.int m), none], []) (ae_en σ α z t0 ts)
    refine aw_go 3 rfl ⟨trivial, trivial, trivial, trivial⟩ ?_
    refine aw_br (c := (nI sz) ≤ o) (fun h4 => ?_) (fun h4 => ?_)
    · skip
      show aw_W _ _ _ _ (10, [some (.ref 6), some (.int (nI sz)), some (.int o), some (.int v), some (.int m), none], []) (ae_en σ α z t0 ts)
      refine aw_go 1 rfl ⟨trivial, trivial⟩ ?_
      refine aw_ret rfl rfl trivial ?_
      have e : pCh sz m (α 4) o v = (-2, (α 4)) := if_neg (fun q => iP_not h1 h4 (by omega) q.1)
      rw [e]
      exact ⟨rfl, rfl⟩
    · skip
      show aw_W _ _ _ _ (5, [some (.ref 6), some (.int (nI sz)), some (.int o), some (.int v), some (.int m), none], []) (ae_en σ α z t0 ts)
      refine aw_go 2 rfl ⟨trivial, trivial, trivial⟩ ?_
      refine aw_br (c := v < 0) (fun h6 => ?_) (fun h6 => ?_)
      · skip
        show aw_W _ _ _ _ (10, [some (.ref 6), some (.int (nI sz)), some (.int o), some (.int v), some (.int m), none], []) (ae_en σ α z t0 ts)
        refine aw_go 1 rfl ⟨trivial, trivial⟩ ?_
        refine aw_ret rfl rfl trivial ?_
        have e : pCh sz m (α 4) o v = (-2, (α 4)) := if_neg (fun q => q.2.1 h6)
        rw [e]
        exact ⟨rfl, rfl⟩
      · skip
        show aw_W _ _ _ _ (7, [some (.ref 6), some (.int (nI sz)), some (.int o), some (.int v), some (.int m), none], []) (ae_en σ α z t0 ts)
        refine aw_go 3 rfl ⟨trivial, trivial, trivial, trivial⟩ ?_
        refine aw_br (c := v ≤ m) (fun h9 => ?_) (fun h9 => ?_)
        · skip
          show aw_W _ _ _ _ (12, [some (.ref 6), some (.int (nI sz)), some (.int o), some (.int v), some (.int m), none], []) (ae_en σ α z t0 ts)
          refine aw_go 9 rfl ⟨trivial, trivial, (by obtain ⟨j, hj, rfl⟩ := iP_of (iP_yes h1 (Int32.not_le.mpr (Int32.not_le.mp h4)) (by omega)) (by omega); exact vp_in_nI (by omega) (by omega)), trivial, trivial, trivial, trivial, (by obtain ⟨j, hj, rfl⟩ := iP_of (iP_yes h1 (Int32.not_le.mpr (Int32.not_le.mp h4)) (by omega)) (by omega); exact vp_in_nI (by omega) (by omega)), trivial, trivial⟩ ?_
          show aw_W _ _ _ _ (21, [some (.ref 6), some (.int (nI sz)), some (.int o), some (.int v), some (.int m), some (.int (α 4 (o.toNatClampNeg)))], [.int (α 4 (o.toNatClampNeg))]) (ae_en σ (au α [(4, upd (α 4) (o.toNatClampNeg) v)]) z t0 ts)
          refine aw_ret rfl rfl trivial ?_
          have e : pCh sz m (α 4) o v = ((α 4) o.toNatClampNeg, upd (α 4) o.toNatClampNeg v) := if_pos ⟨iP_yes h1 h4 (by omega), h6, Int32.not_lt.mpr h9⟩
          rw [e]
          exact ⟨rfl, rfl⟩
        · skip
          show aw_W _ _ _ _ (10, [some (.ref 6), some (.int (nI sz)), some (.int o), some (.int v), some (.int m), none], []) (ae_en σ α z t0 ts)
          refine aw_go 1 rfl ⟨trivial, trivial⟩ ?_
          refine aw_ret rfl rfl trivial ?_
          have e : pCh sz m (α 4) o v = (-2, (α 4)) := if_neg (fun q => q.2.2 (Int32.not_le.mp h9))
          rw [e]
          exact ⟨rfl, rfl⟩
theorem ev_change_wide {sz : Nat} {o v m : Int32} {zd : Nat} (hsz : sz < 11) (hlen : sz ≤ 9) : aw_X P (zd + 1) 3 [.ref 7, .int (nI sz), .int o, .int v, .int m] (ae_en σ α z t0 ts) (fun r H => r = some (.int ((pCh sz m (α 5) o v).1)) ∧ H = (ae_en σ (au α [(5, (pCh sz m (α 5) o v).2)]) z t0 ts)) := by
  refine aw_ev (cd := cd_Dried_change) rfl rfl rfl ?_
  show aw_W _ _ _ _ (0, [some (.ref 7), some (.int (nI sz)), some (.int o), some (.int v), some (.int m), none], []) (ae_en σ α z t0 ts)
  refine aw_go 2 rfl ⟨trivial, trivial, trivial⟩ ?_
  refine aw_br (c := o < 0) (fun h1 => ?_) (fun h1 => ?_)
  · skip
    show aw_W _ _ _ _ (10, [some (.ref 7), some (.int (nI sz)), some (.int o), some (.int v), some (.int m), none], []) (ae_en σ α z t0 ts)
    refine aw_go 1 rfl ⟨trivial, trivial⟩ ?_
    refine aw_ret rfl rfl trivial ?_
    have e : pCh sz m (α 5) o v = (-2, (α 5)) := if_neg (fun q => q.1.1 h1)
    rw [e]
    exact ⟨rfl, rfl⟩
  · skip
    show aw_W _ _ _ _ (2, [some (.ref 7), some (.int (nI sz)), some (.int o), some (.int v), some (.int m), none], []) (ae_en σ α z t0 ts)
    refine aw_go 3 rfl ⟨trivial, trivial, trivial, trivial⟩ ?_
    refine aw_br (c := (nI sz) ≤ o) (fun h4 => ?_) (fun h4 => ?_)
    · skip
      show aw_W _ _ _ _ (10, [some (.ref 7), some (.int (nI sz)), some (.int o), some (.int v), some (.int m), none], []) (ae_en σ α z t0 ts)
      refine aw_go 1 rfl ⟨trivial, trivial⟩ ?_
      refine aw_ret rfl rfl trivial ?_
      have e : pCh sz m (α 5) o v = (-2, (α 5)) := if_neg (fun q => iP_not h1 h4 (by omega) q.1)
      rw [e]
      exact ⟨rfl, rfl⟩
    · skip
      show aw_W _ _ _ _ (5, [some (.ref 7), some (.int (nI sz)), some (.int o), some (.int v), some (.int m), none], []) (ae_en σ α z t0 ts)
      refine aw_go 2 rfl ⟨trivial, trivial, trivial⟩ ?_
      refine aw_br (c := v < 0) (fun h6 => ?_) (fun h6 => ?_)
      · skip
        show aw_W _ _ _ _ (10, [some (.ref 7), some (.int (nI sz)), some (.int o), some (.int v), some (.int m), none], []) (ae_en σ α z t0 ts)
        refine aw_go 1 rfl ⟨trivial, trivial⟩ ?_
        refine aw_ret rfl rfl trivial ?_
        have e : pCh sz m (α 5) o v = (-2, (α 5)) := if_neg (fun q => q.2.1 h6)
        rw [e]
        exact ⟨rfl, rfl⟩
      · skip
        show aw_W _ _ _ _ (7, [some (.ref 7), some (.int (nI sz)), some (.int o), some (.int v), some (.int m), none], []) (ae_en σ α z t0 ts)
        refine aw_go 3 rfl ⟨trivial, trivial, trivial, trivial⟩ ?_
        refine aw_br (c := v ≤ m) (fun h9 => ?_) (fun h9 => ?_)
        · skip
          show aw_W _ _ _ _ (12, [some (.ref 7), some (.int (nI sz)), some (.int o), some (.int v), some (.int m), none], []) (ae_en σ α z t0 ts)
          refine aw_go 9 rfl ⟨trivial, trivial, (by obtain ⟨j, hj, rfl⟩ := iP_of (iP_yes h1 (Int32.not_le.mpr (Int32.not_le.mp h4)) (by omega)) (by omega); exact vp_in_nI (by omega) (by omega)), trivial, trivial, trivial, trivial, (by obtain ⟨j, hj, rfl⟩ := iP_of (iP_yes h1 (Int32.not_le.mpr (Int32.not_le.mp h4)) (by omega)) (by omega); exact vp_in_nI (by omega) (by omega)), trivial, trivial⟩ ?_
          show aw_W _ _ _ _ (21, [some (.ref 7), some (.int (nI sz)), some (.int o), some (.int v), some (.int m), some (.int (α 5 (o.toNatClampNeg)))], [.int (α 5 (o.toNatClampNeg))]) (ae_en σ (au α [(5, upd (α 5) (o.toNatClampNeg) v)]) z t0 ts)
          refine aw_ret rfl rfl trivial ?_
          have e : pCh sz m (α 5) o v = ((α 5) o.toNatClampNeg, upd (α 5) o.toNatClampNeg v) := if_pos ⟨iP_yes h1 h4 (by omega), h6, Int32.not_lt.mpr h9⟩
          rw [e]
          exact ⟨rfl, rfl⟩
        · skip
          show aw_W _ _ _ _ (10, [some (.ref 7), some (.int (nI sz)), some (.int o), some (.int v), some (.int m), none], []) (ae_en σ α z t0 ts)
          refine aw_go 1 rfl ⟨trivial, trivial⟩ ?_
          refine aw_ret rfl rfl trivial ?_
          have e : pCh sz m (α 5) o v = (-2, (α 5)) := if_neg (fun q => q.2.2 (Int32.not_le.mp h9))
          rw [e]
          exact ⟨rfl, rfl⟩
theorem ev_change_stuffing {sz : Nat} {o v m : Int32} {zd : Nat} (hsz : sz < 11) (hlen : sz ≤ 9) : aw_X P (zd + 1) 3 [.ref 8, .int (nI sz), .int o, .int v, .int m] (ae_en σ α z t0 ts) (fun r H => r = some (.int ((pCh sz m (α 6) o v).1)) ∧ H = (ae_en σ (au α [(6, (pCh sz m (α 6) o v).2)]) z t0 ts)) := by
  refine aw_ev (cd := cd_Dried_change) rfl rfl rfl ?_
  show aw_W _ _ _ _ (0, [some (.ref 8), some (.int (nI sz)), some (.int o), some (.int v), some (.int m), none], []) (ae_en σ α z t0 ts)
  refine aw_go 2 rfl ⟨trivial, trivial, trivial⟩ ?_
  refine aw_br (c := o < 0) (fun h1 => ?_) (fun h1 => ?_)
  · skip
    show aw_W _ _ _ _ (10, [some (.ref 8), some (.int (nI sz)), some (.int o), some (.int v), some (.int m), none], []) (ae_en σ α z t0 ts)
    refine aw_go 1 rfl ⟨trivial, trivial⟩ ?_
    refine aw_ret rfl rfl trivial ?_
    have e : pCh sz m (α 6) o v = (-2, (α 6)) := if_neg (fun q => q.1.1 h1)
    rw [e]
    exact ⟨rfl, rfl⟩
  · skip
    show aw_W _ _ _ _ (2, [some (.ref 8), some (.int (nI sz)), some (.int o), some (.int v), some (.int m), none], []) (ae_en σ α z t0 ts)
    refine aw_go 3 rfl ⟨trivial, trivial, trivial, trivial⟩ ?_
    refine aw_br (c := (nI sz) ≤ o) (fun h4 => ?_) (fun h4 => ?_)
    · skip
      show aw_W _ _ _ _ (10, [some (.ref 8), some (.int (nI sz)), some (.int o), some (.int v), some (.int m), none], []) (ae_en σ α z t0 ts)
      refine aw_go 1 rfl ⟨trivial, trivial⟩ ?_
      refine aw_ret rfl rfl trivial ?_
      have e : pCh sz m (α 6) o v = (-2, (α 6)) := if_neg (fun q => iP_not h1 h4 (by omega) q.1)
      rw [e]
      exact ⟨rfl, rfl⟩
    · skip
      show aw_W _ _ _ _ (5, [some (.ref 8), some (.int (nI sz)), some (.int o), some (.int v), some (.int m), none], []) (ae_en σ α z t0 ts)
      refine aw_go 2 rfl ⟨trivial, trivial, trivial⟩ ?_
      refine aw_br (c := v < 0) (fun h6 => ?_) (fun h6 => ?_)
      · skip
        show aw_W _ _ _ _ (10, [some (.ref 8), some (.int (nI sz)), some (.int o), some (.int v), some (.int m), none], []) (ae_en σ α z t0 ts)
        refine aw_go 1 rfl ⟨trivial, trivial⟩ ?_
        refine aw_ret rfl rfl trivial ?_
        have e : pCh sz m (α 6) o v = (-2, (α 6)) := if_neg (fun q => q.2.1 h6)
        rw [e]
        exact ⟨rfl, rfl⟩
      · skip
        show aw_W _ _ _ _ (7, [some (.ref 8), some (.int (nI sz)), some (.int o), some (.int v), some (.int m), none], []) (ae_en σ α z t0 ts)
        refine aw_go 3 rfl ⟨trivial, trivial, trivial, trivial⟩ ?_
        refine aw_br (c := v ≤ m) (fun h9 => ?_) (fun h9 => ?_)
        · skip
          show aw_W _ _ _ _ (12, [some (.ref 8), some (.int (nI sz)), some (.int o), some (.int v), some (.int m), none], []) (ae_en σ α z t0 ts)
          refine aw_go 9 rfl ⟨trivial, trivial, (by obtain ⟨j, hj, rfl⟩ := iP_of (iP_yes h1 (Int32.not_le.mpr (Int32.not_le.mp h4)) (by omega)) (by omega); exact vp_in_nI (by omega) (by omega)), trivial, trivial, trivial, trivial, (by obtain ⟨j, hj, rfl⟩ := iP_of (iP_yes h1 (Int32.not_le.mpr (Int32.not_le.mp h4)) (by omega)) (by omega); exact vp_in_nI (by omega) (by omega)), trivial, trivial⟩ ?_
          show aw_W _ _ _ _ (21, [some (.ref 8), some (.int (nI sz)), some (.int o), some (.int v), some (.int m), some (.int (α 6 (o.toNatClampNeg)))], [.int (α 6 (o.toNatClampNeg))]) (ae_en σ (au α [(6, upd (α 6) (o.toNatClampNeg) v)]) z t0 ts)
          refine aw_ret rfl rfl trivial ?_
          have e : pCh sz m (α 6) o v = ((α 6) o.toNatClampNeg, upd (α 6) o.toNatClampNeg v) := if_pos ⟨iP_yes h1 h4 (by omega), h6, Int32.not_lt.mpr h9⟩
          rw [e]
          exact ⟨rfl, rfl⟩
        · skip
          show aw_W _ _ _ _ (10, [some (.ref 8), some (.int (nI sz)), some (.int o), some (.int v), some (.int m), none], []) (ae_en σ α z t0 ts)
          refine aw_go 1 rfl ⟨trivial, trivial⟩ ?_
          refine aw_ret rfl rfl trivial ?_
          have e : pCh sz m (α 6) o v = (-2, (α 6)) := if_neg (fun q => q.2.2 (Int32.not_le.mp h9))
          rw [e]
          exact ⟨rfl, rfl⟩
theorem ev_change_fast {sz : Nat} {o v m : Int32} {zd : Nat} (hsz : sz < 11) (hlen : sz ≤ 9) : aw_X P (zd + 1) 3 [.ref 9, .int (nI sz), .int o, .int v, .int m] (ae_en σ α z t0 ts) (fun r H => r = some (.int ((pCh sz m (α 7) o v).1)) ∧ H = (ae_en σ (au α [(7, (pCh sz m (α 7) o v).2)]) z t0 ts)) := by
  refine aw_ev (cd := cd_Dried_change) rfl rfl rfl ?_
  show aw_W _ _ _ _ (0, [some (.ref 9), some (.int (nI sz)), some (.int o), some (.int v), some (.int m), none], []) (ae_en σ α z t0 ts)
  refine aw_go 2 rfl ⟨trivial, trivial, trivial⟩ ?_
  refine aw_br (c := o < 0) (fun h1 => ?_) (fun h1 => ?_)
  · skip
    show aw_W _ _ _ _ (10, [some (.ref 9), some (.int (nI sz)), some (.int o), some (.int v), some (.int m), none], []) (ae_en σ α z t0 ts)
    refine aw_go 1 rfl ⟨trivial, trivial⟩ ?_
    refine aw_ret rfl rfl trivial ?_
    have e : pCh sz m (α 7) o v = (-2, (α 7)) := if_neg (fun q => q.1.1 h1)
    rw [e]
    exact ⟨rfl, rfl⟩
  · skip
    show aw_W _ _ _ _ (2, [some (.ref 9), some (.int (nI sz)), some (.int o), some (.int v), some (.int m), none], []) (ae_en σ α z t0 ts)
    refine aw_go 3 rfl ⟨trivial, trivial, trivial, trivial⟩ ?_
    refine aw_br (c := (nI sz) ≤ o) (fun h4 => ?_) (fun h4 => ?_)
    · skip
      show aw_W _ _ _ _ (10, [some (.ref 9), some (.int (nI sz)), some (.int o), some (.int v), some (.int m), none], []) (ae_en σ α z t0 ts)
      refine aw_go 1 rfl ⟨trivial, trivial⟩ ?_
      refine aw_ret rfl rfl trivial ?_
      have e : pCh sz m (α 7) o v = (-2, (α 7)) := if_neg (fun q => iP_not h1 h4 (by omega) q.1)
      rw [e]
      exact ⟨rfl, rfl⟩
    · skip
      show aw_W _ _ _ _ (5, [some (.ref 9), some (.int (nI sz)), some (.int o), some (.int v), some (.int m), none], []) (ae_en σ α z t0 ts)
      refine aw_go 2 rfl ⟨trivial, trivial, trivial⟩ ?_
      refine aw_br (c := v < 0) (fun h6 => ?_) (fun h6 => ?_)
      · skip
        show aw_W _ _ _ _ (10, [some (.ref 9), some (.int (nI sz)), some (.int o), some (.int v), some (.int m), none], []) (ae_en σ α z t0 ts)
        refine aw_go 1 rfl ⟨trivial, trivial⟩ ?_
        refine aw_ret rfl rfl trivial ?_
        have e : pCh sz m (α 7) o v = (-2, (α 7)) := if_neg (fun q => q.2.1 h6)
        rw [e]
        exact ⟨rfl, rfl⟩
      · skip
        show aw_W _ _ _ _ (7, [some (.ref 9), some (.int (nI sz)), some (.int o), some (.int v), some (.int m), none], []) (ae_en σ α z t0 ts)
        refine aw_go 3 rfl ⟨trivial, trivial, trivial, trivial⟩ ?_
        refine aw_br (c := v ≤ m) (fun h9 => ?_) (fun h9 => ?_)
        · skip
          show aw_W _ _ _ _ (12, [some (.ref 9), some (.int (nI sz)), some (.int o), some (.int v), some (.int m), none], []) (ae_en σ α z t0 ts)
          refine aw_go 9 rfl ⟨trivial, trivial, (by obtain ⟨j, hj, rfl⟩ := iP_of (iP_yes h1 (Int32.not_le.mpr (Int32.not_le.mp h4)) (by omega)) (by omega); exact vp_in_nI (by omega) (by omega)), trivial, trivial, trivial, trivial, (by obtain ⟨j, hj, rfl⟩ := iP_of (iP_yes h1 (Int32.not_le.mpr (Int32.not_le.mp h4)) (by omega)) (by omega); exact vp_in_nI (by omega) (by omega)), trivial, trivial⟩ ?_
          show aw_W _ _ _ _ (21, [some (.ref 9), some (.int (nI sz)), some (.int o), some (.int v), some (.int m), some (.int (α 7 (o.toNatClampNeg)))], [.int (α 7 (o.toNatClampNeg))]) (ae_en σ (au α [(7, upd (α 7) (o.toNatClampNeg) v)]) z t0 ts)
          refine aw_ret rfl rfl trivial ?_
          have e : pCh sz m (α 7) o v = ((α 7) o.toNatClampNeg, upd (α 7) o.toNatClampNeg v) := if_pos ⟨iP_yes h1 h4 (by omega), h6, Int32.not_lt.mpr h9⟩
          rw [e]
          exact ⟨rfl, rfl⟩
        · skip
          show aw_W _ _ _ _ (10, [some (.ref 9), some (.int (nI sz)), some (.int o), some (.int v), some (.int m), none], []) (ae_en σ α z t0 ts)
          refine aw_go 1 rfl ⟨trivial, trivial⟩ ?_
          refine aw_ret rfl rfl trivial ?_
          have e : pCh sz m (α 7) o v = (-2, (α 7)) := if_neg (fun q => q.2.2 (Int32.not_le.mp h9))
          rw [e]
          exact ⟨rfl, rfl⟩
theorem ev_Dried_changeSalt {v : Int32} {zd : Nat}  : aw_X P (zd + 1) 4 [.ref 0, .int v] (ae_en σ α z t0 ts) (fun r H => r = some (.int ((pC1 9 (σ 3) v).1)) ∧ H = (ae_en (au σ [(3, (pC1 9 (σ 3) v).2)]) α z t0 ts)) := by
  refine aw_ev (cd := cd_Dried_changeSalt) rfl rfl rfl ?_
  show aw_W _ _ _ _ (0, [some (.ref 0), some (.int v), none], []) (ae_en σ α z t0 ts)
  refine aw_go 2 rfl ⟨trivial, trivial, trivial⟩ ?_
  refine aw_br (c := v < 0) (fun h1 => ?_) (fun h1 => ?_)
  · skip
    show aw_W _ _ _ _ (5, [some (.ref 0), some (.int v), none], []) (ae_en σ α z t0 ts)
    refine aw_go 1 rfl ⟨trivial, trivial⟩ ?_
    refine aw_ret rfl rfl trivial ?_
    have e : pC1 9 (σ 3) v = (-2, (σ 3)) := if_neg (fun q => q.1 h1)
    rw [e]
    exact ⟨rfl, rfl⟩
  · skip
    show aw_W _ _ _ _ (2, [some (.ref 0), some (.int v), none], []) (ae_en σ α z t0 ts)
    refine aw_go 3 rfl ⟨trivial, trivial, trivial, trivial⟩ ?_
    refine aw_br (c := v ≤ 9) (fun h4 => ?_) (fun h4 => ?_)
    · skip
      show aw_W _ _ _ _ (7, [some (.ref 0), some (.int v), none], []) (ae_en σ α z t0 ts)
      refine aw_go 9 rfl ⟨trivial, trivial, trivial, trivial, trivial, trivial, trivial, trivial, trivial, trivial⟩ ?_
      show aw_W _ _ _ _ (16, [some (.ref 0), some (.int v), some (.int (σ 3))], [.int (σ 3)]) (ae_en (au σ [(3, v)]) α z t0 ts)
      refine aw_ret rfl rfl trivial ?_
      have e : pC1 9 (σ 3) v = ((σ 3), v) := if_pos ⟨h1, Int32.not_lt.mpr h4⟩
      rw [e]
      exact ⟨rfl, rfl⟩
    · skip
      show aw_W _ _ _ _ (5, [some (.ref 0), some (.int v), none], []) (ae_en σ α z t0 ts)
      refine aw_go 1 rfl ⟨trivial, trivial⟩ ?_
      refine aw_ret rfl rfl trivial ?_
      have e : pC1 9 (σ 3) v = (-2, (σ 3)) := if_neg (fun q => q.2 (Int32.not_le.mp h4))
      rw [e]
      exact ⟨rfl, rfl⟩
theorem ev_Dried_changePump {v : Int32} {zd : Nat}  : aw_X P (zd + 1) 5 [.ref 0, .int v] (ae_en σ α z t0 ts) (fun r H => r = some (.int ((pC1 9999 (σ 4) v).1)) ∧ H = (ae_en (au σ [(4, (pC1 9999 (σ 4) v).2)]) α z t0 ts)) := by
  refine aw_ev (cd := cd_Dried_changePump) rfl rfl rfl ?_
  show aw_W _ _ _ _ (0, [some (.ref 0), some (.int v), none], []) (ae_en σ α z t0 ts)
  refine aw_go 2 rfl ⟨trivial, trivial, trivial⟩ ?_
  refine aw_br (c := v < 0) (fun h1 => ?_) (fun h1 => ?_)
  · skip
    show aw_W _ _ _ _ (5, [some (.ref 0), some (.int v), none], []) (ae_en σ α z t0 ts)
    refine aw_go 1 rfl ⟨trivial, trivial⟩ ?_
    refine aw_ret rfl rfl trivial ?_
    have e : pC1 9999 (σ 4) v = (-2, (σ 4)) := if_neg (fun q => q.1 h1)
    rw [e]
    exact ⟨rfl, rfl⟩
  · skip
    show aw_W _ _ _ _ (2, [some (.ref 0), some (.int v), none], []) (ae_en σ α z t0 ts)
    refine aw_go 3 rfl ⟨trivial, trivial, trivial, trivial⟩ ?_
    refine aw_br (c := v ≤ 9999) (fun h4 => ?_) (fun h4 => ?_)
    · skip
      show aw_W _ _ _ _ (7, [some (.ref 0), some (.int v), none], []) (ae_en σ α z t0 ts)
      refine aw_go 9 rfl ⟨trivial, trivial, trivial, trivial, trivial, trivial, trivial, trivial, trivial, trivial⟩ ?_
      show aw_W _ _ _ _ (16, [some (.ref 0), some (.int v), some (.int (σ 4))], [.int (σ 4)]) (ae_en (au σ [(4, v)]) α z t0 ts)
      refine aw_ret rfl rfl trivial ?_
      have e : pC1 9999 (σ 4) v = ((σ 4), v) := if_pos ⟨h1, Int32.not_lt.mpr h4⟩
      rw [e]
      exact ⟨rfl, rfl⟩
    · skip
      show aw_W _ _ _ _ (5, [some (.ref 0), some (.int v), none], []) (ae_en σ α z t0 ts)
      refine aw_go 1 rfl ⟨trivial, trivial⟩ ?_
      refine aw_ret rfl rfl trivial ?_
      have e : pC1 9999 (σ 4) v = (-2, (σ 4)) := if_neg (fun q => q.2 (Int32.not_le.mp h4))
      rw [e]
      exact ⟨rfl, rfl⟩
theorem ev_Dried_set {n : Nat} {what o v : Int32} {zd : Nat} (hn : (σ 1) = nI n) (hn10 : n ≤ 10) : aw_X P (zd + 2) 2 [.ref 0, .int what, .int o, .int v] (ae_en σ α z t0 ts) (fun r H => r = some (.int ((pSet n (((α 3), (α 4), (α 5), (α 6), (α 7)), (σ 3), (σ 4)) what o v).1)) ∧ H = (ae_en (au σ [(3, (pSet n (((α 3), (α 4), (α 5), (α 6), (α 7)), (σ 3), (σ 4)) what o v).2.2.1), (4, (pSet n (((α 3), (α 4), (α 5), (α 6), (α 7)), (σ 3), (σ 4)) what o v).2.2.2)]) (au α [(3, (pSet n (((α 3), (α 4), (α 5), (α 6), (α 7)), (σ 3), (σ 4)) what o v).2.1.1), (4, (pSet n (((α 3), (α 4), (α 5), (α 6), (α 7)), (σ 3), (σ 4)) what o v).2.1.2.1), (5, (pSet n (((α 3), (α 4), (α 5), (α 6), (α 7)), (σ 3), (σ 4)) what o v).2.1.2.2.1), (6, (pSet n (((α 3), (α 4), (α 5), (α 6), (α 7)), (σ 3), (σ 4)) what o v).2.1.2.2.2.1), (7, (pSet n (((α 3), (α 4), (α 5), (α 6), (α 7)), (σ 3), (σ 4)) what o v).2.1.2.2.2.2)]) z t0 ts)) := by
  refine aw_ev (cd := cd_Dried_set) rfl rfl rfl ?_
  show aw_W _ _ _ _ (0, [some (.ref 0), some (.int what), some (.int o), some (.int v)], []) (ae_en σ α z t0 ts)
  refine aw_go 2 rfl ⟨trivial, trivial, trivial⟩ ?_
  refine aw_sw (x := what) (fun h1_0 => ?_) (fun h1_0 => ?_)
  · skip
    show aw_W _ _ _ _ (2, [some (.ref 0), some (.int what), some (.int o), some (.int v)], []) (ae_en σ α z t0 ts)
    refine aw_go 9 rfl ⟨trivial, trivial, trivial, trivial, trivial, trivial, trivial, trivial, trivial, trivial⟩ ?_
    show aw_W _ _ _ _ (11, [some (.ref 0), some (.int what), some (.int o), some (.int v)], [.int 100, .int v, .int o, .int (σ 1), .ref 5]) (ae_en σ α z t0 ts)
    rw [show σ 1 = nI n from hn]
    refine aw_call rfl rfl (ev_change_wet (sz := n) (o := o) (v := v) (m := 100) (by omega) (by omega)) ?_
    rintro _ _ ⟨rfl, rfl⟩
    show aw_W _ _ _ _ (12, [some (.ref 0), some (.int what), some (.int o), some (.int v)], [.int ((pCh n 100 (α 3) o v).1)]) (ae_en σ (au α [(3, (pCh n 100 (α 3) o v).2)]) z t0 ts)
    refine aw_ret rfl rfl trivial ?_
    rw [pSet, if_pos h1_0]
    exact ⟨rfl, rfl⟩
  refine aw_sw (x := what) (fun h1_1 => ?_) (fun h1_1 => ?_)
  · skip
    show aw_W _ _ _ _ (13, [some (.ref 0), some (.int what), some (.int o), some (.int v)], []) (ae_en σ α z t0 ts)
    refine aw_go 9 rfl ⟨trivial, trivial, trivial, trivial, trivial, trivial, trivial, trivial, trivial, trivial⟩ ?_
    show aw_W _ _ _ _ (22, [some (.ref 0), some (.int what), some (.int o), some (.int v)], [.int 99, .int v, .int o, .int (σ 1), .ref 6]) (ae_en σ α z t0 ts)
    rw [show σ 1 = nI n from hn]
    refine aw_call rfl rfl (ev_change_nailed (sz := n) (o := o) (v := v) (m := 99) (by omega) (by omega)) ?_
    rintro _ _ ⟨rfl, rfl⟩
    show aw_W _ _ _ _ (23, [some (.ref 0), some (.int what), some (.int o), some (.int v)], [.int ((pCh n 99 (α 4) o v).1)]) (ae_en σ (au α [(4, (pCh n 99 (α 4) o v).2)]) z t0 ts)
    refine aw_ret rfl rfl trivial ?_
    rw [pSet, if_neg h1_0, if_pos h1_1]
    exact ⟨rfl, rfl⟩
  refine aw_sw (x := what) (fun h1_2 => ?_) (fun h1_2 => ?_)
  · skip
    show aw_W _ _ _ _ (24, [some (.ref 0), some (.int what), some (.int o), some (.int v)], []) (ae_en σ α z t0 ts)
    refine aw_go 5 rfl ⟨trivial, trivial, trivial, trivial, trivial, trivial⟩ ?_
    show aw_W _ _ _ _ (29, [some (.ref 0), some (.int what), some (.int o), some (.int v)], [.ref 1, .ref 7]) (ae_en σ α z t0 ts)
    refine aw_callE rfl rfl (ec_Boat_gaps  hn hn10) ?_
    show aw_W _ _ _ _ (30, [some (.ref 0), some (.int what), some (.int o), some (.int v)], [.int (nI (n - 1)), .ref 7]) (ae_en σ α z t0 ts)
    refine aw_go 3 rfl ⟨trivial, trivial, trivial, trivial⟩ ?_
    refine aw_call rfl rfl (ev_change_wide (sz := (n - 1)) (o := o) (v := v) (m := 200) (by omega) (by omega)) ?_
    rintro _ _ ⟨rfl, rfl⟩
    show aw_W _ _ _ _ (34, [some (.ref 0), some (.int what), some (.int o), some (.int v)], [.int ((pCh (n - 1) 200 (α 5) o v).1)]) (ae_en σ (au α [(5, (pCh (n - 1) 200 (α 5) o v).2)]) z t0 ts)
    refine aw_ret rfl rfl trivial ?_
    rw [pSet, if_neg h1_0, if_neg h1_1, if_pos h1_2]
    exact ⟨rfl, rfl⟩
  refine aw_sw (x := what) (fun h1_3 => ?_) (fun h1_3 => ?_)
  · skip
    show aw_W _ _ _ _ (35, [some (.ref 0), some (.int what), some (.int o), some (.int v)], []) (ae_en σ α z t0 ts)
    refine aw_go 5 rfl ⟨trivial, trivial, trivial, trivial, trivial, trivial⟩ ?_
    show aw_W _ _ _ _ (40, [some (.ref 0), some (.int what), some (.int o), some (.int v)], [.ref 1, .ref 8]) (ae_en σ α z t0 ts)
    refine aw_callE rfl rfl (ec_Boat_gaps  hn hn10) ?_
    show aw_W _ _ _ _ (41, [some (.ref 0), some (.int what), some (.int o), some (.int v)], [.int (nI (n - 1)), .ref 8]) (ae_en σ α z t0 ts)
    refine aw_go 3 rfl ⟨trivial, trivial, trivial, trivial⟩ ?_
    refine aw_call rfl rfl (ev_change_stuffing (sz := (n - 1)) (o := o) (v := v) (m := 100) (by omega) (by omega)) ?_
    rintro _ _ ⟨rfl, rfl⟩
    show aw_W _ _ _ _ (45, [some (.ref 0), some (.int what), some (.int o), some (.int v)], [.int ((pCh (n - 1) 100 (α 6) o v).1)]) (ae_en σ (au α [(6, (pCh (n - 1) 100 (α 6) o v).2)]) z t0 ts)
    refine aw_ret rfl rfl trivial ?_
    rw [pSet, if_neg h1_0, if_neg h1_1, if_neg h1_2, if_pos h1_3]
    exact ⟨rfl, rfl⟩
  refine aw_sw (x := what) (fun h1_4 => ?_) (fun h1_4 => ?_)
  · skip
    show aw_W _ _ _ _ (46, [some (.ref 0), some (.int what), some (.int o), some (.int v)], []) (ae_en σ α z t0 ts)
    refine aw_go 5 rfl ⟨trivial, trivial, trivial, trivial, trivial, trivial⟩ ?_
    show aw_W _ _ _ _ (51, [some (.ref 0), some (.int what), some (.int o), some (.int v)], [.ref 1, .ref 9]) (ae_en σ α z t0 ts)
    refine aw_callE rfl rfl (ec_Boat_gaps  hn hn10) ?_
    show aw_W _ _ _ _ (52, [some (.ref 0), some (.int what), some (.int o), some (.int v)], [.int (nI (n - 1)), .ref 9]) (ae_en σ α z t0 ts)
    refine aw_go 3 rfl ⟨trivial, trivial, trivial, trivial⟩ ?_
    refine aw_call rfl rfl (ev_change_fast (sz := (n - 1)) (o := o) (v := v) (m := 1) (by omega) (by omega)) ?_
    rintro _ _ ⟨rfl, rfl⟩
    show aw_W _ _ _ _ (56, [some (.ref 0), some (.int what), some (.int o), some (.int v)], [.int ((pCh (n - 1) 1 (α 7) o v).1)]) (ae_en σ (au α [(7, (pCh (n - 1) 1 (α 7) o v).2)]) z t0 ts)
    refine aw_ret rfl rfl trivial ?_
    rw [pSet, if_neg h1_0, if_neg h1_1, if_neg h1_2, if_neg h1_3, if_pos h1_4]
    exact ⟨rfl, rfl⟩
  refine aw_sw (x := what) (fun h1_5 => ?_) (fun h1_5 => ?_)
  · skip
    show aw_W _ _ _ _ (57, [some (.ref 0), some (.int what), some (.int o), some (.int v)], []) (ae_en σ α z t0 ts)
    refine aw_go 2 rfl ⟨trivial, trivial, trivial⟩ ?_
    refine aw_call rfl rfl (ev_Dried_changeSalt (v := v)) ?_
    rintro _ _ ⟨rfl, rfl⟩
    show aw_W _ _ _ _ (60, [some (.ref 0), some (.int what), some (.int o), some (.int v)], [.int ((pC1 9 (σ 3) v).1)]) (ae_en (au σ [(3, (pC1 9 (σ 3) v).2)]) α z t0 ts)
    refine aw_ret rfl rfl trivial ?_
    rw [pSet, if_neg h1_0, if_neg h1_1, if_neg h1_2, if_neg h1_3, if_neg h1_4, if_pos h1_5]
    exact ⟨rfl, rfl⟩
  refine aw_sw (x := what) (fun h1_6 => ?_) (fun h1_6 => ?_)
  · skip
    show aw_W _ _ _ _ (61, [some (.ref 0), some (.int what), some (.int o), some (.int v)], []) (ae_en σ α z t0 ts)
    refine aw_go 2 rfl ⟨trivial, trivial, trivial⟩ ?_
    refine aw_call rfl rfl (ev_Dried_changePump (v := v)) ?_
    rintro _ _ ⟨rfl, rfl⟩
    show aw_W _ _ _ _ (64, [some (.ref 0), some (.int what), some (.int o), some (.int v)], [.int ((pC1 9999 (σ 4) v).1)]) (ae_en (au σ [(4, (pC1 9999 (σ 4) v).2)]) α z t0 ts)
    refine aw_ret rfl rfl trivial ?_
    rw [pSet, if_neg h1_0, if_neg h1_1, if_neg h1_2, if_neg h1_3, if_neg h1_4, if_neg h1_5, if_pos h1_6]
    exact ⟨rfl, rfl⟩
  show aw_W _ _ _ _ (65, [some (.ref 0), some (.int what), some (.int o), some (.int v)], []) (ae_en σ α z t0 ts)
  refine aw_go 1 rfl ⟨trivial, trivial⟩ ?_
  refine aw_ret rfl rfl trivial ?_
  rw [pSet, if_neg h1_0, if_neg h1_1, if_neg h1_2, if_neg h1_3, if_neg h1_4, if_neg h1_5, if_neg h1_6]
  exact ⟨rfl, rfl⟩
theorem ev_Dried_force {m : Nat} {x : Int32} {zd : Nat} (hm : (σ 15) = nI m) (hm6 : m ≤ 6) : aw_X P (zd + 1) 11 [.ref 0, .int x] (ae_en σ α z t0 ts) (fun r H => r = some (.int (if iP m x then (σ 5) else -2)) ∧ H = (ae_en (au σ [(5, (if iP m x then x else (σ 5)))]) α z t0 ts)) := by
  refine aw_ev (cd := cd_Dried_force) rfl rfl rfl ?_
  show aw_W _ _ _ _ (0, [some (.ref 0), some (.int x), none], []) (ae_en σ α z t0 ts)
  refine aw_go 2 rfl ⟨trivial, trivial, trivial⟩ ?_
  refine aw_br (c := x < 0) (fun h1 => ?_) (fun h1 => ?_)
  · skip
    show aw_W _ _ _ _ (7, [some (.ref 0), some (.int x), none], []) (ae_en σ α z t0 ts)
    refine aw_go 1 rfl ⟨trivial, trivial⟩ ?_
    refine aw_ret rfl rfl trivial ?_
    have hp : ¬ iP m x := iP_neg h1
    rw [if_neg hp, if_neg hp]
    exact ⟨rfl, rfl⟩
  · skip
    show aw_W _ _ _ _ (2, [some (.ref 0), some (.int x), none], []) (ae_en σ α z t0 ts)
    refine aw_go 5 rfl ⟨trivial, trivial, trivial, trivial, trivial, trivial⟩ ?_
    show aw_W _ _ _ _ (if x < (σ 15) then 9 else 7, [some (.ref 0), some (.int x), none], []) (ae_en σ α z t0 ts)
    refine aw_br (c := x < (σ 15)) (fun h6 => ?_) (fun h6 => ?_)
    · skip
      show aw_W _ _ _ _ (9, [some (.ref 0), some (.int x), none], []) (ae_en σ α z t0 ts)
      refine aw_go 9 rfl ⟨trivial, trivial, trivial, trivial, trivial, trivial, trivial, trivial, trivial, trivial⟩ ?_
      show aw_W _ _ _ _ (18, [some (.ref 0), some (.int x), some (.int (σ 5))], [.int (σ 5)]) (ae_en (au σ [(5, x)]) α z t0 ts)
      refine aw_ret rfl rfl trivial ?_
      have hp : iP m x := iP_yes h1 (by rw [← hm]; exact Int32.not_le.mpr h6) (by omega)
      rw [if_pos hp, if_pos hp]
      exact ⟨rfl, rfl⟩
    · skip
      show aw_W _ _ _ _ (7, [some (.ref 0), some (.int x), none], []) (ae_en σ α z t0 ts)
      refine aw_go 1 rfl ⟨trivial, trivial⟩ ?_
      refine aw_ret rfl rfl trivial ?_
      have hp : ¬ iP m x := iP_not h1 (by rw [← hm]; exact Int32.not_lt.mp h6) (by omega)
      rw [if_neg hp, if_neg hp]
      exact ⟨rfl, rfl⟩
theorem ec_isKind {k : Int32} {zd : Nat} : ae_Ev P (zd + 1) 104 [.int k] (ae_en σ α z t0 ts) (some (.int (bI (iP 6 k)))) (ae_en σ α z t0 ts) := by
  have h := ev_Wood_isKind (P := P) (σ := σ) (α := α) (z := z) (t0 := t0) (ts := ts) (k := k) (d := zd)
  rwa [show fHas k (nI 6) = bI (iP 6 k) from by
    unfold fHas
    split
    · exact bI_0 (iP_neg ‹_›)
    · split
      · exact bI_0 (iP_not ‹_› ‹_› (by omega))
      · exact bI_1 (iP_yes ‹_› ‹_› (by omega))] at h
theorem aw_append {n : Nat} {k x wd gp nb : Int32} {zd : Nat} (hn : (σ 1) = nI n) (hn10 : n ≤ 10) : aw_X P (zd + 1) 39 [.ref 1, .int k, .int x, .int wd, .int gp, .int nb] (ae_en σ α z t0 ts) (fun r H => r = some (.int (pApp n ((α 0), (α 1), (α 2), (α 3), (α 5), (α 7)) k x wd gp nb).1) ∧ H = (ae_en (au σ [(1, nI (pApp n ((α 0), (α 1), (α 2), (α 3), (α 5), (α 7)) k x wd gp nb).2.1)]) (au α [(0, (pApp n ((α 0), (α 1), (α 2), (α 3), (α 5), (α 7)) k x wd gp nb).2.2.1), (1, (pApp n ((α 0), (α 1), (α 2), (α 3), (α 5), (α 7)) k x wd gp nb).2.2.2.1), (2, (pApp n ((α 0), (α 1), (α 2), (α 3), (α 5), (α 7)) k x wd gp nb).2.2.2.2.1), (3, (pApp n ((α 0), (α 1), (α 2), (α 3), (α 5), (α 7)) k x wd gp nb).2.2.2.2.2.1), (5, (pApp n ((α 0), (α 1), (α 2), (α 3), (α 5), (α 7)) k x wd gp nb).2.2.2.2.2.2.1), (7, (pApp n ((α 0), (α 1), (α 2), (α 3), (α 5), (α 7)) k x wd gp nb).2.2.2.2.2.2.2)]) z t0 ts)) := by
  rcases Nat.lt_or_ge n 10 with h | h
  · obtain _ | q := n
    · refine ⟨_, _, ⟨?_, ?_⟩, ev_Boat_append_0 hn⟩
      · rw [pApp, if_neg (by decide), hn]
      · rw [pApp, if_neg (by decide), hn]
        rfl
    · refine ⟨_, _, ⟨?_, ?_⟩, ev_Boat_append_s hn h⟩
      · rw [pApp, if_neg (by omega), hn]
      · rw [pApp, if_neg (by omega), if_neg (by omega), if_neg (by omega), hn, nI_pred, nI_clamp (show q + 1 < 2 ^ 31 by omega), nI_clamp (show q < 2 ^ 31 by omega), ← nI_succ]
        rfl
  · refine ⟨_, _, ⟨?_, ?_⟩, ev_Boat_append_full (by rw [hn]; exact nI_nlt (b := 10) h (by omega))⟩
    · rw [pApp, if_pos (by omega)]
    · rw [pApp, if_pos (by omega), ← hn]
      rfl
theorem ev_Dried_plank {n : Nat} {k x m : Int32} {zd : Nat} (hn : (σ 1) = nI n) (hn10 : n ≤ 10) : aw_X P (zd + 2) 1 [.ref 0, .int k, .int x, .int m] (ae_en σ α z t0 ts) (fun r H => r = some (.int ((pPlank n ((α 0), (α 1), (α 2), (α 3), (α 5), (α 7)) k x m).1)) ∧ H = (ae_en (au σ [(1, nI (pPlank n ((α 0), (α 1), (α 2), (α 3), (α 5), (α 7)) k x m).2.1)]) (au α [(0, (pPlank n ((α 0), (α 1), (α 2), (α 3), (α 5), (α 7)) k x m).2.2.1), (1, (pPlank n ((α 0), (α 1), (α 2), (α 3), (α 5), (α 7)) k x m).2.2.2.1), (2, (pPlank n ((α 0), (α 1), (α 2), (α 3), (α 5), (α 7)) k x m).2.2.2.2.1), (3, (pPlank n ((α 0), (α 1), (α 2), (α 3), (α 5), (α 7)) k x m).2.2.2.2.2.1), (5, (pPlank n ((α 0), (α 1), (α 2), (α 3), (α 5), (α 7)) k x m).2.2.2.2.2.2.1), (7, (pPlank n ((α 0), (α 1), (α 2), (α 3), (α 5), (α 7)) k x m).2.2.2.2.2.2.2)]) z t0 ts)) := by
  refine aw_ev (cd := cd_Dried_plank) rfl rfl rfl ?_
  show aw_W _ _ _ _ (0, [some (.ref 0), some (.int k), some (.int x), some (.int m), none, none, none, none], []) (ae_en σ α z t0 ts)
  refine aw_go 2 rfl ⟨trivial, trivial, trivial⟩ ?_
  refine aw_br (c := x < 0) (fun h1 => ?_) (fun h1 => ?_)
  · skip
    show aw_W _ _ _ _ (4, [some (.ref 0), some (.int k), some (.int x), some (.int m), none, none, none, none], []) (ae_en σ α z t0 ts)
    refine aw_go 1 rfl ⟨trivial, trivial⟩ ?_
    refine aw_ret rfl rfl trivial ?_
    rw [pPlank, if_neg (fun q => q.2.1 h1), ← hn]
    exact ⟨rfl, rfl⟩
  · skip
    show aw_W _ _ _ _ (2, [some (.ref 0), some (.int k), some (.int x), some (.int m), none, none, none, none], []) (ae_en σ α z t0 ts)
    refine aw_go 2 rfl ⟨trivial, trivial, trivial⟩ ?_
    refine aw_br (c := (0 : Int32) ≤ m) (fun h3 => ?_) (fun h3 => ?_)
    · skip
      show aw_W _ _ _ _ (6, [some (.ref 0), some (.int k), some (.int x), some (.int m), none, none, none, none], []) (ae_en σ α z t0 ts)
      refine aw_go 17 rfl ⟨trivial, trivial, (by decide), trivial, trivial, trivial, (by decide), trivial, trivial, trivial, (by decide), trivial, trivial, trivial, (by decide), trivial, trivial, trivial⟩ ?_
      show aw_W _ _ _ _ (23, [some (.ref 0), some (.int k), some (.int x), some (.int m), some (.int (x / 1000)), some (.int (x - x / 1000 * 1000)), some (.int (m / 10)), some (.int (m - m / 10 * 10))], [.int k]) (ae_en σ α z t0 ts)
      refine aw_callE rfl rfl (ec_isKind (k := k)) ?_
      show aw_W _ _ _ _ (24, [some (.ref 0), some (.int k), some (.int x), some (.int m), some (.int (x / 1000)), some (.int (x - x / 1000 * 1000)), some (.int (m / 10)), some (.int (m - m / 10 * 10))], [.int (bI (iP 6 k))]) (ae_en σ α z t0 ts)
      refine aw_go 1 rfl ⟨trivial, trivial⟩ ?_
      refine aw_br (c := (bI (iP 6 k)) = 0) (fun h24 => ?_) (fun h24 => ?_)
      · skip
        have h24 := bI_f h24
        show aw_W _ _ _ _ (37, [some (.ref 0), some (.int k), some (.int x), some (.int m), some (.int (x / 1000)), some (.int (x - x / 1000 * 1000)), some (.int (m / 10)), some (.int (m - m / 10 * 10))], []) (ae_en σ α z t0 ts)
        refine aw_go 1 rfl ⟨trivial, trivial⟩ ?_
        refine aw_ret rfl rfl trivial ?_
        rw [pPlank, if_neg (fun q => h24 q.1), ← hn]
        exact ⟨rfl, rfl⟩
      · skip
        have h24 := bI_t h24
        show aw_W _ _ _ _ (25, [some (.ref 0), some (.int k), some (.int x), some (.int m), some (.int (x / 1000)), some (.int (x - x / 1000 * 1000)), some (.int (m / 10)), some (.int (m - m / 10 * 10))], []) (ae_en σ α z t0 ts)
        refine aw_go 3 rfl ⟨trivial, trivial, trivial, trivial⟩ ?_
        refine aw_br (c := (100 : Int32) < (x / 1000)) (fun h27 => ?_) (fun h27 => ?_)
        · skip
          show aw_W _ _ _ _ (37, [some (.ref 0), some (.int k), some (.int x), some (.int m), some (.int (x / 1000)), some (.int (x - x / 1000 * 1000)), some (.int (m / 10)), some (.int (m - m / 10 * 10))], []) (ae_en σ α z t0 ts)
          refine aw_go 1 rfl ⟨trivial, trivial⟩ ?_
          refine aw_ret rfl rfl trivial ?_
          rw [pPlank, if_neg (fun q => q.2.2.2.1 h27), ← hn]
          exact ⟨rfl, rfl⟩
        · skip
          show aw_W _ _ _ _ (28, [some (.ref 0), some (.int k), some (.int x), some (.int m), some (.int (x / 1000)), some (.int (x - x / 1000 * 1000)), some (.int (m / 10)), some (.int (m - m / 10 * 10))], []) (ae_en σ α z t0 ts)
          refine aw_go 3 rfl ⟨trivial, trivial, trivial, trivial⟩ ?_
          refine aw_br (c := (x - x / 1000 * 1000) < 10) (fun h30 => ?_) (fun h30 => ?_)
          · skip
            show aw_W _ _ _ _ (37, [some (.ref 0), some (.int k), some (.int x), some (.int m), some (.int (x / 1000)), some (.int (x - x / 1000 * 1000)), some (.int (m / 10)), some (.int (m - m / 10 * 10))], []) (ae_en σ α z t0 ts)
            refine aw_go 1 rfl ⟨trivial, trivial⟩ ?_
            refine aw_ret rfl rfl trivial ?_
            rw [pPlank, if_neg (fun q => q.2.2.2.2.1 h30), ← hn]
            exact ⟨rfl, rfl⟩
          · skip
            show aw_W _ _ _ _ (31, [some (.ref 0), some (.int k), some (.int x), some (.int m), some (.int (x / 1000)), some (.int (x - x / 1000 * 1000)), some (.int (m / 10)), some (.int (m - m / 10 * 10))], []) (ae_en σ α z t0 ts)
            refine aw_go 3 rfl ⟨trivial, trivial, trivial, trivial⟩ ?_
            refine aw_br (c := (300 : Int32) < (x - x / 1000 * 1000)) (fun h33 => ?_) (fun h33 => ?_)
            · skip
              show aw_W _ _ _ _ (37, [some (.ref 0), some (.int k), some (.int x), some (.int m), some (.int (x / 1000)), some (.int (x - x / 1000 * 1000)), some (.int (m / 10)), some (.int (m - m / 10 * 10))], []) (ae_en σ α z t0 ts)
              refine aw_go 1 rfl ⟨trivial, trivial⟩ ?_
              refine aw_ret rfl rfl trivial ?_
              rw [pPlank, if_neg (fun q => q.2.2.2.2.2.1 h33), ← hn]
              exact ⟨rfl, rfl⟩
            · skip
              show aw_W _ _ _ _ (34, [some (.ref 0), some (.int k), some (.int x), some (.int m), some (.int (x / 1000)), some (.int (x - x / 1000 * 1000)), some (.int (m / 10)), some (.int (m - m / 10 * 10))], []) (ae_en σ α z t0 ts)
              refine aw_go 3 rfl ⟨trivial, trivial, trivial, trivial⟩ ?_
              refine aw_br (c := (m / 10) ≤ 200) (fun h36 => ?_) (fun h36 => ?_)
              · skip
                show aw_W _ _ _ _ (39, [some (.ref 0), some (.int k), some (.int x), some (.int m), some (.int (x / 1000)), some (.int (x - x / 1000 * 1000)), some (.int (m / 10)), some (.int (m - m / 10 * 10))], []) (ae_en σ α z t0 ts)
                refine aw_go 7 rfl ⟨trivial, trivial, trivial, trivial, trivial, trivial, trivial, trivial⟩ ?_
                show aw_W _ _ _ _ (46, [some (.ref 0), some (.int k), some (.int x), some (.int m), some (.int (x / 1000)), some (.int (x - x / 1000 * 1000)), some (.int (m / 10)), some (.int (m - m / 10 * 10))], [.int (m - m / 10 * 10), .int (m / 10), .int (x - x / 1000 * 1000), .int (x / 1000), .int k, .ref 1]) (ae_en σ α z t0 ts)
                refine aw_call rfl rfl (aw_append (k := k) (x := (x / 1000)) (wd := (x - x / 1000 * 1000)) (gp := (m / 10)) (nb := (m - m / 10 * 10)) hn hn10) ?_
                rintro _ _ ⟨rfl, rfl⟩
                show aw_W _ _ _ _ (47, [some (.ref 0), some (.int k), some (.int x), some (.int m), some (.int (x / 1000)), some (.int (x - x / 1000 * 1000)), some (.int (m / 10)), some (.int (m - m / 10 * 10))], [.int ((pApp n ((α 0), (α 1), (α 2), (α 3), (α 5), (α 7)) k (x / 1000) (x - x / 1000 * 1000) (m / 10) (m - m / 10 * 10)).1)]) (ae_en (au σ [(1, nI (pApp n ((α 0), (α 1), (α 2), (α 3), (α 5), (α 7)) k (x / 1000) (x - x / 1000 * 1000) (m / 10) (m - m / 10 * 10)).2.1)]) (au α [(0, (pApp n ((α 0), (α 1), (α 2), (α 3), (α 5), (α 7)) k (x / 1000) (x - x / 1000 * 1000) (m / 10) (m - m / 10 * 10)).2.2.1), (1, (pApp n ((α 0), (α 1), (α 2), (α 3), (α 5), (α 7)) k (x / 1000) (x - x / 1000 * 1000) (m / 10) (m - m / 10 * 10)).2.2.2.1), (2, (pApp n ((α 0), (α 1), (α 2), (α 3), (α 5), (α 7)) k (x / 1000) (x - x / 1000 * 1000) (m / 10) (m - m / 10 * 10)).2.2.2.2.1), (3, (pApp n ((α 0), (α 1), (α 2), (α 3), (α 5), (α 7)) k (x / 1000) (x - x / 1000 * 1000) (m / 10) (m - m / 10 * 10)).2.2.2.2.2.1), (5, (pApp n ((α 0), (α 1), (α 2), (α 3), (α 5), (α 7)) k (x / 1000) (x - x / 1000 * 1000) (m / 10) (m - m / 10 * 10)).2.2.2.2.2.2.1), (7, (pApp n ((α 0), (α 1), (α 2), (α 3), (α 5), (α 7)) k (x / 1000) (x - x / 1000 * 1000) (m / 10) (m - m / 10 * 10)).2.2.2.2.2.2.2)]) z t0 ts)
                refine aw_ret rfl rfl trivial ?_
                rw [pPlank, if_pos ⟨h24, h1, Int32.not_lt.mpr h3, Int32.not_lt.mpr (Int32.not_lt.mp h27), h30, h33, Int32.not_lt.mpr h36⟩, pApp]
                exact ⟨rfl, rfl⟩
              · skip
                show aw_W _ _ _ _ (37, [some (.ref 0), some (.int k), some (.int x), some (.int m), some (.int (x / 1000)), some (.int (x - x / 1000 * 1000)), some (.int (m / 10)), some (.int (m - m / 10 * 10))], []) (ae_en σ α z t0 ts)
                refine aw_go 1 rfl ⟨trivial, trivial⟩ ?_
                refine aw_ret rfl rfl trivial ?_
                rw [pPlank, if_neg (fun q => q.2.2.2.2.2.2 (Int32.not_le.mp h36)), ← hn]
                exact ⟨rfl, rfl⟩
    · skip
      show aw_W _ _ _ _ (4, [some (.ref 0), some (.int k), some (.int x), some (.int m), none, none, none, none], []) (ae_en σ α z t0 ts)
      refine aw_go 1 rfl ⟨trivial, trivial⟩ ?_
      refine aw_ret rfl rfl trivial ?_
      rw [pPlank, if_neg (fun q => q.2.2.1 (Int32.not_le.mp h3)), ← hn]
      exact ⟨rfl, rfl⟩
end L30
