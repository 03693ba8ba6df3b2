/-! days of a boat, as numbers -/
abbrev ae_B : Type := (Nat → List Int32) × ((Nat → Int32) × (Nat → Int32) × (Nat → Int32)) × Int32
section DAYS
variable (B : ae_B) (n : Nat) (w : Nat → Int32) (dy : Int32) (p : Nat)
def gGr : Int32 := fGr (B.2.1.1 p) (B.2.1.2.1 p) (w p) (B.2.1.2.2 p)
def gNr : Int32 := bI (0 < p ∧ w p < w (p - 1)) + bI (p + 1 < n ∧ w p < w (p + 1))
def gNm : Nat → Int32 := fun j => match j with
  | 0 => w p
  | 1 => 100 - w p
  | 2 => gNr n w p
  | 3 => B.2.1.2.2 p
  | 4 => dy
  | _ => B.2.2
def gRl (q : Nat) : Int32 := sA (gNm B n w dy p) (B.1 q)
def gTk : Int32 := fTk (B.2.1.1 p) (fMx 0 (fMn 100 (gRl B n w dy p 0))) (B.2.1.2.2 p)
def gDr : Int32 := fMx 0 (fMn 100 (gRl B n w dy p 2))
def gLk : Int32 := fMx 0 (fMn 999 (gRl B n w dy p 1))
def gBe : Int32 := fBe (B.2.1.1 p) (B.2.1.2.2 p)
def gBg : Int32 := fMn (gBe B p) (gBe B (p + 1))
def gLf (v t : Int32) : Int32 := v - (gGr B w p + gGr B w (p + 1)) / 2 - t
def dyA (d : Nat) : Int32 := fMn 9999 (dy + nI d)
def wN : Nat → Int32 := fun p => if p < n then fMn 100 (w p + gTk B n w dy p) else w p
def wD : Nat → Nat → Int32
  | 0 => w
  | d + 1 => wN B n (wD d) (dyA dy d)
end DAYS
/-- the first of the days 1 .. d on which it is so, or 0 -/
def gF (A : Nat → Bool) : Nat → Nat
  | 0 => 0
  | d + 1 => if gF A d = 0 then (if A (d + 1) = true then d + 1 else 0) else gF A d
theorem gF_le (A : Nat → Bool) : ∀ d, gF A d ≤ d
  | 0 => Nat.le_refl _
  | d + 1 => by
    have := gF_le A d
    unfold gF
    split
    · split <;> omega
    · omega
section GAPS
variable (B : ae_B) (n N : Nat) (W : Nat → Nat → Int32)
def gAt (g : Nat) (v t : Int32) : Nat → Bool := fun d => decide (gBg B g < - gLf B (W d) g v t)
def gGo (g : Nat) (v t f : Int32) : Nat := if f = 0 then 0 else gF (gAt B W g v t) N
def gWi (g : Nat) (v t f : Int32) : Int32 := if gGo B N W g v t f = 0 then 0 else (- gLf B (W (gGo B N W g v t f)) g v t) / 4
def gWd (d g : Nat) (v t f : Int32) : Int32 := v + (if 0 < gGo B N W g v t f ∧ gGo B N W g v t f ≤ d then gWi B N W g v t f else 0)
variable (v t f : Nat → Int32)
def gLd (d g : Nat) : Int32 := gLf B (W d) g (gWd B N W d g (v g) (t g) (f g)) (t g)
def gOp (d g : Nat) : Int32 := fMx 0 (gLd B N W v t f d g)
def gPr (d g : Nat) : Int32 := fMx 0 (- gLd B N W v t f d g)
def gON (d : Nat) : Nat → Int32
  | 0 => 0
  | g + 1 => gON d g + bI (0 < gOp B N W v t f d g)
def gGN (d : Nat) : Nat → Int32
  | 0 => 0
  | g + 1 => gGN d g + bI (0 < gGo B N W g (v g) (t g) (f g) ∧ gGo B N W g (v g) (t g) (f g) ≤ d)
def gCm (dy nl : Int32) (d : Nat) : Nat → Int32
  | 0 => 10 * nl
  | g + 1 => gCm dy nl d g + (if 0 < gOp B N W v t f d g then gOp B N W v t f d g * gLk B n (W d) (dyA dy d) g else 0)
def gCI (dy nl : Int32) : Nat → Int32
  | 0 => 0
  | d + 1 => gCI dy nl d + gCm B n N W v t f dy nl (d + 1) (n - 1)
end GAPS
def gMO (o : Nat → Int32) : Nat → Nat
  | 0 => 0
  | k + 1 => if k = 0 then 0 else if o (gMO o k) < o k then k else gMO o k
theorem gMO_lt (o : Nat → Int32) : ∀ k, 0 < k → gMO o k < k
  | 0, h => absurd h (Nat.lt_irrefl 0)
  | k + 1, _ => by
    unfold gMO
    split
    · omega
    · have := gMO_lt o k (by omega)
      split <;> omega
theorem gGo_le (B : ae_B) (N : Nat) (W : Nat → Nat → Int32) (g : Nat) (v t f : Int32) : gGo B N W g v t f ≤ N := by
  unfold gGo
  split
  · omega
  · exact gF_le _ N
/-- what the class' boat is -/
def cOk (B : ae_B) (n : Nat) (s1 s3 s5 s15 : Int32) (a0 a1 a2 : Nat → Int32) (t0 : ae_T) (ts : List ae_T) : Prop := s1 = nI n ∧ n ≤ 10 ∧ s3 = B.2.2 ∧ a0 = B.2.1.1 ∧ a1 = B.2.1.2.1 ∧ a2 = B.2.1.2.2 ∧ ∃ (k : Nat) (t : ae_T), s5 = nI k ∧ ae_get (t0 :: ts) k = some t ∧ tOk t B.1 ∧ s15 = nI (ts.length + 1) ∧ ts.length + 1 ≤ 6
def fW (n N : Nat) (W : Nat → Nat → Int32) (f : Nat → Int32) : Prop := ∀ d p, d ≤ N → p < n → f (d * 10 + p) = W d p
def fL (B : ae_B) (k N : Nat) (W : Nat → Nat → Int32) (v t f a24 a25 a26 : Nat → Int32) : Prop := ∀ g, g < k → a24 g = t g ∧ a25 g = nI (gGo B N W g (v g) (t g) (f g)) ∧ a26 g = gWi B N W g (v g) (t g) (f g)
theorem nr_l {n p : Nat} {w : Nat → Int32} {x : Int32} (hp : p < n) (hn : n ≤ 10) : bI (iP n (nI p - 1) ∧ x < w (nI p - 1).toNatClampNeg) = bI (0 < p ∧ x < w (p - 1)) := by
  refine bI_iff ?_
  obtain _ | p := p
  · exact ⟨fun h => absurd (show nI 0 - 1 < 0 by decide) h.1.1, fun h => absurd h.1 (Nat.lt_irrefl 0)⟩
  · rw [nI_pred, nI_clamp (by omega), Nat.add_sub_cancel]
    exact ⟨fun h => ⟨by omega, h.2⟩, fun h => ⟨iP_nI (by omega) (by omega), h.2⟩⟩
theorem nr_r {n p : Nat} {w : Nat → Int32} {x : Int32} (hp : p < n) (hn : n ≤ 10) : bI (iP n (nI (p + 1)) ∧ x < w (nI (p + 1)).toNatClampNeg) = bI (p + 1 < n ∧ x < w (p + 1)) := by
  refine bI_iff ?_
  rw [nI_clamp (by omega)]
  refine ⟨fun h => ⟨?_, h.2⟩, fun h => ⟨iP_nI h.1 (by omega), h.2⟩⟩
  have := h.1.2
  rwa [nI_clamp (by omega)] at this
section L25
variable {P : ae_P} {σ : Nat → Int32} {α : Nat → Nat → Int32} {z : Int64} {t0 : ae_T} {ts : List ae_T}

theorem ec_Boat_hasPlank {n : Nat} {p : Int32} {zd : Nat} (hn : (σ 1) = nI n) (hn10 : n ≤ 10) : ae_Ev P (zd + 1) 37 [.ref 1, .int p] (ae_en σ α z t0 ts) (some (.int (bI (iP n p)))) (ae_en σ α z t0 ts) := by
  have h := ev_Boat_hasPlank (P := P) (σ := σ) (α := α) (z := z) (t0 := t0) (ts := ts) (p := p) (d := zd)
  rwa [show fHas p (σ 1) = bI (iP n p) from by
    rw [hn]
    unfold fHas
    split
    · exact bI_0 (iP_neg ‹_›)
    · split
      · exact bI_0 (iP_not ‹_› ‹_› (by omega))
      · exact bI_1 (iP_yes ‹_› ‹_› (by omega))] at h
theorem ec_Boat_hasGap {n : Nat} {p : Int32} {zd : Nat} (hn : (σ 1) = nI n) (hn10 : n ≤ 10) : ae_Ev P (zd + 2) 38 [.ref 1, .int p] (ae_en σ α z t0 ts) (some (.int (bI (iP (n - 1) p)))) (ae_en σ α z t0 ts) := by
  have h := ev_Boat_hasGap (P := P) (σ := σ) (α := α) (z := z) (t0 := t0) (ts := ts) (p := p) (d := zd)
  rwa [show fHas p (fGaps (σ 1)) = bI (iP (n - 1) p) from by
    rw [hn, fGaps_nI (by omega)]
    unfold fHas
    split
    · exact bI_0 (iP_neg ‹_›)
    · split
      · exact bI_0 (iP_not ‹_› ‹_› (by omega))
      · exact bI_1 (iP_yes ‹_› ‹_› (by omega))] at h
theorem ec_Boat_gaps {n : Nat} {zd : Nat} (hn : (σ 1) = nI n) (hn10 : n ≤ 10) : ae_Ev P (zd + 1) 36 [.ref 1] (ae_en σ α z t0 ts) (some (.int (nI (n - 1)))) (ae_en σ α z t0 ts) := by
  have h := ev_Boat_gaps (P := P) (σ := σ) (α := α) (z := z) (t0 := t0) (ts := ts) (d := zd)
  rwa [hn, fGaps_nI (by omega)] at h
theorem ec_Boat_bearsAtGap {n g : Nat} {B : ae_B} {zd : Nat} (hC : cOk B n (σ 1) (σ 3) (σ 5) (σ 15) (α 0) (α 1) (α 2) t0 ts) (hg : g + 1 < n) : ae_Ev P (zd + 3) 41 [.ref 1, .int (nI g)] (ae_en σ α z t0 ts) (some (.int (gBg B g))) (ae_en σ α z t0 ts) := by
  obtain ⟨hn, hn10, hs3, hk0, hk1, hk2, hr⟩ := id hC
  have h := ev_Boat_bearsAtGap (P := P) (σ := σ) (α := α) (z := z) (t0 := t0) (ts := ts) (g := nI g) (d := zd) (vp_in_nI (by omega) (by omega)) (by rw [← nI_succ]; exact vp_in_nI (by omega) (by omega))
  rw [← nI_succ, nI_clamp (by omega), nI_clamp (by omega), hk0, hk2] at h
  exact h
theorem ec_Boat_bears {n p : Nat} {B : ae_B} {zd : Nat} (hC : cOk B n (σ 1) (σ 3) (σ 5) (σ 15) (α 0) (α 1) (α 2) t0 ts) (hp : p < n) : ae_Ev P (zd + 2) 40 [.ref 1, .int (nI p)] (ae_en σ α z t0 ts) (some (.int (gBe B p))) (ae_en σ α z t0 ts) := by
  obtain ⟨hn, hn10, hs3, hk0, hk1, hk2, hr⟩ := id hC
  have h := ev_Boat_bears (P := P) (σ := σ) (α := α) (z := z) (t0 := t0) (ts := ts) (p := nI p) (d := zd) (vp_in_nI (by omega) (by omega))
  rw [nI_clamp (by omega), hk0, hk2] at h
  exact h
theorem ev_Forecast_wetBehind {n N : Nat} {B : ae_B} {W : Nat → Nat → Int32} {d p : Nat} {zd : Nat} (hC : cOk B n (σ 1) (σ 3) (σ 5) (σ 15) (α 0) (α 1) (α 2) t0 ts) (hW : fW n N W (α 22)) (hN : N ≤ 60) (hd : d ≤ N) (hp : p < n) : ae_Ev P (zd + 1) 53 [.ref 28, .int (nI d), .int (nI p)] (ae_en σ α z t0 ts) (some (.int (W d p))) (ae_en σ α z t0 ts) := by
  obtain ⟨hn, hn10, hs3, hk0, hk1, hk2, hr⟩ := id hC
  refine aw_evE (cd := cd_Forecast_wetBehind) rfl rfl rfl ?_
  show aw_W _ _ _ _ (0, [some (.ref 28), some (.int (nI d)), some (.int (nI p))], []) (ae_en σ α z t0 ts)
  refine aw_go 8 rfl ⟨trivial, trivial, trivial, trivial, trivial, trivial, trivial, (cI_in (a := (d * 10) + p) (cI_add (a := d * 10) (b := p) (cI_mul (a := d) (b := 10) rfl rfl) rfl) (by omega) (by decide)), trivial⟩ ?_
  show aw_W _ _ _ _ (8, [some (.ref 28), some (.int (nI d)), some (.int (nI p))], [.int (α 22 (((nI d) * 10) + (nI p)).toNatClampNeg)]) (ae_en σ α z t0 ts)
  rw [show (((nI d) * 10) + (nI p)).toNatClampNeg = (d * 10) + p from cI_cl (a := (d * 10) + p) (cI_add (a := d * 10) (b := p) (cI_mul (a := d) (b := 10) rfl rfl) rfl) (by omega)]
  refine aw_ret rfl rfl trivial ?_
  refine ⟨?_, rfl⟩
  exact congrArg (fun q => some (Value.int q)) (hW d p hd hp)
theorem ev_Forecast_grows {n N : Nat} {B : ae_B} {W : Nat → Nat → Int32} {d p : Nat} {zd : Nat} (hC : cOk B n (σ 1) (σ 3) (σ 5) (σ 15) (α 0) (α 1) (α 2) t0 ts) (hW : fW n N W (α 22)) (hN : N ≤ 60) (hd : d ≤ N) (hp : p < n) : ae_Ev P (zd + 2) 54 [.ref 28, .int (nI d), .int (nI p)] (ae_en σ α z t0 ts) (some (.int (gGr B (W d) p))) (ae_en σ α z t0 ts) := by
  obtain ⟨hn, hn10, hs3, hk0, hk1, hk2, hr⟩ := id hC
  refine aw_evE (cd := cd_Forecast_grows) rfl rfl rfl ?_
  show aw_W _ _ _ _ (0, [some (.ref 28), some (.int (nI d)), some (.int (nI p))], []) (ae_en σ α z t0 ts)
  refine aw_go 13 rfl ⟨trivial, trivial, trivial, trivial, (cI_in (a := p) rfl (by omega) (by decide)), trivial, trivial, trivial, trivial, (cI_in (a := p) rfl (by omega) (by decide)), trivial, trivial, trivial, trivial⟩ ?_
  show aw_W _ _ _ _ (13, [some (.ref 28), some (.int (nI d)), some (.int (nI p))], [.int (nI p), .int (nI d), .ref 28, .int (α 1 (nI p).toNatClampNeg), .int (α 0 (nI p).toNatClampNeg)]) (ae_en σ α z t0 ts)
  rw [show (nI p).toNatClampNeg = p from cI_cl (a := p) rfl (by omega)]
  refine aw_callE rfl rfl (ev_Forecast_wetBehind (d := d) (p := p) hC hW hN hd hp) ?_
  show aw_W _ _ _ _ (14, [some (.ref 28), some (.int (nI d)), some (.int (nI p))], [.int (W d p), .int (α 1 p), .int (α 0 p)]) (ae_en σ α z t0 ts)
  refine aw_go 5 rfl ⟨trivial, trivial, trivial, trivial, (cI_in (a := p) rfl (by omega) (by decide)), trivial⟩ ?_
  show aw_W _ _ _ _ (19, [some (.ref 28), some (.int (nI d)), some (.int (nI p))], [.int (α 2 (nI p).toNatClampNeg), .int (W d p), .int (α 1 p), .int (α 0 p)]) (ae_en σ α z t0 ts)
  rw [show (nI p).toNatClampNeg = p from cI_cl (a := p) rfl (by omega)]
  refine aw_callE rfl rfl (ev_Wood_grows (k := (α 0 p)) (w := (α 1 p)) (x := (W d p)) (n := (α 2 p))) ?_
  show aw_W _ _ _ _ (20, [some (.ref 28), some (.int (nI d)), some (.int (nI p))], [.int (fGr (α 0 p) (α 1 p) (W d p) (α 2 p))]) (ae_en σ α z t0 ts)
  refine aw_ret rfl rfl trivial ?_
  refine ⟨?_, rfl⟩
  rw [hk0, hk1, hk2]
  rfl
theorem ev_Forecast_wetter {n N : Nat} {B : ae_B} {W : Nat → Nat → Int32} {d : Nat} {q x : Int32} {zd : Nat} (hC : cOk B n (σ 1) (σ 3) (σ 5) (σ 15) (α 0) (α 1) (α 2) t0 ts) (hW : fW n N W (α 22)) (hN : N ≤ 60) (hd : d ≤ N) : ae_Ev P (zd + 2) 59 [.ref 28, .int (nI d), .int q, .int x] (ae_en σ α z t0 ts) (some (.int (bI (iP n q ∧ x < W d q.toNatClampNeg)))) (ae_en σ α z t0 ts) := by
  obtain ⟨hn, hn10, hs3, hk0, hk1, hk2, hr⟩ := id hC
  refine aw_evE (cd := cd_Forecast_wetter) rfl rfl rfl ?_
  show aw_W _ _ _ _ (0, [some (.ref 28), some (.int (nI d)), some (.int q), some (.int x)], []) (ae_en σ α z t0 ts)
  refine aw_go 3 rfl ⟨trivial, trivial, trivial, trivial⟩ ?_
  show aw_W _ _ _ _ (3, [some (.ref 28), some (.int (nI d)), some (.int q), some (.int x)], [.int q, .ref 1]) (ae_en σ α z t0 ts)
  refine aw_callE rfl rfl (ec_Boat_hasPlank (p := q) hn hn10) ?_
  show aw_W _ _ _ _ (4, [some (.ref 28), some (.int (nI d)), some (.int q), some (.int x)], [.int (bI (iP n q))]) (ae_en σ α z t0 ts)
  refine aw_go 1 rfl ⟨trivial, trivial⟩ ?_
  refine aw_br (c := (bI (iP n q)) = 0) (fun h4 => ?_) (fun h4 => ?_)
  · skip
    have h4 := bI_f h4
    show aw_W _ _ _ _ (13, [some (.ref 28), some (.int (nI d)), some (.int q), some (.int x)], []) (ae_en σ α z t0 ts)
    refine aw_go 1 rfl ⟨trivial, trivial⟩ ?_
    refine aw_ret rfl rfl trivial ?_
    refine ⟨?_, rfl⟩
    exact congrArg (fun q => some (Value.int q)) (bI_0 (fun w => h4 w.1))
  · skip
    have h4 := bI_t h4
    show aw_W _ _ _ _ (5, [some (.ref 28), some (.int (nI d)), some (.int q), some (.int x)], []) (ae_en σ α z t0 ts)
    obtain ⟨j, hj, rfl⟩ := iP_of h4 (by omega)
    refine aw_go 3 rfl ⟨trivial, trivial, trivial, trivial⟩ ?_
    refine aw_callE rfl rfl (ev_Forecast_wetBehind (d := d) (p := j) hC hW hN hd hj) ?_
    show aw_W _ _ _ _ (9, [some (.ref 28), some (.int (nI d)), some (.int (nI j)), some (.int x)], [.int (W d j)]) (ae_en σ α z t0 ts)
    refine aw_go 2 rfl ⟨trivial, trivial, trivial⟩ ?_
    refine aw_br (c := (W d j) ≤ x) (fun h10 => ?_) (fun h10 => ?_)
    · skip
      show aw_W _ _ _ _ (13, [some (.ref 28), some (.int (nI d)), some (.int (nI j)), some (.int x)], []) (ae_en σ α z t0 ts)
      refine aw_go 1 rfl ⟨trivial, trivial⟩ ?_
      refine aw_ret rfl rfl trivial ?_
      refine ⟨?_, rfl⟩
      exact congrArg (fun q => some (Value.int q)) (bI_0 (fun w => absurd w.2 (by rw [nI_clamp (by omega)]; exact Int32.not_lt.mpr h10)))
    · skip
      show aw_W _ _ _ _ (11, [some (.ref 28), some (.int (nI d)), some (.int (nI j)), some (.int x)], []) (ae_en σ α z t0 ts)
      refine aw_go 2 rfl ⟨trivial, trivial, trivial⟩ ?_
      refine aw_ret rfl rfl trivial ?_
      refine ⟨?_, rfl⟩
      exact congrArg (fun q => some (Value.int q)) (bI_1 ⟨iP_nI hj (by omega), by rw [nI_clamp (by omega)]; exact Int32.not_le.mp h10⟩)
theorem aw_Rules_answer {t : ae_T} {zd k q : Nat} {e : Nat → List Int32} (hk : ae_get (t0 :: ts) k = some t) (hq : q < 3) (ht : tOk t e) (hs : σ 15 = nI (ts.length + 1)) (hs6 : ts.length + 1 ≤ 6) : aw_X P (zd + 2) 89 [.ref 25, .int (nI k), .int (nI q), .ref 30] (ae_en σ α z t0 ts) (fun r H => ∃ wt : Nat → Int32, r = some (.int (sA (α 23) (e q))) ∧ H = ae_en (au σ [(16, nI 1)]) (au α [(21, wt)]) z t0 ts) := ⟨_, _, ⟨_, rfl, rfl⟩, ev_Rules_answer hk hq ht hs hs6⟩
theorem ev_Forecast_ruled {n N : Nat} {B : ae_B} {W : Nat → Nat → Int32} {d p q : Nat} {zd : Nat} (hC : cOk B n (σ 1) (σ 3) (σ 5) (σ 15) (α 0) (α 1) (α 2) t0 ts) (hW : fW n N W (α 22)) (hN : N ≤ 60) (hd : d ≤ N) (hp : p < n) (hq : q < 3) : aw_X P (zd + 3) 58 [.ref 28, .int (nI q), .int (nI d), .int (nI p)] (ae_en σ α z t0 ts) (fun r H => ∃ (wt : Nat → Int32) (nv : Nat → Int32), r = some (.int (gRl B n (W d) (dyA (σ 2) d) p q)) ∧ H = (ae_en (au σ [(16, nI 1)]) (au α [(21, wt), (23, nv)]) z t0 ts)) := by
  obtain ⟨hn, hn10, hs3, hk0, hk1, hk2, hr⟩ := id hC
  obtain ⟨kr, tr, hr5, hrk, hrt, hr15, hr6⟩ := hr
  refine aw_ev (cd := cd_Forecast_ruled) rfl rfl rfl ?_
  show aw_W _ _ _ _ (0, [some (.ref 28), some (.int (nI q)), some (.int (nI d)), some (.int (nI p)), none], []) (ae_en σ α z t0 ts)
  refine aw_go 3 rfl ⟨trivial, trivial, trivial, trivial⟩ ?_
  refine aw_callE rfl rfl (ev_Forecast_wetBehind (d := d) (p := p) hC hW hN hd hp) ?_
  show aw_W _ _ _ _ (4, [some (.ref 28), some (.int (nI q)), some (.int (nI d)), some (.int (nI p)), none], [.int (W d p)]) (ae_en σ α z t0 ts)
  refine aw_go 22 rfl ⟨trivial, trivial, trivial, trivial, trivial, (cI_in (a := 0) rfl (by omega) (by decide)), trivial, trivial, trivial, trivial, trivial, trivial, (cI_in (a := 1) rfl (by omega) (by decide)), trivial, trivial, trivial, trivial, trivial, trivial, trivial, trivial, trivial, trivial⟩ ?_
  show aw_W _ _ _ _ (26, [some (.ref 28), some (.int (nI q)), some (.int (nI d)), some (.int (nI p)), some (.int (W d p))], [.int (W d p), .int ((nI p) - 1), .int (nI d), .ref 28, .int 2, .ref 30]) (ae_en σ (au α [(23, upd (upd (α 23) (0 : Int32).toNatClampNeg (W d p)) (1 : Int32).toNatClampNeg (100 - (W d p)))]) z t0 ts)
  rw [show (0 : Int32).toNatClampNeg = 0 from cI_cl (a := 0) rfl (by omega)]
  rw [show (1 : Int32).toNatClampNeg = 1 from cI_cl (a := 1) rfl (by omega)]
  refine aw_callE rfl rfl (ev_Forecast_wetter (d := d) (q := ((nI p) - 1)) (x := (W d p)) hC hW hN hd) ?_
  show aw_W _ _ _ _ (27, [some (.ref 28), some (.int (nI q)), some (.int (nI d)), some (.int (nI p)), some (.int (W d p))], [.int (bI (iP n ((nI p) - 1) ∧ (W d p) < W d ((nI p) - 1).toNatClampNeg)), .int 2, .ref 30]) (ae_en σ (au α [(23, upd (upd (α 23) 0 (W d p)) 1 (100 - (W d p)))]) z t0 ts)
  refine aw_go 6 rfl ⟨trivial, trivial, trivial, trivial, trivial, trivial, trivial⟩ ?_
  show aw_W _ _ _ _ (33, [some (.ref 28), some (.int (nI q)), some (.int (nI d)), some (.int (nI p)), some (.int (W d p))], [.int (W d p), .int ((nI p) + 1), .int (nI d), .ref 28, .int (bI (iP n ((nI p) - 1) ∧ (W d p) < W d ((nI p) - 1).toNatClampNeg)), .int 2, .ref 30]) (ae_en σ (au α [(23, upd (upd (α 23) 0 (W d p)) 1 (100 - (W d p)))]) z t0 ts)
  rw [show (nI p) + 1 = nI (p + 1) from (cI_add (a := p) (b := 1) rfl rfl)]
  refine aw_callE rfl rfl (ev_Forecast_wetter (d := d) (q := (nI (p + 1))) (x := (W d p)) hC hW hN hd) ?_
  show aw_W _ _ _ _ (34, [some (.ref 28), some (.int (nI q)), some (.int (nI d)), some (.int (nI p)), some (.int (W d p))], [.int (bI (iP n (nI (p + 1)) ∧ (W d p) < W d (nI (p + 1)).toNatClampNeg)), .int (bI (iP n ((nI p) - 1) ∧ (W d p) < W d ((nI p) - 1).toNatClampNeg)), .int 2, .ref 30]) (ae_en σ (au α [(23, upd (upd (α 23) 0 (W d p)) 1 (100 - (W d p)))]) z t0 ts)
  refine aw_go 37 rfl ⟨trivial, (cI_in (a := 2) rfl (by omega) (by decide)), trivial, trivial, trivial, trivial, trivial, trivial, trivial, (cI_in (a := p) rfl (by omega) (by decide)), (cI_in (a := 3) rfl (by omega) (by decide)), trivial, trivial, trivial, trivial, trivial, trivial, trivial, trivial, trivial, trivial, (cI_in (a := 4) rfl (by omega) (by decide)), trivial, trivial, trivial, trivial, trivial, trivial, (cI_in (a := 5) rfl (by omega) (by decide)), trivial, trivial, trivial, trivial, trivial, trivial, trivial, trivial, trivial⟩ ?_
  show aw_W _ _ _ _ (71, [some (.ref 28), some (.int (nI q)), some (.int (nI d)), some (.int (nI p)), some (.int (W d p))], [.ref 30, .int (nI q), .int (σ 5), .ref 25]) (ae_en σ (au α [(23, upd (upd (upd (upd (upd (upd (α 23) 0 (W d p)) 1 (100 - (W d p))) (2 : Int32).toNatClampNeg ((bI (iP n ((nI p) - 1) ∧ (W d p) < W d ((nI p) - 1).toNatClampNeg)) + (bI (iP n (nI (p + 1)) ∧ (W d p) < W d (nI (p + 1)).toNatClampNeg)))) (3 : Int32).toNatClampNeg (α 2 (nI p).toNatClampNeg)) (4 : Int32).toNatClampNeg (fMn 9999 ((σ 2) + (nI d)))) (5 : Int32).toNatClampNeg (σ 3))]) z t0 ts)
  rw [show (2 : Int32).toNatClampNeg = 2 from cI_cl (a := 2) rfl (by omega)]
  rw [show (nI p).toNatClampNeg = p from cI_cl (a := p) rfl (by omega)]
  rw [show (3 : Int32).toNatClampNeg = 3 from cI_cl (a := 3) rfl (by omega)]
  rw [show (4 : Int32).toNatClampNeg = 4 from cI_cl (a := 4) rfl (by omega)]
  rw [show (5 : Int32).toNatClampNeg = 5 from cI_cl (a := 5) rfl (by omega)]
  rw [show σ 5 = nI kr from hr5]
  refine aw_call rfl rfl (aw_Rules_answer (k := kr) (q := q) hrk hq hrt hr15 hr6) ?_
  rintro _ _ ⟨wt_71, rfl, rfl⟩
  show aw_W _ _ _ _ (72, [some (.ref 28), some (.int (nI q)), some (.int (nI d)), some (.int (nI p)), some (.int (W d p))], [.int (sA (upd (upd (upd (upd (upd (upd (α 23) 0 (W d p)) 1 (100 - (W d p))) 2 ((bI (iP n ((nI p) - 1) ∧ (W d p) < W d ((nI p) - 1).toNatClampNeg)) + (bI (iP n (nI (p + 1)) ∧ (W d p) < W d (nI (p + 1)).toNatClampNeg)))) 3 (α 2 p)) 4 (fMn 9999 ((σ 2) + (nI d)))) 5 (σ 3)) (B.1 q))]) (ae_en (au σ [(16, nI 1)]) (au α [(21, wt_71), (23, upd (upd (upd (upd (upd (upd (α 23) 0 (W d p)) 1 (100 - (W d p))) 2 ((bI (iP n ((nI p) - 1) ∧ (W d p) < W d ((nI p) - 1).toNatClampNeg)) + (bI (iP n (nI (p + 1)) ∧ (W d p) < W d (nI (p + 1)).toNatClampNeg)))) 3 (α 2 p)) 4 (fMn 9999 ((σ 2) + (nI d)))) 5 (σ 3))]) z t0 ts)
  refine aw_ret rfl rfl trivial ?_
  refine ⟨_, _, ?_, rfl⟩
  refine congrArg (fun q => some (Value.int q)) (sA_cg (fun j hj => ?_) (hrt.1 q hq).1)
  obtain rfl | rfl | rfl | rfl | rfl | rfl : j = 0 ∨ j = 1 ∨ j = 2 ∨ j = 3 ∨ j = 4 ∨ j = 5 := by omega
  · rfl
  · rfl
  · show bI _ + bI _ = gNr n (W d) p
    rw [nr_l hp hn10, nr_r hp hn10]
    rfl
  · show α 2 p = B.2.1.2.2 p
    rw [hk2]
  · rfl
  · exact hs3
theorem ev_Forecast_takesUp {n N : Nat} {B : ae_B} {W : Nat → Nat → Int32} {d p : Nat} {zd : Nat} (hC : cOk B n (σ 1) (σ 3) (σ 5) (σ 15) (α 0) (α 1) (α 2) t0 ts) (hW : fW n N W (α 22)) (hN : N ≤ 60) (hd : d ≤ N) (hp : p < n) : aw_X P (zd + 4) 55 [.ref 28, .int (nI d), .int (nI p)] (ae_en σ α z t0 ts) (fun r H => ∃ (wt : Nat → Int32) (nv : Nat → Int32), r = some (.int (gTk B n (W d) (dyA (σ 2) d) p)) ∧ H = (ae_en (au σ [(16, nI 1)]) (au α [(21, wt), (23, nv)]) z t0 ts)) := by
  obtain ⟨hn, hn10, hs3, hk0, hk1, hk2, hr⟩ := id hC
  refine aw_ev (cd := cd_Forecast_takesUp) rfl rfl rfl ?_
  show aw_W _ _ _ _ (0, [some (.ref 28), some (.int (nI d)), some (.int (nI p)), none], []) (ae_en σ α z t0 ts)
  refine aw_go 6 rfl ⟨trivial, trivial, trivial, trivial, trivial, trivial, trivial⟩ ?_
  refine aw_call rfl rfl (ev_Forecast_ruled (q := 0) (d := d) (p := p) hC hW hN hd hp (by decide)) ?_
  rintro _ _ ⟨wt_6, nv_6, rfl, rfl⟩
  show aw_W _ _ _ _ (7, [some (.ref 28), some (.int (nI d)), some (.int (nI p)), none], [.int (gRl B n (W d) (dyA (σ 2) d) p 0), .int 100, .int 0]) (ae_en (au σ [(16, nI 1)]) (au α [(21, wt_6), (23, nv_6)]) z t0 ts)
  refine aw_go 14 rfl ⟨trivial, trivial, trivial, trivial, trivial, trivial, trivial, (cI_in (a := p) rfl (by omega) (by decide)), trivial, trivial, trivial, trivial, trivial, (cI_in (a := p) rfl (by omega) (by decide)), trivial⟩ ?_
  show aw_W _ _ _ _ (21, [some (.ref 28), some (.int (nI d)), some (.int (nI p)), some (.int (fMx 0 (fMn 100 (gRl B n (W d) (dyA (σ 2) d) p 0))))], [.int (α 2 (nI p).toNatClampNeg), .int (fMx 0 (fMn 100 (gRl B n (W d) (dyA (σ 2) d) p 0))), .int (α 0 (nI p).toNatClampNeg)]) (ae_en (au σ [(16, nI 1)]) (au α [(21, wt_6), (23, nv_6)]) z t0 ts)
  rw [show (nI p).toNatClampNeg = p from cI_cl (a := p) rfl (by omega)]
  refine aw_callE rfl rfl (ev_Wood_takesUp (k := (α 0 p)) (s := (fMx 0 (fMn 100 (gRl B n (W d) (dyA (σ 2) d) p 0)))) (n := (α 2 p))) ?_
  show aw_W _ _ _ _ (22, [some (.ref 28), some (.int (nI d)), some (.int (nI p)), some (.int (fMx 0 (fMn 100 (gRl B n (W d) (dyA (σ 2) d) p 0))))], [.int (fTk (α 0 p) (fMx 0 (fMn 100 (gRl B n (W d) (dyA (σ 2) d) p 0))) (α 2 p))]) (ae_en (au σ [(16, nI 1)]) (au α [(21, wt_6), (23, nv_6)]) z t0 ts)
  refine aw_ret rfl rfl trivial ?_
  refine ⟨_, _, ?_, rfl⟩
  rw [hk0, hk2]
  rfl
theorem ev_Forecast_dries {n N : Nat} {B : ae_B} {W : Nat → Nat → Int32} {p : Nat} {zd : Nat} (hC : cOk B n (σ 1) (σ 3) (σ 5) (σ 15) (α 0) (α 1) (α 2) t0 ts) (hW : fW n N W (α 22)) (hN : N ≤ 60) (hp : p < n) : aw_X P (zd + 4) 56 [.ref 28, .int (nI p)] (ae_en σ α z t0 ts) (fun r H => ∃ (wt : Nat → Int32) (nv : Nat → Int32), r = some (.int (gDr B n (W 0) (dyA (σ 2) 0) p)) ∧ H = (ae_en (au σ [(16, nI 1)]) (au α [(21, wt), (23, nv)]) z t0 ts)) := by
  obtain ⟨hn, hn10, hs3, hk0, hk1, hk2, hr⟩ := id hC
  refine aw_ev (cd := cd_Forecast_dries) rfl rfl rfl ?_
  show aw_W _ _ _ _ (0, [some (.ref 28), some (.int (nI p))], []) (ae_en σ α z t0 ts)
  refine aw_go 6 rfl ⟨trivial, trivial, trivial, trivial, trivial, trivial, trivial⟩ ?_
  refine aw_call rfl rfl (ev_Forecast_ruled (q := 2) (d := 0) (p := p) hC hW hN (Nat.zero_le _) hp (by decide)) ?_
  rintro _ _ ⟨wt_6, nv_6, rfl, rfl⟩
  show aw_W _ _ _ _ (7, [some (.ref 28), some (.int (nI p))], [.int (gRl B n (W 0) (dyA (σ 2) 0) p 2), .int 100, .int 0]) (ae_en (au σ [(16, nI 1)]) (au α [(21, wt_6), (23, nv_6)]) z t0 ts)
  refine aw_go 2 rfl ⟨trivial, trivial, trivial⟩ ?_
  show aw_W _ _ _ _ (9, [some (.ref 28), some (.int (nI p))], [.int (fMx 0 (fMn 100 (gRl B n (W 0) (dyA (σ 2) 0) p 2)))]) (ae_en (au σ [(16, nI 1)]) (au α [(21, wt_6), (23, nv_6)]) z t0 ts)
  refine aw_ret rfl rfl trivial ?_
  exact ⟨_, _, rfl, rfl⟩
theorem ev_Forecast_leak {n N : Nat} {B : ae_B} {W : Nat → Nat → Int32} {d p : Nat} {zd : Nat} (hC : cOk B n (σ 1) (σ 3) (σ 5) (σ 15) (α 0) (α 1) (α 2) t0 ts) (hW : fW n N W (α 22)) (hN : N ≤ 60) (hd : d ≤ N) (hp : p < n) : aw_X P (zd + 4) 57 [.ref 28, .int (nI d), .int (nI p)] (ae_en σ α z t0 ts) (fun r H => ∃ (wt : Nat → Int32) (nv : Nat → Int32), r = some (.int (gLk B n (W d) (dyA (σ 2) d) p)) ∧ H = (ae_en (au σ [(16, nI 1)]) (au α [(21, wt), (23, nv)]) z t0 ts)) := by
  obtain ⟨hn, hn10, hs3, hk0, hk1, hk2, hr⟩ := id hC
  refine aw_ev (cd := cd_Forecast_leak) rfl rfl rfl ?_
  show aw_W _ _ _ _ (0, [some (.ref 28), some (.int (nI d)), some (.int (nI p))], []) (ae_en σ α z t0 ts)
  refine aw_go 6 rfl ⟨trivial, trivial, trivial, trivial, trivial, trivial, trivial⟩ ?_
  refine aw_call rfl rfl (ev_Forecast_ruled (q := 1) (d := d) (p := p) hC hW hN hd hp (by decide)) ?_
  rintro _ _ ⟨wt_6, nv_6, rfl, rfl⟩
  show aw_W _ _ _ _ (7, [some (.ref 28), some (.int (nI d)), some (.int (nI p))], [.int (gRl B n (W d) (dyA (σ 2) d) p 1), .int 999, .int 0]) (ae_en (au σ [(16, nI 1)]) (au α [(21, wt_6), (23, nv_6)]) z t0 ts)
  refine aw_go 2 rfl ⟨trivial, trivial, trivial⟩ ?_
  show aw_W _ _ _ _ (9, [some (.ref 28), some (.int (nI d)), some (.int (nI p))], [.int (fMx 0 (fMn 999 (gRl B n (W d) (dyA (σ 2) d) p 1)))]) (ae_en (au σ [(16, nI 1)]) (au α [(21, wt_6), (23, nv_6)]) z t0 ts)
  refine aw_ret rfl rfl trivial ?_
  exact ⟨_, _, rfl, rfl⟩
theorem ev_Forecast_isGone {d g go : Nat} {zd : Nat} (hgo : (α 25) g = nI go) (go60 : go ≤ 60) (d60 : d ≤ 60) (g9 : g < 9) : ae_Ev P (zd + 1) 48 [.ref 28, .int (nI d), .int (nI g)] (ae_en σ α z t0 ts) (some (.int (bI (0 < go ∧ go ≤ d)))) (ae_en σ α z t0 ts) := by
  refine aw_evE (cd := cd_Forecast_isGone) rfl rfl rfl ?_
  show aw_W _ _ _ _ (0, [some (.ref 28), some (.int (nI d)), some (.int (nI g))], []) (ae_en σ α z t0 ts)
  refine aw_go 5 rfl ⟨trivial, trivial, trivial, (cI_in (a := g) rfl (by omega) (by decide)), trivial, trivial⟩ ?_
  show aw_W _ _ _ _ (if (α 25 (nI g).toNatClampNeg) ≤ 0 then 13 else 5, [some (.ref 28), some (.int (nI d)), some (.int (nI g))], []) (ae_en σ α z t0 ts)
  rw [show (nI g).toNatClampNeg = g from cI_cl (a := g) rfl (by omega)]
  refine aw_br (c := (α 25 g) ≤ 0) (fun h4 => ?_) (fun h4 => ?_)
  · skip
    have h4 := cI_leT (a := go) (b := 0) hgo rfl (by omega) (by omega) h4
    show aw_W _ _ _ _ (13, [some (.ref 28), some (.int (nI d)), some (.int (nI g))], []) (ae_en σ α z t0 ts)
    refine aw_go 1 rfl ⟨trivial, trivial⟩ ?_
    refine aw_ret rfl rfl (by first | exact Or.inl rfl | exact Or.inr rfl | exact bI_b _) ?_
    refine ⟨?_, rfl⟩
    exact congrArg (fun q => some (Value.int q)) (bI_0 (by omega))
  · skip
    have h4 := cI_leF (a := go) (b := 0) hgo rfl (by omega) (by omega) h4
    show aw_W _ _ _ _ (5, [some (.ref 28), some (.int (nI d)), some (.int (nI g))], []) (ae_en σ α z t0 ts)
    refine aw_go 6 rfl ⟨trivial, trivial, trivial, (cI_in (a := g) rfl (by omega) (by decide)), trivial, trivial, trivial⟩ ?_
    show aw_W _ _ _ _ (if (nI d) < (α 25 (nI g).toNatClampNeg) then 13 else 11, [some (.ref 28), some (.int (nI d)), some (.int (nI g))], []) (ae_en σ α z t0 ts)
    rw [show (nI g).toNatClampNeg = g from cI_cl (a := g) rfl (by omega)]
    refine aw_br (c := (nI d) < (α 25 g)) (fun h10 => ?_) (fun h10 => ?_)
    · skip
      have h10 := cI_ltT (a := d) (b := go) rfl hgo (by omega) (by omega) h10
      show aw_W _ _ _ _ (13, [some (.ref 28), some (.int (nI d)), some (.int (nI g))], []) (ae_en σ α z t0 ts)
      refine aw_go 1 rfl ⟨trivial, trivial⟩ ?_
      refine aw_ret rfl rfl (by first | exact Or.inl rfl | exact Or.inr rfl | exact bI_b _) ?_
      refine ⟨?_, rfl⟩
      exact congrArg (fun q => some (Value.int q)) (bI_0 (by omega))
    · skip
      have h10 := cI_ltF (a := d) (b := go) rfl hgo (by omega) (by omega) h10
      show aw_W _ _ _ _ (11, [some (.ref 28), some (.int (nI d)), some (.int (nI g))], []) (ae_en σ α z t0 ts)
      refine aw_go 2 rfl ⟨trivial, trivial, trivial⟩ ?_
      refine aw_ret rfl rfl (by first | exact Or.inl rfl | exact Or.inr rfl | exact bI_b _) ?_
      refine ⟨?_, rfl⟩
      exact congrArg (fun q => some (Value.int q)) (bI_1 (by omega))
theorem ev_Forecast_wide {d g go : Nat} {zd : Nat} (hgo : (α 25) g = nI go) (go60 : go ≤ 60) (d60 : d ≤ 60) (g9 : g < 9) : ae_Ev P (zd + 2) 49 [.ref 28, .int (nI d), .int (nI g)] (ae_en σ α z t0 ts) (some (.int ((α 5) g + (if 0 < go ∧ go ≤ d then (α 26) g else 0)))) (ae_en σ α z t0 ts) := by
  refine aw_evE (cd := cd_Forecast_wide) rfl rfl rfl ?_
  show aw_W _ _ _ _ (0, [some (.ref 28), some (.int (nI d)), some (.int (nI g))], []) (ae_en σ α z t0 ts)
  refine aw_go 8 rfl ⟨trivial, trivial, trivial, trivial, (cI_in (a := g) rfl (by omega) (by decide)), trivial, trivial, trivial, trivial⟩ ?_
  show aw_W _ _ _ _ (8, [some (.ref 28), some (.int (nI d)), some (.int (nI g))], [.int (nI g), .int (nI d), .ref 28, .int (α 5 (nI g).toNatClampNeg)]) (ae_en σ α z t0 ts)
  rw [show (nI g).toNatClampNeg = g from cI_cl (a := g) rfl (by omega)]
  refine aw_callE rfl rfl (ev_Forecast_isGone (d := d) (g := g) hgo go60 d60 g9) ?_
  show aw_W _ _ _ _ (9, [some (.ref 28), some (.int (nI d)), some (.int (nI g))], [.int (bI (0 < go ∧ go ≤ d)), .int (α 5 g)]) (ae_en σ α z t0 ts)
  refine aw_go 1 rfl ⟨trivial, trivial⟩ ?_
  refine aw_br (c := (bI (0 < go ∧ go ≤ d)) = 0) (fun h9 => ?_) (fun h9 => ?_)
  · skip
    have h9 := bI_f h9
    show aw_W _ _ _ _ (15, [some (.ref 28), some (.int (nI d)), some (.int (nI g))], [.int (α 5 g)]) (ae_en σ α z t0 ts)
    refine aw_go 2 rfl ⟨trivial, trivial, trivial⟩ ?_
    show aw_W _ _ _ _ (17, [some (.ref 28), some (.int (nI d)), some (.int (nI g))], [.int ((α 5 g) + 0)]) (ae_en σ α z t0 ts)
    refine aw_ret rfl rfl trivial ?_
    refine ⟨?_, rfl⟩
    rw [if_neg h9]
  · skip
    have h9 := bI_t h9
    show aw_W _ _ _ _ (10, [some (.ref 28), some (.int (nI d)), some (.int (nI g))], [.int (α 5 g)]) (ae_en σ α z t0 ts)
    refine aw_go 6 rfl ⟨trivial, trivial, trivial, (cI_in (a := g) rfl (by omega) (by decide)), trivial, trivial, trivial⟩ ?_
    show aw_W _ _ _ _ (17, [some (.ref 28), some (.int (nI d)), some (.int (nI g))], [.int ((α 5 g) + (α 26 (nI g).toNatClampNeg))]) (ae_en σ α z t0 ts)
    rw [show (nI g).toNatClampNeg = g from cI_cl (a := g) rfl (by omega)]
    refine aw_ret rfl rfl trivial ?_
    refine ⟨?_, rfl⟩
    rw [if_pos h9]
theorem ev_Forecast_left {n N : Nat} {B : ae_B} {W : Nat → Nat → Int32} {d g go : Nat} {zd : Nat} (hC : cOk B n (σ 1) (σ 3) (σ 5) (σ 15) (α 0) (α 1) (α 2) t0 ts) (hW : fW n N W (α 22)) (hN : N ≤ 60) (hd : d ≤ N) (hg : g + 1 < n) (hgo : (α 25) g = nI go) (go60 : go ≤ 60) : ae_Ev P (zd + 3) 50 [.ref 28, .int (nI d), .int (nI g)] (ae_en σ α z t0 ts) (some (.int (gLf B (W d) g ((α 5) g + (if 0 < go ∧ go ≤ d then (α 26) g else 0)) ((α 24) g)))) (ae_en σ α z t0 ts) := by
  obtain ⟨hn, hn10, hs3, hk0, hk1, hk2, hr⟩ := id hC
  refine aw_evE (cd := cd_Forecast_left) rfl rfl rfl ?_
  show aw_W _ _ _ _ (0, [some (.ref 28), some (.int (nI d)), some (.int (nI g))], []) (ae_en σ α z t0 ts)
  refine aw_go 3 rfl ⟨trivial, trivial, trivial, trivial⟩ ?_
  refine aw_callE rfl rfl (ev_Forecast_wide (d := d) (g := g) hgo go60 (by omega) (by omega)) ?_
  show aw_W _ _ _ _ (4, [some (.ref 28), some (.int (nI d)), some (.int (nI g))], [.int ((α 5) g + (if 0 < go ∧ go ≤ d then (α 26) g else 0))]) (ae_en σ α z t0 ts)
  refine aw_go 3 rfl ⟨trivial, trivial, trivial, trivial⟩ ?_
  refine aw_callE rfl rfl (ev_Forecast_grows (d := d) (p := g) hC hW hN hd (by omega)) ?_
  show aw_W _ _ _ _ (8, [some (.ref 28), some (.int (nI d)), some (.int (nI g))], [.int (gGr B (W d) g), .int ((α 5) g + (if 0 < go ∧ go ≤ d then (α 26) g else 0))]) (ae_en σ α z t0 ts)
  refine aw_go 5 rfl ⟨trivial, trivial, trivial, trivial, trivial, trivial⟩ ?_
  show aw_W _ _ _ _ (13, [some (.ref 28), some (.int (nI d)), some (.int (nI g))], [.int ((nI g) + 1), .int (nI d), .ref 28, .int (gGr B (W d) g), .int ((α 5) g + (if 0 < go ∧ go ≤ d then (α 26) g else 0))]) (ae_en σ α z t0 ts)
  rw [show (nI g) + 1 = nI (g + 1) from (cI_add (a := g) (b := 1) rfl rfl)]
  refine aw_callE rfl rfl (ev_Forecast_grows (d := d) (p := (g + 1)) hC hW hN hd hg) ?_
  show aw_W _ _ _ _ (14, [some (.ref 28), some (.int (nI d)), some (.int (nI g))], [.int (gGr B (W d) (g + 1)), .int (gGr B (W d) g), .int ((α 5) g + (if 0 < go ∧ go ≤ d then (α 26) g else 0))]) (ae_en σ α z t0 ts)
  refine aw_go 9 rfl ⟨trivial, trivial, (by decide), trivial, trivial, trivial, trivial, (cI_in (a := g) rfl (by omega) (by decide)), trivial, trivial⟩ ?_
  show aw_W _ _ _ _ (23, [some (.ref 28), some (.int (nI d)), some (.int (nI g))], [.int ((((α 5) g + (if 0 < go ∧ go ≤ d then (α 26) g else 0)) - (((gGr B (W d) g) + (gGr B (W d) (g + 1))) / 2)) - (α 24 (nI g).toNatClampNeg))]) (ae_en σ α z t0 ts)
  rw [show (nI g).toNatClampNeg = g from cI_cl (a := g) rfl (by omega)]
  refine aw_ret rfl rfl trivial ?_
  refine ⟨?_, rfl⟩
  rfl
theorem ev_Forecast_open {n N : Nat} {B : ae_B} {W : Nat → Nat → Int32} {t : Nat → Int32} {d g : Nat} {zd : Nat} (hC : cOk B n (σ 1) (σ 3) (σ 5) (σ 15) (α 0) (α 1) (α 2) t0 ts) (hW : fW n N W (α 22)) (hN : N ≤ 60) (hL : fL B (n - 1) N W (α 5) t (α 7) (α 24) (α 25) (α 26)) (hd : d ≤ N) (hg : g + 1 < n) : ae_Ev P (zd + 4) 51 [.ref 28, .int (nI d), .int (nI g)] (ae_en σ α z t0 ts) (some (.int (gOp B N W (α 5) t (α 7) d g))) (ae_en σ α z t0 ts) := by
  obtain ⟨hn, hn10, hs3, hk0, hk1, hk2, hr⟩ := id hC
  obtain ⟨hl1, hl2, hl3⟩ := hL g (by omega)
  have hgl := gGo_le B N W g ((α 5) g) (t g) ((α 7) g)
  refine aw_evE (cd := cd_Forecast_open) rfl rfl rfl ?_
  show aw_W _ _ _ _ (0, [some (.ref 28), some (.int (nI d)), some (.int (nI g))], []) (ae_en σ α z t0 ts)
  refine aw_go 4 rfl ⟨trivial, trivial, trivial, trivial, trivial⟩ ?_
  refine aw_callE rfl rfl (ev_Forecast_left (d := d) (g := g) hC hW hN hd hg hl2 (by omega)) ?_
  show aw_W _ _ _ _ (5, [some (.ref 28), some (.int (nI d)), some (.int (nI g))], [.int (gLf B (W d) g ((α 5) g + (if 0 < (gGo B N W g (α 5 g) (t g) (α 7 g)) ∧ (gGo B N W g (α 5 g) (t g) (α 7 g)) ≤ d then (α 26) g else 0)) ((α 24) g)), .int 0]) (ae_en σ α z t0 ts)
  refine aw_go 1 rfl ⟨trivial, trivial⟩ ?_
  show aw_W _ _ _ _ (6, [some (.ref 28), some (.int (nI d)), some (.int (nI g))], [.int (fMx 0 (gLf B (W d) g ((α 5) g + (if 0 < (gGo B N W g (α 5 g) (t g) (α 7 g)) ∧ (gGo B N W g (α 5 g) (t g) (α 7 g)) ≤ d then (α 26) g else 0)) ((α 24) g)))]) (ae_en σ α z t0 ts)
  refine aw_ret rfl rfl trivial ?_
  refine ⟨?_, rfl⟩
  rw [hl1, hl3]
  rfl
theorem ev_Forecast_press {n N : Nat} {B : ae_B} {W : Nat → Nat → Int32} {t : Nat → Int32} {d g : Nat} {zd : Nat} (hC : cOk B n (σ 1) (σ 3) (σ 5) (σ 15) (α 0) (α 1) (α 2) t0 ts) (hW : fW n N W (α 22)) (hN : N ≤ 60) (hL : fL B (n - 1) N W (α 5) t (α 7) (α 24) (α 25) (α 26)) (hd : d ≤ N) (hg : g + 1 < n) : ae_Ev P (zd + 4) 52 [.ref 28, .int (nI d), .int (nI g)] (ae_en σ α z t0 ts) (some (.int (gPr B N W (α 5) t (α 7) d g))) (ae_en σ α z t0 ts) := by
  obtain ⟨hn, hn10, hs3, hk0, hk1, hk2, hr⟩ := id hC
  obtain ⟨hl1, hl2, hl3⟩ := hL g (by omega)
  have hgl := gGo_le B N W g ((α 5) g) (t g) ((α 7) g)
  refine aw_evE (cd := cd_Forecast_press) rfl rfl rfl ?_
  show aw_W _ _ _ _ (0, [some (.ref 28), some (.int (nI d)), some (.int (nI g))], []) (ae_en σ α z t0 ts)
  refine aw_go 4 rfl ⟨trivial, trivial, trivial, trivial, trivial⟩ ?_
  refine aw_callE rfl rfl (ev_Forecast_left (d := d) (g := g) hC hW hN hd hg hl2 (by omega)) ?_
  show aw_W _ _ _ _ (5, [some (.ref 28), some (.int (nI d)), some (.int (nI g))], [.int (gLf B (W d) g ((α 5) g + (if 0 < (gGo B N W g (α 5 g) (t g) (α 7 g)) ∧ (gGo B N W g (α 5 g) (t g) (α 7 g)) ≤ d then (α 26) g else 0)) ((α 24) g)), .int 0]) (ae_en σ α z t0 ts)
  refine aw_go 2 rfl ⟨trivial, trivial, trivial⟩ ?_
  show aw_W _ _ _ _ (7, [some (.ref 28), some (.int (nI d)), some (.int (nI g))], [.int (fMx 0 (- (gLf B (W d) g ((α 5) g + (if 0 < (gGo B N W g (α 5 g) (t g) (α 7 g)) ∧ (gGo B N W g (α 5 g) (t g) (α 7 g)) ≤ d then (α 26) g else 0)) ((α 24) g))))]) (ae_en σ α z t0 ts)
  refine aw_ret rfl rfl trivial ?_
  refine ⟨?_, rfl⟩
  rw [hl1, hl3]
  rfl
theorem ek_Forecast_isGone {n N : Nat} {B : ae_B} {W : Nat → Nat → Int32} {t : Nat → Int32} {d g : Nat} {v f : Nat → Int32} {zd : Nat} (hC : cOk B n (σ 1) (σ 3) (σ 5) (σ 15) (α 0) (α 1) (α 2) t0 ts) (hW : fW n N W (α 22)) (hN : N ≤ 60) (hL : fL B (n - 1) N W v t f (α 24) (α 25) (α 26)) (hd : d ≤ N) (hg : g + 1 < n) : ae_Ev P (zd + 1) 48 [.ref 28, .int (nI d), .int (nI g)] (ae_en σ α z t0 ts) (some (.int (bI (0 < gGo B N W g (v g) (t g) (f g) ∧ gGo B N W g (v g) (t g) (f g) ≤ d)))) (ae_en σ α z t0 ts) := by
  obtain ⟨hn, hn10, hs3, hk0, hk1, hk2, hr⟩ := id hC
  obtain ⟨hl1, hl2, hl3⟩ := hL g (by omega)
  have hgl := gGo_le B N W g (v g) (t g) (f g)
  exact ev_Forecast_isGone hl2 (by omega) (by omega) (by omega)
theorem ek_Forecast_wide {n N : Nat} {B : ae_B} {W : Nat → Nat → Int32} {t : Nat → Int32} {d g : Nat} {zd : Nat} (hC : cOk B n (σ 1) (σ 3) (σ 5) (σ 15) (α 0) (α 1) (α 2) t0 ts) (hW : fW n N W (α 22)) (hN : N ≤ 60) (hL : fL B (n - 1) N W (α 5) t (α 7) (α 24) (α 25) (α 26)) (hd : d ≤ N) (hg : g + 1 < n) : ae_Ev P (zd + 2) 49 [.ref 28, .int (nI d), .int (nI g)] (ae_en σ α z t0 ts) (some (.int (gWd B N W d g ((α 5) g) (t g) ((α 7) g)))) (ae_en σ α z t0 ts) := by
  obtain ⟨hn, hn10, hs3, hk0, hk1, hk2, hr⟩ := id hC
  obtain ⟨hl1, hl2, hl3⟩ := hL g (by omega)
  have hgl := gGo_le B N W g ((α 5) g) (t g) ((α 7) g)
  have h := ev_Forecast_wide (P := P) (σ := σ) (α := α) (z := z) (t0 := t0) (ts := ts) (zd := zd) (d := d) (g := g) hl2 (by omega) (by omega) (by omega)
  rw [hl3] at h
  exact h
end L25
