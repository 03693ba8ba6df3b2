/-! the reference: days in the water -/
def nOk (n : Nat) (nl : Nat → Int32) : Prop := ∀ p, p < n → bnd (nl p) 99
theorem sumF_b {n : Nat} {f : Nat → Int32} {m : Nat} (h : ∀ p, p < n → bnd (f p) m) : ∀ k, k ≤ n → bnd (sumF f k) (m * k)
  | 0, _ => ⟨0, Nat.zero_le _, rfl⟩
  | k + 1, hk => by
    obtain ⟨a, ha, ea⟩ := sumF_b h k (by omega)
    obtain ⟨b, hb, eb⟩ := h k (by omega)
    exact ⟨a + b, by rw [Nat.mul_succ]; omega, by rw [sumF, ea, eb, nI_add]⟩
theorem rOp_b {B : ae_B} {n g : Nat} {w v s : Nat → Int32} (hb : bOk B n) (hw : wOk n w) (hg : g + 1 < n) (hv : bnd (v g) 200) (ht : bnd (s g) 100) : bnd (rOp B w v s g) 200 := by
  obtain ⟨z, h1, h2, e, -⟩ := gLf_i hb hw hg hv ht
  unfold rOp fMx
  rw [e]
  split
  · next q =>
    rw [show (0 : Int32) = Int32.ofInt 0 from rfl, iI_lt (by omega) (by omega) (by omega) (by omega)] at q
    exact ⟨z.toNat, by omega, by rw [nI_int]; congr 1; omega⟩
  · exact ⟨0, by omega, rfl⟩
theorem rCm_b {B : ae_B} {n : Nat} {w v s : Nat → Int32} {dy nl : Int32} (hb : bOk B n) (hw : wOk n w) (hv : vOk n 200 v) (ht : vOk n 100 s) (hnl : bnd nl 990) : ∀ g, g ≤ n - 1 → bnd (rCm B n w v s dy nl g) (9900 + 199800 * g)
  | 0, _ => by
    obtain ⟨a, ha, rfl⟩ := hnl
    exact ⟨10 * a, by omega, pk_mul 10 a⟩
  | g + 1, hg => by
    obtain ⟨a, ha, ea⟩ := rCm_b (dy := dy) hb hw hv ht hnl g (by omega)
    rw [rCm, ea]
    split
    · obtain ⟨x, hx, ex⟩ := rOp_b hb hw (show g + 1 < n by omega) (hv g (by omega)) (ht g (by omega))
      obtain ⟨y, hy, ey⟩ := gLk_b B n w dy g
      have hxy : x * y ≤ 200 * 999 := Nat.mul_le_mul hx hy
      rw [ex, ey, pk_mul, nI_add]
      exact ⟨_, by omega, rfl⟩
    · rw [Int32.add_zero]
      exact ⟨a, by omega, rfl⟩
theorem lN_add2 (a b : Nat) : lN a + lN b = lN (a + b) := by
  show Int64.ofNat a + Int64.ofNat b = Int64.ofNat (a + b)
  rw [Int64.ofNat_add]
theorem i2l_add {x y : Int32} {a b : Nat} (hx : bnd x a) (hy : bnd y b) (h : a + b < 2 ^ 31) : x.toInt64 + y.toInt64 = (x + y).toInt64 := by
  obtain ⟨m, hm, rfl⟩ := hx
  obtain ⟨k, hk, rfl⟩ := hy
  rw [nI_add, nI_l (by omega), nI_l (by omega), nI_l (by omega), lN_add2]
theorem gCI_b {B : ae_B} {n N : Nat} {W : Nat → Nat → Int32} {v s f : Nat → Int32} {dy nl : Int32} (hb : bOk B n) (hn10 : n ≤ 10) (hW : ∀ d, wOk n (W d)) (hv : vOk n 200 v) (ht : vOk n 100 s) (hnl : bnd nl 990) : (∀ d, bnd (gCm B n N W v s f dy nl d (n - 1)) 1808100) ∧ ∀ d, bnd (gCI B n N W v s f dy nl d) (1808100 * d) := by
  have h1 : ∀ d, bnd (gCm B n N W v s f dy nl d (n - 1)) 1808100 := by
    intro d
    rw [← gCm_r (vd := vD B n N W v s f d) (n - 1) (fun j hj => fC_lt hj)]
    obtain ⟨a, ha, ea⟩ := rCm_b (dy := dyA dy d) hb (hW d) (v := vD B n N W v s f d) (fun g hg => by rw [vD, fC_lt (by omega)]; exact gWd_b hb hW hg (hv g hg) (ht g hg)) ht hnl (n - 1) (Nat.le_refl _)
    exact ⟨a, by omega, ea⟩
  refine ⟨h1, fun d => ?_⟩
  induction d with
  | zero => exact ⟨0, by omega, rfl⟩
  | succ d ih =>
    obtain ⟨a, ha, ea⟩ := ih
    obtain ⟨b, hb2, eb⟩ := h1 (d + 1)
    exact ⟨a + b, by omega, by rw [gCI, ea, eb, nI_add]⟩
theorem lb_eq {a b X : Nat → Int32} (h : ∀ j, 10 ≤ j → X j = a j) : fC 10 (fC 10 a b) X = a := by
  funext j
  unfold fC
  split
  · rfl
  · exact h j (by omega)
theorem vD_out {B : ae_B} {n N : Nat} {W : Nat → Nat → Int32} {v s f : Nat → Int32} {k j : Nat} (h : n - 1 ≤ j) : vD B n N W v s f k j = v j := fC_at h
theorem fD_out {B : ae_B} {n N : Nat} {W : Nat → Nat → Int32} {v s f : Nat → Int32} {k j : Nat} (h : n - 1 ≤ j) : fD B n N W v s f k j = f j := fC_at h
section L45
variable {P : ae_P} {σ : Nat → Int32} {α : Nat → Nat → Int32} {z : Int64} {t0 : ae_T} {ts : List ae_T}

theorem em_in {v a b : Int32} {zd : Nat} : ae_Ev P (zd + 1) 110 [.int v, .int a, .int b] (ae_en σ α z t0 ts) (some (.int (bI (¬ v < a ∧ ¬ b < v)))) (ae_en σ α z t0 ts) := by
  have h := ev_Model_in (P := P) (σ := σ) (α := α) (z := z) (t0 := t0) (ts := ts) (v := v) (a := a) (b := b) (d := zd)
  rwa [show fIn v a b = bI (¬ v < a ∧ ¬ b < v) from by
    unfold fIn
    split
    · exact bI_0 (fun q => q.1 ‹_›)
    · split
      · exact bI_0 (fun q => q.2 ‹_›)
      · exact bI_1 ⟨‹_›, ‹_›⟩] at h
theorem ev_Model_isRun {x : Int32} {zd : Nat}  : ae_Ev P (zd + 2) 155 [.int x] (ae_en σ α z t0 ts) (some (.int (bI (¬ x < 1 ∧ ¬ 60 < x)))) (ae_en σ α z t0 ts) := by
  refine aw_evE (cd := cd_Model_isRun) rfl rfl rfl ?_
  show aw_W _ _ _ _ (0, [some (.int x)], []) (ae_en σ α z t0 ts)
  refine aw_go 3 rfl ⟨trivial, trivial, trivial, trivial⟩ ?_
  refine aw_callE rfl rfl (em_in (v := x) (a := 1) (b := 60)) ?_
  show aw_W _ _ _ _ (4, [some (.int x)], [.int (bI (¬ x < 1 ∧ ¬ 60 < x))]) (ae_en σ α z t0 ts)
  refine aw_ret rfl rfl (bI_b _) ?_
  refine ⟨?_, rfl⟩
  rfl
theorem lp_water {zd : Nat} {n : Nat} {B : ae_B} {N x : Nat} {W : Nat → Nat → Int32} {pl fr tk : Nat → Int32} (hM : mOk B n (σ 27) (σ 29) (σ 33) (α 31) (α 32) (α 33) (α 40) (α 41) (α 42)) (hD : W = wD B n (α 35) (σ 28)) (hw : wOk n (α 35)) (hv : vOk n 200 (α 36)) (hs : vOk n 100 (α 37)) (hx : (σ 28) = nI x) (hx9 : x ≤ 9999) (hN : N ≤ 60) (hnl : nOk n (α 34)) (hWk : ∀ d, wOk n (W d)) (hn : (σ 27) = nI n) (hn10 : n ≤ 10) (k : Nat) (hk : k ≤ N) : aw_W P (zd + 5) cd_Model_water (fun r H => ∃ (pl2 : Nat → Int32) (fr2 : Nat → Int32) (tk2 : Nat → Int32), r = none ∧ H = (ae_en (au σ [(28, (dyA (σ 28) N)), (41, (gGN B N W (α 36) (α 37) (α 38) N (n - 1)))]) (au α [(35, (W N)), (36, (vD B n N W (α 36) (α 37) (α 38) N)), (38, (fD B n N W (α 36) (α 37) (α 38) N)), (43, pl2), (44, fr2), (47, tk2)]) ((gCI B n N W (α 36) (α 37) (α 38) (σ 28) (sumF (α 34) n) N).toInt64) t0 ts)) (8, [some (.ref 46), some (.int (nI N)), some (.int (nI k))], []) (ae_en (au σ [(28, (dyA (σ 28) k)), (41, (gGN B N W (α 36) (α 37) (α 38) k (n - 1)))]) (au α [(35, (W k)), (36, (vD B n N W (α 36) (α 37) (α 38) k)), (38, (fD B n N W (α 36) (α 37) (α 38) k)), (43, pl), (44, fr), (47, tk)]) ((gCI B n N W (α 36) (α 37) (α 38) (σ 28) (sumF (α 34) n) k).toInt64) t0 ts) := by
  have hbo : bOk B n := hM.2.2.2.2.2.2.1
  refine aw_go 3 rfl ⟨trivial, trivial, trivial, trivial⟩ ?_
  refine aw_br (c := (nI N) ≤ (nI k)) (fun h10 => ?_) (fun h10 => ?_)
  · skip
    have h10 := cI_leT (a := N) (b := k) rfl rfl (by omega) (by omega) h10
    show aw_W _ _ _ _ (15, [some (.ref 46), some (.int (nI N)), some (.int (nI k))], []) (ae_en (au σ [(28, (dyA (σ 28) k)), (41, (gGN B N W (α 36) (α 37) (α 38) k (n - 1)))]) (au α [(35, (W k)), (36, (vD B n N W (α 36) (α 37) (α 38) k)), (38, (fD B n N W (α 36) (α 37) (α 38) k)), (43, pl), (44, fr), (47, tk)]) ((gCI B n N W (α 36) (α 37) (α 38) (σ 28) (sumF (α 34) n) k).toInt64) t0 ts)
    have e8 : k = N := by omega
    refine aw_ret rfl rfl trivial ?_
    rw [e8]
    exact ⟨_, _, _, rfl, rfl⟩
  · skip
    have h10 := cI_leF (a := N) (b := k) rfl rfl (by omega) (by omega) h10
    show aw_W _ _ _ _ (11, [some (.ref 46), some (.int (nI N)), some (.int (nI k))], []) (ae_en (au σ [(28, (dyA (σ 28) k)), (41, (gGN B N W (α 36) (α 37) (α 38) k (n - 1)))]) (au α [(35, (W k)), (36, (vD B n N W (α 36) (α 37) (α 38) k)), (38, (fD B n N W (α 36) (α 37) (α 38) k)), (43, pl), (44, fr), (47, tk)]) ((gCI B n N W (α 36) (α 37) (α 38) (σ 28) (sumF (α 34) n) k).toInt64) t0 ts)
    refine aw_go 1 rfl ⟨trivial, trivial⟩ ?_
    refine aw_call rfl rfl (ev_Model_inWater (σ := σ) (α := α) (k := k) (go := (gGN B N W (α 36) (α 37) (α 38) k (n - 1))) (pl := pl) (fr := fr) (tk := tk) (zz := (gCI B n N W (α 36) (α 37) (α 38) (σ 28) (sumF (α 34) n) k).toInt64)  hM hD hw hv hs hx hx9 hN (by omega)) ?_
    rintro _ _ ⟨pl2_12, fr2_12, tk2_12, rfl, rfl⟩
    show aw_W _ _ _ _ (13, [some (.ref 46), some (.int (nI N)), some (.int (nI k))], []) (ae_en (au σ [(28, (dyA (σ 28) (k + 1))), (41, ((gGN B N W (α 36) (α 37) (α 38) k (n - 1)) + nGo B N W (α 36) (α 37) (α 38) k (n - 1)))]) (au α [(35, (W (k + 1))), (36, (vD B n N W (α 36) (α 37) (α 38) (k + 1))), (38, (fD B n N W (α 36) (α 37) (α 38) (k + 1))), (43, pl2_12), (44, fr2_12), (47, tk2_12)]) ((gCI B n N W (α 36) (α 37) (α 38) (σ 28) (sumF (α 34) n) k).toInt64 + (gCm B n N W (α 36) (α 37) (α 38) (σ 28) (sumF (α 34) n) (k + 1) (n - 1)).toInt64) t0 ts)
    refine aw_go 2 rfl ⟨trivial, trivial, trivial⟩ ?_
    show aw_W _ _ _ _ (8, [some (.ref 46), some (.int (nI N)), some (.int ((nI k) + 1))], []) (ae_en (au σ [(28, (dyA (σ 28) (k + 1))), (41, ((gGN B N W (α 36) (α 37) (α 38) k (n - 1)) + nGo B N W (α 36) (α 37) (α 38) k (n - 1)))]) (au α [(35, (W (k + 1))), (36, (vD B n N W (α 36) (α 37) (α 38) (k + 1))), (38, (fD B n N W (α 36) (α 37) (α 38) (k + 1))), (43, pl2_12), (44, fr2_12), (47, tk2_12)]) ((gCI B n N W (α 36) (α 37) (α 38) (σ 28) (sumF (α 34) n) k).toInt64 + (gCm B n N W (α 36) (α 37) (α 38) (σ 28) (sumF (α 34) n) (k + 1) (n - 1)).toInt64) t0 ts)
    rw [show (nI k) + 1 = nI (k + 1) from (cI_add (a := k) (b := 1) rfl rfl)]
    have hnb : bnd (sumF (α 34) n) 990 := by
      obtain ⟨a, ha, ea⟩ := sumF_b hnl n (Nat.le_refl n)
      exact ⟨a, by omega, ea⟩
    obtain ⟨b1, b2⟩ := gCI_b (N := N) (f := (α 38)) (dy := (σ 28)) hbo hn10 hWk hv hs hnb
    rw [nGo_s, show (gCI B n N W (α 36) (α 37) (α 38) (σ 28) (sumF (α 34) n) k).toInt64 + (gCm B n N W (α 36) (α 37) (α 38) (σ 28) (sumF (α 34) n) (k + 1) (n - 1)).toInt64 = (gCI B n N W (α 36) (α 37) (α 38) (σ 28) (sumF (α 34) n) (k + 1)).toInt64 from i2l_add (b2 k) (b1 (k + 1)) (by omega)]
    exact lp_water hM hD hw hv hs hx hx9 hN hnl hWk hn hn10 (k + 1) (by omega)
termination_by N - k
decreasing_by all_goals omega
theorem ev_Model_water {n : Nat} {B : ae_B} {N x : Nat} {W : Nat → Nat → Int32} {zd : Nat} (hM : mOk B n (σ 27) (σ 29) (σ 33) (α 31) (α 32) (α 33) (α 40) (α 41) (α 42)) (hD : W = wD B n (α 35) (σ 28)) (hw : wOk n (α 35)) (hv : vOk n 200 (α 36)) (hs : vOk n 100 (α 37)) (hx : (σ 28) = nI x) (hx9 : x ≤ 9999) (hN : N ≤ 60) (hnl : nOk n (α 34)) : aw_X P (zd + 6) 154 [.ref 46, .int (nI N)] (ae_en σ α z t0 ts) (fun r H => ∃ (pl2 : Nat → Int32) (fr2 : Nat → Int32) (tk2 : Nat → Int32), r = none ∧ H = (ae_en (au σ [(28, (dyA (σ 28) N)), (41, (gGN B N W (α 36) (α 37) (α 38) N (n - 1)))]) (au α [(35, (W N)), (36, (vD B n N W (α 36) (α 37) (α 38) N)), (38, (fD B n N W (α 36) (α 37) (α 38) N)), (43, pl2), (44, fr2), (47, tk2)]) ((gCI B n N W (α 36) (α 37) (α 38) (σ 28) (sumF (α 34) n) N).toInt64) t0 ts)) := by
  obtain ⟨hn, hn10, hs3, hk0, hk1, hk2, hbo, hru⟩ := id hM
  have hWk : ∀ d, wOk n (W d) := fun d => by rw [hD]; exact wD_ok hbo hw d
  refine aw_ev (cd := cd_Model_water) rfl rfl rfl ?_
  show aw_W _ _ _ _ (0, [some (.ref 46), some (.int (nI N)), none], []) (ae_en σ α z t0 ts)
  refine aw_go 8 rfl ⟨trivial, trivial, trivial, trivial, trivial, trivial, trivial, trivial, trivial⟩ ?_
  show aw_W _ _ _ _ (8, [some (.ref 46), some (.int (nI N)), some (.int 0)], []) (ae_en (au σ [(41, 0)]) α 0 t0 ts)
  refine aw_to (lp_water (pl := α 43) (fr := α 44) (tk := α 47) hM hD hw hv hs hx hx9 hN hnl hWk hn hn10 0 (Nat.zero_le _)) rfl ?_
  rw [show dyA (σ 28) 0 = σ 28 from by rw [hx]; exact dyA_0 hx9, gGN_0, vD_0, fD_0, show W 0 = (α 35) from by rw [hD]; rfl]
  rfl
end L45
