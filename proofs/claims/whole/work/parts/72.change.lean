/-! class and reference side by side: calls that change the boat -/
theorem wD_bA {B : ae_B} {n N : Nat} {w : Nat → Int32} {dy : Int32} (hb : bOk B n) (h : bA 100 w) : bA 100 (wD B n w dy N) := by
  intro p
  rcases Nat.lt_or_ge p n with q | q
  · exact wD_ok hb (fun p _ => h p) N p q
  · rw [wD_out q]; exact h p
theorem lay_W {B : ae_B} {n N : Nat} {w : Nat → Int32} {dy : Int32} : wD B n w dy N = aLayW B n N w dy := by
  funext p
  unfold aLayW
  rcases Nat.lt_or_ge p n with q | q
  · rw [fC_lt q]
  · rw [fC_at q, wD_out q]
theorem vD_bA {B : ae_B} {n N : Nat} {w v s f : Nat → Int32} {dy : Int32} (hb : bOk B n) (hw : bA 100 w) (hv : bA 200 v) (hs : bA 100 s) : bA 200 (vD B n N (wD B n w dy) v s f N) := bA_fC hv (fun g hg => gWd_b hb (wD_ok hb (fun p _ => hw p)) (by omega) (hv g) (hs g))
theorem dry_out {B : ae_B} {n p : Nat} {w : Nat → Int32} {dy : Int32} (hp : n ≤ p) : ∀ k, (dryN B n w dy k).1 p = w p
  | 0 => rfl
  | k + 1 => by
    rw [dryN]
    dsimp only
    rw [fC_at hp]
    exact dry_out hp k
theorem dry_bA {B : ae_B} {n x N : Nat} {w : Nat → Int32} (hN : N ≤ 60) (hw : bA 100 w) (hx : x ≤ 9999) : bA 100 (dryN B n w (nI x) N).1 := by
  intro p
  rcases Nat.lt_or_ge p n with q | q
  · exact (dryN_ok (fun p _ => hw p) hx N (by omega)).1 p q
  · rw [dry_out q]; exact hw p
theorem dy_b {x N : Nat} (hx : x ≤ 9999) (hN : N ≤ 60) : bnd (dyA (nI x) N) 9999 := by
  rw [dyA_n hx (by omega)]
  exact ⟨_, by split <;> omega, rfl⟩
theorem n8 {x : Int32} (h : 1 ≤ x ∧ x ≤ 8) : ∃ N : Nat, 1 ≤ N ∧ N ≤ 8 ∧ x = nI N := by
  obtain ⟨N, h1, h60, rfl⟩ := nR (x := x) (Int32.not_lt.mpr h.1) (fun q => absurd (Int32.lt_of_lt_of_le q h.2) (by decide))
  refine ⟨N, h1, ?_, rfl⟩
  have a : ¬ nI 8 < nI N := Int32.not_lt.mpr h.2
  rw [nI_ltI (by omega) (by omega)] at a
  omega
section L72
variable {P : ae_P} {σ : Nat → Int32} {α : Nat → Nat → Int32} {z : Int64} {t0 : ae_T} {ts : List ae_T}

theorem j_plank {k x m : Int32} (h : INV σ α t0 ts) : JI P t0 1 114 [.int k, .int x, .int m] (ae_en σ α z t0 ts) := by
  obtain ⟨n, E, s, hB, hK, hT, hR, hN⟩ := h
  obtain ⟨b1, b2, b3, ⟨e31, e32, e33, e34, e35, e36, e37, e38⟩, ⟨e28, e29, e30, e0⟩, k0, k1, k2, k3, k4, k5, k6, k7⟩ := id hB
  refine ax_mono (ev_Dried_plank (zd := 98) b1 b2) ?_
  rintro _ _ ⟨rfl, rfl⟩
  have hq := pPlank_6 (n := n) (q := (n, (α 0, α 1, α 2, α 3, α 5, α 7))) (k := k) (x := x) (m := m) ⟨Nat.le_refl n, b2, k0, k1, k2, k3, k5⟩
  have hq : pOk6 n (pPlank n (α 0, α 1, α 2, α 3, α 5, α 7) k x m).2 := hq
  have e : pPlank n (α 31, α 32, α 33, α 35, α 36, α 38) k x m = pPlank n (α 0, α 1, α 2, α 3, α 5, α 7) k x m := by rw [e31, e32, e33, e35, e36, e38]
  revert hq e
  generalize pPlank n (α 0, α 1, α 2, α 3, α 5, α 7) k x m = q
  intro hq e
  subst e
  refine ⟨_, rfl, ⟨_, _, _, _, rfl⟩, ax_mono (ev_Model_plank (zd := 98) (n := n) b3 b2) ?_⟩
  rintro _ _ ⟨rfl, rfl⟩
  obtain ⟨q0, q1, q2, q3, q4, q5, q6⟩ := hq
  refine ⟨rfl, _, _, _, _, rfl, (pPlank n (α 31, α 32, α 33, α 35, α 36, α 38) k x m).2.1, E, s, ?_, ?_, hT, hR, hN⟩
  · exact ⟨rfl, q1, rfl, ⟨rfl, rfl, rfl, e34, rfl, rfl, e37, rfl⟩, ⟨e28, e29, e30, e0⟩, q2, q3, q4, q5, k4, q6, k6, k7⟩
  · refine ⟨hK.1, fun h0 => ?_⟩
    obtain ⟨q, hq, rest⟩ := hK.2 h0
    exact ⟨q, Nat.le_trans hq q0, rest⟩
theorem j_set {what o v : Int32} (h : INV σ α t0 ts) : JI P t0 2 115 [.int what, .int o, .int v] (ae_en σ α z t0 ts) := by
  obtain ⟨n, E, s, hB, hK, hT, hR, hN⟩ := h
  obtain ⟨b1, b2, b3, ⟨e31, e32, e33, e34, e35, e36, e37, e38⟩, ⟨e28, e29, e30, e0⟩, k0, k1, k2, k3, k4, k5, k6, k7⟩ := id hB
  refine ax_mono (ev_Dried_set (zd := 98) b1 b2) ?_
  rintro _ _ ⟨rfl, rfl⟩
  have hq := pSet_b (n := n) (q := ((α 3, α 4, α 5, α 6, α 7), σ 3, σ 4)) (what := what) (o := o) (v := v) k3 k4 k5 k6
  have e : pSet n ((α 35, α 34, α 36, α 37, α 38), σ 29, σ 30) what o v = pSet n ((α 3, α 4, α 5, α 6, α 7), σ 3, σ 4) what o v := by rw [e35, e34, e36, e37, e38, e29, e30]
  revert hq e
  generalize pSet n ((α 3, α 4, α 5, α 6, α 7), σ 3, σ 4) what o v = q
  intro hq e
  subst e
  refine ⟨_, rfl, ⟨_, _, _, _, rfl⟩, ax_mono (ev_Model_set (zd := 97) (n := n) b3 b2) ?_⟩
  rintro _ _ ⟨rfl, rfl⟩
  obtain ⟨q1, q2, q3, q4⟩ := hq
  refine ⟨rfl, _, _, _, _, rfl, n, E, s, ?_, hK, hT, hR, hN⟩
  exact ⟨b1, b2, b3, ⟨e31, e32, e33, rfl, rfl, rfl, rfl, rfl⟩, ⟨e28, rfl, rfl, e0⟩, k0, k1, k2, q1, q2, q3, q4, k7⟩
theorem j_force {x : Int32} (h : INV σ α t0 ts) : JI P t0 11 134 [.int x] (ae_en σ α z t0 ts) := by
  obtain ⟨n, E, s, hB, hK, hT, hR, hN⟩ := h
  obtain ⟨b1, b2, b3, ⟨e31, e32, e33, e34, e35, e36, e37, e38⟩, ⟨e28, e29, e30, e0⟩, k0, k1, k2, k3, k4, k5, k6, k7⟩ := id hB
  obtain ⟨t1, t2, t3, t4, t5⟩ := id hT
  have e : (if iP (ts.length + 1) x then x else σ 33) = (if iP (ts.length + 1) x then x else σ 5) := by rw [e0]
  refine ax_mono (ev_Dried_force (zd := 99) t1 t2) ?_
  rintro _ _ ⟨rfl, rfl⟩
  refine ⟨_, rfl, ⟨_, _, _, _, rfl⟩, ax_mono (ev_Model_force (zd := 98) (m := ts.length + 1) t3 (by omega) t2) ?_⟩
  rintro _ _ ⟨rfl, rfl⟩
  refine ⟨?_, _, _, _, _, rfl, n, E, s, ?_, hK, ?_, hR, hN⟩
  · show some (Value.int (if iP (ts.length + 1) x then σ 33 else -2)) = some (Value.int (if iP (ts.length + 1) x then σ 5 else -2))
    rw [e0]
  · exact ⟨b1, b2, b3, ⟨e31, e32, e33, e34, e35, e36, e37, e38⟩, ⟨e28, e29, e30, e⟩, k0, k1, k2, k3, k4, k5, k6, k7⟩
  · refine ⟨t1, t2, t3, ?_, t5⟩
    show ∃ r : Nat, r < ts.length + 1 ∧ (if iP (ts.length + 1) x then x else σ 5) = nI r
    by_cases c : iP (ts.length + 1) x
    · rw [if_pos c]
      exact iP_of c (by omega)
    · rw [if_neg c]
      exact t4
theorem j_lay {x : Int32} (h : INV σ α t0 ts) : JI P t0 15 157 [.int x] (ae_en σ α z t0 ts) := by
  obtain ⟨n, E, s, hB, hK, hT, hR, hN⟩ := h
  obtain ⟨B, hC, hM, hw, hv, hs, hnl, ⟨x0, hx, hx9⟩, hdy⟩ := inv_M hB hT
  obtain ⟨b1, b2, b3, ⟨e31, e32, e33, e34, e35, e36, e37, e38⟩, ⟨e28, e29, e30, e0⟩, k0, k1, k2, k3, k4, k5, k6, k7⟩ := id hB
  have hb : bOk B n := hM.2.2.2.2.2.2.1
  by_cases c : 1 ≤ x ∧ x ≤ 60
  · obtain ⟨N, hN1, hN60, rfl⟩ := nR (x := x) (Int32.not_lt.mpr c.1) (Int32.not_lt.mpr c.2)
    refine ax_mono (ev_Dried_lay (zd := 92) hC hN1 hN60 rfl) ?_
    rintro _ _ ⟨_, _, _, _, _, _, _, _, rfl, rfl⟩
    refine ⟨_, rfl, ⟨_, _, _, _, rfl⟩, ax_mono (ev_Model_lay (zd := 93) (N := N) hM rfl hw hv hs hx hx9 hN60 hnl hN1) ?_⟩
    rintro _ _ ⟨_, _, _, rfl, rfl⟩
    have q0 : wD B n (α 35) (σ 28) N = aLayW B n N (α 3) (σ 2) := by rw [e28, e35]; exact lay_W
    have q1 : vD B n N (wD B n (α 35) (σ 28)) (α 36) (α 37) (α 38) N = aLayV B n N (α 3) (α 5) (α 6) (α 7) (σ 2) := by rw [e28, e35, e36, e37, e38]; rfl
    have q2 : fD B n N (wD B n (α 35) (σ 28)) (α 36) (α 37) (α 38) N = aLayF B n N (α 3) (α 5) (α 6) (α 7) (σ 2) := by rw [e28, e35, e36, e37, e38]; rfl
    have q3 : dyA (σ 28) N = fMn 9999 (σ 2 + nI N) := by rw [e28]; rfl
    have p0 : bA 100 (aLayW B n N (α 3) (σ 2)) := by rw [← lay_W]; exact wD_bA hb k3
    have p1 : bA 200 (aLayV B n N (α 3) (α 5) (α 6) (α 7) (σ 2)) := vD_bA hb k3 k5 k6
    have p2 : bnd (fMn 9999 (σ 2 + nI N)) 9999 := by
      obtain ⟨y, hy, ey⟩ := k7
      rw [ey]
      exact dy_b hy hN60
    refine ⟨?_, _, _, _, _, rfl, n, E, s, ?_, hK, hT, hR, hN⟩
    · show some (Value.int (gGN B N (wD B n (α 35) (σ 28)) (α 36) (α 37) (α 38) N (n - 1))) = some (Value.int (gGN B N (wD B n (α 3) (σ 2)) (α 5) (α 6) (α 7) N (n - 1)))
      rw [e28, e35, e36, e37, e38]
    · exact ⟨b1, b2, b3, ⟨e31, e32, e33, e34, q0, q1, e37, q2⟩, ⟨q3, e29, e30, e0⟩, k0, k1, k2, p0, k4, p1, k6, p2⟩
  · refine ax_mono (ax_E (ev_Dried_lay_bad (zd := 99) c)) ?_
    rintro _ _ ⟨rfl, rfl⟩
    refine ⟨_, rfl, ⟨_, _, _, _, rfl⟩, ax_mono (ax_E (em_lay_bad (zd := 97) c)) ?_⟩
    rintro _ _ ⟨rfl, rfl⟩
    exact ⟨rfl, _, _, _, _, rfl, n, E, s, hB, hK, hT, hR, hN⟩
theorem j_air {x : Int32} (h : INV σ α t0 ts) : JI P t0 16 158 [.int x] (ae_en σ α z t0 ts) := by
  obtain ⟨n, E, s, hB, hK, hT, hR, hN⟩ := h
  obtain ⟨B, hC, hM, hw, hv, hs, hnl, ⟨x0, hx, hx9⟩, hdy⟩ := inv_M hB hT
  obtain ⟨b1, b2, b3, ⟨e31, e32, e33, e34, e35, e36, e37, e38⟩, ⟨e28, e29, e30, e0⟩, k0, k1, k2, k3, k4, k5, k6, k7⟩ := id hB
  by_cases c : 1 ≤ x ∧ x ≤ 60
  · obtain ⟨N, hN1, hN60, rfl⟩ := nR (x := x) (Int32.not_lt.mpr c.1) (Int32.not_lt.mpr c.2)
    refine ax_mono (ev_Dried_air (zd := 92) hC hN1 hN60) ?_
    rintro _ _ ⟨_, _, _, _, _, _, _, _, rfl, rfl⟩
    refine ⟨_, rfl, ⟨_, _, _, _, rfl⟩, ax_mono (ev_Model_air (zd := 95) (N := N) hM hw hx hx9 hN1 hN60) ?_⟩
    rintro _ _ ⟨_, _, _, rfl, rfl⟩
    have q0 : dryN B n (α 35) (σ 28) N = dryN B n (α 3) (σ 2) N := by rw [e28, e35]
    obtain ⟨y, hy, ey⟩ := id k7
    have p0 : bA 100 (dryN B n (α 3) (σ 2) N).1 := by rw [ey]; exact dry_bA hN60 k3 hy
    have p1 : bnd (dryN B n (α 3) (σ 2) N).2 9999 := by
      rw [ey, (dryN_ok (fun p _ => k3 p) hy N (by omega)).2]
      exact dy_b hy hN60
    refine ⟨?_, _, _, _, _, rfl, n, E, s, ?_, hK, hT, hR, hN⟩
    · show some (Value.int (dryN B n (α 35) (σ 28) N).2) = some (Value.int (dryN B n (α 3) (σ 2) N).2)
      rw [q0]
    · exact ⟨b1, b2, b3, ⟨e31, e32, e33, e34, congrArg Prod.fst q0, e36, e37, e38⟩, ⟨congrArg Prod.snd q0, e29, e30, e0⟩, k0, k1, k2, p0, k4, k5, k6, p1⟩
  · refine ax_mono (ax_E (ev_Dried_air_bad (zd := 99) c)) ?_
    rintro _ _ ⟨rfl, rfl⟩
    refine ⟨_, rfl, ⟨_, _, _, _, rfl⟩, ax_mono (ax_E (em_air_bad (zd := 97) c)) ?_⟩
    rintro _ _ ⟨rfl, rfl⟩
    exact ⟨rfl, _, _, _, _, rfl, n, E, s, hB, hK, hT, hR, hN⟩
theorem j_image (h : INV σ α t0 ts) : JI P t0 26 168 [] (ae_en σ α z t0 ts) := by
  obtain ⟨n, E, s, hB, hK, hT, hR, hN⟩ := h
  obtain ⟨b1, b2, b3, ⟨e31, e32, e33, e34, e35, e36, e37, e38⟩, ⟨e28, e29, e30, e0⟩, k0, k1, k2, k3, k4, k5, k6, k7⟩ := id hB
  refine ax_mono (ev_Dried_image (zd := 98) b1 b2) ?_
  rintro _ _ ⟨rfl, rfl⟩
  refine ⟨_, rfl, ⟨_, _, _, _, rfl⟩, ax_mono (ev_Model_image (zd := 99)) ?_⟩
  rintro _ _ ⟨rfl, rfl⟩
  refine ⟨congrArg (fun x => some (Value.int x)) e28, _, _, _, _, rfl, n, E, s, hB, ?_, hT, hR, hN⟩
  refine ⟨rfl, fun _ => ⟨n, Nat.le_refl n, rfl, b3, e28, e29, e30, e0, k7, hT.2.2.2.1, fun j hj => ?_, fun j hj => ?_⟩⟩
  · have r0 : fC 10 (α 35) (α 51) j = fC n (α 3) (α 11) j := by rw [fC_lt (by omega), fC_lt hj, e35]
    have r1 : fC 10 (α 34) (α 52) j = fC n (α 4) (α 12) j := by rw [fC_lt (by omega), fC_lt hj, e34]
    have r2 : bnd (fC n (α 3) (α 11) j) 100 := by rw [fC_lt hj]; exact k3 j
    have r3 : bnd (fC n (α 4) (α 12) j) 99 := by rw [fC_lt hj]; exact k4 j
    exact ⟨r0, r1, r2, r3⟩
  · have r0 : fC 10 (α 36) (α 53) j = fC (n - 1) (α 5) (α 13) j := by rw [fC_lt (by omega), fC_lt hj, e36]
    have r1 : fC 10 (α 37) (α 54) j = fC (n - 1) (α 6) (α 14) j := by rw [fC_lt (by omega), fC_lt hj, e37]
    have r2 : fC 10 (α 38) (α 55) j = fC (n - 1) (α 7) (α 15) j := by rw [fC_lt (by omega), fC_lt hj, e38]
    have r3 : bnd (fC (n - 1) (α 5) (α 13) j) 200 := by rw [fC_lt hj]; exact k5 j
    have r4 : bnd (fC (n - 1) (α 6) (α 14) j) 100 := by rw [fC_lt hj]; exact k6 j
    exact ⟨r0, r1, r2, r3, r4⟩
theorem j_back (h : INV σ α t0 ts) : JI P t0 27 169 [] (ae_en σ α z t0 ts) := by
  obtain ⟨n, E, s, hB, hK, hT, hR, hN⟩ := h
  obtain ⟨b1, b2, b3, ⟨e31, e32, e33, e34, e35, e36, e37, e38⟩, ⟨e28, e29, e30, e0⟩, k0, k1, k2, k3, k4, k5, k6, k7⟩ := id hB
  by_cases c : σ 0 = 0
  · refine ax_mono (ax_E (ev_Dried_back_no (zd := 99) c)) ?_
    rintro _ _ ⟨rfl, rfl⟩
    refine ⟨_, rfl, ⟨_, _, _, _, rfl⟩, ax_mono (ax_E (em_back_no (zd := 99) (hK.1.trans c))) ?_⟩
    rintro _ _ ⟨rfl, rfl⟩
    exact ⟨rfl, _, _, _, _, rfl, n, E, s, hB, hK, hT, hR, hN⟩
  · obtain ⟨q, q0, q1, q2, q3, q4, q5, q6, q7, q8, q9, qa⟩ := hK.2 c
    refine ax_mono (ev_Dried_back (zd := 98) c q1 (by omega)) ?_
    rintro _ _ ⟨rfl, rfl⟩
    refine ⟨_, rfl, ⟨_, _, _, _, rfl⟩, ax_mono (ev_Model_back (zd := 99) (q := q) (show ¬ σ 45 = 0 by rw [hK.1]; exact c) q2 (by omega)) ?_⟩
    rintro _ _ ⟨rfl, rfl⟩
    have r4 : fC q (α 52) (α 34) = fC q (α 12) (α 4) := by rw [e34]; exact fC_cg (fun j hj => (q9 j hj).2.1)
    have r5 : fC q (α 51) (α 35) = fC q (α 11) (α 3) := by rw [e35]; exact fC_cg (fun j hj => (q9 j hj).1)
    have r6 : fC (q - 1) (α 53) (α 36) = fC (q - 1) (α 13) (α 5) := by rw [e36]; exact fC_cg (fun j hj => (qa j hj).1)
    have r7 : fC (q - 1) (α 54) (α 37) = fC (q - 1) (α 14) (α 6) := by rw [e37]; exact fC_cg (fun j hj => (qa j hj).2.1)
    have r8 : fC (q - 1) (α 55) (α 38) = fC (q - 1) (α 15) (α 7) := by rw [e38]; exact fC_cg (fun j hj => (qa j hj).2.2.1)
    have p3 : bA 100 (fC q (α 11) (α 3)) := bA_fC k3 (fun j hj => (q9 j hj).2.2.1)
    have p4 : bA 99 (fC q (α 12) (α 4)) := bA_fC k4 (fun j hj => (q9 j hj).2.2.2)
    have p5 : bA 200 (fC (q - 1) (α 13) (α 5)) := bA_fC k5 (fun j hj => (qa j hj).2.2.2.1)
    have p6 : bA 100 (fC (q - 1) (α 14) (α 6)) := bA_fC k6 (fun j hj => (qa j hj).2.2.2.2)
    obtain ⟨t1, t2, t3, t4, t5⟩ := id hT
    refine ⟨congrArg (fun x => some (Value.int x)) q3, _, _, _, _, rfl, n, E, s, ?_, hK, ?_, hR, hN⟩
    · exact ⟨b1, b2, b3, ⟨e31, e32, e33, r4, r5, r6, r7, r8⟩, ⟨q3, q4, q5, q6⟩, k0, k1, k2, p3, p4, p5, p6, q7⟩
    · exact ⟨t1, t2, t3, q8, t5⟩
theorem j_feed {x : Int32} {zz : Int64} (h : INV σ α t0 ts) : JI P t0 8 116 [.int x, .long zz] (ae_en σ α z t0 ts) := by
  obtain ⟨n, E, s, hB, hK, hT, hR, hN⟩ := h
  obtain ⟨r1, r2, r3, r4⟩ := id hR
  by_cases c : 1 ≤ x ∧ x ≤ 8
  · obtain ⟨N, h1, h8, rfl⟩ := n8 c
    by_cases f : s + N ≤ 160
    · refine ax_mono (ev_Dried_feed (zd := 98) (s := s) r1 r2 h1 h8 f) ?_
      rintro _ _ ⟨rfl, rfl⟩
      refine ⟨_, rfl, ⟨_, _, _, _, rfl⟩, ax_mono (ev_Model_feed (zd := 98) (s := s) r3 r2 h1 h8 f) ?_⟩
      rintro _ _ ⟨rfl, rfl⟩
      exact ⟨rfl, _, _, _, _, rfl, n, E, s + N, hB, hK, hT, ⟨rfl, f, rfl, fd_cg r4 N h8⟩, hN⟩
    · refine ax_mono (ax_E (ev_feed_full (zd := 99) (s := s) r1 r2 h1 h8 (by omega))) ?_
      rintro _ _ ⟨rfl, rfl⟩
      refine ⟨_, rfl, ⟨_, _, _, _, rfl⟩, ax_mono (ax_E (em_feed_full (zd := 98) (s := s) r3 r2 h1 h8 (by omega))) ?_⟩
      rintro _ _ ⟨rfl, rfl⟩
      exact ⟨rfl, _, _, _, _, rfl, n, E, s, hB, hK, hT, hR, hN⟩
  · refine ax_mono (ax_E (ev_feed_bad (zd := 99) c)) ?_
    rintro _ _ ⟨rfl, rfl⟩
    refine ⟨_, rfl, ⟨_, _, _, _, rfl⟩, ax_mono (ax_E (em_feed_bad (zd := 98) c)) ?_⟩
    rintro _ _ ⟨rfl, rfl⟩
    exact ⟨rfl, _, _, _, _, rfl, n, E, s, hB, hK, hT, hR, hN⟩
end L72
