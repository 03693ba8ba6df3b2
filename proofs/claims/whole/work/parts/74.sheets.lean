/-! class and reference side by side: sheets -/
theorem s_nn {s : Int32} (h1 : ¬ s < -1) (h2 : ¬ s = -1) : ¬ s < 0 := by
  intro q
  rw [Int32.lt_iff_toInt_lt] at q h1
  have e1 : (-1 : Int32).toInt = -1 := by decide
  have e0 : (0 : Int32).toInt = 0 := by decide
  rw [e1] at h1
  rw [e0] at q
  exact h2 (Int32.toInt_inj.mp (by rw [e1]; omega))
theorem n40 {n : Int32} (h3 : ¬ 40 < n) (h4 : ¬ n < 0) : ∃ m : Nat, m ≤ 40 ∧ n = nI m := by
  obtain ⟨m, hm, rfl⟩ := nI_of h4
  refine ⟨m, ?_, rfl⟩
  have a : ¬ nI 40 < nI m := h3
  rw [nI_ltI (by omega) hm] at a
  omega
theorem iS_fr {c : Nat} {so sz : Int32} {it a6 a7 a8 b6 b7 b8 : Nat → Int32} (h : iS c so sz it a6 a7 a8) (h6 : b6 c = a6 c) (h7 : b7 c = a7 c) (h8 : ∀ j, j < 40 → b8 (40 * c + j) = a8 (40 * c + j)) : iS c so sz it b6 b7 b8 := by
  obtain ⟨h1, h2⟩ := h
  refine ⟨h6.trans h1, ?_⟩
  rcases h2 with h2 | ⟨h2, m, hm, e1, e2, e3⟩
  · exact Or.inl h2
  · exact Or.inr ⟨h2, m, hm, e1, h7.trans e2, fun j hj => (h8 j (by omega)).trans (e3 j hj)⟩
theorem iS_m {c : Nat} {so sz : Int32} {it a6 a7 a8 : Nat → Int32} (h : iS c so sz it a6 a7 a8) : ∃ m : Nat, m ≤ 40 ∧ (¬ so = -1 → sz = nI m) ∧ (¬ a6 c < 0 → a7 c = nI m) ∧ (a6 c = -1 ∨ ¬ a6 c < 0) ∧ a6 c = so ∧ (so = -1 ∨ ¬ so < 0) ∧ (¬ so = -1 → ∀ j, j < m → a8 (40 * c + j) = it j) := by
  obtain ⟨h1, h2⟩ := h
  rcases h2 with h2 | ⟨h2, m, hm, e1, e2, e3⟩
  · exact ⟨0, by omega, fun q => absurd h2 q, fun q => absurd (by rw [h1, h2]; decide) q, Or.inl (h1.trans h2), h1, Or.inl h2, fun q => absurd h2 q⟩
  · exact ⟨m, hm, fun _ => e1, fun _ => e2, Or.inr (by rw [h1]; exact h2), h1, Or.inr h2, fun _ => e3⟩
theorem iS_set {c : Nat} {s n so sz : Int32} {it a6 a7 a8 : Nat → Int32} (h : iS c so sz it a6 a7 a8) : (pSheetM c s n (a6, a7, a8)).1 = (pSheet s n (so, sz, it)).1 ∧ iS c (pSheet s n (so, sz, it)).2.1 (pSheet s n (so, sz, it)).2.2.1 (pSheet s n (so, sz, it)).2.2.2 (pSheetM c s n (a6, a7, a8)).2.1 (pSheetM c s n (a6, a7, a8)).2.2.1 (pSheetM c s n (a6, a7, a8)).2.2.2 := by
  unfold pSheetM pSheet
  by_cases c1 : s < -1 ∨ 2 < s
  · rw [if_pos c1, if_pos c1]; exact ⟨rfl, h⟩
  rw [if_neg c1, if_neg c1]
  by_cases c2 : s = -1
  · rw [if_pos c2, if_pos c2]; exact ⟨rfl, upd_eq _ _ _, Or.inl rfl⟩
  rw [if_neg c2, if_neg c2]
  by_cases c3 : 40 < n
  · rw [if_pos c3, if_pos c3]; exact ⟨rfl, h⟩
  rw [if_neg c3, if_neg c3]
  by_cases c4 : n < 0
  · rw [if_pos c4, if_pos c4]; exact ⟨rfl, h⟩
  rw [if_neg c4, if_neg c4]
  obtain ⟨m, hm, rfl⟩ := n40 c3 c4
  refine ⟨rfl, upd_eq _ _ _, Or.inr ⟨s_nn (fun q => c1 (Or.inl q)) c2, m, hm, rfl, upd_eq _ _ _, fun j hj => ?_⟩⟩
  show zF (40 * c) (nI m).toNatClampNeg a8 (40 * c + j) = fC 40 (fun _ => 0) it j
  rw [nI_clamp (by omega), fC_lt (by omega)]
  exact if_pos (by omega)
theorem shM_fr {c d : Nat} {s n : Int32} {q : ae_SM3} (hc : d ≠ c) : (pSheetM c s n q).2.1 d = q.1 d ∧ (pSheetM c s n q).2.2.1 d = q.2.1 d ∧ ∀ j, j < 40 → (pSheetM c s n q).2.2.2 (40 * d + j) = q.2.2 (40 * d + j) := by
  unfold pSheetM
  by_cases c1 : s < -1 ∨ 2 < s
  · rw [if_pos c1]; exact ⟨rfl, rfl, fun _ _ => rfl⟩
  rw [if_neg c1]
  by_cases c2 : s = -1
  · rw [if_pos c2]; exact ⟨upd_ne hc, rfl, fun _ _ => rfl⟩
  rw [if_neg c2]
  by_cases c3 : 40 < n
  · rw [if_pos c3]; exact ⟨rfl, rfl, fun _ _ => rfl⟩
  rw [if_neg c3]
  by_cases c4 : n < 0
  · rw [if_pos c4]; exact ⟨rfl, rfl, fun _ _ => rfl⟩
  rw [if_neg c4]
  obtain ⟨m, hm, rfl⟩ := n40 c3 c4
  refine ⟨upd_ne hc, upd_ne hc, fun j hj => ?_⟩
  show zF (40 * c) (nI m).toNatClampNeg q.2.2 (40 * d + j) = q.2.2 (40 * d + j)
  rw [nI_clamp (by omega)]
  exact if_neg (by omega)
theorem iS_cell {c m : Nat} {i v so sz : Int32} {it a6 a7 a8 : Nat → Int32} (h : iS c so sz it a6 a7 a8) (hm : ¬ so = -1 → sz = nI m) (hm40 : m ≤ 40) (h7 : ¬ a6 c < 0 → a7 c = nI m) (hj : ¬ so = -1 → ∀ j, j < m → a8 (40 * c + j) = it j) : (pCellM c m i v a6 a8).1 = (pCell m so it i v).1 ∧ iS c so sz (pCell m so it i v).2 a6 a7 (pCellM c m i v a6 a8).2 := by
  unfold pCellM pCell
  obtain ⟨h1, h2⟩ := id h
  by_cases c1 : so = -1
  · rw [if_pos (show a6 c < 0 by rw [h1, c1]; decide), if_pos c1]; exact ⟨rfl, h⟩
  have c0 : ¬ so < 0 := (h2.resolve_left c1).1
  rw [if_neg (show ¬ a6 c < 0 by rw [h1]; exact c0), if_neg c1]
  by_cases c2 : iP m i
  · rw [if_pos c2, if_pos c2, h1]
    refine ⟨rfl, h1, Or.inr ⟨c0, m, hm40, hm c1, h7 (by rw [h1]; exact c0), fun j hjm => ?_⟩⟩
    show upd a8 (40 * c + i.toNatClampNeg) (cSt so v) (40 * c + j) = upd it i.toNatClampNeg (cSt so v) j
    unfold upd
    by_cases e : j = i.toNatClampNeg
    · rw [if_pos e, if_pos (by omega)]
    · rw [if_neg e, if_neg (by omega)]
      exact hj c1 j hjm
  · rw [if_neg c2, if_neg c2]; exact ⟨rfl, h⟩
theorem ceM_fr {c d m : Nat} {i v : Int32} {a6 a8 : Nat → Int32} (hc : d ≠ c) (hm40 : m ≤ 40) : ∀ j, j < 40 → (pCellM c m i v a6 a8).2 (40 * d + j) = a8 (40 * d + j) := by
  intro j hj
  unfold pCellM
  by_cases c1 : a6 c < 0
  · rw [if_pos c1]
  rw [if_neg c1]
  by_cases c2 : iP m i
  · rw [if_pos c2]
    have c3 := c2.2
    show upd a8 (40 * c + i.toNatClampNeg) (cSt (a6 c) v) (40 * d + j) = a8 (40 * d + j)
    exact upd_ne (by omega)
  · rw [if_neg c2]
theorem iS_copy {c d m m2 : Nat} {i k n so so2 sz2 : Int32} {it it2 a6 a7 a8 : Nat → Int32} (h : iS d so2 sz2 it2 a6 a7 a8) (hm : ¬ so2 = -1 → sz2 = nI m2) (hm40 : m2 ≤ 40) (h7 : ¬ a6 d < 0 → a7 d = nI m2) (hj2 : ¬ so2 = -1 → ∀ j, j < m2 → a8 (40 * d + j) = it2 j)
    (hs : a6 c = so) (hs0 : so = -1 ∨ ¬ so < 0) (hj : ¬ so = -1 → ∀ j, j < m → a8 (40 * c + j) = it j) : (pCopyM c d m m2 i k n a6 a8).1 = (pCopy m m2 so so2 it it2 i k n).1 ∧ iS d so2 sz2 (pCopy m m2 so so2 it it2 i k n).2 a6 a7 (pCopyM c d m m2 i k n a6 a8).2 := by
  unfold pCopyM pCopy
  obtain ⟨h1, h2⟩ := id h
  rw [hs, h1]
  by_cases c1 : so = -1 ∨ so2 = -1
  · rw [if_pos c1, if_pos (show so < 0 ∨ so2 < 0 by
      rcases c1 with q | q
      · left; rw [q]; decide
      · right; rw [q]; decide)]
    exact ⟨rfl, h⟩
  have c2 : ¬ so = -1 := fun q => c1 (Or.inl q)
  have c3 : ¬ so2 = -1 := fun q => c1 (Or.inr q)
  have c4 : ¬ so2 < 0 := (h2.resolve_left c3).1
  have c5 : ¬ so < 0 := hs0.resolve_left c2
  rw [if_neg c1, if_neg (show ¬ (so < 0 ∨ so2 < 0) from fun q => q.elim c5 c4)]
  by_cases e : so = so2
  · have e1 : ¬ ¬ so = so2 := fun q => q e
    rw [if_neg e1, if_neg e1]
    by_cases g : hHo m i n ∧ hHo m2 k n
    · rw [if_pos g, if_pos g]
      refine ⟨rfl, h1, Or.inr ⟨c4, m2, hm40, hm c3, h7 (by rw [h1]; exact c4), fun j hjm => ?_⟩⟩
      have g1 : i.toNatClampNeg + n.toNatClampNeg ≤ m := g.1.2.2
      have g2 : k.toNatClampNeg + n.toNatClampNeg ≤ m2 := g.2.2.2
      show va_cpy a8 a8 (40 * c + i.toNatClampNeg) (40 * d + k.toNatClampNeg) n.toNatClampNeg (40 * d + j) = va_cpy it it2 i.toNatClampNeg k.toNatClampNeg n.toNatClampNeg j
      unfold va_cpy
      by_cases q : k.toNatClampNeg ≤ j ∧ j < k.toNatClampNeg + n.toNatClampNeg
      · rw [if_pos q, if_pos (by omega), ← hj c2 _ (by omega)]
        refine congrArg a8 ?_
        omega
      · rw [if_neg q, if_neg (by omega)]
        exact hj2 c3 j hjm
    · rw [if_neg g, if_neg g]; exact ⟨rfl, h⟩
  · rw [if_pos e, if_pos e]; exact ⟨rfl, h⟩
theorem coM_fr {c d r m m2 : Nat} {i k n : Int32} {a6 a8 : Nat → Int32} (hc : r ≠ d) (hm40 : m2 ≤ 40) : ∀ j, j < 40 → (pCopyM c d m m2 i k n a6 a8).2 (40 * r + j) = a8 (40 * r + j) := by
  intro j hj
  unfold pCopyM
  by_cases c1 : a6 c < 0 ∨ a6 d < 0
  · rw [if_pos c1]
  rw [if_neg c1]
  by_cases c2 : a6 c = a6 d
  · have e1 : ¬ ¬ a6 c = a6 d := fun q => q c2
    rw [if_neg e1]
    by_cases g : hHo m i n ∧ hHo m2 k n
    · rw [if_pos g]
      have g2 : k.toNatClampNeg + n.toNatClampNeg ≤ m2 := g.2.2.2
      show va_cpy a8 a8 (40 * c + i.toNatClampNeg) (40 * d + k.toNatClampNeg) n.toNatClampNeg (40 * r + j) = a8 (40 * r + j)
      unfold va_cpy
      rw [if_neg (by omega)]
    · rw [if_neg g]
  · rw [if_pos c2]
section L74
variable {P : ae_P} {σ : Nat → Int32} {α : Nat → Nat → Int32} {z : Int64} {t0 : ae_T} {ts : List ae_T}

theorem j_sheet_0 {so nn : Int32} (h : INV σ α t0 ts) : JI P t0 30 173 [.int 0, .int so, .int nn] (ae_en σ α z t0 ts) := by
  obtain ⟨n, E, s, hB, hK, hT, hR, hN⟩ := h
  obtain ⟨n0, n1, n2, n3⟩ := id hN
  refine ax_mono (ev_sheet_0 (zd := 98)) ?_
  rintro _ _ ⟨rfl, rfl⟩
  refine ⟨_, rfl, ⟨_, _, _, _, rfl⟩, ax_mono (em_sheet_0 (zd := 97)) ?_⟩
  rintro _ _ ⟨rfl, rfl⟩
  have q := iS_set (s := so) (n := nn) n0
  refine ⟨?_, _, _, _, _, rfl, n, E, s, hB, hK, hT, hR, ?_⟩
  · show some (Value.int (pSheetM 0 so nn (α 56, α 57, α 58)).1) = some (Value.int (pSheet so nn (σ 18, σ 19, α 27)).1)
    rw [q.1]
  · exact ⟨q.2, iS_fr n1 (shM_fr (by decide)).1 (shM_fr (by decide)).2.1 (shM_fr (by decide)).2.2, iS_fr n2 (shM_fr (by decide)).1 (shM_fr (by decide)).2.1 (shM_fr (by decide)).2.2, iS_fr n3 (shM_fr (by decide)).1 (shM_fr (by decide)).2.1 (shM_fr (by decide)).2.2⟩
theorem j_cell_0 {i v : Int32} (h : INV σ α t0 ts) : JI P t0 31 174 [.int 0, .int i, .int v] (ae_en σ α z t0 ts) := by
  obtain ⟨n, E, s, hB, hK, hT, hR, hN⟩ := h
  obtain ⟨n0, n1, n2, n3⟩ := id hN
  obtain ⟨m, hm, g1, g2, g3, g4, g5, g6⟩ := iS_m n0
  refine ax_mono (ev_cell_0 (zd := 98) (m := m) g1 hm) ?_
  rintro _ _ ⟨rfl, rfl⟩
  refine ⟨_, rfl, ⟨_, _, _, _, rfl⟩, ax_mono (em_cell_0 (zd := 97) (m := m) g2 hm) ?_⟩
  rintro _ _ ⟨rfl, rfl⟩
  have q := iS_cell (i := i) (v := v) n0 g1 hm g2 g6
  refine ⟨?_, _, _, _, _, rfl, n, E, s, hB, hK, hT, hR, ?_⟩
  · show some (Value.int (pCellM 0 m i v (α 56) (α 58)).1) = some (Value.int (pCell m (σ 18) (α 27) i v).1)
    rw [q.1]
  · exact ⟨q.2, iS_fr n1 rfl rfl (ceM_fr (by decide) hm), iS_fr n2 rfl rfl (ceM_fr (by decide) hm), iS_fr n3 rfl rfl (ceM_fr (by decide) hm)⟩
theorem j_planks_0 {so fr x : Int32} (h : INV σ α t0 ts) : JI P t0 33 176 [.int 0, .int so, .int fr, .int x] (ae_en σ α z t0 ts) := by
  obtain ⟨n, E, s, hB, hK, hT, hR, hN⟩ := h
  obtain ⟨n0, n1, n2, n3⟩ := id hN
  obtain ⟨b1, b2, b3, ⟨e31, e32, e33, e34, e35, e36, e37, e38⟩, ⟨e28, e29, e30, e0⟩, k0, k1, k2, k3, k4, k5, k6, k7⟩ := id hB
  obtain ⟨m, hm, g1, g2, g3, g4, g5, g6⟩ := iS_m n0
  refine ax_mono (ev_planks_0 (zd := 97) (m := m) b1 b2 g1 hm) ?_
  rintro _ _ ⟨rfl, rfl⟩
  have hq : pOk6 n (pPlanks (α 27) m (σ 18) so fr x (n, (α 0, α 1, α 2, α 3, α 5, α 7))).2 := pPlanks_6 ⟨Nat.le_refl n, b2, k0, k1, k2, k3, k5⟩
  have e : pPlanks (fun j => α 58 (40 * 0 + j)) m (α 56 0) so fr x (n, (α 31, α 32, α 33, α 35, α 36, α 38)) = pPlanks (α 27) m (σ 18) so fr x (n, (α 0, α 1, α 2, α 3, α 5, α 7)) := by
    rw [e31, e32, e33, e35, e36, e38, g4]
    exact pPlanks_cg g6
  revert hq e
  generalize pPlanks (α 27) m (σ 18) so fr x (n, (α 0, α 1, α 2, α 3, α 5, α 7)) = q
  intro hq e
  subst e
  refine ⟨_, rfl, ⟨_, _, _, _, rfl⟩, ax_mono (em_planks_0 (zd := 96) (m := m) (n := n) b3 b2 g3 g2 hm) ?_⟩
  rintro _ _ ⟨rfl, rfl⟩
  obtain ⟨q0, q1, q2, q3, q4, q5, q6⟩ := hq
  refine ⟨rfl, _, _, _, _, rfl, (pPlanks (fun j => α 58 (40 * 0 + j)) m (α 56 0) so fr x (n, (α 31, α 32, α 33, α 35, α 36, α 38))).2.1, E, s, ?_, ?_, hT, hR, hN⟩
  · exact ⟨rfl, q1, rfl, ⟨rfl, rfl, rfl, e34, rfl, rfl, e37, rfl⟩, ⟨e28, e29, e30, e0⟩, q2, q3, q4, q5, k4, q6, k6, k7⟩
  · refine ⟨hK.1, fun h0 => ?_⟩
    obtain ⟨q, hq, rest⟩ := hK.2 h0
    exact ⟨q, Nat.le_trans hq q0, rest⟩
theorem j_sheet_1 {so nn : Int32} (h : INV σ α t0 ts) : JI P t0 30 173 [.int 1, .int so, .int nn] (ae_en σ α z t0 ts) := by
  obtain ⟨n, E, s, hB, hK, hT, hR, hN⟩ := h
  obtain ⟨n0, n1, n2, n3⟩ := id hN
  refine ax_mono (ev_sheet_1 (zd := 98)) ?_
  rintro _ _ ⟨rfl, rfl⟩
  refine ⟨_, rfl, ⟨_, _, _, _, rfl⟩, ax_mono (em_sheet_1 (zd := 97)) ?_⟩
  rintro _ _ ⟨rfl, rfl⟩
  have q := iS_set (s := so) (n := nn) n1
  refine ⟨?_, _, _, _, _, rfl, n, E, s, hB, hK, hT, hR, ?_⟩
  · show some (Value.int (pSheetM 1 so nn (α 56, α 57, α 58)).1) = some (Value.int (pSheet so nn (σ 20, σ 21, α 28)).1)
    rw [q.1]
  · exact ⟨iS_fr n0 (shM_fr (by decide)).1 (shM_fr (by decide)).2.1 (shM_fr (by decide)).2.2, q.2, iS_fr n2 (shM_fr (by decide)).1 (shM_fr (by decide)).2.1 (shM_fr (by decide)).2.2, iS_fr n3 (shM_fr (by decide)).1 (shM_fr (by decide)).2.1 (shM_fr (by decide)).2.2⟩
theorem j_cell_1 {i v : Int32} (h : INV σ α t0 ts) : JI P t0 31 174 [.int 1, .int i, .int v] (ae_en σ α z t0 ts) := by
  obtain ⟨n, E, s, hB, hK, hT, hR, hN⟩ := h
  obtain ⟨n0, n1, n2, n3⟩ := id hN
  obtain ⟨m, hm, g1, g2, g3, g4, g5, g6⟩ := iS_m n1
  refine ax_mono (ev_cell_1 (zd := 98) (m := m) g1 hm) ?_
  rintro _ _ ⟨rfl, rfl⟩
  refine ⟨_, rfl, ⟨_, _, _, _, rfl⟩, ax_mono (em_cell_1 (zd := 97) (m := m) g2 hm) ?_⟩
  rintro _ _ ⟨rfl, rfl⟩
  have q := iS_cell (i := i) (v := v) n1 g1 hm g2 g6
  refine ⟨?_, _, _, _, _, rfl, n, E, s, hB, hK, hT, hR, ?_⟩
  · show some (Value.int (pCellM 1 m i v (α 56) (α 58)).1) = some (Value.int (pCell m (σ 20) (α 28) i v).1)
    rw [q.1]
  · exact ⟨iS_fr n0 rfl rfl (ceM_fr (by decide) hm), q.2, iS_fr n2 rfl rfl (ceM_fr (by decide) hm), iS_fr n3 rfl rfl (ceM_fr (by decide) hm)⟩
theorem j_planks_1 {so fr x : Int32} (h : INV σ α t0 ts) : JI P t0 33 176 [.int 1, .int so, .int fr, .int x] (ae_en σ α z t0 ts) := by
  obtain ⟨n, E, s, hB, hK, hT, hR, hN⟩ := h
  obtain ⟨n0, n1, n2, n3⟩ := id hN
  obtain ⟨b1, b2, b3, ⟨e31, e32, e33, e34, e35, e36, e37, e38⟩, ⟨e28, e29, e30, e0⟩, k0, k1, k2, k3, k4, k5, k6, k7⟩ := id hB
  obtain ⟨m, hm, g1, g2, g3, g4, g5, g6⟩ := iS_m n1
  refine ax_mono (ev_planks_1 (zd := 97) (m := m) b1 b2 g1 hm) ?_
  rintro _ _ ⟨rfl, rfl⟩
  have hq : pOk6 n (pPlanks (α 28) m (σ 20) so fr x (n, (α 0, α 1, α 2, α 3, α 5, α 7))).2 := pPlanks_6 ⟨Nat.le_refl n, b2, k0, k1, k2, k3, k5⟩
  have e : pPlanks (fun j => α 58 (40 * 1 + j)) m (α 56 1) so fr x (n, (α 31, α 32, α 33, α 35, α 36, α 38)) = pPlanks (α 28) m (σ 20) so fr x (n, (α 0, α 1, α 2, α 3, α 5, α 7)) := by
    rw [e31, e32, e33, e35, e36, e38, g4]
    exact pPlanks_cg g6
  revert hq e
  generalize pPlanks (α 28) m (σ 20) so fr x (n, (α 0, α 1, α 2, α 3, α 5, α 7)) = q
  intro hq e
  subst e
  refine ⟨_, rfl, ⟨_, _, _, _, rfl⟩, ax_mono (em_planks_1 (zd := 96) (m := m) (n := n) b3 b2 g3 g2 hm) ?_⟩
  rintro _ _ ⟨rfl, rfl⟩
  obtain ⟨q0, q1, q2, q3, q4, q5, q6⟩ := hq
  refine ⟨rfl, _, _, _, _, rfl, (pPlanks (fun j => α 58 (40 * 1 + j)) m (α 56 1) so fr x (n, (α 31, α 32, α 33, α 35, α 36, α 38))).2.1, E, s, ?_, ?_, hT, hR, hN⟩
  · exact ⟨rfl, q1, rfl, ⟨rfl, rfl, rfl, e34, rfl, rfl, e37, rfl⟩, ⟨e28, e29, e30, e0⟩, q2, q3, q4, q5, k4, q6, k6, k7⟩
  · refine ⟨hK.1, fun h0 => ?_⟩
    obtain ⟨q, hq, rest⟩ := hK.2 h0
    exact ⟨q, Nat.le_trans hq q0, rest⟩
theorem j_sheet_2 {so nn : Int32} (h : INV σ α t0 ts) : JI P t0 30 173 [.int 2, .int so, .int nn] (ae_en σ α z t0 ts) := by
  obtain ⟨n, E, s, hB, hK, hT, hR, hN⟩ := h
  obtain ⟨n0, n1, n2, n3⟩ := id hN
  refine ax_mono (ev_sheet_2 (zd := 98)) ?_
  rintro _ _ ⟨rfl, rfl⟩
  refine ⟨_, rfl, ⟨_, _, _, _, rfl⟩, ax_mono (em_sheet_2 (zd := 97)) ?_⟩
  rintro _ _ ⟨rfl, rfl⟩
  have q := iS_set (s := so) (n := nn) n2
  refine ⟨?_, _, _, _, _, rfl, n, E, s, hB, hK, hT, hR, ?_⟩
  · show some (Value.int (pSheetM 2 so nn (α 56, α 57, α 58)).1) = some (Value.int (pSheet so nn (σ 22, σ 23, α 29)).1)
    rw [q.1]
  · exact ⟨iS_fr n0 (shM_fr (by decide)).1 (shM_fr (by decide)).2.1 (shM_fr (by decide)).2.2, iS_fr n1 (shM_fr (by decide)).1 (shM_fr (by decide)).2.1 (shM_fr (by decide)).2.2, q.2, iS_fr n3 (shM_fr (by decide)).1 (shM_fr (by decide)).2.1 (shM_fr (by decide)).2.2⟩
theorem j_cell_2 {i v : Int32} (h : INV σ α t0 ts) : JI P t0 31 174 [.int 2, .int i, .int v] (ae_en σ α z t0 ts) := by
  obtain ⟨n, E, s, hB, hK, hT, hR, hN⟩ := h
  obtain ⟨n0, n1, n2, n3⟩ := id hN
  obtain ⟨m, hm, g1, g2, g3, g4, g5, g6⟩ := iS_m n2
  refine ax_mono (ev_cell_2 (zd := 98) (m := m) g1 hm) ?_
  rintro _ _ ⟨rfl, rfl⟩
  refine ⟨_, rfl, ⟨_, _, _, _, rfl⟩, ax_mono (em_cell_2 (zd := 97) (m := m) g2 hm) ?_⟩
  rintro _ _ ⟨rfl, rfl⟩
  have q := iS_cell (i := i) (v := v) n2 g1 hm g2 g6
  refine ⟨?_, _, _, _, _, rfl, n, E, s, hB, hK, hT, hR, ?_⟩
  · show some (Value.int (pCellM 2 m i v (α 56) (α 58)).1) = some (Value.int (pCell m (σ 22) (α 29) i v).1)
    rw [q.1]
  · exact ⟨iS_fr n0 rfl rfl (ceM_fr (by decide) hm), iS_fr n1 rfl rfl (ceM_fr (by decide) hm), q.2, iS_fr n3 rfl rfl (ceM_fr (by decide) hm)⟩
theorem j_planks_2 {so fr x : Int32} (h : INV σ α t0 ts) : JI P t0 33 176 [.int 2, .int so, .int fr, .int x] (ae_en σ α z t0 ts) := by
  obtain ⟨n, E, s, hB, hK, hT, hR, hN⟩ := h
  obtain ⟨n0, n1, n2, n3⟩ := id hN
  obtain ⟨b1, b2, b3, ⟨e31, e32, e33, e34, e35, e36, e37, e38⟩, ⟨e28, e29, e30, e0⟩, k0, k1, k2, k3, k4, k5, k6, k7⟩ := id hB
  obtain ⟨m, hm, g1, g2, g3, g4, g5, g6⟩ := iS_m n2
  refine ax_mono (ev_planks_2 (zd := 97) (m := m) b1 b2 g1 hm) ?_
  rintro _ _ ⟨rfl, rfl⟩
  have hq : pOk6 n (pPlanks (α 29) m (σ 22) so fr x (n, (α 0, α 1, α 2, α 3, α 5, α 7))).2 := pPlanks_6 ⟨Nat.le_refl n, b2, k0, k1, k2, k3, k5⟩
  have e : pPlanks (fun j => α 58 (40 * 2 + j)) m (α 56 2) so fr x (n, (α 31, α 32, α 33, α 35, α 36, α 38)) = pPlanks (α 29) m (σ 22) so fr x (n, (α 0, α 1, α 2, α 3, α 5, α 7)) := by
    rw [e31, e32, e33, e35, e36, e38, g4]
    exact pPlanks_cg g6
  revert hq e
  generalize pPlanks (α 29) m (σ 22) so fr x (n, (α 0, α 1, α 2, α 3, α 5, α 7)) = q
  intro hq e
  subst e
  refine ⟨_, rfl, ⟨_, _, _, _, rfl⟩, ax_mono (em_planks_2 (zd := 96) (m := m) (n := n) b3 b2 g3 g2 hm) ?_⟩
  rintro _ _ ⟨rfl, rfl⟩
  obtain ⟨q0, q1, q2, q3, q4, q5, q6⟩ := hq
  refine ⟨rfl, _, _, _, _, rfl, (pPlanks (fun j => α 58 (40 * 2 + j)) m (α 56 2) so fr x (n, (α 31, α 32, α 33, α 35, α 36, α 38))).2.1, E, s, ?_, ?_, hT, hR, hN⟩
  · exact ⟨rfl, q1, rfl, ⟨rfl, rfl, rfl, e34, rfl, rfl, e37, rfl⟩, ⟨e28, e29, e30, e0⟩, q2, q3, q4, q5, k4, q6, k6, k7⟩
  · refine ⟨hK.1, fun h0 => ?_⟩
    obtain ⟨q, hq, rest⟩ := hK.2 h0
    exact ⟨q, Nat.le_trans hq q0, rest⟩
theorem j_sheet_3 {so nn : Int32} (h : INV σ α t0 ts) : JI P t0 30 173 [.int 3, .int so, .int nn] (ae_en σ α z t0 ts) := by
  obtain ⟨n, E, s, hB, hK, hT, hR, hN⟩ := h
  obtain ⟨n0, n1, n2, n3⟩ := id hN
  refine ax_mono (ev_sheet_3 (zd := 98)) ?_
  rintro _ _ ⟨rfl, rfl⟩
  refine ⟨_, rfl, ⟨_, _, _, _, rfl⟩, ax_mono (em_sheet_3 (zd := 97)) ?_⟩
  rintro _ _ ⟨rfl, rfl⟩
  have q := iS_set (s := so) (n := nn) n3
  refine ⟨?_, _, _, _, _, rfl, n, E, s, hB, hK, hT, hR, ?_⟩
  · show some (Value.int (pSheetM 3 so nn (α 56, α 57, α 58)).1) = some (Value.int (pSheet so nn (σ 24, σ 25, α 30)).1)
    rw [q.1]
  · exact ⟨iS_fr n0 (shM_fr (by decide)).1 (shM_fr (by decide)).2.1 (shM_fr (by decide)).2.2, iS_fr n1 (shM_fr (by decide)).1 (shM_fr (by decide)).2.1 (shM_fr (by decide)).2.2, iS_fr n2 (shM_fr (by decide)).1 (shM_fr (by decide)).2.1 (shM_fr (by decide)).2.2, q.2⟩
theorem j_cell_3 {i v : Int32} (h : INV σ α t0 ts) : JI P t0 31 174 [.int 3, .int i, .int v] (ae_en σ α z t0 ts) := by
  obtain ⟨n, E, s, hB, hK, hT, hR, hN⟩ := h
  obtain ⟨n0, n1, n2, n3⟩ := id hN
  obtain ⟨m, hm, g1, g2, g3, g4, g5, g6⟩ := iS_m n3
  refine ax_mono (ev_cell_3 (zd := 98) (m := m) g1 hm) ?_
  rintro _ _ ⟨rfl, rfl⟩
  refine ⟨_, rfl, ⟨_, _, _, _, rfl⟩, ax_mono (em_cell_3 (zd := 97) (m := m) g2 hm) ?_⟩
  rintro _ _ ⟨rfl, rfl⟩
  have q := iS_cell (i := i) (v := v) n3 g1 hm g2 g6
  refine ⟨?_, _, _, _, _, rfl, n, E, s, hB, hK, hT, hR, ?_⟩
  · show some (Value.int (pCellM 3 m i v (α 56) (α 58)).1) = some (Value.int (pCell m (σ 24) (α 30) i v).1)
    rw [q.1]
  · exact ⟨iS_fr n0 rfl rfl (ceM_fr (by decide) hm), iS_fr n1 rfl rfl (ceM_fr (by decide) hm), iS_fr n2 rfl rfl (ceM_fr (by decide) hm), q.2⟩
theorem j_planks_3 {so fr x : Int32} (h : INV σ α t0 ts) : JI P t0 33 176 [.int 3, .int so, .int fr, .int x] (ae_en σ α z t0 ts) := by
  obtain ⟨n, E, s, hB, hK, hT, hR, hN⟩ := h
  obtain ⟨n0, n1, n2, n3⟩ := id hN
  obtain ⟨b1, b2, b3, ⟨e31, e32, e33, e34, e35, e36, e37, e38⟩, ⟨e28, e29, e30, e0⟩, k0, k1, k2, k3, k4, k5, k6, k7⟩ := id hB
  obtain ⟨m, hm, g1, g2, g3, g4, g5, g6⟩ := iS_m n3
  refine ax_mono (ev_planks_3 (zd := 97) (m := m) b1 b2 g1 hm) ?_
  rintro _ _ ⟨rfl, rfl⟩
  have hq : pOk6 n (pPlanks (α 30) m (σ 24) so fr x (n, (α 0, α 1, α 2, α 3, α 5, α 7))).2 := pPlanks_6 ⟨Nat.le_refl n, b2, k0, k1, k2, k3, k5⟩
  have e : pPlanks (fun j => α 58 (40 * 3 + j)) m (α 56 3) so fr x (n, (α 31, α 32, α 33, α 35, α 36, α 38)) = pPlanks (α 30) m (σ 24) so fr x (n, (α 0, α 1, α 2, α 3, α 5, α 7)) := by
    rw [e31, e32, e33, e35, e36, e38, g4]
    exact pPlanks_cg g6
  revert hq e
  generalize pPlanks (α 30) m (σ 24) so fr x (n, (α 0, α 1, α 2, α 3, α 5, α 7)) = q
  intro hq e
  subst e
  refine ⟨_, rfl, ⟨_, _, _, _, rfl⟩, ax_mono (em_planks_3 (zd := 96) (m := m) (n := n) b3 b2 g3 g2 hm) ?_⟩
  rintro _ _ ⟨rfl, rfl⟩
  obtain ⟨q0, q1, q2, q3, q4, q5, q6⟩ := hq
  refine ⟨rfl, _, _, _, _, rfl, (pPlanks (fun j => α 58 (40 * 3 + j)) m (α 56 3) so fr x (n, (α 31, α 32, α 33, α 35, α 36, α 38))).2.1, E, s, ?_, ?_, hT, hR, hN⟩
  · exact ⟨rfl, q1, rfl, ⟨rfl, rfl, rfl, e34, rfl, rfl, e37, rfl⟩, ⟨e28, e29, e30, e0⟩, q2, q3, q4, q5, k4, q6, k6, k7⟩
  · refine ⟨hK.1, fun h0 => ?_⟩
    obtain ⟨q, hq, rest⟩ := hK.2 h0
    exact ⟨q, Nat.le_trans hq q0, rest⟩
theorem j_copy_0_0 {i k nn : Int32} (h : INV σ α t0 ts) : JI P t0 32 175 [.int 0, .int i, .int 0, .int k, .int nn] (ae_en σ α z t0 ts) := by
  obtain ⟨n, E, s, hB, hK, hT, hR, hN⟩ := h
  obtain ⟨n0, n1, n2, n3⟩ := id hN
  obtain ⟨m, hm, g1, g2, g3, g4, g5, g6⟩ := iS_m n0
  obtain ⟨m2, hm2, f1, f2, f3, f4, f5, f6⟩ := iS_m n0
  refine ax_mono (ev_copy_0_0 (zd := 98) (m := m) (m2 := m2) g1 hm f1 hm2) ?_
  rintro _ _ ⟨rfl, rfl⟩
  refine ⟨_, rfl, ⟨_, _, _, _, rfl⟩, ax_mono (em_copy_0_0 (zd := 97) (m := m) (m2 := m2) g2 hm f2 hm2) ?_⟩
  rintro _ _ ⟨mv, rfl, rfl⟩
  have q := iS_copy (i := i) (k := k) (n := nn) n0 f1 hm2 f2 f6 g4 g5 g6
  refine ⟨?_, _, _, _, _, rfl, n, E, s, hB, hK, hT, hR, ?_⟩
  · show some (Value.int (pCopyM 0 0 m m2 i k nn (α 56) (α 58)).1) = some (Value.int (pCopy m m2 (σ 18) (σ 18) (α 27) (α 27) i k nn).1)
    rw [q.1]
  · exact ⟨q.2, iS_fr n1 rfl rfl (coM_fr (by decide) hm2), iS_fr n2 rfl rfl (coM_fr (by decide) hm2), iS_fr n3 rfl rfl (coM_fr (by decide) hm2)⟩
theorem j_copy_0_1 {i k nn : Int32} (h : INV σ α t0 ts) : JI P t0 32 175 [.int 0, .int i, .int 1, .int k, .int nn] (ae_en σ α z t0 ts) := by
  obtain ⟨n, E, s, hB, hK, hT, hR, hN⟩ := h
  obtain ⟨n0, n1, n2, n3⟩ := id hN
  obtain ⟨m, hm, g1, g2, g3, g4, g5, g6⟩ := iS_m n0
  obtain ⟨m2, hm2, f1, f2, f3, f4, f5, f6⟩ := iS_m n1
  refine ax_mono (ev_copy_0_1 (zd := 98) (m := m) (m2 := m2) g1 hm f1 hm2) ?_
  rintro _ _ ⟨rfl, rfl⟩
  refine ⟨_, rfl, ⟨_, _, _, _, rfl⟩, ax_mono (em_copy_0_1 (zd := 97) (m := m) (m2 := m2) g2 hm f2 hm2) ?_⟩
  rintro _ _ ⟨mv, rfl, rfl⟩
  have q := iS_copy (i := i) (k := k) (n := nn) n1 f1 hm2 f2 f6 g4 g5 g6
  refine ⟨?_, _, _, _, _, rfl, n, E, s, hB, hK, hT, hR, ?_⟩
  · show some (Value.int (pCopyM 0 1 m m2 i k nn (α 56) (α 58)).1) = some (Value.int (pCopy m m2 (σ 18) (σ 20) (α 27) (α 28) i k nn).1)
    rw [q.1]
  · exact ⟨iS_fr n0 rfl rfl (coM_fr (by decide) hm2), q.2, iS_fr n2 rfl rfl (coM_fr (by decide) hm2), iS_fr n3 rfl rfl (coM_fr (by decide) hm2)⟩
theorem j_copy_0_2 {i k nn : Int32} (h : INV σ α t0 ts) : JI P t0 32 175 [.int 0, .int i, .int 2, .int k, .int nn] (ae_en σ α z t0 ts) := by
  obtain ⟨n, E, s, hB, hK, hT, hR, hN⟩ := h
  obtain ⟨n0, n1, n2, n3⟩ := id hN
  obtain ⟨m, hm, g1, g2, g3, g4, g5, g6⟩ := iS_m n0
  obtain ⟨m2, hm2, f1, f2, f3, f4, f5, f6⟩ := iS_m n2
  refine ax_mono (ev_copy_0_2 (zd := 98) (m := m) (m2 := m2) g1 hm f1 hm2) ?_
  rintro _ _ ⟨rfl, rfl⟩
  refine ⟨_, rfl, ⟨_, _, _, _, rfl⟩, ax_mono (em_copy_0_2 (zd := 97) (m := m) (m2 := m2) g2 hm f2 hm2) ?_⟩
  rintro _ _ ⟨mv, rfl, rfl⟩
  have q := iS_copy (i := i) (k := k) (n := nn) n2 f1 hm2 f2 f6 g4 g5 g6
  refine ⟨?_, _, _, _, _, rfl, n, E, s, hB, hK, hT, hR, ?_⟩
  · show some (Value.int (pCopyM 0 2 m m2 i k nn (α 56) (α 58)).1) = some (Value.int (pCopy m m2 (σ 18) (σ 22) (α 27) (α 29) i k nn).1)
    rw [q.1]
  · exact ⟨iS_fr n0 rfl rfl (coM_fr (by decide) hm2), iS_fr n1 rfl rfl (coM_fr (by decide) hm2), q.2, iS_fr n3 rfl rfl (coM_fr (by decide) hm2)⟩
theorem j_copy_0_3 {i k nn : Int32} (h : INV σ α t0 ts) : JI P t0 32 175 [.int 0, .int i, .int 3, .int k, .int nn] (ae_en σ α z t0 ts) := by
  obtain ⟨n, E, s, hB, hK, hT, hR, hN⟩ := h
  obtain ⟨n0, n1, n2, n3⟩ := id hN
  obtain ⟨m, hm, g1, g2, g3, g4, g5, g6⟩ := iS_m n0
  obtain ⟨m2, hm2, f1, f2, f3, f4, f5, f6⟩ := iS_m n3
  refine ax_mono (ev_copy_0_3 (zd := 98) (m := m) (m2 := m2) g1 hm f1 hm2) ?_
  rintro _ _ ⟨rfl, rfl⟩
  refine ⟨_, rfl, ⟨_, _, _, _, rfl⟩, ax_mono (em_copy_0_3 (zd := 97) (m := m) (m2 := m2) g2 hm f2 hm2) ?_⟩
  rintro _ _ ⟨mv, rfl, rfl⟩
  have q := iS_copy (i := i) (k := k) (n := nn) n3 f1 hm2 f2 f6 g4 g5 g6
  refine ⟨?_, _, _, _, _, rfl, n, E, s, hB, hK, hT, hR, ?_⟩
  · show some (Value.int (pCopyM 0 3 m m2 i k nn (α 56) (α 58)).1) = some (Value.int (pCopy m m2 (σ 18) (σ 24) (α 27) (α 30) i k nn).1)
    rw [q.1]
  · exact ⟨iS_fr n0 rfl rfl (coM_fr (by decide) hm2), iS_fr n1 rfl rfl (coM_fr (by decide) hm2), iS_fr n2 rfl rfl (coM_fr (by decide) hm2), q.2⟩
theorem j_copy_1_0 {i k nn : Int32} (h : INV σ α t0 ts) : JI P t0 32 175 [.int 1, .int i, .int 0, .int k, .int nn] (ae_en σ α z t0 ts) := by
  obtain ⟨n, E, s, hB, hK, hT, hR, hN⟩ := h
  obtain ⟨n0, n1, n2, n3⟩ := id hN
  obtain ⟨m, hm, g1, g2, g3, g4, g5, g6⟩ := iS_m n1
  obtain ⟨m2, hm2, f1, f2, f3, f4, f5, f6⟩ := iS_m n0
  refine ax_mono (ev_copy_1_0 (zd := 98) (m := m) (m2 := m2) g1 hm f1 hm2) ?_
  rintro _ _ ⟨rfl, rfl⟩
  refine ⟨_, rfl, ⟨_, _, _, _, rfl⟩, ax_mono (em_copy_1_0 (zd := 97) (m := m) (m2 := m2) g2 hm f2 hm2) ?_⟩
  rintro _ _ ⟨mv, rfl, rfl⟩
  have q := iS_copy (i := i) (k := k) (n := nn) n0 f1 hm2 f2 f6 g4 g5 g6
  refine ⟨?_, _, _, _, _, rfl, n, E, s, hB, hK, hT, hR, ?_⟩
  · show some (Value.int (pCopyM 1 0 m m2 i k nn (α 56) (α 58)).1) = some (Value.int (pCopy m m2 (σ 20) (σ 18) (α 28) (α 27) i k nn).1)
    rw [q.1]
  · exact ⟨q.2, iS_fr n1 rfl rfl (coM_fr (by decide) hm2), iS_fr n2 rfl rfl (coM_fr (by decide) hm2), iS_fr n3 rfl rfl (coM_fr (by decide) hm2)⟩
theorem j_copy_1_1 {i k nn : Int32} (h : INV σ α t0 ts) : JI P t0 32 175 [.int 1, .int i, .int 1, .int k, .int nn] (ae_en σ α z t0 ts) := by
  obtain ⟨n, E, s, hB, hK, hT, hR, hN⟩ := h
  obtain ⟨n0, n1, n2, n3⟩ := id hN
  obtain ⟨m, hm, g1, g2, g3, g4, g5, g6⟩ := iS_m n1
  obtain ⟨m2, hm2, f1, f2, f3, f4, f5, f6⟩ := iS_m n1
  refine ax_mono (ev_copy_1_1 (zd := 98) (m := m) (m2 := m2) g1 hm f1 hm2) ?_
  rintro _ _ ⟨rfl, rfl⟩
  refine ⟨_, rfl, ⟨_, _, _, _, rfl⟩, ax_mono (em_copy_1_1 (zd := 97) (m := m) (m2 := m2) g2 hm f2 hm2) ?_⟩
  rintro _ _ ⟨mv, rfl, rfl⟩
  have q := iS_copy (i := i) (k := k) (n := nn) n1 f1 hm2 f2 f6 g4 g5 g6
  refine ⟨?_, _, _, _, _, rfl, n, E, s, hB, hK, hT, hR, ?_⟩
  · show some (Value.int (pCopyM 1 1 m m2 i k nn (α 56) (α 58)).1) = some (Value.int (pCopy m m2 (σ 20) (σ 20) (α 28) (α 28) i k nn).1)
    rw [q.1]
  · exact ⟨iS_fr n0 rfl rfl (coM_fr (by decide) hm2), q.2, iS_fr n2 rfl rfl (coM_fr (by decide) hm2), iS_fr n3 rfl rfl (coM_fr (by decide) hm2)⟩
theorem j_copy_1_2 {i k nn : Int32} (h : INV σ α t0 ts) : JI P t0 32 175 [.int 1, .int i, .int 2, .int k, .int nn] (ae_en σ α z t0 ts) := by
  obtain ⟨n, E, s, hB, hK, hT, hR, hN⟩ := h
  obtain ⟨n0, n1, n2, n3⟩ := id hN
  obtain ⟨m, hm, g1, g2, g3, g4, g5, g6⟩ := iS_m n1
  obtain ⟨m2, hm2, f1, f2, f3, f4, f5, f6⟩ := iS_m n2
  refine ax_mono (ev_copy_1_2 (zd := 98) (m := m) (m2 := m2) g1 hm f1 hm2) ?_
  rintro _ _ ⟨rfl, rfl⟩
  refine ⟨_, rfl, ⟨_, _, _, _, rfl⟩, ax_mono (em_copy_1_2 (zd := 97) (m := m) (m2 := m2) g2 hm f2 hm2) ?_⟩
  rintro _ _ ⟨mv, rfl, rfl⟩
  have q := iS_copy (i := i) (k := k) (n := nn) n2 f1 hm2 f2 f6 g4 g5 g6
  refine ⟨?_, _, _, _, _, rfl, n, E, s, hB, hK, hT, hR, ?_⟩
  · show some (Value.int (pCopyM 1 2 m m2 i k nn (α 56) (α 58)).1) = some (Value.int (pCopy m m2 (σ 20) (σ 22) (α 28) (α 29) i k nn).1)
    rw [q.1]
  · exact ⟨iS_fr n0 rfl rfl (coM_fr (by decide) hm2), iS_fr n1 rfl rfl (coM_fr (by decide) hm2), q.2, iS_fr n3 rfl rfl (coM_fr (by decide) hm2)⟩
theorem j_copy_1_3 {i k nn : Int32} (h : INV σ α t0 ts) : JI P t0 32 175 [.int 1, .int i, .int 3, .int k, .int nn] (ae_en σ α z t0 ts) := by
  obtain ⟨n, E, s, hB, hK, hT, hR, hN⟩ := h
  obtain ⟨n0, n1, n2, n3⟩ := id hN
  obtain ⟨m, hm, g1, g2, g3, g4, g5, g6⟩ := iS_m n1
  obtain ⟨m2, hm2, f1, f2, f3, f4, f5, f6⟩ := iS_m n3
  refine ax_mono (ev_copy_1_3 (zd := 98) (m := m) (m2 := m2) g1 hm f1 hm2) ?_
  rintro _ _ ⟨rfl, rfl⟩
  refine ⟨_, rfl, ⟨_, _, _, _, rfl⟩, ax_mono (em_copy_1_3 (zd := 97) (m := m) (m2 := m2) g2 hm f2 hm2) ?_⟩
  rintro _ _ ⟨mv, rfl, rfl⟩
  have q := iS_copy (i := i) (k := k) (n := nn) n3 f1 hm2 f2 f6 g4 g5 g6
  refine ⟨?_, _, _, _, _, rfl, n, E, s, hB, hK, hT, hR, ?_⟩
  · show some (Value.int (pCopyM 1 3 m m2 i k nn (α 56) (α 58)).1) = some (Value.int (pCopy m m2 (σ 20) (σ 24) (α 28) (α 30) i k nn).1)
    rw [q.1]
  · exact ⟨iS_fr n0 rfl rfl (coM_fr (by decide) hm2), iS_fr n1 rfl rfl (coM_fr (by decide) hm2), iS_fr n2 rfl rfl (coM_fr (by decide) hm2), q.2⟩
theorem j_copy_2_0 {i k nn : Int32} (h : INV σ α t0 ts) : JI P t0 32 175 [.int 2, .int i, .int 0, .int k, .int nn] (ae_en σ α z t0 ts) := by
  obtain ⟨n, E, s, hB, hK, hT, hR, hN⟩ := h
  obtain ⟨n0, n1, n2, n3⟩ := id hN
  obtain ⟨m, hm, g1, g2, g3, g4, g5, g6⟩ := iS_m n2
  obtain ⟨m2, hm2, f1, f2, f3, f4, f5, f6⟩ := iS_m n0
  refine ax_mono (ev_copy_2_0 (zd := 98) (m := m) (m2 := m2) g1 hm f1 hm2) ?_
  rintro _ _ ⟨rfl, rfl⟩
  refine ⟨_, rfl, ⟨_, _, _, _, rfl⟩, ax_mono (em_copy_2_0 (zd := 97) (m := m) (m2 := m2) g2 hm f2 hm2) ?_⟩
  rintro _ _ ⟨mv, rfl, rfl⟩
  have q := iS_copy (i := i) (k := k) (n := nn) n0 f1 hm2 f2 f6 g4 g5 g6
  refine ⟨?_, _, _, _, _, rfl, n, E, s, hB, hK, hT, hR, ?_⟩
  · show some (Value.int (pCopyM 2 0 m m2 i k nn (α 56) (α 58)).1) = some (Value.int (pCopy m m2 (σ 22) (σ 18) (α 29) (α 27) i k nn).1)
    rw [q.1]
  · exact ⟨q.2, iS_fr n1 rfl rfl (coM_fr (by decide) hm2), iS_fr n2 rfl rfl (coM_fr (by decide) hm2), iS_fr n3 rfl rfl (coM_fr (by decide) hm2)⟩
theorem j_copy_2_1 {i k nn : Int32} (h : INV σ α t0 ts) : JI P t0 32 175 [.int 2, .int i, .int 1, .int k, .int nn] (ae_en σ α z t0 ts) := by
  obtain ⟨n, E, s, hB, hK, hT, hR, hN⟩ := h
  obtain ⟨n0, n1, n2, n3⟩ := id hN
  obtain ⟨m, hm, g1, g2, g3, g4, g5, g6⟩ := iS_m n2
  obtain ⟨m2, hm2, f1, f2, f3, f4, f5, f6⟩ := iS_m n1
  refine ax_mono (ev_copy_2_1 (zd := 98) (m := m) (m2 := m2) g1 hm f1 hm2) ?_
  rintro _ _ ⟨rfl, rfl⟩
  refine ⟨_, rfl, ⟨_, _, _, _, rfl⟩, ax_mono (em_copy_2_1 (zd := 97) (m := m) (m2 := m2) g2 hm f2 hm2) ?_⟩
  rintro _ _ ⟨mv, rfl, rfl⟩
  have q := iS_copy (i := i) (k := k) (n := nn) n1 f1 hm2 f2 f6 g4 g5 g6
  refine ⟨?_, _, _, _, _, rfl, n, E, s, hB, hK, hT, hR, ?_⟩
  · show some (Value.int (pCopyM 2 1 m m2 i k nn (α 56) (α 58)).1) = some (Value.int (pCopy m m2 (σ 22) (σ 20) (α 29) (α 28) i k nn).1)
    rw [q.1]
  · exact ⟨iS_fr n0 rfl rfl (coM_fr (by decide) hm2), q.2, iS_fr n2 rfl rfl (coM_fr (by decide) hm2), iS_fr n3 rfl rfl (coM_fr (by decide) hm2)⟩
theorem j_copy_2_2 {i k nn : Int32} (h : INV σ α t0 ts) : JI P t0 32 175 [.int 2, .int i, .int 2, .int k, .int nn] (ae_en σ α z t0 ts) := by
  obtain ⟨n, E, s, hB, hK, hT, hR, hN⟩ := h
  obtain ⟨n0, n1, n2, n3⟩ := id hN
  obtain ⟨m, hm, g1, g2, g3, g4, g5, g6⟩ := iS_m n2
  obtain ⟨m2, hm2, f1, f2, f3, f4, f5, f6⟩ := iS_m n2
  refine ax_mono (ev_copy_2_2 (zd := 98) (m := m) (m2 := m2) g1 hm f1 hm2) ?_
  rintro _ _ ⟨rfl, rfl⟩
  refine ⟨_, rfl, ⟨_, _, _, _, rfl⟩, ax_mono (em_copy_2_2 (zd := 97) (m := m) (m2 := m2) g2 hm f2 hm2) ?_⟩
  rintro _ _ ⟨mv, rfl, rfl⟩
  have q := iS_copy (i := i) (k := k) (n := nn) n2 f1 hm2 f2 f6 g4 g5 g6
  refine ⟨?_, _, _, _, _, rfl, n, E, s, hB, hK, hT, hR, ?_⟩
  · show some (Value.int (pCopyM 2 2 m m2 i k nn (α 56) (α 58)).1) = some (Value.int (pCopy m m2 (σ 22) (σ 22) (α 29) (α 29) i k nn).1)
    rw [q.1]
  · exact ⟨iS_fr n0 rfl rfl (coM_fr (by decide) hm2), iS_fr n1 rfl rfl (coM_fr (by decide) hm2), q.2, iS_fr n3 rfl rfl (coM_fr (by decide) hm2)⟩
theorem j_copy_2_3 {i k nn : Int32} (h : INV σ α t0 ts) : JI P t0 32 175 [.int 2, .int i, .int 3, .int k, .int nn] (ae_en σ α z t0 ts) := by
  obtain ⟨n, E, s, hB, hK, hT, hR, hN⟩ := h
  obtain ⟨n0, n1, n2, n3⟩ := id hN
  obtain ⟨m, hm, g1, g2, g3, g4, g5, g6⟩ := iS_m n2
  obtain ⟨m2, hm2, f1, f2, f3, f4, f5, f6⟩ := iS_m n3
  refine ax_mono (ev_copy_2_3 (zd := 98) (m := m) (m2 := m2) g1 hm f1 hm2) ?_
  rintro _ _ ⟨rfl, rfl⟩
  refine ⟨_, rfl, ⟨_, _, _, _, rfl⟩, ax_mono (em_copy_2_3 (zd := 97) (m := m) (m2 := m2) g2 hm f2 hm2) ?_⟩
  rintro _ _ ⟨mv, rfl, rfl⟩
  have q := iS_copy (i := i) (k := k) (n := nn) n3 f1 hm2 f2 f6 g4 g5 g6
  refine ⟨?_, _, _, _, _, rfl, n, E, s, hB, hK, hT, hR, ?_⟩
  · show some (Value.int (pCopyM 2 3 m m2 i k nn (α 56) (α 58)).1) = some (Value.int (pCopy m m2 (σ 22) (σ 24) (α 29) (α 30) i k nn).1)
    rw [q.1]
  · exact ⟨iS_fr n0 rfl rfl (coM_fr (by decide) hm2), iS_fr n1 rfl rfl (coM_fr (by decide) hm2), iS_fr n2 rfl rfl (coM_fr (by decide) hm2), q.2⟩
theorem j_copy_3_0 {i k nn : Int32} (h : INV σ α t0 ts) : JI P t0 32 175 [.int 3, .int i, .int 0, .int k, .int nn] (ae_en σ α z t0 ts) := by
  obtain ⟨n, E, s, hB, hK, hT, hR, hN⟩ := h
  obtain ⟨n0, n1, n2, n3⟩ := id hN
  obtain ⟨m, hm, g1, g2, g3, g4, g5, g6⟩ := iS_m n3
  obtain ⟨m2, hm2, f1, f2, f3, f4, f5, f6⟩ := iS_m n0
  refine ax_mono (ev_copy_3_0 (zd := 98) (m := m) (m2 := m2) g1 hm f1 hm2) ?_
  rintro _ _ ⟨rfl, rfl⟩
  refine ⟨_, rfl, ⟨_, _, _, _, rfl⟩, ax_mono (em_copy_3_0 (zd := 97) (m := m) (m2 := m2) g2 hm f2 hm2) ?_⟩
  rintro _ _ ⟨mv, rfl, rfl⟩
  have q := iS_copy (i := i) (k := k) (n := nn) n0 f1 hm2 f2 f6 g4 g5 g6
  refine ⟨?_, _, _, _, _, rfl, n, E, s, hB, hK, hT, hR, ?_⟩
  · show some (Value.int (pCopyM 3 0 m m2 i k nn (α 56) (α 58)).1) = some (Value.int (pCopy m m2 (σ 24) (σ 18) (α 30) (α 27) i k nn).1)
    rw [q.1]
  · exact ⟨q.2, iS_fr n1 rfl rfl (coM_fr (by decide) hm2), iS_fr n2 rfl rfl (coM_fr (by decide) hm2), iS_fr n3 rfl rfl (coM_fr (by decide) hm2)⟩
theorem j_copy_3_1 {i k nn : Int32} (h : INV σ α t0 ts) : JI P t0 32 175 [.int 3, .int i, .int 1, .int k, .int nn] (ae_en σ α z t0 ts) := by
  obtain ⟨n, E, s, hB, hK, hT, hR, hN⟩ := h
  obtain ⟨n0, n1, n2, n3⟩ := id hN
  obtain ⟨m, hm, g1, g2, g3, g4, g5, g6⟩ := iS_m n3
  obtain ⟨m2, hm2, f1, f2, f3, f4, f5, f6⟩ := iS_m n1
  refine ax_mono (ev_copy_3_1 (zd := 98) (m := m) (m2 := m2) g1 hm f1 hm2) ?_
  rintro _ _ ⟨rfl, rfl⟩
  refine ⟨_, rfl, ⟨_, _, _, _, rfl⟩, ax_mono (em_copy_3_1 (zd := 97) (m := m) (m2 := m2) g2 hm f2 hm2) ?_⟩
  rintro _ _ ⟨mv, rfl, rfl⟩
  have q := iS_copy (i := i) (k := k) (n := nn) n1 f1 hm2 f2 f6 g4 g5 g6
  refine ⟨?_, _, _, _, _, rfl, n, E, s, hB, hK, hT, hR, ?_⟩
  · show some (Value.int (pCopyM 3 1 m m2 i k nn (α 56) (α 58)).1) = some (Value.int (pCopy m m2 (σ 24) (σ 20) (α 30) (α 28) i k nn).1)
    rw [q.1]
  · exact ⟨iS_fr n0 rfl rfl (coM_fr (by decide) hm2), q.2, iS_fr n2 rfl rfl (coM_fr (by decide) hm2), iS_fr n3 rfl rfl (coM_fr (by decide) hm2)⟩
theorem j_copy_3_2 {i k nn : Int32} (h : INV σ α t0 ts) : JI P t0 32 175 [.int 3, .int i, .int 2, .int k, .int nn] (ae_en σ α z t0 ts) := by
  obtain ⟨n, E, s, hB, hK, hT, hR, hN⟩ := h
  obtain ⟨n0, n1, n2, n3⟩ := id hN
  obtain ⟨m, hm, g1, g2, g3, g4, g5, g6⟩ := iS_m n3
  obtain ⟨m2, hm2, f1, f2, f3, f4, f5, f6⟩ := iS_m n2
  refine ax_mono (ev_copy_3_2 (zd := 98) (m := m) (m2 := m2) g1 hm f1 hm2) ?_
  rintro _ _ ⟨rfl, rfl⟩
  refine ⟨_, rfl, ⟨_, _, _, _, rfl⟩, ax_mono (em_copy_3_2 (zd := 97) (m := m) (m2 := m2) g2 hm f2 hm2) ?_⟩
  rintro _ _ ⟨mv, rfl, rfl⟩
  have q := iS_copy (i := i) (k := k) (n := nn) n2 f1 hm2 f2 f6 g4 g5 g6
  refine ⟨?_, _, _, _, _, rfl, n, E, s, hB, hK, hT, hR, ?_⟩
  · show some (Value.int (pCopyM 3 2 m m2 i k nn (α 56) (α 58)).1) = some (Value.int (pCopy m m2 (σ 24) (σ 22) (α 30) (α 29) i k nn).1)
    rw [q.1]
  · exact ⟨iS_fr n0 rfl rfl (coM_fr (by decide) hm2), iS_fr n1 rfl rfl (coM_fr (by decide) hm2), q.2, iS_fr n3 rfl rfl (coM_fr (by decide) hm2)⟩
theorem j_copy_3_3 {i k nn : Int32} (h : INV σ α t0 ts) : JI P t0 32 175 [.int 3, .int i, .int 3, .int k, .int nn] (ae_en σ α z t0 ts) := by
  obtain ⟨n, E, s, hB, hK, hT, hR, hN⟩ := h
  obtain ⟨n0, n1, n2, n3⟩ := id hN
  obtain ⟨m, hm, g1, g2, g3, g4, g5, g6⟩ := iS_m n3
  obtain ⟨m2, hm2, f1, f2, f3, f4, f5, f6⟩ := iS_m n3
  refine ax_mono (ev_copy_3_3 (zd := 98) (m := m) (m2 := m2) g1 hm f1 hm2) ?_
  rintro _ _ ⟨rfl, rfl⟩
  refine ⟨_, rfl, ⟨_, _, _, _, rfl⟩, ax_mono (em_copy_3_3 (zd := 97) (m := m) (m2 := m2) g2 hm f2 hm2) ?_⟩
  rintro _ _ ⟨mv, rfl, rfl⟩
  have q := iS_copy (i := i) (k := k) (n := nn) n3 f1 hm2 f2 f6 g4 g5 g6
  refine ⟨?_, _, _, _, _, rfl, n, E, s, hB, hK, hT, hR, ?_⟩
  · show some (Value.int (pCopyM 3 3 m m2 i k nn (α 56) (α 58)).1) = some (Value.int (pCopy m m2 (σ 24) (σ 24) (α 30) (α 30) i k nn).1)
    rw [q.1]
  · exact ⟨iS_fr n0 rfl rfl (coM_fr (by decide) hm2), iS_fr n1 rfl rfl (coM_fr (by decide) hm2), iS_fr n2 rfl rfl (coM_fr (by decide) hm2), q.2⟩
theorem j_sheet {c so nn : Int32} (h : INV σ α t0 ts) : JI P t0 30 173 [.int c, .int so, .int nn] (ae_en σ α z t0 ts) := by
  by_cases q : iP 4 c
  · obtain ⟨j, hj, rfl⟩ := iP_of q (by omega)
    obtain rfl | rfl | rfl | rfl : j = 0 ∨ j = 1 ∨ j = 2 ∨ j = 3 := by omega
    · exact j_sheet_0 h
    · exact j_sheet_1 h
    · exact j_sheet_2 h
    · exact j_sheet_3 h
  · refine ax_mono (ax_E (ev_sheet_bad (zd := 98) q)) ?_
    rintro _ _ ⟨rfl, rfl⟩
    refine ⟨_, rfl, ⟨_, _, _, _, rfl⟩, ax_mono (ax_E (em_sheet_bad (zd := 97) q)) ?_⟩
    rintro _ _ ⟨rfl, rfl⟩
    obtain ⟨n, E, s, hB, hK, hT, hR, hN⟩ := h
    exact ⟨rfl, _, _, _, _, rfl, n, E, s, hB, hK, hT, hR, hN⟩
theorem j_cell {c i v : Int32} (h : INV σ α t0 ts) : JI P t0 31 174 [.int c, .int i, .int v] (ae_en σ α z t0 ts) := by
  by_cases q : iP 4 c
  · obtain ⟨j, hj, rfl⟩ := iP_of q (by omega)
    obtain rfl | rfl | rfl | rfl : j = 0 ∨ j = 1 ∨ j = 2 ∨ j = 3 := by omega
    · exact j_cell_0 h
    · exact j_cell_1 h
    · exact j_cell_2 h
    · exact j_cell_3 h
  · refine ax_mono (ax_E (ev_cell_bad (zd := 98) q)) ?_
    rintro _ _ ⟨rfl, rfl⟩
    refine ⟨_, rfl, ⟨_, _, _, _, rfl⟩, ax_mono (ax_E (em_cell_bad (zd := 97) q)) ?_⟩
    rintro _ _ ⟨rfl, rfl⟩
    obtain ⟨n, E, s, hB, hK, hT, hR, hN⟩ := h
    exact ⟨rfl, _, _, _, _, rfl, n, E, s, hB, hK, hT, hR, hN⟩
theorem j_planks {c so fr x : Int32} (h : INV σ α t0 ts) : JI P t0 33 176 [.int c, .int so, .int fr, .int x] (ae_en σ α z t0 ts) := by
  by_cases q : iP 4 c
  · obtain ⟨j, hj, rfl⟩ := iP_of q (by omega)
    obtain rfl | rfl | rfl | rfl : j = 0 ∨ j = 1 ∨ j = 2 ∨ j = 3 := by omega
    · exact j_planks_0 h
    · exact j_planks_1 h
    · exact j_planks_2 h
    · exact j_planks_3 h
  · refine ax_mono (ax_E (ev_planks_bad (zd := 98) q)) ?_
    rintro _ _ ⟨rfl, rfl⟩
    refine ⟨_, rfl, ⟨_, _, _, _, rfl⟩, ax_mono (ax_E (em_planks_bad (zd := 97) q)) ?_⟩
    rintro _ _ ⟨rfl, rfl⟩
    obtain ⟨n, E, s, hB, hK, hT, hR, hN⟩ := h
    exact ⟨rfl, _, _, _, _, rfl, n, E, s, hB, hK, hT, hR, hN⟩
theorem j_copy {c i o k nn : Int32} (h : INV σ α t0 ts) : JI P t0 32 175 [.int c, .int i, .int o, .int k, .int nn] (ae_en σ α z t0 ts) := by
  by_cases q : iP 4 c
  · by_cases q2 : iP 4 o
    · obtain ⟨j, hj, rfl⟩ := iP_of q (by omega)
      obtain ⟨j2, hj2, rfl⟩ := iP_of q2 (by omega)
      obtain rfl | rfl | rfl | rfl : j = 0 ∨ j = 1 ∨ j = 2 ∨ j = 3 := by omega
      · obtain rfl | rfl | rfl | rfl : j2 = 0 ∨ j2 = 1 ∨ j2 = 2 ∨ j2 = 3 := by omega
        · exact j_copy_0_0 h
        · exact j_copy_0_1 h
        · exact j_copy_0_2 h
        · exact j_copy_0_3 h
      · obtain rfl | rfl | rfl | rfl : j2 = 0 ∨ j2 = 1 ∨ j2 = 2 ∨ j2 = 3 := by omega
        · exact j_copy_1_0 h
        · exact j_copy_1_1 h
        · exact j_copy_1_2 h
        · exact j_copy_1_3 h
      · obtain rfl | rfl | rfl | rfl : j2 = 0 ∨ j2 = 1 ∨ j2 = 2 ∨ j2 = 3 := by omega
        · exact j_copy_2_0 h
        · exact j_copy_2_1 h
        · exact j_copy_2_2 h
        · exact j_copy_2_3 h
      · obtain rfl | rfl | rfl | rfl : j2 = 0 ∨ j2 = 1 ∨ j2 = 2 ∨ j2 = 3 := by omega
        · exact j_copy_3_0 h
        · exact j_copy_3_1 h
        · exact j_copy_3_2 h
        · exact j_copy_3_3 h
    · refine ax_mono (ax_E (ev_copy_bad (zd := 98) (Or.inr q2))) ?_
      rintro _ _ ⟨rfl, rfl⟩
      refine ⟨_, rfl, ⟨_, _, _, _, rfl⟩, ax_mono (ax_E (em_copy_bad (zd := 97) (Or.inr q2))) ?_⟩
      rintro _ _ ⟨rfl, rfl⟩
      obtain ⟨n, E, s, hB, hK, hT, hR, hN⟩ := h
      exact ⟨rfl, _, _, _, _, rfl, n, E, s, hB, hK, hT, hR, hN⟩
  · refine ax_mono (ax_E (ev_copy_bad (zd := 98) (Or.inl q))) ?_
    rintro _ _ ⟨rfl, rfl⟩
    refine ⟨_, rfl, ⟨_, _, _, _, rfl⟩, ax_mono (ax_E (em_copy_bad (zd := 97) (Or.inl q))) ?_⟩
    rintro _ _ ⟨rfl, rfl⟩
    obtain ⟨n, E, s, hB, hK, hT, hR, hN⟩ := h
    exact ⟨rfl, _, _, _, _, rfl, n, E, s, hB, hK, hT, hR, hN⟩
end L74
