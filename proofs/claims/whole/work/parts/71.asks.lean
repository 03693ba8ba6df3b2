/-! class and reference side by side: the invariant; calls that only ask -/
def iB (n : Nat) (σ : Nat → Int32) (α : Nat → Nat → Int32) : Prop := σ 1 = nI n ∧ n ≤ 10 ∧ σ 27 = nI n ∧ (α 31 = α 0 ∧ α 32 = α 1 ∧ α 33 = α 2 ∧ α 34 = α 4 ∧ α 35 = α 3 ∧ α 36 = α 5 ∧ α 37 = α 6 ∧ α 38 = α 7) ∧ (σ 28 = σ 2 ∧ σ 29 = σ 3 ∧ σ 30 = σ 4 ∧ σ 33 = σ 5) ∧ kOk (α 0) ∧ bA 300 (α 1) ∧ bA 9 (α 2) ∧ bA 100 (α 3) ∧ bA 99 (α 4) ∧ bA 200 (α 5) ∧ bA 100 (α 6) ∧ bnd (σ 2) 9999
def iK (n k : Nat) (σ : Nat → Int32) (α : Nat → Nat → Int32) : Prop := σ 45 = σ 0 ∧ (¬ σ 0 = 0 → ∃ q : Nat, q ≤ n ∧ σ 6 = nI q ∧ σ 46 = nI q ∧ σ 47 = σ 7 ∧ σ 48 = σ 8 ∧ σ 49 = σ 9 ∧ σ 50 = σ 10 ∧ bnd (σ 7) 9999 ∧ (∃ r : Nat, r < k ∧ σ 10 = nI r) ∧ (∀ j, j < q → α 51 j = α 11 j ∧ α 52 j = α 12 j ∧ bnd (α 11 j) 100 ∧ bnd (α 12 j) 99) ∧ ∀ j, j < q - 1 → α 53 j = α 13 j ∧ α 54 j = α 14 j ∧ α 55 j = α 15 j ∧ bnd (α 13 j) 200 ∧ bnd (α 14 j) 100)
def iT (E : Nat → Nat → List Int32) (t0 : ae_T) (ts : List ae_T) (σ : Nat → Int32) (α : Nat → Nat → Int32) : Prop := σ 15 = nI (ts.length + 1) ∧ ts.length + 1 ≤ 6 ∧ σ 32 = nI (ts.length + 1) ∧ (∃ r : Nat, r < ts.length + 1 ∧ σ 5 = nI r) ∧ (∀ i t, ae_get (t0 :: ts) i = some t → tOk t (E i)) ∧ E 0 = e03 ∧ (∀ i, 1 ≤ i → i < ts.length + 1 → mTx i (α 40) (α 41) (α 42) (E i)) ∧ mTb (α 45) (α 46)
def iR (s : Nat) (σ : Nat → Int32) (α : Nat → Nat → Int32) : Prop := σ 11 = nI s ∧ s ≤ 160 ∧ σ 31 = nI s ∧ ∀ j, j < s → α 39 j = α 16 j
def iS (c : Nat) (so sz : Int32) (it a56 a57 a58 : Nat → Int32) : Prop := a56 c = so ∧ (so = -1 ∨ ¬ so < 0 ∧ ∃ m : Nat, m ≤ 40 ∧ sz = nI m ∧ a57 c = nI m ∧ ∀ j, j < m → a58 (40 * c + j) = it j)
def iN (σ : Nat → Int32) (α : Nat → Nat → Int32) : Prop := iS 0 (σ 18) (σ 19) (α 27) (α 56) (α 57) (α 58) ∧ iS 1 (σ 20) (σ 21) (α 28) (α 56) (α 57) (α 58) ∧ iS 2 (σ 22) (σ 23) (α 29) (α 56) (α 57) (α 58) ∧ iS 3 (σ 24) (σ 25) (α 30) (α 56) (α 57) (α 58)
def INV (σ : Nat → Int32) (α : Nat → Nat → Int32) (t0 : ae_T) (ts : List ae_T) : Prop := ∃ (n : Nat) (E : Nat → Nat → List Int32) (s : Nat), iB n σ α ∧ iK n (ts.length + 1) σ α ∧ iT E t0 ts σ α ∧ iR s σ α ∧ iN σ α
/-- a call on both: the same int, and all stands on -/
def JI (P : ae_P) (t0 : ae_T) (mc mr : Nat) (as : List Value) (H : ae_H) : Prop := aw_X P 100 mc (.ref 0 :: as) H (fun r1 H1 => ∃ x : Int32, r1 = some (.int x) ∧ (∃ (σ1 : Nat → Int32) (α1 : Nat → Nat → Int32) (z1 : Int64) (ts1 : List ae_T), H1 = ae_en σ1 α1 z1 t0 ts1) ∧ aw_X P 100 mr (.ref 46 :: as) H1 (fun r2 H2 => r2 = some (.int x) ∧ ∃ (σ' : Nat → Int32) (α' : Nat → Nat → Int32) (z' : Int64) (ts' : List ae_T), H2 = ae_en σ' α' z' t0 ts' ∧ INV σ' α' t0 ts'))
def JL (P : ae_P) (t0 : ae_T) (mc mr : Nat) (as : List Value) (H : ae_H) : Prop := aw_X P 100 mc (.ref 0 :: as) H (fun r1 H1 => ∃ x : Int64, r1 = some (.long x) ∧ (∃ (σ1 : Nat → Int32) (α1 : Nat → Nat → Int32) (z1 : Int64) (ts1 : List ae_T), H1 = ae_en σ1 α1 z1 t0 ts1) ∧ aw_X P 100 mr (.ref 46 :: as) H1 (fun r2 H2 => r2 = some (.long x) ∧ ∃ (σ' : Nat → Int32) (α' : Nat → Nat → Int32) (z' : Int64) (ts' : List ae_T), H2 = ae_en σ' α' z' t0 ts' ∧ INV σ' α' t0 ts'))
theorem ae_get_ex {α : Type} {l : List α} {k : Nat} (h : k < l.length) : ∃ x, ae_get l k = some x := ⟨l[k], by rw [ae_get_eq, List.getElem?_eq_getElem h]⟩
theorem inv_M {n : Nat} {E : Nat → Nat → List Int32} {t0 : ae_T} {ts : List ae_T} {σ : Nat → Int32} {α : Nat → Nat → Int32} (hB : iB n σ α) (hT : iT E t0 ts σ α) : ∃ B : ae_B, cOk B n (σ 1) (σ 3) (σ 5) (σ 15) (α 0) (α 1) (α 2) t0 ts ∧ mOk B n (σ 27) (σ 29) (σ 33) (α 31) (α 32) (α 33) (α 40) (α 41) (α 42) ∧ wOk n (α 35) ∧ vOk n 200 (α 36) ∧ vOk n 100 (α 37) ∧ nOk n (α 34) ∧ (∃ x, σ 28 = nI x ∧ x ≤ 9999) ∧ dyA (σ 2) 0 = σ 2 := by
  obtain ⟨b1, b2, b3, ⟨e1, e2, e3, e4, e5, e6, e7, e8⟩, ⟨d1, d2, d3, d4⟩, k0, k1, k2, k3, k4, k5, k6, x, hx, ex⟩ := hB
  obtain ⟨t1, t2, t3, ⟨r, hr, er⟩, t4, t5, t6, t7⟩ := hT
  obtain ⟨t, ht⟩ := ae_get_ex (l := t0 :: ts) (k := r) (by rw [List.length_cons]; exact hr)
  refine ⟨(E r, (α 0, α 1, α 2), σ 3), ⟨b1, b2, rfl, rfl, rfl, rfl, r, t, er, ht, t4 r t ht, t1, t2⟩, ⟨b3, b2, d2, e1, e2, e3, fun p _ => ⟨k0 p, k1 p, k2 p⟩, r, by omega, d4.trans er, fun q => by rw [q]; exact t5, fun q => t6 r (by omega) hr⟩, ?_, ?_, ?_, ?_, ⟨x, d1.trans ex, hx⟩, ?_⟩
  · rw [e5]; exact fun p _ => k3 p
  · rw [e6]; exact fun p _ => k5 p
  · rw [e7]; exact fun p _ => k6 p
  · rw [e4]; exact fun p _ => k4 p
  · rw [ex]; exact dyA_0 hx
section L71
variable {P : ae_P} {σ : Nat → Int32} {α : Nat → Nat → Int32} {z : Int64} {t0 : ae_T} {ts : List ae_T}

theorem j_told {p what : Int32} (h : INV σ α t0 ts) : JI P t0 6 141 [.int p, .int what] (ae_en σ α z t0 ts) := by
  obtain ⟨n, E, s, hB, hK, hT, hR, hN⟩ := h
  obtain ⟨B, hC, hM, hw, hv, hs, hnl, ⟨x0, hx, hx9⟩, hdy⟩ := inv_M hB hT
  obtain ⟨b1, b2, b3, ⟨e31, e32, e33, e34, e35, e36, e37, e38⟩, ⟨e28, e29, e30, e0⟩, k0, k1, k2, k3, k4, k5, k6, k7⟩ := id hB
  refine ax_mono (ev_Dried_told (zd := 93) hC hdy) ?_
  rintro _ _ ⟨_, _, _, _, _, _, _, _, rfl, rfl⟩
  refine ⟨_, rfl, ⟨_, _, _, _, rfl⟩, ax_mono (ev_Model_told (zd := 95) hM hw) ?_⟩
  rintro _ _ ⟨_, _, _, _, _, _, _, _, _, _, _, rfl, rfl⟩
  refine ⟨?_, _, _, _, _, rfl, n, E, s, hB, hK, hT, hR, hN⟩
  show some (Value.int (aTold B n (α 35) (α 34) (σ 28) p what)) = some (Value.int (aTold B n (α 3) (α 4) (σ 2) p what))
  simp only [e28, e29, e30, e0, e31, e32, e33, e34, e35, e36, e37, e38]
theorem j_gap {g what : Int32} (h : INV σ α t0 ts) : JI P t0 7 145 [.int g, .int what] (ae_en σ α z t0 ts) := by
  obtain ⟨n, E, s, hB, hK, hT, hR, hN⟩ := h
  obtain ⟨B, hC, hM, hw, hv, hs, hnl, ⟨x0, hx, hx9⟩, hdy⟩ := inv_M hB hT
  obtain ⟨b1, b2, b3, ⟨e31, e32, e33, e34, e35, e36, e37, e38⟩, ⟨e28, e29, e30, e0⟩, k0, k1, k2, k3, k4, k5, k6, k7⟩ := id hB
  refine ax_mono (ev_Dried_gap (zd := 93) hC) ?_
  rintro _ _ ⟨_, _, _, _, _, _, _, _, rfl, rfl⟩
  refine ⟨_, rfl, ⟨_, _, _, _, rfl⟩, ax_mono (ax_E (ev_Model_gap (zd := 95) hM hw hv hs)) ?_⟩
  rintro _ _ ⟨rfl, rfl⟩
  refine ⟨?_, _, _, _, _, rfl, n, E, s, hB, hK, hT, hR, hN⟩
  show some (Value.int (aGap B n (α 35) (α 36) (α 37) (α 38) g what)) = some (Value.int (aGap B n (α 3) (α 5) (α 6) (α 7) g what))
  simp only [e28, e29, e30, e0, e31, e32, e33, e34, e35, e36, e37, e38]
theorem j_comes (h : INV σ α t0 ts) : JI P t0 12 148 [] (ae_en σ α z t0 ts) := by
  obtain ⟨n, E, s, hB, hK, hT, hR, hN⟩ := h
  obtain ⟨B, hC, hM, hw, hv, hs, hnl, ⟨x0, hx, hx9⟩, hdy⟩ := inv_M hB hT
  obtain ⟨b1, b2, b3, ⟨e31, e32, e33, e34, e35, e36, e37, e38⟩, ⟨e28, e29, e30, e0⟩, k0, k1, k2, k3, k4, k5, k6, k7⟩ := id hB
  refine ax_mono (ev_Dried_comes (zd := 93) hC hdy) ?_
  rintro _ _ ⟨_, _, _, _, _, _, _, _, rfl, rfl⟩
  refine ⟨_, rfl, ⟨_, _, _, _, rfl⟩, ax_mono (ev_Model_comes (zd := 95) hM hw) ?_⟩
  rintro _ _ ⟨_, _, rfl, rfl⟩
  refine ⟨?_, _, _, _, _, rfl, n, E, s, hB, hK, hT, hR, hN⟩
  show some (Value.int (rCm B n (α 35) (α 36) (α 37) (σ 28) (sumF (α 34) n) (n - 1))) = some (Value.int (rCm B n (α 3) (α 5) (α 6) (σ 2) (sumF (α 4) n) (n - 1)))
  simp only [e28, e29, e30, e0, e31, e32, e33, e34, e35, e36, e37, e38]
theorem j_tight (h : INV σ α t0 ts) : JI P t0 17 160 [] (ae_en σ α z t0 ts) := by
  obtain ⟨n, E, s, hB, hK, hT, hR, hN⟩ := h
  obtain ⟨B, hC, hM, hw, hv, hs, hnl, ⟨x0, hx, hx9⟩, hdy⟩ := inv_M hB hT
  obtain ⟨b1, b2, b3, ⟨e31, e32, e33, e34, e35, e36, e37, e38⟩, ⟨e28, e29, e30, e0⟩, k0, k1, k2, k3, k4, k5, k6, k7⟩ := id hB
  refine ax_mono (ev_Dried_tight (zd := 93) hC) ?_
  rintro _ _ ⟨_, _, _, _, _, _, _, _, rfl, rfl⟩
  refine ⟨_, rfl, ⟨_, _, _, _, rfl⟩, ax_mono (ev_Model_tight (zd := 94) hM rfl hw hv hs hx hx9) ?_⟩
  rintro _ _ ⟨_, _, _, _, _, _, _, _, _, _, _, rfl, rfl⟩
  refine ⟨?_, _, _, _, _, rfl, n, E, s, hB, hK, hT, hR, hN⟩
  show some (Value.int (aTight B n (α 35) (α 36) (α 37) (α 38) (σ 28))) = some (Value.int (aTight B n (α 3) (α 5) (α 6) (α 7) (σ 2)))
  simp only [e28, e29, e30, e0, e31, e32, e33, e34, e35, e36, e37, e38]
theorem j_out (h : INV σ α t0 ts) : JI P t0 18 161 [] (ae_en σ α z t0 ts) := by
  obtain ⟨n, E, s, hB, hK, hT, hR, hN⟩ := h
  obtain ⟨B, hC, hM, hw, hv, hs, hnl, ⟨x0, hx, hx9⟩, hdy⟩ := inv_M hB hT
  obtain ⟨b1, b2, b3, ⟨e31, e32, e33, e34, e35, e36, e37, e38⟩, ⟨e28, e29, e30, e0⟩, k0, k1, k2, k3, k4, k5, k6, k7⟩ := id hB
  refine ax_mono (ev_Dried_out (zd := 92) hC) ?_
  rintro _ _ ⟨_, _, _, _, _, _, _, _, rfl, rfl⟩
  refine ⟨_, rfl, ⟨_, _, _, _, rfl⟩, ax_mono (ev_Model_out (zd := 94) hM rfl hw hv hs hx hx9) ?_⟩
  rintro _ _ ⟨_, _, _, _, _, _, _, _, _, _, _, rfl, rfl⟩
  refine ⟨?_, _, _, _, _, rfl, n, E, s, hB, hK, hT, hR, hN⟩
  show some (Value.int (aOut B n (α 35) (α 36) (α 37) (α 38) (σ 28) (sumF (α 34) n) (σ 30))) = some (Value.int (aOut B n (α 3) (α 5) (α 6) (α 7) (σ 2) (sumF (α 4) n) (σ 4)))
  simp only [e28, e29, e30, e0, e31, e32, e33, e34, e35, e36, e37, e38]
theorem j_sack {a : Int32} (h : INV σ α t0 ts) : JL P t0 19 162 [.int a] (ae_en σ α z t0 ts) := by
  obtain ⟨n, E, s, hB, hK, hT, hR, hN⟩ := h
  obtain ⟨B, hC, hM, hw, hv, hs, hnl, ⟨x0, hx, hx9⟩, hdy⟩ := inv_M hB hT
  obtain ⟨b1, b2, b3, ⟨e31, e32, e33, e34, e35, e36, e37, e38⟩, ⟨e28, e29, e30, e0⟩, k0, k1, k2, k3, k4, k5, k6, k7⟩ := id hB
  refine ax_mono (ev_Dried_sack (zd := 92) hC hdy) ?_
  rintro _ _ ⟨_, _, _, _, _, _, _, _, rfl, rfl⟩
  refine ⟨_, rfl, ⟨_, _, _, _, rfl⟩, ax_mono (ev_Model_sack (zd := 94) hM hw hv hs hnl) ?_⟩
  rintro _ _ ⟨_, _, _, _, _, _, _, _, _, _, _, rfl, rfl⟩
  refine ⟨?_, _, _, _, _, rfl, n, E, s, hB, hK, hT, hR, hN⟩
  show some (Value.long (aSack B n (α 35) (α 36) (α 37) (σ 28) (sumF (α 34) n) a)) = some (Value.long (aSack B n (α 3) (α 5) (α 6) (σ 2) (sumF (α 4) n) a))
  simp only [e28, e29, e30, e0, e31, e32, e33, e34, e35, e36, e37, e38]
theorem j_first {a : Int32} (h : INV σ α t0 ts) : JI P t0 21 164 [.int a] (ae_en σ α z t0 ts) := by
  obtain ⟨n, E, s, hB, hK, hT, hR, hN⟩ := h
  obtain ⟨B, hC, hM, hw, hv, hs, hnl, ⟨x0, hx, hx9⟩, hdy⟩ := inv_M hB hT
  obtain ⟨b1, b2, b3, ⟨e31, e32, e33, e34, e35, e36, e37, e38⟩, ⟨e28, e29, e30, e0⟩, k0, k1, k2, k3, k4, k5, k6, k7⟩ := id hB
  refine ax_mono (ev_Dried_first (zd := 92) hC) ?_
  rintro _ _ ⟨_, _, _, _, _, _, _, _, rfl, rfl⟩
  refine ⟨_, rfl, ⟨_, _, _, _, rfl⟩, ax_mono (ev_Model_first (zd := 92) hM rfl hw hv hs hx hx9 hnl) ?_⟩
  rintro _ _ ⟨_, _, _, _, _, _, _, _, _, _, _, rfl, rfl⟩
  refine ⟨?_, _, _, _, _, rfl, n, E, s, hB, hK, hT, hR, hN⟩
  show some (Value.int (aFirst B n (α 35) (α 36) (α 37) (α 38) (σ 28) (sumF (α 34) n) a)) = some (Value.int (aFirst B n (α 3) (α 5) (α 6) (α 7) (σ 2) (sumF (α 4) n) a))
  simp only [e28, e29, e30, e0, e31, e32, e33, e34, e35, e36, e37, e38]
theorem j_most {a : Int32} (h : INV σ α t0 ts) : JI P t0 22 165 [.int a] (ae_en σ α z t0 ts) := by
  obtain ⟨n, E, s, hB, hK, hT, hR, hN⟩ := h
  obtain ⟨B, hC, hM, hw, hv, hs, hnl, ⟨x0, hx, hx9⟩, hdy⟩ := inv_M hB hT
  obtain ⟨b1, b2, b3, ⟨e31, e32, e33, e34, e35, e36, e37, e38⟩, ⟨e28, e29, e30, e0⟩, k0, k1, k2, k3, k4, k5, k6, k7⟩ := id hB
  refine ax_mono (ev_Dried_most (zd := 92) hC) ?_
  rintro _ _ ⟨_, _, _, _, _, _, _, _, rfl, rfl⟩
  refine ⟨_, rfl, ⟨_, _, _, _, rfl⟩, ax_mono (ev_Model_most (zd := 92) hM rfl hw hv hs hx hx9 hnl) ?_⟩
  rintro _ _ ⟨_, _, _, _, _, _, _, _, _, _, _, rfl, rfl⟩
  refine ⟨?_, _, _, _, _, rfl, n, E, s, hB, hK, hT, hR, hN⟩
  show some (Value.int (aMost B n (α 35) (α 36) (α 37) (α 38) (σ 28) a)) = some (Value.int (aMost B n (α 3) (α 5) (α 6) (α 7) (σ 2) a))
  simp only [e28, e29, e30, e0, e31, e32, e33, e34, e35, e36, e37, e38]
theorem j_far {a : Int32} (h : INV σ α t0 ts) : JI P t0 23 166 [.int a] (ae_en σ α z t0 ts) := by
  obtain ⟨n, E, s, hB, hK, hT, hR, hN⟩ := h
  obtain ⟨B, hC, hM, hw, hv, hs, hnl, ⟨x0, hx, hx9⟩, hdy⟩ := inv_M hB hT
  obtain ⟨b1, b2, b3, ⟨e31, e32, e33, e34, e35, e36, e37, e38⟩, ⟨e28, e29, e30, e0⟩, k0, k1, k2, k3, k4, k5, k6, k7⟩ := id hB
  refine ax_mono (ev_Dried_far (zd := 92) hC hdy) ?_
  rintro _ _ ⟨_, _, _, _, _, _, _, _, rfl, rfl⟩
  refine ⟨_, rfl, ⟨_, _, _, _, rfl⟩, ax_mono (ev_Model_far (zd := 94) hM hw hv hs hnl) ?_⟩
  rintro _ _ ⟨_, _, _, _, _, _, _, _, _, _, _, rfl, rfl⟩
  refine ⟨?_, _, _, _, _, rfl, n, E, s, hB, hK, hT, hR, hN⟩
  show some (Value.int (aFar (rCm B n (α 35) (α 36) (α 37) (σ 28) (sumF (α 34) n) (n - 1)) a)) = some (Value.int (aFar (rCm B n (α 3) (α 5) (α 6) (σ 2) (sumF (α 4) n) (n - 1)) a))
  simp only [e28, e29, e30, e0, e31, e32, e33, e34, e35, e36, e37, e38]
theorem j_nails {a : Int32} (h : INV σ α t0 ts) : JL P t0 24 167 [.int a] (ae_en σ α z t0 ts) := by
  obtain ⟨n, E, s, hB, hK, hT, hR, hN⟩ := h
  obtain ⟨B, hC, hM, hw, hv, hs, hnl, ⟨x0, hx, hx9⟩, hdy⟩ := inv_M hB hT
  obtain ⟨b1, b2, b3, ⟨e31, e32, e33, e34, e35, e36, e37, e38⟩, ⟨e28, e29, e30, e0⟩, k0, k1, k2, k3, k4, k5, k6, k7⟩ := id hB
  refine ax_mono (ev_Dried_nails (zd := 92) hC hdy) ?_
  rintro _ _ ⟨_, _, _, _, _, _, _, _, rfl, rfl⟩
  refine ⟨_, rfl, ⟨_, _, _, _, rfl⟩, ax_mono (ev_Model_nails (zd := 94) hM hw hv hs hnl) ?_⟩
  rintro _ _ ⟨_, _, _, _, _, _, _, _, _, _, _, rfl, rfl⟩
  refine ⟨?_, _, _, _, _, rfl, n, E, s, hB, hK, hT, hR, hN⟩
  show some (Value.long (aNails (rCm B n (α 35) (α 36) (α 37) (σ 28) (sumF (α 34) n) (n - 1)) (10 * sumF (α 34) n) a)) = some (Value.long (aNails (rCm B n (α 3) (α 5) (α 6) (σ 2) (sumF (α 4) n) (n - 1)) (10 * sumF (α 4) n) a))
  simp only [e28, e29, e30, e0, e31, e32, e33, e34, e35, e36, e37, e38]
theorem j_count {what : Int32} (h : INV σ α t0 ts) : JI P t0 28 171 [.int what] (ae_en σ α z t0 ts) := by
  obtain ⟨n, E, s, hB, hK, hT, hR, hN⟩ := h
  obtain ⟨B, hC, hM, hw, hv, hs, hnl, ⟨x0, hx, hx9⟩, hdy⟩ := inv_M hB hT
  obtain ⟨b1, b2, b3, ⟨e31, e32, e33, e34, e35, e36, e37, e38⟩, ⟨e28, e29, e30, e0⟩, k0, k1, k2, k3, k4, k5, k6, k7⟩ := id hB
  refine ax_mono (ev_Dried_count (zd := 93) hC) ?_
  rintro _ _ ⟨_, _, _, _, _, _, _, _, rfl, rfl⟩
  refine ⟨_, rfl, ⟨_, _, _, _, rfl⟩, ax_mono (ax_E (ev_Model_count (zd := 95) hM hw)) ?_⟩
  rintro _ _ ⟨rfl, rfl⟩
  refine ⟨?_, _, _, _, _, rfl, n, E, s, hB, hK, hT, hR, hN⟩
  show some (Value.int (aCount (σ 27) (rON B (α 35) (α 36) (α 37) (n - 1)) (sumF (α 38) (n - 1)) (σ 28) (σ 32) (σ 31) (σ 33) (σ 29) (σ 30) (sumF (α 34) n) what)) = some (Value.int (aCount (σ 1) (rON B (α 3) (α 5) (α 6) (n - 1)) (sumF (α 7) (n - 1)) (σ 2) (σ 15) (σ 11) (σ 5) (σ 3) (σ 4) (sumF (α 4) n) what))
  simp only [e28, e29, e30, e0, e31, e32, e33, e34, e35, e36, e37, e38, b1, b3, hR.1, hR.2.2.1, hT.1, hT.2.2.1]
theorem j_taken {p k : Int32} (h : INV σ α t0 ts) : JI P t0 34 178 [.int p, .int k] (ae_en σ α z t0 ts) := by
  obtain ⟨n, E, s, hB, hK, hT, hR, hN⟩ := h
  obtain ⟨B, hC, hM, hw, hv, hs, hnl, ⟨x0, hx, hx9⟩, hdy⟩ := inv_M hB hT
  obtain ⟨b1, b2, b3, ⟨e31, e32, e33, e34, e35, e36, e37, e38⟩, ⟨e28, e29, e30, e0⟩, k0, k1, k2, k3, k4, k5, k6, k7⟩ := id hB
  refine ax_mono (ax_E (ev_Dried_taken (zd := 97) b1 b2 (fun p _ => k0 p))) ?_
  rintro _ _ ⟨rfl, rfl⟩
  refine ⟨_, rfl, ⟨_, _, _, _, rfl⟩, ax_mono (ax_E (ev_Model_taken (zd := 97) b3 b2)) ?_⟩
  rintro _ _ ⟨rfl, rfl⟩
  refine ⟨?_, _, _, _, _, rfl, n, E, s, hB, hK, hT, hR, hN⟩
  show some (Value.int (aTaken n (α 31) (α 33) p k)) = some (Value.int (aTaken n (α 0) (α 2) p k))
  simp only [e28, e29, e30, e0, e31, e32, e33, e34, e35, e36, e37, e38]
theorem j_run {nn o what : Int32} (h : INV σ α t0 ts) : JL P t0 13 156 [.int nn, .int o, .int what] (ae_en σ α z t0 ts) := by
  obtain ⟨n, E, s, hB, hK, hT, hR, hN⟩ := h
  obtain ⟨B, hC, hM, hw, hv, hs, hnl, ⟨x0, hx, hx9⟩, hdy⟩ := inv_M hB hT
  obtain ⟨b1, b2, b3, ⟨e31, e32, e33, e34, e35, e36, e37, e38⟩, ⟨e28, e29, e30, e0⟩, k0, k1, k2, k3, k4, k5, k6, k7⟩ := id hB
  refine ax_mono (ev_Dried_run (zd := 92) hC) ?_
  rintro _ _ ⟨_, _, _, _, _, _, _, _, rfl, rfl⟩
  by_cases c : 1 ≤ nn ∧ nn ≤ 60 ∧ ¬ aTR n o what = 0
  · obtain ⟨N, hN1, hN60, rfl⟩ := nR (x := nn) (Int32.not_lt.mpr c.1) (Int32.not_lt.mpr c.2.1)
    have cN : (nI N).toNatClampNeg = N := nI_clamp (by omega)
    have c3 := c.2.2
    by_cases w0 : what = 0
    · subst w0
      have c3 : ¬ bI (iP (n - 1) o) = 0 := c3
      obtain ⟨j, hj, rfl⟩ := iP_of (bI_t c3) (by omega)
      refine ⟨_, rfl, ⟨_, _, _, _, rfl⟩, ax_mono (em_run_0 (zd := 93) (N := N) (j := j) hM rfl hw hv hs hx hx9 hN60 hnl hN1 (by omega)) ?_⟩
      rintro _ _ ⟨_, _, _, _, _, _, _, _, _, _, _, rfl, rfl⟩
      refine ⟨?_, _, _, _, _, rfl, n, E, s, hB, hK, hT, hR, hN⟩
      rw [aRun, if_pos c, if_pos rfl, cN, nI_clamp (show j < 2 ^ 31 by omega)]
      show some (Value.long (gOp B N (wD B n (α 35) (σ 28)) (α 36) (α 37) (α 38) N j).toInt64) = _
      simp only [e28, e35, e36, e37, e38]
    by_cases w1 : what = 1
    · subst w1
      have c3 : ¬ bI (iP (n - 1) o) = 0 := c3
      obtain ⟨j, hj, rfl⟩ := iP_of (bI_t c3) (by omega)
      refine ⟨_, rfl, ⟨_, _, _, _, rfl⟩, ax_mono (em_run_1 (zd := 93) (N := N) (j := j) hM rfl hw hv hs hx hx9 hN60 hnl hN1 (by omega)) ?_⟩
      rintro _ _ ⟨_, _, _, _, _, _, _, _, _, _, _, rfl, rfl⟩
      refine ⟨?_, _, _, _, _, rfl, n, E, s, hB, hK, hT, hR, hN⟩
      rw [aRun, if_pos c, if_neg w0, if_pos rfl, cN, nI_clamp (show j < 2 ^ 31 by omega)]
      show some (Value.long (gPr B N (wD B n (α 35) (σ 28)) (α 36) (α 37) (α 38) N j).toInt64) = _
      simp only [e28, e35, e36, e37, e38]
    by_cases w2 : what = 2
    · subst w2
      have c3 : ¬ bI (iP n o) = 0 := c3
      obtain ⟨j, hj, rfl⟩ := iP_of (bI_t c3) (by omega)
      refine ⟨_, rfl, ⟨_, _, _, _, rfl⟩, ax_mono (em_run_2 (zd := 93) (N := N) (j := j) hM rfl hw hv hs hx hx9 hN60 hnl hN1 (by omega)) ?_⟩
      rintro _ _ ⟨_, _, _, _, _, _, _, _, _, _, _, rfl, rfl⟩
      refine ⟨?_, _, _, _, _, rfl, n, E, s, hB, hK, hT, hR, hN⟩
      rw [aRun, if_pos c, if_neg w0, if_neg w1, if_pos rfl, cN, nI_clamp (show j < 2 ^ 31 by omega)]
      show some (Value.long (wD B n (α 35) (σ 28) N j).toInt64) = _
      simp only [e28, e35, e36, e37, e38]
    by_cases w3 : what = 3
    · subst w3
      refine ⟨_, rfl, ⟨_, _, _, _, rfl⟩, ax_mono (em_run_3 (zd := 93) (N := N) hM rfl hw hv hs hx hx9 hN60 hnl hN1) ?_⟩
      rintro _ _ ⟨_, _, _, _, _, _, _, _, _, _, _, rfl, rfl⟩
      refine ⟨?_, _, _, _, _, rfl, n, E, s, hB, hK, hT, hR, hN⟩
      rw [aRun, if_pos c, if_neg w0, if_neg w1, if_neg w2, if_pos rfl, cN]
      show some (Value.long (gGN B N (wD B n (α 35) (σ 28)) (α 36) (α 37) (α 38) N (n - 1)).toInt64) = _
      simp only [e28, e35, e36, e37, e38]
    have w4 : what = 4 := by
      rcases Decidable.em (what = 4) with q | q
      · exact q
      · refine absurd ?_ c3
        unfold aTR
        rw [if_neg w0, if_neg w1, if_neg w2, if_neg w3, if_neg q]
    subst w4
    refine ⟨_, rfl, ⟨_, _, _, _, rfl⟩, ax_mono (em_run_4 (zd := 93) (N := N) hM rfl hw hv hs hx hx9 hN60 hnl hN1) ?_⟩
    rintro _ _ ⟨_, _, _, _, _, _, _, _, _, _, _, rfl, rfl⟩
    refine ⟨?_, _, _, _, _, rfl, n, E, s, hB, hK, hT, hR, hN⟩
    rw [aRun, if_pos c, if_neg w0, if_neg w1, if_neg w2, if_neg w3, cN]
    show some (Value.long (gCI B n N (wD B n (α 35) (σ 28)) (α 36) (α 37) (α 38) (σ 28) (sumF (α 34) n) N).toInt64) = _
    simp only [e28, e34, e35, e36, e37, e38]
  · refine ⟨_, rfl, ⟨_, _, _, _, rfl⟩, ax_mono (ax_E (em_run_no (zd := 97) b3 b2 c)) ?_⟩
    rintro _ _ ⟨rfl, rfl⟩
    refine ⟨?_, _, _, _, _, rfl, n, E, s, hB, hK, hT, hR, hN⟩
    rw [aRun, if_neg c]
end L71
