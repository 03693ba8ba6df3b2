/-! the law begins: what the Statement gives, as the machine over places has it -/
def ae_nw : List Cond := flatC (Cond.and given_1 narrow_1)
def ae_tm (i : Nat) : Term := match ae_ET[i]? with
  | some q => .string (ae_cn q.1) q.2.1
  | none => .int 0
theorem ae_n1 : (List.range 13).map (fun i => Cond.exactly (ae_tm i) "java/lang/String") = ([34, 121, 129, 138, 149, 160, 172, 186, 201, 217, 235, 251, 269] : List Nat).filterMap (fun k => ae_nw[k]?) := by decide +kernel
theorem ae_n2 : (List.range 13).map (fun i => Cond.eq (.field (ae_tm i) "java/lang/String" "coder" "B") (.int 0)) = ([35, 122, 130, 139, 150, 161, 173, 187, 202, 218, 236, 252, 270] : List Nat).filterMap (fun k => ae_nw[k]?) := by decide +kernel
theorem ae_n3 : (List.range 13).map (fun i => Cond.arrayOf (.field (ae_tm i) "java/lang/String" "value" "[B") .byte) = ([36, 123, 131, 140, 151, 162, 174, 188, 203, 219, 237, 253, 271] : List Nat).filterMap (fun k => ae_nw[k]?) := by decide +kernel
theorem ae_n4 : (List.range 13).map (fun i => Cond.eq (.length (.field (ae_tm i) "java/lang/String" "value" "[B")) (.int (Int32.ofNat (ae_lenS.getD i 0)))) = ([37, 124, 132, 141, 152, 163, 175, 189, 204, 220, 238, 254, 272] : List Nat).filterMap (fun k => ae_nw[k]?) := by decide +kernel
theorem ae_n5_0 : (List.range 83).map (fun j => Cond.eq (.elem (.field (ae_tm 0) "java/lang/String" "value" "[B") (.int (Int32.ofNat j))) (.int ((ae_bytS.getD 0 []).getD j 0))) = ([38, 39, 40, 41, 42, 43, 44, 45, 46, 47, 48, 49, 50, 51, 52, 53, 54, 55, 56, 57, 58, 59, 60, 61, 62, 63, 64, 65, 66, 67, 68, 69, 70, 71, 72, 73, 74, 75, 76, 77, 78, 79, 80, 81, 82, 83, 84, 85, 86, 87, 88, 89, 90, 91, 92, 93, 94, 95, 96, 97, 98, 99, 100, 101, 102, 103, 104, 105, 106, 107, 108, 109, 110, 111, 112, 113, 114, 115, 116, 117, 118, 119, 120] : List Nat).filterMap (fun k => ae_nw[k]?) := by decide +kernel
theorem ae_n5_1 : (List.range 3).map (fun j => Cond.eq (.elem (.field (ae_tm 1) "java/lang/String" "value" "[B") (.int (Int32.ofNat j))) (.int ((ae_bytS.getD 1 []).getD j 0))) = ([125, 126, 127] : List Nat).filterMap (fun k => ae_nw[k]?) := by decide +kernel
theorem ae_n5_2 : (List.range 3).map (fun j => Cond.eq (.elem (.field (ae_tm 2) "java/lang/String" "value" "[B") (.int (Int32.ofNat j))) (.int ((ae_bytS.getD 2 []).getD j 0))) = ([133, 134, 135] : List Nat).filterMap (fun k => ae_nw[k]?) := by decide +kernel
theorem ae_n5_3 : (List.range 4).map (fun j => Cond.eq (.elem (.field (ae_tm 3) "java/lang/String" "value" "[B") (.int (Int32.ofNat j))) (.int ((ae_bytS.getD 3 []).getD j 0))) = ([142, 143, 144, 145] : List Nat).filterMap (fun k => ae_nw[k]?) := by decide +kernel
theorem ae_n5_4 : (List.range 3).map (fun j => Cond.eq (.elem (.field (ae_tm 4) "java/lang/String" "value" "[B") (.int (Int32.ofNat j))) (.int ((ae_bytS.getD 4 []).getD j 0))) = ([153, 154, 155] : List Nat).filterMap (fun k => ae_nw[k]?) := by decide +kernel
theorem ae_n5_5 : (List.range 3).map (fun j => Cond.eq (.elem (.field (ae_tm 5) "java/lang/String" "value" "[B") (.int (Int32.ofNat j))) (.int ((ae_bytS.getD 5 []).getD j 0))) = ([164, 165, 166] : List Nat).filterMap (fun k => ae_nw[k]?) := by decide +kernel
theorem ae_n5_6 : (List.range 4).map (fun j => Cond.eq (.elem (.field (ae_tm 6) "java/lang/String" "value" "[B") (.int (Int32.ofNat j))) (.int ((ae_bytS.getD 6 []).getD j 0))) = ([176, 177, 178, 179] : List Nat).filterMap (fun k => ae_nw[k]?) := by decide +kernel
theorem ae_n5_7 : (List.range 4).map (fun j => Cond.eq (.elem (.field (ae_tm 7) "java/lang/String" "value" "[B") (.int (Int32.ofNat j))) (.int ((ae_bytS.getD 7 []).getD j 0))) = ([190, 191, 192, 193] : List Nat).filterMap (fun k => ae_nw[k]?) := by decide +kernel
theorem ae_n5_8 : (List.range 4).map (fun j => Cond.eq (.elem (.field (ae_tm 8) "java/lang/String" "value" "[B") (.int (Int32.ofNat j))) (.int ((ae_bytS.getD 8 []).getD j 0))) = ([205, 206, 207, 208] : List Nat).filterMap (fun k => ae_nw[k]?) := by decide +kernel
theorem ae_n5_9 : (List.range 5).map (fun j => Cond.eq (.elem (.field (ae_tm 9) "java/lang/String" "value" "[B") (.int (Int32.ofNat j))) (.int ((ae_bytS.getD 9 []).getD j 0))) = ([221, 222, 223, 224, 225] : List Nat).filterMap (fun k => ae_nw[k]?) := by decide +kernel
theorem ae_n5_10 : (List.range 2).map (fun j => Cond.eq (.elem (.field (ae_tm 10) "java/lang/String" "value" "[B") (.int (Int32.ofNat j))) (.int ((ae_bytS.getD 10 []).getD j 0))) = ([239, 240] : List Nat).filterMap (fun k => ae_nw[k]?) := by decide +kernel
theorem ae_n5_11 : (List.range 3).map (fun j => Cond.eq (.elem (.field (ae_tm 11) "java/lang/String" "value" "[B") (.int (Int32.ofNat j))) (.int ((ae_bytS.getD 11 []).getD j 0))) = ([255, 256, 257] : List Nat).filterMap (fun k => ae_nw[k]?) := by decide +kernel
theorem ae_n5_12 : (List.range 3).map (fun j => Cond.eq (.elem (.field (ae_tm 12) "java/lang/String" "value" "[B") (.int (Int32.ofNat j))) (.int ((ae_bytS.getD 12 []).getD j 0))) = ([273, 274, 275] : List Nat).filterMap (fun k => ae_nw[k]?) := by decide +kernel
def ae_prs : List (Nat × Nat) := [(0, 1), (0, 2), (1, 2), (0, 3), (1, 3), (2, 3), (0, 4), (1, 4), (2, 4), (3, 4), (0, 5), (1, 5), (2, 5), (3, 5), (4, 5), (0, 6), (1, 6), (2, 6), (3, 6), (4, 6), (5, 6), (0, 7), (1, 7), (2, 7), (3, 7), (4, 7), (5, 7), (6, 7), (0, 8), (1, 8), (2, 8), (3, 8), (4, 8), (5, 8), (6, 8), (7, 8), (0, 9), (1, 9), (2, 9), (3, 9), (4, 9), (5, 9), (6, 9), (7, 9), (8, 9), (0, 10), (1, 10), (2, 10), (3, 10), (4, 10), (5, 10), (6, 10), (7, 10), (8, 10), (9, 10), (0, 11), (1, 11), (2, 11), (3, 11), (4, 11), (5, 11), (6, 11), (7, 11), (8, 11), (9, 11), (10, 11), (0, 12), (1, 12), (2, 12), (3, 12), (4, 12), (5, 12), (6, 12), (7, 12), (8, 12), (9, 12), (10, 12), (11, 12)]
theorem ae_n6 : ae_prs.map (fun q => Cond.not (Cond.eq (ae_tm q.1) (ae_tm q.2))) = ([128, 136, 137, 146, 147, 148, 156, 157, 158, 159, 167, 168, 169, 170, 171, 180, 181, 182, 183, 184, 185, 194, 195, 196, 197, 198, 199, 200, 209, 210, 211, 212, 213, 214, 215, 216, 226, 227, 228, 229, 230, 231, 232, 233, 234, 241, 242, 243, 244, 245, 246, 247, 248, 249, 250, 258, 259, 260, 261, 262, 263, 264, 265, 266, 267, 268, 276, 277, 278, 279, 280, 281, 282, 283, 284, 285, 286, 287] : List Nat).filterMap (fun k => ae_nw[k]?) := by decide +kernel
theorem ae_prsB : ((List.range 13).all fun i => (List.range 13).all fun j => decide (i = j) || (decide ((i, j) ∈ ae_prs) || decide ((j, i) ∈ ae_prs))) = true := by decide +kernel
theorem ae_prsOK (i : Nat) (hi : i < 13) (j : Nat) (hj : j < 13) (hij : i ≠ j) : (i, j) ∈ ae_prs ∨ (j, i) ∈ ae_prs := by
  have a := List.all_eq_true.mp (List.all_eq_true.mp ae_prsB i (List.mem_range.mpr hi)) j (List.mem_range.mpr hj)
  simp only [Bool.or_eq_true, decide_eq_true_eq] at a
  exact a.resolve_left hij
theorem ae_n7 : [Cond.arrayOf (.static "DriedOut$Wood" "ABOVE" "[I") .int, Cond.eq (.length (.static "DriedOut$Wood" "ABOVE" "[I")) (.int 6)] = ([10, 11] : List Nat).filterMap (fun k => ae_nw[k]?) := by decide +kernel
theorem ae_n8 : (List.range 6).map (fun j => Cond.eq (.elem (.static "DriedOut$Wood" "ABOVE" "[I") (.int (Int32.ofNat j))) (.int (ae_above.getD j 0))) = ([12, 13, 14, 15, 16, 17] : List Nat).filterMap (fun k => ae_nw[k]?) := by decide +kernel
theorem ae_n9 : [Cond.eq (.static "java/lang/String" "COMPACT_STRINGS" "Z") (.int 1), Cond.isRef (.static "jdk/internal/util/Preconditions" "SIOOBE_FORMATTER" "Ljava/util/function/BiFunction;")] = ([4, 5] : List Nat).filterMap (fun k => ae_nw[k]?) := by decide +kernel
theorem ae_t1 : [Cond.arrayOver (.object "DriedOut$Sheet"), Cond.arrayOver (.object "DriedOut$Steps")] = ([253, 206] : List Nat).filterMap (fun k => lw_tbl[k]?) := by decide +kernel
theorem ae_t2 : ae_NT.map (fun q => Cond.methodLinkNest (ae_cn q.1) q.2.1 (ae_my q.2.2) "DriedOut") = ([91, 162, 201, 255] : List Nat).filterMap (fun k => lw_tbl[k]?) := by decide +kernel
theorem ae_t3 : ae_ET.map (fun q => Cond.stringRef (ae_cn q.1) q.2.1 (ae_txt.getD q.2.2 "")) = ([271, 364, 365, 366, 367, 368, 369, 370, 371, 372, 373, 374, 375] : List Nat).filterMap (fun k => lw_tbl[k]?) := by decide +kernel
theorem ae_t4 : [Cond.laysStatic "java/lang/String" "COMPACT_STRINGS" "Z", Cond.laysStatic "jdk/internal/util/Preconditions" "SIOOBE_FORMATTER" "Ljava/util/function/BiFunction;", Cond.laysStatic "DriedOut$Wood" "ABOVE" "[I", Cond.initialized "java/lang/String", Cond.initialized "jdk/internal/util/Preconditions", Cond.initialized "DriedOut$Wood"] = ([281, 297, 481, 71, 73, 79] : List Nat).filterMap (fun k => lw_tbl[k]?) := by decide +kernel
theorem ae_pick {α : Type} {ws big : List α} {ps : List Nat} (h : ws = ps.filterMap (fun k => big[k]?)) {x : α} (hx : x ∈ ws) : x ∈ big := by
  rw [h] at hx
  obtain ⟨i, -, hi⟩ := List.mem_filterMap.mp hx
  exact List.mem_of_getElem? hi
theorem ae_n5 : ∀ i, i < 13 → ∀ j, j < ae_lenS.getD i 0 → Cond.eq (.elem (.field (ae_tm i) "java/lang/String" "value" "[B") (.int (Int32.ofNat j))) (.int ((ae_bytS.getD i []).getD j 0)) ∈ ae_nw := by
  intro i hi j hj
  match i, hi, hj with
  | 0, _, hj => exact ae_pick ae_n5_0 (List.mem_map.mpr ⟨j, List.mem_range.mpr hj, rfl⟩)
  | 1, _, hj => exact ae_pick ae_n5_1 (List.mem_map.mpr ⟨j, List.mem_range.mpr hj, rfl⟩)
  | 2, _, hj => exact ae_pick ae_n5_2 (List.mem_map.mpr ⟨j, List.mem_range.mpr hj, rfl⟩)
  | 3, _, hj => exact ae_pick ae_n5_3 (List.mem_map.mpr ⟨j, List.mem_range.mpr hj, rfl⟩)
  | 4, _, hj => exact ae_pick ae_n5_4 (List.mem_map.mpr ⟨j, List.mem_range.mpr hj, rfl⟩)
  | 5, _, hj => exact ae_pick ae_n5_5 (List.mem_map.mpr ⟨j, List.mem_range.mpr hj, rfl⟩)
  | 6, _, hj => exact ae_pick ae_n5_6 (List.mem_map.mpr ⟨j, List.mem_range.mpr hj, rfl⟩)
  | 7, _, hj => exact ae_pick ae_n5_7 (List.mem_map.mpr ⟨j, List.mem_range.mpr hj, rfl⟩)
  | 8, _, hj => exact ae_pick ae_n5_8 (List.mem_map.mpr ⟨j, List.mem_range.mpr hj, rfl⟩)
  | 9, _, hj => exact ae_pick ae_n5_9 (List.mem_map.mpr ⟨j, List.mem_range.mpr hj, rfl⟩)
  | 10, _, hj => exact ae_pick ae_n5_10 (List.mem_map.mpr ⟨j, List.mem_range.mpr hj, rfl⟩)
  | 11, _, hj => exact ae_pick ae_n5_11 (List.mem_map.mpr ⟨j, List.mem_range.mpr hj, rfl⟩)
  | 12, _, hj => exact ae_pick ae_n5_12 (List.mem_map.mpr ⟨j, List.mem_range.mpr hj, rfl⟩)
  | n + 13, h, _ => exact absurd h (by omega)
theorem ae_start {s : State} {b L : Nat} {xs : Nat → Int32} (hts : ∀ w ∈ lw_tbl, w.before #[Value.ref b] s = true) (hgv : (Cond.and given_1 narrow_1).before #[Value.ref b] s = true) (hX : va_X b L xs s s.heap) (hbl : b < s.heap.size) : ∃ (D : va_G) (kp sp : Nat → Nat) (zq : Value), ae_E (s.heap.size, s.heap, D, kp, sp, (xs, L, zq)) s ∧ sp 600 = b ∧ (zq = .null ∨ zq = .retAddr 700) := by
  have hs : ∀ w ∈ ae_nw, w.before #[Value.ref b] s = true := flat_of_before _ hgv
  have hA : ∀ a : Nat, a < s.heap.size → ¬ (fun q : Nat => s.heap.size ≤ q) a := fun a h => Nat.not_le.mpr h
  have hW : ∀ w ∈ ae_W, w.before #[Value.ref b] s = true := fun w hw => hts w (ae_W_tbl w hw)
  have hkn : ∀ ci : Nat, ∃ q : ClassId × (Nat → Nat), ∀ (C : String) (T : u_T) (N : Nat), ae_cl[ci]? = some (C, T, N) → u_Kn s C T N q.1 q.2 := by
    intro ci
    cases hc : ae_cl[ci]? with
    | none => exact ⟨(0, fun _ => 0), fun C T N h => by cases h⟩
    | some z =>
      obtain ⟨C, T, N⟩ := z
      obtain ⟨cC, iS, hK⟩ := u_known (C := C) (T := T) (N := N) (n := N) hW (ae_inO hc) (hW _ (ae_inN1 hc))
      exact ⟨(cC, iS), fun C' T' N' h => by cases h; exact hK⟩
  obtain ⟨fD, hfD⟩ := Classical.axiomOfChoice hkn
  obtain ⟨c0, k0, m0, a1, a2, a3⟩ := Cond.arrayClass_spec (type := .int) (first := s) (s := s) (o := none) (idx := []) (hW (.arrayClass .int) (ae_inN3 (List.mem_of_getElem? (i := 0) rfl)))
  obtain ⟨c1, k1, m1, b1, b2, b3⟩ := Cond.arrayClass_spec (type := .byte) (first := s) (s := s) (o := none) (idx := []) (hW (.arrayClass .byte) (ae_inN3 (List.mem_of_getElem? (i := 1) rfl)))
  have o2 := hts _ (ae_pick ae_t1 (List.mem_of_getElem? (i := 0) rfl))
  have o3 := hts _ (ae_pick ae_t1 (List.mem_of_getElem? (i := 1) rfl))
  obtain ⟨m2, c2, k2, d1, -, d2, d3, d4⟩ := Cond.arrayOver_spec o2
  obtain ⟨m3, c3, k3, e1, -, e2, e3, e4⟩ := Cond.arrayOver_spec o3
  obtain ⟨adK, adV, ⟨hSt, -⟩, hEv⟩ := vk_Sof (N := 13) (tm := ae_tm) (len := ae_lenS) (byt := ae_bytS) (by decide +kernel)
    (fun i hi => hs _ (ae_pick ae_n1 (List.mem_map.mpr ⟨i, List.mem_range.mpr hi, rfl⟩)))
    (fun i hi => hs _ (ae_pick ae_n2 (List.mem_map.mpr ⟨i, List.mem_range.mpr hi, rfl⟩)))
    (fun i hi => hs _ (ae_pick ae_n3 (List.mem_map.mpr ⟨i, List.mem_range.mpr hi, rfl⟩)))
    (fun i hi => hs _ (ae_pick ae_n4 (List.mem_map.mpr ⟨i, List.mem_range.mpr hi, rfl⟩)))
    (fun i hi j hj => hs _ (ae_n5 i hi j hj))
    (fun i j hi hj hij => (ae_prsOK i hi j hj hij).imp (fun q => hs _ (ae_pick ae_n6 (List.mem_map.mpr ⟨_, q, rfl⟩))) (fun q => hs _ (ae_pick ae_n6 (List.mem_map.mpr ⟨_, q, rfl⟩)))) hA
  obtain ⟨ta, hta, hTa⟩ := va_Tof (tm := .static "DriedOut$Wood" "ABOVE" "[I") (ty := .int) (N := 6) (f := fun j => .int (ae_above.getD j 0)) (by omega) (hs _ (ae_pick ae_n7 (List.mem_of_getElem? (i := 0) rfl))) (va_eqt (hs _ (ae_pick ae_n7 (List.mem_of_getElem? (i := 1) rfl)))) (fun j hj => va_eqt (hs _ (ae_pick ae_n8 (List.mem_map.mpr ⟨j, List.mem_range.mpr hj, rfl⟩)))) hA
  have hz1 := va_Zof (hts _ (ae_pick ae_t4 (List.mem_of_getElem? (i := 0) rfl))) (hts _ (ae_pick ae_t4 (List.mem_of_getElem? (i := 3) rfl))) (va_eqi (hs _ (ae_pick ae_n9 (List.mem_of_getElem? (i := 0) rfl)))) hA
  have hz2 := va_Zqof (hts _ (ae_pick ae_t4 (List.mem_of_getElem? (i := 1) rfl))) (hts _ (ae_pick ae_t4 (List.mem_of_getElem? (i := 4) rfl))) (hs _ (ae_pick ae_n9 (List.mem_of_getElem? (i := 1) rfl))) hA
  have hz3 := va_Zof (hts _ (ae_pick ae_t4 (List.mem_of_getElem? (i := 2) rfl))) (hts _ (ae_pick ae_t4 (List.mem_of_getElem? (i := 5) rfl))) hta hA
  obtain ⟨tz, zq, hzv, hzq⟩ : ∃ (tz : Nat) (zq : Value), (zq = .null ∨ zq = .retAddr 700) ∧ ∀ g : ae_G, g.2.2.2.2.1 700 = tz → va_Z "jdk/internal/util/Preconditions" "SIOOBE_FORMATTER" "Ljava/util/function/BiFunction;" (ae_cv g zq) (fun q => s.heap.size ≤ q) s s.heap := by
    rcases hz2 with h | ⟨t, h⟩
    · exact ⟨0, .null, Or.inl rfl, fun g _ => h⟩
    · exact ⟨t, .retAddr 700, Or.inr rfl, fun g hg => by show va_Z _ _ _ (.ref (g.2.2.2.2.1 700)) _ _ _; rw [hg]; exact h⟩
  refine ⟨(fun ci => (fD ci).1, fun ci => (fD ci).2), fun t => if t = 0 then c0 else if t = 1 then c1 else if t = 2 then c2 else c3, fun i => if i < 13 then adK i else if i < 113 then adV (i - 100) else if i = 500 then ta else if i = 600 then b else tz, zq, ?_, rfl, hzv⟩
  have hK : va_K (fun ci => (fD ci).1, fun ci => (fD ci).2) ae_cl [(c0, .int), (c1, .byte), (c2, .object "DriedOut$Sheet"), (c3, .object "DriedOut$Steps")] s := by
    refine ⟨fun c q hq => hfD c q.1 q.2.1 q.2.2 hq, fun k q hq => ?_⟩
    match k, hq with
    | 0, hq => cases hq; exact ⟨fun n z => ⟨fun k h => (by cases h), k0, a2, m0, a3⟩, a1⟩
    | 1, hq => cases hq; exact ⟨fun n z => ⟨fun k h => (by cases h), k1, b2, m1, b3⟩, b1⟩
    | 2, hq => cases hq; exact ⟨fun n z => ⟨fun k h => (by cases h), k2, d2, m2, d3⟩, k2, m2, d2, d3, d1, d4⟩
    | 3, hq => cases hq; exact ⟨fun n z => ⟨fun k h => (by cases h), k3, e2, m3, e3⟩, k3, m3, e2, e3, e1, e4⟩
    | n + 4, hq => simp at hq
  refine ⟨hK, va_AO.of o2, va_AO.of o3, fun q hq => ?_, fun q hq => ?_, fun i t n f hx => ?_, fun i hi => ?_, hz1, hzq _ rfl, hz3, rfl⟩
  · exact va_Nw.of rfl (hts _ (ae_pick ae_t2 (List.mem_map.mpr ⟨q, hq, rfl⟩)))
  · obtain ⟨i, hi⟩ := List.getElem?_of_mem hq
    have hl : i < 13 := (List.getElem?_eq_some_iff.mp hi).1
    have hq2 : q.2.2 = i := by
      have a : ∀ i, i < 13 → (ae_ET[i]?).map (fun q => q.2.2) = some i := by decide +kernel
      have a := a i hl
      rw [hi] at a
      exact Option.some.inj a
    have hev := hEv i hl
    simp only [ae_tm, hi] at hev
    refine vk_R.of (A := #[Value.ref b]) (hts _ (ae_pick ae_t3 (List.mem_map.mpr ⟨q, hq, rfl⟩))) ?_
    show (Term.string (ae_cn q.1) q.2.1).eval #[Value.ref b] s none [] s = some (.ref (if q.2.2 < 13 then adK q.2.2 else _))
    rw [hq2, if_pos hl]
    exact hev
  · unfold ae_xa at hx
    split at hx
    · next h600 =>
      cases hx
      have h600 := ae_beq h600
      subst h600
      obtain ⟨scr, x1, x2, x3, x4, x5⟩ := hX
      exact ⟨scr, x1, x2, x3, by rw [x4]; exact Nat.le_refl _, by rw [x4], x5, Nat.not_le.mpr hbl⟩
    · next h500 _ =>
      cases hx
      have h500 := ae_beq h500
      subst h500
      exact hTa
    · next h100 _ _ =>
      cases hx
      obtain ⟨h1, h2⟩ := ae_bits2 h100
      have h1 := Nat.le_of_ble_eq_true h1
      have h2 := Nat.le_of_ble_eq_true h2
      show va_T .byte (if i < 13 then adK i else if i < 113 then adV (i - 100) else _) _ _ _ _ _
      rw [if_neg (by omega), if_pos (by omega)]
      exact (hSt (i - 100) (by omega)).2.2.2
    · cases hx
  · have h3 := hSt i hi
    show va_O "java/lang/String" (if i < 13 then adK i else _) _ _ _ ∧ va_OF _ _ _ _ (if i < 13 then adK i else _) _ _ _ ∧ va_OF _ _ _ (.ref (if 100 + i < 13 then _ else if 100 + i < 113 then adV (100 + i - 100) else _)) (if i < 13 then adK i else _) _ _ _
    rw [if_pos hi, if_neg (by omega), if_pos (by omega), show 100 + i - 100 = i by omega]
    exact ⟨h3.1, h3.2.1, h3.2.2.1⟩
