/-- where places lie: the first address, the heap as the law began, classes and slots, the rows' classes, the outside values' addresses, the outside -/
abbrev ae_G : Type := Nat × Heap × va_G × (Nat → Nat) × (Nat → Nat) × ae_P
def ae_cv (g : ae_G) : Value → Value
  | .ref k => .ref (g.1 + k)
  | .retAddr i => .ref (g.2.2.2.2.1 i)
  | v => v
def ae_ce (g : ae_G) : va_E → va_E
  | .inl (t, n, .inr (.inr (.inr (.inr f)))) => .inl (g.2.2.2.1 t, n, .inr (.inr (.inr (.inr (fun j => (f j).map (g.1 + ·))))))
  | .inl (t, a) => .inl (g.2.2.2.1 t, a)
  | .inr (ci, fs) => .inr (ci, fs.map (ae_cv g))
def ae_ty : Nat → FieldType
  | 0 => .int
  | 1 => .byte
  | 2 => .object "DriedOut$Sheet"
  | _ => .object "DriedOut$Steps"
def ae_tys (g : ae_G) : List (ClassId × FieldType) := [(g.2.2.2.1 0, .int), (g.2.2.2.1 1, .byte), (g.2.2.2.1 2, .object "DriedOut$Sheet"), (g.2.2.2.1 3, .object "DriedOut$Steps")]
def ae_A (g : ae_G) : Nat → Prop := fun q => g.1 ≤ q
def ae_SM (g : ae_G) (Hc : Heap) (AH : ae_H) : Prop := Hc.size = g.1 + AH.length ∧ (∀ (k : Nat) (e : va_E), AH[k]? = some e → va_at g.2.2.1 ae_cl (g.1 + k, ae_ce g e) Hc) ∧ ∀ q : Nat, q < g.1 → Hc[q]? = g.2.1[q]?
def ae_txt : List String := ["soak 2 + near * 3 + ( 50 < dry ) * 4 ; leak 2 + salt ; dries 1 + ( 50 < wet ) * 2 ;", "wet", "dry", "near", "old", "day", "salt", "soak", "leak", "dries", "or", "and", "not"]
/-- what holds of the tables all the while, and of what lies below the places -/
def ae_E (g : ae_G) (U : State) : Prop :=
  va_K g.2.2.1 ae_cl (ae_tys g) U ∧ va_AO "DriedOut$Sheet" U ∧ va_AO "DriedOut$Steps" U ∧
  (∀ q ∈ ae_NT, va_Nw (.methodLinkNest (ae_cn q.1) q.2.1 (ae_my q.2.2) "DriedOut") U) ∧
  (∀ q ∈ ae_ET, vk_R (ae_cn q.1) q.2.1 (ae_txt.getD q.2.2 "") (g.2.2.2.2.1 q.2.2) U) ∧
  (∀ (i t n : Nat) (f : Nat → Int32), ae_xa g.2.2.2.2.2 i = some (t, n, f) → va_T (ae_ty t) (g.2.2.2.2.1 i) n (fun j => .int (f j)) (ae_A g) U g.2.1) ∧
  (∀ i, i < 13 → va_O "java/lang/String" (g.2.2.2.2.1 i) (ae_A g) U g.2.1 ∧ va_OF "java/lang/String" "coder" "B" (.int 0) (g.2.2.2.2.1 i) (ae_A g) U g.2.1 ∧ va_OF "java/lang/String" "value" "[B" (.ref (g.2.2.2.2.1 (100 + i))) (g.2.2.2.2.1 i) (ae_A g) U g.2.1) ∧
  va_Z "java/lang/String" "COMPACT_STRINGS" "Z" (.int 1) (ae_A g) U g.2.1 ∧ va_Z "jdk/internal/util/Preconditions" "SIOOBE_FORMATTER" "Ljava/util/function/BiFunction;" (ae_cv g g.2.2.2.2.2.2.2) (ae_A g) U g.2.1 ∧ va_Z "DriedOut$Wood" "ABOVE" "[I" (.ref (g.2.2.2.2.1 500)) (ae_A g) U g.2.1 ∧ g.2.1.size = g.1
theorem ae_E_warm {g : ae_G} {s U : State} (hW : s.WarmedH U.vm) (h : ae_E g s) : ae_E g U := by
  obtain ⟨h1, h2, h3, h4, h5, h6, h7, h8, h9, h10, h11⟩ := h
  have al := hW.alike
  exact ⟨h1.moved al, h2.moved al, h3.moved al, fun q hq => va_Nw.warmM hW (h4 q hq), fun q hq => vk_R.warm hW (h5 q hq), fun i t n f e => va_T.moved al (h6 i t n f e), fun i hi => ⟨va_O.moved al (h7 i hi).1, va_OF.moved al (h7 i hi).2.1, va_OF.moved al (h7 i hi).2.2⟩, va_Z.moved al h8, va_Z.moved al h9, va_Z.moved al h10, h11⟩
def ae_sz1 : va_E → Nat
  | .inl (_, n, _) => n
  | .inr (_, fs) => fs.length
def ae_sz (H : ae_H) : Nat := (H.map ae_sz1).sum
def ae_lp (g : ae_G) : Nat → List (Option Value) → List (Nat × Value)
  | _, [] => []
  | i, none :: l => ae_lp g (i + 1) l
  | i, some v :: l => (i, ae_cv g v) :: ae_lp g (i + 1) l
theorem ae_lp_mem {g : ae_G} {q : Nat × Value} : ∀ (L : List (Option Value)) (i : Nat), q ∈ ae_lp g i L ↔ ∃ t v, L[t]? = some (some v) ∧ q = (i + t, ae_cv g v)
  | [], i => by simp [ae_lp]
  | none :: l, i => by
    rw [ae_lp, ae_lp_mem l (i + 1)]
    constructor
    · rintro ⟨t, v, h1, h2⟩
      exact ⟨t + 1, v, by simpa using h1, by rw [h2]; congr 1; omega⟩
    · rintro ⟨t, v, h1, h2⟩
      cases t with
      | zero => simp at h1
      | succ t => exact ⟨t, v, by simpa using h1, by rw [h2]; congr 1; omega⟩
  | some w :: l, i => by
    rw [ae_lp, List.mem_cons, ae_lp_mem l (i + 1)]
    constructor
    · rintro (h | ⟨t, v, h1, h2⟩)
      · exact ⟨0, w, by simp, by rw [h]; rfl⟩
      · exact ⟨t + 1, v, by simpa using h1, by rw [h2]; congr 1; omega⟩
    · rintro ⟨t, v, h1, h2⟩
      cases t with
      | zero => left; simp at h1; rw [h2, h1]; rfl
      | succ t => exact Or.inr ⟨t, v, by simpa using h1, by rw [h2]; congr 1; omega⟩
theorem ae_cv_cat (g : ae_G) (v : Value) : (ae_cv g v).category = v.category := by cases v <;> rfl
theorem ae_cat_map (g : ae_G) (S : List Value) : ((S.map (ae_cv g)).map fun v => v.category).sum = ae_cat S := by
  induction S with
  | nil => rfl
  | cons a S ih => simp only [List.map_cons, List.sum_cons, ae_cat, ae_cv_cat] at ih ⊢; rw [ih]
theorem ae_lp_at {g : ae_G} {ls : Array Slot} {nL : Nat} {L : List (Option Value)} (h : lv_has ls nL (ae_lp g 0 L)) {n : Nat} {v : Value} (hv : ae_get L n = some (some v)) : ls[n]? = some (.val (ae_cv g v)) := by
  rw [ae_get_eq] at hv
  exact h.2.2 (n, ae_cv g v) ((ae_lp_mem L 0).mpr ⟨n, v, hv, by simp⟩)
theorem ae_lp_of {g : ae_G} {ls : Array Slot} {nL : Nat} {lv : List (Nat × Value)} {L : List (Option Value)} (h : lv_has ls nL lv) (hs : ∀ q ∈ ae_lp g 0 L, q ∈ lv) : lv_has ls nL (ae_lp g 0 L) := ⟨h.1, h.2.1, fun q hq => h.2.2 q (hs q hq)⟩
theorem ae_nol_spec {L : List (Option Value)} {n j : Nat} (h : ae_nol L n = true) (hj : j + 1 = n) {v : Value} (hv : L[j]? = some (some v)) : ¬ v.category = 2 := by
  subst hj
  intro e
  cases v with
  | long x => simp [ae_nol, ae_get_eq, hv] at h
  | double x => simp [ae_nol, ae_get_eq, hv] at h
  | _ => simp [Value.category] at e
theorem ae_set1 {g : ae_G} {L : List (Option Value)} {n : Nat} (h : ae_nol L n = true) (v : Value) : ∀ q ∈ ae_lp g 0 (L.set n (some v)), q ∈ (n, ae_cv g v) :: (ae_lp g 0 L).filter (fun q => !(q.1 == n) && !(q.1 + 1 == n && q.2.category == 2)) := by
  intro q hq
  obtain ⟨t, w, h1, h2⟩ := (ae_lp_mem _ 0).mp hq
  rw [Nat.zero_add] at h2
  subst h2
  by_cases e : t = n
  · subst e
    have hl : t < (L.set t (some v)).length := (List.getElem?_eq_some_iff.mp h1).1
    rw [List.length_set] at hl
    rw [List.getElem?_set_self hl] at h1
    cases h1
    exact List.mem_cons_self
  · rw [List.getElem?_set_ne (Ne.symm e)] at h1
    refine List.mem_cons_of_mem _ (List.mem_filter.mpr ⟨(ae_lp_mem _ 0).mpr ⟨t, w, h1, by simp⟩, ?_⟩)
    simp only [Bool.and_eq_true, Bool.not_eq_true', beq_eq_false_iff_ne, ne_eq, Bool.and_eq_false_iff, ae_cv_cat]
    refine ⟨e, ?_⟩
    by_cases e2 : t + 1 = n
    · exact Or.inr (ae_nol_spec h e2 h1)
    · exact Or.inl e2
theorem ae_set2 {g : ae_G} {L : List (Option Value)} {n : Nat} (h : ae_nol L n = true) (v : Value) : ∀ q ∈ ae_lp g 0 ((L.set n (some v)).set (n + 1) none), q ∈ (n, ae_cv g v) :: (ae_lp g 0 L).filter (fun q => !(q.1 == n) && (!(q.1 == n + 1) && !(q.1 + 1 == n && q.2.category == 2))) := by
  intro q hq
  obtain ⟨t, w, h1, h2⟩ := (ae_lp_mem _ 0).mp hq
  rw [Nat.zero_add] at h2
  subst h2
  by_cases e1 : t = n + 1
  · subst e1
    have hl : n + 1 < ((L.set n (some v)).set (n + 1) none).length := (List.getElem?_eq_some_iff.mp h1).1
    rw [List.length_set] at hl
    rw [List.getElem?_set_self hl] at h1
    cases h1
  · rw [List.getElem?_set_ne (Ne.symm e1)] at h1
    by_cases e : t = n
    · subst e
      have hl : t < (L.set t (some v)).length := (List.getElem?_eq_some_iff.mp h1).1
      rw [List.length_set] at hl
      rw [List.getElem?_set_self hl] at h1
      cases h1
      exact List.mem_cons_self
    · rw [List.getElem?_set_ne (Ne.symm e)] at h1
      refine List.mem_cons_of_mem _ (List.mem_filter.mpr ⟨(ae_lp_mem _ 0).mpr ⟨t, w, h1, by simp⟩, ?_⟩)
      simp only [Bool.and_eq_true, Bool.not_eq_true', beq_eq_false_iff_ne, ne_eq, Bool.and_eq_false_iff, ae_cv_cat]
      refine ⟨e, e1, ?_⟩
      by_cases e2 : t + 1 = n
      · exact Or.inr (ae_nol_spec h e2 h1)
      · exact Or.inl e2
theorem ae_sum_set : ∀ (l : List Nat) (a x y : Nat), l[a]? = some x → x = y → (l.set a y).sum = l.sum
  | [], a, x, y, h, _ => by simp at h
  | z :: l, 0, x, y, h, e => by simp at h; simp [h, e]
  | z :: l, a + 1, x, y, h, e => by
    simp only [List.getElem?_cons_succ] at h
    simp only [List.set_cons_succ, List.sum_cons, ae_sum_set l a x y h e]
theorem ae_sz_set {H : ae_H} {a : Nat} {e0 e1 : va_E} (h : H[a]? = some e0) (e : ae_sz1 e0 = ae_sz1 e1) : ae_sz (H.set a e1) = ae_sz H := by
  unfold ae_sz
  rw [List.map_set]
  exact ae_sum_set _ a (ae_sz1 e0) _ (by rw [List.getElem?_map, h]; rfl) e
theorem ae_sz_push (H : ae_H) (e : va_E) : ae_sz (H ++ [e]) = ae_sz H + ae_sz1 e := by simp [ae_sz]
theorem ae_SM_set {g : ae_G} {Hc H1 : Heap} {H : ae_H} {a : Nat} {e0 e1 : va_E} (h : ae_SM g Hc H) (ha : H[a]? = some e0) (hz : H1.size = Hc.size) (he : va_at g.2.2.1 ae_cl (g.1 + a, ae_ce g e1) H1) (oq : ∀ q : Nat, q ≠ g.1 + a → H1[q]? = Hc[q]?) : ae_SM g H1 (H.set a e1) := by
  obtain ⟨h1, h2, h3⟩ := h
  refine ⟨by rw [hz, h1, List.length_set], fun k e hk => ?_, fun q hq => by rw [oq q (by omega)]; exact h3 q hq⟩
  by_cases hka : k = a
  · subst hka
    rw [List.getElem?_set_self (List.getElem?_eq_some_iff.mp ha).1] at hk
    cases hk
    exact he
  · rw [List.getElem?_set_ne (Ne.symm hka)] at hk
    exact (h2 k e hk).kept (oq _ (by show g.1 + k ≠ g.1 + a; omega))
theorem ae_SM_push {g : ae_G} {Hc H1 : Heap} {H : ae_H} {e1 : va_E} (h : ae_SM g Hc H) (hz : H1.size = Hc.size + 1) (he : va_at g.2.2.1 ae_cl (g.1 + H.length, ae_ce g e1) H1) (oq : ∀ q : Nat, q < Hc.size → H1[q]? = Hc[q]?) : ae_SM g H1 (H ++ [e1]) := by
  obtain ⟨h1, h2, h3⟩ := h
  refine ⟨by rw [hz, h1, List.length_append]; rfl, fun k e hk => ?_, fun q hq => by rw [oq q (by omega)]; exact h3 q hq⟩
  by_cases hka : k < H.length
  · rw [List.getElem?_append_left hka] at hk
    exact (h2 k e hk).kept (oq _ (by show g.1 + k < Hc.size; omega))
  · rw [List.getElem?_append_right (by omega)] at hk
    have hz0 : k - H.length < 1 := (List.getElem?_eq_some_iff.mp hk).1
    have hk0 : k = H.length := by omega
    subst hk0
    rw [Nat.sub_self] at hk
    cases hk
    exact he
theorem ae_SM_at {g : ae_G} {Hc : Heap} {H : ae_H} {a : Nat} {e : va_E} (h : ae_SM g Hc H) (ha : ae_get H a = some e) : va_at g.2.2.1 ae_cl (g.1 + a, ae_ce g e) Hc := h.2.1 a e (by rw [← ae_get_eq]; exact ha)
theorem ae_SM_P {g : ae_G} {Hc : Heap} {H : ae_H} {a : Nat} {e : va_E} (h : ae_SM g Hc H) (ha : ae_get H a = some e) : va_P g.2.2.1 ae_cl [(g.1 + a, ae_ce g e)] Hc := by
  intro k q hk
  cases k with
  | zero => simp at hk; subst hk; exact ae_SM_at h ha
  | succ k => simp at hk
theorem ae_beq {a b : Nat} (h : Nat.beq a b = true) : a = b := Nat.eq_of_beq_eq_true h
/-- the classes' rows -/
theorem ae_ck0 : (∀ k, k < 13 → parseFieldDescriptor (ae_F0 k).2.2.1 = some (ae_fty 0 k)) ∧ (∀ a, a < 13 → ∀ b, b < 13 → a ≠ b → (ae_F0 a).2.1 ≠ (ae_F0 b).2.1) ∧ (ae_dfl 0).length = 13 ∧ ∀ j, j < 13 → defaultValue (ae_fty 0 j) = vp_V (ae_dfl 0) j := by decide +kernel
theorem ae_ck1 : (∀ k, k < 8 → parseFieldDescriptor (ae_F1 k).2.2.1 = some (ae_fty 1 k)) ∧ (∀ a, a < 8 → ∀ b, b < 8 → a ≠ b → (ae_F1 a).2.1 ≠ (ae_F1 b).2.1) ∧ (ae_dfl 1).length = 8 ∧ ∀ j, j < 8 → defaultValue (ae_fty 1 j) = vp_V (ae_dfl 1) j := by decide +kernel
theorem ae_ck2 : (∀ k, k < 9 → parseFieldDescriptor (ae_F2 k).2.2.1 = some (ae_fty 2 k)) ∧ (∀ a, a < 9 → ∀ b, b < 9 → a ≠ b → (ae_F2 a).2.1 ≠ (ae_F2 b).2.1) ∧ (ae_dfl 2).length = 9 ∧ ∀ j, j < 9 → defaultValue (ae_fty 2 j) = vp_V (ae_dfl 2) j := by decide +kernel
theorem ae_ck3 : (∀ k, k < 4 → parseFieldDescriptor (ae_F3 k).2.2.1 = some (ae_fty 3 k)) ∧ (∀ a, a < 4 → ∀ b, b < 4 → a ≠ b → (ae_F3 a).2.1 ≠ (ae_F3 b).2.1) ∧ (ae_dfl 3).length = 4 ∧ ∀ j, j < 4 → defaultValue (ae_fty 3 j) = vp_V (ae_dfl 3) j := by decide +kernel
theorem ae_ck4 : (∀ k, k < 3 → parseFieldDescriptor (ae_F4 k).2.2.1 = some (ae_fty 4 k)) ∧ (∀ a, a < 3 → ∀ b, b < 3 → a ≠ b → (ae_F4 a).2.1 ≠ (ae_F4 b).2.1) ∧ (ae_dfl 4).length = 3 ∧ ∀ j, j < 3 → defaultValue (ae_fty 4 j) = vp_V (ae_dfl 4) j := by decide +kernel
theorem ae_ck5 : (∀ k, k < 2 → parseFieldDescriptor (ae_F5 k).2.2.1 = some (ae_fty 5 k)) ∧ (∀ a, a < 2 → ∀ b, b < 2 → a ≠ b → (ae_F5 a).2.1 ≠ (ae_F5 b).2.1) ∧ (ae_dfl 5).length = 2 ∧ ∀ j, j < 2 → defaultValue (ae_fty 5 j) = vp_V (ae_dfl 5) j := by decide +kernel
theorem ae_ck6 : (∀ k, k < 7 → parseFieldDescriptor (ae_F6 k).2.2.1 = some (ae_fty 6 k)) ∧ (∀ a, a < 7 → ∀ b, b < 7 → a ≠ b → (ae_F6 a).2.1 ≠ (ae_F6 b).2.1) ∧ (ae_dfl 6).length = 7 ∧ ∀ j, j < 7 → defaultValue (ae_fty 6 j) = vp_V (ae_dfl 6) j := by decide +kernel
theorem ae_ck7 : (∀ k, k < 55 → parseFieldDescriptor (ae_F7 k).2.2.1 = some (ae_fty 7 k)) ∧ (∀ a, a < 55 → ∀ b, b < 55 → a ≠ b → (ae_F7 a).2.1 ≠ (ae_F7 b).2.1) ∧ (ae_dfl 7).length = 55 ∧ ∀ j, j < 55 → defaultValue (ae_fty 7 j) = vp_V (ae_dfl 7) j := by decide +kernel
theorem ae_cl_len {ci : Nat} {q : vw_C} (h : ae_cl[ci]? = some q) : ci < 8 := (List.getElem?_eq_some_iff.mp h).1
theorem ae_cl_spec {ci N : Nat} {C : String} {T : u_T} (h : ae_cl[ci]? = some (C, T, N)) : (∀ k, k < N → parseFieldDescriptor (T k).2.2.1 = some (ae_fty ci k)) ∧ (∀ a, a < N → ∀ b, b < N → a ≠ b → (T a).2.1 ≠ (T b).2.1) ∧ (ae_dfl ci).length = N ∧ ∀ j, j < N → defaultValue (ae_fty ci j) = vp_V (ae_dfl ci) j := by
  match ci, h with
  | 0, h => cases h; exact ae_ck0
  | 1, h => cases h; exact ae_ck1
  | 2, h => cases h; exact ae_ck2
  | 3, h => cases h; exact ae_ck3
  | 4, h => cases h; exact ae_ck4
  | 5, h => cases h; exact ae_ck5
  | 6, h => cases h; exact ae_ck6
  | 7, h => cases h; exact ae_ck7
  | n + 8, h => exact absurd (ae_cl_len h) (by omega)
theorem ae_FTok : ae_FT.all (fun q => match ae_cl[q.2.2.1]? with
  | some (C, T, N) => Nat.blt q.2.2.2 N && decide ((T q.2.2.2).1 = C)
  | none => Nat.beq q.2.2.1 20 && Nat.blt q.2.2.2 2) = true := by decide +kernel
section AEW
variable {args : Array Value} {s : State} (h : ∀ w ∈ ae_W, w.before args s = true)
theorem ae_inF {q : Nat × Nat × Nat × Nat} (hq : q ∈ ae_FT) : ae_fw q ∈ ae_W := by
  simp only [ae_W, List.mem_append]
  exact Or.inl (List.mem_map.mpr ⟨q, hq, rfl⟩)
theorem ae_inL {q : Nat × Nat × Nat} (hq : q ∈ ae_LT) : ae_lw q ∈ ae_W := by
  simp only [ae_W, List.mem_append]
  exact Or.inr (Or.inl (List.mem_map.mpr ⟨q, hq, rfl⟩))
theorem ae_mt_take {m : Nat} (hm : m < 186) {q : ae_M} (hq : ae_mg m = some q) : q ∈ ae_mt.take 186 := by
  rw [ae_mg, ae_get_eq] at hq
  exact List.mem_of_getElem? (i := m) (by rw [List.getElem?_take_of_lt hm]; exact hq)
theorem ae_inC {m : Nat} (hm : m < 186) {q : ae_M} (hq : ae_mg m = some q) : ae_codew q ∈ ae_W := by
  simp only [ae_W, List.mem_append]
  exact Or.inr (Or.inr (Or.inl (List.mem_map.mpr ⟨q, ae_mt_take hm hq, rfl⟩)))
theorem ae_inG {m : Nat} (hm : m < 186) {q : ae_M} (hq : ae_mg m = some q) : ae_flagw q ∈ ae_W := by
  simp only [ae_W, List.mem_append]
  exact Or.inr (Or.inr (Or.inr (Or.inl (List.mem_map.mpr ⟨q, ae_mt_take hm hq, rfl⟩))))
theorem ae_inI {m : Nat} (hm : m < 186) {q : ae_M} (hq : ae_mg m = some q) : ae_inw q ∈ ae_W := by
  simp only [ae_W, List.mem_append]
  exact Or.inr (Or.inr (Or.inr (Or.inr (Or.inl (List.mem_map.mpr ⟨q, ae_mt_take hm hq, rfl⟩)))))
theorem ae_inS {m : Nat} (hm : m ∈ ae_sels) : Cond.selects (ae_my m).cls (ae_my m) (ae_my m) ∈ ae_W := by
  simp only [ae_W, List.mem_append]
  exact Or.inr (Or.inr (Or.inr (Or.inr (Or.inr (Or.inl (List.mem_map.mpr ⟨m, hm, rfl⟩))))))
theorem ae_inK1 {q : Nat × Nat × Nat} (hq : q ∈ ae_CT) : ae_cw q ∈ ae_W := by
  simp only [ae_W, ae_WK, List.mem_append]
  exact Or.inr (Or.inr (Or.inr (Or.inr (Or.inr (Or.inr (Or.inl (Or.inl (List.mem_map.mpr ⟨q, hq, rfl⟩))))))))
theorem ae_inK2 {q : Nat × Nat × Value} (hq : q ∈ ae_KT) : ae_kw q ∈ ae_W := by
  simp only [ae_W, ae_WK, List.mem_append]
  exact Or.inr (Or.inr (Or.inr (Or.inr (Or.inr (Or.inr (Or.inl (Or.inr (Or.inl (List.mem_map.mpr ⟨q, hq, rfl⟩)))))))))
theorem ae_inK3 {q : Nat × Nat × Nat} (hq : q ∈ ae_ST) : ae_sw q ∈ ae_W := by
  simp only [ae_W, ae_WK, List.mem_append]
  exact Or.inr (Or.inr (Or.inr (Or.inr (Or.inr (Or.inr (Or.inl (Or.inr (Or.inr (List.mem_map.mpr ⟨q, hq, rfl⟩)))))))))
theorem ae_inO {ci N : Nat} {C : String} {T : u_T} (hq : ae_cl[ci]? = some (C, T, N)) : ∀ w ∈ u_ws C T N, w ∈ ae_W := by
  intro w hw
  simp only [ae_W, List.mem_append]
  exact Or.inr (Or.inr (Or.inr (Or.inr (Or.inr (Or.inr (Or.inr (Or.inl (List.mem_flatMap.mpr ⟨_, List.mem_of_getElem? hq, hw⟩))))))))
theorem ae_inN {w : Cond} (hw : w ∈ ae_WN) : w ∈ ae_W := by
  simp only [ae_W, List.mem_append]
  exact Or.inr (Or.inr (Or.inr (Or.inr (Or.inr (Or.inr (Or.inr (Or.inr hw)))))))
theorem ae_inN1 {ci N : Nat} {C : String} {T : u_T} (hq : ae_cl[ci]? = some (C, T, N)) : Cond.instantiable C N ∈ ae_W := ae_inN (List.mem_append.mpr (Or.inl (List.mem_map.mpr ⟨_, List.mem_of_getElem? hq, rfl⟩)))
theorem ae_inN2 {ci N : Nat} {C : String} {T : u_T} (hq : ae_cl[ci]? = some (C, T, N)) : Cond.initialized C ∈ ae_W := ae_inN (List.mem_append.mpr (Or.inr (List.mem_append.mpr (Or.inl (List.mem_map.mpr ⟨_, List.mem_of_getElem? hq, rfl⟩)))))
theorem ae_inN3 {w : Cond} (hw : w ∈ ([.arrayClass .int, .arrayClass .byte, .instanceMethod objectInit, .code objectInit ⟨#[0xb1]⟩ 1 none, .native arraycopyName, .static arraycopyName, .initialized "java/lang/System", .static ⟨"java/lang/Math", "max", "(II)I"⟩, .static ⟨"java/lang/Math", "min", "(II)I"⟩, .initialized "java/lang/Math", .code Lib.Math.max.name Lib.Math.max.code 2 (some .int), .code Lib.Math.min.name Lib.Math.min.code 2 (some .int)] : List Cond)) : w ∈ ae_W := ae_inN (List.mem_append.mpr (Or.inr (List.mem_append.mpr (Or.inr hw))))
end AEW
