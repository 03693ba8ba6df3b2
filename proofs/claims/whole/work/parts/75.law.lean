/-! the law's run -/
theorem law_c {L i : Nat} (hL : L ≤ 3072) (hi : i ≤ 3072) : nI L - 6 < nI i ↔ L < i + 6 := by
  rcases Nat.lt_or_ge L 6 with h | h
  · constructor
    · intro _
      omega
    · intro _
      exact Int32.lt_of_lt_of_le (pk_sneg (a := L) (b := 6) (by omega) h) (Int32.not_lt.mp (nI_nneg (by omega)))
  · rw [show nI L - 6 = nI (L - 6) from pk_sub (a := L) (b := 6) h, nI_ltI (by omega) (by omega)]
    omega
theorem lg_same (x : Int64) : lg_cmp x x = 0 := by
  unfold lg_cmp
  rw [if_neg (fun q : x > x => by
    have a := Int64.lt_iff_toInt_lt.mp q
    omega), if_pos rfl]
theorem enT_len : ∀ (ts : List ae_T) (p : Nat), (ae_enT p ts).length = 3 * ts.length
  | [], _ => rfl
  | t :: ts, p => by
    rw [ae_enT, List.length_cons, List.length_cons, List.length_cons, enT_len ts, List.length_cons]
    omega
theorem sz_cons (x : va_E) (l : ae_H) : ae_sz (x :: l) = ae_sz1 x + ae_sz l := by
  unfold ae_sz
  rw [List.map_cons, List.sum_cons]
theorem enT_sz : ∀ (ts : List ae_T) (p : Nat), (∀ t, t ∈ ts → t.1 ≤ 160) → ae_sz (ae_enT p ts) ≤ 165 * ts.length
  | [], _, _ => Nat.le_refl _
  | t :: ts, p, h => by
    have h1 := h t List.mem_cons_self
    have h2 := enT_sz ts (p + 3) (fun u hu => h u (List.mem_cons_of_mem _ hu))
    rw [ae_enT, sz_cons, sz_cons, sz_cons, List.length_cons]
    have a : ae_sz1 (.inr (5, [.ref (p + 2), .ref (p + 1)])) = 2 := rfl
    have b : ae_sz1 (.inl (0, 3, .inl t.2.2)) = 3 := rfl
    have c : ae_sz1 (.inl (0, t.1, .inl t.2.1)) = t.1 := rfl
    omega
section L75
variable {P : ae_P} {σ : Nat → Int32} {α : Nat → Nat → Int32} {z : Int64} {t0 : ae_T} {ts : List ae_T}

theorem en_len : (ae_en σ α z t0 ts).length = 76 + 3 * ts.length := by
  rw [← enT_len ts 76]
  show _ = 76 + (ae_enT 76 ts).length
  simp only [ae_en, List.length_cons]
  omega
theorem en_sz : ae_sz (ae_en σ α z t0 ts) = 5078 + t0.1 + ae_sz (ae_enT 76 ts) := by
  unfold ae_en
  simp only [sz_cons, ae_sz1, List.length_cons, List.length_nil]
  omega
theorem en_room (h : INV σ α t0 ts) : (ae_en σ α z t0 ts).length ≤ 600000 ∧ ae_sz (ae_en σ α z t0 ts) ≤ 7302250 := by
  obtain ⟨n, E, s, hB, hK, ⟨t1, t2, t3, t4, t5, t6⟩, hR, hN⟩ := h
  have a : t0.1 ≤ 160 := (t5 0 t0 rfl).2
  have b := enT_sz ts 76 (fun t ht => by
    obtain ⟨i, hi, e⟩ := List.mem_iff_getElem.mp ht
    refine (t5 (i + 1) t ?_).2
    rw [ae_get_eq, List.getElem?_cons_succ, List.getElem?_eq_getElem hi, e])
  rw [en_len, en_sz]
  omega
def QL : Option Value → ae_H → Prop := fun r H => r = some (.int 1) ∧ H.length ≤ 600000 ∧ ae_sz H ≤ 7302250
theorem law_g {i k : Nat} (hi : i + 6 ≤ P.2.1 ∧ P.2.1 ≤ 3072) (hk : k < 6) : vp_in (nI i + nI k) P.2.1 := cI_in (a := i + k) (cI_add rfl rfl) (by omega) (by omega)
set_option maxRecDepth 8000 in
theorem law_plank {i : Nat} {zz : Int64} (hi : i + 6 ≤ P.2.1 ∧ P.2.1 ≤ 3072) (h : INV σ α t0 ts) (K : ∀ (σ : Nat → Int32) (α : Nat → Nat → Int32) (z : Int64) (ts : List ae_T), INV σ α t0 ts → aw_W P 100 cd_DriedLaw_law QL (641, [some (.retAddr 600), some (.ref 0), some (.ref 46), some (.int (nI i))], []) (ae_en σ α z t0 ts)) : aw_W P 100 cd_DriedLaw_law QL (22, [some (.retAddr 600), some (.ref 0), some (.ref 46), some (.int (nI i))], []) (ae_en σ α zz t0 ts) := by
  refine aw_go 16 rfl ⟨trivial, trivial, trivial, trivial, trivial, (law_g (k := 1) hi (by decide)), trivial, trivial, trivial, trivial, (law_g (k := 2) hi (by decide)), trivial, trivial, trivial, trivial, (law_g (k := 3) hi (by decide)), trivial⟩ ?_
  show aw_W _ _ _ _ (38, [some (.retAddr 600), some (.ref 0), some (.ref 46), some (.int (nI i))], [.int (P.1 (nI i + 3).toNatClampNeg), .int (P.1 (nI i + 2).toNatClampNeg), .int (P.1 (nI i + 1).toNatClampNeg), .ref 0]) (ae_en σ α zz t0 ts)
  refine aw_call rfl rfl (j_plank h) ?_
  rintro _ _ ⟨x, rfl, ⟨σ1, α1, z1, ts1, rfl⟩, h2⟩
  show aw_W _ _ _ _ (39, [some (.retAddr 600), some (.ref 0), some (.ref 46), some (.int (nI i))], [.int x]) (ae_en σ1 α1 z1 t0 ts1)
  refine aw_go 16 rfl ⟨trivial, trivial, trivial, trivial, trivial, (law_g (k := 1) hi (by decide)), trivial, trivial, trivial, trivial, (law_g (k := 2) hi (by decide)), trivial, trivial, trivial, trivial, (law_g (k := 3) hi (by decide)), trivial⟩ ?_
  show aw_W _ _ _ _ (55, [some (.retAddr 600), some (.ref 0), some (.ref 46), some (.int (nI i))], [.int (P.1 (nI i + 3).toNatClampNeg), .int (P.1 (nI i + 2).toNatClampNeg), .int (P.1 (nI i + 1).toNatClampNeg), .ref 46, .int x]) (ae_en σ1 α1 z1 t0 ts1)
  refine aw_call rfl rfl h2 ?_
  rintro _ _ ⟨rfl, σ2, α2, z2, ts2, rfl, hI⟩
  show aw_W _ _ _ _ (56, [some (.retAddr 600), some (.ref 0), some (.ref 46), some (.int (nI i))], [.int x, .int x]) (ae_en σ2 α2 z2 t0 ts2)
  refine aw_go 1 rfl ⟨trivial, trivial⟩ ?_
  show aw_W _ _ _ _ (if x = x then 641 else 57, [some (.retAddr 600), some (.ref 0), some (.ref 46), some (.int (nI i))], []) (ae_en σ2 α2 z2 t0 ts2)
  rw [if_pos rfl]
  exact K _ _ _ _ hI
set_option maxRecDepth 8000 in
theorem law_set {i : Nat} {zz : Int64} (hi : i + 6 ≤ P.2.1 ∧ P.2.1 ≤ 3072) (h : INV σ α t0 ts) (K : ∀ (σ : Nat → Int32) (α : Nat → Nat → Int32) (z : Int64) (ts : List ae_T), INV σ α t0 ts → aw_W P 100 cd_DriedLaw_law QL (641, [some (.retAddr 600), some (.ref 0), some (.ref 46), some (.int (nI i))], []) (ae_en σ α z t0 ts)) : aw_W P 100 cd_DriedLaw_law QL (59, [some (.retAddr 600), some (.ref 0), some (.ref 46), some (.int (nI i))], []) (ae_en σ α zz t0 ts) := by
  refine aw_go 16 rfl ⟨trivial, trivial, trivial, trivial, trivial, (law_g (k := 1) hi (by decide)), trivial, trivial, trivial, trivial, (law_g (k := 2) hi (by decide)), trivial, trivial, trivial, trivial, (law_g (k := 3) hi (by decide)), trivial⟩ ?_
  show aw_W _ _ _ _ (75, [some (.retAddr 600), some (.ref 0), some (.ref 46), some (.int (nI i))], [.int (P.1 (nI i + 3).toNatClampNeg), .int (P.1 (nI i + 2).toNatClampNeg), .int (P.1 (nI i + 1).toNatClampNeg), .ref 0]) (ae_en σ α zz t0 ts)
  refine aw_call rfl rfl (j_set h) ?_
  rintro _ _ ⟨x, rfl, ⟨σ1, α1, z1, ts1, rfl⟩, h2⟩
  show aw_W _ _ _ _ (76, [some (.retAddr 600), some (.ref 0), some (.ref 46), some (.int (nI i))], [.int x]) (ae_en σ1 α1 z1 t0 ts1)
  refine aw_go 16 rfl ⟨trivial, trivial, trivial, trivial, trivial, (law_g (k := 1) hi (by decide)), trivial, trivial, trivial, trivial, (law_g (k := 2) hi (by decide)), trivial, trivial, trivial, trivial, (law_g (k := 3) hi (by decide)), trivial⟩ ?_
  show aw_W _ _ _ _ (92, [some (.retAddr 600), some (.ref 0), some (.ref 46), some (.int (nI i))], [.int (P.1 (nI i + 3).toNatClampNeg), .int (P.1 (nI i + 2).toNatClampNeg), .int (P.1 (nI i + 1).toNatClampNeg), .ref 46, .int x]) (ae_en σ1 α1 z1 t0 ts1)
  refine aw_call rfl rfl h2 ?_
  rintro _ _ ⟨rfl, σ2, α2, z2, ts2, rfl, hI⟩
  show aw_W _ _ _ _ (93, [some (.retAddr 600), some (.ref 0), some (.ref 46), some (.int (nI i))], [.int x, .int x]) (ae_en σ2 α2 z2 t0 ts2)
  refine aw_go 1 rfl ⟨trivial, trivial⟩ ?_
  show aw_W _ _ _ _ (if x = x then 641 else 94, [some (.retAddr 600), some (.ref 0), some (.ref 46), some (.int (nI i))], []) (ae_en σ2 α2 z2 t0 ts2)
  rw [if_pos rfl]
  exact K _ _ _ _ hI
set_option maxRecDepth 8000 in
theorem law_told {i : Nat} {zz : Int64} (hi : i + 6 ≤ P.2.1 ∧ P.2.1 ≤ 3072) (h : INV σ α t0 ts) (K : ∀ (σ : Nat → Int32) (α : Nat → Nat → Int32) (z : Int64) (ts : List ae_T), INV σ α t0 ts → aw_W P 100 cd_DriedLaw_law QL (641, [some (.retAddr 600), some (.ref 0), some (.ref 46), some (.int (nI i))], []) (ae_en σ α z t0 ts)) : aw_W P 100 cd_DriedLaw_law QL (96, [some (.retAddr 600), some (.ref 0), some (.ref 46), some (.int (nI i))], []) (ae_en σ α zz t0 ts) := by
  refine aw_go 11 rfl ⟨trivial, trivial, trivial, trivial, trivial, (law_g (k := 1) hi (by decide)), trivial, trivial, trivial, trivial, (law_g (k := 2) hi (by decide)), trivial⟩ ?_
  show aw_W _ _ _ _ (107, [some (.retAddr 600), some (.ref 0), some (.ref 46), some (.int (nI i))], [.int (P.1 (nI i + 2).toNatClampNeg), .int (P.1 (nI i + 1).toNatClampNeg), .ref 0]) (ae_en σ α zz t0 ts)
  refine aw_call rfl rfl (j_told h) ?_
  rintro _ _ ⟨x, rfl, ⟨σ1, α1, z1, ts1, rfl⟩, h2⟩
  show aw_W _ _ _ _ (108, [some (.retAddr 600), some (.ref 0), some (.ref 46), some (.int (nI i))], [.int x]) (ae_en σ1 α1 z1 t0 ts1)
  refine aw_go 11 rfl ⟨trivial, trivial, trivial, trivial, trivial, (law_g (k := 1) hi (by decide)), trivial, trivial, trivial, trivial, (law_g (k := 2) hi (by decide)), trivial⟩ ?_
  show aw_W _ _ _ _ (119, [some (.retAddr 600), some (.ref 0), some (.ref 46), some (.int (nI i))], [.int (P.1 (nI i + 2).toNatClampNeg), .int (P.1 (nI i + 1).toNatClampNeg), .ref 46, .int x]) (ae_en σ1 α1 z1 t0 ts1)
  refine aw_call rfl rfl h2 ?_
  rintro _ _ ⟨rfl, σ2, α2, z2, ts2, rfl, hI⟩
  show aw_W _ _ _ _ (120, [some (.retAddr 600), some (.ref 0), some (.ref 46), some (.int (nI i))], [.int x, .int x]) (ae_en σ2 α2 z2 t0 ts2)
  refine aw_go 1 rfl ⟨trivial, trivial⟩ ?_
  show aw_W _ _ _ _ (if x = x then 641 else 121, [some (.retAddr 600), some (.ref 0), some (.ref 46), some (.int (nI i))], []) (ae_en σ2 α2 z2 t0 ts2)
  rw [if_pos rfl]
  exact K _ _ _ _ hI
set_option maxRecDepth 8000 in
theorem law_gap {i : Nat} {zz : Int64} (hi : i + 6 ≤ P.2.1 ∧ P.2.1 ≤ 3072) (h : INV σ α t0 ts) (K : ∀ (σ : Nat → Int32) (α : Nat → Nat → Int32) (z : Int64) (ts : List ae_T), INV σ α t0 ts → aw_W P 100 cd_DriedLaw_law QL (641, [some (.retAddr 600), some (.ref 0), some (.ref 46), some (.int (nI i))], []) (ae_en σ α z t0 ts)) : aw_W P 100 cd_DriedLaw_law QL (123, [some (.retAddr 600), some (.ref 0), some (.ref 46), some (.int (nI i))], []) (ae_en σ α zz t0 ts) := by
  refine aw_go 11 rfl ⟨trivial, trivial, trivial, trivial, trivial, (law_g (k := 1) hi (by decide)), trivial, trivial, trivial, trivial, (law_g (k := 2) hi (by decide)), trivial⟩ ?_
  show aw_W _ _ _ _ (134, [some (.retAddr 600), some (.ref 0), some (.ref 46), some (.int (nI i))], [.int (P.1 (nI i + 2).toNatClampNeg), .int (P.1 (nI i + 1).toNatClampNeg), .ref 0]) (ae_en σ α zz t0 ts)
  refine aw_call rfl rfl (j_gap h) ?_
  rintro _ _ ⟨x, rfl, ⟨σ1, α1, z1, ts1, rfl⟩, h2⟩
  show aw_W _ _ _ _ (135, [some (.retAddr 600), some (.ref 0), some (.ref 46), some (.int (nI i))], [.int x]) (ae_en σ1 α1 z1 t0 ts1)
  refine aw_go 11 rfl ⟨trivial, trivial, trivial, trivial, trivial, (law_g (k := 1) hi (by decide)), trivial, trivial, trivial, trivial, (law_g (k := 2) hi (by decide)), trivial⟩ ?_
  show aw_W _ _ _ _ (146, [some (.retAddr 600), some (.ref 0), some (.ref 46), some (.int (nI i))], [.int (P.1 (nI i + 2).toNatClampNeg), .int (P.1 (nI i + 1).toNatClampNeg), .ref 46, .int x]) (ae_en σ1 α1 z1 t0 ts1)
  refine aw_call rfl rfl h2 ?_
  rintro _ _ ⟨rfl, σ2, α2, z2, ts2, rfl, hI⟩
  show aw_W _ _ _ _ (147, [some (.retAddr 600), some (.ref 0), some (.ref 46), some (.int (nI i))], [.int x, .int x]) (ae_en σ2 α2 z2 t0 ts2)
  refine aw_go 1 rfl ⟨trivial, trivial⟩ ?_
  show aw_W _ _ _ _ (if x = x then 641 else 148, [some (.retAddr 600), some (.ref 0), some (.ref 46), some (.int (nI i))], []) (ae_en σ2 α2 z2 t0 ts2)
  rw [if_pos rfl]
  exact K _ _ _ _ hI
set_option maxRecDepth 8000 in
theorem law_feed {i : Nat} {zz : Int64} (hi : i + 6 ≤ P.2.1 ∧ P.2.1 ≤ 3072) (h : INV σ α t0 ts) (K : ∀ (σ : Nat → Int32) (α : Nat → Nat → Int32) (z : Int64) (ts : List ae_T), INV σ α t0 ts → aw_W P 100 cd_DriedLaw_law QL (641, [some (.retAddr 600), some (.ref 0), some (.ref 46), some (.int (nI i))], []) (ae_en σ α z t0 ts)) : aw_W P 100 cd_DriedLaw_law QL (150, [some (.retAddr 600), some (.ref 0), some (.ref 46), some (.int (nI i))], []) (ae_en σ α zz t0 ts) := by
  refine aw_go 23 rfl ⟨trivial, trivial, trivial, trivial, trivial, (law_g (k := 1) hi (by decide)), trivial, trivial, trivial, trivial, (law_g (k := 2) hi (by decide)), trivial, trivial, trivial, trivial, trivial, trivial, trivial, (law_g (k := 3) hi (by decide)), trivial, trivial, trivial, trivial, trivial⟩ ?_
  show aw_W _ _ _ _ (173, [some (.retAddr 600), some (.ref 0), some (.ref 46), some (.int (nI i))], [.long (((P.1 (nI i + 2).toNatClampNeg).toInt64 <<< ((32 : Int32).toInt64 &&& 63)) ||| ((P.1 (nI i + 3).toNatClampNeg).toInt64 &&& 4294967295)), .int (P.1 (nI i + 1).toNatClampNeg), .ref 0]) (ae_en σ α zz t0 ts)
  refine aw_call rfl rfl (j_feed h) ?_
  rintro _ _ ⟨x, rfl, ⟨σ1, α1, z1, ts1, rfl⟩, h2⟩
  show aw_W _ _ _ _ (174, [some (.retAddr 600), some (.ref 0), some (.ref 46), some (.int (nI i))], [.int x]) (ae_en σ1 α1 z1 t0 ts1)
  refine aw_go 23 rfl ⟨trivial, trivial, trivial, trivial, trivial, (law_g (k := 1) hi (by decide)), trivial, trivial, trivial, trivial, (law_g (k := 2) hi (by decide)), trivial, trivial, trivial, trivial, trivial, trivial, trivial, (law_g (k := 3) hi (by decide)), trivial, trivial, trivial, trivial, trivial⟩ ?_
  show aw_W _ _ _ _ (197, [some (.retAddr 600), some (.ref 0), some (.ref 46), some (.int (nI i))], [.long (((P.1 (nI i + 2).toNatClampNeg).toInt64 <<< ((32 : Int32).toInt64 &&& 63)) ||| ((P.1 (nI i + 3).toNatClampNeg).toInt64 &&& 4294967295)), .int (P.1 (nI i + 1).toNatClampNeg), .ref 46, .int x]) (ae_en σ1 α1 z1 t0 ts1)
  refine aw_call rfl rfl h2 ?_
  rintro _ _ ⟨rfl, σ2, α2, z2, ts2, rfl, hI⟩
  show aw_W _ _ _ _ (198, [some (.retAddr 600), some (.ref 0), some (.ref 46), some (.int (nI i))], [.int x, .int x]) (ae_en σ2 α2 z2 t0 ts2)
  refine aw_go 1 rfl ⟨trivial, trivial⟩ ?_
  show aw_W _ _ _ _ (if x = x then 641 else 199, [some (.retAddr 600), some (.ref 0), some (.ref 46), some (.int (nI i))], []) (ae_en σ2 α2 z2 t0 ts2)
  rw [if_pos rfl]
  exact K _ _ _ _ hI
set_option maxRecDepth 8000 in
theorem law_text {i : Nat} {zz : Int64} (hz : P.2.2 = .null ∨ P.2.2 = .retAddr 700) (hi : i + 6 ≤ P.2.1 ∧ P.2.1 ≤ 3072) (h : INV σ α t0 ts) (K : ∀ (σ : Nat → Int32) (α : Nat → Nat → Int32) (z : Int64) (ts : List ae_T), INV σ α t0 ts → aw_W P 100 cd_DriedLaw_law QL (641, [some (.retAddr 600), some (.ref 0), some (.ref 46), some (.int (nI i))], []) (ae_en σ α z t0 ts)) : aw_W P 100 cd_DriedLaw_law QL (201, [some (.retAddr 600), some (.ref 0), some (.ref 46), some (.int (nI i))], []) (ae_en σ α zz t0 ts) := by
  refine aw_go 1 rfl ⟨trivial, trivial⟩ ?_
  show aw_W _ _ _ _ (202, [some (.retAddr 600), some (.ref 0), some (.ref 46), some (.int (nI i))], [.ref 0]) (ae_en σ α zz t0 ts)
  refine aw_call rfl rfl (j_text hz h) ?_
  rintro _ _ ⟨x, rfl, ⟨σ1, α1, z1, ts1, rfl⟩, h2⟩
  show aw_W _ _ _ _ (203, [some (.retAddr 600), some (.ref 0), some (.ref 46), some (.int (nI i))], [.int x]) (ae_en σ1 α1 z1 t0 ts1)
  refine aw_go 1 rfl ⟨trivial, trivial⟩ ?_
  show aw_W _ _ _ _ (204, [some (.retAddr 600), some (.ref 0), some (.ref 46), some (.int (nI i))], [.ref 46, .int x]) (ae_en σ1 α1 z1 t0 ts1)
  refine aw_call rfl rfl h2 ?_
  rintro _ _ ⟨rfl, σ2, α2, z2, ts2, rfl, hI⟩
  show aw_W _ _ _ _ (205, [some (.retAddr 600), some (.ref 0), some (.ref 46), some (.int (nI i))], [.int x, .int x]) (ae_en σ2 α2 z2 t0 ts2)
  refine aw_go 1 rfl ⟨trivial, trivial⟩ ?_
  show aw_W _ _ _ _ (if x = x then 641 else 206, [some (.retAddr 600), some (.ref 0), some (.ref 46), some (.int (nI i))], []) (ae_en σ2 α2 z2 t0 ts2)
  rw [if_pos rfl]
  exact K _ _ _ _ hI
set_option maxRecDepth 8000 in
theorem law_force {i : Nat} {zz : Int64} (hi : i + 6 ≤ P.2.1 ∧ P.2.1 ≤ 3072) (h : INV σ α t0 ts) (K : ∀ (σ : Nat → Int32) (α : Nat → Nat → Int32) (z : Int64) (ts : List ae_T), INV σ α t0 ts → aw_W P 100 cd_DriedLaw_law QL (641, [some (.retAddr 600), some (.ref 0), some (.ref 46), some (.int (nI i))], []) (ae_en σ α z t0 ts)) : aw_W P 100 cd_DriedLaw_law QL (208, [some (.retAddr 600), some (.ref 0), some (.ref 46), some (.int (nI i))], []) (ae_en σ α zz t0 ts) := by
  refine aw_go 6 rfl ⟨trivial, trivial, trivial, trivial, trivial, (law_g (k := 1) hi (by decide)), trivial⟩ ?_
  show aw_W _ _ _ _ (214, [some (.retAddr 600), some (.ref 0), some (.ref 46), some (.int (nI i))], [.int (P.1 (nI i + 1).toNatClampNeg), .ref 0]) (ae_en σ α zz t0 ts)
  refine aw_call rfl rfl (j_force h) ?_
  rintro _ _ ⟨x, rfl, ⟨σ1, α1, z1, ts1, rfl⟩, h2⟩
  show aw_W _ _ _ _ (215, [some (.retAddr 600), some (.ref 0), some (.ref 46), some (.int (nI i))], [.int x]) (ae_en σ1 α1 z1 t0 ts1)
  refine aw_go 6 rfl ⟨trivial, trivial, trivial, trivial, trivial, (law_g (k := 1) hi (by decide)), trivial⟩ ?_
  show aw_W _ _ _ _ (221, [some (.retAddr 600), some (.ref 0), some (.ref 46), some (.int (nI i))], [.int (P.1 (nI i + 1).toNatClampNeg), .ref 46, .int x]) (ae_en σ1 α1 z1 t0 ts1)
  refine aw_call rfl rfl h2 ?_
  rintro _ _ ⟨rfl, σ2, α2, z2, ts2, rfl, hI⟩
  show aw_W _ _ _ _ (222, [some (.retAddr 600), some (.ref 0), some (.ref 46), some (.int (nI i))], [.int x, .int x]) (ae_en σ2 α2 z2 t0 ts2)
  refine aw_go 1 rfl ⟨trivial, trivial⟩ ?_
  show aw_W _ _ _ _ (if x = x then 641 else 223, [some (.retAddr 600), some (.ref 0), some (.ref 46), some (.int (nI i))], []) (ae_en σ2 α2 z2 t0 ts2)
  rw [if_pos rfl]
  exact K _ _ _ _ hI
set_option maxRecDepth 8000 in
theorem law_comes {i : Nat} {zz : Int64} (hi : i + 6 ≤ P.2.1 ∧ P.2.1 ≤ 3072) (h : INV σ α t0 ts) (K : ∀ (σ : Nat → Int32) (α : Nat → Nat → Int32) (z : Int64) (ts : List ae_T), INV σ α t0 ts → aw_W P 100 cd_DriedLaw_law QL (641, [some (.retAddr 600), some (.ref 0), some (.ref 46), some (.int (nI i))], []) (ae_en σ α z t0 ts)) : aw_W P 100 cd_DriedLaw_law QL (225, [some (.retAddr 600), some (.ref 0), some (.ref 46), some (.int (nI i))], []) (ae_en σ α zz t0 ts) := by
  refine aw_go 1 rfl ⟨trivial, trivial⟩ ?_
  show aw_W _ _ _ _ (226, [some (.retAddr 600), some (.ref 0), some (.ref 46), some (.int (nI i))], [.ref 0]) (ae_en σ α zz t0 ts)
  refine aw_call rfl rfl (j_comes h) ?_
  rintro _ _ ⟨x, rfl, ⟨σ1, α1, z1, ts1, rfl⟩, h2⟩
  show aw_W _ _ _ _ (227, [some (.retAddr 600), some (.ref 0), some (.ref 46), some (.int (nI i))], [.int x]) (ae_en σ1 α1 z1 t0 ts1)
  refine aw_go 1 rfl ⟨trivial, trivial⟩ ?_
  show aw_W _ _ _ _ (228, [some (.retAddr 600), some (.ref 0), some (.ref 46), some (.int (nI i))], [.ref 46, .int x]) (ae_en σ1 α1 z1 t0 ts1)
  refine aw_call rfl rfl h2 ?_
  rintro _ _ ⟨rfl, σ2, α2, z2, ts2, rfl, hI⟩
  show aw_W _ _ _ _ (229, [some (.retAddr 600), some (.ref 0), some (.ref 46), some (.int (nI i))], [.int x, .int x]) (ae_en σ2 α2 z2 t0 ts2)
  refine aw_go 1 rfl ⟨trivial, trivial⟩ ?_
  show aw_W _ _ _ _ (if x = x then 641 else 230, [some (.retAddr 600), some (.ref 0), some (.ref 46), some (.int (nI i))], []) (ae_en σ2 α2 z2 t0 ts2)
  rw [if_pos rfl]
  exact K _ _ _ _ hI
set_option maxRecDepth 8000 in
theorem law_run {i : Nat} {zz : Int64} (hi : i + 6 ≤ P.2.1 ∧ P.2.1 ≤ 3072) (h : INV σ α t0 ts) (K : ∀ (σ : Nat → Int32) (α : Nat → Nat → Int32) (z : Int64) (ts : List ae_T), INV σ α t0 ts → aw_W P 100 cd_DriedLaw_law QL (641, [some (.retAddr 600), some (.ref 0), some (.ref 46), some (.int (nI i))], []) (ae_en σ α z t0 ts)) : aw_W P 100 cd_DriedLaw_law QL (232, [some (.retAddr 600), some (.ref 0), some (.ref 46), some (.int (nI i))], []) (ae_en σ α zz t0 ts) := by
  refine aw_go 16 rfl ⟨trivial, trivial, trivial, trivial, trivial, (law_g (k := 1) hi (by decide)), trivial, trivial, trivial, trivial, (law_g (k := 2) hi (by decide)), trivial, trivial, trivial, trivial, (law_g (k := 3) hi (by decide)), trivial⟩ ?_
  show aw_W _ _ _ _ (248, [some (.retAddr 600), some (.ref 0), some (.ref 46), some (.int (nI i))], [.int (P.1 (nI i + 3).toNatClampNeg), .int (P.1 (nI i + 2).toNatClampNeg), .int (P.1 (nI i + 1).toNatClampNeg), .ref 0]) (ae_en σ α zz t0 ts)
  refine aw_call rfl rfl (j_run h) ?_
  rintro _ _ ⟨x, rfl, ⟨σ1, α1, z1, ts1, rfl⟩, h2⟩
  show aw_W _ _ _ _ (249, [some (.retAddr 600), some (.ref 0), some (.ref 46), some (.int (nI i))], [.long x]) (ae_en σ1 α1 z1 t0 ts1)
  refine aw_go 16 rfl ⟨trivial, trivial, trivial, trivial, trivial, (law_g (k := 1) hi (by decide)), trivial, trivial, trivial, trivial, (law_g (k := 2) hi (by decide)), trivial, trivial, trivial, trivial, (law_g (k := 3) hi (by decide)), trivial⟩ ?_
  show aw_W _ _ _ _ (265, [some (.retAddr 600), some (.ref 0), some (.ref 46), some (.int (nI i))], [.int (P.1 (nI i + 3).toNatClampNeg), .int (P.1 (nI i + 2).toNatClampNeg), .int (P.1 (nI i + 1).toNatClampNeg), .ref 46, .long x]) (ae_en σ1 α1 z1 t0 ts1)
  refine aw_call rfl rfl h2 ?_
  rintro _ _ ⟨rfl, σ2, α2, z2, ts2, rfl, hI⟩
  show aw_W _ _ _ _ (266, [some (.retAddr 600), some (.ref 0), some (.ref 46), some (.int (nI i))], [.long x, .long x]) (ae_en σ2 α2 z2 t0 ts2)
  refine aw_go 2 rfl ⟨trivial, trivial, trivial⟩ ?_
  show aw_W _ _ _ _ (if lg_cmp x x = 0 then 641 else 268, [some (.retAddr 600), some (.ref 0), some (.ref 46), some (.int (nI i))], []) (ae_en σ2 α2 z2 t0 ts2)
  rw [if_pos (lg_same x)]
  exact K _ _ _ _ hI
set_option maxRecDepth 8000 in
theorem law_lay {i : Nat} {zz : Int64} (hi : i + 6 ≤ P.2.1 ∧ P.2.1 ≤ 3072) (h : INV σ α t0 ts) (K : ∀ (σ : Nat → Int32) (α : Nat → Nat → Int32) (z : Int64) (ts : List ae_T), INV σ α t0 ts → aw_W P 100 cd_DriedLaw_law QL (641, [some (.retAddr 600), some (.ref 0), some (.ref 46), some (.int (nI i))], []) (ae_en σ α z t0 ts)) : aw_W P 100 cd_DriedLaw_law QL (270, [some (.retAddr 600), some (.ref 0), some (.ref 46), some (.int (nI i))], []) (ae_en σ α zz t0 ts) := by
  refine aw_go 6 rfl ⟨trivial, trivial, trivial, trivial, trivial, (law_g (k := 1) hi (by decide)), trivial⟩ ?_
  show aw_W _ _ _ _ (276, [some (.retAddr 600), some (.ref 0), some (.ref 46), some (.int (nI i))], [.int (P.1 (nI i + 1).toNatClampNeg), .ref 0]) (ae_en σ α zz t0 ts)
  refine aw_call rfl rfl (j_lay h) ?_
  rintro _ _ ⟨x, rfl, ⟨σ1, α1, z1, ts1, rfl⟩, h2⟩
  show aw_W _ _ _ _ (277, [some (.retAddr 600), some (.ref 0), some (.ref 46), some (.int (nI i))], [.int x]) (ae_en σ1 α1 z1 t0 ts1)
  refine aw_go 6 rfl ⟨trivial, trivial, trivial, trivial, trivial, (law_g (k := 1) hi (by decide)), trivial⟩ ?_
  show aw_W _ _ _ _ (283, [some (.retAddr 600), some (.ref 0), some (.ref 46), some (.int (nI i))], [.int (P.1 (nI i + 1).toNatClampNeg), .ref 46, .int x]) (ae_en σ1 α1 z1 t0 ts1)
  refine aw_call rfl rfl h2 ?_
  rintro _ _ ⟨rfl, σ2, α2, z2, ts2, rfl, hI⟩
  show aw_W _ _ _ _ (284, [some (.retAddr 600), some (.ref 0), some (.ref 46), some (.int (nI i))], [.int x, .int x]) (ae_en σ2 α2 z2 t0 ts2)
  refine aw_go 1 rfl ⟨trivial, trivial⟩ ?_
  show aw_W _ _ _ _ (if x = x then 641 else 285, [some (.retAddr 600), some (.ref 0), some (.ref 46), some (.int (nI i))], []) (ae_en σ2 α2 z2 t0 ts2)
  rw [if_pos rfl]
  exact K _ _ _ _ hI
set_option maxRecDepth 8000 in
theorem law_air {i : Nat} {zz : Int64} (hi : i + 6 ≤ P.2.1 ∧ P.2.1 ≤ 3072) (h : INV σ α t0 ts) (K : ∀ (σ : Nat → Int32) (α : Nat → Nat → Int32) (z : Int64) (ts : List ae_T), INV σ α t0 ts → aw_W P 100 cd_DriedLaw_law QL (641, [some (.retAddr 600), some (.ref 0), some (.ref 46), some (.int (nI i))], []) (ae_en σ α z t0 ts)) : aw_W P 100 cd_DriedLaw_law QL (287, [some (.retAddr 600), some (.ref 0), some (.ref 46), some (.int (nI i))], []) (ae_en σ α zz t0 ts) := by
  refine aw_go 6 rfl ⟨trivial, trivial, trivial, trivial, trivial, (law_g (k := 1) hi (by decide)), trivial⟩ ?_
  show aw_W _ _ _ _ (293, [some (.retAddr 600), some (.ref 0), some (.ref 46), some (.int (nI i))], [.int (P.1 (nI i + 1).toNatClampNeg), .ref 0]) (ae_en σ α zz t0 ts)
  refine aw_call rfl rfl (j_air h) ?_
  rintro _ _ ⟨x, rfl, ⟨σ1, α1, z1, ts1, rfl⟩, h2⟩
  show aw_W _ _ _ _ (294, [some (.retAddr 600), some (.ref 0), some (.ref 46), some (.int (nI i))], [.int x]) (ae_en σ1 α1 z1 t0 ts1)
  refine aw_go 6 rfl ⟨trivial, trivial, trivial, trivial, trivial, (law_g (k := 1) hi (by decide)), trivial⟩ ?_
  show aw_W _ _ _ _ (300, [some (.retAddr 600), some (.ref 0), some (.ref 46), some (.int (nI i))], [.int (P.1 (nI i + 1).toNatClampNeg), .ref 46, .int x]) (ae_en σ1 α1 z1 t0 ts1)
  refine aw_call rfl rfl h2 ?_
  rintro _ _ ⟨rfl, σ2, α2, z2, ts2, rfl, hI⟩
  show aw_W _ _ _ _ (301, [some (.retAddr 600), some (.ref 0), some (.ref 46), some (.int (nI i))], [.int x, .int x]) (ae_en σ2 α2 z2 t0 ts2)
  refine aw_go 1 rfl ⟨trivial, trivial⟩ ?_
  show aw_W _ _ _ _ (if x = x then 641 else 302, [some (.retAddr 600), some (.ref 0), some (.ref 46), some (.int (nI i))], []) (ae_en σ2 α2 z2 t0 ts2)
  rw [if_pos rfl]
  exact K _ _ _ _ hI
set_option maxRecDepth 8000 in
theorem law_tight {i : Nat} {zz : Int64} (hi : i + 6 ≤ P.2.1 ∧ P.2.1 ≤ 3072) (h : INV σ α t0 ts) (K : ∀ (σ : Nat → Int32) (α : Nat → Nat → Int32) (z : Int64) (ts : List ae_T), INV σ α t0 ts → aw_W P 100 cd_DriedLaw_law QL (641, [some (.retAddr 600), some (.ref 0), some (.ref 46), some (.int (nI i))], []) (ae_en σ α z t0 ts)) : aw_W P 100 cd_DriedLaw_law QL (304, [some (.retAddr 600), some (.ref 0), some (.ref 46), some (.int (nI i))], []) (ae_en σ α zz t0 ts) := by
  refine aw_go 1 rfl ⟨trivial, trivial⟩ ?_
  show aw_W _ _ _ _ (305, [some (.retAddr 600), some (.ref 0), some (.ref 46), some (.int (nI i))], [.ref 0]) (ae_en σ α zz t0 ts)
  refine aw_call rfl rfl (j_tight h) ?_
  rintro _ _ ⟨x, rfl, ⟨σ1, α1, z1, ts1, rfl⟩, h2⟩
  show aw_W _ _ _ _ (306, [some (.retAddr 600), some (.ref 0), some (.ref 46), some (.int (nI i))], [.int x]) (ae_en σ1 α1 z1 t0 ts1)
  refine aw_go 1 rfl ⟨trivial, trivial⟩ ?_
  show aw_W _ _ _ _ (307, [some (.retAddr 600), some (.ref 0), some (.ref 46), some (.int (nI i))], [.ref 46, .int x]) (ae_en σ1 α1 z1 t0 ts1)
  refine aw_call rfl rfl h2 ?_
  rintro _ _ ⟨rfl, σ2, α2, z2, ts2, rfl, hI⟩
  show aw_W _ _ _ _ (308, [some (.retAddr 600), some (.ref 0), some (.ref 46), some (.int (nI i))], [.int x, .int x]) (ae_en σ2 α2 z2 t0 ts2)
  refine aw_go 1 rfl ⟨trivial, trivial⟩ ?_
  show aw_W _ _ _ _ (if x = x then 641 else 309, [some (.retAddr 600), some (.ref 0), some (.ref 46), some (.int (nI i))], []) (ae_en σ2 α2 z2 t0 ts2)
  rw [if_pos rfl]
  exact K _ _ _ _ hI
set_option maxRecDepth 8000 in
theorem law_out {i : Nat} {zz : Int64} (hi : i + 6 ≤ P.2.1 ∧ P.2.1 ≤ 3072) (h : INV σ α t0 ts) (K : ∀ (σ : Nat → Int32) (α : Nat → Nat → Int32) (z : Int64) (ts : List ae_T), INV σ α t0 ts → aw_W P 100 cd_DriedLaw_law QL (641, [some (.retAddr 600), some (.ref 0), some (.ref 46), some (.int (nI i))], []) (ae_en σ α z t0 ts)) : aw_W P 100 cd_DriedLaw_law QL (311, [some (.retAddr 600), some (.ref 0), some (.ref 46), some (.int (nI i))], []) (ae_en σ α zz t0 ts) := by
  refine aw_go 1 rfl ⟨trivial, trivial⟩ ?_
  show aw_W _ _ _ _ (312, [some (.retAddr 600), some (.ref 0), some (.ref 46), some (.int (nI i))], [.ref 0]) (ae_en σ α zz t0 ts)
  refine aw_call rfl rfl (j_out h) ?_
  rintro _ _ ⟨x, rfl, ⟨σ1, α1, z1, ts1, rfl⟩, h2⟩
  show aw_W _ _ _ _ (313, [some (.retAddr 600), some (.ref 0), some (.ref 46), some (.int (nI i))], [.int x]) (ae_en σ1 α1 z1 t0 ts1)
  refine aw_go 1 rfl ⟨trivial, trivial⟩ ?_
  show aw_W _ _ _ _ (314, [some (.retAddr 600), some (.ref 0), some (.ref 46), some (.int (nI i))], [.ref 46, .int x]) (ae_en σ1 α1 z1 t0 ts1)
  refine aw_call rfl rfl h2 ?_
  rintro _ _ ⟨rfl, σ2, α2, z2, ts2, rfl, hI⟩
  show aw_W _ _ _ _ (315, [some (.retAddr 600), some (.ref 0), some (.ref 46), some (.int (nI i))], [.int x, .int x]) (ae_en σ2 α2 z2 t0 ts2)
  refine aw_go 1 rfl ⟨trivial, trivial⟩ ?_
  show aw_W _ _ _ _ (if x = x then 641 else 316, [some (.retAddr 600), some (.ref 0), some (.ref 46), some (.int (nI i))], []) (ae_en σ2 α2 z2 t0 ts2)
  rw [if_pos rfl]
  exact K _ _ _ _ hI
set_option maxRecDepth 8000 in
theorem law_sack {i : Nat} {zz : Int64} (hi : i + 6 ≤ P.2.1 ∧ P.2.1 ≤ 3072) (h : INV σ α t0 ts) (K : ∀ (σ : Nat → Int32) (α : Nat → Nat → Int32) (z : Int64) (ts : List ae_T), INV σ α t0 ts → aw_W P 100 cd_DriedLaw_law QL (641, [some (.retAddr 600), some (.ref 0), some (.ref 46), some (.int (nI i))], []) (ae_en σ α z t0 ts)) : aw_W P 100 cd_DriedLaw_law QL (318, [some (.retAddr 600), some (.ref 0), some (.ref 46), some (.int (nI i))], []) (ae_en σ α zz t0 ts) := by
  refine aw_go 6 rfl ⟨trivial, trivial, trivial, trivial, trivial, (law_g (k := 1) hi (by decide)), trivial⟩ ?_
  show aw_W _ _ _ _ (324, [some (.retAddr 600), some (.ref 0), some (.ref 46), some (.int (nI i))], [.int (P.1 (nI i + 1).toNatClampNeg), .ref 0]) (ae_en σ α zz t0 ts)
  refine aw_call rfl rfl (j_sack h) ?_
  rintro _ _ ⟨x, rfl, ⟨σ1, α1, z1, ts1, rfl⟩, h2⟩
  show aw_W _ _ _ _ (325, [some (.retAddr 600), some (.ref 0), some (.ref 46), some (.int (nI i))], [.long x]) (ae_en σ1 α1 z1 t0 ts1)
  refine aw_go 6 rfl ⟨trivial, trivial, trivial, trivial, trivial, (law_g (k := 1) hi (by decide)), trivial⟩ ?_
  show aw_W _ _ _ _ (331, [some (.retAddr 600), some (.ref 0), some (.ref 46), some (.int (nI i))], [.int (P.1 (nI i + 1).toNatClampNeg), .ref 46, .long x]) (ae_en σ1 α1 z1 t0 ts1)
  refine aw_call rfl rfl h2 ?_
  rintro _ _ ⟨rfl, σ2, α2, z2, ts2, rfl, hI⟩
  show aw_W _ _ _ _ (332, [some (.retAddr 600), some (.ref 0), some (.ref 46), some (.int (nI i))], [.long x, .long x]) (ae_en σ2 α2 z2 t0 ts2)
  refine aw_go 2 rfl ⟨trivial, trivial, trivial⟩ ?_
  show aw_W _ _ _ _ (if lg_cmp x x = 0 then 641 else 334, [some (.retAddr 600), some (.ref 0), some (.ref 46), some (.int (nI i))], []) (ae_en σ2 α2 z2 t0 ts2)
  rw [if_pos (lg_same x)]
  exact K _ _ _ _ hI
set_option maxRecDepth 8000 in
theorem law_first {i : Nat} {zz : Int64} (hi : i + 6 ≤ P.2.1 ∧ P.2.1 ≤ 3072) (h : INV σ α t0 ts) (K : ∀ (σ : Nat → Int32) (α : Nat → Nat → Int32) (z : Int64) (ts : List ae_T), INV σ α t0 ts → aw_W P 100 cd_DriedLaw_law QL (641, [some (.retAddr 600), some (.ref 0), some (.ref 46), some (.int (nI i))], []) (ae_en σ α z t0 ts)) : aw_W P 100 cd_DriedLaw_law QL (336, [some (.retAddr 600), some (.ref 0), some (.ref 46), some (.int (nI i))], []) (ae_en σ α zz t0 ts) := by
  refine aw_go 6 rfl ⟨trivial, trivial, trivial, trivial, trivial, (law_g (k := 1) hi (by decide)), trivial⟩ ?_
  show aw_W _ _ _ _ (342, [some (.retAddr 600), some (.ref 0), some (.ref 46), some (.int (nI i))], [.int (P.1 (nI i + 1).toNatClampNeg), .ref 0]) (ae_en σ α zz t0 ts)
  refine aw_call rfl rfl (j_first h) ?_
  rintro _ _ ⟨x, rfl, ⟨σ1, α1, z1, ts1, rfl⟩, h2⟩
  show aw_W _ _ _ _ (343, [some (.retAddr 600), some (.ref 0), some (.ref 46), some (.int (nI i))], [.int x]) (ae_en σ1 α1 z1 t0 ts1)
  refine aw_go 6 rfl ⟨trivial, trivial, trivial, trivial, trivial, (law_g (k := 1) hi (by decide)), trivial⟩ ?_
  show aw_W _ _ _ _ (349, [some (.retAddr 600), some (.ref 0), some (.ref 46), some (.int (nI i))], [.int (P.1 (nI i + 1).toNatClampNeg), .ref 46, .int x]) (ae_en σ1 α1 z1 t0 ts1)
  refine aw_call rfl rfl h2 ?_
  rintro _ _ ⟨rfl, σ2, α2, z2, ts2, rfl, hI⟩
  show aw_W _ _ _ _ (350, [some (.retAddr 600), some (.ref 0), some (.ref 46), some (.int (nI i))], [.int x, .int x]) (ae_en σ2 α2 z2 t0 ts2)
  refine aw_go 1 rfl ⟨trivial, trivial⟩ ?_
  show aw_W _ _ _ _ (if x = x then 641 else 351, [some (.retAddr 600), some (.ref 0), some (.ref 46), some (.int (nI i))], []) (ae_en σ2 α2 z2 t0 ts2)
  rw [if_pos rfl]
  exact K _ _ _ _ hI
set_option maxRecDepth 8000 in
theorem law_most {i : Nat} {zz : Int64} (hi : i + 6 ≤ P.2.1 ∧ P.2.1 ≤ 3072) (h : INV σ α t0 ts) (K : ∀ (σ : Nat → Int32) (α : Nat → Nat → Int32) (z : Int64) (ts : List ae_T), INV σ α t0 ts → aw_W P 100 cd_DriedLaw_law QL (641, [some (.retAddr 600), some (.ref 0), some (.ref 46), some (.int (nI i))], []) (ae_en σ α z t0 ts)) : aw_W P 100 cd_DriedLaw_law QL (353, [some (.retAddr 600), some (.ref 0), some (.ref 46), some (.int (nI i))], []) (ae_en σ α zz t0 ts) := by
  refine aw_go 6 rfl ⟨trivial, trivial, trivial, trivial, trivial, (law_g (k := 1) hi (by decide)), trivial⟩ ?_
  show aw_W _ _ _ _ (359, [some (.retAddr 600), some (.ref 0), some (.ref 46), some (.int (nI i))], [.int (P.1 (nI i + 1).toNatClampNeg), .ref 0]) (ae_en σ α zz t0 ts)
  refine aw_call rfl rfl (j_most h) ?_
  rintro _ _ ⟨x, rfl, ⟨σ1, α1, z1, ts1, rfl⟩, h2⟩
  show aw_W _ _ _ _ (360, [some (.retAddr 600), some (.ref 0), some (.ref 46), some (.int (nI i))], [.int x]) (ae_en σ1 α1 z1 t0 ts1)
  refine aw_go 6 rfl ⟨trivial, trivial, trivial, trivial, trivial, (law_g (k := 1) hi (by decide)), trivial⟩ ?_
  show aw_W _ _ _ _ (366, [some (.retAddr 600), some (.ref 0), some (.ref 46), some (.int (nI i))], [.int (P.1 (nI i + 1).toNatClampNeg), .ref 46, .int x]) (ae_en σ1 α1 z1 t0 ts1)
  refine aw_call rfl rfl h2 ?_
  rintro _ _ ⟨rfl, σ2, α2, z2, ts2, rfl, hI⟩
  show aw_W _ _ _ _ (367, [some (.retAddr 600), some (.ref 0), some (.ref 46), some (.int (nI i))], [.int x, .int x]) (ae_en σ2 α2 z2 t0 ts2)
  refine aw_go 1 rfl ⟨trivial, trivial⟩ ?_
  show aw_W _ _ _ _ (if x = x then 641 else 368, [some (.retAddr 600), some (.ref 0), some (.ref 46), some (.int (nI i))], []) (ae_en σ2 α2 z2 t0 ts2)
  rw [if_pos rfl]
  exact K _ _ _ _ hI
set_option maxRecDepth 8000 in
theorem law_far {i : Nat} {zz : Int64} (hi : i + 6 ≤ P.2.1 ∧ P.2.1 ≤ 3072) (h : INV σ α t0 ts) (K : ∀ (σ : Nat → Int32) (α : Nat → Nat → Int32) (z : Int64) (ts : List ae_T), INV σ α t0 ts → aw_W P 100 cd_DriedLaw_law QL (641, [some (.retAddr 600), some (.ref 0), some (.ref 46), some (.int (nI i))], []) (ae_en σ α z t0 ts)) : aw_W P 100 cd_DriedLaw_law QL (370, [some (.retAddr 600), some (.ref 0), some (.ref 46), some (.int (nI i))], []) (ae_en σ α zz t0 ts) := by
  refine aw_go 6 rfl ⟨trivial, trivial, trivial, trivial, trivial, (law_g (k := 1) hi (by decide)), trivial⟩ ?_
  show aw_W _ _ _ _ (376, [some (.retAddr 600), some (.ref 0), some (.ref 46), some (.int (nI i))], [.int (P.1 (nI i + 1).toNatClampNeg), .ref 0]) (ae_en σ α zz t0 ts)
  refine aw_call rfl rfl (j_far h) ?_
  rintro _ _ ⟨x, rfl, ⟨σ1, α1, z1, ts1, rfl⟩, h2⟩
  show aw_W _ _ _ _ (377, [some (.retAddr 600), some (.ref 0), some (.ref 46), some (.int (nI i))], [.int x]) (ae_en σ1 α1 z1 t0 ts1)
  refine aw_go 6 rfl ⟨trivial, trivial, trivial, trivial, trivial, (law_g (k := 1) hi (by decide)), trivial⟩ ?_
  show aw_W _ _ _ _ (383, [some (.retAddr 600), some (.ref 0), some (.ref 46), some (.int (nI i))], [.int (P.1 (nI i + 1).toNatClampNeg), .ref 46, .int x]) (ae_en σ1 α1 z1 t0 ts1)
  refine aw_call rfl rfl h2 ?_
  rintro _ _ ⟨rfl, σ2, α2, z2, ts2, rfl, hI⟩
  show aw_W _ _ _ _ (384, [some (.retAddr 600), some (.ref 0), some (.ref 46), some (.int (nI i))], [.int x, .int x]) (ae_en σ2 α2 z2 t0 ts2)
  refine aw_go 1 rfl ⟨trivial, trivial⟩ ?_
  show aw_W _ _ _ _ (if x = x then 641 else 385, [some (.retAddr 600), some (.ref 0), some (.ref 46), some (.int (nI i))], []) (ae_en σ2 α2 z2 t0 ts2)
  rw [if_pos rfl]
  exact K _ _ _ _ hI
set_option maxRecDepth 8000 in
theorem law_nails {i : Nat} {zz : Int64} (hi : i + 6 ≤ P.2.1 ∧ P.2.1 ≤ 3072) (h : INV σ α t0 ts) (K : ∀ (σ : Nat → Int32) (α : Nat → Nat → Int32) (z : Int64) (ts : List ae_T), INV σ α t0 ts → aw_W P 100 cd_DriedLaw_law QL (641, [some (.retAddr 600), some (.ref 0), some (.ref 46), some (.int (nI i))], []) (ae_en σ α z t0 ts)) : aw_W P 100 cd_DriedLaw_law QL (387, [some (.retAddr 600), some (.ref 0), some (.ref 46), some (.int (nI i))], []) (ae_en σ α zz t0 ts) := by
  refine aw_go 6 rfl ⟨trivial, trivial, trivial, trivial, trivial, (law_g (k := 1) hi (by decide)), trivial⟩ ?_
  show aw_W _ _ _ _ (393, [some (.retAddr 600), some (.ref 0), some (.ref 46), some (.int (nI i))], [.int (P.1 (nI i + 1).toNatClampNeg), .ref 0]) (ae_en σ α zz t0 ts)
  refine aw_call rfl rfl (j_nails h) ?_
  rintro _ _ ⟨x, rfl, ⟨σ1, α1, z1, ts1, rfl⟩, h2⟩
  show aw_W _ _ _ _ (394, [some (.retAddr 600), some (.ref 0), some (.ref 46), some (.int (nI i))], [.long x]) (ae_en σ1 α1 z1 t0 ts1)
  refine aw_go 6 rfl ⟨trivial, trivial, trivial, trivial, trivial, (law_g (k := 1) hi (by decide)), trivial⟩ ?_
  show aw_W _ _ _ _ (400, [some (.retAddr 600), some (.ref 0), some (.ref 46), some (.int (nI i))], [.int (P.1 (nI i + 1).toNatClampNeg), .ref 46, .long x]) (ae_en σ1 α1 z1 t0 ts1)
  refine aw_call rfl rfl h2 ?_
  rintro _ _ ⟨rfl, σ2, α2, z2, ts2, rfl, hI⟩
  show aw_W _ _ _ _ (401, [some (.retAddr 600), some (.ref 0), some (.ref 46), some (.int (nI i))], [.long x, .long x]) (ae_en σ2 α2 z2 t0 ts2)
  refine aw_go 2 rfl ⟨trivial, trivial, trivial⟩ ?_
  show aw_W _ _ _ _ (if lg_cmp x x = 0 then 641 else 403, [some (.retAddr 600), some (.ref 0), some (.ref 46), some (.int (nI i))], []) (ae_en σ2 α2 z2 t0 ts2)
  rw [if_pos (lg_same x)]
  exact K _ _ _ _ hI
set_option maxRecDepth 8000 in
theorem law_image {i : Nat} {zz : Int64} (hi : i + 6 ≤ P.2.1 ∧ P.2.1 ≤ 3072) (h : INV σ α t0 ts) (K : ∀ (σ : Nat → Int32) (α : Nat → Nat → Int32) (z : Int64) (ts : List ae_T), INV σ α t0 ts → aw_W P 100 cd_DriedLaw_law QL (641, [some (.retAddr 600), some (.ref 0), some (.ref 46), some (.int (nI i))], []) (ae_en σ α z t0 ts)) : aw_W P 100 cd_DriedLaw_law QL (405, [some (.retAddr 600), some (.ref 0), some (.ref 46), some (.int (nI i))], []) (ae_en σ α zz t0 ts) := by
  refine aw_go 1 rfl ⟨trivial, trivial⟩ ?_
  show aw_W _ _ _ _ (406, [some (.retAddr 600), some (.ref 0), some (.ref 46), some (.int (nI i))], [.ref 0]) (ae_en σ α zz t0 ts)
  refine aw_call rfl rfl (j_image h) ?_
  rintro _ _ ⟨x, rfl, ⟨σ1, α1, z1, ts1, rfl⟩, h2⟩
  show aw_W _ _ _ _ (407, [some (.retAddr 600), some (.ref 0), some (.ref 46), some (.int (nI i))], [.int x]) (ae_en σ1 α1 z1 t0 ts1)
  refine aw_go 1 rfl ⟨trivial, trivial⟩ ?_
  show aw_W _ _ _ _ (408, [some (.retAddr 600), some (.ref 0), some (.ref 46), some (.int (nI i))], [.ref 46, .int x]) (ae_en σ1 α1 z1 t0 ts1)
  refine aw_call rfl rfl h2 ?_
  rintro _ _ ⟨rfl, σ2, α2, z2, ts2, rfl, hI⟩
  show aw_W _ _ _ _ (409, [some (.retAddr 600), some (.ref 0), some (.ref 46), some (.int (nI i))], [.int x, .int x]) (ae_en σ2 α2 z2 t0 ts2)
  refine aw_go 1 rfl ⟨trivial, trivial⟩ ?_
  show aw_W _ _ _ _ (if x = x then 641 else 410, [some (.retAddr 600), some (.ref 0), some (.ref 46), some (.int (nI i))], []) (ae_en σ2 α2 z2 t0 ts2)
  rw [if_pos rfl]
  exact K _ _ _ _ hI
set_option maxRecDepth 8000 in
theorem law_back {i : Nat} {zz : Int64} (hi : i + 6 ≤ P.2.1 ∧ P.2.1 ≤ 3072) (h : INV σ α t0 ts) (K : ∀ (σ : Nat → Int32) (α : Nat → Nat → Int32) (z : Int64) (ts : List ae_T), INV σ α t0 ts → aw_W P 100 cd_DriedLaw_law QL (641, [some (.retAddr 600), some (.ref 0), some (.ref 46), some (.int (nI i))], []) (ae_en σ α z t0 ts)) : aw_W P 100 cd_DriedLaw_law QL (412, [some (.retAddr 600), some (.ref 0), some (.ref 46), some (.int (nI i))], []) (ae_en σ α zz t0 ts) := by
  refine aw_go 1 rfl ⟨trivial, trivial⟩ ?_
  show aw_W _ _ _ _ (413, [some (.retAddr 600), some (.ref 0), some (.ref 46), some (.int (nI i))], [.ref 0]) (ae_en σ α zz t0 ts)
  refine aw_call rfl rfl (j_back h) ?_
  rintro _ _ ⟨x, rfl, ⟨σ1, α1, z1, ts1, rfl⟩, h2⟩
  show aw_W _ _ _ _ (414, [some (.retAddr 600), some (.ref 0), some (.ref 46), some (.int (nI i))], [.int x]) (ae_en σ1 α1 z1 t0 ts1)
  refine aw_go 1 rfl ⟨trivial, trivial⟩ ?_
  show aw_W _ _ _ _ (415, [some (.retAddr 600), some (.ref 0), some (.ref 46), some (.int (nI i))], [.ref 46, .int x]) (ae_en σ1 α1 z1 t0 ts1)
  refine aw_call rfl rfl h2 ?_
  rintro _ _ ⟨rfl, σ2, α2, z2, ts2, rfl, hI⟩
  show aw_W _ _ _ _ (416, [some (.retAddr 600), some (.ref 0), some (.ref 46), some (.int (nI i))], [.int x, .int x]) (ae_en σ2 α2 z2 t0 ts2)
  refine aw_go 1 rfl ⟨trivial, trivial⟩ ?_
  show aw_W _ _ _ _ (if x = x then 641 else 417, [some (.retAddr 600), some (.ref 0), some (.ref 46), some (.int (nI i))], []) (ae_en σ2 α2 z2 t0 ts2)
  rw [if_pos rfl]
  exact K _ _ _ _ hI
set_option maxRecDepth 8000 in
theorem law_count {i : Nat} {zz : Int64} (hi : i + 6 ≤ P.2.1 ∧ P.2.1 ≤ 3072) (h : INV σ α t0 ts) (K : ∀ (σ : Nat → Int32) (α : Nat → Nat → Int32) (z : Int64) (ts : List ae_T), INV σ α t0 ts → aw_W P 100 cd_DriedLaw_law QL (641, [some (.retAddr 600), some (.ref 0), some (.ref 46), some (.int (nI i))], []) (ae_en σ α z t0 ts)) : aw_W P 100 cd_DriedLaw_law QL (419, [some (.retAddr 600), some (.ref 0), some (.ref 46), some (.int (nI i))], []) (ae_en σ α zz t0 ts) := by
  refine aw_go 6 rfl ⟨trivial, trivial, trivial, trivial, trivial, (law_g (k := 1) hi (by decide)), trivial⟩ ?_
  show aw_W _ _ _ _ (425, [some (.retAddr 600), some (.ref 0), some (.ref 46), some (.int (nI i))], [.int (P.1 (nI i + 1).toNatClampNeg), .ref 0]) (ae_en σ α zz t0 ts)
  refine aw_call rfl rfl (j_count h) ?_
  rintro _ _ ⟨x, rfl, ⟨σ1, α1, z1, ts1, rfl⟩, h2⟩
  show aw_W _ _ _ _ (426, [some (.retAddr 600), some (.ref 0), some (.ref 46), some (.int (nI i))], [.int x]) (ae_en σ1 α1 z1 t0 ts1)
  refine aw_go 6 rfl ⟨trivial, trivial, trivial, trivial, trivial, (law_g (k := 1) hi (by decide)), trivial⟩ ?_
  show aw_W _ _ _ _ (432, [some (.retAddr 600), some (.ref 0), some (.ref 46), some (.int (nI i))], [.int (P.1 (nI i + 1).toNatClampNeg), .ref 46, .int x]) (ae_en σ1 α1 z1 t0 ts1)
  refine aw_call rfl rfl h2 ?_
  rintro _ _ ⟨rfl, σ2, α2, z2, ts2, rfl, hI⟩
  show aw_W _ _ _ _ (433, [some (.retAddr 600), some (.ref 0), some (.ref 46), some (.int (nI i))], [.int x, .int x]) (ae_en σ2 α2 z2 t0 ts2)
  refine aw_go 1 rfl ⟨trivial, trivial⟩ ?_
  show aw_W _ _ _ _ (if x = x then 641 else 434, [some (.retAddr 600), some (.ref 0), some (.ref 46), some (.int (nI i))], []) (ae_en σ2 α2 z2 t0 ts2)
  rw [if_pos rfl]
  exact K _ _ _ _ hI
set_option maxRecDepth 8000 in
theorem law_sheet {i : Nat} {zz : Int64} (hi : i + 6 ≤ P.2.1 ∧ P.2.1 ≤ 3072) (h : INV σ α t0 ts) (K : ∀ (σ : Nat → Int32) (α : Nat → Nat → Int32) (z : Int64) (ts : List ae_T), INV σ α t0 ts → aw_W P 100 cd_DriedLaw_law QL (641, [some (.retAddr 600), some (.ref 0), some (.ref 46), some (.int (nI i))], []) (ae_en σ α z t0 ts)) : aw_W P 100 cd_DriedLaw_law QL (436, [some (.retAddr 600), some (.ref 0), some (.ref 46), some (.int (nI i))], []) (ae_en σ α zz t0 ts) := by
  refine aw_go 16 rfl ⟨trivial, trivial, trivial, trivial, trivial, (law_g (k := 1) hi (by decide)), trivial, trivial, trivial, trivial, (law_g (k := 2) hi (by decide)), trivial, trivial, trivial, trivial, (law_g (k := 3) hi (by decide)), trivial⟩ ?_
  show aw_W _ _ _ _ (452, [some (.retAddr 600), some (.ref 0), some (.ref 46), some (.int (nI i))], [.int (P.1 (nI i + 3).toNatClampNeg), .int (P.1 (nI i + 2).toNatClampNeg), .int (P.1 (nI i + 1).toNatClampNeg), .ref 0]) (ae_en σ α zz t0 ts)
  refine aw_call rfl rfl (j_sheet h) ?_
  rintro _ _ ⟨x, rfl, ⟨σ1, α1, z1, ts1, rfl⟩, h2⟩
  show aw_W _ _ _ _ (453, [some (.retAddr 600), some (.ref 0), some (.ref 46), some (.int (nI i))], [.int x]) (ae_en σ1 α1 z1 t0 ts1)
  refine aw_go 16 rfl ⟨trivial, trivial, trivial, trivial, trivial, (law_g (k := 1) hi (by decide)), trivial, trivial, trivial, trivial, (law_g (k := 2) hi (by decide)), trivial, trivial, trivial, trivial, (law_g (k := 3) hi (by decide)), trivial⟩ ?_
  show aw_W _ _ _ _ (469, [some (.retAddr 600), some (.ref 0), some (.ref 46), some (.int (nI i))], [.int (P.1 (nI i + 3).toNatClampNeg), .int (P.1 (nI i + 2).toNatClampNeg), .int (P.1 (nI i + 1).toNatClampNeg), .ref 46, .int x]) (ae_en σ1 α1 z1 t0 ts1)
  refine aw_call rfl rfl h2 ?_
  rintro _ _ ⟨rfl, σ2, α2, z2, ts2, rfl, hI⟩
  show aw_W _ _ _ _ (470, [some (.retAddr 600), some (.ref 0), some (.ref 46), some (.int (nI i))], [.int x, .int x]) (ae_en σ2 α2 z2 t0 ts2)
  refine aw_go 1 rfl ⟨trivial, trivial⟩ ?_
  show aw_W _ _ _ _ (if x = x then 641 else 471, [some (.retAddr 600), some (.ref 0), some (.ref 46), some (.int (nI i))], []) (ae_en σ2 α2 z2 t0 ts2)
  rw [if_pos rfl]
  exact K _ _ _ _ hI
set_option maxRecDepth 8000 in
theorem law_cell {i : Nat} {zz : Int64} (hi : i + 6 ≤ P.2.1 ∧ P.2.1 ≤ 3072) (h : INV σ α t0 ts) (K : ∀ (σ : Nat → Int32) (α : Nat → Nat → Int32) (z : Int64) (ts : List ae_T), INV σ α t0 ts → aw_W P 100 cd_DriedLaw_law QL (641, [some (.retAddr 600), some (.ref 0), some (.ref 46), some (.int (nI i))], []) (ae_en σ α z t0 ts)) : aw_W P 100 cd_DriedLaw_law QL (473, [some (.retAddr 600), some (.ref 0), some (.ref 46), some (.int (nI i))], []) (ae_en σ α zz t0 ts) := by
  refine aw_go 16 rfl ⟨trivial, trivial, trivial, trivial, trivial, (law_g (k := 1) hi (by decide)), trivial, trivial, trivial, trivial, (law_g (k := 2) hi (by decide)), trivial, trivial, trivial, trivial, (law_g (k := 3) hi (by decide)), trivial⟩ ?_
  show aw_W _ _ _ _ (489, [some (.retAddr 600), some (.ref 0), some (.ref 46), some (.int (nI i))], [.int (P.1 (nI i + 3).toNatClampNeg), .int (P.1 (nI i + 2).toNatClampNeg), .int (P.1 (nI i + 1).toNatClampNeg), .ref 0]) (ae_en σ α zz t0 ts)
  refine aw_call rfl rfl (j_cell h) ?_
  rintro _ _ ⟨x, rfl, ⟨σ1, α1, z1, ts1, rfl⟩, h2⟩
  show aw_W _ _ _ _ (490, [some (.retAddr 600), some (.ref 0), some (.ref 46), some (.int (nI i))], [.int x]) (ae_en σ1 α1 z1 t0 ts1)
  refine aw_go 16 rfl ⟨trivial, trivial, trivial, trivial, trivial, (law_g (k := 1) hi (by decide)), trivial, trivial, trivial, trivial, (law_g (k := 2) hi (by decide)), trivial, trivial, trivial, trivial, (law_g (k := 3) hi (by decide)), trivial⟩ ?_
  show aw_W _ _ _ _ (506, [some (.retAddr 600), some (.ref 0), some (.ref 46), some (.int (nI i))], [.int (P.1 (nI i + 3).toNatClampNeg), .int (P.1 (nI i + 2).toNatClampNeg), .int (P.1 (nI i + 1).toNatClampNeg), .ref 46, .int x]) (ae_en σ1 α1 z1 t0 ts1)
  refine aw_call rfl rfl h2 ?_
  rintro _ _ ⟨rfl, σ2, α2, z2, ts2, rfl, hI⟩
  show aw_W _ _ _ _ (507, [some (.retAddr 600), some (.ref 0), some (.ref 46), some (.int (nI i))], [.int x, .int x]) (ae_en σ2 α2 z2 t0 ts2)
  refine aw_go 1 rfl ⟨trivial, trivial⟩ ?_
  show aw_W _ _ _ _ (if x = x then 641 else 508, [some (.retAddr 600), some (.ref 0), some (.ref 46), some (.int (nI i))], []) (ae_en σ2 α2 z2 t0 ts2)
  rw [if_pos rfl]
  exact K _ _ _ _ hI
set_option maxRecDepth 8000 in
theorem law_copy {i : Nat} {zz : Int64} (hi : i + 6 ≤ P.2.1 ∧ P.2.1 ≤ 3072) (h : INV σ α t0 ts) (K : ∀ (σ : Nat → Int32) (α : Nat → Nat → Int32) (z : Int64) (ts : List ae_T), INV σ α t0 ts → aw_W P 100 cd_DriedLaw_law QL (641, [some (.retAddr 600), some (.ref 0), some (.ref 46), some (.int (nI i))], []) (ae_en σ α z t0 ts)) : aw_W P 100 cd_DriedLaw_law QL (510, [some (.retAddr 600), some (.ref 0), some (.ref 46), some (.int (nI i))], []) (ae_en σ α zz t0 ts) := by
  refine aw_go 26 rfl ⟨trivial, trivial, trivial, trivial, trivial, (law_g (k := 1) hi (by decide)), trivial, trivial, trivial, trivial, (law_g (k := 2) hi (by decide)), trivial, trivial, trivial, trivial, (law_g (k := 3) hi (by decide)), trivial, trivial, trivial, trivial, (law_g (k := 4) hi (by decide)), trivial, trivial, trivial, trivial, (law_g (k := 5) hi (by decide)), trivial⟩ ?_
  show aw_W _ _ _ _ (536, [some (.retAddr 600), some (.ref 0), some (.ref 46), some (.int (nI i))], [.int (P.1 (nI i + 5).toNatClampNeg), .int (P.1 (nI i + 4).toNatClampNeg), .int (P.1 (nI i + 3).toNatClampNeg), .int (P.1 (nI i + 2).toNatClampNeg), .int (P.1 (nI i + 1).toNatClampNeg), .ref 0]) (ae_en σ α zz t0 ts)
  refine aw_call rfl rfl (j_copy h) ?_
  rintro _ _ ⟨x, rfl, ⟨σ1, α1, z1, ts1, rfl⟩, h2⟩
  show aw_W _ _ _ _ (537, [some (.retAddr 600), some (.ref 0), some (.ref 46), some (.int (nI i))], [.int x]) (ae_en σ1 α1 z1 t0 ts1)
  refine aw_go 26 rfl ⟨trivial, trivial, trivial, trivial, trivial, (law_g (k := 1) hi (by decide)), trivial, trivial, trivial, trivial, (law_g (k := 2) hi (by decide)), trivial, trivial, trivial, trivial, (law_g (k := 3) hi (by decide)), trivial, trivial, trivial, trivial, (law_g (k := 4) hi (by decide)), trivial, trivial, trivial, trivial, (law_g (k := 5) hi (by decide)), trivial⟩ ?_
  show aw_W _ _ _ _ (563, [some (.retAddr 600), some (.ref 0), some (.ref 46), some (.int (nI i))], [.int (P.1 (nI i + 5).toNatClampNeg), .int (P.1 (nI i + 4).toNatClampNeg), .int (P.1 (nI i + 3).toNatClampNeg), .int (P.1 (nI i + 2).toNatClampNeg), .int (P.1 (nI i + 1).toNatClampNeg), .ref 46, .int x]) (ae_en σ1 α1 z1 t0 ts1)
  refine aw_call rfl rfl h2 ?_
  rintro _ _ ⟨rfl, σ2, α2, z2, ts2, rfl, hI⟩
  show aw_W _ _ _ _ (564, [some (.retAddr 600), some (.ref 0), some (.ref 46), some (.int (nI i))], [.int x, .int x]) (ae_en σ2 α2 z2 t0 ts2)
  refine aw_go 1 rfl ⟨trivial, trivial⟩ ?_
  show aw_W _ _ _ _ (if x = x then 641 else 565, [some (.retAddr 600), some (.ref 0), some (.ref 46), some (.int (nI i))], []) (ae_en σ2 α2 z2 t0 ts2)
  rw [if_pos rfl]
  exact K _ _ _ _ hI
set_option maxRecDepth 8000 in
theorem law_planks {i : Nat} {zz : Int64} (hi : i + 6 ≤ P.2.1 ∧ P.2.1 ≤ 3072) (h : INV σ α t0 ts) (K : ∀ (σ : Nat → Int32) (α : Nat → Nat → Int32) (z : Int64) (ts : List ae_T), INV σ α t0 ts → aw_W P 100 cd_DriedLaw_law QL (641, [some (.retAddr 600), some (.ref 0), some (.ref 46), some (.int (nI i))], []) (ae_en σ α z t0 ts)) : aw_W P 100 cd_DriedLaw_law QL (567, [some (.retAddr 600), some (.ref 0), some (.ref 46), some (.int (nI i))], []) (ae_en σ α zz t0 ts) := by
  refine aw_go 21 rfl ⟨trivial, trivial, trivial, trivial, trivial, (law_g (k := 1) hi (by decide)), trivial, trivial, trivial, trivial, (law_g (k := 2) hi (by decide)), trivial, trivial, trivial, trivial, (law_g (k := 3) hi (by decide)), trivial, trivial, trivial, trivial, (law_g (k := 4) hi (by decide)), trivial⟩ ?_
  show aw_W _ _ _ _ (588, [some (.retAddr 600), some (.ref 0), some (.ref 46), some (.int (nI i))], [.int (P.1 (nI i + 4).toNatClampNeg), .int (P.1 (nI i + 3).toNatClampNeg), .int (P.1 (nI i + 2).toNatClampNeg), .int (P.1 (nI i + 1).toNatClampNeg), .ref 0]) (ae_en σ α zz t0 ts)
  refine aw_call rfl rfl (j_planks h) ?_
  rintro _ _ ⟨x, rfl, ⟨σ1, α1, z1, ts1, rfl⟩, h2⟩
  show aw_W _ _ _ _ (589, [some (.retAddr 600), some (.ref 0), some (.ref 46), some (.int (nI i))], [.int x]) (ae_en σ1 α1 z1 t0 ts1)
  refine aw_go 21 rfl ⟨trivial, trivial, trivial, trivial, trivial, (law_g (k := 1) hi (by decide)), trivial, trivial, trivial, trivial, (law_g (k := 2) hi (by decide)), trivial, trivial, trivial, trivial, (law_g (k := 3) hi (by decide)), trivial, trivial, trivial, trivial, (law_g (k := 4) hi (by decide)), trivial⟩ ?_
  show aw_W _ _ _ _ (610, [some (.retAddr 600), some (.ref 0), some (.ref 46), some (.int (nI i))], [.int (P.1 (nI i + 4).toNatClampNeg), .int (P.1 (nI i + 3).toNatClampNeg), .int (P.1 (nI i + 2).toNatClampNeg), .int (P.1 (nI i + 1).toNatClampNeg), .ref 46, .int x]) (ae_en σ1 α1 z1 t0 ts1)
  refine aw_call rfl rfl h2 ?_
  rintro _ _ ⟨rfl, σ2, α2, z2, ts2, rfl, hI⟩
  show aw_W _ _ _ _ (611, [some (.retAddr 600), some (.ref 0), some (.ref 46), some (.int (nI i))], [.int x, .int x]) (ae_en σ2 α2 z2 t0 ts2)
  refine aw_go 1 rfl ⟨trivial, trivial⟩ ?_
  show aw_W _ _ _ _ (if x = x then 641 else 612, [some (.retAddr 600), some (.ref 0), some (.ref 46), some (.int (nI i))], []) (ae_en σ2 α2 z2 t0 ts2)
  rw [if_pos rfl]
  exact K _ _ _ _ hI
set_option maxRecDepth 8000 in
theorem law_taken {i : Nat} {zz : Int64} (hi : i + 6 ≤ P.2.1 ∧ P.2.1 ≤ 3072) (h : INV σ α t0 ts) (K : ∀ (σ : Nat → Int32) (α : Nat → Nat → Int32) (z : Int64) (ts : List ae_T), INV σ α t0 ts → aw_W P 100 cd_DriedLaw_law QL (641, [some (.retAddr 600), some (.ref 0), some (.ref 46), some (.int (nI i))], []) (ae_en σ α z t0 ts)) : aw_W P 100 cd_DriedLaw_law QL (614, [some (.retAddr 600), some (.ref 0), some (.ref 46), some (.int (nI i))], []) (ae_en σ α zz t0 ts) := by
  refine aw_go 11 rfl ⟨trivial, trivial, trivial, trivial, trivial, (law_g (k := 1) hi (by decide)), trivial, trivial, trivial, trivial, (law_g (k := 2) hi (by decide)), trivial⟩ ?_
  show aw_W _ _ _ _ (625, [some (.retAddr 600), some (.ref 0), some (.ref 46), some (.int (nI i))], [.int (P.1 (nI i + 2).toNatClampNeg), .int (P.1 (nI i + 1).toNatClampNeg), .ref 0]) (ae_en σ α zz t0 ts)
  refine aw_call rfl rfl (j_taken h) ?_
  rintro _ _ ⟨x, rfl, ⟨σ1, α1, z1, ts1, rfl⟩, h2⟩
  show aw_W _ _ _ _ (626, [some (.retAddr 600), some (.ref 0), some (.ref 46), some (.int (nI i))], [.int x]) (ae_en σ1 α1 z1 t0 ts1)
  refine aw_go 11 rfl ⟨trivial, trivial, trivial, trivial, trivial, (law_g (k := 1) hi (by decide)), trivial, trivial, trivial, trivial, (law_g (k := 2) hi (by decide)), trivial⟩ ?_
  show aw_W _ _ _ _ (637, [some (.retAddr 600), some (.ref 0), some (.ref 46), some (.int (nI i))], [.int (P.1 (nI i + 2).toNatClampNeg), .int (P.1 (nI i + 1).toNatClampNeg), .ref 46, .int x]) (ae_en σ1 α1 z1 t0 ts1)
  refine aw_call rfl rfl h2 ?_
  rintro _ _ ⟨rfl, σ2, α2, z2, ts2, rfl, hI⟩
  show aw_W _ _ _ _ (638, [some (.retAddr 600), some (.ref 0), some (.ref 46), some (.int (nI i))], [.int x, .int x]) (ae_en σ2 α2 z2 t0 ts2)
  refine aw_go 1 rfl ⟨trivial, trivial⟩ ?_
  show aw_W _ _ _ _ (if x = x then 641 else 639, [some (.retAddr 600), some (.ref 0), some (.ref 46), some (.int (nI i))], []) (ae_en σ2 α2 z2 t0 ts2)
  rw [if_pos rfl]
  exact K _ _ _ _ hI
set_option maxRecDepth 8000 in
theorem law_lp (hz : P.2.2 = .null ∨ P.2.2 = .retAddr 700) (hL : P.2.1 ≤ 3072) : ∀ (f i : Nat) (σ : Nat → Int32) (α : Nat → Nat → Int32) (z : Int64) (ts : List ae_T), P.2.1 + 6 ≤ i + f → i ≤ P.2.1 → INV σ α t0 ts → aw_W P 100 cd_DriedLaw_law QL (10, [some (.retAddr 600), some (.ref 0), some (.ref 46), some (.int (nI i))], []) (ae_en σ α z t0 ts)
  | 0, i, σ, α, z, ts, hf, hiL, h => absurd hf (by omega)
  | f + 1, i, σ, α, z, ts, hf, hiL, h => by
    refine aw_go 6 rfl ⟨trivial, trivial, trivial, trivial, trivial, trivial, trivial⟩ ?_
    show aw_W _ _ _ _ (if nI P.2.1 - 6 < nI i then 643 else 16, [some (.retAddr 600), some (.ref 0), some (.ref 46), some (.int (nI i))], []) (ae_en σ α z t0 ts)
    by_cases c : nI P.2.1 - 6 < nI i
    · rw [if_pos c]
      refine aw_go 1 rfl ⟨trivial, trivial⟩ ?_
      show aw_W _ _ _ _ (644, [some (.retAddr 600), some (.ref 0), some (.ref 46), some (.int (nI i))], [.int 1]) (ae_en σ α z t0 ts)
      refine aw_ret rfl rfl (by first | exact Or.inr rfl | trivial) ?_
      exact ⟨rfl, en_room h⟩
    · rw [if_neg c]
      have hi : i + 6 ≤ P.2.1 ∧ P.2.1 ≤ 3072 := ⟨by
        have := mt (law_c hL (by omega)).mpr c
        omega, hL⟩
      have K : ∀ (σ : Nat → Int32) (α : Nat → Nat → Int32) (z : Int64) (ts : List ae_T), INV σ α t0 ts → aw_W P 100 cd_DriedLaw_law QL (641, [some (.retAddr 600), some (.ref 0), some (.ref 46), some (.int (nI i))], []) (ae_en σ α z t0 ts) := by
        intro σ α z ts h
        refine aw_go 2 rfl ⟨trivial, trivial, trivial⟩ ?_
        show aw_W _ _ _ _ (10, [some (.retAddr 600), some (.ref 0), some (.ref 46), some (.int (nI i + 6))], []) (ae_en σ α z t0 ts)
        rw [show nI i + 6 = nI (i + 6) from cI_add rfl rfl]
        exact law_lp hz hL f (i + 6) σ α z ts (by omega) hi.1 h
      refine aw_go 6 rfl ⟨trivial, trivial, (cI_in (a := i) rfl (by omega) (by omega)), trivial, trivial, trivial, trivial⟩ ?_
      show aw_W _ _ _ _ (ae_swt (P.1 (nI i).toNatClampNeg &&& 31) 641 [(0, 22), (1, 59), (2, 96), (3, 123), (4, 150), (5, 201), (6, 208), (7, 225), (8, 232), (9, 270), (10, 287), (11, 304), (12, 311), (13, 318), (14, 336), (15, 353), (16, 370), (17, 387), (18, 405), (19, 412), (20, 419), (21, 436), (22, 473), (23, 510), (24, 567), (25, 614)], [some (.retAddr 600), some (.ref 0), some (.ref 46), some (.int (nI i))], []) (ae_en σ α z t0 ts)
      generalize P.1 (nI i).toNatClampNeg &&& 31 = y
      refine aw_sw (x := y) (fun _ => law_plank hi h K) (fun _ => ?_)
      refine aw_sw (x := y) (fun _ => law_set hi h K) (fun _ => ?_)
      refine aw_sw (x := y) (fun _ => law_told hi h K) (fun _ => ?_)
      refine aw_sw (x := y) (fun _ => law_gap hi h K) (fun _ => ?_)
      refine aw_sw (x := y) (fun _ => law_feed hi h K) (fun _ => ?_)
      refine aw_sw (x := y) (fun _ => law_text hz hi h K) (fun _ => ?_)
      refine aw_sw (x := y) (fun _ => law_force hi h K) (fun _ => ?_)
      refine aw_sw (x := y) (fun _ => law_comes hi h K) (fun _ => ?_)
      refine aw_sw (x := y) (fun _ => law_run hi h K) (fun _ => ?_)
      refine aw_sw (x := y) (fun _ => law_lay hi h K) (fun _ => ?_)
      refine aw_sw (x := y) (fun _ => law_air hi h K) (fun _ => ?_)
      refine aw_sw (x := y) (fun _ => law_tight hi h K) (fun _ => ?_)
      refine aw_sw (x := y) (fun _ => law_out hi h K) (fun _ => ?_)
      refine aw_sw (x := y) (fun _ => law_sack hi h K) (fun _ => ?_)
      refine aw_sw (x := y) (fun _ => law_first hi h K) (fun _ => ?_)
      refine aw_sw (x := y) (fun _ => law_most hi h K) (fun _ => ?_)
      refine aw_sw (x := y) (fun _ => law_far hi h K) (fun _ => ?_)
      refine aw_sw (x := y) (fun _ => law_nails hi h K) (fun _ => ?_)
      refine aw_sw (x := y) (fun _ => law_image hi h K) (fun _ => ?_)
      refine aw_sw (x := y) (fun _ => law_back hi h K) (fun _ => ?_)
      refine aw_sw (x := y) (fun _ => law_count hi h K) (fun _ => ?_)
      refine aw_sw (x := y) (fun _ => law_sheet hi h K) (fun _ => ?_)
      refine aw_sw (x := y) (fun _ => law_cell hi h K) (fun _ => ?_)
      refine aw_sw (x := y) (fun _ => law_copy hi h K) (fun _ => ?_)
      refine aw_sw (x := y) (fun _ => law_planks hi h K) (fun _ => ?_)
      refine aw_sw (x := y) (fun _ => law_taken hi h K) (fun _ => ?_)
      exact K _ _ _ _ h
theorem inv_0 {ct av cv : Int32} {rt rp S2 E2 : Nat → Int32} {t : ae_T} (ht : tOk t e03) : INV (au (au si0 [(11, 0), (12, ct), (13, av), (14, cv), (15, nI 1)]) [(30, 500), (32, 1)]) (au (au sa0 [(16, tp0), (17, rt), (18, rp), (19, S2), (20, E2)]) [(45, mLet), (46, mMea), (56, mSor)]) t [] := by
  have hb : bnd 0 9999 := ⟨0, Nat.zero_le _, rfl⟩
  refine ⟨0, fun _ => e03, 0, ?_, ?_, ?_, ?_, ?_⟩
  · exact ⟨rfl, Nat.zero_le _, rfl, ⟨rfl, rfl, rfl, rfl, rfl, rfl, rfl, rfl⟩, ⟨rfl, rfl, rfl, rfl⟩, fun _ => ⟨0, by omega, rfl⟩, bA_0 300, bA_0 9, bA_0 100, bA_0 99, bA_0 200, bA_0 100, hb⟩
  · exact ⟨rfl, fun q => (q rfl).elim⟩
  · refine ⟨rfl, by decide, rfl, ⟨0, by decide, rfl⟩, ?_, rfl, ?_, mTb0⟩
    · intro i u hu
      match i, hu with
      | 0, hu => cases hu; exact ht
      | i + 1, hu =>
        have a := ae_get_lt hu
        rw [List.length_cons, List.length_nil] at a
        omega
    · intro i h1 h2
      exact absurd h1 (by simp only [List.length_nil] at h2; omega)
  · exact ⟨rfl, by decide, rfl, fun j hj => absurd hj (Nat.not_lt_zero j)⟩
  · exact ⟨⟨mSor0 0 (by decide), Or.inl rfl⟩, ⟨mSor0 1 (by decide), Or.inl rfl⟩, ⟨mSor0 2 (by decide), Or.inl rfl⟩, ⟨mSor0 3 (by decide), Or.inl rfl⟩⟩
set_option maxRecDepth 8000 in
theorem law_all (hz : P.2.2 = .null ∨ P.2.2 = .retAddr 700) (hL : P.2.1 ≤ 3072) : aw_W P 100 cd_DriedLaw_law QL (0, [some (.retAddr 600), none, none, none], []) [] := by
  refine aw_go 2 rfl ⟨trivial, trivial, trivial⟩ ?_
  show aw_W _ _ _ _ (2, [some (.retAddr 600), none, none, none], [.ref 0, .ref 0]) ([.inr (6, [.null, .null, .int 0, .null, .null, .null, .null])] : ae_H)
  refine aw_call rfl rfl (ev_Dried_init (zd := 36) hz) ?_
  rintro _ _ ⟨ct, av, cv, rt, rp, S2, E2, t, rfl, rfl, ht⟩
  refine aw_go 3 rfl ⟨trivial, trivial, trivial, trivial⟩ ?_
  refine aw_call rfl rfl (ev_Model_init (zd := 99) (σ := au si0 [(11, 0), (12, ct), (13, av), (14, cv), (15, nI 1)]) (α := au sa0 [(16, tp0), (17, rt), (18, rp), (19, S2), (20, E2)]) (tx := ae_tx 0) (t := t)) ?_
  rintro _ _ ⟨rfl, rfl⟩
  refine aw_go 3 rfl ⟨trivial, trivial, trivial, trivial⟩ ?_
  show aw_W _ _ _ _ (10, [some (.retAddr 600), some (.ref 0), some (.ref 46), some (.int (nI 0))], []) (ae_en (au (au si0 [(11, 0), (12, ct), (13, av), (14, cv), (15, nI 1)]) [(30, 500), (32, 1)]) (au (au sa0 [(16, tp0), (17, rt), (18, rp), (19, S2), (20, E2)]) [(45, mLet), (46, mMea), (56, mSor)]) 0 t [])
  exact law_lp hz hL (P.2.1 + 6) 0 _ _ _ _ (by omega) (Nat.zero_le _) (inv_0 ht)
end L75
theorem ae_law_run : ae_LawRun := by
  intro xs L zq hz hL
  obtain ⟨r, H', ⟨rfl, h1, h2⟩, n, hn⟩ := law_all (P := (xs, L, zq)) hz hL
  exact ⟨n, H', hn, h1, h2⟩
