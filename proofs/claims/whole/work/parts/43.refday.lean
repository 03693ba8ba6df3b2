/-! the reference: a day in the water -/
theorem gF_gt {A : Nat → Bool} {d : Nat} (h : gF A d = 0) : ∀ {m : Nat}, d ≤ m → gF A m = 0 ∨ d < gF A m
  | 0, hm => Or.inl rfl
  | m + 1, hm => by
    rcases Nat.lt_or_ge d (m + 1) with q | q
    · rcases gF_gt h (m := m) (by omega) with e | e
      · unfold gF
        rw [if_pos e]
        split
        · exact Or.inr (by omega)
        · exact Or.inl rfl
      · exact Or.inr (by rw [gF, if_neg (by omega)]; exact e)
    · exact Or.inl (by rw [show m + 1 = d by omega]; exact h)
theorem gF_at {A : Nat → Bool} {N k : Nat} (hk : k + 1 ≤ N) (h : ¬ (0 < gF A N ∧ gF A N ≤ k)) : (A (k + 1) = true → gF A N = k + 1) ∧ (¬ A (k + 1) = true → ¬ (0 < gF A N ∧ gF A N ≤ k + 1)) := by
  have hz : gF A k = 0 := by
    rcases Nat.eq_zero_or_pos (gF A k) with q | q
    · exact q
    · have e := gF_on (A := A) (d := k) (by omega) (m := N) (by omega)
      have := gF_le A k
      exact absurd ⟨by rw [e]; exact q, by rw [e]; exact this⟩ h
  refine ⟨fun ha => ?_, fun ha => ?_⟩
  · have e := gF_yes hz ha
    rw [gF_on (d := k + 1) (by rw [e]; omega) hk, e]
  · have e := gF_no hz ha
    rcases gF_gt e hk with q | q <;> omega
theorem iI_small {z : Int} (h : -1000000000 ≤ z) (h2 : z ≤ 1000000000) : (Int32.ofInt z).toInt = z := Int32.toInt_ofInt_of_le (by omega) (by omega)
theorem nI_int (n : Nat) : nI n = Int32.ofInt n := Int32.ofInt_eq_ofNat.symm
theorem iI_lt {y z : Int} (h : -1000000000 ≤ z) (h2 : z ≤ 1000000000) (h3 : -1000000000 ≤ y) (h4 : y ≤ 1000000000) : Int32.ofInt y < Int32.ofInt z ↔ y < z := by rw [Int32.lt_iff_toInt_lt, iI_small h h2, iI_small h3 h4]
theorem gBe_b {B : ae_B} {n p : Nat} (hb : bOk B n) (hp : p < n) : bnd (gBe B p) 43 := by
  obtain ⟨⟨c, hc, ec⟩, -, ⟨b, hb9, eb⟩⟩ := hb p hp
  unfold gBe fBe
  rw [ec, eb]
  obtain rfl | rfl | rfl | rfl | rfl | rfl : c = 0 ∨ c = 1 ∨ c = 2 ∨ c = 3 ∨ c = 4 ∨ c = 5 := by omega
  · show bnd (nI 10 + nI b) 43
    exact ⟨10 + b, by omega, nI_add 10 b⟩
  · show bnd (nI 10 + nI b - nI 5) 43
    exact ⟨10 + b - 5, by omega, by rw [nI_add, pk_sub (by omega)]⟩
  · show bnd (nI 2 * (nI 10 + nI b)) 43
    exact ⟨2 * (10 + b), by omega, by rw [nI_add, pk_mul]⟩
  · show bnd (nI 10 + nI b - nI 5) 43
    exact ⟨10 + b - 5, by omega, by rw [nI_add, pk_sub (by omega)]⟩
  · exact ⟨0, by omega, rfl⟩
  · show bnd (nI 2 * (nI 10 + nI b) + nI 5) 43
    exact ⟨2 * (10 + b) + 5, by omega, by rw [nI_add, pk_mul, nI_add]⟩
theorem gBg_b {B : ae_B} {n g : Nat} (hb : bOk B n) (hg : g + 1 < n) : bnd (gBg B g) 43 := by
  unfold gBg fMn
  split
  · exact gBe_b hb hg
  · exact gBe_b hb (by omega)
/-- what is left of a gap, as a number -/
theorem gLf_i {B : ae_B} {n g : Nat} {w : Nat → Int32} {v t : Int32} (hb : bOk B n) (hw : wOk n w) (hg : g + 1 < n) (hv : bnd v 200) (ht : bnd t 100) : ∃ z : Int, -118 ≤ z ∧ z ≤ 200 ∧ gLf B w g v t = Int32.ofInt z ∧ ∀ x : Nat, v = nI x → x ≤ 200 → z ≤ x ∧ (z < 0 → x < 118) := by
  obtain ⟨a, ha, ea⟩ := (gGr_m hb hw (p := g) (by omega)).1
  obtain ⟨b, hb2, eb⟩ := (gGr_m hb hw (p := g + 1) hg).1
  obtain ⟨x, hx, rfl⟩ := hv
  obtain ⟨y, hy, rfl⟩ := ht
  have e : (nI a + nI b) / 2 = nI ((a + b) / 2) := by
    rw [nI_add]
    exact pk_div (d := 2) (by omega) (by decide) (by decide)
  refine ⟨(x : Int) - ((a + b) / 2 : Nat) - y, by omega, by omega, ?_, ?_⟩
  · unfold gLf
    rw [ea, eb, e, nI_int, nI_int, nI_int, ← Int32.ofInt_sub, ← Int32.ofInt_sub]
  · intro x2 hx2 h3
    have : x = x2 := (nI_eq (by omega) (by omega)).mp hx2
    omega
/-- how much a gap presses, by the sign -/
theorem gPr_i {B : ae_B} {n g : Nat} {w : Nat → Int32} {v t : Int32} (hb : bOk B n) (hw : wOk n w) (hg : g + 1 < n) (hv : bnd v 200) (ht : bnd t 100) : bnd (fMx 0 (- gLf B w g v t)) 118 ∧ (gBg B g < fMx 0 (- gLf B w g v t) ↔ gBg B g < - gLf B w g v t) ∧ (gBg B g < - gLf B w g v t → fMx 0 (- gLf B w g v t) = - gLf B w g v t) ∧ (fMx 0 (- gLf B w g v t) = if gLf B w g v t < 0 then - gLf B w g v t else 0) := by
  obtain ⟨z, h1, h2, e, -⟩ := gLf_i hb hw hg hv ht
  obtain ⟨b, hb2, eb⟩ := gBg_b hb hg
  rw [e, ← Int32.ofInt_neg, eb, nI_int b]
  have q0 : (0 : Int32) = Int32.ofInt 0 := rfl
  have hlt : (0 : Int32) < Int32.ofInt (-z) ↔ z < 0 := by rw [q0, iI_lt (by omega) (by omega) (by omega) (by omega)]; omega
  have hlt2 : Int32.ofInt z < 0 ↔ z < 0 := by rw [q0, iI_lt (by omega) (by omega) (by omega) (by omega)]
  rcases Int.lt_or_le z 0 with q | q
  · have e2 : fMx 0 (Int32.ofInt (-z)) = Int32.ofInt (-z) := if_pos (hlt.mpr q)
    refine ⟨⟨(-z).toNat, by omega, ?_⟩, by rw [e2], fun _ => e2, by rw [e2, if_pos (hlt2.mpr q)]⟩
    rw [e2, nI_int]
    congr 1
    omega
  · have e2 : fMx 0 (Int32.ofInt (-z)) = 0 := if_neg (fun w => by have := hlt.mp w; omega)
    have hb0 : ¬ Int32.ofInt b < Int32.ofInt (-z) := by rw [iI_lt (by omega) (by omega) (by omega) (by omega)]; omega
    refine ⟨⟨0, by omega, by rw [e2]; rfl⟩, ?_, fun w => absurd w hb0, by rw [e2, if_neg (fun w => by have := hlt2.mp w; omega)]⟩
    rw [e2, q0, iI_lt (by omega) (by omega) (by omega) (by omega)]
    exact ⟨fun w => by omega, fun w => absurd w hb0⟩
def vOk (n : Nat) (m : Nat) (v : Nat → Int32) : Prop := ∀ g, g + 1 < n → bnd (v g) m
theorem wN_ok {B : ae_B} {n : Nat} {w : Nat → Int32} {dy : Int32} (hb : bOk B n) (hw : wOk n w) : wOk n (wN B n w dy) := by
  intro p hp
  unfold wN
  rw [if_pos hp]
  exact (clip_wet (hw p hp) (gTk_b w dy hb hp)).2
theorem wD_ok {B : ae_B} {n : Nat} {w : Nat → Int32} {dy : Int32} (hb : bOk B n) (hw : wOk n w) : ∀ d, wOk n (wD B n w dy d)
  | 0 => hw
  | d + 1 => wN_ok hb (wD_ok hb hw d)
theorem wN_fC (B : ae_B) (n : Nat) (w : Nat → Int32) (dy : Int32) : wN B n w dy = fC n (fun p => fMn 100 (w p + gTk B n w dy p)) w := rfl
theorem wD_out {B : ae_B} {n p : Nat} {w : Nat → Int32} {dy : Int32} (hp : n ≤ p) : ∀ d, wD B n w dy d p = w p
  | 0 => rfl
  | d + 1 => by
    show wN B n (wD B n w dy d) _ p = _
    unfold wN
    rw [if_neg (by omega), wD_out hp d]
theorem fC_fC (k : Nat) (X Y f : Nat → Int32) : fC k X (fC k Y f) = fC k X f := by
  funext j
  unfold fC
  split
  · rfl
  · rfl
theorem dyA_n {x k : Nat} (hx : x ≤ 9999) (hk : k ≤ 1000000) : dyA (nI x) k = nI (if x + k < 9999 then x + k else 9999) := by
  unfold dyA fMn
  rw [nI_add]
  by_cases q : x + k < 9999
  · rw [if_pos (show nI (x + k) < 9999 from nI_lt (b := 9999) q (by decide)), if_pos q]
  · rw [if_neg (show ¬ nI (x + k) < 9999 from nI_nlt (b := 9999) (by omega) (by omega)), if_neg q]
    rfl
theorem dyA_0 {x : Nat} (hx : x ≤ 9999) : dyA (nI x) 0 = nI x := by
  rw [dyA_n hx (by omega)]
  congr 1
  split <;> omega
theorem dyA_s {x k : Nat} (hx : x ≤ 9999) (hk : k ≤ 900000) : fMn 9999 (dyA (nI x) k + 1) = dyA (nI x) (k + 1) := by
  have e := dyA_n (x := if x + k < 9999 then x + k else 9999) (k := 1) (by split <;> omega) (by omega)
  rw [dyA_n hx (by omega), dyA_n hx (by omega)]
  unfold dyA at e
  rw [show (nI 1 : Int32) = 1 from rfl] at e
  rw [e]
  congr 1
  repeat' split
  all_goals omega
/-- the rows behind day k -/
def vD (B : ae_B) (n N : Nat) (W : Nat → Nat → Int32) (v s f : Nat → Int32) (k : Nat) : Nat → Int32 := fC (n - 1) (fun g => gWd B N W k g (v g) (s g) (f g)) v
def fD (B : ae_B) (n N : Nat) (W : Nat → Nat → Int32) (v s f : Nat → Int32) (k : Nat) : Nat → Int32 := fC (n - 1) (fun g => if 0 < gGo B N W g (v g) (s g) (f g) ∧ gGo B N W g (v g) (s g) (f g) ≤ k then 0 else f g) f
theorem vD_0 (B : ae_B) (n N : Nat) (W : Nat → Nat → Int32) (v s f : Nat → Int32) : vD B n N W v s f 0 = v := by
  funext j
  unfold vD fC
  split
  · exact gWd_0 _ _ _ _ _ _ _
  · rfl
theorem fD_0 (B : ae_B) (n N : Nat) (W : Nat → Nat → Int32) (v s f : Nat → Int32) : fD B n N W v s f 0 = f := by
  funext j
  unfold fD fC
  split
  · exact if_neg (by omega)
  · rfl
theorem gGN_0 (B : ae_B) (N : Nat) (W : Nat → Nat → Int32) (v s f : Nat → Int32) : ∀ g, gGN B N W v s f 0 g = 0
  | 0 => rfl
  | g + 1 => by rw [gGN, gGN_0 B N W v s f g, ← bI_0 (by omega)]; rfl
theorem gCm_r {B : ae_B} {n N : Nat} {W : Nat → Nat → Int32} {v t f vd : Nat → Int32} {dy nl : Int32} {d : Nat} : ∀ (g : Nat), (∀ j, j < g → vd j = gWd B N W d j (v j) (t j) (f j)) → rCm B n (W d) vd t (dyA dy d) nl g = gCm B n N W v t f dy nl d g
  | 0, _ => rfl
  | g + 1, h => by
    rw [rCm, gCm, gCm_r g (fun j hj => h j (by omega)), show rOp B (W d) vd t g = gOp B N W v t f d g from by unfold rOp gOp gLd; rw [h g (by omega)]]
theorem rON_g {B : ae_B} {N : Nat} {W : Nat → Nat → Int32} {v t f vd : Nat → Int32} {d : Nat} : ∀ (g : Nat), (∀ j, j < g → vd j = gWd B N W d j (v j) (t j) (f j)) → rON B (W d) vd t g = gON B N W v t f d g
  | 0, _ => rfl
  | g + 1, h => by
    rw [rON, gON, rON_g g (fun j hj => h j (by omega)), show rOp B (W d) vd t g = gOp B N W v t f d g from by unfold rOp gOp gLd; rw [h g (by omega)]]
/-- one gap on one day -/
theorem day_gap {B : ae_B} {n N k g : Nat} {W : Nat → Nat → Int32} {v t f : Int32} (hb : bOk B n) (hW : ∀ d, wOk n (W d)) (hg : g + 1 < n) (hv : bnd v 200) (ht : bnd t 100) (hk : k + 1 ≤ N) :
    ((¬ (if 0 < gGo B N W g v t f ∧ gGo B N W g v t f ≤ k then 0 else f) = 0 ∧ gBg B g < fMx 0 (- gLf B (W (k + 1)) g (gWd B N W k g v t f) t)) →
      (0 < gGo B N W g v t f ∧ gGo B N W g v t f ≤ k + 1) ∧ ¬ (0 < gGo B N W g v t f ∧ gGo B N W g v t f ≤ k) ∧ gWd B N W (k + 1) g v t f = gWd B N W k g v t f + fMx 0 (- gLf B (W (k + 1)) g (gWd B N W k g v t f) t) / 4) ∧
    (¬ (¬ (if 0 < gGo B N W g v t f ∧ gGo B N W g v t f ≤ k then 0 else f) = 0 ∧ gBg B g < fMx 0 (- gLf B (W (k + 1)) g (gWd B N W k g v t f) t)) →
      ((0 < gGo B N W g v t f ∧ gGo B N W g v t f ≤ k + 1) ↔ (0 < gGo B N W g v t f ∧ gGo B N W g v t f ≤ k)) ∧ gWd B N W (k + 1) g v t f = gWd B N W k g v t f) := by
  by_cases h1 : 0 < gGo B N W g v t f ∧ gGo B N W g v t f ≤ k
  · rw [if_pos h1]
    have h2 : 0 < gGo B N W g v t f ∧ gGo B N W g v t f ≤ k + 1 := ⟨h1.1, by omega⟩
    refine ⟨fun q => absurd rfl q.1, fun _ => ⟨⟨fun _ => h1, fun _ => h2⟩, ?_⟩⟩
    unfold gWd
    rw [if_pos h1, if_pos h2]
  · rw [if_neg h1]
    have ev : gWd B N W k g v t f = v := by
      unfold gWd
      rw [if_neg h1, Int32.add_zero]
    rw [ev]
    obtain ⟨-, p2, p3, -⟩ := gPr_i hb (hW (k + 1)) hg hv ht
    by_cases hf : f = 0
    · have e0 : gGo B N W g v t f = 0 := if_pos hf
      refine ⟨fun q => absurd hf q.1, fun _ => ⟨by rw [e0]; omega, ?_⟩⟩
      unfold gWd
      rw [e0, if_neg (by omega), Int32.add_zero]
    · have e0 : gGo B N W g v t f = gF (gAt B W g v t) N := if_neg hf
      rw [e0] at h1
      obtain ⟨a1, a2⟩ := gF_at hk h1
      refine ⟨fun q => ?_, fun q => ?_⟩
      · have hA : gAt B W g v t (k + 1) = true := decide_eq_true (p2.mp q.2)
        have e1 := a1 hA
        rw [← e0] at e1
        refine ⟨by rw [e1]; omega, by rw [e1]; omega, ?_⟩
        unfold gWd
        rw [if_pos (by rw [e1]; omega), p3 (p2.mp q.2)]
        congr 1
        unfold gWi
        rw [if_neg (by rw [e1]; omega), e1]
      · have hA : ¬ gAt B W g v t (k + 1) = true := fun w => q ⟨hf, p2.mpr (of_decide_eq_true w)⟩
        have e1 := a2 hA
        rw [← e0] at e1 h1
        refine ⟨⟨fun w => absurd w e1, fun w => absurd w h1⟩, ?_⟩
        unfold gWd
        rw [if_neg e1, Int32.add_zero]
/-- gaps stay in bounds -/
theorem gWd_b {B : ae_B} {n N k g : Nat} {W : Nat → Nat → Int32} {v t f : Int32} (hb : bOk B n) (hW : ∀ d, wOk n (W d)) (hg : g + 1 < n) (hv : bnd v 200) (ht : bnd t 100) : bnd (gWd B N W k g v t f) 200 := by
  unfold gWd
  split
  · next h =>
    unfold gWi
    rw [if_neg (by omega)]
    by_cases hf : f = 0
    · have e0 : gGo B N W g v t f = 0 := if_pos hf
      omega
    · have e0 : gGo B N W g v t f = gF (gAt B W g v t) N := if_neg hf
      have hA : ∀ m, 0 < gF (gAt B W g v t) m → gAt B W g v t (gF (gAt B W g v t) m) = true := by
        intro m
        induction m with
        | zero => intro q; exact absurd q (Nat.lt_irrefl 0)
        | succ m ih =>
          intro q
          unfold gF at q ⊢
          split
          · next e =>
            rw [if_pos e] at q
            split
            · assumption
            · next e2 => rw [if_neg e2] at q; exact absurd q (Nat.lt_irrefl 0)
          · next e => exact ih (by omega)
      have hA := of_decide_eq_true (hA N (by rw [← e0]; exact h.1))
      rw [← e0] at hA
      obtain ⟨z, z1, z2, ez, hz⟩ := gLf_i hb (hW (gGo B N W g v t f)) hg hv ht
      obtain ⟨b, hb2, eb⟩ := gBg_b hb hg
      obtain ⟨x, hx, rfl⟩ := hv
      obtain ⟨h3, h4⟩ := hz x rfl hx
      rw [ez, ← Int32.ofInt_neg, eb, nI_int, iI_lt (by omega) (by omega) (by omega) (by omega)] at hA
      rw [ez, ← Int32.ofInt_neg, show Int32.ofInt (-z) = nI (-z).toNat from by rw [nI_int]; congr 1; omega, show (4 : Int32) = nI 4 from rfl, pk_div (by omega) (by decide) (by decide), nI_add]
      exact ⟨_, by omega, rfl⟩
  · rw [Int32.add_zero]
    exact hv
theorem fMn_alt (x y : Int32) : (if x < y then x else y) = fMn x y := by
  unfold fMn
  by_cases h : x < y
  · rw [if_pos h, if_neg (Int32.not_lt.mpr (Int32.le_of_lt h))]
  · rw [if_neg h]
    by_cases h2 : y < x
    · rw [if_pos h2]
    · rw [if_neg h2]
      exact Int32.le_antisymm (Int32.not_lt.mp h) (Int32.not_lt.mp h2)
section L43
variable {P : ae_P} {σ : Nat → Int32} {α : Nat → Nat → Int32} {z : Int64} {t0 : ae_T} {ts : List ae_T}

theorem ev_Model_pressOf {n : Nat} {B : ae_B} {g : Nat} {zd : Nat} (hM : mOk B n (σ 27) (σ 29) (σ 33) (α 31) (α 32) (α 33) (α 40) (α 41) (α 42)) (hw : wOk n (α 35)) (hg : g + 1 < n) (hv : bnd ((α 36) g) 200) (hs : bnd ((α 37) g) 100) : ae_Ev P (zd + 3) 144 [.ref 46, .int (nI g)] (ae_en σ α z t0 ts) (some (.int (rPr B (α 35) (α 36) (α 37) g))) (ae_en σ α z t0 ts) := by
  obtain ⟨hn, hn10, hs3, hk0, hk1, hk2, hbo, hru⟩ := id hM
  refine aw_evE (cd := cd_Model_pressOf) rfl rfl rfl ?_
  show aw_W _ _ _ _ (0, [some (.ref 46), some (.int (nI g))], []) (ae_en σ α z t0 ts)
  refine aw_go 2 rfl ⟨trivial, trivial, trivial⟩ ?_
  refine aw_callE rfl rfl (ev_Model_leftOf (g := g) hM hw hg) ?_
  show aw_W _ _ _ _ (3, [some (.ref 46), some (.int (nI g))], [.int (gLf B (α 35) g ((α 36) g) ((α 37) g))]) (ae_en σ α z t0 ts)
  refine aw_go 1 rfl ⟨trivial, trivial⟩ ?_
  refine aw_br (c := (0 : Int32) ≤ (gLf B (α 35) g ((α 36) g) ((α 37) g))) (fun h3 => ?_) (fun h3 => ?_)
  · skip
    show aw_W _ _ _ _ (9, [some (.ref 46), some (.int (nI g))], []) (ae_en σ α z t0 ts)
    refine aw_go 1 rfl ⟨trivial, trivial⟩ ?_
    refine aw_ret rfl rfl trivial ?_
    refine ⟨?_, rfl⟩
    rw [rPr, (gPr_i hbo hw hg hv hs).2.2.2, if_neg (Int32.not_lt.mpr h3)]
  · skip
    show aw_W _ _ _ _ (4, [some (.ref 46), some (.int (nI g))], []) (ae_en σ α z t0 ts)
    refine aw_go 2 rfl ⟨trivial, trivial, trivial⟩ ?_
    refine aw_callE rfl rfl (ev_Model_leftOf (g := g) hM hw hg) ?_
    show aw_W _ _ _ _ (7, [some (.ref 46), some (.int (nI g))], [.int (gLf B (α 35) g ((α 36) g) ((α 37) g))]) (ae_en σ α z t0 ts)
    refine aw_go 2 rfl ⟨trivial, trivial, trivial⟩ ?_
    show aw_W _ _ _ _ (10, [some (.ref 46), some (.int (nI g))], [.int (- (gLf B (α 35) g ((α 36) g) ((α 37) g)))]) (ae_en σ α z t0 ts)
    refine aw_ret rfl rfl trivial ?_
    refine ⟨?_, rfl⟩
    rw [rPr, (gPr_i hbo hw hg hv hs).2.2.2, if_pos (Int32.not_le.mp h3)]
theorem lp_keep {zd : Nat}  (k : Nat) (hk : k ≤ 10) : aw_W P (zd) cd_Model_keepNow (fun r H => r = none ∧ H = (ae_en (au σ [(42, (σ 28))]) (au α [(48, fC 10 (α 35) (α 48)), (49, fC 10 (α 36) (α 49)), (50, fC 10 (α 38) (α 50))]) z t0 ts)) (6, [some (.ref 46), some (.int (nI k))], []) (ae_en (au σ [(42, (σ 28))]) (au α [(48, fC k (α 35) (α 48)), (49, fC k (α 36) (α 49)), (50, fC k (α 38) (α 50))]) z t0 ts) := by
  refine aw_go 3 rfl ⟨trivial, trivial, trivial, trivial⟩ ?_
  refine aw_br (c := (10 : Int32) ≤ (nI k)) (fun h8 => ?_) (fun h8 => ?_)
  · skip
    have h8 := cI_leT (a := 10) (b := k) rfl rfl (by omega) (by omega) h8
    show aw_W _ _ _ _ (35, [some (.ref 46), some (.int (nI k))], []) (ae_en (au σ [(42, (σ 28))]) (au α [(48, fC k (α 35) (α 48)), (49, fC k (α 36) (α 49)), (50, fC k (α 38) (α 50))]) z t0 ts)
    have e8 : k = 10 := by omega
    refine aw_ret rfl rfl trivial ?_
    rw [e8]
    exact ⟨rfl, rfl⟩
  · skip
    have h8 := cI_leF (a := 10) (b := k) rfl rfl (by omega) (by omega) h8
    show aw_W _ _ _ _ (9, [some (.ref 46), some (.int (nI k))], []) (ae_en (au σ [(42, (σ 28))]) (au α [(48, fC k (α 35) (α 48)), (49, fC k (α 36) (α 49)), (50, fC k (α 38) (α 50))]) z t0 ts)
    refine aw_go 26 rfl ⟨trivial, trivial, trivial, trivial, trivial, trivial, (cI_in (a := k) rfl (by omega) (by decide)), (cI_in (a := k) rfl (by omega) (by decide)), trivial, trivial, trivial, trivial, trivial, trivial, (cI_in (a := k) rfl (by omega) (by decide)), (cI_in (a := k) rfl (by omega) (by decide)), trivial, trivial, trivial, trivial, trivial, trivial, (cI_in (a := k) rfl (by omega) (by decide)), (cI_in (a := k) rfl (by omega) (by decide)), trivial, trivial, trivial⟩ ?_
    show aw_W _ _ _ _ (6, [some (.ref 46), some (.int ((nI k) + 1))], []) (ae_en (au σ [(42, (σ 28))]) (au α [(48, upd (fC k (α 35) (α 48)) (nI k).toNatClampNeg (α 35 (nI k).toNatClampNeg)), (49, upd (fC k (α 36) (α 49)) (nI k).toNatClampNeg (α 36 (nI k).toNatClampNeg)), (50, upd (fC k (α 38) (α 50)) (nI k).toNatClampNeg (α 38 (nI k).toNatClampNeg))]) z t0 ts)
    rw [show (nI k).toNatClampNeg = k from cI_cl (a := k) rfl (by omega)]
    rw [show (nI k) + 1 = nI (k + 1) from (cI_add (a := k) (b := 1) rfl rfl)]
    rw [fC_s (X := α 35) (f := α 48) rfl, fC_s (X := α 36) (f := α 49) rfl, fC_s (X := α 38) (f := α 50) rfl]
    exact lp_keep (k + 1) (by omega)
termination_by 10 - k
decreasing_by all_goals omega
theorem ev_Model_keepNow  {zd : Nat}  : aw_X P (zd + 1) 149 [.ref 46] (ae_en σ α z t0 ts) (fun r H => r = none ∧ H = (ae_en (au σ [(42, (σ 28))]) (au α [(48, fC 10 (α 35) (α 48)), (49, fC 10 (α 36) (α 49)), (50, fC 10 (α 38) (α 50))]) z t0 ts)) := by
  refine aw_ev (cd := cd_Model_keepNow) rfl rfl rfl ?_
  show aw_W _ _ _ _ (0, [some (.ref 46), none], []) (ae_en σ α z t0 ts)
  refine aw_go 6 rfl ⟨trivial, trivial, trivial, trivial, trivial, trivial, trivial⟩ ?_
  show aw_W _ _ _ _ (6, [some (.ref 46), some (.int 0)], []) (ae_en (au σ [(42, σ 28)]) α z t0 ts)
  exact aw_to (lp_keep 0 (by decide)) rfl (by rw [fC_0, fC_0, fC_0]; rfl)
theorem lp_layBack {zd : Nat}  (k : Nat) (hk : k ≤ 10) : aw_W P (zd) cd_Model_layBack (fun r H => r = none ∧ H = (ae_en (au σ [(28, (σ 42))]) (au α [(35, fC 10 (α 48) (α 35)), (36, fC 10 (α 49) (α 36)), (38, fC 10 (α 50) (α 38))]) z t0 ts)) (6, [some (.ref 46), some (.int (nI k))], []) (ae_en (au σ [(28, (σ 42))]) (au α [(35, fC k (α 48) (α 35)), (36, fC k (α 49) (α 36)), (38, fC k (α 50) (α 38))]) z t0 ts) := by
  refine aw_go 3 rfl ⟨trivial, trivial, trivial, trivial⟩ ?_
  refine aw_br (c := (10 : Int32) ≤ (nI k)) (fun h8 => ?_) (fun h8 => ?_)
  · skip
    have h8 := cI_leT (a := 10) (b := k) rfl rfl (by omega) (by omega) h8
    show aw_W _ _ _ _ (35, [some (.ref 46), some (.int (nI k))], []) (ae_en (au σ [(28, (σ 42))]) (au α [(35, fC k (α 48) (α 35)), (36, fC k (α 49) (α 36)), (38, fC k (α 50) (α 38))]) z t0 ts)
    have e8 : k = 10 := by omega
    refine aw_ret rfl rfl trivial ?_
    rw [e8]
    exact ⟨rfl, rfl⟩
  · skip
    have h8 := cI_leF (a := 10) (b := k) rfl rfl (by omega) (by omega) h8
    show aw_W _ _ _ _ (9, [some (.ref 46), some (.int (nI k))], []) (ae_en (au σ [(28, (σ 42))]) (au α [(35, fC k (α 48) (α 35)), (36, fC k (α 49) (α 36)), (38, fC k (α 50) (α 38))]) z t0 ts)
    refine aw_go 26 rfl ⟨trivial, trivial, trivial, trivial, trivial, trivial, (cI_in (a := k) rfl (by omega) (by decide)), (cI_in (a := k) rfl (by omega) (by decide)), trivial, trivial, trivial, trivial, trivial, trivial, (cI_in (a := k) rfl (by omega) (by decide)), (cI_in (a := k) rfl (by omega) (by decide)), trivial, trivial, trivial, trivial, trivial, trivial, (cI_in (a := k) rfl (by omega) (by decide)), (cI_in (a := k) rfl (by omega) (by decide)), trivial, trivial, trivial⟩ ?_
    show aw_W _ _ _ _ (6, [some (.ref 46), some (.int ((nI k) + 1))], []) (ae_en (au σ [(28, (σ 42))]) (au α [(35, upd (fC k (α 48) (α 35)) (nI k).toNatClampNeg (α 48 (nI k).toNatClampNeg)), (36, upd (fC k (α 49) (α 36)) (nI k).toNatClampNeg (α 49 (nI k).toNatClampNeg)), (38, upd (fC k (α 50) (α 38)) (nI k).toNatClampNeg (α 50 (nI k).toNatClampNeg))]) z t0 ts)
    rw [show (nI k).toNatClampNeg = k from cI_cl (a := k) rfl (by omega)]
    rw [show (nI k) + 1 = nI (k + 1) from (cI_add (a := k) (b := 1) rfl rfl)]
    rw [fC_s (X := α 48) (f := α 35) rfl, fC_s (X := α 49) (f := α 36) rfl, fC_s (X := α 50) (f := α 38) rfl]
    exact lp_layBack (k + 1) (by omega)
termination_by 10 - k
decreasing_by all_goals omega
theorem ev_Model_layBack  {zd : Nat}  : aw_X P (zd + 1) 150 [.ref 46] (ae_en σ α z t0 ts) (fun r H => r = none ∧ H = (ae_en (au σ [(28, (σ 42))]) (au α [(35, fC 10 (α 48) (α 35)), (36, fC 10 (α 49) (α 36)), (38, fC 10 (α 50) (α 38))]) z t0 ts)) := by
  refine aw_ev (cd := cd_Model_layBack) rfl rfl rfl ?_
  show aw_W _ _ _ _ (0, [some (.ref 46), none], []) (ae_en σ α z t0 ts)
  refine aw_go 6 rfl ⟨trivial, trivial, trivial, trivial, trivial, trivial, trivial⟩ ?_
  show aw_W _ _ _ _ (6, [some (.ref 46), some (.int 0)], []) (ae_en (au σ [(28, σ 42)]) α z t0 ts)
  exact aw_to (lp_layBack 0 (by decide)) rfl (by rw [fC_0, fC_0, fC_0]; rfl)
end L43
