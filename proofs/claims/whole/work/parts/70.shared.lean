/-! class and reference side by side: what they share -/
theorem fB_M (z : Int64) (i : Nat) (hi : i < 8) : fBm z i = fB z i := by
  have key : ∀ (k : Nat) (a : Int64) (b : UInt64), k ≤ 56 → a.toBitVec = z.toBitVec.sshiftRight k → b.toBitVec = z.toUInt64.toBitVec >>> k → a.toInt32.toInt8 = b.toInt64.toInt32.toInt8 := by
    intro k a b hk h1 h2
    apply Int8.toBitVec_inj.mp
    rw [Int32.toBitVec_toInt8, Int32.toBitVec_toInt8, Int64.toBitVec_toInt32, Int64.toBitVec_toInt32, UInt64.toBitVec_toInt64, h1, h2, Int64.toBitVec_toUInt64]
    apply BitVec.eq_of_getLsbD_eq
    intro j hj
    have e2 : k + j < 64 := by omega
    have e3 : j < 32 := by omega
    have e4 : j < 64 := by omega
    have e5 : ¬ 64 ≤ j := by omega
    simp only [BitVec.getLsbD_signExtend, BitVec.getLsbD_sshiftRight, BitVec.getLsbD_ushiftRight, hj, e2, e3, e4, e5, decide_true, decide_false, Bool.true_and, Bool.not_false, if_true]
  unfold fB fBm
  refine congrArg Int8.toInt32 ?_
  obtain rfl | rfl | rfl | rfl | rfl | rfl | rfl | rfl : i = 0 ∨ i = 1 ∨ i = 2 ∨ i = 3 ∨ i = 4 ∨ i = 5 ∨ i = 6 ∨ i = 7 := by omega
  · exact key 0 _ _ (by omega) (Int64.toBitVec_shiftRight ..) (UInt64.toBitVec_shiftRight ..)
  · exact key 8 _ _ (by omega) (Int64.toBitVec_shiftRight ..) (UInt64.toBitVec_shiftRight ..)
  · exact key 16 _ _ (by omega) (Int64.toBitVec_shiftRight ..) (UInt64.toBitVec_shiftRight ..)
  · exact key 24 _ _ (by omega) (Int64.toBitVec_shiftRight ..) (UInt64.toBitVec_shiftRight ..)
  · exact key 32 _ _ (by omega) (Int64.toBitVec_shiftRight ..) (UInt64.toBitVec_shiftRight ..)
  · exact key 40 _ _ (by omega) (Int64.toBitVec_shiftRight ..) (UInt64.toBitVec_shiftRight ..)
  · exact key 48 _ _ (by omega) (Int64.toBitVec_shiftRight ..) (UInt64.toBitVec_shiftRight ..)
  · exact key 56 _ _ (by omega) (Int64.toBitVec_shiftRight ..) (UInt64.toBitVec_shiftRight ..)
theorem fd_cg {f g : Nat → Int32} {zz : Int64} {s : Nat} (h : ∀ j, j < s → g j = f j) : ∀ N, N ≤ 8 → ∀ j, j < s + N → fdM g zz s N j = fdR f zz s N j
  | 0, _, j, hj => h j hj
  | N + 1, hN, j, hj => by
    rw [fdM, fdR]
    by_cases e : j = s + N
    · rw [e, upd_eq, upd_eq, fB_M zz N (by omega)]
    · rw [upd_ne e, upd_ne e]
      exact fd_cg h N (by omega) j (by omega)
theorem nV_cg {f g : Nat → Int32} {p : Nat} : ∀ k, (∀ j, j < p + k → f j = g j) → nV f p k = nV g p k
  | 0, _ => rfl
  | k + 1, h => by rw [nV, nV, nV_cg k (fun j hj => h j (by omega)), h (p + k) (by omega)]
theorem wMp_cg {f g : Nat → Int32} {p len : Nat} (h : ∀ j, j < p + len → f j = g j) (k : Nat) : wMp f p len k ↔ wMp g p len k := by
  constructor
  · rintro ⟨h1, h2⟩
    exact ⟨h1, fun j hj => by rw [← h (p + j) (by omega)]; exact h2 j hj⟩
  · rintro ⟨h1, h2⟩
    exact ⟨h1, fun j hj => by rw [h (p + j) (by omega)]; exact h2 j hj⟩
theorem tW_cg {f g : Nat → Int32} {p len : Nat} (h : ∀ j, j < p + len → f j = g j) : tW f p len = tW g p len := by
  have e := fun k => propext (wMp_cg h k)
  unfold tW
  simp only [e]
theorem rE_cg {c : Int32 → Bool} {f g : Nat → Int32} {s : Nat} (h : ∀ j, j < s → f j = g j) : ∀ m p, rE c f s m p = rE c g s m p
  | 0, _ => rfl
  | m + 1, p => by
    unfold rE
    by_cases q : p < s
    · rw [h p q, rE_cg h m]
    · rw [if_neg (fun w => q w.1), if_neg (fun w => q w.1)]
theorem tkN_cg {f g : Nat → Int32} {p e : Nat} (h : ∀ j, j < e → f j = g j) (hp : p ≤ e) : tkN f p e = tkN g p e := by
  unfold tkN
  rw [nV_cg (f := f) (g := g) (e - p) (fun j hj => h j (by omega))]
theorem lx_cg {f g : Nat → Int32} {s : Nat} (h : ∀ j, j < s → f j = g j) : ∀ m p, lx f s m p = lx g s m p
  | 0, _ => rfl
  | m + 1, p => by
    rw [lx, lx]
    by_cases q : p < s
    · rw [if_pos q, if_pos q, h p q, rE_cg h, rE_cg h]
      have r1 := rE_le (fun b => decide (isD b)) g s 160 p (by omega)
      have r2 := rE_le (fun b => decide (isL b)) g s 160 p (by omega)
      have r3 := rE_ge (fun b => decide (isD b)) g s 160 p
      have r4 := rE_ge (fun b => decide (isL b)) g s 160 p
      rw [lx_cg h m, lx_cg h m, lx_cg h m, tkN_cg (f := f) (g := g) (fun j hj => h j (by omega)) r3, tW_cg (f := f) (g := g) (fun j hj => h j (by omega))]
    · rw [if_neg q, if_neg q]
/-- bounds of rows -/
def kOk (a : Nat → Int32) : Prop := ∀ j, ∃ c : Nat, c < 6 ∧ a j = nI c
def bA (m : Nat) (a : Nat → Int32) : Prop := ∀ j, bnd (a j) m
theorem bA_upd {m k : Nat} {a : Nat → Int32} {x : Int32} (h : bA m a) (hx : bnd x m) : bA m (upd a k x) := by
  intro j
  by_cases e : j = k
  · rw [e, upd_eq]; exact hx
  · rw [upd_ne e]; exact h j
theorem bA_fC {m k : Nat} {X a : Nat → Int32} (h : bA m a) (hX : ∀ j, j < k → bnd (X j) m) : bA m (fC k X a) := by
  intro j
  rcases Nat.lt_or_ge j k with q | q
  · rw [fC_lt q]; exact hX j q
  · rw [fC_at q]; exact h j
theorem bA_0 (m : Nat) : bA m (fun _ => 0) := fun _ => ⟨0, Nat.zero_le _, rfl⟩
theorem inR_b {m : Nat} {v : Int32} (hm : m < 1000000) (h : inR (nI m) v) : bnd v m := by
  obtain ⟨j, hj, rfl⟩ := nI_of h.1
  exact ⟨j, by have := h.2; rw [nI_ltI (by omega) hj] at this; omega, rfl⟩
theorem pCh_b {n m : Nat} {r : Nat → Int32} {o v : Int32} (hm : m < 1000000) (h : bA m r) : bA m (pCh n (nI m) r o v).2 := by
  unfold pCh
  split
  · next q => exact bA_upd h (inR_b hm q.2)
  · exact h
theorem pPlank_ok {n : Nat} {q : ae_S6} {k x m : Int32} (h1 : kOk q.1) (h2 : bA 300 q.2.1) (h3 : bA 9 q.2.2.1) (h4 : bA 100 q.2.2.2.1) (h5 : bA 200 q.2.2.2.2.1) : n ≤ (pPlank n q k x m).2.1 ∧ kOk (pPlank n q k x m).2.2.1 ∧ bA 300 (pPlank n q k x m).2.2.2.1 ∧ bA 9 (pPlank n q k x m).2.2.2.2.1 ∧ bA 100 (pPlank n q k x m).2.2.2.2.2.1 ∧ bA 200 (pPlank n q k x m).2.2.2.2.2.2.1 := by
  unfold pPlank
  split
  · next ok =>
    obtain ⟨o1, o2, o3, o4, o5, o6, o7⟩ := ok
    unfold pApp
    split
    · exact ⟨Nat.le_refl _, h1, h2, h3, h4, h5⟩
    · obtain ⟨c, hc, rfl⟩ := iP_of o1 (by decide)
      obtain ⟨a, ha, rfl⟩ := nI_of o2
      obtain ⟨b, hb, rfl⟩ := nI_of o3
      have d1 : nI a / 1000 = nI (a / 1000) := pk_div (d := 1000) ha (by decide) (by decide)
      have d2 : nI b / 10 = nI (b / 10) := pk_div (d := 10) hb (by decide) (by decide)
      have m1 : nI a - nI a / 1000 * 1000 = nI (a - a / 1000 * 1000) := by
        rw [d1, show (1000 : Int32) = nI 1000 from rfl, pk_mul]
        exact pk_sub (by omega)
      have m2 : nI b - nI b / 10 * 10 = nI (b - b / 10 * 10) := by
        rw [d2, show (10 : Int32) = nI 10 from rfl, pk_mul]
        exact pk_sub (by omega)
      rw [m1, m2, d1, d2]
      refine ⟨Nat.le_succ n, ?_, bA_upd h2 ?_, bA_upd h3 ⟨_, by omega, rfl⟩, bA_upd h4 ?_, ?_⟩
      · intro j
        by_cases e : j = n
        · show ∃ c', c' < 6 ∧ upd q.1 n (nI c) j = nI c'
          rw [e, upd_eq]; exact ⟨c, hc, rfl⟩
        · show ∃ c', c' < 6 ∧ upd q.1 n (nI c) j = nI c'
          rw [upd_ne e]; exact h1 j
      · refine ⟨_, ?_, rfl⟩
        have : ¬ nI 300 < nI (a - a / 1000 * 1000) := by rw [← m1]; exact o6
        rw [nI_ltI (by omega) (by omega)] at this
        omega
      · refine ⟨_, ?_, rfl⟩
        have : ¬ nI 100 < nI (a / 1000) := by rw [← d1]; exact o4
        rw [nI_ltI (by omega) (by omega)] at this
        omega
      · show bA 200 (if n = 0 then q.2.2.2.2.1 else upd q.2.2.2.2.1 (n - 1) (nI (b / 10)))
        split
        · exact h5
        · refine bA_upd h5 ⟨_, ?_, rfl⟩
          have : ¬ nI 200 < nI (b / 10) := by rw [← d2]; exact o7
          rw [nI_ltI (by omega) (by omega)] at this
          omega
  · exact ⟨Nat.le_refl _, h1, h2, h3, h4, h5⟩
def pOk6 (n : Nat) (q : Nat × ae_S6) : Prop := n ≤ q.1 ∧ q.1 ≤ 10 ∧ kOk q.2.1 ∧ bA 300 q.2.2.1 ∧ bA 9 q.2.2.2.1 ∧ bA 100 q.2.2.2.2.1 ∧ bA 200 q.2.2.2.2.2.1
theorem pPlank_6 {n : Nat} {q : Nat × ae_S6} {k x m : Int32} (h : pOk6 n q) : pOk6 n (pPlank q.1 q.2 k x m).2 := by
  obtain ⟨h0, h10, h1, h2, h3, h4, h5⟩ := h
  obtain ⟨g0, g⟩ := pPlank_ok (n := q.1) (q := q.2) (k := k) (x := x) (m := m) h1 h2 h3 h4 h5
  exact ⟨Nat.le_trans h0 g0, pPlank_n h10, g⟩
theorem pPks_6 {it : Nat → Int32} {m n : Nat} {fr : Int32} : ∀ (r k : Nat) (c : Int32) (q : Nat × ae_S6), pOk6 n q → pOk6 n (pPks it m fr r k c q).2
  | 0, _, _, _, h => h
  | r + 1, k, c, q, h => by
    rw [pPks]
    split
    · exact pPks_6 r (k + 1) _ _ (pPlank_6 h)
    · exact h
theorem pPlanks_6 {it : Nat → Int32} {m n : Nat} {so s fr x : Int32} {q : Nat × ae_S6} (h : pOk6 n q) : pOk6 n (pPlanks it m so s fr x q).2 := by
  unfold pPlanks
  split
  · exact h
  · split
    · exact h
    · split
      · exact h
      · exact pPks_6 _ _ _ _ h
theorem pPks_cg {it it2 : Nat → Int32} {m : Nat} {fr : Int32} (h : ∀ j, j < m → it2 j = it j) : ∀ (r k : Nat) (c : Int32) (q : Nat × ae_S6), pPks it2 m fr r k c q = pPks it m fr r k c q
  | 0, _, _, _ => rfl
  | r + 1, k, c, q => by
    rw [pPks, pPks]
    by_cases e : hHo m (fr + 3 * nI k) 3
    · have e3 : (fr + 3 * nI k).toNatClampNeg + 3 ≤ m := e.2.2
      rw [if_pos e, if_pos e, h _ (by omega), h _ (by omega), h _ (by omega), pPks_cg h]
    · rw [if_neg e, if_neg e]
theorem pPlanks_cg {it it2 : Nat → Int32} {m : Nat} {so s fr x : Int32} {q : Nat × ae_S6} (h : ¬ so = -1 → ∀ j, j < m → it2 j = it j) : pPlanks it2 m so s fr x q = pPlanks it m so s fr x q := by
  unfold pPlanks
  split
  · rfl
  · split
    · rfl
    · split
      · rfl
      · next e => rw [pPks_cg (h e)]
theorem pSet_b {n : Nat} {q : ae_S5} {what o v : Int32} (h1 : bA 100 q.1.1) (h2 : bA 99 q.1.2.1) (h3 : bA 200 q.1.2.2.1) (h4 : bA 100 q.1.2.2.2.1) : bA 100 (pSet n q what o v).2.1.1 ∧ bA 99 (pSet n q what o v).2.1.2.1 ∧ bA 200 (pSet n q what o v).2.1.2.2.1 ∧ bA 100 (pSet n q what o v).2.1.2.2.2.1 := by
  unfold pSet
  repeat' split
  · exact ⟨pCh_b (m := 100) (by omega) h1, h2, h3, h4⟩
  · exact ⟨h1, pCh_b (m := 99) (by omega) h2, h3, h4⟩
  · exact ⟨h1, h2, pCh_b (m := 200) (by omega) h3, h4⟩
  · exact ⟨h1, h2, h3, pCh_b (m := 100) (by omega) h4⟩
  · exact ⟨h1, h2, h3, h4⟩
  · exact ⟨h1, h2, h3, h4⟩
  · exact ⟨h1, h2, h3, h4⟩
  · exact ⟨h1, h2, h3, h4⟩
