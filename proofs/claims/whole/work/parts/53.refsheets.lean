/-! the reference: sheets, what is fed -/
/-- sorts, sizes, items -/
abbrev ae_SM3 : Type := (Nat → Int32) × (Nat → Int32) × (Nat → Int32)
def zF (s k : Nat) (f : Nat → Int32) : Nat → Int32 := fun j => if s ≤ j ∧ j < s + k then 0 else f j
theorem zF_0 (s : Nat) (f : Nat → Int32) : zF s 0 f = f := funext fun j => if_neg (by omega)
theorem zF_s (s k : Nat) (f : Nat → Int32) : upd (zF s k f) (s + k) 0 = zF s (k + 1) f := by
  funext j
  unfold upd zF
  by_cases e : j = s + k
  · rw [if_pos e, if_pos (by omega)]
  · rw [if_neg e]
    by_cases q : s ≤ j ∧ j < s + k
    · rw [if_pos q, if_pos (by omega)]
    · rw [if_neg q, if_neg (by omega)]
def pSheetM (c : Nat) (s n : Int32) (q : ae_SM3) : Int32 × ae_SM3 :=
  if s < -1 ∨ 2 < s then (-2, q) else if s = -1 then (1, upd q.1 c (-1), q.2) else if 40 < n then (-2, q) else if n < 0 then (-14, q) else (1, upd q.1 c s, upd q.2.1 c n, zF (40 * c) n.toNatClampNeg q.2.2)
def pCellM (c m : Nat) (i v : Int32) (a56 a58 : Nat → Int32) : Int32 × (Nat → Int32) :=
  if a56 c < 0 then (-11, a58) else if iP m i then (1, upd a58 (40 * c + i.toNatClampNeg) (cSt (a56 c) v)) else (-12, a58)
def pCopyM (c c2 m m2 : Nat) (i j n : Int32) (a56 a58 : Nat → Int32) : Int32 × (Nat → Int32) :=
  if a56 c < 0 ∨ a56 c2 < 0 then (-11, a58) else if ¬ a56 c = a56 c2 then (-13, a58) else if hHo m i n ∧ hHo m2 j n then (n, va_cpy a58 a58 (40 * c + i.toNatClampNeg) (40 * c2 + j.toNatClampNeg) n.toNatClampNeg) else (-12, a58)
theorem cpy_s (f g : Nat → Int32) (s d k : Nat) : upd (va_cpy f g s d k) (d + k) (f (s + k)) = va_cpy f g s d (k + 1) := by
  funext j
  unfold upd va_cpy
  by_cases e : j = d + k
  · rw [if_pos e, if_pos (by omega), e, show d + k - d = k by omega]
  · rw [if_neg e]
    by_cases q : d ≤ j ∧ j < d + k
    · rw [if_pos q, if_pos (by omega)]
    · rw [if_neg q, if_neg (by omega)]
theorem cpy_0 (f g : Nat → Int32) (s d : Nat) : va_cpy f g s d 0 = g := funext fun j => if_neg (by omega)
/-- the byte of a long, the reference's way -/
def fBm (z : Int64) (i : Nat) : Int32 := ((z >>> ((8 * nI i).toInt64 &&& 63)).toInt32).toInt8.toInt32
def fdM (f : Nat → Int32) (z : Int64) (s : Nat) : Nat → Nat → Int32
  | 0 => f
  | k + 1 => upd (fdM f z s k) (s + k) (fBm z k)
theorem sh_in {s : Int32} : (¬ s < -1 ∧ ¬ 2 < s) ↔ ¬ (s < -1 ∨ 2 < s) := by
  constructor
  · rintro ⟨h1, h2⟩ (q | q)
    · exact h1 q
    · exact h2 q
  · intro h
    exact ⟨fun q => h (Or.inl q), fun q => h (Or.inr q)⟩
section L53
variable {P : ae_P} {σ : Nat → Int32} {α : Nat → Nat → Int32} {z : Int64} {t0 : ae_T} {ts : List ae_T}

theorem ev_Model_isSheet {s : Int32} {zd : Nat}  : ae_Ev P (zd + 2) 172 [.int s] (ae_en σ α z t0 ts) (some (.int (bI (iP 4 s)))) (ae_en σ α z t0 ts) := by
  refine aw_evE (cd := cd_Model_isSheet) rfl rfl rfl ?_
  show aw_W _ _ _ _ (0, [some (.int s)], []) (ae_en σ α z t0 ts)
  refine aw_go 3 rfl ⟨trivial, trivial, trivial, trivial⟩ ?_
  refine aw_callE rfl rfl (em_in (v := s) (a := 0) (b := 3)) ?_
  show aw_W _ _ _ _ (4, [some (.int s)], [.int (bI (¬ s < 0 ∧ ¬ 3 < s))]) (ae_en σ α z t0 ts)
  refine aw_ret rfl rfl (bI_b _) ?_
  refine ⟨?_, rfl⟩
  exact congrArg (fun q => some (Value.int q)) (bI_iff (iP_in (m := 3) (by decide)))
theorem lp_mSheet_0 {zd : Nat} {s : Int32} {N : Nat} (hN : N ≤ 40) (k : Nat) (hk : k ≤ N) : aw_W P (zd) cd_Model_sheet (fun r H => r = some (.int 1) ∧ H = ae_en σ (au α [(56, upd (α 56) 0 s), (57, upd (α 57) 0 (nI N)), (58, zF (40 * 0) N (α 58))]) z t0 ts) (41, [some (.ref 46), some (.int 0), some (.int s), some (.int (nI N)), some (.int (nI k))], []) (ae_en σ (au α [(56, (upd (α 56) 0 s)), (57, (upd (α 57) 0 (nI N))), (58, (zF (40 * 0) k (α 58)))]) z t0 ts) := by
  refine aw_go 3 rfl ⟨trivial, trivial, trivial, trivial⟩ ?_
  refine aw_br (c := (nI N) ≤ (nI k)) (fun h43 => ?_) (fun h43 => ?_)
  · skip
    have h43 := cI_leT (a := N) (b := k) rfl rfl (by omega) (by omega) h43
    show aw_W _ _ _ _ (55, [some (.ref 46), some (.int 0), some (.int s), some (.int (nI N)), some (.int (nI k))], []) (ae_en σ (au α [(56, (upd (α 56) 0 s)), (57, (upd (α 57) 0 (nI N))), (58, (zF (40 * 0) k (α 58)))]) z t0 ts)
    have e8 : k = N := by omega
    refine aw_go 1 rfl ⟨trivial, trivial⟩ ?_
    refine aw_ret rfl rfl trivial ?_
    rw [e8]
    exact ⟨rfl, rfl⟩
  · skip
    have h43 := cI_leF (a := N) (b := k) rfl rfl (by omega) (by omega) h43
    show aw_W _ _ _ _ (44, [some (.ref 46), some (.int 0), some (.int s), some (.int (nI N)), some (.int (nI k))], []) (ae_en σ (au α [(56, (upd (α 56) 0 s)), (57, (upd (α 57) 0 (nI N))), (58, (zF (40 * 0) k (α 58)))]) z t0 ts)
    refine aw_go 11 rfl ⟨trivial, trivial, trivial, trivial, trivial, trivial, trivial, trivial, (cI_in (a := (40 * 0) + k) (cI_add (a := 40 * 0) (b := k) (cI_mul (a := 40) (b := 0) rfl rfl) rfl) (by omega) (by decide)), trivial, trivial, trivial⟩ ?_
    show aw_W _ _ _ _ (41, [some (.ref 46), some (.int 0), some (.int s), some (.int (nI N)), some (.int ((nI k) + 1))], []) (ae_en σ (au α [(56, (upd (α 56) 0 s)), (57, (upd (α 57) 0 (nI N))), (58, upd (zF (40 * 0) k (α 58)) ((40 * 0) + (nI k)).toNatClampNeg 0)]) z t0 ts)
    rw [show ((40 * 0) + (nI k)).toNatClampNeg = (40 * 0) + k from cI_cl (a := (40 * 0) + k) (cI_add (a := 40 * 0) (b := k) (cI_mul (a := 40) (b := 0) rfl rfl) rfl) (by omega)]
    rw [show (nI k) + 1 = nI (k + 1) from (cI_add (a := k) (b := 1) rfl rfl)]
    rw [show 0 + k = 40 * 0 + k from rfl, zF_s]
    exact lp_mSheet_0 hN (k + 1) (by omega)
termination_by N - k
decreasing_by all_goals omega
theorem em_sheet_0 {s n : Int32} {zd : Nat}  : aw_X P (zd + 3) 173 [.ref 46, .int 0, .int s, .int n] (ae_en σ α z t0 ts) (fun r H => r = some (.int ((pSheetM 0 s n (α 56, α 57, α 58)).1)) ∧ H = (ae_en σ (au α [(56, (pSheetM 0 s n (α 56, α 57, α 58)).2.1), (57, (pSheetM 0 s n (α 56, α 57, α 58)).2.2.1), (58, (pSheetM 0 s n (α 56, α 57, α 58)).2.2.2)]) z t0 ts)) := by
  refine aw_ev (cd := cd_Model_sheet) rfl rfl rfl ?_
  show aw_W _ _ _ _ (0, [some (.ref 46), some (.int 0), some (.int s), some (.int n), none], []) (ae_en σ α z t0 ts)
  refine aw_go 1 rfl ⟨trivial, trivial⟩ ?_
  refine aw_callE rfl rfl (ev_Model_isSheet (s := 0)) ?_
  show aw_W _ _ _ _ (2, [some (.ref 46), some (.int 0), some (.int s), some (.int n), none], [.int (bI (iP 4 0))]) (ae_en σ α z t0 ts)
  refine aw_go 1 rfl ⟨trivial, trivial⟩ ?_
  refine aw_br (c := (bI (iP 4 0)) = 0) (fun h2 => ?_) (fun h2 => ?_)
  · skip
    have h2 := bI_f h2
    show aw_W _ _ _ _ (8, [some (.ref 46), some (.int 0), some (.int s), some (.int n), none], []) (ae_en σ α z t0 ts)
    exact absurd h2 (by decide)
  · skip
    have h2 := bI_t h2
    show aw_W _ _ _ _ (3, [some (.ref 46), some (.int 0), some (.int s), some (.int n), none], []) (ae_en σ α z t0 ts)
    refine aw_go 3 rfl ⟨trivial, trivial, trivial, trivial⟩ ?_
    refine aw_callE rfl rfl (em_in (v := s) (a := (-1)) (b := 2)) ?_
    show aw_W _ _ _ _ (7, [some (.ref 46), some (.int 0), some (.int s), some (.int n), none], [.int (bI (¬ s < (-1) ∧ ¬ 2 < s))]) (ae_en σ α z t0 ts)
    refine aw_go 1 rfl ⟨trivial, trivial⟩ ?_
    refine aw_br (c := ¬ (bI (¬ s < (-1) ∧ ¬ 2 < s)) = 0) (fun h7 => ?_) (fun h7 => ?_)
    · skip
      have h7 := bI_t h7
      show aw_W _ _ _ _ (10, [some (.ref 46), some (.int 0), some (.int s), some (.int n), none], []) (ae_en σ α z t0 ts)
      refine aw_go 3 rfl ⟨trivial, trivial, trivial, trivial⟩ ?_
      refine aw_br (c := ¬ s = (-1)) (fun h12 => ?_) (fun h12 => ?_)
      · skip
        show aw_W _ _ _ _ (20, [some (.ref 46), some (.int 0), some (.int s), some (.int n), none], []) (ae_en σ α z t0 ts)
        refine aw_go 3 rfl ⟨trivial, trivial, trivial, trivial⟩ ?_
        refine aw_br (c := n ≤ 40) (fun h22 => ?_) (fun h22 => ?_)
        · skip
          show aw_W _ _ _ _ (25, [some (.ref 46), some (.int 0), some (.int s), some (.int n), none], []) (ae_en σ α z t0 ts)
          refine aw_go 2 rfl ⟨trivial, trivial, trivial⟩ ?_
          refine aw_br (c := (0 : Int32) ≤ n) (fun h26 => ?_) (fun h26 => ?_)
          · skip
            show aw_W _ _ _ _ (29, [some (.ref 46), some (.int 0), some (.int s), some (.int n), none], []) (ae_en σ α z t0 ts)
            refine aw_go 12 rfl ⟨trivial, trivial, trivial, trivial, (cI_in (a := 0) rfl (by omega) (by decide)), trivial, trivial, trivial, trivial, (cI_in (a := 0) rfl (by omega) (by decide)), trivial, trivial, trivial⟩ ?_
            show aw_W _ _ _ _ (41, [some (.ref 46), some (.int 0), some (.int s), some (.int n), some (.int 0)], []) (ae_en σ (au α [(56, upd (α 56) (0 : Int32).toNatClampNeg s), (57, upd (α 57) (0 : Int32).toNatClampNeg n)]) z t0 ts)
            rw [show (0 : Int32).toNatClampNeg = 0 from cI_cl (a := 0) rfl (by omega)]
            obtain ⟨N, hN, rfl⟩ := nI_of2 (M := 40) (n := 40) rfl (Int32.not_lt.mpr h26) h22
            rw [pSheetM, if_neg (sh_in.mp h7), if_neg h12, if_neg (Int32.not_lt.mpr h22), if_neg (Int32.not_lt.mpr h26), nI_clamp (by omega)]
            exact aw_to (lp_mSheet_0 hN 0 (Nat.zero_le _)) rfl (by rw [zF_0]; rfl)
          · skip
            show aw_W _ _ _ _ (27, [some (.ref 46), some (.int 0), some (.int s), some (.int n), none], []) (ae_en σ α z t0 ts)
            refine aw_go 1 rfl ⟨trivial, trivial⟩ ?_
            refine aw_ret rfl rfl trivial ?_
            rw [pSheetM, if_neg (sh_in.mp h7), if_neg h12, if_neg (Int32.not_lt.mpr h22), if_pos (Int32.not_le.mp h26)]
            exact ⟨rfl, rfl⟩
        · skip
          show aw_W _ _ _ _ (23, [some (.ref 46), some (.int 0), some (.int s), some (.int n), none], []) (ae_en σ α z t0 ts)
          refine aw_go 1 rfl ⟨trivial, trivial⟩ ?_
          refine aw_ret rfl rfl trivial ?_
          rw [pSheetM, if_neg (sh_in.mp h7), if_neg h12, if_pos (Int32.not_le.mp h22)]
          exact ⟨rfl, rfl⟩
      · skip
        have h12 := Classical.not_not.mp h12
        show aw_W _ _ _ _ (13, [some (.ref 46), some (.int 0), some (.int s), some (.int n), none], []) (ae_en σ α z t0 ts)
        refine aw_go 6 rfl ⟨trivial, trivial, trivial, trivial, (cI_in (a := 0) rfl (by omega) (by decide)), trivial, trivial⟩ ?_
        show aw_W _ _ _ _ (19, [some (.ref 46), some (.int 0), some (.int s), some (.int n), none], [.int 1]) (ae_en σ (au α [(56, upd (α 56) (0 : Int32).toNatClampNeg (-1))]) z t0 ts)
        rw [show (0 : Int32).toNatClampNeg = 0 from cI_cl (a := 0) rfl (by omega)]
        refine aw_ret rfl rfl trivial ?_
        rw [pSheetM, if_neg (sh_in.mp h7), if_pos h12]
        exact ⟨rfl, rfl⟩
    · skip
      have h7 := bI_f (Classical.not_not.mp h7)
      show aw_W _ _ _ _ (8, [some (.ref 46), some (.int 0), some (.int s), some (.int n), none], []) (ae_en σ α z t0 ts)
      refine aw_go 1 rfl ⟨trivial, trivial⟩ ?_
      refine aw_ret rfl rfl trivial ?_
      rw [pSheetM, if_pos (Classical.byContradiction fun q => h7 (sh_in.mpr q))]
      exact ⟨rfl, rfl⟩
theorem em_cell_0 {m : Nat} {i v : Int32} {zd : Nat} (hm : ¬ α 56 0 < 0 → α 57 0 = nI m) (hm40 : m ≤ 40) : aw_X P (zd + 3) 174 [.ref 46, .int 0, .int i, .int v] (ae_en σ α z t0 ts) (fun r H => r = some (.int ((pCellM 0 m i v (α 56) (α 58)).1)) ∧ H = (ae_en σ (au α [(58, (pCellM 0 m i v (α 56) (α 58)).2)]) z t0 ts)) := by
  refine aw_ev (cd := cd_Model_cell) rfl rfl rfl ?_
  show aw_W _ _ _ _ (0, [some (.ref 46), some (.int 0), some (.int i), some (.int v)], []) (ae_en σ α z t0 ts)
  refine aw_go 1 rfl ⟨trivial, trivial⟩ ?_
  refine aw_callE rfl rfl (ev_Model_isSheet (s := 0)) ?_
  show aw_W _ _ _ _ (2, [some (.ref 46), some (.int 0), some (.int i), some (.int v)], [.int (bI (iP 4 0))]) (ae_en σ α z t0 ts)
  refine aw_go 1 rfl ⟨trivial, trivial⟩ ?_
  refine aw_br (c := ¬ (bI (iP 4 0)) = 0) (fun h2 => ?_) (fun h2 => ?_)
  · skip
    have h2 := bI_t h2
    show aw_W _ _ _ _ (5, [some (.ref 46), some (.int 0), some (.int i), some (.int v)], []) (ae_en σ α z t0 ts)
    refine aw_go 5 rfl ⟨trivial, trivial, trivial, (cI_in (a := 0) rfl (by omega) (by decide)), trivial, trivial⟩ ?_
    show aw_W _ _ _ _ (if (0 : Int32) ≤ (α 56 (0 : Int32).toNatClampNeg) then 12 else 10, [some (.ref 46), some (.int 0), some (.int i), some (.int v)], []) (ae_en σ α z t0 ts)
    rw [show (0 : Int32).toNatClampNeg = 0 from cI_cl (a := 0) rfl (by omega)]
    refine aw_br (c := (0 : Int32) ≤ (α 56 0)) (fun h9 => ?_) (fun h9 => ?_)
    · skip
      show aw_W _ _ _ _ (12, [some (.ref 46), some (.int 0), some (.int i), some (.int v)], []) (ae_en σ α z t0 ts)
      have hm := hm (Int32.not_lt.mpr h9)
      have hi : (¬ i < 0 ∧ ¬ α 57 0 - 1 < i) ↔ iP m i := by
        rw [hm]
        obtain _ | m := m
        · constructor
          · rintro ⟨q1, q2⟩
            exact absurd (Int32.lt_of_lt_of_le (show nI 0 - 1 < 0 by decide) (Int32.not_lt.mp q1)) q2
          · intro q
            exact absurd q.2 (Nat.not_lt_zero _)
        · rw [nI_pred]
          exact iP_in (by omega)
      refine aw_go 8 rfl ⟨trivial, trivial, trivial, trivial, trivial, (cI_in (a := 0) rfl (by omega) (by decide)), trivial, trivial, trivial⟩ ?_
      show aw_W _ _ _ _ (20, [some (.ref 46), some (.int 0), some (.int i), some (.int v)], [.int ((α 57 (0 : Int32).toNatClampNeg) - 1), .int 0, .int i]) (ae_en σ α z t0 ts)
      rw [show (0 : Int32).toNatClampNeg = 0 from cI_cl (a := 0) rfl (by omega)]
      refine aw_callE rfl rfl (em_in (v := i) (a := 0) (b := ((α 57 0) - 1))) ?_
      show aw_W _ _ _ _ (21, [some (.ref 46), some (.int 0), some (.int i), some (.int v)], [.int (bI (¬ i < 0 ∧ ¬ ((α 57 0) - 1) < i))]) (ae_en σ α z t0 ts)
      refine aw_go 1 rfl ⟨trivial, trivial⟩ ?_
      refine aw_br (c := ¬ (bI (¬ i < 0 ∧ ¬ ((α 57 0) - 1) < i)) = 0) (fun h21 => ?_) (fun h21 => ?_)
      · skip
        have h21 := bI_t h21
        show aw_W _ _ _ _ (24, [some (.ref 46), some (.int 0), some (.int i), some (.int v)], []) (ae_en σ α z t0 ts)
        have h21b := hi.mp h21
        obtain ⟨j, hj, rfl⟩ := iP_of h21b (by omega)
        refine aw_go 12 rfl ⟨trivial, trivial, trivial, trivial, trivial, trivial, trivial, trivial, trivial, trivial, (cI_in (a := 0) rfl (by omega) (by decide)), trivial, trivial⟩ ?_
        show aw_W _ _ _ _ (if ¬ (α 56 (0 : Int32).toNatClampNeg) = 0 then 39 else 36, [some (.ref 46), some (.int 0), some (.int (nI j)), some (.int v)], [.int ((40 * 0) + (nI j)), .ref 74]) (ae_en σ α z t0 ts)
        rw [show (0 : Int32).toNatClampNeg = 0 from cI_cl (a := 0) rfl (by omega)]
        refine aw_br (c := ¬ (α 56 0) = 0) (fun h35 => ?_) (fun h35 => ?_)
        · skip
          show aw_W _ _ _ _ (39, [some (.ref 46), some (.int 0), some (.int (nI j)), some (.int v)], [.int ((40 * 0) + (nI j)), .ref 74]) (ae_en σ α z t0 ts)
          refine aw_go 6 rfl ⟨trivial, trivial, trivial, (cI_in (a := 0) rfl (by omega) (by decide)), trivial, trivial, trivial⟩ ?_
          show aw_W _ _ _ _ (if ¬ (α 56 (0 : Int32).toNatClampNeg) = 1 then 48 else 45, [some (.ref 46), some (.int 0), some (.int (nI j)), some (.int v)], [.int ((40 * 0) + (nI j)), .ref 74]) (ae_en σ α z t0 ts)
          rw [show (0 : Int32).toNatClampNeg = 0 from cI_cl (a := 0) rfl (by omega)]
          refine aw_br (c := ¬ (α 56 0) = 1) (fun h44 => ?_) (fun h44 => ?_)
          · skip
            show aw_W _ _ _ _ (48, [some (.ref 46), some (.int 0), some (.int (nI j)), some (.int v)], [.int ((40 * 0) + (nI j)), .ref 74]) (ae_en σ α z t0 ts)
            refine aw_go 3 rfl ⟨trivial, (cI_in (a := (40 * 0) + j) (cI_add (a := 40 * 0) (b := j) (cI_mul (a := 40) (b := 0) rfl rfl) rfl) (by omega) (by decide)), trivial, trivial⟩ ?_
            show aw_W _ _ _ _ (51, [some (.ref 46), some (.int 0), some (.int (nI j)), some (.int v)], [.int 1]) (ae_en σ (au α [(58, upd (α 58) ((40 * 0) + (nI j)).toNatClampNeg v)]) z t0 ts)
            rw [show ((40 * 0) + (nI j)).toNatClampNeg = (40 * 0) + j from cI_cl (a := (40 * 0) + j) (cI_add (a := 40 * 0) (b := j) (cI_mul (a := 40) (b := 0) rfl rfl) rfl) (by omega)]
            refine aw_ret rfl rfl trivial ?_
            rw [pCellM, if_neg (Int32.not_lt.mpr h9), if_pos (iP_nI hj (by omega)), nI_clamp (by omega), cSt, if_neg h35, if_neg h44]
            exact ⟨rfl, rfl⟩
          · skip
            have h44 := Classical.not_not.mp h44
            show aw_W _ _ _ _ (45, [some (.ref 46), some (.int 0), some (.int (nI j)), some (.int v)], [.int ((40 * 0) + (nI j)), .ref 74]) (ae_en σ α z t0 ts)
            refine aw_go 5 rfl ⟨trivial, trivial, trivial, (cI_in (a := (40 * 0) + j) (cI_add (a := 40 * 0) (b := j) (cI_mul (a := 40) (b := 0) rfl rfl) rfl) (by omega) (by decide)), trivial, trivial⟩ ?_
            show aw_W _ _ _ _ (51, [some (.ref 46), some (.int 0), some (.int (nI j)), some (.int v)], [.int 1]) (ae_en σ (au α [(58, upd (α 58) ((40 * 0) + (nI j)).toNatClampNeg v.toInt16.toInt32)]) z t0 ts)
            rw [show ((40 * 0) + (nI j)).toNatClampNeg = (40 * 0) + j from cI_cl (a := (40 * 0) + j) (cI_add (a := 40 * 0) (b := j) (cI_mul (a := 40) (b := 0) rfl rfl) rfl) (by omega)]
            refine aw_ret rfl rfl trivial ?_
            rw [pCellM, if_neg (Int32.not_lt.mpr h9), if_pos (iP_nI hj (by omega)), nI_clamp (by omega), cSt, if_neg h35, if_pos h44]
            exact ⟨rfl, rfl⟩
        · skip
          have h35 := Classical.not_not.mp h35
          show aw_W _ _ _ _ (36, [some (.ref 46), some (.int 0), some (.int (nI j)), some (.int v)], [.int ((40 * 0) + (nI j)), .ref 74]) (ae_en σ α z t0 ts)
          refine aw_go 5 rfl ⟨trivial, trivial, trivial, (cI_in (a := (40 * 0) + j) (cI_add (a := 40 * 0) (b := j) (cI_mul (a := 40) (b := 0) rfl rfl) rfl) (by omega) (by decide)), trivial, trivial⟩ ?_
          show aw_W _ _ _ _ (51, [some (.ref 46), some (.int 0), some (.int (nI j)), some (.int v)], [.int 1]) (ae_en σ (au α [(58, upd (α 58) ((40 * 0) + (nI j)).toNatClampNeg v.toInt8.toInt32)]) z t0 ts)
          rw [show ((40 * 0) + (nI j)).toNatClampNeg = (40 * 0) + j from cI_cl (a := (40 * 0) + j) (cI_add (a := 40 * 0) (b := j) (cI_mul (a := 40) (b := 0) rfl rfl) rfl) (by omega)]
          refine aw_ret rfl rfl trivial ?_
          rw [pCellM, if_neg (Int32.not_lt.mpr h9), if_pos (iP_nI hj (by omega)), nI_clamp (by omega), cSt, if_pos h35]
          exact ⟨rfl, rfl⟩
      · skip
        have h21 := bI_f (Classical.not_not.mp h21)
        show aw_W _ _ _ _ (22, [some (.ref 46), some (.int 0), some (.int i), some (.int v)], []) (ae_en σ α z t0 ts)
        refine aw_go 1 rfl ⟨trivial, trivial⟩ ?_
        refine aw_ret rfl rfl trivial ?_
        rw [pCellM, if_neg (Int32.not_lt.mpr h9), if_neg (fun q => h21 (hi.mpr q))]
        exact ⟨rfl, rfl⟩
    · skip
      show aw_W _ _ _ _ (10, [some (.ref 46), some (.int 0), some (.int i), some (.int v)], []) (ae_en σ α z t0 ts)
      refine aw_go 1 rfl ⟨trivial, trivial⟩ ?_
      refine aw_ret rfl rfl trivial ?_
      rw [pCellM, if_pos (Int32.not_le.mp h9)]
      exact ⟨rfl, rfl⟩
  · skip
    have h2 := bI_f (Classical.not_not.mp h2)
    show aw_W _ _ _ _ (3, [some (.ref 46), some (.int 0), some (.int i), some (.int v)], []) (ae_en σ α z t0 ts)
    exact absurd h2 (by decide)
theorem lp_mSheet_1 {zd : Nat} {s : Int32} {N : Nat} (hN : N ≤ 40) (k : Nat) (hk : k ≤ N) : aw_W P (zd) cd_Model_sheet (fun r H => r = some (.int 1) ∧ H = ae_en σ (au α [(56, upd (α 56) 1 s), (57, upd (α 57) 1 (nI N)), (58, zF (40 * 1) N (α 58))]) z t0 ts) (41, [some (.ref 46), some (.int 1), some (.int s), some (.int (nI N)), some (.int (nI k))], []) (ae_en σ (au α [(56, (upd (α 56) 1 s)), (57, (upd (α 57) 1 (nI N))), (58, (zF (40 * 1) k (α 58)))]) z t0 ts) := by
  refine aw_go 3 rfl ⟨trivial, trivial, trivial, trivial⟩ ?_
  refine aw_br (c := (nI N) ≤ (nI k)) (fun h43 => ?_) (fun h43 => ?_)
  · skip
    have h43 := cI_leT (a := N) (b := k) rfl rfl (by omega) (by omega) h43
    show aw_W _ _ _ _ (55, [some (.ref 46), some (.int 1), some (.int s), some (.int (nI N)), some (.int (nI k))], []) (ae_en σ (au α [(56, (upd (α 56) 1 s)), (57, (upd (α 57) 1 (nI N))), (58, (zF (40 * 1) k (α 58)))]) z t0 ts)
    have e8 : k = N := by omega
    refine aw_go 1 rfl ⟨trivial, trivial⟩ ?_
    refine aw_ret rfl rfl trivial ?_
    rw [e8]
    exact ⟨rfl, rfl⟩
  · skip
    have h43 := cI_leF (a := N) (b := k) rfl rfl (by omega) (by omega) h43
    show aw_W _ _ _ _ (44, [some (.ref 46), some (.int 1), some (.int s), some (.int (nI N)), some (.int (nI k))], []) (ae_en σ (au α [(56, (upd (α 56) 1 s)), (57, (upd (α 57) 1 (nI N))), (58, (zF (40 * 1) k (α 58)))]) z t0 ts)
    refine aw_go 11 rfl ⟨trivial, trivial, trivial, trivial, trivial, trivial, trivial, trivial, (cI_in (a := (40 * 1) + k) (cI_add (a := 40 * 1) (b := k) (cI_mul (a := 40) (b := 1) rfl rfl) rfl) (by omega) (by decide)), trivial, trivial, trivial⟩ ?_
    show aw_W _ _ _ _ (41, [some (.ref 46), some (.int 1), some (.int s), some (.int (nI N)), some (.int ((nI k) + 1))], []) (ae_en σ (au α [(56, (upd (α 56) 1 s)), (57, (upd (α 57) 1 (nI N))), (58, upd (zF (40 * 1) k (α 58)) ((40 * 1) + (nI k)).toNatClampNeg 0)]) z t0 ts)
    rw [show ((40 * 1) + (nI k)).toNatClampNeg = (40 * 1) + k from cI_cl (a := (40 * 1) + k) (cI_add (a := 40 * 1) (b := k) (cI_mul (a := 40) (b := 1) rfl rfl) rfl) (by omega)]
    rw [show (nI k) + 1 = nI (k + 1) from (cI_add (a := k) (b := 1) rfl rfl)]
    rw [show 40 + k = 40 * 1 + k from rfl, zF_s]
    exact lp_mSheet_1 hN (k + 1) (by omega)
termination_by N - k
decreasing_by all_goals omega
theorem em_sheet_1 {s n : Int32} {zd : Nat}  : aw_X P (zd + 3) 173 [.ref 46, .int 1, .int s, .int n] (ae_en σ α z t0 ts) (fun r H => r = some (.int ((pSheetM 1 s n (α 56, α 57, α 58)).1)) ∧ H = (ae_en σ (au α [(56, (pSheetM 1 s n (α 56, α 57, α 58)).2.1), (57, (pSheetM 1 s n (α 56, α 57, α 58)).2.2.1), (58, (pSheetM 1 s n (α 56, α 57, α 58)).2.2.2)]) z t0 ts)) := by
  refine aw_ev (cd := cd_Model_sheet) rfl rfl rfl ?_
  show aw_W _ _ _ _ (0, [some (.ref 46), some (.int 1), some (.int s), some (.int n), none], []) (ae_en σ α z t0 ts)
  refine aw_go 1 rfl ⟨trivial, trivial⟩ ?_
  refine aw_callE rfl rfl (ev_Model_isSheet (s := 1)) ?_
  show aw_W _ _ _ _ (2, [some (.ref 46), some (.int 1), some (.int s), some (.int n), none], [.int (bI (iP 4 1))]) (ae_en σ α z t0 ts)
  refine aw_go 1 rfl ⟨trivial, trivial⟩ ?_
  refine aw_br (c := (bI (iP 4 1)) = 0) (fun h2 => ?_) (fun h2 => ?_)
  · skip
    have h2 := bI_f h2
    show aw_W _ _ _ _ (8, [some (.ref 46), some (.int 1), some (.int s), some (.int n), none], []) (ae_en σ α z t0 ts)
    exact absurd h2 (by decide)
  · skip
    have h2 := bI_t h2
    show aw_W _ _ _ _ (3, [some (.ref 46), some (.int 1), some (.int s), some (.int n), none], []) (ae_en σ α z t0 ts)
    refine aw_go 3 rfl ⟨trivial, trivial, trivial, trivial⟩ ?_
    refine aw_callE rfl rfl (em_in (v := s) (a := (-1)) (b := 2)) ?_
    show aw_W _ _ _ _ (7, [some (.ref 46), some (.int 1), some (.int s), some (.int n), none], [.int (bI (¬ s < (-1) ∧ ¬ 2 < s))]) (ae_en σ α z t0 ts)
    refine aw_go 1 rfl ⟨trivial, trivial⟩ ?_
    refine aw_br (c := ¬ (bI (¬ s < (-1) ∧ ¬ 2 < s)) = 0) (fun h7 => ?_) (fun h7 => ?_)
    · skip
      have h7 := bI_t h7
      show aw_W _ _ _ _ (10, [some (.ref 46), some (.int 1), some (.int s), some (.int n), none], []) (ae_en σ α z t0 ts)
      refine aw_go 3 rfl ⟨trivial, trivial, trivial, trivial⟩ ?_
      refine aw_br (c := ¬ s = (-1)) (fun h12 => ?_) (fun h12 => ?_)
      · skip
        show aw_W _ _ _ _ (20, [some (.ref 46), some (.int 1), some (.int s), some (.int n), none], []) (ae_en σ α z t0 ts)
        refine aw_go 3 rfl ⟨trivial, trivial, trivial, trivial⟩ ?_
        refine aw_br (c := n ≤ 40) (fun h22 => ?_) (fun h22 => ?_)
        · skip
          show aw_W _ _ _ _ (25, [some (.ref 46), some (.int 1), some (.int s), some (.int n), none], []) (ae_en σ α z t0 ts)
          refine aw_go 2 rfl ⟨trivial, trivial, trivial⟩ ?_
          refine aw_br (c := (0 : Int32) ≤ n) (fun h26 => ?_) (fun h26 => ?_)
          · skip
            show aw_W _ _ _ _ (29, [some (.ref 46), some (.int 1), some (.int s), some (.int n), none], []) (ae_en σ α z t0 ts)
            refine aw_go 12 rfl ⟨trivial, trivial, trivial, trivial, (cI_in (a := 1) rfl (by omega) (by decide)), trivial, trivial, trivial, trivial, (cI_in (a := 1) rfl (by omega) (by decide)), trivial, trivial, trivial⟩ ?_
            show aw_W _ _ _ _ (41, [some (.ref 46), some (.int 1), some (.int s), some (.int n), some (.int 0)], []) (ae_en σ (au α [(56, upd (α 56) (1 : Int32).toNatClampNeg s), (57, upd (α 57) (1 : Int32).toNatClampNeg n)]) z t0 ts)
            rw [show (1 : Int32).toNatClampNeg = 1 from cI_cl (a := 1) rfl (by omega)]
            obtain ⟨N, hN, rfl⟩ := nI_of2 (M := 40) (n := 40) rfl (Int32.not_lt.mpr h26) h22
            rw [pSheetM, if_neg (sh_in.mp h7), if_neg h12, if_neg (Int32.not_lt.mpr h22), if_neg (Int32.not_lt.mpr h26), nI_clamp (by omega)]
            exact aw_to (lp_mSheet_1 hN 0 (Nat.zero_le _)) rfl (by rw [zF_0]; rfl)
          · skip
            show aw_W _ _ _ _ (27, [some (.ref 46), some (.int 1), some (.int s), some (.int n), none], []) (ae_en σ α z t0 ts)
            refine aw_go 1 rfl ⟨trivial, trivial⟩ ?_
            refine aw_ret rfl rfl trivial ?_
            rw [pSheetM, if_neg (sh_in.mp h7), if_neg h12, if_neg (Int32.not_lt.mpr h22), if_pos (Int32.not_le.mp h26)]
            exact ⟨rfl, rfl⟩
        · skip
          show aw_W _ _ _ _ (23, [some (.ref 46), some (.int 1), some (.int s), some (.int n), none], []) (ae_en σ α z t0 ts)
          refine aw_go 1 rfl ⟨trivial, trivial⟩ ?_
          refine aw_ret rfl rfl trivial ?_
          rw [pSheetM, if_neg (sh_in.mp h7), if_neg h12, if_pos (Int32.not_le.mp h22)]
          exact ⟨rfl, rfl⟩
      · skip
        have h12 := Classical.not_not.mp h12
        show aw_W _ _ _ _ (13, [some (.ref 46), some (.int 1), some (.int s), some (.int n), none], []) (ae_en σ α z t0 ts)
        refine aw_go 6 rfl ⟨trivial, trivial, trivial, trivial, (cI_in (a := 1) rfl (by omega) (by decide)), trivial, trivial⟩ ?_
        show aw_W _ _ _ _ (19, [some (.ref 46), some (.int 1), some (.int s), some (.int n), none], [.int 1]) (ae_en σ (au α [(56, upd (α 56) (1 : Int32).toNatClampNeg (-1))]) z t0 ts)
        rw [show (1 : Int32).toNatClampNeg = 1 from cI_cl (a := 1) rfl (by omega)]
        refine aw_ret rfl rfl trivial ?_
        rw [pSheetM, if_neg (sh_in.mp h7), if_pos h12]
        exact ⟨rfl, rfl⟩
    · skip
      have h7 := bI_f (Classical.not_not.mp h7)
      show aw_W _ _ _ _ (8, [some (.ref 46), some (.int 1), some (.int s), some (.int n), none], []) (ae_en σ α z t0 ts)
      refine aw_go 1 rfl ⟨trivial, trivial⟩ ?_
      refine aw_ret rfl rfl trivial ?_
      rw [pSheetM, if_pos (Classical.byContradiction fun q => h7 (sh_in.mpr q))]
      exact ⟨rfl, rfl⟩
theorem em_cell_1 {m : Nat} {i v : Int32} {zd : Nat} (hm : ¬ α 56 1 < 0 → α 57 1 = nI m) (hm40 : m ≤ 40) : aw_X P (zd + 3) 174 [.ref 46, .int 1, .int i, .int v] (ae_en σ α z t0 ts) (fun r H => r = some (.int ((pCellM 1 m i v (α 56) (α 58)).1)) ∧ H = (ae_en σ (au α [(58, (pCellM 1 m i v (α 56) (α 58)).2)]) z t0 ts)) := by
  refine aw_ev (cd := cd_Model_cell) rfl rfl rfl ?_
  show aw_W _ _ _ _ (0, [some (.ref 46), some (.int 1), some (.int i), some (.int v)], []) (ae_en σ α z t0 ts)
  refine aw_go 1 rfl ⟨trivial, trivial⟩ ?_
  refine aw_callE rfl rfl (ev_Model_isSheet (s := 1)) ?_
  show aw_W _ _ _ _ (2, [some (.ref 46), some (.int 1), some (.int i), some (.int v)], [.int (bI (iP 4 1))]) (ae_en σ α z t0 ts)
  refine aw_go 1 rfl ⟨trivial, trivial⟩ ?_
  refine aw_br (c := ¬ (bI (iP 4 1)) = 0) (fun h2 => ?_) (fun h2 => ?_)
  · skip
    have h2 := bI_t h2
    show aw_W _ _ _ _ (5, [some (.ref 46), some (.int 1), some (.int i), some (.int v)], []) (ae_en σ α z t0 ts)
    refine aw_go 5 rfl ⟨trivial, trivial, trivial, (cI_in (a := 1) rfl (by omega) (by decide)), trivial, trivial⟩ ?_
    show aw_W _ _ _ _ (if (0 : Int32) ≤ (α 56 (1 : Int32).toNatClampNeg) then 12 else 10, [some (.ref 46), some (.int 1), some (.int i), some (.int v)], []) (ae_en σ α z t0 ts)
    rw [show (1 : Int32).toNatClampNeg = 1 from cI_cl (a := 1) rfl (by omega)]
    refine aw_br (c := (0 : Int32) ≤ (α 56 1)) (fun h9 => ?_) (fun h9 => ?_)
    · skip
      show aw_W _ _ _ _ (12, [some (.ref 46), some (.int 1), some (.int i), some (.int v)], []) (ae_en σ α z t0 ts)
      have hm := hm (Int32.not_lt.mpr h9)
      have hi : (¬ i < 0 ∧ ¬ α 57 1 - 1 < i) ↔ iP m i := by
        rw [hm]
        obtain _ | m := m
        · constructor
          · rintro ⟨q1, q2⟩
            exact absurd (Int32.lt_of_lt_of_le (show nI 0 - 1 < 0 by decide) (Int32.not_lt.mp q1)) q2
          · intro q
            exact absurd q.2 (Nat.not_lt_zero _)
        · rw [nI_pred]
          exact iP_in (by omega)
      refine aw_go 8 rfl ⟨trivial, trivial, trivial, trivial, trivial, (cI_in (a := 1) rfl (by omega) (by decide)), trivial, trivial, trivial⟩ ?_
      show aw_W _ _ _ _ (20, [some (.ref 46), some (.int 1), some (.int i), some (.int v)], [.int ((α 57 (1 : Int32).toNatClampNeg) - 1), .int 0, .int i]) (ae_en σ α z t0 ts)
      rw [show (1 : Int32).toNatClampNeg = 1 from cI_cl (a := 1) rfl (by omega)]
      refine aw_callE rfl rfl (em_in (v := i) (a := 0) (b := ((α 57 1) - 1))) ?_
      show aw_W _ _ _ _ (21, [some (.ref 46), some (.int 1), some (.int i), some (.int v)], [.int (bI (¬ i < 0 ∧ ¬ ((α 57 1) - 1) < i))]) (ae_en σ α z t0 ts)
      refine aw_go 1 rfl ⟨trivial, trivial⟩ ?_
      refine aw_br (c := ¬ (bI (¬ i < 0 ∧ ¬ ((α 57 1) - 1) < i)) = 0) (fun h21 => ?_) (fun h21 => ?_)
      · skip
        have h21 := bI_t h21
        show aw_W _ _ _ _ (24, [some (.ref 46), some (.int 1), some (.int i), some (.int v)], []) (ae_en σ α z t0 ts)
        have h21b := hi.mp h21
        obtain ⟨j, hj, rfl⟩ := iP_of h21b (by omega)
        refine aw_go 12 rfl ⟨trivial, trivial, trivial, trivial, trivial, trivial, trivial, trivial, trivial, trivial, (cI_in (a := 1) rfl (by omega) (by decide)), trivial, trivial⟩ ?_
        show aw_W _ _ _ _ (if ¬ (α 56 (1 : Int32).toNatClampNeg) = 0 then 39 else 36, [some (.ref 46), some (.int 1), some (.int (nI j)), some (.int v)], [.int ((40 * 1) + (nI j)), .ref 74]) (ae_en σ α z t0 ts)
        rw [show (1 : Int32).toNatClampNeg = 1 from cI_cl (a := 1) rfl (by omega)]
        refine aw_br (c := ¬ (α 56 1) = 0) (fun h35 => ?_) (fun h35 => ?_)
        · skip
          show aw_W _ _ _ _ (39, [some (.ref 46), some (.int 1), some (.int (nI j)), some (.int v)], [.int ((40 * 1) + (nI j)), .ref 74]) (ae_en σ α z t0 ts)
          refine aw_go 6 rfl ⟨trivial, trivial, trivial, (cI_in (a := 1) rfl (by omega) (by decide)), trivial, trivial, trivial⟩ ?_
          show aw_W _ _ _ _ (if ¬ (α 56 (1 : Int32).toNatClampNeg) = 1 then 48 else 45, [some (.ref 46), some (.int 1), some (.int (nI j)), some (.int v)], [.int ((40 * 1) + (nI j)), .ref 74]) (ae_en σ α z t0 ts)
          rw [show (1 : Int32).toNatClampNeg = 1 from cI_cl (a := 1) rfl (by omega)]
          refine aw_br (c := ¬ (α 56 1) = 1) (fun h44 => ?_) (fun h44 => ?_)
          · skip
            show aw_W _ _ _ _ (48, [some (.ref 46), some (.int 1), some (.int (nI j)), some (.int v)], [.int ((40 * 1) + (nI j)), .ref 74]) (ae_en σ α z t0 ts)
            refine aw_go 3 rfl ⟨trivial, (cI_in (a := (40 * 1) + j) (cI_add (a := 40 * 1) (b := j) (cI_mul (a := 40) (b := 1) rfl rfl) rfl) (by omega) (by decide)), trivial, trivial⟩ ?_
            show aw_W _ _ _ _ (51, [some (.ref 46), some (.int 1), some (.int (nI j)), some (.int v)], [.int 1]) (ae_en σ (au α [(58, upd (α 58) ((40 * 1) + (nI j)).toNatClampNeg v)]) z t0 ts)
            rw [show ((40 * 1) + (nI j)).toNatClampNeg = (40 * 1) + j from cI_cl (a := (40 * 1) + j) (cI_add (a := 40 * 1) (b := j) (cI_mul (a := 40) (b := 1) rfl rfl) rfl) (by omega)]
            refine aw_ret rfl rfl trivial ?_
            rw [pCellM, if_neg (Int32.not_lt.mpr h9), if_pos (iP_nI hj (by omega)), nI_clamp (by omega), cSt, if_neg h35, if_neg h44]
            exact ⟨rfl, rfl⟩
          · skip
            have h44 := Classical.not_not.mp h44
            show aw_W _ _ _ _ (45, [some (.ref 46), some (.int 1), some (.int (nI j)), some (.int v)], [.int ((40 * 1) + (nI j)), .ref 74]) (ae_en σ α z t0 ts)
            refine aw_go 5 rfl ⟨trivial, trivial, trivial, (cI_in (a := (40 * 1) + j) (cI_add (a := 40 * 1) (b := j) (cI_mul (a := 40) (b := 1) rfl rfl) rfl) (by omega) (by decide)), trivial, trivial⟩ ?_
            show aw_W _ _ _ _ (51, [some (.ref 46), some (.int 1), some (.int (nI j)), some (.int v)], [.int 1]) (ae_en σ (au α [(58, upd (α 58) ((40 * 1) + (nI j)).toNatClampNeg v.toInt16.toInt32)]) z t0 ts)
            rw [show ((40 * 1) + (nI j)).toNatClampNeg = (40 * 1) + j from cI_cl (a := (40 * 1) + j) (cI_add (a := 40 * 1) (b := j) (cI_mul (a := 40) (b := 1) rfl rfl) rfl) (by omega)]
            refine aw_ret rfl rfl trivial ?_
            rw [pCellM, if_neg (Int32.not_lt.mpr h9), if_pos (iP_nI hj (by omega)), nI_clamp (by omega), cSt, if_neg h35, if_pos h44]
            exact ⟨rfl, rfl⟩
        · skip
          have h35 := Classical.not_not.mp h35
          show aw_W _ _ _ _ (36, [some (.ref 46), some (.int 1), some (.int (nI j)), some (.int v)], [.int ((40 * 1) + (nI j)), .ref 74]) (ae_en σ α z t0 ts)
          refine aw_go 5 rfl ⟨trivial, trivial, trivial, (cI_in (a := (40 * 1) + j) (cI_add (a := 40 * 1) (b := j) (cI_mul (a := 40) (b := 1) rfl rfl) rfl) (by omega) (by decide)), trivial, trivial⟩ ?_
          show aw_W _ _ _ _ (51, [some (.ref 46), some (.int 1), some (.int (nI j)), some (.int v)], [.int 1]) (ae_en σ (au α [(58, upd (α 58) ((40 * 1) + (nI j)).toNatClampNeg v.toInt8.toInt32)]) z t0 ts)
          rw [show ((40 * 1) + (nI j)).toNatClampNeg = (40 * 1) + j from cI_cl (a := (40 * 1) + j) (cI_add (a := 40 * 1) (b := j) (cI_mul (a := 40) (b := 1) rfl rfl) rfl) (by omega)]
          refine aw_ret rfl rfl trivial ?_
          rw [pCellM, if_neg (Int32.not_lt.mpr h9), if_pos (iP_nI hj (by omega)), nI_clamp (by omega), cSt, if_pos h35]
          exact ⟨rfl, rfl⟩
      · skip
        have h21 := bI_f (Classical.not_not.mp h21)
        show aw_W _ _ _ _ (22, [some (.ref 46), some (.int 1), some (.int i), some (.int v)], []) (ae_en σ α z t0 ts)
        refine aw_go 1 rfl ⟨trivial, trivial⟩ ?_
        refine aw_ret rfl rfl trivial ?_
        rw [pCellM, if_neg (Int32.not_lt.mpr h9), if_neg (fun q => h21 (hi.mpr q))]
        exact ⟨rfl, rfl⟩
    · skip
      show aw_W _ _ _ _ (10, [some (.ref 46), some (.int 1), some (.int i), some (.int v)], []) (ae_en σ α z t0 ts)
      refine aw_go 1 rfl ⟨trivial, trivial⟩ ?_
      refine aw_ret rfl rfl trivial ?_
      rw [pCellM, if_pos (Int32.not_le.mp h9)]
      exact ⟨rfl, rfl⟩
  · skip
    have h2 := bI_f (Classical.not_not.mp h2)
    show aw_W _ _ _ _ (3, [some (.ref 46), some (.int 1), some (.int i), some (.int v)], []) (ae_en σ α z t0 ts)
    exact absurd h2 (by decide)
theorem lp_mSheet_2 {zd : Nat} {s : Int32} {N : Nat} (hN : N ≤ 40) (k : Nat) (hk : k ≤ N) : aw_W P (zd) cd_Model_sheet (fun r H => r = some (.int 1) ∧ H = ae_en σ (au α [(56, upd (α 56) 2 s), (57, upd (α 57) 2 (nI N)), (58, zF (40 * 2) N (α 58))]) z t0 ts) (41, [some (.ref 46), some (.int 2), some (.int s), some (.int (nI N)), some (.int (nI k))], []) (ae_en σ (au α [(56, (upd (α 56) 2 s)), (57, (upd (α 57) 2 (nI N))), (58, (zF (40 * 2) k (α 58)))]) z t0 ts) := by
  refine aw_go 3 rfl ⟨trivial, trivial, trivial, trivial⟩ ?_
  refine aw_br (c := (nI N) ≤ (nI k)) (fun h43 => ?_) (fun h43 => ?_)
  · skip
    have h43 := cI_leT (a := N) (b := k) rfl rfl (by omega) (by omega) h43
    show aw_W _ _ _ _ (55, [some (.ref 46), some (.int 2), some (.int s), some (.int (nI N)), some (.int (nI k))], []) (ae_en σ (au α [(56, (upd (α 56) 2 s)), (57, (upd (α 57) 2 (nI N))), (58, (zF (40 * 2) k (α 58)))]) z t0 ts)
    have e8 : k = N := by omega
    refine aw_go 1 rfl ⟨trivial, trivial⟩ ?_
    refine aw_ret rfl rfl trivial ?_
    rw [e8]
    exact ⟨rfl, rfl⟩
  · skip
    have h43 := cI_leF (a := N) (b := k) rfl rfl (by omega) (by omega) h43
    show aw_W _ _ _ _ (44, [some (.ref 46), some (.int 2), some (.int s), some (.int (nI N)), some (.int (nI k))], []) (ae_en σ (au α [(56, (upd (α 56) 2 s)), (57, (upd (α 57) 2 (nI N))), (58, (zF (40 * 2) k (α 58)))]) z t0 ts)
    refine aw_go 11 rfl ⟨trivial, trivial, trivial, trivial, trivial, trivial, trivial, trivial, (cI_in (a := (40 * 2) + k) (cI_add (a := 40 * 2) (b := k) (cI_mul (a := 40) (b := 2) rfl rfl) rfl) (by omega) (by decide)), trivial, trivial, trivial⟩ ?_
    show aw_W _ _ _ _ (41, [some (.ref 46), some (.int 2), some (.int s), some (.int (nI N)), some (.int ((nI k) + 1))], []) (ae_en σ (au α [(56, (upd (α 56) 2 s)), (57, (upd (α 57) 2 (nI N))), (58, upd (zF (40 * 2) k (α 58)) ((40 * 2) + (nI k)).toNatClampNeg 0)]) z t0 ts)
    rw [show ((40 * 2) + (nI k)).toNatClampNeg = (40 * 2) + k from cI_cl (a := (40 * 2) + k) (cI_add (a := 40 * 2) (b := k) (cI_mul (a := 40) (b := 2) rfl rfl) rfl) (by omega)]
    rw [show (nI k) + 1 = nI (k + 1) from (cI_add (a := k) (b := 1) rfl rfl)]
    rw [show 80 + k = 40 * 2 + k from rfl, zF_s]
    exact lp_mSheet_2 hN (k + 1) (by omega)
termination_by N - k
decreasing_by all_goals omega
theorem em_sheet_2 {s n : Int32} {zd : Nat}  : aw_X P (zd + 3) 173 [.ref 46, .int 2, .int s, .int n] (ae_en σ α z t0 ts) (fun r H => r = some (.int ((pSheetM 2 s n (α 56, α 57, α 58)).1)) ∧ H = (ae_en σ (au α [(56, (pSheetM 2 s n (α 56, α 57, α 58)).2.1), (57, (pSheetM 2 s n (α 56, α 57, α 58)).2.2.1), (58, (pSheetM 2 s n (α 56, α 57, α 58)).2.2.2)]) z t0 ts)) := by
  refine aw_ev (cd := cd_Model_sheet) rfl rfl rfl ?_
  show aw_W _ _ _ _ (0, [some (.ref 46), some (.int 2), some (.int s), some (.int n), none], []) (ae_en σ α z t0 ts)
  refine aw_go 1 rfl ⟨trivial, trivial⟩ ?_
  refine aw_callE rfl rfl (ev_Model_isSheet (s := 2)) ?_
  show aw_W _ _ _ _ (2, [some (.ref 46), some (.int 2), some (.int s), some (.int n), none], [.int (bI (iP 4 2))]) (ae_en σ α z t0 ts)
  refine aw_go 1 rfl ⟨trivial, trivial⟩ ?_
  refine aw_br (c := (bI (iP 4 2)) = 0) (fun h2 => ?_) (fun h2 => ?_)
  · skip
    have h2 := bI_f h2
    show aw_W _ _ _ _ (8, [some (.ref 46), some (.int 2), some (.int s), some (.int n), none], []) (ae_en σ α z t0 ts)
    exact absurd h2 (by decide)
  · skip
    have h2 := bI_t h2
    show aw_W _ _ _ _ (3, [some (.ref 46), some (.int 2), some (.int s), some (.int n), none], []) (ae_en σ α z t0 ts)
    refine aw_go 3 rfl ⟨trivial, trivial, trivial, trivial⟩ ?_
    refine aw_callE rfl rfl (em_in (v := s) (a := (-1)) (b := 2)) ?_
    show aw_W _ _ _ _ (7, [some (.ref 46), some (.int 2), some (.int s), some (.int n), none], [.int (bI (¬ s < (-1) ∧ ¬ 2 < s))]) (ae_en σ α z t0 ts)
    refine aw_go 1 rfl ⟨trivial, trivial⟩ ?_
    refine aw_br (c := ¬ (bI (¬ s < (-1) ∧ ¬ 2 < s)) = 0) (fun h7 => ?_) (fun h7 => ?_)
    · skip
      have h7 := bI_t h7
      show aw_W _ _ _ _ (10, [some (.ref 46), some (.int 2), some (.int s), some (.int n), none], []) (ae_en σ α z t0 ts)
      refine aw_go 3 rfl ⟨trivial, trivial, trivial, trivial⟩ ?_
      refine aw_br (c := ¬ s = (-1)) (fun h12 => ?_) (fun h12 => ?_)
      · skip
        show aw_W _ _ _ _ (20, [some (.ref 46), some (.int 2), some (.int s), some (.int n), none], []) (ae_en σ α z t0 ts)
        refine aw_go 3 rfl ⟨trivial, trivial, trivial, trivial⟩ ?_
        refine aw_br (c := n ≤ 40) (fun h22 => ?_) (fun h22 => ?_)
        · skip
          show aw_W _ _ _ _ (25, [some (.ref 46), some (.int 2), some (.int s), some (.int n), none], []) (ae_en σ α z t0 ts)
          refine aw_go 2 rfl ⟨trivial, trivial, trivial⟩ ?_
          refine aw_br (c := (0 : Int32) ≤ n) (fun h26 => ?_) (fun h26 => ?_)
          · skip
            show aw_W _ _ _ _ (29, [some (.ref 46), some (.int 2), some (.int s), some (.int n), none], []) (ae_en σ α z t0 ts)
            refine aw_go 12 rfl ⟨trivial, trivial, trivial, trivial, (cI_in (a := 2) rfl (by omega) (by decide)), trivial, trivial, trivial, trivial, (cI_in (a := 2) rfl (by omega) (by decide)), trivial, trivial, trivial⟩ ?_
            show aw_W _ _ _ _ (41, [some (.ref 46), some (.int 2), some (.int s), some (.int n), some (.int 0)], []) (ae_en σ (au α [(56, upd (α 56) (2 : Int32).toNatClampNeg s), (57, upd (α 57) (2 : Int32).toNatClampNeg n)]) z t0 ts)
            rw [show (2 : Int32).toNatClampNeg = 2 from cI_cl (a := 2) rfl (by omega)]
            obtain ⟨N, hN, rfl⟩ := nI_of2 (M := 40) (n := 40) rfl (Int32.not_lt.mpr h26) h22
            rw [pSheetM, if_neg (sh_in.mp h7), if_neg h12, if_neg (Int32.not_lt.mpr h22), if_neg (Int32.not_lt.mpr h26), nI_clamp (by omega)]
            exact aw_to (lp_mSheet_2 hN 0 (Nat.zero_le _)) rfl (by rw [zF_0]; rfl)
          · skip
            show aw_W _ _ _ _ (27, [some (.ref 46), some (.int 2), some (.int s), some (.int n), none], []) (ae_en σ α z t0 ts)
            refine aw_go 1 rfl ⟨trivial, trivial⟩ ?_
            refine aw_ret rfl rfl trivial ?_
            rw [pSheetM, if_neg (sh_in.mp h7), if_neg h12, if_neg (Int32.not_lt.mpr h22), if_pos (Int32.not_le.mp h26)]
            exact ⟨rfl, rfl⟩
        · skip
          show aw_W _ _ _ _ (23, [some (.ref 46), some (.int 2), some (.int s), some (.int n), none], []) (ae_en σ α z t0 ts)
          refine aw_go 1 rfl ⟨trivial, trivial⟩ ?_
          refine aw_ret rfl rfl trivial ?_
          rw [pSheetM, if_neg (sh_in.mp h7), if_neg h12, if_pos (Int32.not_le.mp h22)]
          exact ⟨rfl, rfl⟩
      · skip
        have h12 := Classical.not_not.mp h12
        show aw_W _ _ _ _ (13, [some (.ref 46), some (.int 2), some (.int s), some (.int n), none], []) (ae_en σ α z t0 ts)
        refine aw_go 6 rfl ⟨trivial, trivial, trivial, trivial, (cI_in (a := 2) rfl (by omega) (by decide)), trivial, trivial⟩ ?_
        show aw_W _ _ _ _ (19, [some (.ref 46), some (.int 2), some (.int s), some (.int n), none], [.int 1]) (ae_en σ (au α [(56, upd (α 56) (2 : Int32).toNatClampNeg (-1))]) z t0 ts)
        rw [show (2 : Int32).toNatClampNeg = 2 from cI_cl (a := 2) rfl (by omega)]
        refine aw_ret rfl rfl trivial ?_
        rw [pSheetM, if_neg (sh_in.mp h7), if_pos h12]
        exact ⟨rfl, rfl⟩
    · skip
      have h7 := bI_f (Classical.not_not.mp h7)
      show aw_W _ _ _ _ (8, [some (.ref 46), some (.int 2), some (.int s), some (.int n), none], []) (ae_en σ α z t0 ts)
      refine aw_go 1 rfl ⟨trivial, trivial⟩ ?_
      refine aw_ret rfl rfl trivial ?_
      rw [pSheetM, if_pos (Classical.byContradiction fun q => h7 (sh_in.mpr q))]
      exact ⟨rfl, rfl⟩
theorem em_cell_2 {m : Nat} {i v : Int32} {zd : Nat} (hm : ¬ α 56 2 < 0 → α 57 2 = nI m) (hm40 : m ≤ 40) : aw_X P (zd + 3) 174 [.ref 46, .int 2, .int i, .int v] (ae_en σ α z t0 ts) (fun r H => r = some (.int ((pCellM 2 m i v (α 56) (α 58)).1)) ∧ H = (ae_en σ (au α [(58, (pCellM 2 m i v (α 56) (α 58)).2)]) z t0 ts)) := by
  refine aw_ev (cd := cd_Model_cell) rfl rfl rfl ?_
  show aw_W _ _ _ _ (0, [some (.ref 46), some (.int 2), some (.int i), some (.int v)], []) (ae_en σ α z t0 ts)
  refine aw_go 1 rfl ⟨trivial, trivial⟩ ?_
  refine aw_callE rfl rfl (ev_Model_isSheet (s := 2)) ?_
  show aw_W _ _ _ _ (2, [some (.ref 46), some (.int 2), some (.int i), some (.int v)], [.int (bI (iP 4 2))]) (ae_en σ α z t0 ts)
  refine aw_go 1 rfl ⟨trivial, trivial⟩ ?_
  refine aw_br (c := ¬ (bI (iP 4 2)) = 0) (fun h2 => ?_) (fun h2 => ?_)
  · skip
    have h2 := bI_t h2
    show aw_W _ _ _ _ (5, [some (.ref 46), some (.int 2), some (.int i), some (.int v)], []) (ae_en σ α z t0 ts)
    refine aw_go 5 rfl ⟨trivial, trivial, trivial, (cI_in (a := 2) rfl (by omega) (by decide)), trivial, trivial⟩ ?_
    show aw_W _ _ _ _ (if (0 : Int32) ≤ (α 56 (2 : Int32).toNatClampNeg) then 12 else 10, [some (.ref 46), some (.int 2), some (.int i), some (.int v)], []) (ae_en σ α z t0 ts)
    rw [show (2 : Int32).toNatClampNeg = 2 from cI_cl (a := 2) rfl (by omega)]
    refine aw_br (c := (0 : Int32) ≤ (α 56 2)) (fun h9 => ?_) (fun h9 => ?_)
    · skip
      show aw_W _ _ _ _ (12, [some (.ref 46), some (.int 2), some (.int i), some (.int v)], []) (ae_en σ α z t0 ts)
      have hm := hm (Int32.not_lt.mpr h9)
      have hi : (¬ i < 0 ∧ ¬ α 57 2 - 1 < i) ↔ iP m i := by
        rw [hm]
        obtain _ | m := m
        · constructor
          · rintro ⟨q1, q2⟩
            exact absurd (Int32.lt_of_lt_of_le (show nI 0 - 1 < 0 by decide) (Int32.not_lt.mp q1)) q2
          · intro q
            exact absurd q.2 (Nat.not_lt_zero _)
        · rw [nI_pred]
          exact iP_in (by omega)
      refine aw_go 8 rfl ⟨trivial, trivial, trivial, trivial, trivial, (cI_in (a := 2) rfl (by omega) (by decide)), trivial, trivial, trivial⟩ ?_
      show aw_W _ _ _ _ (20, [some (.ref 46), some (.int 2), some (.int i), some (.int v)], [.int ((α 57 (2 : Int32).toNatClampNeg) - 1), .int 0, .int i]) (ae_en σ α z t0 ts)
      rw [show (2 : Int32).toNatClampNeg = 2 from cI_cl (a := 2) rfl (by omega)]
      refine aw_callE rfl rfl (em_in (v := i) (a := 0) (b := ((α 57 2) - 1))) ?_
      show aw_W _ _ _ _ (21, [some (.ref 46), some (.int 2), some (.int i), some (.int v)], [.int (bI (¬ i < 0 ∧ ¬ ((α 57 2) - 1) < i))]) (ae_en σ α z t0 ts)
      refine aw_go 1 rfl ⟨trivial, trivial⟩ ?_
      refine aw_br (c := ¬ (bI (¬ i < 0 ∧ ¬ ((α 57 2) - 1) < i)) = 0) (fun h21 => ?_) (fun h21 => ?_)
      · skip
        have h21 := bI_t h21
        show aw_W _ _ _ _ (24, [some (.ref 46), some (.int 2), some (.int i), some (.int v)], []) (ae_en σ α z t0 ts)
        have h21b := hi.mp h21
        obtain ⟨j, hj, rfl⟩ := iP_of h21b (by omega)
        refine aw_go 12 rfl ⟨trivial, trivial, trivial, trivial, trivial, trivial, trivial, trivial, trivial, trivial, (cI_in (a := 2) rfl (by omega) (by decide)), trivial, trivial⟩ ?_
        show aw_W _ _ _ _ (if ¬ (α 56 (2 : Int32).toNatClampNeg) = 0 then 39 else 36, [some (.ref 46), some (.int 2), some (.int (nI j)), some (.int v)], [.int ((40 * 2) + (nI j)), .ref 74]) (ae_en σ α z t0 ts)
        rw [show (2 : Int32).toNatClampNeg = 2 from cI_cl (a := 2) rfl (by omega)]
        refine aw_br (c := ¬ (α 56 2) = 0) (fun h35 => ?_) (fun h35 => ?_)
        · skip
          show aw_W _ _ _ _ (39, [some (.ref 46), some (.int 2), some (.int (nI j)), some (.int v)], [.int ((40 * 2) + (nI j)), .ref 74]) (ae_en σ α z t0 ts)
          refine aw_go 6 rfl ⟨trivial, trivial, trivial, (cI_in (a := 2) rfl (by omega) (by decide)), trivial, trivial, trivial⟩ ?_
          show aw_W _ _ _ _ (if ¬ (α 56 (2 : Int32).toNatClampNeg) = 1 then 48 else 45, [some (.ref 46), some (.int 2), some (.int (nI j)), some (.int v)], [.int ((40 * 2) + (nI j)), .ref 74]) (ae_en σ α z t0 ts)
          rw [show (2 : Int32).toNatClampNeg = 2 from cI_cl (a := 2) rfl (by omega)]
          refine aw_br (c := ¬ (α 56 2) = 1) (fun h44 => ?_) (fun h44 => ?_)
          · skip
            show aw_W _ _ _ _ (48, [some (.ref 46), some (.int 2), some (.int (nI j)), some (.int v)], [.int ((40 * 2) + (nI j)), .ref 74]) (ae_en σ α z t0 ts)
            refine aw_go 3 rfl ⟨trivial, (cI_in (a := (40 * 2) + j) (cI_add (a := 40 * 2) (b := j) (cI_mul (a := 40) (b := 2) rfl rfl) rfl) (by omega) (by decide)), trivial, trivial⟩ ?_
            show aw_W _ _ _ _ (51, [some (.ref 46), some (.int 2), some (.int (nI j)), some (.int v)], [.int 1]) (ae_en σ (au α [(58, upd (α 58) ((40 * 2) + (nI j)).toNatClampNeg v)]) z t0 ts)
            rw [show ((40 * 2) + (nI j)).toNatClampNeg = (40 * 2) + j from cI_cl (a := (40 * 2) + j) (cI_add (a := 40 * 2) (b := j) (cI_mul (a := 40) (b := 2) rfl rfl) rfl) (by omega)]
            refine aw_ret rfl rfl trivial ?_
            rw [pCellM, if_neg (Int32.not_lt.mpr h9), if_pos (iP_nI hj (by omega)), nI_clamp (by omega), cSt, if_neg h35, if_neg h44]
            exact ⟨rfl, rfl⟩
          · skip
            have h44 := Classical.not_not.mp h44
            show aw_W _ _ _ _ (45, [some (.ref 46), some (.int 2), some (.int (nI j)), some (.int v)], [.int ((40 * 2) + (nI j)), .ref 74]) (ae_en σ α z t0 ts)
            refine aw_go 5 rfl ⟨trivial, trivial, trivial, (cI_in (a := (40 * 2) + j) (cI_add (a := 40 * 2) (b := j) (cI_mul (a := 40) (b := 2) rfl rfl) rfl) (by omega) (by decide)), trivial, trivial⟩ ?_
            show aw_W _ _ _ _ (51, [some (.ref 46), some (.int 2), some (.int (nI j)), some (.int v)], [.int 1]) (ae_en σ (au α [(58, upd (α 58) ((40 * 2) + (nI j)).toNatClampNeg v.toInt16.toInt32)]) z t0 ts)
            rw [show ((40 * 2) + (nI j)).toNatClampNeg = (40 * 2) + j from cI_cl (a := (40 * 2) + j) (cI_add (a := 40 * 2) (b := j) (cI_mul (a := 40) (b := 2) rfl rfl) rfl) (by omega)]
            refine aw_ret rfl rfl trivial ?_
            rw [pCellM, if_neg (Int32.not_lt.mpr h9), if_pos (iP_nI hj (by omega)), nI_clamp (by omega), cSt, if_neg h35, if_pos h44]
            exact ⟨rfl, rfl⟩
        · skip
          have h35 := Classical.not_not.mp h35
          show aw_W _ _ _ _ (36, [some (.ref 46), some (.int 2), some (.int (nI j)), some (.int v)], [.int ((40 * 2) + (nI j)), .ref 74]) (ae_en σ α z t0 ts)
          refine aw_go 5 rfl ⟨trivial, trivial, trivial, (cI_in (a := (40 * 2) + j) (cI_add (a := 40 * 2) (b := j) (cI_mul (a := 40) (b := 2) rfl rfl) rfl) (by omega) (by decide)), trivial, trivial⟩ ?_
          show aw_W _ _ _ _ (51, [some (.ref 46), some (.int 2), some (.int (nI j)), some (.int v)], [.int 1]) (ae_en σ (au α [(58, upd (α 58) ((40 * 2) + (nI j)).toNatClampNeg v.toInt8.toInt32)]) z t0 ts)
          rw [show ((40 * 2) + (nI j)).toNatClampNeg = (40 * 2) + j from cI_cl (a := (40 * 2) + j) (cI_add (a := 40 * 2) (b := j) (cI_mul (a := 40) (b := 2) rfl rfl) rfl) (by omega)]
          refine aw_ret rfl rfl trivial ?_
          rw [pCellM, if_neg (Int32.not_lt.mpr h9), if_pos (iP_nI hj (by omega)), nI_clamp (by omega), cSt, if_pos h35]
          exact ⟨rfl, rfl⟩
      · skip
        have h21 := bI_f (Classical.not_not.mp h21)
        show aw_W _ _ _ _ (22, [some (.ref 46), some (.int 2), some (.int i), some (.int v)], []) (ae_en σ α z t0 ts)
        refine aw_go 1 rfl ⟨trivial, trivial⟩ ?_
        refine aw_ret rfl rfl trivial ?_
        rw [pCellM, if_neg (Int32.not_lt.mpr h9), if_neg (fun q => h21 (hi.mpr q))]
        exact ⟨rfl, rfl⟩
    · skip
      show aw_W _ _ _ _ (10, [some (.ref 46), some (.int 2), some (.int i), some (.int v)], []) (ae_en σ α z t0 ts)
      refine aw_go 1 rfl ⟨trivial, trivial⟩ ?_
      refine aw_ret rfl rfl trivial ?_
      rw [pCellM, if_pos (Int32.not_le.mp h9)]
      exact ⟨rfl, rfl⟩
  · skip
    have h2 := bI_f (Classical.not_not.mp h2)
    show aw_W _ _ _ _ (3, [some (.ref 46), some (.int 2), some (.int i), some (.int v)], []) (ae_en σ α z t0 ts)
    exact absurd h2 (by decide)
theorem lp_mSheet_3 {zd : Nat} {s : Int32} {N : Nat} (hN : N ≤ 40) (k : Nat) (hk : k ≤ N) : aw_W P (zd) cd_Model_sheet (fun r H => r = some (.int 1) ∧ H = ae_en σ (au α [(56, upd (α 56) 3 s), (57, upd (α 57) 3 (nI N)), (58, zF (40 * 3) N (α 58))]) z t0 ts) (41, [some (.ref 46), some (.int 3), some (.int s), some (.int (nI N)), some (.int (nI k))], []) (ae_en σ (au α [(56, (upd (α 56) 3 s)), (57, (upd (α 57) 3 (nI N))), (58, (zF (40 * 3) k (α 58)))]) z t0 ts) := by
  refine aw_go 3 rfl ⟨trivial, trivial, trivial, trivial⟩ ?_
  refine aw_br (c := (nI N) ≤ (nI k)) (fun h43 => ?_) (fun h43 => ?_)
  · skip
    have h43 := cI_leT (a := N) (b := k) rfl rfl (by omega) (by omega) h43
    show aw_W _ _ _ _ (55, [some (.ref 46), some (.int 3), some (.int s), some (.int (nI N)), some (.int (nI k))], []) (ae_en σ (au α [(56, (upd (α 56) 3 s)), (57, (upd (α 57) 3 (nI N))), (58, (zF (40 * 3) k (α 58)))]) z t0 ts)
    have e8 : k = N := by omega
    refine aw_go 1 rfl ⟨trivial, trivial⟩ ?_
    refine aw_ret rfl rfl trivial ?_
    rw [e8]
    exact ⟨rfl, rfl⟩
  · skip
    have h43 := cI_leF (a := N) (b := k) rfl rfl (by omega) (by omega) h43
    show aw_W _ _ _ _ (44, [some (.ref 46), some (.int 3), some (.int s), some (.int (nI N)), some (.int (nI k))], []) (ae_en σ (au α [(56, (upd (α 56) 3 s)), (57, (upd (α 57) 3 (nI N))), (58, (zF (40 * 3) k (α 58)))]) z t0 ts)
    refine aw_go 11 rfl ⟨trivial, trivial, trivial, trivial, trivial, trivial, trivial, trivial, (cI_in (a := (40 * 3) + k) (cI_add (a := 40 * 3) (b := k) (cI_mul (a := 40) (b := 3) rfl rfl) rfl) (by omega) (by decide)), trivial, trivial, trivial⟩ ?_
    show aw_W _ _ _ _ (41, [some (.ref 46), some (.int 3), some (.int s), some (.int (nI N)), some (.int ((nI k) + 1))], []) (ae_en σ (au α [(56, (upd (α 56) 3 s)), (57, (upd (α 57) 3 (nI N))), (58, upd (zF (40 * 3) k (α 58)) ((40 * 3) + (nI k)).toNatClampNeg 0)]) z t0 ts)
    rw [show ((40 * 3) + (nI k)).toNatClampNeg = (40 * 3) + k from cI_cl (a := (40 * 3) + k) (cI_add (a := 40 * 3) (b := k) (cI_mul (a := 40) (b := 3) rfl rfl) rfl) (by omega)]
    rw [show (nI k) + 1 = nI (k + 1) from (cI_add (a := k) (b := 1) rfl rfl)]
    rw [show 120 + k = 40 * 3 + k from rfl, zF_s]
    exact lp_mSheet_3 hN (k + 1) (by omega)
termination_by N - k
decreasing_by all_goals omega
theorem em_sheet_3 {s n : Int32} {zd : Nat}  : aw_X P (zd + 3) 173 [.ref 46, .int 3, .int s, .int n] (ae_en σ α z t0 ts) (fun r H => r = some (.int ((pSheetM 3 s n (α 56, α 57, α 58)).1)) ∧ H = (ae_en σ (au α [(56, (pSheetM 3 s n (α 56, α 57, α 58)).2.1), (57, (pSheetM 3 s n (α 56, α 57, α 58)).2.2.1), (58, (pSheetM 3 s n (α 56, α 57, α 58)).2.2.2)]) z t0 ts)) := by
  refine aw_ev (cd := cd_Model_sheet) rfl rfl rfl ?_
  show aw_W _ _ _ _ (0, [some (.ref 46), some (.int 3), some (.int s), some (.int n), none], []) (ae_en σ α z t0 ts)
  refine aw_go 1 rfl ⟨trivial, trivial⟩ ?_
  refine aw_callE rfl rfl (ev_Model_isSheet (s := 3)) ?_
  show aw_W _ _ _ _ (2, [some (.ref 46), some (.int 3), some (.int s), some (.int n), none], [.int (bI (iP 4 3))]) (ae_en σ α z t0 ts)
  refine aw_go 1 rfl ⟨trivial, trivial⟩ ?_
  refine aw_br (c := (bI (iP 4 3)) = 0) (fun h2 => ?_) (fun h2 => ?_)
  · skip
    have h2 := bI_f h2
    show aw_W _ _ _ _ (8, [some (.ref 46), some (.int 3), some (.int s), some (.int n), none], []) (ae_en σ α z t0 ts)
    exact absurd h2 (by decide)
  · skip
    have h2 := bI_t h2
    show aw_W _ _ _ _ (3, [some (.ref 46), some (.int 3), some (.int s), some (.int n), none], []) (ae_en σ α z t0 ts)
    refine aw_go 3 rfl ⟨trivial, trivial, trivial, trivial⟩ ?_
    refine aw_callE rfl rfl (em_in (v := s) (a := (-1)) (b := 2)) ?_
    show aw_W _ _ _ _ (7, [some (.ref 46), some (.int 3), some (.int s), some (.int n), none], [.int (bI (¬ s < (-1) ∧ ¬ 2 < s))]) (ae_en σ α z t0 ts)
    refine aw_go 1 rfl ⟨trivial, trivial⟩ ?_
    refine aw_br (c := ¬ (bI (¬ s < (-1) ∧ ¬ 2 < s)) = 0) (fun h7 => ?_) (fun h7 => ?_)
    · skip
      have h7 := bI_t h7
      show aw_W _ _ _ _ (10, [some (.ref 46), some (.int 3), some (.int s), some (.int n), none], []) (ae_en σ α z t0 ts)
      refine aw_go 3 rfl ⟨trivial, trivial, trivial, trivial⟩ ?_
      refine aw_br (c := ¬ s = (-1)) (fun h12 => ?_) (fun h12 => ?_)
      · skip
        show aw_W _ _ _ _ (20, [some (.ref 46), some (.int 3), some (.int s), some (.int n), none], []) (ae_en σ α z t0 ts)
        refine aw_go 3 rfl ⟨trivial, trivial, trivial, trivial⟩ ?_
        refine aw_br (c := n ≤ 40) (fun h22 => ?_) (fun h22 => ?_)
        · skip
          show aw_W _ _ _ _ (25, [some (.ref 46), some (.int 3), some (.int s), some (.int n), none], []) (ae_en σ α z t0 ts)
          refine aw_go 2 rfl ⟨trivial, trivial, trivial⟩ ?_
          refine aw_br (c := (0 : Int32) ≤ n) (fun h26 => ?_) (fun h26 => ?_)
          · skip
            show aw_W _ _ _ _ (29, [some (.ref 46), some (.int 3), some (.int s), some (.int n), none], []) (ae_en σ α z t0 ts)
            refine aw_go 12 rfl ⟨trivial, trivial, trivial, trivial, (cI_in (a := 3) rfl (by omega) (by decide)), trivial, trivial, trivial, trivial, (cI_in (a := 3) rfl (by omega) (by decide)), trivial, trivial, trivial⟩ ?_
            show aw_W _ _ _ _ (41, [some (.ref 46), some (.int 3), some (.int s), some (.int n), some (.int 0)], []) (ae_en σ (au α [(56, upd (α 56) (3 : Int32).toNatClampNeg s), (57, upd (α 57) (3 : Int32).toNatClampNeg n)]) z t0 ts)
            rw [show (3 : Int32).toNatClampNeg = 3 from cI_cl (a := 3) rfl (by omega)]
            obtain ⟨N, hN, rfl⟩ := nI_of2 (M := 40) (n := 40) rfl (Int32.not_lt.mpr h26) h22
            rw [pSheetM, if_neg (sh_in.mp h7), if_neg h12, if_neg (Int32.not_lt.mpr h22), if_neg (Int32.not_lt.mpr h26), nI_clamp (by omega)]
            exact aw_to (lp_mSheet_3 hN 0 (Nat.zero_le _)) rfl (by rw [zF_0]; rfl)
          · skip
            show aw_W _ _ _ _ (27, [some (.ref 46), some (.int 3), some (.int s), some (.int n), none], []) (ae_en σ α z t0 ts)
            refine aw_go 1 rfl ⟨trivial, trivial⟩ ?_
            refine aw_ret rfl rfl trivial ?_
            rw [pSheetM, if_neg (sh_in.mp h7), if_neg h12, if_neg (Int32.not_lt.mpr h22), if_pos (Int32.not_le.mp h26)]
            exact ⟨rfl, rfl⟩
        · skip
          show aw_W _ _ _ _ (23, [some (.ref 46), some (.int 3), some (.int s), some (.int n), none], []) (ae_en σ α z t0 ts)
          refine aw_go 1 rfl ⟨trivial, trivial⟩ ?_
          refine aw_ret rfl rfl trivial ?_
          rw [pSheetM, if_neg (sh_in.mp h7), if_neg h12, if_pos (Int32.not_le.mp h22)]
          exact ⟨rfl, rfl⟩
      · skip
        have h12 := Classical.not_not.mp h12
        show aw_W _ _ _ _ (13, [some (.ref 46), some (.int 3), some (.int s), some (.int n), none], []) (ae_en σ α z t0 ts)
        refine aw_go 6 rfl ⟨trivial, trivial, trivial, trivial, (cI_in (a := 3) rfl (by omega) (by decide)), trivial, trivial⟩ ?_
        show aw_W _ _ _ _ (19, [some (.ref 46), some (.int 3), some (.int s), some (.int n), none], [.int 1]) (ae_en σ (au α [(56, upd (α 56) (3 : Int32).toNatClampNeg (-1))]) z t0 ts)
        rw [show (3 : Int32).toNatClampNeg = 3 from cI_cl (a := 3) rfl (by omega)]
        refine aw_ret rfl rfl trivial ?_
        rw [pSheetM, if_neg (sh_in.mp h7), if_pos h12]
        exact ⟨rfl, rfl⟩
    · skip
      have h7 := bI_f (Classical.not_not.mp h7)
      show aw_W _ _ _ _ (8, [some (.ref 46), some (.int 3), some (.int s), some (.int n), none], []) (ae_en σ α z t0 ts)
      refine aw_go 1 rfl ⟨trivial, trivial⟩ ?_
      refine aw_ret rfl rfl trivial ?_
      rw [pSheetM, if_pos (Classical.byContradiction fun q => h7 (sh_in.mpr q))]
      exact ⟨rfl, rfl⟩
theorem em_cell_3 {m : Nat} {i v : Int32} {zd : Nat} (hm : ¬ α 56 3 < 0 → α 57 3 = nI m) (hm40 : m ≤ 40) : aw_X P (zd + 3) 174 [.ref 46, .int 3, .int i, .int v] (ae_en σ α z t0 ts) (fun r H => r = some (.int ((pCellM 3 m i v (α 56) (α 58)).1)) ∧ H = (ae_en σ (au α [(58, (pCellM 3 m i v (α 56) (α 58)).2)]) z t0 ts)) := by
  refine aw_ev (cd := cd_Model_cell) rfl rfl rfl ?_
  show aw_W _ _ _ _ (0, [some (.ref 46), some (.int 3), some (.int i), some (.int v)], []) (ae_en σ α z t0 ts)
  refine aw_go 1 rfl ⟨trivial, trivial⟩ ?_
  refine aw_callE rfl rfl (ev_Model_isSheet (s := 3)) ?_
  show aw_W _ _ _ _ (2, [some (.ref 46), some (.int 3), some (.int i), some (.int v)], [.int (bI (iP 4 3))]) (ae_en σ α z t0 ts)
  refine aw_go 1 rfl ⟨trivial, trivial⟩ ?_
  refine aw_br (c := ¬ (bI (iP 4 3)) = 0) (fun h2 => ?_) (fun h2 => ?_)
  · skip
    have h2 := bI_t h2
    show aw_W _ _ _ _ (5, [some (.ref 46), some (.int 3), some (.int i), some (.int v)], []) (ae_en σ α z t0 ts)
    refine aw_go 5 rfl ⟨trivial, trivial, trivial, (cI_in (a := 3) rfl (by omega) (by decide)), trivial, trivial⟩ ?_
    show aw_W _ _ _ _ (if (0 : Int32) ≤ (α 56 (3 : Int32).toNatClampNeg) then 12 else 10, [some (.ref 46), some (.int 3), some (.int i), some (.int v)], []) (ae_en σ α z t0 ts)
    rw [show (3 : Int32).toNatClampNeg = 3 from cI_cl (a := 3) rfl (by omega)]
    refine aw_br (c := (0 : Int32) ≤ (α 56 3)) (fun h9 => ?_) (fun h9 => ?_)
    · skip
      show aw_W _ _ _ _ (12, [some (.ref 46), some (.int 3), some (.int i), some (.int v)], []) (ae_en σ α z t0 ts)
      have hm := hm (Int32.not_lt.mpr h9)
      have hi : (¬ i < 0 ∧ ¬ α 57 3 - 1 < i) ↔ iP m i := by
        rw [hm]
        obtain _ | m := m
        · constructor
          · rintro ⟨q1, q2⟩
            exact absurd (Int32.lt_of_lt_of_le (show nI 0 - 1 < 0 by decide) (Int32.not_lt.mp q1)) q2
          · intro q
            exact absurd q.2 (Nat.not_lt_zero _)
        · rw [nI_pred]
          exact iP_in (by omega)
      refine aw_go 8 rfl ⟨trivial, trivial, trivial, trivial, trivial, (cI_in (a := 3) rfl (by omega) (by decide)), trivial, trivial, trivial⟩ ?_
      show aw_W _ _ _ _ (20, [some (.ref 46), some (.int 3), some (.int i), some (.int v)], [.int ((α 57 (3 : Int32).toNatClampNeg) - 1), .int 0, .int i]) (ae_en σ α z t0 ts)
      rw [show (3 : Int32).toNatClampNeg = 3 from cI_cl (a := 3) rfl (by omega)]
      refine aw_callE rfl rfl (em_in (v := i) (a := 0) (b := ((α 57 3) - 1))) ?_
      show aw_W _ _ _ _ (21, [some (.ref 46), some (.int 3), some (.int i), some (.int v)], [.int (bI (¬ i < 0 ∧ ¬ ((α 57 3) - 1) < i))]) (ae_en σ α z t0 ts)
      refine aw_go 1 rfl ⟨trivial, trivial⟩ ?_
      refine aw_br (c := ¬ (bI (¬ i < 0 ∧ ¬ ((α 57 3) - 1) < i)) = 0) (fun h21 => ?_) (fun h21 => ?_)
      · skip
        have h21 := bI_t h21
        show aw_W _ _ _ _ (24, [some (.ref 46), some (.int 3), some (.int i), some (.int v)], []) (ae_en σ α z t0 ts)
        have h21b := hi.mp h21
        obtain ⟨j, hj, rfl⟩ := iP_of h21b (by omega)
        refine aw_go 12 rfl ⟨trivial, trivial, trivial, trivial, trivial, trivial, trivial, trivial, trivial, trivial, (cI_in (a := 3) rfl (by omega) (by decide)), trivial, trivial⟩ ?_
        show aw_W _ _ _ _ (if ¬ (α 56 (3 : Int32).toNatClampNeg) = 0 then 39 else 36, [some (.ref 46), some (.int 3), some (.int (nI j)), some (.int v)], [.int ((40 * 3) + (nI j)), .ref 74]) (ae_en σ α z t0 ts)
        rw [show (3 : Int32).toNatClampNeg = 3 from cI_cl (a := 3) rfl (by omega)]
        refine aw_br (c := ¬ (α 56 3) = 0) (fun h35 => ?_) (fun h35 => ?_)
        · skip
          show aw_W _ _ _ _ (39, [some (.ref 46), some (.int 3), some (.int (nI j)), some (.int v)], [.int ((40 * 3) + (nI j)), .ref 74]) (ae_en σ α z t0 ts)
          refine aw_go 6 rfl ⟨trivial, trivial, trivial, (cI_in (a := 3) rfl (by omega) (by decide)), trivial, trivial, trivial⟩ ?_
          show aw_W _ _ _ _ (if ¬ (α 56 (3 : Int32).toNatClampNeg) = 1 then 48 else 45, [some (.ref 46), some (.int 3), some (.int (nI j)), some (.int v)], [.int ((40 * 3) + (nI j)), .ref 74]) (ae_en σ α z t0 ts)
          rw [show (3 : Int32).toNatClampNeg = 3 from cI_cl (a := 3) rfl (by omega)]
          refine aw_br (c := ¬ (α 56 3) = 1) (fun h44 => ?_) (fun h44 => ?_)
          · skip
            show aw_W _ _ _ _ (48, [some (.ref 46), some (.int 3), some (.int (nI j)), some (.int v)], [.int ((40 * 3) + (nI j)), .ref 74]) (ae_en σ α z t0 ts)
            refine aw_go 3 rfl ⟨trivial, (cI_in (a := (40 * 3) + j) (cI_add (a := 40 * 3) (b := j) (cI_mul (a := 40) (b := 3) rfl rfl) rfl) (by omega) (by decide)), trivial, trivial⟩ ?_
            show aw_W _ _ _ _ (51, [some (.ref 46), some (.int 3), some (.int (nI j)), some (.int v)], [.int 1]) (ae_en σ (au α [(58, upd (α 58) ((40 * 3) + (nI j)).toNatClampNeg v)]) z t0 ts)
            rw [show ((40 * 3) + (nI j)).toNatClampNeg = (40 * 3) + j from cI_cl (a := (40 * 3) + j) (cI_add (a := 40 * 3) (b := j) (cI_mul (a := 40) (b := 3) rfl rfl) rfl) (by omega)]
            refine aw_ret rfl rfl trivial ?_
            rw [pCellM, if_neg (Int32.not_lt.mpr h9), if_pos (iP_nI hj (by omega)), nI_clamp (by omega), cSt, if_neg h35, if_neg h44]
            exact ⟨rfl, rfl⟩
          · skip
            have h44 := Classical.not_not.mp h44
            show aw_W _ _ _ _ (45, [some (.ref 46), some (.int 3), some (.int (nI j)), some (.int v)], [.int ((40 * 3) + (nI j)), .ref 74]) (ae_en σ α z t0 ts)
            refine aw_go 5 rfl ⟨trivial, trivial, trivial, (cI_in (a := (40 * 3) + j) (cI_add (a := 40 * 3) (b := j) (cI_mul (a := 40) (b := 3) rfl rfl) rfl) (by omega) (by decide)), trivial, trivial⟩ ?_
            show aw_W _ _ _ _ (51, [some (.ref 46), some (.int 3), some (.int (nI j)), some (.int v)], [.int 1]) (ae_en σ (au α [(58, upd (α 58) ((40 * 3) + (nI j)).toNatClampNeg v.toInt16.toInt32)]) z t0 ts)
            rw [show ((40 * 3) + (nI j)).toNatClampNeg = (40 * 3) + j from cI_cl (a := (40 * 3) + j) (cI_add (a := 40 * 3) (b := j) (cI_mul (a := 40) (b := 3) rfl rfl) rfl) (by omega)]
            refine aw_ret rfl rfl trivial ?_
            rw [pCellM, if_neg (Int32.not_lt.mpr h9), if_pos (iP_nI hj (by omega)), nI_clamp (by omega), cSt, if_neg h35, if_pos h44]
            exact ⟨rfl, rfl⟩
        · skip
          have h35 := Classical.not_not.mp h35
          show aw_W _ _ _ _ (36, [some (.ref 46), some (.int 3), some (.int (nI j)), some (.int v)], [.int ((40 * 3) + (nI j)), .ref 74]) (ae_en σ α z t0 ts)
          refine aw_go 5 rfl ⟨trivial, trivial, trivial, (cI_in (a := (40 * 3) + j) (cI_add (a := 40 * 3) (b := j) (cI_mul (a := 40) (b := 3) rfl rfl) rfl) (by omega) (by decide)), trivial, trivial⟩ ?_
          show aw_W _ _ _ _ (51, [some (.ref 46), some (.int 3), some (.int (nI j)), some (.int v)], [.int 1]) (ae_en σ (au α [(58, upd (α 58) ((40 * 3) + (nI j)).toNatClampNeg v.toInt8.toInt32)]) z t0 ts)
          rw [show ((40 * 3) + (nI j)).toNatClampNeg = (40 * 3) + j from cI_cl (a := (40 * 3) + j) (cI_add (a := 40 * 3) (b := j) (cI_mul (a := 40) (b := 3) rfl rfl) rfl) (by omega)]
          refine aw_ret rfl rfl trivial ?_
          rw [pCellM, if_neg (Int32.not_lt.mpr h9), if_pos (iP_nI hj (by omega)), nI_clamp (by omega), cSt, if_pos h35]
          exact ⟨rfl, rfl⟩
      · skip
        have h21 := bI_f (Classical.not_not.mp h21)
        show aw_W _ _ _ _ (22, [some (.ref 46), some (.int 3), some (.int i), some (.int v)], []) (ae_en σ α z t0 ts)
        refine aw_go 1 rfl ⟨trivial, trivial⟩ ?_
        refine aw_ret rfl rfl trivial ?_
        rw [pCellM, if_neg (Int32.not_lt.mpr h9), if_neg (fun q => h21 (hi.mpr q))]
        exact ⟨rfl, rfl⟩
    · skip
      show aw_W _ _ _ _ (10, [some (.ref 46), some (.int 3), some (.int i), some (.int v)], []) (ae_en σ α z t0 ts)
      refine aw_go 1 rfl ⟨trivial, trivial⟩ ?_
      refine aw_ret rfl rfl trivial ?_
      rw [pCellM, if_pos (Int32.not_le.mp h9)]
      exact ⟨rfl, rfl⟩
  · skip
    have h2 := bI_f (Classical.not_not.mp h2)
    show aw_W _ _ _ _ (3, [some (.ref 46), some (.int 3), some (.int i), some (.int v)], []) (ae_en σ α z t0 ts)
    exact absurd h2 (by decide)
theorem em_feed_bad {x : Int32} {zz : Int64} {zd : Nat} (hx : ¬ (1 ≤ x ∧ x ≤ 8)) : ae_Ev P (zd + 2) 116 [.ref 46, .int x, .long zz] (ae_en σ α z t0 ts) (some (.int (-2))) (ae_en σ α z t0 ts) := by
  refine aw_evE (cd := cd_Model_feed) rfl rfl rfl ?_
  show aw_W _ _ _ _ (0, [some (.ref 46), some (.int x), some (.long zz), none, none], []) (ae_en σ α z t0 ts)
  refine aw_go 3 rfl ⟨trivial, trivial, trivial, trivial⟩ ?_
  refine aw_callE rfl rfl (em_in (v := x) (a := 1) (b := 8)) ?_
  show aw_W _ _ _ _ (4, [some (.ref 46), some (.int x), some (.long zz), none, none], [.int (bI (¬ x < 1 ∧ ¬ 8 < x))]) (ae_en σ α z t0 ts)
  refine aw_go 1 rfl ⟨trivial, trivial⟩ ?_
  refine aw_br (c := ¬ (bI (¬ x < 1 ∧ ¬ 8 < x)) = 0) (fun h4 => ?_) (fun h4 => ?_)
  · skip
    have h4 := bI_t h4
    show aw_W _ _ _ _ (7, [some (.ref 46), some (.int x), some (.long zz), none, none], []) (ae_en σ α z t0 ts)
    exact absurd ⟨Int32.not_lt.mp h4.1, Int32.not_lt.mp h4.2⟩ hx
  · skip
    have h4 := bI_f (Classical.not_not.mp h4)
    show aw_W _ _ _ _ (5, [some (.ref 46), some (.int x), some (.long zz), none, none], []) (ae_en σ α z t0 ts)
    refine aw_go 1 rfl ⟨trivial, trivial⟩ ?_
    refine aw_ret rfl rfl trivial ?_
    refine ⟨?_, rfl⟩
    rfl
theorem em_feed_full {N s : Nat} {zz : Int64} {zd : Nat} (hs : (σ 31) = nI s) (hs160 : s ≤ 160) (hN1 : 1 ≤ N) (hN8 : N ≤ 8) (hf : 160 < s + N) : ae_Ev P (zd + 2) 116 [.ref 46, .int (nI N), .long zz] (ae_en σ α z t0 ts) (some (.int (-4))) (ae_en σ α z t0 ts) := by
  refine aw_evE (cd := cd_Model_feed) rfl rfl rfl ?_
  show aw_W _ _ _ _ (0, [some (.ref 46), some (.int (nI N)), some (.long zz), none, none], []) (ae_en σ α z t0 ts)
  refine aw_go 3 rfl ⟨trivial, trivial, trivial, trivial⟩ ?_
  refine aw_callE rfl rfl (em_in (v := (nI N)) (a := 1) (b := 8)) ?_
  show aw_W _ _ _ _ (4, [some (.ref 46), some (.int (nI N)), some (.long zz), none, none], [.int (bI (¬ (nI N) < 1 ∧ ¬ 8 < (nI N)))]) (ae_en σ α z t0 ts)
  refine aw_go 1 rfl ⟨trivial, trivial⟩ ?_
  refine aw_br (c := ¬ (bI (¬ (nI N) < 1 ∧ ¬ 8 < (nI N))) = 0) (fun h4 => ?_) (fun h4 => ?_)
  · skip
    have h4 := bI_t h4
    show aw_W _ _ _ _ (7, [some (.ref 46), some (.int (nI N)), some (.long zz), none, none], []) (ae_en σ α z t0 ts)
    refine aw_go 6 rfl ⟨trivial, trivial, trivial, trivial, trivial, trivial, trivial⟩ ?_
    show aw_W _ _ _ _ (if ((σ 31) + (nI N)) ≤ 160 then 15 else 13, [some (.ref 46), some (.int (nI N)), some (.long zz), none, none], []) (ae_en σ α z t0 ts)
    refine aw_br (c := ((σ 31) + (nI N)) ≤ 160) (fun h12 => ?_) (fun h12 => ?_)
    · skip
      have h12 := cI_leT (a := s + N) (b := 160) (cI_add (a := s) (b := N) hs rfl) rfl (by omega) (by omega) h12
      show aw_W _ _ _ _ (15, [some (.ref 46), some (.int (nI N)), some (.long zz), none, none], []) (ae_en σ α z t0 ts)
      exact absurd h12 (by omega)
    · skip
      have h12 := cI_leF (a := s + N) (b := 160) (cI_add (a := s) (b := N) hs rfl) rfl (by omega) (by omega) h12
      show aw_W _ _ _ _ (13, [some (.ref 46), some (.int (nI N)), some (.long zz), none, none], []) (ae_en σ α z t0 ts)
      refine aw_go 1 rfl ⟨trivial, trivial⟩ ?_
      refine aw_ret rfl rfl trivial ?_
      refine ⟨?_, rfl⟩
      rfl
  · skip
    have h4 := bI_f (Classical.not_not.mp h4)
    show aw_W _ _ _ _ (5, [some (.ref 46), some (.int (nI N)), some (.long zz), none, none], []) (ae_en σ α z t0 ts)
    exact absurd ⟨nI_nlt (b := 1) hN1 (by omega), nI_nlt (a := 8) hN8 (by decide)⟩ h4
theorem lp_mFeed {zd : Nat} {N s : Nat} {zz : Int64} (hf : s + N ≤ 160) (hN8 : N ≤ 8) (k : Nat) (hk : k ≤ N) : aw_W P (zd + 1) cd_Model_feed (fun r H => r = some (.int (nI (s + N))) ∧ H = (ae_en (au σ [(31, nI (s + N))]) (au α [(39, fdM (α 39) zz s N)]) z t0 ts)) (17, [some (.ref 46), some (.int (nI N)), some (.long zz), none, some (.int (nI k))], []) (ae_en (au σ [(31, nI (s + k))]) (au α [(39, fdM (α 39) zz s k)]) z t0 ts) := by
  refine aw_go 3 rfl ⟨trivial, trivial, trivial, trivial⟩ ?_
  refine aw_br (c := (nI N) ≤ (nI k)) (fun h19 => ?_) (fun h19 => ?_)
  · skip
    have h19 := cI_leT (a := N) (b := k) rfl rfl (by omega) (by omega) h19
    show aw_W _ _ _ _ (40, [some (.ref 46), some (.int (nI N)), some (.long zz), none, some (.int (nI k))], []) (ae_en (au σ [(31, nI (s + k))]) (au α [(39, fdM (α 39) zz s k)]) z t0 ts)
    have e8 : k = N := by omega
    refine aw_go 2 rfl ⟨trivial, trivial, trivial⟩ ?_
    show aw_W _ _ _ _ (42, [some (.ref 46), some (.int (nI N)), some (.long zz), none, some (.int (nI k))], [.int (nI (s + k))]) (ae_en (au σ [(31, nI (s + k))]) (au α [(39, fdM (α 39) zz s k)]) z t0 ts)
    refine aw_ret rfl rfl trivial ?_
    rw [e8]
    exact ⟨rfl, rfl⟩
  · skip
    have h19 := cI_leF (a := N) (b := k) rfl rfl (by omega) (by omega) h19
    show aw_W _ _ _ _ (20, [some (.ref 46), some (.int (nI N)), some (.long zz), none, some (.int (nI k))], []) (ae_en (au σ [(31, nI (s + k))]) (au α [(39, fdM (α 39) zz s k)]) z t0 ts)
    refine aw_go 20 rfl ⟨trivial, trivial, trivial, trivial, trivial, trivial, trivial, trivial, trivial, trivial, trivial, (cI_in (a := s + k) rfl (by omega) (by decide)), trivial, trivial, trivial, trivial, trivial, trivial, trivial, trivial, trivial⟩ ?_
    show aw_W _ _ _ _ (17, [some (.ref 46), some (.int (nI N)), some (.long zz), none, some (.int ((nI k) + 1))], []) (ae_en (au σ [(31, (nI (s + k)) + 1)]) (au α [(39, upd (fdM (α 39) zz s k) (nI (s + k)).toNatClampNeg (((zz >>> ((8 * (nI k)).toInt64 &&& 63)).toInt32).toInt8.toInt32).toInt8.toInt32)]) z t0 ts)
    rw [show (nI (s + k)).toNatClampNeg = s + k from cI_cl (a := s + k) rfl (by omega)]
    rw [show (nI k) + 1 = nI (k + 1) from (cI_add (a := k) (b := 1) rfl rfl)]
    rw [b2, show nI (s + k) + 1 = nI (s + (k + 1)) from cI_add (a := s + k) (b := 1) rfl rfl]
    exact lp_mFeed hf hN8 (k + 1) (by omega)
termination_by N - k
decreasing_by all_goals omega
theorem ev_Model_feed {N s : Nat} {zz : Int64} {zd : Nat} (hs : (σ 31) = nI s) (hs160 : s ≤ 160) (hN1 : 1 ≤ N) (hN8 : N ≤ 8) (hf : s + N ≤ 160) : aw_X P (zd + 2) 116 [.ref 46, .int (nI N), .long zz] (ae_en σ α z t0 ts) (fun r H => r = some (.int (nI (s + N))) ∧ H = (ae_en (au σ [(31, nI (s + N))]) (au α [(39, fdM (α 39) zz s N)]) z t0 ts)) := by
  refine aw_ev (cd := cd_Model_feed) rfl rfl rfl ?_
  show aw_W _ _ _ _ (0, [some (.ref 46), some (.int (nI N)), some (.long zz), none, none], []) (ae_en σ α z t0 ts)
  refine aw_go 3 rfl ⟨trivial, trivial, trivial, trivial⟩ ?_
  refine aw_callE rfl rfl (em_in (v := (nI N)) (a := 1) (b := 8)) ?_
  show aw_W _ _ _ _ (4, [some (.ref 46), some (.int (nI N)), some (.long zz), none, none], [.int (bI (¬ (nI N) < 1 ∧ ¬ 8 < (nI N)))]) (ae_en σ α z t0 ts)
  refine aw_go 1 rfl ⟨trivial, trivial⟩ ?_
  refine aw_br (c := ¬ (bI (¬ (nI N) < 1 ∧ ¬ 8 < (nI N))) = 0) (fun h4 => ?_) (fun h4 => ?_)
  · skip
    have h4 := bI_t h4
    show aw_W _ _ _ _ (7, [some (.ref 46), some (.int (nI N)), some (.long zz), none, none], []) (ae_en σ α z t0 ts)
    refine aw_go 6 rfl ⟨trivial, trivial, trivial, trivial, trivial, trivial, trivial⟩ ?_
    show aw_W _ _ _ _ (if ((σ 31) + (nI N)) ≤ 160 then 15 else 13, [some (.ref 46), some (.int (nI N)), some (.long zz), none, none], []) (ae_en σ α z t0 ts)
    refine aw_br (c := ((σ 31) + (nI N)) ≤ 160) (fun h12 => ?_) (fun h12 => ?_)
    · skip
      have h12 := cI_leT (a := s + N) (b := 160) (cI_add (a := s) (b := N) hs rfl) rfl (by omega) (by omega) h12
      show aw_W _ _ _ _ (15, [some (.ref 46), some (.int (nI N)), some (.long zz), none, none], []) (ae_en σ α z t0 ts)
      refine aw_go 2 rfl ⟨trivial, trivial, trivial⟩ ?_
      exact aw_to (lp_mFeed hf hN8 0 (Nat.zero_le _)) rfl (by show ae_en σ α z t0 ts = ae_en (au σ [(31, nI (s + 0))]) (au α [(39, α 39)]) z t0 ts; rw [Nat.add_zero, ← hs]; rfl)
    · skip
      have h12 := cI_leF (a := s + N) (b := 160) (cI_add (a := s) (b := N) hs rfl) rfl (by omega) (by omega) h12
      show aw_W _ _ _ _ (13, [some (.ref 46), some (.int (nI N)), some (.long zz), none, none], []) (ae_en σ α z t0 ts)
      exact absurd h12 (by omega)
  · skip
    have h4 := bI_f (Classical.not_not.mp h4)
    show aw_W _ _ _ _ (5, [some (.ref 46), some (.int (nI N)), some (.long zz), none, none], []) (ae_en σ α z t0 ts)
    exact absurd ⟨nI_nlt (b := 1) hN1 (by omega), nI_nlt (a := 8) hN8 (by decide)⟩ h4
end L53
