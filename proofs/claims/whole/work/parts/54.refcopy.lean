/-! the reference: copies, planks out of sheets -/
theorem lgG {x y : Int64} : 0 < lg_cmp x y ↔ y < x := by
  unfold lg_cmp
  by_cases h : x > y
  · rw [if_pos h]
    exact ⟨fun _ => h, fun _ => by decide⟩
  · rw [if_neg h]
    refine ⟨fun q => ?_, fun q => absurd q h⟩
    split at q
    · exact absurd q (by decide)
    · exact absurd q (by decide)
theorem lgL {x y : Int64} : lg_cmp x y < 0 ↔ x < y := by
  unfold lg_cmp
  by_cases h : x > y
  · rw [if_pos h]
    exact ⟨fun q => absurd q (by decide), fun q => absurd h (Int64.not_lt.mpr (Int64.le_of_lt q))⟩
  · rw [if_neg h]
    by_cases e : x = y
    · rw [if_pos e]
      exact ⟨fun q => absurd q (by decide), fun q => absurd q (by rw [e]; exact Int64.lt_irrefl)⟩
    · rw [if_neg e]
      exact ⟨fun _ => Int64.lt_of_le_of_ne (Int64.not_lt.mp h) e, fun _ => by decide⟩
theorem lgS {a b m : Nat} (ha : a < 2 ^ 31) (hb : b < 2 ^ 31) (hm : m < 2 ^ 31) : (nI m).toInt64 < (nI a).toInt64 + (nI b).toInt64 ↔ m < a + b := by
  rw [Int64.lt_iff_toInt_lt, Int64.toInt_add, Int32.toInt_toInt64, Int32.toInt_toInt64, Int32.toInt_toInt64, nI_toInt ha, nI_toInt hb, nI_toInt hm, Int.bmod_eq_of_le (by omega) (by omega)]
  omega
section L54
variable {P : ae_P} {σ : Nat → Int32} {α : Nat → Nat → Int32} {z : Int64} {t0 : ae_T} {ts : List ae_T}

theorem lp_cpB_0_0 {zd : Nat} {a d b : Nat} {mv : Nat → Int32} (h1 : a + b ≤ 40) (h2 : d + b ≤ 40) (k : Nat) (hk : k ≤ b) : aw_W P (zd) cd_Model_copy (fun r H => ∃ mv : Nat → Int32, r = some (.int (nI b)) ∧ H = ae_en σ (au α [(58, (va_cpy (α 58) (α 58) (40 * 0 + a) (40 * 0 + d) b)), (59, mv)]) z t0 ts) (86, [some (.ref 46), some (.int 0), some (.int (nI a)), some (.int 0), some (.int (nI d)), some (.int (nI b)), some (.int (nI k))], []) (ae_en σ (au α [(58, (va_cpy (α 58) (α 58) (40 * 0 + a) (40 * 0 + d) k)), (59, (fC b (fun k => α 58 (40 * 0 + a + k)) mv))]) z t0 ts) := by
  refine aw_go 3 rfl ⟨trivial, trivial, trivial, trivial⟩ ?_
  refine aw_br (c := (nI b) ≤ (nI k)) (fun h88 => ?_) (fun h88 => ?_)
  · skip
    have h88 := cI_leT (a := b) (b := k) rfl rfl (by omega) (by omega) h88
    show aw_W _ _ _ _ (105, [some (.ref 46), some (.int 0), some (.int (nI a)), some (.int 0), some (.int (nI d)), some (.int (nI b)), some (.int (nI k))], []) (ae_en σ (au α [(58, (va_cpy (α 58) (α 58) (40 * 0 + a) (40 * 0 + d) k)), (59, (fC b (fun k => α 58 (40 * 0 + a + k)) mv))]) z t0 ts)
    have e8 : k = b := by omega
    refine aw_go 1 rfl ⟨trivial, trivial⟩ ?_
    refine aw_ret rfl rfl trivial ?_
    rw [e8]
    exact ⟨_, rfl, rfl⟩
  · skip
    have h88 := cI_leF (a := b) (b := k) rfl rfl (by omega) (by omega) h88
    show aw_W _ _ _ _ (89, [some (.ref 46), some (.int 0), some (.int (nI a)), some (.int 0), some (.int (nI d)), some (.int (nI b)), some (.int (nI k))], []) (ae_en σ (au α [(58, (va_cpy (α 58) (α 58) (40 * 0 + a) (40 * 0 + d) k)), (59, (fC b (fun k => α 58 (40 * 0 + a + k)) mv))]) z t0 ts)
    refine aw_go 16 rfl ⟨trivial, trivial, trivial, trivial, trivial, trivial, trivial, trivial, trivial, trivial, trivial, trivial, (cI_in (a := k) rfl (by omega) (by decide)), (cI_in (a := ((40 * 0) + d) + k) (cI_add (a := (40 * 0) + d) (b := k) (cI_add (a := 40 * 0) (b := d) (cI_mul (a := 40) (b := 0) rfl rfl) rfl) rfl) (by omega) (by decide)), trivial, trivial, trivial⟩ ?_
    show aw_W _ _ _ _ (86, [some (.ref 46), some (.int 0), some (.int (nI a)), some (.int 0), some (.int (nI d)), some (.int (nI b)), some (.int ((nI k) + 1))], []) (ae_en σ (au α [(58, upd (va_cpy (α 58) (α 58) (40 * 0 + a) (40 * 0 + d) k) (((40 * 0) + (nI d)) + (nI k)).toNatClampNeg ((fC b (fun k => α 58 (40 * 0 + a + k)) mv) (nI k).toNatClampNeg)), (59, (fC b (fun k => α 58 (40 * 0 + a + k)) mv))]) z t0 ts)
    rw [show (nI k).toNatClampNeg = k from cI_cl (a := k) rfl (by omega)]
    rw [show (((40 * 0) + (nI d)) + (nI k)).toNatClampNeg = ((40 * 0) + d) + k from cI_cl (a := ((40 * 0) + d) + k) (cI_add (a := (40 * 0) + d) (b := k) (cI_add (a := 40 * 0) (b := d) (cI_mul (a := 40) (b := 0) rfl rfl) rfl) rfl) (by omega)]
    rw [show (nI k) + 1 = nI (k + 1) from (cI_add (a := k) (b := 1) rfl rfl)]
    rw [fC_lt (show k < b by omega), cpy_s]
    exact lp_cpB_0_0 h1 h2 (k + 1) (by omega)
termination_by b - k
decreasing_by all_goals omega
theorem lp_cpA_0_0 {zd : Nat} {a d b : Nat} {mv : Nat → Int32} (h1 : a + b ≤ 40) (h2 : d + b ≤ 40) (k : Nat) (hk : k ≤ b) : aw_W P (zd) cd_Model_copy (fun r H => ∃ mv : Nat → Int32, r = some (.int (nI b)) ∧ H = ae_en σ (au α [(58, (va_cpy (α 58) (α 58) (40 * 0 + a) (40 * 0 + d) b)), (59, mv)]) z t0 ts) (65, [some (.ref 46), some (.int 0), some (.int (nI a)), some (.int 0), some (.int (nI d)), some (.int (nI b)), some (.int (nI k))], []) (ae_en σ (au α [(59, (fC k (fun k => α 58 (40 * 0 + a + k)) mv))]) z t0 ts) := by
  refine aw_go 3 rfl ⟨trivial, trivial, trivial, trivial⟩ ?_
  refine aw_br (c := (nI b) ≤ (nI k)) (fun h67 => ?_) (fun h67 => ?_)
  · skip
    have h67 := cI_leT (a := b) (b := k) rfl rfl (by omega) (by omega) h67
    show aw_W _ _ _ _ (84, [some (.ref 46), some (.int 0), some (.int (nI a)), some (.int 0), some (.int (nI d)), some (.int (nI b)), some (.int (nI k))], []) (ae_en σ (au α [(59, (fC k (fun k => α 58 (40 * 0 + a + k)) mv))]) z t0 ts)
    have e8 : k = b := by omega
    refine aw_go 2 rfl ⟨trivial, trivial, trivial⟩ ?_
    rw [e8]
    exact aw_to (lp_cpB_0_0 h1 h2 0 (Nat.zero_le _)) rfl (by rw [cpy_0]; rfl)
  · skip
    have h67 := cI_leF (a := b) (b := k) rfl rfl (by omega) (by omega) h67
    show aw_W _ _ _ _ (68, [some (.ref 46), some (.int 0), some (.int (nI a)), some (.int 0), some (.int (nI d)), some (.int (nI b)), some (.int (nI k))], []) (ae_en σ (au α [(59, (fC k (fun k => α 58 (40 * 0 + a + k)) mv))]) z t0 ts)
    refine aw_go 16 rfl ⟨trivial, trivial, trivial, trivial, trivial, trivial, trivial, trivial, trivial, trivial, trivial, trivial, (cI_in (a := ((40 * 0) + a) + k) (cI_add (a := (40 * 0) + a) (b := k) (cI_add (a := 40 * 0) (b := a) (cI_mul (a := 40) (b := 0) rfl rfl) rfl) rfl) (by omega) (by decide)), (cI_in (a := k) rfl (by omega) (by decide)), trivial, trivial, trivial⟩ ?_
    show aw_W _ _ _ _ (65, [some (.ref 46), some (.int 0), some (.int (nI a)), some (.int 0), some (.int (nI d)), some (.int (nI b)), some (.int ((nI k) + 1))], []) (ae_en σ (au α [(59, upd (fC k (fun k => α 58 (40 * 0 + a + k)) mv) (nI k).toNatClampNeg (α 58 (((40 * 0) + (nI a)) + (nI k)).toNatClampNeg))]) z t0 ts)
    rw [show (((40 * 0) + (nI a)) + (nI k)).toNatClampNeg = ((40 * 0) + a) + k from cI_cl (a := ((40 * 0) + a) + k) (cI_add (a := (40 * 0) + a) (b := k) (cI_add (a := 40 * 0) (b := a) (cI_mul (a := 40) (b := 0) rfl rfl) rfl) rfl) (by omega)]
    rw [show (nI k).toNatClampNeg = k from cI_cl (a := k) rfl (by omega)]
    rw [show (nI k) + 1 = nI (k + 1) from (cI_add (a := k) (b := 1) rfl rfl)]
    rw [fC_s (X := (fun k => α 58 (40 * 0 + a + k))) rfl]
    exact lp_cpA_0_0 h1 h2 (k + 1) (by omega)
termination_by b - k
decreasing_by all_goals omega
theorem em_copy_0_0 {m m2 : Nat} {i j n : Int32} {zd : Nat} (hm : ¬ α 56 0 < 0 → α 57 0 = nI m) (hm40 : m ≤ 40) (hm2 : ¬ α 56 0 < 0 → α 57 0 = nI m2) (hm240 : m2 ≤ 40) : aw_X P (zd + 3) 175 [.ref 46, .int 0, .int i, .int 0, .int j, .int n] (ae_en σ α z t0 ts) (fun r H => ∃ (mv : Nat → Int32), r = some (.int ((pCopyM 0 0 m m2 i j n (α 56) (α 58)).1)) ∧ H = (ae_en σ (au α [(58, (pCopyM 0 0 m m2 i j n (α 56) (α 58)).2), (59, mv)]) z t0 ts)) := by
  refine aw_ev (cd := cd_Model_copy) rfl rfl rfl ?_
  show aw_W _ _ _ _ (0, [some (.ref 46), some (.int 0), some (.int i), some (.int 0), some (.int j), some (.int n), none], []) (ae_en σ α z t0 ts)
  refine aw_go 1 rfl ⟨trivial, trivial⟩ ?_
  refine aw_callE rfl rfl (ev_Model_isSheet (s := 0)) ?_
  show aw_W _ _ _ _ (2, [some (.ref 46), some (.int 0), some (.int i), some (.int 0), some (.int j), some (.int n), none], [.int (bI (iP 4 0))]) (ae_en σ α z t0 ts)
  refine aw_go 1 rfl ⟨trivial, trivial⟩ ?_
  refine aw_br (c := (bI (iP 4 0)) = 0) (fun h2 => ?_) (fun h2 => ?_)
  · skip
    have h2 := bI_f h2
    show aw_W _ _ _ _ (6, [some (.ref 46), some (.int 0), some (.int i), some (.int 0), some (.int j), some (.int n), none], []) (ae_en σ α z t0 ts)
    exact absurd h2 (by decide)
  · skip
    have h2 := bI_t h2
    show aw_W _ _ _ _ (3, [some (.ref 46), some (.int 0), some (.int i), some (.int 0), some (.int j), some (.int n), none], []) (ae_en σ α z t0 ts)
    refine aw_go 1 rfl ⟨trivial, trivial⟩ ?_
    refine aw_callE rfl rfl (ev_Model_isSheet (s := 0)) ?_
    show aw_W _ _ _ _ (5, [some (.ref 46), some (.int 0), some (.int i), some (.int 0), some (.int j), some (.int n), none], [.int (bI (iP 4 0))]) (ae_en σ α z t0 ts)
    refine aw_go 1 rfl ⟨trivial, trivial⟩ ?_
    refine aw_br (c := ¬ (bI (iP 4 0)) = 0) (fun h5 => ?_) (fun h5 => ?_)
    · skip
      have h5 := bI_t h5
      show aw_W _ _ _ _ (8, [some (.ref 46), some (.int 0), some (.int i), some (.int 0), some (.int j), some (.int n), none], []) (ae_en σ α z t0 ts)
      refine aw_go 5 rfl ⟨trivial, trivial, trivial, (cI_in (a := 0) rfl (by omega) (by decide)), trivial, trivial⟩ ?_
      show aw_W _ _ _ _ (if (α 56 (0 : Int32).toNatClampNeg) < 0 then 18 else 13, [some (.ref 46), some (.int 0), some (.int i), some (.int 0), some (.int j), some (.int n), none], []) (ae_en σ α z t0 ts)
      rw [show (0 : Int32).toNatClampNeg = 0 from cI_cl (a := 0) rfl (by omega)]
      refine aw_br (c := (α 56 0) < 0) (fun h12 => ?_) (fun h12 => ?_)
      · skip
        show aw_W _ _ _ _ (18, [some (.ref 46), some (.int 0), some (.int i), some (.int 0), some (.int j), some (.int n), none], []) (ae_en σ α z t0 ts)
        refine aw_go 1 rfl ⟨trivial, trivial⟩ ?_
        refine aw_ret rfl rfl trivial ?_
        rw [pCopyM, if_pos (Or.inl h12)]
        exact ⟨_, rfl, rfl⟩
      · skip
        show aw_W _ _ _ _ (13, [some (.ref 46), some (.int 0), some (.int i), some (.int 0), some (.int j), some (.int n), none], []) (ae_en σ α z t0 ts)
        refine aw_go 5 rfl ⟨trivial, trivial, trivial, (cI_in (a := 0) rfl (by omega) (by decide)), trivial, trivial⟩ ?_
        show aw_W _ _ _ _ (if (0 : Int32) ≤ (α 56 (0 : Int32).toNatClampNeg) then 20 else 18, [some (.ref 46), some (.int 0), some (.int i), some (.int 0), some (.int j), some (.int n), none], []) (ae_en σ α z t0 ts)
        rw [show (0 : Int32).toNatClampNeg = 0 from cI_cl (a := 0) rfl (by omega)]
        refine aw_br (c := (0 : Int32) ≤ (α 56 0)) (fun h17 => ?_) (fun h17 => ?_)
        · skip
          show aw_W _ _ _ _ (20, [some (.ref 46), some (.int 0), some (.int i), some (.int 0), some (.int j), some (.int n), none], []) (ae_en σ α z t0 ts)
          refine aw_go 9 rfl ⟨trivial, trivial, trivial, (cI_in (a := 0) rfl (by omega) (by decide)), trivial, trivial, trivial, (cI_in (a := 0) rfl (by omega) (by decide)), trivial, trivial⟩ ?_
          show aw_W _ _ _ _ (if (α 56 (0 : Int32).toNatClampNeg) = (α 56 (0 : Int32).toNatClampNeg) then 31 else 29, [some (.ref 46), some (.int 0), some (.int i), some (.int 0), some (.int j), some (.int n), none], []) (ae_en σ α z t0 ts)
          rw [show (0 : Int32).toNatClampNeg = 0 from cI_cl (a := 0) rfl (by omega)]
          refine aw_br (c := (α 56 0) = (α 56 0)) (fun h28 => ?_) (fun h28 => ?_)
          · skip
            show aw_W _ _ _ _ (31, [some (.ref 46), some (.int 0), some (.int i), some (.int 0), some (.int j), some (.int n), none], []) (ae_en σ α z t0 ts)
            refine aw_go 2 rfl ⟨trivial, trivial, trivial⟩ ?_
            refine aw_br (c := n < 0) (fun h32 => ?_) (fun h32 => ?_)
            · skip
              show aw_W _ _ _ _ (61, [some (.ref 46), some (.int 0), some (.int i), some (.int 0), some (.int j), some (.int n), none], []) (ae_en σ α z t0 ts)
              refine aw_go 1 rfl ⟨trivial, trivial⟩ ?_
              refine aw_ret rfl rfl trivial ?_
              rw [pCopyM, if_neg (fun q => q.elim h12 (Int32.not_lt.mpr h17)), if_neg (fun q => q h28), if_neg (fun q => q.1.1 h32)]
              exact ⟨_, rfl, rfl⟩
            · skip
              show aw_W _ _ _ _ (33, [some (.ref 46), some (.int 0), some (.int i), some (.int 0), some (.int j), some (.int n), none], []) (ae_en σ α z t0 ts)
              refine aw_go 2 rfl ⟨trivial, trivial, trivial⟩ ?_
              refine aw_br (c := i < 0) (fun h34 => ?_) (fun h34 => ?_)
              · skip
                show aw_W _ _ _ _ (61, [some (.ref 46), some (.int 0), some (.int i), some (.int 0), some (.int j), some (.int n), none], []) (ae_en σ α z t0 ts)
                refine aw_go 1 rfl ⟨trivial, trivial⟩ ?_
                refine aw_ret rfl rfl trivial ?_
                rw [pCopyM, if_neg (fun q => q.elim h12 (Int32.not_lt.mpr h17)), if_neg (fun q => q h28), if_neg (fun q => q.1.2.1 h34)]
                exact ⟨_, rfl, rfl⟩
              · skip
                show aw_W _ _ _ _ (35, [some (.ref 46), some (.int 0), some (.int i), some (.int 0), some (.int j), some (.int n), none], []) (ae_en σ α z t0 ts)
                refine aw_go 2 rfl ⟨trivial, trivial, trivial⟩ ?_
                refine aw_br (c := j < 0) (fun h36 => ?_) (fun h36 => ?_)
                · skip
                  show aw_W _ _ _ _ (61, [some (.ref 46), some (.int 0), some (.int i), some (.int 0), some (.int j), some (.int n), none], []) (ae_en σ α z t0 ts)
                  refine aw_go 1 rfl ⟨trivial, trivial⟩ ?_
                  refine aw_ret rfl rfl trivial ?_
                  rw [pCopyM, if_neg (fun q => q.elim h12 (Int32.not_lt.mpr h17)), if_neg (fun q => q h28), if_neg (fun q => q.2.2.1 h36)]
                  exact ⟨_, rfl, rfl⟩
                · skip
                  show aw_W _ _ _ _ (37, [some (.ref 46), some (.int 0), some (.int i), some (.int 0), some (.int j), some (.int n), none], []) (ae_en σ α z t0 ts)
                  obtain ⟨a, ha, rfl⟩ := nI_of h34
                  obtain ⟨d, hd, rfl⟩ := nI_of h36
                  obtain ⟨b, hb, rfl⟩ := nI_of h32
                  refine aw_go 12 rfl ⟨trivial, trivial, trivial, trivial, trivial, trivial, trivial, trivial, (cI_in (a := 0) rfl (by omega) (by decide)), trivial, trivial, trivial, trivial⟩ ?_
                  show aw_W _ _ _ _ (if (0 : Int32) < (lg_cmp (((nI a).toInt64) + ((nI b).toInt64)) ((α 57 (0 : Int32).toNatClampNeg).toInt64)) then 61 else 49, [some (.ref 46), some (.int 0), some (.int (nI a)), some (.int 0), some (.int (nI d)), some (.int (nI b)), none], []) (ae_en σ α z t0 ts)
                  rw [show (0 : Int32).toNatClampNeg = 0 from cI_cl (a := 0) rfl (by omega)]
                  refine aw_br (c := (0 : Int32) < (lg_cmp (((nI a).toInt64) + ((nI b).toInt64)) ((α 57 0).toInt64))) (fun h48 => ?_) (fun h48 => ?_)
                  · skip
                    show aw_W _ _ _ _ (61, [some (.ref 46), some (.int 0), some (.int (nI a)), some (.int 0), some (.int (nI d)), some (.int (nI b)), none], []) (ae_en σ α z t0 ts)
                    refine aw_go 1 rfl ⟨trivial, trivial⟩ ?_
                    refine aw_ret rfl rfl trivial ?_
                    rw [pCopyM, if_neg (fun q => q.elim h12 (Int32.not_lt.mpr h17)), if_neg (fun q => q h28), if_neg (fun q => by have := q.1.2.2; rw [nI_clamp ha, nI_clamp hb] at this; have h48 := lgG.mp h48; rw [hm h12, lgS ha hb (by omega)] at h48; omega)]
                    exact ⟨_, rfl, rfl⟩
                  · skip
                    show aw_W _ _ _ _ (49, [some (.ref 46), some (.int 0), some (.int (nI a)), some (.int 0), some (.int (nI d)), some (.int (nI b)), none], []) (ae_en σ α z t0 ts)
                    refine aw_go 12 rfl ⟨trivial, trivial, trivial, trivial, trivial, trivial, trivial, trivial, (cI_in (a := 0) rfl (by omega) (by decide)), trivial, trivial, trivial, trivial⟩ ?_
                    show aw_W _ _ _ _ (if (lg_cmp (((nI d).toInt64) + ((nI b).toInt64)) ((α 57 (0 : Int32).toNatClampNeg).toInt64)) ≤ 0 then 63 else 61, [some (.ref 46), some (.int 0), some (.int (nI a)), some (.int 0), some (.int (nI d)), some (.int (nI b)), none], []) (ae_en σ α z t0 ts)
                    rw [show (0 : Int32).toNatClampNeg = 0 from cI_cl (a := 0) rfl (by omega)]
                    refine aw_br (c := (lg_cmp (((nI d).toInt64) + ((nI b).toInt64)) ((α 57 0).toInt64)) ≤ 0) (fun h60 => ?_) (fun h60 => ?_)
                    · skip
                      show aw_W _ _ _ _ (63, [some (.ref 46), some (.int 0), some (.int (nI a)), some (.int 0), some (.int (nI d)), some (.int (nI b)), none], []) (ae_en σ α z t0 ts)
                      refine aw_go 2 rfl ⟨trivial, trivial, trivial⟩ ?_
                      have g1 : ¬ m < a + b := fun q => h48 (lgG.mpr (by rw [hm h12]; exact (lgS ha hb (by omega)).mpr q))
                      have g2 : ¬ m2 < d + b := fun q => absurd h60 (Int32.not_le.mpr (lgG.mpr (by rw [hm2 (Int32.not_lt.mpr h17)]; exact (lgS hd hb (by omega)).mpr q)))
                      rw [pCopyM, if_neg (fun q => q.elim h12 (Int32.not_lt.mpr h17)), if_neg (fun q => q h28), if_pos ⟨⟨h32, h34, by rw [nI_clamp ha, nI_clamp hb]; omega⟩, ⟨h32, h36, by rw [nI_clamp hd, nI_clamp hb]; omega⟩⟩, nI_clamp ha, nI_clamp hb, nI_clamp hd]
                      exact aw_to (lp_cpA_0_0 (mv := α 59) (by omega) (by omega) 0 (Nat.zero_le _)) rfl (by rw [fC_0]; rfl)
                    · skip
                      show aw_W _ _ _ _ (61, [some (.ref 46), some (.int 0), some (.int (nI a)), some (.int 0), some (.int (nI d)), some (.int (nI b)), none], []) (ae_en σ α z t0 ts)
                      refine aw_go 1 rfl ⟨trivial, trivial⟩ ?_
                      refine aw_ret rfl rfl trivial ?_
                      rw [pCopyM, if_neg (fun q => q.elim h12 (Int32.not_lt.mpr h17)), if_neg (fun q => q h28), if_neg (fun q => by have := q.2.2.2; rw [nI_clamp hd, nI_clamp hb] at this; have h60 := lgG.mp (Int32.not_le.mp h60); rw [hm2 (Int32.not_lt.mpr h17), lgS hd hb (by omega)] at h60; omega)]
                      exact ⟨_, rfl, rfl⟩
          · skip
            show aw_W _ _ _ _ (29, [some (.ref 46), some (.int 0), some (.int i), some (.int 0), some (.int j), some (.int n), none], []) (ae_en σ α z t0 ts)
            refine aw_go 1 rfl ⟨trivial, trivial⟩ ?_
            refine aw_ret rfl rfl trivial ?_
            rw [pCopyM, if_neg (fun q => q.elim h12 (Int32.not_lt.mpr h17)), if_pos h28]
            exact ⟨_, rfl, rfl⟩
        · skip
          show aw_W _ _ _ _ (18, [some (.ref 46), some (.int 0), some (.int i), some (.int 0), some (.int j), some (.int n), none], []) (ae_en σ α z t0 ts)
          refine aw_go 1 rfl ⟨trivial, trivial⟩ ?_
          refine aw_ret rfl rfl trivial ?_
          rw [pCopyM, if_pos (Or.inr (Int32.not_le.mp h17))]
          exact ⟨_, rfl, rfl⟩
    · skip
      have h5 := bI_f (Classical.not_not.mp h5)
      show aw_W _ _ _ _ (6, [some (.ref 46), some (.int 0), some (.int i), some (.int 0), some (.int j), some (.int n), none], []) (ae_en σ α z t0 ts)
      exact absurd h5 (by decide)
theorem lp_cpB_0_1 {zd : Nat} {a d b : Nat} {mv : Nat → Int32} (h1 : a + b ≤ 40) (h2 : d + b ≤ 40) (k : Nat) (hk : k ≤ b) : aw_W P (zd) cd_Model_copy (fun r H => ∃ mv : Nat → Int32, r = some (.int (nI b)) ∧ H = ae_en σ (au α [(58, (va_cpy (α 58) (α 58) (40 * 0 + a) (40 * 1 + d) b)), (59, mv)]) z t0 ts) (86, [some (.ref 46), some (.int 0), some (.int (nI a)), some (.int 1), some (.int (nI d)), some (.int (nI b)), some (.int (nI k))], []) (ae_en σ (au α [(58, (va_cpy (α 58) (α 58) (40 * 0 + a) (40 * 1 + d) k)), (59, (fC b (fun k => α 58 (40 * 0 + a + k)) mv))]) z t0 ts) := by
  refine aw_go 3 rfl ⟨trivial, trivial, trivial, trivial⟩ ?_
  refine aw_br (c := (nI b) ≤ (nI k)) (fun h88 => ?_) (fun h88 => ?_)
  · skip
    have h88 := cI_leT (a := b) (b := k) rfl rfl (by omega) (by omega) h88
    show aw_W _ _ _ _ (105, [some (.ref 46), some (.int 0), some (.int (nI a)), some (.int 1), some (.int (nI d)), some (.int (nI b)), some (.int (nI k))], []) (ae_en σ (au α [(58, (va_cpy (α 58) (α 58) (40 * 0 + a) (40 * 1 + d) k)), (59, (fC b (fun k => α 58 (40 * 0 + a + k)) mv))]) z t0 ts)
    have e8 : k = b := by omega
    refine aw_go 1 rfl ⟨trivial, trivial⟩ ?_
    refine aw_ret rfl rfl trivial ?_
    rw [e8]
    exact ⟨_, rfl, rfl⟩
  · skip
    have h88 := cI_leF (a := b) (b := k) rfl rfl (by omega) (by omega) h88
    show aw_W _ _ _ _ (89, [some (.ref 46), some (.int 0), some (.int (nI a)), some (.int 1), some (.int (nI d)), some (.int (nI b)), some (.int (nI k))], []) (ae_en σ (au α [(58, (va_cpy (α 58) (α 58) (40 * 0 + a) (40 * 1 + d) k)), (59, (fC b (fun k => α 58 (40 * 0 + a + k)) mv))]) z t0 ts)
    refine aw_go 16 rfl ⟨trivial, trivial, trivial, trivial, trivial, trivial, trivial, trivial, trivial, trivial, trivial, trivial, (cI_in (a := k) rfl (by omega) (by decide)), (cI_in (a := ((40 * 1) + d) + k) (cI_add (a := (40 * 1) + d) (b := k) (cI_add (a := 40 * 1) (b := d) (cI_mul (a := 40) (b := 1) rfl rfl) rfl) rfl) (by omega) (by decide)), trivial, trivial, trivial⟩ ?_
    show aw_W _ _ _ _ (86, [some (.ref 46), some (.int 0), some (.int (nI a)), some (.int 1), some (.int (nI d)), some (.int (nI b)), some (.int ((nI k) + 1))], []) (ae_en σ (au α [(58, upd (va_cpy (α 58) (α 58) (40 * 0 + a) (40 * 1 + d) k) (((40 * 1) + (nI d)) + (nI k)).toNatClampNeg ((fC b (fun k => α 58 (40 * 0 + a + k)) mv) (nI k).toNatClampNeg)), (59, (fC b (fun k => α 58 (40 * 0 + a + k)) mv))]) z t0 ts)
    rw [show (nI k).toNatClampNeg = k from cI_cl (a := k) rfl (by omega)]
    rw [show (((40 * 1) + (nI d)) + (nI k)).toNatClampNeg = ((40 * 1) + d) + k from cI_cl (a := ((40 * 1) + d) + k) (cI_add (a := (40 * 1) + d) (b := k) (cI_add (a := 40 * 1) (b := d) (cI_mul (a := 40) (b := 1) rfl rfl) rfl) rfl) (by omega)]
    rw [show (nI k) + 1 = nI (k + 1) from (cI_add (a := k) (b := 1) rfl rfl)]
    rw [fC_lt (show k < b by omega), cpy_s]
    exact lp_cpB_0_1 h1 h2 (k + 1) (by omega)
termination_by b - k
decreasing_by all_goals omega
theorem lp_cpA_0_1 {zd : Nat} {a d b : Nat} {mv : Nat → Int32} (h1 : a + b ≤ 40) (h2 : d + b ≤ 40) (k : Nat) (hk : k ≤ b) : aw_W P (zd) cd_Model_copy (fun r H => ∃ mv : Nat → Int32, r = some (.int (nI b)) ∧ H = ae_en σ (au α [(58, (va_cpy (α 58) (α 58) (40 * 0 + a) (40 * 1 + d) b)), (59, mv)]) z t0 ts) (65, [some (.ref 46), some (.int 0), some (.int (nI a)), some (.int 1), some (.int (nI d)), some (.int (nI b)), some (.int (nI k))], []) (ae_en σ (au α [(59, (fC k (fun k => α 58 (40 * 0 + a + k)) mv))]) z t0 ts) := by
  refine aw_go 3 rfl ⟨trivial, trivial, trivial, trivial⟩ ?_
  refine aw_br (c := (nI b) ≤ (nI k)) (fun h67 => ?_) (fun h67 => ?_)
  · skip
    have h67 := cI_leT (a := b) (b := k) rfl rfl (by omega) (by omega) h67
    show aw_W _ _ _ _ (84, [some (.ref 46), some (.int 0), some (.int (nI a)), some (.int 1), some (.int (nI d)), some (.int (nI b)), some (.int (nI k))], []) (ae_en σ (au α [(59, (fC k (fun k => α 58 (40 * 0 + a + k)) mv))]) z t0 ts)
    have e8 : k = b := by omega
    refine aw_go 2 rfl ⟨trivial, trivial, trivial⟩ ?_
    rw [e8]
    exact aw_to (lp_cpB_0_1 h1 h2 0 (Nat.zero_le _)) rfl (by rw [cpy_0]; rfl)
  · skip
    have h67 := cI_leF (a := b) (b := k) rfl rfl (by omega) (by omega) h67
    show aw_W _ _ _ _ (68, [some (.ref 46), some (.int 0), some (.int (nI a)), some (.int 1), some (.int (nI d)), some (.int (nI b)), some (.int (nI k))], []) (ae_en σ (au α [(59, (fC k (fun k => α 58 (40 * 0 + a + k)) mv))]) z t0 ts)
    refine aw_go 16 rfl ⟨trivial, trivial, trivial, trivial, trivial, trivial, trivial, trivial, trivial, trivial, trivial, trivial, (cI_in (a := ((40 * 0) + a) + k) (cI_add (a := (40 * 0) + a) (b := k) (cI_add (a := 40 * 0) (b := a) (cI_mul (a := 40) (b := 0) rfl rfl) rfl) rfl) (by omega) (by decide)), (cI_in (a := k) rfl (by omega) (by decide)), trivial, trivial, trivial⟩ ?_
    show aw_W _ _ _ _ (65, [some (.ref 46), some (.int 0), some (.int (nI a)), some (.int 1), some (.int (nI d)), some (.int (nI b)), some (.int ((nI k) + 1))], []) (ae_en σ (au α [(59, upd (fC k (fun k => α 58 (40 * 0 + a + k)) mv) (nI k).toNatClampNeg (α 58 (((40 * 0) + (nI a)) + (nI k)).toNatClampNeg))]) z t0 ts)
    rw [show (((40 * 0) + (nI a)) + (nI k)).toNatClampNeg = ((40 * 0) + a) + k from cI_cl (a := ((40 * 0) + a) + k) (cI_add (a := (40 * 0) + a) (b := k) (cI_add (a := 40 * 0) (b := a) (cI_mul (a := 40) (b := 0) rfl rfl) rfl) rfl) (by omega)]
    rw [show (nI k).toNatClampNeg = k from cI_cl (a := k) rfl (by omega)]
    rw [show (nI k) + 1 = nI (k + 1) from (cI_add (a := k) (b := 1) rfl rfl)]
    rw [fC_s (X := (fun k => α 58 (40 * 0 + a + k))) rfl]
    exact lp_cpA_0_1 h1 h2 (k + 1) (by omega)
termination_by b - k
decreasing_by all_goals omega
theorem em_copy_0_1 {m m2 : Nat} {i j n : Int32} {zd : Nat} (hm : ¬ α 56 0 < 0 → α 57 0 = nI m) (hm40 : m ≤ 40) (hm2 : ¬ α 56 1 < 0 → α 57 1 = nI m2) (hm240 : m2 ≤ 40) : aw_X P (zd + 3) 175 [.ref 46, .int 0, .int i, .int 1, .int j, .int n] (ae_en σ α z t0 ts) (fun r H => ∃ (mv : Nat → Int32), r = some (.int ((pCopyM 0 1 m m2 i j n (α 56) (α 58)).1)) ∧ H = (ae_en σ (au α [(58, (pCopyM 0 1 m m2 i j n (α 56) (α 58)).2), (59, mv)]) z t0 ts)) := by
  refine aw_ev (cd := cd_Model_copy) rfl rfl rfl ?_
  show aw_W _ _ _ _ (0, [some (.ref 46), some (.int 0), some (.int i), some (.int 1), some (.int j), some (.int n), none], []) (ae_en σ α z t0 ts)
  refine aw_go 1 rfl ⟨trivial, trivial⟩ ?_
  refine aw_callE rfl rfl (ev_Model_isSheet (s := 0)) ?_
  show aw_W _ _ _ _ (2, [some (.ref 46), some (.int 0), some (.int i), some (.int 1), some (.int j), some (.int n), none], [.int (bI (iP 4 0))]) (ae_en σ α z t0 ts)
  refine aw_go 1 rfl ⟨trivial, trivial⟩ ?_
  refine aw_br (c := (bI (iP 4 0)) = 0) (fun h2 => ?_) (fun h2 => ?_)
  · skip
    have h2 := bI_f h2
    show aw_W _ _ _ _ (6, [some (.ref 46), some (.int 0), some (.int i), some (.int 1), some (.int j), some (.int n), none], []) (ae_en σ α z t0 ts)
    exact absurd h2 (by decide)
  · skip
    have h2 := bI_t h2
    show aw_W _ _ _ _ (3, [some (.ref 46), some (.int 0), some (.int i), some (.int 1), some (.int j), some (.int n), none], []) (ae_en σ α z t0 ts)
    refine aw_go 1 rfl ⟨trivial, trivial⟩ ?_
    refine aw_callE rfl rfl (ev_Model_isSheet (s := 1)) ?_
    show aw_W _ _ _ _ (5, [some (.ref 46), some (.int 0), some (.int i), some (.int 1), some (.int j), some (.int n), none], [.int (bI (iP 4 1))]) (ae_en σ α z t0 ts)
    refine aw_go 1 rfl ⟨trivial, trivial⟩ ?_
    refine aw_br (c := ¬ (bI (iP 4 1)) = 0) (fun h5 => ?_) (fun h5 => ?_)
    · skip
      have h5 := bI_t h5
      show aw_W _ _ _ _ (8, [some (.ref 46), some (.int 0), some (.int i), some (.int 1), some (.int j), some (.int n), none], []) (ae_en σ α z t0 ts)
      refine aw_go 5 rfl ⟨trivial, trivial, trivial, (cI_in (a := 0) rfl (by omega) (by decide)), trivial, trivial⟩ ?_
      show aw_W _ _ _ _ (if (α 56 (0 : Int32).toNatClampNeg) < 0 then 18 else 13, [some (.ref 46), some (.int 0), some (.int i), some (.int 1), some (.int j), some (.int n), none], []) (ae_en σ α z t0 ts)
      rw [show (0 : Int32).toNatClampNeg = 0 from cI_cl (a := 0) rfl (by omega)]
      refine aw_br (c := (α 56 0) < 0) (fun h12 => ?_) (fun h12 => ?_)
      · skip
        show aw_W _ _ _ _ (18, [some (.ref 46), some (.int 0), some (.int i), some (.int 1), some (.int j), some (.int n), none], []) (ae_en σ α z t0 ts)
        refine aw_go 1 rfl ⟨trivial, trivial⟩ ?_
        refine aw_ret rfl rfl trivial ?_
        rw [pCopyM, if_pos (Or.inl h12)]
        exact ⟨_, rfl, rfl⟩
      · skip
        show aw_W _ _ _ _ (13, [some (.ref 46), some (.int 0), some (.int i), some (.int 1), some (.int j), some (.int n), none], []) (ae_en σ α z t0 ts)
        refine aw_go 5 rfl ⟨trivial, trivial, trivial, (cI_in (a := 1) rfl (by omega) (by decide)), trivial, trivial⟩ ?_
        show aw_W _ _ _ _ (if (0 : Int32) ≤ (α 56 (1 : Int32).toNatClampNeg) then 20 else 18, [some (.ref 46), some (.int 0), some (.int i), some (.int 1), some (.int j), some (.int n), none], []) (ae_en σ α z t0 ts)
        rw [show (1 : Int32).toNatClampNeg = 1 from cI_cl (a := 1) rfl (by omega)]
        refine aw_br (c := (0 : Int32) ≤ (α 56 1)) (fun h17 => ?_) (fun h17 => ?_)
        · skip
          show aw_W _ _ _ _ (20, [some (.ref 46), some (.int 0), some (.int i), some (.int 1), some (.int j), some (.int n), none], []) (ae_en σ α z t0 ts)
          refine aw_go 9 rfl ⟨trivial, trivial, trivial, (cI_in (a := 0) rfl (by omega) (by decide)), trivial, trivial, trivial, (cI_in (a := 1) rfl (by omega) (by decide)), trivial, trivial⟩ ?_
          show aw_W _ _ _ _ (if (α 56 (0 : Int32).toNatClampNeg) = (α 56 (1 : Int32).toNatClampNeg) then 31 else 29, [some (.ref 46), some (.int 0), some (.int i), some (.int 1), some (.int j), some (.int n), none], []) (ae_en σ α z t0 ts)
          rw [show (0 : Int32).toNatClampNeg = 0 from cI_cl (a := 0) rfl (by omega)]
          rw [show (1 : Int32).toNatClampNeg = 1 from cI_cl (a := 1) rfl (by omega)]
          refine aw_br (c := (α 56 0) = (α 56 1)) (fun h28 => ?_) (fun h28 => ?_)
          · skip
            show aw_W _ _ _ _ (31, [some (.ref 46), some (.int 0), some (.int i), some (.int 1), some (.int j), some (.int n), none], []) (ae_en σ α z t0 ts)
            refine aw_go 2 rfl ⟨trivial, trivial, trivial⟩ ?_
            refine aw_br (c := n < 0) (fun h32 => ?_) (fun h32 => ?_)
            · skip
              show aw_W _ _ _ _ (61, [some (.ref 46), some (.int 0), some (.int i), some (.int 1), some (.int j), some (.int n), none], []) (ae_en σ α z t0 ts)
              refine aw_go 1 rfl ⟨trivial, trivial⟩ ?_
              refine aw_ret rfl rfl trivial ?_
              rw [pCopyM, if_neg (fun q => q.elim h12 (Int32.not_lt.mpr h17)), if_neg (fun q => q h28), if_neg (fun q => q.1.1 h32)]
              exact ⟨_, rfl, rfl⟩
            · skip
              show aw_W _ _ _ _ (33, [some (.ref 46), some (.int 0), some (.int i), some (.int 1), some (.int j), some (.int n), none], []) (ae_en σ α z t0 ts)
              refine aw_go 2 rfl ⟨trivial, trivial, trivial⟩ ?_
              refine aw_br (c := i < 0) (fun h34 => ?_) (fun h34 => ?_)
              · skip
                show aw_W _ _ _ _ (61, [some (.ref 46), some (.int 0), some (.int i), some (.int 1), some (.int j), some (.int n), none], []) (ae_en σ α z t0 ts)
                refine aw_go 1 rfl ⟨trivial, trivial⟩ ?_
                refine aw_ret rfl rfl trivial ?_
                rw [pCopyM, if_neg (fun q => q.elim h12 (Int32.not_lt.mpr h17)), if_neg (fun q => q h28), if_neg (fun q => q.1.2.1 h34)]
                exact ⟨_, rfl, rfl⟩
              · skip
                show aw_W _ _ _ _ (35, [some (.ref 46), some (.int 0), some (.int i), some (.int 1), some (.int j), some (.int n), none], []) (ae_en σ α z t0 ts)
                refine aw_go 2 rfl ⟨trivial, trivial, trivial⟩ ?_
                refine aw_br (c := j < 0) (fun h36 => ?_) (fun h36 => ?_)
                · skip
                  show aw_W _ _ _ _ (61, [some (.ref 46), some (.int 0), some (.int i), some (.int 1), some (.int j), some (.int n), none], []) (ae_en σ α z t0 ts)
                  refine aw_go 1 rfl ⟨trivial, trivial⟩ ?_
                  refine aw_ret rfl rfl trivial ?_
                  rw [pCopyM, if_neg (fun q => q.elim h12 (Int32.not_lt.mpr h17)), if_neg (fun q => q h28), if_neg (fun q => q.2.2.1 h36)]
                  exact ⟨_, rfl, rfl⟩
                · skip
                  show aw_W _ _ _ _ (37, [some (.ref 46), some (.int 0), some (.int i), some (.int 1), some (.int j), some (.int n), none], []) (ae_en σ α z t0 ts)
                  obtain ⟨a, ha, rfl⟩ := nI_of h34
                  obtain ⟨d, hd, rfl⟩ := nI_of h36
                  obtain ⟨b, hb, rfl⟩ := nI_of h32
                  refine aw_go 12 rfl ⟨trivial, trivial, trivial, trivial, trivial, trivial, trivial, trivial, (cI_in (a := 0) rfl (by omega) (by decide)), trivial, trivial, trivial, trivial⟩ ?_
                  show aw_W _ _ _ _ (if (0 : Int32) < (lg_cmp (((nI a).toInt64) + ((nI b).toInt64)) ((α 57 (0 : Int32).toNatClampNeg).toInt64)) then 61 else 49, [some (.ref 46), some (.int 0), some (.int (nI a)), some (.int 1), some (.int (nI d)), some (.int (nI b)), none], []) (ae_en σ α z t0 ts)
                  rw [show (0 : Int32).toNatClampNeg = 0 from cI_cl (a := 0) rfl (by omega)]
                  refine aw_br (c := (0 : Int32) < (lg_cmp (((nI a).toInt64) + ((nI b).toInt64)) ((α 57 0).toInt64))) (fun h48 => ?_) (fun h48 => ?_)
                  · skip
                    show aw_W _ _ _ _ (61, [some (.ref 46), some (.int 0), some (.int (nI a)), some (.int 1), some (.int (nI d)), some (.int (nI b)), none], []) (ae_en σ α z t0 ts)
                    refine aw_go 1 rfl ⟨trivial, trivial⟩ ?_
                    refine aw_ret rfl rfl trivial ?_
                    rw [pCopyM, if_neg (fun q => q.elim h12 (Int32.not_lt.mpr h17)), if_neg (fun q => q h28), if_neg (fun q => by have := q.1.2.2; rw [nI_clamp ha, nI_clamp hb] at this; have h48 := lgG.mp h48; rw [hm h12, lgS ha hb (by omega)] at h48; omega)]
                    exact ⟨_, rfl, rfl⟩
                  · skip
                    show aw_W _ _ _ _ (49, [some (.ref 46), some (.int 0), some (.int (nI a)), some (.int 1), some (.int (nI d)), some (.int (nI b)), none], []) (ae_en σ α z t0 ts)
                    refine aw_go 12 rfl ⟨trivial, trivial, trivial, trivial, trivial, trivial, trivial, trivial, (cI_in (a := 1) rfl (by omega) (by decide)), trivial, trivial, trivial, trivial⟩ ?_
                    show aw_W _ _ _ _ (if (lg_cmp (((nI d).toInt64) + ((nI b).toInt64)) ((α 57 (1 : Int32).toNatClampNeg).toInt64)) ≤ 0 then 63 else 61, [some (.ref 46), some (.int 0), some (.int (nI a)), some (.int 1), some (.int (nI d)), some (.int (nI b)), none], []) (ae_en σ α z t0 ts)
                    rw [show (1 : Int32).toNatClampNeg = 1 from cI_cl (a := 1) rfl (by omega)]
                    refine aw_br (c := (lg_cmp (((nI d).toInt64) + ((nI b).toInt64)) ((α 57 1).toInt64)) ≤ 0) (fun h60 => ?_) (fun h60 => ?_)
                    · skip
                      show aw_W _ _ _ _ (63, [some (.ref 46), some (.int 0), some (.int (nI a)), some (.int 1), some (.int (nI d)), some (.int (nI b)), none], []) (ae_en σ α z t0 ts)
                      refine aw_go 2 rfl ⟨trivial, trivial, trivial⟩ ?_
                      have g1 : ¬ m < a + b := fun q => h48 (lgG.mpr (by rw [hm h12]; exact (lgS ha hb (by omega)).mpr q))
                      have g2 : ¬ m2 < d + b := fun q => absurd h60 (Int32.not_le.mpr (lgG.mpr (by rw [hm2 (Int32.not_lt.mpr h17)]; exact (lgS hd hb (by omega)).mpr q)))
                      rw [pCopyM, if_neg (fun q => q.elim h12 (Int32.not_lt.mpr h17)), if_neg (fun q => q h28), if_pos ⟨⟨h32, h34, by rw [nI_clamp ha, nI_clamp hb]; omega⟩, ⟨h32, h36, by rw [nI_clamp hd, nI_clamp hb]; omega⟩⟩, nI_clamp ha, nI_clamp hb, nI_clamp hd]
                      exact aw_to (lp_cpA_0_1 (mv := α 59) (by omega) (by omega) 0 (Nat.zero_le _)) rfl (by rw [fC_0]; rfl)
                    · skip
                      show aw_W _ _ _ _ (61, [some (.ref 46), some (.int 0), some (.int (nI a)), some (.int 1), some (.int (nI d)), some (.int (nI b)), none], []) (ae_en σ α z t0 ts)
                      refine aw_go 1 rfl ⟨trivial, trivial⟩ ?_
                      refine aw_ret rfl rfl trivial ?_
                      rw [pCopyM, if_neg (fun q => q.elim h12 (Int32.not_lt.mpr h17)), if_neg (fun q => q h28), if_neg (fun q => by have := q.2.2.2; rw [nI_clamp hd, nI_clamp hb] at this; have h60 := lgG.mp (Int32.not_le.mp h60); rw [hm2 (Int32.not_lt.mpr h17), lgS hd hb (by omega)] at h60; omega)]
                      exact ⟨_, rfl, rfl⟩
          · skip
            show aw_W _ _ _ _ (29, [some (.ref 46), some (.int 0), some (.int i), some (.int 1), some (.int j), some (.int n), none], []) (ae_en σ α z t0 ts)
            refine aw_go 1 rfl ⟨trivial, trivial⟩ ?_
            refine aw_ret rfl rfl trivial ?_
            rw [pCopyM, if_neg (fun q => q.elim h12 (Int32.not_lt.mpr h17)), if_pos h28]
            exact ⟨_, rfl, rfl⟩
        · skip
          show aw_W _ _ _ _ (18, [some (.ref 46), some (.int 0), some (.int i), some (.int 1), some (.int j), some (.int n), none], []) (ae_en σ α z t0 ts)
          refine aw_go 1 rfl ⟨trivial, trivial⟩ ?_
          refine aw_ret rfl rfl trivial ?_
          rw [pCopyM, if_pos (Or.inr (Int32.not_le.mp h17))]
          exact ⟨_, rfl, rfl⟩
    · skip
      have h5 := bI_f (Classical.not_not.mp h5)
      show aw_W _ _ _ _ (6, [some (.ref 46), some (.int 0), some (.int i), some (.int 1), some (.int j), some (.int n), none], []) (ae_en σ α z t0 ts)
      exact absurd h5 (by decide)
theorem lp_cpB_0_2 {zd : Nat} {a d b : Nat} {mv : Nat → Int32} (h1 : a + b ≤ 40) (h2 : d + b ≤ 40) (k : Nat) (hk : k ≤ b) : aw_W P (zd) cd_Model_copy (fun r H => ∃ mv : Nat → Int32, r = some (.int (nI b)) ∧ H = ae_en σ (au α [(58, (va_cpy (α 58) (α 58) (40 * 0 + a) (40 * 2 + d) b)), (59, mv)]) z t0 ts) (86, [some (.ref 46), some (.int 0), some (.int (nI a)), some (.int 2), some (.int (nI d)), some (.int (nI b)), some (.int (nI k))], []) (ae_en σ (au α [(58, (va_cpy (α 58) (α 58) (40 * 0 + a) (40 * 2 + d) k)), (59, (fC b (fun k => α 58 (40 * 0 + a + k)) mv))]) z t0 ts) := by
  refine aw_go 3 rfl ⟨trivial, trivial, trivial, trivial⟩ ?_
  refine aw_br (c := (nI b) ≤ (nI k)) (fun h88 => ?_) (fun h88 => ?_)
  · skip
    have h88 := cI_leT (a := b) (b := k) rfl rfl (by omega) (by omega) h88
    show aw_W _ _ _ _ (105, [some (.ref 46), some (.int 0), some (.int (nI a)), some (.int 2), some (.int (nI d)), some (.int (nI b)), some (.int (nI k))], []) (ae_en σ (au α [(58, (va_cpy (α 58) (α 58) (40 * 0 + a) (40 * 2 + d) k)), (59, (fC b (fun k => α 58 (40 * 0 + a + k)) mv))]) z t0 ts)
    have e8 : k = b := by omega
    refine aw_go 1 rfl ⟨trivial, trivial⟩ ?_
    refine aw_ret rfl rfl trivial ?_
    rw [e8]
    exact ⟨_, rfl, rfl⟩
  · skip
    have h88 := cI_leF (a := b) (b := k) rfl rfl (by omega) (by omega) h88
    show aw_W _ _ _ _ (89, [some (.ref 46), some (.int 0), some (.int (nI a)), some (.int 2), some (.int (nI d)), some (.int (nI b)), some (.int (nI k))], []) (ae_en σ (au α [(58, (va_cpy (α 58) (α 58) (40 * 0 + a) (40 * 2 + d) k)), (59, (fC b (fun k => α 58 (40 * 0 + a + k)) mv))]) z t0 ts)
    refine aw_go 16 rfl ⟨trivial, trivial, trivial, trivial, trivial, trivial, trivial, trivial, trivial, trivial, trivial, trivial, (cI_in (a := k) rfl (by omega) (by decide)), (cI_in (a := ((40 * 2) + d) + k) (cI_add (a := (40 * 2) + d) (b := k) (cI_add (a := 40 * 2) (b := d) (cI_mul (a := 40) (b := 2) rfl rfl) rfl) rfl) (by omega) (by decide)), trivial, trivial, trivial⟩ ?_
    show aw_W _ _ _ _ (86, [some (.ref 46), some (.int 0), some (.int (nI a)), some (.int 2), some (.int (nI d)), some (.int (nI b)), some (.int ((nI k) + 1))], []) (ae_en σ (au α [(58, upd (va_cpy (α 58) (α 58) (40 * 0 + a) (40 * 2 + d) k) (((40 * 2) + (nI d)) + (nI k)).toNatClampNeg ((fC b (fun k => α 58 (40 * 0 + a + k)) mv) (nI k).toNatClampNeg)), (59, (fC b (fun k => α 58 (40 * 0 + a + k)) mv))]) z t0 ts)
    rw [show (nI k).toNatClampNeg = k from cI_cl (a := k) rfl (by omega)]
    rw [show (((40 * 2) + (nI d)) + (nI k)).toNatClampNeg = ((40 * 2) + d) + k from cI_cl (a := ((40 * 2) + d) + k) (cI_add (a := (40 * 2) + d) (b := k) (cI_add (a := 40 * 2) (b := d) (cI_mul (a := 40) (b := 2) rfl rfl) rfl) rfl) (by omega)]
    rw [show (nI k) + 1 = nI (k + 1) from (cI_add (a := k) (b := 1) rfl rfl)]
    rw [fC_lt (show k < b by omega), cpy_s]
    exact lp_cpB_0_2 h1 h2 (k + 1) (by omega)
termination_by b - k
decreasing_by all_goals omega
theorem lp_cpA_0_2 {zd : Nat} {a d b : Nat} {mv : Nat → Int32} (h1 : a + b ≤ 40) (h2 : d + b ≤ 40) (k : Nat) (hk : k ≤ b) : aw_W P (zd) cd_Model_copy (fun r H => ∃ mv : Nat → Int32, r = some (.int (nI b)) ∧ H = ae_en σ (au α [(58, (va_cpy (α 58) (α 58) (40 * 0 + a) (40 * 2 + d) b)), (59, mv)]) z t0 ts) (65, [some (.ref 46), some (.int 0), some (.int (nI a)), some (.int 2), some (.int (nI d)), some (.int (nI b)), some (.int (nI k))], []) (ae_en σ (au α [(59, (fC k (fun k => α 58 (40 * 0 + a + k)) mv))]) z t0 ts) := by
  refine aw_go 3 rfl ⟨trivial, trivial, trivial, trivial⟩ ?_
  refine aw_br (c := (nI b) ≤ (nI k)) (fun h67 => ?_) (fun h67 => ?_)
  · skip
    have h67 := cI_leT (a := b) (b := k) rfl rfl (by omega) (by omega) h67
    show aw_W _ _ _ _ (84, [some (.ref 46), some (.int 0), some (.int (nI a)), some (.int 2), some (.int (nI d)), some (.int (nI b)), some (.int (nI k))], []) (ae_en σ (au α [(59, (fC k (fun k => α 58 (40 * 0 + a + k)) mv))]) z t0 ts)
    have e8 : k = b := by omega
    refine aw_go 2 rfl ⟨trivial, trivial, trivial⟩ ?_
    rw [e8]
    exact aw_to (lp_cpB_0_2 h1 h2 0 (Nat.zero_le _)) rfl (by rw [cpy_0]; rfl)
  · skip
    have h67 := cI_leF (a := b) (b := k) rfl rfl (by omega) (by omega) h67
    show aw_W _ _ _ _ (68, [some (.ref 46), some (.int 0), some (.int (nI a)), some (.int 2), some (.int (nI d)), some (.int (nI b)), some (.int (nI k))], []) (ae_en σ (au α [(59, (fC k (fun k => α 58 (40 * 0 + a + k)) mv))]) z t0 ts)
    refine aw_go 16 rfl ⟨trivial, trivial, trivial, trivial, trivial, trivial, trivial, trivial, trivial, trivial, trivial, trivial, (cI_in (a := ((40 * 0) + a) + k) (cI_add (a := (40 * 0) + a) (b := k) (cI_add (a := 40 * 0) (b := a) (cI_mul (a := 40) (b := 0) rfl rfl) rfl) rfl) (by omega) (by decide)), (cI_in (a := k) rfl (by omega) (by decide)), trivial, trivial, trivial⟩ ?_
    show aw_W _ _ _ _ (65, [some (.ref 46), some (.int 0), some (.int (nI a)), some (.int 2), some (.int (nI d)), some (.int (nI b)), some (.int ((nI k) + 1))], []) (ae_en σ (au α [(59, upd (fC k (fun k => α 58 (40 * 0 + a + k)) mv) (nI k).toNatClampNeg (α 58 (((40 * 0) + (nI a)) + (nI k)).toNatClampNeg))]) z t0 ts)
    rw [show (((40 * 0) + (nI a)) + (nI k)).toNatClampNeg = ((40 * 0) + a) + k from cI_cl (a := ((40 * 0) + a) + k) (cI_add (a := (40 * 0) + a) (b := k) (cI_add (a := 40 * 0) (b := a) (cI_mul (a := 40) (b := 0) rfl rfl) rfl) rfl) (by omega)]
    rw [show (nI k).toNatClampNeg = k from cI_cl (a := k) rfl (by omega)]
    rw [show (nI k) + 1 = nI (k + 1) from (cI_add (a := k) (b := 1) rfl rfl)]
    rw [fC_s (X := (fun k => α 58 (40 * 0 + a + k))) rfl]
    exact lp_cpA_0_2 h1 h2 (k + 1) (by omega)
termination_by b - k
decreasing_by all_goals omega
theorem em_copy_0_2 {m m2 : Nat} {i j n : Int32} {zd : Nat} (hm : ¬ α 56 0 < 0 → α 57 0 = nI m) (hm40 : m ≤ 40) (hm2 : ¬ α 56 2 < 0 → α 57 2 = nI m2) (hm240 : m2 ≤ 40) : aw_X P (zd + 3) 175 [.ref 46, .int 0, .int i, .int 2, .int j, .int n] (ae_en σ α z t0 ts) (fun r H => ∃ (mv : Nat → Int32), r = some (.int ((pCopyM 0 2 m m2 i j n (α 56) (α 58)).1)) ∧ H = (ae_en σ (au α [(58, (pCopyM 0 2 m m2 i j n (α 56) (α 58)).2), (59, mv)]) z t0 ts)) := by
  refine aw_ev (cd := cd_Model_copy) rfl rfl rfl ?_
  show aw_W _ _ _ _ (0, [some (.ref 46), some (.int 0), some (.int i), some (.int 2), some (.int j), some (.int n), none], []) (ae_en σ α z t0 ts)
  refine aw_go 1 rfl ⟨trivial, trivial⟩ ?_
  refine aw_callE rfl rfl (ev_Model_isSheet (s := 0)) ?_
  show aw_W _ _ _ _ (2, [some (.ref 46), some (.int 0), some (.int i), some (.int 2), some (.int j), some (.int n), none], [.int (bI (iP 4 0))]) (ae_en σ α z t0 ts)
  refine aw_go 1 rfl ⟨trivial, trivial⟩ ?_
  refine aw_br (c := (bI (iP 4 0)) = 0) (fun h2 => ?_) (fun h2 => ?_)
  · skip
    have h2 := bI_f h2
    show aw_W _ _ _ _ (6, [some (.ref 46), some (.int 0), some (.int i), some (.int 2), some (.int j), some (.int n), none], []) (ae_en σ α z t0 ts)
    exact absurd h2 (by decide)
  · skip
    have h2 := bI_t h2
    show aw_W _ _ _ _ (3, [some (.ref 46), some (.int 0), some (.int i), some (.int 2), some (.int j), some (.int n), none], []) (ae_en σ α z t0 ts)
    refine aw_go 1 rfl ⟨trivial, trivial⟩ ?_
    refine aw_callE rfl rfl (ev_Model_isSheet (s := 2)) ?_
    show aw_W _ _ _ _ (5, [some (.ref 46), some (.int 0), some (.int i), some (.int 2), some (.int j), some (.int n), none], [.int (bI (iP 4 2))]) (ae_en σ α z t0 ts)
    refine aw_go 1 rfl ⟨trivial, trivial⟩ ?_
    refine aw_br (c := ¬ (bI (iP 4 2)) = 0) (fun h5 => ?_) (fun h5 => ?_)
    · skip
      have h5 := bI_t h5
      show aw_W _ _ _ _ (8, [some (.ref 46), some (.int 0), some (.int i), some (.int 2), some (.int j), some (.int n), none], []) (ae_en σ α z t0 ts)
      refine aw_go 5 rfl ⟨trivial, trivial, trivial, (cI_in (a := 0) rfl (by omega) (by decide)), trivial, trivial⟩ ?_
      show aw_W _ _ _ _ (if (α 56 (0 : Int32).toNatClampNeg) < 0 then 18 else 13, [some (.ref 46), some (.int 0), some (.int i), some (.int 2), some (.int j), some (.int n), none], []) (ae_en σ α z t0 ts)
      rw [show (0 : Int32).toNatClampNeg = 0 from cI_cl (a := 0) rfl (by omega)]
      refine aw_br (c := (α 56 0) < 0) (fun h12 => ?_) (fun h12 => ?_)
      · skip
        show aw_W _ _ _ _ (18, [some (.ref 46), some (.int 0), some (.int i), some (.int 2), some (.int j), some (.int n), none], []) (ae_en σ α z t0 ts)
        refine aw_go 1 rfl ⟨trivial, trivial⟩ ?_
        refine aw_ret rfl rfl trivial ?_
        rw [pCopyM, if_pos (Or.inl h12)]
        exact ⟨_, rfl, rfl⟩
      · skip
        show aw_W _ _ _ _ (13, [some (.ref 46), some (.int 0), some (.int i), some (.int 2), some (.int j), some (.int n), none], []) (ae_en σ α z t0 ts)
        refine aw_go 5 rfl ⟨trivial, trivial, trivial, (cI_in (a := 2) rfl (by omega) (by decide)), trivial, trivial⟩ ?_
        show aw_W _ _ _ _ (if (0 : Int32) ≤ (α 56 (2 : Int32).toNatClampNeg) then 20 else 18, [some (.ref 46), some (.int 0), some (.int i), some (.int 2), some (.int j), some (.int n), none], []) (ae_en σ α z t0 ts)
        rw [show (2 : Int32).toNatClampNeg = 2 from cI_cl (a := 2) rfl (by omega)]
        refine aw_br (c := (0 : Int32) ≤ (α 56 2)) (fun h17 => ?_) (fun h17 => ?_)
        · skip
          show aw_W _ _ _ _ (20, [some (.ref 46), some (.int 0), some (.int i), some (.int 2), some (.int j), some (.int n), none], []) (ae_en σ α z t0 ts)
          refine aw_go 9 rfl ⟨trivial, trivial, trivial, (cI_in (a := 0) rfl (by omega) (by decide)), trivial, trivial, trivial, (cI_in (a := 2) rfl (by omega) (by decide)), trivial, trivial⟩ ?_
          show aw_W _ _ _ _ (if (α 56 (0 : Int32).toNatClampNeg) = (α 56 (2 : Int32).toNatClampNeg) then 31 else 29, [some (.ref 46), some (.int 0), some (.int i), some (.int 2), some (.int j), some (.int n), none], []) (ae_en σ α z t0 ts)
          rw [show (0 : Int32).toNatClampNeg = 0 from cI_cl (a := 0) rfl (by omega)]
          rw [show (2 : Int32).toNatClampNeg = 2 from cI_cl (a := 2) rfl (by omega)]
          refine aw_br (c := (α 56 0) = (α 56 2)) (fun h28 => ?_) (fun h28 => ?_)
          · skip
            show aw_W _ _ _ _ (31, [some (.ref 46), some (.int 0), some (.int i), some (.int 2), some (.int j), some (.int n), none], []) (ae_en σ α z t0 ts)
            refine aw_go 2 rfl ⟨trivial, trivial, trivial⟩ ?_
            refine aw_br (c := n < 0) (fun h32 => ?_) (fun h32 => ?_)
            · skip
              show aw_W _ _ _ _ (61, [some (.ref 46), some (.int 0), some (.int i), some (.int 2), some (.int j), some (.int n), none], []) (ae_en σ α z t0 ts)
              refine aw_go 1 rfl ⟨trivial, trivial⟩ ?_
              refine aw_ret rfl rfl trivial ?_
              rw [pCopyM, if_neg (fun q => q.elim h12 (Int32.not_lt.mpr h17)), if_neg (fun q => q h28), if_neg (fun q => q.1.1 h32)]
              exact ⟨_, rfl, rfl⟩
            · skip
              show aw_W _ _ _ _ (33, [some (.ref 46), some (.int 0), some (.int i), some (.int 2), some (.int j), some (.int n), none], []) (ae_en σ α z t0 ts)
              refine aw_go 2 rfl ⟨trivial, trivial, trivial⟩ ?_
              refine aw_br (c := i < 0) (fun h34 => ?_) (fun h34 => ?_)
              · skip
                show aw_W _ _ _ _ (61, [some (.ref 46), some (.int 0), some (.int i), some (.int 2), some (.int j), some (.int n), none], []) (ae_en σ α z t0 ts)
                refine aw_go 1 rfl ⟨trivial, trivial⟩ ?_
                refine aw_ret rfl rfl trivial ?_
                rw [pCopyM, if_neg (fun q => q.elim h12 (Int32.not_lt.mpr h17)), if_neg (fun q => q h28), if_neg (fun q => q.1.2.1 h34)]
                exact ⟨_, rfl, rfl⟩
              · skip
                show aw_W _ _ _ _ (35, [some (.ref 46), some (.int 0), some (.int i), some (.int 2), some (.int j), some (.int n), none], []) (ae_en σ α z t0 ts)
                refine aw_go 2 rfl ⟨trivial, trivial, trivial⟩ ?_
                refine aw_br (c := j < 0) (fun h36 => ?_) (fun h36 => ?_)
                · skip
                  show aw_W _ _ _ _ (61, [some (.ref 46), some (.int 0), some (.int i), some (.int 2), some (.int j), some (.int n), none], []) (ae_en σ α z t0 ts)
                  refine aw_go 1 rfl ⟨trivial, trivial⟩ ?_
                  refine aw_ret rfl rfl trivial ?_
                  rw [pCopyM, if_neg (fun q => q.elim h12 (Int32.not_lt.mpr h17)), if_neg (fun q => q h28), if_neg (fun q => q.2.2.1 h36)]
                  exact ⟨_, rfl, rfl⟩
                · skip
                  show aw_W _ _ _ _ (37, [some (.ref 46), some (.int 0), some (.int i), some (.int 2), some (.int j), some (.int n), none], []) (ae_en σ α z t0 ts)
                  obtain ⟨a, ha, rfl⟩ := nI_of h34
                  obtain ⟨d, hd, rfl⟩ := nI_of h36
                  obtain ⟨b, hb, rfl⟩ := nI_of h32
                  refine aw_go 12 rfl ⟨trivial, trivial, trivial, trivial, trivial, trivial, trivial, trivial, (cI_in (a := 0) rfl (by omega) (by decide)), trivial, trivial, trivial, trivial⟩ ?_
                  show aw_W _ _ _ _ (if (0 : Int32) < (lg_cmp (((nI a).toInt64) + ((nI b).toInt64)) ((α 57 (0 : Int32).toNatClampNeg).toInt64)) then 61 else 49, [some (.ref 46), some (.int 0), some (.int (nI a)), some (.int 2), some (.int (nI d)), some (.int (nI b)), none], []) (ae_en σ α z t0 ts)
                  rw [show (0 : Int32).toNatClampNeg = 0 from cI_cl (a := 0) rfl (by omega)]
                  refine aw_br (c := (0 : Int32) < (lg_cmp (((nI a).toInt64) + ((nI b).toInt64)) ((α 57 0).toInt64))) (fun h48 => ?_) (fun h48 => ?_)
                  · skip
                    show aw_W _ _ _ _ (61, [some (.ref 46), some (.int 0), some (.int (nI a)), some (.int 2), some (.int (nI d)), some (.int (nI b)), none], []) (ae_en σ α z t0 ts)
                    refine aw_go 1 rfl ⟨trivial, trivial⟩ ?_
                    refine aw_ret rfl rfl trivial ?_
                    rw [pCopyM, if_neg (fun q => q.elim h12 (Int32.not_lt.mpr h17)), if_neg (fun q => q h28), if_neg (fun q => by have := q.1.2.2; rw [nI_clamp ha, nI_clamp hb] at this; have h48 := lgG.mp h48; rw [hm h12, lgS ha hb (by omega)] at h48; omega)]
                    exact ⟨_, rfl, rfl⟩
                  · skip
                    show aw_W _ _ _ _ (49, [some (.ref 46), some (.int 0), some (.int (nI a)), some (.int 2), some (.int (nI d)), some (.int (nI b)), none], []) (ae_en σ α z t0 ts)
                    refine aw_go 12 rfl ⟨trivial, trivial, trivial, trivial, trivial, trivial, trivial, trivial, (cI_in (a := 2) rfl (by omega) (by decide)), trivial, trivial, trivial, trivial⟩ ?_
                    show aw_W _ _ _ _ (if (lg_cmp (((nI d).toInt64) + ((nI b).toInt64)) ((α 57 (2 : Int32).toNatClampNeg).toInt64)) ≤ 0 then 63 else 61, [some (.ref 46), some (.int 0), some (.int (nI a)), some (.int 2), some (.int (nI d)), some (.int (nI b)), none], []) (ae_en σ α z t0 ts)
                    rw [show (2 : Int32).toNatClampNeg = 2 from cI_cl (a := 2) rfl (by omega)]
                    refine aw_br (c := (lg_cmp (((nI d).toInt64) + ((nI b).toInt64)) ((α 57 2).toInt64)) ≤ 0) (fun h60 => ?_) (fun h60 => ?_)
                    · skip
                      show aw_W _ _ _ _ (63, [some (.ref 46), some (.int 0), some (.int (nI a)), some (.int 2), some (.int (nI d)), some (.int (nI b)), none], []) (ae_en σ α z t0 ts)
                      refine aw_go 2 rfl ⟨trivial, trivial, trivial⟩ ?_
                      have g1 : ¬ m < a + b := fun q => h48 (lgG.mpr (by rw [hm h12]; exact (lgS ha hb (by omega)).mpr q))
                      have g2 : ¬ m2 < d + b := fun q => absurd h60 (Int32.not_le.mpr (lgG.mpr (by rw [hm2 (Int32.not_lt.mpr h17)]; exact (lgS hd hb (by omega)).mpr q)))
                      rw [pCopyM, if_neg (fun q => q.elim h12 (Int32.not_lt.mpr h17)), if_neg (fun q => q h28), if_pos ⟨⟨h32, h34, by rw [nI_clamp ha, nI_clamp hb]; omega⟩, ⟨h32, h36, by rw [nI_clamp hd, nI_clamp hb]; omega⟩⟩, nI_clamp ha, nI_clamp hb, nI_clamp hd]
                      exact aw_to (lp_cpA_0_2 (mv := α 59) (by omega) (by omega) 0 (Nat.zero_le _)) rfl (by rw [fC_0]; rfl)
                    · skip
                      show aw_W _ _ _ _ (61, [some (.ref 46), some (.int 0), some (.int (nI a)), some (.int 2), some (.int (nI d)), some (.int (nI b)), none], []) (ae_en σ α z t0 ts)
                      refine aw_go 1 rfl ⟨trivial, trivial⟩ ?_
                      refine aw_ret rfl rfl trivial ?_
                      rw [pCopyM, if_neg (fun q => q.elim h12 (Int32.not_lt.mpr h17)), if_neg (fun q => q h28), if_neg (fun q => by have := q.2.2.2; rw [nI_clamp hd, nI_clamp hb] at this; have h60 := lgG.mp (Int32.not_le.mp h60); rw [hm2 (Int32.not_lt.mpr h17), lgS hd hb (by omega)] at h60; omega)]
                      exact ⟨_, rfl, rfl⟩
          · skip
            show aw_W _ _ _ _ (29, [some (.ref 46), some (.int 0), some (.int i), some (.int 2), some (.int j), some (.int n), none], []) (ae_en σ α z t0 ts)
            refine aw_go 1 rfl ⟨trivial, trivial⟩ ?_
            refine aw_ret rfl rfl trivial ?_
            rw [pCopyM, if_neg (fun q => q.elim h12 (Int32.not_lt.mpr h17)), if_pos h28]
            exact ⟨_, rfl, rfl⟩
        · skip
          show aw_W _ _ _ _ (18, [some (.ref 46), some (.int 0), some (.int i), some (.int 2), some (.int j), some (.int n), none], []) (ae_en σ α z t0 ts)
          refine aw_go 1 rfl ⟨trivial, trivial⟩ ?_
          refine aw_ret rfl rfl trivial ?_
          rw [pCopyM, if_pos (Or.inr (Int32.not_le.mp h17))]
          exact ⟨_, rfl, rfl⟩
    · skip
      have h5 := bI_f (Classical.not_not.mp h5)
      show aw_W _ _ _ _ (6, [some (.ref 46), some (.int 0), some (.int i), some (.int 2), some (.int j), some (.int n), none], []) (ae_en σ α z t0 ts)
      exact absurd h5 (by decide)
theorem lp_cpB_0_3 {zd : Nat} {a d b : Nat} {mv : Nat → Int32} (h1 : a + b ≤ 40) (h2 : d + b ≤ 40) (k : Nat) (hk : k ≤ b) : aw_W P (zd) cd_Model_copy (fun r H => ∃ mv : Nat → Int32, r = some (.int (nI b)) ∧ H = ae_en σ (au α [(58, (va_cpy (α 58) (α 58) (40 * 0 + a) (40 * 3 + d) b)), (59, mv)]) z t0 ts) (86, [some (.ref 46), some (.int 0), some (.int (nI a)), some (.int 3), some (.int (nI d)), some (.int (nI b)), some (.int (nI k))], []) (ae_en σ (au α [(58, (va_cpy (α 58) (α 58) (40 * 0 + a) (40 * 3 + d) k)), (59, (fC b (fun k => α 58 (40 * 0 + a + k)) mv))]) z t0 ts) := by
  refine aw_go 3 rfl ⟨trivial, trivial, trivial, trivial⟩ ?_
  refine aw_br (c := (nI b) ≤ (nI k)) (fun h88 => ?_) (fun h88 => ?_)
  · skip
    have h88 := cI_leT (a := b) (b := k) rfl rfl (by omega) (by omega) h88
    show aw_W _ _ _ _ (105, [some (.ref 46), some (.int 0), some (.int (nI a)), some (.int 3), some (.int (nI d)), some (.int (nI b)), some (.int (nI k))], []) (ae_en σ (au α [(58, (va_cpy (α 58) (α 58) (40 * 0 + a) (40 * 3 + d) k)), (59, (fC b (fun k => α 58 (40 * 0 + a + k)) mv))]) z t0 ts)
    have e8 : k = b := by omega
    refine aw_go 1 rfl ⟨trivial, trivial⟩ ?_
    refine aw_ret rfl rfl trivial ?_
    rw [e8]
    exact ⟨_, rfl, rfl⟩
  · skip
    have h88 := cI_leF (a := b) (b := k) rfl rfl (by omega) (by omega) h88
    show aw_W _ _ _ _ (89, [some (.ref 46), some (.int 0), some (.int (nI a)), some (.int 3), some (.int (nI d)), some (.int (nI b)), some (.int (nI k))], []) (ae_en σ (au α [(58, (va_cpy (α 58) (α 58) (40 * 0 + a) (40 * 3 + d) k)), (59, (fC b (fun k => α 58 (40 * 0 + a + k)) mv))]) z t0 ts)
    refine aw_go 16 rfl ⟨trivial, trivial, trivial, trivial, trivial, trivial, trivial, trivial, trivial, trivial, trivial, trivial, (cI_in (a := k) rfl (by omega) (by decide)), (cI_in (a := ((40 * 3) + d) + k) (cI_add (a := (40 * 3) + d) (b := k) (cI_add (a := 40 * 3) (b := d) (cI_mul (a := 40) (b := 3) rfl rfl) rfl) rfl) (by omega) (by decide)), trivial, trivial, trivial⟩ ?_
    show aw_W _ _ _ _ (86, [some (.ref 46), some (.int 0), some (.int (nI a)), some (.int 3), some (.int (nI d)), some (.int (nI b)), some (.int ((nI k) + 1))], []) (ae_en σ (au α [(58, upd (va_cpy (α 58) (α 58) (40 * 0 + a) (40 * 3 + d) k) (((40 * 3) + (nI d)) + (nI k)).toNatClampNeg ((fC b (fun k => α 58 (40 * 0 + a + k)) mv) (nI k).toNatClampNeg)), (59, (fC b (fun k => α 58 (40 * 0 + a + k)) mv))]) z t0 ts)
    rw [show (nI k).toNatClampNeg = k from cI_cl (a := k) rfl (by omega)]
    rw [show (((40 * 3) + (nI d)) + (nI k)).toNatClampNeg = ((40 * 3) + d) + k from cI_cl (a := ((40 * 3) + d) + k) (cI_add (a := (40 * 3) + d) (b := k) (cI_add (a := 40 * 3) (b := d) (cI_mul (a := 40) (b := 3) rfl rfl) rfl) rfl) (by omega)]
    rw [show (nI k) + 1 = nI (k + 1) from (cI_add (a := k) (b := 1) rfl rfl)]
    rw [fC_lt (show k < b by omega), cpy_s]
    exact lp_cpB_0_3 h1 h2 (k + 1) (by omega)
termination_by b - k
decreasing_by all_goals omega
theorem lp_cpA_0_3 {zd : Nat} {a d b : Nat} {mv : Nat → Int32} (h1 : a + b ≤ 40) (h2 : d + b ≤ 40) (k : Nat) (hk : k ≤ b) : aw_W P (zd) cd_Model_copy (fun r H => ∃ mv : Nat → Int32, r = some (.int (nI b)) ∧ H = ae_en σ (au α [(58, (va_cpy (α 58) (α 58) (40 * 0 + a) (40 * 3 + d) b)), (59, mv)]) z t0 ts) (65, [some (.ref 46), some (.int 0), some (.int (nI a)), some (.int 3), some (.int (nI d)), some (.int (nI b)), some (.int (nI k))], []) (ae_en σ (au α [(59, (fC k (fun k => α 58 (40 * 0 + a + k)) mv))]) z t0 ts) := by
  refine aw_go 3 rfl ⟨trivial, trivial, trivial, trivial⟩ ?_
  refine aw_br (c := (nI b) ≤ (nI k)) (fun h67 => ?_) (fun h67 => ?_)
  · skip
    have h67 := cI_leT (a := b) (b := k) rfl rfl (by omega) (by omega) h67
    show aw_W _ _ _ _ (84, [some (.ref 46), some (.int 0), some (.int (nI a)), some (.int 3), some (.int (nI d)), some (.int (nI b)), some (.int (nI k))], []) (ae_en σ (au α [(59, (fC k (fun k => α 58 (40 * 0 + a + k)) mv))]) z t0 ts)
    have e8 : k = b := by omega
    refine aw_go 2 rfl ⟨trivial, trivial, trivial⟩ ?_
    rw [e8]
    exact aw_to (lp_cpB_0_3 h1 h2 0 (Nat.zero_le _)) rfl (by rw [cpy_0]; rfl)
  · skip
    have h67 := cI_leF (a := b) (b := k) rfl rfl (by omega) (by omega) h67
    show aw_W _ _ _ _ (68, [some (.ref 46), some (.int 0), some (.int (nI a)), some (.int 3), some (.int (nI d)), some (.int (nI b)), some (.int (nI k))], []) (ae_en σ (au α [(59, (fC k (fun k => α 58 (40 * 0 + a + k)) mv))]) z t0 ts)
    refine aw_go 16 rfl ⟨trivial, trivial, trivial, trivial, trivial, trivial, trivial, trivial, trivial, trivial, trivial, trivial, (cI_in (a := ((40 * 0) + a) + k) (cI_add (a := (40 * 0) + a) (b := k) (cI_add (a := 40 * 0) (b := a) (cI_mul (a := 40) (b := 0) rfl rfl) rfl) rfl) (by omega) (by decide)), (cI_in (a := k) rfl (by omega) (by decide)), trivial, trivial, trivial⟩ ?_
    show aw_W _ _ _ _ (65, [some (.ref 46), some (.int 0), some (.int (nI a)), some (.int 3), some (.int (nI d)), some (.int (nI b)), some (.int ((nI k) + 1))], []) (ae_en σ (au α [(59, upd (fC k (fun k => α 58 (40 * 0 + a + k)) mv) (nI k).toNatClampNeg (α 58 (((40 * 0) + (nI a)) + (nI k)).toNatClampNeg))]) z t0 ts)
    rw [show (((40 * 0) + (nI a)) + (nI k)).toNatClampNeg = ((40 * 0) + a) + k from cI_cl (a := ((40 * 0) + a) + k) (cI_add (a := (40 * 0) + a) (b := k) (cI_add (a := 40 * 0) (b := a) (cI_mul (a := 40) (b := 0) rfl rfl) rfl) rfl) (by omega)]
    rw [show (nI k).toNatClampNeg = k from cI_cl (a := k) rfl (by omega)]
    rw [show (nI k) + 1 = nI (k + 1) from (cI_add (a := k) (b := 1) rfl rfl)]
    rw [fC_s (X := (fun k => α 58 (40 * 0 + a + k))) rfl]
    exact lp_cpA_0_3 h1 h2 (k + 1) (by omega)
termination_by b - k
decreasing_by all_goals omega
theorem em_copy_0_3 {m m2 : Nat} {i j n : Int32} {zd : Nat} (hm : ¬ α 56 0 < 0 → α 57 0 = nI m) (hm40 : m ≤ 40) (hm2 : ¬ α 56 3 < 0 → α 57 3 = nI m2) (hm240 : m2 ≤ 40) : aw_X P (zd + 3) 175 [.ref 46, .int 0, .int i, .int 3, .int j, .int n] (ae_en σ α z t0 ts) (fun r H => ∃ (mv : Nat → Int32), r = some (.int ((pCopyM 0 3 m m2 i j n (α 56) (α 58)).1)) ∧ H = (ae_en σ (au α [(58, (pCopyM 0 3 m m2 i j n (α 56) (α 58)).2), (59, mv)]) z t0 ts)) := by
  refine aw_ev (cd := cd_Model_copy) rfl rfl rfl ?_
  show aw_W _ _ _ _ (0, [some (.ref 46), some (.int 0), some (.int i), some (.int 3), some (.int j), some (.int n), none], []) (ae_en σ α z t0 ts)
  refine aw_go 1 rfl ⟨trivial, trivial⟩ ?_
  refine aw_callE rfl rfl (ev_Model_isSheet (s := 0)) ?_
  show aw_W _ _ _ _ (2, [some (.ref 46), some (.int 0), some (.int i), some (.int 3), some (.int j), some (.int n), none], [.int (bI (iP 4 0))]) (ae_en σ α z t0 ts)
  refine aw_go 1 rfl ⟨trivial, trivial⟩ ?_
  refine aw_br (c := (bI (iP 4 0)) = 0) (fun h2 => ?_) (fun h2 => ?_)
  · skip
    have h2 := bI_f h2
    show aw_W _ _ _ _ (6, [some (.ref 46), some (.int 0), some (.int i), some (.int 3), some (.int j), some (.int n), none], []) (ae_en σ α z t0 ts)
    exact absurd h2 (by decide)
  · skip
    have h2 := bI_t h2
    show aw_W _ _ _ _ (3, [some (.ref 46), some (.int 0), some (.int i), some (.int 3), some (.int j), some (.int n), none], []) (ae_en σ α z t0 ts)
    refine aw_go 1 rfl ⟨trivial, trivial⟩ ?_
    refine aw_callE rfl rfl (ev_Model_isSheet (s := 3)) ?_
    show aw_W _ _ _ _ (5, [some (.ref 46), some (.int 0), some (.int i), some (.int 3), some (.int j), some (.int n), none], [.int (bI (iP 4 3))]) (ae_en σ α z t0 ts)
    refine aw_go 1 rfl ⟨trivial, trivial⟩ ?_
    refine aw_br (c := ¬ (bI (iP 4 3)) = 0) (fun h5 => ?_) (fun h5 => ?_)
    · skip
      have h5 := bI_t h5
      show aw_W _ _ _ _ (8, [some (.ref 46), some (.int 0), some (.int i), some (.int 3), some (.int j), some (.int n), none], []) (ae_en σ α z t0 ts)
      refine aw_go 5 rfl ⟨trivial, trivial, trivial, (cI_in (a := 0) rfl (by omega) (by decide)), trivial, trivial⟩ ?_
      show aw_W _ _ _ _ (if (α 56 (0 : Int32).toNatClampNeg) < 0 then 18 else 13, [some (.ref 46), some (.int 0), some (.int i), some (.int 3), some (.int j), some (.int n), none], []) (ae_en σ α z t0 ts)
      rw [show (0 : Int32).toNatClampNeg = 0 from cI_cl (a := 0) rfl (by omega)]
      refine aw_br (c := (α 56 0) < 0) (fun h12 => ?_) (fun h12 => ?_)
      · skip
        show aw_W _ _ _ _ (18, [some (.ref 46), some (.int 0), some (.int i), some (.int 3), some (.int j), some (.int n), none], []) (ae_en σ α z t0 ts)
        refine aw_go 1 rfl ⟨trivial, trivial⟩ ?_
        refine aw_ret rfl rfl trivial ?_
        rw [pCopyM, if_pos (Or.inl h12)]
        exact ⟨_, rfl, rfl⟩
      · skip
        show aw_W _ _ _ _ (13, [some (.ref 46), some (.int 0), some (.int i), some (.int 3), some (.int j), some (.int n), none], []) (ae_en σ α z t0 ts)
        refine aw_go 5 rfl ⟨trivial, trivial, trivial, (cI_in (a := 3) rfl (by omega) (by decide)), trivial, trivial⟩ ?_
        show aw_W _ _ _ _ (if (0 : Int32) ≤ (α 56 (3 : Int32).toNatClampNeg) then 20 else 18, [some (.ref 46), some (.int 0), some (.int i), some (.int 3), some (.int j), some (.int n), none], []) (ae_en σ α z t0 ts)
        rw [show (3 : Int32).toNatClampNeg = 3 from cI_cl (a := 3) rfl (by omega)]
        refine aw_br (c := (0 : Int32) ≤ (α 56 3)) (fun h17 => ?_) (fun h17 => ?_)
        · skip
          show aw_W _ _ _ _ (20, [some (.ref 46), some (.int 0), some (.int i), some (.int 3), some (.int j), some (.int n), none], []) (ae_en σ α z t0 ts)
          refine aw_go 9 rfl ⟨trivial, trivial, trivial, (cI_in (a := 0) rfl (by omega) (by decide)), trivial, trivial, trivial, (cI_in (a := 3) rfl (by omega) (by decide)), trivial, trivial⟩ ?_
          show aw_W _ _ _ _ (if (α 56 (0 : Int32).toNatClampNeg) = (α 56 (3 : Int32).toNatClampNeg) then 31 else 29, [some (.ref 46), some (.int 0), some (.int i), some (.int 3), some (.int j), some (.int n), none], []) (ae_en σ α z t0 ts)
          rw [show (0 : Int32).toNatClampNeg = 0 from cI_cl (a := 0) rfl (by omega)]
          rw [show (3 : Int32).toNatClampNeg = 3 from cI_cl (a := 3) rfl (by omega)]
          refine aw_br (c := (α 56 0) = (α 56 3)) (fun h28 => ?_) (fun h28 => ?_)
          · skip
            show aw_W _ _ _ _ (31, [some (.ref 46), some (.int 0), some (.int i), some (.int 3), some (.int j), some (.int n), none], []) (ae_en σ α z t0 ts)
            refine aw_go 2 rfl ⟨trivial, trivial, trivial⟩ ?_
            refine aw_br (c := n < 0) (fun h32 => ?_) (fun h32 => ?_)
            · skip
              show aw_W _ _ _ _ (61, [some (.ref 46), some (.int 0), some (.int i), some (.int 3), some (.int j), some (.int n), none], []) (ae_en σ α z t0 ts)
              refine aw_go 1 rfl ⟨trivial, trivial⟩ ?_
              refine aw_ret rfl rfl trivial ?_
              rw [pCopyM, if_neg (fun q => q.elim h12 (Int32.not_lt.mpr h17)), if_neg (fun q => q h28), if_neg (fun q => q.1.1 h32)]
              exact ⟨_, rfl, rfl⟩
            · skip
              show aw_W _ _ _ _ (33, [some (.ref 46), some (.int 0), some (.int i), some (.int 3), some (.int j), some (.int n), none], []) (ae_en σ α z t0 ts)
              refine aw_go 2 rfl ⟨trivial, trivial, trivial⟩ ?_
              refine aw_br (c := i < 0) (fun h34 => ?_) (fun h34 => ?_)
              · skip
                show aw_W _ _ _ _ (61, [some (.ref 46), some (.int 0), some (.int i), some (.int 3), some (.int j), some (.int n), none], []) (ae_en σ α z t0 ts)
                refine aw_go 1 rfl ⟨trivial, trivial⟩ ?_
                refine aw_ret rfl rfl trivial ?_
                rw [pCopyM, if_neg (fun q => q.elim h12 (Int32.not_lt.mpr h17)), if_neg (fun q => q h28), if_neg (fun q => q.1.2.1 h34)]
                exact ⟨_, rfl, rfl⟩
              · skip
                show aw_W _ _ _ _ (35, [some (.ref 46), some (.int 0), some (.int i), some (.int 3), some (.int j), some (.int n), none], []) (ae_en σ α z t0 ts)
                refine aw_go 2 rfl ⟨trivial, trivial, trivial⟩ ?_
                refine aw_br (c := j < 0) (fun h36 => ?_) (fun h36 => ?_)
                · skip
                  show aw_W _ _ _ _ (61, [some (.ref 46), some (.int 0), some (.int i), some (.int 3), some (.int j), some (.int n), none], []) (ae_en σ α z t0 ts)
                  refine aw_go 1 rfl ⟨trivial, trivial⟩ ?_
                  refine aw_ret rfl rfl trivial ?_
                  rw [pCopyM, if_neg (fun q => q.elim h12 (Int32.not_lt.mpr h17)), if_neg (fun q => q h28), if_neg (fun q => q.2.2.1 h36)]
                  exact ⟨_, rfl, rfl⟩
                · skip
                  show aw_W _ _ _ _ (37, [some (.ref 46), some (.int 0), some (.int i), some (.int 3), some (.int j), some (.int n), none], []) (ae_en σ α z t0 ts)
                  obtain ⟨a, ha, rfl⟩ := nI_of h34
                  obtain ⟨d, hd, rfl⟩ := nI_of h36
                  obtain ⟨b, hb, rfl⟩ := nI_of h32
                  refine aw_go 12 rfl ⟨trivial, trivial, trivial, trivial, trivial, trivial, trivial, trivial, (cI_in (a := 0) rfl (by omega) (by decide)), trivial, trivial, trivial, trivial⟩ ?_
                  show aw_W _ _ _ _ (if (0 : Int32) < (lg_cmp (((nI a).toInt64) + ((nI b).toInt64)) ((α 57 (0 : Int32).toNatClampNeg).toInt64)) then 61 else 49, [some (.ref 46), some (.int 0), some (.int (nI a)), some (.int 3), some (.int (nI d)), some (.int (nI b)), none], []) (ae_en σ α z t0 ts)
                  rw [show (0 : Int32).toNatClampNeg = 0 from cI_cl (a := 0) rfl (by omega)]
                  refine aw_br (c := (0 : Int32) < (lg_cmp (((nI a).toInt64) + ((nI b).toInt64)) ((α 57 0).toInt64))) (fun h48 => ?_) (fun h48 => ?_)
                  · skip
                    show aw_W _ _ _ _ (61, [some (.ref 46), some (.int 0), some (.int (nI a)), some (.int 3), some (.int (nI d)), some (.int (nI b)), none], []) (ae_en σ α z t0 ts)
                    refine aw_go 1 rfl ⟨trivial, trivial⟩ ?_
                    refine aw_ret rfl rfl trivial ?_
                    rw [pCopyM, if_neg (fun q => q.elim h12 (Int32.not_lt.mpr h17)), if_neg (fun q => q h28), if_neg (fun q => by have := q.1.2.2; rw [nI_clamp ha, nI_clamp hb] at this; have h48 := lgG.mp h48; rw [hm h12, lgS ha hb (by omega)] at h48; omega)]
                    exact ⟨_, rfl, rfl⟩
                  · skip
                    show aw_W _ _ _ _ (49, [some (.ref 46), some (.int 0), some (.int (nI a)), some (.int 3), some (.int (nI d)), some (.int (nI b)), none], []) (ae_en σ α z t0 ts)
                    refine aw_go 12 rfl ⟨trivial, trivial, trivial, trivial, trivial, trivial, trivial, trivial, (cI_in (a := 3) rfl (by omega) (by decide)), trivial, trivial, trivial, trivial⟩ ?_
                    show aw_W _ _ _ _ (if (lg_cmp (((nI d).toInt64) + ((nI b).toInt64)) ((α 57 (3 : Int32).toNatClampNeg).toInt64)) ≤ 0 then 63 else 61, [some (.ref 46), some (.int 0), some (.int (nI a)), some (.int 3), some (.int (nI d)), some (.int (nI b)), none], []) (ae_en σ α z t0 ts)
                    rw [show (3 : Int32).toNatClampNeg = 3 from cI_cl (a := 3) rfl (by omega)]
                    refine aw_br (c := (lg_cmp (((nI d).toInt64) + ((nI b).toInt64)) ((α 57 3).toInt64)) ≤ 0) (fun h60 => ?_) (fun h60 => ?_)
                    · skip
                      show aw_W _ _ _ _ (63, [some (.ref 46), some (.int 0), some (.int (nI a)), some (.int 3), some (.int (nI d)), some (.int (nI b)), none], []) (ae_en σ α z t0 ts)
                      refine aw_go 2 rfl ⟨trivial, trivial, trivial⟩ ?_
                      have g1 : ¬ m < a + b := fun q => h48 (lgG.mpr (by rw [hm h12]; exact (lgS ha hb (by omega)).mpr q))
                      have g2 : ¬ m2 < d + b := fun q => absurd h60 (Int32.not_le.mpr (lgG.mpr (by rw [hm2 (Int32.not_lt.mpr h17)]; exact (lgS hd hb (by omega)).mpr q)))
                      rw [pCopyM, if_neg (fun q => q.elim h12 (Int32.not_lt.mpr h17)), if_neg (fun q => q h28), if_pos ⟨⟨h32, h34, by rw [nI_clamp ha, nI_clamp hb]; omega⟩, ⟨h32, h36, by rw [nI_clamp hd, nI_clamp hb]; omega⟩⟩, nI_clamp ha, nI_clamp hb, nI_clamp hd]
                      exact aw_to (lp_cpA_0_3 (mv := α 59) (by omega) (by omega) 0 (Nat.zero_le _)) rfl (by rw [fC_0]; rfl)
                    · skip
                      show aw_W _ _ _ _ (61, [some (.ref 46), some (.int 0), some (.int (nI a)), some (.int 3), some (.int (nI d)), some (.int (nI b)), none], []) (ae_en σ α z t0 ts)
                      refine aw_go 1 rfl ⟨trivial, trivial⟩ ?_
                      refine aw_ret rfl rfl trivial ?_
                      rw [pCopyM, if_neg (fun q => q.elim h12 (Int32.not_lt.mpr h17)), if_neg (fun q => q h28), if_neg (fun q => by have := q.2.2.2; rw [nI_clamp hd, nI_clamp hb] at this; have h60 := lgG.mp (Int32.not_le.mp h60); rw [hm2 (Int32.not_lt.mpr h17), lgS hd hb (by omega)] at h60; omega)]
                      exact ⟨_, rfl, rfl⟩
          · skip
            show aw_W _ _ _ _ (29, [some (.ref 46), some (.int 0), some (.int i), some (.int 3), some (.int j), some (.int n), none], []) (ae_en σ α z t0 ts)
            refine aw_go 1 rfl ⟨trivial, trivial⟩ ?_
            refine aw_ret rfl rfl trivial ?_
            rw [pCopyM, if_neg (fun q => q.elim h12 (Int32.not_lt.mpr h17)), if_pos h28]
            exact ⟨_, rfl, rfl⟩
        · skip
          show aw_W _ _ _ _ (18, [some (.ref 46), some (.int 0), some (.int i), some (.int 3), some (.int j), some (.int n), none], []) (ae_en σ α z t0 ts)
          refine aw_go 1 rfl ⟨trivial, trivial⟩ ?_
          refine aw_ret rfl rfl trivial ?_
          rw [pCopyM, if_pos (Or.inr (Int32.not_le.mp h17))]
          exact ⟨_, rfl, rfl⟩
    · skip
      have h5 := bI_f (Classical.not_not.mp h5)
      show aw_W _ _ _ _ (6, [some (.ref 46), some (.int 0), some (.int i), some (.int 3), some (.int j), some (.int n), none], []) (ae_en σ α z t0 ts)
      exact absurd h5 (by decide)
theorem lp_cpB_1_0 {zd : Nat} {a d b : Nat} {mv : Nat → Int32} (h1 : a + b ≤ 40) (h2 : d + b ≤ 40) (k : Nat) (hk : k ≤ b) : aw_W P (zd) cd_Model_copy (fun r H => ∃ mv : Nat → Int32, r = some (.int (nI b)) ∧ H = ae_en σ (au α [(58, (va_cpy (α 58) (α 58) (40 * 1 + a) (40 * 0 + d) b)), (59, mv)]) z t0 ts) (86, [some (.ref 46), some (.int 1), some (.int (nI a)), some (.int 0), some (.int (nI d)), some (.int (nI b)), some (.int (nI k))], []) (ae_en σ (au α [(58, (va_cpy (α 58) (α 58) (40 * 1 + a) (40 * 0 + d) k)), (59, (fC b (fun k => α 58 (40 * 1 + a + k)) mv))]) z t0 ts) := by
  refine aw_go 3 rfl ⟨trivial, trivial, trivial, trivial⟩ ?_
  refine aw_br (c := (nI b) ≤ (nI k)) (fun h88 => ?_) (fun h88 => ?_)
  · skip
    have h88 := cI_leT (a := b) (b := k) rfl rfl (by omega) (by omega) h88
    show aw_W _ _ _ _ (105, [some (.ref 46), some (.int 1), some (.int (nI a)), some (.int 0), some (.int (nI d)), some (.int (nI b)), some (.int (nI k))], []) (ae_en σ (au α [(58, (va_cpy (α 58) (α 58) (40 * 1 + a) (40 * 0 + d) k)), (59, (fC b (fun k => α 58 (40 * 1 + a + k)) mv))]) z t0 ts)
    have e8 : k = b := by omega
    refine aw_go 1 rfl ⟨trivial, trivial⟩ ?_
    refine aw_ret rfl rfl trivial ?_
    rw [e8]
    exact ⟨_, rfl, rfl⟩
  · skip
    have h88 := cI_leF (a := b) (b := k) rfl rfl (by omega) (by omega) h88
    show aw_W _ _ _ _ (89, [some (.ref 46), some (.int 1), some (.int (nI a)), some (.int 0), some (.int (nI d)), some (.int (nI b)), some (.int (nI k))], []) (ae_en σ (au α [(58, (va_cpy (α 58) (α 58) (40 * 1 + a) (40 * 0 + d) k)), (59, (fC b (fun k => α 58 (40 * 1 + a + k)) mv))]) z t0 ts)
    refine aw_go 16 rfl ⟨trivial, trivial, trivial, trivial, trivial, trivial, trivial, trivial, trivial, trivial, trivial, trivial, (cI_in (a := k) rfl (by omega) (by decide)), (cI_in (a := ((40 * 0) + d) + k) (cI_add (a := (40 * 0) + d) (b := k) (cI_add (a := 40 * 0) (b := d) (cI_mul (a := 40) (b := 0) rfl rfl) rfl) rfl) (by omega) (by decide)), trivial, trivial, trivial⟩ ?_
    show aw_W _ _ _ _ (86, [some (.ref 46), some (.int 1), some (.int (nI a)), some (.int 0), some (.int (nI d)), some (.int (nI b)), some (.int ((nI k) + 1))], []) (ae_en σ (au α [(58, upd (va_cpy (α 58) (α 58) (40 * 1 + a) (40 * 0 + d) k) (((40 * 0) + (nI d)) + (nI k)).toNatClampNeg ((fC b (fun k => α 58 (40 * 1 + a + k)) mv) (nI k).toNatClampNeg)), (59, (fC b (fun k => α 58 (40 * 1 + a + k)) mv))]) z t0 ts)
    rw [show (nI k).toNatClampNeg = k from cI_cl (a := k) rfl (by omega)]
    rw [show (((40 * 0) + (nI d)) + (nI k)).toNatClampNeg = ((40 * 0) + d) + k from cI_cl (a := ((40 * 0) + d) + k) (cI_add (a := (40 * 0) + d) (b := k) (cI_add (a := 40 * 0) (b := d) (cI_mul (a := 40) (b := 0) rfl rfl) rfl) rfl) (by omega)]
    rw [show (nI k) + 1 = nI (k + 1) from (cI_add (a := k) (b := 1) rfl rfl)]
    rw [fC_lt (show k < b by omega), cpy_s]
    exact lp_cpB_1_0 h1 h2 (k + 1) (by omega)
termination_by b - k
decreasing_by all_goals omega
theorem lp_cpA_1_0 {zd : Nat} {a d b : Nat} {mv : Nat → Int32} (h1 : a + b ≤ 40) (h2 : d + b ≤ 40) (k : Nat) (hk : k ≤ b) : aw_W P (zd) cd_Model_copy (fun r H => ∃ mv : Nat → Int32, r = some (.int (nI b)) ∧ H = ae_en σ (au α [(58, (va_cpy (α 58) (α 58) (40 * 1 + a) (40 * 0 + d) b)), (59, mv)]) z t0 ts) (65, [some (.ref 46), some (.int 1), some (.int (nI a)), some (.int 0), some (.int (nI d)), some (.int (nI b)), some (.int (nI k))], []) (ae_en σ (au α [(59, (fC k (fun k => α 58 (40 * 1 + a + k)) mv))]) z t0 ts) := by
  refine aw_go 3 rfl ⟨trivial, trivial, trivial, trivial⟩ ?_
  refine aw_br (c := (nI b) ≤ (nI k)) (fun h67 => ?_) (fun h67 => ?_)
  · skip
    have h67 := cI_leT (a := b) (b := k) rfl rfl (by omega) (by omega) h67
    show aw_W _ _ _ _ (84, [some (.ref 46), some (.int 1), some (.int (nI a)), some (.int 0), some (.int (nI d)), some (.int (nI b)), some (.int (nI k))], []) (ae_en σ (au α [(59, (fC k (fun k => α 58 (40 * 1 + a + k)) mv))]) z t0 ts)
    have e8 : k = b := by omega
    refine aw_go 2 rfl ⟨trivial, trivial, trivial⟩ ?_
    rw [e8]
    exact aw_to (lp_cpB_1_0 h1 h2 0 (Nat.zero_le _)) rfl (by rw [cpy_0]; rfl)
  · skip
    have h67 := cI_leF (a := b) (b := k) rfl rfl (by omega) (by omega) h67
    show aw_W _ _ _ _ (68, [some (.ref 46), some (.int 1), some (.int (nI a)), some (.int 0), some (.int (nI d)), some (.int (nI b)), some (.int (nI k))], []) (ae_en σ (au α [(59, (fC k (fun k => α 58 (40 * 1 + a + k)) mv))]) z t0 ts)
    refine aw_go 16 rfl ⟨trivial, trivial, trivial, trivial, trivial, trivial, trivial, trivial, trivial, trivial, trivial, trivial, (cI_in (a := ((40 * 1) + a) + k) (cI_add (a := (40 * 1) + a) (b := k) (cI_add (a := 40 * 1) (b := a) (cI_mul (a := 40) (b := 1) rfl rfl) rfl) rfl) (by omega) (by decide)), (cI_in (a := k) rfl (by omega) (by decide)), trivial, trivial, trivial⟩ ?_
    show aw_W _ _ _ _ (65, [some (.ref 46), some (.int 1), some (.int (nI a)), some (.int 0), some (.int (nI d)), some (.int (nI b)), some (.int ((nI k) + 1))], []) (ae_en σ (au α [(59, upd (fC k (fun k => α 58 (40 * 1 + a + k)) mv) (nI k).toNatClampNeg (α 58 (((40 * 1) + (nI a)) + (nI k)).toNatClampNeg))]) z t0 ts)
    rw [show (((40 * 1) + (nI a)) + (nI k)).toNatClampNeg = ((40 * 1) + a) + k from cI_cl (a := ((40 * 1) + a) + k) (cI_add (a := (40 * 1) + a) (b := k) (cI_add (a := 40 * 1) (b := a) (cI_mul (a := 40) (b := 1) rfl rfl) rfl) rfl) (by omega)]
    rw [show (nI k).toNatClampNeg = k from cI_cl (a := k) rfl (by omega)]
    rw [show (nI k) + 1 = nI (k + 1) from (cI_add (a := k) (b := 1) rfl rfl)]
    rw [fC_s (X := (fun k => α 58 (40 * 1 + a + k))) rfl]
    exact lp_cpA_1_0 h1 h2 (k + 1) (by omega)
termination_by b - k
decreasing_by all_goals omega
theorem em_copy_1_0 {m m2 : Nat} {i j n : Int32} {zd : Nat} (hm : ¬ α 56 1 < 0 → α 57 1 = nI m) (hm40 : m ≤ 40) (hm2 : ¬ α 56 0 < 0 → α 57 0 = nI m2) (hm240 : m2 ≤ 40) : aw_X P (zd + 3) 175 [.ref 46, .int 1, .int i, .int 0, .int j, .int n] (ae_en σ α z t0 ts) (fun r H => ∃ (mv : Nat → Int32), r = some (.int ((pCopyM 1 0 m m2 i j n (α 56) (α 58)).1)) ∧ H = (ae_en σ (au α [(58, (pCopyM 1 0 m m2 i j n (α 56) (α 58)).2), (59, mv)]) z t0 ts)) := by
  refine aw_ev (cd := cd_Model_copy) rfl rfl rfl ?_
  show aw_W _ _ _ _ (0, [some (.ref 46), some (.int 1), some (.int i), some (.int 0), some (.int j), some (.int n), none], []) (ae_en σ α z t0 ts)
  refine aw_go 1 rfl ⟨trivial, trivial⟩ ?_
  refine aw_callE rfl rfl (ev_Model_isSheet (s := 1)) ?_
  show aw_W _ _ _ _ (2, [some (.ref 46), some (.int 1), some (.int i), some (.int 0), some (.int j), some (.int n), none], [.int (bI (iP 4 1))]) (ae_en σ α z t0 ts)
  refine aw_go 1 rfl ⟨trivial, trivial⟩ ?_
  refine aw_br (c := (bI (iP 4 1)) = 0) (fun h2 => ?_) (fun h2 => ?_)
  · skip
    have h2 := bI_f h2
    show aw_W _ _ _ _ (6, [some (.ref 46), some (.int 1), some (.int i), some (.int 0), some (.int j), some (.int n), none], []) (ae_en σ α z t0 ts)
    exact absurd h2 (by decide)
  · skip
    have h2 := bI_t h2
    show aw_W _ _ _ _ (3, [some (.ref 46), some (.int 1), some (.int i), some (.int 0), some (.int j), some (.int n), none], []) (ae_en σ α z t0 ts)
    refine aw_go 1 rfl ⟨trivial, trivial⟩ ?_
    refine aw_callE rfl rfl (ev_Model_isSheet (s := 0)) ?_
    show aw_W _ _ _ _ (5, [some (.ref 46), some (.int 1), some (.int i), some (.int 0), some (.int j), some (.int n), none], [.int (bI (iP 4 0))]) (ae_en σ α z t0 ts)
    refine aw_go 1 rfl ⟨trivial, trivial⟩ ?_
    refine aw_br (c := ¬ (bI (iP 4 0)) = 0) (fun h5 => ?_) (fun h5 => ?_)
    · skip
      have h5 := bI_t h5
      show aw_W _ _ _ _ (8, [some (.ref 46), some (.int 1), some (.int i), some (.int 0), some (.int j), some (.int n), none], []) (ae_en σ α z t0 ts)
      refine aw_go 5 rfl ⟨trivial, trivial, trivial, (cI_in (a := 1) rfl (by omega) (by decide)), trivial, trivial⟩ ?_
      show aw_W _ _ _ _ (if (α 56 (1 : Int32).toNatClampNeg) < 0 then 18 else 13, [some (.ref 46), some (.int 1), some (.int i), some (.int 0), some (.int j), some (.int n), none], []) (ae_en σ α z t0 ts)
      rw [show (1 : Int32).toNatClampNeg = 1 from cI_cl (a := 1) rfl (by omega)]
      refine aw_br (c := (α 56 1) < 0) (fun h12 => ?_) (fun h12 => ?_)
      · skip
        show aw_W _ _ _ _ (18, [some (.ref 46), some (.int 1), some (.int i), some (.int 0), some (.int j), some (.int n), none], []) (ae_en σ α z t0 ts)
        refine aw_go 1 rfl ⟨trivial, trivial⟩ ?_
        refine aw_ret rfl rfl trivial ?_
        rw [pCopyM, if_pos (Or.inl h12)]
        exact ⟨_, rfl, rfl⟩
      · skip
        show aw_W _ _ _ _ (13, [some (.ref 46), some (.int 1), some (.int i), some (.int 0), some (.int j), some (.int n), none], []) (ae_en σ α z t0 ts)
        refine aw_go 5 rfl ⟨trivial, trivial, trivial, (cI_in (a := 0) rfl (by omega) (by decide)), trivial, trivial⟩ ?_
        show aw_W _ _ _ _ (if (0 : Int32) ≤ (α 56 (0 : Int32).toNatClampNeg) then 20 else 18, [some (.ref 46), some (.int 1), some (.int i), some (.int 0), some (.int j), some (.int n), none], []) (ae_en σ α z t0 ts)
        rw [show (0 : Int32).toNatClampNeg = 0 from cI_cl (a := 0) rfl (by omega)]
        refine aw_br (c := (0 : Int32) ≤ (α 56 0)) (fun h17 => ?_) (fun h17 => ?_)
        · skip
          show aw_W _ _ _ _ (20, [some (.ref 46), some (.int 1), some (.int i), some (.int 0), some (.int j), some (.int n), none], []) (ae_en σ α z t0 ts)
          refine aw_go 9 rfl ⟨trivial, trivial, trivial, (cI_in (a := 1) rfl (by omega) (by decide)), trivial, trivial, trivial, (cI_in (a := 0) rfl (by omega) (by decide)), trivial, trivial⟩ ?_
          show aw_W _ _ _ _ (if (α 56 (1 : Int32).toNatClampNeg) = (α 56 (0 : Int32).toNatClampNeg) then 31 else 29, [some (.ref 46), some (.int 1), some (.int i), some (.int 0), some (.int j), some (.int n), none], []) (ae_en σ α z t0 ts)
          rw [show (1 : Int32).toNatClampNeg = 1 from cI_cl (a := 1) rfl (by omega)]
          rw [show (0 : Int32).toNatClampNeg = 0 from cI_cl (a := 0) rfl (by omega)]
          refine aw_br (c := (α 56 1) = (α 56 0)) (fun h28 => ?_) (fun h28 => ?_)
          · skip
            show aw_W _ _ _ _ (31, [some (.ref 46), some (.int 1), some (.int i), some (.int 0), some (.int j), some (.int n), none], []) (ae_en σ α z t0 ts)
            refine aw_go 2 rfl ⟨trivial, trivial, trivial⟩ ?_
            refine aw_br (c := n < 0) (fun h32 => ?_) (fun h32 => ?_)
            · skip
              show aw_W _ _ _ _ (61, [some (.ref 46), some (.int 1), some (.int i), some (.int 0), some (.int j), some (.int n), none], []) (ae_en σ α z t0 ts)
              refine aw_go 1 rfl ⟨trivial, trivial⟩ ?_
              refine aw_ret rfl rfl trivial ?_
              rw [pCopyM, if_neg (fun q => q.elim h12 (Int32.not_lt.mpr h17)), if_neg (fun q => q h28), if_neg (fun q => q.1.1 h32)]
              exact ⟨_, rfl, rfl⟩
            · skip
              show aw_W _ _ _ _ (33, [some (.ref 46), some (.int 1), some (.int i), some (.int 0), some (.int j), some (.int n), none], []) (ae_en σ α z t0 ts)
              refine aw_go 2 rfl ⟨trivial, trivial, trivial⟩ ?_
              refine aw_br (c := i < 0) (fun h34 => ?_) (fun h34 => ?_)
              · skip
                show aw_W _ _ _ _ (61, [some (.ref 46), some (.int 1), some (.int i), some (.int 0), some (.int j), some (.int n), none], []) (ae_en σ α z t0 ts)
                refine aw_go 1 rfl ⟨trivial, trivial⟩ ?_
                refine aw_ret rfl rfl trivial ?_
                rw [pCopyM, if_neg (fun q => q.elim h12 (Int32.not_lt.mpr h17)), if_neg (fun q => q h28), if_neg (fun q => q.1.2.1 h34)]
                exact ⟨_, rfl, rfl⟩
              · skip
                show aw_W _ _ _ _ (35, [some (.ref 46), some (.int 1), some (.int i), some (.int 0), some (.int j), some (.int n), none], []) (ae_en σ α z t0 ts)
                refine aw_go 2 rfl ⟨trivial, trivial, trivial⟩ ?_
                refine aw_br (c := j < 0) (fun h36 => ?_) (fun h36 => ?_)
                · skip
                  show aw_W _ _ _ _ (61, [some (.ref 46), some (.int 1), some (.int i), some (.int 0), some (.int j), some (.int n), none], []) (ae_en σ α z t0 ts)
                  refine aw_go 1 rfl ⟨trivial, trivial⟩ ?_
                  refine aw_ret rfl rfl trivial ?_
                  rw [pCopyM, if_neg (fun q => q.elim h12 (Int32.not_lt.mpr h17)), if_neg (fun q => q h28), if_neg (fun q => q.2.2.1 h36)]
                  exact ⟨_, rfl, rfl⟩
                · skip
                  show aw_W _ _ _ _ (37, [some (.ref 46), some (.int 1), some (.int i), some (.int 0), some (.int j), some (.int n), none], []) (ae_en σ α z t0 ts)
                  obtain ⟨a, ha, rfl⟩ := nI_of h34
                  obtain ⟨d, hd, rfl⟩ := nI_of h36
                  obtain ⟨b, hb, rfl⟩ := nI_of h32
                  refine aw_go 12 rfl ⟨trivial, trivial, trivial, trivial, trivial, trivial, trivial, trivial, (cI_in (a := 1) rfl (by omega) (by decide)), trivial, trivial, trivial, trivial⟩ ?_
                  show aw_W _ _ _ _ (if (0 : Int32) < (lg_cmp (((nI a).toInt64) + ((nI b).toInt64)) ((α 57 (1 : Int32).toNatClampNeg).toInt64)) then 61 else 49, [some (.ref 46), some (.int 1), some (.int (nI a)), some (.int 0), some (.int (nI d)), some (.int (nI b)), none], []) (ae_en σ α z t0 ts)
                  rw [show (1 : Int32).toNatClampNeg = 1 from cI_cl (a := 1) rfl (by omega)]
                  refine aw_br (c := (0 : Int32) < (lg_cmp (((nI a).toInt64) + ((nI b).toInt64)) ((α 57 1).toInt64))) (fun h48 => ?_) (fun h48 => ?_)
                  · skip
                    show aw_W _ _ _ _ (61, [some (.ref 46), some (.int 1), some (.int (nI a)), some (.int 0), some (.int (nI d)), some (.int (nI b)), none], []) (ae_en σ α z t0 ts)
                    refine aw_go 1 rfl ⟨trivial, trivial⟩ ?_
                    refine aw_ret rfl rfl trivial ?_
                    rw [pCopyM, if_neg (fun q => q.elim h12 (Int32.not_lt.mpr h17)), if_neg (fun q => q h28), if_neg (fun q => by have := q.1.2.2; rw [nI_clamp ha, nI_clamp hb] at this; have h48 := lgG.mp h48; rw [hm h12, lgS ha hb (by omega)] at h48; omega)]
                    exact ⟨_, rfl, rfl⟩
                  · skip
                    show aw_W _ _ _ _ (49, [some (.ref 46), some (.int 1), some (.int (nI a)), some (.int 0), some (.int (nI d)), some (.int (nI b)), none], []) (ae_en σ α z t0 ts)
                    refine aw_go 12 rfl ⟨trivial, trivial, trivial, trivial, trivial, trivial, trivial, trivial, (cI_in (a := 0) rfl (by omega) (by decide)), trivial, trivial, trivial, trivial⟩ ?_
                    show aw_W _ _ _ _ (if (lg_cmp (((nI d).toInt64) + ((nI b).toInt64)) ((α 57 (0 : Int32).toNatClampNeg).toInt64)) ≤ 0 then 63 else 61, [some (.ref 46), some (.int 1), some (.int (nI a)), some (.int 0), some (.int (nI d)), some (.int (nI b)), none], []) (ae_en σ α z t0 ts)
                    rw [show (0 : Int32).toNatClampNeg = 0 from cI_cl (a := 0) rfl (by omega)]
                    refine aw_br (c := (lg_cmp (((nI d).toInt64) + ((nI b).toInt64)) ((α 57 0).toInt64)) ≤ 0) (fun h60 => ?_) (fun h60 => ?_)
                    · skip
                      show aw_W _ _ _ _ (63, [some (.ref 46), some (.int 1), some (.int (nI a)), some (.int 0), some (.int (nI d)), some (.int (nI b)), none], []) (ae_en σ α z t0 ts)
                      refine aw_go 2 rfl ⟨trivial, trivial, trivial⟩ ?_
                      have g1 : ¬ m < a + b := fun q => h48 (lgG.mpr (by rw [hm h12]; exact (lgS ha hb (by omega)).mpr q))
                      have g2 : ¬ m2 < d + b := fun q => absurd h60 (Int32.not_le.mpr (lgG.mpr (by rw [hm2 (Int32.not_lt.mpr h17)]; exact (lgS hd hb (by omega)).mpr q)))
                      rw [pCopyM, if_neg (fun q => q.elim h12 (Int32.not_lt.mpr h17)), if_neg (fun q => q h28), if_pos ⟨⟨h32, h34, by rw [nI_clamp ha, nI_clamp hb]; omega⟩, ⟨h32, h36, by rw [nI_clamp hd, nI_clamp hb]; omega⟩⟩, nI_clamp ha, nI_clamp hb, nI_clamp hd]
                      exact aw_to (lp_cpA_1_0 (mv := α 59) (by omega) (by omega) 0 (Nat.zero_le _)) rfl (by rw [fC_0]; rfl)
                    · skip
                      show aw_W _ _ _ _ (61, [some (.ref 46), some (.int 1), some (.int (nI a)), some (.int 0), some (.int (nI d)), some (.int (nI b)), none], []) (ae_en σ α z t0 ts)
                      refine aw_go 1 rfl ⟨trivial, trivial⟩ ?_
                      refine aw_ret rfl rfl trivial ?_
                      rw [pCopyM, if_neg (fun q => q.elim h12 (Int32.not_lt.mpr h17)), if_neg (fun q => q h28), if_neg (fun q => by have := q.2.2.2; rw [nI_clamp hd, nI_clamp hb] at this; have h60 := lgG.mp (Int32.not_le.mp h60); rw [hm2 (Int32.not_lt.mpr h17), lgS hd hb (by omega)] at h60; omega)]
                      exact ⟨_, rfl, rfl⟩
          · skip
            show aw_W _ _ _ _ (29, [some (.ref 46), some (.int 1), some (.int i), some (.int 0), some (.int j), some (.int n), none], []) (ae_en σ α z t0 ts)
            refine aw_go 1 rfl ⟨trivial, trivial⟩ ?_
            refine aw_ret rfl rfl trivial ?_
            rw [pCopyM, if_neg (fun q => q.elim h12 (Int32.not_lt.mpr h17)), if_pos h28]
            exact ⟨_, rfl, rfl⟩
        · skip
          show aw_W _ _ _ _ (18, [some (.ref 46), some (.int 1), some (.int i), some (.int 0), some (.int j), some (.int n), none], []) (ae_en σ α z t0 ts)
          refine aw_go 1 rfl ⟨trivial, trivial⟩ ?_
          refine aw_ret rfl rfl trivial ?_
          rw [pCopyM, if_pos (Or.inr (Int32.not_le.mp h17))]
          exact ⟨_, rfl, rfl⟩
    · skip
      have h5 := bI_f (Classical.not_not.mp h5)
      show aw_W _ _ _ _ (6, [some (.ref 46), some (.int 1), some (.int i), some (.int 0), some (.int j), some (.int n), none], []) (ae_en σ α z t0 ts)
      exact absurd h5 (by decide)
theorem lp_cpB_1_1 {zd : Nat} {a d b : Nat} {mv : Nat → Int32} (h1 : a + b ≤ 40) (h2 : d + b ≤ 40) (k : Nat) (hk : k ≤ b) : aw_W P (zd) cd_Model_copy (fun r H => ∃ mv : Nat → Int32, r = some (.int (nI b)) ∧ H = ae_en σ (au α [(58, (va_cpy (α 58) (α 58) (40 * 1 + a) (40 * 1 + d) b)), (59, mv)]) z t0 ts) (86, [some (.ref 46), some (.int 1), some (.int (nI a)), some (.int 1), some (.int (nI d)), some (.int (nI b)), some (.int (nI k))], []) (ae_en σ (au α [(58, (va_cpy (α 58) (α 58) (40 * 1 + a) (40 * 1 + d) k)), (59, (fC b (fun k => α 58 (40 * 1 + a + k)) mv))]) z t0 ts) := by
  refine aw_go 3 rfl ⟨trivial, trivial, trivial, trivial⟩ ?_
  refine aw_br (c := (nI b) ≤ (nI k)) (fun h88 => ?_) (fun h88 => ?_)
  · skip
    have h88 := cI_leT (a := b) (b := k) rfl rfl (by omega) (by omega) h88
    show aw_W _ _ _ _ (105, [some (.ref 46), some (.int 1), some (.int (nI a)), some (.int 1), some (.int (nI d)), some (.int (nI b)), some (.int (nI k))], []) (ae_en σ (au α [(58, (va_cpy (α 58) (α 58) (40 * 1 + a) (40 * 1 + d) k)), (59, (fC b (fun k => α 58 (40 * 1 + a + k)) mv))]) z t0 ts)
    have e8 : k = b := by omega
    refine aw_go 1 rfl ⟨trivial, trivial⟩ ?_
    refine aw_ret rfl rfl trivial ?_
    rw [e8]
    exact ⟨_, rfl, rfl⟩
  · skip
    have h88 := cI_leF (a := b) (b := k) rfl rfl (by omega) (by omega) h88
    show aw_W _ _ _ _ (89, [some (.ref 46), some (.int 1), some (.int (nI a)), some (.int 1), some (.int (nI d)), some (.int (nI b)), some (.int (nI k))], []) (ae_en σ (au α [(58, (va_cpy (α 58) (α 58) (40 * 1 + a) (40 * 1 + d) k)), (59, (fC b (fun k => α 58 (40 * 1 + a + k)) mv))]) z t0 ts)
    refine aw_go 16 rfl ⟨trivial, trivial, trivial, trivial, trivial, trivial, trivial, trivial, trivial, trivial, trivial, trivial, (cI_in (a := k) rfl (by omega) (by decide)), (cI_in (a := ((40 * 1) + d) + k) (cI_add (a := (40 * 1) + d) (b := k) (cI_add (a := 40 * 1) (b := d) (cI_mul (a := 40) (b := 1) rfl rfl) rfl) rfl) (by omega) (by decide)), trivial, trivial, trivial⟩ ?_
    show aw_W _ _ _ _ (86, [some (.ref 46), some (.int 1), some (.int (nI a)), some (.int 1), some (.int (nI d)), some (.int (nI b)), some (.int ((nI k) + 1))], []) (ae_en σ (au α [(58, upd (va_cpy (α 58) (α 58) (40 * 1 + a) (40 * 1 + d) k) (((40 * 1) + (nI d)) + (nI k)).toNatClampNeg ((fC b (fun k => α 58 (40 * 1 + a + k)) mv) (nI k).toNatClampNeg)), (59, (fC b (fun k => α 58 (40 * 1 + a + k)) mv))]) z t0 ts)
    rw [show (nI k).toNatClampNeg = k from cI_cl (a := k) rfl (by omega)]
    rw [show (((40 * 1) + (nI d)) + (nI k)).toNatClampNeg = ((40 * 1) + d) + k from cI_cl (a := ((40 * 1) + d) + k) (cI_add (a := (40 * 1) + d) (b := k) (cI_add (a := 40 * 1) (b := d) (cI_mul (a := 40) (b := 1) rfl rfl) rfl) rfl) (by omega)]
    rw [show (nI k) + 1 = nI (k + 1) from (cI_add (a := k) (b := 1) rfl rfl)]
    rw [fC_lt (show k < b by omega), cpy_s]
    exact lp_cpB_1_1 h1 h2 (k + 1) (by omega)
termination_by b - k
decreasing_by all_goals omega
theorem lp_cpA_1_1 {zd : Nat} {a d b : Nat} {mv : Nat → Int32} (h1 : a + b ≤ 40) (h2 : d + b ≤ 40) (k : Nat) (hk : k ≤ b) : aw_W P (zd) cd_Model_copy (fun r H => ∃ mv : Nat → Int32, r = some (.int (nI b)) ∧ H = ae_en σ (au α [(58, (va_cpy (α 58) (α 58) (40 * 1 + a) (40 * 1 + d) b)), (59, mv)]) z t0 ts) (65, [some (.ref 46), some (.int 1), some (.int (nI a)), some (.int 1), some (.int (nI d)), some (.int (nI b)), some (.int (nI k))], []) (ae_en σ (au α [(59, (fC k (fun k => α 58 (40 * 1 + a + k)) mv))]) z t0 ts) := by
  refine aw_go 3 rfl ⟨trivial, trivial, trivial, trivial⟩ ?_
  refine aw_br (c := (nI b) ≤ (nI k)) (fun h67 => ?_) (fun h67 => ?_)
  · skip
    have h67 := cI_leT (a := b) (b := k) rfl rfl (by omega) (by omega) h67
    show aw_W _ _ _ _ (84, [some (.ref 46), some (.int 1), some (.int (nI a)), some (.int 1), some (.int (nI d)), some (.int (nI b)), some (.int (nI k))], []) (ae_en σ (au α [(59, (fC k (fun k => α 58 (40 * 1 + a + k)) mv))]) z t0 ts)
    have e8 : k = b := by omega
    refine aw_go 2 rfl ⟨trivial, trivial, trivial⟩ ?_
    rw [e8]
    exact aw_to (lp_cpB_1_1 h1 h2 0 (Nat.zero_le _)) rfl (by rw [cpy_0]; rfl)
  · skip
    have h67 := cI_leF (a := b) (b := k) rfl rfl (by omega) (by omega) h67
    show aw_W _ _ _ _ (68, [some (.ref 46), some (.int 1), some (.int (nI a)), some (.int 1), some (.int (nI d)), some (.int (nI b)), some (.int (nI k))], []) (ae_en σ (au α [(59, (fC k (fun k => α 58 (40 * 1 + a + k)) mv))]) z t0 ts)
    refine aw_go 16 rfl ⟨trivial, trivial, trivial, trivial, trivial, trivial, trivial, trivial, trivial, trivial, trivial, trivial, (cI_in (a := ((40 * 1) + a) + k) (cI_add (a := (40 * 1) + a) (b := k) (cI_add (a := 40 * 1) (b := a) (cI_mul (a := 40) (b := 1) rfl rfl) rfl) rfl) (by omega) (by decide)), (cI_in (a := k) rfl (by omega) (by decide)), trivial, trivial, trivial⟩ ?_
    show aw_W _ _ _ _ (65, [some (.ref 46), some (.int 1), some (.int (nI a)), some (.int 1), some (.int (nI d)), some (.int (nI b)), some (.int ((nI k) + 1))], []) (ae_en σ (au α [(59, upd (fC k (fun k => α 58 (40 * 1 + a + k)) mv) (nI k).toNatClampNeg (α 58 (((40 * 1) + (nI a)) + (nI k)).toNatClampNeg))]) z t0 ts)
    rw [show (((40 * 1) + (nI a)) + (nI k)).toNatClampNeg = ((40 * 1) + a) + k from cI_cl (a := ((40 * 1) + a) + k) (cI_add (a := (40 * 1) + a) (b := k) (cI_add (a := 40 * 1) (b := a) (cI_mul (a := 40) (b := 1) rfl rfl) rfl) rfl) (by omega)]
    rw [show (nI k).toNatClampNeg = k from cI_cl (a := k) rfl (by omega)]
    rw [show (nI k) + 1 = nI (k + 1) from (cI_add (a := k) (b := 1) rfl rfl)]
    rw [fC_s (X := (fun k => α 58 (40 * 1 + a + k))) rfl]
    exact lp_cpA_1_1 h1 h2 (k + 1) (by omega)
termination_by b - k
decreasing_by all_goals omega
theorem em_copy_1_1 {m m2 : Nat} {i j n : Int32} {zd : Nat} (hm : ¬ α 56 1 < 0 → α 57 1 = nI m) (hm40 : m ≤ 40) (hm2 : ¬ α 56 1 < 0 → α 57 1 = nI m2) (hm240 : m2 ≤ 40) : aw_X P (zd + 3) 175 [.ref 46, .int 1, .int i, .int 1, .int j, .int n] (ae_en σ α z t0 ts) (fun r H => ∃ (mv : Nat → Int32), r = some (.int ((pCopyM 1 1 m m2 i j n (α 56) (α 58)).1)) ∧ H = (ae_en σ (au α [(58, (pCopyM 1 1 m m2 i j n (α 56) (α 58)).2), (59, mv)]) z t0 ts)) := by
  refine aw_ev (cd := cd_Model_copy) rfl rfl rfl ?_
  show aw_W _ _ _ _ (0, [some (.ref 46), some (.int 1), some (.int i), some (.int 1), some (.int j), some (.int n), none], []) (ae_en σ α z t0 ts)
  refine aw_go 1 rfl ⟨trivial, trivial⟩ ?_
  refine aw_callE rfl rfl (ev_Model_isSheet (s := 1)) ?_
  show aw_W _ _ _ _ (2, [some (.ref 46), some (.int 1), some (.int i), some (.int 1), some (.int j), some (.int n), none], [.int (bI (iP 4 1))]) (ae_en σ α z t0 ts)
  refine aw_go 1 rfl ⟨trivial, trivial⟩ ?_
  refine aw_br (c := (bI (iP 4 1)) = 0) (fun h2 => ?_) (fun h2 => ?_)
  · skip
    have h2 := bI_f h2
    show aw_W _ _ _ _ (6, [some (.ref 46), some (.int 1), some (.int i), some (.int 1), some (.int j), some (.int n), none], []) (ae_en σ α z t0 ts)
    exact absurd h2 (by decide)
  · skip
    have h2 := bI_t h2
    show aw_W _ _ _ _ (3, [some (.ref 46), some (.int 1), some (.int i), some (.int 1), some (.int j), some (.int n), none], []) (ae_en σ α z t0 ts)
    refine aw_go 1 rfl ⟨trivial, trivial⟩ ?_
    refine aw_callE rfl rfl (ev_Model_isSheet (s := 1)) ?_
    show aw_W _ _ _ _ (5, [some (.ref 46), some (.int 1), some (.int i), some (.int 1), some (.int j), some (.int n), none], [.int (bI (iP 4 1))]) (ae_en σ α z t0 ts)
    refine aw_go 1 rfl ⟨trivial, trivial⟩ ?_
    refine aw_br (c := ¬ (bI (iP 4 1)) = 0) (fun h5 => ?_) (fun h5 => ?_)
    · skip
      have h5 := bI_t h5
      show aw_W _ _ _ _ (8, [some (.ref 46), some (.int 1), some (.int i), some (.int 1), some (.int j), some (.int n), none], []) (ae_en σ α z t0 ts)
      refine aw_go 5 rfl ⟨trivial, trivial, trivial, (cI_in (a := 1) rfl (by omega) (by decide)), trivial, trivial⟩ ?_
      show aw_W _ _ _ _ (if (α 56 (1 : Int32).toNatClampNeg) < 0 then 18 else 13, [some (.ref 46), some (.int 1), some (.int i), some (.int 1), some (.int j), some (.int n), none], []) (ae_en σ α z t0 ts)
      rw [show (1 : Int32).toNatClampNeg = 1 from cI_cl (a := 1) rfl (by omega)]
      refine aw_br (c := (α 56 1) < 0) (fun h12 => ?_) (fun h12 => ?_)
      · skip
        show aw_W _ _ _ _ (18, [some (.ref 46), some (.int 1), some (.int i), some (.int 1), some (.int j), some (.int n), none], []) (ae_en σ α z t0 ts)
        refine aw_go 1 rfl ⟨trivial, trivial⟩ ?_
        refine aw_ret rfl rfl trivial ?_
        rw [pCopyM, if_pos (Or.inl h12)]
        exact ⟨_, rfl, rfl⟩
      · skip
        show aw_W _ _ _ _ (13, [some (.ref 46), some (.int 1), some (.int i), some (.int 1), some (.int j), some (.int n), none], []) (ae_en σ α z t0 ts)
        refine aw_go 5 rfl ⟨trivial, trivial, trivial, (cI_in (a := 1) rfl (by omega) (by decide)), trivial, trivial⟩ ?_
        show aw_W _ _ _ _ (if (0 : Int32) ≤ (α 56 (1 : Int32).toNatClampNeg) then 20 else 18, [some (.ref 46), some (.int 1), some (.int i), some (.int 1), some (.int j), some (.int n), none], []) (ae_en σ α z t0 ts)
        rw [show (1 : Int32).toNatClampNeg = 1 from cI_cl (a := 1) rfl (by omega)]
        refine aw_br (c := (0 : Int32) ≤ (α 56 1)) (fun h17 => ?_) (fun h17 => ?_)
        · skip
          show aw_W _ _ _ _ (20, [some (.ref 46), some (.int 1), some (.int i), some (.int 1), some (.int j), some (.int n), none], []) (ae_en σ α z t0 ts)
          refine aw_go 9 rfl ⟨trivial, trivial, trivial, (cI_in (a := 1) rfl (by omega) (by decide)), trivial, trivial, trivial, (cI_in (a := 1) rfl (by omega) (by decide)), trivial, trivial⟩ ?_
          show aw_W _ _ _ _ (if (α 56 (1 : Int32).toNatClampNeg) = (α 56 (1 : Int32).toNatClampNeg) then 31 else 29, [some (.ref 46), some (.int 1), some (.int i), some (.int 1), some (.int j), some (.int n), none], []) (ae_en σ α z t0 ts)
          rw [show (1 : Int32).toNatClampNeg = 1 from cI_cl (a := 1) rfl (by omega)]
          refine aw_br (c := (α 56 1) = (α 56 1)) (fun h28 => ?_) (fun h28 => ?_)
          · skip
            show aw_W _ _ _ _ (31, [some (.ref 46), some (.int 1), some (.int i), some (.int 1), some (.int j), some (.int n), none], []) (ae_en σ α z t0 ts)
            refine aw_go 2 rfl ⟨trivial, trivial, trivial⟩ ?_
            refine aw_br (c := n < 0) (fun h32 => ?_) (fun h32 => ?_)
            · skip
              show aw_W _ _ _ _ (61, [some (.ref 46), some (.int 1), some (.int i), some (.int 1), some (.int j), some (.int n), none], []) (ae_en σ α z t0 ts)
              refine aw_go 1 rfl ⟨trivial, trivial⟩ ?_
              refine aw_ret rfl rfl trivial ?_
              rw [pCopyM, if_neg (fun q => q.elim h12 (Int32.not_lt.mpr h17)), if_neg (fun q => q h28), if_neg (fun q => q.1.1 h32)]
              exact ⟨_, rfl, rfl⟩
            · skip
              show aw_W _ _ _ _ (33, [some (.ref 46), some (.int 1), some (.int i), some (.int 1), some (.int j), some (.int n), none], []) (ae_en σ α z t0 ts)
              refine aw_go 2 rfl ⟨trivial, trivial, trivial⟩ ?_
              refine aw_br (c := i < 0) (fun h34 => ?_) (fun h34 => ?_)
              · skip
                show aw_W _ _ _ _ (61, [some (.ref 46), some (.int 1), some (.int i), some (.int 1), some (.int j), some (.int n), none], []) (ae_en σ α z t0 ts)
                refine aw_go 1 rfl ⟨trivial, trivial⟩ ?_
                refine aw_ret rfl rfl trivial ?_
                rw [pCopyM, if_neg (fun q => q.elim h12 (Int32.not_lt.mpr h17)), if_neg (fun q => q h28), if_neg (fun q => q.1.2.1 h34)]
                exact ⟨_, rfl, rfl⟩
              · skip
                show aw_W _ _ _ _ (35, [some (.ref 46), some (.int 1), some (.int i), some (.int 1), some (.int j), some (.int n), none], []) (ae_en σ α z t0 ts)
                refine aw_go 2 rfl ⟨trivial, trivial, trivial⟩ ?_
                refine aw_br (c := j < 0) (fun h36 => ?_) (fun h36 => ?_)
                · skip
                  show aw_W _ _ _ _ (61, [some (.ref 46), some (.int 1), some (.int i), some (.int 1), some (.int j), some (.int n), none], []) (ae_en σ α z t0 ts)
                  refine aw_go 1 rfl ⟨trivial, trivial⟩ ?_
                  refine aw_ret rfl rfl trivial ?_
                  rw [pCopyM, if_neg (fun q => q.elim h12 (Int32.not_lt.mpr h17)), if_neg (fun q => q h28), if_neg (fun q => q.2.2.1 h36)]
                  exact ⟨_, rfl, rfl⟩
                · skip
                  show aw_W _ _ _ _ (37, [some (.ref 46), some (.int 1), some (.int i), some (.int 1), some (.int j), some (.int n), none], []) (ae_en σ α z t0 ts)
                  obtain ⟨a, ha, rfl⟩ := nI_of h34
                  obtain ⟨d, hd, rfl⟩ := nI_of h36
                  obtain ⟨b, hb, rfl⟩ := nI_of h32
                  refine aw_go 12 rfl ⟨trivial, trivial, trivial, trivial, trivial, trivial, trivial, trivial, (cI_in (a := 1) rfl (by omega) (by decide)), trivial, trivial, trivial, trivial⟩ ?_
                  show aw_W _ _ _ _ (if (0 : Int32) < (lg_cmp (((nI a).toInt64) + ((nI b).toInt64)) ((α 57 (1 : Int32).toNatClampNeg).toInt64)) then 61 else 49, [some (.ref 46), some (.int 1), some (.int (nI a)), some (.int 1), some (.int (nI d)), some (.int (nI b)), none], []) (ae_en σ α z t0 ts)
                  rw [show (1 : Int32).toNatClampNeg = 1 from cI_cl (a := 1) rfl (by omega)]
                  refine aw_br (c := (0 : Int32) < (lg_cmp (((nI a).toInt64) + ((nI b).toInt64)) ((α 57 1).toInt64))) (fun h48 => ?_) (fun h48 => ?_)
                  · skip
                    show aw_W _ _ _ _ (61, [some (.ref 46), some (.int 1), some (.int (nI a)), some (.int 1), some (.int (nI d)), some (.int (nI b)), none], []) (ae_en σ α z t0 ts)
                    refine aw_go 1 rfl ⟨trivial, trivial⟩ ?_
                    refine aw_ret rfl rfl trivial ?_
                    rw [pCopyM, if_neg (fun q => q.elim h12 (Int32.not_lt.mpr h17)), if_neg (fun q => q h28), if_neg (fun q => by have := q.1.2.2; rw [nI_clamp ha, nI_clamp hb] at this; have h48 := lgG.mp h48; rw [hm h12, lgS ha hb (by omega)] at h48; omega)]
                    exact ⟨_, rfl, rfl⟩
                  · skip
                    show aw_W _ _ _ _ (49, [some (.ref 46), some (.int 1), some (.int (nI a)), some (.int 1), some (.int (nI d)), some (.int (nI b)), none], []) (ae_en σ α z t0 ts)
                    refine aw_go 12 rfl ⟨trivial, trivial, trivial, trivial, trivial, trivial, trivial, trivial, (cI_in (a := 1) rfl (by omega) (by decide)), trivial, trivial, trivial, trivial⟩ ?_
                    show aw_W _ _ _ _ (if (lg_cmp (((nI d).toInt64) + ((nI b).toInt64)) ((α 57 (1 : Int32).toNatClampNeg).toInt64)) ≤ 0 then 63 else 61, [some (.ref 46), some (.int 1), some (.int (nI a)), some (.int 1), some (.int (nI d)), some (.int (nI b)), none], []) (ae_en σ α z t0 ts)
                    rw [show (1 : Int32).toNatClampNeg = 1 from cI_cl (a := 1) rfl (by omega)]
                    refine aw_br (c := (lg_cmp (((nI d).toInt64) + ((nI b).toInt64)) ((α 57 1).toInt64)) ≤ 0) (fun h60 => ?_) (fun h60 => ?_)
                    · skip
                      show aw_W _ _ _ _ (63, [some (.ref 46), some (.int 1), some (.int (nI a)), some (.int 1), some (.int (nI d)), some (.int (nI b)), none], []) (ae_en σ α z t0 ts)
                      refine aw_go 2 rfl ⟨trivial, trivial, trivial⟩ ?_
                      have g1 : ¬ m < a + b := fun q => h48 (lgG.mpr (by rw [hm h12]; exact (lgS ha hb (by omega)).mpr q))
                      have g2 : ¬ m2 < d + b := fun q => absurd h60 (Int32.not_le.mpr (lgG.mpr (by rw [hm2 (Int32.not_lt.mpr h17)]; exact (lgS hd hb (by omega)).mpr q)))
                      rw [pCopyM, if_neg (fun q => q.elim h12 (Int32.not_lt.mpr h17)), if_neg (fun q => q h28), if_pos ⟨⟨h32, h34, by rw [nI_clamp ha, nI_clamp hb]; omega⟩, ⟨h32, h36, by rw [nI_clamp hd, nI_clamp hb]; omega⟩⟩, nI_clamp ha, nI_clamp hb, nI_clamp hd]
                      exact aw_to (lp_cpA_1_1 (mv := α 59) (by omega) (by omega) 0 (Nat.zero_le _)) rfl (by rw [fC_0]; rfl)
                    · skip
                      show aw_W _ _ _ _ (61, [some (.ref 46), some (.int 1), some (.int (nI a)), some (.int 1), some (.int (nI d)), some (.int (nI b)), none], []) (ae_en σ α z t0 ts)
                      refine aw_go 1 rfl ⟨trivial, trivial⟩ ?_
                      refine aw_ret rfl rfl trivial ?_
                      rw [pCopyM, if_neg (fun q => q.elim h12 (Int32.not_lt.mpr h17)), if_neg (fun q => q h28), if_neg (fun q => by have := q.2.2.2; rw [nI_clamp hd, nI_clamp hb] at this; have h60 := lgG.mp (Int32.not_le.mp h60); rw [hm2 (Int32.not_lt.mpr h17), lgS hd hb (by omega)] at h60; omega)]
                      exact ⟨_, rfl, rfl⟩
          · skip
            show aw_W _ _ _ _ (29, [some (.ref 46), some (.int 1), some (.int i), some (.int 1), some (.int j), some (.int n), none], []) (ae_en σ α z t0 ts)
            refine aw_go 1 rfl ⟨trivial, trivial⟩ ?_
            refine aw_ret rfl rfl trivial ?_
            rw [pCopyM, if_neg (fun q => q.elim h12 (Int32.not_lt.mpr h17)), if_pos h28]
            exact ⟨_, rfl, rfl⟩
        · skip
          show aw_W _ _ _ _ (18, [some (.ref 46), some (.int 1), some (.int i), some (.int 1), some (.int j), some (.int n), none], []) (ae_en σ α z t0 ts)
          refine aw_go 1 rfl ⟨trivial, trivial⟩ ?_
          refine aw_ret rfl rfl trivial ?_
          rw [pCopyM, if_pos (Or.inr (Int32.not_le.mp h17))]
          exact ⟨_, rfl, rfl⟩
    · skip
      have h5 := bI_f (Classical.not_not.mp h5)
      show aw_W _ _ _ _ (6, [some (.ref 46), some (.int 1), some (.int i), some (.int 1), some (.int j), some (.int n), none], []) (ae_en σ α z t0 ts)
      exact absurd h5 (by decide)
theorem lp_cpB_1_2 {zd : Nat} {a d b : Nat} {mv : Nat → Int32} (h1 : a + b ≤ 40) (h2 : d + b ≤ 40) (k : Nat) (hk : k ≤ b) : aw_W P (zd) cd_Model_copy (fun r H => ∃ mv : Nat → Int32, r = some (.int (nI b)) ∧ H = ae_en σ (au α [(58, (va_cpy (α 58) (α 58) (40 * 1 + a) (40 * 2 + d) b)), (59, mv)]) z t0 ts) (86, [some (.ref 46), some (.int 1), some (.int (nI a)), some (.int 2), some (.int (nI d)), some (.int (nI b)), some (.int (nI k))], []) (ae_en σ (au α [(58, (va_cpy (α 58) (α 58) (40 * 1 + a) (40 * 2 + d) k)), (59, (fC b (fun k => α 58 (40 * 1 + a + k)) mv))]) z t0 ts) := by
  refine aw_go 3 rfl ⟨trivial, trivial, trivial, trivial⟩ ?_
  refine aw_br (c := (nI b) ≤ (nI k)) (fun h88 => ?_) (fun h88 => ?_)
  · skip
    have h88 := cI_leT (a := b) (b := k) rfl rfl (by omega) (by omega) h88
    show aw_W _ _ _ _ (105, [some (.ref 46), some (.int 1), some (.int (nI a)), some (.int 2), some (.int (nI d)), some (.int (nI b)), some (.int (nI k))], []) (ae_en σ (au α [(58, (va_cpy (α 58) (α 58) (40 * 1 + a) (40 * 2 + d) k)), (59, (fC b (fun k => α 58 (40 * 1 + a + k)) mv))]) z t0 ts)
    have e8 : k = b := by omega
    refine aw_go 1 rfl ⟨trivial, trivial⟩ ?_
    refine aw_ret rfl rfl trivial ?_
    rw [e8]
    exact ⟨_, rfl, rfl⟩
  · skip
    have h88 := cI_leF (a := b) (b := k) rfl rfl (by omega) (by omega) h88
    show aw_W _ _ _ _ (89, [some (.ref 46), some (.int 1), some (.int (nI a)), some (.int 2), some (.int (nI d)), some (.int (nI b)), some (.int (nI k))], []) (ae_en σ (au α [(58, (va_cpy (α 58) (α 58) (40 * 1 + a) (40 * 2 + d) k)), (59, (fC b (fun k => α 58 (40 * 1 + a + k)) mv))]) z t0 ts)
    refine aw_go 16 rfl ⟨trivial, trivial, trivial, trivial, trivial, trivial, trivial, trivial, trivial, trivial, trivial, trivial, (cI_in (a := k) rfl (by omega) (by decide)), (cI_in (a := ((40 * 2) + d) + k) (cI_add (a := (40 * 2) + d) (b := k) (cI_add (a := 40 * 2) (b := d) (cI_mul (a := 40) (b := 2) rfl rfl) rfl) rfl) (by omega) (by decide)), trivial, trivial, trivial⟩ ?_
    show aw_W _ _ _ _ (86, [some (.ref 46), some (.int 1), some (.int (nI a)), some (.int 2), some (.int (nI d)), some (.int (nI b)), some (.int ((nI k) + 1))], []) (ae_en σ (au α [(58, upd (va_cpy (α 58) (α 58) (40 * 1 + a) (40 * 2 + d) k) (((40 * 2) + (nI d)) + (nI k)).toNatClampNeg ((fC b (fun k => α 58 (40 * 1 + a + k)) mv) (nI k).toNatClampNeg)), (59, (fC b (fun k => α 58 (40 * 1 + a + k)) mv))]) z t0 ts)
    rw [show (nI k).toNatClampNeg = k from cI_cl (a := k) rfl (by omega)]
    rw [show (((40 * 2) + (nI d)) + (nI k)).toNatClampNeg = ((40 * 2) + d) + k from cI_cl (a := ((40 * 2) + d) + k) (cI_add (a := (40 * 2) + d) (b := k) (cI_add (a := 40 * 2) (b := d) (cI_mul (a := 40) (b := 2) rfl rfl) rfl) rfl) (by omega)]
    rw [show (nI k) + 1 = nI (k + 1) from (cI_add (a := k) (b := 1) rfl rfl)]
    rw [fC_lt (show k < b by omega), cpy_s]
    exact lp_cpB_1_2 h1 h2 (k + 1) (by omega)
termination_by b - k
decreasing_by all_goals omega
theorem lp_cpA_1_2 {zd : Nat} {a d b : Nat} {mv : Nat → Int32} (h1 : a + b ≤ 40) (h2 : d + b ≤ 40) (k : Nat) (hk : k ≤ b) : aw_W P (zd) cd_Model_copy (fun r H => ∃ mv : Nat → Int32, r = some (.int (nI b)) ∧ H = ae_en σ (au α [(58, (va_cpy (α 58) (α 58) (40 * 1 + a) (40 * 2 + d) b)), (59, mv)]) z t0 ts) (65, [some (.ref 46), some (.int 1), some (.int (nI a)), some (.int 2), some (.int (nI d)), some (.int (nI b)), some (.int (nI k))], []) (ae_en σ (au α [(59, (fC k (fun k => α 58 (40 * 1 + a + k)) mv))]) z t0 ts) := by
  refine aw_go 3 rfl ⟨trivial, trivial, trivial, trivial⟩ ?_
  refine aw_br (c := (nI b) ≤ (nI k)) (fun h67 => ?_) (fun h67 => ?_)
  · skip
    have h67 := cI_leT (a := b) (b := k) rfl rfl (by omega) (by omega) h67
    show aw_W _ _ _ _ (84, [some (.ref 46), some (.int 1), some (.int (nI a)), some (.int 2), some (.int (nI d)), some (.int (nI b)), some (.int (nI k))], []) (ae_en σ (au α [(59, (fC k (fun k => α 58 (40 * 1 + a + k)) mv))]) z t0 ts)
    have e8 : k = b := by omega
    refine aw_go 2 rfl ⟨trivial, trivial, trivial⟩ ?_
    rw [e8]
    exact aw_to (lp_cpB_1_2 h1 h2 0 (Nat.zero_le _)) rfl (by rw [cpy_0]; rfl)
  · skip
    have h67 := cI_leF (a := b) (b := k) rfl rfl (by omega) (by omega) h67
    show aw_W _ _ _ _ (68, [some (.ref 46), some (.int 1), some (.int (nI a)), some (.int 2), some (.int (nI d)), some (.int (nI b)), some (.int (nI k))], []) (ae_en σ (au α [(59, (fC k (fun k => α 58 (40 * 1 + a + k)) mv))]) z t0 ts)
    refine aw_go 16 rfl ⟨trivial, trivial, trivial, trivial, trivial, trivial, trivial, trivial, trivial, trivial, trivial, trivial, (cI_in (a := ((40 * 1) + a) + k) (cI_add (a := (40 * 1) + a) (b := k) (cI_add (a := 40 * 1) (b := a) (cI_mul (a := 40) (b := 1) rfl rfl) rfl) rfl) (by omega) (by decide)), (cI_in (a := k) rfl (by omega) (by decide)), trivial, trivial, trivial⟩ ?_
    show aw_W _ _ _ _ (65, [some (.ref 46), some (.int 1), some (.int (nI a)), some (.int 2), some (.int (nI d)), some (.int (nI b)), some (.int ((nI k) + 1))], []) (ae_en σ (au α [(59, upd (fC k (fun k => α 58 (40 * 1 + a + k)) mv) (nI k).toNatClampNeg (α 58 (((40 * 1) + (nI a)) + (nI k)).toNatClampNeg))]) z t0 ts)
    rw [show (((40 * 1) + (nI a)) + (nI k)).toNatClampNeg = ((40 * 1) + a) + k from cI_cl (a := ((40 * 1) + a) + k) (cI_add (a := (40 * 1) + a) (b := k) (cI_add (a := 40 * 1) (b := a) (cI_mul (a := 40) (b := 1) rfl rfl) rfl) rfl) (by omega)]
    rw [show (nI k).toNatClampNeg = k from cI_cl (a := k) rfl (by omega)]
    rw [show (nI k) + 1 = nI (k + 1) from (cI_add (a := k) (b := 1) rfl rfl)]
    rw [fC_s (X := (fun k => α 58 (40 * 1 + a + k))) rfl]
    exact lp_cpA_1_2 h1 h2 (k + 1) (by omega)
termination_by b - k
decreasing_by all_goals omega
theorem em_copy_1_2 {m m2 : Nat} {i j n : Int32} {zd : Nat} (hm : ¬ α 56 1 < 0 → α 57 1 = nI m) (hm40 : m ≤ 40) (hm2 : ¬ α 56 2 < 0 → α 57 2 = nI m2) (hm240 : m2 ≤ 40) : aw_X P (zd + 3) 175 [.ref 46, .int 1, .int i, .int 2, .int j, .int n] (ae_en σ α z t0 ts) (fun r H => ∃ (mv : Nat → Int32), r = some (.int ((pCopyM 1 2 m m2 i j n (α 56) (α 58)).1)) ∧ H = (ae_en σ (au α [(58, (pCopyM 1 2 m m2 i j n (α 56) (α 58)).2), (59, mv)]) z t0 ts)) := by
  refine aw_ev (cd := cd_Model_copy) rfl rfl rfl ?_
  show aw_W _ _ _ _ (0, [some (.ref 46), some (.int 1), some (.int i), some (.int 2), some (.int j), some (.int n), none], []) (ae_en σ α z t0 ts)
  refine aw_go 1 rfl ⟨trivial, trivial⟩ ?_
  refine aw_callE rfl rfl (ev_Model_isSheet (s := 1)) ?_
  show aw_W _ _ _ _ (2, [some (.ref 46), some (.int 1), some (.int i), some (.int 2), some (.int j), some (.int n), none], [.int (bI (iP 4 1))]) (ae_en σ α z t0 ts)
  refine aw_go 1 rfl ⟨trivial, trivial⟩ ?_
  refine aw_br (c := (bI (iP 4 1)) = 0) (fun h2 => ?_) (fun h2 => ?_)
  · skip
    have h2 := bI_f h2
    show aw_W _ _ _ _ (6, [some (.ref 46), some (.int 1), some (.int i), some (.int 2), some (.int j), some (.int n), none], []) (ae_en σ α z t0 ts)
    exact absurd h2 (by decide)
  · skip
    have h2 := bI_t h2
    show aw_W _ _ _ _ (3, [some (.ref 46), some (.int 1), some (.int i), some (.int 2), some (.int j), some (.int n), none], []) (ae_en σ α z t0 ts)
    refine aw_go 1 rfl ⟨trivial, trivial⟩ ?_
    refine aw_callE rfl rfl (ev_Model_isSheet (s := 2)) ?_
    show aw_W _ _ _ _ (5, [some (.ref 46), some (.int 1), some (.int i), some (.int 2), some (.int j), some (.int n), none], [.int (bI (iP 4 2))]) (ae_en σ α z t0 ts)
    refine aw_go 1 rfl ⟨trivial, trivial⟩ ?_
    refine aw_br (c := ¬ (bI (iP 4 2)) = 0) (fun h5 => ?_) (fun h5 => ?_)
    · skip
      have h5 := bI_t h5
      show aw_W _ _ _ _ (8, [some (.ref 46), some (.int 1), some (.int i), some (.int 2), some (.int j), some (.int n), none], []) (ae_en σ α z t0 ts)
      refine aw_go 5 rfl ⟨trivial, trivial, trivial, (cI_in (a := 1) rfl (by omega) (by decide)), trivial, trivial⟩ ?_
      show aw_W _ _ _ _ (if (α 56 (1 : Int32).toNatClampNeg) < 0 then 18 else 13, [some (.ref 46), some (.int 1), some (.int i), some (.int 2), some (.int j), some (.int n), none], []) (ae_en σ α z t0 ts)
      rw [show (1 : Int32).toNatClampNeg = 1 from cI_cl (a := 1) rfl (by omega)]
      refine aw_br (c := (α 56 1) < 0) (fun h12 => ?_) (fun h12 => ?_)
      · skip
        show aw_W _ _ _ _ (18, [some (.ref 46), some (.int 1), some (.int i), some (.int 2), some (.int j), some (.int n), none], []) (ae_en σ α z t0 ts)
        refine aw_go 1 rfl ⟨trivial, trivial⟩ ?_
        refine aw_ret rfl rfl trivial ?_
        rw [pCopyM, if_pos (Or.inl h12)]
        exact ⟨_, rfl, rfl⟩
      · skip
        show aw_W _ _ _ _ (13, [some (.ref 46), some (.int 1), some (.int i), some (.int 2), some (.int j), some (.int n), none], []) (ae_en σ α z t0 ts)
        refine aw_go 5 rfl ⟨trivial, trivial, trivial, (cI_in (a := 2) rfl (by omega) (by decide)), trivial, trivial⟩ ?_
        show aw_W _ _ _ _ (if (0 : Int32) ≤ (α 56 (2 : Int32).toNatClampNeg) then 20 else 18, [some (.ref 46), some (.int 1), some (.int i), some (.int 2), some (.int j), some (.int n), none], []) (ae_en σ α z t0 ts)
        rw [show (2 : Int32).toNatClampNeg = 2 from cI_cl (a := 2) rfl (by omega)]
        refine aw_br (c := (0 : Int32) ≤ (α 56 2)) (fun h17 => ?_) (fun h17 => ?_)
        · skip
          show aw_W _ _ _ _ (20, [some (.ref 46), some (.int 1), some (.int i), some (.int 2), some (.int j), some (.int n), none], []) (ae_en σ α z t0 ts)
          refine aw_go 9 rfl ⟨trivial, trivial, trivial, (cI_in (a := 1) rfl (by omega) (by decide)), trivial, trivial, trivial, (cI_in (a := 2) rfl (by omega) (by decide)), trivial, trivial⟩ ?_
          show aw_W _ _ _ _ (if (α 56 (1 : Int32).toNatClampNeg) = (α 56 (2 : Int32).toNatClampNeg) then 31 else 29, [some (.ref 46), some (.int 1), some (.int i), some (.int 2), some (.int j), some (.int n), none], []) (ae_en σ α z t0 ts)
          rw [show (1 : Int32).toNatClampNeg = 1 from cI_cl (a := 1) rfl (by omega)]
          rw [show (2 : Int32).toNatClampNeg = 2 from cI_cl (a := 2) rfl (by omega)]
          refine aw_br (c := (α 56 1) = (α 56 2)) (fun h28 => ?_) (fun h28 => ?_)
          · skip
            show aw_W _ _ _ _ (31, [some (.ref 46), some (.int 1), some (.int i), some (.int 2), some (.int j), some (.int n), none], []) (ae_en σ α z t0 ts)
            refine aw_go 2 rfl ⟨trivial, trivial, trivial⟩ ?_
            refine aw_br (c := n < 0) (fun h32 => ?_) (fun h32 => ?_)
            · skip
              show aw_W _ _ _ _ (61, [some (.ref 46), some (.int 1), some (.int i), some (.int 2), some (.int j), some (.int n), none], []) (ae_en σ α z t0 ts)
              refine aw_go 1 rfl ⟨trivial, trivial⟩ ?_
              refine aw_ret rfl rfl trivial ?_
              rw [pCopyM, if_neg (fun q => q.elim h12 (Int32.not_lt.mpr h17)), if_neg (fun q => q h28), if_neg (fun q => q.1.1 h32)]
              exact ⟨_, rfl, rfl⟩
            · skip
              show aw_W _ _ _ _ (33, [some (.ref 46), some (.int 1), some (.int i), some (.int 2), some (.int j), some (.int n), none], []) (ae_en σ α z t0 ts)
              refine aw_go 2 rfl ⟨trivial, trivial, trivial⟩ ?_
              refine aw_br (c := i < 0) (fun h34 => ?_) (fun h34 => ?_)
              · skip
                show aw_W _ _ _ _ (61, [some (.ref 46), some (.int 1), some (.int i), some (.int 2), some (.int j), some (.int n), none], []) (ae_en σ α z t0 ts)
                refine aw_go 1 rfl ⟨trivial, trivial⟩ ?_
                refine aw_ret rfl rfl trivial ?_
                rw [pCopyM, if_neg (fun q => q.elim h12 (Int32.not_lt.mpr h17)), if_neg (fun q => q h28), if_neg (fun q => q.1.2.1 h34)]
                exact ⟨_, rfl, rfl⟩
              · skip
                show aw_W _ _ _ _ (35, [some (.ref 46), some (.int 1), some (.int i), some (.int 2), some (.int j), some (.int n), none], []) (ae_en σ α z t0 ts)
                refine aw_go 2 rfl ⟨trivial, trivial, trivial⟩ ?_
                refine aw_br (c := j < 0) (fun h36 => ?_) (fun h36 => ?_)
                · skip
                  show aw_W _ _ _ _ (61, [some (.ref 46), some (.int 1), some (.int i), some (.int 2), some (.int j), some (.int n), none], []) (ae_en σ α z t0 ts)
                  refine aw_go 1 rfl ⟨trivial, trivial⟩ ?_
                  refine aw_ret rfl rfl trivial ?_
                  rw [pCopyM, if_neg (fun q => q.elim h12 (Int32.not_lt.mpr h17)), if_neg (fun q => q h28), if_neg (fun q => q.2.2.1 h36)]
                  exact ⟨_, rfl, rfl⟩
                · skip
                  show aw_W _ _ _ _ (37, [some (.ref 46), some (.int 1), some (.int i), some (.int 2), some (.int j), some (.int n), none], []) (ae_en σ α z t0 ts)
                  obtain ⟨a, ha, rfl⟩ := nI_of h34
                  obtain ⟨d, hd, rfl⟩ := nI_of h36
                  obtain ⟨b, hb, rfl⟩ := nI_of h32
                  refine aw_go 12 rfl ⟨trivial, trivial, trivial, trivial, trivial, trivial, trivial, trivial, (cI_in (a := 1) rfl (by omega) (by decide)), trivial, trivial, trivial, trivial⟩ ?_
                  show aw_W _ _ _ _ (if (0 : Int32) < (lg_cmp (((nI a).toInt64) + ((nI b).toInt64)) ((α 57 (1 : Int32).toNatClampNeg).toInt64)) then 61 else 49, [some (.ref 46), some (.int 1), some (.int (nI a)), some (.int 2), some (.int (nI d)), some (.int (nI b)), none], []) (ae_en σ α z t0 ts)
                  rw [show (1 : Int32).toNatClampNeg = 1 from cI_cl (a := 1) rfl (by omega)]
                  refine aw_br (c := (0 : Int32) < (lg_cmp (((nI a).toInt64) + ((nI b).toInt64)) ((α 57 1).toInt64))) (fun h48 => ?_) (fun h48 => ?_)
                  · skip
                    show aw_W _ _ _ _ (61, [some (.ref 46), some (.int 1), some (.int (nI a)), some (.int 2), some (.int (nI d)), some (.int (nI b)), none], []) (ae_en σ α z t0 ts)
                    refine aw_go 1 rfl ⟨trivial, trivial⟩ ?_
                    refine aw_ret rfl rfl trivial ?_
                    rw [pCopyM, if_neg (fun q => q.elim h12 (Int32.not_lt.mpr h17)), if_neg (fun q => q h28), if_neg (fun q => by have := q.1.2.2; rw [nI_clamp ha, nI_clamp hb] at this; have h48 := lgG.mp h48; rw [hm h12, lgS ha hb (by omega)] at h48; omega)]
                    exact ⟨_, rfl, rfl⟩
                  · skip
                    show aw_W _ _ _ _ (49, [some (.ref 46), some (.int 1), some (.int (nI a)), some (.int 2), some (.int (nI d)), some (.int (nI b)), none], []) (ae_en σ α z t0 ts)
                    refine aw_go 12 rfl ⟨trivial, trivial, trivial, trivial, trivial, trivial, trivial, trivial, (cI_in (a := 2) rfl (by omega) (by decide)), trivial, trivial, trivial, trivial⟩ ?_
                    show aw_W _ _ _ _ (if (lg_cmp (((nI d).toInt64) + ((nI b).toInt64)) ((α 57 (2 : Int32).toNatClampNeg).toInt64)) ≤ 0 then 63 else 61, [some (.ref 46), some (.int 1), some (.int (nI a)), some (.int 2), some (.int (nI d)), some (.int (nI b)), none], []) (ae_en σ α z t0 ts)
                    rw [show (2 : Int32).toNatClampNeg = 2 from cI_cl (a := 2) rfl (by omega)]
                    refine aw_br (c := (lg_cmp (((nI d).toInt64) + ((nI b).toInt64)) ((α 57 2).toInt64)) ≤ 0) (fun h60 => ?_) (fun h60 => ?_)
                    · skip
                      show aw_W _ _ _ _ (63, [some (.ref 46), some (.int 1), some (.int (nI a)), some (.int 2), some (.int (nI d)), some (.int (nI b)), none], []) (ae_en σ α z t0 ts)
                      refine aw_go 2 rfl ⟨trivial, trivial, trivial⟩ ?_
                      have g1 : ¬ m < a + b := fun q => h48 (lgG.mpr (by rw [hm h12]; exact (lgS ha hb (by omega)).mpr q))
                      have g2 : ¬ m2 < d + b := fun q => absurd h60 (Int32.not_le.mpr (lgG.mpr (by rw [hm2 (Int32.not_lt.mpr h17)]; exact (lgS hd hb (by omega)).mpr q)))
                      rw [pCopyM, if_neg (fun q => q.elim h12 (Int32.not_lt.mpr h17)), if_neg (fun q => q h28), if_pos ⟨⟨h32, h34, by rw [nI_clamp ha, nI_clamp hb]; omega⟩, ⟨h32, h36, by rw [nI_clamp hd, nI_clamp hb]; omega⟩⟩, nI_clamp ha, nI_clamp hb, nI_clamp hd]
                      exact aw_to (lp_cpA_1_2 (mv := α 59) (by omega) (by omega) 0 (Nat.zero_le _)) rfl (by rw [fC_0]; rfl)
                    · skip
                      show aw_W _ _ _ _ (61, [some (.ref 46), some (.int 1), some (.int (nI a)), some (.int 2), some (.int (nI d)), some (.int (nI b)), none], []) (ae_en σ α z t0 ts)
                      refine aw_go 1 rfl ⟨trivial, trivial⟩ ?_
                      refine aw_ret rfl rfl trivial ?_
                      rw [pCopyM, if_neg (fun q => q.elim h12 (Int32.not_lt.mpr h17)), if_neg (fun q => q h28), if_neg (fun q => by have := q.2.2.2; rw [nI_clamp hd, nI_clamp hb] at this; have h60 := lgG.mp (Int32.not_le.mp h60); rw [hm2 (Int32.not_lt.mpr h17), lgS hd hb (by omega)] at h60; omega)]
                      exact ⟨_, rfl, rfl⟩
          · skip
            show aw_W _ _ _ _ (29, [some (.ref 46), some (.int 1), some (.int i), some (.int 2), some (.int j), some (.int n), none], []) (ae_en σ α z t0 ts)
            refine aw_go 1 rfl ⟨trivial, trivial⟩ ?_
            refine aw_ret rfl rfl trivial ?_
            rw [pCopyM, if_neg (fun q => q.elim h12 (Int32.not_lt.mpr h17)), if_pos h28]
            exact ⟨_, rfl, rfl⟩
        · skip
          show aw_W _ _ _ _ (18, [some (.ref 46), some (.int 1), some (.int i), some (.int 2), some (.int j), some (.int n), none], []) (ae_en σ α z t0 ts)
          refine aw_go 1 rfl ⟨trivial, trivial⟩ ?_
          refine aw_ret rfl rfl trivial ?_
          rw [pCopyM, if_pos (Or.inr (Int32.not_le.mp h17))]
          exact ⟨_, rfl, rfl⟩
    · skip
      have h5 := bI_f (Classical.not_not.mp h5)
      show aw_W _ _ _ _ (6, [some (.ref 46), some (.int 1), some (.int i), some (.int 2), some (.int j), some (.int n), none], []) (ae_en σ α z t0 ts)
      exact absurd h5 (by decide)
theorem lp_cpB_1_3 {zd : Nat} {a d b : Nat} {mv : Nat → Int32} (h1 : a + b ≤ 40) (h2 : d + b ≤ 40) (k : Nat) (hk : k ≤ b) : aw_W P (zd) cd_Model_copy (fun r H => ∃ mv : Nat → Int32, r = some (.int (nI b)) ∧ H = ae_en σ (au α [(58, (va_cpy (α 58) (α 58) (40 * 1 + a) (40 * 3 + d) b)), (59, mv)]) z t0 ts) (86, [some (.ref 46), some (.int 1), some (.int (nI a)), some (.int 3), some (.int (nI d)), some (.int (nI b)), some (.int (nI k))], []) (ae_en σ (au α [(58, (va_cpy (α 58) (α 58) (40 * 1 + a) (40 * 3 + d) k)), (59, (fC b (fun k => α 58 (40 * 1 + a + k)) mv))]) z t0 ts) := by
  refine aw_go 3 rfl ⟨trivial, trivial, trivial, trivial⟩ ?_
  refine aw_br (c := (nI b) ≤ (nI k)) (fun h88 => ?_) (fun h88 => ?_)
  · skip
    have h88 := cI_leT (a := b) (b := k) rfl rfl (by omega) (by omega) h88
    show aw_W _ _ _ _ (105, [some (.ref 46), some (.int 1), some (.int (nI a)), some (.int 3), some (.int (nI d)), some (.int (nI b)), some (.int (nI k))], []) (ae_en σ (au α [(58, (va_cpy (α 58) (α 58) (40 * 1 + a) (40 * 3 + d) k)), (59, (fC b (fun k => α 58 (40 * 1 + a + k)) mv))]) z t0 ts)
    have e8 : k = b := by omega
    refine aw_go 1 rfl ⟨trivial, trivial⟩ ?_
    refine aw_ret rfl rfl trivial ?_
    rw [e8]
    exact ⟨_, rfl, rfl⟩
  · skip
    have h88 := cI_leF (a := b) (b := k) rfl rfl (by omega) (by omega) h88
    show aw_W _ _ _ _ (89, [some (.ref 46), some (.int 1), some (.int (nI a)), some (.int 3), some (.int (nI d)), some (.int (nI b)), some (.int (nI k))], []) (ae_en σ (au α [(58, (va_cpy (α 58) (α 58) (40 * 1 + a) (40 * 3 + d) k)), (59, (fC b (fun k => α 58 (40 * 1 + a + k)) mv))]) z t0 ts)
    refine aw_go 16 rfl ⟨trivial, trivial, trivial, trivial, trivial, trivial, trivial, trivial, trivial, trivial, trivial, trivial, (cI_in (a := k) rfl (by omega) (by decide)), (cI_in (a := ((40 * 3) + d) + k) (cI_add (a := (40 * 3) + d) (b := k) (cI_add (a := 40 * 3) (b := d) (cI_mul (a := 40) (b := 3) rfl rfl) rfl) rfl) (by omega) (by decide)), trivial, trivial, trivial⟩ ?_
    show aw_W _ _ _ _ (86, [some (.ref 46), some (.int 1), some (.int (nI a)), some (.int 3), some (.int (nI d)), some (.int (nI b)), some (.int ((nI k) + 1))], []) (ae_en σ (au α [(58, upd (va_cpy (α 58) (α 58) (40 * 1 + a) (40 * 3 + d) k) (((40 * 3) + (nI d)) + (nI k)).toNatClampNeg ((fC b (fun k => α 58 (40 * 1 + a + k)) mv) (nI k).toNatClampNeg)), (59, (fC b (fun k => α 58 (40 * 1 + a + k)) mv))]) z t0 ts)
    rw [show (nI k).toNatClampNeg = k from cI_cl (a := k) rfl (by omega)]
    rw [show (((40 * 3) + (nI d)) + (nI k)).toNatClampNeg = ((40 * 3) + d) + k from cI_cl (a := ((40 * 3) + d) + k) (cI_add (a := (40 * 3) + d) (b := k) (cI_add (a := 40 * 3) (b := d) (cI_mul (a := 40) (b := 3) rfl rfl) rfl) rfl) (by omega)]
    rw [show (nI k) + 1 = nI (k + 1) from (cI_add (a := k) (b := 1) rfl rfl)]
    rw [fC_lt (show k < b by omega), cpy_s]
    exact lp_cpB_1_3 h1 h2 (k + 1) (by omega)
termination_by b - k
decreasing_by all_goals omega
theorem lp_cpA_1_3 {zd : Nat} {a d b : Nat} {mv : Nat → Int32} (h1 : a + b ≤ 40) (h2 : d + b ≤ 40) (k : Nat) (hk : k ≤ b) : aw_W P (zd) cd_Model_copy (fun r H => ∃ mv : Nat → Int32, r = some (.int (nI b)) ∧ H = ae_en σ (au α [(58, (va_cpy (α 58) (α 58) (40 * 1 + a) (40 * 3 + d) b)), (59, mv)]) z t0 ts) (65, [some (.ref 46), some (.int 1), some (.int (nI a)), some (.int 3), some (.int (nI d)), some (.int (nI b)), some (.int (nI k))], []) (ae_en σ (au α [(59, (fC k (fun k => α 58 (40 * 1 + a + k)) mv))]) z t0 ts) := by
  refine aw_go 3 rfl ⟨trivial, trivial, trivial, trivial⟩ ?_
  refine aw_br (c := (nI b) ≤ (nI k)) (fun h67 => ?_) (fun h67 => ?_)
  · skip
    have h67 := cI_leT (a := b) (b := k) rfl rfl (by omega) (by omega) h67
    show aw_W _ _ _ _ (84, [some (.ref 46), some (.int 1), some (.int (nI a)), some (.int 3), some (.int (nI d)), some (.int (nI b)), some (.int (nI k))], []) (ae_en σ (au α [(59, (fC k (fun k => α 58 (40 * 1 + a + k)) mv))]) z t0 ts)
    have e8 : k = b := by omega
    refine aw_go 2 rfl ⟨trivial, trivial, trivial⟩ ?_
    rw [e8]
    exact aw_to (lp_cpB_1_3 h1 h2 0 (Nat.zero_le _)) rfl (by rw [cpy_0]; rfl)
  · skip
    have h67 := cI_leF (a := b) (b := k) rfl rfl (by omega) (by omega) h67
    show aw_W _ _ _ _ (68, [some (.ref 46), some (.int 1), some (.int (nI a)), some (.int 3), some (.int (nI d)), some (.int (nI b)), some (.int (nI k))], []) (ae_en σ (au α [(59, (fC k (fun k => α 58 (40 * 1 + a + k)) mv))]) z t0 ts)
    refine aw_go 16 rfl ⟨trivial, trivial, trivial, trivial, trivial, trivial, trivial, trivial, trivial, trivial, trivial, trivial, (cI_in (a := ((40 * 1) + a) + k) (cI_add (a := (40 * 1) + a) (b := k) (cI_add (a := 40 * 1) (b := a) (cI_mul (a := 40) (b := 1) rfl rfl) rfl) rfl) (by omega) (by decide)), (cI_in (a := k) rfl (by omega) (by decide)), trivial, trivial, trivial⟩ ?_
    show aw_W _ _ _ _ (65, [some (.ref 46), some (.int 1), some (.int (nI a)), some (.int 3), some (.int (nI d)), some (.int (nI b)), some (.int ((nI k) + 1))], []) (ae_en σ (au α [(59, upd (fC k (fun k => α 58 (40 * 1 + a + k)) mv) (nI k).toNatClampNeg (α 58 (((40 * 1) + (nI a)) + (nI k)).toNatClampNeg))]) z t0 ts)
    rw [show (((40 * 1) + (nI a)) + (nI k)).toNatClampNeg = ((40 * 1) + a) + k from cI_cl (a := ((40 * 1) + a) + k) (cI_add (a := (40 * 1) + a) (b := k) (cI_add (a := 40 * 1) (b := a) (cI_mul (a := 40) (b := 1) rfl rfl) rfl) rfl) (by omega)]
    rw [show (nI k).toNatClampNeg = k from cI_cl (a := k) rfl (by omega)]
    rw [show (nI k) + 1 = nI (k + 1) from (cI_add (a := k) (b := 1) rfl rfl)]
    rw [fC_s (X := (fun k => α 58 (40 * 1 + a + k))) rfl]
    exact lp_cpA_1_3 h1 h2 (k + 1) (by omega)
termination_by b - k
decreasing_by all_goals omega
theorem em_copy_1_3 {m m2 : Nat} {i j n : Int32} {zd : Nat} (hm : ¬ α 56 1 < 0 → α 57 1 = nI m) (hm40 : m ≤ 40) (hm2 : ¬ α 56 3 < 0 → α 57 3 = nI m2) (hm240 : m2 ≤ 40) : aw_X P (zd + 3) 175 [.ref 46, .int 1, .int i, .int 3, .int j, .int n] (ae_en σ α z t0 ts) (fun r H => ∃ (mv : Nat → Int32), r = some (.int ((pCopyM 1 3 m m2 i j n (α 56) (α 58)).1)) ∧ H = (ae_en σ (au α [(58, (pCopyM 1 3 m m2 i j n (α 56) (α 58)).2), (59, mv)]) z t0 ts)) := by
  refine aw_ev (cd := cd_Model_copy) rfl rfl rfl ?_
  show aw_W _ _ _ _ (0, [some (.ref 46), some (.int 1), some (.int i), some (.int 3), some (.int j), some (.int n), none], []) (ae_en σ α z t0 ts)
  refine aw_go 1 rfl ⟨trivial, trivial⟩ ?_
  refine aw_callE rfl rfl (ev_Model_isSheet (s := 1)) ?_
  show aw_W _ _ _ _ (2, [some (.ref 46), some (.int 1), some (.int i), some (.int 3), some (.int j), some (.int n), none], [.int (bI (iP 4 1))]) (ae_en σ α z t0 ts)
  refine aw_go 1 rfl ⟨trivial, trivial⟩ ?_
  refine aw_br (c := (bI (iP 4 1)) = 0) (fun h2 => ?_) (fun h2 => ?_)
  · skip
    have h2 := bI_f h2
    show aw_W _ _ _ _ (6, [some (.ref 46), some (.int 1), some (.int i), some (.int 3), some (.int j), some (.int n), none], []) (ae_en σ α z t0 ts)
    exact absurd h2 (by decide)
  · skip
    have h2 := bI_t h2
    show aw_W _ _ _ _ (3, [some (.ref 46), some (.int 1), some (.int i), some (.int 3), some (.int j), some (.int n), none], []) (ae_en σ α z t0 ts)
    refine aw_go 1 rfl ⟨trivial, trivial⟩ ?_
    refine aw_callE rfl rfl (ev_Model_isSheet (s := 3)) ?_
    show aw_W _ _ _ _ (5, [some (.ref 46), some (.int 1), some (.int i), some (.int 3), some (.int j), some (.int n), none], [.int (bI (iP 4 3))]) (ae_en σ α z t0 ts)
    refine aw_go 1 rfl ⟨trivial, trivial⟩ ?_
    refine aw_br (c := ¬ (bI (iP 4 3)) = 0) (fun h5 => ?_) (fun h5 => ?_)
    · skip
      have h5 := bI_t h5
      show aw_W _ _ _ _ (8, [some (.ref 46), some (.int 1), some (.int i), some (.int 3), some (.int j), some (.int n), none], []) (ae_en σ α z t0 ts)
      refine aw_go 5 rfl ⟨trivial, trivial, trivial, (cI_in (a := 1) rfl (by omega) (by decide)), trivial, trivial⟩ ?_
      show aw_W _ _ _ _ (if (α 56 (1 : Int32).toNatClampNeg) < 0 then 18 else 13, [some (.ref 46), some (.int 1), some (.int i), some (.int 3), some (.int j), some (.int n), none], []) (ae_en σ α z t0 ts)
      rw [show (1 : Int32).toNatClampNeg = 1 from cI_cl (a := 1) rfl (by omega)]
      refine aw_br (c := (α 56 1) < 0) (fun h12 => ?_) (fun h12 => ?_)
      · skip
        show aw_W _ _ _ _ (18, [some (.ref 46), some (.int 1), some (.int i), some (.int 3), some (.int j), some (.int n), none], []) (ae_en σ α z t0 ts)
        refine aw_go 1 rfl ⟨trivial, trivial⟩ ?_
        refine aw_ret rfl rfl trivial ?_
        rw [pCopyM, if_pos (Or.inl h12)]
        exact ⟨_, rfl, rfl⟩
      · skip
        show aw_W _ _ _ _ (13, [some (.ref 46), some (.int 1), some (.int i), some (.int 3), some (.int j), some (.int n), none], []) (ae_en σ α z t0 ts)
        refine aw_go 5 rfl ⟨trivial, trivial, trivial, (cI_in (a := 3) rfl (by omega) (by decide)), trivial, trivial⟩ ?_
        show aw_W _ _ _ _ (if (0 : Int32) ≤ (α 56 (3 : Int32).toNatClampNeg) then 20 else 18, [some (.ref 46), some (.int 1), some (.int i), some (.int 3), some (.int j), some (.int n), none], []) (ae_en σ α z t0 ts)
        rw [show (3 : Int32).toNatClampNeg = 3 from cI_cl (a := 3) rfl (by omega)]
        refine aw_br (c := (0 : Int32) ≤ (α 56 3)) (fun h17 => ?_) (fun h17 => ?_)
        · skip
          show aw_W _ _ _ _ (20, [some (.ref 46), some (.int 1), some (.int i), some (.int 3), some (.int j), some (.int n), none], []) (ae_en σ α z t0 ts)
          refine aw_go 9 rfl ⟨trivial, trivial, trivial, (cI_in (a := 1) rfl (by omega) (by decide)), trivial, trivial, trivial, (cI_in (a := 3) rfl (by omega) (by decide)), trivial, trivial⟩ ?_
          show aw_W _ _ _ _ (if (α 56 (1 : Int32).toNatClampNeg) = (α 56 (3 : Int32).toNatClampNeg) then 31 else 29, [some (.ref 46), some (.int 1), some (.int i), some (.int 3), some (.int j), some (.int n), none], []) (ae_en σ α z t0 ts)
          rw [show (1 : Int32).toNatClampNeg = 1 from cI_cl (a := 1) rfl (by omega)]
          rw [show (3 : Int32).toNatClampNeg = 3 from cI_cl (a := 3) rfl (by omega)]
          refine aw_br (c := (α 56 1) = (α 56 3)) (fun h28 => ?_) (fun h28 => ?_)
          · skip
            show aw_W _ _ _ _ (31, [some (.ref 46), some (.int 1), some (.int i), some (.int 3), some (.int j), some (.int n), none], []) (ae_en σ α z t0 ts)
            refine aw_go 2 rfl ⟨trivial, trivial, trivial⟩ ?_
            refine aw_br (c := n < 0) (fun h32 => ?_) (fun h32 => ?_)
            · skip
              show aw_W _ _ _ _ (61, [some (.ref 46), some (.int 1), some (.int i), some (.int 3), some (.int j), some (.int n), none], []) (ae_en σ α z t0 ts)
              refine aw_go 1 rfl ⟨trivial, trivial⟩ ?_
              refine aw_ret rfl rfl trivial ?_
              rw [pCopyM, if_neg (fun q => q.elim h12 (Int32.not_lt.mpr h17)), if_neg (fun q => q h28), if_neg (fun q => q.1.1 h32)]
              exact ⟨_, rfl, rfl⟩
            · skip
              show aw_W _ _ _ _ (33, [some (.ref 46), some (.int 1), some (.int i), some (.int 3), some (.int j), some (.int n), none], []) (ae_en σ α z t0 ts)
              refine aw_go 2 rfl ⟨trivial, trivial, trivial⟩ ?_
              refine aw_br (c := i < 0) (fun h34 => ?_) (fun h34 => ?_)
              · skip
                show aw_W _ _ _ _ (61, [some (.ref 46), some (.int 1), some (.int i), some (.int 3), some (.int j), some (.int n), none], []) (ae_en σ α z t0 ts)
                refine aw_go 1 rfl ⟨trivial, trivial⟩ ?_
                refine aw_ret rfl rfl trivial ?_
                rw [pCopyM, if_neg (fun q => q.elim h12 (Int32.not_lt.mpr h17)), if_neg (fun q => q h28), if_neg (fun q => q.1.2.1 h34)]
                exact ⟨_, rfl, rfl⟩
              · skip
                show aw_W _ _ _ _ (35, [some (.ref 46), some (.int 1), some (.int i), some (.int 3), some (.int j), some (.int n), none], []) (ae_en σ α z t0 ts)
                refine aw_go 2 rfl ⟨trivial, trivial, trivial⟩ ?_
                refine aw_br (c := j < 0) (fun h36 => ?_) (fun h36 => ?_)
                · skip
                  show aw_W _ _ _ _ (61, [some (.ref 46), some (.int 1), some (.int i), some (.int 3), some (.int j), some (.int n), none], []) (ae_en σ α z t0 ts)
                  refine aw_go 1 rfl ⟨trivial, trivial⟩ ?_
                  refine aw_ret rfl rfl trivial ?_
                  rw [pCopyM, if_neg (fun q => q.elim h12 (Int32.not_lt.mpr h17)), if_neg (fun q => q h28), if_neg (fun q => q.2.2.1 h36)]
                  exact ⟨_, rfl, rfl⟩
                · skip
                  show aw_W _ _ _ _ (37, [some (.ref 46), some (.int 1), some (.int i), some (.int 3), some (.int j), some (.int n), none], []) (ae_en σ α z t0 ts)
                  obtain ⟨a, ha, rfl⟩ := nI_of h34
                  obtain ⟨d, hd, rfl⟩ := nI_of h36
                  obtain ⟨b, hb, rfl⟩ := nI_of h32
                  refine aw_go 12 rfl ⟨trivial, trivial, trivial, trivial, trivial, trivial, trivial, trivial, (cI_in (a := 1) rfl (by omega) (by decide)), trivial, trivial, trivial, trivial⟩ ?_
                  show aw_W _ _ _ _ (if (0 : Int32) < (lg_cmp (((nI a).toInt64) + ((nI b).toInt64)) ((α 57 (1 : Int32).toNatClampNeg).toInt64)) then 61 else 49, [some (.ref 46), some (.int 1), some (.int (nI a)), some (.int 3), some (.int (nI d)), some (.int (nI b)), none], []) (ae_en σ α z t0 ts)
                  rw [show (1 : Int32).toNatClampNeg = 1 from cI_cl (a := 1) rfl (by omega)]
                  refine aw_br (c := (0 : Int32) < (lg_cmp (((nI a).toInt64) + ((nI b).toInt64)) ((α 57 1).toInt64))) (fun h48 => ?_) (fun h48 => ?_)
                  · skip
                    show aw_W _ _ _ _ (61, [some (.ref 46), some (.int 1), some (.int (nI a)), some (.int 3), some (.int (nI d)), some (.int (nI b)), none], []) (ae_en σ α z t0 ts)
                    refine aw_go 1 rfl ⟨trivial, trivial⟩ ?_
                    refine aw_ret rfl rfl trivial ?_
                    rw [pCopyM, if_neg (fun q => q.elim h12 (Int32.not_lt.mpr h17)), if_neg (fun q => q h28), if_neg (fun q => by have := q.1.2.2; rw [nI_clamp ha, nI_clamp hb] at this; have h48 := lgG.mp h48; rw [hm h12, lgS ha hb (by omega)] at h48; omega)]
                    exact ⟨_, rfl, rfl⟩
                  · skip
                    show aw_W _ _ _ _ (49, [some (.ref 46), some (.int 1), some (.int (nI a)), some (.int 3), some (.int (nI d)), some (.int (nI b)), none], []) (ae_en σ α z t0 ts)
                    refine aw_go 12 rfl ⟨trivial, trivial, trivial, trivial, trivial, trivial, trivial, trivial, (cI_in (a := 3) rfl (by omega) (by decide)), trivial, trivial, trivial, trivial⟩ ?_
                    show aw_W _ _ _ _ (if (lg_cmp (((nI d).toInt64) + ((nI b).toInt64)) ((α 57 (3 : Int32).toNatClampNeg).toInt64)) ≤ 0 then 63 else 61, [some (.ref 46), some (.int 1), some (.int (nI a)), some (.int 3), some (.int (nI d)), some (.int (nI b)), none], []) (ae_en σ α z t0 ts)
                    rw [show (3 : Int32).toNatClampNeg = 3 from cI_cl (a := 3) rfl (by omega)]
                    refine aw_br (c := (lg_cmp (((nI d).toInt64) + ((nI b).toInt64)) ((α 57 3).toInt64)) ≤ 0) (fun h60 => ?_) (fun h60 => ?_)
                    · skip
                      show aw_W _ _ _ _ (63, [some (.ref 46), some (.int 1), some (.int (nI a)), some (.int 3), some (.int (nI d)), some (.int (nI b)), none], []) (ae_en σ α z t0 ts)
                      refine aw_go 2 rfl ⟨trivial, trivial, trivial⟩ ?_
                      have g1 : ¬ m < a + b := fun q => h48 (lgG.mpr (by rw [hm h12]; exact (lgS ha hb (by omega)).mpr q))
                      have g2 : ¬ m2 < d + b := fun q => absurd h60 (Int32.not_le.mpr (lgG.mpr (by rw [hm2 (Int32.not_lt.mpr h17)]; exact (lgS hd hb (by omega)).mpr q)))
                      rw [pCopyM, if_neg (fun q => q.elim h12 (Int32.not_lt.mpr h17)), if_neg (fun q => q h28), if_pos ⟨⟨h32, h34, by rw [nI_clamp ha, nI_clamp hb]; omega⟩, ⟨h32, h36, by rw [nI_clamp hd, nI_clamp hb]; omega⟩⟩, nI_clamp ha, nI_clamp hb, nI_clamp hd]
                      exact aw_to (lp_cpA_1_3 (mv := α 59) (by omega) (by omega) 0 (Nat.zero_le _)) rfl (by rw [fC_0]; rfl)
                    · skip
                      show aw_W _ _ _ _ (61, [some (.ref 46), some (.int 1), some (.int (nI a)), some (.int 3), some (.int (nI d)), some (.int (nI b)), none], []) (ae_en σ α z t0 ts)
                      refine aw_go 1 rfl ⟨trivial, trivial⟩ ?_
                      refine aw_ret rfl rfl trivial ?_
                      rw [pCopyM, if_neg (fun q => q.elim h12 (Int32.not_lt.mpr h17)), if_neg (fun q => q h28), if_neg (fun q => by have := q.2.2.2; rw [nI_clamp hd, nI_clamp hb] at this; have h60 := lgG.mp (Int32.not_le.mp h60); rw [hm2 (Int32.not_lt.mpr h17), lgS hd hb (by omega)] at h60; omega)]
                      exact ⟨_, rfl, rfl⟩
          · skip
            show aw_W _ _ _ _ (29, [some (.ref 46), some (.int 1), some (.int i), some (.int 3), some (.int j), some (.int n), none], []) (ae_en σ α z t0 ts)
            refine aw_go 1 rfl ⟨trivial, trivial⟩ ?_
            refine aw_ret rfl rfl trivial ?_
            rw [pCopyM, if_neg (fun q => q.elim h12 (Int32.not_lt.mpr h17)), if_pos h28]
            exact ⟨_, rfl, rfl⟩
        · skip
          show aw_W _ _ _ _ (18, [some (.ref 46), some (.int 1), some (.int i), some (.int 3), some (.int j), some (.int n), none], []) (ae_en σ α z t0 ts)
          refine aw_go 1 rfl ⟨trivial, trivial⟩ ?_
          refine aw_ret rfl rfl trivial ?_
          rw [pCopyM, if_pos (Or.inr (Int32.not_le.mp h17))]
          exact ⟨_, rfl, rfl⟩
    · skip
      have h5 := bI_f (Classical.not_not.mp h5)
      show aw_W _ _ _ _ (6, [some (.ref 46), some (.int 1), some (.int i), some (.int 3), some (.int j), some (.int n), none], []) (ae_en σ α z t0 ts)
      exact absurd h5 (by decide)
theorem lp_cpB_2_0 {zd : Nat} {a d b : Nat} {mv : Nat → Int32} (h1 : a + b ≤ 40) (h2 : d + b ≤ 40) (k : Nat) (hk : k ≤ b) : aw_W P (zd) cd_Model_copy (fun r H => ∃ mv : Nat → Int32, r = some (.int (nI b)) ∧ H = ae_en σ (au α [(58, (va_cpy (α 58) (α 58) (40 * 2 + a) (40 * 0 + d) b)), (59, mv)]) z t0 ts) (86, [some (.ref 46), some (.int 2), some (.int (nI a)), some (.int 0), some (.int (nI d)), some (.int (nI b)), some (.int (nI k))], []) (ae_en σ (au α [(58, (va_cpy (α 58) (α 58) (40 * 2 + a) (40 * 0 + d) k)), (59, (fC b (fun k => α 58 (40 * 2 + a + k)) mv))]) z t0 ts) := by
  refine aw_go 3 rfl ⟨trivial, trivial, trivial, trivial⟩ ?_
  refine aw_br (c := (nI b) ≤ (nI k)) (fun h88 => ?_) (fun h88 => ?_)
  · skip
    have h88 := cI_leT (a := b) (b := k) rfl rfl (by omega) (by omega) h88
    show aw_W _ _ _ _ (105, [some (.ref 46), some (.int 2), some (.int (nI a)), some (.int 0), some (.int (nI d)), some (.int (nI b)), some (.int (nI k))], []) (ae_en σ (au α [(58, (va_cpy (α 58) (α 58) (40 * 2 + a) (40 * 0 + d) k)), (59, (fC b (fun k => α 58 (40 * 2 + a + k)) mv))]) z t0 ts)
    have e8 : k = b := by omega
    refine aw_go 1 rfl ⟨trivial, trivial⟩ ?_
    refine aw_ret rfl rfl trivial ?_
    rw [e8]
    exact ⟨_, rfl, rfl⟩
  · skip
    have h88 := cI_leF (a := b) (b := k) rfl rfl (by omega) (by omega) h88
    show aw_W _ _ _ _ (89, [some (.ref 46), some (.int 2), some (.int (nI a)), some (.int 0), some (.int (nI d)), some (.int (nI b)), some (.int (nI k))], []) (ae_en σ (au α [(58, (va_cpy (α 58) (α 58) (40 * 2 + a) (40 * 0 + d) k)), (59, (fC b (fun k => α 58 (40 * 2 + a + k)) mv))]) z t0 ts)
    refine aw_go 16 rfl ⟨trivial, trivial, trivial, trivial, trivial, trivial, trivial, trivial, trivial, trivial, trivial, trivial, (cI_in (a := k) rfl (by omega) (by decide)), (cI_in (a := ((40 * 0) + d) + k) (cI_add (a := (40 * 0) + d) (b := k) (cI_add (a := 40 * 0) (b := d) (cI_mul (a := 40) (b := 0) rfl rfl) rfl) rfl) (by omega) (by decide)), trivial, trivial, trivial⟩ ?_
    show aw_W _ _ _ _ (86, [some (.ref 46), some (.int 2), some (.int (nI a)), some (.int 0), some (.int (nI d)), some (.int (nI b)), some (.int ((nI k) + 1))], []) (ae_en σ (au α [(58, upd (va_cpy (α 58) (α 58) (40 * 2 + a) (40 * 0 + d) k) (((40 * 0) + (nI d)) + (nI k)).toNatClampNeg ((fC b (fun k => α 58 (40 * 2 + a + k)) mv) (nI k).toNatClampNeg)), (59, (fC b (fun k => α 58 (40 * 2 + a + k)) mv))]) z t0 ts)
    rw [show (nI k).toNatClampNeg = k from cI_cl (a := k) rfl (by omega)]
    rw [show (((40 * 0) + (nI d)) + (nI k)).toNatClampNeg = ((40 * 0) + d) + k from cI_cl (a := ((40 * 0) + d) + k) (cI_add (a := (40 * 0) + d) (b := k) (cI_add (a := 40 * 0) (b := d) (cI_mul (a := 40) (b := 0) rfl rfl) rfl) rfl) (by omega)]
    rw [show (nI k) + 1 = nI (k + 1) from (cI_add (a := k) (b := 1) rfl rfl)]
    rw [fC_lt (show k < b by omega), cpy_s]
    exact lp_cpB_2_0 h1 h2 (k + 1) (by omega)
termination_by b - k
decreasing_by all_goals omega
theorem lp_cpA_2_0 {zd : Nat} {a d b : Nat} {mv : Nat → Int32} (h1 : a + b ≤ 40) (h2 : d + b ≤ 40) (k : Nat) (hk : k ≤ b) : aw_W P (zd) cd_Model_copy (fun r H => ∃ mv : Nat → Int32, r = some (.int (nI b)) ∧ H = ae_en σ (au α [(58, (va_cpy (α 58) (α 58) (40 * 2 + a) (40 * 0 + d) b)), (59, mv)]) z t0 ts) (65, [some (.ref 46), some (.int 2), some (.int (nI a)), some (.int 0), some (.int (nI d)), some (.int (nI b)), some (.int (nI k))], []) (ae_en σ (au α [(59, (fC k (fun k => α 58 (40 * 2 + a + k)) mv))]) z t0 ts) := by
  refine aw_go 3 rfl ⟨trivial, trivial, trivial, trivial⟩ ?_
  refine aw_br (c := (nI b) ≤ (nI k)) (fun h67 => ?_) (fun h67 => ?_)
  · skip
    have h67 := cI_leT (a := b) (b := k) rfl rfl (by omega) (by omega) h67
    show aw_W _ _ _ _ (84, [some (.ref 46), some (.int 2), some (.int (nI a)), some (.int 0), some (.int (nI d)), some (.int (nI b)), some (.int (nI k))], []) (ae_en σ (au α [(59, (fC k (fun k => α 58 (40 * 2 + a + k)) mv))]) z t0 ts)
    have e8 : k = b := by omega
    refine aw_go 2 rfl ⟨trivial, trivial, trivial⟩ ?_
    rw [e8]
    exact aw_to (lp_cpB_2_0 h1 h2 0 (Nat.zero_le _)) rfl (by rw [cpy_0]; rfl)
  · skip
    have h67 := cI_leF (a := b) (b := k) rfl rfl (by omega) (by omega) h67
    show aw_W _ _ _ _ (68, [some (.ref 46), some (.int 2), some (.int (nI a)), some (.int 0), some (.int (nI d)), some (.int (nI b)), some (.int (nI k))], []) (ae_en σ (au α [(59, (fC k (fun k => α 58 (40 * 2 + a + k)) mv))]) z t0 ts)
    refine aw_go 16 rfl ⟨trivial, trivial, trivial, trivial, trivial, trivial, trivial, trivial, trivial, trivial, trivial, trivial, (cI_in (a := ((40 * 2) + a) + k) (cI_add (a := (40 * 2) + a) (b := k) (cI_add (a := 40 * 2) (b := a) (cI_mul (a := 40) (b := 2) rfl rfl) rfl) rfl) (by omega) (by decide)), (cI_in (a := k) rfl (by omega) (by decide)), trivial, trivial, trivial⟩ ?_
    show aw_W _ _ _ _ (65, [some (.ref 46), some (.int 2), some (.int (nI a)), some (.int 0), some (.int (nI d)), some (.int (nI b)), some (.int ((nI k) + 1))], []) (ae_en σ (au α [(59, upd (fC k (fun k => α 58 (40 * 2 + a + k)) mv) (nI k).toNatClampNeg (α 58 (((40 * 2) + (nI a)) + (nI k)).toNatClampNeg))]) z t0 ts)
    rw [show (((40 * 2) + (nI a)) + (nI k)).toNatClampNeg = ((40 * 2) + a) + k from cI_cl (a := ((40 * 2) + a) + k) (cI_add (a := (40 * 2) + a) (b := k) (cI_add (a := 40 * 2) (b := a) (cI_mul (a := 40) (b := 2) rfl rfl) rfl) rfl) (by omega)]
    rw [show (nI k).toNatClampNeg = k from cI_cl (a := k) rfl (by omega)]
    rw [show (nI k) + 1 = nI (k + 1) from (cI_add (a := k) (b := 1) rfl rfl)]
    rw [fC_s (X := (fun k => α 58 (40 * 2 + a + k))) rfl]
    exact lp_cpA_2_0 h1 h2 (k + 1) (by omega)
termination_by b - k
decreasing_by all_goals omega
theorem em_copy_2_0 {m m2 : Nat} {i j n : Int32} {zd : Nat} (hm : ¬ α 56 2 < 0 → α 57 2 = nI m) (hm40 : m ≤ 40) (hm2 : ¬ α 56 0 < 0 → α 57 0 = nI m2) (hm240 : m2 ≤ 40) : aw_X P (zd + 3) 175 [.ref 46, .int 2, .int i, .int 0, .int j, .int n] (ae_en σ α z t0 ts) (fun r H => ∃ (mv : Nat → Int32), r = some (.int ((pCopyM 2 0 m m2 i j n (α 56) (α 58)).1)) ∧ H = (ae_en σ (au α [(58, (pCopyM 2 0 m m2 i j n (α 56) (α 58)).2), (59, mv)]) z t0 ts)) := by
  refine aw_ev (cd := cd_Model_copy) rfl rfl rfl ?_
  show aw_W _ _ _ _ (0, [some (.ref 46), some (.int 2), some (.int i), some (.int 0), some (.int j), some (.int n), none], []) (ae_en σ α z t0 ts)
  refine aw_go 1 rfl ⟨trivial, trivial⟩ ?_
  refine aw_callE rfl rfl (ev_Model_isSheet (s := 2)) ?_
  show aw_W _ _ _ _ (2, [some (.ref 46), some (.int 2), some (.int i), some (.int 0), some (.int j), some (.int n), none], [.int (bI (iP 4 2))]) (ae_en σ α z t0 ts)
  refine aw_go 1 rfl ⟨trivial, trivial⟩ ?_
  refine aw_br (c := (bI (iP 4 2)) = 0) (fun h2 => ?_) (fun h2 => ?_)
  · skip
    have h2 := bI_f h2
    show aw_W _ _ _ _ (6, [some (.ref 46), some (.int 2), some (.int i), some (.int 0), some (.int j), some (.int n), none], []) (ae_en σ α z t0 ts)
    exact absurd h2 (by decide)
  · skip
    have h2 := bI_t h2
    show aw_W _ _ _ _ (3, [some (.ref 46), some (.int 2), some (.int i), some (.int 0), some (.int j), some (.int n), none], []) (ae_en σ α z t0 ts)
    refine aw_go 1 rfl ⟨trivial, trivial⟩ ?_
    refine aw_callE rfl rfl (ev_Model_isSheet (s := 0)) ?_
    show aw_W _ _ _ _ (5, [some (.ref 46), some (.int 2), some (.int i), some (.int 0), some (.int j), some (.int n), none], [.int (bI (iP 4 0))]) (ae_en σ α z t0 ts)
    refine aw_go 1 rfl ⟨trivial, trivial⟩ ?_
    refine aw_br (c := ¬ (bI (iP 4 0)) = 0) (fun h5 => ?_) (fun h5 => ?_)
    · skip
      have h5 := bI_t h5
      show aw_W _ _ _ _ (8, [some (.ref 46), some (.int 2), some (.int i), some (.int 0), some (.int j), some (.int n), none], []) (ae_en σ α z t0 ts)
      refine aw_go 5 rfl ⟨trivial, trivial, trivial, (cI_in (a := 2) rfl (by omega) (by decide)), trivial, trivial⟩ ?_
      show aw_W _ _ _ _ (if (α 56 (2 : Int32).toNatClampNeg) < 0 then 18 else 13, [some (.ref 46), some (.int 2), some (.int i), some (.int 0), some (.int j), some (.int n), none], []) (ae_en σ α z t0 ts)
      rw [show (2 : Int32).toNatClampNeg = 2 from cI_cl (a := 2) rfl (by omega)]
      refine aw_br (c := (α 56 2) < 0) (fun h12 => ?_) (fun h12 => ?_)
      · skip
        show aw_W _ _ _ _ (18, [some (.ref 46), some (.int 2), some (.int i), some (.int 0), some (.int j), some (.int n), none], []) (ae_en σ α z t0 ts)
        refine aw_go 1 rfl ⟨trivial, trivial⟩ ?_
        refine aw_ret rfl rfl trivial ?_
        rw [pCopyM, if_pos (Or.inl h12)]
        exact ⟨_, rfl, rfl⟩
      · skip
        show aw_W _ _ _ _ (13, [some (.ref 46), some (.int 2), some (.int i), some (.int 0), some (.int j), some (.int n), none], []) (ae_en σ α z t0 ts)
        refine aw_go 5 rfl ⟨trivial, trivial, trivial, (cI_in (a := 0) rfl (by omega) (by decide)), trivial, trivial⟩ ?_
        show aw_W _ _ _ _ (if (0 : Int32) ≤ (α 56 (0 : Int32).toNatClampNeg) then 20 else 18, [some (.ref 46), some (.int 2), some (.int i), some (.int 0), some (.int j), some (.int n), none], []) (ae_en σ α z t0 ts)
        rw [show (0 : Int32).toNatClampNeg = 0 from cI_cl (a := 0) rfl (by omega)]
        refine aw_br (c := (0 : Int32) ≤ (α 56 0)) (fun h17 => ?_) (fun h17 => ?_)
        · skip
          show aw_W _ _ _ _ (20, [some (.ref 46), some (.int 2), some (.int i), some (.int 0), some (.int j), some (.int n), none], []) (ae_en σ α z t0 ts)
          refine aw_go 9 rfl ⟨trivial, trivial, trivial, (cI_in (a := 2) rfl (by omega) (by decide)), trivial, trivial, trivial, (cI_in (a := 0) rfl (by omega) (by decide)), trivial, trivial⟩ ?_
          show aw_W _ _ _ _ (if (α 56 (2 : Int32).toNatClampNeg) = (α 56 (0 : Int32).toNatClampNeg) then 31 else 29, [some (.ref 46), some (.int 2), some (.int i), some (.int 0), some (.int j), some (.int n), none], []) (ae_en σ α z t0 ts)
          rw [show (2 : Int32).toNatClampNeg = 2 from cI_cl (a := 2) rfl (by omega)]
          rw [show (0 : Int32).toNatClampNeg = 0 from cI_cl (a := 0) rfl (by omega)]
          refine aw_br (c := (α 56 2) = (α 56 0)) (fun h28 => ?_) (fun h28 => ?_)
          · skip
            show aw_W _ _ _ _ (31, [some (.ref 46), some (.int 2), some (.int i), some (.int 0), some (.int j), some (.int n), none], []) (ae_en σ α z t0 ts)
            refine aw_go 2 rfl ⟨trivial, trivial, trivial⟩ ?_
            refine aw_br (c := n < 0) (fun h32 => ?_) (fun h32 => ?_)
            · skip
              show aw_W _ _ _ _ (61, [some (.ref 46), some (.int 2), some (.int i), some (.int 0), some (.int j), some (.int n), none], []) (ae_en σ α z t0 ts)
              refine aw_go 1 rfl ⟨trivial, trivial⟩ ?_
              refine aw_ret rfl rfl trivial ?_
              rw [pCopyM, if_neg (fun q => q.elim h12 (Int32.not_lt.mpr h17)), if_neg (fun q => q h28), if_neg (fun q => q.1.1 h32)]
              exact ⟨_, rfl, rfl⟩
            · skip
              show aw_W _ _ _ _ (33, [some (.ref 46), some (.int 2), some (.int i), some (.int 0), some (.int j), some (.int n), none], []) (ae_en σ α z t0 ts)
              refine aw_go 2 rfl ⟨trivial, trivial, trivial⟩ ?_
              refine aw_br (c := i < 0) (fun h34 => ?_) (fun h34 => ?_)
              · skip
                show aw_W _ _ _ _ (61, [some (.ref 46), some (.int 2), some (.int i), some (.int 0), some (.int j), some (.int n), none], []) (ae_en σ α z t0 ts)
                refine aw_go 1 rfl ⟨trivial, trivial⟩ ?_
                refine aw_ret rfl rfl trivial ?_
                rw [pCopyM, if_neg (fun q => q.elim h12 (Int32.not_lt.mpr h17)), if_neg (fun q => q h28), if_neg (fun q => q.1.2.1 h34)]
                exact ⟨_, rfl, rfl⟩
              · skip
                show aw_W _ _ _ _ (35, [some (.ref 46), some (.int 2), some (.int i), some (.int 0), some (.int j), some (.int n), none], []) (ae_en σ α z t0 ts)
                refine aw_go 2 rfl ⟨trivial, trivial, trivial⟩ ?_
                refine aw_br (c := j < 0) (fun h36 => ?_) (fun h36 => ?_)
                · skip
                  show aw_W _ _ _ _ (61, [some (.ref 46), some (.int 2), some (.int i), some (.int 0), some (.int j), some (.int n), none], []) (ae_en σ α z t0 ts)
                  refine aw_go 1 rfl ⟨trivial, trivial⟩ ?_
                  refine aw_ret rfl rfl trivial ?_
                  rw [pCopyM, if_neg (fun q => q.elim h12 (Int32.not_lt.mpr h17)), if_neg (fun q => q h28), if_neg (fun q => q.2.2.1 h36)]
                  exact ⟨_, rfl, rfl⟩
                · skip
                  show aw_W _ _ _ _ (37, [some (.ref 46), some (.int 2), some (.int i), some (.int 0), some (.int j), some (.int n), none], []) (ae_en σ α z t0 ts)
                  obtain ⟨a, ha, rfl⟩ := nI_of h34
                  obtain ⟨d, hd, rfl⟩ := nI_of h36
                  obtain ⟨b, hb, rfl⟩ := nI_of h32
                  refine aw_go 12 rfl ⟨trivial, trivial, trivial, trivial, trivial, trivial, trivial, trivial, (cI_in (a := 2) rfl (by omega) (by decide)), trivial, trivial, trivial, trivial⟩ ?_
                  show aw_W _ _ _ _ (if (0 : Int32) < (lg_cmp (((nI a).toInt64) + ((nI b).toInt64)) ((α 57 (2 : Int32).toNatClampNeg).toInt64)) then 61 else 49, [some (.ref 46), some (.int 2), some (.int (nI a)), some (.int 0), some (.int (nI d)), some (.int (nI b)), none], []) (ae_en σ α z t0 ts)
                  rw [show (2 : Int32).toNatClampNeg = 2 from cI_cl (a := 2) rfl (by omega)]
                  refine aw_br (c := (0 : Int32) < (lg_cmp (((nI a).toInt64) + ((nI b).toInt64)) ((α 57 2).toInt64))) (fun h48 => ?_) (fun h48 => ?_)
                  · skip
                    show aw_W _ _ _ _ (61, [some (.ref 46), some (.int 2), some (.int (nI a)), some (.int 0), some (.int (nI d)), some (.int (nI b)), none], []) (ae_en σ α z t0 ts)
                    refine aw_go 1 rfl ⟨trivial, trivial⟩ ?_
                    refine aw_ret rfl rfl trivial ?_
                    rw [pCopyM, if_neg (fun q => q.elim h12 (Int32.not_lt.mpr h17)), if_neg (fun q => q h28), if_neg (fun q => by have := q.1.2.2; rw [nI_clamp ha, nI_clamp hb] at this; have h48 := lgG.mp h48; rw [hm h12, lgS ha hb (by omega)] at h48; omega)]
                    exact ⟨_, rfl, rfl⟩
                  · skip
                    show aw_W _ _ _ _ (49, [some (.ref 46), some (.int 2), some (.int (nI a)), some (.int 0), some (.int (nI d)), some (.int (nI b)), none], []) (ae_en σ α z t0 ts)
                    refine aw_go 12 rfl ⟨trivial, trivial, trivial, trivial, trivial, trivial, trivial, trivial, (cI_in (a := 0) rfl (by omega) (by decide)), trivial, trivial, trivial, trivial⟩ ?_
                    show aw_W _ _ _ _ (if (lg_cmp (((nI d).toInt64) + ((nI b).toInt64)) ((α 57 (0 : Int32).toNatClampNeg).toInt64)) ≤ 0 then 63 else 61, [some (.ref 46), some (.int 2), some (.int (nI a)), some (.int 0), some (.int (nI d)), some (.int (nI b)), none], []) (ae_en σ α z t0 ts)
                    rw [show (0 : Int32).toNatClampNeg = 0 from cI_cl (a := 0) rfl (by omega)]
                    refine aw_br (c := (lg_cmp (((nI d).toInt64) + ((nI b).toInt64)) ((α 57 0).toInt64)) ≤ 0) (fun h60 => ?_) (fun h60 => ?_)
                    · skip
                      show aw_W _ _ _ _ (63, [some (.ref 46), some (.int 2), some (.int (nI a)), some (.int 0), some (.int (nI d)), some (.int (nI b)), none], []) (ae_en σ α z t0 ts)
                      refine aw_go 2 rfl ⟨trivial, trivial, trivial⟩ ?_
                      have g1 : ¬ m < a + b := fun q => h48 (lgG.mpr (by rw [hm h12]; exact (lgS ha hb (by omega)).mpr q))
                      have g2 : ¬ m2 < d + b := fun q => absurd h60 (Int32.not_le.mpr (lgG.mpr (by rw [hm2 (Int32.not_lt.mpr h17)]; exact (lgS hd hb (by omega)).mpr q)))
                      rw [pCopyM, if_neg (fun q => q.elim h12 (Int32.not_lt.mpr h17)), if_neg (fun q => q h28), if_pos ⟨⟨h32, h34, by rw [nI_clamp ha, nI_clamp hb]; omega⟩, ⟨h32, h36, by rw [nI_clamp hd, nI_clamp hb]; omega⟩⟩, nI_clamp ha, nI_clamp hb, nI_clamp hd]
                      exact aw_to (lp_cpA_2_0 (mv := α 59) (by omega) (by omega) 0 (Nat.zero_le _)) rfl (by rw [fC_0]; rfl)
                    · skip
                      show aw_W _ _ _ _ (61, [some (.ref 46), some (.int 2), some (.int (nI a)), some (.int 0), some (.int (nI d)), some (.int (nI b)), none], []) (ae_en σ α z t0 ts)
                      refine aw_go 1 rfl ⟨trivial, trivial⟩ ?_
                      refine aw_ret rfl rfl trivial ?_
                      rw [pCopyM, if_neg (fun q => q.elim h12 (Int32.not_lt.mpr h17)), if_neg (fun q => q h28), if_neg (fun q => by have := q.2.2.2; rw [nI_clamp hd, nI_clamp hb] at this; have h60 := lgG.mp (Int32.not_le.mp h60); rw [hm2 (Int32.not_lt.mpr h17), lgS hd hb (by omega)] at h60; omega)]
                      exact ⟨_, rfl, rfl⟩
          · skip
            show aw_W _ _ _ _ (29, [some (.ref 46), some (.int 2), some (.int i), some (.int 0), some (.int j), some (.int n), none], []) (ae_en σ α z t0 ts)
            refine aw_go 1 rfl ⟨trivial, trivial⟩ ?_
            refine aw_ret rfl rfl trivial ?_
            rw [pCopyM, if_neg (fun q => q.elim h12 (Int32.not_lt.mpr h17)), if_pos h28]
            exact ⟨_, rfl, rfl⟩
        · skip
          show aw_W _ _ _ _ (18, [some (.ref 46), some (.int 2), some (.int i), some (.int 0), some (.int j), some (.int n), none], []) (ae_en σ α z t0 ts)
          refine aw_go 1 rfl ⟨trivial, trivial⟩ ?_
          refine aw_ret rfl rfl trivial ?_
          rw [pCopyM, if_pos (Or.inr (Int32.not_le.mp h17))]
          exact ⟨_, rfl, rfl⟩
    · skip
      have h5 := bI_f (Classical.not_not.mp h5)
      show aw_W _ _ _ _ (6, [some (.ref 46), some (.int 2), some (.int i), some (.int 0), some (.int j), some (.int n), none], []) (ae_en σ α z t0 ts)
      exact absurd h5 (by decide)
theorem lp_cpB_2_1 {zd : Nat} {a d b : Nat} {mv : Nat → Int32} (h1 : a + b ≤ 40) (h2 : d + b ≤ 40) (k : Nat) (hk : k ≤ b) : aw_W P (zd) cd_Model_copy (fun r H => ∃ mv : Nat → Int32, r = some (.int (nI b)) ∧ H = ae_en σ (au α [(58, (va_cpy (α 58) (α 58) (40 * 2 + a) (40 * 1 + d) b)), (59, mv)]) z t0 ts) (86, [some (.ref 46), some (.int 2), some (.int (nI a)), some (.int 1), some (.int (nI d)), some (.int (nI b)), some (.int (nI k))], []) (ae_en σ (au α [(58, (va_cpy (α 58) (α 58) (40 * 2 + a) (40 * 1 + d) k)), (59, (fC b (fun k => α 58 (40 * 2 + a + k)) mv))]) z t0 ts) := by
  refine aw_go 3 rfl ⟨trivial, trivial, trivial, trivial⟩ ?_
  refine aw_br (c := (nI b) ≤ (nI k)) (fun h88 => ?_) (fun h88 => ?_)
  · skip
    have h88 := cI_leT (a := b) (b := k) rfl rfl (by omega) (by omega) h88
    show aw_W _ _ _ _ (105, [some (.ref 46), some (.int 2), some (.int (nI a)), some (.int 1), some (.int (nI d)), some (.int (nI b)), some (.int (nI k))], []) (ae_en σ (au α [(58, (va_cpy (α 58) (α 58) (40 * 2 + a) (40 * 1 + d) k)), (59, (fC b (fun k => α 58 (40 * 2 + a + k)) mv))]) z t0 ts)
    have e8 : k = b := by omega
    refine aw_go 1 rfl ⟨trivial, trivial⟩ ?_
    refine aw_ret rfl rfl trivial ?_
    rw [e8]
    exact ⟨_, rfl, rfl⟩
  · skip
    have h88 := cI_leF (a := b) (b := k) rfl rfl (by omega) (by omega) h88
    show aw_W _ _ _ _ (89, [some (.ref 46), some (.int 2), some (.int (nI a)), some (.int 1), some (.int (nI d)), some (.int (nI b)), some (.int (nI k))], []) (ae_en σ (au α [(58, (va_cpy (α 58) (α 58) (40 * 2 + a) (40 * 1 + d) k)), (59, (fC b (fun k => α 58 (40 * 2 + a + k)) mv))]) z t0 ts)
    refine aw_go 16 rfl ⟨trivial, trivial, trivial, trivial, trivial, trivial, trivial, trivial, trivial, trivial, trivial, trivial, (cI_in (a := k) rfl (by omega) (by decide)), (cI_in (a := ((40 * 1) + d) + k) (cI_add (a := (40 * 1) + d) (b := k) (cI_add (a := 40 * 1) (b := d) (cI_mul (a := 40) (b := 1) rfl rfl) rfl) rfl) (by omega) (by decide)), trivial, trivial, trivial⟩ ?_
    show aw_W _ _ _ _ (86, [some (.ref 46), some (.int 2), some (.int (nI a)), some (.int 1), some (.int (nI d)), some (.int (nI b)), some (.int ((nI k) + 1))], []) (ae_en σ (au α [(58, upd (va_cpy (α 58) (α 58) (40 * 2 + a) (40 * 1 + d) k) (((40 * 1) + (nI d)) + (nI k)).toNatClampNeg ((fC b (fun k => α 58 (40 * 2 + a + k)) mv) (nI k).toNatClampNeg)), (59, (fC b (fun k => α 58 (40 * 2 + a + k)) mv))]) z t0 ts)
    rw [show (nI k).toNatClampNeg = k from cI_cl (a := k) rfl (by omega)]
    rw [show (((40 * 1) + (nI d)) + (nI k)).toNatClampNeg = ((40 * 1) + d) + k from cI_cl (a := ((40 * 1) + d) + k) (cI_add (a := (40 * 1) + d) (b := k) (cI_add (a := 40 * 1) (b := d) (cI_mul (a := 40) (b := 1) rfl rfl) rfl) rfl) (by omega)]
    rw [show (nI k) + 1 = nI (k + 1) from (cI_add (a := k) (b := 1) rfl rfl)]
    rw [fC_lt (show k < b by omega), cpy_s]
    exact lp_cpB_2_1 h1 h2 (k + 1) (by omega)
termination_by b - k
decreasing_by all_goals omega
theorem lp_cpA_2_1 {zd : Nat} {a d b : Nat} {mv : Nat → Int32} (h1 : a + b ≤ 40) (h2 : d + b ≤ 40) (k : Nat) (hk : k ≤ b) : aw_W P (zd) cd_Model_copy (fun r H => ∃ mv : Nat → Int32, r = some (.int (nI b)) ∧ H = ae_en σ (au α [(58, (va_cpy (α 58) (α 58) (40 * 2 + a) (40 * 1 + d) b)), (59, mv)]) z t0 ts) (65, [some (.ref 46), some (.int 2), some (.int (nI a)), some (.int 1), some (.int (nI d)), some (.int (nI b)), some (.int (nI k))], []) (ae_en σ (au α [(59, (fC k (fun k => α 58 (40 * 2 + a + k)) mv))]) z t0 ts) := by
  refine aw_go 3 rfl ⟨trivial, trivial, trivial, trivial⟩ ?_
  refine aw_br (c := (nI b) ≤ (nI k)) (fun h67 => ?_) (fun h67 => ?_)
  · skip
    have h67 := cI_leT (a := b) (b := k) rfl rfl (by omega) (by omega) h67
    show aw_W _ _ _ _ (84, [some (.ref 46), some (.int 2), some (.int (nI a)), some (.int 1), some (.int (nI d)), some (.int (nI b)), some (.int (nI k))], []) (ae_en σ (au α [(59, (fC k (fun k => α 58 (40 * 2 + a + k)) mv))]) z t0 ts)
    have e8 : k = b := by omega
    refine aw_go 2 rfl ⟨trivial, trivial, trivial⟩ ?_
    rw [e8]
    exact aw_to (lp_cpB_2_1 h1 h2 0 (Nat.zero_le _)) rfl (by rw [cpy_0]; rfl)
  · skip
    have h67 := cI_leF (a := b) (b := k) rfl rfl (by omega) (by omega) h67
    show aw_W _ _ _ _ (68, [some (.ref 46), some (.int 2), some (.int (nI a)), some (.int 1), some (.int (nI d)), some (.int (nI b)), some (.int (nI k))], []) (ae_en σ (au α [(59, (fC k (fun k => α 58 (40 * 2 + a + k)) mv))]) z t0 ts)
    refine aw_go 16 rfl ⟨trivial, trivial, trivial, trivial, trivial, trivial, trivial, trivial, trivial, trivial, trivial, trivial, (cI_in (a := ((40 * 2) + a) + k) (cI_add (a := (40 * 2) + a) (b := k) (cI_add (a := 40 * 2) (b := a) (cI_mul (a := 40) (b := 2) rfl rfl) rfl) rfl) (by omega) (by decide)), (cI_in (a := k) rfl (by omega) (by decide)), trivial, trivial, trivial⟩ ?_
    show aw_W _ _ _ _ (65, [some (.ref 46), some (.int 2), some (.int (nI a)), some (.int 1), some (.int (nI d)), some (.int (nI b)), some (.int ((nI k) + 1))], []) (ae_en σ (au α [(59, upd (fC k (fun k => α 58 (40 * 2 + a + k)) mv) (nI k).toNatClampNeg (α 58 (((40 * 2) + (nI a)) + (nI k)).toNatClampNeg))]) z t0 ts)
    rw [show (((40 * 2) + (nI a)) + (nI k)).toNatClampNeg = ((40 * 2) + a) + k from cI_cl (a := ((40 * 2) + a) + k) (cI_add (a := (40 * 2) + a) (b := k) (cI_add (a := 40 * 2) (b := a) (cI_mul (a := 40) (b := 2) rfl rfl) rfl) rfl) (by omega)]
    rw [show (nI k).toNatClampNeg = k from cI_cl (a := k) rfl (by omega)]
    rw [show (nI k) + 1 = nI (k + 1) from (cI_add (a := k) (b := 1) rfl rfl)]
    rw [fC_s (X := (fun k => α 58 (40 * 2 + a + k))) rfl]
    exact lp_cpA_2_1 h1 h2 (k + 1) (by omega)
termination_by b - k
decreasing_by all_goals omega
theorem em_copy_2_1 {m m2 : Nat} {i j n : Int32} {zd : Nat} (hm : ¬ α 56 2 < 0 → α 57 2 = nI m) (hm40 : m ≤ 40) (hm2 : ¬ α 56 1 < 0 → α 57 1 = nI m2) (hm240 : m2 ≤ 40) : aw_X P (zd + 3) 175 [.ref 46, .int 2, .int i, .int 1, .int j, .int n] (ae_en σ α z t0 ts) (fun r H => ∃ (mv : Nat → Int32), r = some (.int ((pCopyM 2 1 m m2 i j n (α 56) (α 58)).1)) ∧ H = (ae_en σ (au α [(58, (pCopyM 2 1 m m2 i j n (α 56) (α 58)).2), (59, mv)]) z t0 ts)) := by
  refine aw_ev (cd := cd_Model_copy) rfl rfl rfl ?_
  show aw_W _ _ _ _ (0, [some (.ref 46), some (.int 2), some (.int i), some (.int 1), some (.int j), some (.int n), none], []) (ae_en σ α z t0 ts)
  refine aw_go 1 rfl ⟨trivial, trivial⟩ ?_
  refine aw_callE rfl rfl (ev_Model_isSheet (s := 2)) ?_
  show aw_W _ _ _ _ (2, [some (.ref 46), some (.int 2), some (.int i), some (.int 1), some (.int j), some (.int n), none], [.int (bI (iP 4 2))]) (ae_en σ α z t0 ts)
  refine aw_go 1 rfl ⟨trivial, trivial⟩ ?_
  refine aw_br (c := (bI (iP 4 2)) = 0) (fun h2 => ?_) (fun h2 => ?_)
  · skip
    have h2 := bI_f h2
    show aw_W _ _ _ _ (6, [some (.ref 46), some (.int 2), some (.int i), some (.int 1), some (.int j), some (.int n), none], []) (ae_en σ α z t0 ts)
    exact absurd h2 (by decide)
  · skip
    have h2 := bI_t h2
    show aw_W _ _ _ _ (3, [some (.ref 46), some (.int 2), some (.int i), some (.int 1), some (.int j), some (.int n), none], []) (ae_en σ α z t0 ts)
    refine aw_go 1 rfl ⟨trivial, trivial⟩ ?_
    refine aw_callE rfl rfl (ev_Model_isSheet (s := 1)) ?_
    show aw_W _ _ _ _ (5, [some (.ref 46), some (.int 2), some (.int i), some (.int 1), some (.int j), some (.int n), none], [.int (bI (iP 4 1))]) (ae_en σ α z t0 ts)
    refine aw_go 1 rfl ⟨trivial, trivial⟩ ?_
    refine aw_br (c := ¬ (bI (iP 4 1)) = 0) (fun h5 => ?_) (fun h5 => ?_)
    · skip
      have h5 := bI_t h5
      show aw_W _ _ _ _ (8, [some (.ref 46), some (.int 2), some (.int i), some (.int 1), some (.int j), some (.int n), none], []) (ae_en σ α z t0 ts)
      refine aw_go 5 rfl ⟨trivial, trivial, trivial, (cI_in (a := 2) rfl (by omega) (by decide)), trivial, trivial⟩ ?_
      show aw_W _ _ _ _ (if (α 56 (2 : Int32).toNatClampNeg) < 0 then 18 else 13, [some (.ref 46), some (.int 2), some (.int i), some (.int 1), some (.int j), some (.int n), none], []) (ae_en σ α z t0 ts)
      rw [show (2 : Int32).toNatClampNeg = 2 from cI_cl (a := 2) rfl (by omega)]
      refine aw_br (c := (α 56 2) < 0) (fun h12 => ?_) (fun h12 => ?_)
      · skip
        show aw_W _ _ _ _ (18, [some (.ref 46), some (.int 2), some (.int i), some (.int 1), some (.int j), some (.int n), none], []) (ae_en σ α z t0 ts)
        refine aw_go 1 rfl ⟨trivial, trivial⟩ ?_
        refine aw_ret rfl rfl trivial ?_
        rw [pCopyM, if_pos (Or.inl h12)]
        exact ⟨_, rfl, rfl⟩
      · skip
        show aw_W _ _ _ _ (13, [some (.ref 46), some (.int 2), some (.int i), some (.int 1), some (.int j), some (.int n), none], []) (ae_en σ α z t0 ts)
        refine aw_go 5 rfl ⟨trivial, trivial, trivial, (cI_in (a := 1) rfl (by omega) (by decide)), trivial, trivial⟩ ?_
        show aw_W _ _ _ _ (if (0 : Int32) ≤ (α 56 (1 : Int32).toNatClampNeg) then 20 else 18, [some (.ref 46), some (.int 2), some (.int i), some (.int 1), some (.int j), some (.int n), none], []) (ae_en σ α z t0 ts)
        rw [show (1 : Int32).toNatClampNeg = 1 from cI_cl (a := 1) rfl (by omega)]
        refine aw_br (c := (0 : Int32) ≤ (α 56 1)) (fun h17 => ?_) (fun h17 => ?_)
        · skip
          show aw_W _ _ _ _ (20, [some (.ref 46), some (.int 2), some (.int i), some (.int 1), some (.int j), some (.int n), none], []) (ae_en σ α z t0 ts)
          refine aw_go 9 rfl ⟨trivial, trivial, trivial, (cI_in (a := 2) rfl (by omega) (by decide)), trivial, trivial, trivial, (cI_in (a := 1) rfl (by omega) (by decide)), trivial, trivial⟩ ?_
          show aw_W _ _ _ _ (if (α 56 (2 : Int32).toNatClampNeg) = (α 56 (1 : Int32).toNatClampNeg) then 31 else 29, [some (.ref 46), some (.int 2), some (.int i), some (.int 1), some (.int j), some (.int n), none], []) (ae_en σ α z t0 ts)
          rw [show (2 : Int32).toNatClampNeg = 2 from cI_cl (a := 2) rfl (by omega)]
          rw [show (1 : Int32).toNatClampNeg = 1 from cI_cl (a := 1) rfl (by omega)]
          refine aw_br (c := (α 56 2) = (α 56 1)) (fun h28 => ?_) (fun h28 => ?_)
          · skip
            show aw_W _ _ _ _ (31, [some (.ref 46), some (.int 2), some (.int i), some (.int 1), some (.int j), some (.int n), none], []) (ae_en σ α z t0 ts)
            refine aw_go 2 rfl ⟨trivial, trivial, trivial⟩ ?_
            refine aw_br (c := n < 0) (fun h32 => ?_) (fun h32 => ?_)
            · skip
              show aw_W _ _ _ _ (61, [some (.ref 46), some (.int 2), some (.int i), some (.int 1), some (.int j), some (.int n), none], []) (ae_en σ α z t0 ts)
              refine aw_go 1 rfl ⟨trivial, trivial⟩ ?_
              refine aw_ret rfl rfl trivial ?_
              rw [pCopyM, if_neg (fun q => q.elim h12 (Int32.not_lt.mpr h17)), if_neg (fun q => q h28), if_neg (fun q => q.1.1 h32)]
              exact ⟨_, rfl, rfl⟩
            · skip
              show aw_W _ _ _ _ (33, [some (.ref 46), some (.int 2), some (.int i), some (.int 1), some (.int j), some (.int n), none], []) (ae_en σ α z t0 ts)
              refine aw_go 2 rfl ⟨trivial, trivial, trivial⟩ ?_
              refine aw_br (c := i < 0) (fun h34 => ?_) (fun h34 => ?_)
              · skip
                show aw_W _ _ _ _ (61, [some (.ref 46), some (.int 2), some (.int i), some (.int 1), some (.int j), some (.int n), none], []) (ae_en σ α z t0 ts)
                refine aw_go 1 rfl ⟨trivial, trivial⟩ ?_
                refine aw_ret rfl rfl trivial ?_
                rw [pCopyM, if_neg (fun q => q.elim h12 (Int32.not_lt.mpr h17)), if_neg (fun q => q h28), if_neg (fun q => q.1.2.1 h34)]
                exact ⟨_, rfl, rfl⟩
              · skip
                show aw_W _ _ _ _ (35, [some (.ref 46), some (.int 2), some (.int i), some (.int 1), some (.int j), some (.int n), none], []) (ae_en σ α z t0 ts)
                refine aw_go 2 rfl ⟨trivial, trivial, trivial⟩ ?_
                refine aw_br (c := j < 0) (fun h36 => ?_) (fun h36 => ?_)
                · skip
                  show aw_W _ _ _ _ (61, [some (.ref 46), some (.int 2), some (.int i), some (.int 1), some (.int j), some (.int n), none], []) (ae_en σ α z t0 ts)
                  refine aw_go 1 rfl ⟨trivial, trivial⟩ ?_
                  refine aw_ret rfl rfl trivial ?_
                  rw [pCopyM, if_neg (fun q => q.elim h12 (Int32.not_lt.mpr h17)), if_neg (fun q => q h28), if_neg (fun q => q.2.2.1 h36)]
                  exact ⟨_, rfl, rfl⟩
                · skip
                  show aw_W _ _ _ _ (37, [some (.ref 46), some (.int 2), some (.int i), some (.int 1), some (.int j), some (.int n), none], []) (ae_en σ α z t0 ts)
                  obtain ⟨a, ha, rfl⟩ := nI_of h34
                  obtain ⟨d, hd, rfl⟩ := nI_of h36
                  obtain ⟨b, hb, rfl⟩ := nI_of h32
                  refine aw_go 12 rfl ⟨trivial, trivial, trivial, trivial, trivial, trivial, trivial, trivial, (cI_in (a := 2) rfl (by omega) (by decide)), trivial, trivial, trivial, trivial⟩ ?_
                  show aw_W _ _ _ _ (if (0 : Int32) < (lg_cmp (((nI a).toInt64) + ((nI b).toInt64)) ((α 57 (2 : Int32).toNatClampNeg).toInt64)) then 61 else 49, [some (.ref 46), some (.int 2), some (.int (nI a)), some (.int 1), some (.int (nI d)), some (.int (nI b)), none], []) (ae_en σ α z t0 ts)
                  rw [show (2 : Int32).toNatClampNeg = 2 from cI_cl (a := 2) rfl (by omega)]
                  refine aw_br (c := (0 : Int32) < (lg_cmp (((nI a).toInt64) + ((nI b).toInt64)) ((α 57 2).toInt64))) (fun h48 => ?_) (fun h48 => ?_)
                  · skip
                    show aw_W _ _ _ _ (61, [some (.ref 46), some (.int 2), some (.int (nI a)), some (.int 1), some (.int (nI d)), some (.int (nI b)), none], []) (ae_en σ α z t0 ts)
                    refine aw_go 1 rfl ⟨trivial, trivial⟩ ?_
                    refine aw_ret rfl rfl trivial ?_
                    rw [pCopyM, if_neg (fun q => q.elim h12 (Int32.not_lt.mpr h17)), if_neg (fun q => q h28), if_neg (fun q => by have := q.1.2.2; rw [nI_clamp ha, nI_clamp hb] at this; have h48 := lgG.mp h48; rw [hm h12, lgS ha hb (by omega)] at h48; omega)]
                    exact ⟨_, rfl, rfl⟩
                  · skip
                    show aw_W _ _ _ _ (49, [some (.ref 46), some (.int 2), some (.int (nI a)), some (.int 1), some (.int (nI d)), some (.int (nI b)), none], []) (ae_en σ α z t0 ts)
                    refine aw_go 12 rfl ⟨trivial, trivial, trivial, trivial, trivial, trivial, trivial, trivial, (cI_in (a := 1) rfl (by omega) (by decide)), trivial, trivial, trivial, trivial⟩ ?_
                    show aw_W _ _ _ _ (if (lg_cmp (((nI d).toInt64) + ((nI b).toInt64)) ((α 57 (1 : Int32).toNatClampNeg).toInt64)) ≤ 0 then 63 else 61, [some (.ref 46), some (.int 2), some (.int (nI a)), some (.int 1), some (.int (nI d)), some (.int (nI b)), none], []) (ae_en σ α z t0 ts)
                    rw [show (1 : Int32).toNatClampNeg = 1 from cI_cl (a := 1) rfl (by omega)]
                    refine aw_br (c := (lg_cmp (((nI d).toInt64) + ((nI b).toInt64)) ((α 57 1).toInt64)) ≤ 0) (fun h60 => ?_) (fun h60 => ?_)
                    · skip
                      show aw_W _ _ _ _ (63, [some (.ref 46), some (.int 2), some (.int (nI a)), some (.int 1), some (.int (nI d)), some (.int (nI b)), none], []) (ae_en σ α z t0 ts)
                      refine aw_go 2 rfl ⟨trivial, trivial, trivial⟩ ?_
                      have g1 : ¬ m < a + b := fun q => h48 (lgG.mpr (by rw [hm h12]; exact (lgS ha hb (by omega)).mpr q))
                      have g2 : ¬ m2 < d + b := fun q => absurd h60 (Int32.not_le.mpr (lgG.mpr (by rw [hm2 (Int32.not_lt.mpr h17)]; exact (lgS hd hb (by omega)).mpr q)))
                      rw [pCopyM, if_neg (fun q => q.elim h12 (Int32.not_lt.mpr h17)), if_neg (fun q => q h28), if_pos ⟨⟨h32, h34, by rw [nI_clamp ha, nI_clamp hb]; omega⟩, ⟨h32, h36, by rw [nI_clamp hd, nI_clamp hb]; omega⟩⟩, nI_clamp ha, nI_clamp hb, nI_clamp hd]
                      exact aw_to (lp_cpA_2_1 (mv := α 59) (by omega) (by omega) 0 (Nat.zero_le _)) rfl (by rw [fC_0]; rfl)
                    · skip
                      show aw_W _ _ _ _ (61, [some (.ref 46), some (.int 2), some (.int (nI a)), some (.int 1), some (.int (nI d)), some (.int (nI b)), none], []) (ae_en σ α z t0 ts)
                      refine aw_go 1 rfl ⟨trivial, trivial⟩ ?_
                      refine aw_ret rfl rfl trivial ?_
                      rw [pCopyM, if_neg (fun q => q.elim h12 (Int32.not_lt.mpr h17)), if_neg (fun q => q h28), if_neg (fun q => by have := q.2.2.2; rw [nI_clamp hd, nI_clamp hb] at this; have h60 := lgG.mp (Int32.not_le.mp h60); rw [hm2 (Int32.not_lt.mpr h17), lgS hd hb (by omega)] at h60; omega)]
                      exact ⟨_, rfl, rfl⟩
          · skip
            show aw_W _ _ _ _ (29, [some (.ref 46), some (.int 2), some (.int i), some (.int 1), some (.int j), some (.int n), none], []) (ae_en σ α z t0 ts)
            refine aw_go 1 rfl ⟨trivial, trivial⟩ ?_
            refine aw_ret rfl rfl trivial ?_
            rw [pCopyM, if_neg (fun q => q.elim h12 (Int32.not_lt.mpr h17)), if_pos h28]
            exact ⟨_, rfl, rfl⟩
        · skip
          show aw_W _ _ _ _ (18, [some (.ref 46), some (.int 2), some (.int i), some (.int 1), some (.int j), some (.int n), none], []) (ae_en σ α z t0 ts)
          refine aw_go 1 rfl ⟨trivial, trivial⟩ ?_
          refine aw_ret rfl rfl trivial ?_
          rw [pCopyM, if_pos (Or.inr (Int32.not_le.mp h17))]
          exact ⟨_, rfl, rfl⟩
    · skip
      have h5 := bI_f (Classical.not_not.mp h5)
      show aw_W _ _ _ _ (6, [some (.ref 46), some (.int 2), some (.int i), some (.int 1), some (.int j), some (.int n), none], []) (ae_en σ α z t0 ts)
      exact absurd h5 (by decide)
theorem lp_cpB_2_2 {zd : Nat} {a d b : Nat} {mv : Nat → Int32} (h1 : a + b ≤ 40) (h2 : d + b ≤ 40) (k : Nat) (hk : k ≤ b) : aw_W P (zd) cd_Model_copy (fun r H => ∃ mv : Nat → Int32, r = some (.int (nI b)) ∧ H = ae_en σ (au α [(58, (va_cpy (α 58) (α 58) (40 * 2 + a) (40 * 2 + d) b)), (59, mv)]) z t0 ts) (86, [some (.ref 46), some (.int 2), some (.int (nI a)), some (.int 2), some (.int (nI d)), some (.int (nI b)), some (.int (nI k))], []) (ae_en σ (au α [(58, (va_cpy (α 58) (α 58) (40 * 2 + a) (40 * 2 + d) k)), (59, (fC b (fun k => α 58 (40 * 2 + a + k)) mv))]) z t0 ts) := by
  refine aw_go 3 rfl ⟨trivial, trivial, trivial, trivial⟩ ?_
  refine aw_br (c := (nI b) ≤ (nI k)) (fun h88 => ?_) (fun h88 => ?_)
  · skip
    have h88 := cI_leT (a := b) (b := k) rfl rfl (by omega) (by omega) h88
    show aw_W _ _ _ _ (105, [some (.ref 46), some (.int 2), some (.int (nI a)), some (.int 2), some (.int (nI d)), some (.int (nI b)), some (.int (nI k))], []) (ae_en σ (au α [(58, (va_cpy (α 58) (α 58) (40 * 2 + a) (40 * 2 + d) k)), (59, (fC b (fun k => α 58 (40 * 2 + a + k)) mv))]) z t0 ts)
    have e8 : k = b := by omega
    refine aw_go 1 rfl ⟨trivial, trivial⟩ ?_
    refine aw_ret rfl rfl trivial ?_
    rw [e8]
    exact ⟨_, rfl, rfl⟩
  · skip
    have h88 := cI_leF (a := b) (b := k) rfl rfl (by omega) (by omega) h88
    show aw_W _ _ _ _ (89, [some (.ref 46), some (.int 2), some (.int (nI a)), some (.int 2), some (.int (nI d)), some (.int (nI b)), some (.int (nI k))], []) (ae_en σ (au α [(58, (va_cpy (α 58) (α 58) (40 * 2 + a) (40 * 2 + d) k)), (59, (fC b (fun k => α 58 (40 * 2 + a + k)) mv))]) z t0 ts)
    refine aw_go 16 rfl ⟨trivial, trivial, trivial, trivial, trivial, trivial, trivial, trivial, trivial, trivial, trivial, trivial, (cI_in (a := k) rfl (by omega) (by decide)), (cI_in (a := ((40 * 2) + d) + k) (cI_add (a := (40 * 2) + d) (b := k) (cI_add (a := 40 * 2) (b := d) (cI_mul (a := 40) (b := 2) rfl rfl) rfl) rfl) (by omega) (by decide)), trivial, trivial, trivial⟩ ?_
    show aw_W _ _ _ _ (86, [some (.ref 46), some (.int 2), some (.int (nI a)), some (.int 2), some (.int (nI d)), some (.int (nI b)), some (.int ((nI k) + 1))], []) (ae_en σ (au α [(58, upd (va_cpy (α 58) (α 58) (40 * 2 + a) (40 * 2 + d) k) (((40 * 2) + (nI d)) + (nI k)).toNatClampNeg ((fC b (fun k => α 58 (40 * 2 + a + k)) mv) (nI k).toNatClampNeg)), (59, (fC b (fun k => α 58 (40 * 2 + a + k)) mv))]) z t0 ts)
    rw [show (nI k).toNatClampNeg = k from cI_cl (a := k) rfl (by omega)]
    rw [show (((40 * 2) + (nI d)) + (nI k)).toNatClampNeg = ((40 * 2) + d) + k from cI_cl (a := ((40 * 2) + d) + k) (cI_add (a := (40 * 2) + d) (b := k) (cI_add (a := 40 * 2) (b := d) (cI_mul (a := 40) (b := 2) rfl rfl) rfl) rfl) (by omega)]
    rw [show (nI k) + 1 = nI (k + 1) from (cI_add (a := k) (b := 1) rfl rfl)]
    rw [fC_lt (show k < b by omega), cpy_s]
    exact lp_cpB_2_2 h1 h2 (k + 1) (by omega)
termination_by b - k
decreasing_by all_goals omega
theorem lp_cpA_2_2 {zd : Nat} {a d b : Nat} {mv : Nat → Int32} (h1 : a + b ≤ 40) (h2 : d + b ≤ 40) (k : Nat) (hk : k ≤ b) : aw_W P (zd) cd_Model_copy (fun r H => ∃ mv : Nat → Int32, r = some (.int (nI b)) ∧ H = ae_en σ (au α [(58, (va_cpy (α 58) (α 58) (40 * 2 + a) (40 * 2 + d) b)), (59, mv)]) z t0 ts) (65, [some (.ref 46), some (.int 2), some (.int (nI a)), some (.int 2), some (.int (nI d)), some (.int (nI b)), some (.int (nI k))], []) (ae_en σ (au α [(59, (fC k (fun k => α 58 (40 * 2 + a + k)) mv))]) z t0 ts) := by
  refine aw_go 3 rfl ⟨trivial, trivial, trivial, trivial⟩ ?_
  refine aw_br (c := (nI b) ≤ (nI k)) (fun h67 => ?_) (fun h67 => ?_)
  · skip
    have h67 := cI_leT (a := b) (b := k) rfl rfl (by omega) (by omega) h67
    show aw_W _ _ _ _ (84, [some (.ref 46), some (.int 2), some (.int (nI a)), some (.int 2), some (.int (nI d)), some (.int (nI b)), some (.int (nI k))], []) (ae_en σ (au α [(59, (fC k (fun k => α 58 (40 * 2 + a + k)) mv))]) z t0 ts)
    have e8 : k = b := by omega
    refine aw_go 2 rfl ⟨trivial, trivial, trivial⟩ ?_
    rw [e8]
    exact aw_to (lp_cpB_2_2 h1 h2 0 (Nat.zero_le _)) rfl (by rw [cpy_0]; rfl)
  · skip
    have h67 := cI_leF (a := b) (b := k) rfl rfl (by omega) (by omega) h67
    show aw_W _ _ _ _ (68, [some (.ref 46), some (.int 2), some (.int (nI a)), some (.int 2), some (.int (nI d)), some (.int (nI b)), some (.int (nI k))], []) (ae_en σ (au α [(59, (fC k (fun k => α 58 (40 * 2 + a + k)) mv))]) z t0 ts)
    refine aw_go 16 rfl ⟨trivial, trivial, trivial, trivial, trivial, trivial, trivial, trivial, trivial, trivial, trivial, trivial, (cI_in (a := ((40 * 2) + a) + k) (cI_add (a := (40 * 2) + a) (b := k) (cI_add (a := 40 * 2) (b := a) (cI_mul (a := 40) (b := 2) rfl rfl) rfl) rfl) (by omega) (by decide)), (cI_in (a := k) rfl (by omega) (by decide)), trivial, trivial, trivial⟩ ?_
    show aw_W _ _ _ _ (65, [some (.ref 46), some (.int 2), some (.int (nI a)), some (.int 2), some (.int (nI d)), some (.int (nI b)), some (.int ((nI k) + 1))], []) (ae_en σ (au α [(59, upd (fC k (fun k => α 58 (40 * 2 + a + k)) mv) (nI k).toNatClampNeg (α 58 (((40 * 2) + (nI a)) + (nI k)).toNatClampNeg))]) z t0 ts)
    rw [show (((40 * 2) + (nI a)) + (nI k)).toNatClampNeg = ((40 * 2) + a) + k from cI_cl (a := ((40 * 2) + a) + k) (cI_add (a := (40 * 2) + a) (b := k) (cI_add (a := 40 * 2) (b := a) (cI_mul (a := 40) (b := 2) rfl rfl) rfl) rfl) (by omega)]
    rw [show (nI k).toNatClampNeg = k from cI_cl (a := k) rfl (by omega)]
    rw [show (nI k) + 1 = nI (k + 1) from (cI_add (a := k) (b := 1) rfl rfl)]
    rw [fC_s (X := (fun k => α 58 (40 * 2 + a + k))) rfl]
    exact lp_cpA_2_2 h1 h2 (k + 1) (by omega)
termination_by b - k
decreasing_by all_goals omega
theorem em_copy_2_2 {m m2 : Nat} {i j n : Int32} {zd : Nat} (hm : ¬ α 56 2 < 0 → α 57 2 = nI m) (hm40 : m ≤ 40) (hm2 : ¬ α 56 2 < 0 → α 57 2 = nI m2) (hm240 : m2 ≤ 40) : aw_X P (zd + 3) 175 [.ref 46, .int 2, .int i, .int 2, .int j, .int n] (ae_en σ α z t0 ts) (fun r H => ∃ (mv : Nat → Int32), r = some (.int ((pCopyM 2 2 m m2 i j n (α 56) (α 58)).1)) ∧ H = (ae_en σ (au α [(58, (pCopyM 2 2 m m2 i j n (α 56) (α 58)).2), (59, mv)]) z t0 ts)) := by
  refine aw_ev (cd := cd_Model_copy) rfl rfl rfl ?_
  show aw_W _ _ _ _ (0, [some (.ref 46), some (.int 2), some (.int i), some (.int 2), some (.int j), some (.int n), none], []) (ae_en σ α z t0 ts)
  refine aw_go 1 rfl ⟨trivial, trivial⟩ ?_
  refine aw_callE rfl rfl (ev_Model_isSheet (s := 2)) ?_
  show aw_W _ _ _ _ (2, [some (.ref 46), some (.int 2), some (.int i), some (.int 2), some (.int j), some (.int n), none], [.int (bI (iP 4 2))]) (ae_en σ α z t0 ts)
  refine aw_go 1 rfl ⟨trivial, trivial⟩ ?_
  refine aw_br (c := (bI (iP 4 2)) = 0) (fun h2 => ?_) (fun h2 => ?_)
  · skip
    have h2 := bI_f h2
    show aw_W _ _ _ _ (6, [some (.ref 46), some (.int 2), some (.int i), some (.int 2), some (.int j), some (.int n), none], []) (ae_en σ α z t0 ts)
    exact absurd h2 (by decide)
  · skip
    have h2 := bI_t h2
    show aw_W _ _ _ _ (3, [some (.ref 46), some (.int 2), some (.int i), some (.int 2), some (.int j), some (.int n), none], []) (ae_en σ α z t0 ts)
    refine aw_go 1 rfl ⟨trivial, trivial⟩ ?_
    refine aw_callE rfl rfl (ev_Model_isSheet (s := 2)) ?_
    show aw_W _ _ _ _ (5, [some (.ref 46), some (.int 2), some (.int i), some (.int 2), some (.int j), some (.int n), none], [.int (bI (iP 4 2))]) (ae_en σ α z t0 ts)
    refine aw_go 1 rfl ⟨trivial, trivial⟩ ?_
    refine aw_br (c := ¬ (bI (iP 4 2)) = 0) (fun h5 => ?_) (fun h5 => ?_)
    · skip
      have h5 := bI_t h5
      show aw_W _ _ _ _ (8, [some (.ref 46), some (.int 2), some (.int i), some (.int 2), some (.int j), some (.int n), none], []) (ae_en σ α z t0 ts)
      refine aw_go 5 rfl ⟨trivial, trivial, trivial, (cI_in (a := 2) rfl (by omega) (by decide)), trivial, trivial⟩ ?_
      show aw_W _ _ _ _ (if (α 56 (2 : Int32).toNatClampNeg) < 0 then 18 else 13, [some (.ref 46), some (.int 2), some (.int i), some (.int 2), some (.int j), some (.int n), none], []) (ae_en σ α z t0 ts)
      rw [show (2 : Int32).toNatClampNeg = 2 from cI_cl (a := 2) rfl (by omega)]
      refine aw_br (c := (α 56 2) < 0) (fun h12 => ?_) (fun h12 => ?_)
      · skip
        show aw_W _ _ _ _ (18, [some (.ref 46), some (.int 2), some (.int i), some (.int 2), some (.int j), some (.int n), none], []) (ae_en σ α z t0 ts)
        refine aw_go 1 rfl ⟨trivial, trivial⟩ ?_
        refine aw_ret rfl rfl trivial ?_
        rw [pCopyM, if_pos (Or.inl h12)]
        exact ⟨_, rfl, rfl⟩
      · skip
        show aw_W _ _ _ _ (13, [some (.ref 46), some (.int 2), some (.int i), some (.int 2), some (.int j), some (.int n), none], []) (ae_en σ α z t0 ts)
        refine aw_go 5 rfl ⟨trivial, trivial, trivial, (cI_in (a := 2) rfl (by omega) (by decide)), trivial, trivial⟩ ?_
        show aw_W _ _ _ _ (if (0 : Int32) ≤ (α 56 (2 : Int32).toNatClampNeg) then 20 else 18, [some (.ref 46), some (.int 2), some (.int i), some (.int 2), some (.int j), some (.int n), none], []) (ae_en σ α z t0 ts)
        rw [show (2 : Int32).toNatClampNeg = 2 from cI_cl (a := 2) rfl (by omega)]
        refine aw_br (c := (0 : Int32) ≤ (α 56 2)) (fun h17 => ?_) (fun h17 => ?_)
        · skip
          show aw_W _ _ _ _ (20, [some (.ref 46), some (.int 2), some (.int i), some (.int 2), some (.int j), some (.int n), none], []) (ae_en σ α z t0 ts)
          refine aw_go 9 rfl ⟨trivial, trivial, trivial, (cI_in (a := 2) rfl (by omega) (by decide)), trivial, trivial, trivial, (cI_in (a := 2) rfl (by omega) (by decide)), trivial, trivial⟩ ?_
          show aw_W _ _ _ _ (if (α 56 (2 : Int32).toNatClampNeg) = (α 56 (2 : Int32).toNatClampNeg) then 31 else 29, [some (.ref 46), some (.int 2), some (.int i), some (.int 2), some (.int j), some (.int n), none], []) (ae_en σ α z t0 ts)
          rw [show (2 : Int32).toNatClampNeg = 2 from cI_cl (a := 2) rfl (by omega)]
          refine aw_br (c := (α 56 2) = (α 56 2)) (fun h28 => ?_) (fun h28 => ?_)
          · skip
            show aw_W _ _ _ _ (31, [some (.ref 46), some (.int 2), some (.int i), some (.int 2), some (.int j), some (.int n), none], []) (ae_en σ α z t0 ts)
            refine aw_go 2 rfl ⟨trivial, trivial, trivial⟩ ?_
            refine aw_br (c := n < 0) (fun h32 => ?_) (fun h32 => ?_)
            · skip
              show aw_W _ _ _ _ (61, [some (.ref 46), some (.int 2), some (.int i), some (.int 2), some (.int j), some (.int n), none], []) (ae_en σ α z t0 ts)
              refine aw_go 1 rfl ⟨trivial, trivial⟩ ?_
              refine aw_ret rfl rfl trivial ?_
              rw [pCopyM, if_neg (fun q => q.elim h12 (Int32.not_lt.mpr h17)), if_neg (fun q => q h28), if_neg (fun q => q.1.1 h32)]
              exact ⟨_, rfl, rfl⟩
            · skip
              show aw_W _ _ _ _ (33, [some (.ref 46), some (.int 2), some (.int i), some (.int 2), some (.int j), some (.int n), none], []) (ae_en σ α z t0 ts)
              refine aw_go 2 rfl ⟨trivial, trivial, trivial⟩ ?_
              refine aw_br (c := i < 0) (fun h34 => ?_) (fun h34 => ?_)
              · skip
                show aw_W _ _ _ _ (61, [some (.ref 46), some (.int 2), some (.int i), some (.int 2), some (.int j), some (.int n), none], []) (ae_en σ α z t0 ts)
                refine aw_go 1 rfl ⟨trivial, trivial⟩ ?_
                refine aw_ret rfl rfl trivial ?_
                rw [pCopyM, if_neg (fun q => q.elim h12 (Int32.not_lt.mpr h17)), if_neg (fun q => q h28), if_neg (fun q => q.1.2.1 h34)]
                exact ⟨_, rfl, rfl⟩
              · skip
                show aw_W _ _ _ _ (35, [some (.ref 46), some (.int 2), some (.int i), some (.int 2), some (.int j), some (.int n), none], []) (ae_en σ α z t0 ts)
                refine aw_go 2 rfl ⟨trivial, trivial, trivial⟩ ?_
                refine aw_br (c := j < 0) (fun h36 => ?_) (fun h36 => ?_)
                · skip
                  show aw_W _ _ _ _ (61, [some (.ref 46), some (.int 2), some (.int i), some (.int 2), some (.int j), some (.int n), none], []) (ae_en σ α z t0 ts)
                  refine aw_go 1 rfl ⟨trivial, trivial⟩ ?_
                  refine aw_ret rfl rfl trivial ?_
                  rw [pCopyM, if_neg (fun q => q.elim h12 (Int32.not_lt.mpr h17)), if_neg (fun q => q h28), if_neg (fun q => q.2.2.1 h36)]
                  exact ⟨_, rfl, rfl⟩
                · skip
                  show aw_W _ _ _ _ (37, [some (.ref 46), some (.int 2), some (.int i), some (.int 2), some (.int j), some (.int n), none], []) (ae_en σ α z t0 ts)
                  obtain ⟨a, ha, rfl⟩ := nI_of h34
                  obtain ⟨d, hd, rfl⟩ := nI_of h36
                  obtain ⟨b, hb, rfl⟩ := nI_of h32
                  refine aw_go 12 rfl ⟨trivial, trivial, trivial, trivial, trivial, trivial, trivial, trivial, (cI_in (a := 2) rfl (by omega) (by decide)), trivial, trivial, trivial, trivial⟩ ?_
                  show aw_W _ _ _ _ (if (0 : Int32) < (lg_cmp (((nI a).toInt64) + ((nI b).toInt64)) ((α 57 (2 : Int32).toNatClampNeg).toInt64)) then 61 else 49, [some (.ref 46), some (.int 2), some (.int (nI a)), some (.int 2), some (.int (nI d)), some (.int (nI b)), none], []) (ae_en σ α z t0 ts)
                  rw [show (2 : Int32).toNatClampNeg = 2 from cI_cl (a := 2) rfl (by omega)]
                  refine aw_br (c := (0 : Int32) < (lg_cmp (((nI a).toInt64) + ((nI b).toInt64)) ((α 57 2).toInt64))) (fun h48 => ?_) (fun h48 => ?_)
                  · skip
                    show aw_W _ _ _ _ (61, [some (.ref 46), some (.int 2), some (.int (nI a)), some (.int 2), some (.int (nI d)), some (.int (nI b)), none], []) (ae_en σ α z t0 ts)
                    refine aw_go 1 rfl ⟨trivial, trivial⟩ ?_
                    refine aw_ret rfl rfl trivial ?_
                    rw [pCopyM, if_neg (fun q => q.elim h12 (Int32.not_lt.mpr h17)), if_neg (fun q => q h28), if_neg (fun q => by have := q.1.2.2; rw [nI_clamp ha, nI_clamp hb] at this; have h48 := lgG.mp h48; rw [hm h12, lgS ha hb (by omega)] at h48; omega)]
                    exact ⟨_, rfl, rfl⟩
                  · skip
                    show aw_W _ _ _ _ (49, [some (.ref 46), some (.int 2), some (.int (nI a)), some (.int 2), some (.int (nI d)), some (.int (nI b)), none], []) (ae_en σ α z t0 ts)
                    refine aw_go 12 rfl ⟨trivial, trivial, trivial, trivial, trivial, trivial, trivial, trivial, (cI_in (a := 2) rfl (by omega) (by decide)), trivial, trivial, trivial, trivial⟩ ?_
                    show aw_W _ _ _ _ (if (lg_cmp (((nI d).toInt64) + ((nI b).toInt64)) ((α 57 (2 : Int32).toNatClampNeg).toInt64)) ≤ 0 then 63 else 61, [some (.ref 46), some (.int 2), some (.int (nI a)), some (.int 2), some (.int (nI d)), some (.int (nI b)), none], []) (ae_en σ α z t0 ts)
                    rw [show (2 : Int32).toNatClampNeg = 2 from cI_cl (a := 2) rfl (by omega)]
                    refine aw_br (c := (lg_cmp (((nI d).toInt64) + ((nI b).toInt64)) ((α 57 2).toInt64)) ≤ 0) (fun h60 => ?_) (fun h60 => ?_)
                    · skip
                      show aw_W _ _ _ _ (63, [some (.ref 46), some (.int 2), some (.int (nI a)), some (.int 2), some (.int (nI d)), some (.int (nI b)), none], []) (ae_en σ α z t0 ts)
                      refine aw_go 2 rfl ⟨trivial, trivial, trivial⟩ ?_
                      have g1 : ¬ m < a + b := fun q => h48 (lgG.mpr (by rw [hm h12]; exact (lgS ha hb (by omega)).mpr q))
                      have g2 : ¬ m2 < d + b := fun q => absurd h60 (Int32.not_le.mpr (lgG.mpr (by rw [hm2 (Int32.not_lt.mpr h17)]; exact (lgS hd hb (by omega)).mpr q)))
                      rw [pCopyM, if_neg (fun q => q.elim h12 (Int32.not_lt.mpr h17)), if_neg (fun q => q h28), if_pos ⟨⟨h32, h34, by rw [nI_clamp ha, nI_clamp hb]; omega⟩, ⟨h32, h36, by rw [nI_clamp hd, nI_clamp hb]; omega⟩⟩, nI_clamp ha, nI_clamp hb, nI_clamp hd]
                      exact aw_to (lp_cpA_2_2 (mv := α 59) (by omega) (by omega) 0 (Nat.zero_le _)) rfl (by rw [fC_0]; rfl)
                    · skip
                      show aw_W _ _ _ _ (61, [some (.ref 46), some (.int 2), some (.int (nI a)), some (.int 2), some (.int (nI d)), some (.int (nI b)), none], []) (ae_en σ α z t0 ts)
                      refine aw_go 1 rfl ⟨trivial, trivial⟩ ?_
                      refine aw_ret rfl rfl trivial ?_
                      rw [pCopyM, if_neg (fun q => q.elim h12 (Int32.not_lt.mpr h17)), if_neg (fun q => q h28), if_neg (fun q => by have := q.2.2.2; rw [nI_clamp hd, nI_clamp hb] at this; have h60 := lgG.mp (Int32.not_le.mp h60); rw [hm2 (Int32.not_lt.mpr h17), lgS hd hb (by omega)] at h60; omega)]
                      exact ⟨_, rfl, rfl⟩
          · skip
            show aw_W _ _ _ _ (29, [some (.ref 46), some (.int 2), some (.int i), some (.int 2), some (.int j), some (.int n), none], []) (ae_en σ α z t0 ts)
            refine aw_go 1 rfl ⟨trivial, trivial⟩ ?_
            refine aw_ret rfl rfl trivial ?_
            rw [pCopyM, if_neg (fun q => q.elim h12 (Int32.not_lt.mpr h17)), if_pos h28]
            exact ⟨_, rfl, rfl⟩
        · skip
          show aw_W _ _ _ _ (18, [some (.ref 46), some (.int 2), some (.int i), some (.int 2), some (.int j), some (.int n), none], []) (ae_en σ α z t0 ts)
          refine aw_go 1 rfl ⟨trivial, trivial⟩ ?_
          refine aw_ret rfl rfl trivial ?_
          rw [pCopyM, if_pos (Or.inr (Int32.not_le.mp h17))]
          exact ⟨_, rfl, rfl⟩
    · skip
      have h5 := bI_f (Classical.not_not.mp h5)
      show aw_W _ _ _ _ (6, [some (.ref 46), some (.int 2), some (.int i), some (.int 2), some (.int j), some (.int n), none], []) (ae_en σ α z t0 ts)
      exact absurd h5 (by decide)
theorem lp_cpB_2_3 {zd : Nat} {a d b : Nat} {mv : Nat → Int32} (h1 : a + b ≤ 40) (h2 : d + b ≤ 40) (k : Nat) (hk : k ≤ b) : aw_W P (zd) cd_Model_copy (fun r H => ∃ mv : Nat → Int32, r = some (.int (nI b)) ∧ H = ae_en σ (au α [(58, (va_cpy (α 58) (α 58) (40 * 2 + a) (40 * 3 + d) b)), (59, mv)]) z t0 ts) (86, [some (.ref 46), some (.int 2), some (.int (nI a)), some (.int 3), some (.int (nI d)), some (.int (nI b)), some (.int (nI k))], []) (ae_en σ (au α [(58, (va_cpy (α 58) (α 58) (40 * 2 + a) (40 * 3 + d) k)), (59, (fC b (fun k => α 58 (40 * 2 + a + k)) mv))]) z t0 ts) := by
  refine aw_go 3 rfl ⟨trivial, trivial, trivial, trivial⟩ ?_
  refine aw_br (c := (nI b) ≤ (nI k)) (fun h88 => ?_) (fun h88 => ?_)
  · skip
    have h88 := cI_leT (a := b) (b := k) rfl rfl (by omega) (by omega) h88
    show aw_W _ _ _ _ (105, [some (.ref 46), some (.int 2), some (.int (nI a)), some (.int 3), some (.int (nI d)), some (.int (nI b)), some (.int (nI k))], []) (ae_en σ (au α [(58, (va_cpy (α 58) (α 58) (40 * 2 + a) (40 * 3 + d) k)), (59, (fC b (fun k => α 58 (40 * 2 + a + k)) mv))]) z t0 ts)
    have e8 : k = b := by omega
    refine aw_go 1 rfl ⟨trivial, trivial⟩ ?_
    refine aw_ret rfl rfl trivial ?_
    rw [e8]
    exact ⟨_, rfl, rfl⟩
  · skip
    have h88 := cI_leF (a := b) (b := k) rfl rfl (by omega) (by omega) h88
    show aw_W _ _ _ _ (89, [some (.ref 46), some (.int 2), some (.int (nI a)), some (.int 3), some (.int (nI d)), some (.int (nI b)), some (.int (nI k))], []) (ae_en σ (au α [(58, (va_cpy (α 58) (α 58) (40 * 2 + a) (40 * 3 + d) k)), (59, (fC b (fun k => α 58 (40 * 2 + a + k)) mv))]) z t0 ts)
    refine aw_go 16 rfl ⟨trivial, trivial, trivial, trivial, trivial, trivial, trivial, trivial, trivial, trivial, trivial, trivial, (cI_in (a := k) rfl (by omega) (by decide)), (cI_in (a := ((40 * 3) + d) + k) (cI_add (a := (40 * 3) + d) (b := k) (cI_add (a := 40 * 3) (b := d) (cI_mul (a := 40) (b := 3) rfl rfl) rfl) rfl) (by omega) (by decide)), trivial, trivial, trivial⟩ ?_
    show aw_W _ _ _ _ (86, [some (.ref 46), some (.int 2), some (.int (nI a)), some (.int 3), some (.int (nI d)), some (.int (nI b)), some (.int ((nI k) + 1))], []) (ae_en σ (au α [(58, upd (va_cpy (α 58) (α 58) (40 * 2 + a) (40 * 3 + d) k) (((40 * 3) + (nI d)) + (nI k)).toNatClampNeg ((fC b (fun k => α 58 (40 * 2 + a + k)) mv) (nI k).toNatClampNeg)), (59, (fC b (fun k => α 58 (40 * 2 + a + k)) mv))]) z t0 ts)
    rw [show (nI k).toNatClampNeg = k from cI_cl (a := k) rfl (by omega)]
    rw [show (((40 * 3) + (nI d)) + (nI k)).toNatClampNeg = ((40 * 3) + d) + k from cI_cl (a := ((40 * 3) + d) + k) (cI_add (a := (40 * 3) + d) (b := k) (cI_add (a := 40 * 3) (b := d) (cI_mul (a := 40) (b := 3) rfl rfl) rfl) rfl) (by omega)]
    rw [show (nI k) + 1 = nI (k + 1) from (cI_add (a := k) (b := 1) rfl rfl)]
    rw [fC_lt (show k < b by omega), cpy_s]
    exact lp_cpB_2_3 h1 h2 (k + 1) (by omega)
termination_by b - k
decreasing_by all_goals omega
theorem lp_cpA_2_3 {zd : Nat} {a d b : Nat} {mv : Nat → Int32} (h1 : a + b ≤ 40) (h2 : d + b ≤ 40) (k : Nat) (hk : k ≤ b) : aw_W P (zd) cd_Model_copy (fun r H => ∃ mv : Nat → Int32, r = some (.int (nI b)) ∧ H = ae_en σ (au α [(58, (va_cpy (α 58) (α 58) (40 * 2 + a) (40 * 3 + d) b)), (59, mv)]) z t0 ts) (65, [some (.ref 46), some (.int 2), some (.int (nI a)), some (.int 3), some (.int (nI d)), some (.int (nI b)), some (.int (nI k))], []) (ae_en σ (au α [(59, (fC k (fun k => α 58 (40 * 2 + a + k)) mv))]) z t0 ts) := by
  refine aw_go 3 rfl ⟨trivial, trivial, trivial, trivial⟩ ?_
  refine aw_br (c := (nI b) ≤ (nI k)) (fun h67 => ?_) (fun h67 => ?_)
  · skip
    have h67 := cI_leT (a := b) (b := k) rfl rfl (by omega) (by omega) h67
    show aw_W _ _ _ _ (84, [some (.ref 46), some (.int 2), some (.int (nI a)), some (.int 3), some (.int (nI d)), some (.int (nI b)), some (.int (nI k))], []) (ae_en σ (au α [(59, (fC k (fun k => α 58 (40 * 2 + a + k)) mv))]) z t0 ts)
    have e8 : k = b := by omega
    refine aw_go 2 rfl ⟨trivial, trivial, trivial⟩ ?_
    rw [e8]
    exact aw_to (lp_cpB_2_3 h1 h2 0 (Nat.zero_le _)) rfl (by rw [cpy_0]; rfl)
  · skip
    have h67 := cI_leF (a := b) (b := k) rfl rfl (by omega) (by omega) h67
    show aw_W _ _ _ _ (68, [some (.ref 46), some (.int 2), some (.int (nI a)), some (.int 3), some (.int (nI d)), some (.int (nI b)), some (.int (nI k))], []) (ae_en σ (au α [(59, (fC k (fun k => α 58 (40 * 2 + a + k)) mv))]) z t0 ts)
    refine aw_go 16 rfl ⟨trivial, trivial, trivial, trivial, trivial, trivial, trivial, trivial, trivial, trivial, trivial, trivial, (cI_in (a := ((40 * 2) + a) + k) (cI_add (a := (40 * 2) + a) (b := k) (cI_add (a := 40 * 2) (b := a) (cI_mul (a := 40) (b := 2) rfl rfl) rfl) rfl) (by omega) (by decide)), (cI_in (a := k) rfl (by omega) (by decide)), trivial, trivial, trivial⟩ ?_
    show aw_W _ _ _ _ (65, [some (.ref 46), some (.int 2), some (.int (nI a)), some (.int 3), some (.int (nI d)), some (.int (nI b)), some (.int ((nI k) + 1))], []) (ae_en σ (au α [(59, upd (fC k (fun k => α 58 (40 * 2 + a + k)) mv) (nI k).toNatClampNeg (α 58 (((40 * 2) + (nI a)) + (nI k)).toNatClampNeg))]) z t0 ts)
    rw [show (((40 * 2) + (nI a)) + (nI k)).toNatClampNeg = ((40 * 2) + a) + k from cI_cl (a := ((40 * 2) + a) + k) (cI_add (a := (40 * 2) + a) (b := k) (cI_add (a := 40 * 2) (b := a) (cI_mul (a := 40) (b := 2) rfl rfl) rfl) rfl) (by omega)]
    rw [show (nI k).toNatClampNeg = k from cI_cl (a := k) rfl (by omega)]
    rw [show (nI k) + 1 = nI (k + 1) from (cI_add (a := k) (b := 1) rfl rfl)]
    rw [fC_s (X := (fun k => α 58 (40 * 2 + a + k))) rfl]
    exact lp_cpA_2_3 h1 h2 (k + 1) (by omega)
termination_by b - k
decreasing_by all_goals omega
theorem em_copy_2_3 {m m2 : Nat} {i j n : Int32} {zd : Nat} (hm : ¬ α 56 2 < 0 → α 57 2 = nI m) (hm40 : m ≤ 40) (hm2 : ¬ α 56 3 < 0 → α 57 3 = nI m2) (hm240 : m2 ≤ 40) : aw_X P (zd + 3) 175 [.ref 46, .int 2, .int i, .int 3, .int j, .int n] (ae_en σ α z t0 ts) (fun r H => ∃ (mv : Nat → Int32), r = some (.int ((pCopyM 2 3 m m2 i j n (α 56) (α 58)).1)) ∧ H = (ae_en σ (au α [(58, (pCopyM 2 3 m m2 i j n (α 56) (α 58)).2), (59, mv)]) z t0 ts)) := by
  refine aw_ev (cd := cd_Model_copy) rfl rfl rfl ?_
  show aw_W _ _ _ _ (0, [some (.ref 46), some (.int 2), some (.int i), some (.int 3), some (.int j), some (.int n), none], []) (ae_en σ α z t0 ts)
  refine aw_go 1 rfl ⟨trivial, trivial⟩ ?_
  refine aw_callE rfl rfl (ev_Model_isSheet (s := 2)) ?_
  show aw_W _ _ _ _ (2, [some (.ref 46), some (.int 2), some (.int i), some (.int 3), some (.int j), some (.int n), none], [.int (bI (iP 4 2))]) (ae_en σ α z t0 ts)
  refine aw_go 1 rfl ⟨trivial, trivial⟩ ?_
  refine aw_br (c := (bI (iP 4 2)) = 0) (fun h2 => ?_) (fun h2 => ?_)
  · skip
    have h2 := bI_f h2
    show aw_W _ _ _ _ (6, [some (.ref 46), some (.int 2), some (.int i), some (.int 3), some (.int j), some (.int n), none], []) (ae_en σ α z t0 ts)
    exact absurd h2 (by decide)
  · skip
    have h2 := bI_t h2
    show aw_W _ _ _ _ (3, [some (.ref 46), some (.int 2), some (.int i), some (.int 3), some (.int j), some (.int n), none], []) (ae_en σ α z t0 ts)
    refine aw_go 1 rfl ⟨trivial, trivial⟩ ?_
    refine aw_callE rfl rfl (ev_Model_isSheet (s := 3)) ?_
    show aw_W _ _ _ _ (5, [some (.ref 46), some (.int 2), some (.int i), some (.int 3), some (.int j), some (.int n), none], [.int (bI (iP 4 3))]) (ae_en σ α z t0 ts)
    refine aw_go 1 rfl ⟨trivial, trivial⟩ ?_
    refine aw_br (c := ¬ (bI (iP 4 3)) = 0) (fun h5 => ?_) (fun h5 => ?_)
    · skip
      have h5 := bI_t h5
      show aw_W _ _ _ _ (8, [some (.ref 46), some (.int 2), some (.int i), some (.int 3), some (.int j), some (.int n), none], []) (ae_en σ α z t0 ts)
      refine aw_go 5 rfl ⟨trivial, trivial, trivial, (cI_in (a := 2) rfl (by omega) (by decide)), trivial, trivial⟩ ?_
      show aw_W _ _ _ _ (if (α 56 (2 : Int32).toNatClampNeg) < 0 then 18 else 13, [some (.ref 46), some (.int 2), some (.int i), some (.int 3), some (.int j), some (.int n), none], []) (ae_en σ α z t0 ts)
      rw [show (2 : Int32).toNatClampNeg = 2 from cI_cl (a := 2) rfl (by omega)]
      refine aw_br (c := (α 56 2) < 0) (fun h12 => ?_) (fun h12 => ?_)
      · skip
        show aw_W _ _ _ _ (18, [some (.ref 46), some (.int 2), some (.int i), some (.int 3), some (.int j), some (.int n), none], []) (ae_en σ α z t0 ts)
        refine aw_go 1 rfl ⟨trivial, trivial⟩ ?_
        refine aw_ret rfl rfl trivial ?_
        rw [pCopyM, if_pos (Or.inl h12)]
        exact ⟨_, rfl, rfl⟩
      · skip
        show aw_W _ _ _ _ (13, [some (.ref 46), some (.int 2), some (.int i), some (.int 3), some (.int j), some (.int n), none], []) (ae_en σ α z t0 ts)
        refine aw_go 5 rfl ⟨trivial, trivial, trivial, (cI_in (a := 3) rfl (by omega) (by decide)), trivial, trivial⟩ ?_
        show aw_W _ _ _ _ (if (0 : Int32) ≤ (α 56 (3 : Int32).toNatClampNeg) then 20 else 18, [some (.ref 46), some (.int 2), some (.int i), some (.int 3), some (.int j), some (.int n), none], []) (ae_en σ α z t0 ts)
        rw [show (3 : Int32).toNatClampNeg = 3 from cI_cl (a := 3) rfl (by omega)]
        refine aw_br (c := (0 : Int32) ≤ (α 56 3)) (fun h17 => ?_) (fun h17 => ?_)
        · skip
          show aw_W _ _ _ _ (20, [some (.ref 46), some (.int 2), some (.int i), some (.int 3), some (.int j), some (.int n), none], []) (ae_en σ α z t0 ts)
          refine aw_go 9 rfl ⟨trivial, trivial, trivial, (cI_in (a := 2) rfl (by omega) (by decide)), trivial, trivial, trivial, (cI_in (a := 3) rfl (by omega) (by decide)), trivial, trivial⟩ ?_
          show aw_W _ _ _ _ (if (α 56 (2 : Int32).toNatClampNeg) = (α 56 (3 : Int32).toNatClampNeg) then 31 else 29, [some (.ref 46), some (.int 2), some (.int i), some (.int 3), some (.int j), some (.int n), none], []) (ae_en σ α z t0 ts)
          rw [show (2 : Int32).toNatClampNeg = 2 from cI_cl (a := 2) rfl (by omega)]
          rw [show (3 : Int32).toNatClampNeg = 3 from cI_cl (a := 3) rfl (by omega)]
          refine aw_br (c := (α 56 2) = (α 56 3)) (fun h28 => ?_) (fun h28 => ?_)
          · skip
            show aw_W _ _ _ _ (31, [some (.ref 46), some (.int 2), some (.int i), some (.int 3), some (.int j), some (.int n), none], []) (ae_en σ α z t0 ts)
            refine aw_go 2 rfl ⟨trivial, trivial, trivial⟩ ?_
            refine aw_br (c := n < 0) (fun h32 => ?_) (fun h32 => ?_)
            · skip
              show aw_W _ _ _ _ (61, [some (.ref 46), some (.int 2), some (.int i), some (.int 3), some (.int j), some (.int n), none], []) (ae_en σ α z t0 ts)
              refine aw_go 1 rfl ⟨trivial, trivial⟩ ?_
              refine aw_ret rfl rfl trivial ?_
              rw [pCopyM, if_neg (fun q => q.elim h12 (Int32.not_lt.mpr h17)), if_neg (fun q => q h28), if_neg (fun q => q.1.1 h32)]
              exact ⟨_, rfl, rfl⟩
            · skip
              show aw_W _ _ _ _ (33, [some (.ref 46), some (.int 2), some (.int i), some (.int 3), some (.int j), some (.int n), none], []) (ae_en σ α z t0 ts)
              refine aw_go 2 rfl ⟨trivial, trivial, trivial⟩ ?_
              refine aw_br (c := i < 0) (fun h34 => ?_) (fun h34 => ?_)
              · skip
                show aw_W _ _ _ _ (61, [some (.ref 46), some (.int 2), some (.int i), some (.int 3), some (.int j), some (.int n), none], []) (ae_en σ α z t0 ts)
                refine aw_go 1 rfl ⟨trivial, trivial⟩ ?_
                refine aw_ret rfl rfl trivial ?_
                rw [pCopyM, if_neg (fun q => q.elim h12 (Int32.not_lt.mpr h17)), if_neg (fun q => q h28), if_neg (fun q => q.1.2.1 h34)]
                exact ⟨_, rfl, rfl⟩
              · skip
                show aw_W _ _ _ _ (35, [some (.ref 46), some (.int 2), some (.int i), some (.int 3), some (.int j), some (.int n), none], []) (ae_en σ α z t0 ts)
                refine aw_go 2 rfl ⟨trivial, trivial, trivial⟩ ?_
                refine aw_br (c := j < 0) (fun h36 => ?_) (fun h36 => ?_)
                · skip
                  show aw_W _ _ _ _ (61, [some (.ref 46), some (.int 2), some (.int i), some (.int 3), some (.int j), some (.int n), none], []) (ae_en σ α z t0 ts)
                  refine aw_go 1 rfl ⟨trivial, trivial⟩ ?_
                  refine aw_ret rfl rfl trivial ?_
                  rw [pCopyM, if_neg (fun q => q.elim h12 (Int32.not_lt.mpr h17)), if_neg (fun q => q h28), if_neg (fun q => q.2.2.1 h36)]
                  exact ⟨_, rfl, rfl⟩
                · skip
                  show aw_W _ _ _ _ (37, [some (.ref 46), some (.int 2), some (.int i), some (.int 3), some (.int j), some (.int n), none], []) (ae_en σ α z t0 ts)
                  obtain ⟨a, ha, rfl⟩ := nI_of h34
                  obtain ⟨d, hd, rfl⟩ := nI_of h36
                  obtain ⟨b, hb, rfl⟩ := nI_of h32
                  refine aw_go 12 rfl ⟨trivial, trivial, trivial, trivial, trivial, trivial, trivial, trivial, (cI_in (a := 2) rfl (by omega) (by decide)), trivial, trivial, trivial, trivial⟩ ?_
                  show aw_W _ _ _ _ (if (0 : Int32) < (lg_cmp (((nI a).toInt64) + ((nI b).toInt64)) ((α 57 (2 : Int32).toNatClampNeg).toInt64)) then 61 else 49, [some (.ref 46), some (.int 2), some (.int (nI a)), some (.int 3), some (.int (nI d)), some (.int (nI b)), none], []) (ae_en σ α z t0 ts)
                  rw [show (2 : Int32).toNatClampNeg = 2 from cI_cl (a := 2) rfl (by omega)]
                  refine aw_br (c := (0 : Int32) < (lg_cmp (((nI a).toInt64) + ((nI b).toInt64)) ((α 57 2).toInt64))) (fun h48 => ?_) (fun h48 => ?_)
                  · skip
                    show aw_W _ _ _ _ (61, [some (.ref 46), some (.int 2), some (.int (nI a)), some (.int 3), some (.int (nI d)), some (.int (nI b)), none], []) (ae_en σ α z t0 ts)
                    refine aw_go 1 rfl ⟨trivial, trivial⟩ ?_
                    refine aw_ret rfl rfl trivial ?_
                    rw [pCopyM, if_neg (fun q => q.elim h12 (Int32.not_lt.mpr h17)), if_neg (fun q => q h28), if_neg (fun q => by have := q.1.2.2; rw [nI_clamp ha, nI_clamp hb] at this; have h48 := lgG.mp h48; rw [hm h12, lgS ha hb (by omega)] at h48; omega)]
                    exact ⟨_, rfl, rfl⟩
                  · skip
                    show aw_W _ _ _ _ (49, [some (.ref 46), some (.int 2), some (.int (nI a)), some (.int 3), some (.int (nI d)), some (.int (nI b)), none], []) (ae_en σ α z t0 ts)
                    refine aw_go 12 rfl ⟨trivial, trivial, trivial, trivial, trivial, trivial, trivial, trivial, (cI_in (a := 3) rfl (by omega) (by decide)), trivial, trivial, trivial, trivial⟩ ?_
                    show aw_W _ _ _ _ (if (lg_cmp (((nI d).toInt64) + ((nI b).toInt64)) ((α 57 (3 : Int32).toNatClampNeg).toInt64)) ≤ 0 then 63 else 61, [some (.ref 46), some (.int 2), some (.int (nI a)), some (.int 3), some (.int (nI d)), some (.int (nI b)), none], []) (ae_en σ α z t0 ts)
                    rw [show (3 : Int32).toNatClampNeg = 3 from cI_cl (a := 3) rfl (by omega)]
                    refine aw_br (c := (lg_cmp (((nI d).toInt64) + ((nI b).toInt64)) ((α 57 3).toInt64)) ≤ 0) (fun h60 => ?_) (fun h60 => ?_)
                    · skip
                      show aw_W _ _ _ _ (63, [some (.ref 46), some (.int 2), some (.int (nI a)), some (.int 3), some (.int (nI d)), some (.int (nI b)), none], []) (ae_en σ α z t0 ts)
                      refine aw_go 2 rfl ⟨trivial, trivial, trivial⟩ ?_
                      have g1 : ¬ m < a + b := fun q => h48 (lgG.mpr (by rw [hm h12]; exact (lgS ha hb (by omega)).mpr q))
                      have g2 : ¬ m2 < d + b := fun q => absurd h60 (Int32.not_le.mpr (lgG.mpr (by rw [hm2 (Int32.not_lt.mpr h17)]; exact (lgS hd hb (by omega)).mpr q)))
                      rw [pCopyM, if_neg (fun q => q.elim h12 (Int32.not_lt.mpr h17)), if_neg (fun q => q h28), if_pos ⟨⟨h32, h34, by rw [nI_clamp ha, nI_clamp hb]; omega⟩, ⟨h32, h36, by rw [nI_clamp hd, nI_clamp hb]; omega⟩⟩, nI_clamp ha, nI_clamp hb, nI_clamp hd]
                      exact aw_to (lp_cpA_2_3 (mv := α 59) (by omega) (by omega) 0 (Nat.zero_le _)) rfl (by rw [fC_0]; rfl)
                    · skip
                      show aw_W _ _ _ _ (61, [some (.ref 46), some (.int 2), some (.int (nI a)), some (.int 3), some (.int (nI d)), some (.int (nI b)), none], []) (ae_en σ α z t0 ts)
                      refine aw_go 1 rfl ⟨trivial, trivial⟩ ?_
                      refine aw_ret rfl rfl trivial ?_
                      rw [pCopyM, if_neg (fun q => q.elim h12 (Int32.not_lt.mpr h17)), if_neg (fun q => q h28), if_neg (fun q => by have := q.2.2.2; rw [nI_clamp hd, nI_clamp hb] at this; have h60 := lgG.mp (Int32.not_le.mp h60); rw [hm2 (Int32.not_lt.mpr h17), lgS hd hb (by omega)] at h60; omega)]
                      exact ⟨_, rfl, rfl⟩
          · skip
            show aw_W _ _ _ _ (29, [some (.ref 46), some (.int 2), some (.int i), some (.int 3), some (.int j), some (.int n), none], []) (ae_en σ α z t0 ts)
            refine aw_go 1 rfl ⟨trivial, trivial⟩ ?_
            refine aw_ret rfl rfl trivial ?_
            rw [pCopyM, if_neg (fun q => q.elim h12 (Int32.not_lt.mpr h17)), if_pos h28]
            exact ⟨_, rfl, rfl⟩
        · skip
          show aw_W _ _ _ _ (18, [some (.ref 46), some (.int 2), some (.int i), some (.int 3), some (.int j), some (.int n), none], []) (ae_en σ α z t0 ts)
          refine aw_go 1 rfl ⟨trivial, trivial⟩ ?_
          refine aw_ret rfl rfl trivial ?_
          rw [pCopyM, if_pos (Or.inr (Int32.not_le.mp h17))]
          exact ⟨_, rfl, rfl⟩
    · skip
      have h5 := bI_f (Classical.not_not.mp h5)
      show aw_W _ _ _ _ (6, [some (.ref 46), some (.int 2), some (.int i), some (.int 3), some (.int j), some (.int n), none], []) (ae_en σ α z t0 ts)
      exact absurd h5 (by decide)
theorem lp_cpB_3_0 {zd : Nat} {a d b : Nat} {mv : Nat → Int32} (h1 : a + b ≤ 40) (h2 : d + b ≤ 40) (k : Nat) (hk : k ≤ b) : aw_W P (zd) cd_Model_copy (fun r H => ∃ mv : Nat → Int32, r = some (.int (nI b)) ∧ H = ae_en σ (au α [(58, (va_cpy (α 58) (α 58) (40 * 3 + a) (40 * 0 + d) b)), (59, mv)]) z t0 ts) (86, [some (.ref 46), some (.int 3), some (.int (nI a)), some (.int 0), some (.int (nI d)), some (.int (nI b)), some (.int (nI k))], []) (ae_en σ (au α [(58, (va_cpy (α 58) (α 58) (40 * 3 + a) (40 * 0 + d) k)), (59, (fC b (fun k => α 58 (40 * 3 + a + k)) mv))]) z t0 ts) := by
  refine aw_go 3 rfl ⟨trivial, trivial, trivial, trivial⟩ ?_
  refine aw_br (c := (nI b) ≤ (nI k)) (fun h88 => ?_) (fun h88 => ?_)
  · skip
    have h88 := cI_leT (a := b) (b := k) rfl rfl (by omega) (by omega) h88
    show aw_W _ _ _ _ (105, [some (.ref 46), some (.int 3), some (.int (nI a)), some (.int 0), some (.int (nI d)), some (.int (nI b)), some (.int (nI k))], []) (ae_en σ (au α [(58, (va_cpy (α 58) (α 58) (40 * 3 + a) (40 * 0 + d) k)), (59, (fC b (fun k => α 58 (40 * 3 + a + k)) mv))]) z t0 ts)
    have e8 : k = b := by omega
    refine aw_go 1 rfl ⟨trivial, trivial⟩ ?_
    refine aw_ret rfl rfl trivial ?_
    rw [e8]
    exact ⟨_, rfl, rfl⟩
  · skip
    have h88 := cI_leF (a := b) (b := k) rfl rfl (by omega) (by omega) h88
    show aw_W _ _ _ _ (89, [some (.ref 46), some (.int 3), some (.int (nI a)), some (.int 0), some (.int (nI d)), some (.int (nI b)), some (.int (nI k))], []) (ae_en σ (au α [(58, (va_cpy (α 58) (α 58) (40 * 3 + a) (40 * 0 + d) k)), (59, (fC b (fun k => α 58 (40 * 3 + a + k)) mv))]) z t0 ts)
    refine aw_go 16 rfl ⟨trivial, trivial, trivial, trivial, trivial, trivial, trivial, trivial, trivial, trivial, trivial, trivial, (cI_in (a := k) rfl (by omega) (by decide)), (cI_in (a := ((40 * 0) + d) + k) (cI_add (a := (40 * 0) + d) (b := k) (cI_add (a := 40 * 0) (b := d) (cI_mul (a := 40) (b := 0) rfl rfl) rfl) rfl) (by omega) (by decide)), trivial, trivial, trivial⟩ ?_
    show aw_W _ _ _ _ (86, [some (.ref 46), some (.int 3), some (.int (nI a)), some (.int 0), some (.int (nI d)), some (.int (nI b)), some (.int ((nI k) + 1))], []) (ae_en σ (au α [(58, upd (va_cpy (α 58) (α 58) (40 * 3 + a) (40 * 0 + d) k) (((40 * 0) + (nI d)) + (nI k)).toNatClampNeg ((fC b (fun k => α 58 (40 * 3 + a + k)) mv) (nI k).toNatClampNeg)), (59, (fC b (fun k => α 58 (40 * 3 + a + k)) mv))]) z t0 ts)
    rw [show (nI k).toNatClampNeg = k from cI_cl (a := k) rfl (by omega)]
    rw [show (((40 * 0) + (nI d)) + (nI k)).toNatClampNeg = ((40 * 0) + d) + k from cI_cl (a := ((40 * 0) + d) + k) (cI_add (a := (40 * 0) + d) (b := k) (cI_add (a := 40 * 0) (b := d) (cI_mul (a := 40) (b := 0) rfl rfl) rfl) rfl) (by omega)]
    rw [show (nI k) + 1 = nI (k + 1) from (cI_add (a := k) (b := 1) rfl rfl)]
    rw [fC_lt (show k < b by omega), cpy_s]
    exact lp_cpB_3_0 h1 h2 (k + 1) (by omega)
termination_by b - k
decreasing_by all_goals omega
theorem lp_cpA_3_0 {zd : Nat} {a d b : Nat} {mv : Nat → Int32} (h1 : a + b ≤ 40) (h2 : d + b ≤ 40) (k : Nat) (hk : k ≤ b) : aw_W P (zd) cd_Model_copy (fun r H => ∃ mv : Nat → Int32, r = some (.int (nI b)) ∧ H = ae_en σ (au α [(58, (va_cpy (α 58) (α 58) (40 * 3 + a) (40 * 0 + d) b)), (59, mv)]) z t0 ts) (65, [some (.ref 46), some (.int 3), some (.int (nI a)), some (.int 0), some (.int (nI d)), some (.int (nI b)), some (.int (nI k))], []) (ae_en σ (au α [(59, (fC k (fun k => α 58 (40 * 3 + a + k)) mv))]) z t0 ts) := by
  refine aw_go 3 rfl ⟨trivial, trivial, trivial, trivial⟩ ?_
  refine aw_br (c := (nI b) ≤ (nI k)) (fun h67 => ?_) (fun h67 => ?_)
  · skip
    have h67 := cI_leT (a := b) (b := k) rfl rfl (by omega) (by omega) h67
    show aw_W _ _ _ _ (84, [some (.ref 46), some (.int 3), some (.int (nI a)), some (.int 0), some (.int (nI d)), some (.int (nI b)), some (.int (nI k))], []) (ae_en σ (au α [(59, (fC k (fun k => α 58 (40 * 3 + a + k)) mv))]) z t0 ts)
    have e8 : k = b := by omega
    refine aw_go 2 rfl ⟨trivial, trivial, trivial⟩ ?_
    rw [e8]
    exact aw_to (lp_cpB_3_0 h1 h2 0 (Nat.zero_le _)) rfl (by rw [cpy_0]; rfl)
  · skip
    have h67 := cI_leF (a := b) (b := k) rfl rfl (by omega) (by omega) h67
    show aw_W _ _ _ _ (68, [some (.ref 46), some (.int 3), some (.int (nI a)), some (.int 0), some (.int (nI d)), some (.int (nI b)), some (.int (nI k))], []) (ae_en σ (au α [(59, (fC k (fun k => α 58 (40 * 3 + a + k)) mv))]) z t0 ts)
    refine aw_go 16 rfl ⟨trivial, trivial, trivial, trivial, trivial, trivial, trivial, trivial, trivial, trivial, trivial, trivial, (cI_in (a := ((40 * 3) + a) + k) (cI_add (a := (40 * 3) + a) (b := k) (cI_add (a := 40 * 3) (b := a) (cI_mul (a := 40) (b := 3) rfl rfl) rfl) rfl) (by omega) (by decide)), (cI_in (a := k) rfl (by omega) (by decide)), trivial, trivial, trivial⟩ ?_
    show aw_W _ _ _ _ (65, [some (.ref 46), some (.int 3), some (.int (nI a)), some (.int 0), some (.int (nI d)), some (.int (nI b)), some (.int ((nI k) + 1))], []) (ae_en σ (au α [(59, upd (fC k (fun k => α 58 (40 * 3 + a + k)) mv) (nI k).toNatClampNeg (α 58 (((40 * 3) + (nI a)) + (nI k)).toNatClampNeg))]) z t0 ts)
    rw [show (((40 * 3) + (nI a)) + (nI k)).toNatClampNeg = ((40 * 3) + a) + k from cI_cl (a := ((40 * 3) + a) + k) (cI_add (a := (40 * 3) + a) (b := k) (cI_add (a := 40 * 3) (b := a) (cI_mul (a := 40) (b := 3) rfl rfl) rfl) rfl) (by omega)]
    rw [show (nI k).toNatClampNeg = k from cI_cl (a := k) rfl (by omega)]
    rw [show (nI k) + 1 = nI (k + 1) from (cI_add (a := k) (b := 1) rfl rfl)]
    rw [fC_s (X := (fun k => α 58 (40 * 3 + a + k))) rfl]
    exact lp_cpA_3_0 h1 h2 (k + 1) (by omega)
termination_by b - k
decreasing_by all_goals omega
theorem em_copy_3_0 {m m2 : Nat} {i j n : Int32} {zd : Nat} (hm : ¬ α 56 3 < 0 → α 57 3 = nI m) (hm40 : m ≤ 40) (hm2 : ¬ α 56 0 < 0 → α 57 0 = nI m2) (hm240 : m2 ≤ 40) : aw_X P (zd + 3) 175 [.ref 46, .int 3, .int i, .int 0, .int j, .int n] (ae_en σ α z t0 ts) (fun r H => ∃ (mv : Nat → Int32), r = some (.int ((pCopyM 3 0 m m2 i j n (α 56) (α 58)).1)) ∧ H = (ae_en σ (au α [(58, (pCopyM 3 0 m m2 i j n (α 56) (α 58)).2), (59, mv)]) z t0 ts)) := by
  refine aw_ev (cd := cd_Model_copy) rfl rfl rfl ?_
  show aw_W _ _ _ _ (0, [some (.ref 46), some (.int 3), some (.int i), some (.int 0), some (.int j), some (.int n), none], []) (ae_en σ α z t0 ts)
  refine aw_go 1 rfl ⟨trivial, trivial⟩ ?_
  refine aw_callE rfl rfl (ev_Model_isSheet (s := 3)) ?_
  show aw_W _ _ _ _ (2, [some (.ref 46), some (.int 3), some (.int i), some (.int 0), some (.int j), some (.int n), none], [.int (bI (iP 4 3))]) (ae_en σ α z t0 ts)
  refine aw_go 1 rfl ⟨trivial, trivial⟩ ?_
  refine aw_br (c := (bI (iP 4 3)) = 0) (fun h2 => ?_) (fun h2 => ?_)
  · skip
    have h2 := bI_f h2
    show aw_W _ _ _ _ (6, [some (.ref 46), some (.int 3), some (.int i), some (.int 0), some (.int j), some (.int n), none], []) (ae_en σ α z t0 ts)
    exact absurd h2 (by decide)
  · skip
    have h2 := bI_t h2
    show aw_W _ _ _ _ (3, [some (.ref 46), some (.int 3), some (.int i), some (.int 0), some (.int j), some (.int n), none], []) (ae_en σ α z t0 ts)
    refine aw_go 1 rfl ⟨trivial, trivial⟩ ?_
    refine aw_callE rfl rfl (ev_Model_isSheet (s := 0)) ?_
    show aw_W _ _ _ _ (5, [some (.ref 46), some (.int 3), some (.int i), some (.int 0), some (.int j), some (.int n), none], [.int (bI (iP 4 0))]) (ae_en σ α z t0 ts)
    refine aw_go 1 rfl ⟨trivial, trivial⟩ ?_
    refine aw_br (c := ¬ (bI (iP 4 0)) = 0) (fun h5 => ?_) (fun h5 => ?_)
    · skip
      have h5 := bI_t h5
      show aw_W _ _ _ _ (8, [some (.ref 46), some (.int 3), some (.int i), some (.int 0), some (.int j), some (.int n), none], []) (ae_en σ α z t0 ts)
      refine aw_go 5 rfl ⟨trivial, trivial, trivial, (cI_in (a := 3) rfl (by omega) (by decide)), trivial, trivial⟩ ?_
      show aw_W _ _ _ _ (if (α 56 (3 : Int32).toNatClampNeg) < 0 then 18 else 13, [some (.ref 46), some (.int 3), some (.int i), some (.int 0), some (.int j), some (.int n), none], []) (ae_en σ α z t0 ts)
      rw [show (3 : Int32).toNatClampNeg = 3 from cI_cl (a := 3) rfl (by omega)]
      refine aw_br (c := (α 56 3) < 0) (fun h12 => ?_) (fun h12 => ?_)
      · skip
        show aw_W _ _ _ _ (18, [some (.ref 46), some (.int 3), some (.int i), some (.int 0), some (.int j), some (.int n), none], []) (ae_en σ α z t0 ts)
        refine aw_go 1 rfl ⟨trivial, trivial⟩ ?_
        refine aw_ret rfl rfl trivial ?_
        rw [pCopyM, if_pos (Or.inl h12)]
        exact ⟨_, rfl, rfl⟩
      · skip
        show aw_W _ _ _ _ (13, [some (.ref 46), some (.int 3), some (.int i), some (.int 0), some (.int j), some (.int n), none], []) (ae_en σ α z t0 ts)
        refine aw_go 5 rfl ⟨trivial, trivial, trivial, (cI_in (a := 0) rfl (by omega) (by decide)), trivial, trivial⟩ ?_
        show aw_W _ _ _ _ (if (0 : Int32) ≤ (α 56 (0 : Int32).toNatClampNeg) then 20 else 18, [some (.ref 46), some (.int 3), some (.int i), some (.int 0), some (.int j), some (.int n), none], []) (ae_en σ α z t0 ts)
        rw [show (0 : Int32).toNatClampNeg = 0 from cI_cl (a := 0) rfl (by omega)]
        refine aw_br (c := (0 : Int32) ≤ (α 56 0)) (fun h17 => ?_) (fun h17 => ?_)
        · skip
          show aw_W _ _ _ _ (20, [some (.ref 46), some (.int 3), some (.int i), some (.int 0), some (.int j), some (.int n), none], []) (ae_en σ α z t0 ts)
          refine aw_go 9 rfl ⟨trivial, trivial, trivial, (cI_in (a := 3) rfl (by omega) (by decide)), trivial, trivial, trivial, (cI_in (a := 0) rfl (by omega) (by decide)), trivial, trivial⟩ ?_
          show aw_W _ _ _ _ (if (α 56 (3 : Int32).toNatClampNeg) = (α 56 (0 : Int32).toNatClampNeg) then 31 else 29, [some (.ref 46), some (.int 3), some (.int i), some (.int 0), some (.int j), some (.int n), none], []) (ae_en σ α z t0 ts)
          rw [show (3 : Int32).toNatClampNeg = 3 from cI_cl (a := 3) rfl (by omega)]
          rw [show (0 : Int32).toNatClampNeg = 0 from cI_cl (a := 0) rfl (by omega)]
          refine aw_br (c := (α 56 3) = (α 56 0)) (fun h28 => ?_) (fun h28 => ?_)
          · skip
            show aw_W _ _ _ _ (31, [some (.ref 46), some (.int 3), some (.int i), some (.int 0), some (.int j), some (.int n), none], []) (ae_en σ α z t0 ts)
            refine aw_go 2 rfl ⟨trivial, trivial, trivial⟩ ?_
            refine aw_br (c := n < 0) (fun h32 => ?_) (fun h32 => ?_)
            · skip
              show aw_W _ _ _ _ (61, [some (.ref 46), some (.int 3), some (.int i), some (.int 0), some (.int j), some (.int n), none], []) (ae_en σ α z t0 ts)
              refine aw_go 1 rfl ⟨trivial, trivial⟩ ?_
              refine aw_ret rfl rfl trivial ?_
              rw [pCopyM, if_neg (fun q => q.elim h12 (Int32.not_lt.mpr h17)), if_neg (fun q => q h28), if_neg (fun q => q.1.1 h32)]
              exact ⟨_, rfl, rfl⟩
            · skip
              show aw_W _ _ _ _ (33, [some (.ref 46), some (.int 3), some (.int i), some (.int 0), some (.int j), some (.int n), none], []) (ae_en σ α z t0 ts)
              refine aw_go 2 rfl ⟨trivial, trivial, trivial⟩ ?_
              refine aw_br (c := i < 0) (fun h34 => ?_) (fun h34 => ?_)
              · skip
                show aw_W _ _ _ _ (61, [some (.ref 46), some (.int 3), some (.int i), some (.int 0), some (.int j), some (.int n), none], []) (ae_en σ α z t0 ts)
                refine aw_go 1 rfl ⟨trivial, trivial⟩ ?_
                refine aw_ret rfl rfl trivial ?_
                rw [pCopyM, if_neg (fun q => q.elim h12 (Int32.not_lt.mpr h17)), if_neg (fun q => q h28), if_neg (fun q => q.1.2.1 h34)]
                exact ⟨_, rfl, rfl⟩
              · skip
                show aw_W _ _ _ _ (35, [some (.ref 46), some (.int 3), some (.int i), some (.int 0), some (.int j), some (.int n), none], []) (ae_en σ α z t0 ts)
                refine aw_go 2 rfl ⟨trivial, trivial, trivial⟩ ?_
                refine aw_br (c := j < 0) (fun h36 => ?_) (fun h36 => ?_)
                · skip
                  show aw_W _ _ _ _ (61, [some (.ref 46), some (.int 3), some (.int i), some (.int 0), some (.int j), some (.int n), none], []) (ae_en σ α z t0 ts)
                  refine aw_go 1 rfl ⟨trivial, trivial⟩ ?_
                  refine aw_ret rfl rfl trivial ?_
                  rw [pCopyM, if_neg (fun q => q.elim h12 (Int32.not_lt.mpr h17)), if_neg (fun q => q h28), if_neg (fun q => q.2.2.1 h36)]
                  exact ⟨_, rfl, rfl⟩
                · skip
                  show aw_W _ _ _ _ (37, [some (.ref 46), some (.int 3), some (.int i), some (.int 0), some (.int j), some (.int n), none], []) (ae_en σ α z t0 ts)
                  obtain ⟨a, ha, rfl⟩ := nI_of h34
                  obtain ⟨d, hd, rfl⟩ := nI_of h36
                  obtain ⟨b, hb, rfl⟩ := nI_of h32
                  refine aw_go 12 rfl ⟨trivial, trivial, trivial, trivial, trivial, trivial, trivial, trivial, (cI_in (a := 3) rfl (by omega) (by decide)), trivial, trivial, trivial, trivial⟩ ?_
                  show aw_W _ _ _ _ (if (0 : Int32) < (lg_cmp (((nI a).toInt64) + ((nI b).toInt64)) ((α 57 (3 : Int32).toNatClampNeg).toInt64)) then 61 else 49, [some (.ref 46), some (.int 3), some (.int (nI a)), some (.int 0), some (.int (nI d)), some (.int (nI b)), none], []) (ae_en σ α z t0 ts)
                  rw [show (3 : Int32).toNatClampNeg = 3 from cI_cl (a := 3) rfl (by omega)]
                  refine aw_br (c := (0 : Int32) < (lg_cmp (((nI a).toInt64) + ((nI b).toInt64)) ((α 57 3).toInt64))) (fun h48 => ?_) (fun h48 => ?_)
                  · skip
                    show aw_W _ _ _ _ (61, [some (.ref 46), some (.int 3), some (.int (nI a)), some (.int 0), some (.int (nI d)), some (.int (nI b)), none], []) (ae_en σ α z t0 ts)
                    refine aw_go 1 rfl ⟨trivial, trivial⟩ ?_
                    refine aw_ret rfl rfl trivial ?_
                    rw [pCopyM, if_neg (fun q => q.elim h12 (Int32.not_lt.mpr h17)), if_neg (fun q => q h28), if_neg (fun q => by have := q.1.2.2; rw [nI_clamp ha, nI_clamp hb] at this; have h48 := lgG.mp h48; rw [hm h12, lgS ha hb (by omega)] at h48; omega)]
                    exact ⟨_, rfl, rfl⟩
                  · skip
                    show aw_W _ _ _ _ (49, [some (.ref 46), some (.int 3), some (.int (nI a)), some (.int 0), some (.int (nI d)), some (.int (nI b)), none], []) (ae_en σ α z t0 ts)
                    refine aw_go 12 rfl ⟨trivial, trivial, trivial, trivial, trivial, trivial, trivial, trivial, (cI_in (a := 0) rfl (by omega) (by decide)), trivial, trivial, trivial, trivial⟩ ?_
                    show aw_W _ _ _ _ (if (lg_cmp (((nI d).toInt64) + ((nI b).toInt64)) ((α 57 (0 : Int32).toNatClampNeg).toInt64)) ≤ 0 then 63 else 61, [some (.ref 46), some (.int 3), some (.int (nI a)), some (.int 0), some (.int (nI d)), some (.int (nI b)), none], []) (ae_en σ α z t0 ts)
                    rw [show (0 : Int32).toNatClampNeg = 0 from cI_cl (a := 0) rfl (by omega)]
                    refine aw_br (c := (lg_cmp (((nI d).toInt64) + ((nI b).toInt64)) ((α 57 0).toInt64)) ≤ 0) (fun h60 => ?_) (fun h60 => ?_)
                    · skip
                      show aw_W _ _ _ _ (63, [some (.ref 46), some (.int 3), some (.int (nI a)), some (.int 0), some (.int (nI d)), some (.int (nI b)), none], []) (ae_en σ α z t0 ts)
                      refine aw_go 2 rfl ⟨trivial, trivial, trivial⟩ ?_
                      have g1 : ¬ m < a + b := fun q => h48 (lgG.mpr (by rw [hm h12]; exact (lgS ha hb (by omega)).mpr q))
                      have g2 : ¬ m2 < d + b := fun q => absurd h60 (Int32.not_le.mpr (lgG.mpr (by rw [hm2 (Int32.not_lt.mpr h17)]; exact (lgS hd hb (by omega)).mpr q)))
                      rw [pCopyM, if_neg (fun q => q.elim h12 (Int32.not_lt.mpr h17)), if_neg (fun q => q h28), if_pos ⟨⟨h32, h34, by rw [nI_clamp ha, nI_clamp hb]; omega⟩, ⟨h32, h36, by rw [nI_clamp hd, nI_clamp hb]; omega⟩⟩, nI_clamp ha, nI_clamp hb, nI_clamp hd]
                      exact aw_to (lp_cpA_3_0 (mv := α 59) (by omega) (by omega) 0 (Nat.zero_le _)) rfl (by rw [fC_0]; rfl)
                    · skip
                      show aw_W _ _ _ _ (61, [some (.ref 46), some (.int 3), some (.int (nI a)), some (.int 0), some (.int (nI d)), some (.int (nI b)), none], []) (ae_en σ α z t0 ts)
                      refine aw_go 1 rfl ⟨trivial, trivial⟩ ?_
                      refine aw_ret rfl rfl trivial ?_
                      rw [pCopyM, if_neg (fun q => q.elim h12 (Int32.not_lt.mpr h17)), if_neg (fun q => q h28), if_neg (fun q => by have := q.2.2.2; rw [nI_clamp hd, nI_clamp hb] at this; have h60 := lgG.mp (Int32.not_le.mp h60); rw [hm2 (Int32.not_lt.mpr h17), lgS hd hb (by omega)] at h60; omega)]
                      exact ⟨_, rfl, rfl⟩
          · skip
            show aw_W _ _ _ _ (29, [some (.ref 46), some (.int 3), some (.int i), some (.int 0), some (.int j), some (.int n), none], []) (ae_en σ α z t0 ts)
            refine aw_go 1 rfl ⟨trivial, trivial⟩ ?_
            refine aw_ret rfl rfl trivial ?_
            rw [pCopyM, if_neg (fun q => q.elim h12 (Int32.not_lt.mpr h17)), if_pos h28]
            exact ⟨_, rfl, rfl⟩
        · skip
          show aw_W _ _ _ _ (18, [some (.ref 46), some (.int 3), some (.int i), some (.int 0), some (.int j), some (.int n), none], []) (ae_en σ α z t0 ts)
          refine aw_go 1 rfl ⟨trivial, trivial⟩ ?_
          refine aw_ret rfl rfl trivial ?_
          rw [pCopyM, if_pos (Or.inr (Int32.not_le.mp h17))]
          exact ⟨_, rfl, rfl⟩
    · skip
      have h5 := bI_f (Classical.not_not.mp h5)
      show aw_W _ _ _ _ (6, [some (.ref 46), some (.int 3), some (.int i), some (.int 0), some (.int j), some (.int n), none], []) (ae_en σ α z t0 ts)
      exact absurd h5 (by decide)
theorem lp_cpB_3_1 {zd : Nat} {a d b : Nat} {mv : Nat → Int32} (h1 : a + b ≤ 40) (h2 : d + b ≤ 40) (k : Nat) (hk : k ≤ b) : aw_W P (zd) cd_Model_copy (fun r H => ∃ mv : Nat → Int32, r = some (.int (nI b)) ∧ H = ae_en σ (au α [(58, (va_cpy (α 58) (α 58) (40 * 3 + a) (40 * 1 + d) b)), (59, mv)]) z t0 ts) (86, [some (.ref 46), some (.int 3), some (.int (nI a)), some (.int 1), some (.int (nI d)), some (.int (nI b)), some (.int (nI k))], []) (ae_en σ (au α [(58, (va_cpy (α 58) (α 58) (40 * 3 + a) (40 * 1 + d) k)), (59, (fC b (fun k => α 58 (40 * 3 + a + k)) mv))]) z t0 ts) := by
  refine aw_go 3 rfl ⟨trivial, trivial, trivial, trivial⟩ ?_
  refine aw_br (c := (nI b) ≤ (nI k)) (fun h88 => ?_) (fun h88 => ?_)
  · skip
    have h88 := cI_leT (a := b) (b := k) rfl rfl (by omega) (by omega) h88
    show aw_W _ _ _ _ (105, [some (.ref 46), some (.int 3), some (.int (nI a)), some (.int 1), some (.int (nI d)), some (.int (nI b)), some (.int (nI k))], []) (ae_en σ (au α [(58, (va_cpy (α 58) (α 58) (40 * 3 + a) (40 * 1 + d) k)), (59, (fC b (fun k => α 58 (40 * 3 + a + k)) mv))]) z t0 ts)
    have e8 : k = b := by omega
    refine aw_go 1 rfl ⟨trivial, trivial⟩ ?_
    refine aw_ret rfl rfl trivial ?_
    rw [e8]
    exact ⟨_, rfl, rfl⟩
  · skip
    have h88 := cI_leF (a := b) (b := k) rfl rfl (by omega) (by omega) h88
    show aw_W _ _ _ _ (89, [some (.ref 46), some (.int 3), some (.int (nI a)), some (.int 1), some (.int (nI d)), some (.int (nI b)), some (.int (nI k))], []) (ae_en σ (au α [(58, (va_cpy (α 58) (α 58) (40 * 3 + a) (40 * 1 + d) k)), (59, (fC b (fun k => α 58 (40 * 3 + a + k)) mv))]) z t0 ts)
    refine aw_go 16 rfl ⟨trivial, trivial, trivial, trivial, trivial, trivial, trivial, trivial, trivial, trivial, trivial, trivial, (cI_in (a := k) rfl (by omega) (by decide)), (cI_in (a := ((40 * 1) + d) + k) (cI_add (a := (40 * 1) + d) (b := k) (cI_add (a := 40 * 1) (b := d) (cI_mul (a := 40) (b := 1) rfl rfl) rfl) rfl) (by omega) (by decide)), trivial, trivial, trivial⟩ ?_
    show aw_W _ _ _ _ (86, [some (.ref 46), some (.int 3), some (.int (nI a)), some (.int 1), some (.int (nI d)), some (.int (nI b)), some (.int ((nI k) + 1))], []) (ae_en σ (au α [(58, upd (va_cpy (α 58) (α 58) (40 * 3 + a) (40 * 1 + d) k) (((40 * 1) + (nI d)) + (nI k)).toNatClampNeg ((fC b (fun k => α 58 (40 * 3 + a + k)) mv) (nI k).toNatClampNeg)), (59, (fC b (fun k => α 58 (40 * 3 + a + k)) mv))]) z t0 ts)
    rw [show (nI k).toNatClampNeg = k from cI_cl (a := k) rfl (by omega)]
    rw [show (((40 * 1) + (nI d)) + (nI k)).toNatClampNeg = ((40 * 1) + d) + k from cI_cl (a := ((40 * 1) + d) + k) (cI_add (a := (40 * 1) + d) (b := k) (cI_add (a := 40 * 1) (b := d) (cI_mul (a := 40) (b := 1) rfl rfl) rfl) rfl) (by omega)]
    rw [show (nI k) + 1 = nI (k + 1) from (cI_add (a := k) (b := 1) rfl rfl)]
    rw [fC_lt (show k < b by omega), cpy_s]
    exact lp_cpB_3_1 h1 h2 (k + 1) (by omega)
termination_by b - k
decreasing_by all_goals omega
theorem lp_cpA_3_1 {zd : Nat} {a d b : Nat} {mv : Nat → Int32} (h1 : a + b ≤ 40) (h2 : d + b ≤ 40) (k : Nat) (hk : k ≤ b) : aw_W P (zd) cd_Model_copy (fun r H => ∃ mv : Nat → Int32, r = some (.int (nI b)) ∧ H = ae_en σ (au α [(58, (va_cpy (α 58) (α 58) (40 * 3 + a) (40 * 1 + d) b)), (59, mv)]) z t0 ts) (65, [some (.ref 46), some (.int 3), some (.int (nI a)), some (.int 1), some (.int (nI d)), some (.int (nI b)), some (.int (nI k))], []) (ae_en σ (au α [(59, (fC k (fun k => α 58 (40 * 3 + a + k)) mv))]) z t0 ts) := by
  refine aw_go 3 rfl ⟨trivial, trivial, trivial, trivial⟩ ?_
  refine aw_br (c := (nI b) ≤ (nI k)) (fun h67 => ?_) (fun h67 => ?_)
  · skip
    have h67 := cI_leT (a := b) (b := k) rfl rfl (by omega) (by omega) h67
    show aw_W _ _ _ _ (84, [some (.ref 46), some (.int 3), some (.int (nI a)), some (.int 1), some (.int (nI d)), some (.int (nI b)), some (.int (nI k))], []) (ae_en σ (au α [(59, (fC k (fun k => α 58 (40 * 3 + a + k)) mv))]) z t0 ts)
    have e8 : k = b := by omega
    refine aw_go 2 rfl ⟨trivial, trivial, trivial⟩ ?_
    rw [e8]
    exact aw_to (lp_cpB_3_1 h1 h2 0 (Nat.zero_le _)) rfl (by rw [cpy_0]; rfl)
  · skip
    have h67 := cI_leF (a := b) (b := k) rfl rfl (by omega) (by omega) h67
    show aw_W _ _ _ _ (68, [some (.ref 46), some (.int 3), some (.int (nI a)), some (.int 1), some (.int (nI d)), some (.int (nI b)), some (.int (nI k))], []) (ae_en σ (au α [(59, (fC k (fun k => α 58 (40 * 3 + a + k)) mv))]) z t0 ts)
    refine aw_go 16 rfl ⟨trivial, trivial, trivial, trivial, trivial, trivial, trivial, trivial, trivial, trivial, trivial, trivial, (cI_in (a := ((40 * 3) + a) + k) (cI_add (a := (40 * 3) + a) (b := k) (cI_add (a := 40 * 3) (b := a) (cI_mul (a := 40) (b := 3) rfl rfl) rfl) rfl) (by omega) (by decide)), (cI_in (a := k) rfl (by omega) (by decide)), trivial, trivial, trivial⟩ ?_
    show aw_W _ _ _ _ (65, [some (.ref 46), some (.int 3), some (.int (nI a)), some (.int 1), some (.int (nI d)), some (.int (nI b)), some (.int ((nI k) + 1))], []) (ae_en σ (au α [(59, upd (fC k (fun k => α 58 (40 * 3 + a + k)) mv) (nI k).toNatClampNeg (α 58 (((40 * 3) + (nI a)) + (nI k)).toNatClampNeg))]) z t0 ts)
    rw [show (((40 * 3) + (nI a)) + (nI k)).toNatClampNeg = ((40 * 3) + a) + k from cI_cl (a := ((40 * 3) + a) + k) (cI_add (a := (40 * 3) + a) (b := k) (cI_add (a := 40 * 3) (b := a) (cI_mul (a := 40) (b := 3) rfl rfl) rfl) rfl) (by omega)]
    rw [show (nI k).toNatClampNeg = k from cI_cl (a := k) rfl (by omega)]
    rw [show (nI k) + 1 = nI (k + 1) from (cI_add (a := k) (b := 1) rfl rfl)]
    rw [fC_s (X := (fun k => α 58 (40 * 3 + a + k))) rfl]
    exact lp_cpA_3_1 h1 h2 (k + 1) (by omega)
termination_by b - k
decreasing_by all_goals omega
theorem em_copy_3_1 {m m2 : Nat} {i j n : Int32} {zd : Nat} (hm : ¬ α 56 3 < 0 → α 57 3 = nI m) (hm40 : m ≤ 40) (hm2 : ¬ α 56 1 < 0 → α 57 1 = nI m2) (hm240 : m2 ≤ 40) : aw_X P (zd + 3) 175 [.ref 46, .int 3, .int i, .int 1, .int j, .int n] (ae_en σ α z t0 ts) (fun r H => ∃ (mv : Nat → Int32), r = some (.int ((pCopyM 3 1 m m2 i j n (α 56) (α 58)).1)) ∧ H = (ae_en σ (au α [(58, (pCopyM 3 1 m m2 i j n (α 56) (α 58)).2), (59, mv)]) z t0 ts)) := by
  refine aw_ev (cd := cd_Model_copy) rfl rfl rfl ?_
  show aw_W _ _ _ _ (0, [some (.ref 46), some (.int 3), some (.int i), some (.int 1), some (.int j), some (.int n), none], []) (ae_en σ α z t0 ts)
  refine aw_go 1 rfl ⟨trivial, trivial⟩ ?_
  refine aw_callE rfl rfl (ev_Model_isSheet (s := 3)) ?_
  show aw_W _ _ _ _ (2, [some (.ref 46), some (.int 3), some (.int i), some (.int 1), some (.int j), some (.int n), none], [.int (bI (iP 4 3))]) (ae_en σ α z t0 ts)
  refine aw_go 1 rfl ⟨trivial, trivial⟩ ?_
  refine aw_br (c := (bI (iP 4 3)) = 0) (fun h2 => ?_) (fun h2 => ?_)
  · skip
    have h2 := bI_f h2
    show aw_W _ _ _ _ (6, [some (.ref 46), some (.int 3), some (.int i), some (.int 1), some (.int j), some (.int n), none], []) (ae_en σ α z t0 ts)
    exact absurd h2 (by decide)
  · skip
    have h2 := bI_t h2
    show aw_W _ _ _ _ (3, [some (.ref 46), some (.int 3), some (.int i), some (.int 1), some (.int j), some (.int n), none], []) (ae_en σ α z t0 ts)
    refine aw_go 1 rfl ⟨trivial, trivial⟩ ?_
    refine aw_callE rfl rfl (ev_Model_isSheet (s := 1)) ?_
    show aw_W _ _ _ _ (5, [some (.ref 46), some (.int 3), some (.int i), some (.int 1), some (.int j), some (.int n), none], [.int (bI (iP 4 1))]) (ae_en σ α z t0 ts)
    refine aw_go 1 rfl ⟨trivial, trivial⟩ ?_
    refine aw_br (c := ¬ (bI (iP 4 1)) = 0) (fun h5 => ?_) (fun h5 => ?_)
    · skip
      have h5 := bI_t h5
      show aw_W _ _ _ _ (8, [some (.ref 46), some (.int 3), some (.int i), some (.int 1), some (.int j), some (.int n), none], []) (ae_en σ α z t0 ts)
      refine aw_go 5 rfl ⟨trivial, trivial, trivial, (cI_in (a := 3) rfl (by omega) (by decide)), trivial, trivial⟩ ?_
      show aw_W _ _ _ _ (if (α 56 (3 : Int32).toNatClampNeg) < 0 then 18 else 13, [some (.ref 46), some (.int 3), some (.int i), some (.int 1), some (.int j), some (.int n), none], []) (ae_en σ α z t0 ts)
      rw [show (3 : Int32).toNatClampNeg = 3 from cI_cl (a := 3) rfl (by omega)]
      refine aw_br (c := (α 56 3) < 0) (fun h12 => ?_) (fun h12 => ?_)
      · skip
        show aw_W _ _ _ _ (18, [some (.ref 46), some (.int 3), some (.int i), some (.int 1), some (.int j), some (.int n), none], []) (ae_en σ α z t0 ts)
        refine aw_go 1 rfl ⟨trivial, trivial⟩ ?_
        refine aw_ret rfl rfl trivial ?_
        rw [pCopyM, if_pos (Or.inl h12)]
        exact ⟨_, rfl, rfl⟩
      · skip
        show aw_W _ _ _ _ (13, [some (.ref 46), some (.int 3), some (.int i), some (.int 1), some (.int j), some (.int n), none], []) (ae_en σ α z t0 ts)
        refine aw_go 5 rfl ⟨trivial, trivial, trivial, (cI_in (a := 1) rfl (by omega) (by decide)), trivial, trivial⟩ ?_
        show aw_W _ _ _ _ (if (0 : Int32) ≤ (α 56 (1 : Int32).toNatClampNeg) then 20 else 18, [some (.ref 46), some (.int 3), some (.int i), some (.int 1), some (.int j), some (.int n), none], []) (ae_en σ α z t0 ts)
        rw [show (1 : Int32).toNatClampNeg = 1 from cI_cl (a := 1) rfl (by omega)]
        refine aw_br (c := (0 : Int32) ≤ (α 56 1)) (fun h17 => ?_) (fun h17 => ?_)
        · skip
          show aw_W _ _ _ _ (20, [some (.ref 46), some (.int 3), some (.int i), some (.int 1), some (.int j), some (.int n), none], []) (ae_en σ α z t0 ts)
          refine aw_go 9 rfl ⟨trivial, trivial, trivial, (cI_in (a := 3) rfl (by omega) (by decide)), trivial, trivial, trivial, (cI_in (a := 1) rfl (by omega) (by decide)), trivial, trivial⟩ ?_
          show aw_W _ _ _ _ (if (α 56 (3 : Int32).toNatClampNeg) = (α 56 (1 : Int32).toNatClampNeg) then 31 else 29, [some (.ref 46), some (.int 3), some (.int i), some (.int 1), some (.int j), some (.int n), none], []) (ae_en σ α z t0 ts)
          rw [show (3 : Int32).toNatClampNeg = 3 from cI_cl (a := 3) rfl (by omega)]
          rw [show (1 : Int32).toNatClampNeg = 1 from cI_cl (a := 1) rfl (by omega)]
          refine aw_br (c := (α 56 3) = (α 56 1)) (fun h28 => ?_) (fun h28 => ?_)
          · skip
            show aw_W _ _ _ _ (31, [some (.ref 46), some (.int 3), some (.int i), some (.int 1), some (.int j), some (.int n), none], []) (ae_en σ α z t0 ts)
            refine aw_go 2 rfl ⟨trivial, trivial, trivial⟩ ?_
            refine aw_br (c := n < 0) (fun h32 => ?_) (fun h32 => ?_)
            · skip
              show aw_W _ _ _ _ (61, [some (.ref 46), some (.int 3), some (.int i), some (.int 1), some (.int j), some (.int n), none], []) (ae_en σ α z t0 ts)
              refine aw_go 1 rfl ⟨trivial, trivial⟩ ?_
              refine aw_ret rfl rfl trivial ?_
              rw [pCopyM, if_neg (fun q => q.elim h12 (Int32.not_lt.mpr h17)), if_neg (fun q => q h28), if_neg (fun q => q.1.1 h32)]
              exact ⟨_, rfl, rfl⟩
            · skip
              show aw_W _ _ _ _ (33, [some (.ref 46), some (.int 3), some (.int i), some (.int 1), some (.int j), some (.int n), none], []) (ae_en σ α z t0 ts)
              refine aw_go 2 rfl ⟨trivial, trivial, trivial⟩ ?_
              refine aw_br (c := i < 0) (fun h34 => ?_) (fun h34 => ?_)
              · skip
                show aw_W _ _ _ _ (61, [some (.ref 46), some (.int 3), some (.int i), some (.int 1), some (.int j), some (.int n), none], []) (ae_en σ α z t0 ts)
                refine aw_go 1 rfl ⟨trivial, trivial⟩ ?_
                refine aw_ret rfl rfl trivial ?_
                rw [pCopyM, if_neg (fun q => q.elim h12 (Int32.not_lt.mpr h17)), if_neg (fun q => q h28), if_neg (fun q => q.1.2.1 h34)]
                exact ⟨_, rfl, rfl⟩
              · skip
                show aw_W _ _ _ _ (35, [some (.ref 46), some (.int 3), some (.int i), some (.int 1), some (.int j), some (.int n), none], []) (ae_en σ α z t0 ts)
                refine aw_go 2 rfl ⟨trivial, trivial, trivial⟩ ?_
                refine aw_br (c := j < 0) (fun h36 => ?_) (fun h36 => ?_)
                · skip
                  show aw_W _ _ _ _ (61, [some (.ref 46), some (.int 3), some (.int i), some (.int 1), some (.int j), some (.int n), none], []) (ae_en σ α z t0 ts)
                  refine aw_go 1 rfl ⟨trivial, trivial⟩ ?_
                  refine aw_ret rfl rfl trivial ?_
                  rw [pCopyM, if_neg (fun q => q.elim h12 (Int32.not_lt.mpr h17)), if_neg (fun q => q h28), if_neg (fun q => q.2.2.1 h36)]
                  exact ⟨_, rfl, rfl⟩
                · skip
                  show aw_W _ _ _ _ (37, [some (.ref 46), some (.int 3), some (.int i), some (.int 1), some (.int j), some (.int n), none], []) (ae_en σ α z t0 ts)
                  obtain ⟨a, ha, rfl⟩ := nI_of h34
                  obtain ⟨d, hd, rfl⟩ := nI_of h36
                  obtain ⟨b, hb, rfl⟩ := nI_of h32
                  refine aw_go 12 rfl ⟨trivial, trivial, trivial, trivial, trivial, trivial, trivial, trivial, (cI_in (a := 3) rfl (by omega) (by decide)), trivial, trivial, trivial, trivial⟩ ?_
                  show aw_W _ _ _ _ (if (0 : Int32) < (lg_cmp (((nI a).toInt64) + ((nI b).toInt64)) ((α 57 (3 : Int32).toNatClampNeg).toInt64)) then 61 else 49, [some (.ref 46), some (.int 3), some (.int (nI a)), some (.int 1), some (.int (nI d)), some (.int (nI b)), none], []) (ae_en σ α z t0 ts)
                  rw [show (3 : Int32).toNatClampNeg = 3 from cI_cl (a := 3) rfl (by omega)]
                  refine aw_br (c := (0 : Int32) < (lg_cmp (((nI a).toInt64) + ((nI b).toInt64)) ((α 57 3).toInt64))) (fun h48 => ?_) (fun h48 => ?_)
                  · skip
                    show aw_W _ _ _ _ (61, [some (.ref 46), some (.int 3), some (.int (nI a)), some (.int 1), some (.int (nI d)), some (.int (nI b)), none], []) (ae_en σ α z t0 ts)
                    refine aw_go 1 rfl ⟨trivial, trivial⟩ ?_
                    refine aw_ret rfl rfl trivial ?_
                    rw [pCopyM, if_neg (fun q => q.elim h12 (Int32.not_lt.mpr h17)), if_neg (fun q => q h28), if_neg (fun q => by have := q.1.2.2; rw [nI_clamp ha, nI_clamp hb] at this; have h48 := lgG.mp h48; rw [hm h12, lgS ha hb (by omega)] at h48; omega)]
                    exact ⟨_, rfl, rfl⟩
                  · skip
                    show aw_W _ _ _ _ (49, [some (.ref 46), some (.int 3), some (.int (nI a)), some (.int 1), some (.int (nI d)), some (.int (nI b)), none], []) (ae_en σ α z t0 ts)
                    refine aw_go 12 rfl ⟨trivial, trivial, trivial, trivial, trivial, trivial, trivial, trivial, (cI_in (a := 1) rfl (by omega) (by decide)), trivial, trivial, trivial, trivial⟩ ?_
                    show aw_W _ _ _ _ (if (lg_cmp (((nI d).toInt64) + ((nI b).toInt64)) ((α 57 (1 : Int32).toNatClampNeg).toInt64)) ≤ 0 then 63 else 61, [some (.ref 46), some (.int 3), some (.int (nI a)), some (.int 1), some (.int (nI d)), some (.int (nI b)), none], []) (ae_en σ α z t0 ts)
                    rw [show (1 : Int32).toNatClampNeg = 1 from cI_cl (a := 1) rfl (by omega)]
                    refine aw_br (c := (lg_cmp (((nI d).toInt64) + ((nI b).toInt64)) ((α 57 1).toInt64)) ≤ 0) (fun h60 => ?_) (fun h60 => ?_)
                    · skip
                      show aw_W _ _ _ _ (63, [some (.ref 46), some (.int 3), some (.int (nI a)), some (.int 1), some (.int (nI d)), some (.int (nI b)), none], []) (ae_en σ α z t0 ts)
                      refine aw_go 2 rfl ⟨trivial, trivial, trivial⟩ ?_
                      have g1 : ¬ m < a + b := fun q => h48 (lgG.mpr (by rw [hm h12]; exact (lgS ha hb (by omega)).mpr q))
                      have g2 : ¬ m2 < d + b := fun q => absurd h60 (Int32.not_le.mpr (lgG.mpr (by rw [hm2 (Int32.not_lt.mpr h17)]; exact (lgS hd hb (by omega)).mpr q)))
                      rw [pCopyM, if_neg (fun q => q.elim h12 (Int32.not_lt.mpr h17)), if_neg (fun q => q h28), if_pos ⟨⟨h32, h34, by rw [nI_clamp ha, nI_clamp hb]; omega⟩, ⟨h32, h36, by rw [nI_clamp hd, nI_clamp hb]; omega⟩⟩, nI_clamp ha, nI_clamp hb, nI_clamp hd]
                      exact aw_to (lp_cpA_3_1 (mv := α 59) (by omega) (by omega) 0 (Nat.zero_le _)) rfl (by rw [fC_0]; rfl)
                    · skip
                      show aw_W _ _ _ _ (61, [some (.ref 46), some (.int 3), some (.int (nI a)), some (.int 1), some (.int (nI d)), some (.int (nI b)), none], []) (ae_en σ α z t0 ts)
                      refine aw_go 1 rfl ⟨trivial, trivial⟩ ?_
                      refine aw_ret rfl rfl trivial ?_
                      rw [pCopyM, if_neg (fun q => q.elim h12 (Int32.not_lt.mpr h17)), if_neg (fun q => q h28), if_neg (fun q => by have := q.2.2.2; rw [nI_clamp hd, nI_clamp hb] at this; have h60 := lgG.mp (Int32.not_le.mp h60); rw [hm2 (Int32.not_lt.mpr h17), lgS hd hb (by omega)] at h60; omega)]
                      exact ⟨_, rfl, rfl⟩
          · skip
            show aw_W _ _ _ _ (29, [some (.ref 46), some (.int 3), some (.int i), some (.int 1), some (.int j), some (.int n), none], []) (ae_en σ α z t0 ts)
            refine aw_go 1 rfl ⟨trivial, trivial⟩ ?_
            refine aw_ret rfl rfl trivial ?_
            rw [pCopyM, if_neg (fun q => q.elim h12 (Int32.not_lt.mpr h17)), if_pos h28]
            exact ⟨_, rfl, rfl⟩
        · skip
          show aw_W _ _ _ _ (18, [some (.ref 46), some (.int 3), some (.int i), some (.int 1), some (.int j), some (.int n), none], []) (ae_en σ α z t0 ts)
          refine aw_go 1 rfl ⟨trivial, trivial⟩ ?_
          refine aw_ret rfl rfl trivial ?_
          rw [pCopyM, if_pos (Or.inr (Int32.not_le.mp h17))]
          exact ⟨_, rfl, rfl⟩
    · skip
      have h5 := bI_f (Classical.not_not.mp h5)
      show aw_W _ _ _ _ (6, [some (.ref 46), some (.int 3), some (.int i), some (.int 1), some (.int j), some (.int n), none], []) (ae_en σ α z t0 ts)
      exact absurd h5 (by decide)
theorem lp_cpB_3_2 {zd : Nat} {a d b : Nat} {mv : Nat → Int32} (h1 : a + b ≤ 40) (h2 : d + b ≤ 40) (k : Nat) (hk : k ≤ b) : aw_W P (zd) cd_Model_copy (fun r H => ∃ mv : Nat → Int32, r = some (.int (nI b)) ∧ H = ae_en σ (au α [(58, (va_cpy (α 58) (α 58) (40 * 3 + a) (40 * 2 + d) b)), (59, mv)]) z t0 ts) (86, [some (.ref 46), some (.int 3), some (.int (nI a)), some (.int 2), some (.int (nI d)), some (.int (nI b)), some (.int (nI k))], []) (ae_en σ (au α [(58, (va_cpy (α 58) (α 58) (40 * 3 + a) (40 * 2 + d) k)), (59, (fC b (fun k => α 58 (40 * 3 + a + k)) mv))]) z t0 ts) := by
  refine aw_go 3 rfl ⟨trivial, trivial, trivial, trivial⟩ ?_
  refine aw_br (c := (nI b) ≤ (nI k)) (fun h88 => ?_) (fun h88 => ?_)
  · skip
    have h88 := cI_leT (a := b) (b := k) rfl rfl (by omega) (by omega) h88
    show aw_W _ _ _ _ (105, [some (.ref 46), some (.int 3), some (.int (nI a)), some (.int 2), some (.int (nI d)), some (.int (nI b)), some (.int (nI k))], []) (ae_en σ (au α [(58, (va_cpy (α 58) (α 58) (40 * 3 + a) (40 * 2 + d) k)), (59, (fC b (fun k => α 58 (40 * 3 + a + k)) mv))]) z t0 ts)
    have e8 : k = b := by omega
    refine aw_go 1 rfl ⟨trivial, trivial⟩ ?_
    refine aw_ret rfl rfl trivial ?_
    rw [e8]
    exact ⟨_, rfl, rfl⟩
  · skip
    have h88 := cI_leF (a := b) (b := k) rfl rfl (by omega) (by omega) h88
    show aw_W _ _ _ _ (89, [some (.ref 46), some (.int 3), some (.int (nI a)), some (.int 2), some (.int (nI d)), some (.int (nI b)), some (.int (nI k))], []) (ae_en σ (au α [(58, (va_cpy (α 58) (α 58) (40 * 3 + a) (40 * 2 + d) k)), (59, (fC b (fun k => α 58 (40 * 3 + a + k)) mv))]) z t0 ts)
    refine aw_go 16 rfl ⟨trivial, trivial, trivial, trivial, trivial, trivial, trivial, trivial, trivial, trivial, trivial, trivial, (cI_in (a := k) rfl (by omega) (by decide)), (cI_in (a := ((40 * 2) + d) + k) (cI_add (a := (40 * 2) + d) (b := k) (cI_add (a := 40 * 2) (b := d) (cI_mul (a := 40) (b := 2) rfl rfl) rfl) rfl) (by omega) (by decide)), trivial, trivial, trivial⟩ ?_
    show aw_W _ _ _ _ (86, [some (.ref 46), some (.int 3), some (.int (nI a)), some (.int 2), some (.int (nI d)), some (.int (nI b)), some (.int ((nI k) + 1))], []) (ae_en σ (au α [(58, upd (va_cpy (α 58) (α 58) (40 * 3 + a) (40 * 2 + d) k) (((40 * 2) + (nI d)) + (nI k)).toNatClampNeg ((fC b (fun k => α 58 (40 * 3 + a + k)) mv) (nI k).toNatClampNeg)), (59, (fC b (fun k => α 58 (40 * 3 + a + k)) mv))]) z t0 ts)
    rw [show (nI k).toNatClampNeg = k from cI_cl (a := k) rfl (by omega)]
    rw [show (((40 * 2) + (nI d)) + (nI k)).toNatClampNeg = ((40 * 2) + d) + k from cI_cl (a := ((40 * 2) + d) + k) (cI_add (a := (40 * 2) + d) (b := k) (cI_add (a := 40 * 2) (b := d) (cI_mul (a := 40) (b := 2) rfl rfl) rfl) rfl) (by omega)]
    rw [show (nI k) + 1 = nI (k + 1) from (cI_add (a := k) (b := 1) rfl rfl)]
    rw [fC_lt (show k < b by omega), cpy_s]
    exact lp_cpB_3_2 h1 h2 (k + 1) (by omega)
termination_by b - k
decreasing_by all_goals omega
theorem lp_cpA_3_2 {zd : Nat} {a d b : Nat} {mv : Nat → Int32} (h1 : a + b ≤ 40) (h2 : d + b ≤ 40) (k : Nat) (hk : k ≤ b) : aw_W P (zd) cd_Model_copy (fun r H => ∃ mv : Nat → Int32, r = some (.int (nI b)) ∧ H = ae_en σ (au α [(58, (va_cpy (α 58) (α 58) (40 * 3 + a) (40 * 2 + d) b)), (59, mv)]) z t0 ts) (65, [some (.ref 46), some (.int 3), some (.int (nI a)), some (.int 2), some (.int (nI d)), some (.int (nI b)), some (.int (nI k))], []) (ae_en σ (au α [(59, (fC k (fun k => α 58 (40 * 3 + a + k)) mv))]) z t0 ts) := by
  refine aw_go 3 rfl ⟨trivial, trivial, trivial, trivial⟩ ?_
  refine aw_br (c := (nI b) ≤ (nI k)) (fun h67 => ?_) (fun h67 => ?_)
  · skip
    have h67 := cI_leT (a := b) (b := k) rfl rfl (by omega) (by omega) h67
    show aw_W _ _ _ _ (84, [some (.ref 46), some (.int 3), some (.int (nI a)), some (.int 2), some (.int (nI d)), some (.int (nI b)), some (.int (nI k))], []) (ae_en σ (au α [(59, (fC k (fun k => α 58 (40 * 3 + a + k)) mv))]) z t0 ts)
    have e8 : k = b := by omega
    refine aw_go 2 rfl ⟨trivial, trivial, trivial⟩ ?_
    rw [e8]
    exact aw_to (lp_cpB_3_2 h1 h2 0 (Nat.zero_le _)) rfl (by rw [cpy_0]; rfl)
  · skip
    have h67 := cI_leF (a := b) (b := k) rfl rfl (by omega) (by omega) h67
    show aw_W _ _ _ _ (68, [some (.ref 46), some (.int 3), some (.int (nI a)), some (.int 2), some (.int (nI d)), some (.int (nI b)), some (.int (nI k))], []) (ae_en σ (au α [(59, (fC k (fun k => α 58 (40 * 3 + a + k)) mv))]) z t0 ts)
    refine aw_go 16 rfl ⟨trivial, trivial, trivial, trivial, trivial, trivial, trivial, trivial, trivial, trivial, trivial, trivial, (cI_in (a := ((40 * 3) + a) + k) (cI_add (a := (40 * 3) + a) (b := k) (cI_add (a := 40 * 3) (b := a) (cI_mul (a := 40) (b := 3) rfl rfl) rfl) rfl) (by omega) (by decide)), (cI_in (a := k) rfl (by omega) (by decide)), trivial, trivial, trivial⟩ ?_
    show aw_W _ _ _ _ (65, [some (.ref 46), some (.int 3), some (.int (nI a)), some (.int 2), some (.int (nI d)), some (.int (nI b)), some (.int ((nI k) + 1))], []) (ae_en σ (au α [(59, upd (fC k (fun k => α 58 (40 * 3 + a + k)) mv) (nI k).toNatClampNeg (α 58 (((40 * 3) + (nI a)) + (nI k)).toNatClampNeg))]) z t0 ts)
    rw [show (((40 * 3) + (nI a)) + (nI k)).toNatClampNeg = ((40 * 3) + a) + k from cI_cl (a := ((40 * 3) + a) + k) (cI_add (a := (40 * 3) + a) (b := k) (cI_add (a := 40 * 3) (b := a) (cI_mul (a := 40) (b := 3) rfl rfl) rfl) rfl) (by omega)]
    rw [show (nI k).toNatClampNeg = k from cI_cl (a := k) rfl (by omega)]
    rw [show (nI k) + 1 = nI (k + 1) from (cI_add (a := k) (b := 1) rfl rfl)]
    rw [fC_s (X := (fun k => α 58 (40 * 3 + a + k))) rfl]
    exact lp_cpA_3_2 h1 h2 (k + 1) (by omega)
termination_by b - k
decreasing_by all_goals omega
theorem em_copy_3_2 {m m2 : Nat} {i j n : Int32} {zd : Nat} (hm : ¬ α 56 3 < 0 → α 57 3 = nI m) (hm40 : m ≤ 40) (hm2 : ¬ α 56 2 < 0 → α 57 2 = nI m2) (hm240 : m2 ≤ 40) : aw_X P (zd + 3) 175 [.ref 46, .int 3, .int i, .int 2, .int j, .int n] (ae_en σ α z t0 ts) (fun r H => ∃ (mv : Nat → Int32), r = some (.int ((pCopyM 3 2 m m2 i j n (α 56) (α 58)).1)) ∧ H = (ae_en σ (au α [(58, (pCopyM 3 2 m m2 i j n (α 56) (α 58)).2), (59, mv)]) z t0 ts)) := by
  refine aw_ev (cd := cd_Model_copy) rfl rfl rfl ?_
  show aw_W _ _ _ _ (0, [some (.ref 46), some (.int 3), some (.int i), some (.int 2), some (.int j), some (.int n), none], []) (ae_en σ α z t0 ts)
  refine aw_go 1 rfl ⟨trivial, trivial⟩ ?_
  refine aw_callE rfl rfl (ev_Model_isSheet (s := 3)) ?_
  show aw_W _ _ _ _ (2, [some (.ref 46), some (.int 3), some (.int i), some (.int 2), some (.int j), some (.int n), none], [.int (bI (iP 4 3))]) (ae_en σ α z t0 ts)
  refine aw_go 1 rfl ⟨trivial, trivial⟩ ?_
  refine aw_br (c := (bI (iP 4 3)) = 0) (fun h2 => ?_) (fun h2 => ?_)
  · skip
    have h2 := bI_f h2
    show aw_W _ _ _ _ (6, [some (.ref 46), some (.int 3), some (.int i), some (.int 2), some (.int j), some (.int n), none], []) (ae_en σ α z t0 ts)
    exact absurd h2 (by decide)
  · skip
    have h2 := bI_t h2
    show aw_W _ _ _ _ (3, [some (.ref 46), some (.int 3), some (.int i), some (.int 2), some (.int j), some (.int n), none], []) (ae_en σ α z t0 ts)
    refine aw_go 1 rfl ⟨trivial, trivial⟩ ?_
    refine aw_callE rfl rfl (ev_Model_isSheet (s := 2)) ?_
    show aw_W _ _ _ _ (5, [some (.ref 46), some (.int 3), some (.int i), some (.int 2), some (.int j), some (.int n), none], [.int (bI (iP 4 2))]) (ae_en σ α z t0 ts)
    refine aw_go 1 rfl ⟨trivial, trivial⟩ ?_
    refine aw_br (c := ¬ (bI (iP 4 2)) = 0) (fun h5 => ?_) (fun h5 => ?_)
    · skip
      have h5 := bI_t h5
      show aw_W _ _ _ _ (8, [some (.ref 46), some (.int 3), some (.int i), some (.int 2), some (.int j), some (.int n), none], []) (ae_en σ α z t0 ts)
      refine aw_go 5 rfl ⟨trivial, trivial, trivial, (cI_in (a := 3) rfl (by omega) (by decide)), trivial, trivial⟩ ?_
      show aw_W _ _ _ _ (if (α 56 (3 : Int32).toNatClampNeg) < 0 then 18 else 13, [some (.ref 46), some (.int 3), some (.int i), some (.int 2), some (.int j), some (.int n), none], []) (ae_en σ α z t0 ts)
      rw [show (3 : Int32).toNatClampNeg = 3 from cI_cl (a := 3) rfl (by omega)]
      refine aw_br (c := (α 56 3) < 0) (fun h12 => ?_) (fun h12 => ?_)
      · skip
        show aw_W _ _ _ _ (18, [some (.ref 46), some (.int 3), some (.int i), some (.int 2), some (.int j), some (.int n), none], []) (ae_en σ α z t0 ts)
        refine aw_go 1 rfl ⟨trivial, trivial⟩ ?_
        refine aw_ret rfl rfl trivial ?_
        rw [pCopyM, if_pos (Or.inl h12)]
        exact ⟨_, rfl, rfl⟩
      · skip
        show aw_W _ _ _ _ (13, [some (.ref 46), some (.int 3), some (.int i), some (.int 2), some (.int j), some (.int n), none], []) (ae_en σ α z t0 ts)
        refine aw_go 5 rfl ⟨trivial, trivial, trivial, (cI_in (a := 2) rfl (by omega) (by decide)), trivial, trivial⟩ ?_
        show aw_W _ _ _ _ (if (0 : Int32) ≤ (α 56 (2 : Int32).toNatClampNeg) then 20 else 18, [some (.ref 46), some (.int 3), some (.int i), some (.int 2), some (.int j), some (.int n), none], []) (ae_en σ α z t0 ts)
        rw [show (2 : Int32).toNatClampNeg = 2 from cI_cl (a := 2) rfl (by omega)]
        refine aw_br (c := (0 : Int32) ≤ (α 56 2)) (fun h17 => ?_) (fun h17 => ?_)
        · skip
          show aw_W _ _ _ _ (20, [some (.ref 46), some (.int 3), some (.int i), some (.int 2), some (.int j), some (.int n), none], []) (ae_en σ α z t0 ts)
          refine aw_go 9 rfl ⟨trivial, trivial, trivial, (cI_in (a := 3) rfl (by omega) (by decide)), trivial, trivial, trivial, (cI_in (a := 2) rfl (by omega) (by decide)), trivial, trivial⟩ ?_
          show aw_W _ _ _ _ (if (α 56 (3 : Int32).toNatClampNeg) = (α 56 (2 : Int32).toNatClampNeg) then 31 else 29, [some (.ref 46), some (.int 3), some (.int i), some (.int 2), some (.int j), some (.int n), none], []) (ae_en σ α z t0 ts)
          rw [show (3 : Int32).toNatClampNeg = 3 from cI_cl (a := 3) rfl (by omega)]
          rw [show (2 : Int32).toNatClampNeg = 2 from cI_cl (a := 2) rfl (by omega)]
          refine aw_br (c := (α 56 3) = (α 56 2)) (fun h28 => ?_) (fun h28 => ?_)
          · skip
            show aw_W _ _ _ _ (31, [some (.ref 46), some (.int 3), some (.int i), some (.int 2), some (.int j), some (.int n), none], []) (ae_en σ α z t0 ts)
            refine aw_go 2 rfl ⟨trivial, trivial, trivial⟩ ?_
            refine aw_br (c := n < 0) (fun h32 => ?_) (fun h32 => ?_)
            · skip
              show aw_W _ _ _ _ (61, [some (.ref 46), some (.int 3), some (.int i), some (.int 2), some (.int j), some (.int n), none], []) (ae_en σ α z t0 ts)
              refine aw_go 1 rfl ⟨trivial, trivial⟩ ?_
              refine aw_ret rfl rfl trivial ?_
              rw [pCopyM, if_neg (fun q => q.elim h12 (Int32.not_lt.mpr h17)), if_neg (fun q => q h28), if_neg (fun q => q.1.1 h32)]
              exact ⟨_, rfl, rfl⟩
            · skip
              show aw_W _ _ _ _ (33, [some (.ref 46), some (.int 3), some (.int i), some (.int 2), some (.int j), some (.int n), none], []) (ae_en σ α z t0 ts)
              refine aw_go 2 rfl ⟨trivial, trivial, trivial⟩ ?_
              refine aw_br (c := i < 0) (fun h34 => ?_) (fun h34 => ?_)
              · skip
                show aw_W _ _ _ _ (61, [some (.ref 46), some (.int 3), some (.int i), some (.int 2), some (.int j), some (.int n), none], []) (ae_en σ α z t0 ts)
                refine aw_go 1 rfl ⟨trivial, trivial⟩ ?_
                refine aw_ret rfl rfl trivial ?_
                rw [pCopyM, if_neg (fun q => q.elim h12 (Int32.not_lt.mpr h17)), if_neg (fun q => q h28), if_neg (fun q => q.1.2.1 h34)]
                exact ⟨_, rfl, rfl⟩
              · skip
                show aw_W _ _ _ _ (35, [some (.ref 46), some (.int 3), some (.int i), some (.int 2), some (.int j), some (.int n), none], []) (ae_en σ α z t0 ts)
                refine aw_go 2 rfl ⟨trivial, trivial, trivial⟩ ?_
                refine aw_br (c := j < 0) (fun h36 => ?_) (fun h36 => ?_)
                · skip
                  show aw_W _ _ _ _ (61, [some (.ref 46), some (.int 3), some (.int i), some (.int 2), some (.int j), some (.int n), none], []) (ae_en σ α z t0 ts)
                  refine aw_go 1 rfl ⟨trivial, trivial⟩ ?_
                  refine aw_ret rfl rfl trivial ?_
                  rw [pCopyM, if_neg (fun q => q.elim h12 (Int32.not_lt.mpr h17)), if_neg (fun q => q h28), if_neg (fun q => q.2.2.1 h36)]
                  exact ⟨_, rfl, rfl⟩
                · skip
                  show aw_W _ _ _ _ (37, [some (.ref 46), some (.int 3), some (.int i), some (.int 2), some (.int j), some (.int n), none], []) (ae_en σ α z t0 ts)
                  obtain ⟨a, ha, rfl⟩ := nI_of h34
                  obtain ⟨d, hd, rfl⟩ := nI_of h36
                  obtain ⟨b, hb, rfl⟩ := nI_of h32
                  refine aw_go 12 rfl ⟨trivial, trivial, trivial, trivial, trivial, trivial, trivial, trivial, (cI_in (a := 3) rfl (by omega) (by decide)), trivial, trivial, trivial, trivial⟩ ?_
                  show aw_W _ _ _ _ (if (0 : Int32) < (lg_cmp (((nI a).toInt64) + ((nI b).toInt64)) ((α 57 (3 : Int32).toNatClampNeg).toInt64)) then 61 else 49, [some (.ref 46), some (.int 3), some (.int (nI a)), some (.int 2), some (.int (nI d)), some (.int (nI b)), none], []) (ae_en σ α z t0 ts)
                  rw [show (3 : Int32).toNatClampNeg = 3 from cI_cl (a := 3) rfl (by omega)]
                  refine aw_br (c := (0 : Int32) < (lg_cmp (((nI a).toInt64) + ((nI b).toInt64)) ((α 57 3).toInt64))) (fun h48 => ?_) (fun h48 => ?_)
                  · skip
                    show aw_W _ _ _ _ (61, [some (.ref 46), some (.int 3), some (.int (nI a)), some (.int 2), some (.int (nI d)), some (.int (nI b)), none], []) (ae_en σ α z t0 ts)
                    refine aw_go 1 rfl ⟨trivial, trivial⟩ ?_
                    refine aw_ret rfl rfl trivial ?_
                    rw [pCopyM, if_neg (fun q => q.elim h12 (Int32.not_lt.mpr h17)), if_neg (fun q => q h28), if_neg (fun q => by have := q.1.2.2; rw [nI_clamp ha, nI_clamp hb] at this; have h48 := lgG.mp h48; rw [hm h12, lgS ha hb (by omega)] at h48; omega)]
                    exact ⟨_, rfl, rfl⟩
                  · skip
                    show aw_W _ _ _ _ (49, [some (.ref 46), some (.int 3), some (.int (nI a)), some (.int 2), some (.int (nI d)), some (.int (nI b)), none], []) (ae_en σ α z t0 ts)
                    refine aw_go 12 rfl ⟨trivial, trivial, trivial, trivial, trivial, trivial, trivial, trivial, (cI_in (a := 2) rfl (by omega) (by decide)), trivial, trivial, trivial, trivial⟩ ?_
                    show aw_W _ _ _ _ (if (lg_cmp (((nI d).toInt64) + ((nI b).toInt64)) ((α 57 (2 : Int32).toNatClampNeg).toInt64)) ≤ 0 then 63 else 61, [some (.ref 46), some (.int 3), some (.int (nI a)), some (.int 2), some (.int (nI d)), some (.int (nI b)), none], []) (ae_en σ α z t0 ts)
                    rw [show (2 : Int32).toNatClampNeg = 2 from cI_cl (a := 2) rfl (by omega)]
                    refine aw_br (c := (lg_cmp (((nI d).toInt64) + ((nI b).toInt64)) ((α 57 2).toInt64)) ≤ 0) (fun h60 => ?_) (fun h60 => ?_)
                    · skip
                      show aw_W _ _ _ _ (63, [some (.ref 46), some (.int 3), some (.int (nI a)), some (.int 2), some (.int (nI d)), some (.int (nI b)), none], []) (ae_en σ α z t0 ts)
                      refine aw_go 2 rfl ⟨trivial, trivial, trivial⟩ ?_
                      have g1 : ¬ m < a + b := fun q => h48 (lgG.mpr (by rw [hm h12]; exact (lgS ha hb (by omega)).mpr q))
                      have g2 : ¬ m2 < d + b := fun q => absurd h60 (Int32.not_le.mpr (lgG.mpr (by rw [hm2 (Int32.not_lt.mpr h17)]; exact (lgS hd hb (by omega)).mpr q)))
                      rw [pCopyM, if_neg (fun q => q.elim h12 (Int32.not_lt.mpr h17)), if_neg (fun q => q h28), if_pos ⟨⟨h32, h34, by rw [nI_clamp ha, nI_clamp hb]; omega⟩, ⟨h32, h36, by rw [nI_clamp hd, nI_clamp hb]; omega⟩⟩, nI_clamp ha, nI_clamp hb, nI_clamp hd]
                      exact aw_to (lp_cpA_3_2 (mv := α 59) (by omega) (by omega) 0 (Nat.zero_le _)) rfl (by rw [fC_0]; rfl)
                    · skip
                      show aw_W _ _ _ _ (61, [some (.ref 46), some (.int 3), some (.int (nI a)), some (.int 2), some (.int (nI d)), some (.int (nI b)), none], []) (ae_en σ α z t0 ts)
                      refine aw_go 1 rfl ⟨trivial, trivial⟩ ?_
                      refine aw_ret rfl rfl trivial ?_
                      rw [pCopyM, if_neg (fun q => q.elim h12 (Int32.not_lt.mpr h17)), if_neg (fun q => q h28), if_neg (fun q => by have := q.2.2.2; rw [nI_clamp hd, nI_clamp hb] at this; have h60 := lgG.mp (Int32.not_le.mp h60); rw [hm2 (Int32.not_lt.mpr h17), lgS hd hb (by omega)] at h60; omega)]
                      exact ⟨_, rfl, rfl⟩
          · skip
            show aw_W _ _ _ _ (29, [some (.ref 46), some (.int 3), some (.int i), some (.int 2), some (.int j), some (.int n), none], []) (ae_en σ α z t0 ts)
            refine aw_go 1 rfl ⟨trivial, trivial⟩ ?_
            refine aw_ret rfl rfl trivial ?_
            rw [pCopyM, if_neg (fun q => q.elim h12 (Int32.not_lt.mpr h17)), if_pos h28]
            exact ⟨_, rfl, rfl⟩
        · skip
          show aw_W _ _ _ _ (18, [some (.ref 46), some (.int 3), some (.int i), some (.int 2), some (.int j), some (.int n), none], []) (ae_en σ α z t0 ts)
          refine aw_go 1 rfl ⟨trivial, trivial⟩ ?_
          refine aw_ret rfl rfl trivial ?_
          rw [pCopyM, if_pos (Or.inr (Int32.not_le.mp h17))]
          exact ⟨_, rfl, rfl⟩
    · skip
      have h5 := bI_f (Classical.not_not.mp h5)
      show aw_W _ _ _ _ (6, [some (.ref 46), some (.int 3), some (.int i), some (.int 2), some (.int j), some (.int n), none], []) (ae_en σ α z t0 ts)
      exact absurd h5 (by decide)
theorem lp_cpB_3_3 {zd : Nat} {a d b : Nat} {mv : Nat → Int32} (h1 : a + b ≤ 40) (h2 : d + b ≤ 40) (k : Nat) (hk : k ≤ b) : aw_W P (zd) cd_Model_copy (fun r H => ∃ mv : Nat → Int32, r = some (.int (nI b)) ∧ H = ae_en σ (au α [(58, (va_cpy (α 58) (α 58) (40 * 3 + a) (40 * 3 + d) b)), (59, mv)]) z t0 ts) (86, [some (.ref 46), some (.int 3), some (.int (nI a)), some (.int 3), some (.int (nI d)), some (.int (nI b)), some (.int (nI k))], []) (ae_en σ (au α [(58, (va_cpy (α 58) (α 58) (40 * 3 + a) (40 * 3 + d) k)), (59, (fC b (fun k => α 58 (40 * 3 + a + k)) mv))]) z t0 ts) := by
  refine aw_go 3 rfl ⟨trivial, trivial, trivial, trivial⟩ ?_
  refine aw_br (c := (nI b) ≤ (nI k)) (fun h88 => ?_) (fun h88 => ?_)
  · skip
    have h88 := cI_leT (a := b) (b := k) rfl rfl (by omega) (by omega) h88
    show aw_W _ _ _ _ (105, [some (.ref 46), some (.int 3), some (.int (nI a)), some (.int 3), some (.int (nI d)), some (.int (nI b)), some (.int (nI k))], []) (ae_en σ (au α [(58, (va_cpy (α 58) (α 58) (40 * 3 + a) (40 * 3 + d) k)), (59, (fC b (fun k => α 58 (40 * 3 + a + k)) mv))]) z t0 ts)
    have e8 : k = b := by omega
    refine aw_go 1 rfl ⟨trivial, trivial⟩ ?_
    refine aw_ret rfl rfl trivial ?_
    rw [e8]
    exact ⟨_, rfl, rfl⟩
  · skip
    have h88 := cI_leF (a := b) (b := k) rfl rfl (by omega) (by omega) h88
    show aw_W _ _ _ _ (89, [some (.ref 46), some (.int 3), some (.int (nI a)), some (.int 3), some (.int (nI d)), some (.int (nI b)), some (.int (nI k))], []) (ae_en σ (au α [(58, (va_cpy (α 58) (α 58) (40 * 3 + a) (40 * 3 + d) k)), (59, (fC b (fun k => α 58 (40 * 3 + a + k)) mv))]) z t0 ts)
    refine aw_go 16 rfl ⟨trivial, trivial, trivial, trivial, trivial, trivial, trivial, trivial, trivial, trivial, trivial, trivial, (cI_in (a := k) rfl (by omega) (by decide)), (cI_in (a := ((40 * 3) + d) + k) (cI_add (a := (40 * 3) + d) (b := k) (cI_add (a := 40 * 3) (b := d) (cI_mul (a := 40) (b := 3) rfl rfl) rfl) rfl) (by omega) (by decide)), trivial, trivial, trivial⟩ ?_
    show aw_W _ _ _ _ (86, [some (.ref 46), some (.int 3), some (.int (nI a)), some (.int 3), some (.int (nI d)), some (.int (nI b)), some (.int ((nI k) + 1))], []) (ae_en σ (au α [(58, upd (va_cpy (α 58) (α 58) (40 * 3 + a) (40 * 3 + d) k) (((40 * 3) + (nI d)) + (nI k)).toNatClampNeg ((fC b (fun k => α 58 (40 * 3 + a + k)) mv) (nI k).toNatClampNeg)), (59, (fC b (fun k => α 58 (40 * 3 + a + k)) mv))]) z t0 ts)
    rw [show (nI k).toNatClampNeg = k from cI_cl (a := k) rfl (by omega)]
    rw [show (((40 * 3) + (nI d)) + (nI k)).toNatClampNeg = ((40 * 3) + d) + k from cI_cl (a := ((40 * 3) + d) + k) (cI_add (a := (40 * 3) + d) (b := k) (cI_add (a := 40 * 3) (b := d) (cI_mul (a := 40) (b := 3) rfl rfl) rfl) rfl) (by omega)]
    rw [show (nI k) + 1 = nI (k + 1) from (cI_add (a := k) (b := 1) rfl rfl)]
    rw [fC_lt (show k < b by omega), cpy_s]
    exact lp_cpB_3_3 h1 h2 (k + 1) (by omega)
termination_by b - k
decreasing_by all_goals omega
theorem lp_cpA_3_3 {zd : Nat} {a d b : Nat} {mv : Nat → Int32} (h1 : a + b ≤ 40) (h2 : d + b ≤ 40) (k : Nat) (hk : k ≤ b) : aw_W P (zd) cd_Model_copy (fun r H => ∃ mv : Nat → Int32, r = some (.int (nI b)) ∧ H = ae_en σ (au α [(58, (va_cpy (α 58) (α 58) (40 * 3 + a) (40 * 3 + d) b)), (59, mv)]) z t0 ts) (65, [some (.ref 46), some (.int 3), some (.int (nI a)), some (.int 3), some (.int (nI d)), some (.int (nI b)), some (.int (nI k))], []) (ae_en σ (au α [(59, (fC k (fun k => α 58 (40 * 3 + a + k)) mv))]) z t0 ts) := by
  refine aw_go 3 rfl ⟨trivial, trivial, trivial, trivial⟩ ?_
  refine aw_br (c := (nI b) ≤ (nI k)) (fun h67 => ?_) (fun h67 => ?_)
  · skip
    have h67 := cI_leT (a := b) (b := k) rfl rfl (by omega) (by omega) h67
    show aw_W _ _ _ _ (84, [some (.ref 46), some (.int 3), some (.int (nI a)), some (.int 3), some (.int (nI d)), some (.int (nI b)), some (.int (nI k))], []) (ae_en σ (au α [(59, (fC k (fun k => α 58 (40 * 3 + a + k)) mv))]) z t0 ts)
    have e8 : k = b := by omega
    refine aw_go 2 rfl ⟨trivial, trivial, trivial⟩ ?_
    rw [e8]
    exact aw_to (lp_cpB_3_3 h1 h2 0 (Nat.zero_le _)) rfl (by rw [cpy_0]; rfl)
  · skip
    have h67 := cI_leF (a := b) (b := k) rfl rfl (by omega) (by omega) h67
    show aw_W _ _ _ _ (68, [some (.ref 46), some (.int 3), some (.int (nI a)), some (.int 3), some (.int (nI d)), some (.int (nI b)), some (.int (nI k))], []) (ae_en σ (au α [(59, (fC k (fun k => α 58 (40 * 3 + a + k)) mv))]) z t0 ts)
    refine aw_go 16 rfl ⟨trivial, trivial, trivial, trivial, trivial, trivial, trivial, trivial, trivial, trivial, trivial, trivial, (cI_in (a := ((40 * 3) + a) + k) (cI_add (a := (40 * 3) + a) (b := k) (cI_add (a := 40 * 3) (b := a) (cI_mul (a := 40) (b := 3) rfl rfl) rfl) rfl) (by omega) (by decide)), (cI_in (a := k) rfl (by omega) (by decide)), trivial, trivial, trivial⟩ ?_
    show aw_W _ _ _ _ (65, [some (.ref 46), some (.int 3), some (.int (nI a)), some (.int 3), some (.int (nI d)), some (.int (nI b)), some (.int ((nI k) + 1))], []) (ae_en σ (au α [(59, upd (fC k (fun k => α 58 (40 * 3 + a + k)) mv) (nI k).toNatClampNeg (α 58 (((40 * 3) + (nI a)) + (nI k)).toNatClampNeg))]) z t0 ts)
    rw [show (((40 * 3) + (nI a)) + (nI k)).toNatClampNeg = ((40 * 3) + a) + k from cI_cl (a := ((40 * 3) + a) + k) (cI_add (a := (40 * 3) + a) (b := k) (cI_add (a := 40 * 3) (b := a) (cI_mul (a := 40) (b := 3) rfl rfl) rfl) rfl) (by omega)]
    rw [show (nI k).toNatClampNeg = k from cI_cl (a := k) rfl (by omega)]
    rw [show (nI k) + 1 = nI (k + 1) from (cI_add (a := k) (b := 1) rfl rfl)]
    rw [fC_s (X := (fun k => α 58 (40 * 3 + a + k))) rfl]
    exact lp_cpA_3_3 h1 h2 (k + 1) (by omega)
termination_by b - k
decreasing_by all_goals omega
theorem em_copy_3_3 {m m2 : Nat} {i j n : Int32} {zd : Nat} (hm : ¬ α 56 3 < 0 → α 57 3 = nI m) (hm40 : m ≤ 40) (hm2 : ¬ α 56 3 < 0 → α 57 3 = nI m2) (hm240 : m2 ≤ 40) : aw_X P (zd + 3) 175 [.ref 46, .int 3, .int i, .int 3, .int j, .int n] (ae_en σ α z t0 ts) (fun r H => ∃ (mv : Nat → Int32), r = some (.int ((pCopyM 3 3 m m2 i j n (α 56) (α 58)).1)) ∧ H = (ae_en σ (au α [(58, (pCopyM 3 3 m m2 i j n (α 56) (α 58)).2), (59, mv)]) z t0 ts)) := by
  refine aw_ev (cd := cd_Model_copy) rfl rfl rfl ?_
  show aw_W _ _ _ _ (0, [some (.ref 46), some (.int 3), some (.int i), some (.int 3), some (.int j), some (.int n), none], []) (ae_en σ α z t0 ts)
  refine aw_go 1 rfl ⟨trivial, trivial⟩ ?_
  refine aw_callE rfl rfl (ev_Model_isSheet (s := 3)) ?_
  show aw_W _ _ _ _ (2, [some (.ref 46), some (.int 3), some (.int i), some (.int 3), some (.int j), some (.int n), none], [.int (bI (iP 4 3))]) (ae_en σ α z t0 ts)
  refine aw_go 1 rfl ⟨trivial, trivial⟩ ?_
  refine aw_br (c := (bI (iP 4 3)) = 0) (fun h2 => ?_) (fun h2 => ?_)
  · skip
    have h2 := bI_f h2
    show aw_W _ _ _ _ (6, [some (.ref 46), some (.int 3), some (.int i), some (.int 3), some (.int j), some (.int n), none], []) (ae_en σ α z t0 ts)
    exact absurd h2 (by decide)
  · skip
    have h2 := bI_t h2
    show aw_W _ _ _ _ (3, [some (.ref 46), some (.int 3), some (.int i), some (.int 3), some (.int j), some (.int n), none], []) (ae_en σ α z t0 ts)
    refine aw_go 1 rfl ⟨trivial, trivial⟩ ?_
    refine aw_callE rfl rfl (ev_Model_isSheet (s := 3)) ?_
    show aw_W _ _ _ _ (5, [some (.ref 46), some (.int 3), some (.int i), some (.int 3), some (.int j), some (.int n), none], [.int (bI (iP 4 3))]) (ae_en σ α z t0 ts)
    refine aw_go 1 rfl ⟨trivial, trivial⟩ ?_
    refine aw_br (c := ¬ (bI (iP 4 3)) = 0) (fun h5 => ?_) (fun h5 => ?_)
    · skip
      have h5 := bI_t h5
      show aw_W _ _ _ _ (8, [some (.ref 46), some (.int 3), some (.int i), some (.int 3), some (.int j), some (.int n), none], []) (ae_en σ α z t0 ts)
      refine aw_go 5 rfl ⟨trivial, trivial, trivial, (cI_in (a := 3) rfl (by omega) (by decide)), trivial, trivial⟩ ?_
      show aw_W _ _ _ _ (if (α 56 (3 : Int32).toNatClampNeg) < 0 then 18 else 13, [some (.ref 46), some (.int 3), some (.int i), some (.int 3), some (.int j), some (.int n), none], []) (ae_en σ α z t0 ts)
      rw [show (3 : Int32).toNatClampNeg = 3 from cI_cl (a := 3) rfl (by omega)]
      refine aw_br (c := (α 56 3) < 0) (fun h12 => ?_) (fun h12 => ?_)
      · skip
        show aw_W _ _ _ _ (18, [some (.ref 46), some (.int 3), some (.int i), some (.int 3), some (.int j), some (.int n), none], []) (ae_en σ α z t0 ts)
        refine aw_go 1 rfl ⟨trivial, trivial⟩ ?_
        refine aw_ret rfl rfl trivial ?_
        rw [pCopyM, if_pos (Or.inl h12)]
        exact ⟨_, rfl, rfl⟩
      · skip
        show aw_W _ _ _ _ (13, [some (.ref 46), some (.int 3), some (.int i), some (.int 3), some (.int j), some (.int n), none], []) (ae_en σ α z t0 ts)
        refine aw_go 5 rfl ⟨trivial, trivial, trivial, (cI_in (a := 3) rfl (by omega) (by decide)), trivial, trivial⟩ ?_
        show aw_W _ _ _ _ (if (0 : Int32) ≤ (α 56 (3 : Int32).toNatClampNeg) then 20 else 18, [some (.ref 46), some (.int 3), some (.int i), some (.int 3), some (.int j), some (.int n), none], []) (ae_en σ α z t0 ts)
        rw [show (3 : Int32).toNatClampNeg = 3 from cI_cl (a := 3) rfl (by omega)]
        refine aw_br (c := (0 : Int32) ≤ (α 56 3)) (fun h17 => ?_) (fun h17 => ?_)
        · skip
          show aw_W _ _ _ _ (20, [some (.ref 46), some (.int 3), some (.int i), some (.int 3), some (.int j), some (.int n), none], []) (ae_en σ α z t0 ts)
          refine aw_go 9 rfl ⟨trivial, trivial, trivial, (cI_in (a := 3) rfl (by omega) (by decide)), trivial, trivial, trivial, (cI_in (a := 3) rfl (by omega) (by decide)), trivial, trivial⟩ ?_
          show aw_W _ _ _ _ (if (α 56 (3 : Int32).toNatClampNeg) = (α 56 (3 : Int32).toNatClampNeg) then 31 else 29, [some (.ref 46), some (.int 3), some (.int i), some (.int 3), some (.int j), some (.int n), none], []) (ae_en σ α z t0 ts)
          rw [show (3 : Int32).toNatClampNeg = 3 from cI_cl (a := 3) rfl (by omega)]
          refine aw_br (c := (α 56 3) = (α 56 3)) (fun h28 => ?_) (fun h28 => ?_)
          · skip
            show aw_W _ _ _ _ (31, [some (.ref 46), some (.int 3), some (.int i), some (.int 3), some (.int j), some (.int n), none], []) (ae_en σ α z t0 ts)
            refine aw_go 2 rfl ⟨trivial, trivial, trivial⟩ ?_
            refine aw_br (c := n < 0) (fun h32 => ?_) (fun h32 => ?_)
            · skip
              show aw_W _ _ _ _ (61, [some (.ref 46), some (.int 3), some (.int i), some (.int 3), some (.int j), some (.int n), none], []) (ae_en σ α z t0 ts)
              refine aw_go 1 rfl ⟨trivial, trivial⟩ ?_
              refine aw_ret rfl rfl trivial ?_
              rw [pCopyM, if_neg (fun q => q.elim h12 (Int32.not_lt.mpr h17)), if_neg (fun q => q h28), if_neg (fun q => q.1.1 h32)]
              exact ⟨_, rfl, rfl⟩
            · skip
              show aw_W _ _ _ _ (33, [some (.ref 46), some (.int 3), some (.int i), some (.int 3), some (.int j), some (.int n), none], []) (ae_en σ α z t0 ts)
              refine aw_go 2 rfl ⟨trivial, trivial, trivial⟩ ?_
              refine aw_br (c := i < 0) (fun h34 => ?_) (fun h34 => ?_)
              · skip
                show aw_W _ _ _ _ (61, [some (.ref 46), some (.int 3), some (.int i), some (.int 3), some (.int j), some (.int n), none], []) (ae_en σ α z t0 ts)
                refine aw_go 1 rfl ⟨trivial, trivial⟩ ?_
                refine aw_ret rfl rfl trivial ?_
                rw [pCopyM, if_neg (fun q => q.elim h12 (Int32.not_lt.mpr h17)), if_neg (fun q => q h28), if_neg (fun q => q.1.2.1 h34)]
                exact ⟨_, rfl, rfl⟩
              · skip
                show aw_W _ _ _ _ (35, [some (.ref 46), some (.int 3), some (.int i), some (.int 3), some (.int j), some (.int n), none], []) (ae_en σ α z t0 ts)
                refine aw_go 2 rfl ⟨trivial, trivial, trivial⟩ ?_
                refine aw_br (c := j < 0) (fun h36 => ?_) (fun h36 => ?_)
                · skip
                  show aw_W _ _ _ _ (61, [some (.ref 46), some (.int 3), some (.int i), some (.int 3), some (.int j), some (.int n), none], []) (ae_en σ α z t0 ts)
                  refine aw_go 1 rfl ⟨trivial, trivial⟩ ?_
                  refine aw_ret rfl rfl trivial ?_
                  rw [pCopyM, if_neg (fun q => q.elim h12 (Int32.not_lt.mpr h17)), if_neg (fun q => q h28), if_neg (fun q => q.2.2.1 h36)]
                  exact ⟨_, rfl, rfl⟩
                · skip
                  show aw_W _ _ _ _ (37, [some (.ref 46), some (.int 3), some (.int i), some (.int 3), some (.int j), some (.int n), none], []) (ae_en σ α z t0 ts)
                  obtain ⟨a, ha, rfl⟩ := nI_of h34
                  obtain ⟨d, hd, rfl⟩ := nI_of h36
                  obtain ⟨b, hb, rfl⟩ := nI_of h32
                  refine aw_go 12 rfl ⟨trivial, trivial, trivial, trivial, trivial, trivial, trivial, trivial, (cI_in (a := 3) rfl (by omega) (by decide)), trivial, trivial, trivial, trivial⟩ ?_
                  show aw_W _ _ _ _ (if (0 : Int32) < (lg_cmp (((nI a).toInt64) + ((nI b).toInt64)) ((α 57 (3 : Int32).toNatClampNeg).toInt64)) then 61 else 49, [some (.ref 46), some (.int 3), some (.int (nI a)), some (.int 3), some (.int (nI d)), some (.int (nI b)), none], []) (ae_en σ α z t0 ts)
                  rw [show (3 : Int32).toNatClampNeg = 3 from cI_cl (a := 3) rfl (by omega)]
                  refine aw_br (c := (0 : Int32) < (lg_cmp (((nI a).toInt64) + ((nI b).toInt64)) ((α 57 3).toInt64))) (fun h48 => ?_) (fun h48 => ?_)
                  · skip
                    show aw_W _ _ _ _ (61, [some (.ref 46), some (.int 3), some (.int (nI a)), some (.int 3), some (.int (nI d)), some (.int (nI b)), none], []) (ae_en σ α z t0 ts)
                    refine aw_go 1 rfl ⟨trivial, trivial⟩ ?_
                    refine aw_ret rfl rfl trivial ?_
                    rw [pCopyM, if_neg (fun q => q.elim h12 (Int32.not_lt.mpr h17)), if_neg (fun q => q h28), if_neg (fun q => by have := q.1.2.2; rw [nI_clamp ha, nI_clamp hb] at this; have h48 := lgG.mp h48; rw [hm h12, lgS ha hb (by omega)] at h48; omega)]
                    exact ⟨_, rfl, rfl⟩
                  · skip
                    show aw_W _ _ _ _ (49, [some (.ref 46), some (.int 3), some (.int (nI a)), some (.int 3), some (.int (nI d)), some (.int (nI b)), none], []) (ae_en σ α z t0 ts)
                    refine aw_go 12 rfl ⟨trivial, trivial, trivial, trivial, trivial, trivial, trivial, trivial, (cI_in (a := 3) rfl (by omega) (by decide)), trivial, trivial, trivial, trivial⟩ ?_
                    show aw_W _ _ _ _ (if (lg_cmp (((nI d).toInt64) + ((nI b).toInt64)) ((α 57 (3 : Int32).toNatClampNeg).toInt64)) ≤ 0 then 63 else 61, [some (.ref 46), some (.int 3), some (.int (nI a)), some (.int 3), some (.int (nI d)), some (.int (nI b)), none], []) (ae_en σ α z t0 ts)
                    rw [show (3 : Int32).toNatClampNeg = 3 from cI_cl (a := 3) rfl (by omega)]
                    refine aw_br (c := (lg_cmp (((nI d).toInt64) + ((nI b).toInt64)) ((α 57 3).toInt64)) ≤ 0) (fun h60 => ?_) (fun h60 => ?_)
                    · skip
                      show aw_W _ _ _ _ (63, [some (.ref 46), some (.int 3), some (.int (nI a)), some (.int 3), some (.int (nI d)), some (.int (nI b)), none], []) (ae_en σ α z t0 ts)
                      refine aw_go 2 rfl ⟨trivial, trivial, trivial⟩ ?_
                      have g1 : ¬ m < a + b := fun q => h48 (lgG.mpr (by rw [hm h12]; exact (lgS ha hb (by omega)).mpr q))
                      have g2 : ¬ m2 < d + b := fun q => absurd h60 (Int32.not_le.mpr (lgG.mpr (by rw [hm2 (Int32.not_lt.mpr h17)]; exact (lgS hd hb (by omega)).mpr q)))
                      rw [pCopyM, if_neg (fun q => q.elim h12 (Int32.not_lt.mpr h17)), if_neg (fun q => q h28), if_pos ⟨⟨h32, h34, by rw [nI_clamp ha, nI_clamp hb]; omega⟩, ⟨h32, h36, by rw [nI_clamp hd, nI_clamp hb]; omega⟩⟩, nI_clamp ha, nI_clamp hb, nI_clamp hd]
                      exact aw_to (lp_cpA_3_3 (mv := α 59) (by omega) (by omega) 0 (Nat.zero_le _)) rfl (by rw [fC_0]; rfl)
                    · skip
                      show aw_W _ _ _ _ (61, [some (.ref 46), some (.int 3), some (.int (nI a)), some (.int 3), some (.int (nI d)), some (.int (nI b)), none], []) (ae_en σ α z t0 ts)
                      refine aw_go 1 rfl ⟨trivial, trivial⟩ ?_
                      refine aw_ret rfl rfl trivial ?_
                      rw [pCopyM, if_neg (fun q => q.elim h12 (Int32.not_lt.mpr h17)), if_neg (fun q => q h28), if_neg (fun q => by have := q.2.2.2; rw [nI_clamp hd, nI_clamp hb] at this; have h60 := lgG.mp (Int32.not_le.mp h60); rw [hm2 (Int32.not_lt.mpr h17), lgS hd hb (by omega)] at h60; omega)]
                      exact ⟨_, rfl, rfl⟩
          · skip
            show aw_W _ _ _ _ (29, [some (.ref 46), some (.int 3), some (.int i), some (.int 3), some (.int j), some (.int n), none], []) (ae_en σ α z t0 ts)
            refine aw_go 1 rfl ⟨trivial, trivial⟩ ?_
            refine aw_ret rfl rfl trivial ?_
            rw [pCopyM, if_neg (fun q => q.elim h12 (Int32.not_lt.mpr h17)), if_pos h28]
            exact ⟨_, rfl, rfl⟩
        · skip
          show aw_W _ _ _ _ (18, [some (.ref 46), some (.int 3), some (.int i), some (.int 3), some (.int j), some (.int n), none], []) (ae_en σ α z t0 ts)
          refine aw_go 1 rfl ⟨trivial, trivial⟩ ?_
          refine aw_ret rfl rfl trivial ?_
          rw [pCopyM, if_pos (Or.inr (Int32.not_le.mp h17))]
          exact ⟨_, rfl, rfl⟩
    · skip
      have h5 := bI_f (Classical.not_not.mp h5)
      show aw_W _ _ _ _ (6, [some (.ref 46), some (.int 3), some (.int i), some (.int 3), some (.int j), some (.int n), none], []) (ae_en σ α z t0 ts)
      exact absurd h5 (by decide)
end L54
