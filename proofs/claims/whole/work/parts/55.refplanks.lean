/-! the reference: planks out of sheets -/
theorem bmod_hi {x : Int} (h : 2 ^ 31 ≤ x) (h2 : x < 2 ^ 32) : x.bmod (2 ^ 32) = x - 2 ^ 32 := by
  have e : (x - 2 ^ 32).bmod (2 ^ 32) = x - 2 ^ 32 := Int.bmod_eq_of_le (by omega) (by omega)
  rw [← e]
  have := Int.sub_bmod_right x (2 ^ 32)
  simp at this ⊢
  exact this.symm
theorem pkI {fr : Int32} {k : Nat} (hk : k < 10) : (fr.toInt64 + (3 * nI k).toInt64).toInt = fr.toInt + 3 * k := by
  have h1 := Int32.le_toInt fr
  have h2 := Int32.toInt_lt fr
  rw [show (3 : Int32) * nI k = nI (3 * k) from pk_mul 3 k, Int64.toInt_add, Int32.toInt_toInt64, Int32.toInt_toInt64, nI_toInt (by omega), Int.bmod_eq_of_le (by omega) (by omega)]
  omega
theorem pkJ {fr : Int32} {k m : Nat} (hk : k < 10) (hm : m ≤ 40) : (¬ lg_cmp (fr.toInt64 + (3 * nI k).toInt64) 0 < 0 ∧ lg_cmp (fr.toInt64 + (3 * nI k).toInt64 + 2) (nI m).toInt64 < 0 → ∃ a : Nat, fr + 3 * nI k = nI a ∧ a + 3 ≤ m ∧ (fr.toInt64 + (3 * nI k).toInt64).toInt32 = nI a) ∧ (hHo m (fr + 3 * nI k) 3 → ¬ lg_cmp (fr.toInt64 + (3 * nI k).toInt64) 0 < 0 ∧ lg_cmp (fr.toInt64 + (3 * nI k).toInt64 + 2) (nI m).toInt64 < 0) := by
  have h1 := Int32.le_toInt fr
  have h2 := Int32.toInt_lt fr
  have e := pkI (fr := fr) hk
  have e2 : (fr.toInt64 + (3 * nI k).toInt64 + 2).toInt = fr.toInt + 3 * k + 2 := by
    rw [Int64.toInt_add, e, show (2 : Int64).toInt = 2 from rfl, Int.bmod_eq_of_le (by omega) (by omega)]
  have e3 : (fr + 3 * nI k).toInt = (fr.toInt + 3 * k).bmod (2 ^ 32) := by
    rw [show (3 : Int32) * nI k = nI (3 * k) from pk_mul 3 k, Int32.toInt_add, nI_toInt (by omega)]
    congr 1
  rw [lgL, lgL, Int64.lt_iff_toInt_lt, Int64.lt_iff_toInt_lt, e, e2, Int32.toInt_toInt64, nI_toInt (by omega), show (0 : Int64).toInt = 0 from rfl]
  constructor
  · rintro ⟨g1, g2⟩
    rw [Int.bmod_eq_of_le (by omega) (by omega)] at e3
    refine ⟨(fr.toInt + 3 * k).toNat, ?_, by omega, ?_⟩
    · apply Int32.toInt_inj.mp
      rw [e3, nI_toInt (by omega)]
      omega
    · rw [show fr.toInt64 + (3 * nI k).toInt64 = lN (fr.toInt + 3 * k).toNat from ?_, lN_i]
      apply Int64.toInt_inj.mp
      rw [e, lN_toInt (by omega)]
      omega
  · rintro ⟨-, g1, g2⟩
    obtain ⟨a, ha, ea⟩ := nI_of g1
    rw [ea, nI_clamp ha, show (3 : Int32).toNatClampNeg = 3 from rfl] at g2
    rw [ea, nI_toInt ha] at e3
    rcases Int.lt_or_le (fr.toInt + 3 * k) (2 ^ 31) with q | q
    · rw [Int.bmod_eq_of_le (by omega) (by omega)] at e3
      omega
    · rw [bmod_hi q (by omega)] at e3
      omega
section L55
variable {P : ae_P} {σ : Nat → Int32} {α : Nat → Nat → Int32} {z : Int64} {t0 : ae_T} {ts : List ae_T}

theorem lp_mPl_0 {zd : Nat} {m N : Nat} {s fr cm : Int32} {q : Nat × ae_S6} {R : Int32 × Nat × ae_S6} {l7 l9 : Option Value} (hm : α 57 0 = nI m) (hm40 : m ≤ 40) (hN : N ≤ 10) (hq : q.1 ≤ 10) (k : Nat) (hk : k ≤ N) (hI : pPks (fun j => α 58 (40 * 0 + j)) m fr (N - k) k cm q = R) : aw_W P (zd + 3) cd_Model_planks (fun r H => r = some (.int R.1) ∧ H = (ae_en (au σ [(27, nI R.2.1)]) (au α [(31, R.2.2.1), (32, R.2.2.2.1), (33, R.2.2.2.2.1), (35, R.2.2.2.2.2.1), (36, R.2.2.2.2.2.2.1), (38, R.2.2.2.2.2.2.2)]) z t0 ts)) (39, [some (.ref 46), some (.int 0), some (.int s), some (.int fr), some (.int (nI N)), some (.int cm), some (.int (nI k)), l7, none, l9], []) (ae_en (au σ [(27, nI q.1)]) (au α [(31, q.2.1), (32, q.2.2.1), (33, q.2.2.2.1), (35, q.2.2.2.2.1), (36, q.2.2.2.2.2.1), (38, q.2.2.2.2.2.2)]) z t0 ts) := by
  refine aw_go 3 rfl ⟨trivial, trivial, trivial, trivial⟩ ?_
  refine aw_br (c := (nI N) ≤ (nI k)) (fun h41 => ?_) (fun h41 => ?_)
  · skip
    have h41 := cI_leT (a := N) (b := k) rfl rfl (by omega) (by omega) h41
    show aw_W _ _ _ _ (95, [some (.ref 46), some (.int 0), some (.int s), some (.int fr), some (.int (nI N)), some (.int cm), some (.int (nI k)), l7, none, l9], []) (ae_en (au σ [(27, nI q.1)]) (au α [(31, q.2.1), (32, q.2.2.1), (33, q.2.2.2.1), (35, q.2.2.2.2.1), (36, q.2.2.2.2.2.1), (38, q.2.2.2.2.2.2)]) z t0 ts)
    rw [show N - k = 0 by omega] at hI
    refine aw_go 1 rfl ⟨trivial, trivial⟩ ?_
    refine aw_ret rfl rfl trivial ?_
    rw [← hI]
    exact ⟨rfl, rfl⟩
  · skip
    have h41 := cI_leF (a := N) (b := k) rfl rfl (by omega) (by omega) h41
    show aw_W _ _ _ _ (42, [some (.ref 46), some (.int 0), some (.int s), some (.int fr), some (.int (nI N)), some (.int cm), some (.int (nI k)), l7, none, l9], []) (ae_en (au σ [(27, nI q.1)]) (au α [(31, q.2.1), (32, q.2.2.1), (33, q.2.2.2.1), (35, q.2.2.2.2.1), (36, q.2.2.2.2.2.1), (38, q.2.2.2.2.2.2)]) z t0 ts)
    obtain ⟨r, hr⟩ : ∃ r, N - k = r + 1 := ⟨N - k - 1, by omega⟩
    rw [hr, pPks] at hI
    have hk2 : k < 10 := by omega
    refine aw_go 12 rfl ⟨trivial, trivial, trivial, trivial, trivial, trivial, trivial, trivial, trivial, trivial, trivial, trivial, trivial⟩ ?_
    show aw_W _ _ _ _ (if (lg_cmp (fr.toInt64 + ((3 * (nI k)).toInt64)) 0) < 0 then 64 else 54, [some (.ref 46), some (.int 0), some (.int s), some (.int fr), some (.int (nI N)), some (.int cm), some (.int (nI k)), some (.long (fr.toInt64 + ((3 * (nI k)).toInt64))), none, l9], []) (ae_en (au σ [(27, nI q.1)]) (au α [(31, q.2.1), (32, q.2.2.1), (33, q.2.2.2.1), (35, q.2.2.2.2.1), (36, q.2.2.2.2.2.1), (38, q.2.2.2.2.2.2)]) z t0 ts)
    refine aw_br (c := (lg_cmp (fr.toInt64 + ((3 * (nI k)).toInt64)) 0) < 0) (fun h53 => ?_) (fun h53 => ?_)
    · skip
      show aw_W _ _ _ _ (64, [some (.ref 46), some (.int 0), some (.int s), some (.int fr), some (.int (nI N)), some (.int cm), some (.int (nI k)), some (.long (fr.toInt64 + ((3 * (nI k)).toInt64))), none, l9], []) (ae_en (au σ [(27, nI q.1)]) (au α [(31, q.2.1), (32, q.2.2.1), (33, q.2.2.2.1), (35, q.2.2.2.2.1), (36, q.2.2.2.2.2.1), (38, q.2.2.2.2.2.2)]) z t0 ts)
      rw [if_neg (fun w => absurd h53 ((pkJ (m := m) hk2 hm40).2 w).1)] at hI
      refine aw_go 1 rfl ⟨trivial, trivial⟩ ?_
      refine aw_ret rfl rfl trivial ?_
      rw [← hI]
      exact ⟨rfl, rfl⟩
    · skip
      show aw_W _ _ _ _ (54, [some (.ref 46), some (.int 0), some (.int s), some (.int fr), some (.int (nI N)), some (.int cm), some (.int (nI k)), some (.long (fr.toInt64 + ((3 * (nI k)).toInt64))), none, l9], []) (ae_en (au σ [(27, nI q.1)]) (au α [(31, q.2.1), (32, q.2.2.1), (33, q.2.2.2.1), (35, q.2.2.2.2.1), (36, q.2.2.2.2.2.1), (38, q.2.2.2.2.2.2)]) z t0 ts)
      refine aw_go 10 rfl ⟨trivial, trivial, trivial, trivial, trivial, trivial, (cI_in (a := 0) rfl (by omega) (by decide)), trivial, trivial, trivial, trivial⟩ ?_
      show aw_W _ _ _ _ (if (lg_cmp ((fr.toInt64 + ((3 * (nI k)).toInt64)) + 2) ((α 57 (0 : Int32).toNatClampNeg).toInt64)) < 0 then 66 else 64, [some (.ref 46), some (.int 0), some (.int s), some (.int fr), some (.int (nI N)), some (.int cm), some (.int (nI k)), some (.long (fr.toInt64 + ((3 * (nI k)).toInt64))), none, l9], []) (ae_en (au σ [(27, nI q.1)]) (au α [(31, q.2.1), (32, q.2.2.1), (33, q.2.2.2.1), (35, q.2.2.2.2.1), (36, q.2.2.2.2.2.1), (38, q.2.2.2.2.2.2)]) z t0 ts)
      rw [show (0 : Int32).toNatClampNeg = 0 from cI_cl (a := 0) rfl (by omega)]
      refine aw_br (c := (lg_cmp ((fr.toInt64 + ((3 * (nI k)).toInt64)) + 2) ((α 57 0).toInt64)) < 0) (fun h63 => ?_) (fun h63 => ?_)
      · skip
        show aw_W _ _ _ _ (66, [some (.ref 46), some (.int 0), some (.int s), some (.int fr), some (.int (nI N)), some (.int cm), some (.int (nI k)), some (.long (fr.toInt64 + ((3 * (nI k)).toInt64))), none, l9], []) (ae_en (au σ [(27, nI q.1)]) (au α [(31, q.2.1), (32, q.2.2.1), (33, q.2.2.2.1), (35, q.2.2.2.2.1), (36, q.2.2.2.2.2.1), (38, q.2.2.2.2.2.2)]) z t0 ts)
        obtain ⟨a, ea, ha3, ei⟩ := (pkJ (m := m) hk2 hm40).1 ⟨h53, by rw [← hm]; exact h63⟩
        have hho : hHo m (fr + 3 * nI k) 3 := ⟨by decide, by rw [ea]; exact nI_pos (by omega), by rw [ea, nI_clamp (by omega), show (3 : Int32).toNatClampNeg = 3 from rfl]; omega⟩
        rw [if_pos hho, ea, nI_clamp (by omega)] at hI
        have hI2 := hI
        refine aw_go 5 rfl ⟨trivial, trivial, trivial, trivial, trivial, trivial⟩ ?_
        show aw_W _ _ _ _ (71, [some (.ref 46), some (.int 0), some (.int s), some (.int fr), some (.int (nI N)), some (.int cm), some (.int (nI k)), some (.long (fr.toInt64 + (3 * (nI k)).toInt64)), none, l9], [.int ((fr.toInt64 + (3 * (nI k)).toInt64).toInt32), .int (40 * 0)]) (ae_en (au σ [(27, nI q.1)]) (au α [(31, q.2.1), (32, q.2.2.1), (33, q.2.2.2.1), (35, q.2.2.2.2.1), (36, q.2.2.2.2.2.1), (38, q.2.2.2.2.2.2)]) z t0 ts)
        rw [show (fr.toInt64 + (3 * (nI k)).toInt64).toInt32 = nI a from ei]
        refine aw_go 19 rfl ⟨trivial, trivial, trivial, trivial, trivial, trivial, (cI_in (a := (40 * 0) + a) (cI_add (a := 40 * 0) (b := a) (cI_mul (a := 40) (b := 0) rfl rfl) rfl) (by omega) (by decide)), trivial, trivial, trivial, trivial, trivial, (cI_in (a := ((40 * 0) + a) + 1) (cI_add (a := (40 * 0) + a) (b := 1) (cI_add (a := 40 * 0) (b := a) (cI_mul (a := 40) (b := 0) rfl rfl) rfl) rfl) (by omega) (by decide)), trivial, trivial, trivial, trivial, trivial, (cI_in (a := ((40 * 0) + a) + 2) (cI_add (a := (40 * 0) + a) (b := 2) (cI_add (a := 40 * 0) (b := a) (cI_mul (a := 40) (b := 0) rfl rfl) rfl) rfl) (by omega) (by decide)), trivial⟩ ?_
        show aw_W _ _ _ _ (90, [some (.ref 46), some (.int 0), some (.int s), some (.int fr), some (.int (nI N)), some (.int cm), some (.int (nI k)), some (.long (fr.toInt64 + (3 * (nI k)).toInt64)), none, some (.int ((40 * 0) + (nI a)))], [.int (α 58 (((40 * 0) + (nI a)) + 2).toNatClampNeg), .int (α 58 (((40 * 0) + (nI a)) + 1).toNatClampNeg), .int (α 58 ((40 * 0) + (nI a)).toNatClampNeg), .ref 46]) (ae_en (au σ [(27, nI q.1)]) (au α [(31, q.2.1), (32, q.2.2.1), (33, q.2.2.2.1), (35, q.2.2.2.2.1), (36, q.2.2.2.2.2.1), (38, q.2.2.2.2.2.2)]) z t0 ts)
        rw [show ((40 * 0) + (nI a)).toNatClampNeg = (40 * 0) + a from cI_cl (a := (40 * 0) + a) (cI_add (a := 40 * 0) (b := a) (cI_mul (a := 40) (b := 0) rfl rfl) rfl) (by omega)]
        rw [show (((40 * 0) + (nI a)) + 1).toNatClampNeg = ((40 * 0) + a) + 1 from cI_cl (a := ((40 * 0) + a) + 1) (cI_add (a := (40 * 0) + a) (b := 1) (cI_add (a := 40 * 0) (b := a) (cI_mul (a := 40) (b := 0) rfl rfl) rfl) rfl) (by omega)]
        rw [show (((40 * 0) + (nI a)) + 2).toNatClampNeg = ((40 * 0) + a) + 2 from cI_cl (a := ((40 * 0) + a) + 2) (cI_add (a := (40 * 0) + a) (b := 2) (cI_add (a := 40 * 0) (b := a) (cI_mul (a := 40) (b := 0) rfl rfl) rfl) rfl) (by omega)]
        rw [show (40 * 0) + (nI a) = nI ((40 * 0) + a) from (cI_add (a := 40 * 0) (b := a) (cI_mul (a := 40) (b := 0) rfl rfl) rfl)]
        refine aw_call rfl rfl (ev_Model_plank (k := (α 58 ((40 * 0) + a))) (x := (α 58 (((40 * 0) + a) + 1))) (m := (α 58 (((40 * 0) + a) + 2))) rfl hq) ?_
        rintro _ _ ⟨rfl, rfl⟩
        show aw_W _ _ _ _ (91, [some (.ref 46), some (.int 0), some (.int s), some (.int fr), some (.int (nI N)), some (.int cm), some (.int (nI k)), some (.long (fr.toInt64 + (3 * (nI k)).toInt64)), none, some (.int (nI ((40 * 0) + a)))], [.int ((pPlank q.1 (q.2.1, q.2.2.1, q.2.2.2.1, q.2.2.2.2.1, q.2.2.2.2.2.1, q.2.2.2.2.2.2) (α 58 ((40 * 0) + a)) (α 58 (((40 * 0) + a) + 1)) (α 58 (((40 * 0) + a) + 2))).1)]) (ae_en (au σ [(27, nI (pPlank q.1 (q.2.1, q.2.2.1, q.2.2.2.1, q.2.2.2.2.1, q.2.2.2.2.2.1, q.2.2.2.2.2.2) (α 58 ((40 * 0) + a)) (α 58 (((40 * 0) + a) + 1)) (α 58 (((40 * 0) + a) + 2))).2.1)]) (au α [(31, (pPlank q.1 (q.2.1, q.2.2.1, q.2.2.2.1, q.2.2.2.2.1, q.2.2.2.2.2.1, q.2.2.2.2.2.2) (α 58 ((40 * 0) + a)) (α 58 (((40 * 0) + a) + 1)) (α 58 (((40 * 0) + a) + 2))).2.2.1), (32, (pPlank q.1 (q.2.1, q.2.2.1, q.2.2.2.1, q.2.2.2.2.1, q.2.2.2.2.2.1, q.2.2.2.2.2.2) (α 58 ((40 * 0) + a)) (α 58 (((40 * 0) + a) + 1)) (α 58 (((40 * 0) + a) + 2))).2.2.2.1), (33, (pPlank q.1 (q.2.1, q.2.2.1, q.2.2.2.1, q.2.2.2.2.1, q.2.2.2.2.2.1, q.2.2.2.2.2.2) (α 58 ((40 * 0) + a)) (α 58 (((40 * 0) + a) + 1)) (α 58 (((40 * 0) + a) + 2))).2.2.2.2.1), (35, (pPlank q.1 (q.2.1, q.2.2.1, q.2.2.2.1, q.2.2.2.2.1, q.2.2.2.2.2.1, q.2.2.2.2.2.2) (α 58 ((40 * 0) + a)) (α 58 (((40 * 0) + a) + 1)) (α 58 (((40 * 0) + a) + 2))).2.2.2.2.2.1), (36, (pPlank q.1 (q.2.1, q.2.2.1, q.2.2.2.1, q.2.2.2.2.1, q.2.2.2.2.2.1, q.2.2.2.2.2.2) (α 58 ((40 * 0) + a)) (α 58 (((40 * 0) + a) + 1)) (α 58 (((40 * 0) + a) + 2))).2.2.2.2.2.2.1), (38, (pPlank q.1 (q.2.1, q.2.2.1, q.2.2.2.1, q.2.2.2.2.1, q.2.2.2.2.2.1, q.2.2.2.2.2.2) (α 58 ((40 * 0) + a)) (α 58 (((40 * 0) + a) + 1)) (α 58 (((40 * 0) + a) + 2))).2.2.2.2.2.2.2)]) z t0 ts)
        refine aw_go 1 rfl ⟨trivial, trivial⟩ ?_
        refine aw_br (c := ((pPlank q.1 (q.2.1, q.2.2.1, q.2.2.2.1, q.2.2.2.2.1, q.2.2.2.2.2.1, q.2.2.2.2.2.2) (α 58 ((40 * 0) + a)) (α 58 (((40 * 0) + a) + 1)) (α 58 (((40 * 0) + a) + 2))).1) < 0) (fun h91 => ?_) (fun h91 => ?_)
        · skip
          show aw_W _ _ _ _ (93, [some (.ref 46), some (.int 0), some (.int s), some (.int fr), some (.int (nI N)), some (.int cm), some (.int (nI k)), some (.long (fr.toInt64 + (3 * (nI k)).toInt64)), none, some (.int (nI ((40 * 0) + a)))], []) (ae_en (au σ [(27, nI (pPlank q.1 (q.2.1, q.2.2.1, q.2.2.2.1, q.2.2.2.2.1, q.2.2.2.2.2.1, q.2.2.2.2.2.2) (α 58 ((40 * 0) + a)) (α 58 (((40 * 0) + a) + 1)) (α 58 (((40 * 0) + a) + 2))).2.1)]) (au α [(31, (pPlank q.1 (q.2.1, q.2.2.1, q.2.2.2.1, q.2.2.2.2.1, q.2.2.2.2.2.1, q.2.2.2.2.2.2) (α 58 ((40 * 0) + a)) (α 58 (((40 * 0) + a) + 1)) (α 58 (((40 * 0) + a) + 2))).2.2.1), (32, (pPlank q.1 (q.2.1, q.2.2.1, q.2.2.2.1, q.2.2.2.2.1, q.2.2.2.2.2.1, q.2.2.2.2.2.2) (α 58 ((40 * 0) + a)) (α 58 (((40 * 0) + a) + 1)) (α 58 (((40 * 0) + a) + 2))).2.2.2.1), (33, (pPlank q.1 (q.2.1, q.2.2.1, q.2.2.2.1, q.2.2.2.2.1, q.2.2.2.2.2.1, q.2.2.2.2.2.2) (α 58 ((40 * 0) + a)) (α 58 (((40 * 0) + a) + 1)) (α 58 (((40 * 0) + a) + 2))).2.2.2.2.1), (35, (pPlank q.1 (q.2.1, q.2.2.1, q.2.2.2.1, q.2.2.2.2.1, q.2.2.2.2.2.1, q.2.2.2.2.2.2) (α 58 ((40 * 0) + a)) (α 58 (((40 * 0) + a) + 1)) (α 58 (((40 * 0) + a) + 2))).2.2.2.2.2.1), (36, (pPlank q.1 (q.2.1, q.2.2.1, q.2.2.2.1, q.2.2.2.2.1, q.2.2.2.2.2.1, q.2.2.2.2.2.2) (α 58 ((40 * 0) + a)) (α 58 (((40 * 0) + a) + 1)) (α 58 (((40 * 0) + a) + 2))).2.2.2.2.2.2.1), (38, (pPlank q.1 (q.2.1, q.2.2.1, q.2.2.2.1, q.2.2.2.2.1, q.2.2.2.2.2.1, q.2.2.2.2.2.2) (α 58 ((40 * 0) + a)) (α 58 (((40 * 0) + a) + 1)) (α 58 (((40 * 0) + a) + 2))).2.2.2.2.2.2.2)]) z t0 ts)
          refine aw_go 2 rfl ⟨trivial, trivial, trivial⟩ ?_
          show aw_W _ _ _ _ (39, [some (.ref 46), some (.int 0), some (.int s), some (.int fr), some (.int (nI N)), some (.int cm), some (.int ((nI k) + 1)), some (.long (fr.toInt64 + (3 * (nI k)).toInt64)), none, some (.int (nI ((40 * 0) + a)))], []) (ae_en (au σ [(27, nI (pPlank q.1 (q.2.1, q.2.2.1, q.2.2.2.1, q.2.2.2.2.1, q.2.2.2.2.2.1, q.2.2.2.2.2.2) (α 58 ((40 * 0) + a)) (α 58 (((40 * 0) + a) + 1)) (α 58 (((40 * 0) + a) + 2))).2.1)]) (au α [(31, (pPlank q.1 (q.2.1, q.2.2.1, q.2.2.2.1, q.2.2.2.2.1, q.2.2.2.2.2.1, q.2.2.2.2.2.2) (α 58 ((40 * 0) + a)) (α 58 (((40 * 0) + a) + 1)) (α 58 (((40 * 0) + a) + 2))).2.2.1), (32, (pPlank q.1 (q.2.1, q.2.2.1, q.2.2.2.1, q.2.2.2.2.1, q.2.2.2.2.2.1, q.2.2.2.2.2.2) (α 58 ((40 * 0) + a)) (α 58 (((40 * 0) + a) + 1)) (α 58 (((40 * 0) + a) + 2))).2.2.2.1), (33, (pPlank q.1 (q.2.1, q.2.2.1, q.2.2.2.1, q.2.2.2.2.1, q.2.2.2.2.2.1, q.2.2.2.2.2.2) (α 58 ((40 * 0) + a)) (α 58 (((40 * 0) + a) + 1)) (α 58 (((40 * 0) + a) + 2))).2.2.2.2.1), (35, (pPlank q.1 (q.2.1, q.2.2.1, q.2.2.2.1, q.2.2.2.2.1, q.2.2.2.2.2.1, q.2.2.2.2.2.2) (α 58 ((40 * 0) + a)) (α 58 (((40 * 0) + a) + 1)) (α 58 (((40 * 0) + a) + 2))).2.2.2.2.2.1), (36, (pPlank q.1 (q.2.1, q.2.2.1, q.2.2.2.1, q.2.2.2.2.1, q.2.2.2.2.2.1, q.2.2.2.2.2.2) (α 58 ((40 * 0) + a)) (α 58 (((40 * 0) + a) + 1)) (α 58 (((40 * 0) + a) + 2))).2.2.2.2.2.2.1), (38, (pPlank q.1 (q.2.1, q.2.2.1, q.2.2.2.1, q.2.2.2.2.1, q.2.2.2.2.2.1, q.2.2.2.2.2.2) (α 58 ((40 * 0) + a)) (α 58 (((40 * 0) + a) + 1)) (α 58 (((40 * 0) + a) + 2))).2.2.2.2.2.2.2)]) z t0 ts)
          rw [show (nI k) + 1 = nI (k + 1) from (cI_add (a := k) (b := 1) rfl rfl)]
          exact lp_mPl_0 (q := (pPlank q.1 q.2 (α 58 (40 * 0 + a)) (α 58 (40 * 0 + (a + 1))) (α 58 (40 * 0 + (a + 2)))).2) hm hm40 hN (pPlank_n hq) (k + 1) (by omega) (by rw [show N - (k + 1) = r by omega, ← hI2]; exact congrArg (fun y => pPks _ m fr r (k + 1) y _) (if_pos h91).symm)
        · skip
          show aw_W _ _ _ _ (92, [some (.ref 46), some (.int 0), some (.int s), some (.int fr), some (.int (nI N)), some (.int cm), some (.int (nI k)), some (.long (fr.toInt64 + (3 * (nI k)).toInt64)), none, some (.int (nI ((40 * 0) + a)))], []) (ae_en (au σ [(27, nI (pPlank q.1 (q.2.1, q.2.2.1, q.2.2.2.1, q.2.2.2.2.1, q.2.2.2.2.2.1, q.2.2.2.2.2.2) (α 58 ((40 * 0) + a)) (α 58 (((40 * 0) + a) + 1)) (α 58 (((40 * 0) + a) + 2))).2.1)]) (au α [(31, (pPlank q.1 (q.2.1, q.2.2.1, q.2.2.2.1, q.2.2.2.2.1, q.2.2.2.2.2.1, q.2.2.2.2.2.2) (α 58 ((40 * 0) + a)) (α 58 (((40 * 0) + a) + 1)) (α 58 (((40 * 0) + a) + 2))).2.2.1), (32, (pPlank q.1 (q.2.1, q.2.2.1, q.2.2.2.1, q.2.2.2.2.1, q.2.2.2.2.2.1, q.2.2.2.2.2.2) (α 58 ((40 * 0) + a)) (α 58 (((40 * 0) + a) + 1)) (α 58 (((40 * 0) + a) + 2))).2.2.2.1), (33, (pPlank q.1 (q.2.1, q.2.2.1, q.2.2.2.1, q.2.2.2.2.1, q.2.2.2.2.2.1, q.2.2.2.2.2.2) (α 58 ((40 * 0) + a)) (α 58 (((40 * 0) + a) + 1)) (α 58 (((40 * 0) + a) + 2))).2.2.2.2.1), (35, (pPlank q.1 (q.2.1, q.2.2.1, q.2.2.2.1, q.2.2.2.2.1, q.2.2.2.2.2.1, q.2.2.2.2.2.2) (α 58 ((40 * 0) + a)) (α 58 (((40 * 0) + a) + 1)) (α 58 (((40 * 0) + a) + 2))).2.2.2.2.2.1), (36, (pPlank q.1 (q.2.1, q.2.2.1, q.2.2.2.1, q.2.2.2.2.1, q.2.2.2.2.2.1, q.2.2.2.2.2.2) (α 58 ((40 * 0) + a)) (α 58 (((40 * 0) + a) + 1)) (α 58 (((40 * 0) + a) + 2))).2.2.2.2.2.2.1), (38, (pPlank q.1 (q.2.1, q.2.2.1, q.2.2.2.1, q.2.2.2.2.1, q.2.2.2.2.2.1, q.2.2.2.2.2.2) (α 58 ((40 * 0) + a)) (α 58 (((40 * 0) + a) + 1)) (α 58 (((40 * 0) + a) + 2))).2.2.2.2.2.2.2)]) z t0 ts)
          refine aw_go 3 rfl ⟨trivial, trivial, trivial, trivial⟩ ?_
          show aw_W _ _ _ _ (39, [some (.ref 46), some (.int 0), some (.int s), some (.int fr), some (.int (nI N)), some (.int (cm + 1)), some (.int ((nI k) + 1)), some (.long (fr.toInt64 + (3 * (nI k)).toInt64)), none, some (.int (nI ((40 * 0) + a)))], []) (ae_en (au σ [(27, nI (pPlank q.1 (q.2.1, q.2.2.1, q.2.2.2.1, q.2.2.2.2.1, q.2.2.2.2.2.1, q.2.2.2.2.2.2) (α 58 ((40 * 0) + a)) (α 58 (((40 * 0) + a) + 1)) (α 58 (((40 * 0) + a) + 2))).2.1)]) (au α [(31, (pPlank q.1 (q.2.1, q.2.2.1, q.2.2.2.1, q.2.2.2.2.1, q.2.2.2.2.2.1, q.2.2.2.2.2.2) (α 58 ((40 * 0) + a)) (α 58 (((40 * 0) + a) + 1)) (α 58 (((40 * 0) + a) + 2))).2.2.1), (32, (pPlank q.1 (q.2.1, q.2.2.1, q.2.2.2.1, q.2.2.2.2.1, q.2.2.2.2.2.1, q.2.2.2.2.2.2) (α 58 ((40 * 0) + a)) (α 58 (((40 * 0) + a) + 1)) (α 58 (((40 * 0) + a) + 2))).2.2.2.1), (33, (pPlank q.1 (q.2.1, q.2.2.1, q.2.2.2.1, q.2.2.2.2.1, q.2.2.2.2.2.1, q.2.2.2.2.2.2) (α 58 ((40 * 0) + a)) (α 58 (((40 * 0) + a) + 1)) (α 58 (((40 * 0) + a) + 2))).2.2.2.2.1), (35, (pPlank q.1 (q.2.1, q.2.2.1, q.2.2.2.1, q.2.2.2.2.1, q.2.2.2.2.2.1, q.2.2.2.2.2.2) (α 58 ((40 * 0) + a)) (α 58 (((40 * 0) + a) + 1)) (α 58 (((40 * 0) + a) + 2))).2.2.2.2.2.1), (36, (pPlank q.1 (q.2.1, q.2.2.1, q.2.2.2.1, q.2.2.2.2.1, q.2.2.2.2.2.1, q.2.2.2.2.2.2) (α 58 ((40 * 0) + a)) (α 58 (((40 * 0) + a) + 1)) (α 58 (((40 * 0) + a) + 2))).2.2.2.2.2.2.1), (38, (pPlank q.1 (q.2.1, q.2.2.1, q.2.2.2.1, q.2.2.2.2.1, q.2.2.2.2.2.1, q.2.2.2.2.2.2) (α 58 ((40 * 0) + a)) (α 58 (((40 * 0) + a) + 1)) (α 58 (((40 * 0) + a) + 2))).2.2.2.2.2.2.2)]) z t0 ts)
          rw [show (nI k) + 1 = nI (k + 1) from (cI_add (a := k) (b := 1) rfl rfl)]
          exact lp_mPl_0 (q := (pPlank q.1 q.2 (α 58 (40 * 0 + a)) (α 58 (40 * 0 + (a + 1))) (α 58 (40 * 0 + (a + 2)))).2) hm hm40 hN (pPlank_n hq) (k + 1) (by omega) (by rw [show N - (k + 1) = r by omega, ← hI2]; exact congrArg (fun y => pPks _ m fr r (k + 1) y _) (if_neg h91).symm)
      · skip
        show aw_W _ _ _ _ (64, [some (.ref 46), some (.int 0), some (.int s), some (.int fr), some (.int (nI N)), some (.int cm), some (.int (nI k)), some (.long (fr.toInt64 + ((3 * (nI k)).toInt64))), none, l9], []) (ae_en (au σ [(27, nI q.1)]) (au α [(31, q.2.1), (32, q.2.2.1), (33, q.2.2.2.1), (35, q.2.2.2.2.1), (36, q.2.2.2.2.2.1), (38, q.2.2.2.2.2.2)]) z t0 ts)
        rw [if_neg (fun w => h63 (by rw [hm]; exact ((pkJ (m := m) hk2 hm40).2 w).2))] at hI
        refine aw_go 1 rfl ⟨trivial, trivial⟩ ?_
        refine aw_ret rfl rfl trivial ?_
        rw [← hI]
        exact ⟨rfl, rfl⟩
termination_by N - k
decreasing_by all_goals omega
theorem em_planks_0 {m n : Nat} {s fr x : Int32} {zd : Nat} (hn : (σ 27) = nI n) (hn10 : n ≤ 10) (hso : α 56 0 = -1 ∨ ¬ α 56 0 < 0) (hm : ¬ α 56 0 < 0 → α 57 0 = nI m) (hm40 : m ≤ 40) : aw_X P (zd + 4) 176 [.ref 46, .int 0, .int s, .int fr, .int x] (ae_en σ α z t0 ts) (fun r H => r = some (.int ((pPlanks (fun j => α 58 (40 * 0 + j)) m (α 56 0) s fr x (n, (α 31, α 32, α 33, α 35, α 36, α 38))).1)) ∧ H = (ae_en (au σ [(27, nI (pPlanks (fun j => α 58 (40 * 0 + j)) m (α 56 0) s fr x (n, (α 31, α 32, α 33, α 35, α 36, α 38))).2.1)]) (au α [(31, (pPlanks (fun j => α 58 (40 * 0 + j)) m (α 56 0) s fr x (n, (α 31, α 32, α 33, α 35, α 36, α 38))).2.2.1), (32, (pPlanks (fun j => α 58 (40 * 0 + j)) m (α 56 0) s fr x (n, (α 31, α 32, α 33, α 35, α 36, α 38))).2.2.2.1), (33, (pPlanks (fun j => α 58 (40 * 0 + j)) m (α 56 0) s fr x (n, (α 31, α 32, α 33, α 35, α 36, α 38))).2.2.2.2.1), (35, (pPlanks (fun j => α 58 (40 * 0 + j)) m (α 56 0) s fr x (n, (α 31, α 32, α 33, α 35, α 36, α 38))).2.2.2.2.2.1), (36, (pPlanks (fun j => α 58 (40 * 0 + j)) m (α 56 0) s fr x (n, (α 31, α 32, α 33, α 35, α 36, α 38))).2.2.2.2.2.2.1), (38, (pPlanks (fun j => α 58 (40 * 0 + j)) m (α 56 0) s fr x (n, (α 31, α 32, α 33, α 35, α 36, α 38))).2.2.2.2.2.2.2)]) z t0 ts)) := by
  refine aw_ev (cd := cd_Model_planks) rfl rfl rfl ?_
  show aw_W _ _ _ _ (0, [some (.ref 46), some (.int 0), some (.int s), some (.int fr), some (.int x), none, none, none, none, none], []) (ae_en σ α z t0 ts)
  refine aw_go 1 rfl ⟨trivial, trivial⟩ ?_
  refine aw_callE rfl rfl (ev_Model_isSheet (s := 0)) ?_
  show aw_W _ _ _ _ (2, [some (.ref 46), some (.int 0), some (.int s), some (.int fr), some (.int x), none, none, none, none, none], [.int (bI (iP 4 0))]) (ae_en σ α z t0 ts)
  refine aw_go 1 rfl ⟨trivial, trivial⟩ ?_
  refine aw_br (c := (bI (iP 4 0)) = 0) (fun h2 => ?_) (fun h2 => ?_)
  · skip
    have h2 := bI_f h2
    show aw_W _ _ _ _ (13, [some (.ref 46), some (.int 0), some (.int s), some (.int fr), some (.int x), none, none, none, none, none], []) (ae_en σ α z t0 ts)
    exact absurd h2 (by decide)
  · skip
    have h2 := bI_t h2
    show aw_W _ _ _ _ (3, [some (.ref 46), some (.int 0), some (.int s), some (.int fr), some (.int x), none, none, none, none, none], []) (ae_en σ α z t0 ts)
    refine aw_go 3 rfl ⟨trivial, trivial, trivial, trivial⟩ ?_
    refine aw_callE rfl rfl (em_in (v := s) (a := 0) (b := 2)) ?_
    show aw_W _ _ _ _ (7, [some (.ref 46), some (.int 0), some (.int s), some (.int fr), some (.int x), none, none, none, none, none], [.int (bI (¬ s < 0 ∧ ¬ 2 < s))]) (ae_en σ α z t0 ts)
    refine aw_go 1 rfl ⟨trivial, trivial⟩ ?_
    refine aw_br (c := (bI (¬ s < 0 ∧ ¬ 2 < s)) = 0) (fun h7 => ?_) (fun h7 => ?_)
    · skip
      have h7 := bI_f h7
      show aw_W _ _ _ _ (13, [some (.ref 46), some (.int 0), some (.int s), some (.int fr), some (.int x), none, none, none, none, none], []) (ae_en σ α z t0 ts)
      refine aw_go 1 rfl ⟨trivial, trivial⟩ ?_
      refine aw_ret rfl rfl trivial ?_
      rw [pPlanks, if_pos (Classical.byContradiction fun q => h7 ⟨fun w => q (Or.inl w), fun w => q (Or.inr (Or.inl w))⟩), ← hn]
      exact ⟨rfl, rfl⟩
    · skip
      have h7 := bI_t h7
      show aw_W _ _ _ _ (8, [some (.ref 46), some (.int 0), some (.int s), some (.int fr), some (.int x), none, none, none, none, none], []) (ae_en σ α z t0 ts)
      refine aw_go 3 rfl ⟨trivial, trivial, trivial, trivial⟩ ?_
      refine aw_callE rfl rfl (em_in (v := x) (a := 0) (b := 10)) ?_
      show aw_W _ _ _ _ (12, [some (.ref 46), some (.int 0), some (.int s), some (.int fr), some (.int x), none, none, none, none, none], [.int (bI (¬ x < 0 ∧ ¬ 10 < x))]) (ae_en σ α z t0 ts)
      refine aw_go 1 rfl ⟨trivial, trivial⟩ ?_
      refine aw_br (c := ¬ (bI (¬ x < 0 ∧ ¬ 10 < x)) = 0) (fun h12 => ?_) (fun h12 => ?_)
      · skip
        have h12 := bI_t h12
        show aw_W _ _ _ _ (15, [some (.ref 46), some (.int 0), some (.int s), some (.int fr), some (.int x), none, none, none, none, none], []) (ae_en σ α z t0 ts)
        obtain ⟨N, hN, rfl⟩ := nI_of2 (M := 10) (n := 10) rfl h12.1 (Int32.not_lt.mp h12.2)
        refine aw_go 5 rfl ⟨trivial, trivial, trivial, (cI_in (a := 0) rfl (by omega) (by decide)), trivial, trivial⟩ ?_
        show aw_W _ _ _ _ (if (α 56 (0 : Int32).toNatClampNeg) < 0 then 28 else 20, [some (.ref 46), some (.int 0), some (.int s), some (.int fr), some (.int (nI N)), none, none, none, none, none], []) (ae_en σ α z t0 ts)
        rw [show (0 : Int32).toNatClampNeg = 0 from cI_cl (a := 0) rfl (by omega)]
        refine aw_br (c := (α 56 0) < 0) (fun h19 => ?_) (fun h19 => ?_)
        · skip
          show aw_W _ _ _ _ (28, [some (.ref 46), some (.int 0), some (.int s), some (.int fr), some (.int (nI N)), none, none, none, none, none], []) (ae_en σ α z t0 ts)
          refine aw_go 5 rfl ⟨trivial, trivial, trivial, (cI_in (a := 0) rfl (by omega) (by decide)), trivial, trivial⟩ ?_
          show aw_W _ _ _ _ (if (0 : Int32) ≤ (α 56 (0 : Int32).toNatClampNeg) then 35 else 33, [some (.ref 46), some (.int 0), some (.int s), some (.int fr), some (.int (nI N)), none, none, none, none, none], []) (ae_en σ α z t0 ts)
          rw [show (0 : Int32).toNatClampNeg = 0 from cI_cl (a := 0) rfl (by omega)]
          refine aw_br (c := (0 : Int32) ≤ (α 56 0)) (fun h32 => ?_) (fun h32 => ?_)
          · skip
            show aw_W _ _ _ _ (35, [some (.ref 46), some (.int 0), some (.int s), some (.int fr), some (.int (nI N)), none, none, none, none, none], []) (ae_en σ α z t0 ts)
            exact absurd h19 (Int32.not_lt.mpr h32)
          · skip
            show aw_W _ _ _ _ (33, [some (.ref 46), some (.int 0), some (.int s), some (.int fr), some (.int (nI N)), none, none, none, none, none], []) (ae_en σ α z t0 ts)
            refine aw_go 1 rfl ⟨trivial, trivial⟩ ?_
            refine aw_ret rfl rfl trivial ?_
            rw [pPlanks, if_neg (fun q => by rcases q with q | q | q | q; exact h7.1 q; exact h7.2 q; exact h12.1 q; exact h12.2 q), if_neg (fun q => q.1 (hso.resolve_right (fun w => w h19))), if_pos (hso.resolve_right (fun w => w h19)), ← hn]
            exact ⟨rfl, rfl⟩
        · skip
          show aw_W _ _ _ _ (20, [some (.ref 46), some (.int 0), some (.int s), some (.int fr), some (.int (nI N)), none, none, none, none, none], []) (ae_en σ α z t0 ts)
          refine aw_go 6 rfl ⟨trivial, trivial, trivial, (cI_in (a := 0) rfl (by omega) (by decide)), trivial, trivial, trivial⟩ ?_
          show aw_W _ _ _ _ (if (α 56 (0 : Int32).toNatClampNeg) = s then 28 else 26, [some (.ref 46), some (.int 0), some (.int s), some (.int fr), some (.int (nI N)), none, none, none, none, none], []) (ae_en σ α z t0 ts)
          rw [show (0 : Int32).toNatClampNeg = 0 from cI_cl (a := 0) rfl (by omega)]
          refine aw_br (c := (α 56 0) = s) (fun h25 => ?_) (fun h25 => ?_)
          · skip
            show aw_W _ _ _ _ (28, [some (.ref 46), some (.int 0), some (.int s), some (.int fr), some (.int (nI N)), none, none, none, none, none], []) (ae_en σ α z t0 ts)
            refine aw_go 5 rfl ⟨trivial, trivial, trivial, (cI_in (a := 0) rfl (by omega) (by decide)), trivial, trivial⟩ ?_
            show aw_W _ _ _ _ (if (0 : Int32) ≤ (α 56 (0 : Int32).toNatClampNeg) then 35 else 33, [some (.ref 46), some (.int 0), some (.int s), some (.int fr), some (.int (nI N)), none, none, none, none, none], []) (ae_en σ α z t0 ts)
            rw [show (0 : Int32).toNatClampNeg = 0 from cI_cl (a := 0) rfl (by omega)]
            refine aw_br (c := (0 : Int32) ≤ (α 56 0)) (fun h32 => ?_) (fun h32 => ?_)
            · skip
              show aw_W _ _ _ _ (35, [some (.ref 46), some (.int 0), some (.int s), some (.int fr), some (.int (nI N)), none, none, none, none, none], []) (ae_en σ α z t0 ts)
              refine aw_go 4 rfl ⟨trivial, trivial, trivial, trivial, trivial⟩ ?_
              rw [pPlanks, if_neg (fun q => by rcases q with q | q | q | q; exact h7.1 q; exact h7.2 q; exact h12.1 q; exact h12.2 q), if_neg (fun q => q.2 h25), if_neg (fun q => h19 (by rw [q]; decide)), nI_clamp (by omega)]
              exact aw_to (lp_mPl_0 (q := (n, (α 31, α 32, α 33, α 35, α 36, α 38))) (hm h19) hm40 hN hn10 0 (Nat.zero_le _) rfl) rfl (by rw [← hn]; rfl)
            · skip
              show aw_W _ _ _ _ (33, [some (.ref 46), some (.int 0), some (.int s), some (.int fr), some (.int (nI N)), none, none, none, none, none], []) (ae_en σ α z t0 ts)
              exact absurd (Int32.not_le.mp h32) h19
          · skip
            show aw_W _ _ _ _ (26, [some (.ref 46), some (.int 0), some (.int s), some (.int fr), some (.int (nI N)), none, none, none, none, none], []) (ae_en σ α z t0 ts)
            refine aw_go 1 rfl ⟨trivial, trivial⟩ ?_
            refine aw_ret rfl rfl trivial ?_
            rw [pPlanks, if_neg (fun q => by rcases q with q | q | q | q; exact h7.1 q; exact h7.2 q; exact h12.1 q; exact h12.2 q), if_pos ⟨fun w => h19 (by rw [w]; decide), h25⟩, ← hn]
            exact ⟨rfl, rfl⟩
      · skip
        have h12 := bI_f (Classical.not_not.mp h12)
        show aw_W _ _ _ _ (13, [some (.ref 46), some (.int 0), some (.int s), some (.int fr), some (.int x), none, none, none, none, none], []) (ae_en σ α z t0 ts)
        refine aw_go 1 rfl ⟨trivial, trivial⟩ ?_
        refine aw_ret rfl rfl trivial ?_
        rw [pPlanks, if_pos (Classical.byContradiction fun q => h12 ⟨fun w => q (Or.inr (Or.inr (Or.inl w))), fun w => q (Or.inr (Or.inr (Or.inr w)))⟩), ← hn]
        exact ⟨rfl, rfl⟩
theorem lp_mPl_1 {zd : Nat} {m N : Nat} {s fr cm : Int32} {q : Nat × ae_S6} {R : Int32 × Nat × ae_S6} {l7 l9 : Option Value} (hm : α 57 1 = nI m) (hm40 : m ≤ 40) (hN : N ≤ 10) (hq : q.1 ≤ 10) (k : Nat) (hk : k ≤ N) (hI : pPks (fun j => α 58 (40 * 1 + j)) m fr (N - k) k cm q = R) : aw_W P (zd + 3) cd_Model_planks (fun r H => r = some (.int R.1) ∧ H = (ae_en (au σ [(27, nI R.2.1)]) (au α [(31, R.2.2.1), (32, R.2.2.2.1), (33, R.2.2.2.2.1), (35, R.2.2.2.2.2.1), (36, R.2.2.2.2.2.2.1), (38, R.2.2.2.2.2.2.2)]) z t0 ts)) (39, [some (.ref 46), some (.int 1), some (.int s), some (.int fr), some (.int (nI N)), some (.int cm), some (.int (nI k)), l7, none, l9], []) (ae_en (au σ [(27, nI q.1)]) (au α [(31, q.2.1), (32, q.2.2.1), (33, q.2.2.2.1), (35, q.2.2.2.2.1), (36, q.2.2.2.2.2.1), (38, q.2.2.2.2.2.2)]) z t0 ts) := by
  refine aw_go 3 rfl ⟨trivial, trivial, trivial, trivial⟩ ?_
  refine aw_br (c := (nI N) ≤ (nI k)) (fun h41 => ?_) (fun h41 => ?_)
  · skip
    have h41 := cI_leT (a := N) (b := k) rfl rfl (by omega) (by omega) h41
    show aw_W _ _ _ _ (95, [some (.ref 46), some (.int 1), some (.int s), some (.int fr), some (.int (nI N)), some (.int cm), some (.int (nI k)), l7, none, l9], []) (ae_en (au σ [(27, nI q.1)]) (au α [(31, q.2.1), (32, q.2.2.1), (33, q.2.2.2.1), (35, q.2.2.2.2.1), (36, q.2.2.2.2.2.1), (38, q.2.2.2.2.2.2)]) z t0 ts)
    rw [show N - k = 0 by omega] at hI
    refine aw_go 1 rfl ⟨trivial, trivial⟩ ?_
    refine aw_ret rfl rfl trivial ?_
    rw [← hI]
    exact ⟨rfl, rfl⟩
  · skip
    have h41 := cI_leF (a := N) (b := k) rfl rfl (by omega) (by omega) h41
    show aw_W _ _ _ _ (42, [some (.ref 46), some (.int 1), some (.int s), some (.int fr), some (.int (nI N)), some (.int cm), some (.int (nI k)), l7, none, l9], []) (ae_en (au σ [(27, nI q.1)]) (au α [(31, q.2.1), (32, q.2.2.1), (33, q.2.2.2.1), (35, q.2.2.2.2.1), (36, q.2.2.2.2.2.1), (38, q.2.2.2.2.2.2)]) z t0 ts)
    obtain ⟨r, hr⟩ : ∃ r, N - k = r + 1 := ⟨N - k - 1, by omega⟩
    rw [hr, pPks] at hI
    have hk2 : k < 10 := by omega
    refine aw_go 12 rfl ⟨trivial, trivial, trivial, trivial, trivial, trivial, trivial, trivial, trivial, trivial, trivial, trivial, trivial⟩ ?_
    show aw_W _ _ _ _ (if (lg_cmp (fr.toInt64 + ((3 * (nI k)).toInt64)) 0) < 0 then 64 else 54, [some (.ref 46), some (.int 1), some (.int s), some (.int fr), some (.int (nI N)), some (.int cm), some (.int (nI k)), some (.long (fr.toInt64 + ((3 * (nI k)).toInt64))), none, l9], []) (ae_en (au σ [(27, nI q.1)]) (au α [(31, q.2.1), (32, q.2.2.1), (33, q.2.2.2.1), (35, q.2.2.2.2.1), (36, q.2.2.2.2.2.1), (38, q.2.2.2.2.2.2)]) z t0 ts)
    refine aw_br (c := (lg_cmp (fr.toInt64 + ((3 * (nI k)).toInt64)) 0) < 0) (fun h53 => ?_) (fun h53 => ?_)
    · skip
      show aw_W _ _ _ _ (64, [some (.ref 46), some (.int 1), some (.int s), some (.int fr), some (.int (nI N)), some (.int cm), some (.int (nI k)), some (.long (fr.toInt64 + ((3 * (nI k)).toInt64))), none, l9], []) (ae_en (au σ [(27, nI q.1)]) (au α [(31, q.2.1), (32, q.2.2.1), (33, q.2.2.2.1), (35, q.2.2.2.2.1), (36, q.2.2.2.2.2.1), (38, q.2.2.2.2.2.2)]) z t0 ts)
      rw [if_neg (fun w => absurd h53 ((pkJ (m := m) hk2 hm40).2 w).1)] at hI
      refine aw_go 1 rfl ⟨trivial, trivial⟩ ?_
      refine aw_ret rfl rfl trivial ?_
      rw [← hI]
      exact ⟨rfl, rfl⟩
    · skip
      show aw_W _ _ _ _ (54, [some (.ref 46), some (.int 1), some (.int s), some (.int fr), some (.int (nI N)), some (.int cm), some (.int (nI k)), some (.long (fr.toInt64 + ((3 * (nI k)).toInt64))), none, l9], []) (ae_en (au σ [(27, nI q.1)]) (au α [(31, q.2.1), (32, q.2.2.1), (33, q.2.2.2.1), (35, q.2.2.2.2.1), (36, q.2.2.2.2.2.1), (38, q.2.2.2.2.2.2)]) z t0 ts)
      refine aw_go 10 rfl ⟨trivial, trivial, trivial, trivial, trivial, trivial, (cI_in (a := 1) rfl (by omega) (by decide)), trivial, trivial, trivial, trivial⟩ ?_
      show aw_W _ _ _ _ (if (lg_cmp ((fr.toInt64 + ((3 * (nI k)).toInt64)) + 2) ((α 57 (1 : Int32).toNatClampNeg).toInt64)) < 0 then 66 else 64, [some (.ref 46), some (.int 1), some (.int s), some (.int fr), some (.int (nI N)), some (.int cm), some (.int (nI k)), some (.long (fr.toInt64 + ((3 * (nI k)).toInt64))), none, l9], []) (ae_en (au σ [(27, nI q.1)]) (au α [(31, q.2.1), (32, q.2.2.1), (33, q.2.2.2.1), (35, q.2.2.2.2.1), (36, q.2.2.2.2.2.1), (38, q.2.2.2.2.2.2)]) z t0 ts)
      rw [show (1 : Int32).toNatClampNeg = 1 from cI_cl (a := 1) rfl (by omega)]
      refine aw_br (c := (lg_cmp ((fr.toInt64 + ((3 * (nI k)).toInt64)) + 2) ((α 57 1).toInt64)) < 0) (fun h63 => ?_) (fun h63 => ?_)
      · skip
        show aw_W _ _ _ _ (66, [some (.ref 46), some (.int 1), some (.int s), some (.int fr), some (.int (nI N)), some (.int cm), some (.int (nI k)), some (.long (fr.toInt64 + ((3 * (nI k)).toInt64))), none, l9], []) (ae_en (au σ [(27, nI q.1)]) (au α [(31, q.2.1), (32, q.2.2.1), (33, q.2.2.2.1), (35, q.2.2.2.2.1), (36, q.2.2.2.2.2.1), (38, q.2.2.2.2.2.2)]) z t0 ts)
        obtain ⟨a, ea, ha3, ei⟩ := (pkJ (m := m) hk2 hm40).1 ⟨h53, by rw [← hm]; exact h63⟩
        have hho : hHo m (fr + 3 * nI k) 3 := ⟨by decide, by rw [ea]; exact nI_pos (by omega), by rw [ea, nI_clamp (by omega), show (3 : Int32).toNatClampNeg = 3 from rfl]; omega⟩
        rw [if_pos hho, ea, nI_clamp (by omega)] at hI
        have hI2 := hI
        refine aw_go 5 rfl ⟨trivial, trivial, trivial, trivial, trivial, trivial⟩ ?_
        show aw_W _ _ _ _ (71, [some (.ref 46), some (.int 1), some (.int s), some (.int fr), some (.int (nI N)), some (.int cm), some (.int (nI k)), some (.long (fr.toInt64 + (3 * (nI k)).toInt64)), none, l9], [.int ((fr.toInt64 + (3 * (nI k)).toInt64).toInt32), .int (40 * 1)]) (ae_en (au σ [(27, nI q.1)]) (au α [(31, q.2.1), (32, q.2.2.1), (33, q.2.2.2.1), (35, q.2.2.2.2.1), (36, q.2.2.2.2.2.1), (38, q.2.2.2.2.2.2)]) z t0 ts)
        rw [show (fr.toInt64 + (3 * (nI k)).toInt64).toInt32 = nI a from ei]
        refine aw_go 19 rfl ⟨trivial, trivial, trivial, trivial, trivial, trivial, (cI_in (a := (40 * 1) + a) (cI_add (a := 40 * 1) (b := a) (cI_mul (a := 40) (b := 1) rfl rfl) rfl) (by omega) (by decide)), trivial, trivial, trivial, trivial, trivial, (cI_in (a := ((40 * 1) + a) + 1) (cI_add (a := (40 * 1) + a) (b := 1) (cI_add (a := 40 * 1) (b := a) (cI_mul (a := 40) (b := 1) rfl rfl) rfl) rfl) (by omega) (by decide)), trivial, trivial, trivial, trivial, trivial, (cI_in (a := ((40 * 1) + a) + 2) (cI_add (a := (40 * 1) + a) (b := 2) (cI_add (a := 40 * 1) (b := a) (cI_mul (a := 40) (b := 1) rfl rfl) rfl) rfl) (by omega) (by decide)), trivial⟩ ?_
        show aw_W _ _ _ _ (90, [some (.ref 46), some (.int 1), some (.int s), some (.int fr), some (.int (nI N)), some (.int cm), some (.int (nI k)), some (.long (fr.toInt64 + (3 * (nI k)).toInt64)), none, some (.int ((40 * 1) + (nI a)))], [.int (α 58 (((40 * 1) + (nI a)) + 2).toNatClampNeg), .int (α 58 (((40 * 1) + (nI a)) + 1).toNatClampNeg), .int (α 58 ((40 * 1) + (nI a)).toNatClampNeg), .ref 46]) (ae_en (au σ [(27, nI q.1)]) (au α [(31, q.2.1), (32, q.2.2.1), (33, q.2.2.2.1), (35, q.2.2.2.2.1), (36, q.2.2.2.2.2.1), (38, q.2.2.2.2.2.2)]) z t0 ts)
        rw [show ((40 * 1) + (nI a)).toNatClampNeg = (40 * 1) + a from cI_cl (a := (40 * 1) + a) (cI_add (a := 40 * 1) (b := a) (cI_mul (a := 40) (b := 1) rfl rfl) rfl) (by omega)]
        rw [show (((40 * 1) + (nI a)) + 1).toNatClampNeg = ((40 * 1) + a) + 1 from cI_cl (a := ((40 * 1) + a) + 1) (cI_add (a := (40 * 1) + a) (b := 1) (cI_add (a := 40 * 1) (b := a) (cI_mul (a := 40) (b := 1) rfl rfl) rfl) rfl) (by omega)]
        rw [show (((40 * 1) + (nI a)) + 2).toNatClampNeg = ((40 * 1) + a) + 2 from cI_cl (a := ((40 * 1) + a) + 2) (cI_add (a := (40 * 1) + a) (b := 2) (cI_add (a := 40 * 1) (b := a) (cI_mul (a := 40) (b := 1) rfl rfl) rfl) rfl) (by omega)]
        rw [show (40 * 1) + (nI a) = nI ((40 * 1) + a) from (cI_add (a := 40 * 1) (b := a) (cI_mul (a := 40) (b := 1) rfl rfl) rfl)]
        refine aw_call rfl rfl (ev_Model_plank (k := (α 58 ((40 * 1) + a))) (x := (α 58 (((40 * 1) + a) + 1))) (m := (α 58 (((40 * 1) + a) + 2))) rfl hq) ?_
        rintro _ _ ⟨rfl, rfl⟩
        show aw_W _ _ _ _ (91, [some (.ref 46), some (.int 1), some (.int s), some (.int fr), some (.int (nI N)), some (.int cm), some (.int (nI k)), some (.long (fr.toInt64 + (3 * (nI k)).toInt64)), none, some (.int (nI ((40 * 1) + a)))], [.int ((pPlank q.1 (q.2.1, q.2.2.1, q.2.2.2.1, q.2.2.2.2.1, q.2.2.2.2.2.1, q.2.2.2.2.2.2) (α 58 ((40 * 1) + a)) (α 58 (((40 * 1) + a) + 1)) (α 58 (((40 * 1) + a) + 2))).1)]) (ae_en (au σ [(27, nI (pPlank q.1 (q.2.1, q.2.2.1, q.2.2.2.1, q.2.2.2.2.1, q.2.2.2.2.2.1, q.2.2.2.2.2.2) (α 58 ((40 * 1) + a)) (α 58 (((40 * 1) + a) + 1)) (α 58 (((40 * 1) + a) + 2))).2.1)]) (au α [(31, (pPlank q.1 (q.2.1, q.2.2.1, q.2.2.2.1, q.2.2.2.2.1, q.2.2.2.2.2.1, q.2.2.2.2.2.2) (α 58 ((40 * 1) + a)) (α 58 (((40 * 1) + a) + 1)) (α 58 (((40 * 1) + a) + 2))).2.2.1), (32, (pPlank q.1 (q.2.1, q.2.2.1, q.2.2.2.1, q.2.2.2.2.1, q.2.2.2.2.2.1, q.2.2.2.2.2.2) (α 58 ((40 * 1) + a)) (α 58 (((40 * 1) + a) + 1)) (α 58 (((40 * 1) + a) + 2))).2.2.2.1), (33, (pPlank q.1 (q.2.1, q.2.2.1, q.2.2.2.1, q.2.2.2.2.1, q.2.2.2.2.2.1, q.2.2.2.2.2.2) (α 58 ((40 * 1) + a)) (α 58 (((40 * 1) + a) + 1)) (α 58 (((40 * 1) + a) + 2))).2.2.2.2.1), (35, (pPlank q.1 (q.2.1, q.2.2.1, q.2.2.2.1, q.2.2.2.2.1, q.2.2.2.2.2.1, q.2.2.2.2.2.2) (α 58 ((40 * 1) + a)) (α 58 (((40 * 1) + a) + 1)) (α 58 (((40 * 1) + a) + 2))).2.2.2.2.2.1), (36, (pPlank q.1 (q.2.1, q.2.2.1, q.2.2.2.1, q.2.2.2.2.1, q.2.2.2.2.2.1, q.2.2.2.2.2.2) (α 58 ((40 * 1) + a)) (α 58 (((40 * 1) + a) + 1)) (α 58 (((40 * 1) + a) + 2))).2.2.2.2.2.2.1), (38, (pPlank q.1 (q.2.1, q.2.2.1, q.2.2.2.1, q.2.2.2.2.1, q.2.2.2.2.2.1, q.2.2.2.2.2.2) (α 58 ((40 * 1) + a)) (α 58 (((40 * 1) + a) + 1)) (α 58 (((40 * 1) + a) + 2))).2.2.2.2.2.2.2)]) z t0 ts)
        refine aw_go 1 rfl ⟨trivial, trivial⟩ ?_
        refine aw_br (c := ((pPlank q.1 (q.2.1, q.2.2.1, q.2.2.2.1, q.2.2.2.2.1, q.2.2.2.2.2.1, q.2.2.2.2.2.2) (α 58 ((40 * 1) + a)) (α 58 (((40 * 1) + a) + 1)) (α 58 (((40 * 1) + a) + 2))).1) < 0) (fun h91 => ?_) (fun h91 => ?_)
        · skip
          show aw_W _ _ _ _ (93, [some (.ref 46), some (.int 1), some (.int s), some (.int fr), some (.int (nI N)), some (.int cm), some (.int (nI k)), some (.long (fr.toInt64 + (3 * (nI k)).toInt64)), none, some (.int (nI ((40 * 1) + a)))], []) (ae_en (au σ [(27, nI (pPlank q.1 (q.2.1, q.2.2.1, q.2.2.2.1, q.2.2.2.2.1, q.2.2.2.2.2.1, q.2.2.2.2.2.2) (α 58 ((40 * 1) + a)) (α 58 (((40 * 1) + a) + 1)) (α 58 (((40 * 1) + a) + 2))).2.1)]) (au α [(31, (pPlank q.1 (q.2.1, q.2.2.1, q.2.2.2.1, q.2.2.2.2.1, q.2.2.2.2.2.1, q.2.2.2.2.2.2) (α 58 ((40 * 1) + a)) (α 58 (((40 * 1) + a) + 1)) (α 58 (((40 * 1) + a) + 2))).2.2.1), (32, (pPlank q.1 (q.2.1, q.2.2.1, q.2.2.2.1, q.2.2.2.2.1, q.2.2.2.2.2.1, q.2.2.2.2.2.2) (α 58 ((40 * 1) + a)) (α 58 (((40 * 1) + a) + 1)) (α 58 (((40 * 1) + a) + 2))).2.2.2.1), (33, (pPlank q.1 (q.2.1, q.2.2.1, q.2.2.2.1, q.2.2.2.2.1, q.2.2.2.2.2.1, q.2.2.2.2.2.2) (α 58 ((40 * 1) + a)) (α 58 (((40 * 1) + a) + 1)) (α 58 (((40 * 1) + a) + 2))).2.2.2.2.1), (35, (pPlank q.1 (q.2.1, q.2.2.1, q.2.2.2.1, q.2.2.2.2.1, q.2.2.2.2.2.1, q.2.2.2.2.2.2) (α 58 ((40 * 1) + a)) (α 58 (((40 * 1) + a) + 1)) (α 58 (((40 * 1) + a) + 2))).2.2.2.2.2.1), (36, (pPlank q.1 (q.2.1, q.2.2.1, q.2.2.2.1, q.2.2.2.2.1, q.2.2.2.2.2.1, q.2.2.2.2.2.2) (α 58 ((40 * 1) + a)) (α 58 (((40 * 1) + a) + 1)) (α 58 (((40 * 1) + a) + 2))).2.2.2.2.2.2.1), (38, (pPlank q.1 (q.2.1, q.2.2.1, q.2.2.2.1, q.2.2.2.2.1, q.2.2.2.2.2.1, q.2.2.2.2.2.2) (α 58 ((40 * 1) + a)) (α 58 (((40 * 1) + a) + 1)) (α 58 (((40 * 1) + a) + 2))).2.2.2.2.2.2.2)]) z t0 ts)
          refine aw_go 2 rfl ⟨trivial, trivial, trivial⟩ ?_
          show aw_W _ _ _ _ (39, [some (.ref 46), some (.int 1), some (.int s), some (.int fr), some (.int (nI N)), some (.int cm), some (.int ((nI k) + 1)), some (.long (fr.toInt64 + (3 * (nI k)).toInt64)), none, some (.int (nI ((40 * 1) + a)))], []) (ae_en (au σ [(27, nI (pPlank q.1 (q.2.1, q.2.2.1, q.2.2.2.1, q.2.2.2.2.1, q.2.2.2.2.2.1, q.2.2.2.2.2.2) (α 58 ((40 * 1) + a)) (α 58 (((40 * 1) + a) + 1)) (α 58 (((40 * 1) + a) + 2))).2.1)]) (au α [(31, (pPlank q.1 (q.2.1, q.2.2.1, q.2.2.2.1, q.2.2.2.2.1, q.2.2.2.2.2.1, q.2.2.2.2.2.2) (α 58 ((40 * 1) + a)) (α 58 (((40 * 1) + a) + 1)) (α 58 (((40 * 1) + a) + 2))).2.2.1), (32, (pPlank q.1 (q.2.1, q.2.2.1, q.2.2.2.1, q.2.2.2.2.1, q.2.2.2.2.2.1, q.2.2.2.2.2.2) (α 58 ((40 * 1) + a)) (α 58 (((40 * 1) + a) + 1)) (α 58 (((40 * 1) + a) + 2))).2.2.2.1), (33, (pPlank q.1 (q.2.1, q.2.2.1, q.2.2.2.1, q.2.2.2.2.1, q.2.2.2.2.2.1, q.2.2.2.2.2.2) (α 58 ((40 * 1) + a)) (α 58 (((40 * 1) + a) + 1)) (α 58 (((40 * 1) + a) + 2))).2.2.2.2.1), (35, (pPlank q.1 (q.2.1, q.2.2.1, q.2.2.2.1, q.2.2.2.2.1, q.2.2.2.2.2.1, q.2.2.2.2.2.2) (α 58 ((40 * 1) + a)) (α 58 (((40 * 1) + a) + 1)) (α 58 (((40 * 1) + a) + 2))).2.2.2.2.2.1), (36, (pPlank q.1 (q.2.1, q.2.2.1, q.2.2.2.1, q.2.2.2.2.1, q.2.2.2.2.2.1, q.2.2.2.2.2.2) (α 58 ((40 * 1) + a)) (α 58 (((40 * 1) + a) + 1)) (α 58 (((40 * 1) + a) + 2))).2.2.2.2.2.2.1), (38, (pPlank q.1 (q.2.1, q.2.2.1, q.2.2.2.1, q.2.2.2.2.1, q.2.2.2.2.2.1, q.2.2.2.2.2.2) (α 58 ((40 * 1) + a)) (α 58 (((40 * 1) + a) + 1)) (α 58 (((40 * 1) + a) + 2))).2.2.2.2.2.2.2)]) z t0 ts)
          rw [show (nI k) + 1 = nI (k + 1) from (cI_add (a := k) (b := 1) rfl rfl)]
          exact lp_mPl_1 (q := (pPlank q.1 q.2 (α 58 (40 * 1 + a)) (α 58 (40 * 1 + (a + 1))) (α 58 (40 * 1 + (a + 2)))).2) hm hm40 hN (pPlank_n hq) (k + 1) (by omega) (by rw [show N - (k + 1) = r by omega, ← hI2]; exact congrArg (fun y => pPks _ m fr r (k + 1) y _) (if_pos h91).symm)
        · skip
          show aw_W _ _ _ _ (92, [some (.ref 46), some (.int 1), some (.int s), some (.int fr), some (.int (nI N)), some (.int cm), some (.int (nI k)), some (.long (fr.toInt64 + (3 * (nI k)).toInt64)), none, some (.int (nI ((40 * 1) + a)))], []) (ae_en (au σ [(27, nI (pPlank q.1 (q.2.1, q.2.2.1, q.2.2.2.1, q.2.2.2.2.1, q.2.2.2.2.2.1, q.2.2.2.2.2.2) (α 58 ((40 * 1) + a)) (α 58 (((40 * 1) + a) + 1)) (α 58 (((40 * 1) + a) + 2))).2.1)]) (au α [(31, (pPlank q.1 (q.2.1, q.2.2.1, q.2.2.2.1, q.2.2.2.2.1, q.2.2.2.2.2.1, q.2.2.2.2.2.2) (α 58 ((40 * 1) + a)) (α 58 (((40 * 1) + a) + 1)) (α 58 (((40 * 1) + a) + 2))).2.2.1), (32, (pPlank q.1 (q.2.1, q.2.2.1, q.2.2.2.1, q.2.2.2.2.1, q.2.2.2.2.2.1, q.2.2.2.2.2.2) (α 58 ((40 * 1) + a)) (α 58 (((40 * 1) + a) + 1)) (α 58 (((40 * 1) + a) + 2))).2.2.2.1), (33, (pPlank q.1 (q.2.1, q.2.2.1, q.2.2.2.1, q.2.2.2.2.1, q.2.2.2.2.2.1, q.2.2.2.2.2.2) (α 58 ((40 * 1) + a)) (α 58 (((40 * 1) + a) + 1)) (α 58 (((40 * 1) + a) + 2))).2.2.2.2.1), (35, (pPlank q.1 (q.2.1, q.2.2.1, q.2.2.2.1, q.2.2.2.2.1, q.2.2.2.2.2.1, q.2.2.2.2.2.2) (α 58 ((40 * 1) + a)) (α 58 (((40 * 1) + a) + 1)) (α 58 (((40 * 1) + a) + 2))).2.2.2.2.2.1), (36, (pPlank q.1 (q.2.1, q.2.2.1, q.2.2.2.1, q.2.2.2.2.1, q.2.2.2.2.2.1, q.2.2.2.2.2.2) (α 58 ((40 * 1) + a)) (α 58 (((40 * 1) + a) + 1)) (α 58 (((40 * 1) + a) + 2))).2.2.2.2.2.2.1), (38, (pPlank q.1 (q.2.1, q.2.2.1, q.2.2.2.1, q.2.2.2.2.1, q.2.2.2.2.2.1, q.2.2.2.2.2.2) (α 58 ((40 * 1) + a)) (α 58 (((40 * 1) + a) + 1)) (α 58 (((40 * 1) + a) + 2))).2.2.2.2.2.2.2)]) z t0 ts)
          refine aw_go 3 rfl ⟨trivial, trivial, trivial, trivial⟩ ?_
          show aw_W _ _ _ _ (39, [some (.ref 46), some (.int 1), some (.int s), some (.int fr), some (.int (nI N)), some (.int (cm + 1)), some (.int ((nI k) + 1)), some (.long (fr.toInt64 + (3 * (nI k)).toInt64)), none, some (.int (nI ((40 * 1) + a)))], []) (ae_en (au σ [(27, nI (pPlank q.1 (q.2.1, q.2.2.1, q.2.2.2.1, q.2.2.2.2.1, q.2.2.2.2.2.1, q.2.2.2.2.2.2) (α 58 ((40 * 1) + a)) (α 58 (((40 * 1) + a) + 1)) (α 58 (((40 * 1) + a) + 2))).2.1)]) (au α [(31, (pPlank q.1 (q.2.1, q.2.2.1, q.2.2.2.1, q.2.2.2.2.1, q.2.2.2.2.2.1, q.2.2.2.2.2.2) (α 58 ((40 * 1) + a)) (α 58 (((40 * 1) + a) + 1)) (α 58 (((40 * 1) + a) + 2))).2.2.1), (32, (pPlank q.1 (q.2.1, q.2.2.1, q.2.2.2.1, q.2.2.2.2.1, q.2.2.2.2.2.1, q.2.2.2.2.2.2) (α 58 ((40 * 1) + a)) (α 58 (((40 * 1) + a) + 1)) (α 58 (((40 * 1) + a) + 2))).2.2.2.1), (33, (pPlank q.1 (q.2.1, q.2.2.1, q.2.2.2.1, q.2.2.2.2.1, q.2.2.2.2.2.1, q.2.2.2.2.2.2) (α 58 ((40 * 1) + a)) (α 58 (((40 * 1) + a) + 1)) (α 58 (((40 * 1) + a) + 2))).2.2.2.2.1), (35, (pPlank q.1 (q.2.1, q.2.2.1, q.2.2.2.1, q.2.2.2.2.1, q.2.2.2.2.2.1, q.2.2.2.2.2.2) (α 58 ((40 * 1) + a)) (α 58 (((40 * 1) + a) + 1)) (α 58 (((40 * 1) + a) + 2))).2.2.2.2.2.1), (36, (pPlank q.1 (q.2.1, q.2.2.1, q.2.2.2.1, q.2.2.2.2.1, q.2.2.2.2.2.1, q.2.2.2.2.2.2) (α 58 ((40 * 1) + a)) (α 58 (((40 * 1) + a) + 1)) (α 58 (((40 * 1) + a) + 2))).2.2.2.2.2.2.1), (38, (pPlank q.1 (q.2.1, q.2.2.1, q.2.2.2.1, q.2.2.2.2.1, q.2.2.2.2.2.1, q.2.2.2.2.2.2) (α 58 ((40 * 1) + a)) (α 58 (((40 * 1) + a) + 1)) (α 58 (((40 * 1) + a) + 2))).2.2.2.2.2.2.2)]) z t0 ts)
          rw [show (nI k) + 1 = nI (k + 1) from (cI_add (a := k) (b := 1) rfl rfl)]
          exact lp_mPl_1 (q := (pPlank q.1 q.2 (α 58 (40 * 1 + a)) (α 58 (40 * 1 + (a + 1))) (α 58 (40 * 1 + (a + 2)))).2) hm hm40 hN (pPlank_n hq) (k + 1) (by omega) (by rw [show N - (k + 1) = r by omega, ← hI2]; exact congrArg (fun y => pPks _ m fr r (k + 1) y _) (if_neg h91).symm)
      · skip
        show aw_W _ _ _ _ (64, [some (.ref 46), some (.int 1), some (.int s), some (.int fr), some (.int (nI N)), some (.int cm), some (.int (nI k)), some (.long (fr.toInt64 + ((3 * (nI k)).toInt64))), none, l9], []) (ae_en (au σ [(27, nI q.1)]) (au α [(31, q.2.1), (32, q.2.2.1), (33, q.2.2.2.1), (35, q.2.2.2.2.1), (36, q.2.2.2.2.2.1), (38, q.2.2.2.2.2.2)]) z t0 ts)
        rw [if_neg (fun w => h63 (by rw [hm]; exact ((pkJ (m := m) hk2 hm40).2 w).2))] at hI
        refine aw_go 1 rfl ⟨trivial, trivial⟩ ?_
        refine aw_ret rfl rfl trivial ?_
        rw [← hI]
        exact ⟨rfl, rfl⟩
termination_by N - k
decreasing_by all_goals omega
theorem em_planks_1 {m n : Nat} {s fr x : Int32} {zd : Nat} (hn : (σ 27) = nI n) (hn10 : n ≤ 10) (hso : α 56 1 = -1 ∨ ¬ α 56 1 < 0) (hm : ¬ α 56 1 < 0 → α 57 1 = nI m) (hm40 : m ≤ 40) : aw_X P (zd + 4) 176 [.ref 46, .int 1, .int s, .int fr, .int x] (ae_en σ α z t0 ts) (fun r H => r = some (.int ((pPlanks (fun j => α 58 (40 * 1 + j)) m (α 56 1) s fr x (n, (α 31, α 32, α 33, α 35, α 36, α 38))).1)) ∧ H = (ae_en (au σ [(27, nI (pPlanks (fun j => α 58 (40 * 1 + j)) m (α 56 1) s fr x (n, (α 31, α 32, α 33, α 35, α 36, α 38))).2.1)]) (au α [(31, (pPlanks (fun j => α 58 (40 * 1 + j)) m (α 56 1) s fr x (n, (α 31, α 32, α 33, α 35, α 36, α 38))).2.2.1), (32, (pPlanks (fun j => α 58 (40 * 1 + j)) m (α 56 1) s fr x (n, (α 31, α 32, α 33, α 35, α 36, α 38))).2.2.2.1), (33, (pPlanks (fun j => α 58 (40 * 1 + j)) m (α 56 1) s fr x (n, (α 31, α 32, α 33, α 35, α 36, α 38))).2.2.2.2.1), (35, (pPlanks (fun j => α 58 (40 * 1 + j)) m (α 56 1) s fr x (n, (α 31, α 32, α 33, α 35, α 36, α 38))).2.2.2.2.2.1), (36, (pPlanks (fun j => α 58 (40 * 1 + j)) m (α 56 1) s fr x (n, (α 31, α 32, α 33, α 35, α 36, α 38))).2.2.2.2.2.2.1), (38, (pPlanks (fun j => α 58 (40 * 1 + j)) m (α 56 1) s fr x (n, (α 31, α 32, α 33, α 35, α 36, α 38))).2.2.2.2.2.2.2)]) z t0 ts)) := by
  refine aw_ev (cd := cd_Model_planks) rfl rfl rfl ?_
  show aw_W _ _ _ _ (0, [some (.ref 46), some (.int 1), some (.int s), some (.int fr), some (.int x), none, none, none, none, none], []) (ae_en σ α z t0 ts)
  refine aw_go 1 rfl ⟨trivial, trivial⟩ ?_
  refine aw_callE rfl rfl (ev_Model_isSheet (s := 1)) ?_
  show aw_W _ _ _ _ (2, [some (.ref 46), some (.int 1), some (.int s), some (.int fr), some (.int x), none, none, none, none, none], [.int (bI (iP 4 1))]) (ae_en σ α z t0 ts)
  refine aw_go 1 rfl ⟨trivial, trivial⟩ ?_
  refine aw_br (c := (bI (iP 4 1)) = 0) (fun h2 => ?_) (fun h2 => ?_)
  · skip
    have h2 := bI_f h2
    show aw_W _ _ _ _ (13, [some (.ref 46), some (.int 1), some (.int s), some (.int fr), some (.int x), none, none, none, none, none], []) (ae_en σ α z t0 ts)
    exact absurd h2 (by decide)
  · skip
    have h2 := bI_t h2
    show aw_W _ _ _ _ (3, [some (.ref 46), some (.int 1), some (.int s), some (.int fr), some (.int x), none, none, none, none, none], []) (ae_en σ α z t0 ts)
    refine aw_go 3 rfl ⟨trivial, trivial, trivial, trivial⟩ ?_
    refine aw_callE rfl rfl (em_in (v := s) (a := 0) (b := 2)) ?_
    show aw_W _ _ _ _ (7, [some (.ref 46), some (.int 1), some (.int s), some (.int fr), some (.int x), none, none, none, none, none], [.int (bI (¬ s < 0 ∧ ¬ 2 < s))]) (ae_en σ α z t0 ts)
    refine aw_go 1 rfl ⟨trivial, trivial⟩ ?_
    refine aw_br (c := (bI (¬ s < 0 ∧ ¬ 2 < s)) = 0) (fun h7 => ?_) (fun h7 => ?_)
    · skip
      have h7 := bI_f h7
      show aw_W _ _ _ _ (13, [some (.ref 46), some (.int 1), some (.int s), some (.int fr), some (.int x), none, none, none, none, none], []) (ae_en σ α z t0 ts)
      refine aw_go 1 rfl ⟨trivial, trivial⟩ ?_
      refine aw_ret rfl rfl trivial ?_
      rw [pPlanks, if_pos (Classical.byContradiction fun q => h7 ⟨fun w => q (Or.inl w), fun w => q (Or.inr (Or.inl w))⟩), ← hn]
      exact ⟨rfl, rfl⟩
    · skip
      have h7 := bI_t h7
      show aw_W _ _ _ _ (8, [some (.ref 46), some (.int 1), some (.int s), some (.int fr), some (.int x), none, none, none, none, none], []) (ae_en σ α z t0 ts)
      refine aw_go 3 rfl ⟨trivial, trivial, trivial, trivial⟩ ?_
      refine aw_callE rfl rfl (em_in (v := x) (a := 0) (b := 10)) ?_
      show aw_W _ _ _ _ (12, [some (.ref 46), some (.int 1), some (.int s), some (.int fr), some (.int x), none, none, none, none, none], [.int (bI (¬ x < 0 ∧ ¬ 10 < x))]) (ae_en σ α z t0 ts)
      refine aw_go 1 rfl ⟨trivial, trivial⟩ ?_
      refine aw_br (c := ¬ (bI (¬ x < 0 ∧ ¬ 10 < x)) = 0) (fun h12 => ?_) (fun h12 => ?_)
      · skip
        have h12 := bI_t h12
        show aw_W _ _ _ _ (15, [some (.ref 46), some (.int 1), some (.int s), some (.int fr), some (.int x), none, none, none, none, none], []) (ae_en σ α z t0 ts)
        obtain ⟨N, hN, rfl⟩ := nI_of2 (M := 10) (n := 10) rfl h12.1 (Int32.not_lt.mp h12.2)
        refine aw_go 5 rfl ⟨trivial, trivial, trivial, (cI_in (a := 1) rfl (by omega) (by decide)), trivial, trivial⟩ ?_
        show aw_W _ _ _ _ (if (α 56 (1 : Int32).toNatClampNeg) < 0 then 28 else 20, [some (.ref 46), some (.int 1), some (.int s), some (.int fr), some (.int (nI N)), none, none, none, none, none], []) (ae_en σ α z t0 ts)
        rw [show (1 : Int32).toNatClampNeg = 1 from cI_cl (a := 1) rfl (by omega)]
        refine aw_br (c := (α 56 1) < 0) (fun h19 => ?_) (fun h19 => ?_)
        · skip
          show aw_W _ _ _ _ (28, [some (.ref 46), some (.int 1), some (.int s), some (.int fr), some (.int (nI N)), none, none, none, none, none], []) (ae_en σ α z t0 ts)
          refine aw_go 5 rfl ⟨trivial, trivial, trivial, (cI_in (a := 1) rfl (by omega) (by decide)), trivial, trivial⟩ ?_
          show aw_W _ _ _ _ (if (0 : Int32) ≤ (α 56 (1 : Int32).toNatClampNeg) then 35 else 33, [some (.ref 46), some (.int 1), some (.int s), some (.int fr), some (.int (nI N)), none, none, none, none, none], []) (ae_en σ α z t0 ts)
          rw [show (1 : Int32).toNatClampNeg = 1 from cI_cl (a := 1) rfl (by omega)]
          refine aw_br (c := (0 : Int32) ≤ (α 56 1)) (fun h32 => ?_) (fun h32 => ?_)
          · skip
            show aw_W _ _ _ _ (35, [some (.ref 46), some (.int 1), some (.int s), some (.int fr), some (.int (nI N)), none, none, none, none, none], []) (ae_en σ α z t0 ts)
            exact absurd h19 (Int32.not_lt.mpr h32)
          · skip
            show aw_W _ _ _ _ (33, [some (.ref 46), some (.int 1), some (.int s), some (.int fr), some (.int (nI N)), none, none, none, none, none], []) (ae_en σ α z t0 ts)
            refine aw_go 1 rfl ⟨trivial, trivial⟩ ?_
            refine aw_ret rfl rfl trivial ?_
            rw [pPlanks, if_neg (fun q => by rcases q with q | q | q | q; exact h7.1 q; exact h7.2 q; exact h12.1 q; exact h12.2 q), if_neg (fun q => q.1 (hso.resolve_right (fun w => w h19))), if_pos (hso.resolve_right (fun w => w h19)), ← hn]
            exact ⟨rfl, rfl⟩
        · skip
          show aw_W _ _ _ _ (20, [some (.ref 46), some (.int 1), some (.int s), some (.int fr), some (.int (nI N)), none, none, none, none, none], []) (ae_en σ α z t0 ts)
          refine aw_go 6 rfl ⟨trivial, trivial, trivial, (cI_in (a := 1) rfl (by omega) (by decide)), trivial, trivial, trivial⟩ ?_
          show aw_W _ _ _ _ (if (α 56 (1 : Int32).toNatClampNeg) = s then 28 else 26, [some (.ref 46), some (.int 1), some (.int s), some (.int fr), some (.int (nI N)), none, none, none, none, none], []) (ae_en σ α z t0 ts)
          rw [show (1 : Int32).toNatClampNeg = 1 from cI_cl (a := 1) rfl (by omega)]
          refine aw_br (c := (α 56 1) = s) (fun h25 => ?_) (fun h25 => ?_)
          · skip
            show aw_W _ _ _ _ (28, [some (.ref 46), some (.int 1), some (.int s), some (.int fr), some (.int (nI N)), none, none, none, none, none], []) (ae_en σ α z t0 ts)
            refine aw_go 5 rfl ⟨trivial, trivial, trivial, (cI_in (a := 1) rfl (by omega) (by decide)), trivial, trivial⟩ ?_
            show aw_W _ _ _ _ (if (0 : Int32) ≤ (α 56 (1 : Int32).toNatClampNeg) then 35 else 33, [some (.ref 46), some (.int 1), some (.int s), some (.int fr), some (.int (nI N)), none, none, none, none, none], []) (ae_en σ α z t0 ts)
            rw [show (1 : Int32).toNatClampNeg = 1 from cI_cl (a := 1) rfl (by omega)]
            refine aw_br (c := (0 : Int32) ≤ (α 56 1)) (fun h32 => ?_) (fun h32 => ?_)
            · skip
              show aw_W _ _ _ _ (35, [some (.ref 46), some (.int 1), some (.int s), some (.int fr), some (.int (nI N)), none, none, none, none, none], []) (ae_en σ α z t0 ts)
              refine aw_go 4 rfl ⟨trivial, trivial, trivial, trivial, trivial⟩ ?_
              rw [pPlanks, if_neg (fun q => by rcases q with q | q | q | q; exact h7.1 q; exact h7.2 q; exact h12.1 q; exact h12.2 q), if_neg (fun q => q.2 h25), if_neg (fun q => h19 (by rw [q]; decide)), nI_clamp (by omega)]
              exact aw_to (lp_mPl_1 (q := (n, (α 31, α 32, α 33, α 35, α 36, α 38))) (hm h19) hm40 hN hn10 0 (Nat.zero_le _) rfl) rfl (by rw [← hn]; rfl)
            · skip
              show aw_W _ _ _ _ (33, [some (.ref 46), some (.int 1), some (.int s), some (.int fr), some (.int (nI N)), none, none, none, none, none], []) (ae_en σ α z t0 ts)
              exact absurd (Int32.not_le.mp h32) h19
          · skip
            show aw_W _ _ _ _ (26, [some (.ref 46), some (.int 1), some (.int s), some (.int fr), some (.int (nI N)), none, none, none, none, none], []) (ae_en σ α z t0 ts)
            refine aw_go 1 rfl ⟨trivial, trivial⟩ ?_
            refine aw_ret rfl rfl trivial ?_
            rw [pPlanks, if_neg (fun q => by rcases q with q | q | q | q; exact h7.1 q; exact h7.2 q; exact h12.1 q; exact h12.2 q), if_pos ⟨fun w => h19 (by rw [w]; decide), h25⟩, ← hn]
            exact ⟨rfl, rfl⟩
      · skip
        have h12 := bI_f (Classical.not_not.mp h12)
        show aw_W _ _ _ _ (13, [some (.ref 46), some (.int 1), some (.int s), some (.int fr), some (.int x), none, none, none, none, none], []) (ae_en σ α z t0 ts)
        refine aw_go 1 rfl ⟨trivial, trivial⟩ ?_
        refine aw_ret rfl rfl trivial ?_
        rw [pPlanks, if_pos (Classical.byContradiction fun q => h12 ⟨fun w => q (Or.inr (Or.inr (Or.inl w))), fun w => q (Or.inr (Or.inr (Or.inr w)))⟩), ← hn]
        exact ⟨rfl, rfl⟩
theorem lp_mPl_2 {zd : Nat} {m N : Nat} {s fr cm : Int32} {q : Nat × ae_S6} {R : Int32 × Nat × ae_S6} {l7 l9 : Option Value} (hm : α 57 2 = nI m) (hm40 : m ≤ 40) (hN : N ≤ 10) (hq : q.1 ≤ 10) (k : Nat) (hk : k ≤ N) (hI : pPks (fun j => α 58 (40 * 2 + j)) m fr (N - k) k cm q = R) : aw_W P (zd + 3) cd_Model_planks (fun r H => r = some (.int R.1) ∧ H = (ae_en (au σ [(27, nI R.2.1)]) (au α [(31, R.2.2.1), (32, R.2.2.2.1), (33, R.2.2.2.2.1), (35, R.2.2.2.2.2.1), (36, R.2.2.2.2.2.2.1), (38, R.2.2.2.2.2.2.2)]) z t0 ts)) (39, [some (.ref 46), some (.int 2), some (.int s), some (.int fr), some (.int (nI N)), some (.int cm), some (.int (nI k)), l7, none, l9], []) (ae_en (au σ [(27, nI q.1)]) (au α [(31, q.2.1), (32, q.2.2.1), (33, q.2.2.2.1), (35, q.2.2.2.2.1), (36, q.2.2.2.2.2.1), (38, q.2.2.2.2.2.2)]) z t0 ts) := by
  refine aw_go 3 rfl ⟨trivial, trivial, trivial, trivial⟩ ?_
  refine aw_br (c := (nI N) ≤ (nI k)) (fun h41 => ?_) (fun h41 => ?_)
  · skip
    have h41 := cI_leT (a := N) (b := k) rfl rfl (by omega) (by omega) h41
    show aw_W _ _ _ _ (95, [some (.ref 46), some (.int 2), some (.int s), some (.int fr), some (.int (nI N)), some (.int cm), some (.int (nI k)), l7, none, l9], []) (ae_en (au σ [(27, nI q.1)]) (au α [(31, q.2.1), (32, q.2.2.1), (33, q.2.2.2.1), (35, q.2.2.2.2.1), (36, q.2.2.2.2.2.1), (38, q.2.2.2.2.2.2)]) z t0 ts)
    rw [show N - k = 0 by omega] at hI
    refine aw_go 1 rfl ⟨trivial, trivial⟩ ?_
    refine aw_ret rfl rfl trivial ?_
    rw [← hI]
    exact ⟨rfl, rfl⟩
  · skip
    have h41 := cI_leF (a := N) (b := k) rfl rfl (by omega) (by omega) h41
    show aw_W _ _ _ _ (42, [some (.ref 46), some (.int 2), some (.int s), some (.int fr), some (.int (nI N)), some (.int cm), some (.int (nI k)), l7, none, l9], []) (ae_en (au σ [(27, nI q.1)]) (au α [(31, q.2.1), (32, q.2.2.1), (33, q.2.2.2.1), (35, q.2.2.2.2.1), (36, q.2.2.2.2.2.1), (38, q.2.2.2.2.2.2)]) z t0 ts)
    obtain ⟨r, hr⟩ : ∃ r, N - k = r + 1 := ⟨N - k - 1, by omega⟩
    rw [hr, pPks] at hI
    have hk2 : k < 10 := by omega
    refine aw_go 12 rfl ⟨trivial, trivial, trivial, trivial, trivial, trivial, trivial, trivial, trivial, trivial, trivial, trivial, trivial⟩ ?_
    show aw_W _ _ _ _ (if (lg_cmp (fr.toInt64 + ((3 * (nI k)).toInt64)) 0) < 0 then 64 else 54, [some (.ref 46), some (.int 2), some (.int s), some (.int fr), some (.int (nI N)), some (.int cm), some (.int (nI k)), some (.long (fr.toInt64 + ((3 * (nI k)).toInt64))), none, l9], []) (ae_en (au σ [(27, nI q.1)]) (au α [(31, q.2.1), (32, q.2.2.1), (33, q.2.2.2.1), (35, q.2.2.2.2.1), (36, q.2.2.2.2.2.1), (38, q.2.2.2.2.2.2)]) z t0 ts)
    refine aw_br (c := (lg_cmp (fr.toInt64 + ((3 * (nI k)).toInt64)) 0) < 0) (fun h53 => ?_) (fun h53 => ?_)
    · skip
      show aw_W _ _ _ _ (64, [some (.ref 46), some (.int 2), some (.int s), some (.int fr), some (.int (nI N)), some (.int cm), some (.int (nI k)), some (.long (fr.toInt64 + ((3 * (nI k)).toInt64))), none, l9], []) (ae_en (au σ [(27, nI q.1)]) (au α [(31, q.2.1), (32, q.2.2.1), (33, q.2.2.2.1), (35, q.2.2.2.2.1), (36, q.2.2.2.2.2.1), (38, q.2.2.2.2.2.2)]) z t0 ts)
      rw [if_neg (fun w => absurd h53 ((pkJ (m := m) hk2 hm40).2 w).1)] at hI
      refine aw_go 1 rfl ⟨trivial, trivial⟩ ?_
      refine aw_ret rfl rfl trivial ?_
      rw [← hI]
      exact ⟨rfl, rfl⟩
    · skip
      show aw_W _ _ _ _ (54, [some (.ref 46), some (.int 2), some (.int s), some (.int fr), some (.int (nI N)), some (.int cm), some (.int (nI k)), some (.long (fr.toInt64 + ((3 * (nI k)).toInt64))), none, l9], []) (ae_en (au σ [(27, nI q.1)]) (au α [(31, q.2.1), (32, q.2.2.1), (33, q.2.2.2.1), (35, q.2.2.2.2.1), (36, q.2.2.2.2.2.1), (38, q.2.2.2.2.2.2)]) z t0 ts)
      refine aw_go 10 rfl ⟨trivial, trivial, trivial, trivial, trivial, trivial, (cI_in (a := 2) rfl (by omega) (by decide)), trivial, trivial, trivial, trivial⟩ ?_
      show aw_W _ _ _ _ (if (lg_cmp ((fr.toInt64 + ((3 * (nI k)).toInt64)) + 2) ((α 57 (2 : Int32).toNatClampNeg).toInt64)) < 0 then 66 else 64, [some (.ref 46), some (.int 2), some (.int s), some (.int fr), some (.int (nI N)), some (.int cm), some (.int (nI k)), some (.long (fr.toInt64 + ((3 * (nI k)).toInt64))), none, l9], []) (ae_en (au σ [(27, nI q.1)]) (au α [(31, q.2.1), (32, q.2.2.1), (33, q.2.2.2.1), (35, q.2.2.2.2.1), (36, q.2.2.2.2.2.1), (38, q.2.2.2.2.2.2)]) z t0 ts)
      rw [show (2 : Int32).toNatClampNeg = 2 from cI_cl (a := 2) rfl (by omega)]
      refine aw_br (c := (lg_cmp ((fr.toInt64 + ((3 * (nI k)).toInt64)) + 2) ((α 57 2).toInt64)) < 0) (fun h63 => ?_) (fun h63 => ?_)
      · skip
        show aw_W _ _ _ _ (66, [some (.ref 46), some (.int 2), some (.int s), some (.int fr), some (.int (nI N)), some (.int cm), some (.int (nI k)), some (.long (fr.toInt64 + ((3 * (nI k)).toInt64))), none, l9], []) (ae_en (au σ [(27, nI q.1)]) (au α [(31, q.2.1), (32, q.2.2.1), (33, q.2.2.2.1), (35, q.2.2.2.2.1), (36, q.2.2.2.2.2.1), (38, q.2.2.2.2.2.2)]) z t0 ts)
        obtain ⟨a, ea, ha3, ei⟩ := (pkJ (m := m) hk2 hm40).1 ⟨h53, by rw [← hm]; exact h63⟩
        have hho : hHo m (fr + 3 * nI k) 3 := ⟨by decide, by rw [ea]; exact nI_pos (by omega), by rw [ea, nI_clamp (by omega), show (3 : Int32).toNatClampNeg = 3 from rfl]; omega⟩
        rw [if_pos hho, ea, nI_clamp (by omega)] at hI
        have hI2 := hI
        refine aw_go 5 rfl ⟨trivial, trivial, trivial, trivial, trivial, trivial⟩ ?_
        show aw_W _ _ _ _ (71, [some (.ref 46), some (.int 2), some (.int s), some (.int fr), some (.int (nI N)), some (.int cm), some (.int (nI k)), some (.long (fr.toInt64 + (3 * (nI k)).toInt64)), none, l9], [.int ((fr.toInt64 + (3 * (nI k)).toInt64).toInt32), .int (40 * 2)]) (ae_en (au σ [(27, nI q.1)]) (au α [(31, q.2.1), (32, q.2.2.1), (33, q.2.2.2.1), (35, q.2.2.2.2.1), (36, q.2.2.2.2.2.1), (38, q.2.2.2.2.2.2)]) z t0 ts)
        rw [show (fr.toInt64 + (3 * (nI k)).toInt64).toInt32 = nI a from ei]
        refine aw_go 19 rfl ⟨trivial, trivial, trivial, trivial, trivial, trivial, (cI_in (a := (40 * 2) + a) (cI_add (a := 40 * 2) (b := a) (cI_mul (a := 40) (b := 2) rfl rfl) rfl) (by omega) (by decide)), trivial, trivial, trivial, trivial, trivial, (cI_in (a := ((40 * 2) + a) + 1) (cI_add (a := (40 * 2) + a) (b := 1) (cI_add (a := 40 * 2) (b := a) (cI_mul (a := 40) (b := 2) rfl rfl) rfl) rfl) (by omega) (by decide)), trivial, trivial, trivial, trivial, trivial, (cI_in (a := ((40 * 2) + a) + 2) (cI_add (a := (40 * 2) + a) (b := 2) (cI_add (a := 40 * 2) (b := a) (cI_mul (a := 40) (b := 2) rfl rfl) rfl) rfl) (by omega) (by decide)), trivial⟩ ?_
        show aw_W _ _ _ _ (90, [some (.ref 46), some (.int 2), some (.int s), some (.int fr), some (.int (nI N)), some (.int cm), some (.int (nI k)), some (.long (fr.toInt64 + (3 * (nI k)).toInt64)), none, some (.int ((40 * 2) + (nI a)))], [.int (α 58 (((40 * 2) + (nI a)) + 2).toNatClampNeg), .int (α 58 (((40 * 2) + (nI a)) + 1).toNatClampNeg), .int (α 58 ((40 * 2) + (nI a)).toNatClampNeg), .ref 46]) (ae_en (au σ [(27, nI q.1)]) (au α [(31, q.2.1), (32, q.2.2.1), (33, q.2.2.2.1), (35, q.2.2.2.2.1), (36, q.2.2.2.2.2.1), (38, q.2.2.2.2.2.2)]) z t0 ts)
        rw [show ((40 * 2) + (nI a)).toNatClampNeg = (40 * 2) + a from cI_cl (a := (40 * 2) + a) (cI_add (a := 40 * 2) (b := a) (cI_mul (a := 40) (b := 2) rfl rfl) rfl) (by omega)]
        rw [show (((40 * 2) + (nI a)) + 1).toNatClampNeg = ((40 * 2) + a) + 1 from cI_cl (a := ((40 * 2) + a) + 1) (cI_add (a := (40 * 2) + a) (b := 1) (cI_add (a := 40 * 2) (b := a) (cI_mul (a := 40) (b := 2) rfl rfl) rfl) rfl) (by omega)]
        rw [show (((40 * 2) + (nI a)) + 2).toNatClampNeg = ((40 * 2) + a) + 2 from cI_cl (a := ((40 * 2) + a) + 2) (cI_add (a := (40 * 2) + a) (b := 2) (cI_add (a := 40 * 2) (b := a) (cI_mul (a := 40) (b := 2) rfl rfl) rfl) rfl) (by omega)]
        rw [show (40 * 2) + (nI a) = nI ((40 * 2) + a) from (cI_add (a := 40 * 2) (b := a) (cI_mul (a := 40) (b := 2) rfl rfl) rfl)]
        refine aw_call rfl rfl (ev_Model_plank (k := (α 58 ((40 * 2) + a))) (x := (α 58 (((40 * 2) + a) + 1))) (m := (α 58 (((40 * 2) + a) + 2))) rfl hq) ?_
        rintro _ _ ⟨rfl, rfl⟩
        show aw_W _ _ _ _ (91, [some (.ref 46), some (.int 2), some (.int s), some (.int fr), some (.int (nI N)), some (.int cm), some (.int (nI k)), some (.long (fr.toInt64 + (3 * (nI k)).toInt64)), none, some (.int (nI ((40 * 2) + a)))], [.int ((pPlank q.1 (q.2.1, q.2.2.1, q.2.2.2.1, q.2.2.2.2.1, q.2.2.2.2.2.1, q.2.2.2.2.2.2) (α 58 ((40 * 2) + a)) (α 58 (((40 * 2) + a) + 1)) (α 58 (((40 * 2) + a) + 2))).1)]) (ae_en (au σ [(27, nI (pPlank q.1 (q.2.1, q.2.2.1, q.2.2.2.1, q.2.2.2.2.1, q.2.2.2.2.2.1, q.2.2.2.2.2.2) (α 58 ((40 * 2) + a)) (α 58 (((40 * 2) + a) + 1)) (α 58 (((40 * 2) + a) + 2))).2.1)]) (au α [(31, (pPlank q.1 (q.2.1, q.2.2.1, q.2.2.2.1, q.2.2.2.2.1, q.2.2.2.2.2.1, q.2.2.2.2.2.2) (α 58 ((40 * 2) + a)) (α 58 (((40 * 2) + a) + 1)) (α 58 (((40 * 2) + a) + 2))).2.2.1), (32, (pPlank q.1 (q.2.1, q.2.2.1, q.2.2.2.1, q.2.2.2.2.1, q.2.2.2.2.2.1, q.2.2.2.2.2.2) (α 58 ((40 * 2) + a)) (α 58 (((40 * 2) + a) + 1)) (α 58 (((40 * 2) + a) + 2))).2.2.2.1), (33, (pPlank q.1 (q.2.1, q.2.2.1, q.2.2.2.1, q.2.2.2.2.1, q.2.2.2.2.2.1, q.2.2.2.2.2.2) (α 58 ((40 * 2) + a)) (α 58 (((40 * 2) + a) + 1)) (α 58 (((40 * 2) + a) + 2))).2.2.2.2.1), (35, (pPlank q.1 (q.2.1, q.2.2.1, q.2.2.2.1, q.2.2.2.2.1, q.2.2.2.2.2.1, q.2.2.2.2.2.2) (α 58 ((40 * 2) + a)) (α 58 (((40 * 2) + a) + 1)) (α 58 (((40 * 2) + a) + 2))).2.2.2.2.2.1), (36, (pPlank q.1 (q.2.1, q.2.2.1, q.2.2.2.1, q.2.2.2.2.1, q.2.2.2.2.2.1, q.2.2.2.2.2.2) (α 58 ((40 * 2) + a)) (α 58 (((40 * 2) + a) + 1)) (α 58 (((40 * 2) + a) + 2))).2.2.2.2.2.2.1), (38, (pPlank q.1 (q.2.1, q.2.2.1, q.2.2.2.1, q.2.2.2.2.1, q.2.2.2.2.2.1, q.2.2.2.2.2.2) (α 58 ((40 * 2) + a)) (α 58 (((40 * 2) + a) + 1)) (α 58 (((40 * 2) + a) + 2))).2.2.2.2.2.2.2)]) z t0 ts)
        refine aw_go 1 rfl ⟨trivial, trivial⟩ ?_
        refine aw_br (c := ((pPlank q.1 (q.2.1, q.2.2.1, q.2.2.2.1, q.2.2.2.2.1, q.2.2.2.2.2.1, q.2.2.2.2.2.2) (α 58 ((40 * 2) + a)) (α 58 (((40 * 2) + a) + 1)) (α 58 (((40 * 2) + a) + 2))).1) < 0) (fun h91 => ?_) (fun h91 => ?_)
        · skip
          show aw_W _ _ _ _ (93, [some (.ref 46), some (.int 2), some (.int s), some (.int fr), some (.int (nI N)), some (.int cm), some (.int (nI k)), some (.long (fr.toInt64 + (3 * (nI k)).toInt64)), none, some (.int (nI ((40 * 2) + a)))], []) (ae_en (au σ [(27, nI (pPlank q.1 (q.2.1, q.2.2.1, q.2.2.2.1, q.2.2.2.2.1, q.2.2.2.2.2.1, q.2.2.2.2.2.2) (α 58 ((40 * 2) + a)) (α 58 (((40 * 2) + a) + 1)) (α 58 (((40 * 2) + a) + 2))).2.1)]) (au α [(31, (pPlank q.1 (q.2.1, q.2.2.1, q.2.2.2.1, q.2.2.2.2.1, q.2.2.2.2.2.1, q.2.2.2.2.2.2) (α 58 ((40 * 2) + a)) (α 58 (((40 * 2) + a) + 1)) (α 58 (((40 * 2) + a) + 2))).2.2.1), (32, (pPlank q.1 (q.2.1, q.2.2.1, q.2.2.2.1, q.2.2.2.2.1, q.2.2.2.2.2.1, q.2.2.2.2.2.2) (α 58 ((40 * 2) + a)) (α 58 (((40 * 2) + a) + 1)) (α 58 (((40 * 2) + a) + 2))).2.2.2.1), (33, (pPlank q.1 (q.2.1, q.2.2.1, q.2.2.2.1, q.2.2.2.2.1, q.2.2.2.2.2.1, q.2.2.2.2.2.2) (α 58 ((40 * 2) + a)) (α 58 (((40 * 2) + a) + 1)) (α 58 (((40 * 2) + a) + 2))).2.2.2.2.1), (35, (pPlank q.1 (q.2.1, q.2.2.1, q.2.2.2.1, q.2.2.2.2.1, q.2.2.2.2.2.1, q.2.2.2.2.2.2) (α 58 ((40 * 2) + a)) (α 58 (((40 * 2) + a) + 1)) (α 58 (((40 * 2) + a) + 2))).2.2.2.2.2.1), (36, (pPlank q.1 (q.2.1, q.2.2.1, q.2.2.2.1, q.2.2.2.2.1, q.2.2.2.2.2.1, q.2.2.2.2.2.2) (α 58 ((40 * 2) + a)) (α 58 (((40 * 2) + a) + 1)) (α 58 (((40 * 2) + a) + 2))).2.2.2.2.2.2.1), (38, (pPlank q.1 (q.2.1, q.2.2.1, q.2.2.2.1, q.2.2.2.2.1, q.2.2.2.2.2.1, q.2.2.2.2.2.2) (α 58 ((40 * 2) + a)) (α 58 (((40 * 2) + a) + 1)) (α 58 (((40 * 2) + a) + 2))).2.2.2.2.2.2.2)]) z t0 ts)
          refine aw_go 2 rfl ⟨trivial, trivial, trivial⟩ ?_
          show aw_W _ _ _ _ (39, [some (.ref 46), some (.int 2), some (.int s), some (.int fr), some (.int (nI N)), some (.int cm), some (.int ((nI k) + 1)), some (.long (fr.toInt64 + (3 * (nI k)).toInt64)), none, some (.int (nI ((40 * 2) + a)))], []) (ae_en (au σ [(27, nI (pPlank q.1 (q.2.1, q.2.2.1, q.2.2.2.1, q.2.2.2.2.1, q.2.2.2.2.2.1, q.2.2.2.2.2.2) (α 58 ((40 * 2) + a)) (α 58 (((40 * 2) + a) + 1)) (α 58 (((40 * 2) + a) + 2))).2.1)]) (au α [(31, (pPlank q.1 (q.2.1, q.2.2.1, q.2.2.2.1, q.2.2.2.2.1, q.2.2.2.2.2.1, q.2.2.2.2.2.2) (α 58 ((40 * 2) + a)) (α 58 (((40 * 2) + a) + 1)) (α 58 (((40 * 2) + a) + 2))).2.2.1), (32, (pPlank q.1 (q.2.1, q.2.2.1, q.2.2.2.1, q.2.2.2.2.1, q.2.2.2.2.2.1, q.2.2.2.2.2.2) (α 58 ((40 * 2) + a)) (α 58 (((40 * 2) + a) + 1)) (α 58 (((40 * 2) + a) + 2))).2.2.2.1), (33, (pPlank q.1 (q.2.1, q.2.2.1, q.2.2.2.1, q.2.2.2.2.1, q.2.2.2.2.2.1, q.2.2.2.2.2.2) (α 58 ((40 * 2) + a)) (α 58 (((40 * 2) + a) + 1)) (α 58 (((40 * 2) + a) + 2))).2.2.2.2.1), (35, (pPlank q.1 (q.2.1, q.2.2.1, q.2.2.2.1, q.2.2.2.2.1, q.2.2.2.2.2.1, q.2.2.2.2.2.2) (α 58 ((40 * 2) + a)) (α 58 (((40 * 2) + a) + 1)) (α 58 (((40 * 2) + a) + 2))).2.2.2.2.2.1), (36, (pPlank q.1 (q.2.1, q.2.2.1, q.2.2.2.1, q.2.2.2.2.1, q.2.2.2.2.2.1, q.2.2.2.2.2.2) (α 58 ((40 * 2) + a)) (α 58 (((40 * 2) + a) + 1)) (α 58 (((40 * 2) + a) + 2))).2.2.2.2.2.2.1), (38, (pPlank q.1 (q.2.1, q.2.2.1, q.2.2.2.1, q.2.2.2.2.1, q.2.2.2.2.2.1, q.2.2.2.2.2.2) (α 58 ((40 * 2) + a)) (α 58 (((40 * 2) + a) + 1)) (α 58 (((40 * 2) + a) + 2))).2.2.2.2.2.2.2)]) z t0 ts)
          rw [show (nI k) + 1 = nI (k + 1) from (cI_add (a := k) (b := 1) rfl rfl)]
          exact lp_mPl_2 (q := (pPlank q.1 q.2 (α 58 (40 * 2 + a)) (α 58 (40 * 2 + (a + 1))) (α 58 (40 * 2 + (a + 2)))).2) hm hm40 hN (pPlank_n hq) (k + 1) (by omega) (by rw [show N - (k + 1) = r by omega, ← hI2]; exact congrArg (fun y => pPks _ m fr r (k + 1) y _) (if_pos h91).symm)
        · skip
          show aw_W _ _ _ _ (92, [some (.ref 46), some (.int 2), some (.int s), some (.int fr), some (.int (nI N)), some (.int cm), some (.int (nI k)), some (.long (fr.toInt64 + (3 * (nI k)).toInt64)), none, some (.int (nI ((40 * 2) + a)))], []) (ae_en (au σ [(27, nI (pPlank q.1 (q.2.1, q.2.2.1, q.2.2.2.1, q.2.2.2.2.1, q.2.2.2.2.2.1, q.2.2.2.2.2.2) (α 58 ((40 * 2) + a)) (α 58 (((40 * 2) + a) + 1)) (α 58 (((40 * 2) + a) + 2))).2.1)]) (au α [(31, (pPlank q.1 (q.2.1, q.2.2.1, q.2.2.2.1, q.2.2.2.2.1, q.2.2.2.2.2.1, q.2.2.2.2.2.2) (α 58 ((40 * 2) + a)) (α 58 (((40 * 2) + a) + 1)) (α 58 (((40 * 2) + a) + 2))).2.2.1), (32, (pPlank q.1 (q.2.1, q.2.2.1, q.2.2.2.1, q.2.2.2.2.1, q.2.2.2.2.2.1, q.2.2.2.2.2.2) (α 58 ((40 * 2) + a)) (α 58 (((40 * 2) + a) + 1)) (α 58 (((40 * 2) + a) + 2))).2.2.2.1), (33, (pPlank q.1 (q.2.1, q.2.2.1, q.2.2.2.1, q.2.2.2.2.1, q.2.2.2.2.2.1, q.2.2.2.2.2.2) (α 58 ((40 * 2) + a)) (α 58 (((40 * 2) + a) + 1)) (α 58 (((40 * 2) + a) + 2))).2.2.2.2.1), (35, (pPlank q.1 (q.2.1, q.2.2.1, q.2.2.2.1, q.2.2.2.2.1, q.2.2.2.2.2.1, q.2.2.2.2.2.2) (α 58 ((40 * 2) + a)) (α 58 (((40 * 2) + a) + 1)) (α 58 (((40 * 2) + a) + 2))).2.2.2.2.2.1), (36, (pPlank q.1 (q.2.1, q.2.2.1, q.2.2.2.1, q.2.2.2.2.1, q.2.2.2.2.2.1, q.2.2.2.2.2.2) (α 58 ((40 * 2) + a)) (α 58 (((40 * 2) + a) + 1)) (α 58 (((40 * 2) + a) + 2))).2.2.2.2.2.2.1), (38, (pPlank q.1 (q.2.1, q.2.2.1, q.2.2.2.1, q.2.2.2.2.1, q.2.2.2.2.2.1, q.2.2.2.2.2.2) (α 58 ((40 * 2) + a)) (α 58 (((40 * 2) + a) + 1)) (α 58 (((40 * 2) + a) + 2))).2.2.2.2.2.2.2)]) z t0 ts)
          refine aw_go 3 rfl ⟨trivial, trivial, trivial, trivial⟩ ?_
          show aw_W _ _ _ _ (39, [some (.ref 46), some (.int 2), some (.int s), some (.int fr), some (.int (nI N)), some (.int (cm + 1)), some (.int ((nI k) + 1)), some (.long (fr.toInt64 + (3 * (nI k)).toInt64)), none, some (.int (nI ((40 * 2) + a)))], []) (ae_en (au σ [(27, nI (pPlank q.1 (q.2.1, q.2.2.1, q.2.2.2.1, q.2.2.2.2.1, q.2.2.2.2.2.1, q.2.2.2.2.2.2) (α 58 ((40 * 2) + a)) (α 58 (((40 * 2) + a) + 1)) (α 58 (((40 * 2) + a) + 2))).2.1)]) (au α [(31, (pPlank q.1 (q.2.1, q.2.2.1, q.2.2.2.1, q.2.2.2.2.1, q.2.2.2.2.2.1, q.2.2.2.2.2.2) (α 58 ((40 * 2) + a)) (α 58 (((40 * 2) + a) + 1)) (α 58 (((40 * 2) + a) + 2))).2.2.1), (32, (pPlank q.1 (q.2.1, q.2.2.1, q.2.2.2.1, q.2.2.2.2.1, q.2.2.2.2.2.1, q.2.2.2.2.2.2) (α 58 ((40 * 2) + a)) (α 58 (((40 * 2) + a) + 1)) (α 58 (((40 * 2) + a) + 2))).2.2.2.1), (33, (pPlank q.1 (q.2.1, q.2.2.1, q.2.2.2.1, q.2.2.2.2.1, q.2.2.2.2.2.1, q.2.2.2.2.2.2) (α 58 ((40 * 2) + a)) (α 58 (((40 * 2) + a) + 1)) (α 58 (((40 * 2) + a) + 2))).2.2.2.2.1), (35, (pPlank q.1 (q.2.1, q.2.2.1, q.2.2.2.1, q.2.2.2.2.1, q.2.2.2.2.2.1, q.2.2.2.2.2.2) (α 58 ((40 * 2) + a)) (α 58 (((40 * 2) + a) + 1)) (α 58 (((40 * 2) + a) + 2))).2.2.2.2.2.1), (36, (pPlank q.1 (q.2.1, q.2.2.1, q.2.2.2.1, q.2.2.2.2.1, q.2.2.2.2.2.1, q.2.2.2.2.2.2) (α 58 ((40 * 2) + a)) (α 58 (((40 * 2) + a) + 1)) (α 58 (((40 * 2) + a) + 2))).2.2.2.2.2.2.1), (38, (pPlank q.1 (q.2.1, q.2.2.1, q.2.2.2.1, q.2.2.2.2.1, q.2.2.2.2.2.1, q.2.2.2.2.2.2) (α 58 ((40 * 2) + a)) (α 58 (((40 * 2) + a) + 1)) (α 58 (((40 * 2) + a) + 2))).2.2.2.2.2.2.2)]) z t0 ts)
          rw [show (nI k) + 1 = nI (k + 1) from (cI_add (a := k) (b := 1) rfl rfl)]
          exact lp_mPl_2 (q := (pPlank q.1 q.2 (α 58 (40 * 2 + a)) (α 58 (40 * 2 + (a + 1))) (α 58 (40 * 2 + (a + 2)))).2) hm hm40 hN (pPlank_n hq) (k + 1) (by omega) (by rw [show N - (k + 1) = r by omega, ← hI2]; exact congrArg (fun y => pPks _ m fr r (k + 1) y _) (if_neg h91).symm)
      · skip
        show aw_W _ _ _ _ (64, [some (.ref 46), some (.int 2), some (.int s), some (.int fr), some (.int (nI N)), some (.int cm), some (.int (nI k)), some (.long (fr.toInt64 + ((3 * (nI k)).toInt64))), none, l9], []) (ae_en (au σ [(27, nI q.1)]) (au α [(31, q.2.1), (32, q.2.2.1), (33, q.2.2.2.1), (35, q.2.2.2.2.1), (36, q.2.2.2.2.2.1), (38, q.2.2.2.2.2.2)]) z t0 ts)
        rw [if_neg (fun w => h63 (by rw [hm]; exact ((pkJ (m := m) hk2 hm40).2 w).2))] at hI
        refine aw_go 1 rfl ⟨trivial, trivial⟩ ?_
        refine aw_ret rfl rfl trivial ?_
        rw [← hI]
        exact ⟨rfl, rfl⟩
termination_by N - k
decreasing_by all_goals omega
theorem em_planks_2 {m n : Nat} {s fr x : Int32} {zd : Nat} (hn : (σ 27) = nI n) (hn10 : n ≤ 10) (hso : α 56 2 = -1 ∨ ¬ α 56 2 < 0) (hm : ¬ α 56 2 < 0 → α 57 2 = nI m) (hm40 : m ≤ 40) : aw_X P (zd + 4) 176 [.ref 46, .int 2, .int s, .int fr, .int x] (ae_en σ α z t0 ts) (fun r H => r = some (.int ((pPlanks (fun j => α 58 (40 * 2 + j)) m (α 56 2) s fr x (n, (α 31, α 32, α 33, α 35, α 36, α 38))).1)) ∧ H = (ae_en (au σ [(27, nI (pPlanks (fun j => α 58 (40 * 2 + j)) m (α 56 2) s fr x (n, (α 31, α 32, α 33, α 35, α 36, α 38))).2.1)]) (au α [(31, (pPlanks (fun j => α 58 (40 * 2 + j)) m (α 56 2) s fr x (n, (α 31, α 32, α 33, α 35, α 36, α 38))).2.2.1), (32, (pPlanks (fun j => α 58 (40 * 2 + j)) m (α 56 2) s fr x (n, (α 31, α 32, α 33, α 35, α 36, α 38))).2.2.2.1), (33, (pPlanks (fun j => α 58 (40 * 2 + j)) m (α 56 2) s fr x (n, (α 31, α 32, α 33, α 35, α 36, α 38))).2.2.2.2.1), (35, (pPlanks (fun j => α 58 (40 * 2 + j)) m (α 56 2) s fr x (n, (α 31, α 32, α 33, α 35, α 36, α 38))).2.2.2.2.2.1), (36, (pPlanks (fun j => α 58 (40 * 2 + j)) m (α 56 2) s fr x (n, (α 31, α 32, α 33, α 35, α 36, α 38))).2.2.2.2.2.2.1), (38, (pPlanks (fun j => α 58 (40 * 2 + j)) m (α 56 2) s fr x (n, (α 31, α 32, α 33, α 35, α 36, α 38))).2.2.2.2.2.2.2)]) z t0 ts)) := by
  refine aw_ev (cd := cd_Model_planks) rfl rfl rfl ?_
  show aw_W _ _ _ _ (0, [some (.ref 46), some (.int 2), some (.int s), some (.int fr), some (.int x), none, none, none, none, none], []) (ae_en σ α z t0 ts)
  refine aw_go 1 rfl ⟨trivial, trivial⟩ ?_
  refine aw_callE rfl rfl (ev_Model_isSheet (s := 2)) ?_
  show aw_W _ _ _ _ (2, [some (.ref 46), some (.int 2), some (.int s), some (.int fr), some (.int x), none, none, none, none, none], [.int (bI (iP 4 2))]) (ae_en σ α z t0 ts)
  refine aw_go 1 rfl ⟨trivial, trivial⟩ ?_
  refine aw_br (c := (bI (iP 4 2)) = 0) (fun h2 => ?_) (fun h2 => ?_)
  · skip
    have h2 := bI_f h2
    show aw_W _ _ _ _ (13, [some (.ref 46), some (.int 2), some (.int s), some (.int fr), some (.int x), none, none, none, none, none], []) (ae_en σ α z t0 ts)
    exact absurd h2 (by decide)
  · skip
    have h2 := bI_t h2
    show aw_W _ _ _ _ (3, [some (.ref 46), some (.int 2), some (.int s), some (.int fr), some (.int x), none, none, none, none, none], []) (ae_en σ α z t0 ts)
    refine aw_go 3 rfl ⟨trivial, trivial, trivial, trivial⟩ ?_
    refine aw_callE rfl rfl (em_in (v := s) (a := 0) (b := 2)) ?_
    show aw_W _ _ _ _ (7, [some (.ref 46), some (.int 2), some (.int s), some (.int fr), some (.int x), none, none, none, none, none], [.int (bI (¬ s < 0 ∧ ¬ 2 < s))]) (ae_en σ α z t0 ts)
    refine aw_go 1 rfl ⟨trivial, trivial⟩ ?_
    refine aw_br (c := (bI (¬ s < 0 ∧ ¬ 2 < s)) = 0) (fun h7 => ?_) (fun h7 => ?_)
    · skip
      have h7 := bI_f h7
      show aw_W _ _ _ _ (13, [some (.ref 46), some (.int 2), some (.int s), some (.int fr), some (.int x), none, none, none, none, none], []) (ae_en σ α z t0 ts)
      refine aw_go 1 rfl ⟨trivial, trivial⟩ ?_
      refine aw_ret rfl rfl trivial ?_
      rw [pPlanks, if_pos (Classical.byContradiction fun q => h7 ⟨fun w => q (Or.inl w), fun w => q (Or.inr (Or.inl w))⟩), ← hn]
      exact ⟨rfl, rfl⟩
    · skip
      have h7 := bI_t h7
      show aw_W _ _ _ _ (8, [some (.ref 46), some (.int 2), some (.int s), some (.int fr), some (.int x), none, none, none, none, none], []) (ae_en σ α z t0 ts)
      refine aw_go 3 rfl ⟨trivial, trivial, trivial, trivial⟩ ?_
      refine aw_callE rfl rfl (em_in (v := x) (a := 0) (b := 10)) ?_
      show aw_W _ _ _ _ (12, [some (.ref 46), some (.int 2), some (.int s), some (.int fr), some (.int x), none, none, none, none, none], [.int (bI (¬ x < 0 ∧ ¬ 10 < x))]) (ae_en σ α z t0 ts)
      refine aw_go 1 rfl ⟨trivial, trivial⟩ ?_
      refine aw_br (c := ¬ (bI (¬ x < 0 ∧ ¬ 10 < x)) = 0) (fun h12 => ?_) (fun h12 => ?_)
      · skip
        have h12 := bI_t h12
        show aw_W _ _ _ _ (15, [some (.ref 46), some (.int 2), some (.int s), some (.int fr), some (.int x), none, none, none, none, none], []) (ae_en σ α z t0 ts)
        obtain ⟨N, hN, rfl⟩ := nI_of2 (M := 10) (n := 10) rfl h12.1 (Int32.not_lt.mp h12.2)
        refine aw_go 5 rfl ⟨trivial, trivial, trivial, (cI_in (a := 2) rfl (by omega) (by decide)), trivial, trivial⟩ ?_
        show aw_W _ _ _ _ (if (α 56 (2 : Int32).toNatClampNeg) < 0 then 28 else 20, [some (.ref 46), some (.int 2), some (.int s), some (.int fr), some (.int (nI N)), none, none, none, none, none], []) (ae_en σ α z t0 ts)
        rw [show (2 : Int32).toNatClampNeg = 2 from cI_cl (a := 2) rfl (by omega)]
        refine aw_br (c := (α 56 2) < 0) (fun h19 => ?_) (fun h19 => ?_)
        · skip
          show aw_W _ _ _ _ (28, [some (.ref 46), some (.int 2), some (.int s), some (.int fr), some (.int (nI N)), none, none, none, none, none], []) (ae_en σ α z t0 ts)
          refine aw_go 5 rfl ⟨trivial, trivial, trivial, (cI_in (a := 2) rfl (by omega) (by decide)), trivial, trivial⟩ ?_
          show aw_W _ _ _ _ (if (0 : Int32) ≤ (α 56 (2 : Int32).toNatClampNeg) then 35 else 33, [some (.ref 46), some (.int 2), some (.int s), some (.int fr), some (.int (nI N)), none, none, none, none, none], []) (ae_en σ α z t0 ts)
          rw [show (2 : Int32).toNatClampNeg = 2 from cI_cl (a := 2) rfl (by omega)]
          refine aw_br (c := (0 : Int32) ≤ (α 56 2)) (fun h32 => ?_) (fun h32 => ?_)
          · skip
            show aw_W _ _ _ _ (35, [some (.ref 46), some (.int 2), some (.int s), some (.int fr), some (.int (nI N)), none, none, none, none, none], []) (ae_en σ α z t0 ts)
            exact absurd h19 (Int32.not_lt.mpr h32)
          · skip
            show aw_W _ _ _ _ (33, [some (.ref 46), some (.int 2), some (.int s), some (.int fr), some (.int (nI N)), none, none, none, none, none], []) (ae_en σ α z t0 ts)
            refine aw_go 1 rfl ⟨trivial, trivial⟩ ?_
            refine aw_ret rfl rfl trivial ?_
            rw [pPlanks, if_neg (fun q => by rcases q with q | q | q | q; exact h7.1 q; exact h7.2 q; exact h12.1 q; exact h12.2 q), if_neg (fun q => q.1 (hso.resolve_right (fun w => w h19))), if_pos (hso.resolve_right (fun w => w h19)), ← hn]
            exact ⟨rfl, rfl⟩
        · skip
          show aw_W _ _ _ _ (20, [some (.ref 46), some (.int 2), some (.int s), some (.int fr), some (.int (nI N)), none, none, none, none, none], []) (ae_en σ α z t0 ts)
          refine aw_go 6 rfl ⟨trivial, trivial, trivial, (cI_in (a := 2) rfl (by omega) (by decide)), trivial, trivial, trivial⟩ ?_
          show aw_W _ _ _ _ (if (α 56 (2 : Int32).toNatClampNeg) = s then 28 else 26, [some (.ref 46), some (.int 2), some (.int s), some (.int fr), some (.int (nI N)), none, none, none, none, none], []) (ae_en σ α z t0 ts)
          rw [show (2 : Int32).toNatClampNeg = 2 from cI_cl (a := 2) rfl (by omega)]
          refine aw_br (c := (α 56 2) = s) (fun h25 => ?_) (fun h25 => ?_)
          · skip
            show aw_W _ _ _ _ (28, [some (.ref 46), some (.int 2), some (.int s), some (.int fr), some (.int (nI N)), none, none, none, none, none], []) (ae_en σ α z t0 ts)
            refine aw_go 5 rfl ⟨trivial, trivial, trivial, (cI_in (a := 2) rfl (by omega) (by decide)), trivial, trivial⟩ ?_
            show aw_W _ _ _ _ (if (0 : Int32) ≤ (α 56 (2 : Int32).toNatClampNeg) then 35 else 33, [some (.ref 46), some (.int 2), some (.int s), some (.int fr), some (.int (nI N)), none, none, none, none, none], []) (ae_en σ α z t0 ts)
            rw [show (2 : Int32).toNatClampNeg = 2 from cI_cl (a := 2) rfl (by omega)]
            refine aw_br (c := (0 : Int32) ≤ (α 56 2)) (fun h32 => ?_) (fun h32 => ?_)
            · skip
              show aw_W _ _ _ _ (35, [some (.ref 46), some (.int 2), some (.int s), some (.int fr), some (.int (nI N)), none, none, none, none, none], []) (ae_en σ α z t0 ts)
              refine aw_go 4 rfl ⟨trivial, trivial, trivial, trivial, trivial⟩ ?_
              rw [pPlanks, if_neg (fun q => by rcases q with q | q | q | q; exact h7.1 q; exact h7.2 q; exact h12.1 q; exact h12.2 q), if_neg (fun q => q.2 h25), if_neg (fun q => h19 (by rw [q]; decide)), nI_clamp (by omega)]
              exact aw_to (lp_mPl_2 (q := (n, (α 31, α 32, α 33, α 35, α 36, α 38))) (hm h19) hm40 hN hn10 0 (Nat.zero_le _) rfl) rfl (by rw [← hn]; rfl)
            · skip
              show aw_W _ _ _ _ (33, [some (.ref 46), some (.int 2), some (.int s), some (.int fr), some (.int (nI N)), none, none, none, none, none], []) (ae_en σ α z t0 ts)
              exact absurd (Int32.not_le.mp h32) h19
          · skip
            show aw_W _ _ _ _ (26, [some (.ref 46), some (.int 2), some (.int s), some (.int fr), some (.int (nI N)), none, none, none, none, none], []) (ae_en σ α z t0 ts)
            refine aw_go 1 rfl ⟨trivial, trivial⟩ ?_
            refine aw_ret rfl rfl trivial ?_
            rw [pPlanks, if_neg (fun q => by rcases q with q | q | q | q; exact h7.1 q; exact h7.2 q; exact h12.1 q; exact h12.2 q), if_pos ⟨fun w => h19 (by rw [w]; decide), h25⟩, ← hn]
            exact ⟨rfl, rfl⟩
      · skip
        have h12 := bI_f (Classical.not_not.mp h12)
        show aw_W _ _ _ _ (13, [some (.ref 46), some (.int 2), some (.int s), some (.int fr), some (.int x), none, none, none, none, none], []) (ae_en σ α z t0 ts)
        refine aw_go 1 rfl ⟨trivial, trivial⟩ ?_
        refine aw_ret rfl rfl trivial ?_
        rw [pPlanks, if_pos (Classical.byContradiction fun q => h12 ⟨fun w => q (Or.inr (Or.inr (Or.inl w))), fun w => q (Or.inr (Or.inr (Or.inr w)))⟩), ← hn]
        exact ⟨rfl, rfl⟩
theorem lp_mPl_3 {zd : Nat} {m N : Nat} {s fr cm : Int32} {q : Nat × ae_S6} {R : Int32 × Nat × ae_S6} {l7 l9 : Option Value} (hm : α 57 3 = nI m) (hm40 : m ≤ 40) (hN : N ≤ 10) (hq : q.1 ≤ 10) (k : Nat) (hk : k ≤ N) (hI : pPks (fun j => α 58 (40 * 3 + j)) m fr (N - k) k cm q = R) : aw_W P (zd + 3) cd_Model_planks (fun r H => r = some (.int R.1) ∧ H = (ae_en (au σ [(27, nI R.2.1)]) (au α [(31, R.2.2.1), (32, R.2.2.2.1), (33, R.2.2.2.2.1), (35, R.2.2.2.2.2.1), (36, R.2.2.2.2.2.2.1), (38, R.2.2.2.2.2.2.2)]) z t0 ts)) (39, [some (.ref 46), some (.int 3), some (.int s), some (.int fr), some (.int (nI N)), some (.int cm), some (.int (nI k)), l7, none, l9], []) (ae_en (au σ [(27, nI q.1)]) (au α [(31, q.2.1), (32, q.2.2.1), (33, q.2.2.2.1), (35, q.2.2.2.2.1), (36, q.2.2.2.2.2.1), (38, q.2.2.2.2.2.2)]) z t0 ts) := by
  refine aw_go 3 rfl ⟨trivial, trivial, trivial, trivial⟩ ?_
  refine aw_br (c := (nI N) ≤ (nI k)) (fun h41 => ?_) (fun h41 => ?_)
  · skip
    have h41 := cI_leT (a := N) (b := k) rfl rfl (by omega) (by omega) h41
    show aw_W _ _ _ _ (95, [some (.ref 46), some (.int 3), some (.int s), some (.int fr), some (.int (nI N)), some (.int cm), some (.int (nI k)), l7, none, l9], []) (ae_en (au σ [(27, nI q.1)]) (au α [(31, q.2.1), (32, q.2.2.1), (33, q.2.2.2.1), (35, q.2.2.2.2.1), (36, q.2.2.2.2.2.1), (38, q.2.2.2.2.2.2)]) z t0 ts)
    rw [show N - k = 0 by omega] at hI
    refine aw_go 1 rfl ⟨trivial, trivial⟩ ?_
    refine aw_ret rfl rfl trivial ?_
    rw [← hI]
    exact ⟨rfl, rfl⟩
  · skip
    have h41 := cI_leF (a := N) (b := k) rfl rfl (by omega) (by omega) h41
    show aw_W _ _ _ _ (42, [some (.ref 46), some (.int 3), some (.int s), some (.int fr), some (.int (nI N)), some (.int cm), some (.int (nI k)), l7, none, l9], []) (ae_en (au σ [(27, nI q.1)]) (au α [(31, q.2.1), (32, q.2.2.1), (33, q.2.2.2.1), (35, q.2.2.2.2.1), (36, q.2.2.2.2.2.1), (38, q.2.2.2.2.2.2)]) z t0 ts)
    obtain ⟨r, hr⟩ : ∃ r, N - k = r + 1 := ⟨N - k - 1, by omega⟩
    rw [hr, pPks] at hI
    have hk2 : k < 10 := by omega
    refine aw_go 12 rfl ⟨trivial, trivial, trivial, trivial, trivial, trivial, trivial, trivial, trivial, trivial, trivial, trivial, trivial⟩ ?_
    show aw_W _ _ _ _ (if (lg_cmp (fr.toInt64 + ((3 * (nI k)).toInt64)) 0) < 0 then 64 else 54, [some (.ref 46), some (.int 3), some (.int s), some (.int fr), some (.int (nI N)), some (.int cm), some (.int (nI k)), some (.long (fr.toInt64 + ((3 * (nI k)).toInt64))), none, l9], []) (ae_en (au σ [(27, nI q.1)]) (au α [(31, q.2.1), (32, q.2.2.1), (33, q.2.2.2.1), (35, q.2.2.2.2.1), (36, q.2.2.2.2.2.1), (38, q.2.2.2.2.2.2)]) z t0 ts)
    refine aw_br (c := (lg_cmp (fr.toInt64 + ((3 * (nI k)).toInt64)) 0) < 0) (fun h53 => ?_) (fun h53 => ?_)
    · skip
      show aw_W _ _ _ _ (64, [some (.ref 46), some (.int 3), some (.int s), some (.int fr), some (.int (nI N)), some (.int cm), some (.int (nI k)), some (.long (fr.toInt64 + ((3 * (nI k)).toInt64))), none, l9], []) (ae_en (au σ [(27, nI q.1)]) (au α [(31, q.2.1), (32, q.2.2.1), (33, q.2.2.2.1), (35, q.2.2.2.2.1), (36, q.2.2.2.2.2.1), (38, q.2.2.2.2.2.2)]) z t0 ts)
      rw [if_neg (fun w => absurd h53 ((pkJ (m := m) hk2 hm40).2 w).1)] at hI
      refine aw_go 1 rfl ⟨trivial, trivial⟩ ?_
      refine aw_ret rfl rfl trivial ?_
      rw [← hI]
      exact ⟨rfl, rfl⟩
    · skip
      show aw_W _ _ _ _ (54, [some (.ref 46), some (.int 3), some (.int s), some (.int fr), some (.int (nI N)), some (.int cm), some (.int (nI k)), some (.long (fr.toInt64 + ((3 * (nI k)).toInt64))), none, l9], []) (ae_en (au σ [(27, nI q.1)]) (au α [(31, q.2.1), (32, q.2.2.1), (33, q.2.2.2.1), (35, q.2.2.2.2.1), (36, q.2.2.2.2.2.1), (38, q.2.2.2.2.2.2)]) z t0 ts)
      refine aw_go 10 rfl ⟨trivial, trivial, trivial, trivial, trivial, trivial, (cI_in (a := 3) rfl (by omega) (by decide)), trivial, trivial, trivial, trivial⟩ ?_
      show aw_W _ _ _ _ (if (lg_cmp ((fr.toInt64 + ((3 * (nI k)).toInt64)) + 2) ((α 57 (3 : Int32).toNatClampNeg).toInt64)) < 0 then 66 else 64, [some (.ref 46), some (.int 3), some (.int s), some (.int fr), some (.int (nI N)), some (.int cm), some (.int (nI k)), some (.long (fr.toInt64 + ((3 * (nI k)).toInt64))), none, l9], []) (ae_en (au σ [(27, nI q.1)]) (au α [(31, q.2.1), (32, q.2.2.1), (33, q.2.2.2.1), (35, q.2.2.2.2.1), (36, q.2.2.2.2.2.1), (38, q.2.2.2.2.2.2)]) z t0 ts)
      rw [show (3 : Int32).toNatClampNeg = 3 from cI_cl (a := 3) rfl (by omega)]
      refine aw_br (c := (lg_cmp ((fr.toInt64 + ((3 * (nI k)).toInt64)) + 2) ((α 57 3).toInt64)) < 0) (fun h63 => ?_) (fun h63 => ?_)
      · skip
        show aw_W _ _ _ _ (66, [some (.ref 46), some (.int 3), some (.int s), some (.int fr), some (.int (nI N)), some (.int cm), some (.int (nI k)), some (.long (fr.toInt64 + ((3 * (nI k)).toInt64))), none, l9], []) (ae_en (au σ [(27, nI q.1)]) (au α [(31, q.2.1), (32, q.2.2.1), (33, q.2.2.2.1), (35, q.2.2.2.2.1), (36, q.2.2.2.2.2.1), (38, q.2.2.2.2.2.2)]) z t0 ts)
        obtain ⟨a, ea, ha3, ei⟩ := (pkJ (m := m) hk2 hm40).1 ⟨h53, by rw [← hm]; exact h63⟩
        have hho : hHo m (fr + 3 * nI k) 3 := ⟨by decide, by rw [ea]; exact nI_pos (by omega), by rw [ea, nI_clamp (by omega), show (3 : Int32).toNatClampNeg = 3 from rfl]; omega⟩
        rw [if_pos hho, ea, nI_clamp (by omega)] at hI
        have hI2 := hI
        refine aw_go 5 rfl ⟨trivial, trivial, trivial, trivial, trivial, trivial⟩ ?_
        show aw_W _ _ _ _ (71, [some (.ref 46), some (.int 3), some (.int s), some (.int fr), some (.int (nI N)), some (.int cm), some (.int (nI k)), some (.long (fr.toInt64 + (3 * (nI k)).toInt64)), none, l9], [.int ((fr.toInt64 + (3 * (nI k)).toInt64).toInt32), .int (40 * 3)]) (ae_en (au σ [(27, nI q.1)]) (au α [(31, q.2.1), (32, q.2.2.1), (33, q.2.2.2.1), (35, q.2.2.2.2.1), (36, q.2.2.2.2.2.1), (38, q.2.2.2.2.2.2)]) z t0 ts)
        rw [show (fr.toInt64 + (3 * (nI k)).toInt64).toInt32 = nI a from ei]
        refine aw_go 19 rfl ⟨trivial, trivial, trivial, trivial, trivial, trivial, (cI_in (a := (40 * 3) + a) (cI_add (a := 40 * 3) (b := a) (cI_mul (a := 40) (b := 3) rfl rfl) rfl) (by omega) (by decide)), trivial, trivial, trivial, trivial, trivial, (cI_in (a := ((40 * 3) + a) + 1) (cI_add (a := (40 * 3) + a) (b := 1) (cI_add (a := 40 * 3) (b := a) (cI_mul (a := 40) (b := 3) rfl rfl) rfl) rfl) (by omega) (by decide)), trivial, trivial, trivial, trivial, trivial, (cI_in (a := ((40 * 3) + a) + 2) (cI_add (a := (40 * 3) + a) (b := 2) (cI_add (a := 40 * 3) (b := a) (cI_mul (a := 40) (b := 3) rfl rfl) rfl) rfl) (by omega) (by decide)), trivial⟩ ?_
        show aw_W _ _ _ _ (90, [some (.ref 46), some (.int 3), some (.int s), some (.int fr), some (.int (nI N)), some (.int cm), some (.int (nI k)), some (.long (fr.toInt64 + (3 * (nI k)).toInt64)), none, some (.int ((40 * 3) + (nI a)))], [.int (α 58 (((40 * 3) + (nI a)) + 2).toNatClampNeg), .int (α 58 (((40 * 3) + (nI a)) + 1).toNatClampNeg), .int (α 58 ((40 * 3) + (nI a)).toNatClampNeg), .ref 46]) (ae_en (au σ [(27, nI q.1)]) (au α [(31, q.2.1), (32, q.2.2.1), (33, q.2.2.2.1), (35, q.2.2.2.2.1), (36, q.2.2.2.2.2.1), (38, q.2.2.2.2.2.2)]) z t0 ts)
        rw [show ((40 * 3) + (nI a)).toNatClampNeg = (40 * 3) + a from cI_cl (a := (40 * 3) + a) (cI_add (a := 40 * 3) (b := a) (cI_mul (a := 40) (b := 3) rfl rfl) rfl) (by omega)]
        rw [show (((40 * 3) + (nI a)) + 1).toNatClampNeg = ((40 * 3) + a) + 1 from cI_cl (a := ((40 * 3) + a) + 1) (cI_add (a := (40 * 3) + a) (b := 1) (cI_add (a := 40 * 3) (b := a) (cI_mul (a := 40) (b := 3) rfl rfl) rfl) rfl) (by omega)]
        rw [show (((40 * 3) + (nI a)) + 2).toNatClampNeg = ((40 * 3) + a) + 2 from cI_cl (a := ((40 * 3) + a) + 2) (cI_add (a := (40 * 3) + a) (b := 2) (cI_add (a := 40 * 3) (b := a) (cI_mul (a := 40) (b := 3) rfl rfl) rfl) rfl) (by omega)]
        rw [show (40 * 3) + (nI a) = nI ((40 * 3) + a) from (cI_add (a := 40 * 3) (b := a) (cI_mul (a := 40) (b := 3) rfl rfl) rfl)]
        refine aw_call rfl rfl (ev_Model_plank (k := (α 58 ((40 * 3) + a))) (x := (α 58 (((40 * 3) + a) + 1))) (m := (α 58 (((40 * 3) + a) + 2))) rfl hq) ?_
        rintro _ _ ⟨rfl, rfl⟩
        show aw_W _ _ _ _ (91, [some (.ref 46), some (.int 3), some (.int s), some (.int fr), some (.int (nI N)), some (.int cm), some (.int (nI k)), some (.long (fr.toInt64 + (3 * (nI k)).toInt64)), none, some (.int (nI ((40 * 3) + a)))], [.int ((pPlank q.1 (q.2.1, q.2.2.1, q.2.2.2.1, q.2.2.2.2.1, q.2.2.2.2.2.1, q.2.2.2.2.2.2) (α 58 ((40 * 3) + a)) (α 58 (((40 * 3) + a) + 1)) (α 58 (((40 * 3) + a) + 2))).1)]) (ae_en (au σ [(27, nI (pPlank q.1 (q.2.1, q.2.2.1, q.2.2.2.1, q.2.2.2.2.1, q.2.2.2.2.2.1, q.2.2.2.2.2.2) (α 58 ((40 * 3) + a)) (α 58 (((40 * 3) + a) + 1)) (α 58 (((40 * 3) + a) + 2))).2.1)]) (au α [(31, (pPlank q.1 (q.2.1, q.2.2.1, q.2.2.2.1, q.2.2.2.2.1, q.2.2.2.2.2.1, q.2.2.2.2.2.2) (α 58 ((40 * 3) + a)) (α 58 (((40 * 3) + a) + 1)) (α 58 (((40 * 3) + a) + 2))).2.2.1), (32, (pPlank q.1 (q.2.1, q.2.2.1, q.2.2.2.1, q.2.2.2.2.1, q.2.2.2.2.2.1, q.2.2.2.2.2.2) (α 58 ((40 * 3) + a)) (α 58 (((40 * 3) + a) + 1)) (α 58 (((40 * 3) + a) + 2))).2.2.2.1), (33, (pPlank q.1 (q.2.1, q.2.2.1, q.2.2.2.1, q.2.2.2.2.1, q.2.2.2.2.2.1, q.2.2.2.2.2.2) (α 58 ((40 * 3) + a)) (α 58 (((40 * 3) + a) + 1)) (α 58 (((40 * 3) + a) + 2))).2.2.2.2.1), (35, (pPlank q.1 (q.2.1, q.2.2.1, q.2.2.2.1, q.2.2.2.2.1, q.2.2.2.2.2.1, q.2.2.2.2.2.2) (α 58 ((40 * 3) + a)) (α 58 (((40 * 3) + a) + 1)) (α 58 (((40 * 3) + a) + 2))).2.2.2.2.2.1), (36, (pPlank q.1 (q.2.1, q.2.2.1, q.2.2.2.1, q.2.2.2.2.1, q.2.2.2.2.2.1, q.2.2.2.2.2.2) (α 58 ((40 * 3) + a)) (α 58 (((40 * 3) + a) + 1)) (α 58 (((40 * 3) + a) + 2))).2.2.2.2.2.2.1), (38, (pPlank q.1 (q.2.1, q.2.2.1, q.2.2.2.1, q.2.2.2.2.1, q.2.2.2.2.2.1, q.2.2.2.2.2.2) (α 58 ((40 * 3) + a)) (α 58 (((40 * 3) + a) + 1)) (α 58 (((40 * 3) + a) + 2))).2.2.2.2.2.2.2)]) z t0 ts)
        refine aw_go 1 rfl ⟨trivial, trivial⟩ ?_
        refine aw_br (c := ((pPlank q.1 (q.2.1, q.2.2.1, q.2.2.2.1, q.2.2.2.2.1, q.2.2.2.2.2.1, q.2.2.2.2.2.2) (α 58 ((40 * 3) + a)) (α 58 (((40 * 3) + a) + 1)) (α 58 (((40 * 3) + a) + 2))).1) < 0) (fun h91 => ?_) (fun h91 => ?_)
        · skip
          show aw_W _ _ _ _ (93, [some (.ref 46), some (.int 3), some (.int s), some (.int fr), some (.int (nI N)), some (.int cm), some (.int (nI k)), some (.long (fr.toInt64 + (3 * (nI k)).toInt64)), none, some (.int (nI ((40 * 3) + a)))], []) (ae_en (au σ [(27, nI (pPlank q.1 (q.2.1, q.2.2.1, q.2.2.2.1, q.2.2.2.2.1, q.2.2.2.2.2.1, q.2.2.2.2.2.2) (α 58 ((40 * 3) + a)) (α 58 (((40 * 3) + a) + 1)) (α 58 (((40 * 3) + a) + 2))).2.1)]) (au α [(31, (pPlank q.1 (q.2.1, q.2.2.1, q.2.2.2.1, q.2.2.2.2.1, q.2.2.2.2.2.1, q.2.2.2.2.2.2) (α 58 ((40 * 3) + a)) (α 58 (((40 * 3) + a) + 1)) (α 58 (((40 * 3) + a) + 2))).2.2.1), (32, (pPlank q.1 (q.2.1, q.2.2.1, q.2.2.2.1, q.2.2.2.2.1, q.2.2.2.2.2.1, q.2.2.2.2.2.2) (α 58 ((40 * 3) + a)) (α 58 (((40 * 3) + a) + 1)) (α 58 (((40 * 3) + a) + 2))).2.2.2.1), (33, (pPlank q.1 (q.2.1, q.2.2.1, q.2.2.2.1, q.2.2.2.2.1, q.2.2.2.2.2.1, q.2.2.2.2.2.2) (α 58 ((40 * 3) + a)) (α 58 (((40 * 3) + a) + 1)) (α 58 (((40 * 3) + a) + 2))).2.2.2.2.1), (35, (pPlank q.1 (q.2.1, q.2.2.1, q.2.2.2.1, q.2.2.2.2.1, q.2.2.2.2.2.1, q.2.2.2.2.2.2) (α 58 ((40 * 3) + a)) (α 58 (((40 * 3) + a) + 1)) (α 58 (((40 * 3) + a) + 2))).2.2.2.2.2.1), (36, (pPlank q.1 (q.2.1, q.2.2.1, q.2.2.2.1, q.2.2.2.2.1, q.2.2.2.2.2.1, q.2.2.2.2.2.2) (α 58 ((40 * 3) + a)) (α 58 (((40 * 3) + a) + 1)) (α 58 (((40 * 3) + a) + 2))).2.2.2.2.2.2.1), (38, (pPlank q.1 (q.2.1, q.2.2.1, q.2.2.2.1, q.2.2.2.2.1, q.2.2.2.2.2.1, q.2.2.2.2.2.2) (α 58 ((40 * 3) + a)) (α 58 (((40 * 3) + a) + 1)) (α 58 (((40 * 3) + a) + 2))).2.2.2.2.2.2.2)]) z t0 ts)
          refine aw_go 2 rfl ⟨trivial, trivial, trivial⟩ ?_
          show aw_W _ _ _ _ (39, [some (.ref 46), some (.int 3), some (.int s), some (.int fr), some (.int (nI N)), some (.int cm), some (.int ((nI k) + 1)), some (.long (fr.toInt64 + (3 * (nI k)).toInt64)), none, some (.int (nI ((40 * 3) + a)))], []) (ae_en (au σ [(27, nI (pPlank q.1 (q.2.1, q.2.2.1, q.2.2.2.1, q.2.2.2.2.1, q.2.2.2.2.2.1, q.2.2.2.2.2.2) (α 58 ((40 * 3) + a)) (α 58 (((40 * 3) + a) + 1)) (α 58 (((40 * 3) + a) + 2))).2.1)]) (au α [(31, (pPlank q.1 (q.2.1, q.2.2.1, q.2.2.2.1, q.2.2.2.2.1, q.2.2.2.2.2.1, q.2.2.2.2.2.2) (α 58 ((40 * 3) + a)) (α 58 (((40 * 3) + a) + 1)) (α 58 (((40 * 3) + a) + 2))).2.2.1), (32, (pPlank q.1 (q.2.1, q.2.2.1, q.2.2.2.1, q.2.2.2.2.1, q.2.2.2.2.2.1, q.2.2.2.2.2.2) (α 58 ((40 * 3) + a)) (α 58 (((40 * 3) + a) + 1)) (α 58 (((40 * 3) + a) + 2))).2.2.2.1), (33, (pPlank q.1 (q.2.1, q.2.2.1, q.2.2.2.1, q.2.2.2.2.1, q.2.2.2.2.2.1, q.2.2.2.2.2.2) (α 58 ((40 * 3) + a)) (α 58 (((40 * 3) + a) + 1)) (α 58 (((40 * 3) + a) + 2))).2.2.2.2.1), (35, (pPlank q.1 (q.2.1, q.2.2.1, q.2.2.2.1, q.2.2.2.2.1, q.2.2.2.2.2.1, q.2.2.2.2.2.2) (α 58 ((40 * 3) + a)) (α 58 (((40 * 3) + a) + 1)) (α 58 (((40 * 3) + a) + 2))).2.2.2.2.2.1), (36, (pPlank q.1 (q.2.1, q.2.2.1, q.2.2.2.1, q.2.2.2.2.1, q.2.2.2.2.2.1, q.2.2.2.2.2.2) (α 58 ((40 * 3) + a)) (α 58 (((40 * 3) + a) + 1)) (α 58 (((40 * 3) + a) + 2))).2.2.2.2.2.2.1), (38, (pPlank q.1 (q.2.1, q.2.2.1, q.2.2.2.1, q.2.2.2.2.1, q.2.2.2.2.2.1, q.2.2.2.2.2.2) (α 58 ((40 * 3) + a)) (α 58 (((40 * 3) + a) + 1)) (α 58 (((40 * 3) + a) + 2))).2.2.2.2.2.2.2)]) z t0 ts)
          rw [show (nI k) + 1 = nI (k + 1) from (cI_add (a := k) (b := 1) rfl rfl)]
          exact lp_mPl_3 (q := (pPlank q.1 q.2 (α 58 (40 * 3 + a)) (α 58 (40 * 3 + (a + 1))) (α 58 (40 * 3 + (a + 2)))).2) hm hm40 hN (pPlank_n hq) (k + 1) (by omega) (by rw [show N - (k + 1) = r by omega, ← hI2]; exact congrArg (fun y => pPks _ m fr r (k + 1) y _) (if_pos h91).symm)
        · skip
          show aw_W _ _ _ _ (92, [some (.ref 46), some (.int 3), some (.int s), some (.int fr), some (.int (nI N)), some (.int cm), some (.int (nI k)), some (.long (fr.toInt64 + (3 * (nI k)).toInt64)), none, some (.int (nI ((40 * 3) + a)))], []) (ae_en (au σ [(27, nI (pPlank q.1 (q.2.1, q.2.2.1, q.2.2.2.1, q.2.2.2.2.1, q.2.2.2.2.2.1, q.2.2.2.2.2.2) (α 58 ((40 * 3) + a)) (α 58 (((40 * 3) + a) + 1)) (α 58 (((40 * 3) + a) + 2))).2.1)]) (au α [(31, (pPlank q.1 (q.2.1, q.2.2.1, q.2.2.2.1, q.2.2.2.2.1, q.2.2.2.2.2.1, q.2.2.2.2.2.2) (α 58 ((40 * 3) + a)) (α 58 (((40 * 3) + a) + 1)) (α 58 (((40 * 3) + a) + 2))).2.2.1), (32, (pPlank q.1 (q.2.1, q.2.2.1, q.2.2.2.1, q.2.2.2.2.1, q.2.2.2.2.2.1, q.2.2.2.2.2.2) (α 58 ((40 * 3) + a)) (α 58 (((40 * 3) + a) + 1)) (α 58 (((40 * 3) + a) + 2))).2.2.2.1), (33, (pPlank q.1 (q.2.1, q.2.2.1, q.2.2.2.1, q.2.2.2.2.1, q.2.2.2.2.2.1, q.2.2.2.2.2.2) (α 58 ((40 * 3) + a)) (α 58 (((40 * 3) + a) + 1)) (α 58 (((40 * 3) + a) + 2))).2.2.2.2.1), (35, (pPlank q.1 (q.2.1, q.2.2.1, q.2.2.2.1, q.2.2.2.2.1, q.2.2.2.2.2.1, q.2.2.2.2.2.2) (α 58 ((40 * 3) + a)) (α 58 (((40 * 3) + a) + 1)) (α 58 (((40 * 3) + a) + 2))).2.2.2.2.2.1), (36, (pPlank q.1 (q.2.1, q.2.2.1, q.2.2.2.1, q.2.2.2.2.1, q.2.2.2.2.2.1, q.2.2.2.2.2.2) (α 58 ((40 * 3) + a)) (α 58 (((40 * 3) + a) + 1)) (α 58 (((40 * 3) + a) + 2))).2.2.2.2.2.2.1), (38, (pPlank q.1 (q.2.1, q.2.2.1, q.2.2.2.1, q.2.2.2.2.1, q.2.2.2.2.2.1, q.2.2.2.2.2.2) (α 58 ((40 * 3) + a)) (α 58 (((40 * 3) + a) + 1)) (α 58 (((40 * 3) + a) + 2))).2.2.2.2.2.2.2)]) z t0 ts)
          refine aw_go 3 rfl ⟨trivial, trivial, trivial, trivial⟩ ?_
          show aw_W _ _ _ _ (39, [some (.ref 46), some (.int 3), some (.int s), some (.int fr), some (.int (nI N)), some (.int (cm + 1)), some (.int ((nI k) + 1)), some (.long (fr.toInt64 + (3 * (nI k)).toInt64)), none, some (.int (nI ((40 * 3) + a)))], []) (ae_en (au σ [(27, nI (pPlank q.1 (q.2.1, q.2.2.1, q.2.2.2.1, q.2.2.2.2.1, q.2.2.2.2.2.1, q.2.2.2.2.2.2) (α 58 ((40 * 3) + a)) (α 58 (((40 * 3) + a) + 1)) (α 58 (((40 * 3) + a) + 2))).2.1)]) (au α [(31, (pPlank q.1 (q.2.1, q.2.2.1, q.2.2.2.1, q.2.2.2.2.1, q.2.2.2.2.2.1, q.2.2.2.2.2.2) (α 58 ((40 * 3) + a)) (α 58 (((40 * 3) + a) + 1)) (α 58 (((40 * 3) + a) + 2))).2.2.1), (32, (pPlank q.1 (q.2.1, q.2.2.1, q.2.2.2.1, q.2.2.2.2.1, q.2.2.2.2.2.1, q.2.2.2.2.2.2) (α 58 ((40 * 3) + a)) (α 58 (((40 * 3) + a) + 1)) (α 58 (((40 * 3) + a) + 2))).2.2.2.1), (33, (pPlank q.1 (q.2.1, q.2.2.1, q.2.2.2.1, q.2.2.2.2.1, q.2.2.2.2.2.1, q.2.2.2.2.2.2) (α 58 ((40 * 3) + a)) (α 58 (((40 * 3) + a) + 1)) (α 58 (((40 * 3) + a) + 2))).2.2.2.2.1), (35, (pPlank q.1 (q.2.1, q.2.2.1, q.2.2.2.1, q.2.2.2.2.1, q.2.2.2.2.2.1, q.2.2.2.2.2.2) (α 58 ((40 * 3) + a)) (α 58 (((40 * 3) + a) + 1)) (α 58 (((40 * 3) + a) + 2))).2.2.2.2.2.1), (36, (pPlank q.1 (q.2.1, q.2.2.1, q.2.2.2.1, q.2.2.2.2.1, q.2.2.2.2.2.1, q.2.2.2.2.2.2) (α 58 ((40 * 3) + a)) (α 58 (((40 * 3) + a) + 1)) (α 58 (((40 * 3) + a) + 2))).2.2.2.2.2.2.1), (38, (pPlank q.1 (q.2.1, q.2.2.1, q.2.2.2.1, q.2.2.2.2.1, q.2.2.2.2.2.1, q.2.2.2.2.2.2) (α 58 ((40 * 3) + a)) (α 58 (((40 * 3) + a) + 1)) (α 58 (((40 * 3) + a) + 2))).2.2.2.2.2.2.2)]) z t0 ts)
          rw [show (nI k) + 1 = nI (k + 1) from (cI_add (a := k) (b := 1) rfl rfl)]
          exact lp_mPl_3 (q := (pPlank q.1 q.2 (α 58 (40 * 3 + a)) (α 58 (40 * 3 + (a + 1))) (α 58 (40 * 3 + (a + 2)))).2) hm hm40 hN (pPlank_n hq) (k + 1) (by omega) (by rw [show N - (k + 1) = r by omega, ← hI2]; exact congrArg (fun y => pPks _ m fr r (k + 1) y _) (if_neg h91).symm)
      · skip
        show aw_W _ _ _ _ (64, [some (.ref 46), some (.int 3), some (.int s), some (.int fr), some (.int (nI N)), some (.int cm), some (.int (nI k)), some (.long (fr.toInt64 + ((3 * (nI k)).toInt64))), none, l9], []) (ae_en (au σ [(27, nI q.1)]) (au α [(31, q.2.1), (32, q.2.2.1), (33, q.2.2.2.1), (35, q.2.2.2.2.1), (36, q.2.2.2.2.2.1), (38, q.2.2.2.2.2.2)]) z t0 ts)
        rw [if_neg (fun w => h63 (by rw [hm]; exact ((pkJ (m := m) hk2 hm40).2 w).2))] at hI
        refine aw_go 1 rfl ⟨trivial, trivial⟩ ?_
        refine aw_ret rfl rfl trivial ?_
        rw [← hI]
        exact ⟨rfl, rfl⟩
termination_by N - k
decreasing_by all_goals omega
theorem em_planks_3 {m n : Nat} {s fr x : Int32} {zd : Nat} (hn : (σ 27) = nI n) (hn10 : n ≤ 10) (hso : α 56 3 = -1 ∨ ¬ α 56 3 < 0) (hm : ¬ α 56 3 < 0 → α 57 3 = nI m) (hm40 : m ≤ 40) : aw_X P (zd + 4) 176 [.ref 46, .int 3, .int s, .int fr, .int x] (ae_en σ α z t0 ts) (fun r H => r = some (.int ((pPlanks (fun j => α 58 (40 * 3 + j)) m (α 56 3) s fr x (n, (α 31, α 32, α 33, α 35, α 36, α 38))).1)) ∧ H = (ae_en (au σ [(27, nI (pPlanks (fun j => α 58 (40 * 3 + j)) m (α 56 3) s fr x (n, (α 31, α 32, α 33, α 35, α 36, α 38))).2.1)]) (au α [(31, (pPlanks (fun j => α 58 (40 * 3 + j)) m (α 56 3) s fr x (n, (α 31, α 32, α 33, α 35, α 36, α 38))).2.2.1), (32, (pPlanks (fun j => α 58 (40 * 3 + j)) m (α 56 3) s fr x (n, (α 31, α 32, α 33, α 35, α 36, α 38))).2.2.2.1), (33, (pPlanks (fun j => α 58 (40 * 3 + j)) m (α 56 3) s fr x (n, (α 31, α 32, α 33, α 35, α 36, α 38))).2.2.2.2.1), (35, (pPlanks (fun j => α 58 (40 * 3 + j)) m (α 56 3) s fr x (n, (α 31, α 32, α 33, α 35, α 36, α 38))).2.2.2.2.2.1), (36, (pPlanks (fun j => α 58 (40 * 3 + j)) m (α 56 3) s fr x (n, (α 31, α 32, α 33, α 35, α 36, α 38))).2.2.2.2.2.2.1), (38, (pPlanks (fun j => α 58 (40 * 3 + j)) m (α 56 3) s fr x (n, (α 31, α 32, α 33, α 35, α 36, α 38))).2.2.2.2.2.2.2)]) z t0 ts)) := by
  refine aw_ev (cd := cd_Model_planks) rfl rfl rfl ?_
  show aw_W _ _ _ _ (0, [some (.ref 46), some (.int 3), some (.int s), some (.int fr), some (.int x), none, none, none, none, none], []) (ae_en σ α z t0 ts)
  refine aw_go 1 rfl ⟨trivial, trivial⟩ ?_
  refine aw_callE rfl rfl (ev_Model_isSheet (s := 3)) ?_
  show aw_W _ _ _ _ (2, [some (.ref 46), some (.int 3), some (.int s), some (.int fr), some (.int x), none, none, none, none, none], [.int (bI (iP 4 3))]) (ae_en σ α z t0 ts)
  refine aw_go 1 rfl ⟨trivial, trivial⟩ ?_
  refine aw_br (c := (bI (iP 4 3)) = 0) (fun h2 => ?_) (fun h2 => ?_)
  · skip
    have h2 := bI_f h2
    show aw_W _ _ _ _ (13, [some (.ref 46), some (.int 3), some (.int s), some (.int fr), some (.int x), none, none, none, none, none], []) (ae_en σ α z t0 ts)
    exact absurd h2 (by decide)
  · skip
    have h2 := bI_t h2
    show aw_W _ _ _ _ (3, [some (.ref 46), some (.int 3), some (.int s), some (.int fr), some (.int x), none, none, none, none, none], []) (ae_en σ α z t0 ts)
    refine aw_go 3 rfl ⟨trivial, trivial, trivial, trivial⟩ ?_
    refine aw_callE rfl rfl (em_in (v := s) (a := 0) (b := 2)) ?_
    show aw_W _ _ _ _ (7, [some (.ref 46), some (.int 3), some (.int s), some (.int fr), some (.int x), none, none, none, none, none], [.int (bI (¬ s < 0 ∧ ¬ 2 < s))]) (ae_en σ α z t0 ts)
    refine aw_go 1 rfl ⟨trivial, trivial⟩ ?_
    refine aw_br (c := (bI (¬ s < 0 ∧ ¬ 2 < s)) = 0) (fun h7 => ?_) (fun h7 => ?_)
    · skip
      have h7 := bI_f h7
      show aw_W _ _ _ _ (13, [some (.ref 46), some (.int 3), some (.int s), some (.int fr), some (.int x), none, none, none, none, none], []) (ae_en σ α z t0 ts)
      refine aw_go 1 rfl ⟨trivial, trivial⟩ ?_
      refine aw_ret rfl rfl trivial ?_
      rw [pPlanks, if_pos (Classical.byContradiction fun q => h7 ⟨fun w => q (Or.inl w), fun w => q (Or.inr (Or.inl w))⟩), ← hn]
      exact ⟨rfl, rfl⟩
    · skip
      have h7 := bI_t h7
      show aw_W _ _ _ _ (8, [some (.ref 46), some (.int 3), some (.int s), some (.int fr), some (.int x), none, none, none, none, none], []) (ae_en σ α z t0 ts)
      refine aw_go 3 rfl ⟨trivial, trivial, trivial, trivial⟩ ?_
      refine aw_callE rfl rfl (em_in (v := x) (a := 0) (b := 10)) ?_
      show aw_W _ _ _ _ (12, [some (.ref 46), some (.int 3), some (.int s), some (.int fr), some (.int x), none, none, none, none, none], [.int (bI (¬ x < 0 ∧ ¬ 10 < x))]) (ae_en σ α z t0 ts)
      refine aw_go 1 rfl ⟨trivial, trivial⟩ ?_
      refine aw_br (c := ¬ (bI (¬ x < 0 ∧ ¬ 10 < x)) = 0) (fun h12 => ?_) (fun h12 => ?_)
      · skip
        have h12 := bI_t h12
        show aw_W _ _ _ _ (15, [some (.ref 46), some (.int 3), some (.int s), some (.int fr), some (.int x), none, none, none, none, none], []) (ae_en σ α z t0 ts)
        obtain ⟨N, hN, rfl⟩ := nI_of2 (M := 10) (n := 10) rfl h12.1 (Int32.not_lt.mp h12.2)
        refine aw_go 5 rfl ⟨trivial, trivial, trivial, (cI_in (a := 3) rfl (by omega) (by decide)), trivial, trivial⟩ ?_
        show aw_W _ _ _ _ (if (α 56 (3 : Int32).toNatClampNeg) < 0 then 28 else 20, [some (.ref 46), some (.int 3), some (.int s), some (.int fr), some (.int (nI N)), none, none, none, none, none], []) (ae_en σ α z t0 ts)
        rw [show (3 : Int32).toNatClampNeg = 3 from cI_cl (a := 3) rfl (by omega)]
        refine aw_br (c := (α 56 3) < 0) (fun h19 => ?_) (fun h19 => ?_)
        · skip
          show aw_W _ _ _ _ (28, [some (.ref 46), some (.int 3), some (.int s), some (.int fr), some (.int (nI N)), none, none, none, none, none], []) (ae_en σ α z t0 ts)
          refine aw_go 5 rfl ⟨trivial, trivial, trivial, (cI_in (a := 3) rfl (by omega) (by decide)), trivial, trivial⟩ ?_
          show aw_W _ _ _ _ (if (0 : Int32) ≤ (α 56 (3 : Int32).toNatClampNeg) then 35 else 33, [some (.ref 46), some (.int 3), some (.int s), some (.int fr), some (.int (nI N)), none, none, none, none, none], []) (ae_en σ α z t0 ts)
          rw [show (3 : Int32).toNatClampNeg = 3 from cI_cl (a := 3) rfl (by omega)]
          refine aw_br (c := (0 : Int32) ≤ (α 56 3)) (fun h32 => ?_) (fun h32 => ?_)
          · skip
            show aw_W _ _ _ _ (35, [some (.ref 46), some (.int 3), some (.int s), some (.int fr), some (.int (nI N)), none, none, none, none, none], []) (ae_en σ α z t0 ts)
            exact absurd h19 (Int32.not_lt.mpr h32)
          · skip
            show aw_W _ _ _ _ (33, [some (.ref 46), some (.int 3), some (.int s), some (.int fr), some (.int (nI N)), none, none, none, none, none], []) (ae_en σ α z t0 ts)
            refine aw_go 1 rfl ⟨trivial, trivial⟩ ?_
            refine aw_ret rfl rfl trivial ?_
            rw [pPlanks, if_neg (fun q => by rcases q with q | q | q | q; exact h7.1 q; exact h7.2 q; exact h12.1 q; exact h12.2 q), if_neg (fun q => q.1 (hso.resolve_right (fun w => w h19))), if_pos (hso.resolve_right (fun w => w h19)), ← hn]
            exact ⟨rfl, rfl⟩
        · skip
          show aw_W _ _ _ _ (20, [some (.ref 46), some (.int 3), some (.int s), some (.int fr), some (.int (nI N)), none, none, none, none, none], []) (ae_en σ α z t0 ts)
          refine aw_go 6 rfl ⟨trivial, trivial, trivial, (cI_in (a := 3) rfl (by omega) (by decide)), trivial, trivial, trivial⟩ ?_
          show aw_W _ _ _ _ (if (α 56 (3 : Int32).toNatClampNeg) = s then 28 else 26, [some (.ref 46), some (.int 3), some (.int s), some (.int fr), some (.int (nI N)), none, none, none, none, none], []) (ae_en σ α z t0 ts)
          rw [show (3 : Int32).toNatClampNeg = 3 from cI_cl (a := 3) rfl (by omega)]
          refine aw_br (c := (α 56 3) = s) (fun h25 => ?_) (fun h25 => ?_)
          · skip
            show aw_W _ _ _ _ (28, [some (.ref 46), some (.int 3), some (.int s), some (.int fr), some (.int (nI N)), none, none, none, none, none], []) (ae_en σ α z t0 ts)
            refine aw_go 5 rfl ⟨trivial, trivial, trivial, (cI_in (a := 3) rfl (by omega) (by decide)), trivial, trivial⟩ ?_
            show aw_W _ _ _ _ (if (0 : Int32) ≤ (α 56 (3 : Int32).toNatClampNeg) then 35 else 33, [some (.ref 46), some (.int 3), some (.int s), some (.int fr), some (.int (nI N)), none, none, none, none, none], []) (ae_en σ α z t0 ts)
            rw [show (3 : Int32).toNatClampNeg = 3 from cI_cl (a := 3) rfl (by omega)]
            refine aw_br (c := (0 : Int32) ≤ (α 56 3)) (fun h32 => ?_) (fun h32 => ?_)
            · skip
              show aw_W _ _ _ _ (35, [some (.ref 46), some (.int 3), some (.int s), some (.int fr), some (.int (nI N)), none, none, none, none, none], []) (ae_en σ α z t0 ts)
              refine aw_go 4 rfl ⟨trivial, trivial, trivial, trivial, trivial⟩ ?_
              rw [pPlanks, if_neg (fun q => by rcases q with q | q | q | q; exact h7.1 q; exact h7.2 q; exact h12.1 q; exact h12.2 q), if_neg (fun q => q.2 h25), if_neg (fun q => h19 (by rw [q]; decide)), nI_clamp (by omega)]
              exact aw_to (lp_mPl_3 (q := (n, (α 31, α 32, α 33, α 35, α 36, α 38))) (hm h19) hm40 hN hn10 0 (Nat.zero_le _) rfl) rfl (by rw [← hn]; rfl)
            · skip
              show aw_W _ _ _ _ (33, [some (.ref 46), some (.int 3), some (.int s), some (.int fr), some (.int (nI N)), none, none, none, none, none], []) (ae_en σ α z t0 ts)
              exact absurd (Int32.not_le.mp h32) h19
          · skip
            show aw_W _ _ _ _ (26, [some (.ref 46), some (.int 3), some (.int s), some (.int fr), some (.int (nI N)), none, none, none, none, none], []) (ae_en σ α z t0 ts)
            refine aw_go 1 rfl ⟨trivial, trivial⟩ ?_
            refine aw_ret rfl rfl trivial ?_
            rw [pPlanks, if_neg (fun q => by rcases q with q | q | q | q; exact h7.1 q; exact h7.2 q; exact h12.1 q; exact h12.2 q), if_pos ⟨fun w => h19 (by rw [w]; decide), h25⟩, ← hn]
            exact ⟨rfl, rfl⟩
      · skip
        have h12 := bI_f (Classical.not_not.mp h12)
        show aw_W _ _ _ _ (13, [some (.ref 46), some (.int 3), some (.int s), some (.int fr), some (.int x), none, none, none, none, none], []) (ae_en σ α z t0 ts)
        refine aw_go 1 rfl ⟨trivial, trivial⟩ ?_
        refine aw_ret rfl rfl trivial ?_
        rw [pPlanks, if_pos (Classical.byContradiction fun q => h12 ⟨fun w => q (Or.inr (Or.inr (Or.inl w))), fun w => q (Or.inr (Or.inr (Or.inr w)))⟩), ← hn]
        exact ⟨rfl, rfl⟩
end L55
