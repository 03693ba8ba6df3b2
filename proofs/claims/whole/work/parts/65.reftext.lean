/-! the reference reads a text -/
theorem tk_end {so iz t : Int32} (h : tokR so iz t) (ht : t = -17) : so = 4 := by
  rcases h with ⟨v, hv, rfl, rfl, rfl⟩ | ⟨v, hv, rfl, rfl, rfl⟩ | ⟨rfl, rfl, rfl⟩ | ⟨rfl, rfl, rfl⟩ | ⟨rfl, rfl, rfl⟩ | ⟨rfl, rfl, rfl⟩ | ⟨rfl, rfl, rfl⟩ | ⟨rfl, rfl, rfl⟩ | ⟨rfl, rfl, rfl⟩ | ⟨rfl, rfl, rfl⟩ | ⟨rfl, rfl, rfl⟩ | ⟨rfl, rfl, rfl⟩ | ⟨rfl, rfl, rfl⟩ | ⟨rfl, rfl, rfl⟩ | ⟨rfl, rfl, rfl⟩ | ⟨rfl, rfl, rfl⟩ | ⟨rfl, rfl⟩ | ⟨rfl, rfl⟩
  · exact absurd ht (nI_nc (by omega) (by decide))
  · exact absurd ht (nI_nc (by omega) (by decide))
  · exact absurd ht (by decide)
  · exact absurd ht (by decide)
  · exact absurd ht (by decide)
  · exact absurd ht (by decide)
  · exact absurd ht (by decide)
  · exact absurd ht (by decide)
  · exact absurd ht (by decide)
  · exact absurd ht (by decide)
  · exact absurd ht (by decide)
  · exact absurd ht (by decide)
  · exact absurd ht (by decide)
  · exact absurd ht (by decide)
  · exact absurd ht (by decide)
  · exact absurd ht (by decide)
  · exact absurd ht (by decide)
  · rfl
theorem tk_n4 {so iz t : Int32} (h : tokR so iz t) (ht : ¬ t = -17) : ¬ so = 4 := by
  rcases h with ⟨v, hv, rfl, rfl, rfl⟩ | ⟨v, hv, rfl, rfl, rfl⟩ | ⟨rfl, rfl, rfl⟩ | ⟨rfl, rfl, rfl⟩ | ⟨rfl, rfl, rfl⟩ | ⟨rfl, rfl, rfl⟩ | ⟨rfl, rfl, rfl⟩ | ⟨rfl, rfl, rfl⟩ | ⟨rfl, rfl, rfl⟩ | ⟨rfl, rfl, rfl⟩ | ⟨rfl, rfl, rfl⟩ | ⟨rfl, rfl, rfl⟩ | ⟨rfl, rfl, rfl⟩ | ⟨rfl, rfl, rfl⟩ | ⟨rfl, rfl, rfl⟩ | ⟨rfl, rfl, rfl⟩ | ⟨rfl, rfl⟩ | ⟨rfl, rfl⟩
  · decide
  · decide
  · decide
  · decide
  · decide
  · decide
  · decide
  · decide
  · decide
  · decide
  · decide
  · decide
  · decide
  · decide
  · decide
  · decide
  · decide
  · exact absurd rfl ht
theorem pTx_y {M : Nat} {l r : ae_TL} {s1 s2 s3 : List Int32} (h : pTx M l = some (true, r, s1, s2, s3)) : ∃ l1 l2, pPt M (-13) l = some (true, l1, s1) ∧ pPt M (-14) l1 = some (true, l2, s2) ∧ pPt M (-15) l2 = some (true, r, s3) ∧ hdT r = -17 := by
  unfold pTx at h
  split at h
  · cases h
  · cases h
  · next l1 a1 h1 =>
    split at h
    · cases h
    · cases h
    · next l2 a2 h2 =>
      split at h
      · cases h
      · cases h
      · next l3 a3 h3 =>
        split at h
        · next f => cases h; exact ⟨_, _, h1, h2, h3, f⟩
        · cases h
theorem pTx_n {M : Nat} {l r : ae_TL} {x y z2 : List Int32} (h : pTx M l = some (false, r, x, y, z2)) : (∃ a, pPt M (-13) l = some (false, r, a)) ∨ (∃ l1 s1 a, pPt M (-13) l = some (true, l1, s1) ∧ pPt M (-14) l1 = some (false, r, a)) ∨ (∃ l1 s1 l2 s2 a, pPt M (-13) l = some (true, l1, s1) ∧ pPt M (-14) l1 = some (true, l2, s2) ∧ pPt M (-15) l2 = some (false, r, a)) ∨ ∃ l1 s1 l2 s2 s3, pPt M (-13) l = some (true, l1, s1) ∧ pPt M (-14) l1 = some (true, l2, s2) ∧ pPt M (-15) l2 = some (true, r, s3) ∧ ¬ hdT r = -17 := by
  unfold pTx at h
  split at h
  · cases h
  · next l1 a1 h1 => cases h; exact Or.inl ⟨_, h1⟩
  · next l1 a1 h1 =>
    split at h
    · cases h
    · next l2 a2 h2 => cases h; exact Or.inr (Or.inl ⟨_, _, _, h1, h2⟩)
    · next l2 a2 h2 =>
      split at h
      · cases h
      · next l3 a3 h3 => cases h; exact Or.inr (Or.inr (Or.inl ⟨_, _, _, _, _, h1, h2, h3⟩))
      · next l3 a3 h3 =>
        split at h
        · cases h
        · next f => cases h; exact Or.inr (Or.inr (Or.inr ⟨_, _, _, _, _, h1, h2, h3, f⟩))
theorem cpy_hi {f g : Nat → Int32} {s d n j : Nat} (h : d + n ≤ j) : va_cpy f g s d n j = g j := if_neg (by omega)
theorem cpy_in {f g : Nat → Int32} {s d n j : Nat} (h : j < n) : va_cpy f g s d n (d + j) = f (s + j) := by
  unfold va_cpy
  rw [if_pos (by omega), show d + j - d = j by omega]
theorem cpy_lo {f g : Nat → Int32} {s d n j : Nat} (h : j < d) : va_cpy f g s d n j = g j := if_neg (by omega)
theorem hasAt_sh {F : Nat → Int32} {b : Nat} : ∀ {p : Nat} {l : List Int32}, hasAt F (b + p) l → hasAt (fun j => F (b + j)) p l
  | _, [], _ => trivial
  | p, x :: l, ⟨h1, h2⟩ => ⟨h1, hasAt_sh (p := p + 1) h2⟩
def mF3 (g : Int32 → Int32) (S : Nat → Int32) (s1 s2 s3 : List Int32) : Nat → Int32 := putL (putL (putL S (1020 + 0) (s1.map g)) (1020 + (0 + s1.length)) (s2.map g)) (1020 + (0 + s1.length + s2.length)) (s3.map g)
theorem mF3_lt {g : Int32 → Int32} {S : Nat → Int32} {s1 s2 s3 : List Int32} {j : Nat} (h : j < 1020) : mF3 g S s1 s2 s3 j = S j := by
  unfold mF3
  rw [putL_lt _ _ _ _ (by omega), putL_lt _ _ _ _ (by omega), putL_lt _ _ _ _ (by omega)]
theorem mF3_has {g : Int32 → Int32} {S : Nat → Int32} {s1 s2 s3 : List Int32} {k q : Nat} (hk : k < 6) (hl : s1.length + s2.length + s3.length ≤ 160) (hq : q < 3) : hasAt (fun j => va_cpy (mF3 g S s1 s2 s3) (mF3 g S s1 s2 s3) 1020 (170 * k) (0 + s1.length + s2.length + s3.length) (170 * k + j)) (tB (e3 s1 s2 s3) q) ((e3 s1 s2 s3 q).map g) := by
  have cg : ∀ {p : Nat} {l : List Int32}, p + l.length ≤ 0 + s1.length + s2.length + s3.length → hasAt (mF3 g S s1 s2 s3) (1020 + p) l → hasAt (fun j => va_cpy (mF3 g S s1 s2 s3) (mF3 g S s1 s2 s3) 1020 (170 * k) (0 + s1.length + s2.length + s3.length) (170 * k + j)) p l := by
    intro p l hp h
    refine hasAt_cg (fun j h3 h4 => ?_) (hasAt_sh h)
    exact (cpy_in (by omega)).symm
  obtain rfl | rfl | rfl : q = 0 ∨ q = 1 ∨ q = 2 := by omega
  · refine cg (p := 0) (l := s1.map g) (by rw [List.length_map]; omega) ?_
    refine hasAt_cg (fun j h3 h4 => ?_) (putL_has S (1020 + 0) (s1.map g))
    rw [List.length_map] at h4
    unfold mF3
    rw [putL_lt _ (1020 + (0 + s1.length + s2.length)) _ j (by omega), putL_lt _ (1020 + (0 + s1.length)) _ j (by omega)]
  · refine cg (p := 0 + s1.length) (l := s2.map g) (by rw [List.length_map]; omega) ?_
    refine hasAt_cg (fun j h3 h4 => ?_) (putL_has (putL S (1020 + 0) (s1.map g)) (1020 + (0 + s1.length)) (s2.map g))
    rw [List.length_map] at h4
    unfold mF3
    rw [putL_lt _ (1020 + (0 + s1.length + s2.length)) _ j (by omega)]
  · exact cg (p := 0 + s1.length + s2.length) (l := s3.map g) (by rw [List.length_map]; omega) (putL_has _ _ _)
def mE3 (E : Nat → Int32) (s1 s2 s3 : List Int32) : Nat → Int32 := upd (upd (upd E 18 (nI (0 + s1.length))) 19 (nI (0 + s1.length + s2.length))) 20 (nI (0 + s1.length + s2.length + s3.length))
def mEn (E : Nat → Int32) (k : Nat) : Nat → Int32 := upd (upd (upd E (3 * k) (E 18)) (3 * k + 1) (upd E (3 * k) (E 18) 19)) (3 * k + 2) (upd (upd E (3 * k) (E 18)) (3 * k + 1) (upd E (3 * k) (E 18) 19) 20)
theorem mEn_lt {E : Nat → Int32} {k j : Nat} (h : j < 3 * k) : mEn E k j = E j := by
  unfold mEn
  rw [upd_ne (by omega), upd_ne (by omega), upd_ne (by omega)]
theorem mEn_at {E : Nat → Int32} {k q : Nat} (hk : k < 6) (hq : q < 3) : mEn E k (3 * k + q) = E (18 + q) := by
  unfold mEn
  obtain rfl | rfl | rfl : q = 0 ∨ q = 1 ∨ q = 2 := by omega
  · rw [upd_ne (by omega), upd_ne (by omega)]
    exact upd_eq _ _ _
  · rw [upd_ne (by omega), upd_eq, upd_ne (by omega)]
  · rw [upd_eq, upd_ne (by omega), upd_ne (by omega)]
theorem mE3_at {E : Nat → Int32} {s1 s2 s3 : List Int32} {q : Nat} (hq : q < 3) : mE3 E s1 s2 s3 (18 + q) = nI (tB (e3 s1 s2 s3) q + (e3 s1 s2 s3 q).length) := by
  obtain rfl | rfl | rfl : q = 0 ∨ q = 1 ∨ q = 2 := by omega
  · rfl
  · rfl
  · rfl
theorem mE3_lt {E : Nat → Int32} {s1 s2 s3 : List Int32} {j : Nat} (h : j < 18) : mE3 E s1 s2 s3 j = E j := by
  unfold mE3
  rw [upd_ne (by omega), upd_ne (by omega), upd_ne (by omega)]
theorem mTx_of {A0 W0 E0 : Nat → Int32} {s1 s2 s3 : List Int32} {k : Nat} (hk : k < 6) (h1 : dOk s1 0 1) (h2 : dOk s2 0 1) (h3 : dOk s3 0 1) (hl : s1.length + s2.length + s3.length ≤ 160) : mTx k (va_cpy (mF3 cA A0 s1 s2 s3) (mF3 cA A0 s1 s2 s3) 1020 (170 * k) (0 + s1.length + s2.length + s3.length)) (va_cpy (mF3 cW W0 s1 s2 s3) (mF3 cW W0 s1 s2 s3) 1020 (170 * k) (0 + s1.length + s2.length + s3.length)) (mEn (mE3 E0 s1 s2 s3) k) (e3 s1 s2 s3) := by
  intro q hq
  refine ⟨?_, mF3_has hk hl hq, mF3_has hk hl hq, (mEn_at hk hq).trans (mE3_at hq), ?_⟩
  · obtain rfl | rfl | rfl : q = 0 ∨ q = 1 ∨ q = 2 := by omega
    · exact h1
    · exact h2
    · exact h3
  · obtain rfl | rfl | rfl : q = 0 ∨ q = 1 ∨ q = 2 := by omega
    · show 0 + s1.length ≤ 160; omega
    · show 0 + s1.length + s2.length ≤ 160; omega
    · show 0 + s1.length + s2.length + s3.length ≤ 160; omega
section L65
variable {P : ae_P} {σ : Nat → Int32} {α : Nat → Nat → Int32} {z : Int64} {t0 : ae_T} {ts : List ae_T}

theorem mr_rule_y0 {s M c D : Nat} {l l1 : ae_TL} {s1 : List Int32} (hpp : pPt M (-13) l = some (true, l1, s1)) (hP : mrP s 0 c l σ α) : aw_X P (D + 50) 132 [.ref 46, .int 0] (ae_en σ α z t0 ts) (fun r H => ∃ (fr tt so iz : Int32), r = none ∧ H = ae_en (au σ [(34, nI (c + s1.length)), (35, (-1)), (36, nI 0), (37, fr), (38, tt), (39, so), (40, iz)]) (au α [(40, putL (α 40) (1020 + c) (s1.map cA)), (41, putL (α 41) (1020 + c) (s1.map cW)), (42, upd (α 42) 18 (nI (c + s1.length)))]) z t0 ts ∧ mrT s (α 39) l1 fr tt so iz) := by
  have a0 := hP
  obtain ⟨a1, a2, a3, a4, a5, a6, a7, a8, a9, a10⟩ := hP
  have a7t := a7.2.2.1
  have a7p := a7.2.1
  have ih0 := (mr_kinds (P := P) (z := z) (t0 := t0) (ts := ts) (s := s) M).1
  have hlp0 := gL_pos a9
  unfold pPt at hpp
  by_cases e : hdT l = -13
  · rw [if_pos e] at hpp
    have e17 : ¬ hdT l = -17 := by rw [e]; decide
    have ht := pH_tail (l := l) e17
    have ht1 := ht.1
    have hlp := gL_pos (ht.2.1 a9)
    rcases bP_some hpp with ⟨l2, s2, q1, hpp⟩ | ⟨l2, s2, q1, hpp⟩
    · have hp := (pp_pH _ _ _ _ _ _ _ q1).1
      have hp1 := hp.1
      have hg1 := hp.2.1 (ht.2.1 a9)
      by_cases f : hdT l2 = -11
      · rw [if_pos f] at hpp
        have f17 : ¬ hdT l2 = -17 := by rw [f]; decide
        have hh : l2.tail = l1 ∧ s2 = s1 := by cases hpp; exact ⟨rfl, rfl⟩
        rw [← hh.1, ← hh.2]
        refine aw_ev (cd := cd_Model_rule) rfl rfl rfl ?_
        show aw_W _ _ _ _ (0, [some (.ref 46), some (.int 0)], []) (ae_en σ α z t0 ts)
        refine aw_go 4 rfl ⟨trivial, trivial, trivial, trivial, trivial⟩ ?_
        show aw_W _ _ _ _ (4, [some (.ref 46), some (.int 0)], [.int (10 + 0), .ref 46]) (ae_en σ α z t0 ts)
        rw [show 10 + 0 = nI 10 from (cI_add (a := 10) (b := 0) rfl rfl)]
        refine aw_callE rfl rfl (ev_Model_isKey (b := (nI 10))) ?_
        show aw_W _ _ _ _ (5, [some (.ref 46), some (.int 0)], [.int (bI ((σ 35) < 0 ∧ (σ 39) = 1 ∧ (σ 40) = (nI 10)))]) (ae_en σ α z t0 ts)
        refine aw_top (x2 := 1) ((is_k10 a7t a5).trans (bI_1 e).symm) ?_
        refine aw_go 1 rfl ⟨trivial, trivial⟩ ?_
        refine aw_br (c := ¬ (1 : Int32) = 0) (fun h5 => ?_) (fun h5 => ?_)
        · skip
          have h5 := cI_eqF (a := 1) (b := 0) rfl rfl (by omega) (by omega) h5
          show aw_W _ _ _ _ (9, [some (.ref 46), some (.int 0)], []) (ae_en σ α z t0 ts)
          refine aw_go 1 rfl ⟨trivial, trivial⟩ ?_
          refine aw_call rfl rfl (mr_next2 (s := s) (l := l) a1 a2 a3 a7 e17) ?_
          rintro _ _ ⟨fr_10, tt_10, so_10, iz_10, rfl, rfl, ht_10⟩
          show aw_W _ _ _ _ (11, [some (.ref 46), some (.int 0)], []) (ae_en (au σ [(37, fr_10), (38, tt_10), (39, so_10), (40, iz_10)]) α z t0 ts)
          refine aw_go 1 rfl ⟨trivial, trivial⟩ ?_
          refine aw_call rfl rfl (mrX_y ih0 q1 ⟨a1, a2, a3, a4, a5, a6, ht_10, (by omega), (ht.2.1 a9), (by omega)⟩ (by show 7 * (5 - 0) + 11 ≤ D + 49; omega)) ?_
          rintro _ _ ⟨fr_12, tt_12, so_12, iz_12, rfl, rfl, ht_12⟩
          show aw_W _ _ _ _ (13, [some (.ref 46), some (.int 0)], []) (ae_en (au σ [(34, nI (c + s2.length)), (35, (-1)), (36, nI 0), (37, fr_12), (38, tt_12), (39, so_12), (40, iz_12)]) (au α [(40, putL (α 40) (1020 + c) (s2.map cA)), (41, putL (α 41) (1020 + c) (s2.map cW))]) z t0 ts)
          refine aw_go 2 rfl ⟨trivial, trivial, trivial⟩ ?_
          refine aw_callE rfl rfl (ev_Model_isSign (b := 59)) ?_
          show aw_W _ _ _ _ (16, [some (.ref 46), some (.int 0)], [.int (bI ((-1) < 0 ∧ so_12 = 3 ∧ iz_12 = 59))]) (ae_en (au σ [(34, nI (c + s2.length)), (35, (-1)), (36, nI 0), (37, fr_12), (38, tt_12), (39, so_12), (40, iz_12)]) (au α [(40, putL (α 40) (1020 + c) (s2.map cA)), (41, putL (α 41) (1020 + c) (s2.map cW))]) z t0 ts)
          refine aw_top (x2 := 1) ((is_s59 ht_12.2.2.1 rfl).trans (bI_1 f).symm) ?_
          refine aw_go 1 rfl ⟨trivial, trivial⟩ ?_
          refine aw_br (c := ¬ (1 : Int32) = 0) (fun h16 => ?_) (fun h16 => ?_)
          · skip
            have h16 := cI_eqF (a := 1) (b := 0) rfl rfl (by omega) (by omega) h16
            show aw_W _ _ _ _ (20, [some (.ref 46), some (.int 0)], []) (ae_en (au σ [(34, nI (c + s2.length)), (35, (-1)), (36, nI 0), (37, fr_12), (38, tt_12), (39, so_12), (40, iz_12)]) (au α [(40, putL (α 40) (1020 + c) (s2.map cA)), (41, putL (α 41) (1020 + c) (s2.map cW))]) z t0 ts)
            refine aw_go 1 rfl ⟨trivial, trivial⟩ ?_
            refine aw_call rfl rfl (mr_next2 (s := s) (l := l2) a1 a2 a3 ht_12 f17) ?_
            rintro _ _ ⟨fr_21, tt_21, so_21, iz_21, rfl, rfl, ht_21⟩
            show aw_W _ _ _ _ (22, [some (.ref 46), some (.int 0)], []) (ae_en (au σ [(34, nI (c + s2.length)), (35, (-1)), (36, nI 0), (37, fr_21), (38, tt_21), (39, so_21), (40, iz_21)]) (au α [(40, putL (α 40) (1020 + c) (s2.map cA)), (41, putL (α 41) (1020 + c) (s2.map cW))]) z t0 ts)
            refine aw_go 8 rfl ⟨trivial, trivial, trivial, trivial, trivial, trivial, trivial, (cI_in (a := 18) (cI_add (a := 18) (b := 0) rfl rfl) (by omega) (by decide)), trivial⟩ ?_
            show aw_W _ _ _ _ (30, [some (.ref 46), some (.int 0)], []) (ae_en (au σ [(34, nI (c + s2.length)), (35, (-1)), (36, nI 0), (37, fr_21), (38, tt_21), (39, so_21), (40, iz_21)]) (au α [(40, putL (α 40) (1020 + c) (s2.map cA)), (41, putL (α 41) (1020 + c) (s2.map cW)), (42, upd (α 42) ((18 : Int32) + 0).toNatClampNeg (nI (c + s2.length)))]) z t0 ts)
            rw [show ((18 : Int32) + 0).toNatClampNeg = 18 from cI_cl (a := 18) (cI_add (a := 18) (b := 0) rfl rfl) (by omega)]
            refine aw_ret rfl rfl trivial ?_
            exact ⟨_, _, _, _, rfl, rfl, ht_21⟩
          · skip
            have h16 := Classical.not_not.mp h16
            have h16 := cI_eqT (a := 1) (b := 0) rfl rfl (by omega) (by omega) h16
            show aw_W _ _ _ _ (17, [some (.ref 46), some (.int 0)], []) (ae_en (au σ [(34, nI (c + s2.length)), (35, (-1)), (36, nI 0), (37, fr_12), (38, tt_12), (39, so_12), (40, iz_12)]) (au α [(40, putL (α 40) (1020 + c) (s2.map cA)), (41, putL (α 41) (1020 + c) (s2.map cW))]) z t0 ts)
            exact absurd h16 (by decide)
        · skip
          have h5 := Classical.not_not.mp h5
          have h5 := cI_eqT (a := 1) (b := 0) rfl rfl (by omega) (by omega) h5
          show aw_W _ _ _ _ (6, [some (.ref 46), some (.int 0)], []) (ae_en σ α z t0 ts)
          exact absurd h5 (by decide)
      · rw [if_neg f] at hpp
        cases hpp
    · cases hpp
  · rw [if_neg e] at hpp
    cases hpp
theorem mr_rule_n0 {s M c D : Nat} {l l1 : ae_TL} {s1 : List Int32} (hpp : pPt M (-13) l = some (false, l1, s1)) (hP : mrP s 0 c l σ α) : aw_X P (D + 50) 132 [.ref 46, .int 0] (ae_en σ α z t0 ts) (fun r H => ∃ (k : Nat) (op fr tt so iz : Int32) (A W : Nat → Int32), r = none ∧ H = ae_en (au σ [(34, nI k), (35, nI (hdP l1)), (36, op), (37, fr), (38, tt), (39, so), (40, iz)]) (au α [(40, A), (41, W)]) z t0 ts ∧ hdP l1 ≤ s ∧ ∀ j, j < 1020 → A j = α 40 j ∧ W j = α 41 j) := by
  have a0 := hP
  obtain ⟨a1, a2, a3, a4, a5, a6, a7, a8, a9, a10⟩ := hP
  have a7t := a7.2.2.1
  have a7p := a7.2.1
  have ih0 := (mr_kinds (P := P) (z := z) (t0 := t0) (ts := ts) (s := s) M).1
  have hlp0 := gL_pos a9
  unfold pPt at hpp
  by_cases e : hdT l = -13
  · rw [if_pos e] at hpp
    have e17 : ¬ hdT l = -17 := by rw [e]; decide
    have ht := pH_tail (l := l) e17
    have ht1 := ht.1
    have hlp := gL_pos (ht.2.1 a9)
    rcases bP_some hpp with ⟨l2, s2, q1, hpp⟩ | ⟨l2, s2, q1, hpp⟩
    · have hp := (pp_pH _ _ _ _ _ _ _ q1).1
      have hp1 := hp.1
      have hg1 := hp.2.1 (ht.2.1 a9)
      by_cases f : hdT l2 = -11
      · rw [if_pos f] at hpp
        cases hpp
      · rw [if_neg f] at hpp
        have hh : l2 = l1 := by cases hpp; rfl
        rw [← hh]
        refine aw_ev (cd := cd_Model_rule) rfl rfl rfl ?_
        show aw_W _ _ _ _ (0, [some (.ref 46), some (.int 0)], []) (ae_en σ α z t0 ts)
        refine aw_go 4 rfl ⟨trivial, trivial, trivial, trivial, trivial⟩ ?_
        show aw_W _ _ _ _ (4, [some (.ref 46), some (.int 0)], [.int (10 + 0), .ref 46]) (ae_en σ α z t0 ts)
        rw [show 10 + 0 = nI 10 from (cI_add (a := 10) (b := 0) rfl rfl)]
        refine aw_callE rfl rfl (ev_Model_isKey (b := (nI 10))) ?_
        show aw_W _ _ _ _ (5, [some (.ref 46), some (.int 0)], [.int (bI ((σ 35) < 0 ∧ (σ 39) = 1 ∧ (σ 40) = (nI 10)))]) (ae_en σ α z t0 ts)
        refine aw_top (x2 := 1) ((is_k10 a7t a5).trans (bI_1 e).symm) ?_
        refine aw_go 1 rfl ⟨trivial, trivial⟩ ?_
        refine aw_br (c := ¬ (1 : Int32) = 0) (fun h5 => ?_) (fun h5 => ?_)
        · skip
          have h5 := cI_eqF (a := 1) (b := 0) rfl rfl (by omega) (by omega) h5
          show aw_W _ _ _ _ (9, [some (.ref 46), some (.int 0)], []) (ae_en σ α z t0 ts)
          refine aw_go 1 rfl ⟨trivial, trivial⟩ ?_
          refine aw_call rfl rfl (mr_next2 (s := s) (l := l) a1 a2 a3 a7 e17) ?_
          rintro _ _ ⟨fr_10, tt_10, so_10, iz_10, rfl, rfl, ht_10⟩
          show aw_W _ _ _ _ (11, [some (.ref 46), some (.int 0)], []) (ae_en (au σ [(37, fr_10), (38, tt_10), (39, so_10), (40, iz_10)]) α z t0 ts)
          refine aw_go 1 rfl ⟨trivial, trivial⟩ ?_
          refine aw_call rfl rfl (mrX_y ih0 q1 ⟨a1, a2, a3, a4, a5, a6, ht_10, (by omega), (ht.2.1 a9), (by omega)⟩ (by show 7 * (5 - 0) + 11 ≤ D + 49; omega)) ?_
          rintro _ _ ⟨fr_12, tt_12, so_12, iz_12, rfl, rfl, ht_12⟩
          show aw_W _ _ _ _ (13, [some (.ref 46), some (.int 0)], []) (ae_en (au σ [(34, nI (c + s2.length)), (35, (-1)), (36, nI 0), (37, fr_12), (38, tt_12), (39, so_12), (40, iz_12)]) (au α [(40, putL (α 40) (1020 + c) (s2.map cA)), (41, putL (α 41) (1020 + c) (s2.map cW))]) z t0 ts)
          refine aw_go 2 rfl ⟨trivial, trivial, trivial⟩ ?_
          refine aw_callE rfl rfl (ev_Model_isSign (b := 59)) ?_
          show aw_W _ _ _ _ (16, [some (.ref 46), some (.int 0)], [.int (bI ((-1) < 0 ∧ so_12 = 3 ∧ iz_12 = 59))]) (ae_en (au σ [(34, nI (c + s2.length)), (35, (-1)), (36, nI 0), (37, fr_12), (38, tt_12), (39, so_12), (40, iz_12)]) (au α [(40, putL (α 40) (1020 + c) (s2.map cA)), (41, putL (α 41) (1020 + c) (s2.map cW))]) z t0 ts)
          refine aw_top (x2 := 0) ((is_s59 ht_12.2.2.1 rfl).trans (bI_0 f).symm) ?_
          refine aw_go 1 rfl ⟨trivial, trivial⟩ ?_
          refine aw_br (c := ¬ (0 : Int32) = 0) (fun h16 => ?_) (fun h16 => ?_)
          · skip
            have h16 := cI_eqF (a := 0) (b := 0) rfl rfl (by omega) (by omega) h16
            show aw_W _ _ _ _ (20, [some (.ref 46), some (.int 0)], []) (ae_en (au σ [(34, nI (c + s2.length)), (35, (-1)), (36, nI 0), (37, fr_12), (38, tt_12), (39, so_12), (40, iz_12)]) (au α [(40, putL (α 40) (1020 + c) (s2.map cA)), (41, putL (α 41) (1020 + c) (s2.map cW))]) z t0 ts)
            exact absurd h16 (by decide)
          · skip
            have h16 := Classical.not_not.mp h16
            have h16 := cI_eqT (a := 0) (b := 0) rfl rfl (by omega) (by omega) h16
            show aw_W _ _ _ _ (17, [some (.ref 46), some (.int 0)], []) (ae_en (au σ [(34, nI (c + s2.length)), (35, (-1)), (36, nI 0), (37, fr_12), (38, tt_12), (39, so_12), (40, iz_12)]) (au α [(40, putL (α 40) (1020 + c) (s2.map cA)), (41, putL (α 41) (1020 + c) (s2.map cW))]) z t0 ts)
            refine aw_go 1 rfl ⟨trivial, trivial⟩ ?_
            refine aw_call rfl rfl (ev_faulty_1  rfl) ?_
            rintro _ _ ⟨rfl, rfl⟩
            show aw_W _ _ _ _ (19, [some (.ref 46), some (.int 0)], []) (ae_en (au σ [(34, nI (c + s2.length)), (35, fr_12), (36, nI 0), (37, fr_12), (38, tt_12), (39, so_12), (40, iz_12)]) (au α [(40, putL (α 40) (1020 + c) (s2.map cA)), (41, putL (α 41) (1020 + c) (s2.map cW))]) z t0 ts)
            refine aw_ret rfl rfl trivial ?_
            rw [ht_12.1]
            exact ⟨_, _, _, _, _, _, _, _, rfl, rfl, ht_12.2.1, put_out⟩
        · skip
          have h5 := Classical.not_not.mp h5
          have h5 := cI_eqT (a := 1) (b := 0) rfl rfl (by omega) (by omega) h5
          show aw_W _ _ _ _ (6, [some (.ref 46), some (.int 0)], []) (ae_en σ α z t0 ts)
          exact absurd h5 (by decide)
    · have hp := (pp_pH _ _ _ _ _ _ _ q1).1
      have hp1 := hp.1
      have hh : l2 = l1 := by cases hpp; rfl
      rw [← hh]
      refine aw_ev (cd := cd_Model_rule) rfl rfl rfl ?_
      show aw_W _ _ _ _ (0, [some (.ref 46), some (.int 0)], []) (ae_en σ α z t0 ts)
      refine aw_go 4 rfl ⟨trivial, trivial, trivial, trivial, trivial⟩ ?_
      show aw_W _ _ _ _ (4, [some (.ref 46), some (.int 0)], [.int (10 + 0), .ref 46]) (ae_en σ α z t0 ts)
      rw [show 10 + 0 = nI 10 from (cI_add (a := 10) (b := 0) rfl rfl)]
      refine aw_callE rfl rfl (ev_Model_isKey (b := (nI 10))) ?_
      show aw_W _ _ _ _ (5, [some (.ref 46), some (.int 0)], [.int (bI ((σ 35) < 0 ∧ (σ 39) = 1 ∧ (σ 40) = (nI 10)))]) (ae_en σ α z t0 ts)
      refine aw_top (x2 := 1) ((is_k10 a7t a5).trans (bI_1 e).symm) ?_
      refine aw_go 1 rfl ⟨trivial, trivial⟩ ?_
      refine aw_br (c := ¬ (1 : Int32) = 0) (fun h5 => ?_) (fun h5 => ?_)
      · skip
        have h5 := cI_eqF (a := 1) (b := 0) rfl rfl (by omega) (by omega) h5
        show aw_W _ _ _ _ (9, [some (.ref 46), some (.int 0)], []) (ae_en σ α z t0 ts)
        refine aw_go 1 rfl ⟨trivial, trivial⟩ ?_
        refine aw_call rfl rfl (mr_next2 (s := s) (l := l) a1 a2 a3 a7 e17) ?_
        rintro _ _ ⟨fr_10, tt_10, so_10, iz_10, rfl, rfl, ht_10⟩
        show aw_W _ _ _ _ (11, [some (.ref 46), some (.int 0)], []) (ae_en (au σ [(37, fr_10), (38, tt_10), (39, so_10), (40, iz_10)]) α z t0 ts)
        refine aw_go 1 rfl ⟨trivial, trivial⟩ ?_
        refine aw_call rfl rfl (mrX_n ih0 q1 ⟨a1, a2, a3, a4, a5, a6, ht_10, (by omega), (ht.2.1 a9), (by omega)⟩ (by show 7 * (5 - 0) + 11 ≤ D + 49; omega)) ?_
        rintro _ _ ⟨k_12, op_12, fr_12, tt_12, so_12, iz_12, A_12, W_12, rfl, rfl, f1_12, f2_12, f3_12, f4_12⟩
        show aw_W _ _ _ _ (13, [some (.ref 46), some (.int 0)], []) (ae_en (au σ [(34, nI k_12), (35, nI (hdP l2)), (36, op_12), (37, fr_12), (38, tt_12), (39, so_12), (40, iz_12)]) (au α [(40, A_12), (41, W_12)]) z t0 ts)
        refine aw_go 2 rfl ⟨trivial, trivial, trivial⟩ ?_
        refine aw_callE rfl rfl (ev_Model_isSign (b := 59)) ?_
        show aw_W _ _ _ _ (16, [some (.ref 46), some (.int 0)], [.int (bI ((nI (hdP l2)) < 0 ∧ so_12 = 3 ∧ iz_12 = 59))]) (ae_en (au σ [(34, nI k_12), (35, nI (hdP l2)), (36, op_12), (37, fr_12), (38, tt_12), (39, so_12), (40, iz_12)]) (au α [(40, A_12), (41, W_12)]) z t0 ts)
        refine aw_top (x2 := 0) (is_no (p := hdP l2) (by omega) rfl) ?_
        refine aw_go 1 rfl ⟨trivial, trivial⟩ ?_
        refine aw_br (c := ¬ (0 : Int32) = 0) (fun h16 => ?_) (fun h16 => ?_)
        · skip
          have h16 := cI_eqF (a := 0) (b := 0) rfl rfl (by omega) (by omega) h16
          show aw_W _ _ _ _ (20, [some (.ref 46), some (.int 0)], []) (ae_en (au σ [(34, nI k_12), (35, nI (hdP l2)), (36, op_12), (37, fr_12), (38, tt_12), (39, so_12), (40, iz_12)]) (au α [(40, A_12), (41, W_12)]) z t0 ts)
          exact absurd h16 (by decide)
        · skip
          have h16 := Classical.not_not.mp h16
          have h16 := cI_eqT (a := 0) (b := 0) rfl rfl (by omega) (by omega) h16
          show aw_W _ _ _ _ (17, [some (.ref 46), some (.int 0)], []) (ae_en (au σ [(34, nI k_12), (35, nI (hdP l2)), (36, op_12), (37, fr_12), (38, tt_12), (39, so_12), (40, iz_12)]) (au α [(40, A_12), (41, W_12)]) z t0 ts)
          refine aw_go 1 rfl ⟨trivial, trivial⟩ ?_
          refine aw_callE rfl rfl (ev_faulty_0  (Int32.not_lt.mp (nI_nneg (by omega)))) ?_
          show aw_W _ _ _ _ (19, [some (.ref 46), some (.int 0)], []) (ae_en (au σ [(34, nI k_12), (35, nI (hdP l2)), (36, op_12), (37, fr_12), (38, tt_12), (39, so_12), (40, iz_12)]) (au α [(40, A_12), (41, W_12)]) z t0 ts)
          refine aw_ret rfl rfl trivial ?_
          exact ⟨_, _, _, _, _, _, _, _, rfl, rfl, f1_12, f4_12⟩
      · skip
        have h5 := Classical.not_not.mp h5
        have h5 := cI_eqT (a := 1) (b := 0) rfl rfl (by omega) (by omega) h5
        show aw_W _ _ _ _ (6, [some (.ref 46), some (.int 0)], []) (ae_en σ α z t0 ts)
        exact absurd h5 (by decide)
  · rw [if_neg e] at hpp
    have hh : l = l1 := by cases hpp; rfl
    rw [← hh]
    refine aw_ev (cd := cd_Model_rule) rfl rfl rfl ?_
    show aw_W _ _ _ _ (0, [some (.ref 46), some (.int 0)], []) (ae_en σ α z t0 ts)
    refine aw_go 4 rfl ⟨trivial, trivial, trivial, trivial, trivial⟩ ?_
    show aw_W _ _ _ _ (4, [some (.ref 46), some (.int 0)], [.int (10 + 0), .ref 46]) (ae_en σ α z t0 ts)
    rw [show 10 + 0 = nI 10 from (cI_add (a := 10) (b := 0) rfl rfl)]
    refine aw_callE rfl rfl (ev_Model_isKey (b := (nI 10))) ?_
    show aw_W _ _ _ _ (5, [some (.ref 46), some (.int 0)], [.int (bI ((σ 35) < 0 ∧ (σ 39) = 1 ∧ (σ 40) = (nI 10)))]) (ae_en σ α z t0 ts)
    refine aw_top (x2 := 0) ((is_k10 a7t a5).trans (bI_0 e).symm) ?_
    refine aw_go 1 rfl ⟨trivial, trivial⟩ ?_
    refine aw_br (c := ¬ (0 : Int32) = 0) (fun h5 => ?_) (fun h5 => ?_)
    · skip
      have h5 := cI_eqF (a := 0) (b := 0) rfl rfl (by omega) (by omega) h5
      show aw_W _ _ _ _ (9, [some (.ref 46), some (.int 0)], []) (ae_en σ α z t0 ts)
      exact absurd h5 (by decide)
    · skip
      have h5 := Classical.not_not.mp h5
      have h5 := cI_eqT (a := 0) (b := 0) rfl rfl (by omega) (by omega) h5
      show aw_W _ _ _ _ (6, [some (.ref 46), some (.int 0)], []) (ae_en σ α z t0 ts)
      refine aw_go 1 rfl ⟨trivial, trivial⟩ ?_
      refine aw_call rfl rfl (ev_faulty_1  a5) ?_
      rintro _ _ ⟨rfl, rfl⟩
      show aw_W _ _ _ _ (8, [some (.ref 46), some (.int 0)], []) (ae_en (au σ [(35, (σ 37))]) α z t0 ts)
      refine aw_ret rfl rfl trivial ?_
      refine ⟨c, σ 36, σ 37, σ 38, σ 39, σ 40, α 40, α 41, rfl, ?_, a7p, fun _ _ => ⟨rfl, rfl⟩⟩
      rw [← a4, ← a7.1]
      rfl
theorem mr_rule_y1 {s M c D : Nat} {l l1 : ae_TL} {s1 : List Int32} (hpp : pPt M (-14) l = some (true, l1, s1)) (hP : mrP s 0 c l σ α) : aw_X P (D + 50) 132 [.ref 46, .int 1] (ae_en σ α z t0 ts) (fun r H => ∃ (fr tt so iz : Int32), r = none ∧ H = ae_en (au σ [(34, nI (c + s1.length)), (35, (-1)), (36, nI 0), (37, fr), (38, tt), (39, so), (40, iz)]) (au α [(40, putL (α 40) (1020 + c) (s1.map cA)), (41, putL (α 41) (1020 + c) (s1.map cW)), (42, upd (α 42) 19 (nI (c + s1.length)))]) z t0 ts ∧ mrT s (α 39) l1 fr tt so iz) := by
  have a0 := hP
  obtain ⟨a1, a2, a3, a4, a5, a6, a7, a8, a9, a10⟩ := hP
  have a7t := a7.2.2.1
  have a7p := a7.2.1
  have ih0 := (mr_kinds (P := P) (z := z) (t0 := t0) (ts := ts) (s := s) M).1
  have hlp0 := gL_pos a9
  unfold pPt at hpp
  by_cases e : hdT l = -14
  · rw [if_pos e] at hpp
    have e17 : ¬ hdT l = -17 := by rw [e]; decide
    have ht := pH_tail (l := l) e17
    have ht1 := ht.1
    have hlp := gL_pos (ht.2.1 a9)
    rcases bP_some hpp with ⟨l2, s2, q1, hpp⟩ | ⟨l2, s2, q1, hpp⟩
    · have hp := (pp_pH _ _ _ _ _ _ _ q1).1
      have hp1 := hp.1
      have hg1 := hp.2.1 (ht.2.1 a9)
      by_cases f : hdT l2 = -11
      · rw [if_pos f] at hpp
        have f17 : ¬ hdT l2 = -17 := by rw [f]; decide
        have hh : l2.tail = l1 ∧ s2 = s1 := by cases hpp; exact ⟨rfl, rfl⟩
        rw [← hh.1, ← hh.2]
        refine aw_ev (cd := cd_Model_rule) rfl rfl rfl ?_
        show aw_W _ _ _ _ (0, [some (.ref 46), some (.int 1)], []) (ae_en σ α z t0 ts)
        refine aw_go 4 rfl ⟨trivial, trivial, trivial, trivial, trivial⟩ ?_
        show aw_W _ _ _ _ (4, [some (.ref 46), some (.int 1)], [.int (10 + 1), .ref 46]) (ae_en σ α z t0 ts)
        rw [show 10 + 1 = nI 11 from (cI_add (a := 10) (b := 1) rfl rfl)]
        refine aw_callE rfl rfl (ev_Model_isKey (b := (nI 11))) ?_
        show aw_W _ _ _ _ (5, [some (.ref 46), some (.int 1)], [.int (bI ((σ 35) < 0 ∧ (σ 39) = 1 ∧ (σ 40) = (nI 11)))]) (ae_en σ α z t0 ts)
        refine aw_top (x2 := 1) ((is_k11 a7t a5).trans (bI_1 e).symm) ?_
        refine aw_go 1 rfl ⟨trivial, trivial⟩ ?_
        refine aw_br (c := ¬ (1 : Int32) = 0) (fun h5 => ?_) (fun h5 => ?_)
        · skip
          have h5 := cI_eqF (a := 1) (b := 0) rfl rfl (by omega) (by omega) h5
          show aw_W _ _ _ _ (9, [some (.ref 46), some (.int 1)], []) (ae_en σ α z t0 ts)
          refine aw_go 1 rfl ⟨trivial, trivial⟩ ?_
          refine aw_call rfl rfl (mr_next2 (s := s) (l := l) a1 a2 a3 a7 e17) ?_
          rintro _ _ ⟨fr_10, tt_10, so_10, iz_10, rfl, rfl, ht_10⟩
          show aw_W _ _ _ _ (11, [some (.ref 46), some (.int 1)], []) (ae_en (au σ [(37, fr_10), (38, tt_10), (39, so_10), (40, iz_10)]) α z t0 ts)
          refine aw_go 1 rfl ⟨trivial, trivial⟩ ?_
          refine aw_call rfl rfl (mrX_y ih0 q1 ⟨a1, a2, a3, a4, a5, a6, ht_10, (by omega), (ht.2.1 a9), (by omega)⟩ (by show 7 * (5 - 0) + 11 ≤ D + 49; omega)) ?_
          rintro _ _ ⟨fr_12, tt_12, so_12, iz_12, rfl, rfl, ht_12⟩
          show aw_W _ _ _ _ (13, [some (.ref 46), some (.int 1)], []) (ae_en (au σ [(34, nI (c + s2.length)), (35, (-1)), (36, nI 0), (37, fr_12), (38, tt_12), (39, so_12), (40, iz_12)]) (au α [(40, putL (α 40) (1020 + c) (s2.map cA)), (41, putL (α 41) (1020 + c) (s2.map cW))]) z t0 ts)
          refine aw_go 2 rfl ⟨trivial, trivial, trivial⟩ ?_
          refine aw_callE rfl rfl (ev_Model_isSign (b := 59)) ?_
          show aw_W _ _ _ _ (16, [some (.ref 46), some (.int 1)], [.int (bI ((-1) < 0 ∧ so_12 = 3 ∧ iz_12 = 59))]) (ae_en (au σ [(34, nI (c + s2.length)), (35, (-1)), (36, nI 0), (37, fr_12), (38, tt_12), (39, so_12), (40, iz_12)]) (au α [(40, putL (α 40) (1020 + c) (s2.map cA)), (41, putL (α 41) (1020 + c) (s2.map cW))]) z t0 ts)
          refine aw_top (x2 := 1) ((is_s59 ht_12.2.2.1 rfl).trans (bI_1 f).symm) ?_
          refine aw_go 1 rfl ⟨trivial, trivial⟩ ?_
          refine aw_br (c := ¬ (1 : Int32) = 0) (fun h16 => ?_) (fun h16 => ?_)
          · skip
            have h16 := cI_eqF (a := 1) (b := 0) rfl rfl (by omega) (by omega) h16
            show aw_W _ _ _ _ (20, [some (.ref 46), some (.int 1)], []) (ae_en (au σ [(34, nI (c + s2.length)), (35, (-1)), (36, nI 0), (37, fr_12), (38, tt_12), (39, so_12), (40, iz_12)]) (au α [(40, putL (α 40) (1020 + c) (s2.map cA)), (41, putL (α 41) (1020 + c) (s2.map cW))]) z t0 ts)
            refine aw_go 1 rfl ⟨trivial, trivial⟩ ?_
            refine aw_call rfl rfl (mr_next2 (s := s) (l := l2) a1 a2 a3 ht_12 f17) ?_
            rintro _ _ ⟨fr_21, tt_21, so_21, iz_21, rfl, rfl, ht_21⟩
            show aw_W _ _ _ _ (22, [some (.ref 46), some (.int 1)], []) (ae_en (au σ [(34, nI (c + s2.length)), (35, (-1)), (36, nI 0), (37, fr_21), (38, tt_21), (39, so_21), (40, iz_21)]) (au α [(40, putL (α 40) (1020 + c) (s2.map cA)), (41, putL (α 41) (1020 + c) (s2.map cW))]) z t0 ts)
            refine aw_go 8 rfl ⟨trivial, trivial, trivial, trivial, trivial, trivial, trivial, (cI_in (a := 19) (cI_add (a := 18) (b := 1) rfl rfl) (by omega) (by decide)), trivial⟩ ?_
            show aw_W _ _ _ _ (30, [some (.ref 46), some (.int 1)], []) (ae_en (au σ [(34, nI (c + s2.length)), (35, (-1)), (36, nI 0), (37, fr_21), (38, tt_21), (39, so_21), (40, iz_21)]) (au α [(40, putL (α 40) (1020 + c) (s2.map cA)), (41, putL (α 41) (1020 + c) (s2.map cW)), (42, upd (α 42) ((18 : Int32) + 1).toNatClampNeg (nI (c + s2.length)))]) z t0 ts)
            rw [show ((18 : Int32) + 1).toNatClampNeg = 19 from cI_cl (a := 19) (cI_add (a := 18) (b := 1) rfl rfl) (by omega)]
            refine aw_ret rfl rfl trivial ?_
            exact ⟨_, _, _, _, rfl, rfl, ht_21⟩
          · skip
            have h16 := Classical.not_not.mp h16
            have h16 := cI_eqT (a := 1) (b := 0) rfl rfl (by omega) (by omega) h16
            show aw_W _ _ _ _ (17, [some (.ref 46), some (.int 1)], []) (ae_en (au σ [(34, nI (c + s2.length)), (35, (-1)), (36, nI 0), (37, fr_12), (38, tt_12), (39, so_12), (40, iz_12)]) (au α [(40, putL (α 40) (1020 + c) (s2.map cA)), (41, putL (α 41) (1020 + c) (s2.map cW))]) z t0 ts)
            exact absurd h16 (by decide)
        · skip
          have h5 := Classical.not_not.mp h5
          have h5 := cI_eqT (a := 1) (b := 0) rfl rfl (by omega) (by omega) h5
          show aw_W _ _ _ _ (6, [some (.ref 46), some (.int 1)], []) (ae_en σ α z t0 ts)
          exact absurd h5 (by decide)
      · rw [if_neg f] at hpp
        cases hpp
    · cases hpp
  · rw [if_neg e] at hpp
    cases hpp
theorem mr_rule_n1 {s M c D : Nat} {l l1 : ae_TL} {s1 : List Int32} (hpp : pPt M (-14) l = some (false, l1, s1)) (hP : mrP s 0 c l σ α) : aw_X P (D + 50) 132 [.ref 46, .int 1] (ae_en σ α z t0 ts) (fun r H => ∃ (k : Nat) (op fr tt so iz : Int32) (A W : Nat → Int32), r = none ∧ H = ae_en (au σ [(34, nI k), (35, nI (hdP l1)), (36, op), (37, fr), (38, tt), (39, so), (40, iz)]) (au α [(40, A), (41, W)]) z t0 ts ∧ hdP l1 ≤ s ∧ ∀ j, j < 1020 → A j = α 40 j ∧ W j = α 41 j) := by
  have a0 := hP
  obtain ⟨a1, a2, a3, a4, a5, a6, a7, a8, a9, a10⟩ := hP
  have a7t := a7.2.2.1
  have a7p := a7.2.1
  have ih0 := (mr_kinds (P := P) (z := z) (t0 := t0) (ts := ts) (s := s) M).1
  have hlp0 := gL_pos a9
  unfold pPt at hpp
  by_cases e : hdT l = -14
  · rw [if_pos e] at hpp
    have e17 : ¬ hdT l = -17 := by rw [e]; decide
    have ht := pH_tail (l := l) e17
    have ht1 := ht.1
    have hlp := gL_pos (ht.2.1 a9)
    rcases bP_some hpp with ⟨l2, s2, q1, hpp⟩ | ⟨l2, s2, q1, hpp⟩
    · have hp := (pp_pH _ _ _ _ _ _ _ q1).1
      have hp1 := hp.1
      have hg1 := hp.2.1 (ht.2.1 a9)
      by_cases f : hdT l2 = -11
      · rw [if_pos f] at hpp
        cases hpp
      · rw [if_neg f] at hpp
        have hh : l2 = l1 := by cases hpp; rfl
        rw [← hh]
        refine aw_ev (cd := cd_Model_rule) rfl rfl rfl ?_
        show aw_W _ _ _ _ (0, [some (.ref 46), some (.int 1)], []) (ae_en σ α z t0 ts)
        refine aw_go 4 rfl ⟨trivial, trivial, trivial, trivial, trivial⟩ ?_
        show aw_W _ _ _ _ (4, [some (.ref 46), some (.int 1)], [.int (10 + 1), .ref 46]) (ae_en σ α z t0 ts)
        rw [show 10 + 1 = nI 11 from (cI_add (a := 10) (b := 1) rfl rfl)]
        refine aw_callE rfl rfl (ev_Model_isKey (b := (nI 11))) ?_
        show aw_W _ _ _ _ (5, [some (.ref 46), some (.int 1)], [.int (bI ((σ 35) < 0 ∧ (σ 39) = 1 ∧ (σ 40) = (nI 11)))]) (ae_en σ α z t0 ts)
        refine aw_top (x2 := 1) ((is_k11 a7t a5).trans (bI_1 e).symm) ?_
        refine aw_go 1 rfl ⟨trivial, trivial⟩ ?_
        refine aw_br (c := ¬ (1 : Int32) = 0) (fun h5 => ?_) (fun h5 => ?_)
        · skip
          have h5 := cI_eqF (a := 1) (b := 0) rfl rfl (by omega) (by omega) h5
          show aw_W _ _ _ _ (9, [some (.ref 46), some (.int 1)], []) (ae_en σ α z t0 ts)
          refine aw_go 1 rfl ⟨trivial, trivial⟩ ?_
          refine aw_call rfl rfl (mr_next2 (s := s) (l := l) a1 a2 a3 a7 e17) ?_
          rintro _ _ ⟨fr_10, tt_10, so_10, iz_10, rfl, rfl, ht_10⟩
          show aw_W _ _ _ _ (11, [some (.ref 46), some (.int 1)], []) (ae_en (au σ [(37, fr_10), (38, tt_10), (39, so_10), (40, iz_10)]) α z t0 ts)
          refine aw_go 1 rfl ⟨trivial, trivial⟩ ?_
          refine aw_call rfl rfl (mrX_y ih0 q1 ⟨a1, a2, a3, a4, a5, a6, ht_10, (by omega), (ht.2.1 a9), (by omega)⟩ (by show 7 * (5 - 0) + 11 ≤ D + 49; omega)) ?_
          rintro _ _ ⟨fr_12, tt_12, so_12, iz_12, rfl, rfl, ht_12⟩
          show aw_W _ _ _ _ (13, [some (.ref 46), some (.int 1)], []) (ae_en (au σ [(34, nI (c + s2.length)), (35, (-1)), (36, nI 0), (37, fr_12), (38, tt_12), (39, so_12), (40, iz_12)]) (au α [(40, putL (α 40) (1020 + c) (s2.map cA)), (41, putL (α 41) (1020 + c) (s2.map cW))]) z t0 ts)
          refine aw_go 2 rfl ⟨trivial, trivial, trivial⟩ ?_
          refine aw_callE rfl rfl (ev_Model_isSign (b := 59)) ?_
          show aw_W _ _ _ _ (16, [some (.ref 46), some (.int 1)], [.int (bI ((-1) < 0 ∧ so_12 = 3 ∧ iz_12 = 59))]) (ae_en (au σ [(34, nI (c + s2.length)), (35, (-1)), (36, nI 0), (37, fr_12), (38, tt_12), (39, so_12), (40, iz_12)]) (au α [(40, putL (α 40) (1020 + c) (s2.map cA)), (41, putL (α 41) (1020 + c) (s2.map cW))]) z t0 ts)
          refine aw_top (x2 := 0) ((is_s59 ht_12.2.2.1 rfl).trans (bI_0 f).symm) ?_
          refine aw_go 1 rfl ⟨trivial, trivial⟩ ?_
          refine aw_br (c := ¬ (0 : Int32) = 0) (fun h16 => ?_) (fun h16 => ?_)
          · skip
            have h16 := cI_eqF (a := 0) (b := 0) rfl rfl (by omega) (by omega) h16
            show aw_W _ _ _ _ (20, [some (.ref 46), some (.int 1)], []) (ae_en (au σ [(34, nI (c + s2.length)), (35, (-1)), (36, nI 0), (37, fr_12), (38, tt_12), (39, so_12), (40, iz_12)]) (au α [(40, putL (α 40) (1020 + c) (s2.map cA)), (41, putL (α 41) (1020 + c) (s2.map cW))]) z t0 ts)
            exact absurd h16 (by decide)
          · skip
            have h16 := Classical.not_not.mp h16
            have h16 := cI_eqT (a := 0) (b := 0) rfl rfl (by omega) (by omega) h16
            show aw_W _ _ _ _ (17, [some (.ref 46), some (.int 1)], []) (ae_en (au σ [(34, nI (c + s2.length)), (35, (-1)), (36, nI 0), (37, fr_12), (38, tt_12), (39, so_12), (40, iz_12)]) (au α [(40, putL (α 40) (1020 + c) (s2.map cA)), (41, putL (α 41) (1020 + c) (s2.map cW))]) z t0 ts)
            refine aw_go 1 rfl ⟨trivial, trivial⟩ ?_
            refine aw_call rfl rfl (ev_faulty_1  rfl) ?_
            rintro _ _ ⟨rfl, rfl⟩
            show aw_W _ _ _ _ (19, [some (.ref 46), some (.int 1)], []) (ae_en (au σ [(34, nI (c + s2.length)), (35, fr_12), (36, nI 0), (37, fr_12), (38, tt_12), (39, so_12), (40, iz_12)]) (au α [(40, putL (α 40) (1020 + c) (s2.map cA)), (41, putL (α 41) (1020 + c) (s2.map cW))]) z t0 ts)
            refine aw_ret rfl rfl trivial ?_
            rw [ht_12.1]
            exact ⟨_, _, _, _, _, _, _, _, rfl, rfl, ht_12.2.1, put_out⟩
        · skip
          have h5 := Classical.not_not.mp h5
          have h5 := cI_eqT (a := 1) (b := 0) rfl rfl (by omega) (by omega) h5
          show aw_W _ _ _ _ (6, [some (.ref 46), some (.int 1)], []) (ae_en σ α z t0 ts)
          exact absurd h5 (by decide)
    · have hp := (pp_pH _ _ _ _ _ _ _ q1).1
      have hp1 := hp.1
      have hh : l2 = l1 := by cases hpp; rfl
      rw [← hh]
      refine aw_ev (cd := cd_Model_rule) rfl rfl rfl ?_
      show aw_W _ _ _ _ (0, [some (.ref 46), some (.int 1)], []) (ae_en σ α z t0 ts)
      refine aw_go 4 rfl ⟨trivial, trivial, trivial, trivial, trivial⟩ ?_
      show aw_W _ _ _ _ (4, [some (.ref 46), some (.int 1)], [.int (10 + 1), .ref 46]) (ae_en σ α z t0 ts)
      rw [show 10 + 1 = nI 11 from (cI_add (a := 10) (b := 1) rfl rfl)]
      refine aw_callE rfl rfl (ev_Model_isKey (b := (nI 11))) ?_
      show aw_W _ _ _ _ (5, [some (.ref 46), some (.int 1)], [.int (bI ((σ 35) < 0 ∧ (σ 39) = 1 ∧ (σ 40) = (nI 11)))]) (ae_en σ α z t0 ts)
      refine aw_top (x2 := 1) ((is_k11 a7t a5).trans (bI_1 e).symm) ?_
      refine aw_go 1 rfl ⟨trivial, trivial⟩ ?_
      refine aw_br (c := ¬ (1 : Int32) = 0) (fun h5 => ?_) (fun h5 => ?_)
      · skip
        have h5 := cI_eqF (a := 1) (b := 0) rfl rfl (by omega) (by omega) h5
        show aw_W _ _ _ _ (9, [some (.ref 46), some (.int 1)], []) (ae_en σ α z t0 ts)
        refine aw_go 1 rfl ⟨trivial, trivial⟩ ?_
        refine aw_call rfl rfl (mr_next2 (s := s) (l := l) a1 a2 a3 a7 e17) ?_
        rintro _ _ ⟨fr_10, tt_10, so_10, iz_10, rfl, rfl, ht_10⟩
        show aw_W _ _ _ _ (11, [some (.ref 46), some (.int 1)], []) (ae_en (au σ [(37, fr_10), (38, tt_10), (39, so_10), (40, iz_10)]) α z t0 ts)
        refine aw_go 1 rfl ⟨trivial, trivial⟩ ?_
        refine aw_call rfl rfl (mrX_n ih0 q1 ⟨a1, a2, a3, a4, a5, a6, ht_10, (by omega), (ht.2.1 a9), (by omega)⟩ (by show 7 * (5 - 0) + 11 ≤ D + 49; omega)) ?_
        rintro _ _ ⟨k_12, op_12, fr_12, tt_12, so_12, iz_12, A_12, W_12, rfl, rfl, f1_12, f2_12, f3_12, f4_12⟩
        show aw_W _ _ _ _ (13, [some (.ref 46), some (.int 1)], []) (ae_en (au σ [(34, nI k_12), (35, nI (hdP l2)), (36, op_12), (37, fr_12), (38, tt_12), (39, so_12), (40, iz_12)]) (au α [(40, A_12), (41, W_12)]) z t0 ts)
        refine aw_go 2 rfl ⟨trivial, trivial, trivial⟩ ?_
        refine aw_callE rfl rfl (ev_Model_isSign (b := 59)) ?_
        show aw_W _ _ _ _ (16, [some (.ref 46), some (.int 1)], [.int (bI ((nI (hdP l2)) < 0 ∧ so_12 = 3 ∧ iz_12 = 59))]) (ae_en (au σ [(34, nI k_12), (35, nI (hdP l2)), (36, op_12), (37, fr_12), (38, tt_12), (39, so_12), (40, iz_12)]) (au α [(40, A_12), (41, W_12)]) z t0 ts)
        refine aw_top (x2 := 0) (is_no (p := hdP l2) (by omega) rfl) ?_
        refine aw_go 1 rfl ⟨trivial, trivial⟩ ?_
        refine aw_br (c := ¬ (0 : Int32) = 0) (fun h16 => ?_) (fun h16 => ?_)
        · skip
          have h16 := cI_eqF (a := 0) (b := 0) rfl rfl (by omega) (by omega) h16
          show aw_W _ _ _ _ (20, [some (.ref 46), some (.int 1)], []) (ae_en (au σ [(34, nI k_12), (35, nI (hdP l2)), (36, op_12), (37, fr_12), (38, tt_12), (39, so_12), (40, iz_12)]) (au α [(40, A_12), (41, W_12)]) z t0 ts)
          exact absurd h16 (by decide)
        · skip
          have h16 := Classical.not_not.mp h16
          have h16 := cI_eqT (a := 0) (b := 0) rfl rfl (by omega) (by omega) h16
          show aw_W _ _ _ _ (17, [some (.ref 46), some (.int 1)], []) (ae_en (au σ [(34, nI k_12), (35, nI (hdP l2)), (36, op_12), (37, fr_12), (38, tt_12), (39, so_12), (40, iz_12)]) (au α [(40, A_12), (41, W_12)]) z t0 ts)
          refine aw_go 1 rfl ⟨trivial, trivial⟩ ?_
          refine aw_callE rfl rfl (ev_faulty_0  (Int32.not_lt.mp (nI_nneg (by omega)))) ?_
          show aw_W _ _ _ _ (19, [some (.ref 46), some (.int 1)], []) (ae_en (au σ [(34, nI k_12), (35, nI (hdP l2)), (36, op_12), (37, fr_12), (38, tt_12), (39, so_12), (40, iz_12)]) (au α [(40, A_12), (41, W_12)]) z t0 ts)
          refine aw_ret rfl rfl trivial ?_
          exact ⟨_, _, _, _, _, _, _, _, rfl, rfl, f1_12, f4_12⟩
      · skip
        have h5 := Classical.not_not.mp h5
        have h5 := cI_eqT (a := 1) (b := 0) rfl rfl (by omega) (by omega) h5
        show aw_W _ _ _ _ (6, [some (.ref 46), some (.int 1)], []) (ae_en σ α z t0 ts)
        exact absurd h5 (by decide)
  · rw [if_neg e] at hpp
    have hh : l = l1 := by cases hpp; rfl
    rw [← hh]
    refine aw_ev (cd := cd_Model_rule) rfl rfl rfl ?_
    show aw_W _ _ _ _ (0, [some (.ref 46), some (.int 1)], []) (ae_en σ α z t0 ts)
    refine aw_go 4 rfl ⟨trivial, trivial, trivial, trivial, trivial⟩ ?_
    show aw_W _ _ _ _ (4, [some (.ref 46), some (.int 1)], [.int (10 + 1), .ref 46]) (ae_en σ α z t0 ts)
    rw [show 10 + 1 = nI 11 from (cI_add (a := 10) (b := 1) rfl rfl)]
    refine aw_callE rfl rfl (ev_Model_isKey (b := (nI 11))) ?_
    show aw_W _ _ _ _ (5, [some (.ref 46), some (.int 1)], [.int (bI ((σ 35) < 0 ∧ (σ 39) = 1 ∧ (σ 40) = (nI 11)))]) (ae_en σ α z t0 ts)
    refine aw_top (x2 := 0) ((is_k11 a7t a5).trans (bI_0 e).symm) ?_
    refine aw_go 1 rfl ⟨trivial, trivial⟩ ?_
    refine aw_br (c := ¬ (0 : Int32) = 0) (fun h5 => ?_) (fun h5 => ?_)
    · skip
      have h5 := cI_eqF (a := 0) (b := 0) rfl rfl (by omega) (by omega) h5
      show aw_W _ _ _ _ (9, [some (.ref 46), some (.int 1)], []) (ae_en σ α z t0 ts)
      exact absurd h5 (by decide)
    · skip
      have h5 := Classical.not_not.mp h5
      have h5 := cI_eqT (a := 0) (b := 0) rfl rfl (by omega) (by omega) h5
      show aw_W _ _ _ _ (6, [some (.ref 46), some (.int 1)], []) (ae_en σ α z t0 ts)
      refine aw_go 1 rfl ⟨trivial, trivial⟩ ?_
      refine aw_call rfl rfl (ev_faulty_1  a5) ?_
      rintro _ _ ⟨rfl, rfl⟩
      show aw_W _ _ _ _ (8, [some (.ref 46), some (.int 1)], []) (ae_en (au σ [(35, (σ 37))]) α z t0 ts)
      refine aw_ret rfl rfl trivial ?_
      refine ⟨c, σ 36, σ 37, σ 38, σ 39, σ 40, α 40, α 41, rfl, ?_, a7p, fun _ _ => ⟨rfl, rfl⟩⟩
      rw [← a4, ← a7.1]
      rfl
theorem mr_rule_y2 {s M c D : Nat} {l l1 : ae_TL} {s1 : List Int32} (hpp : pPt M (-15) l = some (true, l1, s1)) (hP : mrP s 0 c l σ α) : aw_X P (D + 50) 132 [.ref 46, .int 2] (ae_en σ α z t0 ts) (fun r H => ∃ (fr tt so iz : Int32), r = none ∧ H = ae_en (au σ [(34, nI (c + s1.length)), (35, (-1)), (36, nI 0), (37, fr), (38, tt), (39, so), (40, iz)]) (au α [(40, putL (α 40) (1020 + c) (s1.map cA)), (41, putL (α 41) (1020 + c) (s1.map cW)), (42, upd (α 42) 20 (nI (c + s1.length)))]) z t0 ts ∧ mrT s (α 39) l1 fr tt so iz) := by
  have a0 := hP
  obtain ⟨a1, a2, a3, a4, a5, a6, a7, a8, a9, a10⟩ := hP
  have a7t := a7.2.2.1
  have a7p := a7.2.1
  have ih0 := (mr_kinds (P := P) (z := z) (t0 := t0) (ts := ts) (s := s) M).1
  have hlp0 := gL_pos a9
  unfold pPt at hpp
  by_cases e : hdT l = -15
  · rw [if_pos e] at hpp
    have e17 : ¬ hdT l = -17 := by rw [e]; decide
    have ht := pH_tail (l := l) e17
    have ht1 := ht.1
    have hlp := gL_pos (ht.2.1 a9)
    rcases bP_some hpp with ⟨l2, s2, q1, hpp⟩ | ⟨l2, s2, q1, hpp⟩
    · have hp := (pp_pH _ _ _ _ _ _ _ q1).1
      have hp1 := hp.1
      have hg1 := hp.2.1 (ht.2.1 a9)
      by_cases f : hdT l2 = -11
      · rw [if_pos f] at hpp
        have f17 : ¬ hdT l2 = -17 := by rw [f]; decide
        have hh : l2.tail = l1 ∧ s2 = s1 := by cases hpp; exact ⟨rfl, rfl⟩
        rw [← hh.1, ← hh.2]
        refine aw_ev (cd := cd_Model_rule) rfl rfl rfl ?_
        show aw_W _ _ _ _ (0, [some (.ref 46), some (.int 2)], []) (ae_en σ α z t0 ts)
        refine aw_go 4 rfl ⟨trivial, trivial, trivial, trivial, trivial⟩ ?_
        show aw_W _ _ _ _ (4, [some (.ref 46), some (.int 2)], [.int (10 + 2), .ref 46]) (ae_en σ α z t0 ts)
        rw [show 10 + 2 = nI 12 from (cI_add (a := 10) (b := 2) rfl rfl)]
        refine aw_callE rfl rfl (ev_Model_isKey (b := (nI 12))) ?_
        show aw_W _ _ _ _ (5, [some (.ref 46), some (.int 2)], [.int (bI ((σ 35) < 0 ∧ (σ 39) = 1 ∧ (σ 40) = (nI 12)))]) (ae_en σ α z t0 ts)
        refine aw_top (x2 := 1) ((is_k12 a7t a5).trans (bI_1 e).symm) ?_
        refine aw_go 1 rfl ⟨trivial, trivial⟩ ?_
        refine aw_br (c := ¬ (1 : Int32) = 0) (fun h5 => ?_) (fun h5 => ?_)
        · skip
          have h5 := cI_eqF (a := 1) (b := 0) rfl rfl (by omega) (by omega) h5
          show aw_W _ _ _ _ (9, [some (.ref 46), some (.int 2)], []) (ae_en σ α z t0 ts)
          refine aw_go 1 rfl ⟨trivial, trivial⟩ ?_
          refine aw_call rfl rfl (mr_next2 (s := s) (l := l) a1 a2 a3 a7 e17) ?_
          rintro _ _ ⟨fr_10, tt_10, so_10, iz_10, rfl, rfl, ht_10⟩
          show aw_W _ _ _ _ (11, [some (.ref 46), some (.int 2)], []) (ae_en (au σ [(37, fr_10), (38, tt_10), (39, so_10), (40, iz_10)]) α z t0 ts)
          refine aw_go 1 rfl ⟨trivial, trivial⟩ ?_
          refine aw_call rfl rfl (mrX_y ih0 q1 ⟨a1, a2, a3, a4, a5, a6, ht_10, (by omega), (ht.2.1 a9), (by omega)⟩ (by show 7 * (5 - 0) + 11 ≤ D + 49; omega)) ?_
          rintro _ _ ⟨fr_12, tt_12, so_12, iz_12, rfl, rfl, ht_12⟩
          show aw_W _ _ _ _ (13, [some (.ref 46), some (.int 2)], []) (ae_en (au σ [(34, nI (c + s2.length)), (35, (-1)), (36, nI 0), (37, fr_12), (38, tt_12), (39, so_12), (40, iz_12)]) (au α [(40, putL (α 40) (1020 + c) (s2.map cA)), (41, putL (α 41) (1020 + c) (s2.map cW))]) z t0 ts)
          refine aw_go 2 rfl ⟨trivial, trivial, trivial⟩ ?_
          refine aw_callE rfl rfl (ev_Model_isSign (b := 59)) ?_
          show aw_W _ _ _ _ (16, [some (.ref 46), some (.int 2)], [.int (bI ((-1) < 0 ∧ so_12 = 3 ∧ iz_12 = 59))]) (ae_en (au σ [(34, nI (c + s2.length)), (35, (-1)), (36, nI 0), (37, fr_12), (38, tt_12), (39, so_12), (40, iz_12)]) (au α [(40, putL (α 40) (1020 + c) (s2.map cA)), (41, putL (α 41) (1020 + c) (s2.map cW))]) z t0 ts)
          refine aw_top (x2 := 1) ((is_s59 ht_12.2.2.1 rfl).trans (bI_1 f).symm) ?_
          refine aw_go 1 rfl ⟨trivial, trivial⟩ ?_
          refine aw_br (c := ¬ (1 : Int32) = 0) (fun h16 => ?_) (fun h16 => ?_)
          · skip
            have h16 := cI_eqF (a := 1) (b := 0) rfl rfl (by omega) (by omega) h16
            show aw_W _ _ _ _ (20, [some (.ref 46), some (.int 2)], []) (ae_en (au σ [(34, nI (c + s2.length)), (35, (-1)), (36, nI 0), (37, fr_12), (38, tt_12), (39, so_12), (40, iz_12)]) (au α [(40, putL (α 40) (1020 + c) (s2.map cA)), (41, putL (α 41) (1020 + c) (s2.map cW))]) z t0 ts)
            refine aw_go 1 rfl ⟨trivial, trivial⟩ ?_
            refine aw_call rfl rfl (mr_next2 (s := s) (l := l2) a1 a2 a3 ht_12 f17) ?_
            rintro _ _ ⟨fr_21, tt_21, so_21, iz_21, rfl, rfl, ht_21⟩
            show aw_W _ _ _ _ (22, [some (.ref 46), some (.int 2)], []) (ae_en (au σ [(34, nI (c + s2.length)), (35, (-1)), (36, nI 0), (37, fr_21), (38, tt_21), (39, so_21), (40, iz_21)]) (au α [(40, putL (α 40) (1020 + c) (s2.map cA)), (41, putL (α 41) (1020 + c) (s2.map cW))]) z t0 ts)
            refine aw_go 8 rfl ⟨trivial, trivial, trivial, trivial, trivial, trivial, trivial, (cI_in (a := 20) (cI_add (a := 18) (b := 2) rfl rfl) (by omega) (by decide)), trivial⟩ ?_
            show aw_W _ _ _ _ (30, [some (.ref 46), some (.int 2)], []) (ae_en (au σ [(34, nI (c + s2.length)), (35, (-1)), (36, nI 0), (37, fr_21), (38, tt_21), (39, so_21), (40, iz_21)]) (au α [(40, putL (α 40) (1020 + c) (s2.map cA)), (41, putL (α 41) (1020 + c) (s2.map cW)), (42, upd (α 42) ((18 : Int32) + 2).toNatClampNeg (nI (c + s2.length)))]) z t0 ts)
            rw [show ((18 : Int32) + 2).toNatClampNeg = 20 from cI_cl (a := 20) (cI_add (a := 18) (b := 2) rfl rfl) (by omega)]
            refine aw_ret rfl rfl trivial ?_
            exact ⟨_, _, _, _, rfl, rfl, ht_21⟩
          · skip
            have h16 := Classical.not_not.mp h16
            have h16 := cI_eqT (a := 1) (b := 0) rfl rfl (by omega) (by omega) h16
            show aw_W _ _ _ _ (17, [some (.ref 46), some (.int 2)], []) (ae_en (au σ [(34, nI (c + s2.length)), (35, (-1)), (36, nI 0), (37, fr_12), (38, tt_12), (39, so_12), (40, iz_12)]) (au α [(40, putL (α 40) (1020 + c) (s2.map cA)), (41, putL (α 41) (1020 + c) (s2.map cW))]) z t0 ts)
            exact absurd h16 (by decide)
        · skip
          have h5 := Classical.not_not.mp h5
          have h5 := cI_eqT (a := 1) (b := 0) rfl rfl (by omega) (by omega) h5
          show aw_W _ _ _ _ (6, [some (.ref 46), some (.int 2)], []) (ae_en σ α z t0 ts)
          exact absurd h5 (by decide)
      · rw [if_neg f] at hpp
        cases hpp
    · cases hpp
  · rw [if_neg e] at hpp
    cases hpp
theorem mr_rule_n2 {s M c D : Nat} {l l1 : ae_TL} {s1 : List Int32} (hpp : pPt M (-15) l = some (false, l1, s1)) (hP : mrP s 0 c l σ α) : aw_X P (D + 50) 132 [.ref 46, .int 2] (ae_en σ α z t0 ts) (fun r H => ∃ (k : Nat) (op fr tt so iz : Int32) (A W : Nat → Int32), r = none ∧ H = ae_en (au σ [(34, nI k), (35, nI (hdP l1)), (36, op), (37, fr), (38, tt), (39, so), (40, iz)]) (au α [(40, A), (41, W)]) z t0 ts ∧ hdP l1 ≤ s ∧ ∀ j, j < 1020 → A j = α 40 j ∧ W j = α 41 j) := by
  have a0 := hP
  obtain ⟨a1, a2, a3, a4, a5, a6, a7, a8, a9, a10⟩ := hP
  have a7t := a7.2.2.1
  have a7p := a7.2.1
  have ih0 := (mr_kinds (P := P) (z := z) (t0 := t0) (ts := ts) (s := s) M).1
  have hlp0 := gL_pos a9
  unfold pPt at hpp
  by_cases e : hdT l = -15
  · rw [if_pos e] at hpp
    have e17 : ¬ hdT l = -17 := by rw [e]; decide
    have ht := pH_tail (l := l) e17
    have ht1 := ht.1
    have hlp := gL_pos (ht.2.1 a9)
    rcases bP_some hpp with ⟨l2, s2, q1, hpp⟩ | ⟨l2, s2, q1, hpp⟩
    · have hp := (pp_pH _ _ _ _ _ _ _ q1).1
      have hp1 := hp.1
      have hg1 := hp.2.1 (ht.2.1 a9)
      by_cases f : hdT l2 = -11
      · rw [if_pos f] at hpp
        cases hpp
      · rw [if_neg f] at hpp
        have hh : l2 = l1 := by cases hpp; rfl
        rw [← hh]
        refine aw_ev (cd := cd_Model_rule) rfl rfl rfl ?_
        show aw_W _ _ _ _ (0, [some (.ref 46), some (.int 2)], []) (ae_en σ α z t0 ts)
        refine aw_go 4 rfl ⟨trivial, trivial, trivial, trivial, trivial⟩ ?_
        show aw_W _ _ _ _ (4, [some (.ref 46), some (.int 2)], [.int (10 + 2), .ref 46]) (ae_en σ α z t0 ts)
        rw [show 10 + 2 = nI 12 from (cI_add (a := 10) (b := 2) rfl rfl)]
        refine aw_callE rfl rfl (ev_Model_isKey (b := (nI 12))) ?_
        show aw_W _ _ _ _ (5, [some (.ref 46), some (.int 2)], [.int (bI ((σ 35) < 0 ∧ (σ 39) = 1 ∧ (σ 40) = (nI 12)))]) (ae_en σ α z t0 ts)
        refine aw_top (x2 := 1) ((is_k12 a7t a5).trans (bI_1 e).symm) ?_
        refine aw_go 1 rfl ⟨trivial, trivial⟩ ?_
        refine aw_br (c := ¬ (1 : Int32) = 0) (fun h5 => ?_) (fun h5 => ?_)
        · skip
          have h5 := cI_eqF (a := 1) (b := 0) rfl rfl (by omega) (by omega) h5
          show aw_W _ _ _ _ (9, [some (.ref 46), some (.int 2)], []) (ae_en σ α z t0 ts)
          refine aw_go 1 rfl ⟨trivial, trivial⟩ ?_
          refine aw_call rfl rfl (mr_next2 (s := s) (l := l) a1 a2 a3 a7 e17) ?_
          rintro _ _ ⟨fr_10, tt_10, so_10, iz_10, rfl, rfl, ht_10⟩
          show aw_W _ _ _ _ (11, [some (.ref 46), some (.int 2)], []) (ae_en (au σ [(37, fr_10), (38, tt_10), (39, so_10), (40, iz_10)]) α z t0 ts)
          refine aw_go 1 rfl ⟨trivial, trivial⟩ ?_
          refine aw_call rfl rfl (mrX_y ih0 q1 ⟨a1, a2, a3, a4, a5, a6, ht_10, (by omega), (ht.2.1 a9), (by omega)⟩ (by show 7 * (5 - 0) + 11 ≤ D + 49; omega)) ?_
          rintro _ _ ⟨fr_12, tt_12, so_12, iz_12, rfl, rfl, ht_12⟩
          show aw_W _ _ _ _ (13, [some (.ref 46), some (.int 2)], []) (ae_en (au σ [(34, nI (c + s2.length)), (35, (-1)), (36, nI 0), (37, fr_12), (38, tt_12), (39, so_12), (40, iz_12)]) (au α [(40, putL (α 40) (1020 + c) (s2.map cA)), (41, putL (α 41) (1020 + c) (s2.map cW))]) z t0 ts)
          refine aw_go 2 rfl ⟨trivial, trivial, trivial⟩ ?_
          refine aw_callE rfl rfl (ev_Model_isSign (b := 59)) ?_
          show aw_W _ _ _ _ (16, [some (.ref 46), some (.int 2)], [.int (bI ((-1) < 0 ∧ so_12 = 3 ∧ iz_12 = 59))]) (ae_en (au σ [(34, nI (c + s2.length)), (35, (-1)), (36, nI 0), (37, fr_12), (38, tt_12), (39, so_12), (40, iz_12)]) (au α [(40, putL (α 40) (1020 + c) (s2.map cA)), (41, putL (α 41) (1020 + c) (s2.map cW))]) z t0 ts)
          refine aw_top (x2 := 0) ((is_s59 ht_12.2.2.1 rfl).trans (bI_0 f).symm) ?_
          refine aw_go 1 rfl ⟨trivial, trivial⟩ ?_
          refine aw_br (c := ¬ (0 : Int32) = 0) (fun h16 => ?_) (fun h16 => ?_)
          · skip
            have h16 := cI_eqF (a := 0) (b := 0) rfl rfl (by omega) (by omega) h16
            show aw_W _ _ _ _ (20, [some (.ref 46), some (.int 2)], []) (ae_en (au σ [(34, nI (c + s2.length)), (35, (-1)), (36, nI 0), (37, fr_12), (38, tt_12), (39, so_12), (40, iz_12)]) (au α [(40, putL (α 40) (1020 + c) (s2.map cA)), (41, putL (α 41) (1020 + c) (s2.map cW))]) z t0 ts)
            exact absurd h16 (by decide)
          · skip
            have h16 := Classical.not_not.mp h16
            have h16 := cI_eqT (a := 0) (b := 0) rfl rfl (by omega) (by omega) h16
            show aw_W _ _ _ _ (17, [some (.ref 46), some (.int 2)], []) (ae_en (au σ [(34, nI (c + s2.length)), (35, (-1)), (36, nI 0), (37, fr_12), (38, tt_12), (39, so_12), (40, iz_12)]) (au α [(40, putL (α 40) (1020 + c) (s2.map cA)), (41, putL (α 41) (1020 + c) (s2.map cW))]) z t0 ts)
            refine aw_go 1 rfl ⟨trivial, trivial⟩ ?_
            refine aw_call rfl rfl (ev_faulty_1  rfl) ?_
            rintro _ _ ⟨rfl, rfl⟩
            show aw_W _ _ _ _ (19, [some (.ref 46), some (.int 2)], []) (ae_en (au σ [(34, nI (c + s2.length)), (35, fr_12), (36, nI 0), (37, fr_12), (38, tt_12), (39, so_12), (40, iz_12)]) (au α [(40, putL (α 40) (1020 + c) (s2.map cA)), (41, putL (α 41) (1020 + c) (s2.map cW))]) z t0 ts)
            refine aw_ret rfl rfl trivial ?_
            rw [ht_12.1]
            exact ⟨_, _, _, _, _, _, _, _, rfl, rfl, ht_12.2.1, put_out⟩
        · skip
          have h5 := Classical.not_not.mp h5
          have h5 := cI_eqT (a := 1) (b := 0) rfl rfl (by omega) (by omega) h5
          show aw_W _ _ _ _ (6, [some (.ref 46), some (.int 2)], []) (ae_en σ α z t0 ts)
          exact absurd h5 (by decide)
    · have hp := (pp_pH _ _ _ _ _ _ _ q1).1
      have hp1 := hp.1
      have hh : l2 = l1 := by cases hpp; rfl
      rw [← hh]
      refine aw_ev (cd := cd_Model_rule) rfl rfl rfl ?_
      show aw_W _ _ _ _ (0, [some (.ref 46), some (.int 2)], []) (ae_en σ α z t0 ts)
      refine aw_go 4 rfl ⟨trivial, trivial, trivial, trivial, trivial⟩ ?_
      show aw_W _ _ _ _ (4, [some (.ref 46), some (.int 2)], [.int (10 + 2), .ref 46]) (ae_en σ α z t0 ts)
      rw [show 10 + 2 = nI 12 from (cI_add (a := 10) (b := 2) rfl rfl)]
      refine aw_callE rfl rfl (ev_Model_isKey (b := (nI 12))) ?_
      show aw_W _ _ _ _ (5, [some (.ref 46), some (.int 2)], [.int (bI ((σ 35) < 0 ∧ (σ 39) = 1 ∧ (σ 40) = (nI 12)))]) (ae_en σ α z t0 ts)
      refine aw_top (x2 := 1) ((is_k12 a7t a5).trans (bI_1 e).symm) ?_
      refine aw_go 1 rfl ⟨trivial, trivial⟩ ?_
      refine aw_br (c := ¬ (1 : Int32) = 0) (fun h5 => ?_) (fun h5 => ?_)
      · skip
        have h5 := cI_eqF (a := 1) (b := 0) rfl rfl (by omega) (by omega) h5
        show aw_W _ _ _ _ (9, [some (.ref 46), some (.int 2)], []) (ae_en σ α z t0 ts)
        refine aw_go 1 rfl ⟨trivial, trivial⟩ ?_
        refine aw_call rfl rfl (mr_next2 (s := s) (l := l) a1 a2 a3 a7 e17) ?_
        rintro _ _ ⟨fr_10, tt_10, so_10, iz_10, rfl, rfl, ht_10⟩
        show aw_W _ _ _ _ (11, [some (.ref 46), some (.int 2)], []) (ae_en (au σ [(37, fr_10), (38, tt_10), (39, so_10), (40, iz_10)]) α z t0 ts)
        refine aw_go 1 rfl ⟨trivial, trivial⟩ ?_
        refine aw_call rfl rfl (mrX_n ih0 q1 ⟨a1, a2, a3, a4, a5, a6, ht_10, (by omega), (ht.2.1 a9), (by omega)⟩ (by show 7 * (5 - 0) + 11 ≤ D + 49; omega)) ?_
        rintro _ _ ⟨k_12, op_12, fr_12, tt_12, so_12, iz_12, A_12, W_12, rfl, rfl, f1_12, f2_12, f3_12, f4_12⟩
        show aw_W _ _ _ _ (13, [some (.ref 46), some (.int 2)], []) (ae_en (au σ [(34, nI k_12), (35, nI (hdP l2)), (36, op_12), (37, fr_12), (38, tt_12), (39, so_12), (40, iz_12)]) (au α [(40, A_12), (41, W_12)]) z t0 ts)
        refine aw_go 2 rfl ⟨trivial, trivial, trivial⟩ ?_
        refine aw_callE rfl rfl (ev_Model_isSign (b := 59)) ?_
        show aw_W _ _ _ _ (16, [some (.ref 46), some (.int 2)], [.int (bI ((nI (hdP l2)) < 0 ∧ so_12 = 3 ∧ iz_12 = 59))]) (ae_en (au σ [(34, nI k_12), (35, nI (hdP l2)), (36, op_12), (37, fr_12), (38, tt_12), (39, so_12), (40, iz_12)]) (au α [(40, A_12), (41, W_12)]) z t0 ts)
        refine aw_top (x2 := 0) (is_no (p := hdP l2) (by omega) rfl) ?_
        refine aw_go 1 rfl ⟨trivial, trivial⟩ ?_
        refine aw_br (c := ¬ (0 : Int32) = 0) (fun h16 => ?_) (fun h16 => ?_)
        · skip
          have h16 := cI_eqF (a := 0) (b := 0) rfl rfl (by omega) (by omega) h16
          show aw_W _ _ _ _ (20, [some (.ref 46), some (.int 2)], []) (ae_en (au σ [(34, nI k_12), (35, nI (hdP l2)), (36, op_12), (37, fr_12), (38, tt_12), (39, so_12), (40, iz_12)]) (au α [(40, A_12), (41, W_12)]) z t0 ts)
          exact absurd h16 (by decide)
        · skip
          have h16 := Classical.not_not.mp h16
          have h16 := cI_eqT (a := 0) (b := 0) rfl rfl (by omega) (by omega) h16
          show aw_W _ _ _ _ (17, [some (.ref 46), some (.int 2)], []) (ae_en (au σ [(34, nI k_12), (35, nI (hdP l2)), (36, op_12), (37, fr_12), (38, tt_12), (39, so_12), (40, iz_12)]) (au α [(40, A_12), (41, W_12)]) z t0 ts)
          refine aw_go 1 rfl ⟨trivial, trivial⟩ ?_
          refine aw_callE rfl rfl (ev_faulty_0  (Int32.not_lt.mp (nI_nneg (by omega)))) ?_
          show aw_W _ _ _ _ (19, [some (.ref 46), some (.int 2)], []) (ae_en (au σ [(34, nI k_12), (35, nI (hdP l2)), (36, op_12), (37, fr_12), (38, tt_12), (39, so_12), (40, iz_12)]) (au α [(40, A_12), (41, W_12)]) z t0 ts)
          refine aw_ret rfl rfl trivial ?_
          exact ⟨_, _, _, _, _, _, _, _, rfl, rfl, f1_12, f4_12⟩
      · skip
        have h5 := Classical.not_not.mp h5
        have h5 := cI_eqT (a := 1) (b := 0) rfl rfl (by omega) (by omega) h5
        show aw_W _ _ _ _ (6, [some (.ref 46), some (.int 2)], []) (ae_en σ α z t0 ts)
        exact absurd h5 (by decide)
  · rw [if_neg e] at hpp
    have hh : l = l1 := by cases hpp; rfl
    rw [← hh]
    refine aw_ev (cd := cd_Model_rule) rfl rfl rfl ?_
    show aw_W _ _ _ _ (0, [some (.ref 46), some (.int 2)], []) (ae_en σ α z t0 ts)
    refine aw_go 4 rfl ⟨trivial, trivial, trivial, trivial, trivial⟩ ?_
    show aw_W _ _ _ _ (4, [some (.ref 46), some (.int 2)], [.int (10 + 2), .ref 46]) (ae_en σ α z t0 ts)
    rw [show 10 + 2 = nI 12 from (cI_add (a := 10) (b := 2) rfl rfl)]
    refine aw_callE rfl rfl (ev_Model_isKey (b := (nI 12))) ?_
    show aw_W _ _ _ _ (5, [some (.ref 46), some (.int 2)], [.int (bI ((σ 35) < 0 ∧ (σ 39) = 1 ∧ (σ 40) = (nI 12)))]) (ae_en σ α z t0 ts)
    refine aw_top (x2 := 0) ((is_k12 a7t a5).trans (bI_0 e).symm) ?_
    refine aw_go 1 rfl ⟨trivial, trivial⟩ ?_
    refine aw_br (c := ¬ (0 : Int32) = 0) (fun h5 => ?_) (fun h5 => ?_)
    · skip
      have h5 := cI_eqF (a := 0) (b := 0) rfl rfl (by omega) (by omega) h5
      show aw_W _ _ _ _ (9, [some (.ref 46), some (.int 2)], []) (ae_en σ α z t0 ts)
      exact absurd h5 (by decide)
    · skip
      have h5 := Classical.not_not.mp h5
      have h5 := cI_eqT (a := 0) (b := 0) rfl rfl (by omega) (by omega) h5
      show aw_W _ _ _ _ (6, [some (.ref 46), some (.int 2)], []) (ae_en σ α z t0 ts)
      refine aw_go 1 rfl ⟨trivial, trivial⟩ ?_
      refine aw_call rfl rfl (ev_faulty_1  a5) ?_
      rintro _ _ ⟨rfl, rfl⟩
      show aw_W _ _ _ _ (8, [some (.ref 46), some (.int 2)], []) (ae_en (au σ [(35, (σ 37))]) α z t0 ts)
      refine aw_ret rfl rfl trivial ?_
      refine ⟨c, σ 36, σ 37, σ 38, σ 39, σ 40, α 40, α 41, rfl, ?_, a7p, fun _ _ => ⟨rfl, rfl⟩⟩
      rw [← a4, ← a7.1]
      rfl
theorem lp_tcp {zd : Nat} {n k : Nat} (hn : σ 34 = nI n) (hn160 : n ≤ 160) (hk : σ 32 = nI k) (hk6 : k < 6) (i : Nat) (hi : i ≤ n) : aw_W P (zd) cd_Model_text (fun r H => r = some (.int (nI k)) ∧ H = ae_en (au σ [(32, nI (k + 1))]) (au α [(40, va_cpy (α 40) (α 40) 1020 (170 * k) n), (41, va_cpy (α 41) (α 41) 1020 (170 * k) n), (42, mEn (α 42) k)]) z t0 ts) (55, [some (.ref 46), some (.int (nI i))], []) (ae_en σ (au α [(40, va_cpy (α 40) (α 40) 1020 (170 * k) i), (41, va_cpy (α 41) (α 41) 1020 (170 * k) i)]) z t0 ts) := by
  refine aw_go 4 rfl ⟨trivial, trivial, trivial, trivial, trivial⟩ ?_
  show aw_W _ _ _ _ (if (σ 34) ≤ (nI i) then 91 else 59, [some (.ref 46), some (.int (nI i))], []) (ae_en σ (au α [(40, va_cpy (α 40) (α 40) 1020 (170 * k) i), (41, va_cpy (α 41) (α 41) 1020 (170 * k) i)]) z t0 ts)
  refine aw_br (c := (σ 34) ≤ (nI i)) (fun h58 => ?_) (fun h58 => ?_)
  · skip
    have h58 := cI_leT (a := n) (b := i) hn rfl (by omega) (by omega) h58
    show aw_W _ _ _ _ (91, [some (.ref 46), some (.int (nI i))], []) (ae_en σ (au α [(40, va_cpy (α 40) (α 40) 1020 (170 * k) i), (41, va_cpy (α 41) (α 41) 1020 (170 * k) i)]) z t0 ts)
    have e8 : i = n := by omega
    subst e8
    refine aw_go 5 rfl ⟨trivial, trivial, trivial, trivial, trivial, trivial⟩ ?_
    refine aw_br (c := (3 : Int32) ≤ (0 : Int32)) (fun h95 => ?_) (fun h95 => ?_)
    · skip
      have h95 := cI_leT (a := 3) (b := 0) rfl rfl (by omega) (by omega) h95
      show aw_W _ _ _ _ (113, [some (.ref 46), some (.int 0)], []) (ae_en σ (au α [(40, va_cpy (α 40) (α 40) 1020 (170 * k) i), (41, va_cpy (α 41) (α 41) 1020 (170 * k) i)]) z t0 ts)
      exact absurd h95 (by decide)
    · skip
      have h95 := cI_leF (a := 3) (b := 0) rfl rfl (by omega) (by omega) h95
      show aw_W _ _ _ _ (96, [some (.ref 46), some (.int 0)], []) (ae_en σ (au α [(40, va_cpy (α 40) (α 40) 1020 (170 * k) i), (41, va_cpy (α 41) (α 41) 1020 (170 * k) i)]) z t0 ts)
      refine aw_go 20 rfl ⟨trivial, trivial, trivial, trivial, trivial, trivial, trivial, trivial, trivial, trivial, trivial, trivial, trivial, (cI_in (a := 18) (cI_add (a := 18) (b := 0) rfl rfl) (by omega) (by decide)), (cI_in (a := (3 * k) + 0) (cI_add (a := 3 * k) (b := 0) (cI_mul (a := 3) (b := k) rfl hk) rfl) (by omega) (by decide)), trivial, trivial, trivial, trivial, trivial, trivial⟩ ?_
      show aw_W _ _ _ _ (if (3 : Int32) ≤ (0 + 1) then 113 else 96, [some (.ref 46), some (.int (0 + 1))], []) (ae_en σ (au α [(40, va_cpy (α 40) (α 40) 1020 (170 * k) i), (41, va_cpy (α 41) (α 41) 1020 (170 * k) i), (42, upd (α 42) ((3 * (σ 32)) + 0).toNatClampNeg (α 42 ((18 : Int32) + 0).toNatClampNeg))]) z t0 ts)
      rw [show ((18 : Int32) + 0).toNatClampNeg = 18 from cI_cl (a := 18) (cI_add (a := 18) (b := 0) rfl rfl) (by omega)]
      rw [show ((3 * (σ 32)) + 0).toNatClampNeg = (3 * k) + 0 from cI_cl (a := (3 * k) + 0) (cI_add (a := 3 * k) (b := 0) (cI_mul (a := 3) (b := k) rfl hk) rfl) (by omega)]
      refine aw_br (c := (3 : Int32) ≤ (0 + 1)) (fun h95b => ?_) (fun h95b => ?_)
      · skip
        have h95b := cI_leT (a := 3) (b := 1) rfl (cI_add (a := 0) (b := 1) rfl rfl) (by omega) (by omega) h95b
        show aw_W _ _ _ _ (113, [some (.ref 46), some (.int (0 + 1))], []) (ae_en σ (au α [(40, va_cpy (α 40) (α 40) 1020 (170 * k) i), (41, va_cpy (α 41) (α 41) 1020 (170 * k) i), (42, upd (α 42) ((3 * k) + 0) (α 42 18))]) z t0 ts)
        exact absurd h95b (by decide)
      · skip
        have h95b := cI_leF (a := 3) (b := 1) rfl (cI_add (a := 0) (b := 1) rfl rfl) (by omega) (by omega) h95b
        show aw_W _ _ _ _ (96, [some (.ref 46), some (.int (0 + 1))], []) (ae_en σ (au α [(40, va_cpy (α 40) (α 40) 1020 (170 * k) i), (41, va_cpy (α 41) (α 41) 1020 (170 * k) i), (42, upd (α 42) ((3 * k) + 0) (α 42 18))]) z t0 ts)
        refine aw_go 20 rfl ⟨trivial, trivial, trivial, trivial, trivial, trivial, trivial, trivial, trivial, trivial, trivial, trivial, trivial, (cI_in (a := 19) (cI_add (a := 18) (b := 1) rfl (cI_add (a := 0) (b := 1) rfl rfl)) (by omega) (by decide)), (cI_in (a := (3 * k) + 1) (cI_add (a := 3 * k) (b := 1) (cI_mul (a := 3) (b := k) rfl hk) (cI_add (a := 0) (b := 1) rfl rfl)) (by omega) (by decide)), trivial, trivial, trivial, trivial, trivial, trivial⟩ ?_
        show aw_W _ _ _ _ (if (3 : Int32) ≤ ((0 + 1) + 1) then 113 else 96, [some (.ref 46), some (.int ((0 + 1) + 1))], []) (ae_en σ (au α [(40, va_cpy (α 40) (α 40) 1020 (170 * k) i), (41, va_cpy (α 41) (α 41) 1020 (170 * k) i), (42, upd (upd (α 42) ((3 * k) + 0) (α 42 18)) ((3 * (σ 32)) + (0 + 1)).toNatClampNeg ((upd (α 42) ((3 * k) + 0) (α 42 18)) ((18 : Int32) + (0 + 1)).toNatClampNeg))]) z t0 ts)
        rw [show ((18 : Int32) + (0 + 1)).toNatClampNeg = 19 from cI_cl (a := 19) (cI_add (a := 18) (b := 1) rfl (cI_add (a := 0) (b := 1) rfl rfl)) (by omega)]
        rw [show ((3 * (σ 32)) + (0 + 1)).toNatClampNeg = (3 * k) + 1 from cI_cl (a := (3 * k) + 1) (cI_add (a := 3 * k) (b := 1) (cI_mul (a := 3) (b := k) rfl hk) (cI_add (a := 0) (b := 1) rfl rfl)) (by omega)]
        refine aw_br (c := (3 : Int32) ≤ ((0 + 1) + 1)) (fun h95c => ?_) (fun h95c => ?_)
        · skip
          have h95c := cI_leT (a := 3) (b := 2) rfl (cI_add (a := 1) (b := 1) (cI_add (a := 0) (b := 1) rfl rfl) rfl) (by omega) (by omega) h95c
          show aw_W _ _ _ _ (113, [some (.ref 46), some (.int ((0 + 1) + 1))], []) (ae_en σ (au α [(40, va_cpy (α 40) (α 40) 1020 (170 * k) i), (41, va_cpy (α 41) (α 41) 1020 (170 * k) i), (42, upd (upd (α 42) ((3 * k) + 0) (α 42 18)) ((3 * k) + 1) ((upd (α 42) ((3 * k) + 0) (α 42 18)) 19))]) z t0 ts)
          exact absurd h95c (by decide)
        · skip
          have h95c := cI_leF (a := 3) (b := 2) rfl (cI_add (a := 1) (b := 1) (cI_add (a := 0) (b := 1) rfl rfl) rfl) (by omega) (by omega) h95c
          show aw_W _ _ _ _ (96, [some (.ref 46), some (.int ((0 + 1) + 1))], []) (ae_en σ (au α [(40, va_cpy (α 40) (α 40) 1020 (170 * k) i), (41, va_cpy (α 41) (α 41) 1020 (170 * k) i), (42, upd (upd (α 42) ((3 * k) + 0) (α 42 18)) ((3 * k) + 1) ((upd (α 42) ((3 * k) + 0) (α 42 18)) 19))]) z t0 ts)
          refine aw_go 20 rfl ⟨trivial, trivial, trivial, trivial, trivial, trivial, trivial, trivial, trivial, trivial, trivial, trivial, trivial, (cI_in (a := 20) (cI_add (a := 18) (b := 2) rfl (cI_add (a := 1) (b := 1) (cI_add (a := 0) (b := 1) rfl rfl) rfl)) (by omega) (by decide)), (cI_in (a := (3 * k) + 2) (cI_add (a := 3 * k) (b := 2) (cI_mul (a := 3) (b := k) rfl hk) (cI_add (a := 1) (b := 1) (cI_add (a := 0) (b := 1) rfl rfl) rfl)) (by omega) (by decide)), trivial, trivial, trivial, trivial, trivial, trivial⟩ ?_
          show aw_W _ _ _ _ (if (3 : Int32) ≤ (((0 + 1) + 1) + 1) then 113 else 96, [some (.ref 46), some (.int (((0 + 1) + 1) + 1))], []) (ae_en σ (au α [(40, va_cpy (α 40) (α 40) 1020 (170 * k) i), (41, va_cpy (α 41) (α 41) 1020 (170 * k) i), (42, upd (upd (upd (α 42) ((3 * k) + 0) (α 42 18)) ((3 * k) + 1) ((upd (α 42) ((3 * k) + 0) (α 42 18)) 19)) ((3 * (σ 32)) + ((0 + 1) + 1)).toNatClampNeg ((upd (upd (α 42) ((3 * k) + 0) (α 42 18)) ((3 * k) + 1) ((upd (α 42) ((3 * k) + 0) (α 42 18)) 19)) ((18 : Int32) + ((0 + 1) + 1)).toNatClampNeg))]) z t0 ts)
          rw [show ((18 : Int32) + ((0 + 1) + 1)).toNatClampNeg = 20 from cI_cl (a := 20) (cI_add (a := 18) (b := 2) rfl (cI_add (a := 1) (b := 1) (cI_add (a := 0) (b := 1) rfl rfl) rfl)) (by omega)]
          rw [show ((3 * (σ 32)) + ((0 + 1) + 1)).toNatClampNeg = (3 * k) + 2 from cI_cl (a := (3 * k) + 2) (cI_add (a := 3 * k) (b := 2) (cI_mul (a := 3) (b := k) rfl hk) (cI_add (a := 1) (b := 1) (cI_add (a := 0) (b := 1) rfl rfl) rfl)) (by omega)]
          refine aw_br (c := (3 : Int32) ≤ (((0 + 1) + 1) + 1)) (fun h95d => ?_) (fun h95d => ?_)
          · skip
            have h95d := cI_leT (a := 3) (b := 3) rfl (cI_add (a := 2) (b := 1) (cI_add (a := 1) (b := 1) (cI_add (a := 0) (b := 1) rfl rfl) rfl) rfl) (by omega) (by omega) h95d
            show aw_W _ _ _ _ (113, [some (.ref 46), some (.int (((0 + 1) + 1) + 1))], []) (ae_en σ (au α [(40, va_cpy (α 40) (α 40) 1020 (170 * k) i), (41, va_cpy (α 41) (α 41) 1020 (170 * k) i), (42, upd (upd (upd (α 42) ((3 * k) + 0) (α 42 18)) ((3 * k) + 1) ((upd (α 42) ((3 * k) + 0) (α 42 18)) 19)) ((3 * k) + 2) ((upd (upd (α 42) ((3 * k) + 0) (α 42 18)) ((3 * k) + 1) ((upd (α 42) ((3 * k) + 0) (α 42 18)) 19)) 20))]) z t0 ts)
            refine aw_go 6 rfl ⟨trivial, trivial, trivial, trivial, trivial, trivial, trivial⟩ ?_
            show aw_W _ _ _ _ (119, [some (.ref 46), some (.int (((0 + 1) + 1) + 1))], []) (ae_en (au σ [(32, (σ 32) + 1)]) (au α [(40, va_cpy (α 40) (α 40) 1020 (170 * k) i), (41, va_cpy (α 41) (α 41) 1020 (170 * k) i), (42, upd (upd (upd (α 42) ((3 * k) + 0) (α 42 18)) ((3 * k) + 1) ((upd (α 42) ((3 * k) + 0) (α 42 18)) 19)) ((3 * k) + 2) ((upd (upd (α 42) ((3 * k) + 0) (α 42 18)) ((3 * k) + 1) ((upd (α 42) ((3 * k) + 0) (α 42 18)) 19)) 20))]) z t0 ts)
            rw [show (σ 32) + 1 = nI (k + 1) from cI_add hk rfl]
            refine aw_go 4 rfl ⟨trivial, trivial, trivial, trivial, trivial⟩ ?_
            show aw_W _ _ _ _ (123, [some (.ref 46), some (.int (((0 + 1) + 1) + 1))], [.int ((nI (k + 1)) - 1)]) (ae_en (au σ [(32, nI (k + 1))]) (au α [(40, va_cpy (α 40) (α 40) 1020 (170 * k) i), (41, va_cpy (α 41) (α 41) 1020 (170 * k) i), (42, upd (upd (upd (α 42) ((3 * k) + 0) (α 42 18)) ((3 * k) + 1) ((upd (α 42) ((3 * k) + 0) (α 42 18)) 19)) ((3 * k) + 2) ((upd (upd (α 42) ((3 * k) + 0) (α 42 18)) ((3 * k) + 1) ((upd (α 42) ((3 * k) + 0) (α 42 18)) 19)) 20))]) z t0 ts)
            rw [show ((0 + 1) + 1) + 1 = nI 3 from (cI_add (a := 2) (b := 1) (cI_add (a := 1) (b := 1) (cI_add (a := 0) (b := 1) rfl rfl) rfl) rfl)]
            rw [show (nI (k + 1)) - 1 = nI ((k + 1) - 1) from (cI_sub (a := k + 1) (b := 1) rfl rfl (by omega))]
            refine aw_ret rfl rfl trivial ?_
            exact ⟨rfl, rfl⟩
          · skip
            have h95d := cI_leF (a := 3) (b := 3) rfl (cI_add (a := 2) (b := 1) (cI_add (a := 1) (b := 1) (cI_add (a := 0) (b := 1) rfl rfl) rfl) rfl) (by omega) (by omega) h95d
            show aw_W _ _ _ _ (96, [some (.ref 46), some (.int (((0 + 1) + 1) + 1))], []) (ae_en σ (au α [(40, va_cpy (α 40) (α 40) 1020 (170 * k) i), (41, va_cpy (α 41) (α 41) 1020 (170 * k) i), (42, upd (upd (upd (α 42) ((3 * k) + 0) (α 42 18)) ((3 * k) + 1) ((upd (α 42) ((3 * k) + 0) (α 42 18)) 19)) ((3 * k) + 2) ((upd (upd (α 42) ((3 * k) + 0) (α 42 18)) ((3 * k) + 1) ((upd (α 42) ((3 * k) + 0) (α 42 18)) 19)) 20))]) z t0 ts)
            exact absurd h95d (by decide)
  · skip
    have h58 := cI_leF (a := n) (b := i) hn rfl (by omega) (by omega) h58
    show aw_W _ _ _ _ (59, [some (.ref 46), some (.int (nI i))], []) (ae_en σ (au α [(40, va_cpy (α 40) (α 40) 1020 (170 * k) i), (41, va_cpy (α 41) (α 41) 1020 (170 * k) i)]) z t0 ts)
    refine aw_go 32 rfl ⟨trivial, trivial, trivial, trivial, trivial, trivial, trivial, trivial, trivial, trivial, trivial, trivial, trivial, (cI_in (a := 1020 + i) (cI_add (a := 1020) (b := i) rfl rfl) (by omega) (by decide)), (cI_in (a := (170 * k) + i) (cI_add (a := 170 * k) (b := i) (cI_mul (a := 170) (b := k) rfl hk) rfl) (by omega) (by decide)), trivial, trivial, trivial, trivial, trivial, trivial, trivial, trivial, trivial, trivial, trivial, trivial, trivial, (cI_in (a := 1020 + i) (cI_add (a := 1020) (b := i) rfl rfl) (by omega) (by decide)), (cI_in (a := (170 * k) + i) (cI_add (a := 170 * k) (b := i) (cI_mul (a := 170) (b := k) rfl hk) rfl) (by omega) (by decide)), trivial, trivial, trivial⟩ ?_
    show aw_W _ _ _ _ (55, [some (.ref 46), some (.int ((nI i) + 1))], []) (ae_en σ (au α [(40, upd (va_cpy (α 40) (α 40) 1020 (170 * k) i) ((170 * (σ 32)) + (nI i)).toNatClampNeg ((va_cpy (α 40) (α 40) 1020 (170 * k) i) (1020 + (nI i)).toNatClampNeg)), (41, upd (va_cpy (α 41) (α 41) 1020 (170 * k) i) ((170 * (σ 32)) + (nI i)).toNatClampNeg ((va_cpy (α 41) (α 41) 1020 (170 * k) i) (1020 + (nI i)).toNatClampNeg))]) z t0 ts)
    rw [show (1020 + (nI i)).toNatClampNeg = 1020 + i from cI_cl (a := 1020 + i) (cI_add (a := 1020) (b := i) rfl rfl) (by omega)]
    rw [show ((170 * (σ 32)) + (nI i)).toNatClampNeg = (170 * k) + i from cI_cl (a := (170 * k) + i) (cI_add (a := 170 * k) (b := i) (cI_mul (a := 170) (b := k) rfl hk) rfl) (by omega)]
    rw [show (nI i) + 1 = nI (i + 1) from (cI_add (a := i) (b := 1) rfl rfl)]
    rw [cpy_hi (f := α 40) (g := α 40) (s := 1020) (d := 170 * k) (n := i) (j := 1020 + i) (by omega), cpy_hi (f := α 41) (g := α 41) (s := 1020) (d := 170 * k) (n := i) (j := 1020 + i) (by omega), cpy_s, cpy_s]
    exact lp_tcp hn hn160 hk hk6 (i + 1) (by omega)
termination_by n - i
decreasing_by all_goals omega
end L65
