/-! the reference: the next token -/
def letL : List Int32 := [119, 101, 116, 32, 100, 114, 121, 32, 110, 101, 97, 114, 32, 111, 108, 100, 32, 100, 97, 121, 32, 115, 97, 108, 116, 32, 115, 111, 97, 107, 32, 108, 101, 97, 107, 32, 100, 114, 105, 101, 115, 32, 111, 114, 32, 97, 110, 100, 32, 110, 111, 116, 32]
def meaL : List Int32 := [0, 1, 2, 3, 4, 5, 10, 11, 12, 13, 14, 15]
def stW (k : Nat) : Nat := ([0, 4, 8, 13, 17, 21, 26, 31, 36, 42, 45, 49] : List Nat).getD k 53
def lnW (k : Nat) : Nat := ae_lenS.getD (k + 1) 0
def mTb (a45 a46 : Nat → Int32) : Prop := (∀ j, j < 53 → a45 j = letL.getD j 0) ∧ ∀ j, j < 12 → a46 j = meaL.getD j 0
theorem wTb : ∀ k, k < 12 → stW k + lnW k < 53 ∧ letL.getD (stW k + lnW k) 0 = 32 ∧ stW (k + 1) = stW k + lnW k + 1 ∧ lnW k ≤ 5 ∧ ∀ j, j < lnW k → letL.getD (stW k + j) 0 = bS (k + 1) j ∧ ¬ bS (k + 1) j = 32 := by decide
/-- what a word means in the reference, from the k-th on -/
def tMf (f : Nat → Int32) (p len : Nat) : Nat → Nat → Int32
  | 0, _ => -1
  | m + 1, k => if wMp f p len (k + 1) then meaL.getD k 0 else tMf f p len m (k + 1)
/-- a token in the reference's words -/
def tokR (so is t : Int32) : Prop :=
  (∃ v : Nat, v ≤ 9999 ∧ t = nI v ∧ so = 2 ∧ is = nI v) ∨ (∃ v : Nat, v < 6 ∧ t = nI (10000 + v) ∧ so = 1 ∧ is = nI v) ∨ (t = -13 ∧ so = 1 ∧ is = 10) ∨ (t = -14 ∧ so = 1 ∧ is = 11) ∨ (t = -15 ∧ so = 1 ∧ is = 12) ∨ (t = -1 ∧ so = 1 ∧ is = 13) ∨ (t = -2 ∧ so = 1 ∧ is = 14) ∨ (t = -3 ∧ so = 1 ∧ is = 15) ∨ (t = -9 ∧ so = 3 ∧ is = 40) ∨ (t = -10 ∧ so = 3 ∧ is = 41) ∨ (t = -11 ∧ so = 3 ∧ is = 59) ∨ (t = -6 ∧ so = 3 ∧ is = 43) ∨ (t = -7 ∧ so = 3 ∧ is = 45) ∨ (t = -8 ∧ so = 3 ∧ is = 42) ∨ (t = -4 ∧ so = 3 ∧ is = 60) ∨ (t = -5 ∧ so = 3 ∧ is = 61) ∨ (t = -16 ∧ so = 5) ∨ (t = -17 ∧ so = 4)
section L56
variable {P : ae_P} {σ : Nat → Int32} {α : Nat → Nat → Int32} {z : Int64} {t0 : ae_T} {ts : List ae_T}

theorem lp_word_dummy : True := trivial
theorem lp_wordB {zd : Nat} {p e : Nat} (hTb : mTb (α 45) (α 46)) (hfr : (σ 37) = nI p) (hto : (σ 38) = nI e) (hpe : p ≤ e) (he : e ≤ 160) (m k : Nat) (hk : k + (m + 1) = 12) (hI : tMf (α 39) p (e - p) (m + 1) k = tMf (α 39) p (e - p) 12 0) (j : Nat) (hj : j ≤ lnW k) (kk : ∀ {l3 l4 : Int32}, ¬ wMp (α 39) p (e - p) (k + 1) → aw_W P zd cd_Model_wordNow (fun r H => r = some (.int (tMf (α 39) p (e - p) 12 0)) ∧ H = ae_en σ α z t0 ts) (4, [some (.ref 46), some (.int (nI (stW (k + 1)))), some (.int (nI (k + 1))), some (.int l3), some (.int l4)], []) (ae_en σ α z t0 ts)) : aw_W P (zd) cd_Model_wordNow (fun r H => r = some (.int (tMf (α 39) p (e - p) 12 0)) ∧ H = ae_en σ α z t0 ts) (12, [some (.ref 46), some (.int (nI (stW k + j))), some (.int (nI k)), some (.int (nI (p + j))), some (.int (bI (∀ i, i < j → p + i < e ∧ (α 39) (p + i) = bS (k + 1) i)))], []) (ae_en σ α z t0 ts) := by
  obtain ⟨w1, w2, w3, w5, w4⟩ := wTb k (by omega)
  have hL : (α 45) (stW k + j) = letL.getD (stW k + j) 0 := hTb.1 _ (by omega)
  refine aw_go 6 rfl ⟨trivial, trivial, trivial, (cI_in (a := stW k + j) rfl (by omega) (by decide)), trivial, trivial, trivial⟩ ?_
  show aw_W _ _ _ _ (if (α 45 (nI (stW k + j)).toNatClampNeg) = 32 then 36 else 18, [some (.ref 46), some (.int (nI (stW k + j))), some (.int (nI k)), some (.int (nI (p + j))), some (.int (bI (∀ i, i < j → p + i < e ∧ (α 39) (p + i) = bS (k + 1) i)))], []) (ae_en σ α z t0 ts)
  rw [show (nI (stW k + j)).toNatClampNeg = stW k + j from cI_cl (a := stW k + j) rfl (by omega)]
  refine aw_br (c := (α 45 (stW k + j)) = 32) (fun h17 => ?_) (fun h17 => ?_)
  · skip
    show aw_W _ _ _ _ (36, [some (.ref 46), some (.int (nI (stW k + j))), some (.int (nI k)), some (.int (nI (p + j))), some (.int (bI (∀ i, i < j → p + i < e ∧ (α 39) (p + i) = bS (k + 1) i)))], []) (ae_en σ α z t0 ts)
    have hjl : j = lnW k := by
      rcases Nat.lt_or_ge j (lnW k) with q | q
      · rw [hL, (w4 j q).1] at h17
        exact absurd h17 (w4 j q).2
      · omega
    refine aw_go 3 rfl ⟨trivial, trivial, trivial, trivial⟩ ?_
    show aw_W _ _ _ _ (if (bI (∀ i, i < j → p + i < e ∧ (α 39) (p + i) = bS (k + 1) i)) = 0 then 48 else 39, [some (.ref 46), some (.int ((nI (stW k + j)) + 1)), some (.int (nI k)), some (.int (nI (p + j))), some (.int (bI (∀ i, i < j → p + i < e ∧ (α 39) (p + i) = bS (k + 1) i)))], []) (ae_en σ α z t0 ts)
    refine aw_br (c := (bI (∀ i, i < j → p + i < e ∧ (α 39) (p + i) = bS (k + 1) i)) = 0) (fun h38 => ?_) (fun h38 => ?_)
    · skip
      have h38 := bI_f h38
      show aw_W _ _ _ _ (48, [some (.ref 46), some (.int ((nI (stW k + j)) + 1)), some (.int (nI k)), some (.int (nI (p + j))), some (.int (bI (∀ i, i < j → p + i < e ∧ (α 39) (p + i) = bS (k + 1) i)))], []) (ae_en σ α z t0 ts)
      refine aw_go 2 rfl ⟨trivial, trivial, trivial⟩ ?_
      show aw_W _ _ _ _ (4, [some (.ref 46), some (.int ((nI (stW k + j)) + 1)), some (.int ((nI k) + 1)), some (.int (nI (p + j))), some (.int (bI (∀ i, i < j → p + i < e ∧ (α 39) (p + i) = bS (k + 1) i)))], []) (ae_en σ α z t0 ts)
      rw [show (nI (stW k + j)) + 1 = nI ((stW k + j) + 1) from (cI_add (a := stW k + j) (b := 1) rfl rfl)]
      rw [show (nI k) + 1 = nI (k + 1) from (cI_add (a := k) (b := 1) rfl rfl)]
      rw [show stW k + j + 1 = stW (k + 1) by omega]
      exact kk (fun q => h38 (fun i hi => ⟨by have := q.1; have : lnW k = ae_lenS.getD (k + 1) 0 := rfl; omega, q.2 i (by rw [show ae_lenS.getD (k + 1) 0 = lnW k from rfl]; omega)⟩))
    · skip
      have h38 := bI_t h38
      show aw_W _ _ _ _ (39, [some (.ref 46), some (.int ((nI (stW k + j)) + 1)), some (.int (nI k)), some (.int (nI (p + j))), some (.int (bI (∀ i, i < j → p + i < e ∧ (α 39) (p + i) = bS (k + 1) i)))], []) (ae_en σ α z t0 ts)
      refine aw_go 4 rfl ⟨trivial, trivial, trivial, trivial, trivial⟩ ?_
      show aw_W _ _ _ _ (if ¬ (nI (p + j)) = (σ 38) then 48 else 43, [some (.ref 46), some (.int ((nI (stW k + j)) + 1)), some (.int (nI k)), some (.int (nI (p + j))), some (.int (bI (∀ i, i < j → p + i < e ∧ (α 39) (p + i) = bS (k + 1) i)))], []) (ae_en σ α z t0 ts)
      refine aw_br (c := ¬ (nI (p + j)) = (σ 38)) (fun h42 => ?_) (fun h42 => ?_)
      · skip
        have h42 := cI_eqF (a := p + j) (b := e) rfl hto (by omega) (by omega) h42
        show aw_W _ _ _ _ (48, [some (.ref 46), some (.int ((nI (stW k + j)) + 1)), some (.int (nI k)), some (.int (nI (p + j))), some (.int (bI (∀ i, i < j → p + i < e ∧ (α 39) (p + i) = bS (k + 1) i)))], []) (ae_en σ α z t0 ts)
        refine aw_go 2 rfl ⟨trivial, trivial, trivial⟩ ?_
        show aw_W _ _ _ _ (4, [some (.ref 46), some (.int ((nI (stW k + j)) + 1)), some (.int ((nI k) + 1)), some (.int (nI (p + j))), some (.int (bI (∀ i, i < j → p + i < e ∧ (α 39) (p + i) = bS (k + 1) i)))], []) (ae_en σ α z t0 ts)
        rw [show (nI (stW k + j)) + 1 = nI ((stW k + j) + 1) from (cI_add (a := stW k + j) (b := 1) rfl rfl)]
        rw [show (nI k) + 1 = nI (k + 1) from (cI_add (a := k) (b := 1) rfl rfl)]
        rw [show stW k + j + 1 = stW (k + 1) by omega]
        exact kk (fun q => h42 (by have := q.1; have : lnW k = ae_lenS.getD (k + 1) 0 := rfl; omega))
      · skip
        have h42 := Classical.not_not.mp h42
        have h42 := cI_eqT (a := p + j) (b := e) rfl hto (by omega) (by omega) h42
        show aw_W _ _ _ _ (43, [some (.ref 46), some (.int ((nI (stW k + j)) + 1)), some (.int (nI k)), some (.int (nI (p + j))), some (.int (bI (∀ i, i < j → p + i < e ∧ (α 39) (p + i) = bS (k + 1) i)))], []) (ae_en σ α z t0 ts)
        refine aw_go 4 rfl ⟨trivial, trivial, trivial, (cI_in (a := k) rfl (by omega) (by decide)), trivial⟩ ?_
        show aw_W _ _ _ _ (47, [some (.ref 46), some (.int ((nI (stW k + j)) + 1)), some (.int (nI k)), some (.int (nI (p + j))), some (.int (bI (∀ i, i < j → p + i < e ∧ (α 39) (p + i) = bS (k + 1) i)))], [.int (α 46 (nI k).toNatClampNeg)]) (ae_en σ α z t0 ts)
        rw [show (nI k).toNatClampNeg = k from cI_cl (a := k) rfl (by omega)]
        rw [show (nI (stW k + j)) + 1 = nI ((stW k + j) + 1) from (cI_add (a := stW k + j) (b := 1) rfl rfl)]
        refine aw_ret rfl rfl trivial ?_
        refine ⟨?_, rfl⟩
        rw [← hI, tMf, if_pos ⟨by have : lnW k = ae_lenS.getD (k + 1) 0 := rfl; omega, fun i hi => (h38 i (by rw [hjl]; exact hi)).2⟩, hTb.2 k (by omega)]
  · skip
    show aw_W _ _ _ _ (18, [some (.ref 46), some (.int (nI (stW k + j))), some (.int (nI k)), some (.int (nI (p + j))), some (.int (bI (∀ i, i < j → p + i < e ∧ (α 39) (p + i) = bS (k + 1) i)))], []) (ae_en σ α z t0 ts)
    have hjl : j < lnW k := by
      rcases Nat.lt_or_ge j (lnW k) with q | q
      · exact q
      · exact absurd (by rw [hL, show stW k + j = stW k + lnW k by omega]; exact w2) h17
    have hLb := hL.trans (w4 j hjl).1
    refine aw_go 4 rfl ⟨trivial, trivial, trivial, trivial, trivial⟩ ?_
    show aw_W _ _ _ _ (if (σ 38) ≤ (nI (p + j)) then 31 else 22, [some (.ref 46), some (.int (nI (stW k + j))), some (.int (nI k)), some (.int (nI (p + j))), some (.int (bI (∀ i, i < j → p + i < e ∧ (α 39) (p + i) = bS (k + 1) i)))], []) (ae_en σ α z t0 ts)
    refine aw_br (c := (σ 38) ≤ (nI (p + j))) (fun h21 => ?_) (fun h21 => ?_)
    · skip
      have h21 := cI_leT (a := e) (b := p + j) hto rfl (by omega) (by omega) h21
      show aw_W _ _ _ _ (31, [some (.ref 46), some (.int (nI (stW k + j))), some (.int (nI k)), some (.int (nI (p + j))), some (.int (bI (∀ i, i < j → p + i < e ∧ (α 39) (p + i) = bS (k + 1) i)))], []) (ae_en σ α z t0 ts)
      refine aw_go 5 rfl ⟨trivial, trivial, trivial, trivial, trivial, trivial⟩ ?_
      show aw_W _ _ _ _ (12, [some (.ref 46), some (.int ((nI (stW k + j)) + 1)), some (.int (nI k)), some (.int ((nI (p + j)) + 1)), some (.int 0)], []) (ae_en σ α z t0 ts)
      rw [show (nI (stW k + j)) + 1 = nI ((stW k + j) + 1) from (cI_add (a := stW k + j) (b := 1) rfl rfl)]
      rw [show (nI (p + j)) + 1 = nI ((p + j) + 1) from (cI_add (a := p + j) (b := 1) rfl rfl)]
      rw [show (0 : Int32) = bI (∀ i, i < j + 1 → p + i < e ∧ (α 39) (p + i) = bS (k + 1) i) from bI_0 (fun q => absurd (q j (Nat.lt_succ_self j)).1 (by omega))]
      exact lp_wordB hTb hfr hto hpe he m k hk hI (j + 1) (by omega) kk
    · skip
      have h21 := cI_leF (a := e) (b := p + j) hto rfl (by omega) (by omega) h21
      show aw_W _ _ _ _ (22, [some (.ref 46), some (.int (nI (stW k + j))), some (.int (nI k)), some (.int (nI (p + j))), some (.int (bI (∀ i, i < j → p + i < e ∧ (α 39) (p + i) = bS (k + 1) i)))], []) (ae_en σ α z t0 ts)
      refine aw_go 9 rfl ⟨trivial, trivial, trivial, (cI_in (a := p + j) rfl (by omega) (by decide)), trivial, trivial, trivial, (cI_in (a := stW k + j) rfl (by omega) (by decide)), trivial, trivial⟩ ?_
      show aw_W _ _ _ _ (if (α 39 (nI (p + j)).toNatClampNeg) = (α 45 (nI (stW k + j)).toNatClampNeg) then 33 else 31, [some (.ref 46), some (.int (nI (stW k + j))), some (.int (nI k)), some (.int (nI (p + j))), some (.int (bI (∀ i, i < j → p + i < e ∧ (α 39) (p + i) = bS (k + 1) i)))], []) (ae_en σ α z t0 ts)
      rw [show (nI (p + j)).toNatClampNeg = p + j from cI_cl (a := p + j) rfl (by omega)]
      rw [show (nI (stW k + j)).toNatClampNeg = stW k + j from cI_cl (a := stW k + j) rfl (by omega)]
      refine aw_br (c := (α 39 (p + j)) = (α 45 (stW k + j))) (fun h30 => ?_) (fun h30 => ?_)
      · skip
        show aw_W _ _ _ _ (33, [some (.ref 46), some (.int (nI (stW k + j))), some (.int (nI k)), some (.int (nI (p + j))), some (.int (bI (∀ i, i < j → p + i < e ∧ (α 39) (p + i) = bS (k + 1) i)))], []) (ae_en σ α z t0 ts)
        refine aw_go 3 rfl ⟨trivial, trivial, trivial, trivial⟩ ?_
        show aw_W _ _ _ _ (12, [some (.ref 46), some (.int ((nI (stW k + j)) + 1)), some (.int (nI k)), some (.int ((nI (p + j)) + 1)), some (.int (bI (∀ i, i < j → p + i < e ∧ (α 39) (p + i) = bS (k + 1) i)))], []) (ae_en σ α z t0 ts)
        rw [show (nI (stW k + j)) + 1 = nI ((stW k + j) + 1) from (cI_add (a := stW k + j) (b := 1) rfl rfl)]
        rw [show (nI (p + j)) + 1 = nI ((p + j) + 1) from (cI_add (a := p + j) (b := 1) rfl rfl)]
        rw [show bI (∀ i, i < j → p + i < e ∧ (α 39) (p + i) = bS (k + 1) i) = bI (∀ i, i < j + 1 → p + i < e ∧ (α 39) (p + i) = bS (k + 1) i) from bI_iff ⟨fun q i hi => by
          by_cases w : i = j
          · rw [w]; exact ⟨by omega, by rw [← hLb]; exact h30⟩
          · exact q i (by omega), fun q i hi => q i (by omega)⟩]
        exact lp_wordB hTb hfr hto hpe he m k hk hI (j + 1) (by omega) kk
      · skip
        show aw_W _ _ _ _ (31, [some (.ref 46), some (.int (nI (stW k + j))), some (.int (nI k)), some (.int (nI (p + j))), some (.int (bI (∀ i, i < j → p + i < e ∧ (α 39) (p + i) = bS (k + 1) i)))], []) (ae_en σ α z t0 ts)
        refine aw_go 5 rfl ⟨trivial, trivial, trivial, trivial, trivial, trivial⟩ ?_
        show aw_W _ _ _ _ (12, [some (.ref 46), some (.int ((nI (stW k + j)) + 1)), some (.int (nI k)), some (.int ((nI (p + j)) + 1)), some (.int 0)], []) (ae_en σ α z t0 ts)
        rw [show (nI (stW k + j)) + 1 = nI ((stW k + j) + 1) from (cI_add (a := stW k + j) (b := 1) rfl rfl)]
        rw [show (nI (p + j)) + 1 = nI ((p + j) + 1) from (cI_add (a := p + j) (b := 1) rfl rfl)]
        rw [show (0 : Int32) = bI (∀ i, i < j + 1 → p + i < e ∧ (α 39) (p + i) = bS (k + 1) i) from bI_0 (fun q => h30 (by rw [hLb]; exact (q j (Nat.lt_succ_self j)).2))]
        exact lp_wordB hTb hfr hto hpe he m k hk hI (j + 1) (by omega) kk
termination_by lnW k - j
decreasing_by all_goals omega
theorem lp_word {zd : Nat} {p e : Nat} {l3 l4 : Option Value} (hTb : mTb (α 45) (α 46)) (hfr : (σ 37) = nI p) (hto : (σ 38) = nI e) (hpe : p ≤ e) (he : e ≤ 160) (m k : Nat) (hk : k + m = 12) (hI : tMf (α 39) p (e - p) m k = tMf (α 39) p (e - p) 12 0) : aw_W P (zd) cd_Model_wordNow (fun r H => r = some (.int (tMf (α 39) p (e - p) 12 0)) ∧ H = ae_en σ α z t0 ts) (4, [some (.ref 46), some (.int (nI (stW k))), some (.int (nI k)), l3, l4], []) (ae_en σ α z t0 ts) := by
  refine aw_go 3 rfl ⟨trivial, trivial, trivial, trivial⟩ ?_
  refine aw_br (c := (12 : Int32) ≤ (nI k)) (fun h6 => ?_) (fun h6 => ?_)
  · skip
    have h6 := cI_leT (a := 12) (b := k) rfl rfl (by omega) (by omega) h6
    show aw_W _ _ _ _ (50, [some (.ref 46), some (.int (nI (stW k))), some (.int (nI k)), l3, l4], []) (ae_en σ α z t0 ts)
    obtain rfl : m = 0 := by omega
    refine aw_go 1 rfl ⟨trivial, trivial⟩ ?_
    refine aw_ret rfl rfl trivial ?_
    rw [← hI]
    exact ⟨rfl, rfl⟩
  · skip
    have h6 := cI_leF (a := 12) (b := k) rfl rfl (by omega) (by omega) h6
    show aw_W _ _ _ _ (7, [some (.ref 46), some (.int (nI (stW k))), some (.int (nI k)), l3, l4], []) (ae_en σ α z t0 ts)
    obtain ⟨m, rfl⟩ : ∃ q, m = q + 1 := ⟨m - 1, by omega⟩
    refine aw_go 5 rfl ⟨trivial, trivial, trivial, trivial, trivial, trivial⟩ ?_
    show aw_W _ _ _ _ (12, [some (.ref 46), some (.int (nI (stW k))), some (.int (nI k)), some (.int (σ 37)), some (.int 1)], []) (ae_en σ α z t0 ts)
    exact aw_to (lp_wordB hTb hfr hto hpe he m k hk hI 0 (Nat.zero_le _) (fun {l3 l4} hno => lp_word hTb hfr hto hpe he m (k + 1) (by omega) (by rw [← hI, tMf, if_neg hno]))) (by rw [hfr]; rfl) rfl
termination_by m
decreasing_by all_goals omega
theorem ev_Model_wordNow {p e : Nat} {zd : Nat} (hTb : mTb (α 45) (α 46)) (hfr : (σ 37) = nI p) (hto : (σ 38) = nI e) (hpe : p ≤ e) (he : e ≤ 160) : ae_Ev P (zd + 1) 119 [.ref 46] (ae_en σ α z t0 ts) (some (.int (tMf (α 39) p (e - p) 12 0))) (ae_en σ α z t0 ts) := by
  refine aw_evE (cd := cd_Model_wordNow) rfl rfl rfl ?_
  show aw_W _ _ _ _ (0, [some (.ref 46), none, none, none, none], []) (ae_en σ α z t0 ts)
  refine aw_go 4 rfl ⟨trivial, trivial, trivial, trivial, trivial⟩ ?_
  exact lp_word hTb hfr hto hpe he 12 0 rfl rfl
end L56
