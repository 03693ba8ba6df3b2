/-! the reference: the next token, found -/
theorem tW_M (f : Nat → Int32) (p len : Nat) : (tMf f p len 12 0 = -1 ∧ tW f p len = -16) ∨ (0 ≤ tMf f p len 12 0 ∧ tokR 1 (tMf f p len 12 0) (tW f p len)) := by
  have e : tMf f p len 12 0 = if wMp f p len 1 then 0 else if wMp f p len 2 then 1 else if wMp f p len 3 then 2 else if wMp f p len 4 then 3 else if wMp f p len 5 then 4 else if wMp f p len 6 then 5 else if wMp f p len 7 then 10 else if wMp f p len 8 then 11 else if wMp f p len 9 then 12 else if wMp f p len 10 then 13 else if wMp f p len 11 then 14 else if wMp f p len 12 then 15 else -1 := rfl
  rw [e, tW]
  by_cases h0 : wMp f p len 1
  · rw [if_pos h0, if_pos h0]
    exact Or.inr ⟨by decide, Or.inr ((Or.inl ⟨0, by decide, rfl, rfl, rfl⟩))⟩
  rw [if_neg h0, if_neg h0]
  by_cases h1 : wMp f p len 2
  · rw [if_pos h1, if_pos h1]
    exact Or.inr ⟨by decide, Or.inr ((Or.inl ⟨1, by decide, rfl, rfl, rfl⟩))⟩
  rw [if_neg h1, if_neg h1]
  by_cases h2 : wMp f p len 3
  · rw [if_pos h2, if_pos h2]
    exact Or.inr ⟨by decide, Or.inr ((Or.inl ⟨2, by decide, rfl, rfl, rfl⟩))⟩
  rw [if_neg h2, if_neg h2]
  by_cases h3 : wMp f p len 4
  · rw [if_pos h3, if_pos h3]
    exact Or.inr ⟨by decide, Or.inr ((Or.inl ⟨3, by decide, rfl, rfl, rfl⟩))⟩
  rw [if_neg h3, if_neg h3]
  by_cases h4 : wMp f p len 5
  · rw [if_pos h4, if_pos h4]
    exact Or.inr ⟨by decide, Or.inr ((Or.inl ⟨4, by decide, rfl, rfl, rfl⟩))⟩
  rw [if_neg h4, if_neg h4]
  by_cases h5 : wMp f p len 6
  · rw [if_pos h5, if_pos h5]
    exact Or.inr ⟨by decide, Or.inr ((Or.inl ⟨5, by decide, rfl, rfl, rfl⟩))⟩
  rw [if_neg h5, if_neg h5]
  by_cases h6 : wMp f p len 7
  · rw [if_pos h6, if_pos h6]
    exact Or.inr ⟨by decide, Or.inr (Or.inr ((Or.inl ⟨rfl, rfl, rfl⟩)))⟩
  rw [if_neg h6, if_neg h6]
  by_cases h7 : wMp f p len 8
  · rw [if_pos h7, if_pos h7]
    exact Or.inr ⟨by decide, Or.inr (Or.inr (Or.inr ((Or.inl ⟨rfl, rfl, rfl⟩))))⟩
  rw [if_neg h7, if_neg h7]
  by_cases h8 : wMp f p len 9
  · rw [if_pos h8, if_pos h8]
    exact Or.inr ⟨by decide, Or.inr (Or.inr (Or.inr (Or.inr ((Or.inl ⟨rfl, rfl, rfl⟩)))))⟩
  rw [if_neg h8, if_neg h8]
  by_cases h9 : wMp f p len 10
  · rw [if_pos h9, if_pos h9]
    exact Or.inr ⟨by decide, Or.inr (Or.inr (Or.inr (Or.inr (Or.inr ((Or.inl ⟨rfl, rfl, rfl⟩))))))⟩
  rw [if_neg h9, if_neg h9]
  by_cases h10 : wMp f p len 11
  · rw [if_pos h10, if_pos h10]
    exact Or.inr ⟨by decide, Or.inr (Or.inr (Or.inr (Or.inr (Or.inr (Or.inr ((Or.inl ⟨rfl, rfl, rfl⟩)))))))⟩
  rw [if_neg h10, if_neg h10]
  by_cases h11 : wMp f p len 12
  · rw [if_pos h11, if_pos h11]
    exact Or.inr ⟨by decide, Or.inr (Or.inr (Or.inr (Or.inr (Or.inr (Or.inr (Or.inr ((Or.inl ⟨rfl, rfl, rfl⟩))))))))⟩
  rw [if_neg h11, if_neg h11]
  exact Or.inl ⟨rfl, rfl⟩
theorem tSg_M (b : Int32) : tokR (if b = 40 ∨ b = 41 ∨ b = 59 ∨ b = 43 ∨ b = 45 ∨ b = 42 ∨ b = 60 ∨ b = 61 then 3 else 5) b (tSg b) := by
  unfold tSg
  by_cases h40 : b = 40
  · subst h40
    exact Or.inr (Or.inr (Or.inr (Or.inr (Or.inr (Or.inr (Or.inr (Or.inr ((Or.inl ⟨rfl, rfl, rfl⟩)))))))))
  by_cases h41 : b = 41
  · subst h41
    exact Or.inr (Or.inr (Or.inr (Or.inr (Or.inr (Or.inr (Or.inr (Or.inr (Or.inr ((Or.inl ⟨rfl, rfl, rfl⟩))))))))))
  by_cases h42 : b = 42
  · subst h42
    exact Or.inr (Or.inr (Or.inr (Or.inr (Or.inr (Or.inr (Or.inr (Or.inr (Or.inr (Or.inr (Or.inr (Or.inr (Or.inr ((Or.inl ⟨rfl, rfl, rfl⟩))))))))))))))
  by_cases h43 : b = 43
  · subst h43
    exact Or.inr (Or.inr (Or.inr (Or.inr (Or.inr (Or.inr (Or.inr (Or.inr (Or.inr (Or.inr (Or.inr ((Or.inl ⟨rfl, rfl, rfl⟩))))))))))))
  by_cases h45 : b = 45
  · subst h45
    exact Or.inr (Or.inr (Or.inr (Or.inr (Or.inr (Or.inr (Or.inr (Or.inr (Or.inr (Or.inr (Or.inr (Or.inr ((Or.inl ⟨rfl, rfl, rfl⟩)))))))))))))
  by_cases h59 : b = 59
  · subst h59
    exact Or.inr (Or.inr (Or.inr (Or.inr (Or.inr (Or.inr (Or.inr (Or.inr (Or.inr (Or.inr ((Or.inl ⟨rfl, rfl, rfl⟩)))))))))))
  by_cases h60 : b = 60
  · subst h60
    exact Or.inr (Or.inr (Or.inr (Or.inr (Or.inr (Or.inr (Or.inr (Or.inr (Or.inr (Or.inr (Or.inr (Or.inr (Or.inr (Or.inr ((Or.inl ⟨rfl, rfl, rfl⟩)))))))))))))))
  by_cases h61 : b = 61
  · subst h61
    exact Or.inr (Or.inr (Or.inr (Or.inr (Or.inr (Or.inr (Or.inr (Or.inr (Or.inr (Or.inr (Or.inr (Or.inr (Or.inr (Or.inr (Or.inr ((Or.inl ⟨rfl, rfl, rfl⟩))))))))))))))))
  rw [if_neg h40, if_neg h41, if_neg h42, if_neg h43, if_neg h45, if_neg h59, if_neg h60, if_neg h61, if_neg (by rintro (q | q | q | q | q | q | q | q) <;> contradiction)]
  exact Or.inr (Or.inr (Or.inr (Or.inr (Or.inr (Or.inr (Or.inr (Or.inr (Or.inr (Or.inr (Or.inr (Or.inr (Or.inr (Or.inr (Or.inr (Or.inr ((Or.inl ⟨rfl, rfl⟩)))))))))))))))))
theorem rE_all {c : Int32 → Bool} {f : Nat → Int32} {s : Nat} : ∀ (m p i : Nat), p ≤ i → i < rE c f s m p → c (f i) = true
  | 0, p, i, h, h2 => absurd h2 (by show ¬ i < p; omega)
  | m + 1, p, i, h, h2 => by
    unfold rE at h2
    split at h2
    · next q =>
      rcases Nat.lt_or_ge p i with w | w
      · exact rE_all m (p + 1) i (by omega) h2
      · rw [show i = p by omega]; exact q.2
    · omega
theorem nV_b {f : Nat → Int32} {p : Nat} : ∀ (k : Nat), k ≤ 4 → (∀ i, i < k → isD (f (p + i))) → bnd (nV f p k) (10 ^ k - 1)
  | 0, _, _ => ⟨0, Nat.zero_le _, rfl⟩
  | k + 1, hk, h => by
    obtain ⟨a, ha, ea⟩ := nV_b k (by omega) (fun i hi => h i (by omega))
    obtain ⟨h1, h2⟩ := h k (by omega)
    obtain ⟨b, hb, eb⟩ := nI_of2 (x := f (p + k)) (M := 57) (n := 57) rfl (fun q => h1 (Int32.lt_of_lt_of_le q (by decide))) (Int32.not_lt.mp h2)
    have h48 : ¬ nI b < nI 48 := by rw [← eb]; exact h1
    rw [nI_ltI (by omega) (by omega)] at h48
    have h9 : a ≤ 9999 := by
      have : 10 ^ k ≤ 10 ^ 4 := Nat.pow_le_pow_right (by decide) (by omega)
      omega
    refine ⟨a * 10 + b - 48, ?_, ?_⟩
    · rw [Nat.pow_succ]; have : 0 < 10 ^ k := Nat.pow_pos (by decide); omega
    · rw [nV, ea, eb, show (10 : Int32) = nI 10 from rfl, pk_mul, nI_add, show (48 : Int32) = nI 48 from rfl, pk_sub (by omega)]
theorem i4_e {x : Nat} (h : 4 ≤ x) : (if x < 4 then x else 4) = 4 := if_neg (by omega)
theorem i4_l {x : Nat} (h : x ≤ 4) : (if x < 4 then x else 4) = x := by split <;> omega
section L57
variable {P : ae_P} {σ : Nat → Int32} {α : Nat → Nat → Int32} {z : Int64} {t0 : ae_T} {ts : List ae_T}

theorem ev_Model_isLetter {b : Int32} {zd : Nat}  : ae_Ev P (zd + 2) 117 [.int b] (ae_en σ α z t0 ts) (some (.int (bI (isL b)))) (ae_en σ α z t0 ts) := by
  refine aw_evE (cd := cd_Model_isLetter) rfl rfl rfl ?_
  show aw_W _ _ _ _ (0, [some (.int b)], []) (ae_en σ α z t0 ts)
  refine aw_go 3 rfl ⟨trivial, trivial, trivial, trivial⟩ ?_
  refine aw_callE rfl rfl (em_in (v := b) (a := 97) (b := 122)) ?_
  show aw_W _ _ _ _ (4, [some (.int b)], [.int (bI (¬ b < 97 ∧ ¬ 122 < b))]) (ae_en σ α z t0 ts)
  refine aw_ret rfl rfl (bI_b _) ?_
  refine ⟨?_, rfl⟩
  rfl
theorem ev_Model_isDigit {b : Int32} {zd : Nat}  : ae_Ev P (zd + 2) 118 [.int b] (ae_en σ α z t0 ts) (some (.int (bI (isD b)))) (ae_en σ α z t0 ts) := by
  refine aw_evE (cd := cd_Model_isDigit) rfl rfl rfl ?_
  show aw_W _ _ _ _ (0, [some (.int b)], []) (ae_en σ α z t0 ts)
  refine aw_go 3 rfl ⟨trivial, trivial, trivial, trivial⟩ ?_
  refine aw_callE rfl rfl (em_in (v := b) (a := 48) (b := 57)) ?_
  show aw_W _ _ _ _ (4, [some (.int b)], [.int (bI (¬ b < 48 ∧ ¬ 57 < b))]) (ae_en σ α z t0 ts)
  refine aw_ret rfl rfl (bI_b _) ?_
  refine ⟨?_, rfl⟩
  rfl
theorem lp_nxW {zd : Nat} {s q m : Nat} {l : ae_TL} {b0 : Int32} (hTb : mTb (α 45) (α 46)) (hs : (σ 31) = nI s) (hs160 : s ≤ 160) (hl : lx (α 39) s (m + 1) q = l) (hq : q < s) (hns : ¬ ((α 39) q = 32 ∨ (α 39) q = 10)) (hm : s - q ≤ m + 1) (hL : isL ((α 39) q)) (hD : ¬ isD ((α 39) q)) (k r : Nat) (hr : r ≤ s) (hqr : q ≤ r) (hk : s - r ≤ k) (hI : rE (fun b => decide (isL b)) (α 39) s k r = rE (fun b => decide (isL b)) (α 39) s 160 q) : aw_W P (zd + 2) cd_Model_next (fun r H => ∃ (so iz : Int32) (e : Nat), r = none ∧ H = ae_en (au σ [(37, nI (hdP l)), (38, nI e), (39, so), (40, iz)]) α z t0 ts ∧ tokR so iz (hdT l) ∧ e ≤ s ∧ (¬ hdT l = -17 → ∃ m2, l.tail = lx (α 39) s m2 e ∧ s - e ≤ m2)) (56, [some (.ref 46), some (.int b0)], []) (ae_en (au σ [(37, nI q), (38, nI r)]) α z t0 ts) := by
  refine aw_go 5 rfl ⟨trivial, trivial, trivial, trivial, trivial, trivial⟩ ?_
  show aw_W _ _ _ _ (if (σ 31) ≤ (nI r) then 75 else 61, [some (.ref 46), some (.int b0)], []) (ae_en (au σ [(37, nI q), (38, nI r)]) α z t0 ts)
  refine aw_br (c := (σ 31) ≤ (nI r)) (fun h60 => ?_) (fun h60 => ?_)
  · skip
    have h60 := cI_leT (a := s) (b := r) hs rfl (by omega) (by omega) h60
    show aw_W _ _ _ _ (75, [some (.ref 46), some (.int b0)], []) (ae_en (au σ [(37, nI q), (38, nI r)]) α z t0 ts)
    have e8 : rE (fun b => decide (isL b)) (α 39) s k r = r := by
      cases k with
      | zero => rfl
      | succ k => exact if_neg (by omega)
    rw [e8] at hI
    refine aw_go 2 rfl ⟨trivial, trivial, trivial⟩ ?_
    refine aw_callE rfl rfl (ev_Model_wordNow  hTb rfl rfl hqr (by omega)) ?_
    show aw_W _ _ _ _ (78, [some (.ref 46), some (.int b0)], [.int (tMf (α 39) q (r - q) 12 0), .ref 46]) (ae_en (au σ [(37, nI q), (38, nI r)]) α z t0 ts)
    refine aw_go 5 rfl ⟨trivial, trivial, trivial, trivial, trivial, trivial⟩ ?_
    show aw_W _ _ _ _ (if (0 : Int32) ≤ (tMf (α 39) q (r - q) 12 0) then 85 else 83, [some (.ref 46), some (.int b0)], [.ref 46]) (ae_en (au σ [(37, nI q), (38, nI r), (40, tMf (α 39) q (r - q) 12 0)]) α z t0 ts)
    refine aw_br (c := (0 : Int32) ≤ (tMf (α 39) q (r - q) 12 0)) (fun h82 => ?_) (fun h82 => ?_)
    · skip
      show aw_W _ _ _ _ (85, [some (.ref 46), some (.int b0)], [.ref 46]) (ae_en (au σ [(37, nI q), (38, nI r), (40, tMf (α 39) q (r - q) 12 0)]) α z t0 ts)
      refine aw_go 3 rfl ⟨trivial, trivial, trivial, trivial⟩ ?_
      show aw_W _ _ _ _ (185, [some (.ref 46), some (.int b0)], []) (ae_en (au σ [(37, nI q), (38, nI r), (39, 1), (40, tMf (α 39) q (r - q) 12 0)]) α z t0 ts)
      have hg := rE_gt (c := (fun b => decide (isL b))) (f := α 39) (s := s) (p := q) (m := 159) hq (decide_eq_true hL)
      rw [← hI] at hg
      rw [lx_wo hq hns hD hL, ← hI] at hl
      subst hl
      rcases tW_M (α 39) q (r - q) with ⟨w1, w2⟩ | ⟨w1, w2⟩
      · exact absurd h82 (by rw [w1]; decide)
      · refine aw_ret rfl rfl trivial ?_
        refine ⟨1, tMf (α 39) q (r - q) 12 0, r, rfl, rfl, w2, hr, fun _ => ⟨m, rfl, by omega⟩⟩
    · skip
      show aw_W _ _ _ _ (83, [some (.ref 46), some (.int b0)], [.ref 46]) (ae_en (au σ [(37, nI q), (38, nI r), (40, tMf (α 39) q (r - q) 12 0)]) α z t0 ts)
      refine aw_go 4 rfl ⟨trivial, trivial, trivial, trivial, trivial⟩ ?_
      show aw_W _ _ _ _ (185, [some (.ref 46), some (.int b0)], []) (ae_en (au σ [(37, nI q), (38, nI r), (39, 5), (40, tMf (α 39) q (r - q) 12 0)]) α z t0 ts)
      have hg := rE_gt (c := (fun b => decide (isL b))) (f := α 39) (s := s) (p := q) (m := 159) hq (decide_eq_true hL)
      rw [← hI] at hg
      rw [lx_wo hq hns hD hL, ← hI] at hl
      subst hl
      rcases tW_M (α 39) q (r - q) with ⟨w1, w2⟩ | ⟨w1, w2⟩
      · refine aw_go 0 rfl trivial ?_
        refine aw_ret rfl rfl trivial ?_
        refine ⟨5, tMf (α 39) q (r - q) 12 0, r, rfl, rfl, by show tokR 5 _ (tW (α 39) q (r - q)); rw [w2]; exact Or.inr (Or.inr (Or.inr (Or.inr (Or.inr (Or.inr (Or.inr (Or.inr (Or.inr (Or.inr (Or.inr (Or.inr (Or.inr (Or.inr (Or.inr (Or.inr ((Or.inl ⟨rfl, rfl⟩))))))))))))))))), hr, fun _ => ⟨m, rfl, by omega⟩⟩
      · exact absurd w1 h82
  · skip
    have h60 := cI_leF (a := s) (b := r) hs rfl (by omega) (by omega) h60
    show aw_W _ _ _ _ (61, [some (.ref 46), some (.int b0)], []) (ae_en (au σ [(37, nI q), (38, nI r)]) α z t0 ts)
    obtain ⟨k, rfl⟩ : ∃ w, k = w + 1 := ⟨k - 1, by omega⟩
    refine aw_go 5 rfl ⟨trivial, trivial, trivial, trivial, (cI_in (a := r) rfl (by omega) (by decide)), trivial⟩ ?_
    show aw_W _ _ _ _ (66, [some (.ref 46), some (.int b0)], [.int (α 39 (nI r).toNatClampNeg)]) (ae_en (au σ [(37, nI q), (38, nI r)]) α z t0 ts)
    rw [show (nI r).toNatClampNeg = r from cI_cl (a := r) rfl (by omega)]
    refine aw_callE rfl rfl (ev_Model_isLetter (b := (α 39 r))) ?_
    show aw_W _ _ _ _ (67, [some (.ref 46), some (.int b0)], [.int (bI (isL (α 39 r)))]) (ae_en (au σ [(37, nI q), (38, nI r)]) α z t0 ts)
    refine aw_go 1 rfl ⟨trivial, trivial⟩ ?_
    refine aw_br (c := (bI (isL (α 39 r))) = 0) (fun h67 => ?_) (fun h67 => ?_)
    · skip
      have h67 := bI_f h67
      show aw_W _ _ _ _ (75, [some (.ref 46), some (.int b0)], []) (ae_en (au σ [(37, nI q), (38, nI r)]) α z t0 ts)
      have e8 : rE (fun b => decide (isL b)) (α 39) s (k + 1) r = r := if_neg (fun w => h67 (of_decide_eq_true w.2))
      rw [e8] at hI
      refine aw_go 2 rfl ⟨trivial, trivial, trivial⟩ ?_
      refine aw_callE rfl rfl (ev_Model_wordNow  hTb rfl rfl hqr (by omega)) ?_
      show aw_W _ _ _ _ (78, [some (.ref 46), some (.int b0)], [.int (tMf (α 39) q (r - q) 12 0), .ref 46]) (ae_en (au σ [(37, nI q), (38, nI r)]) α z t0 ts)
      refine aw_go 5 rfl ⟨trivial, trivial, trivial, trivial, trivial, trivial⟩ ?_
      show aw_W _ _ _ _ (if (0 : Int32) ≤ (tMf (α 39) q (r - q) 12 0) then 85 else 83, [some (.ref 46), some (.int b0)], [.ref 46]) (ae_en (au σ [(37, nI q), (38, nI r), (40, tMf (α 39) q (r - q) 12 0)]) α z t0 ts)
      refine aw_br (c := (0 : Int32) ≤ (tMf (α 39) q (r - q) 12 0)) (fun h82 => ?_) (fun h82 => ?_)
      · skip
        show aw_W _ _ _ _ (85, [some (.ref 46), some (.int b0)], [.ref 46]) (ae_en (au σ [(37, nI q), (38, nI r), (40, tMf (α 39) q (r - q) 12 0)]) α z t0 ts)
        refine aw_go 3 rfl ⟨trivial, trivial, trivial, trivial⟩ ?_
        show aw_W _ _ _ _ (185, [some (.ref 46), some (.int b0)], []) (ae_en (au σ [(37, nI q), (38, nI r), (39, 1), (40, tMf (α 39) q (r - q) 12 0)]) α z t0 ts)
        have hg := rE_gt (c := (fun b => decide (isL b))) (f := α 39) (s := s) (p := q) (m := 159) hq (decide_eq_true hL)
        rw [← hI] at hg
        rw [lx_wo hq hns hD hL, ← hI] at hl
        subst hl
        rcases tW_M (α 39) q (r - q) with ⟨w1, w2⟩ | ⟨w1, w2⟩
        · exact absurd h82 (by rw [w1]; decide)
        · refine aw_ret rfl rfl trivial ?_
          refine ⟨1, tMf (α 39) q (r - q) 12 0, r, rfl, rfl, w2, hr, fun _ => ⟨m, rfl, by omega⟩⟩
      · skip
        show aw_W _ _ _ _ (83, [some (.ref 46), some (.int b0)], [.ref 46]) (ae_en (au σ [(37, nI q), (38, nI r), (40, tMf (α 39) q (r - q) 12 0)]) α z t0 ts)
        refine aw_go 4 rfl ⟨trivial, trivial, trivial, trivial, trivial⟩ ?_
        show aw_W _ _ _ _ (185, [some (.ref 46), some (.int b0)], []) (ae_en (au σ [(37, nI q), (38, nI r), (39, 5), (40, tMf (α 39) q (r - q) 12 0)]) α z t0 ts)
        have hg := rE_gt (c := (fun b => decide (isL b))) (f := α 39) (s := s) (p := q) (m := 159) hq (decide_eq_true hL)
        rw [← hI] at hg
        rw [lx_wo hq hns hD hL, ← hI] at hl
        subst hl
        rcases tW_M (α 39) q (r - q) with ⟨w1, w2⟩ | ⟨w1, w2⟩
        · refine aw_go 0 rfl trivial ?_
          refine aw_ret rfl rfl trivial ?_
          refine ⟨5, tMf (α 39) q (r - q) 12 0, r, rfl, rfl, by show tokR 5 _ (tW (α 39) q (r - q)); rw [w2]; exact Or.inr (Or.inr (Or.inr (Or.inr (Or.inr (Or.inr (Or.inr (Or.inr (Or.inr (Or.inr (Or.inr (Or.inr (Or.inr (Or.inr (Or.inr (Or.inr ((Or.inl ⟨rfl, rfl⟩))))))))))))))))), hr, fun _ => ⟨m, rfl, by omega⟩⟩
        · exact absurd w1 h82
    · skip
      have h67 := bI_t h67
      show aw_W _ _ _ _ (68, [some (.ref 46), some (.int b0)], []) (ae_en (au σ [(37, nI q), (38, nI r)]) α z t0 ts)
      have e8 : rE (fun b => decide (isL b)) (α 39) s (k + 1) r = rE (fun b => decide (isL b)) (α 39) s k (r + 1) := if_pos ⟨h60, decide_eq_true h67⟩
      rw [e8] at hI
      refine aw_go 7 rfl ⟨trivial, trivial, trivial, trivial, trivial, trivial, trivial, trivial⟩ ?_
      show aw_W _ _ _ _ (56, [some (.ref 46), some (.int b0)], []) (ae_en (au σ [(37, nI q), (38, (nI r) + 1)]) α z t0 ts)
      rw [show nI r + 1 = nI (r + 1) from cI_add (a := r) (b := 1) rfl rfl]
      exact lp_nxW hTb hs hs160 hl hq hns hm hL hD k (r + 1) (by omega) (by omega) (by omega) hI
termination_by k
decreasing_by all_goals omega
theorem lp_nxD {zd : Nat} {s q m : Nat} {l : ae_TL} {b0 : Int32} (hTb : mTb (α 45) (α 46)) (hs : (σ 31) = nI s) (hs160 : s ≤ 160) (hl : lx (α 39) s (m + 1) q = l) (hq : q < s) (hns : ¬ ((α 39) q = 32 ∨ (α 39) q = 10)) (hm : s - q ≤ m + 1) (hD : isD ((α 39) q)) (k r : Nat) (hr : r ≤ s) (hqr : q ≤ r) (hk : s - r ≤ k) (hI : rE (fun b => decide (isD b)) (α 39) s k r = rE (fun b => decide (isD b)) (α 39) s 160 q) : aw_W P (zd + 2) cd_Model_next (fun r H => ∃ (so iz : Int32) (e : Nat), r = none ∧ H = ae_en (au σ [(37, nI (hdP l)), (38, nI e), (39, so), (40, iz)]) α z t0 ts ∧ tokR so iz (hdT l) ∧ e ≤ s ∧ (¬ hdT l = -17 → ∃ m2, l.tail = lx (α 39) s m2 e ∧ s - e ≤ m2)) (94, [some (.ref 46), some (.int b0)], []) (ae_en (au σ [(37, nI q), (38, nI r), (40, (nV (α 39) q (if r - q < 4 then r - q else 4)))]) α z t0 ts) := by
  refine aw_go 5 rfl ⟨trivial, trivial, trivial, trivial, trivial, trivial⟩ ?_
  show aw_W _ _ _ _ (if (σ 31) ≤ (nI r) then 134 else 99, [some (.ref 46), some (.int b0)], []) (ae_en (au σ [(37, nI q), (38, nI r), (40, (nV (α 39) q (if r - q < 4 then r - q else 4)))]) α z t0 ts)
  refine aw_br (c := (σ 31) ≤ (nI r)) (fun h98 => ?_) (fun h98 => ?_)
  · skip
    have h98 := cI_leT (a := s) (b := r) hs rfl (by omega) (by omega) h98
    show aw_W _ _ _ _ (134, [some (.ref 46), some (.int b0)], []) (ae_en (au σ [(37, nI q), (38, nI r), (40, (nV (α 39) q (if r - q < 4 then r - q else 4)))]) α z t0 ts)
    have e8 : rE (fun b => decide (isD b)) (α 39) s k r = r := by
      cases k with
      | zero => rfl
      | succ k => exact if_neg (by omega)
    rw [e8] at hI
    refine aw_go 8 rfl ⟨trivial, trivial, trivial, trivial, trivial, trivial, trivial, trivial, trivial⟩ ?_
    show aw_W _ _ _ _ (if ((nI r) - (nI q)) ≤ 4 then 144 else 142, [some (.ref 46), some (.int b0)], [.ref 46]) (ae_en (au σ [(37, nI q), (38, nI r), (40, (nV (α 39) q (if r - q < 4 then r - q else 4)))]) α z t0 ts)
    refine aw_br (c := ((nI r) - (nI q)) ≤ 4) (fun h141 => ?_) (fun h141 => ?_)
    · skip
      have h141 := cI_leT (a := r - q) (b := 4) (cI_sub (a := r) (b := q) rfl rfl (by omega)) rfl (by omega) (by omega) h141
      show aw_W _ _ _ _ (144, [some (.ref 46), some (.int b0)], [.ref 46]) (ae_en (au σ [(37, nI q), (38, nI r), (40, (nV (α 39) q (if r - q < 4 then r - q else 4)))]) α z t0 ts)
      refine aw_go 3 rfl ⟨trivial, trivial, trivial, trivial⟩ ?_
      show aw_W _ _ _ _ (185, [some (.ref 46), some (.int b0)], []) (ae_en (au σ [(37, nI q), (38, nI r), (39, 2), (40, (nV (α 39) q (if r - q < 4 then r - q else 4)))]) α z t0 ts)
      have hg := rE_gt (c := (fun b => decide (isD b))) (f := α 39) (s := s) (p := q) (m := 159) hq (decide_eq_true hD)
      have hall : ∀ i, i < r - q → isD (α 39 (q + i)) := fun i hi => of_decide_eq_true (rE_all (c := (fun b => decide (isD b))) (f := α 39) (s := s) 160 q (q + i) (by omega) (by rw [← hI]; omega))
      rw [← hI] at hg
      rw [lx_nu hq hns hD, ← hI] at hl
      subst hl
      refine aw_ret rfl rfl trivial ?_
      obtain ⟨v, hv, ev⟩ := nV_b (r - q) (by omega) hall
      have hv2 : v ≤ 9999 := by
        have : 10 ^ (r - q) ≤ 10 ^ 4 := Nat.pow_le_pow_right (by decide) (by omega)
        omega
      refine ⟨2, _, r, rfl, rfl, Or.inl ⟨v, hv2, ?_, rfl, ?_⟩, hr, fun _ => ⟨m, rfl, by omega⟩⟩
      · show tkN (α 39) q r = nI v
        rw [tkN, if_neg (by omega), ev]
      · rw [show (if r - q < 4 then r - q else 4) = r - q by split <;> omega, ev]
    · skip
      have h141 := cI_leF (a := r - q) (b := 4) (cI_sub (a := r) (b := q) rfl rfl (by omega)) rfl (by omega) (by omega) h141
      show aw_W _ _ _ _ (142, [some (.ref 46), some (.int b0)], [.ref 46]) (ae_en (au σ [(37, nI q), (38, nI r), (40, (nV (α 39) q (if r - q < 4 then r - q else 4)))]) α z t0 ts)
      refine aw_go 4 rfl ⟨trivial, trivial, trivial, trivial, trivial⟩ ?_
      show aw_W _ _ _ _ (185, [some (.ref 46), some (.int b0)], []) (ae_en (au σ [(37, nI q), (38, nI r), (39, 5), (40, (nV (α 39) q (if r - q < 4 then r - q else 4)))]) α z t0 ts)
      have hg := rE_gt (c := (fun b => decide (isD b))) (f := α 39) (s := s) (p := q) (m := 159) hq (decide_eq_true hD)
      have hall : ∀ i, i < r - q → isD (α 39 (q + i)) := fun i hi => of_decide_eq_true (rE_all (c := (fun b => decide (isD b))) (f := α 39) (s := s) 160 q (q + i) (by omega) (by rw [← hI]; omega))
      rw [← hI] at hg
      rw [lx_nu hq hns hD, ← hI] at hl
      subst hl
      refine aw_ret rfl rfl trivial ?_
      refine ⟨5, _, r, rfl, rfl, ?_, hr, fun _ => ⟨m, rfl, by omega⟩⟩
      show tokR 5 _ (tkN (α 39) q r)
      rw [tkN, if_pos (show 4 < r - q by omega)]
      exact Or.inr (Or.inr (Or.inr (Or.inr (Or.inr (Or.inr (Or.inr (Or.inr (Or.inr (Or.inr (Or.inr (Or.inr (Or.inr (Or.inr (Or.inr (Or.inr ((Or.inl ⟨rfl, rfl⟩)))))))))))))))))
  · skip
    have h98 := cI_leF (a := s) (b := r) hs rfl (by omega) (by omega) h98
    show aw_W _ _ _ _ (99, [some (.ref 46), some (.int b0)], []) (ae_en (au σ [(37, nI q), (38, nI r), (40, (nV (α 39) q (if r - q < 4 then r - q else 4)))]) α z t0 ts)
    obtain ⟨k, rfl⟩ : ∃ w, k = w + 1 := ⟨k - 1, by omega⟩
    refine aw_go 5 rfl ⟨trivial, trivial, trivial, trivial, (cI_in (a := r) rfl (by omega) (by decide)), trivial⟩ ?_
    show aw_W _ _ _ _ (104, [some (.ref 46), some (.int b0)], [.int (α 39 (nI r).toNatClampNeg)]) (ae_en (au σ [(37, nI q), (38, nI r), (40, (nV (α 39) q (if r - q < 4 then r - q else 4)))]) α z t0 ts)
    rw [show (nI r).toNatClampNeg = r from cI_cl (a := r) rfl (by omega)]
    refine aw_callE rfl rfl (ev_Model_isDigit (b := (α 39 r))) ?_
    show aw_W _ _ _ _ (105, [some (.ref 46), some (.int b0)], [.int (bI (isD (α 39 r)))]) (ae_en (au σ [(37, nI q), (38, nI r), (40, (nV (α 39) q (if r - q < 4 then r - q else 4)))]) α z t0 ts)
    refine aw_go 1 rfl ⟨trivial, trivial⟩ ?_
    refine aw_br (c := (bI (isD (α 39 r))) = 0) (fun h105 => ?_) (fun h105 => ?_)
    · skip
      have h105 := bI_f h105
      show aw_W _ _ _ _ (134, [some (.ref 46), some (.int b0)], []) (ae_en (au σ [(37, nI q), (38, nI r), (40, (nV (α 39) q (if r - q < 4 then r - q else 4)))]) α z t0 ts)
      have e8 : rE (fun b => decide (isD b)) (α 39) s (k + 1) r = r := if_neg (fun w => h105 (of_decide_eq_true w.2))
      rw [e8] at hI
      refine aw_go 8 rfl ⟨trivial, trivial, trivial, trivial, trivial, trivial, trivial, trivial, trivial⟩ ?_
      show aw_W _ _ _ _ (if ((nI r) - (nI q)) ≤ 4 then 144 else 142, [some (.ref 46), some (.int b0)], [.ref 46]) (ae_en (au σ [(37, nI q), (38, nI r), (40, (nV (α 39) q (if r - q < 4 then r - q else 4)))]) α z t0 ts)
      refine aw_br (c := ((nI r) - (nI q)) ≤ 4) (fun h141 => ?_) (fun h141 => ?_)
      · skip
        have h141 := cI_leT (a := r - q) (b := 4) (cI_sub (a := r) (b := q) rfl rfl (by omega)) rfl (by omega) (by omega) h141
        show aw_W _ _ _ _ (144, [some (.ref 46), some (.int b0)], [.ref 46]) (ae_en (au σ [(37, nI q), (38, nI r), (40, (nV (α 39) q (if r - q < 4 then r - q else 4)))]) α z t0 ts)
        refine aw_go 3 rfl ⟨trivial, trivial, trivial, trivial⟩ ?_
        show aw_W _ _ _ _ (185, [some (.ref 46), some (.int b0)], []) (ae_en (au σ [(37, nI q), (38, nI r), (39, 2), (40, (nV (α 39) q (if r - q < 4 then r - q else 4)))]) α z t0 ts)
        have hg := rE_gt (c := (fun b => decide (isD b))) (f := α 39) (s := s) (p := q) (m := 159) hq (decide_eq_true hD)
        have hall : ∀ i, i < r - q → isD (α 39 (q + i)) := fun i hi => of_decide_eq_true (rE_all (c := (fun b => decide (isD b))) (f := α 39) (s := s) 160 q (q + i) (by omega) (by rw [← hI]; omega))
        rw [← hI] at hg
        rw [lx_nu hq hns hD, ← hI] at hl
        subst hl
        refine aw_ret rfl rfl trivial ?_
        obtain ⟨v, hv, ev⟩ := nV_b (r - q) (by omega) hall
        have hv2 : v ≤ 9999 := by
          have : 10 ^ (r - q) ≤ 10 ^ 4 := Nat.pow_le_pow_right (by decide) (by omega)
          omega
        refine ⟨2, _, r, rfl, rfl, Or.inl ⟨v, hv2, ?_, rfl, ?_⟩, hr, fun _ => ⟨m, rfl, by omega⟩⟩
        · show tkN (α 39) q r = nI v
          rw [tkN, if_neg (by omega), ev]
        · rw [show (if r - q < 4 then r - q else 4) = r - q by split <;> omega, ev]
      · skip
        have h141 := cI_leF (a := r - q) (b := 4) (cI_sub (a := r) (b := q) rfl rfl (by omega)) rfl (by omega) (by omega) h141
        show aw_W _ _ _ _ (142, [some (.ref 46), some (.int b0)], [.ref 46]) (ae_en (au σ [(37, nI q), (38, nI r), (40, (nV (α 39) q (if r - q < 4 then r - q else 4)))]) α z t0 ts)
        refine aw_go 4 rfl ⟨trivial, trivial, trivial, trivial, trivial⟩ ?_
        show aw_W _ _ _ _ (185, [some (.ref 46), some (.int b0)], []) (ae_en (au σ [(37, nI q), (38, nI r), (39, 5), (40, (nV (α 39) q (if r - q < 4 then r - q else 4)))]) α z t0 ts)
        have hg := rE_gt (c := (fun b => decide (isD b))) (f := α 39) (s := s) (p := q) (m := 159) hq (decide_eq_true hD)
        have hall : ∀ i, i < r - q → isD (α 39 (q + i)) := fun i hi => of_decide_eq_true (rE_all (c := (fun b => decide (isD b))) (f := α 39) (s := s) 160 q (q + i) (by omega) (by rw [← hI]; omega))
        rw [← hI] at hg
        rw [lx_nu hq hns hD, ← hI] at hl
        subst hl
        refine aw_ret rfl rfl trivial ?_
        refine ⟨5, _, r, rfl, rfl, ?_, hr, fun _ => ⟨m, rfl, by omega⟩⟩
        show tokR 5 _ (tkN (α 39) q r)
        rw [tkN, if_pos (show 4 < r - q by omega)]
        exact Or.inr (Or.inr (Or.inr (Or.inr (Or.inr (Or.inr (Or.inr (Or.inr (Or.inr (Or.inr (Or.inr (Or.inr (Or.inr (Or.inr (Or.inr (Or.inr ((Or.inl ⟨rfl, rfl⟩)))))))))))))))))
    · skip
      have h105 := bI_t h105
      show aw_W _ _ _ _ (106, [some (.ref 46), some (.int b0)], []) (ae_en (au σ [(37, nI q), (38, nI r), (40, (nV (α 39) q (if r - q < 4 then r - q else 4)))]) α z t0 ts)
      have e8 : rE (fun b => decide (isD b)) (α 39) s (k + 1) r = rE (fun b => decide (isD b)) (α 39) s k (r + 1) := if_pos ⟨h98, decide_eq_true h105⟩
      rw [e8] at hI
      refine aw_go 7 rfl ⟨trivial, trivial, trivial, trivial, trivial, trivial, trivial, trivial⟩ ?_
      show aw_W _ _ _ _ (if (4 : Int32) ≤ ((nI r) - (nI q)) then 127 else 113, [some (.ref 46), some (.int b0)], []) (ae_en (au σ [(37, nI q), (38, nI r), (40, (nV (α 39) q (if r - q < 4 then r - q else 4)))]) α z t0 ts)
      refine aw_br (c := (4 : Int32) ≤ ((nI r) - (nI q))) (fun h112 => ?_) (fun h112 => ?_)
      · skip
        have h112 := cI_leT (a := 4) (b := r - q) rfl (cI_sub (a := r) (b := q) rfl rfl (by omega)) (by omega) (by omega) h112
        show aw_W _ _ _ _ (127, [some (.ref 46), some (.int b0)], []) (ae_en (au σ [(37, nI q), (38, nI r), (40, (nV (α 39) q (if r - q < 4 then r - q else 4)))]) α z t0 ts)
        refine aw_go 7 rfl ⟨trivial, trivial, trivial, trivial, trivial, trivial, trivial, trivial⟩ ?_
        show aw_W _ _ _ _ (94, [some (.ref 46), some (.int b0)], []) (ae_en (au σ [(37, nI q), (38, (nI r) + 1), (40, (nV (α 39) q (if r - q < 4 then r - q else 4)))]) α z t0 ts)
        rw [show nI r + 1 = nI (r + 1) from cI_add (a := r) (b := 1) rfl rfl]
        exact aw_to (lp_nxD hTb hs hs160 hl hq hns hm hD k (r + 1) (by omega) (by omega) (by omega) hI) rfl (by rw [show r + 1 - q = r - q + 1 by omega, i4_e (by omega : 4 ≤ r - q + 1), i4_e (by omega : 4 ≤ r - q)])
      · skip
        have h112 := cI_leF (a := 4) (b := r - q) rfl (cI_sub (a := r) (b := q) rfl rfl (by omega)) (by omega) (by omega) h112
        show aw_W _ _ _ _ (113, [some (.ref 46), some (.int b0)], []) (ae_en (au σ [(37, nI q), (38, nI r), (40, (nV (α 39) q (if r - q < 4 then r - q else 4)))]) α z t0 ts)
        refine aw_go 21 rfl ⟨trivial, trivial, trivial, trivial, trivial, trivial, trivial, trivial, trivial, (cI_in (a := r) rfl (by omega) (by decide)), trivial, trivial, trivial, trivial, trivial, trivial, trivial, trivial, trivial, trivial, trivial, trivial⟩ ?_
        show aw_W _ _ _ _ (94, [some (.ref 46), some (.int b0)], []) (ae_en (au σ [(37, nI q), (38, (nI r) + 1), (40, ((10 * (nV (α 39) q (if r - q < 4 then r - q else 4))) + (α 39 (nI r).toNatClampNeg)) - 48)]) α z t0 ts)
        rw [show (nI r).toNatClampNeg = r from cI_cl (a := r) rfl (by omega)]
        rw [show nI r + 1 = nI (r + 1) from cI_add (a := r) (b := 1) rfl rfl]
        exact aw_to (lp_nxD hTb hs hs160 hl hq hns hm hD k (r + 1) (by omega) (by omega) (by omega) hI) rfl (by rw [show r + 1 - q = r - q + 1 by omega, i4_l (by omega : r - q + 1 ≤ 4), i4_l (by omega : r - q ≤ 4), nV, show q + (r - q) = r by omega, Int32.mul_comm (nV (α 39) q (r - q)) 10])
termination_by k
decreasing_by all_goals omega
end L57
