/-! the tape is split into tokens (class) -/
def tkN (f : Nat → Int32) (p e : Nat) : Int32 := if 4 < e - p then -16 else nV f p (e - p)
/-- the tokens from a place on -/
def lx (f : Nat → Int32) (s : Nat) : Nat → Nat → List (Int32 × Nat)
  | 0, _ => [(-17, s)]
  | m + 1, p => if p < s then (if f p = 32 ∨ f p = 10 then lx f s m (p + 1)
      else if isD (f p) then (tkN f p (rE (fun b => decide (isD b)) f s 160 p), p) :: lx f s m (rE (fun b => decide (isD b)) f s 160 p)
      else if isL (f p) then (tW f p (rE (fun b => decide (isL b)) f s 160 p - p), p) :: lx f s m (rE (fun b => decide (isL b)) f s 160 p)
      else (tSg (f p), p) :: lx f s m (p + 1)) else [(-17, s)]
/-- rows hold a list of tokens from a place on -/
def tkA (r q : Nat → Int32) : Nat → List (Int32 × Nat) → Prop
  | _, [] => True
  | c, (t, p) :: l => r c = t ∧ q c = nI p ∧ tkA r q (c + 1) l
theorem tkA_app {r q : Nat → Int32} : ∀ {c : Nat} {l m : List (Int32 × Nat)}, tkA r q c (l ++ m) ↔ tkA r q c l ∧ tkA r q (c + l.length) m
  | c, [], m => by simp [tkA]
  | c, (t, p) :: l, m => by
    rw [List.cons_append, tkA, tkA, tkA_app, List.length_cons, show c + 1 + l.length = c + (l.length + 1) by omega, and_assoc, and_assoc]
theorem tkA_upd {r q : Nat → Int32} {k : Nat} {x y : Int32} : ∀ {c : Nat} {l : List (Int32 × Nat)}, c + l.length ≤ k → tkA r q c l → tkA (upd r k x) (upd q k y) c l
  | c, [], _, _ => trivial
  | c, (t, p) :: l, h, ⟨h1, h2, h3⟩ => by
    rw [List.length_cons] at h
    refine ⟨?_, ?_, tkA_upd (by omega) h3⟩
    · rw [← h1]; exact if_neg (by omega)
    · rw [← h2]; exact if_neg (by omega)
theorem lx_len (f : Nat → Int32) (s : Nat) : ∀ (m p : Nat), (lx f s m p).length ≤ m + 1
  | 0, p => Nat.le_refl 1
  | m + 1, p => by
    unfold lx
    split
    · split
      · exact Nat.le_trans (lx_len f s m (p + 1)) (by omega)
      · split
        · rw [List.length_cons]; exact Nat.succ_le_succ (lx_len f s m _)
        · split
          · rw [List.length_cons]; exact Nat.succ_le_succ (lx_len f s m _)
          · rw [List.length_cons]; exact Nat.succ_le_succ (lx_len f s m _)
    · show 1 ≤ _; omega
theorem rE_gt {c : Int32 → Bool} {f : Nat → Int32} {s m p : Nat} (h : p < s) (hc : c (f p) = true) : p + 1 ≤ rE c f s (m + 1) p := by
  unfold rE
  rw [if_pos ⟨h, hc⟩]
  exact rE_ge c f s m (p + 1)
section L34
variable {P : ae_P} {σ : Nat → Int32} {α : Nat → Nat → Int32} {tx : Nat → Option Nat} {tl : List va_E}

theorem lp_isWord_1 {zd : Nat} {p e : Nat} (hz : P.2.2 = .null ∨ P.2.2 = .retAddr 700) (hp : p ≤ e) (he : e ≤ 160) (h5 : e - p = 3) (j : Nat) (hj : j ≤ 3) (hI : ∀ i, i < j → (α 16) (p + i) = bS 1 i) : aw_W P (zd + 4) cd_Token_isWord (fun r H => r = some (.int (bI (wMp (α 16) p (e - p) 1))) ∧ H = (ae_rd σ α tx tl)) (10, [some (.retAddr 1), some (.ref 20), some (.int (nI p)), some (.int (nI e)), some (.int (nI j))], []) (ae_rd σ α tx tl) := by
  refine aw_go 2 rfl ⟨trivial, trivial, trivial⟩ ?_
  refine aw_callE rfl rfl (ev_length_1) ?_
  show aw_W _ _ _ _ (13, [some (.retAddr 1), some (.ref 20), some (.int (nI p)), some (.int (nI e)), some (.int (nI j))], [.int 3, .int (nI j)]) (ae_rd σ α tx tl)
  refine aw_go 1 rfl ⟨trivial, trivial⟩ ?_
  refine aw_br (c := (3 : Int32) ≤ (nI j)) (fun h13 => ?_) (fun h13 => ?_)
  · skip
    have h13 := cI_leT (a := 3) (b := j) rfl rfl (by omega) (by omega) h13
    show aw_W _ _ _ _ (27, [some (.retAddr 1), some (.ref 20), some (.int (nI p)), some (.int (nI e)), some (.int (nI j))], []) (ae_rd σ α tx tl)
    refine aw_go 1 rfl ⟨trivial, trivial⟩ ?_
    refine aw_ret rfl rfl (by first | exact Or.inl rfl | exact Or.inr rfl | exact bI_b _) ?_
    refine ⟨?_, rfl⟩
    exact congrArg (fun q => some (Value.int q)) (bI_1 ⟨h5, fun i hi => hI i (Nat.lt_of_lt_of_le hi h13)⟩)
  · skip
    have h13 := cI_leF (a := 3) (b := j) rfl rfl (by omega) (by omega) h13
    show aw_W _ _ _ _ (14, [some (.retAddr 1), some (.ref 20), some (.int (nI p)), some (.int (nI e)), some (.int (nI j))], []) (ae_rd σ α tx tl)
    refine aw_go 7 rfl ⟨trivial, trivial, trivial, trivial, (cI_in (a := p + j) (cI_add (a := p) (b := j) rfl rfl) (by omega) (by decide)), trivial, trivial, trivial⟩ ?_
    show aw_W _ _ _ _ (21, [some (.retAddr 1), some (.ref 20), some (.int (nI p)), some (.int (nI e)), some (.int (nI j))], [.int (nI j), .retAddr 1, .int (α 16 ((nI p) + (nI j)).toNatClampNeg)]) (ae_rd σ α tx tl)
    rw [show ((nI p) + (nI j)).toNatClampNeg = p + j from cI_cl (a := p + j) (cI_add (a := p) (b := j) rfl rfl) (by omega)]
    refine aw_callE rfl rfl (ev_charAt_1 (j := j) hz h13) ?_
    show aw_W _ _ _ _ (22, [some (.retAddr 1), some (.ref 20), some (.int (nI p)), some (.int (nI e)), some (.int (nI j))], [.int (bS 1 j), .int (α 16 (p + j))]) (ae_rd σ α tx tl)
    refine aw_go 1 rfl ⟨trivial, trivial⟩ ?_
    refine aw_br (c := (α 16 (p + j)) = (bS 1 j)) (fun h22 => ?_) (fun h22 => ?_)
    · skip
      show aw_W _ _ _ _ (25, [some (.retAddr 1), some (.ref 20), some (.int (nI p)), some (.int (nI e)), some (.int (nI j))], []) (ae_rd σ α tx tl)
      refine aw_go 2 rfl ⟨trivial, trivial, trivial⟩ ?_
      show aw_W _ _ _ _ (10, [some (.retAddr 1), some (.ref 20), some (.int (nI p)), some (.int (nI e)), some (.int ((nI j) + 1))], []) (ae_rd σ α tx tl)
      rw [show (nI j) + 1 = nI (j + 1) from (cI_add (a := j) (b := 1) rfl rfl)]
      exact lp_isWord_1 hz hp he h5 (j + 1) h13 (fun i hi => by
        by_cases q : i = j
        · rw [q]; exact h22
        · exact hI i (by omega))
    · skip
      show aw_W _ _ _ _ (23, [some (.retAddr 1), some (.ref 20), some (.int (nI p)), some (.int (nI e)), some (.int (nI j))], []) (ae_rd σ α tx tl)
      refine aw_go 1 rfl ⟨trivial, trivial⟩ ?_
      refine aw_ret rfl rfl (by first | exact Or.inl rfl | exact Or.inr rfl | exact bI_b _) ?_
      refine ⟨?_, rfl⟩
      exact congrArg (fun q => some (Value.int q)) (bI_0 (fun q => h22 (q.2 j h13)))
termination_by 3 - j
decreasing_by all_goals omega
theorem ev_isWord_1 {p e : Nat} {zd : Nat} (hz : P.2.2 = .null ∨ P.2.2 = .retAddr 700) (hp : p ≤ e) (he : e ≤ 160) : ae_Ev P (zd + 5) 101 [.retAddr 1, .ref 20, .int (nI p), .int (nI e)] (ae_rd σ α tx tl) (some (.int (bI (wMp (α 16) p (e - p) 1)))) (ae_rd σ α tx tl) := by
  refine aw_evE (cd := cd_Token_isWord) rfl rfl rfl ?_
  show aw_W _ _ _ _ (0, [some (.retAddr 1), some (.ref 20), some (.int (nI p)), some (.int (nI e)), none], []) (ae_rd σ α tx tl)
  refine aw_go 4 rfl ⟨trivial, trivial, trivial, trivial, trivial⟩ ?_
  show aw_W _ _ _ _ (4, [some (.retAddr 1), some (.ref 20), some (.int (nI p)), some (.int (nI e)), none], [.retAddr 1, .int ((nI e) - (nI p))]) (ae_rd σ α tx tl)
  rw [show (nI e) - (nI p) = nI (e - p) from (cI_sub (a := e) (b := p) rfl rfl (by omega))]
  refine aw_callE rfl rfl (ev_length_1) ?_
  show aw_W _ _ _ _ (5, [some (.retAddr 1), some (.ref 20), some (.int (nI p)), some (.int (nI e)), none], [.int 3, .int (nI (e - p))]) (ae_rd σ α tx tl)
  refine aw_go 1 rfl ⟨trivial, trivial⟩ ?_
  refine aw_br (c := (nI (e - p)) = 3) (fun h5 => ?_) (fun h5 => ?_)
  · skip
    have h5 := cI_eqT (a := e - p) (b := 3) rfl rfl (by omega) (by omega) h5
    show aw_W _ _ _ _ (8, [some (.retAddr 1), some (.ref 20), some (.int (nI p)), some (.int (nI e)), none], []) (ae_rd σ α tx tl)
    refine aw_go 2 rfl ⟨trivial, trivial, trivial⟩ ?_
    exact lp_isWord_1 hz hp he h5 0 (Nat.zero_le _) (fun i hi => absurd hi (Nat.not_lt_zero i))
  · skip
    have h5 := cI_eqF (a := e - p) (b := 3) rfl rfl (by omega) (by omega) h5
    show aw_W _ _ _ _ (6, [some (.retAddr 1), some (.ref 20), some (.int (nI p)), some (.int (nI e)), none], []) (ae_rd σ α tx tl)
    refine aw_go 1 rfl ⟨trivial, trivial⟩ ?_
    refine aw_ret rfl rfl (by first | exact Or.inl rfl | exact Or.inr rfl | exact bI_b _) ?_
    refine ⟨?_, rfl⟩
    exact congrArg (fun q => some (Value.int q)) (bI_0 (fun q => h5 q.1))
theorem lp_isWord_2 {zd : Nat} {p e : Nat} (hz : P.2.2 = .null ∨ P.2.2 = .retAddr 700) (hp : p ≤ e) (he : e ≤ 160) (h5 : e - p = 3) (j : Nat) (hj : j ≤ 3) (hI : ∀ i, i < j → (α 16) (p + i) = bS 2 i) : aw_W P (zd + 4) cd_Token_isWord (fun r H => r = some (.int (bI (wMp (α 16) p (e - p) 2))) ∧ H = (ae_rd σ α tx tl)) (10, [some (.retAddr 2), some (.ref 20), some (.int (nI p)), some (.int (nI e)), some (.int (nI j))], []) (ae_rd σ α tx tl) := by
  refine aw_go 2 rfl ⟨trivial, trivial, trivial⟩ ?_
  refine aw_callE rfl rfl (ev_length_2) ?_
  show aw_W _ _ _ _ (13, [some (.retAddr 2), some (.ref 20), some (.int (nI p)), some (.int (nI e)), some (.int (nI j))], [.int 3, .int (nI j)]) (ae_rd σ α tx tl)
  refine aw_go 1 rfl ⟨trivial, trivial⟩ ?_
  refine aw_br (c := (3 : Int32) ≤ (nI j)) (fun h13 => ?_) (fun h13 => ?_)
  · skip
    have h13 := cI_leT (a := 3) (b := j) rfl rfl (by omega) (by omega) h13
    show aw_W _ _ _ _ (27, [some (.retAddr 2), some (.ref 20), some (.int (nI p)), some (.int (nI e)), some (.int (nI j))], []) (ae_rd σ α tx tl)
    refine aw_go 1 rfl ⟨trivial, trivial⟩ ?_
    refine aw_ret rfl rfl (by first | exact Or.inl rfl | exact Or.inr rfl | exact bI_b _) ?_
    refine ⟨?_, rfl⟩
    exact congrArg (fun q => some (Value.int q)) (bI_1 ⟨h5, fun i hi => hI i (Nat.lt_of_lt_of_le hi h13)⟩)
  · skip
    have h13 := cI_leF (a := 3) (b := j) rfl rfl (by omega) (by omega) h13
    show aw_W _ _ _ _ (14, [some (.retAddr 2), some (.ref 20), some (.int (nI p)), some (.int (nI e)), some (.int (nI j))], []) (ae_rd σ α tx tl)
    refine aw_go 7 rfl ⟨trivial, trivial, trivial, trivial, (cI_in (a := p + j) (cI_add (a := p) (b := j) rfl rfl) (by omega) (by decide)), trivial, trivial, trivial⟩ ?_
    show aw_W _ _ _ _ (21, [some (.retAddr 2), some (.ref 20), some (.int (nI p)), some (.int (nI e)), some (.int (nI j))], [.int (nI j), .retAddr 2, .int (α 16 ((nI p) + (nI j)).toNatClampNeg)]) (ae_rd σ α tx tl)
    rw [show ((nI p) + (nI j)).toNatClampNeg = p + j from cI_cl (a := p + j) (cI_add (a := p) (b := j) rfl rfl) (by omega)]
    refine aw_callE rfl rfl (ev_charAt_2 (j := j) hz h13) ?_
    show aw_W _ _ _ _ (22, [some (.retAddr 2), some (.ref 20), some (.int (nI p)), some (.int (nI e)), some (.int (nI j))], [.int (bS 2 j), .int (α 16 (p + j))]) (ae_rd σ α tx tl)
    refine aw_go 1 rfl ⟨trivial, trivial⟩ ?_
    refine aw_br (c := (α 16 (p + j)) = (bS 2 j)) (fun h22 => ?_) (fun h22 => ?_)
    · skip
      show aw_W _ _ _ _ (25, [some (.retAddr 2), some (.ref 20), some (.int (nI p)), some (.int (nI e)), some (.int (nI j))], []) (ae_rd σ α tx tl)
      refine aw_go 2 rfl ⟨trivial, trivial, trivial⟩ ?_
      show aw_W _ _ _ _ (10, [some (.retAddr 2), some (.ref 20), some (.int (nI p)), some (.int (nI e)), some (.int ((nI j) + 1))], []) (ae_rd σ α tx tl)
      rw [show (nI j) + 1 = nI (j + 1) from (cI_add (a := j) (b := 1) rfl rfl)]
      exact lp_isWord_2 hz hp he h5 (j + 1) h13 (fun i hi => by
        by_cases q : i = j
        · rw [q]; exact h22
        · exact hI i (by omega))
    · skip
      show aw_W _ _ _ _ (23, [some (.retAddr 2), some (.ref 20), some (.int (nI p)), some (.int (nI e)), some (.int (nI j))], []) (ae_rd σ α tx tl)
      refine aw_go 1 rfl ⟨trivial, trivial⟩ ?_
      refine aw_ret rfl rfl (by first | exact Or.inl rfl | exact Or.inr rfl | exact bI_b _) ?_
      refine ⟨?_, rfl⟩
      exact congrArg (fun q => some (Value.int q)) (bI_0 (fun q => h22 (q.2 j h13)))
termination_by 3 - j
decreasing_by all_goals omega
theorem ev_isWord_2 {p e : Nat} {zd : Nat} (hz : P.2.2 = .null ∨ P.2.2 = .retAddr 700) (hp : p ≤ e) (he : e ≤ 160) : ae_Ev P (zd + 5) 101 [.retAddr 2, .ref 20, .int (nI p), .int (nI e)] (ae_rd σ α tx tl) (some (.int (bI (wMp (α 16) p (e - p) 2)))) (ae_rd σ α tx tl) := by
  refine aw_evE (cd := cd_Token_isWord) rfl rfl rfl ?_
  show aw_W _ _ _ _ (0, [some (.retAddr 2), some (.ref 20), some (.int (nI p)), some (.int (nI e)), none], []) (ae_rd σ α tx tl)
  refine aw_go 4 rfl ⟨trivial, trivial, trivial, trivial, trivial⟩ ?_
  show aw_W _ _ _ _ (4, [some (.retAddr 2), some (.ref 20), some (.int (nI p)), some (.int (nI e)), none], [.retAddr 2, .int ((nI e) - (nI p))]) (ae_rd σ α tx tl)
  rw [show (nI e) - (nI p) = nI (e - p) from (cI_sub (a := e) (b := p) rfl rfl (by omega))]
  refine aw_callE rfl rfl (ev_length_2) ?_
  show aw_W _ _ _ _ (5, [some (.retAddr 2), some (.ref 20), some (.int (nI p)), some (.int (nI e)), none], [.int 3, .int (nI (e - p))]) (ae_rd σ α tx tl)
  refine aw_go 1 rfl ⟨trivial, trivial⟩ ?_
  refine aw_br (c := (nI (e - p)) = 3) (fun h5 => ?_) (fun h5 => ?_)
  · skip
    have h5 := cI_eqT (a := e - p) (b := 3) rfl rfl (by omega) (by omega) h5
    show aw_W _ _ _ _ (8, [some (.retAddr 2), some (.ref 20), some (.int (nI p)), some (.int (nI e)), none], []) (ae_rd σ α tx tl)
    refine aw_go 2 rfl ⟨trivial, trivial, trivial⟩ ?_
    exact lp_isWord_2 hz hp he h5 0 (Nat.zero_le _) (fun i hi => absurd hi (Nat.not_lt_zero i))
  · skip
    have h5 := cI_eqF (a := e - p) (b := 3) rfl rfl (by omega) (by omega) h5
    show aw_W _ _ _ _ (6, [some (.retAddr 2), some (.ref 20), some (.int (nI p)), some (.int (nI e)), none], []) (ae_rd σ α tx tl)
    refine aw_go 1 rfl ⟨trivial, trivial⟩ ?_
    refine aw_ret rfl rfl (by first | exact Or.inl rfl | exact Or.inr rfl | exact bI_b _) ?_
    refine ⟨?_, rfl⟩
    exact congrArg (fun q => some (Value.int q)) (bI_0 (fun q => h5 q.1))
theorem lp_isWord_3 {zd : Nat} {p e : Nat} (hz : P.2.2 = .null ∨ P.2.2 = .retAddr 700) (hp : p ≤ e) (he : e ≤ 160) (h5 : e - p = 4) (j : Nat) (hj : j ≤ 4) (hI : ∀ i, i < j → (α 16) (p + i) = bS 3 i) : aw_W P (zd + 4) cd_Token_isWord (fun r H => r = some (.int (bI (wMp (α 16) p (e - p) 3))) ∧ H = (ae_rd σ α tx tl)) (10, [some (.retAddr 3), some (.ref 20), some (.int (nI p)), some (.int (nI e)), some (.int (nI j))], []) (ae_rd σ α tx tl) := by
  refine aw_go 2 rfl ⟨trivial, trivial, trivial⟩ ?_
  refine aw_callE rfl rfl (ev_length_3) ?_
  show aw_W _ _ _ _ (13, [some (.retAddr 3), some (.ref 20), some (.int (nI p)), some (.int (nI e)), some (.int (nI j))], [.int 4, .int (nI j)]) (ae_rd σ α tx tl)
  refine aw_go 1 rfl ⟨trivial, trivial⟩ ?_
  refine aw_br (c := (4 : Int32) ≤ (nI j)) (fun h13 => ?_) (fun h13 => ?_)
  · skip
    have h13 := cI_leT (a := 4) (b := j) rfl rfl (by omega) (by omega) h13
    show aw_W _ _ _ _ (27, [some (.retAddr 3), some (.ref 20), some (.int (nI p)), some (.int (nI e)), some (.int (nI j))], []) (ae_rd σ α tx tl)
    refine aw_go 1 rfl ⟨trivial, trivial⟩ ?_
    refine aw_ret rfl rfl (by first | exact Or.inl rfl | exact Or.inr rfl | exact bI_b _) ?_
    refine ⟨?_, rfl⟩
    exact congrArg (fun q => some (Value.int q)) (bI_1 ⟨h5, fun i hi => hI i (Nat.lt_of_lt_of_le hi h13)⟩)
  · skip
    have h13 := cI_leF (a := 4) (b := j) rfl rfl (by omega) (by omega) h13
    show aw_W _ _ _ _ (14, [some (.retAddr 3), some (.ref 20), some (.int (nI p)), some (.int (nI e)), some (.int (nI j))], []) (ae_rd σ α tx tl)
    refine aw_go 7 rfl ⟨trivial, trivial, trivial, trivial, (cI_in (a := p + j) (cI_add (a := p) (b := j) rfl rfl) (by omega) (by decide)), trivial, trivial, trivial⟩ ?_
    show aw_W _ _ _ _ (21, [some (.retAddr 3), some (.ref 20), some (.int (nI p)), some (.int (nI e)), some (.int (nI j))], [.int (nI j), .retAddr 3, .int (α 16 ((nI p) + (nI j)).toNatClampNeg)]) (ae_rd σ α tx tl)
    rw [show ((nI p) + (nI j)).toNatClampNeg = p + j from cI_cl (a := p + j) (cI_add (a := p) (b := j) rfl rfl) (by omega)]
    refine aw_callE rfl rfl (ev_charAt_3 (j := j) hz h13) ?_
    show aw_W _ _ _ _ (22, [some (.retAddr 3), some (.ref 20), some (.int (nI p)), some (.int (nI e)), some (.int (nI j))], [.int (bS 3 j), .int (α 16 (p + j))]) (ae_rd σ α tx tl)
    refine aw_go 1 rfl ⟨trivial, trivial⟩ ?_
    refine aw_br (c := (α 16 (p + j)) = (bS 3 j)) (fun h22 => ?_) (fun h22 => ?_)
    · skip
      show aw_W _ _ _ _ (25, [some (.retAddr 3), some (.ref 20), some (.int (nI p)), some (.int (nI e)), some (.int (nI j))], []) (ae_rd σ α tx tl)
      refine aw_go 2 rfl ⟨trivial, trivial, trivial⟩ ?_
      show aw_W _ _ _ _ (10, [some (.retAddr 3), some (.ref 20), some (.int (nI p)), some (.int (nI e)), some (.int ((nI j) + 1))], []) (ae_rd σ α tx tl)
      rw [show (nI j) + 1 = nI (j + 1) from (cI_add (a := j) (b := 1) rfl rfl)]
      exact lp_isWord_3 hz hp he h5 (j + 1) h13 (fun i hi => by
        by_cases q : i = j
        · rw [q]; exact h22
        · exact hI i (by omega))
    · skip
      show aw_W _ _ _ _ (23, [some (.retAddr 3), some (.ref 20), some (.int (nI p)), some (.int (nI e)), some (.int (nI j))], []) (ae_rd σ α tx tl)
      refine aw_go 1 rfl ⟨trivial, trivial⟩ ?_
      refine aw_ret rfl rfl (by first | exact Or.inl rfl | exact Or.inr rfl | exact bI_b _) ?_
      refine ⟨?_, rfl⟩
      exact congrArg (fun q => some (Value.int q)) (bI_0 (fun q => h22 (q.2 j h13)))
termination_by 4 - j
decreasing_by all_goals omega
theorem ev_isWord_3 {p e : Nat} {zd : Nat} (hz : P.2.2 = .null ∨ P.2.2 = .retAddr 700) (hp : p ≤ e) (he : e ≤ 160) : ae_Ev P (zd + 5) 101 [.retAddr 3, .ref 20, .int (nI p), .int (nI e)] (ae_rd σ α tx tl) (some (.int (bI (wMp (α 16) p (e - p) 3)))) (ae_rd σ α tx tl) := by
  refine aw_evE (cd := cd_Token_isWord) rfl rfl rfl ?_
  show aw_W _ _ _ _ (0, [some (.retAddr 3), some (.ref 20), some (.int (nI p)), some (.int (nI e)), none], []) (ae_rd σ α tx tl)
  refine aw_go 4 rfl ⟨trivial, trivial, trivial, trivial, trivial⟩ ?_
  show aw_W _ _ _ _ (4, [some (.retAddr 3), some (.ref 20), some (.int (nI p)), some (.int (nI e)), none], [.retAddr 3, .int ((nI e) - (nI p))]) (ae_rd σ α tx tl)
  rw [show (nI e) - (nI p) = nI (e - p) from (cI_sub (a := e) (b := p) rfl rfl (by omega))]
  refine aw_callE rfl rfl (ev_length_3) ?_
  show aw_W _ _ _ _ (5, [some (.retAddr 3), some (.ref 20), some (.int (nI p)), some (.int (nI e)), none], [.int 4, .int (nI (e - p))]) (ae_rd σ α tx tl)
  refine aw_go 1 rfl ⟨trivial, trivial⟩ ?_
  refine aw_br (c := (nI (e - p)) = 4) (fun h5 => ?_) (fun h5 => ?_)
  · skip
    have h5 := cI_eqT (a := e - p) (b := 4) rfl rfl (by omega) (by omega) h5
    show aw_W _ _ _ _ (8, [some (.retAddr 3), some (.ref 20), some (.int (nI p)), some (.int (nI e)), none], []) (ae_rd σ α tx tl)
    refine aw_go 2 rfl ⟨trivial, trivial, trivial⟩ ?_
    exact lp_isWord_3 hz hp he h5 0 (Nat.zero_le _) (fun i hi => absurd hi (Nat.not_lt_zero i))
  · skip
    have h5 := cI_eqF (a := e - p) (b := 4) rfl rfl (by omega) (by omega) h5
    show aw_W _ _ _ _ (6, [some (.retAddr 3), some (.ref 20), some (.int (nI p)), some (.int (nI e)), none], []) (ae_rd σ α tx tl)
    refine aw_go 1 rfl ⟨trivial, trivial⟩ ?_
    refine aw_ret rfl rfl (by first | exact Or.inl rfl | exact Or.inr rfl | exact bI_b _) ?_
    refine ⟨?_, rfl⟩
    exact congrArg (fun q => some (Value.int q)) (bI_0 (fun q => h5 q.1))
theorem lp_isWord_4 {zd : Nat} {p e : Nat} (hz : P.2.2 = .null ∨ P.2.2 = .retAddr 700) (hp : p ≤ e) (he : e ≤ 160) (h5 : e - p = 3) (j : Nat) (hj : j ≤ 3) (hI : ∀ i, i < j → (α 16) (p + i) = bS 4 i) : aw_W P (zd + 4) cd_Token_isWord (fun r H => r = some (.int (bI (wMp (α 16) p (e - p) 4))) ∧ H = (ae_rd σ α tx tl)) (10, [some (.retAddr 4), some (.ref 20), some (.int (nI p)), some (.int (nI e)), some (.int (nI j))], []) (ae_rd σ α tx tl) := by
  refine aw_go 2 rfl ⟨trivial, trivial, trivial⟩ ?_
  refine aw_callE rfl rfl (ev_length_4) ?_
  show aw_W _ _ _ _ (13, [some (.retAddr 4), some (.ref 20), some (.int (nI p)), some (.int (nI e)), some (.int (nI j))], [.int 3, .int (nI j)]) (ae_rd σ α tx tl)
  refine aw_go 1 rfl ⟨trivial, trivial⟩ ?_
  refine aw_br (c := (3 : Int32) ≤ (nI j)) (fun h13 => ?_) (fun h13 => ?_)
  · skip
    have h13 := cI_leT (a := 3) (b := j) rfl rfl (by omega) (by omega) h13
    show aw_W _ _ _ _ (27, [some (.retAddr 4), some (.ref 20), some (.int (nI p)), some (.int (nI e)), some (.int (nI j))], []) (ae_rd σ α tx tl)
    refine aw_go 1 rfl ⟨trivial, trivial⟩ ?_
    refine aw_ret rfl rfl (by first | exact Or.inl rfl | exact Or.inr rfl | exact bI_b _) ?_
    refine ⟨?_, rfl⟩
    exact congrArg (fun q => some (Value.int q)) (bI_1 ⟨h5, fun i hi => hI i (Nat.lt_of_lt_of_le hi h13)⟩)
  · skip
    have h13 := cI_leF (a := 3) (b := j) rfl rfl (by omega) (by omega) h13
    show aw_W _ _ _ _ (14, [some (.retAddr 4), some (.ref 20), some (.int (nI p)), some (.int (nI e)), some (.int (nI j))], []) (ae_rd σ α tx tl)
    refine aw_go 7 rfl ⟨trivial, trivial, trivial, trivial, (cI_in (a := p + j) (cI_add (a := p) (b := j) rfl rfl) (by omega) (by decide)), trivial, trivial, trivial⟩ ?_
    show aw_W _ _ _ _ (21, [some (.retAddr 4), some (.ref 20), some (.int (nI p)), some (.int (nI e)), some (.int (nI j))], [.int (nI j), .retAddr 4, .int (α 16 ((nI p) + (nI j)).toNatClampNeg)]) (ae_rd σ α tx tl)
    rw [show ((nI p) + (nI j)).toNatClampNeg = p + j from cI_cl (a := p + j) (cI_add (a := p) (b := j) rfl rfl) (by omega)]
    refine aw_callE rfl rfl (ev_charAt_4 (j := j) hz h13) ?_
    show aw_W _ _ _ _ (22, [some (.retAddr 4), some (.ref 20), some (.int (nI p)), some (.int (nI e)), some (.int (nI j))], [.int (bS 4 j), .int (α 16 (p + j))]) (ae_rd σ α tx tl)
    refine aw_go 1 rfl ⟨trivial, trivial⟩ ?_
    refine aw_br (c := (α 16 (p + j)) = (bS 4 j)) (fun h22 => ?_) (fun h22 => ?_)
    · skip
      show aw_W _ _ _ _ (25, [some (.retAddr 4), some (.ref 20), some (.int (nI p)), some (.int (nI e)), some (.int (nI j))], []) (ae_rd σ α tx tl)
      refine aw_go 2 rfl ⟨trivial, trivial, trivial⟩ ?_
      show aw_W _ _ _ _ (10, [some (.retAddr 4), some (.ref 20), some (.int (nI p)), some (.int (nI e)), some (.int ((nI j) + 1))], []) (ae_rd σ α tx tl)
      rw [show (nI j) + 1 = nI (j + 1) from (cI_add (a := j) (b := 1) rfl rfl)]
      exact lp_isWord_4 hz hp he h5 (j + 1) h13 (fun i hi => by
        by_cases q : i = j
        · rw [q]; exact h22
        · exact hI i (by omega))
    · skip
      show aw_W _ _ _ _ (23, [some (.retAddr 4), some (.ref 20), some (.int (nI p)), some (.int (nI e)), some (.int (nI j))], []) (ae_rd σ α tx tl)
      refine aw_go 1 rfl ⟨trivial, trivial⟩ ?_
      refine aw_ret rfl rfl (by first | exact Or.inl rfl | exact Or.inr rfl | exact bI_b _) ?_
      refine ⟨?_, rfl⟩
      exact congrArg (fun q => some (Value.int q)) (bI_0 (fun q => h22 (q.2 j h13)))
termination_by 3 - j
decreasing_by all_goals omega
theorem ev_isWord_4 {p e : Nat} {zd : Nat} (hz : P.2.2 = .null ∨ P.2.2 = .retAddr 700) (hp : p ≤ e) (he : e ≤ 160) : ae_Ev P (zd + 5) 101 [.retAddr 4, .ref 20, .int (nI p), .int (nI e)] (ae_rd σ α tx tl) (some (.int (bI (wMp (α 16) p (e - p) 4)))) (ae_rd σ α tx tl) := by
  refine aw_evE (cd := cd_Token_isWord) rfl rfl rfl ?_
  show aw_W _ _ _ _ (0, [some (.retAddr 4), some (.ref 20), some (.int (nI p)), some (.int (nI e)), none], []) (ae_rd σ α tx tl)
  refine aw_go 4 rfl ⟨trivial, trivial, trivial, trivial, trivial⟩ ?_
  show aw_W _ _ _ _ (4, [some (.retAddr 4), some (.ref 20), some (.int (nI p)), some (.int (nI e)), none], [.retAddr 4, .int ((nI e) - (nI p))]) (ae_rd σ α tx tl)
  rw [show (nI e) - (nI p) = nI (e - p) from (cI_sub (a := e) (b := p) rfl rfl (by omega))]
  refine aw_callE rfl rfl (ev_length_4) ?_
  show aw_W _ _ _ _ (5, [some (.retAddr 4), some (.ref 20), some (.int (nI p)), some (.int (nI e)), none], [.int 3, .int (nI (e - p))]) (ae_rd σ α tx tl)
  refine aw_go 1 rfl ⟨trivial, trivial⟩ ?_
  refine aw_br (c := (nI (e - p)) = 3) (fun h5 => ?_) (fun h5 => ?_)
  · skip
    have h5 := cI_eqT (a := e - p) (b := 3) rfl rfl (by omega) (by omega) h5
    show aw_W _ _ _ _ (8, [some (.retAddr 4), some (.ref 20), some (.int (nI p)), some (.int (nI e)), none], []) (ae_rd σ α tx tl)
    refine aw_go 2 rfl ⟨trivial, trivial, trivial⟩ ?_
    exact lp_isWord_4 hz hp he h5 0 (Nat.zero_le _) (fun i hi => absurd hi (Nat.not_lt_zero i))
  · skip
    have h5 := cI_eqF (a := e - p) (b := 3) rfl rfl (by omega) (by omega) h5
    show aw_W _ _ _ _ (6, [some (.retAddr 4), some (.ref 20), some (.int (nI p)), some (.int (nI e)), none], []) (ae_rd σ α tx tl)
    refine aw_go 1 rfl ⟨trivial, trivial⟩ ?_
    refine aw_ret rfl rfl (by first | exact Or.inl rfl | exact Or.inr rfl | exact bI_b _) ?_
    refine ⟨?_, rfl⟩
    exact congrArg (fun q => some (Value.int q)) (bI_0 (fun q => h5 q.1))
theorem lp_isWord_5 {zd : Nat} {p e : Nat} (hz : P.2.2 = .null ∨ P.2.2 = .retAddr 700) (hp : p ≤ e) (he : e ≤ 160) (h5 : e - p = 3) (j : Nat) (hj : j ≤ 3) (hI : ∀ i, i < j → (α 16) (p + i) = bS 5 i) : aw_W P (zd + 4) cd_Token_isWord (fun r H => r = some (.int (bI (wMp (α 16) p (e - p) 5))) ∧ H = (ae_rd σ α tx tl)) (10, [some (.retAddr 5), some (.ref 20), some (.int (nI p)), some (.int (nI e)), some (.int (nI j))], []) (ae_rd σ α tx tl) := by
  refine aw_go 2 rfl ⟨trivial, trivial, trivial⟩ ?_
  refine aw_callE rfl rfl (ev_length_5) ?_
  show aw_W _ _ _ _ (13, [some (.retAddr 5), some (.ref 20), some (.int (nI p)), some (.int (nI e)), some (.int (nI j))], [.int 3, .int (nI j)]) (ae_rd σ α tx tl)
  refine aw_go 1 rfl ⟨trivial, trivial⟩ ?_
  refine aw_br (c := (3 : Int32) ≤ (nI j)) (fun h13 => ?_) (fun h13 => ?_)
  · skip
    have h13 := cI_leT (a := 3) (b := j) rfl rfl (by omega) (by omega) h13
    show aw_W _ _ _ _ (27, [some (.retAddr 5), some (.ref 20), some (.int (nI p)), some (.int (nI e)), some (.int (nI j))], []) (ae_rd σ α tx tl)
    refine aw_go 1 rfl ⟨trivial, trivial⟩ ?_
    refine aw_ret rfl rfl (by first | exact Or.inl rfl | exact Or.inr rfl | exact bI_b _) ?_
    refine ⟨?_, rfl⟩
    exact congrArg (fun q => some (Value.int q)) (bI_1 ⟨h5, fun i hi => hI i (Nat.lt_of_lt_of_le hi h13)⟩)
  · skip
    have h13 := cI_leF (a := 3) (b := j) rfl rfl (by omega) (by omega) h13
    show aw_W _ _ _ _ (14, [some (.retAddr 5), some (.ref 20), some (.int (nI p)), some (.int (nI e)), some (.int (nI j))], []) (ae_rd σ α tx tl)
    refine aw_go 7 rfl ⟨trivial, trivial, trivial, trivial, (cI_in (a := p + j) (cI_add (a := p) (b := j) rfl rfl) (by omega) (by decide)), trivial, trivial, trivial⟩ ?_
    show aw_W _ _ _ _ (21, [some (.retAddr 5), some (.ref 20), some (.int (nI p)), some (.int (nI e)), some (.int (nI j))], [.int (nI j), .retAddr 5, .int (α 16 ((nI p) + (nI j)).toNatClampNeg)]) (ae_rd σ α tx tl)
    rw [show ((nI p) + (nI j)).toNatClampNeg = p + j from cI_cl (a := p + j) (cI_add (a := p) (b := j) rfl rfl) (by omega)]
    refine aw_callE rfl rfl (ev_charAt_5 (j := j) hz h13) ?_
    show aw_W _ _ _ _ (22, [some (.retAddr 5), some (.ref 20), some (.int (nI p)), some (.int (nI e)), some (.int (nI j))], [.int (bS 5 j), .int (α 16 (p + j))]) (ae_rd σ α tx tl)
    refine aw_go 1 rfl ⟨trivial, trivial⟩ ?_
    refine aw_br (c := (α 16 (p + j)) = (bS 5 j)) (fun h22 => ?_) (fun h22 => ?_)
    · skip
      show aw_W _ _ _ _ (25, [some (.retAddr 5), some (.ref 20), some (.int (nI p)), some (.int (nI e)), some (.int (nI j))], []) (ae_rd σ α tx tl)
      refine aw_go 2 rfl ⟨trivial, trivial, trivial⟩ ?_
      show aw_W _ _ _ _ (10, [some (.retAddr 5), some (.ref 20), some (.int (nI p)), some (.int (nI e)), some (.int ((nI j) + 1))], []) (ae_rd σ α tx tl)
      rw [show (nI j) + 1 = nI (j + 1) from (cI_add (a := j) (b := 1) rfl rfl)]
      exact lp_isWord_5 hz hp he h5 (j + 1) h13 (fun i hi => by
        by_cases q : i = j
        · rw [q]; exact h22
        · exact hI i (by omega))
    · skip
      show aw_W _ _ _ _ (23, [some (.retAddr 5), some (.ref 20), some (.int (nI p)), some (.int (nI e)), some (.int (nI j))], []) (ae_rd σ α tx tl)
      refine aw_go 1 rfl ⟨trivial, trivial⟩ ?_
      refine aw_ret rfl rfl (by first | exact Or.inl rfl | exact Or.inr rfl | exact bI_b _) ?_
      refine ⟨?_, rfl⟩
      exact congrArg (fun q => some (Value.int q)) (bI_0 (fun q => h22 (q.2 j h13)))
termination_by 3 - j
decreasing_by all_goals omega
theorem ev_isWord_5 {p e : Nat} {zd : Nat} (hz : P.2.2 = .null ∨ P.2.2 = .retAddr 700) (hp : p ≤ e) (he : e ≤ 160) : ae_Ev P (zd + 5) 101 [.retAddr 5, .ref 20, .int (nI p), .int (nI e)] (ae_rd σ α tx tl) (some (.int (bI (wMp (α 16) p (e - p) 5)))) (ae_rd σ α tx tl) := by
  refine aw_evE (cd := cd_Token_isWord) rfl rfl rfl ?_
  show aw_W _ _ _ _ (0, [some (.retAddr 5), some (.ref 20), some (.int (nI p)), some (.int (nI e)), none], []) (ae_rd σ α tx tl)
  refine aw_go 4 rfl ⟨trivial, trivial, trivial, trivial, trivial⟩ ?_
  show aw_W _ _ _ _ (4, [some (.retAddr 5), some (.ref 20), some (.int (nI p)), some (.int (nI e)), none], [.retAddr 5, .int ((nI e) - (nI p))]) (ae_rd σ α tx tl)
  rw [show (nI e) - (nI p) = nI (e - p) from (cI_sub (a := e) (b := p) rfl rfl (by omega))]
  refine aw_callE rfl rfl (ev_length_5) ?_
  show aw_W _ _ _ _ (5, [some (.retAddr 5), some (.ref 20), some (.int (nI p)), some (.int (nI e)), none], [.int 3, .int (nI (e - p))]) (ae_rd σ α tx tl)
  refine aw_go 1 rfl ⟨trivial, trivial⟩ ?_
  refine aw_br (c := (nI (e - p)) = 3) (fun h5 => ?_) (fun h5 => ?_)
  · skip
    have h5 := cI_eqT (a := e - p) (b := 3) rfl rfl (by omega) (by omega) h5
    show aw_W _ _ _ _ (8, [some (.retAddr 5), some (.ref 20), some (.int (nI p)), some (.int (nI e)), none], []) (ae_rd σ α tx tl)
    refine aw_go 2 rfl ⟨trivial, trivial, trivial⟩ ?_
    exact lp_isWord_5 hz hp he h5 0 (Nat.zero_le _) (fun i hi => absurd hi (Nat.not_lt_zero i))
  · skip
    have h5 := cI_eqF (a := e - p) (b := 3) rfl rfl (by omega) (by omega) h5
    show aw_W _ _ _ _ (6, [some (.retAddr 5), some (.ref 20), some (.int (nI p)), some (.int (nI e)), none], []) (ae_rd σ α tx tl)
    refine aw_go 1 rfl ⟨trivial, trivial⟩ ?_
    refine aw_ret rfl rfl (by first | exact Or.inl rfl | exact Or.inr rfl | exact bI_b _) ?_
    refine ⟨?_, rfl⟩
    exact congrArg (fun q => some (Value.int q)) (bI_0 (fun q => h5 q.1))
theorem lp_isWord_6 {zd : Nat} {p e : Nat} (hz : P.2.2 = .null ∨ P.2.2 = .retAddr 700) (hp : p ≤ e) (he : e ≤ 160) (h5 : e - p = 4) (j : Nat) (hj : j ≤ 4) (hI : ∀ i, i < j → (α 16) (p + i) = bS 6 i) : aw_W P (zd + 4) cd_Token_isWord (fun r H => r = some (.int (bI (wMp (α 16) p (e - p) 6))) ∧ H = (ae_rd σ α tx tl)) (10, [some (.retAddr 6), some (.ref 20), some (.int (nI p)), some (.int (nI e)), some (.int (nI j))], []) (ae_rd σ α tx tl) := by
  refine aw_go 2 rfl ⟨trivial, trivial, trivial⟩ ?_
  refine aw_callE rfl rfl (ev_length_6) ?_
  show aw_W _ _ _ _ (13, [some (.retAddr 6), some (.ref 20), some (.int (nI p)), some (.int (nI e)), some (.int (nI j))], [.int 4, .int (nI j)]) (ae_rd σ α tx tl)
  refine aw_go 1 rfl ⟨trivial, trivial⟩ ?_
  refine aw_br (c := (4 : Int32) ≤ (nI j)) (fun h13 => ?_) (fun h13 => ?_)
  · skip
    have h13 := cI_leT (a := 4) (b := j) rfl rfl (by omega) (by omega) h13
    show aw_W _ _ _ _ (27, [some (.retAddr 6), some (.ref 20), some (.int (nI p)), some (.int (nI e)), some (.int (nI j))], []) (ae_rd σ α tx tl)
    refine aw_go 1 rfl ⟨trivial, trivial⟩ ?_
    refine aw_ret rfl rfl (by first | exact Or.inl rfl | exact Or.inr rfl | exact bI_b _) ?_
    refine ⟨?_, rfl⟩
    exact congrArg (fun q => some (Value.int q)) (bI_1 ⟨h5, fun i hi => hI i (Nat.lt_of_lt_of_le hi h13)⟩)
  · skip
    have h13 := cI_leF (a := 4) (b := j) rfl rfl (by omega) (by omega) h13
    show aw_W _ _ _ _ (14, [some (.retAddr 6), some (.ref 20), some (.int (nI p)), some (.int (nI e)), some (.int (nI j))], []) (ae_rd σ α tx tl)
    refine aw_go 7 rfl ⟨trivial, trivial, trivial, trivial, (cI_in (a := p + j) (cI_add (a := p) (b := j) rfl rfl) (by omega) (by decide)), trivial, trivial, trivial⟩ ?_
    show aw_W _ _ _ _ (21, [some (.retAddr 6), some (.ref 20), some (.int (nI p)), some (.int (nI e)), some (.int (nI j))], [.int (nI j), .retAddr 6, .int (α 16 ((nI p) + (nI j)).toNatClampNeg)]) (ae_rd σ α tx tl)
    rw [show ((nI p) + (nI j)).toNatClampNeg = p + j from cI_cl (a := p + j) (cI_add (a := p) (b := j) rfl rfl) (by omega)]
    refine aw_callE rfl rfl (ev_charAt_6 (j := j) hz h13) ?_
    show aw_W _ _ _ _ (22, [some (.retAddr 6), some (.ref 20), some (.int (nI p)), some (.int (nI e)), some (.int (nI j))], [.int (bS 6 j), .int (α 16 (p + j))]) (ae_rd σ α tx tl)
    refine aw_go 1 rfl ⟨trivial, trivial⟩ ?_
    refine aw_br (c := (α 16 (p + j)) = (bS 6 j)) (fun h22 => ?_) (fun h22 => ?_)
    · skip
      show aw_W _ _ _ _ (25, [some (.retAddr 6), some (.ref 20), some (.int (nI p)), some (.int (nI e)), some (.int (nI j))], []) (ae_rd σ α tx tl)
      refine aw_go 2 rfl ⟨trivial, trivial, trivial⟩ ?_
      show aw_W _ _ _ _ (10, [some (.retAddr 6), some (.ref 20), some (.int (nI p)), some (.int (nI e)), some (.int ((nI j) + 1))], []) (ae_rd σ α tx tl)
      rw [show (nI j) + 1 = nI (j + 1) from (cI_add (a := j) (b := 1) rfl rfl)]
      exact lp_isWord_6 hz hp he h5 (j + 1) h13 (fun i hi => by
        by_cases q : i = j
        · rw [q]; exact h22
        · exact hI i (by omega))
    · skip
      show aw_W _ _ _ _ (23, [some (.retAddr 6), some (.ref 20), some (.int (nI p)), some (.int (nI e)), some (.int (nI j))], []) (ae_rd σ α tx tl)
      refine aw_go 1 rfl ⟨trivial, trivial⟩ ?_
      refine aw_ret rfl rfl (by first | exact Or.inl rfl | exact Or.inr rfl | exact bI_b _) ?_
      refine ⟨?_, rfl⟩
      exact congrArg (fun q => some (Value.int q)) (bI_0 (fun q => h22 (q.2 j h13)))
termination_by 4 - j
decreasing_by all_goals omega
theorem ev_isWord_6 {p e : Nat} {zd : Nat} (hz : P.2.2 = .null ∨ P.2.2 = .retAddr 700) (hp : p ≤ e) (he : e ≤ 160) : ae_Ev P (zd + 5) 101 [.retAddr 6, .ref 20, .int (nI p), .int (nI e)] (ae_rd σ α tx tl) (some (.int (bI (wMp (α 16) p (e - p) 6)))) (ae_rd σ α tx tl) := by
  refine aw_evE (cd := cd_Token_isWord) rfl rfl rfl ?_
  show aw_W _ _ _ _ (0, [some (.retAddr 6), some (.ref 20), some (.int (nI p)), some (.int (nI e)), none], []) (ae_rd σ α tx tl)
  refine aw_go 4 rfl ⟨trivial, trivial, trivial, trivial, trivial⟩ ?_
  show aw_W _ _ _ _ (4, [some (.retAddr 6), some (.ref 20), some (.int (nI p)), some (.int (nI e)), none], [.retAddr 6, .int ((nI e) - (nI p))]) (ae_rd σ α tx tl)
  rw [show (nI e) - (nI p) = nI (e - p) from (cI_sub (a := e) (b := p) rfl rfl (by omega))]
  refine aw_callE rfl rfl (ev_length_6) ?_
  show aw_W _ _ _ _ (5, [some (.retAddr 6), some (.ref 20), some (.int (nI p)), some (.int (nI e)), none], [.int 4, .int (nI (e - p))]) (ae_rd σ α tx tl)
  refine aw_go 1 rfl ⟨trivial, trivial⟩ ?_
  refine aw_br (c := (nI (e - p)) = 4) (fun h5 => ?_) (fun h5 => ?_)
  · skip
    have h5 := cI_eqT (a := e - p) (b := 4) rfl rfl (by omega) (by omega) h5
    show aw_W _ _ _ _ (8, [some (.retAddr 6), some (.ref 20), some (.int (nI p)), some (.int (nI e)), none], []) (ae_rd σ α tx tl)
    refine aw_go 2 rfl ⟨trivial, trivial, trivial⟩ ?_
    exact lp_isWord_6 hz hp he h5 0 (Nat.zero_le _) (fun i hi => absurd hi (Nat.not_lt_zero i))
  · skip
    have h5 := cI_eqF (a := e - p) (b := 4) rfl rfl (by omega) (by omega) h5
    show aw_W _ _ _ _ (6, [some (.retAddr 6), some (.ref 20), some (.int (nI p)), some (.int (nI e)), none], []) (ae_rd σ α tx tl)
    refine aw_go 1 rfl ⟨trivial, trivial⟩ ?_
    refine aw_ret rfl rfl (by first | exact Or.inl rfl | exact Or.inr rfl | exact bI_b _) ?_
    refine ⟨?_, rfl⟩
    exact congrArg (fun q => some (Value.int q)) (bI_0 (fun q => h5 q.1))
theorem lp_isWord_7 {zd : Nat} {p e : Nat} (hz : P.2.2 = .null ∨ P.2.2 = .retAddr 700) (hp : p ≤ e) (he : e ≤ 160) (h5 : e - p = 4) (j : Nat) (hj : j ≤ 4) (hI : ∀ i, i < j → (α 16) (p + i) = bS 7 i) : aw_W P (zd + 4) cd_Token_isWord (fun r H => r = some (.int (bI (wMp (α 16) p (e - p) 7))) ∧ H = (ae_rd σ α tx tl)) (10, [some (.retAddr 7), some (.ref 20), some (.int (nI p)), some (.int (nI e)), some (.int (nI j))], []) (ae_rd σ α tx tl) := by
  refine aw_go 2 rfl ⟨trivial, trivial, trivial⟩ ?_
  refine aw_callE rfl rfl (ev_length_7) ?_
  show aw_W _ _ _ _ (13, [some (.retAddr 7), some (.ref 20), some (.int (nI p)), some (.int (nI e)), some (.int (nI j))], [.int 4, .int (nI j)]) (ae_rd σ α tx tl)
  refine aw_go 1 rfl ⟨trivial, trivial⟩ ?_
  refine aw_br (c := (4 : Int32) ≤ (nI j)) (fun h13 => ?_) (fun h13 => ?_)
  · skip
    have h13 := cI_leT (a := 4) (b := j) rfl rfl (by omega) (by omega) h13
    show aw_W _ _ _ _ (27, [some (.retAddr 7), some (.ref 20), some (.int (nI p)), some (.int (nI e)), some (.int (nI j))], []) (ae_rd σ α tx tl)
    refine aw_go 1 rfl ⟨trivial, trivial⟩ ?_
    refine aw_ret rfl rfl (by first | exact Or.inl rfl | exact Or.inr rfl | exact bI_b _) ?_
    refine ⟨?_, rfl⟩
    exact congrArg (fun q => some (Value.int q)) (bI_1 ⟨h5, fun i hi => hI i (Nat.lt_of_lt_of_le hi h13)⟩)
  · skip
    have h13 := cI_leF (a := 4) (b := j) rfl rfl (by omega) (by omega) h13
    show aw_W _ _ _ _ (14, [some (.retAddr 7), some (.ref 20), some (.int (nI p)), some (.int (nI e)), some (.int (nI j))], []) (ae_rd σ α tx tl)
    refine aw_go 7 rfl ⟨trivial, trivial, trivial, trivial, (cI_in (a := p + j) (cI_add (a := p) (b := j) rfl rfl) (by omega) (by decide)), trivial, trivial, trivial⟩ ?_
    show aw_W _ _ _ _ (21, [some (.retAddr 7), some (.ref 20), some (.int (nI p)), some (.int (nI e)), some (.int (nI j))], [.int (nI j), .retAddr 7, .int (α 16 ((nI p) + (nI j)).toNatClampNeg)]) (ae_rd σ α tx tl)
    rw [show ((nI p) + (nI j)).toNatClampNeg = p + j from cI_cl (a := p + j) (cI_add (a := p) (b := j) rfl rfl) (by omega)]
    refine aw_callE rfl rfl (ev_charAt_7 (j := j) hz h13) ?_
    show aw_W _ _ _ _ (22, [some (.retAddr 7), some (.ref 20), some (.int (nI p)), some (.int (nI e)), some (.int (nI j))], [.int (bS 7 j), .int (α 16 (p + j))]) (ae_rd σ α tx tl)
    refine aw_go 1 rfl ⟨trivial, trivial⟩ ?_
    refine aw_br (c := (α 16 (p + j)) = (bS 7 j)) (fun h22 => ?_) (fun h22 => ?_)
    · skip
      show aw_W _ _ _ _ (25, [some (.retAddr 7), some (.ref 20), some (.int (nI p)), some (.int (nI e)), some (.int (nI j))], []) (ae_rd σ α tx tl)
      refine aw_go 2 rfl ⟨trivial, trivial, trivial⟩ ?_
      show aw_W _ _ _ _ (10, [some (.retAddr 7), some (.ref 20), some (.int (nI p)), some (.int (nI e)), some (.int ((nI j) + 1))], []) (ae_rd σ α tx tl)
      rw [show (nI j) + 1 = nI (j + 1) from (cI_add (a := j) (b := 1) rfl rfl)]
      exact lp_isWord_7 hz hp he h5 (j + 1) h13 (fun i hi => by
        by_cases q : i = j
        · rw [q]; exact h22
        · exact hI i (by omega))
    · skip
      show aw_W _ _ _ _ (23, [some (.retAddr 7), some (.ref 20), some (.int (nI p)), some (.int (nI e)), some (.int (nI j))], []) (ae_rd σ α tx tl)
      refine aw_go 1 rfl ⟨trivial, trivial⟩ ?_
      refine aw_ret rfl rfl (by first | exact Or.inl rfl | exact Or.inr rfl | exact bI_b _) ?_
      refine ⟨?_, rfl⟩
      exact congrArg (fun q => some (Value.int q)) (bI_0 (fun q => h22 (q.2 j h13)))
termination_by 4 - j
decreasing_by all_goals omega
theorem ev_isWord_7 {p e : Nat} {zd : Nat} (hz : P.2.2 = .null ∨ P.2.2 = .retAddr 700) (hp : p ≤ e) (he : e ≤ 160) : ae_Ev P (zd + 5) 101 [.retAddr 7, .ref 20, .int (nI p), .int (nI e)] (ae_rd σ α tx tl) (some (.int (bI (wMp (α 16) p (e - p) 7)))) (ae_rd σ α tx tl) := by
  refine aw_evE (cd := cd_Token_isWord) rfl rfl rfl ?_
  show aw_W _ _ _ _ (0, [some (.retAddr 7), some (.ref 20), some (.int (nI p)), some (.int (nI e)), none], []) (ae_rd σ α tx tl)
  refine aw_go 4 rfl ⟨trivial, trivial, trivial, trivial, trivial⟩ ?_
  show aw_W _ _ _ _ (4, [some (.retAddr 7), some (.ref 20), some (.int (nI p)), some (.int (nI e)), none], [.retAddr 7, .int ((nI e) - (nI p))]) (ae_rd σ α tx tl)
  rw [show (nI e) - (nI p) = nI (e - p) from (cI_sub (a := e) (b := p) rfl rfl (by omega))]
  refine aw_callE rfl rfl (ev_length_7) ?_
  show aw_W _ _ _ _ (5, [some (.retAddr 7), some (.ref 20), some (.int (nI p)), some (.int (nI e)), none], [.int 4, .int (nI (e - p))]) (ae_rd σ α tx tl)
  refine aw_go 1 rfl ⟨trivial, trivial⟩ ?_
  refine aw_br (c := (nI (e - p)) = 4) (fun h5 => ?_) (fun h5 => ?_)
  · skip
    have h5 := cI_eqT (a := e - p) (b := 4) rfl rfl (by omega) (by omega) h5
    show aw_W _ _ _ _ (8, [some (.retAddr 7), some (.ref 20), some (.int (nI p)), some (.int (nI e)), none], []) (ae_rd σ α tx tl)
    refine aw_go 2 rfl ⟨trivial, trivial, trivial⟩ ?_
    exact lp_isWord_7 hz hp he h5 0 (Nat.zero_le _) (fun i hi => absurd hi (Nat.not_lt_zero i))
  · skip
    have h5 := cI_eqF (a := e - p) (b := 4) rfl rfl (by omega) (by omega) h5
    show aw_W _ _ _ _ (6, [some (.retAddr 7), some (.ref 20), some (.int (nI p)), some (.int (nI e)), none], []) (ae_rd σ α tx tl)
    refine aw_go 1 rfl ⟨trivial, trivial⟩ ?_
    refine aw_ret rfl rfl (by first | exact Or.inl rfl | exact Or.inr rfl | exact bI_b _) ?_
    refine ⟨?_, rfl⟩
    exact congrArg (fun q => some (Value.int q)) (bI_0 (fun q => h5 q.1))
theorem lp_isWord_8 {zd : Nat} {p e : Nat} (hz : P.2.2 = .null ∨ P.2.2 = .retAddr 700) (hp : p ≤ e) (he : e ≤ 160) (h5 : e - p = 4) (j : Nat) (hj : j ≤ 4) (hI : ∀ i, i < j → (α 16) (p + i) = bS 8 i) : aw_W P (zd + 4) cd_Token_isWord (fun r H => r = some (.int (bI (wMp (α 16) p (e - p) 8))) ∧ H = (ae_rd σ α tx tl)) (10, [some (.retAddr 8), some (.ref 20), some (.int (nI p)), some (.int (nI e)), some (.int (nI j))], []) (ae_rd σ α tx tl) := by
  refine aw_go 2 rfl ⟨trivial, trivial, trivial⟩ ?_
  refine aw_callE rfl rfl (ev_length_8) ?_
  show aw_W _ _ _ _ (13, [some (.retAddr 8), some (.ref 20), some (.int (nI p)), some (.int (nI e)), some (.int (nI j))], [.int 4, .int (nI j)]) (ae_rd σ α tx tl)
  refine aw_go 1 rfl ⟨trivial, trivial⟩ ?_
  refine aw_br (c := (4 : Int32) ≤ (nI j)) (fun h13 => ?_) (fun h13 => ?_)
  · skip
    have h13 := cI_leT (a := 4) (b := j) rfl rfl (by omega) (by omega) h13
    show aw_W _ _ _ _ (27, [some (.retAddr 8), some (.ref 20), some (.int (nI p)), some (.int (nI e)), some (.int (nI j))], []) (ae_rd σ α tx tl)
    refine aw_go 1 rfl ⟨trivial, trivial⟩ ?_
    refine aw_ret rfl rfl (by first | exact Or.inl rfl | exact Or.inr rfl | exact bI_b _) ?_
    refine ⟨?_, rfl⟩
    exact congrArg (fun q => some (Value.int q)) (bI_1 ⟨h5, fun i hi => hI i (Nat.lt_of_lt_of_le hi h13)⟩)
  · skip
    have h13 := cI_leF (a := 4) (b := j) rfl rfl (by omega) (by omega) h13
    show aw_W _ _ _ _ (14, [some (.retAddr 8), some (.ref 20), some (.int (nI p)), some (.int (nI e)), some (.int (nI j))], []) (ae_rd σ α tx tl)
    refine aw_go 7 rfl ⟨trivial, trivial, trivial, trivial, (cI_in (a := p + j) (cI_add (a := p) (b := j) rfl rfl) (by omega) (by decide)), trivial, trivial, trivial⟩ ?_
    show aw_W _ _ _ _ (21, [some (.retAddr 8), some (.ref 20), some (.int (nI p)), some (.int (nI e)), some (.int (nI j))], [.int (nI j), .retAddr 8, .int (α 16 ((nI p) + (nI j)).toNatClampNeg)]) (ae_rd σ α tx tl)
    rw [show ((nI p) + (nI j)).toNatClampNeg = p + j from cI_cl (a := p + j) (cI_add (a := p) (b := j) rfl rfl) (by omega)]
    refine aw_callE rfl rfl (ev_charAt_8 (j := j) hz h13) ?_
    show aw_W _ _ _ _ (22, [some (.retAddr 8), some (.ref 20), some (.int (nI p)), some (.int (nI e)), some (.int (nI j))], [.int (bS 8 j), .int (α 16 (p + j))]) (ae_rd σ α tx tl)
    refine aw_go 1 rfl ⟨trivial, trivial⟩ ?_
    refine aw_br (c := (α 16 (p + j)) = (bS 8 j)) (fun h22 => ?_) (fun h22 => ?_)
    · skip
      show aw_W _ _ _ _ (25, [some (.retAddr 8), some (.ref 20), some (.int (nI p)), some (.int (nI e)), some (.int (nI j))], []) (ae_rd σ α tx tl)
      refine aw_go 2 rfl ⟨trivial, trivial, trivial⟩ ?_
      show aw_W _ _ _ _ (10, [some (.retAddr 8), some (.ref 20), some (.int (nI p)), some (.int (nI e)), some (.int ((nI j) + 1))], []) (ae_rd σ α tx tl)
      rw [show (nI j) + 1 = nI (j + 1) from (cI_add (a := j) (b := 1) rfl rfl)]
      exact lp_isWord_8 hz hp he h5 (j + 1) h13 (fun i hi => by
        by_cases q : i = j
        · rw [q]; exact h22
        · exact hI i (by omega))
    · skip
      show aw_W _ _ _ _ (23, [some (.retAddr 8), some (.ref 20), some (.int (nI p)), some (.int (nI e)), some (.int (nI j))], []) (ae_rd σ α tx tl)
      refine aw_go 1 rfl ⟨trivial, trivial⟩ ?_
      refine aw_ret rfl rfl (by first | exact Or.inl rfl | exact Or.inr rfl | exact bI_b _) ?_
      refine ⟨?_, rfl⟩
      exact congrArg (fun q => some (Value.int q)) (bI_0 (fun q => h22 (q.2 j h13)))
termination_by 4 - j
decreasing_by all_goals omega
theorem ev_isWord_8 {p e : Nat} {zd : Nat} (hz : P.2.2 = .null ∨ P.2.2 = .retAddr 700) (hp : p ≤ e) (he : e ≤ 160) : ae_Ev P (zd + 5) 101 [.retAddr 8, .ref 20, .int (nI p), .int (nI e)] (ae_rd σ α tx tl) (some (.int (bI (wMp (α 16) p (e - p) 8)))) (ae_rd σ α tx tl) := by
  refine aw_evE (cd := cd_Token_isWord) rfl rfl rfl ?_
  show aw_W _ _ _ _ (0, [some (.retAddr 8), some (.ref 20), some (.int (nI p)), some (.int (nI e)), none], []) (ae_rd σ α tx tl)
  refine aw_go 4 rfl ⟨trivial, trivial, trivial, trivial, trivial⟩ ?_
  show aw_W _ _ _ _ (4, [some (.retAddr 8), some (.ref 20), some (.int (nI p)), some (.int (nI e)), none], [.retAddr 8, .int ((nI e) - (nI p))]) (ae_rd σ α tx tl)
  rw [show (nI e) - (nI p) = nI (e - p) from (cI_sub (a := e) (b := p) rfl rfl (by omega))]
  refine aw_callE rfl rfl (ev_length_8) ?_
  show aw_W _ _ _ _ (5, [some (.retAddr 8), some (.ref 20), some (.int (nI p)), some (.int (nI e)), none], [.int 4, .int (nI (e - p))]) (ae_rd σ α tx tl)
  refine aw_go 1 rfl ⟨trivial, trivial⟩ ?_
  refine aw_br (c := (nI (e - p)) = 4) (fun h5 => ?_) (fun h5 => ?_)
  · skip
    have h5 := cI_eqT (a := e - p) (b := 4) rfl rfl (by omega) (by omega) h5
    show aw_W _ _ _ _ (8, [some (.retAddr 8), some (.ref 20), some (.int (nI p)), some (.int (nI e)), none], []) (ae_rd σ α tx tl)
    refine aw_go 2 rfl ⟨trivial, trivial, trivial⟩ ?_
    exact lp_isWord_8 hz hp he h5 0 (Nat.zero_le _) (fun i hi => absurd hi (Nat.not_lt_zero i))
  · skip
    have h5 := cI_eqF (a := e - p) (b := 4) rfl rfl (by omega) (by omega) h5
    show aw_W _ _ _ _ (6, [some (.retAddr 8), some (.ref 20), some (.int (nI p)), some (.int (nI e)), none], []) (ae_rd σ α tx tl)
    refine aw_go 1 rfl ⟨trivial, trivial⟩ ?_
    refine aw_ret rfl rfl (by first | exact Or.inl rfl | exact Or.inr rfl | exact bI_b _) ?_
    refine ⟨?_, rfl⟩
    exact congrArg (fun q => some (Value.int q)) (bI_0 (fun q => h5 q.1))
theorem lp_isWord_9 {zd : Nat} {p e : Nat} (hz : P.2.2 = .null ∨ P.2.2 = .retAddr 700) (hp : p ≤ e) (he : e ≤ 160) (h5 : e - p = 5) (j : Nat) (hj : j ≤ 5) (hI : ∀ i, i < j → (α 16) (p + i) = bS 9 i) : aw_W P (zd + 4) cd_Token_isWord (fun r H => r = some (.int (bI (wMp (α 16) p (e - p) 9))) ∧ H = (ae_rd σ α tx tl)) (10, [some (.retAddr 9), some (.ref 20), some (.int (nI p)), some (.int (nI e)), some (.int (nI j))], []) (ae_rd σ α tx tl) := by
  refine aw_go 2 rfl ⟨trivial, trivial, trivial⟩ ?_
  refine aw_callE rfl rfl (ev_length_9) ?_
  show aw_W _ _ _ _ (13, [some (.retAddr 9), some (.ref 20), some (.int (nI p)), some (.int (nI e)), some (.int (nI j))], [.int 5, .int (nI j)]) (ae_rd σ α tx tl)
  refine aw_go 1 rfl ⟨trivial, trivial⟩ ?_
  refine aw_br (c := (5 : Int32) ≤ (nI j)) (fun h13 => ?_) (fun h13 => ?_)
  · skip
    have h13 := cI_leT (a := 5) (b := j) rfl rfl (by omega) (by omega) h13
    show aw_W _ _ _ _ (27, [some (.retAddr 9), some (.ref 20), some (.int (nI p)), some (.int (nI e)), some (.int (nI j))], []) (ae_rd σ α tx tl)
    refine aw_go 1 rfl ⟨trivial, trivial⟩ ?_
    refine aw_ret rfl rfl (by first | exact Or.inl rfl | exact Or.inr rfl | exact bI_b _) ?_
    refine ⟨?_, rfl⟩
    exact congrArg (fun q => some (Value.int q)) (bI_1 ⟨h5, fun i hi => hI i (Nat.lt_of_lt_of_le hi h13)⟩)
  · skip
    have h13 := cI_leF (a := 5) (b := j) rfl rfl (by omega) (by omega) h13
    show aw_W _ _ _ _ (14, [some (.retAddr 9), some (.ref 20), some (.int (nI p)), some (.int (nI e)), some (.int (nI j))], []) (ae_rd σ α tx tl)
    refine aw_go 7 rfl ⟨trivial, trivial, trivial, trivial, (cI_in (a := p + j) (cI_add (a := p) (b := j) rfl rfl) (by omega) (by decide)), trivial, trivial, trivial⟩ ?_
    show aw_W _ _ _ _ (21, [some (.retAddr 9), some (.ref 20), some (.int (nI p)), some (.int (nI e)), some (.int (nI j))], [.int (nI j), .retAddr 9, .int (α 16 ((nI p) + (nI j)).toNatClampNeg)]) (ae_rd σ α tx tl)
    rw [show ((nI p) + (nI j)).toNatClampNeg = p + j from cI_cl (a := p + j) (cI_add (a := p) (b := j) rfl rfl) (by omega)]
    refine aw_callE rfl rfl (ev_charAt_9 (j := j) hz h13) ?_
    show aw_W _ _ _ _ (22, [some (.retAddr 9), some (.ref 20), some (.int (nI p)), some (.int (nI e)), some (.int (nI j))], [.int (bS 9 j), .int (α 16 (p + j))]) (ae_rd σ α tx tl)
    refine aw_go 1 rfl ⟨trivial, trivial⟩ ?_
    refine aw_br (c := (α 16 (p + j)) = (bS 9 j)) (fun h22 => ?_) (fun h22 => ?_)
    · skip
      show aw_W _ _ _ _ (25, [some (.retAddr 9), some (.ref 20), some (.int (nI p)), some (.int (nI e)), some (.int (nI j))], []) (ae_rd σ α tx tl)
      refine aw_go 2 rfl ⟨trivial, trivial, trivial⟩ ?_
      show aw_W _ _ _ _ (10, [some (.retAddr 9), some (.ref 20), some (.int (nI p)), some (.int (nI e)), some (.int ((nI j) + 1))], []) (ae_rd σ α tx tl)
      rw [show (nI j) + 1 = nI (j + 1) from (cI_add (a := j) (b := 1) rfl rfl)]
      exact lp_isWord_9 hz hp he h5 (j + 1) h13 (fun i hi => by
        by_cases q : i = j
        · rw [q]; exact h22
        · exact hI i (by omega))
    · skip
      show aw_W _ _ _ _ (23, [some (.retAddr 9), some (.ref 20), some (.int (nI p)), some (.int (nI e)), some (.int (nI j))], []) (ae_rd σ α tx tl)
      refine aw_go 1 rfl ⟨trivial, trivial⟩ ?_
      refine aw_ret rfl rfl (by first | exact Or.inl rfl | exact Or.inr rfl | exact bI_b _) ?_
      refine ⟨?_, rfl⟩
      exact congrArg (fun q => some (Value.int q)) (bI_0 (fun q => h22 (q.2 j h13)))
termination_by 5 - j
decreasing_by all_goals omega
theorem ev_isWord_9 {p e : Nat} {zd : Nat} (hz : P.2.2 = .null ∨ P.2.2 = .retAddr 700) (hp : p ≤ e) (he : e ≤ 160) : ae_Ev P (zd + 5) 101 [.retAddr 9, .ref 20, .int (nI p), .int (nI e)] (ae_rd σ α tx tl) (some (.int (bI (wMp (α 16) p (e - p) 9)))) (ae_rd σ α tx tl) := by
  refine aw_evE (cd := cd_Token_isWord) rfl rfl rfl ?_
  show aw_W _ _ _ _ (0, [some (.retAddr 9), some (.ref 20), some (.int (nI p)), some (.int (nI e)), none], []) (ae_rd σ α tx tl)
  refine aw_go 4 rfl ⟨trivial, trivial, trivial, trivial, trivial⟩ ?_
  show aw_W _ _ _ _ (4, [some (.retAddr 9), some (.ref 20), some (.int (nI p)), some (.int (nI e)), none], [.retAddr 9, .int ((nI e) - (nI p))]) (ae_rd σ α tx tl)
  rw [show (nI e) - (nI p) = nI (e - p) from (cI_sub (a := e) (b := p) rfl rfl (by omega))]
  refine aw_callE rfl rfl (ev_length_9) ?_
  show aw_W _ _ _ _ (5, [some (.retAddr 9), some (.ref 20), some (.int (nI p)), some (.int (nI e)), none], [.int 5, .int (nI (e - p))]) (ae_rd σ α tx tl)
  refine aw_go 1 rfl ⟨trivial, trivial⟩ ?_
  refine aw_br (c := (nI (e - p)) = 5) (fun h5 => ?_) (fun h5 => ?_)
  · skip
    have h5 := cI_eqT (a := e - p) (b := 5) rfl rfl (by omega) (by omega) h5
    show aw_W _ _ _ _ (8, [some (.retAddr 9), some (.ref 20), some (.int (nI p)), some (.int (nI e)), none], []) (ae_rd σ α tx tl)
    refine aw_go 2 rfl ⟨trivial, trivial, trivial⟩ ?_
    exact lp_isWord_9 hz hp he h5 0 (Nat.zero_le _) (fun i hi => absurd hi (Nat.not_lt_zero i))
  · skip
    have h5 := cI_eqF (a := e - p) (b := 5) rfl rfl (by omega) (by omega) h5
    show aw_W _ _ _ _ (6, [some (.retAddr 9), some (.ref 20), some (.int (nI p)), some (.int (nI e)), none], []) (ae_rd σ α tx tl)
    refine aw_go 1 rfl ⟨trivial, trivial⟩ ?_
    refine aw_ret rfl rfl (by first | exact Or.inl rfl | exact Or.inr rfl | exact bI_b _) ?_
    refine ⟨?_, rfl⟩
    exact congrArg (fun q => some (Value.int q)) (bI_0 (fun q => h5 q.1))
theorem lp_isWord_10 {zd : Nat} {p e : Nat} (hz : P.2.2 = .null ∨ P.2.2 = .retAddr 700) (hp : p ≤ e) (he : e ≤ 160) (h5 : e - p = 2) (j : Nat) (hj : j ≤ 2) (hI : ∀ i, i < j → (α 16) (p + i) = bS 10 i) : aw_W P (zd + 4) cd_Token_isWord (fun r H => r = some (.int (bI (wMp (α 16) p (e - p) 10))) ∧ H = (ae_rd σ α tx tl)) (10, [some (.retAddr 10), some (.ref 20), some (.int (nI p)), some (.int (nI e)), some (.int (nI j))], []) (ae_rd σ α tx tl) := by
  refine aw_go 2 rfl ⟨trivial, trivial, trivial⟩ ?_
  refine aw_callE rfl rfl (ev_length_10) ?_
  show aw_W _ _ _ _ (13, [some (.retAddr 10), some (.ref 20), some (.int (nI p)), some (.int (nI e)), some (.int (nI j))], [.int 2, .int (nI j)]) (ae_rd σ α tx tl)
  refine aw_go 1 rfl ⟨trivial, trivial⟩ ?_
  refine aw_br (c := (2 : Int32) ≤ (nI j)) (fun h13 => ?_) (fun h13 => ?_)
  · skip
    have h13 := cI_leT (a := 2) (b := j) rfl rfl (by omega) (by omega) h13
    show aw_W _ _ _ _ (27, [some (.retAddr 10), some (.ref 20), some (.int (nI p)), some (.int (nI e)), some (.int (nI j))], []) (ae_rd σ α tx tl)
    refine aw_go 1 rfl ⟨trivial, trivial⟩ ?_
    refine aw_ret rfl rfl (by first | exact Or.inl rfl | exact Or.inr rfl | exact bI_b _) ?_
    refine ⟨?_, rfl⟩
    exact congrArg (fun q => some (Value.int q)) (bI_1 ⟨h5, fun i hi => hI i (Nat.lt_of_lt_of_le hi h13)⟩)
  · skip
    have h13 := cI_leF (a := 2) (b := j) rfl rfl (by omega) (by omega) h13
    show aw_W _ _ _ _ (14, [some (.retAddr 10), some (.ref 20), some (.int (nI p)), some (.int (nI e)), some (.int (nI j))], []) (ae_rd σ α tx tl)
    refine aw_go 7 rfl ⟨trivial, trivial, trivial, trivial, (cI_in (a := p + j) (cI_add (a := p) (b := j) rfl rfl) (by omega) (by decide)), trivial, trivial, trivial⟩ ?_
    show aw_W _ _ _ _ (21, [some (.retAddr 10), some (.ref 20), some (.int (nI p)), some (.int (nI e)), some (.int (nI j))], [.int (nI j), .retAddr 10, .int (α 16 ((nI p) + (nI j)).toNatClampNeg)]) (ae_rd σ α tx tl)
    rw [show ((nI p) + (nI j)).toNatClampNeg = p + j from cI_cl (a := p + j) (cI_add (a := p) (b := j) rfl rfl) (by omega)]
    refine aw_callE rfl rfl (ev_charAt_10 (j := j) hz h13) ?_
    show aw_W _ _ _ _ (22, [some (.retAddr 10), some (.ref 20), some (.int (nI p)), some (.int (nI e)), some (.int (nI j))], [.int (bS 10 j), .int (α 16 (p + j))]) (ae_rd σ α tx tl)
    refine aw_go 1 rfl ⟨trivial, trivial⟩ ?_
    refine aw_br (c := (α 16 (p + j)) = (bS 10 j)) (fun h22 => ?_) (fun h22 => ?_)
    · skip
      show aw_W _ _ _ _ (25, [some (.retAddr 10), some (.ref 20), some (.int (nI p)), some (.int (nI e)), some (.int (nI j))], []) (ae_rd σ α tx tl)
      refine aw_go 2 rfl ⟨trivial, trivial, trivial⟩ ?_
      show aw_W _ _ _ _ (10, [some (.retAddr 10), some (.ref 20), some (.int (nI p)), some (.int (nI e)), some (.int ((nI j) + 1))], []) (ae_rd σ α tx tl)
      rw [show (nI j) + 1 = nI (j + 1) from (cI_add (a := j) (b := 1) rfl rfl)]
      exact lp_isWord_10 hz hp he h5 (j + 1) h13 (fun i hi => by
        by_cases q : i = j
        · rw [q]; exact h22
        · exact hI i (by omega))
    · skip
      show aw_W _ _ _ _ (23, [some (.retAddr 10), some (.ref 20), some (.int (nI p)), some (.int (nI e)), some (.int (nI j))], []) (ae_rd σ α tx tl)
      refine aw_go 1 rfl ⟨trivial, trivial⟩ ?_
      refine aw_ret rfl rfl (by first | exact Or.inl rfl | exact Or.inr rfl | exact bI_b _) ?_
      refine ⟨?_, rfl⟩
      exact congrArg (fun q => some (Value.int q)) (bI_0 (fun q => h22 (q.2 j h13)))
termination_by 2 - j
decreasing_by all_goals omega
theorem ev_isWord_10 {p e : Nat} {zd : Nat} (hz : P.2.2 = .null ∨ P.2.2 = .retAddr 700) (hp : p ≤ e) (he : e ≤ 160) : ae_Ev P (zd + 5) 101 [.retAddr 10, .ref 20, .int (nI p), .int (nI e)] (ae_rd σ α tx tl) (some (.int (bI (wMp (α 16) p (e - p) 10)))) (ae_rd σ α tx tl) := by
  refine aw_evE (cd := cd_Token_isWord) rfl rfl rfl ?_
  show aw_W _ _ _ _ (0, [some (.retAddr 10), some (.ref 20), some (.int (nI p)), some (.int (nI e)), none], []) (ae_rd σ α tx tl)
  refine aw_go 4 rfl ⟨trivial, trivial, trivial, trivial, trivial⟩ ?_
  show aw_W _ _ _ _ (4, [some (.retAddr 10), some (.ref 20), some (.int (nI p)), some (.int (nI e)), none], [.retAddr 10, .int ((nI e) - (nI p))]) (ae_rd σ α tx tl)
  rw [show (nI e) - (nI p) = nI (e - p) from (cI_sub (a := e) (b := p) rfl rfl (by omega))]
  refine aw_callE rfl rfl (ev_length_10) ?_
  show aw_W _ _ _ _ (5, [some (.retAddr 10), some (.ref 20), some (.int (nI p)), some (.int (nI e)), none], [.int 2, .int (nI (e - p))]) (ae_rd σ α tx tl)
  refine aw_go 1 rfl ⟨trivial, trivial⟩ ?_
  refine aw_br (c := (nI (e - p)) = 2) (fun h5 => ?_) (fun h5 => ?_)
  · skip
    have h5 := cI_eqT (a := e - p) (b := 2) rfl rfl (by omega) (by omega) h5
    show aw_W _ _ _ _ (8, [some (.retAddr 10), some (.ref 20), some (.int (nI p)), some (.int (nI e)), none], []) (ae_rd σ α tx tl)
    refine aw_go 2 rfl ⟨trivial, trivial, trivial⟩ ?_
    exact lp_isWord_10 hz hp he h5 0 (Nat.zero_le _) (fun i hi => absurd hi (Nat.not_lt_zero i))
  · skip
    have h5 := cI_eqF (a := e - p) (b := 2) rfl rfl (by omega) (by omega) h5
    show aw_W _ _ _ _ (6, [some (.retAddr 10), some (.ref 20), some (.int (nI p)), some (.int (nI e)), none], []) (ae_rd σ α tx tl)
    refine aw_go 1 rfl ⟨trivial, trivial⟩ ?_
    refine aw_ret rfl rfl (by first | exact Or.inl rfl | exact Or.inr rfl | exact bI_b _) ?_
    refine ⟨?_, rfl⟩
    exact congrArg (fun q => some (Value.int q)) (bI_0 (fun q => h5 q.1))
theorem lp_isWord_11 {zd : Nat} {p e : Nat} (hz : P.2.2 = .null ∨ P.2.2 = .retAddr 700) (hp : p ≤ e) (he : e ≤ 160) (h5 : e - p = 3) (j : Nat) (hj : j ≤ 3) (hI : ∀ i, i < j → (α 16) (p + i) = bS 11 i) : aw_W P (zd + 4) cd_Token_isWord (fun r H => r = some (.int (bI (wMp (α 16) p (e - p) 11))) ∧ H = (ae_rd σ α tx tl)) (10, [some (.retAddr 11), some (.ref 20), some (.int (nI p)), some (.int (nI e)), some (.int (nI j))], []) (ae_rd σ α tx tl) := by
  refine aw_go 2 rfl ⟨trivial, trivial, trivial⟩ ?_
  refine aw_callE rfl rfl (ev_length_11) ?_
  show aw_W _ _ _ _ (13, [some (.retAddr 11), some (.ref 20), some (.int (nI p)), some (.int (nI e)), some (.int (nI j))], [.int 3, .int (nI j)]) (ae_rd σ α tx tl)
  refine aw_go 1 rfl ⟨trivial, trivial⟩ ?_
  refine aw_br (c := (3 : Int32) ≤ (nI j)) (fun h13 => ?_) (fun h13 => ?_)
  · skip
    have h13 := cI_leT (a := 3) (b := j) rfl rfl (by omega) (by omega) h13
    show aw_W _ _ _ _ (27, [some (.retAddr 11), some (.ref 20), some (.int (nI p)), some (.int (nI e)), some (.int (nI j))], []) (ae_rd σ α tx tl)
    refine aw_go 1 rfl ⟨trivial, trivial⟩ ?_
    refine aw_ret rfl rfl (by first | exact Or.inl rfl | exact Or.inr rfl | exact bI_b _) ?_
    refine ⟨?_, rfl⟩
    exact congrArg (fun q => some (Value.int q)) (bI_1 ⟨h5, fun i hi => hI i (Nat.lt_of_lt_of_le hi h13)⟩)
  · skip
    have h13 := cI_leF (a := 3) (b := j) rfl rfl (by omega) (by omega) h13
    show aw_W _ _ _ _ (14, [some (.retAddr 11), some (.ref 20), some (.int (nI p)), some (.int (nI e)), some (.int (nI j))], []) (ae_rd σ α tx tl)
    refine aw_go 7 rfl ⟨trivial, trivial, trivial, trivial, (cI_in (a := p + j) (cI_add (a := p) (b := j) rfl rfl) (by omega) (by decide)), trivial, trivial, trivial⟩ ?_
    show aw_W _ _ _ _ (21, [some (.retAddr 11), some (.ref 20), some (.int (nI p)), some (.int (nI e)), some (.int (nI j))], [.int (nI j), .retAddr 11, .int (α 16 ((nI p) + (nI j)).toNatClampNeg)]) (ae_rd σ α tx tl)
    rw [show ((nI p) + (nI j)).toNatClampNeg = p + j from cI_cl (a := p + j) (cI_add (a := p) (b := j) rfl rfl) (by omega)]
    refine aw_callE rfl rfl (ev_charAt_11 (j := j) hz h13) ?_
    show aw_W _ _ _ _ (22, [some (.retAddr 11), some (.ref 20), some (.int (nI p)), some (.int (nI e)), some (.int (nI j))], [.int (bS 11 j), .int (α 16 (p + j))]) (ae_rd σ α tx tl)
    refine aw_go 1 rfl ⟨trivial, trivial⟩ ?_
    refine aw_br (c := (α 16 (p + j)) = (bS 11 j)) (fun h22 => ?_) (fun h22 => ?_)
    · skip
      show aw_W _ _ _ _ (25, [some (.retAddr 11), some (.ref 20), some (.int (nI p)), some (.int (nI e)), some (.int (nI j))], []) (ae_rd σ α tx tl)
      refine aw_go 2 rfl ⟨trivial, trivial, trivial⟩ ?_
      show aw_W _ _ _ _ (10, [some (.retAddr 11), some (.ref 20), some (.int (nI p)), some (.int (nI e)), some (.int ((nI j) + 1))], []) (ae_rd σ α tx tl)
      rw [show (nI j) + 1 = nI (j + 1) from (cI_add (a := j) (b := 1) rfl rfl)]
      exact lp_isWord_11 hz hp he h5 (j + 1) h13 (fun i hi => by
        by_cases q : i = j
        · rw [q]; exact h22
        · exact hI i (by omega))
    · skip
      show aw_W _ _ _ _ (23, [some (.retAddr 11), some (.ref 20), some (.int (nI p)), some (.int (nI e)), some (.int (nI j))], []) (ae_rd σ α tx tl)
      refine aw_go 1 rfl ⟨trivial, trivial⟩ ?_
      refine aw_ret rfl rfl (by first | exact Or.inl rfl | exact Or.inr rfl | exact bI_b _) ?_
      refine ⟨?_, rfl⟩
      exact congrArg (fun q => some (Value.int q)) (bI_0 (fun q => h22 (q.2 j h13)))
termination_by 3 - j
decreasing_by all_goals omega
theorem ev_isWord_11 {p e : Nat} {zd : Nat} (hz : P.2.2 = .null ∨ P.2.2 = .retAddr 700) (hp : p ≤ e) (he : e ≤ 160) : ae_Ev P (zd + 5) 101 [.retAddr 11, .ref 20, .int (nI p), .int (nI e)] (ae_rd σ α tx tl) (some (.int (bI (wMp (α 16) p (e - p) 11)))) (ae_rd σ α tx tl) := by
  refine aw_evE (cd := cd_Token_isWord) rfl rfl rfl ?_
  show aw_W _ _ _ _ (0, [some (.retAddr 11), some (.ref 20), some (.int (nI p)), some (.int (nI e)), none], []) (ae_rd σ α tx tl)
  refine aw_go 4 rfl ⟨trivial, trivial, trivial, trivial, trivial⟩ ?_
  show aw_W _ _ _ _ (4, [some (.retAddr 11), some (.ref 20), some (.int (nI p)), some (.int (nI e)), none], [.retAddr 11, .int ((nI e) - (nI p))]) (ae_rd σ α tx tl)
  rw [show (nI e) - (nI p) = nI (e - p) from (cI_sub (a := e) (b := p) rfl rfl (by omega))]
  refine aw_callE rfl rfl (ev_length_11) ?_
  show aw_W _ _ _ _ (5, [some (.retAddr 11), some (.ref 20), some (.int (nI p)), some (.int (nI e)), none], [.int 3, .int (nI (e - p))]) (ae_rd σ α tx tl)
  refine aw_go 1 rfl ⟨trivial, trivial⟩ ?_
  refine aw_br (c := (nI (e - p)) = 3) (fun h5 => ?_) (fun h5 => ?_)
  · skip
    have h5 := cI_eqT (a := e - p) (b := 3) rfl rfl (by omega) (by omega) h5
    show aw_W _ _ _ _ (8, [some (.retAddr 11), some (.ref 20), some (.int (nI p)), some (.int (nI e)), none], []) (ae_rd σ α tx tl)
    refine aw_go 2 rfl ⟨trivial, trivial, trivial⟩ ?_
    exact lp_isWord_11 hz hp he h5 0 (Nat.zero_le _) (fun i hi => absurd hi (Nat.not_lt_zero i))
  · skip
    have h5 := cI_eqF (a := e - p) (b := 3) rfl rfl (by omega) (by omega) h5
    show aw_W _ _ _ _ (6, [some (.retAddr 11), some (.ref 20), some (.int (nI p)), some (.int (nI e)), none], []) (ae_rd σ α tx tl)
    refine aw_go 1 rfl ⟨trivial, trivial⟩ ?_
    refine aw_ret rfl rfl (by first | exact Or.inl rfl | exact Or.inr rfl | exact bI_b _) ?_
    refine ⟨?_, rfl⟩
    exact congrArg (fun q => some (Value.int q)) (bI_0 (fun q => h5 q.1))
theorem lp_isWord_12 {zd : Nat} {p e : Nat} (hz : P.2.2 = .null ∨ P.2.2 = .retAddr 700) (hp : p ≤ e) (he : e ≤ 160) (h5 : e - p = 3) (j : Nat) (hj : j ≤ 3) (hI : ∀ i, i < j → (α 16) (p + i) = bS 12 i) : aw_W P (zd + 4) cd_Token_isWord (fun r H => r = some (.int (bI (wMp (α 16) p (e - p) 12))) ∧ H = (ae_rd σ α tx tl)) (10, [some (.retAddr 12), some (.ref 20), some (.int (nI p)), some (.int (nI e)), some (.int (nI j))], []) (ae_rd σ α tx tl) := by
  refine aw_go 2 rfl ⟨trivial, trivial, trivial⟩ ?_
  refine aw_callE rfl rfl (ev_length_12) ?_
  show aw_W _ _ _ _ (13, [some (.retAddr 12), some (.ref 20), some (.int (nI p)), some (.int (nI e)), some (.int (nI j))], [.int 3, .int (nI j)]) (ae_rd σ α tx tl)
  refine aw_go 1 rfl ⟨trivial, trivial⟩ ?_
  refine aw_br (c := (3 : Int32) ≤ (nI j)) (fun h13 => ?_) (fun h13 => ?_)
  · skip
    have h13 := cI_leT (a := 3) (b := j) rfl rfl (by omega) (by omega) h13
    show aw_W _ _ _ _ (27, [some (.retAddr 12), some (.ref 20), some (.int (nI p)), some (.int (nI e)), some (.int (nI j))], []) (ae_rd σ α tx tl)
    refine aw_go 1 rfl ⟨trivial, trivial⟩ ?_
    refine aw_ret rfl rfl (by first | exact Or.inl rfl | exact Or.inr rfl | exact bI_b _) ?_
    refine ⟨?_, rfl⟩
    exact congrArg (fun q => some (Value.int q)) (bI_1 ⟨h5, fun i hi => hI i (Nat.lt_of_lt_of_le hi h13)⟩)
  · skip
    have h13 := cI_leF (a := 3) (b := j) rfl rfl (by omega) (by omega) h13
    show aw_W _ _ _ _ (14, [some (.retAddr 12), some (.ref 20), some (.int (nI p)), some (.int (nI e)), some (.int (nI j))], []) (ae_rd σ α tx tl)
    refine aw_go 7 rfl ⟨trivial, trivial, trivial, trivial, (cI_in (a := p + j) (cI_add (a := p) (b := j) rfl rfl) (by omega) (by decide)), trivial, trivial, trivial⟩ ?_
    show aw_W _ _ _ _ (21, [some (.retAddr 12), some (.ref 20), some (.int (nI p)), some (.int (nI e)), some (.int (nI j))], [.int (nI j), .retAddr 12, .int (α 16 ((nI p) + (nI j)).toNatClampNeg)]) (ae_rd σ α tx tl)
    rw [show ((nI p) + (nI j)).toNatClampNeg = p + j from cI_cl (a := p + j) (cI_add (a := p) (b := j) rfl rfl) (by omega)]
    refine aw_callE rfl rfl (ev_charAt_12 (j := j) hz h13) ?_
    show aw_W _ _ _ _ (22, [some (.retAddr 12), some (.ref 20), some (.int (nI p)), some (.int (nI e)), some (.int (nI j))], [.int (bS 12 j), .int (α 16 (p + j))]) (ae_rd σ α tx tl)
    refine aw_go 1 rfl ⟨trivial, trivial⟩ ?_
    refine aw_br (c := (α 16 (p + j)) = (bS 12 j)) (fun h22 => ?_) (fun h22 => ?_)
    · skip
      show aw_W _ _ _ _ (25, [some (.retAddr 12), some (.ref 20), some (.int (nI p)), some (.int (nI e)), some (.int (nI j))], []) (ae_rd σ α tx tl)
      refine aw_go 2 rfl ⟨trivial, trivial, trivial⟩ ?_
      show aw_W _ _ _ _ (10, [some (.retAddr 12), some (.ref 20), some (.int (nI p)), some (.int (nI e)), some (.int ((nI j) + 1))], []) (ae_rd σ α tx tl)
      rw [show (nI j) + 1 = nI (j + 1) from (cI_add (a := j) (b := 1) rfl rfl)]
      exact lp_isWord_12 hz hp he h5 (j + 1) h13 (fun i hi => by
        by_cases q : i = j
        · rw [q]; exact h22
        · exact hI i (by omega))
    · skip
      show aw_W _ _ _ _ (23, [some (.retAddr 12), some (.ref 20), some (.int (nI p)), some (.int (nI e)), some (.int (nI j))], []) (ae_rd σ α tx tl)
      refine aw_go 1 rfl ⟨trivial, trivial⟩ ?_
      refine aw_ret rfl rfl (by first | exact Or.inl rfl | exact Or.inr rfl | exact bI_b _) ?_
      refine ⟨?_, rfl⟩
      exact congrArg (fun q => some (Value.int q)) (bI_0 (fun q => h22 (q.2 j h13)))
termination_by 3 - j
decreasing_by all_goals omega
theorem ev_isWord_12 {p e : Nat} {zd : Nat} (hz : P.2.2 = .null ∨ P.2.2 = .retAddr 700) (hp : p ≤ e) (he : e ≤ 160) : ae_Ev P (zd + 5) 101 [.retAddr 12, .ref 20, .int (nI p), .int (nI e)] (ae_rd σ α tx tl) (some (.int (bI (wMp (α 16) p (e - p) 12)))) (ae_rd σ α tx tl) := by
  refine aw_evE (cd := cd_Token_isWord) rfl rfl rfl ?_
  show aw_W _ _ _ _ (0, [some (.retAddr 12), some (.ref 20), some (.int (nI p)), some (.int (nI e)), none], []) (ae_rd σ α tx tl)
  refine aw_go 4 rfl ⟨trivial, trivial, trivial, trivial, trivial⟩ ?_
  show aw_W _ _ _ _ (4, [some (.retAddr 12), some (.ref 20), some (.int (nI p)), some (.int (nI e)), none], [.retAddr 12, .int ((nI e) - (nI p))]) (ae_rd σ α tx tl)
  rw [show (nI e) - (nI p) = nI (e - p) from (cI_sub (a := e) (b := p) rfl rfl (by omega))]
  refine aw_callE rfl rfl (ev_length_12) ?_
  show aw_W _ _ _ _ (5, [some (.retAddr 12), some (.ref 20), some (.int (nI p)), some (.int (nI e)), none], [.int 3, .int (nI (e - p))]) (ae_rd σ α tx tl)
  refine aw_go 1 rfl ⟨trivial, trivial⟩ ?_
  refine aw_br (c := (nI (e - p)) = 3) (fun h5 => ?_) (fun h5 => ?_)
  · skip
    have h5 := cI_eqT (a := e - p) (b := 3) rfl rfl (by omega) (by omega) h5
    show aw_W _ _ _ _ (8, [some (.retAddr 12), some (.ref 20), some (.int (nI p)), some (.int (nI e)), none], []) (ae_rd σ α tx tl)
    refine aw_go 2 rfl ⟨trivial, trivial, trivial⟩ ?_
    exact lp_isWord_12 hz hp he h5 0 (Nat.zero_le _) (fun i hi => absurd hi (Nat.not_lt_zero i))
  · skip
    have h5 := cI_eqF (a := e - p) (b := 3) rfl rfl (by omega) (by omega) h5
    show aw_W _ _ _ _ (6, [some (.retAddr 12), some (.ref 20), some (.int (nI p)), some (.int (nI e)), none], []) (ae_rd σ α tx tl)
    refine aw_go 1 rfl ⟨trivial, trivial⟩ ?_
    refine aw_ret rfl rfl (by first | exact Or.inl rfl | exact Or.inr rfl | exact bI_b _) ?_
    refine ⟨?_, rfl⟩
    exact congrArg (fun q => some (Value.int q)) (bI_0 (fun q => h5 q.1))
theorem ev_Token_ofWord {p e : Nat} {zd : Nat} (hz : P.2.2 = .null ∨ P.2.2 = .retAddr 700) (hp : p ≤ e) (he : e ≤ 160) : ae_Ev P (zd + 6) 100 [.ref 20, .int (nI p), .int (nI e)] (ae_rd σ α tx tl) (some (.int (tW (α 16) p (e - p)))) (ae_rd σ α tx tl) := by
  refine aw_evE (cd := cd_Token_ofWord) rfl rfl rfl ?_
  show aw_W _ _ _ _ (0, [some (.ref 20), some (.int (nI p)), some (.int (nI e)), none], []) (ae_rd σ α tx tl)
  refine aw_go 5 rfl ⟨trivial, trivial, trivial, trivial, trivial, trivial⟩ ?_
  refine aw_br (c := (12 : Int32) ≤ (0 : Int32)) (fun h4 => ?_) (fun h4 => ?_)
  · skip
    have h4 := cI_leT (a := 12) (b := 0) rfl rfl (by omega) (by omega) h4
    show aw_W _ _ _ _ (17, [some (.ref 20), some (.int (nI p)), some (.int (nI e)), some (.int 0)], []) (ae_rd σ α tx tl)
    exact absurd h4 (by decide)
  · skip
    have h4 := cI_leF (a := 12) (b := 0) rfl rfl (by omega) (by omega) h4
    show aw_W _ _ _ _ (5, [some (.ref 20), some (.int (nI p)), some (.int (nI e)), some (.int 0)], []) (ae_rd σ α tx tl)
    refine aw_go 1 rfl ⟨trivial, trivial⟩ ?_
    refine aw_callE rfl rfl (ev_word_0) ?_
    show aw_W _ _ _ _ (7, [some (.ref 20), some (.int (nI p)), some (.int (nI e)), some (.int 0)], [.retAddr 1]) (ae_rd σ α tx tl)
    refine aw_go 3 rfl ⟨trivial, trivial, trivial, trivial⟩ ?_
    refine aw_callE rfl rfl (ev_isWord_1 (p := p) (e := e) hz hp he) ?_
    show aw_W _ _ _ _ (11, [some (.ref 20), some (.int (nI p)), some (.int (nI e)), some (.int 0)], [.int (bI (wMp (α 16) p (e - p) 1))]) (ae_rd σ α tx tl)
    refine aw_go 1 rfl ⟨trivial, trivial⟩ ?_
    refine aw_br (c := (bI (wMp (α 16) p (e - p) 1)) = 0) (fun h11 => ?_) (fun h11 => ?_)
    · skip
      have h11 := bI_f h11
      show aw_W _ _ _ _ (15, [some (.ref 20), some (.int (nI p)), some (.int (nI e)), some (.int 0)], []) (ae_rd σ α tx tl)
      refine aw_go 5 rfl ⟨trivial, trivial, trivial, trivial, trivial, trivial⟩ ?_
      show aw_W _ _ _ _ (if (12 : Int32) ≤ (0 + 1) then 17 else 5, [some (.ref 20), some (.int (nI p)), some (.int (nI e)), some (.int (0 + 1))], []) (ae_rd σ α tx tl)
      refine aw_br (c := (12 : Int32) ≤ (0 + 1)) (fun h4b => ?_) (fun h4b => ?_)
      · skip
        have h4b := cI_leT (a := 12) (b := 1) rfl (cI_add (a := 0) (b := 1) rfl rfl) (by omega) (by omega) h4b
        show aw_W _ _ _ _ (17, [some (.ref 20), some (.int (nI p)), some (.int (nI e)), some (.int (0 + 1))], []) (ae_rd σ α tx tl)
        exact absurd h4b (by decide)
      · skip
        have h4b := cI_leF (a := 12) (b := 1) rfl (cI_add (a := 0) (b := 1) rfl rfl) (by omega) (by omega) h4b
        show aw_W _ _ _ _ (5, [some (.ref 20), some (.int (nI p)), some (.int (nI e)), some (.int (0 + 1))], []) (ae_rd σ α tx tl)
        refine aw_go 1 rfl ⟨trivial, trivial⟩ ?_
        rw [show 0 + 1 = nI 1 from (cI_add (a := 0) (b := 1) rfl rfl)]
        refine aw_callE rfl rfl (ev_word_1) ?_
        show aw_W _ _ _ _ (7, [some (.ref 20), some (.int (nI p)), some (.int (nI e)), some (.int (nI 1))], [.retAddr 2]) (ae_rd σ α tx tl)
        refine aw_go 3 rfl ⟨trivial, trivial, trivial, trivial⟩ ?_
        refine aw_callE rfl rfl (ev_isWord_2 (p := p) (e := e) hz hp he) ?_
        show aw_W _ _ _ _ (11, [some (.ref 20), some (.int (nI p)), some (.int (nI e)), some (.int (nI 1))], [.int (bI (wMp (α 16) p (e - p) 2))]) (ae_rd σ α tx tl)
        refine aw_go 1 rfl ⟨trivial, trivial⟩ ?_
        refine aw_br (c := (bI (wMp (α 16) p (e - p) 2)) = 0) (fun h11b => ?_) (fun h11b => ?_)
        · skip
          have h11b := bI_f h11b
          show aw_W _ _ _ _ (15, [some (.ref 20), some (.int (nI p)), some (.int (nI e)), some (.int (nI 1))], []) (ae_rd σ α tx tl)
          refine aw_go 5 rfl ⟨trivial, trivial, trivial, trivial, trivial, trivial⟩ ?_
          show aw_W _ _ _ _ (if (12 : Int32) ≤ ((nI 1) + 1) then 17 else 5, [some (.ref 20), some (.int (nI p)), some (.int (nI e)), some (.int ((nI 1) + 1))], []) (ae_rd σ α tx tl)
          refine aw_br (c := (12 : Int32) ≤ ((nI 1) + 1)) (fun h4c => ?_) (fun h4c => ?_)
          · skip
            have h4c := cI_leT (a := 12) (b := 2) rfl (cI_add (a := 1) (b := 1) rfl rfl) (by omega) (by omega) h4c
            show aw_W _ _ _ _ (17, [some (.ref 20), some (.int (nI p)), some (.int (nI e)), some (.int ((nI 1) + 1))], []) (ae_rd σ α tx tl)
            exact absurd h4c (by decide)
          · skip
            have h4c := cI_leF (a := 12) (b := 2) rfl (cI_add (a := 1) (b := 1) rfl rfl) (by omega) (by omega) h4c
            show aw_W _ _ _ _ (5, [some (.ref 20), some (.int (nI p)), some (.int (nI e)), some (.int ((nI 1) + 1))], []) (ae_rd σ α tx tl)
            refine aw_go 1 rfl ⟨trivial, trivial⟩ ?_
            rw [show (nI 1) + 1 = nI 2 from (cI_add (a := 1) (b := 1) rfl rfl)]
            refine aw_callE rfl rfl (ev_word_2) ?_
            show aw_W _ _ _ _ (7, [some (.ref 20), some (.int (nI p)), some (.int (nI e)), some (.int (nI 2))], [.retAddr 3]) (ae_rd σ α tx tl)
            refine aw_go 3 rfl ⟨trivial, trivial, trivial, trivial⟩ ?_
            refine aw_callE rfl rfl (ev_isWord_3 (p := p) (e := e) hz hp he) ?_
            show aw_W _ _ _ _ (11, [some (.ref 20), some (.int (nI p)), some (.int (nI e)), some (.int (nI 2))], [.int (bI (wMp (α 16) p (e - p) 3))]) (ae_rd σ α tx tl)
            refine aw_go 1 rfl ⟨trivial, trivial⟩ ?_
            refine aw_br (c := (bI (wMp (α 16) p (e - p) 3)) = 0) (fun h11c => ?_) (fun h11c => ?_)
            · skip
              have h11c := bI_f h11c
              show aw_W _ _ _ _ (15, [some (.ref 20), some (.int (nI p)), some (.int (nI e)), some (.int (nI 2))], []) (ae_rd σ α tx tl)
              refine aw_go 5 rfl ⟨trivial, trivial, trivial, trivial, trivial, trivial⟩ ?_
              show aw_W _ _ _ _ (if (12 : Int32) ≤ ((nI 2) + 1) then 17 else 5, [some (.ref 20), some (.int (nI p)), some (.int (nI e)), some (.int ((nI 2) + 1))], []) (ae_rd σ α tx tl)
              refine aw_br (c := (12 : Int32) ≤ ((nI 2) + 1)) (fun h4d => ?_) (fun h4d => ?_)
              · skip
                have h4d := cI_leT (a := 12) (b := 3) rfl (cI_add (a := 2) (b := 1) rfl rfl) (by omega) (by omega) h4d
                show aw_W _ _ _ _ (17, [some (.ref 20), some (.int (nI p)), some (.int (nI e)), some (.int ((nI 2) + 1))], []) (ae_rd σ α tx tl)
                exact absurd h4d (by decide)
              · skip
                have h4d := cI_leF (a := 12) (b := 3) rfl (cI_add (a := 2) (b := 1) rfl rfl) (by omega) (by omega) h4d
                show aw_W _ _ _ _ (5, [some (.ref 20), some (.int (nI p)), some (.int (nI e)), some (.int ((nI 2) + 1))], []) (ae_rd σ α tx tl)
                refine aw_go 1 rfl ⟨trivial, trivial⟩ ?_
                rw [show (nI 2) + 1 = nI 3 from (cI_add (a := 2) (b := 1) rfl rfl)]
                refine aw_callE rfl rfl (ev_word_3) ?_
                show aw_W _ _ _ _ (7, [some (.ref 20), some (.int (nI p)), some (.int (nI e)), some (.int (nI 3))], [.retAddr 4]) (ae_rd σ α tx tl)
                refine aw_go 3 rfl ⟨trivial, trivial, trivial, trivial⟩ ?_
                refine aw_callE rfl rfl (ev_isWord_4 (p := p) (e := e) hz hp he) ?_
                show aw_W _ _ _ _ (11, [some (.ref 20), some (.int (nI p)), some (.int (nI e)), some (.int (nI 3))], [.int (bI (wMp (α 16) p (e - p) 4))]) (ae_rd σ α tx tl)
                refine aw_go 1 rfl ⟨trivial, trivial⟩ ?_
                refine aw_br (c := (bI (wMp (α 16) p (e - p) 4)) = 0) (fun h11d => ?_) (fun h11d => ?_)
                · skip
                  have h11d := bI_f h11d
                  show aw_W _ _ _ _ (15, [some (.ref 20), some (.int (nI p)), some (.int (nI e)), some (.int (nI 3))], []) (ae_rd σ α tx tl)
                  refine aw_go 5 rfl ⟨trivial, trivial, trivial, trivial, trivial, trivial⟩ ?_
                  show aw_W _ _ _ _ (if (12 : Int32) ≤ ((nI 3) + 1) then 17 else 5, [some (.ref 20), some (.int (nI p)), some (.int (nI e)), some (.int ((nI 3) + 1))], []) (ae_rd σ α tx tl)
                  refine aw_br (c := (12 : Int32) ≤ ((nI 3) + 1)) (fun h4e => ?_) (fun h4e => ?_)
                  · skip
                    have h4e := cI_leT (a := 12) (b := 4) rfl (cI_add (a := 3) (b := 1) rfl rfl) (by omega) (by omega) h4e
                    show aw_W _ _ _ _ (17, [some (.ref 20), some (.int (nI p)), some (.int (nI e)), some (.int ((nI 3) + 1))], []) (ae_rd σ α tx tl)
                    exact absurd h4e (by decide)
                  · skip
                    have h4e := cI_leF (a := 12) (b := 4) rfl (cI_add (a := 3) (b := 1) rfl rfl) (by omega) (by omega) h4e
                    show aw_W _ _ _ _ (5, [some (.ref 20), some (.int (nI p)), some (.int (nI e)), some (.int ((nI 3) + 1))], []) (ae_rd σ α tx tl)
                    refine aw_go 1 rfl ⟨trivial, trivial⟩ ?_
                    rw [show (nI 3) + 1 = nI 4 from (cI_add (a := 3) (b := 1) rfl rfl)]
                    refine aw_callE rfl rfl (ev_word_4) ?_
                    show aw_W _ _ _ _ (7, [some (.ref 20), some (.int (nI p)), some (.int (nI e)), some (.int (nI 4))], [.retAddr 5]) (ae_rd σ α tx tl)
                    refine aw_go 3 rfl ⟨trivial, trivial, trivial, trivial⟩ ?_
                    refine aw_callE rfl rfl (ev_isWord_5 (p := p) (e := e) hz hp he) ?_
                    show aw_W _ _ _ _ (11, [some (.ref 20), some (.int (nI p)), some (.int (nI e)), some (.int (nI 4))], [.int (bI (wMp (α 16) p (e - p) 5))]) (ae_rd σ α tx tl)
                    refine aw_go 1 rfl ⟨trivial, trivial⟩ ?_
                    refine aw_br (c := (bI (wMp (α 16) p (e - p) 5)) = 0) (fun h11e => ?_) (fun h11e => ?_)
                    · skip
                      have h11e := bI_f h11e
                      show aw_W _ _ _ _ (15, [some (.ref 20), some (.int (nI p)), some (.int (nI e)), some (.int (nI 4))], []) (ae_rd σ α tx tl)
                      refine aw_go 5 rfl ⟨trivial, trivial, trivial, trivial, trivial, trivial⟩ ?_
                      show aw_W _ _ _ _ (if (12 : Int32) ≤ ((nI 4) + 1) then 17 else 5, [some (.ref 20), some (.int (nI p)), some (.int (nI e)), some (.int ((nI 4) + 1))], []) (ae_rd σ α tx tl)
                      refine aw_br (c := (12 : Int32) ≤ ((nI 4) + 1)) (fun h4f => ?_) (fun h4f => ?_)
                      · skip
                        have h4f := cI_leT (a := 12) (b := 5) rfl (cI_add (a := 4) (b := 1) rfl rfl) (by omega) (by omega) h4f
                        show aw_W _ _ _ _ (17, [some (.ref 20), some (.int (nI p)), some (.int (nI e)), some (.int ((nI 4) + 1))], []) (ae_rd σ α tx tl)
                        exact absurd h4f (by decide)
                      · skip
                        have h4f := cI_leF (a := 12) (b := 5) rfl (cI_add (a := 4) (b := 1) rfl rfl) (by omega) (by omega) h4f
                        show aw_W _ _ _ _ (5, [some (.ref 20), some (.int (nI p)), some (.int (nI e)), some (.int ((nI 4) + 1))], []) (ae_rd σ α tx tl)
                        refine aw_go 1 rfl ⟨trivial, trivial⟩ ?_
                        rw [show (nI 4) + 1 = nI 5 from (cI_add (a := 4) (b := 1) rfl rfl)]
                        refine aw_callE rfl rfl (ev_word_5) ?_
                        show aw_W _ _ _ _ (7, [some (.ref 20), some (.int (nI p)), some (.int (nI e)), some (.int (nI 5))], [.retAddr 6]) (ae_rd σ α tx tl)
                        refine aw_go 3 rfl ⟨trivial, trivial, trivial, trivial⟩ ?_
                        refine aw_callE rfl rfl (ev_isWord_6 (p := p) (e := e) hz hp he) ?_
                        show aw_W _ _ _ _ (11, [some (.ref 20), some (.int (nI p)), some (.int (nI e)), some (.int (nI 5))], [.int (bI (wMp (α 16) p (e - p) 6))]) (ae_rd σ α tx tl)
                        refine aw_go 1 rfl ⟨trivial, trivial⟩ ?_
                        refine aw_br (c := (bI (wMp (α 16) p (e - p) 6)) = 0) (fun h11f => ?_) (fun h11f => ?_)
                        · skip
                          have h11f := bI_f h11f
                          show aw_W _ _ _ _ (15, [some (.ref 20), some (.int (nI p)), some (.int (nI e)), some (.int (nI 5))], []) (ae_rd σ α tx tl)
                          refine aw_go 5 rfl ⟨trivial, trivial, trivial, trivial, trivial, trivial⟩ ?_
                          show aw_W _ _ _ _ (if (12 : Int32) ≤ ((nI 5) + 1) then 17 else 5, [some (.ref 20), some (.int (nI p)), some (.int (nI e)), some (.int ((nI 5) + 1))], []) (ae_rd σ α tx tl)
                          refine aw_br (c := (12 : Int32) ≤ ((nI 5) + 1)) (fun h4g => ?_) (fun h4g => ?_)
                          · skip
                            have h4g := cI_leT (a := 12) (b := 6) rfl (cI_add (a := 5) (b := 1) rfl rfl) (by omega) (by omega) h4g
                            show aw_W _ _ _ _ (17, [some (.ref 20), some (.int (nI p)), some (.int (nI e)), some (.int ((nI 5) + 1))], []) (ae_rd σ α tx tl)
                            exact absurd h4g (by decide)
                          · skip
                            have h4g := cI_leF (a := 12) (b := 6) rfl (cI_add (a := 5) (b := 1) rfl rfl) (by omega) (by omega) h4g
                            show aw_W _ _ _ _ (5, [some (.ref 20), some (.int (nI p)), some (.int (nI e)), some (.int ((nI 5) + 1))], []) (ae_rd σ α tx tl)
                            refine aw_go 1 rfl ⟨trivial, trivial⟩ ?_
                            rw [show (nI 5) + 1 = nI 6 from (cI_add (a := 5) (b := 1) rfl rfl)]
                            refine aw_callE rfl rfl (ev_word_6) ?_
                            show aw_W _ _ _ _ (7, [some (.ref 20), some (.int (nI p)), some (.int (nI e)), some (.int (nI 6))], [.retAddr 7]) (ae_rd σ α tx tl)
                            refine aw_go 3 rfl ⟨trivial, trivial, trivial, trivial⟩ ?_
                            refine aw_callE rfl rfl (ev_isWord_7 (p := p) (e := e) hz hp he) ?_
                            show aw_W _ _ _ _ (11, [some (.ref 20), some (.int (nI p)), some (.int (nI e)), some (.int (nI 6))], [.int (bI (wMp (α 16) p (e - p) 7))]) (ae_rd σ α tx tl)
                            refine aw_go 1 rfl ⟨trivial, trivial⟩ ?_
                            refine aw_br (c := (bI (wMp (α 16) p (e - p) 7)) = 0) (fun h11g => ?_) (fun h11g => ?_)
                            · skip
                              have h11g := bI_f h11g
                              show aw_W _ _ _ _ (15, [some (.ref 20), some (.int (nI p)), some (.int (nI e)), some (.int (nI 6))], []) (ae_rd σ α tx tl)
                              refine aw_go 5 rfl ⟨trivial, trivial, trivial, trivial, trivial, trivial⟩ ?_
                              show aw_W _ _ _ _ (if (12 : Int32) ≤ ((nI 6) + 1) then 17 else 5, [some (.ref 20), some (.int (nI p)), some (.int (nI e)), some (.int ((nI 6) + 1))], []) (ae_rd σ α tx tl)
                              refine aw_br (c := (12 : Int32) ≤ ((nI 6) + 1)) (fun h4h => ?_) (fun h4h => ?_)
                              · skip
                                have h4h := cI_leT (a := 12) (b := 7) rfl (cI_add (a := 6) (b := 1) rfl rfl) (by omega) (by omega) h4h
                                show aw_W _ _ _ _ (17, [some (.ref 20), some (.int (nI p)), some (.int (nI e)), some (.int ((nI 6) + 1))], []) (ae_rd σ α tx tl)
                                exact absurd h4h (by decide)
                              · skip
                                have h4h := cI_leF (a := 12) (b := 7) rfl (cI_add (a := 6) (b := 1) rfl rfl) (by omega) (by omega) h4h
                                show aw_W _ _ _ _ (5, [some (.ref 20), some (.int (nI p)), some (.int (nI e)), some (.int ((nI 6) + 1))], []) (ae_rd σ α tx tl)
                                refine aw_go 1 rfl ⟨trivial, trivial⟩ ?_
                                rw [show (nI 6) + 1 = nI 7 from (cI_add (a := 6) (b := 1) rfl rfl)]
                                refine aw_callE rfl rfl (ev_word_7) ?_
                                show aw_W _ _ _ _ (7, [some (.ref 20), some (.int (nI p)), some (.int (nI e)), some (.int (nI 7))], [.retAddr 8]) (ae_rd σ α tx tl)
                                refine aw_go 3 rfl ⟨trivial, trivial, trivial, trivial⟩ ?_
                                refine aw_callE rfl rfl (ev_isWord_8 (p := p) (e := e) hz hp he) ?_
                                show aw_W _ _ _ _ (11, [some (.ref 20), some (.int (nI p)), some (.int (nI e)), some (.int (nI 7))], [.int (bI (wMp (α 16) p (e - p) 8))]) (ae_rd σ α tx tl)
                                refine aw_go 1 rfl ⟨trivial, trivial⟩ ?_
                                refine aw_br (c := (bI (wMp (α 16) p (e - p) 8)) = 0) (fun h11h => ?_) (fun h11h => ?_)
                                · skip
                                  have h11h := bI_f h11h
                                  show aw_W _ _ _ _ (15, [some (.ref 20), some (.int (nI p)), some (.int (nI e)), some (.int (nI 7))], []) (ae_rd σ α tx tl)
                                  refine aw_go 5 rfl ⟨trivial, trivial, trivial, trivial, trivial, trivial⟩ ?_
                                  show aw_W _ _ _ _ (if (12 : Int32) ≤ ((nI 7) + 1) then 17 else 5, [some (.ref 20), some (.int (nI p)), some (.int (nI e)), some (.int ((nI 7) + 1))], []) (ae_rd σ α tx tl)
                                  refine aw_br (c := (12 : Int32) ≤ ((nI 7) + 1)) (fun h4i => ?_) (fun h4i => ?_)
                                  · skip
                                    have h4i := cI_leT (a := 12) (b := 8) rfl (cI_add (a := 7) (b := 1) rfl rfl) (by omega) (by omega) h4i
                                    show aw_W _ _ _ _ (17, [some (.ref 20), some (.int (nI p)), some (.int (nI e)), some (.int ((nI 7) + 1))], []) (ae_rd σ α tx tl)
                                    exact absurd h4i (by decide)
                                  · skip
                                    have h4i := cI_leF (a := 12) (b := 8) rfl (cI_add (a := 7) (b := 1) rfl rfl) (by omega) (by omega) h4i
                                    show aw_W _ _ _ _ (5, [some (.ref 20), some (.int (nI p)), some (.int (nI e)), some (.int ((nI 7) + 1))], []) (ae_rd σ α tx tl)
                                    refine aw_go 1 rfl ⟨trivial, trivial⟩ ?_
                                    rw [show (nI 7) + 1 = nI 8 from (cI_add (a := 7) (b := 1) rfl rfl)]
                                    refine aw_callE rfl rfl (ev_word_8) ?_
                                    show aw_W _ _ _ _ (7, [some (.ref 20), some (.int (nI p)), some (.int (nI e)), some (.int (nI 8))], [.retAddr 9]) (ae_rd σ α tx tl)
                                    refine aw_go 3 rfl ⟨trivial, trivial, trivial, trivial⟩ ?_
                                    refine aw_callE rfl rfl (ev_isWord_9 (p := p) (e := e) hz hp he) ?_
                                    show aw_W _ _ _ _ (11, [some (.ref 20), some (.int (nI p)), some (.int (nI e)), some (.int (nI 8))], [.int (bI (wMp (α 16) p (e - p) 9))]) (ae_rd σ α tx tl)
                                    refine aw_go 1 rfl ⟨trivial, trivial⟩ ?_
                                    refine aw_br (c := (bI (wMp (α 16) p (e - p) 9)) = 0) (fun h11i => ?_) (fun h11i => ?_)
                                    · skip
                                      have h11i := bI_f h11i
                                      show aw_W _ _ _ _ (15, [some (.ref 20), some (.int (nI p)), some (.int (nI e)), some (.int (nI 8))], []) (ae_rd σ α tx tl)
                                      refine aw_go 5 rfl ⟨trivial, trivial, trivial, trivial, trivial, trivial⟩ ?_
                                      show aw_W _ _ _ _ (if (12 : Int32) ≤ ((nI 8) + 1) then 17 else 5, [some (.ref 20), some (.int (nI p)), some (.int (nI e)), some (.int ((nI 8) + 1))], []) (ae_rd σ α tx tl)
                                      refine aw_br (c := (12 : Int32) ≤ ((nI 8) + 1)) (fun h4j => ?_) (fun h4j => ?_)
                                      · skip
                                        have h4j := cI_leT (a := 12) (b := 9) rfl (cI_add (a := 8) (b := 1) rfl rfl) (by omega) (by omega) h4j
                                        show aw_W _ _ _ _ (17, [some (.ref 20), some (.int (nI p)), some (.int (nI e)), some (.int ((nI 8) + 1))], []) (ae_rd σ α tx tl)
                                        exact absurd h4j (by decide)
                                      · skip
                                        have h4j := cI_leF (a := 12) (b := 9) rfl (cI_add (a := 8) (b := 1) rfl rfl) (by omega) (by omega) h4j
                                        show aw_W _ _ _ _ (5, [some (.ref 20), some (.int (nI p)), some (.int (nI e)), some (.int ((nI 8) + 1))], []) (ae_rd σ α tx tl)
                                        refine aw_go 1 rfl ⟨trivial, trivial⟩ ?_
                                        rw [show (nI 8) + 1 = nI 9 from (cI_add (a := 8) (b := 1) rfl rfl)]
                                        refine aw_callE rfl rfl (ev_word_9) ?_
                                        show aw_W _ _ _ _ (7, [some (.ref 20), some (.int (nI p)), some (.int (nI e)), some (.int (nI 9))], [.retAddr 10]) (ae_rd σ α tx tl)
                                        refine aw_go 3 rfl ⟨trivial, trivial, trivial, trivial⟩ ?_
                                        refine aw_callE rfl rfl (ev_isWord_10 (p := p) (e := e) hz hp he) ?_
                                        show aw_W _ _ _ _ (11, [some (.ref 20), some (.int (nI p)), some (.int (nI e)), some (.int (nI 9))], [.int (bI (wMp (α 16) p (e - p) 10))]) (ae_rd σ α tx tl)
                                        refine aw_go 1 rfl ⟨trivial, trivial⟩ ?_
                                        refine aw_br (c := (bI (wMp (α 16) p (e - p) 10)) = 0) (fun h11j => ?_) (fun h11j => ?_)
                                        · skip
                                          have h11j := bI_f h11j
                                          show aw_W _ _ _ _ (15, [some (.ref 20), some (.int (nI p)), some (.int (nI e)), some (.int (nI 9))], []) (ae_rd σ α tx tl)
                                          refine aw_go 5 rfl ⟨trivial, trivial, trivial, trivial, trivial, trivial⟩ ?_
                                          show aw_W _ _ _ _ (if (12 : Int32) ≤ ((nI 9) + 1) then 17 else 5, [some (.ref 20), some (.int (nI p)), some (.int (nI e)), some (.int ((nI 9) + 1))], []) (ae_rd σ α tx tl)
                                          refine aw_br (c := (12 : Int32) ≤ ((nI 9) + 1)) (fun h4k => ?_) (fun h4k => ?_)
                                          · skip
                                            have h4k := cI_leT (a := 12) (b := 10) rfl (cI_add (a := 9) (b := 1) rfl rfl) (by omega) (by omega) h4k
                                            show aw_W _ _ _ _ (17, [some (.ref 20), some (.int (nI p)), some (.int (nI e)), some (.int ((nI 9) + 1))], []) (ae_rd σ α tx tl)
                                            exact absurd h4k (by decide)
                                          · skip
                                            have h4k := cI_leF (a := 12) (b := 10) rfl (cI_add (a := 9) (b := 1) rfl rfl) (by omega) (by omega) h4k
                                            show aw_W _ _ _ _ (5, [some (.ref 20), some (.int (nI p)), some (.int (nI e)), some (.int ((nI 9) + 1))], []) (ae_rd σ α tx tl)
                                            refine aw_go 1 rfl ⟨trivial, trivial⟩ ?_
                                            rw [show (nI 9) + 1 = nI 10 from (cI_add (a := 9) (b := 1) rfl rfl)]
                                            refine aw_callE rfl rfl (ev_word_10) ?_
                                            show aw_W _ _ _ _ (7, [some (.ref 20), some (.int (nI p)), some (.int (nI e)), some (.int (nI 10))], [.retAddr 11]) (ae_rd σ α tx tl)
                                            refine aw_go 3 rfl ⟨trivial, trivial, trivial, trivial⟩ ?_
                                            refine aw_callE rfl rfl (ev_isWord_11 (p := p) (e := e) hz hp he) ?_
                                            show aw_W _ _ _ _ (11, [some (.ref 20), some (.int (nI p)), some (.int (nI e)), some (.int (nI 10))], [.int (bI (wMp (α 16) p (e - p) 11))]) (ae_rd σ α tx tl)
                                            refine aw_go 1 rfl ⟨trivial, trivial⟩ ?_
                                            refine aw_br (c := (bI (wMp (α 16) p (e - p) 11)) = 0) (fun h11k => ?_) (fun h11k => ?_)
                                            · skip
                                              have h11k := bI_f h11k
                                              show aw_W _ _ _ _ (15, [some (.ref 20), some (.int (nI p)), some (.int (nI e)), some (.int (nI 10))], []) (ae_rd σ α tx tl)
                                              refine aw_go 5 rfl ⟨trivial, trivial, trivial, trivial, trivial, trivial⟩ ?_
                                              show aw_W _ _ _ _ (if (12 : Int32) ≤ ((nI 10) + 1) then 17 else 5, [some (.ref 20), some (.int (nI p)), some (.int (nI e)), some (.int ((nI 10) + 1))], []) (ae_rd σ α tx tl)
                                              refine aw_br (c := (12 : Int32) ≤ ((nI 10) + 1)) (fun h4l => ?_) (fun h4l => ?_)
                                              · skip
                                                have h4l := cI_leT (a := 12) (b := 11) rfl (cI_add (a := 10) (b := 1) rfl rfl) (by omega) (by omega) h4l
                                                show aw_W _ _ _ _ (17, [some (.ref 20), some (.int (nI p)), some (.int (nI e)), some (.int ((nI 10) + 1))], []) (ae_rd σ α tx tl)
                                                exact absurd h4l (by decide)
                                              · skip
                                                have h4l := cI_leF (a := 12) (b := 11) rfl (cI_add (a := 10) (b := 1) rfl rfl) (by omega) (by omega) h4l
                                                show aw_W _ _ _ _ (5, [some (.ref 20), some (.int (nI p)), some (.int (nI e)), some (.int ((nI 10) + 1))], []) (ae_rd σ α tx tl)
                                                refine aw_go 1 rfl ⟨trivial, trivial⟩ ?_
                                                rw [show (nI 10) + 1 = nI 11 from (cI_add (a := 10) (b := 1) rfl rfl)]
                                                refine aw_callE rfl rfl (ev_word_11) ?_
                                                show aw_W _ _ _ _ (7, [some (.ref 20), some (.int (nI p)), some (.int (nI e)), some (.int (nI 11))], [.retAddr 12]) (ae_rd σ α tx tl)
                                                refine aw_go 3 rfl ⟨trivial, trivial, trivial, trivial⟩ ?_
                                                refine aw_callE rfl rfl (ev_isWord_12 (p := p) (e := e) hz hp he) ?_
                                                show aw_W _ _ _ _ (11, [some (.ref 20), some (.int (nI p)), some (.int (nI e)), some (.int (nI 11))], [.int (bI (wMp (α 16) p (e - p) 12))]) (ae_rd σ α tx tl)
                                                refine aw_go 1 rfl ⟨trivial, trivial⟩ ?_
                                                refine aw_br (c := (bI (wMp (α 16) p (e - p) 12)) = 0) (fun h11l => ?_) (fun h11l => ?_)
                                                · skip
                                                  have h11l := bI_f h11l
                                                  show aw_W _ _ _ _ (15, [some (.ref 20), some (.int (nI p)), some (.int (nI e)), some (.int (nI 11))], []) (ae_rd σ α tx tl)
                                                  refine aw_go 5 rfl ⟨trivial, trivial, trivial, trivial, trivial, trivial⟩ ?_
                                                  show aw_W _ _ _ _ (if (12 : Int32) ≤ ((nI 11) + 1) then 17 else 5, [some (.ref 20), some (.int (nI p)), some (.int (nI e)), some (.int ((nI 11) + 1))], []) (ae_rd σ α tx tl)
                                                  refine aw_br (c := (12 : Int32) ≤ ((nI 11) + 1)) (fun h4m => ?_) (fun h4m => ?_)
                                                  · skip
                                                    have h4m := cI_leT (a := 12) (b := 12) rfl (cI_add (a := 11) (b := 1) rfl rfl) (by omega) (by omega) h4m
                                                    show aw_W _ _ _ _ (17, [some (.ref 20), some (.int (nI p)), some (.int (nI e)), some (.int ((nI 11) + 1))], []) (ae_rd σ α tx tl)
                                                    refine aw_go 1 rfl ⟨trivial, trivial⟩ ?_
                                                    rw [show (nI 11) + 1 = nI 12 from (cI_add (a := 11) (b := 1) rfl rfl)]
                                                    refine aw_ret rfl rfl trivial ?_
                                                    refine ⟨?_, rfl⟩
                                                    rw [tW, if_neg h11, if_neg h11b, if_neg h11c, if_neg h11d, if_neg h11e, if_neg h11f, if_neg h11g, if_neg h11h, if_neg h11i, if_neg h11j, if_neg h11k, if_neg h11l]
                                                  · skip
                                                    have h4m := cI_leF (a := 12) (b := 12) rfl (cI_add (a := 11) (b := 1) rfl rfl) (by omega) (by omega) h4m
                                                    show aw_W _ _ _ _ (5, [some (.ref 20), some (.int (nI p)), some (.int (nI e)), some (.int ((nI 11) + 1))], []) (ae_rd σ α tx tl)
                                                    exact absurd h4m (by decide)
                                                · skip
                                                  have h11l := bI_t h11l
                                                  show aw_W _ _ _ _ (12, [some (.ref 20), some (.int (nI p)), some (.int (nI e)), some (.int (nI 11))], []) (ae_rd σ α tx tl)
                                                  refine aw_go 1 rfl ⟨trivial, trivial⟩ ?_
                                                  refine aw_callE rfl rfl (ev_tokenOfWord_11) ?_
                                                  show aw_W _ _ _ _ (14, [some (.ref 20), some (.int (nI p)), some (.int (nI e)), some (.int (nI 11))], [.int (-3)]) (ae_rd σ α tx tl)
                                                  refine aw_ret rfl rfl trivial ?_
                                                  refine ⟨?_, rfl⟩
                                                  rw [tW, if_neg h11, if_neg h11b, if_neg h11c, if_neg h11d, if_neg h11e, if_neg h11f, if_neg h11g, if_neg h11h, if_neg h11i, if_neg h11j, if_neg h11k, if_pos h11l]
                                            · skip
                                              have h11k := bI_t h11k
                                              show aw_W _ _ _ _ (12, [some (.ref 20), some (.int (nI p)), some (.int (nI e)), some (.int (nI 10))], []) (ae_rd σ α tx tl)
                                              refine aw_go 1 rfl ⟨trivial, trivial⟩ ?_
                                              refine aw_callE rfl rfl (ev_tokenOfWord_10) ?_
                                              show aw_W _ _ _ _ (14, [some (.ref 20), some (.int (nI p)), some (.int (nI e)), some (.int (nI 10))], [.int (-2)]) (ae_rd σ α tx tl)
                                              refine aw_ret rfl rfl trivial ?_
                                              refine ⟨?_, rfl⟩
                                              rw [tW, if_neg h11, if_neg h11b, if_neg h11c, if_neg h11d, if_neg h11e, if_neg h11f, if_neg h11g, if_neg h11h, if_neg h11i, if_neg h11j, if_pos h11k]
                                        · skip
                                          have h11j := bI_t h11j
                                          show aw_W _ _ _ _ (12, [some (.ref 20), some (.int (nI p)), some (.int (nI e)), some (.int (nI 9))], []) (ae_rd σ α tx tl)
                                          refine aw_go 1 rfl ⟨trivial, trivial⟩ ?_
                                          refine aw_callE rfl rfl (ev_tokenOfWord_9) ?_
                                          show aw_W _ _ _ _ (14, [some (.ref 20), some (.int (nI p)), some (.int (nI e)), some (.int (nI 9))], [.int (-1)]) (ae_rd σ α tx tl)
                                          refine aw_ret rfl rfl trivial ?_
                                          refine ⟨?_, rfl⟩
                                          rw [tW, if_neg h11, if_neg h11b, if_neg h11c, if_neg h11d, if_neg h11e, if_neg h11f, if_neg h11g, if_neg h11h, if_neg h11i, if_pos h11j]
                                    · skip
                                      have h11i := bI_t h11i
                                      show aw_W _ _ _ _ (12, [some (.ref 20), some (.int (nI p)), some (.int (nI e)), some (.int (nI 8))], []) (ae_rd σ α tx tl)
                                      refine aw_go 1 rfl ⟨trivial, trivial⟩ ?_
                                      refine aw_callE rfl rfl (ev_tokenOfWord_8) ?_
                                      show aw_W _ _ _ _ (14, [some (.ref 20), some (.int (nI p)), some (.int (nI e)), some (.int (nI 8))], [.int (-15)]) (ae_rd σ α tx tl)
                                      refine aw_ret rfl rfl trivial ?_
                                      refine ⟨?_, rfl⟩
                                      rw [tW, if_neg h11, if_neg h11b, if_neg h11c, if_neg h11d, if_neg h11e, if_neg h11f, if_neg h11g, if_neg h11h, if_pos h11i]
                                · skip
                                  have h11h := bI_t h11h
                                  show aw_W _ _ _ _ (12, [some (.ref 20), some (.int (nI p)), some (.int (nI e)), some (.int (nI 7))], []) (ae_rd σ α tx tl)
                                  refine aw_go 1 rfl ⟨trivial, trivial⟩ ?_
                                  refine aw_callE rfl rfl (ev_tokenOfWord_7) ?_
                                  show aw_W _ _ _ _ (14, [some (.ref 20), some (.int (nI p)), some (.int (nI e)), some (.int (nI 7))], [.int (-14)]) (ae_rd σ α tx tl)
                                  refine aw_ret rfl rfl trivial ?_
                                  refine ⟨?_, rfl⟩
                                  rw [tW, if_neg h11, if_neg h11b, if_neg h11c, if_neg h11d, if_neg h11e, if_neg h11f, if_neg h11g, if_pos h11h]
                            · skip
                              have h11g := bI_t h11g
                              show aw_W _ _ _ _ (12, [some (.ref 20), some (.int (nI p)), some (.int (nI e)), some (.int (nI 6))], []) (ae_rd σ α tx tl)
                              refine aw_go 1 rfl ⟨trivial, trivial⟩ ?_
                              refine aw_callE rfl rfl (ev_tokenOfWord_6) ?_
                              show aw_W _ _ _ _ (14, [some (.ref 20), some (.int (nI p)), some (.int (nI e)), some (.int (nI 6))], [.int (-13)]) (ae_rd σ α tx tl)
                              refine aw_ret rfl rfl trivial ?_
                              refine ⟨?_, rfl⟩
                              rw [tW, if_neg h11, if_neg h11b, if_neg h11c, if_neg h11d, if_neg h11e, if_neg h11f, if_pos h11g]
                        · skip
                          have h11f := bI_t h11f
                          show aw_W _ _ _ _ (12, [some (.ref 20), some (.int (nI p)), some (.int (nI e)), some (.int (nI 5))], []) (ae_rd σ α tx tl)
                          refine aw_go 1 rfl ⟨trivial, trivial⟩ ?_
                          refine aw_callE rfl rfl (ev_tokenOfWord_5) ?_
                          show aw_W _ _ _ _ (14, [some (.ref 20), some (.int (nI p)), some (.int (nI e)), some (.int (nI 5))], [.int (nI 10005)]) (ae_rd σ α tx tl)
                          refine aw_ret rfl rfl trivial ?_
                          refine ⟨?_, rfl⟩
                          rw [tW, if_neg h11, if_neg h11b, if_neg h11c, if_neg h11d, if_neg h11e, if_pos h11f]
                    · skip
                      have h11e := bI_t h11e
                      show aw_W _ _ _ _ (12, [some (.ref 20), some (.int (nI p)), some (.int (nI e)), some (.int (nI 4))], []) (ae_rd σ α tx tl)
                      refine aw_go 1 rfl ⟨trivial, trivial⟩ ?_
                      refine aw_callE rfl rfl (ev_tokenOfWord_4) ?_
                      show aw_W _ _ _ _ (14, [some (.ref 20), some (.int (nI p)), some (.int (nI e)), some (.int (nI 4))], [.int (nI 10004)]) (ae_rd σ α tx tl)
                      refine aw_ret rfl rfl trivial ?_
                      refine ⟨?_, rfl⟩
                      rw [tW, if_neg h11, if_neg h11b, if_neg h11c, if_neg h11d, if_pos h11e]
                · skip
                  have h11d := bI_t h11d
                  show aw_W _ _ _ _ (12, [some (.ref 20), some (.int (nI p)), some (.int (nI e)), some (.int (nI 3))], []) (ae_rd σ α tx tl)
                  refine aw_go 1 rfl ⟨trivial, trivial⟩ ?_
                  refine aw_callE rfl rfl (ev_tokenOfWord_3) ?_
                  show aw_W _ _ _ _ (14, [some (.ref 20), some (.int (nI p)), some (.int (nI e)), some (.int (nI 3))], [.int (nI 10003)]) (ae_rd σ α tx tl)
                  refine aw_ret rfl rfl trivial ?_
                  refine ⟨?_, rfl⟩
                  rw [tW, if_neg h11, if_neg h11b, if_neg h11c, if_pos h11d]
            · skip
              have h11c := bI_t h11c
              show aw_W _ _ _ _ (12, [some (.ref 20), some (.int (nI p)), some (.int (nI e)), some (.int (nI 2))], []) (ae_rd σ α tx tl)
              refine aw_go 1 rfl ⟨trivial, trivial⟩ ?_
              refine aw_callE rfl rfl (ev_tokenOfWord_2) ?_
              show aw_W _ _ _ _ (14, [some (.ref 20), some (.int (nI p)), some (.int (nI e)), some (.int (nI 2))], [.int (nI 10002)]) (ae_rd σ α tx tl)
              refine aw_ret rfl rfl trivial ?_
              refine ⟨?_, rfl⟩
              rw [tW, if_neg h11, if_neg h11b, if_pos h11c]
        · skip
          have h11b := bI_t h11b
          show aw_W _ _ _ _ (12, [some (.ref 20), some (.int (nI p)), some (.int (nI e)), some (.int (nI 1))], []) (ae_rd σ α tx tl)
          refine aw_go 1 rfl ⟨trivial, trivial⟩ ?_
          refine aw_callE rfl rfl (ev_tokenOfWord_1) ?_
          show aw_W _ _ _ _ (14, [some (.ref 20), some (.int (nI p)), some (.int (nI e)), some (.int (nI 1))], [.int (nI 10001)]) (ae_rd σ α tx tl)
          refine aw_ret rfl rfl trivial ?_
          refine ⟨?_, rfl⟩
          rw [tW, if_neg h11, if_pos h11b]
    · skip
      have h11 := bI_t h11
      show aw_W _ _ _ _ (12, [some (.ref 20), some (.int (nI p)), some (.int (nI e)), some (.int 0)], []) (ae_rd σ α tx tl)
      refine aw_go 1 rfl ⟨trivial, trivial⟩ ?_
      refine aw_callE rfl rfl (ev_tokenOfWord_0) ?_
      show aw_W _ _ _ _ (14, [some (.ref 20), some (.int (nI p)), some (.int (nI e)), some (.int 0)], [.int (nI 10000)]) (ae_rd σ α tx tl)
      refine aw_ret rfl rfl trivial ?_
      refine ⟨?_, rfl⟩
      rw [tW, if_pos h11]
theorem lp_endOfNumber {zd : Nat} {s p : Nat} (hs : (σ 11) = nI s) (hs160 : s ≤ 160) (m q : Nat) (hq : q ≤ s) (hm : s - q ≤ m) (hI : rE (fun b => decide (isD b)) (α 16) s m q = rE (fun b => decide (isD b)) (α 16) s 160 p) : aw_W P (zd + 1) cd_Reader_endOfNumber (fun r H => r = some (.int (nI (rE (fun b => decide (isD b)) (α 16) s 160 p))) ∧ H = (ae_rd σ α tx tl)) (2, [some (.ref 19), some (.int (nI p)), some (.int (nI q))], []) (ae_rd σ α tx tl) := by
  refine aw_go 4 rfl ⟨trivial, trivial, trivial, trivial, trivial⟩ ?_
  show aw_W _ _ _ _ (if (σ 11) ≤ (nI q) then 14 else 6, [some (.ref 19), some (.int (nI p)), some (.int (nI q))], []) (ae_rd σ α tx tl)
  refine aw_br (c := (σ 11) ≤ (nI q)) (fun h5 => ?_) (fun h5 => ?_)
  · skip
    have h5 := cI_leT (a := s) (b := q) hs rfl (by omega) (by omega) h5
    show aw_W _ _ _ _ (14, [some (.ref 19), some (.int (nI p)), some (.int (nI q))], []) (ae_rd σ α tx tl)
    have e8 : rE (fun b => decide (isD b)) (α 16) s m q = q := by
      cases m with
      | zero => rfl
      | succ m => exact if_neg (by omega)
    rw [e8] at hI
    refine aw_go 1 rfl ⟨trivial, trivial⟩ ?_
    refine aw_ret rfl rfl trivial ?_
    rw [← hI]
    exact ⟨rfl, rfl⟩
  · skip
    have h5 := cI_leF (a := s) (b := q) hs rfl (by omega) (by omega) h5
    show aw_W _ _ _ _ (6, [some (.ref 19), some (.int (nI p)), some (.int (nI q))], []) (ae_rd σ α tx tl)
    obtain ⟨m, rfl⟩ : ∃ r, m = r + 1 := ⟨m - 1, by omega⟩
    refine aw_go 4 rfl ⟨trivial, trivial, trivial, (cI_in (a := q) rfl (by omega) (by decide)), trivial⟩ ?_
    show aw_W _ _ _ _ (10, [some (.ref 19), some (.int (nI p)), some (.int (nI q))], [.int (α 16 (nI q).toNatClampNeg)]) (ae_rd σ α tx tl)
    rw [show (nI q).toNatClampNeg = q from cI_cl (a := q) rfl (by omega)]
    refine aw_callE rfl rfl (ev_Reader_isDigit (b := (α 16 q))) ?_
    show aw_W _ _ _ _ (11, [some (.ref 19), some (.int (nI p)), some (.int (nI q))], [.int (bI (isD (α 16 q)))]) (ae_rd σ α tx tl)
    refine aw_go 1 rfl ⟨trivial, trivial⟩ ?_
    refine aw_br (c := (bI (isD (α 16 q))) = 0) (fun h11 => ?_) (fun h11 => ?_)
    · skip
      have h11 := bI_f h11
      show aw_W _ _ _ _ (14, [some (.ref 19), some (.int (nI p)), some (.int (nI q))], []) (ae_rd σ α tx tl)
      have e8 : rE (fun b => decide (isD b)) (α 16) s (m + 1) q = q := if_neg (fun w => h11 (of_decide_eq_true w.2))
      rw [e8] at hI
      refine aw_go 1 rfl ⟨trivial, trivial⟩ ?_
      refine aw_ret rfl rfl trivial ?_
      rw [← hI]
      exact ⟨rfl, rfl⟩
    · skip
      have h11 := bI_t h11
      show aw_W _ _ _ _ (12, [some (.ref 19), some (.int (nI p)), some (.int (nI q))], []) (ae_rd σ α tx tl)
      have e8 : rE (fun b => decide (isD b)) (α 16) s (m + 1) q = rE (fun b => decide (isD b)) (α 16) s m (q + 1) := if_pos ⟨h5, decide_eq_true h11⟩
      rw [e8] at hI
      refine aw_go 2 rfl ⟨trivial, trivial, trivial⟩ ?_
      show aw_W _ _ _ _ (2, [some (.ref 19), some (.int (nI p)), some (.int ((nI q) + 1))], []) (ae_rd σ α tx tl)
      rw [show (nI q) + 1 = nI (q + 1) from (cI_add (a := q) (b := 1) rfl rfl)]
      exact lp_endOfNumber hs hs160 m (q + 1) (by omega) (by omega) hI
termination_by m
decreasing_by all_goals omega
theorem ev_Reader_endOfNumber {s p : Nat} {zd : Nat} (hs : (σ 11) = nI s) (hs160 : s ≤ 160) (hp : p ≤ s) : ae_Ev P (zd + 2) 74 [.ref 19, .int (nI p)] (ae_rd σ α tx tl) (some (.int (nI (rE (fun b => decide (isD b)) (α 16) s 160 p)))) (ae_rd σ α tx tl) := by
  refine aw_evE (cd := cd_Reader_endOfNumber) rfl rfl rfl ?_
  show aw_W _ _ _ _ (0, [some (.ref 19), some (.int (nI p)), none], []) (ae_rd σ α tx tl)
  refine aw_go 2 rfl ⟨trivial, trivial, trivial⟩ ?_
  exact lp_endOfNumber hs hs160 160 p hp (by omega) rfl
theorem lp_endOfWord {zd : Nat} {s p : Nat} (hs : (σ 11) = nI s) (hs160 : s ≤ 160) (m q : Nat) (hq : q ≤ s) (hm : s - q ≤ m) (hI : rE (fun b => decide (isL b)) (α 16) s m q = rE (fun b => decide (isL b)) (α 16) s 160 p) : aw_W P (zd + 1) cd_Reader_endOfWord (fun r H => r = some (.int (nI (rE (fun b => decide (isL b)) (α 16) s 160 p))) ∧ H = (ae_rd σ α tx tl)) (2, [some (.ref 19), some (.int (nI p)), some (.int (nI q))], []) (ae_rd σ α tx tl) := by
  refine aw_go 4 rfl ⟨trivial, trivial, trivial, trivial, trivial⟩ ?_
  show aw_W _ _ _ _ (if (σ 11) ≤ (nI q) then 14 else 6, [some (.ref 19), some (.int (nI p)), some (.int (nI q))], []) (ae_rd σ α tx tl)
  refine aw_br (c := (σ 11) ≤ (nI q)) (fun h5 => ?_) (fun h5 => ?_)
  · skip
    have h5 := cI_leT (a := s) (b := q) hs rfl (by omega) (by omega) h5
    show aw_W _ _ _ _ (14, [some (.ref 19), some (.int (nI p)), some (.int (nI q))], []) (ae_rd σ α tx tl)
    have e8 : rE (fun b => decide (isL b)) (α 16) s m q = q := by
      cases m with
      | zero => rfl
      | succ m => exact if_neg (by omega)
    rw [e8] at hI
    refine aw_go 1 rfl ⟨trivial, trivial⟩ ?_
    refine aw_ret rfl rfl trivial ?_
    rw [← hI]
    exact ⟨rfl, rfl⟩
  · skip
    have h5 := cI_leF (a := s) (b := q) hs rfl (by omega) (by omega) h5
    show aw_W _ _ _ _ (6, [some (.ref 19), some (.int (nI p)), some (.int (nI q))], []) (ae_rd σ α tx tl)
    obtain ⟨m, rfl⟩ : ∃ r, m = r + 1 := ⟨m - 1, by omega⟩
    refine aw_go 4 rfl ⟨trivial, trivial, trivial, (cI_in (a := q) rfl (by omega) (by decide)), trivial⟩ ?_
    show aw_W _ _ _ _ (10, [some (.ref 19), some (.int (nI p)), some (.int (nI q))], [.int (α 16 (nI q).toNatClampNeg)]) (ae_rd σ α tx tl)
    rw [show (nI q).toNatClampNeg = q from cI_cl (a := q) rfl (by omega)]
    refine aw_callE rfl rfl (ev_Reader_isLetter (b := (α 16 q))) ?_
    show aw_W _ _ _ _ (11, [some (.ref 19), some (.int (nI p)), some (.int (nI q))], [.int (bI (isL (α 16 q)))]) (ae_rd σ α tx tl)
    refine aw_go 1 rfl ⟨trivial, trivial⟩ ?_
    refine aw_br (c := (bI (isL (α 16 q))) = 0) (fun h11 => ?_) (fun h11 => ?_)
    · skip
      have h11 := bI_f h11
      show aw_W _ _ _ _ (14, [some (.ref 19), some (.int (nI p)), some (.int (nI q))], []) (ae_rd σ α tx tl)
      have e8 : rE (fun b => decide (isL b)) (α 16) s (m + 1) q = q := if_neg (fun w => h11 (of_decide_eq_true w.2))
      rw [e8] at hI
      refine aw_go 1 rfl ⟨trivial, trivial⟩ ?_
      refine aw_ret rfl rfl trivial ?_
      rw [← hI]
      exact ⟨rfl, rfl⟩
    · skip
      have h11 := bI_t h11
      show aw_W _ _ _ _ (12, [some (.ref 19), some (.int (nI p)), some (.int (nI q))], []) (ae_rd σ α tx tl)
      have e8 : rE (fun b => decide (isL b)) (α 16) s (m + 1) q = rE (fun b => decide (isL b)) (α 16) s m (q + 1) := if_pos ⟨h5, decide_eq_true h11⟩
      rw [e8] at hI
      refine aw_go 2 rfl ⟨trivial, trivial, trivial⟩ ?_
      show aw_W _ _ _ _ (2, [some (.ref 19), some (.int (nI p)), some (.int ((nI q) + 1))], []) (ae_rd σ α tx tl)
      rw [show (nI q) + 1 = nI (q + 1) from (cI_add (a := q) (b := 1) rfl rfl)]
      exact lp_endOfWord hs hs160 m (q + 1) (by omega) (by omega) hI
termination_by m
decreasing_by all_goals omega
theorem ev_Reader_endOfWord {s p : Nat} {zd : Nat} (hs : (σ 11) = nI s) (hs160 : s ≤ 160) (hp : p ≤ s) : ae_Ev P (zd + 2) 75 [.ref 19, .int (nI p)] (ae_rd σ α tx tl) (some (.int (nI (rE (fun b => decide (isL b)) (α 16) s 160 p)))) (ae_rd σ α tx tl) := by
  refine aw_evE (cd := cd_Reader_endOfWord) rfl rfl rfl ?_
  show aw_W _ _ _ _ (0, [some (.ref 19), some (.int (nI p)), none], []) (ae_rd σ α tx tl)
  refine aw_go 2 rfl ⟨trivial, trivial, trivial⟩ ?_
  exact lp_endOfWord hs hs160 160 p hp (by omega) rfl
theorem lp_number {zd : Nat} {p e : Nat} (hp : p ≤ e) (he : e ≤ 160) (k : Nat) (hk : k ≤ e - p) : aw_W P (zd) cd_Reader_number (fun r H => r = some (.int (nV (α 16) p (e - p))) ∧ H = (ae_rd σ α tx tl)) (4, [some (.ref 19), some (.int (nI p)), some (.int (nI e)), some (.int (nV (α 16) p k)), some (.int (nI (p + k)))], []) (ae_rd σ α tx tl) := by
  refine aw_go 3 rfl ⟨trivial, trivial, trivial, trivial⟩ ?_
  refine aw_br (c := (nI e) ≤ (nI (p + k))) (fun h6 => ?_) (fun h6 => ?_)
  · skip
    have h6 := cI_leT (a := e) (b := p + k) rfl rfl (by omega) (by omega) h6
    show aw_W _ _ _ _ (20, [some (.ref 19), some (.int (nI p)), some (.int (nI e)), some (.int (nV (α 16) p k)), some (.int (nI (p + k)))], []) (ae_rd σ α tx tl)
    have e8 : k = e - p := by omega
    refine aw_go 1 rfl ⟨trivial, trivial⟩ ?_
    refine aw_ret rfl rfl trivial ?_
    rw [e8]
    exact ⟨rfl, rfl⟩
  · skip
    have h6 := cI_leF (a := e) (b := p + k) rfl rfl (by omega) (by omega) h6
    show aw_W _ _ _ _ (7, [some (.ref 19), some (.int (nI p)), some (.int (nI e)), some (.int (nV (α 16) p k)), some (.int (nI (p + k)))], []) (ae_rd σ α tx tl)
    refine aw_go 13 rfl ⟨trivial, trivial, trivial, trivial, trivial, trivial, (cI_in (a := p + k) rfl (by omega) (by decide)), trivial, trivial, trivial, trivial, trivial, trivial, trivial⟩ ?_
    show aw_W _ _ _ _ (4, [some (.ref 19), some (.int (nI p)), some (.int (nI e)), some (.int ((((nV (α 16) p k) * 10) + (α 16 (nI (p + k)).toNatClampNeg)) - 48)), some (.int ((nI (p + k)) + 1))], []) (ae_rd σ α tx tl)
    rw [show (nI (p + k)).toNatClampNeg = p + k from cI_cl (a := p + k) rfl (by omega)]
    rw [show (nI (p + k)) + 1 = nI ((p + k) + 1) from (cI_add (a := p + k) (b := 1) rfl rfl)]
    exact lp_number hp he (k + 1) (by omega)
termination_by e - p - k
decreasing_by all_goals omega
theorem ev_Reader_number {p e : Nat} {zd : Nat} (hp : p ≤ e) (he : e ≤ 160) : ae_Ev P (zd + 1) 76 [.ref 19, .int (nI p), .int (nI e)] (ae_rd σ α tx tl) (some (.int (nV (α 16) p (e - p)))) (ae_rd σ α tx tl) := by
  refine aw_evE (cd := cd_Reader_number) rfl rfl rfl ?_
  show aw_W _ _ _ _ (0, [some (.ref 19), some (.int (nI p)), some (.int (nI e)), none, none], []) (ae_rd σ α tx tl)
  refine aw_go 4 rfl ⟨trivial, trivial, trivial, trivial, trivial⟩ ?_
  exact aw_to (lp_number hp he 0 (Nat.zero_le _)) rfl rfl
theorem ev_Reader_addToken {c p : Nat} {t : Int32} {zd : Nat} (hc : (σ 12) = nI c) (hc161 : c < 161) : aw_X P (zd + 1) 71 [.ref 19, .int t, .int (nI p)] (ae_rd σ α tx tl) (fun r H => r = none ∧ H = (ae_rd (au σ [(12, nI (c + 1))]) (au α [(17, upd (α 17) c t), (18, upd (α 18) c (nI p))]) tx tl)) := by
  refine aw_ev (cd := cd_Reader_addToken) rfl rfl rfl ?_
  show aw_W _ _ _ _ (0, [some (.ref 19), some (.int t), some (.int (nI p))], []) (ae_rd σ α tx tl)
  refine aw_go 6 rfl ⟨trivial, trivial, trivial, trivial, trivial, trivial, trivial⟩ ?_
  show aw_W _ _ _ _ (if (161 : Int32) ≤ (σ 12) then 24 else 6, [some (.ref 19), some (.int t), some (.int (nI p))], []) (ae_rd σ α tx tl)
  refine aw_br (c := (161 : Int32) ≤ (σ 12)) (fun h5 => ?_) (fun h5 => ?_)
  · skip
    have h5 := cI_leT (a := 161) (b := c) rfl hc (by omega) (by omega) h5
    show aw_W _ _ _ _ (24, [some (.ref 19), some (.int t), some (.int (nI p))], []) (ae_rd σ α tx tl)
    exact absurd h5 (by omega)
  · skip
    have h5 := cI_leF (a := 161) (b := c) rfl hc (by omega) (by omega) h5
    show aw_W _ _ _ _ (6, [some (.ref 19), some (.int t), some (.int (nI p))], []) (ae_rd σ α tx tl)
    refine aw_go 18 rfl ⟨trivial, trivial, trivial, trivial, trivial, (cI_in (a := c) hc (by omega) (by decide)), trivial, trivial, trivial, trivial, trivial, (cI_in (a := c) hc (by omega) (by decide)), trivial, trivial, trivial, trivial, trivial, trivial, trivial⟩ ?_
    show aw_W _ _ _ _ (24, [some (.ref 19), some (.int t), some (.int (nI p))], []) (ae_rd (au σ [(12, (σ 12) + 1)]) (au α [(17, upd (α 17) (σ 12).toNatClampNeg t), (18, upd (α 18) (σ 12).toNatClampNeg (nI p))]) tx tl)
    rw [show (σ 12).toNatClampNeg = c from cI_cl (a := c) hc (by omega)]
    rw [show (σ 12) + 1 = nI (c + 1) from cI_add hc rfl]
    refine aw_ret rfl rfl trivial ?_
    exact ⟨rfl, rfl⟩
end L34
