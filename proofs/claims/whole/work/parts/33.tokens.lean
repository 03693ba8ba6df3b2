/-! what lies on the tape, as tokens (class) -/
/-- the class' cells, the row of texts and what lies behind left open -/
def ae_rd (σ : Nat → Int32) (α : Nat → Nat → Int32) (tx : Nat → Option Nat) (tl : List va_E) : ae_H :=
  (.inr (6, [.ref 1, .ref 10, .int (σ 0), .ref 19, .ref 25, .ref 28, .ref 34])) ::
  (.inr (0, [.int (σ 1), .int (σ 2), .int (σ 3), .int (σ 4), .int (σ 5), .ref 2, .ref 3, .ref 4, .ref 5, .ref 6, .ref 7, .ref 8, .ref 9])) ::
  (.inl (0, 10, .inl (α 0))) ::
  (.inl (0, 10, .inl (α 1))) ::
  (.inl (0, 10, .inl (α 2))) ::
  (.inl (0, 10, .inl (α 3))) ::
  (.inl (0, 10, .inl (α 4))) ::
  (.inl (0, 9, .inl (α 5))) ::
  (.inl (0, 9, .inl (α 6))) ::
  (.inl (0, 9, .inl (α 7))) ::
  (.inr (0, [.int (σ 6), .int (σ 7), .int (σ 8), .int (σ 9), .int (σ 10), .ref 11, .ref 12, .ref 13, .ref 14, .ref 15, .ref 16, .ref 17, .ref 18])) ::
  (.inl (0, 10, .inl (α 8))) ::
  (.inl (0, 10, .inl (α 9))) ::
  (.inl (0, 10, .inl (α 10))) ::
  (.inl (0, 10, .inl (α 11))) ::
  (.inl (0, 10, .inl (α 12))) ::
  (.inl (0, 9, .inl (α 13))) ::
  (.inl (0, 9, .inl (α 14))) ::
  (.inl (0, 9, .inl (α 15))) ::
  (.inr (2, [.ref 20, .int (σ 11), .ref 21, .ref 22, .int (σ 12), .int (σ 13), .ref 23, .int (σ 14), .ref 24])) ::
  (.inl (1, 160, .inl (α 16))) ::
  (.inl (0, 161, .inl (α 17))) ::
  (.inl (0, 161, .inl (α 18))) ::
  (.inl (0, 160, .inl (α 19))) ::
  (.inl (0, 3, .inl (α 20))) ::
  (.inr (3, [.ref 26, .int (σ 15), .ref 27, .int (σ 16)])) ::
  (.inl (3, 6, .inr (.inr (.inr (.inr (tx)))))) ::
  (.inl (0, 160, .inl (α 21))) ::
  (.inr (1, [.ref 1, .ref 25, .ref 29, .ref 30, .ref 31, .ref 32, .ref 33, .int (σ 17)])) ::
  (.inl (0, 610, .inl (α 22))) ::
  (.inl (0, 6, .inl (α 23))) ::
  (.inl (0, 9, .inl (α 24))) ::
  (.inl (0, 9, .inl (α 25))) ::
  (.inl (0, 9, .inl (α 26))) ::
  (.inl (2, 4, .inr (.inr (.inr (.inr ae_shs))))) ::
  (.inr (4, [.int (σ 18), .int (σ 19), .ref 36])) ::
  (.inl (0, 40, .inl (α 27))) ::
  (.inr (4, [.int (σ 20), .int (σ 21), .ref 38])) ::
  (.inl (0, 40, .inl (α 28))) ::
  (.inr (4, [.int (σ 22), .int (σ 23), .ref 40])) ::
  (.inl (0, 40, .inl (α 29))) ::
  (.inr (4, [.int (σ 24), .int (σ 25), .ref 42])) ::
  (.inl (0, 40, .inl (α 30))) ::
  tl
abbrev isD (b : Int32) : Prop := ¬ b < 48 ∧ ¬ 57 < b
abbrev isL (b : Int32) : Prop := ¬ b < 97 ∧ ¬ 122 < b
/-- the end of a run of bytes -/
def rE (c : Int32 → Bool) (f : Nat → Int32) (s : Nat) : Nat → Nat → Nat
  | 0, p => p
  | m + 1, p => if p < s ∧ c (f p) = true then rE c f s m (p + 1) else p
theorem rE_ge (c : Int32 → Bool) (f : Nat → Int32) (s : Nat) : ∀ (m p : Nat), p ≤ rE c f s m p
  | 0, p => Nat.le_refl p
  | m + 1, p => by
    unfold rE
    split
    · exact Nat.le_trans (Nat.le_succ p) (rE_ge c f s m (p + 1))
    · exact Nat.le_refl p
theorem rE_le (c : Int32 → Bool) (f : Nat → Int32) (s : Nat) : ∀ (m p : Nat), p ≤ s → rE c f s m p ≤ s
  | 0, p, h => h
  | m + 1, p, h => by
    unfold rE
    split
    · exact rE_le c f s m (p + 1) (by omega)
    · exact h
def nV (f : Nat → Int32) (p : Nat) : Nat → Int32
  | 0 => 0
  | k + 1 => nV f p k * 10 + f (p + k) - 48
def bS (k j : Nat) : Int32 := (ae_bytS.getD k []).getD j 0
abbrev wMp (f : Nat → Int32) (p len k : Nat) : Prop := len = ae_lenS.getD k 0 ∧ ∀ j, j < ae_lenS.getD k 0 → f (p + j) = bS k j
def tW (f : Nat → Int32) (p len : Nat) : Int32 := if wMp f p len 1 then nI 10000 else if wMp f p len 2 then nI 10001 else if wMp f p len 3 then nI 10002 else if wMp f p len 4 then nI 10003 else if wMp f p len 5 then nI 10004 else if wMp f p len 6 then nI 10005 else if wMp f p len 7 then -13 else if wMp f p len 8 then -14 else if wMp f p len 9 then -15 else if wMp f p len 10 then -1 else if wMp f p len 11 then -2 else if wMp f p len 12 then -3 else -16
def tSg (b : Int32) : Int32 := if b = 40 then -9 else if b = 41 then -10 else if b = 42 then -8 else if b = 43 then -6 else if b = 45 then -7 else if b = 59 then -11 else if b = 60 then -4 else if b = 61 then -5 else -16
theorem chV : ∀ k, k < 13 → ∀ j, j < ae_lenS.getD k 0 → ((bS k j &&& 255).toUInt32 % 65536).toInt32 = bS k j ∧ narrow .char (.int (bS k j)) = .int (bS k j) := by decide
section L33
variable {P : ae_P} {H : ae_H}

theorem ev_coder_0  {zd : Nat}  : ae_Ev P (zd + 1) 181 [.retAddr 0] H (some (.int 0)) H := by
  refine aw_evE (cd := cd_String_coder) rfl rfl rfl ?_
  show aw_W _ _ _ _ (0, [some (.retAddr 0)], []) H
  refine aw_go 2 rfl ⟨trivial, trivial, trivial⟩ ?_
  refine aw_br (c := (1 : Int32) = 0) (fun h1 => ?_) (fun h1 => ?_)
  · skip
    have h1 := cI_eqT (a := 1) (b := 0) rfl rfl (by omega) (by omega) h1
    show aw_W _ _ _ _ (5, [some (.retAddr 0)], []) H
    exact absurd h1 (by decide)
  · skip
    have h1 := cI_eqF (a := 1) (b := 0) rfl rfl (by omega) (by omega) h1
    show aw_W _ _ _ _ (2, [some (.retAddr 0)], []) H
    refine aw_go 3 rfl ⟨trivial, trivial, trivial, trivial⟩ ?_
    show aw_W _ _ _ _ (6, [some (.retAddr 0)], [.int 0]) H
    refine aw_ret rfl rfl rfl ?_
    refine ⟨?_, rfl⟩
    rfl
theorem ev_isLatin1_0  {zd : Nat}  : ae_Ev P (zd + 1) 182 [.retAddr 0] H (some (.int 1)) H := by
  refine aw_evE (cd := cd_String_isLatin1) rfl rfl rfl ?_
  show aw_W _ _ _ _ (0, [some (.retAddr 0)], []) H
  refine aw_go 2 rfl ⟨trivial, trivial, trivial⟩ ?_
  refine aw_br (c := (1 : Int32) = 0) (fun h1 => ?_) (fun h1 => ?_)
  · skip
    have h1 := cI_eqT (a := 1) (b := 0) rfl rfl (by omega) (by omega) h1
    show aw_W _ _ _ _ (7, [some (.retAddr 0)], []) H
    exact absurd h1 (by decide)
  · skip
    have h1 := cI_eqF (a := 1) (b := 0) rfl rfl (by omega) (by omega) h1
    show aw_W _ _ _ _ (2, [some (.retAddr 0)], []) H
    refine aw_go 3 rfl ⟨trivial, trivial, trivial, trivial⟩ ?_
    show aw_W _ _ _ _ (if ¬ (0 : Int32) = 0 then 7 else 5, [some (.retAddr 0)], []) H
    refine aw_br (c := ¬ (0 : Int32) = 0) (fun h4 => ?_) (fun h4 => ?_)
    · skip
      have h4 := cI_eqF (a := 0) (b := 0) rfl rfl (by omega) (by omega) h4
      show aw_W _ _ _ _ (7, [some (.retAddr 0)], []) H
      exact absurd rfl h4
    · skip
      have h4 := Classical.not_not.mp h4
      have h4 := cI_eqT (a := 0) (b := 0) rfl rfl (by omega) (by omega) h4
      show aw_W _ _ _ _ (5, [some (.retAddr 0)], []) H
      refine aw_go 2 rfl ⟨trivial, trivial, trivial⟩ ?_
      refine aw_ret rfl rfl (by first | exact Or.inl rfl | exact Or.inr rfl | exact bI_b _) ?_
      refine ⟨?_, rfl⟩
      rfl
theorem ev_length_0  {zd : Nat}  : ae_Ev P (zd + 2) 179 [.retAddr 0] H (some (.int 83)) H := by
  refine aw_evE (cd := cd_String_length) rfl rfl rfl ?_
  show aw_W _ _ _ _ (0, [some (.retAddr 0)], []) H
  refine aw_go 4 rfl ⟨trivial, trivial, trivial, trivial, trivial⟩ ?_
  show aw_W _ _ _ _ (4, [some (.retAddr 0)], [.retAddr 0, .int 83]) H
  refine aw_callE rfl rfl (ev_coder_0) ?_
  show aw_W _ _ _ _ (5, [some (.retAddr 0)], [.int 0, .int 83]) H
  refine aw_go 1 rfl ⟨trivial, trivial⟩ ?_
  show aw_W _ _ _ _ (6, [some (.retAddr 0)], [.int ((83 : Int32) >>> (0 &&& 31))]) H
  refine aw_ret rfl rfl trivial ?_
  refine ⟨?_, rfl⟩
  rfl
theorem ev_coder_1  {zd : Nat}  : ae_Ev P (zd + 1) 181 [.retAddr 1] H (some (.int 0)) H := by
  refine aw_evE (cd := cd_String_coder) rfl rfl rfl ?_
  show aw_W _ _ _ _ (0, [some (.retAddr 1)], []) H
  refine aw_go 2 rfl ⟨trivial, trivial, trivial⟩ ?_
  refine aw_br (c := (1 : Int32) = 0) (fun h1 => ?_) (fun h1 => ?_)
  · skip
    have h1 := cI_eqT (a := 1) (b := 0) rfl rfl (by omega) (by omega) h1
    show aw_W _ _ _ _ (5, [some (.retAddr 1)], []) H
    exact absurd h1 (by decide)
  · skip
    have h1 := cI_eqF (a := 1) (b := 0) rfl rfl (by omega) (by omega) h1
    show aw_W _ _ _ _ (2, [some (.retAddr 1)], []) H
    refine aw_go 3 rfl ⟨trivial, trivial, trivial, trivial⟩ ?_
    show aw_W _ _ _ _ (6, [some (.retAddr 1)], [.int 0]) H
    refine aw_ret rfl rfl rfl ?_
    refine ⟨?_, rfl⟩
    rfl
theorem ev_isLatin1_1  {zd : Nat}  : ae_Ev P (zd + 1) 182 [.retAddr 1] H (some (.int 1)) H := by
  refine aw_evE (cd := cd_String_isLatin1) rfl rfl rfl ?_
  show aw_W _ _ _ _ (0, [some (.retAddr 1)], []) H
  refine aw_go 2 rfl ⟨trivial, trivial, trivial⟩ ?_
  refine aw_br (c := (1 : Int32) = 0) (fun h1 => ?_) (fun h1 => ?_)
  · skip
    have h1 := cI_eqT (a := 1) (b := 0) rfl rfl (by omega) (by omega) h1
    show aw_W _ _ _ _ (7, [some (.retAddr 1)], []) H
    exact absurd h1 (by decide)
  · skip
    have h1 := cI_eqF (a := 1) (b := 0) rfl rfl (by omega) (by omega) h1
    show aw_W _ _ _ _ (2, [some (.retAddr 1)], []) H
    refine aw_go 3 rfl ⟨trivial, trivial, trivial, trivial⟩ ?_
    show aw_W _ _ _ _ (if ¬ (0 : Int32) = 0 then 7 else 5, [some (.retAddr 1)], []) H
    refine aw_br (c := ¬ (0 : Int32) = 0) (fun h4 => ?_) (fun h4 => ?_)
    · skip
      have h4 := cI_eqF (a := 0) (b := 0) rfl rfl (by omega) (by omega) h4
      show aw_W _ _ _ _ (7, [some (.retAddr 1)], []) H
      exact absurd rfl h4
    · skip
      have h4 := Classical.not_not.mp h4
      have h4 := cI_eqT (a := 0) (b := 0) rfl rfl (by omega) (by omega) h4
      show aw_W _ _ _ _ (5, [some (.retAddr 1)], []) H
      refine aw_go 2 rfl ⟨trivial, trivial, trivial⟩ ?_
      refine aw_ret rfl rfl (by first | exact Or.inl rfl | exact Or.inr rfl | exact bI_b _) ?_
      refine ⟨?_, rfl⟩
      rfl
theorem ev_length_1  {zd : Nat}  : ae_Ev P (zd + 2) 179 [.retAddr 1] H (some (.int 3)) H := by
  refine aw_evE (cd := cd_String_length) rfl rfl rfl ?_
  show aw_W _ _ _ _ (0, [some (.retAddr 1)], []) H
  refine aw_go 4 rfl ⟨trivial, trivial, trivial, trivial, trivial⟩ ?_
  show aw_W _ _ _ _ (4, [some (.retAddr 1)], [.retAddr 1, .int 3]) H
  refine aw_callE rfl rfl (ev_coder_1) ?_
  show aw_W _ _ _ _ (5, [some (.retAddr 1)], [.int 0, .int 3]) H
  refine aw_go 1 rfl ⟨trivial, trivial⟩ ?_
  show aw_W _ _ _ _ (6, [some (.retAddr 1)], [.int ((3 : Int32) >>> (0 &&& 31))]) H
  refine aw_ret rfl rfl trivial ?_
  refine ⟨?_, rfl⟩
  rfl
theorem ev_coder_2  {zd : Nat}  : ae_Ev P (zd + 1) 181 [.retAddr 2] H (some (.int 0)) H := by
  refine aw_evE (cd := cd_String_coder) rfl rfl rfl ?_
  show aw_W _ _ _ _ (0, [some (.retAddr 2)], []) H
  refine aw_go 2 rfl ⟨trivial, trivial, trivial⟩ ?_
  refine aw_br (c := (1 : Int32) = 0) (fun h1 => ?_) (fun h1 => ?_)
  · skip
    have h1 := cI_eqT (a := 1) (b := 0) rfl rfl (by omega) (by omega) h1
    show aw_W _ _ _ _ (5, [some (.retAddr 2)], []) H
    exact absurd h1 (by decide)
  · skip
    have h1 := cI_eqF (a := 1) (b := 0) rfl rfl (by omega) (by omega) h1
    show aw_W _ _ _ _ (2, [some (.retAddr 2)], []) H
    refine aw_go 3 rfl ⟨trivial, trivial, trivial, trivial⟩ ?_
    show aw_W _ _ _ _ (6, [some (.retAddr 2)], [.int 0]) H
    refine aw_ret rfl rfl rfl ?_
    refine ⟨?_, rfl⟩
    rfl
theorem ev_isLatin1_2  {zd : Nat}  : ae_Ev P (zd + 1) 182 [.retAddr 2] H (some (.int 1)) H := by
  refine aw_evE (cd := cd_String_isLatin1) rfl rfl rfl ?_
  show aw_W _ _ _ _ (0, [some (.retAddr 2)], []) H
  refine aw_go 2 rfl ⟨trivial, trivial, trivial⟩ ?_
  refine aw_br (c := (1 : Int32) = 0) (fun h1 => ?_) (fun h1 => ?_)
  · skip
    have h1 := cI_eqT (a := 1) (b := 0) rfl rfl (by omega) (by omega) h1
    show aw_W _ _ _ _ (7, [some (.retAddr 2)], []) H
    exact absurd h1 (by decide)
  · skip
    have h1 := cI_eqF (a := 1) (b := 0) rfl rfl (by omega) (by omega) h1
    show aw_W _ _ _ _ (2, [some (.retAddr 2)], []) H
    refine aw_go 3 rfl ⟨trivial, trivial, trivial, trivial⟩ ?_
    show aw_W _ _ _ _ (if ¬ (0 : Int32) = 0 then 7 else 5, [some (.retAddr 2)], []) H
    refine aw_br (c := ¬ (0 : Int32) = 0) (fun h4 => ?_) (fun h4 => ?_)
    · skip
      have h4 := cI_eqF (a := 0) (b := 0) rfl rfl (by omega) (by omega) h4
      show aw_W _ _ _ _ (7, [some (.retAddr 2)], []) H
      exact absurd rfl h4
    · skip
      have h4 := Classical.not_not.mp h4
      have h4 := cI_eqT (a := 0) (b := 0) rfl rfl (by omega) (by omega) h4
      show aw_W _ _ _ _ (5, [some (.retAddr 2)], []) H
      refine aw_go 2 rfl ⟨trivial, trivial, trivial⟩ ?_
      refine aw_ret rfl rfl (by first | exact Or.inl rfl | exact Or.inr rfl | exact bI_b _) ?_
      refine ⟨?_, rfl⟩
      rfl
theorem ev_length_2  {zd : Nat}  : ae_Ev P (zd + 2) 179 [.retAddr 2] H (some (.int 3)) H := by
  refine aw_evE (cd := cd_String_length) rfl rfl rfl ?_
  show aw_W _ _ _ _ (0, [some (.retAddr 2)], []) H
  refine aw_go 4 rfl ⟨trivial, trivial, trivial, trivial, trivial⟩ ?_
  show aw_W _ _ _ _ (4, [some (.retAddr 2)], [.retAddr 2, .int 3]) H
  refine aw_callE rfl rfl (ev_coder_2) ?_
  show aw_W _ _ _ _ (5, [some (.retAddr 2)], [.int 0, .int 3]) H
  refine aw_go 1 rfl ⟨trivial, trivial⟩ ?_
  show aw_W _ _ _ _ (6, [some (.retAddr 2)], [.int ((3 : Int32) >>> (0 &&& 31))]) H
  refine aw_ret rfl rfl trivial ?_
  refine ⟨?_, rfl⟩
  rfl
theorem ev_coder_3  {zd : Nat}  : ae_Ev P (zd + 1) 181 [.retAddr 3] H (some (.int 0)) H := by
  refine aw_evE (cd := cd_String_coder) rfl rfl rfl ?_
  show aw_W _ _ _ _ (0, [some (.retAddr 3)], []) H
  refine aw_go 2 rfl ⟨trivial, trivial, trivial⟩ ?_
  refine aw_br (c := (1 : Int32) = 0) (fun h1 => ?_) (fun h1 => ?_)
  · skip
    have h1 := cI_eqT (a := 1) (b := 0) rfl rfl (by omega) (by omega) h1
    show aw_W _ _ _ _ (5, [some (.retAddr 3)], []) H
    exact absurd h1 (by decide)
  · skip
    have h1 := cI_eqF (a := 1) (b := 0) rfl rfl (by omega) (by omega) h1
    show aw_W _ _ _ _ (2, [some (.retAddr 3)], []) H
    refine aw_go 3 rfl ⟨trivial, trivial, trivial, trivial⟩ ?_
    show aw_W _ _ _ _ (6, [some (.retAddr 3)], [.int 0]) H
    refine aw_ret rfl rfl rfl ?_
    refine ⟨?_, rfl⟩
    rfl
theorem ev_isLatin1_3  {zd : Nat}  : ae_Ev P (zd + 1) 182 [.retAddr 3] H (some (.int 1)) H := by
  refine aw_evE (cd := cd_String_isLatin1) rfl rfl rfl ?_
  show aw_W _ _ _ _ (0, [some (.retAddr 3)], []) H
  refine aw_go 2 rfl ⟨trivial, trivial, trivial⟩ ?_
  refine aw_br (c := (1 : Int32) = 0) (fun h1 => ?_) (fun h1 => ?_)
  · skip
    have h1 := cI_eqT (a := 1) (b := 0) rfl rfl (by omega) (by omega) h1
    show aw_W _ _ _ _ (7, [some (.retAddr 3)], []) H
    exact absurd h1 (by decide)
  · skip
    have h1 := cI_eqF (a := 1) (b := 0) rfl rfl (by omega) (by omega) h1
    show aw_W _ _ _ _ (2, [some (.retAddr 3)], []) H
    refine aw_go 3 rfl ⟨trivial, trivial, trivial, trivial⟩ ?_
    show aw_W _ _ _ _ (if ¬ (0 : Int32) = 0 then 7 else 5, [some (.retAddr 3)], []) H
    refine aw_br (c := ¬ (0 : Int32) = 0) (fun h4 => ?_) (fun h4 => ?_)
    · skip
      have h4 := cI_eqF (a := 0) (b := 0) rfl rfl (by omega) (by omega) h4
      show aw_W _ _ _ _ (7, [some (.retAddr 3)], []) H
      exact absurd rfl h4
    · skip
      have h4 := Classical.not_not.mp h4
      have h4 := cI_eqT (a := 0) (b := 0) rfl rfl (by omega) (by omega) h4
      show aw_W _ _ _ _ (5, [some (.retAddr 3)], []) H
      refine aw_go 2 rfl ⟨trivial, trivial, trivial⟩ ?_
      refine aw_ret rfl rfl (by first | exact Or.inl rfl | exact Or.inr rfl | exact bI_b _) ?_
      refine ⟨?_, rfl⟩
      rfl
theorem ev_length_3  {zd : Nat}  : ae_Ev P (zd + 2) 179 [.retAddr 3] H (some (.int 4)) H := by
  refine aw_evE (cd := cd_String_length) rfl rfl rfl ?_
  show aw_W _ _ _ _ (0, [some (.retAddr 3)], []) H
  refine aw_go 4 rfl ⟨trivial, trivial, trivial, trivial, trivial⟩ ?_
  show aw_W _ _ _ _ (4, [some (.retAddr 3)], [.retAddr 3, .int 4]) H
  refine aw_callE rfl rfl (ev_coder_3) ?_
  show aw_W _ _ _ _ (5, [some (.retAddr 3)], [.int 0, .int 4]) H
  refine aw_go 1 rfl ⟨trivial, trivial⟩ ?_
  show aw_W _ _ _ _ (6, [some (.retAddr 3)], [.int ((4 : Int32) >>> (0 &&& 31))]) H
  refine aw_ret rfl rfl trivial ?_
  refine ⟨?_, rfl⟩
  rfl
theorem ev_coder_4  {zd : Nat}  : ae_Ev P (zd + 1) 181 [.retAddr 4] H (some (.int 0)) H := by
  refine aw_evE (cd := cd_String_coder) rfl rfl rfl ?_
  show aw_W _ _ _ _ (0, [some (.retAddr 4)], []) H
  refine aw_go 2 rfl ⟨trivial, trivial, trivial⟩ ?_
  refine aw_br (c := (1 : Int32) = 0) (fun h1 => ?_) (fun h1 => ?_)
  · skip
    have h1 := cI_eqT (a := 1) (b := 0) rfl rfl (by omega) (by omega) h1
    show aw_W _ _ _ _ (5, [some (.retAddr 4)], []) H
    exact absurd h1 (by decide)
  · skip
    have h1 := cI_eqF (a := 1) (b := 0) rfl rfl (by omega) (by omega) h1
    show aw_W _ _ _ _ (2, [some (.retAddr 4)], []) H
    refine aw_go 3 rfl ⟨trivial, trivial, trivial, trivial⟩ ?_
    show aw_W _ _ _ _ (6, [some (.retAddr 4)], [.int 0]) H
    refine aw_ret rfl rfl rfl ?_
    refine ⟨?_, rfl⟩
    rfl
theorem ev_isLatin1_4  {zd : Nat}  : ae_Ev P (zd + 1) 182 [.retAddr 4] H (some (.int 1)) H := by
  refine aw_evE (cd := cd_String_isLatin1) rfl rfl rfl ?_
  show aw_W _ _ _ _ (0, [some (.retAddr 4)], []) H
  refine aw_go 2 rfl ⟨trivial, trivial, trivial⟩ ?_
  refine aw_br (c := (1 : Int32) = 0) (fun h1 => ?_) (fun h1 => ?_)
  · skip
    have h1 := cI_eqT (a := 1) (b := 0) rfl rfl (by omega) (by omega) h1
    show aw_W _ _ _ _ (7, [some (.retAddr 4)], []) H
    exact absurd h1 (by decide)
  · skip
    have h1 := cI_eqF (a := 1) (b := 0) rfl rfl (by omega) (by omega) h1
    show aw_W _ _ _ _ (2, [some (.retAddr 4)], []) H
    refine aw_go 3 rfl ⟨trivial, trivial, trivial, trivial⟩ ?_
    show aw_W _ _ _ _ (if ¬ (0 : Int32) = 0 then 7 else 5, [some (.retAddr 4)], []) H
    refine aw_br (c := ¬ (0 : Int32) = 0) (fun h4 => ?_) (fun h4 => ?_)
    · skip
      have h4 := cI_eqF (a := 0) (b := 0) rfl rfl (by omega) (by omega) h4
      show aw_W _ _ _ _ (7, [some (.retAddr 4)], []) H
      exact absurd rfl h4
    · skip
      have h4 := Classical.not_not.mp h4
      have h4 := cI_eqT (a := 0) (b := 0) rfl rfl (by omega) (by omega) h4
      show aw_W _ _ _ _ (5, [some (.retAddr 4)], []) H
      refine aw_go 2 rfl ⟨trivial, trivial, trivial⟩ ?_
      refine aw_ret rfl rfl (by first | exact Or.inl rfl | exact Or.inr rfl | exact bI_b _) ?_
      refine ⟨?_, rfl⟩
      rfl
theorem ev_length_4  {zd : Nat}  : ae_Ev P (zd + 2) 179 [.retAddr 4] H (some (.int 3)) H := by
  refine aw_evE (cd := cd_String_length) rfl rfl rfl ?_
  show aw_W _ _ _ _ (0, [some (.retAddr 4)], []) H
  refine aw_go 4 rfl ⟨trivial, trivial, trivial, trivial, trivial⟩ ?_
  show aw_W _ _ _ _ (4, [some (.retAddr 4)], [.retAddr 4, .int 3]) H
  refine aw_callE rfl rfl (ev_coder_4) ?_
  show aw_W _ _ _ _ (5, [some (.retAddr 4)], [.int 0, .int 3]) H
  refine aw_go 1 rfl ⟨trivial, trivial⟩ ?_
  show aw_W _ _ _ _ (6, [some (.retAddr 4)], [.int ((3 : Int32) >>> (0 &&& 31))]) H
  refine aw_ret rfl rfl trivial ?_
  refine ⟨?_, rfl⟩
  rfl
theorem ev_coder_5  {zd : Nat}  : ae_Ev P (zd + 1) 181 [.retAddr 5] H (some (.int 0)) H := by
  refine aw_evE (cd := cd_String_coder) rfl rfl rfl ?_
  show aw_W _ _ _ _ (0, [some (.retAddr 5)], []) H
  refine aw_go 2 rfl ⟨trivial, trivial, trivial⟩ ?_
  refine aw_br (c := (1 : Int32) = 0) (fun h1 => ?_) (fun h1 => ?_)
  · skip
    have h1 := cI_eqT (a := 1) (b := 0) rfl rfl (by omega) (by omega) h1
    show aw_W _ _ _ _ (5, [some (.retAddr 5)], []) H
    exact absurd h1 (by decide)
  · skip
    have h1 := cI_eqF (a := 1) (b := 0) rfl rfl (by omega) (by omega) h1
    show aw_W _ _ _ _ (2, [some (.retAddr 5)], []) H
    refine aw_go 3 rfl ⟨trivial, trivial, trivial, trivial⟩ ?_
    show aw_W _ _ _ _ (6, [some (.retAddr 5)], [.int 0]) H
    refine aw_ret rfl rfl rfl ?_
    refine ⟨?_, rfl⟩
    rfl
theorem ev_isLatin1_5  {zd : Nat}  : ae_Ev P (zd + 1) 182 [.retAddr 5] H (some (.int 1)) H := by
  refine aw_evE (cd := cd_String_isLatin1) rfl rfl rfl ?_
  show aw_W _ _ _ _ (0, [some (.retAddr 5)], []) H
  refine aw_go 2 rfl ⟨trivial, trivial, trivial⟩ ?_
  refine aw_br (c := (1 : Int32) = 0) (fun h1 => ?_) (fun h1 => ?_)
  · skip
    have h1 := cI_eqT (a := 1) (b := 0) rfl rfl (by omega) (by omega) h1
    show aw_W _ _ _ _ (7, [some (.retAddr 5)], []) H
    exact absurd h1 (by decide)
  · skip
    have h1 := cI_eqF (a := 1) (b := 0) rfl rfl (by omega) (by omega) h1
    show aw_W _ _ _ _ (2, [some (.retAddr 5)], []) H
    refine aw_go 3 rfl ⟨trivial, trivial, trivial, trivial⟩ ?_
    show aw_W _ _ _ _ (if ¬ (0 : Int32) = 0 then 7 else 5, [some (.retAddr 5)], []) H
    refine aw_br (c := ¬ (0 : Int32) = 0) (fun h4 => ?_) (fun h4 => ?_)
    · skip
      have h4 := cI_eqF (a := 0) (b := 0) rfl rfl (by omega) (by omega) h4
      show aw_W _ _ _ _ (7, [some (.retAddr 5)], []) H
      exact absurd rfl h4
    · skip
      have h4 := Classical.not_not.mp h4
      have h4 := cI_eqT (a := 0) (b := 0) rfl rfl (by omega) (by omega) h4
      show aw_W _ _ _ _ (5, [some (.retAddr 5)], []) H
      refine aw_go 2 rfl ⟨trivial, trivial, trivial⟩ ?_
      refine aw_ret rfl rfl (by first | exact Or.inl rfl | exact Or.inr rfl | exact bI_b _) ?_
      refine ⟨?_, rfl⟩
      rfl
theorem ev_length_5  {zd : Nat}  : ae_Ev P (zd + 2) 179 [.retAddr 5] H (some (.int 3)) H := by
  refine aw_evE (cd := cd_String_length) rfl rfl rfl ?_
  show aw_W _ _ _ _ (0, [some (.retAddr 5)], []) H
  refine aw_go 4 rfl ⟨trivial, trivial, trivial, trivial, trivial⟩ ?_
  show aw_W _ _ _ _ (4, [some (.retAddr 5)], [.retAddr 5, .int 3]) H
  refine aw_callE rfl rfl (ev_coder_5) ?_
  show aw_W _ _ _ _ (5, [some (.retAddr 5)], [.int 0, .int 3]) H
  refine aw_go 1 rfl ⟨trivial, trivial⟩ ?_
  show aw_W _ _ _ _ (6, [some (.retAddr 5)], [.int ((3 : Int32) >>> (0 &&& 31))]) H
  refine aw_ret rfl rfl trivial ?_
  refine ⟨?_, rfl⟩
  rfl
theorem ev_coder_6  {zd : Nat}  : ae_Ev P (zd + 1) 181 [.retAddr 6] H (some (.int 0)) H := by
  refine aw_evE (cd := cd_String_coder) rfl rfl rfl ?_
  show aw_W _ _ _ _ (0, [some (.retAddr 6)], []) H
  refine aw_go 2 rfl ⟨trivial, trivial, trivial⟩ ?_
  refine aw_br (c := (1 : Int32) = 0) (fun h1 => ?_) (fun h1 => ?_)
  · skip
    have h1 := cI_eqT (a := 1) (b := 0) rfl rfl (by omega) (by omega) h1
    show aw_W _ _ _ _ (5, [some (.retAddr 6)], []) H
    exact absurd h1 (by decide)
  · skip
    have h1 := cI_eqF (a := 1) (b := 0) rfl rfl (by omega) (by omega) h1
    show aw_W _ _ _ _ (2, [some (.retAddr 6)], []) H
    refine aw_go 3 rfl ⟨trivial, trivial, trivial, trivial⟩ ?_
    show aw_W _ _ _ _ (6, [some (.retAddr 6)], [.int 0]) H
    refine aw_ret rfl rfl rfl ?_
    refine ⟨?_, rfl⟩
    rfl
theorem ev_isLatin1_6  {zd : Nat}  : ae_Ev P (zd + 1) 182 [.retAddr 6] H (some (.int 1)) H := by
  refine aw_evE (cd := cd_String_isLatin1) rfl rfl rfl ?_
  show aw_W _ _ _ _ (0, [some (.retAddr 6)], []) H
  refine aw_go 2 rfl ⟨trivial, trivial, trivial⟩ ?_
  refine aw_br (c := (1 : Int32) = 0) (fun h1 => ?_) (fun h1 => ?_)
  · skip
    have h1 := cI_eqT (a := 1) (b := 0) rfl rfl (by omega) (by omega) h1
    show aw_W _ _ _ _ (7, [some (.retAddr 6)], []) H
    exact absurd h1 (by decide)
  · skip
    have h1 := cI_eqF (a := 1) (b := 0) rfl rfl (by omega) (by omega) h1
    show aw_W _ _ _ _ (2, [some (.retAddr 6)], []) H
    refine aw_go 3 rfl ⟨trivial, trivial, trivial, trivial⟩ ?_
    show aw_W _ _ _ _ (if ¬ (0 : Int32) = 0 then 7 else 5, [some (.retAddr 6)], []) H
    refine aw_br (c := ¬ (0 : Int32) = 0) (fun h4 => ?_) (fun h4 => ?_)
    · skip
      have h4 := cI_eqF (a := 0) (b := 0) rfl rfl (by omega) (by omega) h4
      show aw_W _ _ _ _ (7, [some (.retAddr 6)], []) H
      exact absurd rfl h4
    · skip
      have h4 := Classical.not_not.mp h4
      have h4 := cI_eqT (a := 0) (b := 0) rfl rfl (by omega) (by omega) h4
      show aw_W _ _ _ _ (5, [some (.retAddr 6)], []) H
      refine aw_go 2 rfl ⟨trivial, trivial, trivial⟩ ?_
      refine aw_ret rfl rfl (by first | exact Or.inl rfl | exact Or.inr rfl | exact bI_b _) ?_
      refine ⟨?_, rfl⟩
      rfl
theorem ev_length_6  {zd : Nat}  : ae_Ev P (zd + 2) 179 [.retAddr 6] H (some (.int 4)) H := by
  refine aw_evE (cd := cd_String_length) rfl rfl rfl ?_
  show aw_W _ _ _ _ (0, [some (.retAddr 6)], []) H
  refine aw_go 4 rfl ⟨trivial, trivial, trivial, trivial, trivial⟩ ?_
  show aw_W _ _ _ _ (4, [some (.retAddr 6)], [.retAddr 6, .int 4]) H
  refine aw_callE rfl rfl (ev_coder_6) ?_
  show aw_W _ _ _ _ (5, [some (.retAddr 6)], [.int 0, .int 4]) H
  refine aw_go 1 rfl ⟨trivial, trivial⟩ ?_
  show aw_W _ _ _ _ (6, [some (.retAddr 6)], [.int ((4 : Int32) >>> (0 &&& 31))]) H
  refine aw_ret rfl rfl trivial ?_
  refine ⟨?_, rfl⟩
  rfl
theorem ev_coder_7  {zd : Nat}  : ae_Ev P (zd + 1) 181 [.retAddr 7] H (some (.int 0)) H := by
  refine aw_evE (cd := cd_String_coder) rfl rfl rfl ?_
  show aw_W _ _ _ _ (0, [some (.retAddr 7)], []) H
  refine aw_go 2 rfl ⟨trivial, trivial, trivial⟩ ?_
  refine aw_br (c := (1 : Int32) = 0) (fun h1 => ?_) (fun h1 => ?_)
  · skip
    have h1 := cI_eqT (a := 1) (b := 0) rfl rfl (by omega) (by omega) h1
    show aw_W _ _ _ _ (5, [some (.retAddr 7)], []) H
    exact absurd h1 (by decide)
  · skip
    have h1 := cI_eqF (a := 1) (b := 0) rfl rfl (by omega) (by omega) h1
    show aw_W _ _ _ _ (2, [some (.retAddr 7)], []) H
    refine aw_go 3 rfl ⟨trivial, trivial, trivial, trivial⟩ ?_
    show aw_W _ _ _ _ (6, [some (.retAddr 7)], [.int 0]) H
    refine aw_ret rfl rfl rfl ?_
    refine ⟨?_, rfl⟩
    rfl
theorem ev_isLatin1_7  {zd : Nat}  : ae_Ev P (zd + 1) 182 [.retAddr 7] H (some (.int 1)) H := by
  refine aw_evE (cd := cd_String_isLatin1) rfl rfl rfl ?_
  show aw_W _ _ _ _ (0, [some (.retAddr 7)], []) H
  refine aw_go 2 rfl ⟨trivial, trivial, trivial⟩ ?_
  refine aw_br (c := (1 : Int32) = 0) (fun h1 => ?_) (fun h1 => ?_)
  · skip
    have h1 := cI_eqT (a := 1) (b := 0) rfl rfl (by omega) (by omega) h1
    show aw_W _ _ _ _ (7, [some (.retAddr 7)], []) H
    exact absurd h1 (by decide)
  · skip
    have h1 := cI_eqF (a := 1) (b := 0) rfl rfl (by omega) (by omega) h1
    show aw_W _ _ _ _ (2, [some (.retAddr 7)], []) H
    refine aw_go 3 rfl ⟨trivial, trivial, trivial, trivial⟩ ?_
    show aw_W _ _ _ _ (if ¬ (0 : Int32) = 0 then 7 else 5, [some (.retAddr 7)], []) H
    refine aw_br (c := ¬ (0 : Int32) = 0) (fun h4 => ?_) (fun h4 => ?_)
    · skip
      have h4 := cI_eqF (a := 0) (b := 0) rfl rfl (by omega) (by omega) h4
      show aw_W _ _ _ _ (7, [some (.retAddr 7)], []) H
      exact absurd rfl h4
    · skip
      have h4 := Classical.not_not.mp h4
      have h4 := cI_eqT (a := 0) (b := 0) rfl rfl (by omega) (by omega) h4
      show aw_W _ _ _ _ (5, [some (.retAddr 7)], []) H
      refine aw_go 2 rfl ⟨trivial, trivial, trivial⟩ ?_
      refine aw_ret rfl rfl (by first | exact Or.inl rfl | exact Or.inr rfl | exact bI_b _) ?_
      refine ⟨?_, rfl⟩
      rfl
theorem ev_length_7  {zd : Nat}  : ae_Ev P (zd + 2) 179 [.retAddr 7] H (some (.int 4)) H := by
  refine aw_evE (cd := cd_String_length) rfl rfl rfl ?_
  show aw_W _ _ _ _ (0, [some (.retAddr 7)], []) H
  refine aw_go 4 rfl ⟨trivial, trivial, trivial, trivial, trivial⟩ ?_
  show aw_W _ _ _ _ (4, [some (.retAddr 7)], [.retAddr 7, .int 4]) H
  refine aw_callE rfl rfl (ev_coder_7) ?_
  show aw_W _ _ _ _ (5, [some (.retAddr 7)], [.int 0, .int 4]) H
  refine aw_go 1 rfl ⟨trivial, trivial⟩ ?_
  show aw_W _ _ _ _ (6, [some (.retAddr 7)], [.int ((4 : Int32) >>> (0 &&& 31))]) H
  refine aw_ret rfl rfl trivial ?_
  refine ⟨?_, rfl⟩
  rfl
theorem ev_coder_8  {zd : Nat}  : ae_Ev P (zd + 1) 181 [.retAddr 8] H (some (.int 0)) H := by
  refine aw_evE (cd := cd_String_coder) rfl rfl rfl ?_
  show aw_W _ _ _ _ (0, [some (.retAddr 8)], []) H
  refine aw_go 2 rfl ⟨trivial, trivial, trivial⟩ ?_
  refine aw_br (c := (1 : Int32) = 0) (fun h1 => ?_) (fun h1 => ?_)
  · skip
    have h1 := cI_eqT (a := 1) (b := 0) rfl rfl (by omega) (by omega) h1
    show aw_W _ _ _ _ (5, [some (.retAddr 8)], []) H
    exact absurd h1 (by decide)
  · skip
    have h1 := cI_eqF (a := 1) (b := 0) rfl rfl (by omega) (by omega) h1
    show aw_W _ _ _ _ (2, [some (.retAddr 8)], []) H
    refine aw_go 3 rfl ⟨trivial, trivial, trivial, trivial⟩ ?_
    show aw_W _ _ _ _ (6, [some (.retAddr 8)], [.int 0]) H
    refine aw_ret rfl rfl rfl ?_
    refine ⟨?_, rfl⟩
    rfl
theorem ev_isLatin1_8  {zd : Nat}  : ae_Ev P (zd + 1) 182 [.retAddr 8] H (some (.int 1)) H := by
  refine aw_evE (cd := cd_String_isLatin1) rfl rfl rfl ?_
  show aw_W _ _ _ _ (0, [some (.retAddr 8)], []) H
  refine aw_go 2 rfl ⟨trivial, trivial, trivial⟩ ?_
  refine aw_br (c := (1 : Int32) = 0) (fun h1 => ?_) (fun h1 => ?_)
  · skip
    have h1 := cI_eqT (a := 1) (b := 0) rfl rfl (by omega) (by omega) h1
    show aw_W _ _ _ _ (7, [some (.retAddr 8)], []) H
    exact absurd h1 (by decide)
  · skip
    have h1 := cI_eqF (a := 1) (b := 0) rfl rfl (by omega) (by omega) h1
    show aw_W _ _ _ _ (2, [some (.retAddr 8)], []) H
    refine aw_go 3 rfl ⟨trivial, trivial, trivial, trivial⟩ ?_
    show aw_W _ _ _ _ (if ¬ (0 : Int32) = 0 then 7 else 5, [some (.retAddr 8)], []) H
    refine aw_br (c := ¬ (0 : Int32) = 0) (fun h4 => ?_) (fun h4 => ?_)
    · skip
      have h4 := cI_eqF (a := 0) (b := 0) rfl rfl (by omega) (by omega) h4
      show aw_W _ _ _ _ (7, [some (.retAddr 8)], []) H
      exact absurd rfl h4
    · skip
      have h4 := Classical.not_not.mp h4
      have h4 := cI_eqT (a := 0) (b := 0) rfl rfl (by omega) (by omega) h4
      show aw_W _ _ _ _ (5, [some (.retAddr 8)], []) H
      refine aw_go 2 rfl ⟨trivial, trivial, trivial⟩ ?_
      refine aw_ret rfl rfl (by first | exact Or.inl rfl | exact Or.inr rfl | exact bI_b _) ?_
      refine ⟨?_, rfl⟩
      rfl
theorem ev_length_8  {zd : Nat}  : ae_Ev P (zd + 2) 179 [.retAddr 8] H (some (.int 4)) H := by
  refine aw_evE (cd := cd_String_length) rfl rfl rfl ?_
  show aw_W _ _ _ _ (0, [some (.retAddr 8)], []) H
  refine aw_go 4 rfl ⟨trivial, trivial, trivial, trivial, trivial⟩ ?_
  show aw_W _ _ _ _ (4, [some (.retAddr 8)], [.retAddr 8, .int 4]) H
  refine aw_callE rfl rfl (ev_coder_8) ?_
  show aw_W _ _ _ _ (5, [some (.retAddr 8)], [.int 0, .int 4]) H
  refine aw_go 1 rfl ⟨trivial, trivial⟩ ?_
  show aw_W _ _ _ _ (6, [some (.retAddr 8)], [.int ((4 : Int32) >>> (0 &&& 31))]) H
  refine aw_ret rfl rfl trivial ?_
  refine ⟨?_, rfl⟩
  rfl
theorem ev_coder_9  {zd : Nat}  : ae_Ev P (zd + 1) 181 [.retAddr 9] H (some (.int 0)) H := by
  refine aw_evE (cd := cd_String_coder) rfl rfl rfl ?_
  show aw_W _ _ _ _ (0, [some (.retAddr 9)], []) H
  refine aw_go 2 rfl ⟨trivial, trivial, trivial⟩ ?_
  refine aw_br (c := (1 : Int32) = 0) (fun h1 => ?_) (fun h1 => ?_)
  · skip
    have h1 := cI_eqT (a := 1) (b := 0) rfl rfl (by omega) (by omega) h1
    show aw_W _ _ _ _ (5, [some (.retAddr 9)], []) H
    exact absurd h1 (by decide)
  · skip
    have h1 := cI_eqF (a := 1) (b := 0) rfl rfl (by omega) (by omega) h1
    show aw_W _ _ _ _ (2, [some (.retAddr 9)], []) H
    refine aw_go 3 rfl ⟨trivial, trivial, trivial, trivial⟩ ?_
    show aw_W _ _ _ _ (6, [some (.retAddr 9)], [.int 0]) H
    refine aw_ret rfl rfl rfl ?_
    refine ⟨?_, rfl⟩
    rfl
theorem ev_isLatin1_9  {zd : Nat}  : ae_Ev P (zd + 1) 182 [.retAddr 9] H (some (.int 1)) H := by
  refine aw_evE (cd := cd_String_isLatin1) rfl rfl rfl ?_
  show aw_W _ _ _ _ (0, [some (.retAddr 9)], []) H
  refine aw_go 2 rfl ⟨trivial, trivial, trivial⟩ ?_
  refine aw_br (c := (1 : Int32) = 0) (fun h1 => ?_) (fun h1 => ?_)
  · skip
    have h1 := cI_eqT (a := 1) (b := 0) rfl rfl (by omega) (by omega) h1
    show aw_W _ _ _ _ (7, [some (.retAddr 9)], []) H
    exact absurd h1 (by decide)
  · skip
    have h1 := cI_eqF (a := 1) (b := 0) rfl rfl (by omega) (by omega) h1
    show aw_W _ _ _ _ (2, [some (.retAddr 9)], []) H
    refine aw_go 3 rfl ⟨trivial, trivial, trivial, trivial⟩ ?_
    show aw_W _ _ _ _ (if ¬ (0 : Int32) = 0 then 7 else 5, [some (.retAddr 9)], []) H
    refine aw_br (c := ¬ (0 : Int32) = 0) (fun h4 => ?_) (fun h4 => ?_)
    · skip
      have h4 := cI_eqF (a := 0) (b := 0) rfl rfl (by omega) (by omega) h4
      show aw_W _ _ _ _ (7, [some (.retAddr 9)], []) H
      exact absurd rfl h4
    · skip
      have h4 := Classical.not_not.mp h4
      have h4 := cI_eqT (a := 0) (b := 0) rfl rfl (by omega) (by omega) h4
      show aw_W _ _ _ _ (5, [some (.retAddr 9)], []) H
      refine aw_go 2 rfl ⟨trivial, trivial, trivial⟩ ?_
      refine aw_ret rfl rfl (by first | exact Or.inl rfl | exact Or.inr rfl | exact bI_b _) ?_
      refine ⟨?_, rfl⟩
      rfl
theorem ev_length_9  {zd : Nat}  : ae_Ev P (zd + 2) 179 [.retAddr 9] H (some (.int 5)) H := by
  refine aw_evE (cd := cd_String_length) rfl rfl rfl ?_
  show aw_W _ _ _ _ (0, [some (.retAddr 9)], []) H
  refine aw_go 4 rfl ⟨trivial, trivial, trivial, trivial, trivial⟩ ?_
  show aw_W _ _ _ _ (4, [some (.retAddr 9)], [.retAddr 9, .int 5]) H
  refine aw_callE rfl rfl (ev_coder_9) ?_
  show aw_W _ _ _ _ (5, [some (.retAddr 9)], [.int 0, .int 5]) H
  refine aw_go 1 rfl ⟨trivial, trivial⟩ ?_
  show aw_W _ _ _ _ (6, [some (.retAddr 9)], [.int ((5 : Int32) >>> (0 &&& 31))]) H
  refine aw_ret rfl rfl trivial ?_
  refine ⟨?_, rfl⟩
  rfl
theorem ev_coder_10  {zd : Nat}  : ae_Ev P (zd + 1) 181 [.retAddr 10] H (some (.int 0)) H := by
  refine aw_evE (cd := cd_String_coder) rfl rfl rfl ?_
  show aw_W _ _ _ _ (0, [some (.retAddr 10)], []) H
  refine aw_go 2 rfl ⟨trivial, trivial, trivial⟩ ?_
  refine aw_br (c := (1 : Int32) = 0) (fun h1 => ?_) (fun h1 => ?_)
  · skip
    have h1 := cI_eqT (a := 1) (b := 0) rfl rfl (by omega) (by omega) h1
    show aw_W _ _ _ _ (5, [some (.retAddr 10)], []) H
    exact absurd h1 (by decide)
  · skip
    have h1 := cI_eqF (a := 1) (b := 0) rfl rfl (by omega) (by omega) h1
    show aw_W _ _ _ _ (2, [some (.retAddr 10)], []) H
    refine aw_go 3 rfl ⟨trivial, trivial, trivial, trivial⟩ ?_
    show aw_W _ _ _ _ (6, [some (.retAddr 10)], [.int 0]) H
    refine aw_ret rfl rfl rfl ?_
    refine ⟨?_, rfl⟩
    rfl
theorem ev_isLatin1_10  {zd : Nat}  : ae_Ev P (zd + 1) 182 [.retAddr 10] H (some (.int 1)) H := by
  refine aw_evE (cd := cd_String_isLatin1) rfl rfl rfl ?_
  show aw_W _ _ _ _ (0, [some (.retAddr 10)], []) H
  refine aw_go 2 rfl ⟨trivial, trivial, trivial⟩ ?_
  refine aw_br (c := (1 : Int32) = 0) (fun h1 => ?_) (fun h1 => ?_)
  · skip
    have h1 := cI_eqT (a := 1) (b := 0) rfl rfl (by omega) (by omega) h1
    show aw_W _ _ _ _ (7, [some (.retAddr 10)], []) H
    exact absurd h1 (by decide)
  · skip
    have h1 := cI_eqF (a := 1) (b := 0) rfl rfl (by omega) (by omega) h1
    show aw_W _ _ _ _ (2, [some (.retAddr 10)], []) H
    refine aw_go 3 rfl ⟨trivial, trivial, trivial, trivial⟩ ?_
    show aw_W _ _ _ _ (if ¬ (0 : Int32) = 0 then 7 else 5, [some (.retAddr 10)], []) H
    refine aw_br (c := ¬ (0 : Int32) = 0) (fun h4 => ?_) (fun h4 => ?_)
    · skip
      have h4 := cI_eqF (a := 0) (b := 0) rfl rfl (by omega) (by omega) h4
      show aw_W _ _ _ _ (7, [some (.retAddr 10)], []) H
      exact absurd rfl h4
    · skip
      have h4 := Classical.not_not.mp h4
      have h4 := cI_eqT (a := 0) (b := 0) rfl rfl (by omega) (by omega) h4
      show aw_W _ _ _ _ (5, [some (.retAddr 10)], []) H
      refine aw_go 2 rfl ⟨trivial, trivial, trivial⟩ ?_
      refine aw_ret rfl rfl (by first | exact Or.inl rfl | exact Or.inr rfl | exact bI_b _) ?_
      refine ⟨?_, rfl⟩
      rfl
theorem ev_length_10  {zd : Nat}  : ae_Ev P (zd + 2) 179 [.retAddr 10] H (some (.int 2)) H := by
  refine aw_evE (cd := cd_String_length) rfl rfl rfl ?_
  show aw_W _ _ _ _ (0, [some (.retAddr 10)], []) H
  refine aw_go 4 rfl ⟨trivial, trivial, trivial, trivial, trivial⟩ ?_
  show aw_W _ _ _ _ (4, [some (.retAddr 10)], [.retAddr 10, .int 2]) H
  refine aw_callE rfl rfl (ev_coder_10) ?_
  show aw_W _ _ _ _ (5, [some (.retAddr 10)], [.int 0, .int 2]) H
  refine aw_go 1 rfl ⟨trivial, trivial⟩ ?_
  show aw_W _ _ _ _ (6, [some (.retAddr 10)], [.int ((2 : Int32) >>> (0 &&& 31))]) H
  refine aw_ret rfl rfl trivial ?_
  refine ⟨?_, rfl⟩
  rfl
theorem ev_coder_11  {zd : Nat}  : ae_Ev P (zd + 1) 181 [.retAddr 11] H (some (.int 0)) H := by
  refine aw_evE (cd := cd_String_coder) rfl rfl rfl ?_
  show aw_W _ _ _ _ (0, [some (.retAddr 11)], []) H
  refine aw_go 2 rfl ⟨trivial, trivial, trivial⟩ ?_
  refine aw_br (c := (1 : Int32) = 0) (fun h1 => ?_) (fun h1 => ?_)
  · skip
    have h1 := cI_eqT (a := 1) (b := 0) rfl rfl (by omega) (by omega) h1
    show aw_W _ _ _ _ (5, [some (.retAddr 11)], []) H
    exact absurd h1 (by decide)
  · skip
    have h1 := cI_eqF (a := 1) (b := 0) rfl rfl (by omega) (by omega) h1
    show aw_W _ _ _ _ (2, [some (.retAddr 11)], []) H
    refine aw_go 3 rfl ⟨trivial, trivial, trivial, trivial⟩ ?_
    show aw_W _ _ _ _ (6, [some (.retAddr 11)], [.int 0]) H
    refine aw_ret rfl rfl rfl ?_
    refine ⟨?_, rfl⟩
    rfl
theorem ev_isLatin1_11  {zd : Nat}  : ae_Ev P (zd + 1) 182 [.retAddr 11] H (some (.int 1)) H := by
  refine aw_evE (cd := cd_String_isLatin1) rfl rfl rfl ?_
  show aw_W _ _ _ _ (0, [some (.retAddr 11)], []) H
  refine aw_go 2 rfl ⟨trivial, trivial, trivial⟩ ?_
  refine aw_br (c := (1 : Int32) = 0) (fun h1 => ?_) (fun h1 => ?_)
  · skip
    have h1 := cI_eqT (a := 1) (b := 0) rfl rfl (by omega) (by omega) h1
    show aw_W _ _ _ _ (7, [some (.retAddr 11)], []) H
    exact absurd h1 (by decide)
  · skip
    have h1 := cI_eqF (a := 1) (b := 0) rfl rfl (by omega) (by omega) h1
    show aw_W _ _ _ _ (2, [some (.retAddr 11)], []) H
    refine aw_go 3 rfl ⟨trivial, trivial, trivial, trivial⟩ ?_
    show aw_W _ _ _ _ (if ¬ (0 : Int32) = 0 then 7 else 5, [some (.retAddr 11)], []) H
    refine aw_br (c := ¬ (0 : Int32) = 0) (fun h4 => ?_) (fun h4 => ?_)
    · skip
      have h4 := cI_eqF (a := 0) (b := 0) rfl rfl (by omega) (by omega) h4
      show aw_W _ _ _ _ (7, [some (.retAddr 11)], []) H
      exact absurd rfl h4
    · skip
      have h4 := Classical.not_not.mp h4
      have h4 := cI_eqT (a := 0) (b := 0) rfl rfl (by omega) (by omega) h4
      show aw_W _ _ _ _ (5, [some (.retAddr 11)], []) H
      refine aw_go 2 rfl ⟨trivial, trivial, trivial⟩ ?_
      refine aw_ret rfl rfl (by first | exact Or.inl rfl | exact Or.inr rfl | exact bI_b _) ?_
      refine ⟨?_, rfl⟩
      rfl
theorem ev_length_11  {zd : Nat}  : ae_Ev P (zd + 2) 179 [.retAddr 11] H (some (.int 3)) H := by
  refine aw_evE (cd := cd_String_length) rfl rfl rfl ?_
  show aw_W _ _ _ _ (0, [some (.retAddr 11)], []) H
  refine aw_go 4 rfl ⟨trivial, trivial, trivial, trivial, trivial⟩ ?_
  show aw_W _ _ _ _ (4, [some (.retAddr 11)], [.retAddr 11, .int 3]) H
  refine aw_callE rfl rfl (ev_coder_11) ?_
  show aw_W _ _ _ _ (5, [some (.retAddr 11)], [.int 0, .int 3]) H
  refine aw_go 1 rfl ⟨trivial, trivial⟩ ?_
  show aw_W _ _ _ _ (6, [some (.retAddr 11)], [.int ((3 : Int32) >>> (0 &&& 31))]) H
  refine aw_ret rfl rfl trivial ?_
  refine ⟨?_, rfl⟩
  rfl
theorem ev_coder_12  {zd : Nat}  : ae_Ev P (zd + 1) 181 [.retAddr 12] H (some (.int 0)) H := by
  refine aw_evE (cd := cd_String_coder) rfl rfl rfl ?_
  show aw_W _ _ _ _ (0, [some (.retAddr 12)], []) H
  refine aw_go 2 rfl ⟨trivial, trivial, trivial⟩ ?_
  refine aw_br (c := (1 : Int32) = 0) (fun h1 => ?_) (fun h1 => ?_)
  · skip
    have h1 := cI_eqT (a := 1) (b := 0) rfl rfl (by omega) (by omega) h1
    show aw_W _ _ _ _ (5, [some (.retAddr 12)], []) H
    exact absurd h1 (by decide)
  · skip
    have h1 := cI_eqF (a := 1) (b := 0) rfl rfl (by omega) (by omega) h1
    show aw_W _ _ _ _ (2, [some (.retAddr 12)], []) H
    refine aw_go 3 rfl ⟨trivial, trivial, trivial, trivial⟩ ?_
    show aw_W _ _ _ _ (6, [some (.retAddr 12)], [.int 0]) H
    refine aw_ret rfl rfl rfl ?_
    refine ⟨?_, rfl⟩
    rfl
theorem ev_isLatin1_12  {zd : Nat}  : ae_Ev P (zd + 1) 182 [.retAddr 12] H (some (.int 1)) H := by
  refine aw_evE (cd := cd_String_isLatin1) rfl rfl rfl ?_
  show aw_W _ _ _ _ (0, [some (.retAddr 12)], []) H
  refine aw_go 2 rfl ⟨trivial, trivial, trivial⟩ ?_
  refine aw_br (c := (1 : Int32) = 0) (fun h1 => ?_) (fun h1 => ?_)
  · skip
    have h1 := cI_eqT (a := 1) (b := 0) rfl rfl (by omega) (by omega) h1
    show aw_W _ _ _ _ (7, [some (.retAddr 12)], []) H
    exact absurd h1 (by decide)
  · skip
    have h1 := cI_eqF (a := 1) (b := 0) rfl rfl (by omega) (by omega) h1
    show aw_W _ _ _ _ (2, [some (.retAddr 12)], []) H
    refine aw_go 3 rfl ⟨trivial, trivial, trivial, trivial⟩ ?_
    show aw_W _ _ _ _ (if ¬ (0 : Int32) = 0 then 7 else 5, [some (.retAddr 12)], []) H
    refine aw_br (c := ¬ (0 : Int32) = 0) (fun h4 => ?_) (fun h4 => ?_)
    · skip
      have h4 := cI_eqF (a := 0) (b := 0) rfl rfl (by omega) (by omega) h4
      show aw_W _ _ _ _ (7, [some (.retAddr 12)], []) H
      exact absurd rfl h4
    · skip
      have h4 := Classical.not_not.mp h4
      have h4 := cI_eqT (a := 0) (b := 0) rfl rfl (by omega) (by omega) h4
      show aw_W _ _ _ _ (5, [some (.retAddr 12)], []) H
      refine aw_go 2 rfl ⟨trivial, trivial, trivial⟩ ?_
      refine aw_ret rfl rfl (by first | exact Or.inl rfl | exact Or.inr rfl | exact bI_b _) ?_
      refine ⟨?_, rfl⟩
      rfl
theorem ev_length_12  {zd : Nat}  : ae_Ev P (zd + 2) 179 [.retAddr 12] H (some (.int 3)) H := by
  refine aw_evE (cd := cd_String_length) rfl rfl rfl ?_
  show aw_W _ _ _ _ (0, [some (.retAddr 12)], []) H
  refine aw_go 4 rfl ⟨trivial, trivial, trivial, trivial, trivial⟩ ?_
  show aw_W _ _ _ _ (4, [some (.retAddr 12)], [.retAddr 12, .int 3]) H
  refine aw_callE rfl rfl (ev_coder_12) ?_
  show aw_W _ _ _ _ (5, [some (.retAddr 12)], [.int 0, .int 3]) H
  refine aw_go 1 rfl ⟨trivial, trivial⟩ ?_
  show aw_W _ _ _ _ (6, [some (.retAddr 12)], [.int ((3 : Int32) >>> (0 &&& 31))]) H
  refine aw_ret rfl rfl trivial ?_
  refine ⟨?_, rfl⟩
  rfl
theorem ev_Pre_n {j n : Nat} {zd : Nat} (hj : j < n) (hn : n < 2 ^ 31) : ae_Ev P (zd + 1) 185 [.int (nI j), .int (nI n), .null] H (some (.int (nI j))) H := by
  refine aw_evE (cd := cd_Preconditions_checkIndex) rfl rfl rfl ?_
  show aw_W _ _ _ _ (0, [some (.int (nI j)), some (.int (nI n)), some (.null)], []) H
  refine aw_go 2 rfl ⟨trivial, trivial, trivial⟩ ?_
  refine aw_br (c := (nI j) < 0) (fun h1 => ?_) (fun h1 => ?_)
  · skip
    have h1 := cI_ltT (a := j) (b := 0) rfl rfl (by omega) (by omega) h1
    show aw_W _ _ _ _ (5, [some (.int (nI j)), some (.int (nI n)), some (.null)], []) H
    exact absurd h1 (by omega)
  · skip
    have h1 := cI_ltF (a := j) (b := 0) rfl rfl (by omega) (by omega) h1
    show aw_W _ _ _ _ (2, [some (.int (nI j)), some (.int (nI n)), some (.null)], []) H
    refine aw_go 3 rfl ⟨trivial, trivial, trivial, trivial⟩ ?_
    refine aw_br (c := (nI j) < (nI n)) (fun h4 => ?_) (fun h4 => ?_)
    · skip
      have h4 := cI_ltT (a := j) (b := n) rfl rfl (by omega) (by omega) h4
      show aw_W _ _ _ _ (10, [some (.int (nI j)), some (.int (nI n)), some (.null)], []) H
      refine aw_go 1 rfl ⟨trivial, trivial⟩ ?_
      refine aw_ret rfl rfl trivial ?_
      refine ⟨?_, rfl⟩
      rfl
    · skip
      have h4 := cI_ltF (a := j) (b := n) rfl rfl (by omega) (by omega) h4
      show aw_W _ _ _ _ (5, [some (.int (nI j)), some (.int (nI n)), some (.null)], []) H
      exact absurd h4 (by omega)
theorem ev_Pre_a {j n : Nat} {zd : Nat} (hj : j < n) (hn : n < 2 ^ 31) : ae_Ev P (zd + 1) 185 [.int (nI j), .int (nI n), .retAddr 700] H (some (.int (nI j))) H := by
  refine aw_evE (cd := cd_Preconditions_checkIndex) rfl rfl rfl ?_
  show aw_W _ _ _ _ (0, [some (.int (nI j)), some (.int (nI n)), some (.retAddr 700)], []) H
  refine aw_go 2 rfl ⟨trivial, trivial, trivial⟩ ?_
  refine aw_br (c := (nI j) < 0) (fun h1 => ?_) (fun h1 => ?_)
  · skip
    have h1 := cI_ltT (a := j) (b := 0) rfl rfl (by omega) (by omega) h1
    show aw_W _ _ _ _ (5, [some (.int (nI j)), some (.int (nI n)), some (.retAddr 700)], []) H
    exact absurd h1 (by omega)
  · skip
    have h1 := cI_ltF (a := j) (b := 0) rfl rfl (by omega) (by omega) h1
    show aw_W _ _ _ _ (2, [some (.int (nI j)), some (.int (nI n)), some (.retAddr 700)], []) H
    refine aw_go 3 rfl ⟨trivial, trivial, trivial, trivial⟩ ?_
    refine aw_br (c := (nI j) < (nI n)) (fun h4 => ?_) (fun h4 => ?_)
    · skip
      have h4 := cI_ltT (a := j) (b := n) rfl rfl (by omega) (by omega) h4
      show aw_W _ _ _ _ (10, [some (.int (nI j)), some (.int (nI n)), some (.retAddr 700)], []) H
      refine aw_go 1 rfl ⟨trivial, trivial⟩ ?_
      refine aw_ret rfl rfl trivial ?_
      refine ⟨?_, rfl⟩
      rfl
    · skip
      have h4 := cI_ltF (a := j) (b := n) rfl rfl (by omega) (by omega) h4
      show aw_W _ _ _ _ (5, [some (.int (nI j)), some (.int (nI n)), some (.retAddr 700)], []) H
      exact absurd h4 (by omega)
theorem ev_checkIndex {j n : Nat} {zd : Nat} (hz : P.2.2 = .null ∨ P.2.2 = .retAddr 700) (hj : j < n) (hn : n < 2 ^ 31) : ae_Ev P (zd + 2) 183 [.int (nI j), .int (nI n)] H none H := by
  obtain ⟨xs, L, zq⟩ := P
  rcases hz with hz | hz
  all_goals (simp only at hz; subst hz)
  · refine aw_evE (cd := cd_String_checkIndex) rfl rfl rfl ?_
    show aw_W _ _ _ _ (0, [some (.int (nI j)), some (.int (nI n))], []) H
    refine aw_go 3 rfl ⟨trivial, trivial, trivial, trivial⟩ ?_
    refine aw_callE rfl rfl (ev_Pre_n (j := j) (n := n) hj hn) ?_
    show aw_W _ _ _ _ (4, [some (.int (nI j)), some (.int (nI n))], [.int (nI j)]) H
    refine aw_go 1 rfl ⟨trivial, trivial⟩ ?_
    refine aw_ret rfl rfl trivial ?_
    exact ⟨rfl, rfl⟩
  · refine aw_evE (cd := cd_String_checkIndex) rfl rfl rfl ?_
    show aw_W _ _ _ _ (0, [some (.int (nI j)), some (.int (nI n))], []) H
    refine aw_go 3 rfl ⟨trivial, trivial, trivial, trivial⟩ ?_
    refine aw_callE rfl rfl (ev_Pre_a (j := j) (n := n) hj hn) ?_
    show aw_W _ _ _ _ (4, [some (.int (nI j)), some (.int (nI n))], [.int (nI j)]) H
    refine aw_go 1 rfl ⟨trivial, trivial⟩ ?_
    refine aw_ret rfl rfl trivial ?_
    exact ⟨rfl, rfl⟩
theorem ev_latin1_0 {j : Nat} {zd : Nat} (hz : P.2.2 = .null ∨ P.2.2 = .retAddr 700) (hj : j < 83) : ae_Ev P (zd + 3) 184 [.retAddr 100, .int (nI j)] H (some (.int (bS 0 j))) H := by
  refine aw_evE (cd := cd_StringLatin1_charAt) rfl rfl rfl ?_
  show aw_W _ _ _ _ (0, [some (.retAddr 100), some (.int (nI j))], []) H
  refine aw_go 3 rfl ⟨trivial, trivial, trivial, trivial⟩ ?_
  show aw_W _ _ _ _ (3, [some (.retAddr 100), some (.int (nI j))], [.int 83, .int (nI j)]) H
  refine aw_callE rfl rfl (ev_checkIndex (j := j) (n := 83) hz hj (by decide)) ?_
  show aw_W _ _ _ _ (4, [some (.retAddr 100), some (.int (nI j))], []) H
  refine aw_go 6 rfl ⟨trivial, trivial, (cI_in (a := j) (N := 83) rfl hj (by decide)), trivial, trivial, trivial, trivial⟩ ?_
  show aw_W _ _ _ _ (10, [some (.retAddr 100), some (.int (nI j))], [.int ((((bS 0 (nI j).toNatClampNeg) &&& 255).toUInt32 % 65536).toInt32)]) H
  rw [show (nI j).toNatClampNeg = j from cI_cl (a := j) rfl (by omega)]
  refine aw_ret rfl rfl (by first | exact (chV 0 (by decide) j hj).2 | (rw [(chV 0 (by decide) j hj).1]; exact (chV 0 (by decide) j hj).2)) ?_
  refine ⟨?_, rfl⟩
  rw [(chV 0 (by decide) j hj).1]
theorem ev_charAt_0 {j : Nat} {zd : Nat} (hz : P.2.2 = .null ∨ P.2.2 = .retAddr 700) (hj : j < 83) : ae_Ev P (zd + 4) 180 [.retAddr 0, .int (nI j)] H (some (.int (bS 0 j))) H := by
  refine aw_evE (cd := cd_String_charAt) rfl rfl rfl ?_
  show aw_W _ _ _ _ (0, [some (.retAddr 0), some (.int (nI j))], []) H
  refine aw_go 1 rfl ⟨trivial, trivial⟩ ?_
  refine aw_callE rfl rfl (ev_isLatin1_0) ?_
  show aw_W _ _ _ _ (2, [some (.retAddr 0), some (.int (nI j))], [.int 1]) H
  refine aw_go 1 rfl ⟨trivial, trivial⟩ ?_
  refine aw_br (c := (1 : Int32) = 0) (fun h2 => ?_) (fun h2 => ?_)
  · skip
    have h2 := cI_eqT (a := 1) (b := 0) rfl rfl (by omega) (by omega) h2
    show aw_W _ _ _ _ (8, [some (.retAddr 0), some (.int (nI j))], []) H
    exact absurd h2 (by decide)
  · skip
    have h2 := cI_eqF (a := 1) (b := 0) rfl rfl (by omega) (by omega) h2
    show aw_W _ _ _ _ (3, [some (.retAddr 0), some (.int (nI j))], []) H
    refine aw_go 3 rfl ⟨trivial, trivial, trivial, trivial⟩ ?_
    show aw_W _ _ _ _ (6, [some (.retAddr 0), some (.int (nI j))], [.int (nI j), .retAddr 100]) H
    refine aw_callE rfl rfl (ev_latin1_0 (j := j) hz hj) ?_
    show aw_W _ _ _ _ (7, [some (.retAddr 0), some (.int (nI j))], [.int (bS 0 j)]) H
    refine aw_ret rfl rfl (chV 0 (by decide) j hj).2 ?_
    refine ⟨?_, rfl⟩
    rfl
theorem ev_latin1_1 {j : Nat} {zd : Nat} (hz : P.2.2 = .null ∨ P.2.2 = .retAddr 700) (hj : j < 3) : ae_Ev P (zd + 3) 184 [.retAddr 101, .int (nI j)] H (some (.int (bS 1 j))) H := by
  refine aw_evE (cd := cd_StringLatin1_charAt) rfl rfl rfl ?_
  show aw_W _ _ _ _ (0, [some (.retAddr 101), some (.int (nI j))], []) H
  refine aw_go 3 rfl ⟨trivial, trivial, trivial, trivial⟩ ?_
  show aw_W _ _ _ _ (3, [some (.retAddr 101), some (.int (nI j))], [.int 3, .int (nI j)]) H
  refine aw_callE rfl rfl (ev_checkIndex (j := j) (n := 3) hz hj (by decide)) ?_
  show aw_W _ _ _ _ (4, [some (.retAddr 101), some (.int (nI j))], []) H
  refine aw_go 6 rfl ⟨trivial, trivial, (cI_in (a := j) (N := 3) rfl hj (by decide)), trivial, trivial, trivial, trivial⟩ ?_
  show aw_W _ _ _ _ (10, [some (.retAddr 101), some (.int (nI j))], [.int ((((bS 1 (nI j).toNatClampNeg) &&& 255).toUInt32 % 65536).toInt32)]) H
  rw [show (nI j).toNatClampNeg = j from cI_cl (a := j) rfl (by omega)]
  refine aw_ret rfl rfl (by first | exact (chV 1 (by decide) j hj).2 | (rw [(chV 1 (by decide) j hj).1]; exact (chV 1 (by decide) j hj).2)) ?_
  refine ⟨?_, rfl⟩
  rw [(chV 1 (by decide) j hj).1]
theorem ev_charAt_1 {j : Nat} {zd : Nat} (hz : P.2.2 = .null ∨ P.2.2 = .retAddr 700) (hj : j < 3) : ae_Ev P (zd + 4) 180 [.retAddr 1, .int (nI j)] H (some (.int (bS 1 j))) H := by
  refine aw_evE (cd := cd_String_charAt) rfl rfl rfl ?_
  show aw_W _ _ _ _ (0, [some (.retAddr 1), some (.int (nI j))], []) H
  refine aw_go 1 rfl ⟨trivial, trivial⟩ ?_
  refine aw_callE rfl rfl (ev_isLatin1_1) ?_
  show aw_W _ _ _ _ (2, [some (.retAddr 1), some (.int (nI j))], [.int 1]) H
  refine aw_go 1 rfl ⟨trivial, trivial⟩ ?_
  refine aw_br (c := (1 : Int32) = 0) (fun h2 => ?_) (fun h2 => ?_)
  · skip
    have h2 := cI_eqT (a := 1) (b := 0) rfl rfl (by omega) (by omega) h2
    show aw_W _ _ _ _ (8, [some (.retAddr 1), some (.int (nI j))], []) H
    exact absurd h2 (by decide)
  · skip
    have h2 := cI_eqF (a := 1) (b := 0) rfl rfl (by omega) (by omega) h2
    show aw_W _ _ _ _ (3, [some (.retAddr 1), some (.int (nI j))], []) H
    refine aw_go 3 rfl ⟨trivial, trivial, trivial, trivial⟩ ?_
    show aw_W _ _ _ _ (6, [some (.retAddr 1), some (.int (nI j))], [.int (nI j), .retAddr 101]) H
    refine aw_callE rfl rfl (ev_latin1_1 (j := j) hz hj) ?_
    show aw_W _ _ _ _ (7, [some (.retAddr 1), some (.int (nI j))], [.int (bS 1 j)]) H
    refine aw_ret rfl rfl (chV 1 (by decide) j hj).2 ?_
    refine ⟨?_, rfl⟩
    rfl
theorem ev_latin1_2 {j : Nat} {zd : Nat} (hz : P.2.2 = .null ∨ P.2.2 = .retAddr 700) (hj : j < 3) : ae_Ev P (zd + 3) 184 [.retAddr 102, .int (nI j)] H (some (.int (bS 2 j))) H := by
  refine aw_evE (cd := cd_StringLatin1_charAt) rfl rfl rfl ?_
  show aw_W _ _ _ _ (0, [some (.retAddr 102), some (.int (nI j))], []) H
  refine aw_go 3 rfl ⟨trivial, trivial, trivial, trivial⟩ ?_
  show aw_W _ _ _ _ (3, [some (.retAddr 102), some (.int (nI j))], [.int 3, .int (nI j)]) H
  refine aw_callE rfl rfl (ev_checkIndex (j := j) (n := 3) hz hj (by decide)) ?_
  show aw_W _ _ _ _ (4, [some (.retAddr 102), some (.int (nI j))], []) H
  refine aw_go 6 rfl ⟨trivial, trivial, (cI_in (a := j) (N := 3) rfl hj (by decide)), trivial, trivial, trivial, trivial⟩ ?_
  show aw_W _ _ _ _ (10, [some (.retAddr 102), some (.int (nI j))], [.int ((((bS 2 (nI j).toNatClampNeg) &&& 255).toUInt32 % 65536).toInt32)]) H
  rw [show (nI j).toNatClampNeg = j from cI_cl (a := j) rfl (by omega)]
  refine aw_ret rfl rfl (by first | exact (chV 2 (by decide) j hj).2 | (rw [(chV 2 (by decide) j hj).1]; exact (chV 2 (by decide) j hj).2)) ?_
  refine ⟨?_, rfl⟩
  rw [(chV 2 (by decide) j hj).1]
theorem ev_charAt_2 {j : Nat} {zd : Nat} (hz : P.2.2 = .null ∨ P.2.2 = .retAddr 700) (hj : j < 3) : ae_Ev P (zd + 4) 180 [.retAddr 2, .int (nI j)] H (some (.int (bS 2 j))) H := by
  refine aw_evE (cd := cd_String_charAt) rfl rfl rfl ?_
  show aw_W _ _ _ _ (0, [some (.retAddr 2), some (.int (nI j))], []) H
  refine aw_go 1 rfl ⟨trivial, trivial⟩ ?_
  refine aw_callE rfl rfl (ev_isLatin1_2) ?_
  show aw_W _ _ _ _ (2, [some (.retAddr 2), some (.int (nI j))], [.int 1]) H
  refine aw_go 1 rfl ⟨trivial, trivial⟩ ?_
  refine aw_br (c := (1 : Int32) = 0) (fun h2 => ?_) (fun h2 => ?_)
  · skip
    have h2 := cI_eqT (a := 1) (b := 0) rfl rfl (by omega) (by omega) h2
    show aw_W _ _ _ _ (8, [some (.retAddr 2), some (.int (nI j))], []) H
    exact absurd h2 (by decide)
  · skip
    have h2 := cI_eqF (a := 1) (b := 0) rfl rfl (by omega) (by omega) h2
    show aw_W _ _ _ _ (3, [some (.retAddr 2), some (.int (nI j))], []) H
    refine aw_go 3 rfl ⟨trivial, trivial, trivial, trivial⟩ ?_
    show aw_W _ _ _ _ (6, [some (.retAddr 2), some (.int (nI j))], [.int (nI j), .retAddr 102]) H
    refine aw_callE rfl rfl (ev_latin1_2 (j := j) hz hj) ?_
    show aw_W _ _ _ _ (7, [some (.retAddr 2), some (.int (nI j))], [.int (bS 2 j)]) H
    refine aw_ret rfl rfl (chV 2 (by decide) j hj).2 ?_
    refine ⟨?_, rfl⟩
    rfl
theorem ev_latin1_3 {j : Nat} {zd : Nat} (hz : P.2.2 = .null ∨ P.2.2 = .retAddr 700) (hj : j < 4) : ae_Ev P (zd + 3) 184 [.retAddr 103, .int (nI j)] H (some (.int (bS 3 j))) H := by
  refine aw_evE (cd := cd_StringLatin1_charAt) rfl rfl rfl ?_
  show aw_W _ _ _ _ (0, [some (.retAddr 103), some (.int (nI j))], []) H
  refine aw_go 3 rfl ⟨trivial, trivial, trivial, trivial⟩ ?_
  show aw_W _ _ _ _ (3, [some (.retAddr 103), some (.int (nI j))], [.int 4, .int (nI j)]) H
  refine aw_callE rfl rfl (ev_checkIndex (j := j) (n := 4) hz hj (by decide)) ?_
  show aw_W _ _ _ _ (4, [some (.retAddr 103), some (.int (nI j))], []) H
  refine aw_go 6 rfl ⟨trivial, trivial, (cI_in (a := j) (N := 4) rfl hj (by decide)), trivial, trivial, trivial, trivial⟩ ?_
  show aw_W _ _ _ _ (10, [some (.retAddr 103), some (.int (nI j))], [.int ((((bS 3 (nI j).toNatClampNeg) &&& 255).toUInt32 % 65536).toInt32)]) H
  rw [show (nI j).toNatClampNeg = j from cI_cl (a := j) rfl (by omega)]
  refine aw_ret rfl rfl (by first | exact (chV 3 (by decide) j hj).2 | (rw [(chV 3 (by decide) j hj).1]; exact (chV 3 (by decide) j hj).2)) ?_
  refine ⟨?_, rfl⟩
  rw [(chV 3 (by decide) j hj).1]
theorem ev_charAt_3 {j : Nat} {zd : Nat} (hz : P.2.2 = .null ∨ P.2.2 = .retAddr 700) (hj : j < 4) : ae_Ev P (zd + 4) 180 [.retAddr 3, .int (nI j)] H (some (.int (bS 3 j))) H := by
  refine aw_evE (cd := cd_String_charAt) rfl rfl rfl ?_
  show aw_W _ _ _ _ (0, [some (.retAddr 3), some (.int (nI j))], []) H
  refine aw_go 1 rfl ⟨trivial, trivial⟩ ?_
  refine aw_callE rfl rfl (ev_isLatin1_3) ?_
  show aw_W _ _ _ _ (2, [some (.retAddr 3), some (.int (nI j))], [.int 1]) H
  refine aw_go 1 rfl ⟨trivial, trivial⟩ ?_
  refine aw_br (c := (1 : Int32) = 0) (fun h2 => ?_) (fun h2 => ?_)
  · skip
    have h2 := cI_eqT (a := 1) (b := 0) rfl rfl (by omega) (by omega) h2
    show aw_W _ _ _ _ (8, [some (.retAddr 3), some (.int (nI j))], []) H
    exact absurd h2 (by decide)
  · skip
    have h2 := cI_eqF (a := 1) (b := 0) rfl rfl (by omega) (by omega) h2
    show aw_W _ _ _ _ (3, [some (.retAddr 3), some (.int (nI j))], []) H
    refine aw_go 3 rfl ⟨trivial, trivial, trivial, trivial⟩ ?_
    show aw_W _ _ _ _ (6, [some (.retAddr 3), some (.int (nI j))], [.int (nI j), .retAddr 103]) H
    refine aw_callE rfl rfl (ev_latin1_3 (j := j) hz hj) ?_
    show aw_W _ _ _ _ (7, [some (.retAddr 3), some (.int (nI j))], [.int (bS 3 j)]) H
    refine aw_ret rfl rfl (chV 3 (by decide) j hj).2 ?_
    refine ⟨?_, rfl⟩
    rfl
theorem ev_latin1_4 {j : Nat} {zd : Nat} (hz : P.2.2 = .null ∨ P.2.2 = .retAddr 700) (hj : j < 3) : ae_Ev P (zd + 3) 184 [.retAddr 104, .int (nI j)] H (some (.int (bS 4 j))) H := by
  refine aw_evE (cd := cd_StringLatin1_charAt) rfl rfl rfl ?_
  show aw_W _ _ _ _ (0, [some (.retAddr 104), some (.int (nI j))], []) H
  refine aw_go 3 rfl ⟨trivial, trivial, trivial, trivial⟩ ?_
  show aw_W _ _ _ _ (3, [some (.retAddr 104), some (.int (nI j))], [.int 3, .int (nI j)]) H
  refine aw_callE rfl rfl (ev_checkIndex (j := j) (n := 3) hz hj (by decide)) ?_
  show aw_W _ _ _ _ (4, [some (.retAddr 104), some (.int (nI j))], []) H
  refine aw_go 6 rfl ⟨trivial, trivial, (cI_in (a := j) (N := 3) rfl hj (by decide)), trivial, trivial, trivial, trivial⟩ ?_
  show aw_W _ _ _ _ (10, [some (.retAddr 104), some (.int (nI j))], [.int ((((bS 4 (nI j).toNatClampNeg) &&& 255).toUInt32 % 65536).toInt32)]) H
  rw [show (nI j).toNatClampNeg = j from cI_cl (a := j) rfl (by omega)]
  refine aw_ret rfl rfl (by first | exact (chV 4 (by decide) j hj).2 | (rw [(chV 4 (by decide) j hj).1]; exact (chV 4 (by decide) j hj).2)) ?_
  refine ⟨?_, rfl⟩
  rw [(chV 4 (by decide) j hj).1]
theorem ev_charAt_4 {j : Nat} {zd : Nat} (hz : P.2.2 = .null ∨ P.2.2 = .retAddr 700) (hj : j < 3) : ae_Ev P (zd + 4) 180 [.retAddr 4, .int (nI j)] H (some (.int (bS 4 j))) H := by
  refine aw_evE (cd := cd_String_charAt) rfl rfl rfl ?_
  show aw_W _ _ _ _ (0, [some (.retAddr 4), some (.int (nI j))], []) H
  refine aw_go 1 rfl ⟨trivial, trivial⟩ ?_
  refine aw_callE rfl rfl (ev_isLatin1_4) ?_
  show aw_W _ _ _ _ (2, [some (.retAddr 4), some (.int (nI j))], [.int 1]) H
  refine aw_go 1 rfl ⟨trivial, trivial⟩ ?_
  refine aw_br (c := (1 : Int32) = 0) (fun h2 => ?_) (fun h2 => ?_)
  · skip
    have h2 := cI_eqT (a := 1) (b := 0) rfl rfl (by omega) (by omega) h2
    show aw_W _ _ _ _ (8, [some (.retAddr 4), some (.int (nI j))], []) H
    exact absurd h2 (by decide)
  · skip
    have h2 := cI_eqF (a := 1) (b := 0) rfl rfl (by omega) (by omega) h2
    show aw_W _ _ _ _ (3, [some (.retAddr 4), some (.int (nI j))], []) H
    refine aw_go 3 rfl ⟨trivial, trivial, trivial, trivial⟩ ?_
    show aw_W _ _ _ _ (6, [some (.retAddr 4), some (.int (nI j))], [.int (nI j), .retAddr 104]) H
    refine aw_callE rfl rfl (ev_latin1_4 (j := j) hz hj) ?_
    show aw_W _ _ _ _ (7, [some (.retAddr 4), some (.int (nI j))], [.int (bS 4 j)]) H
    refine aw_ret rfl rfl (chV 4 (by decide) j hj).2 ?_
    refine ⟨?_, rfl⟩
    rfl
theorem ev_latin1_5 {j : Nat} {zd : Nat} (hz : P.2.2 = .null ∨ P.2.2 = .retAddr 700) (hj : j < 3) : ae_Ev P (zd + 3) 184 [.retAddr 105, .int (nI j)] H (some (.int (bS 5 j))) H := by
  refine aw_evE (cd := cd_StringLatin1_charAt) rfl rfl rfl ?_
  show aw_W _ _ _ _ (0, [some (.retAddr 105), some (.int (nI j))], []) H
  refine aw_go 3 rfl ⟨trivial, trivial, trivial, trivial⟩ ?_
  show aw_W _ _ _ _ (3, [some (.retAddr 105), some (.int (nI j))], [.int 3, .int (nI j)]) H
  refine aw_callE rfl rfl (ev_checkIndex (j := j) (n := 3) hz hj (by decide)) ?_
  show aw_W _ _ _ _ (4, [some (.retAddr 105), some (.int (nI j))], []) H
  refine aw_go 6 rfl ⟨trivial, trivial, (cI_in (a := j) (N := 3) rfl hj (by decide)), trivial, trivial, trivial, trivial⟩ ?_
  show aw_W _ _ _ _ (10, [some (.retAddr 105), some (.int (nI j))], [.int ((((bS 5 (nI j).toNatClampNeg) &&& 255).toUInt32 % 65536).toInt32)]) H
  rw [show (nI j).toNatClampNeg = j from cI_cl (a := j) rfl (by omega)]
  refine aw_ret rfl rfl (by first | exact (chV 5 (by decide) j hj).2 | (rw [(chV 5 (by decide) j hj).1]; exact (chV 5 (by decide) j hj).2)) ?_
  refine ⟨?_, rfl⟩
  rw [(chV 5 (by decide) j hj).1]
theorem ev_charAt_5 {j : Nat} {zd : Nat} (hz : P.2.2 = .null ∨ P.2.2 = .retAddr 700) (hj : j < 3) : ae_Ev P (zd + 4) 180 [.retAddr 5, .int (nI j)] H (some (.int (bS 5 j))) H := by
  refine aw_evE (cd := cd_String_charAt) rfl rfl rfl ?_
  show aw_W _ _ _ _ (0, [some (.retAddr 5), some (.int (nI j))], []) H
  refine aw_go 1 rfl ⟨trivial, trivial⟩ ?_
  refine aw_callE rfl rfl (ev_isLatin1_5) ?_
  show aw_W _ _ _ _ (2, [some (.retAddr 5), some (.int (nI j))], [.int 1]) H
  refine aw_go 1 rfl ⟨trivial, trivial⟩ ?_
  refine aw_br (c := (1 : Int32) = 0) (fun h2 => ?_) (fun h2 => ?_)
  · skip
    have h2 := cI_eqT (a := 1) (b := 0) rfl rfl (by omega) (by omega) h2
    show aw_W _ _ _ _ (8, [some (.retAddr 5), some (.int (nI j))], []) H
    exact absurd h2 (by decide)
  · skip
    have h2 := cI_eqF (a := 1) (b := 0) rfl rfl (by omega) (by omega) h2
    show aw_W _ _ _ _ (3, [some (.retAddr 5), some (.int (nI j))], []) H
    refine aw_go 3 rfl ⟨trivial, trivial, trivial, trivial⟩ ?_
    show aw_W _ _ _ _ (6, [some (.retAddr 5), some (.int (nI j))], [.int (nI j), .retAddr 105]) H
    refine aw_callE rfl rfl (ev_latin1_5 (j := j) hz hj) ?_
    show aw_W _ _ _ _ (7, [some (.retAddr 5), some (.int (nI j))], [.int (bS 5 j)]) H
    refine aw_ret rfl rfl (chV 5 (by decide) j hj).2 ?_
    refine ⟨?_, rfl⟩
    rfl
theorem ev_latin1_6 {j : Nat} {zd : Nat} (hz : P.2.2 = .null ∨ P.2.2 = .retAddr 700) (hj : j < 4) : ae_Ev P (zd + 3) 184 [.retAddr 106, .int (nI j)] H (some (.int (bS 6 j))) H := by
  refine aw_evE (cd := cd_StringLatin1_charAt) rfl rfl rfl ?_
  show aw_W _ _ _ _ (0, [some (.retAddr 106), some (.int (nI j))], []) H
  refine aw_go 3 rfl ⟨trivial, trivial, trivial, trivial⟩ ?_
  show aw_W _ _ _ _ (3, [some (.retAddr 106), some (.int (nI j))], [.int 4, .int (nI j)]) H
  refine aw_callE rfl rfl (ev_checkIndex (j := j) (n := 4) hz hj (by decide)) ?_
  show aw_W _ _ _ _ (4, [some (.retAddr 106), some (.int (nI j))], []) H
  refine aw_go 6 rfl ⟨trivial, trivial, (cI_in (a := j) (N := 4) rfl hj (by decide)), trivial, trivial, trivial, trivial⟩ ?_
  show aw_W _ _ _ _ (10, [some (.retAddr 106), some (.int (nI j))], [.int ((((bS 6 (nI j).toNatClampNeg) &&& 255).toUInt32 % 65536).toInt32)]) H
  rw [show (nI j).toNatClampNeg = j from cI_cl (a := j) rfl (by omega)]
  refine aw_ret rfl rfl (by first | exact (chV 6 (by decide) j hj).2 | (rw [(chV 6 (by decide) j hj).1]; exact (chV 6 (by decide) j hj).2)) ?_
  refine ⟨?_, rfl⟩
  rw [(chV 6 (by decide) j hj).1]
theorem ev_charAt_6 {j : Nat} {zd : Nat} (hz : P.2.2 = .null ∨ P.2.2 = .retAddr 700) (hj : j < 4) : ae_Ev P (zd + 4) 180 [.retAddr 6, .int (nI j)] H (some (.int (bS 6 j))) H := by
  refine aw_evE (cd := cd_String_charAt) rfl rfl rfl ?_
  show aw_W _ _ _ _ (0, [some (.retAddr 6), some (.int (nI j))], []) H
  refine aw_go 1 rfl ⟨trivial, trivial⟩ ?_
  refine aw_callE rfl rfl (ev_isLatin1_6) ?_
  show aw_W _ _ _ _ (2, [some (.retAddr 6), some (.int (nI j))], [.int 1]) H
  refine aw_go 1 rfl ⟨trivial, trivial⟩ ?_
  refine aw_br (c := (1 : Int32) = 0) (fun h2 => ?_) (fun h2 => ?_)
  · skip
    have h2 := cI_eqT (a := 1) (b := 0) rfl rfl (by omega) (by omega) h2
    show aw_W _ _ _ _ (8, [some (.retAddr 6), some (.int (nI j))], []) H
    exact absurd h2 (by decide)
  · skip
    have h2 := cI_eqF (a := 1) (b := 0) rfl rfl (by omega) (by omega) h2
    show aw_W _ _ _ _ (3, [some (.retAddr 6), some (.int (nI j))], []) H
    refine aw_go 3 rfl ⟨trivial, trivial, trivial, trivial⟩ ?_
    show aw_W _ _ _ _ (6, [some (.retAddr 6), some (.int (nI j))], [.int (nI j), .retAddr 106]) H
    refine aw_callE rfl rfl (ev_latin1_6 (j := j) hz hj) ?_
    show aw_W _ _ _ _ (7, [some (.retAddr 6), some (.int (nI j))], [.int (bS 6 j)]) H
    refine aw_ret rfl rfl (chV 6 (by decide) j hj).2 ?_
    refine ⟨?_, rfl⟩
    rfl
theorem ev_latin1_7 {j : Nat} {zd : Nat} (hz : P.2.2 = .null ∨ P.2.2 = .retAddr 700) (hj : j < 4) : ae_Ev P (zd + 3) 184 [.retAddr 107, .int (nI j)] H (some (.int (bS 7 j))) H := by
  refine aw_evE (cd := cd_StringLatin1_charAt) rfl rfl rfl ?_
  show aw_W _ _ _ _ (0, [some (.retAddr 107), some (.int (nI j))], []) H
  refine aw_go 3 rfl ⟨trivial, trivial, trivial, trivial⟩ ?_
  show aw_W _ _ _ _ (3, [some (.retAddr 107), some (.int (nI j))], [.int 4, .int (nI j)]) H
  refine aw_callE rfl rfl (ev_checkIndex (j := j) (n := 4) hz hj (by decide)) ?_
  show aw_W _ _ _ _ (4, [some (.retAddr 107), some (.int (nI j))], []) H
  refine aw_go 6 rfl ⟨trivial, trivial, (cI_in (a := j) (N := 4) rfl hj (by decide)), trivial, trivial, trivial, trivial⟩ ?_
  show aw_W _ _ _ _ (10, [some (.retAddr 107), some (.int (nI j))], [.int ((((bS 7 (nI j).toNatClampNeg) &&& 255).toUInt32 % 65536).toInt32)]) H
  rw [show (nI j).toNatClampNeg = j from cI_cl (a := j) rfl (by omega)]
  refine aw_ret rfl rfl (by first | exact (chV 7 (by decide) j hj).2 | (rw [(chV 7 (by decide) j hj).1]; exact (chV 7 (by decide) j hj).2)) ?_
  refine ⟨?_, rfl⟩
  rw [(chV 7 (by decide) j hj).1]
theorem ev_charAt_7 {j : Nat} {zd : Nat} (hz : P.2.2 = .null ∨ P.2.2 = .retAddr 700) (hj : j < 4) : ae_Ev P (zd + 4) 180 [.retAddr 7, .int (nI j)] H (some (.int (bS 7 j))) H := by
  refine aw_evE (cd := cd_String_charAt) rfl rfl rfl ?_
  show aw_W _ _ _ _ (0, [some (.retAddr 7), some (.int (nI j))], []) H
  refine aw_go 1 rfl ⟨trivial, trivial⟩ ?_
  refine aw_callE rfl rfl (ev_isLatin1_7) ?_
  show aw_W _ _ _ _ (2, [some (.retAddr 7), some (.int (nI j))], [.int 1]) H
  refine aw_go 1 rfl ⟨trivial, trivial⟩ ?_
  refine aw_br (c := (1 : Int32) = 0) (fun h2 => ?_) (fun h2 => ?_)
  · skip
    have h2 := cI_eqT (a := 1) (b := 0) rfl rfl (by omega) (by omega) h2
    show aw_W _ _ _ _ (8, [some (.retAddr 7), some (.int (nI j))], []) H
    exact absurd h2 (by decide)
  · skip
    have h2 := cI_eqF (a := 1) (b := 0) rfl rfl (by omega) (by omega) h2
    show aw_W _ _ _ _ (3, [some (.retAddr 7), some (.int (nI j))], []) H
    refine aw_go 3 rfl ⟨trivial, trivial, trivial, trivial⟩ ?_
    show aw_W _ _ _ _ (6, [some (.retAddr 7), some (.int (nI j))], [.int (nI j), .retAddr 107]) H
    refine aw_callE rfl rfl (ev_latin1_7 (j := j) hz hj) ?_
    show aw_W _ _ _ _ (7, [some (.retAddr 7), some (.int (nI j))], [.int (bS 7 j)]) H
    refine aw_ret rfl rfl (chV 7 (by decide) j hj).2 ?_
    refine ⟨?_, rfl⟩
    rfl
theorem ev_latin1_8 {j : Nat} {zd : Nat} (hz : P.2.2 = .null ∨ P.2.2 = .retAddr 700) (hj : j < 4) : ae_Ev P (zd + 3) 184 [.retAddr 108, .int (nI j)] H (some (.int (bS 8 j))) H := by
  refine aw_evE (cd := cd_StringLatin1_charAt) rfl rfl rfl ?_
  show aw_W _ _ _ _ (0, [some (.retAddr 108), some (.int (nI j))], []) H
  refine aw_go 3 rfl ⟨trivial, trivial, trivial, trivial⟩ ?_
  show aw_W _ _ _ _ (3, [some (.retAddr 108), some (.int (nI j))], [.int 4, .int (nI j)]) H
  refine aw_callE rfl rfl (ev_checkIndex (j := j) (n := 4) hz hj (by decide)) ?_
  show aw_W _ _ _ _ (4, [some (.retAddr 108), some (.int (nI j))], []) H
  refine aw_go 6 rfl ⟨trivial, trivial, (cI_in (a := j) (N := 4) rfl hj (by decide)), trivial, trivial, trivial, trivial⟩ ?_
  show aw_W _ _ _ _ (10, [some (.retAddr 108), some (.int (nI j))], [.int ((((bS 8 (nI j).toNatClampNeg) &&& 255).toUInt32 % 65536).toInt32)]) H
  rw [show (nI j).toNatClampNeg = j from cI_cl (a := j) rfl (by omega)]
  refine aw_ret rfl rfl (by first | exact (chV 8 (by decide) j hj).2 | (rw [(chV 8 (by decide) j hj).1]; exact (chV 8 (by decide) j hj).2)) ?_
  refine ⟨?_, rfl⟩
  rw [(chV 8 (by decide) j hj).1]
theorem ev_charAt_8 {j : Nat} {zd : Nat} (hz : P.2.2 = .null ∨ P.2.2 = .retAddr 700) (hj : j < 4) : ae_Ev P (zd + 4) 180 [.retAddr 8, .int (nI j)] H (some (.int (bS 8 j))) H := by
  refine aw_evE (cd := cd_String_charAt) rfl rfl rfl ?_
  show aw_W _ _ _ _ (0, [some (.retAddr 8), some (.int (nI j))], []) H
  refine aw_go 1 rfl ⟨trivial, trivial⟩ ?_
  refine aw_callE rfl rfl (ev_isLatin1_8) ?_
  show aw_W _ _ _ _ (2, [some (.retAddr 8), some (.int (nI j))], [.int 1]) H
  refine aw_go 1 rfl ⟨trivial, trivial⟩ ?_
  refine aw_br (c := (1 : Int32) = 0) (fun h2 => ?_) (fun h2 => ?_)
  · skip
    have h2 := cI_eqT (a := 1) (b := 0) rfl rfl (by omega) (by omega) h2
    show aw_W _ _ _ _ (8, [some (.retAddr 8), some (.int (nI j))], []) H
    exact absurd h2 (by decide)
  · skip
    have h2 := cI_eqF (a := 1) (b := 0) rfl rfl (by omega) (by omega) h2
    show aw_W _ _ _ _ (3, [some (.retAddr 8), some (.int (nI j))], []) H
    refine aw_go 3 rfl ⟨trivial, trivial, trivial, trivial⟩ ?_
    show aw_W _ _ _ _ (6, [some (.retAddr 8), some (.int (nI j))], [.int (nI j), .retAddr 108]) H
    refine aw_callE rfl rfl (ev_latin1_8 (j := j) hz hj) ?_
    show aw_W _ _ _ _ (7, [some (.retAddr 8), some (.int (nI j))], [.int (bS 8 j)]) H
    refine aw_ret rfl rfl (chV 8 (by decide) j hj).2 ?_
    refine ⟨?_, rfl⟩
    rfl
theorem ev_latin1_9 {j : Nat} {zd : Nat} (hz : P.2.2 = .null ∨ P.2.2 = .retAddr 700) (hj : j < 5) : ae_Ev P (zd + 3) 184 [.retAddr 109, .int (nI j)] H (some (.int (bS 9 j))) H := by
  refine aw_evE (cd := cd_StringLatin1_charAt) rfl rfl rfl ?_
  show aw_W _ _ _ _ (0, [some (.retAddr 109), some (.int (nI j))], []) H
  refine aw_go 3 rfl ⟨trivial, trivial, trivial, trivial⟩ ?_
  show aw_W _ _ _ _ (3, [some (.retAddr 109), some (.int (nI j))], [.int 5, .int (nI j)]) H
  refine aw_callE rfl rfl (ev_checkIndex (j := j) (n := 5) hz hj (by decide)) ?_
  show aw_W _ _ _ _ (4, [some (.retAddr 109), some (.int (nI j))], []) H
  refine aw_go 6 rfl ⟨trivial, trivial, (cI_in (a := j) (N := 5) rfl hj (by decide)), trivial, trivial, trivial, trivial⟩ ?_
  show aw_W _ _ _ _ (10, [some (.retAddr 109), some (.int (nI j))], [.int ((((bS 9 (nI j).toNatClampNeg) &&& 255).toUInt32 % 65536).toInt32)]) H
  rw [show (nI j).toNatClampNeg = j from cI_cl (a := j) rfl (by omega)]
  refine aw_ret rfl rfl (by first | exact (chV 9 (by decide) j hj).2 | (rw [(chV 9 (by decide) j hj).1]; exact (chV 9 (by decide) j hj).2)) ?_
  refine ⟨?_, rfl⟩
  rw [(chV 9 (by decide) j hj).1]
theorem ev_charAt_9 {j : Nat} {zd : Nat} (hz : P.2.2 = .null ∨ P.2.2 = .retAddr 700) (hj : j < 5) : ae_Ev P (zd + 4) 180 [.retAddr 9, .int (nI j)] H (some (.int (bS 9 j))) H := by
  refine aw_evE (cd := cd_String_charAt) rfl rfl rfl ?_
  show aw_W _ _ _ _ (0, [some (.retAddr 9), some (.int (nI j))], []) H
  refine aw_go 1 rfl ⟨trivial, trivial⟩ ?_
  refine aw_callE rfl rfl (ev_isLatin1_9) ?_
  show aw_W _ _ _ _ (2, [some (.retAddr 9), some (.int (nI j))], [.int 1]) H
  refine aw_go 1 rfl ⟨trivial, trivial⟩ ?_
  refine aw_br (c := (1 : Int32) = 0) (fun h2 => ?_) (fun h2 => ?_)
  · skip
    have h2 := cI_eqT (a := 1) (b := 0) rfl rfl (by omega) (by omega) h2
    show aw_W _ _ _ _ (8, [some (.retAddr 9), some (.int (nI j))], []) H
    exact absurd h2 (by decide)
  · skip
    have h2 := cI_eqF (a := 1) (b := 0) rfl rfl (by omega) (by omega) h2
    show aw_W _ _ _ _ (3, [some (.retAddr 9), some (.int (nI j))], []) H
    refine aw_go 3 rfl ⟨trivial, trivial, trivial, trivial⟩ ?_
    show aw_W _ _ _ _ (6, [some (.retAddr 9), some (.int (nI j))], [.int (nI j), .retAddr 109]) H
    refine aw_callE rfl rfl (ev_latin1_9 (j := j) hz hj) ?_
    show aw_W _ _ _ _ (7, [some (.retAddr 9), some (.int (nI j))], [.int (bS 9 j)]) H
    refine aw_ret rfl rfl (chV 9 (by decide) j hj).2 ?_
    refine ⟨?_, rfl⟩
    rfl
theorem ev_latin1_10 {j : Nat} {zd : Nat} (hz : P.2.2 = .null ∨ P.2.2 = .retAddr 700) (hj : j < 2) : ae_Ev P (zd + 3) 184 [.retAddr 110, .int (nI j)] H (some (.int (bS 10 j))) H := by
  refine aw_evE (cd := cd_StringLatin1_charAt) rfl rfl rfl ?_
  show aw_W _ _ _ _ (0, [some (.retAddr 110), some (.int (nI j))], []) H
  refine aw_go 3 rfl ⟨trivial, trivial, trivial, trivial⟩ ?_
  show aw_W _ _ _ _ (3, [some (.retAddr 110), some (.int (nI j))], [.int 2, .int (nI j)]) H
  refine aw_callE rfl rfl (ev_checkIndex (j := j) (n := 2) hz hj (by decide)) ?_
  show aw_W _ _ _ _ (4, [some (.retAddr 110), some (.int (nI j))], []) H
  refine aw_go 6 rfl ⟨trivial, trivial, (cI_in (a := j) (N := 2) rfl hj (by decide)), trivial, trivial, trivial, trivial⟩ ?_
  show aw_W _ _ _ _ (10, [some (.retAddr 110), some (.int (nI j))], [.int ((((bS 10 (nI j).toNatClampNeg) &&& 255).toUInt32 % 65536).toInt32)]) H
  rw [show (nI j).toNatClampNeg = j from cI_cl (a := j) rfl (by omega)]
  refine aw_ret rfl rfl (by first | exact (chV 10 (by decide) j hj).2 | (rw [(chV 10 (by decide) j hj).1]; exact (chV 10 (by decide) j hj).2)) ?_
  refine ⟨?_, rfl⟩
  rw [(chV 10 (by decide) j hj).1]
theorem ev_charAt_10 {j : Nat} {zd : Nat} (hz : P.2.2 = .null ∨ P.2.2 = .retAddr 700) (hj : j < 2) : ae_Ev P (zd + 4) 180 [.retAddr 10, .int (nI j)] H (some (.int (bS 10 j))) H := by
  refine aw_evE (cd := cd_String_charAt) rfl rfl rfl ?_
  show aw_W _ _ _ _ (0, [some (.retAddr 10), some (.int (nI j))], []) H
  refine aw_go 1 rfl ⟨trivial, trivial⟩ ?_
  refine aw_callE rfl rfl (ev_isLatin1_10) ?_
  show aw_W _ _ _ _ (2, [some (.retAddr 10), some (.int (nI j))], [.int 1]) H
  refine aw_go 1 rfl ⟨trivial, trivial⟩ ?_
  refine aw_br (c := (1 : Int32) = 0) (fun h2 => ?_) (fun h2 => ?_)
  · skip
    have h2 := cI_eqT (a := 1) (b := 0) rfl rfl (by omega) (by omega) h2
    show aw_W _ _ _ _ (8, [some (.retAddr 10), some (.int (nI j))], []) H
    exact absurd h2 (by decide)
  · skip
    have h2 := cI_eqF (a := 1) (b := 0) rfl rfl (by omega) (by omega) h2
    show aw_W _ _ _ _ (3, [some (.retAddr 10), some (.int (nI j))], []) H
    refine aw_go 3 rfl ⟨trivial, trivial, trivial, trivial⟩ ?_
    show aw_W _ _ _ _ (6, [some (.retAddr 10), some (.int (nI j))], [.int (nI j), .retAddr 110]) H
    refine aw_callE rfl rfl (ev_latin1_10 (j := j) hz hj) ?_
    show aw_W _ _ _ _ (7, [some (.retAddr 10), some (.int (nI j))], [.int (bS 10 j)]) H
    refine aw_ret rfl rfl (chV 10 (by decide) j hj).2 ?_
    refine ⟨?_, rfl⟩
    rfl
theorem ev_latin1_11 {j : Nat} {zd : Nat} (hz : P.2.2 = .null ∨ P.2.2 = .retAddr 700) (hj : j < 3) : ae_Ev P (zd + 3) 184 [.retAddr 111, .int (nI j)] H (some (.int (bS 11 j))) H := by
  refine aw_evE (cd := cd_StringLatin1_charAt) rfl rfl rfl ?_
  show aw_W _ _ _ _ (0, [some (.retAddr 111), some (.int (nI j))], []) H
  refine aw_go 3 rfl ⟨trivial, trivial, trivial, trivial⟩ ?_
  show aw_W _ _ _ _ (3, [some (.retAddr 111), some (.int (nI j))], [.int 3, .int (nI j)]) H
  refine aw_callE rfl rfl (ev_checkIndex (j := j) (n := 3) hz hj (by decide)) ?_
  show aw_W _ _ _ _ (4, [some (.retAddr 111), some (.int (nI j))], []) H
  refine aw_go 6 rfl ⟨trivial, trivial, (cI_in (a := j) (N := 3) rfl hj (by decide)), trivial, trivial, trivial, trivial⟩ ?_
  show aw_W _ _ _ _ (10, [some (.retAddr 111), some (.int (nI j))], [.int ((((bS 11 (nI j).toNatClampNeg) &&& 255).toUInt32 % 65536).toInt32)]) H
  rw [show (nI j).toNatClampNeg = j from cI_cl (a := j) rfl (by omega)]
  refine aw_ret rfl rfl (by first | exact (chV 11 (by decide) j hj).2 | (rw [(chV 11 (by decide) j hj).1]; exact (chV 11 (by decide) j hj).2)) ?_
  refine ⟨?_, rfl⟩
  rw [(chV 11 (by decide) j hj).1]
theorem ev_charAt_11 {j : Nat} {zd : Nat} (hz : P.2.2 = .null ∨ P.2.2 = .retAddr 700) (hj : j < 3) : ae_Ev P (zd + 4) 180 [.retAddr 11, .int (nI j)] H (some (.int (bS 11 j))) H := by
  refine aw_evE (cd := cd_String_charAt) rfl rfl rfl ?_
  show aw_W _ _ _ _ (0, [some (.retAddr 11), some (.int (nI j))], []) H
  refine aw_go 1 rfl ⟨trivial, trivial⟩ ?_
  refine aw_callE rfl rfl (ev_isLatin1_11) ?_
  show aw_W _ _ _ _ (2, [some (.retAddr 11), some (.int (nI j))], [.int 1]) H
  refine aw_go 1 rfl ⟨trivial, trivial⟩ ?_
  refine aw_br (c := (1 : Int32) = 0) (fun h2 => ?_) (fun h2 => ?_)
  · skip
    have h2 := cI_eqT (a := 1) (b := 0) rfl rfl (by omega) (by omega) h2
    show aw_W _ _ _ _ (8, [some (.retAddr 11), some (.int (nI j))], []) H
    exact absurd h2 (by decide)
  · skip
    have h2 := cI_eqF (a := 1) (b := 0) rfl rfl (by omega) (by omega) h2
    show aw_W _ _ _ _ (3, [some (.retAddr 11), some (.int (nI j))], []) H
    refine aw_go 3 rfl ⟨trivial, trivial, trivial, trivial⟩ ?_
    show aw_W _ _ _ _ (6, [some (.retAddr 11), some (.int (nI j))], [.int (nI j), .retAddr 111]) H
    refine aw_callE rfl rfl (ev_latin1_11 (j := j) hz hj) ?_
    show aw_W _ _ _ _ (7, [some (.retAddr 11), some (.int (nI j))], [.int (bS 11 j)]) H
    refine aw_ret rfl rfl (chV 11 (by decide) j hj).2 ?_
    refine ⟨?_, rfl⟩
    rfl
theorem ev_latin1_12 {j : Nat} {zd : Nat} (hz : P.2.2 = .null ∨ P.2.2 = .retAddr 700) (hj : j < 3) : ae_Ev P (zd + 3) 184 [.retAddr 112, .int (nI j)] H (some (.int (bS 12 j))) H := by
  refine aw_evE (cd := cd_StringLatin1_charAt) rfl rfl rfl ?_
  show aw_W _ _ _ _ (0, [some (.retAddr 112), some (.int (nI j))], []) H
  refine aw_go 3 rfl ⟨trivial, trivial, trivial, trivial⟩ ?_
  show aw_W _ _ _ _ (3, [some (.retAddr 112), some (.int (nI j))], [.int 3, .int (nI j)]) H
  refine aw_callE rfl rfl (ev_checkIndex (j := j) (n := 3) hz hj (by decide)) ?_
  show aw_W _ _ _ _ (4, [some (.retAddr 112), some (.int (nI j))], []) H
  refine aw_go 6 rfl ⟨trivial, trivial, (cI_in (a := j) (N := 3) rfl hj (by decide)), trivial, trivial, trivial, trivial⟩ ?_
  show aw_W _ _ _ _ (10, [some (.retAddr 112), some (.int (nI j))], [.int ((((bS 12 (nI j).toNatClampNeg) &&& 255).toUInt32 % 65536).toInt32)]) H
  rw [show (nI j).toNatClampNeg = j from cI_cl (a := j) rfl (by omega)]
  refine aw_ret rfl rfl (by first | exact (chV 12 (by decide) j hj).2 | (rw [(chV 12 (by decide) j hj).1]; exact (chV 12 (by decide) j hj).2)) ?_
  refine ⟨?_, rfl⟩
  rw [(chV 12 (by decide) j hj).1]
theorem ev_charAt_12 {j : Nat} {zd : Nat} (hz : P.2.2 = .null ∨ P.2.2 = .retAddr 700) (hj : j < 3) : ae_Ev P (zd + 4) 180 [.retAddr 12, .int (nI j)] H (some (.int (bS 12 j))) H := by
  refine aw_evE (cd := cd_String_charAt) rfl rfl rfl ?_
  show aw_W _ _ _ _ (0, [some (.retAddr 12), some (.int (nI j))], []) H
  refine aw_go 1 rfl ⟨trivial, trivial⟩ ?_
  refine aw_callE rfl rfl (ev_isLatin1_12) ?_
  show aw_W _ _ _ _ (2, [some (.retAddr 12), some (.int (nI j))], [.int 1]) H
  refine aw_go 1 rfl ⟨trivial, trivial⟩ ?_
  refine aw_br (c := (1 : Int32) = 0) (fun h2 => ?_) (fun h2 => ?_)
  · skip
    have h2 := cI_eqT (a := 1) (b := 0) rfl rfl (by omega) (by omega) h2
    show aw_W _ _ _ _ (8, [some (.retAddr 12), some (.int (nI j))], []) H
    exact absurd h2 (by decide)
  · skip
    have h2 := cI_eqF (a := 1) (b := 0) rfl rfl (by omega) (by omega) h2
    show aw_W _ _ _ _ (3, [some (.retAddr 12), some (.int (nI j))], []) H
    refine aw_go 3 rfl ⟨trivial, trivial, trivial, trivial⟩ ?_
    show aw_W _ _ _ _ (6, [some (.retAddr 12), some (.int (nI j))], [.int (nI j), .retAddr 112]) H
    refine aw_callE rfl rfl (ev_latin1_12 (j := j) hz hj) ?_
    show aw_W _ _ _ _ (7, [some (.retAddr 12), some (.int (nI j))], [.int (bS 12 j)]) H
    refine aw_ret rfl rfl (chV 12 (by decide) j hj).2 ?_
    refine ⟨?_, rfl⟩
    rfl
theorem ev_Token_isNumberOrName {t : Int32} {zd : Nat}  : ae_Ev P (zd + 1) 98 [.int t] H (some (.int (bI (¬ t < 0 ∧ ¬ 10005 < t)))) H := by
  refine aw_evE (cd := cd_Token_isNumberOrName) rfl rfl rfl ?_
  show aw_W _ _ _ _ (0, [some (.int t)], []) H
  refine aw_go 2 rfl ⟨trivial, trivial, trivial⟩ ?_
  refine aw_br (c := t < 0) (fun h1 => ?_) (fun h1 => ?_)
  · skip
    show aw_W _ _ _ _ (7, [some (.int t)], []) H
    refine aw_go 1 rfl ⟨trivial, trivial⟩ ?_
    refine aw_ret rfl rfl (by first | exact Or.inl rfl | exact Or.inr rfl | exact bI_b _) ?_
    refine ⟨?_, rfl⟩
    exact congrArg (fun q => some (Value.int q)) (bI_0 (fun q => q.1 h1))
  · skip
    show aw_W _ _ _ _ (2, [some (.int t)], []) H
    refine aw_go 3 rfl ⟨trivial, trivial, trivial, trivial⟩ ?_
    refine aw_br (c := (10005 : Int32) < t) (fun h4 => ?_) (fun h4 => ?_)
    · skip
      show aw_W _ _ _ _ (7, [some (.int t)], []) H
      refine aw_go 1 rfl ⟨trivial, trivial⟩ ?_
      refine aw_ret rfl rfl (by first | exact Or.inl rfl | exact Or.inr rfl | exact bI_b _) ?_
      refine ⟨?_, rfl⟩
      exact congrArg (fun q => some (Value.int q)) (bI_0 (fun q => q.2 h4))
    · skip
      show aw_W _ _ _ _ (5, [some (.int t)], []) H
      refine aw_go 2 rfl ⟨trivial, trivial, trivial⟩ ?_
      refine aw_ret rfl rfl (by first | exact Or.inl rfl | exact Or.inr rfl | exact bI_b _) ?_
      refine ⟨?_, rfl⟩
      exact congrArg (fun q => some (Value.int q)) (bI_1 ⟨h1, h4⟩)
theorem ev_Token_ofSign {b : Int32} {zd : Nat}  : ae_Ev P (zd + 1) 99 [.int b] H (some (.int (tSg b))) H := by
  refine aw_evE (cd := cd_Token_ofSign) rfl rfl rfl ?_
  show aw_W _ _ _ _ (0, [some (.int b)], []) H
  refine aw_go 2 rfl ⟨trivial, trivial, trivial⟩ ?_
  refine aw_sw (x := b) (fun h1_40 => ?_) (fun h1_40 => ?_)
  · skip
    show aw_W _ _ _ _ (2, [some (.int b)], []) H
    refine aw_go 1 rfl ⟨trivial, trivial⟩ ?_
    refine aw_ret rfl rfl trivial ?_
    refine ⟨?_, rfl⟩
    rw [tSg, if_pos h1_40]
  refine aw_sw (x := b) (fun h1_41 => ?_) (fun h1_41 => ?_)
  · skip
    show aw_W _ _ _ _ (4, [some (.int b)], []) H
    refine aw_go 1 rfl ⟨trivial, trivial⟩ ?_
    refine aw_ret rfl rfl trivial ?_
    refine ⟨?_, rfl⟩
    rw [tSg, if_neg h1_40, if_pos h1_41]
  refine aw_sw (x := b) (fun h1_42 => ?_) (fun h1_42 => ?_)
  · skip
    show aw_W _ _ _ _ (12, [some (.int b)], []) H
    refine aw_go 1 rfl ⟨trivial, trivial⟩ ?_
    refine aw_ret rfl rfl trivial ?_
    refine ⟨?_, rfl⟩
    rw [tSg, if_neg h1_40, if_neg h1_41, if_pos h1_42]
  refine aw_sw (x := b) (fun h1_43 => ?_) (fun h1_43 => ?_)
  · skip
    show aw_W _ _ _ _ (8, [some (.int b)], []) H
    refine aw_go 1 rfl ⟨trivial, trivial⟩ ?_
    refine aw_ret rfl rfl trivial ?_
    refine ⟨?_, rfl⟩
    rw [tSg, if_neg h1_40, if_neg h1_41, if_neg h1_42, if_pos h1_43]
  refine aw_sw (x := b) (fun h1_44 => ?_) (fun h1_44 => ?_)
  · skip
    show aw_W _ _ _ _ (18, [some (.int b)], []) H
    refine aw_go 1 rfl ⟨trivial, trivial⟩ ?_
    refine aw_ret rfl rfl trivial ?_
    refine ⟨?_, rfl⟩
    subst h1_44
    rfl
  refine aw_sw (x := b) (fun h1_45 => ?_) (fun h1_45 => ?_)
  · skip
    show aw_W _ _ _ _ (10, [some (.int b)], []) H
    refine aw_go 1 rfl ⟨trivial, trivial⟩ ?_
    refine aw_ret rfl rfl trivial ?_
    refine ⟨?_, rfl⟩
    rw [tSg, if_neg h1_40, if_neg h1_41, if_neg h1_42, if_neg h1_43, if_pos h1_45]
  refine aw_sw (x := b) (fun h1_46 => ?_) (fun h1_46 => ?_)
  · skip
    show aw_W _ _ _ _ (18, [some (.int b)], []) H
    refine aw_go 1 rfl ⟨trivial, trivial⟩ ?_
    refine aw_ret rfl rfl trivial ?_
    refine ⟨?_, rfl⟩
    subst h1_46
    rfl
  refine aw_sw (x := b) (fun h1_47 => ?_) (fun h1_47 => ?_)
  · skip
    show aw_W _ _ _ _ (18, [some (.int b)], []) H
    refine aw_go 1 rfl ⟨trivial, trivial⟩ ?_
    refine aw_ret rfl rfl trivial ?_
    refine ⟨?_, rfl⟩
    subst h1_47
    rfl
  refine aw_sw (x := b) (fun h1_48 => ?_) (fun h1_48 => ?_)
  · skip
    show aw_W _ _ _ _ (18, [some (.int b)], []) H
    refine aw_go 1 rfl ⟨trivial, trivial⟩ ?_
    refine aw_ret rfl rfl trivial ?_
    refine ⟨?_, rfl⟩
    subst h1_48
    rfl
  refine aw_sw (x := b) (fun h1_49 => ?_) (fun h1_49 => ?_)
  · skip
    show aw_W _ _ _ _ (18, [some (.int b)], []) H
    refine aw_go 1 rfl ⟨trivial, trivial⟩ ?_
    refine aw_ret rfl rfl trivial ?_
    refine ⟨?_, rfl⟩
    subst h1_49
    rfl
  refine aw_sw (x := b) (fun h1_50 => ?_) (fun h1_50 => ?_)
  · skip
    show aw_W _ _ _ _ (18, [some (.int b)], []) H
    refine aw_go 1 rfl ⟨trivial, trivial⟩ ?_
    refine aw_ret rfl rfl trivial ?_
    refine ⟨?_, rfl⟩
    subst h1_50
    rfl
  refine aw_sw (x := b) (fun h1_51 => ?_) (fun h1_51 => ?_)
  · skip
    show aw_W _ _ _ _ (18, [some (.int b)], []) H
    refine aw_go 1 rfl ⟨trivial, trivial⟩ ?_
    refine aw_ret rfl rfl trivial ?_
    refine ⟨?_, rfl⟩
    subst h1_51
    rfl
  refine aw_sw (x := b) (fun h1_52 => ?_) (fun h1_52 => ?_)
  · skip
    show aw_W _ _ _ _ (18, [some (.int b)], []) H
    refine aw_go 1 rfl ⟨trivial, trivial⟩ ?_
    refine aw_ret rfl rfl trivial ?_
    refine ⟨?_, rfl⟩
    subst h1_52
    rfl
  refine aw_sw (x := b) (fun h1_53 => ?_) (fun h1_53 => ?_)
  · skip
    show aw_W _ _ _ _ (18, [some (.int b)], []) H
    refine aw_go 1 rfl ⟨trivial, trivial⟩ ?_
    refine aw_ret rfl rfl trivial ?_
    refine ⟨?_, rfl⟩
    subst h1_53
    rfl
  refine aw_sw (x := b) (fun h1_54 => ?_) (fun h1_54 => ?_)
  · skip
    show aw_W _ _ _ _ (18, [some (.int b)], []) H
    refine aw_go 1 rfl ⟨trivial, trivial⟩ ?_
    refine aw_ret rfl rfl trivial ?_
    refine ⟨?_, rfl⟩
    subst h1_54
    rfl
  refine aw_sw (x := b) (fun h1_55 => ?_) (fun h1_55 => ?_)
  · skip
    show aw_W _ _ _ _ (18, [some (.int b)], []) H
    refine aw_go 1 rfl ⟨trivial, trivial⟩ ?_
    refine aw_ret rfl rfl trivial ?_
    refine ⟨?_, rfl⟩
    subst h1_55
    rfl
  refine aw_sw (x := b) (fun h1_56 => ?_) (fun h1_56 => ?_)
  · skip
    show aw_W _ _ _ _ (18, [some (.int b)], []) H
    refine aw_go 1 rfl ⟨trivial, trivial⟩ ?_
    refine aw_ret rfl rfl trivial ?_
    refine ⟨?_, rfl⟩
    subst h1_56
    rfl
  refine aw_sw (x := b) (fun h1_57 => ?_) (fun h1_57 => ?_)
  · skip
    show aw_W _ _ _ _ (18, [some (.int b)], []) H
    refine aw_go 1 rfl ⟨trivial, trivial⟩ ?_
    refine aw_ret rfl rfl trivial ?_
    refine ⟨?_, rfl⟩
    subst h1_57
    rfl
  refine aw_sw (x := b) (fun h1_58 => ?_) (fun h1_58 => ?_)
  · skip
    show aw_W _ _ _ _ (18, [some (.int b)], []) H
    refine aw_go 1 rfl ⟨trivial, trivial⟩ ?_
    refine aw_ret rfl rfl trivial ?_
    refine ⟨?_, rfl⟩
    subst h1_58
    rfl
  refine aw_sw (x := b) (fun h1_59 => ?_) (fun h1_59 => ?_)
  · skip
    show aw_W _ _ _ _ (6, [some (.int b)], []) H
    refine aw_go 1 rfl ⟨trivial, trivial⟩ ?_
    refine aw_ret rfl rfl trivial ?_
    refine ⟨?_, rfl⟩
    rw [tSg, if_neg h1_40, if_neg h1_41, if_neg h1_42, if_neg h1_43, if_neg h1_45, if_pos h1_59]
  refine aw_sw (x := b) (fun h1_60 => ?_) (fun h1_60 => ?_)
  · skip
    show aw_W _ _ _ _ (14, [some (.int b)], []) H
    refine aw_go 1 rfl ⟨trivial, trivial⟩ ?_
    refine aw_ret rfl rfl trivial ?_
    refine ⟨?_, rfl⟩
    rw [tSg, if_neg h1_40, if_neg h1_41, if_neg h1_42, if_neg h1_43, if_neg h1_45, if_neg h1_59, if_pos h1_60]
  refine aw_sw (x := b) (fun h1_61 => ?_) (fun h1_61 => ?_)
  · skip
    show aw_W _ _ _ _ (16, [some (.int b)], []) H
    refine aw_go 1 rfl ⟨trivial, trivial⟩ ?_
    refine aw_ret rfl rfl trivial ?_
    refine ⟨?_, rfl⟩
    rw [tSg, if_neg h1_40, if_neg h1_41, if_neg h1_42, if_neg h1_43, if_neg h1_45, if_neg h1_59, if_neg h1_60, if_pos h1_61]
  show aw_W _ _ _ _ (18, [some (.int b)], []) H
  refine aw_go 1 rfl ⟨trivial, trivial⟩ ?_
  refine aw_ret rfl rfl trivial ?_
  refine ⟨?_, rfl⟩
  rw [tSg, if_neg h1_40, if_neg h1_41, if_neg h1_42, if_neg h1_43, if_neg h1_45, if_neg h1_59, if_neg h1_60, if_neg h1_61]
theorem ev_word_0  {zd : Nat}  : ae_Ev P (zd + 1) 102 [.int 0] H (some (.retAddr 1)) H := by
  refine aw_evE (cd := cd_Token_word) rfl rfl rfl ?_
  show aw_W _ _ _ _ (0, [some (.int 0)], []) H
  refine aw_go 2 rfl ⟨trivial, trivial, trivial⟩ ?_
  show aw_W _ _ _ _ (2, [some (.int 0)], []) H
  refine aw_go 1 rfl ⟨trivial, trivial⟩ ?_
  refine aw_ret rfl rfl trivial ?_
  refine ⟨?_, rfl⟩
  rfl
theorem ev_tokenOfWord_0  {zd : Nat}  : ae_Ev P (zd + 1) 103 [.int 0] H (some (.int (nI 10000))) H := by
  refine aw_evE (cd := cd_Token_tokenOfWord) rfl rfl rfl ?_
  show aw_W _ _ _ _ (0, [some (.int 0)], []) H
  refine aw_go 2 rfl ⟨trivial, trivial, trivial⟩ ?_
  show aw_W _ _ _ _ (14, [some (.int 0)], []) H
  refine aw_go 3 rfl ⟨trivial, trivial, trivial, trivial⟩ ?_
  show aw_W _ _ _ _ (17, [some (.int 0)], [.int (10000 + 0)]) H
  rw [show 10000 + 0 = nI 10000 from (cI_add (a := 10000) (b := 0) rfl rfl)]
  refine aw_ret rfl rfl trivial ?_
  refine ⟨?_, rfl⟩
  rfl
theorem ev_word_1  {zd : Nat}  : ae_Ev P (zd + 1) 102 [.int 1] H (some (.retAddr 2)) H := by
  refine aw_evE (cd := cd_Token_word) rfl rfl rfl ?_
  show aw_W _ _ _ _ (0, [some (.int 1)], []) H
  refine aw_go 2 rfl ⟨trivial, trivial, trivial⟩ ?_
  show aw_W _ _ _ _ (4, [some (.int 1)], []) H
  refine aw_go 1 rfl ⟨trivial, trivial⟩ ?_
  refine aw_ret rfl rfl trivial ?_
  refine ⟨?_, rfl⟩
  rfl
theorem ev_tokenOfWord_1  {zd : Nat}  : ae_Ev P (zd + 1) 103 [.int 1] H (some (.int (nI 10001))) H := by
  refine aw_evE (cd := cd_Token_tokenOfWord) rfl rfl rfl ?_
  show aw_W _ _ _ _ (0, [some (.int 1)], []) H
  refine aw_go 2 rfl ⟨trivial, trivial, trivial⟩ ?_
  show aw_W _ _ _ _ (14, [some (.int 1)], []) H
  refine aw_go 3 rfl ⟨trivial, trivial, trivial, trivial⟩ ?_
  show aw_W _ _ _ _ (17, [some (.int 1)], [.int (10000 + 1)]) H
  rw [show 10000 + 1 = nI 10001 from (cI_add (a := 10000) (b := 1) rfl rfl)]
  refine aw_ret rfl rfl trivial ?_
  refine ⟨?_, rfl⟩
  rfl
theorem ev_word_2  {zd : Nat}  : ae_Ev P (zd + 1) 102 [.int 2] H (some (.retAddr 3)) H := by
  refine aw_evE (cd := cd_Token_word) rfl rfl rfl ?_
  show aw_W _ _ _ _ (0, [some (.int 2)], []) H
  refine aw_go 2 rfl ⟨trivial, trivial, trivial⟩ ?_
  show aw_W _ _ _ _ (6, [some (.int 2)], []) H
  refine aw_go 1 rfl ⟨trivial, trivial⟩ ?_
  refine aw_ret rfl rfl trivial ?_
  refine ⟨?_, rfl⟩
  rfl
theorem ev_tokenOfWord_2  {zd : Nat}  : ae_Ev P (zd + 1) 103 [.int 2] H (some (.int (nI 10002))) H := by
  refine aw_evE (cd := cd_Token_tokenOfWord) rfl rfl rfl ?_
  show aw_W _ _ _ _ (0, [some (.int 2)], []) H
  refine aw_go 2 rfl ⟨trivial, trivial, trivial⟩ ?_
  show aw_W _ _ _ _ (14, [some (.int 2)], []) H
  refine aw_go 3 rfl ⟨trivial, trivial, trivial, trivial⟩ ?_
  show aw_W _ _ _ _ (17, [some (.int 2)], [.int (10000 + 2)]) H
  rw [show 10000 + 2 = nI 10002 from (cI_add (a := 10000) (b := 2) rfl rfl)]
  refine aw_ret rfl rfl trivial ?_
  refine ⟨?_, rfl⟩
  rfl
theorem ev_word_3  {zd : Nat}  : ae_Ev P (zd + 1) 102 [.int 3] H (some (.retAddr 4)) H := by
  refine aw_evE (cd := cd_Token_word) rfl rfl rfl ?_
  show aw_W _ _ _ _ (0, [some (.int 3)], []) H
  refine aw_go 2 rfl ⟨trivial, trivial, trivial⟩ ?_
  show aw_W _ _ _ _ (8, [some (.int 3)], []) H
  refine aw_go 1 rfl ⟨trivial, trivial⟩ ?_
  refine aw_ret rfl rfl trivial ?_
  refine ⟨?_, rfl⟩
  rfl
theorem ev_tokenOfWord_3  {zd : Nat}  : ae_Ev P (zd + 1) 103 [.int 3] H (some (.int (nI 10003))) H := by
  refine aw_evE (cd := cd_Token_tokenOfWord) rfl rfl rfl ?_
  show aw_W _ _ _ _ (0, [some (.int 3)], []) H
  refine aw_go 2 rfl ⟨trivial, trivial, trivial⟩ ?_
  show aw_W _ _ _ _ (14, [some (.int 3)], []) H
  refine aw_go 3 rfl ⟨trivial, trivial, trivial, trivial⟩ ?_
  show aw_W _ _ _ _ (17, [some (.int 3)], [.int (10000 + 3)]) H
  rw [show 10000 + 3 = nI 10003 from (cI_add (a := 10000) (b := 3) rfl rfl)]
  refine aw_ret rfl rfl trivial ?_
  refine ⟨?_, rfl⟩
  rfl
theorem ev_word_4  {zd : Nat}  : ae_Ev P (zd + 1) 102 [.int 4] H (some (.retAddr 5)) H := by
  refine aw_evE (cd := cd_Token_word) rfl rfl rfl ?_
  show aw_W _ _ _ _ (0, [some (.int 4)], []) H
  refine aw_go 2 rfl ⟨trivial, trivial, trivial⟩ ?_
  show aw_W _ _ _ _ (10, [some (.int 4)], []) H
  refine aw_go 1 rfl ⟨trivial, trivial⟩ ?_
  refine aw_ret rfl rfl trivial ?_
  refine ⟨?_, rfl⟩
  rfl
theorem ev_tokenOfWord_4  {zd : Nat}  : ae_Ev P (zd + 1) 103 [.int 4] H (some (.int (nI 10004))) H := by
  refine aw_evE (cd := cd_Token_tokenOfWord) rfl rfl rfl ?_
  show aw_W _ _ _ _ (0, [some (.int 4)], []) H
  refine aw_go 2 rfl ⟨trivial, trivial, trivial⟩ ?_
  show aw_W _ _ _ _ (14, [some (.int 4)], []) H
  refine aw_go 3 rfl ⟨trivial, trivial, trivial, trivial⟩ ?_
  show aw_W _ _ _ _ (17, [some (.int 4)], [.int (10000 + 4)]) H
  rw [show 10000 + 4 = nI 10004 from (cI_add (a := 10000) (b := 4) rfl rfl)]
  refine aw_ret rfl rfl trivial ?_
  refine ⟨?_, rfl⟩
  rfl
theorem ev_word_5  {zd : Nat}  : ae_Ev P (zd + 1) 102 [.int 5] H (some (.retAddr 6)) H := by
  refine aw_evE (cd := cd_Token_word) rfl rfl rfl ?_
  show aw_W _ _ _ _ (0, [some (.int 5)], []) H
  refine aw_go 2 rfl ⟨trivial, trivial, trivial⟩ ?_
  show aw_W _ _ _ _ (12, [some (.int 5)], []) H
  refine aw_go 1 rfl ⟨trivial, trivial⟩ ?_
  refine aw_ret rfl rfl trivial ?_
  refine ⟨?_, rfl⟩
  rfl
theorem ev_tokenOfWord_5  {zd : Nat}  : ae_Ev P (zd + 1) 103 [.int 5] H (some (.int (nI 10005))) H := by
  refine aw_evE (cd := cd_Token_tokenOfWord) rfl rfl rfl ?_
  show aw_W _ _ _ _ (0, [some (.int 5)], []) H
  refine aw_go 2 rfl ⟨trivial, trivial, trivial⟩ ?_
  show aw_W _ _ _ _ (14, [some (.int 5)], []) H
  refine aw_go 3 rfl ⟨trivial, trivial, trivial, trivial⟩ ?_
  show aw_W _ _ _ _ (17, [some (.int 5)], [.int (10000 + 5)]) H
  rw [show 10000 + 5 = nI 10005 from (cI_add (a := 10000) (b := 5) rfl rfl)]
  refine aw_ret rfl rfl trivial ?_
  refine ⟨?_, rfl⟩
  rfl
theorem ev_word_6  {zd : Nat}  : ae_Ev P (zd + 1) 102 [.int 6] H (some (.retAddr 7)) H := by
  refine aw_evE (cd := cd_Token_word) rfl rfl rfl ?_
  show aw_W _ _ _ _ (0, [some (.int 6)], []) H
  refine aw_go 2 rfl ⟨trivial, trivial, trivial⟩ ?_
  show aw_W _ _ _ _ (14, [some (.int 6)], []) H
  refine aw_go 1 rfl ⟨trivial, trivial⟩ ?_
  refine aw_ret rfl rfl trivial ?_
  refine ⟨?_, rfl⟩
  rfl
theorem ev_tokenOfWord_6  {zd : Nat}  : ae_Ev P (zd + 1) 103 [.int 6] H (some (.int (-13))) H := by
  refine aw_evE (cd := cd_Token_tokenOfWord) rfl rfl rfl ?_
  show aw_W _ _ _ _ (0, [some (.int 6)], []) H
  refine aw_go 2 rfl ⟨trivial, trivial, trivial⟩ ?_
  show aw_W _ _ _ _ (2, [some (.int 6)], []) H
  refine aw_go 1 rfl ⟨trivial, trivial⟩ ?_
  refine aw_ret rfl rfl trivial ?_
  refine ⟨?_, rfl⟩
  rfl
theorem ev_word_7  {zd : Nat}  : ae_Ev P (zd + 1) 102 [.int 7] H (some (.retAddr 8)) H := by
  refine aw_evE (cd := cd_Token_word) rfl rfl rfl ?_
  show aw_W _ _ _ _ (0, [some (.int 7)], []) H
  refine aw_go 2 rfl ⟨trivial, trivial, trivial⟩ ?_
  show aw_W _ _ _ _ (16, [some (.int 7)], []) H
  refine aw_go 1 rfl ⟨trivial, trivial⟩ ?_
  refine aw_ret rfl rfl trivial ?_
  refine ⟨?_, rfl⟩
  rfl
theorem ev_tokenOfWord_7  {zd : Nat}  : ae_Ev P (zd + 1) 103 [.int 7] H (some (.int (-14))) H := by
  refine aw_evE (cd := cd_Token_tokenOfWord) rfl rfl rfl ?_
  show aw_W _ _ _ _ (0, [some (.int 7)], []) H
  refine aw_go 2 rfl ⟨trivial, trivial, trivial⟩ ?_
  show aw_W _ _ _ _ (4, [some (.int 7)], []) H
  refine aw_go 1 rfl ⟨trivial, trivial⟩ ?_
  refine aw_ret rfl rfl trivial ?_
  refine ⟨?_, rfl⟩
  rfl
theorem ev_word_8  {zd : Nat}  : ae_Ev P (zd + 1) 102 [.int 8] H (some (.retAddr 9)) H := by
  refine aw_evE (cd := cd_Token_word) rfl rfl rfl ?_
  show aw_W _ _ _ _ (0, [some (.int 8)], []) H
  refine aw_go 2 rfl ⟨trivial, trivial, trivial⟩ ?_
  show aw_W _ _ _ _ (18, [some (.int 8)], []) H
  refine aw_go 1 rfl ⟨trivial, trivial⟩ ?_
  refine aw_ret rfl rfl trivial ?_
  refine ⟨?_, rfl⟩
  rfl
theorem ev_tokenOfWord_8  {zd : Nat}  : ae_Ev P (zd + 1) 103 [.int 8] H (some (.int (-15))) H := by
  refine aw_evE (cd := cd_Token_tokenOfWord) rfl rfl rfl ?_
  show aw_W _ _ _ _ (0, [some (.int 8)], []) H
  refine aw_go 2 rfl ⟨trivial, trivial, trivial⟩ ?_
  show aw_W _ _ _ _ (6, [some (.int 8)], []) H
  refine aw_go 1 rfl ⟨trivial, trivial⟩ ?_
  refine aw_ret rfl rfl trivial ?_
  refine ⟨?_, rfl⟩
  rfl
theorem ev_word_9  {zd : Nat}  : ae_Ev P (zd + 1) 102 [.int 9] H (some (.retAddr 10)) H := by
  refine aw_evE (cd := cd_Token_word) rfl rfl rfl ?_
  show aw_W _ _ _ _ (0, [some (.int 9)], []) H
  refine aw_go 2 rfl ⟨trivial, trivial, trivial⟩ ?_
  show aw_W _ _ _ _ (20, [some (.int 9)], []) H
  refine aw_go 1 rfl ⟨trivial, trivial⟩ ?_
  refine aw_ret rfl rfl trivial ?_
  refine ⟨?_, rfl⟩
  rfl
theorem ev_tokenOfWord_9  {zd : Nat}  : ae_Ev P (zd + 1) 103 [.int 9] H (some (.int (-1))) H := by
  refine aw_evE (cd := cd_Token_tokenOfWord) rfl rfl rfl ?_
  show aw_W _ _ _ _ (0, [some (.int 9)], []) H
  refine aw_go 2 rfl ⟨trivial, trivial, trivial⟩ ?_
  show aw_W _ _ _ _ (8, [some (.int 9)], []) H
  refine aw_go 1 rfl ⟨trivial, trivial⟩ ?_
  refine aw_ret rfl rfl trivial ?_
  refine ⟨?_, rfl⟩
  rfl
theorem ev_word_10  {zd : Nat}  : ae_Ev P (zd + 1) 102 [.int 10] H (some (.retAddr 11)) H := by
  refine aw_evE (cd := cd_Token_word) rfl rfl rfl ?_
  show aw_W _ _ _ _ (0, [some (.int 10)], []) H
  refine aw_go 2 rfl ⟨trivial, trivial, trivial⟩ ?_
  show aw_W _ _ _ _ (22, [some (.int 10)], []) H
  refine aw_go 1 rfl ⟨trivial, trivial⟩ ?_
  refine aw_ret rfl rfl trivial ?_
  refine ⟨?_, rfl⟩
  rfl
theorem ev_tokenOfWord_10  {zd : Nat}  : ae_Ev P (zd + 1) 103 [.int 10] H (some (.int (-2))) H := by
  refine aw_evE (cd := cd_Token_tokenOfWord) rfl rfl rfl ?_
  show aw_W _ _ _ _ (0, [some (.int 10)], []) H
  refine aw_go 2 rfl ⟨trivial, trivial, trivial⟩ ?_
  show aw_W _ _ _ _ (10, [some (.int 10)], []) H
  refine aw_go 1 rfl ⟨trivial, trivial⟩ ?_
  refine aw_ret rfl rfl trivial ?_
  refine ⟨?_, rfl⟩
  rfl
theorem ev_word_11  {zd : Nat}  : ae_Ev P (zd + 1) 102 [.int 11] H (some (.retAddr 12)) H := by
  refine aw_evE (cd := cd_Token_word) rfl rfl rfl ?_
  show aw_W _ _ _ _ (0, [some (.int 11)], []) H
  refine aw_go 2 rfl ⟨trivial, trivial, trivial⟩ ?_
  show aw_W _ _ _ _ (24, [some (.int 11)], []) H
  refine aw_go 1 rfl ⟨trivial, trivial⟩ ?_
  refine aw_ret rfl rfl trivial ?_
  refine ⟨?_, rfl⟩
  rfl
theorem ev_tokenOfWord_11  {zd : Nat}  : ae_Ev P (zd + 1) 103 [.int 11] H (some (.int (-3))) H := by
  refine aw_evE (cd := cd_Token_tokenOfWord) rfl rfl rfl ?_
  show aw_W _ _ _ _ (0, [some (.int 11)], []) H
  refine aw_go 2 rfl ⟨trivial, trivial, trivial⟩ ?_
  show aw_W _ _ _ _ (12, [some (.int 11)], []) H
  refine aw_go 1 rfl ⟨trivial, trivial⟩ ?_
  refine aw_ret rfl rfl trivial ?_
  refine ⟨?_, rfl⟩
  rfl
theorem ev_Reader_isDigit {b : Int32} {zd : Nat}  : ae_Ev P (zd + 1) 72 [.int b] H (some (.int (bI (isD b)))) H := by
  refine aw_evE (cd := cd_Reader_isDigit) rfl rfl rfl ?_
  show aw_W _ _ _ _ (0, [some (.int b)], []) H
  refine aw_go 3 rfl ⟨trivial, trivial, trivial, trivial⟩ ?_
  refine aw_br (c := b < 48) (fun h2 => ?_) (fun h2 => ?_)
  · skip
    show aw_W _ _ _ _ (8, [some (.int b)], []) H
    refine aw_go 1 rfl ⟨trivial, trivial⟩ ?_
    refine aw_ret rfl rfl (by first | exact Or.inl rfl | exact Or.inr rfl | exact bI_b _) ?_
    refine ⟨?_, rfl⟩
    exact congrArg (fun q => some (Value.int q)) (bI_0 (fun q => q.1 h2))
  · skip
    show aw_W _ _ _ _ (3, [some (.int b)], []) H
    refine aw_go 3 rfl ⟨trivial, trivial, trivial, trivial⟩ ?_
    refine aw_br (c := (57 : Int32) < b) (fun h5 => ?_) (fun h5 => ?_)
    · skip
      show aw_W _ _ _ _ (8, [some (.int b)], []) H
      refine aw_go 1 rfl ⟨trivial, trivial⟩ ?_
      refine aw_ret rfl rfl (by first | exact Or.inl rfl | exact Or.inr rfl | exact bI_b _) ?_
      refine ⟨?_, rfl⟩
      exact congrArg (fun q => some (Value.int q)) (bI_0 (fun q => q.2 h5))
    · skip
      show aw_W _ _ _ _ (6, [some (.int b)], []) H
      refine aw_go 2 rfl ⟨trivial, trivial, trivial⟩ ?_
      refine aw_ret rfl rfl (by first | exact Or.inl rfl | exact Or.inr rfl | exact bI_b _) ?_
      refine ⟨?_, rfl⟩
      exact congrArg (fun q => some (Value.int q)) (bI_1 ⟨h2, h5⟩)
theorem ev_Reader_isLetter {b : Int32} {zd : Nat}  : ae_Ev P (zd + 1) 73 [.int b] H (some (.int (bI (isL b)))) H := by
  refine aw_evE (cd := cd_Reader_isLetter) rfl rfl rfl ?_
  show aw_W _ _ _ _ (0, [some (.int b)], []) H
  refine aw_go 3 rfl ⟨trivial, trivial, trivial, trivial⟩ ?_
  refine aw_br (c := b < 97) (fun h2 => ?_) (fun h2 => ?_)
  · skip
    show aw_W _ _ _ _ (8, [some (.int b)], []) H
    refine aw_go 1 rfl ⟨trivial, trivial⟩ ?_
    refine aw_ret rfl rfl (by first | exact Or.inl rfl | exact Or.inr rfl | exact bI_b _) ?_
    refine ⟨?_, rfl⟩
    exact congrArg (fun q => some (Value.int q)) (bI_0 (fun q => q.1 h2))
  · skip
    show aw_W _ _ _ _ (3, [some (.int b)], []) H
    refine aw_go 3 rfl ⟨trivial, trivial, trivial, trivial⟩ ?_
    refine aw_br (c := (122 : Int32) < b) (fun h5 => ?_) (fun h5 => ?_)
    · skip
      show aw_W _ _ _ _ (8, [some (.int b)], []) H
      refine aw_go 1 rfl ⟨trivial, trivial⟩ ?_
      refine aw_ret rfl rfl (by first | exact Or.inl rfl | exact Or.inr rfl | exact bI_b _) ?_
      refine ⟨?_, rfl⟩
      exact congrArg (fun q => some (Value.int q)) (bI_0 (fun q => q.2 h5))
    · skip
      show aw_W _ _ _ _ (6, [some (.int b)], []) H
      refine aw_go 2 rfl ⟨trivial, trivial, trivial⟩ ?_
      refine aw_ret rfl rfl (by first | exact Or.inl rfl | exact Or.inr rfl | exact bI_b _) ?_
      refine ⟨?_, rfl⟩
      exact congrArg (fun q => some (Value.int q)) (bI_1 ⟨h2, h5⟩)
end L33
