/-! kinds under kinds, sheets, what is fed (class) -/
abbrev fUn (k a : Int32) : Prop := a = 0 ∨ k = a ∨ (a = 1 ∧ k = 3) ∨ (a = 2 ∧ k = 5)
abbrev hHo (m : Nat) (i n : Int32) : Prop := ¬ n < 0 ∧ ¬ i < 0 ∧ i.toNatClampNeg + n.toNatClampNeg ≤ m
def aTaken (n : Nat) (kd nb : Nat → Int32) (p k : Int32) : Int32 := if iP 6 k then (if iP n p then (if fUn (kd p.toNatClampNeg) k then nb p.toNatClampNeg else -13) else -11) else -2
/-- sort, size, items -/
abbrev ae_Sh : Type := Int32 × Int32 × (Nat → Int32)
def pSheet (s n : Int32) (q : ae_Sh) : Int32 × ae_Sh :=
  if s < -1 ∨ 2 < s then (-2, q) else if s = -1 then (1, -1, 0, fC 40 (fun _ => 0) q.2.2) else if 40 < n then (-2, q) else if n < 0 then (-14, q) else (1, s, n, fC 40 (fun _ => 0) q.2.2)
def cSt (s v : Int32) : Int32 := if s = 0 then v.toInt8.toInt32 else if s = 1 then v.toInt16.toInt32 else v
def pCell (m : Nat) (s : Int32) (it : Nat → Int32) (i v : Int32) : Int32 × (Nat → Int32) :=
  if s = -1 then (-11, it) else if iP m i then (1, upd it i.toNatClampNeg (cSt s v)) else (-12, it)
def pCopy (m m2 : Nat) (s s2 : Int32) (it it2 : Nat → Int32) (i j n : Int32) : Int32 × (Nat → Int32) :=
  if s = -1 ∨ s2 = -1 then (-11, it2) else if ¬ s = s2 then (-13, it2) else if hHo m i n ∧ hHo m2 j n then (n, va_cpy it it2 i.toNatClampNeg j.toNatClampNeg n.toNatClampNeg) else (-12, it2)
def pPks (it : Nat → Int32) (m : Nat) (fr : Int32) : Nat → Nat → Int32 → Nat × ae_S6 → Int32 × Nat × ae_S6
  | 0, _, c, q => (c, q)
  | r + 1, k, c, q => if hHo m (fr + 3 * nI k) 3 then pPks it m fr r (k + 1) (if (pPlank q.1 q.2 (it (fr + 3 * nI k).toNatClampNeg) (it ((fr + 3 * nI k).toNatClampNeg + 1)) (it ((fr + 3 * nI k).toNatClampNeg + 2))).1 < 0 then c else c + 1) (pPlank q.1 q.2 (it (fr + 3 * nI k).toNatClampNeg) (it ((fr + 3 * nI k).toNatClampNeg + 1)) (it ((fr + 3 * nI k).toNatClampNeg + 2))).2 else (-12, q)
def pPlanks (it : Nat → Int32) (m : Nat) (so s fr n : Int32) (q : Nat × ae_S6) : Int32 × Nat × ae_S6 :=
  if s < 0 ∨ 2 < s ∨ n < 0 ∨ 10 < n then (-2, q) else if ¬ so = -1 ∧ ¬ so = s then (-13, q) else if so = -1 then (-11, q) else pPks it m fr n.toNatClampNeg 0 0 q
theorem pPlank_n {n : Nat} {q : ae_S6} {k x m : Int32} (h : n ≤ 10) : (pPlank n q k x m).2.1 ≤ 10 := by
  unfold pPlank pApp
  split
  · split
    · exact h
    · show n + 1 ≤ 10
      omega
  · exact h
/-- the byte of a long, as it is fed -/
def fB (z : Int64) (i : Nat) : Int32 := ((z.toUInt64 >>> ((8 * nI i).toInt64.toUInt64 &&& Int64.toUInt64 63)).toInt64.toInt32).toInt8.toInt32
def fdR (f : Nat → Int32) (z : Int64) (s : Nat) : Nat → Nat → Int32
  | 0 => f
  | k + 1 => upd (fdR f z s k) (s + k) (fB z k)
section L31
variable {P : ae_P} {σ : Nat → Int32} {α : Nat → Nat → Int32} {z : Int64} {t0 : ae_T} {ts : List ae_T}

theorem ev_isUnder_0 {a : Int32} {zd : Nat}  : ae_Ev P (zd + 2) 105 [.int 0, .int a] (ae_en σ α z t0 ts) (some (.int (bI (fUn 0 a)))) (ae_en σ α z t0 ts) := by
  refine aw_evE (cd := cd_Wood_isUnder) rfl rfl rfl ?_
  show aw_W _ _ _ _ (0, [some (.int 0), some (.int a), none, none], []) (ae_en σ α z t0 ts)
  refine aw_go 8 rfl ⟨trivial, trivial, trivial, trivial, trivial, trivial, trivial, trivial, trivial⟩ ?_
  show aw_W _ _ _ _ (if (6 : Int32) ≤ (0 : Int32) then 22 else 8, [some (.int 0), some (.int a), some (.int 0), some (.int 0)], []) (ae_en σ α z t0 ts)
  refine aw_br (c := (6 : Int32) ≤ (0 : Int32)) (fun h7 => ?_) (fun h7 => ?_)
  · skip
    have h7 := cI_leT (a := 6) (b := 0) rfl rfl (by omega) (by omega) h7
    show aw_W _ _ _ _ (22, [some (.int 0), some (.int a), some (.int 0), some (.int 0)], []) (ae_en σ α z t0 ts)
    exact absurd h7 (by decide)
  · skip
    have h7 := cI_leF (a := 6) (b := 0) rfl rfl (by omega) (by omega) h7
    show aw_W _ _ _ _ (8, [some (.int 0), some (.int a), some (.int 0), some (.int 0)], []) (ae_en σ α z t0 ts)
    refine aw_go 1 rfl ⟨trivial, trivial⟩ ?_
    refine aw_callE rfl rfl (ec_isKind (k := 0)) ?_
    show aw_W _ _ _ _ (10, [some (.int 0), some (.int a), some (.int 0), some (.int 0)], [.int (bI (iP 6 0))]) (ae_en σ α z t0 ts)
    refine aw_go 1 rfl ⟨trivial, trivial⟩ ?_
    refine aw_br (c := (bI (iP 6 0)) = 0) (fun h10 => ?_) (fun h10 => ?_)
    · skip
      have h10 := bI_f h10
      show aw_W _ _ _ _ (22, [some (.int 0), some (.int a), some (.int 0), some (.int 0)], []) (ae_en σ α z t0 ts)
      exact absurd h10 (by decide)
    · skip
      have h10 := bI_t h10
      show aw_W _ _ _ _ (11, [some (.int 0), some (.int a), some (.int 0), some (.int 0)], []) (ae_en σ α z t0 ts)
      refine aw_go 3 rfl ⟨trivial, trivial, trivial, trivial⟩ ?_
      refine aw_br (c := ¬ (0 : Int32) = a) (fun h13 => ?_) (fun h13 => ?_)
      · skip
        show aw_W _ _ _ _ (16, [some (.int 0), some (.int a), some (.int 0), some (.int 0)], []) (ae_en σ α z t0 ts)
        refine aw_go 10 rfl ⟨trivial, trivial, (cI_in (a := 0) rfl (by omega) (by decide)), trivial, trivial, trivial, trivial, trivial, trivial, trivial, trivial⟩ ?_
        show aw_W _ _ _ _ (if (6 : Int32) ≤ (0 + 1) then 22 else 8, [some (.int 0), some (.int a), some (.int (-1)), some (.int (0 + 1))], []) (ae_en σ α z t0 ts)
        refine aw_br (c := (6 : Int32) ≤ (0 + 1)) (fun h7b => ?_) (fun h7b => ?_)
        · skip
          have h7b := cI_leT (a := 6) (b := 1) rfl (cI_add (a := 0) (b := 1) rfl rfl) (by omega) (by omega) h7b
          show aw_W _ _ _ _ (22, [some (.int 0), some (.int a), some (.int (-1)), some (.int (0 + 1))], []) (ae_en σ α z t0 ts)
          exact absurd h7b (by decide)
        · skip
          have h7b := cI_leF (a := 6) (b := 1) rfl (cI_add (a := 0) (b := 1) rfl rfl) (by omega) (by omega) h7b
          show aw_W _ _ _ _ (8, [some (.int 0), some (.int a), some (.int (-1)), some (.int (0 + 1))], []) (ae_en σ α z t0 ts)
          refine aw_go 1 rfl ⟨trivial, trivial⟩ ?_
          rw [show 0 + 1 = nI 1 from (cI_add (a := 0) (b := 1) rfl rfl)]
          refine aw_callE rfl rfl (ec_isKind (k := (-1))) ?_
          show aw_W _ _ _ _ (10, [some (.int 0), some (.int a), some (.int (-1)), some (.int (nI 1))], [.int (bI (iP 6 (-1)))]) (ae_en σ α z t0 ts)
          refine aw_go 1 rfl ⟨trivial, trivial⟩ ?_
          refine aw_br (c := (bI (iP 6 (-1))) = 0) (fun h10b => ?_) (fun h10b => ?_)
          · skip
            have h10b := bI_f h10b
            show aw_W _ _ _ _ (22, [some (.int 0), some (.int a), some (.int (-1)), some (.int (nI 1))], []) (ae_en σ α z t0 ts)
            refine aw_go 1 rfl ⟨trivial, trivial⟩ ?_
            refine aw_ret rfl rfl (by first | exact Or.inl rfl | exact Or.inr rfl) ?_
            refine ⟨?_, rfl⟩
            exact congrArg (fun q => some (Value.int q)) (bI_0 (by
              intro q
              rcases q with q | q | ⟨q, r⟩ | ⟨q, r⟩
              all_goals first | exact absurd r (by decide) | exact h13 q | exact h13 q.symm))
          · skip
            have h10b := bI_t h10b
            show aw_W _ _ _ _ (11, [some (.int 0), some (.int a), some (.int (-1)), some (.int (nI 1))], []) (ae_en σ α z t0 ts)
            exact absurd h10b (by decide)
      · skip
        have h13 := Classical.not_not.mp h13
        show aw_W _ _ _ _ (14, [some (.int 0), some (.int a), some (.int 0), some (.int 0)], []) (ae_en σ α z t0 ts)
        refine aw_go 1 rfl ⟨trivial, trivial⟩ ?_
        refine aw_ret rfl rfl (by first | exact Or.inl rfl | exact Or.inr rfl) ?_
        refine ⟨?_, rfl⟩
        exact congrArg (fun q => some (Value.int q)) (bI_1 (by rw [← h13]; decide))
theorem ev_isUnder_1 {a : Int32} {zd : Nat}  : ae_Ev P (zd + 2) 105 [.int 1, .int a] (ae_en σ α z t0 ts) (some (.int (bI (fUn 1 a)))) (ae_en σ α z t0 ts) := by
  refine aw_evE (cd := cd_Wood_isUnder) rfl rfl rfl ?_
  show aw_W _ _ _ _ (0, [some (.int 1), some (.int a), none, none], []) (ae_en σ α z t0 ts)
  refine aw_go 8 rfl ⟨trivial, trivial, trivial, trivial, trivial, trivial, trivial, trivial, trivial⟩ ?_
  show aw_W _ _ _ _ (if (6 : Int32) ≤ (0 : Int32) then 22 else 8, [some (.int 1), some (.int a), some (.int 1), some (.int 0)], []) (ae_en σ α z t0 ts)
  refine aw_br (c := (6 : Int32) ≤ (0 : Int32)) (fun h7 => ?_) (fun h7 => ?_)
  · skip
    have h7 := cI_leT (a := 6) (b := 0) rfl rfl (by omega) (by omega) h7
    show aw_W _ _ _ _ (22, [some (.int 1), some (.int a), some (.int 1), some (.int 0)], []) (ae_en σ α z t0 ts)
    exact absurd h7 (by decide)
  · skip
    have h7 := cI_leF (a := 6) (b := 0) rfl rfl (by omega) (by omega) h7
    show aw_W _ _ _ _ (8, [some (.int 1), some (.int a), some (.int 1), some (.int 0)], []) (ae_en σ α z t0 ts)
    refine aw_go 1 rfl ⟨trivial, trivial⟩ ?_
    refine aw_callE rfl rfl (ec_isKind (k := 1)) ?_
    show aw_W _ _ _ _ (10, [some (.int 1), some (.int a), some (.int 1), some (.int 0)], [.int (bI (iP 6 1))]) (ae_en σ α z t0 ts)
    refine aw_go 1 rfl ⟨trivial, trivial⟩ ?_
    refine aw_br (c := (bI (iP 6 1)) = 0) (fun h10 => ?_) (fun h10 => ?_)
    · skip
      have h10 := bI_f h10
      show aw_W _ _ _ _ (22, [some (.int 1), some (.int a), some (.int 1), some (.int 0)], []) (ae_en σ α z t0 ts)
      exact absurd h10 (by decide)
    · skip
      have h10 := bI_t h10
      show aw_W _ _ _ _ (11, [some (.int 1), some (.int a), some (.int 1), some (.int 0)], []) (ae_en σ α z t0 ts)
      refine aw_go 3 rfl ⟨trivial, trivial, trivial, trivial⟩ ?_
      refine aw_br (c := ¬ (1 : Int32) = a) (fun h13 => ?_) (fun h13 => ?_)
      · skip
        show aw_W _ _ _ _ (16, [some (.int 1), some (.int a), some (.int 1), some (.int 0)], []) (ae_en σ α z t0 ts)
        refine aw_go 10 rfl ⟨trivial, trivial, (cI_in (a := 1) rfl (by omega) (by decide)), trivial, trivial, trivial, trivial, trivial, trivial, trivial, trivial⟩ ?_
        show aw_W _ _ _ _ (if (6 : Int32) ≤ (0 + 1) then 22 else 8, [some (.int 1), some (.int a), some (.int 0), some (.int (0 + 1))], []) (ae_en σ α z t0 ts)
        refine aw_br (c := (6 : Int32) ≤ (0 + 1)) (fun h7b => ?_) (fun h7b => ?_)
        · skip
          have h7b := cI_leT (a := 6) (b := 1) rfl (cI_add (a := 0) (b := 1) rfl rfl) (by omega) (by omega) h7b
          show aw_W _ _ _ _ (22, [some (.int 1), some (.int a), some (.int 0), some (.int (0 + 1))], []) (ae_en σ α z t0 ts)
          exact absurd h7b (by decide)
        · skip
          have h7b := cI_leF (a := 6) (b := 1) rfl (cI_add (a := 0) (b := 1) rfl rfl) (by omega) (by omega) h7b
          show aw_W _ _ _ _ (8, [some (.int 1), some (.int a), some (.int 0), some (.int (0 + 1))], []) (ae_en σ α z t0 ts)
          refine aw_go 1 rfl ⟨trivial, trivial⟩ ?_
          rw [show 0 + 1 = nI 1 from (cI_add (a := 0) (b := 1) rfl rfl)]
          refine aw_callE rfl rfl (ec_isKind (k := 0)) ?_
          show aw_W _ _ _ _ (10, [some (.int 1), some (.int a), some (.int 0), some (.int (nI 1))], [.int (bI (iP 6 0))]) (ae_en σ α z t0 ts)
          refine aw_go 1 rfl ⟨trivial, trivial⟩ ?_
          refine aw_br (c := (bI (iP 6 0)) = 0) (fun h10b => ?_) (fun h10b => ?_)
          · skip
            have h10b := bI_f h10b
            show aw_W _ _ _ _ (22, [some (.int 1), some (.int a), some (.int 0), some (.int (nI 1))], []) (ae_en σ α z t0 ts)
            exact absurd h10b (by decide)
          · skip
            have h10b := bI_t h10b
            show aw_W _ _ _ _ (11, [some (.int 1), some (.int a), some (.int 0), some (.int (nI 1))], []) (ae_en σ α z t0 ts)
            refine aw_go 3 rfl ⟨trivial, trivial, trivial, trivial⟩ ?_
            refine aw_br (c := ¬ (0 : Int32) = a) (fun h13b => ?_) (fun h13b => ?_)
            · skip
              show aw_W _ _ _ _ (16, [some (.int 1), some (.int a), some (.int 0), some (.int (nI 1))], []) (ae_en σ α z t0 ts)
              refine aw_go 10 rfl ⟨trivial, trivial, (cI_in (a := 0) rfl (by omega) (by decide)), trivial, trivial, trivial, trivial, trivial, trivial, trivial, trivial⟩ ?_
              show aw_W _ _ _ _ (if (6 : Int32) ≤ ((nI 1) + 1) then 22 else 8, [some (.int 1), some (.int a), some (.int (-1)), some (.int ((nI 1) + 1))], []) (ae_en σ α z t0 ts)
              refine aw_br (c := (6 : Int32) ≤ ((nI 1) + 1)) (fun h7c => ?_) (fun h7c => ?_)
              · skip
                have h7c := cI_leT (a := 6) (b := 2) rfl (cI_add (a := 1) (b := 1) rfl rfl) (by omega) (by omega) h7c
                show aw_W _ _ _ _ (22, [some (.int 1), some (.int a), some (.int (-1)), some (.int ((nI 1) + 1))], []) (ae_en σ α z t0 ts)
                exact absurd h7c (by decide)
              · skip
                have h7c := cI_leF (a := 6) (b := 2) rfl (cI_add (a := 1) (b := 1) rfl rfl) (by omega) (by omega) h7c
                show aw_W _ _ _ _ (8, [some (.int 1), some (.int a), some (.int (-1)), some (.int ((nI 1) + 1))], []) (ae_en σ α z t0 ts)
                refine aw_go 1 rfl ⟨trivial, trivial⟩ ?_
                rw [show (nI 1) + 1 = nI 2 from (cI_add (a := 1) (b := 1) rfl rfl)]
                refine aw_callE rfl rfl (ec_isKind (k := (-1))) ?_
                show aw_W _ _ _ _ (10, [some (.int 1), some (.int a), some (.int (-1)), some (.int (nI 2))], [.int (bI (iP 6 (-1)))]) (ae_en σ α z t0 ts)
                refine aw_go 1 rfl ⟨trivial, trivial⟩ ?_
                refine aw_br (c := (bI (iP 6 (-1))) = 0) (fun h10c => ?_) (fun h10c => ?_)
                · skip
                  have h10c := bI_f h10c
                  show aw_W _ _ _ _ (22, [some (.int 1), some (.int a), some (.int (-1)), some (.int (nI 2))], []) (ae_en σ α z t0 ts)
                  refine aw_go 1 rfl ⟨trivial, trivial⟩ ?_
                  refine aw_ret rfl rfl (by first | exact Or.inl rfl | exact Or.inr rfl) ?_
                  refine ⟨?_, rfl⟩
                  exact congrArg (fun q => some (Value.int q)) (bI_0 (by
                    intro q
                    rcases q with q | q | ⟨q, r⟩ | ⟨q, r⟩
                    all_goals first | exact absurd r (by decide) | exact h13 q | exact h13 q.symm | exact h13b q | exact h13b q.symm))
                · skip
                  have h10c := bI_t h10c
                  show aw_W _ _ _ _ (11, [some (.int 1), some (.int a), some (.int (-1)), some (.int (nI 2))], []) (ae_en σ α z t0 ts)
                  exact absurd h10c (by decide)
            · skip
              have h13b := Classical.not_not.mp h13b
              show aw_W _ _ _ _ (14, [some (.int 1), some (.int a), some (.int 0), some (.int (nI 1))], []) (ae_en σ α z t0 ts)
              refine aw_go 1 rfl ⟨trivial, trivial⟩ ?_
              refine aw_ret rfl rfl (by first | exact Or.inl rfl | exact Or.inr rfl) ?_
              refine ⟨?_, rfl⟩
              exact congrArg (fun q => some (Value.int q)) (bI_1 (by rw [← h13b]; decide))
      · skip
        have h13 := Classical.not_not.mp h13
        show aw_W _ _ _ _ (14, [some (.int 1), some (.int a), some (.int 1), some (.int 0)], []) (ae_en σ α z t0 ts)
        refine aw_go 1 rfl ⟨trivial, trivial⟩ ?_
        refine aw_ret rfl rfl (by first | exact Or.inl rfl | exact Or.inr rfl) ?_
        refine ⟨?_, rfl⟩
        exact congrArg (fun q => some (Value.int q)) (bI_1 (by rw [← h13]; decide))
theorem ev_isUnder_2 {a : Int32} {zd : Nat}  : ae_Ev P (zd + 2) 105 [.int 2, .int a] (ae_en σ α z t0 ts) (some (.int (bI (fUn 2 a)))) (ae_en σ α z t0 ts) := by
  refine aw_evE (cd := cd_Wood_isUnder) rfl rfl rfl ?_
  show aw_W _ _ _ _ (0, [some (.int 2), some (.int a), none, none], []) (ae_en σ α z t0 ts)
  refine aw_go 8 rfl ⟨trivial, trivial, trivial, trivial, trivial, trivial, trivial, trivial, trivial⟩ ?_
  show aw_W _ _ _ _ (if (6 : Int32) ≤ (0 : Int32) then 22 else 8, [some (.int 2), some (.int a), some (.int 2), some (.int 0)], []) (ae_en σ α z t0 ts)
  refine aw_br (c := (6 : Int32) ≤ (0 : Int32)) (fun h7 => ?_) (fun h7 => ?_)
  · skip
    have h7 := cI_leT (a := 6) (b := 0) rfl rfl (by omega) (by omega) h7
    show aw_W _ _ _ _ (22, [some (.int 2), some (.int a), some (.int 2), some (.int 0)], []) (ae_en σ α z t0 ts)
    exact absurd h7 (by decide)
  · skip
    have h7 := cI_leF (a := 6) (b := 0) rfl rfl (by omega) (by omega) h7
    show aw_W _ _ _ _ (8, [some (.int 2), some (.int a), some (.int 2), some (.int 0)], []) (ae_en σ α z t0 ts)
    refine aw_go 1 rfl ⟨trivial, trivial⟩ ?_
    refine aw_callE rfl rfl (ec_isKind (k := 2)) ?_
    show aw_W _ _ _ _ (10, [some (.int 2), some (.int a), some (.int 2), some (.int 0)], [.int (bI (iP 6 2))]) (ae_en σ α z t0 ts)
    refine aw_go 1 rfl ⟨trivial, trivial⟩ ?_
    refine aw_br (c := (bI (iP 6 2)) = 0) (fun h10 => ?_) (fun h10 => ?_)
    · skip
      have h10 := bI_f h10
      show aw_W _ _ _ _ (22, [some (.int 2), some (.int a), some (.int 2), some (.int 0)], []) (ae_en σ α z t0 ts)
      exact absurd h10 (by decide)
    · skip
      have h10 := bI_t h10
      show aw_W _ _ _ _ (11, [some (.int 2), some (.int a), some (.int 2), some (.int 0)], []) (ae_en σ α z t0 ts)
      refine aw_go 3 rfl ⟨trivial, trivial, trivial, trivial⟩ ?_
      refine aw_br (c := ¬ (2 : Int32) = a) (fun h13 => ?_) (fun h13 => ?_)
      · skip
        show aw_W _ _ _ _ (16, [some (.int 2), some (.int a), some (.int 2), some (.int 0)], []) (ae_en σ α z t0 ts)
        refine aw_go 10 rfl ⟨trivial, trivial, (cI_in (a := 2) rfl (by omega) (by decide)), trivial, trivial, trivial, trivial, trivial, trivial, trivial, trivial⟩ ?_
        show aw_W _ _ _ _ (if (6 : Int32) ≤ (0 + 1) then 22 else 8, [some (.int 2), some (.int a), some (.int 0), some (.int (0 + 1))], []) (ae_en σ α z t0 ts)
        refine aw_br (c := (6 : Int32) ≤ (0 + 1)) (fun h7b => ?_) (fun h7b => ?_)
        · skip
          have h7b := cI_leT (a := 6) (b := 1) rfl (cI_add (a := 0) (b := 1) rfl rfl) (by omega) (by omega) h7b
          show aw_W _ _ _ _ (22, [some (.int 2), some (.int a), some (.int 0), some (.int (0 + 1))], []) (ae_en σ α z t0 ts)
          exact absurd h7b (by decide)
        · skip
          have h7b := cI_leF (a := 6) (b := 1) rfl (cI_add (a := 0) (b := 1) rfl rfl) (by omega) (by omega) h7b
          show aw_W _ _ _ _ (8, [some (.int 2), some (.int a), some (.int 0), some (.int (0 + 1))], []) (ae_en σ α z t0 ts)
          refine aw_go 1 rfl ⟨trivial, trivial⟩ ?_
          rw [show 0 + 1 = nI 1 from (cI_add (a := 0) (b := 1) rfl rfl)]
          refine aw_callE rfl rfl (ec_isKind (k := 0)) ?_
          show aw_W _ _ _ _ (10, [some (.int 2), some (.int a), some (.int 0), some (.int (nI 1))], [.int (bI (iP 6 0))]) (ae_en σ α z t0 ts)
          refine aw_go 1 rfl ⟨trivial, trivial⟩ ?_
          refine aw_br (c := (bI (iP 6 0)) = 0) (fun h10b => ?_) (fun h10b => ?_)
          · skip
            have h10b := bI_f h10b
            show aw_W _ _ _ _ (22, [some (.int 2), some (.int a), some (.int 0), some (.int (nI 1))], []) (ae_en σ α z t0 ts)
            exact absurd h10b (by decide)
          · skip
            have h10b := bI_t h10b
            show aw_W _ _ _ _ (11, [some (.int 2), some (.int a), some (.int 0), some (.int (nI 1))], []) (ae_en σ α z t0 ts)
            refine aw_go 3 rfl ⟨trivial, trivial, trivial, trivial⟩ ?_
            refine aw_br (c := ¬ (0 : Int32) = a) (fun h13b => ?_) (fun h13b => ?_)
            · skip
              show aw_W _ _ _ _ (16, [some (.int 2), some (.int a), some (.int 0), some (.int (nI 1))], []) (ae_en σ α z t0 ts)
              refine aw_go 10 rfl ⟨trivial, trivial, (cI_in (a := 0) rfl (by omega) (by decide)), trivial, trivial, trivial, trivial, trivial, trivial, trivial, trivial⟩ ?_
              show aw_W _ _ _ _ (if (6 : Int32) ≤ ((nI 1) + 1) then 22 else 8, [some (.int 2), some (.int a), some (.int (-1)), some (.int ((nI 1) + 1))], []) (ae_en σ α z t0 ts)
              refine aw_br (c := (6 : Int32) ≤ ((nI 1) + 1)) (fun h7c => ?_) (fun h7c => ?_)
              · skip
                have h7c := cI_leT (a := 6) (b := 2) rfl (cI_add (a := 1) (b := 1) rfl rfl) (by omega) (by omega) h7c
                show aw_W _ _ _ _ (22, [some (.int 2), some (.int a), some (.int (-1)), some (.int ((nI 1) + 1))], []) (ae_en σ α z t0 ts)
                exact absurd h7c (by decide)
              · skip
                have h7c := cI_leF (a := 6) (b := 2) rfl (cI_add (a := 1) (b := 1) rfl rfl) (by omega) (by omega) h7c
                show aw_W _ _ _ _ (8, [some (.int 2), some (.int a), some (.int (-1)), some (.int ((nI 1) + 1))], []) (ae_en σ α z t0 ts)
                refine aw_go 1 rfl ⟨trivial, trivial⟩ ?_
                rw [show (nI 1) + 1 = nI 2 from (cI_add (a := 1) (b := 1) rfl rfl)]
                refine aw_callE rfl rfl (ec_isKind (k := (-1))) ?_
                show aw_W _ _ _ _ (10, [some (.int 2), some (.int a), some (.int (-1)), some (.int (nI 2))], [.int (bI (iP 6 (-1)))]) (ae_en σ α z t0 ts)
                refine aw_go 1 rfl ⟨trivial, trivial⟩ ?_
                refine aw_br (c := (bI (iP 6 (-1))) = 0) (fun h10c => ?_) (fun h10c => ?_)
                · skip
                  have h10c := bI_f h10c
                  show aw_W _ _ _ _ (22, [some (.int 2), some (.int a), some (.int (-1)), some (.int (nI 2))], []) (ae_en σ α z t0 ts)
                  refine aw_go 1 rfl ⟨trivial, trivial⟩ ?_
                  refine aw_ret rfl rfl (by first | exact Or.inl rfl | exact Or.inr rfl) ?_
                  refine ⟨?_, rfl⟩
                  exact congrArg (fun q => some (Value.int q)) (bI_0 (by
                    intro q
                    rcases q with q | q | ⟨q, r⟩ | ⟨q, r⟩
                    all_goals first | exact absurd r (by decide) | exact h13 q | exact h13 q.symm | exact h13b q | exact h13b q.symm))
                · skip
                  have h10c := bI_t h10c
                  show aw_W _ _ _ _ (11, [some (.int 2), some (.int a), some (.int (-1)), some (.int (nI 2))], []) (ae_en σ α z t0 ts)
                  exact absurd h10c (by decide)
            · skip
              have h13b := Classical.not_not.mp h13b
              show aw_W _ _ _ _ (14, [some (.int 2), some (.int a), some (.int 0), some (.int (nI 1))], []) (ae_en σ α z t0 ts)
              refine aw_go 1 rfl ⟨trivial, trivial⟩ ?_
              refine aw_ret rfl rfl (by first | exact Or.inl rfl | exact Or.inr rfl) ?_
              refine ⟨?_, rfl⟩
              exact congrArg (fun q => some (Value.int q)) (bI_1 (by rw [← h13b]; decide))
      · skip
        have h13 := Classical.not_not.mp h13
        show aw_W _ _ _ _ (14, [some (.int 2), some (.int a), some (.int 2), some (.int 0)], []) (ae_en σ α z t0 ts)
        refine aw_go 1 rfl ⟨trivial, trivial⟩ ?_
        refine aw_ret rfl rfl (by first | exact Or.inl rfl | exact Or.inr rfl) ?_
        refine ⟨?_, rfl⟩
        exact congrArg (fun q => some (Value.int q)) (bI_1 (by rw [← h13]; decide))
theorem ev_isUnder_3 {a : Int32} {zd : Nat}  : ae_Ev P (zd + 2) 105 [.int 3, .int a] (ae_en σ α z t0 ts) (some (.int (bI (fUn 3 a)))) (ae_en σ α z t0 ts) := by
  refine aw_evE (cd := cd_Wood_isUnder) rfl rfl rfl ?_
  show aw_W _ _ _ _ (0, [some (.int 3), some (.int a), none, none], []) (ae_en σ α z t0 ts)
  refine aw_go 8 rfl ⟨trivial, trivial, trivial, trivial, trivial, trivial, trivial, trivial, trivial⟩ ?_
  show aw_W _ _ _ _ (if (6 : Int32) ≤ (0 : Int32) then 22 else 8, [some (.int 3), some (.int a), some (.int 3), some (.int 0)], []) (ae_en σ α z t0 ts)
  refine aw_br (c := (6 : Int32) ≤ (0 : Int32)) (fun h7 => ?_) (fun h7 => ?_)
  · skip
    have h7 := cI_leT (a := 6) (b := 0) rfl rfl (by omega) (by omega) h7
    show aw_W _ _ _ _ (22, [some (.int 3), some (.int a), some (.int 3), some (.int 0)], []) (ae_en σ α z t0 ts)
    exact absurd h7 (by decide)
  · skip
    have h7 := cI_leF (a := 6) (b := 0) rfl rfl (by omega) (by omega) h7
    show aw_W _ _ _ _ (8, [some (.int 3), some (.int a), some (.int 3), some (.int 0)], []) (ae_en σ α z t0 ts)
    refine aw_go 1 rfl ⟨trivial, trivial⟩ ?_
    refine aw_callE rfl rfl (ec_isKind (k := 3)) ?_
    show aw_W _ _ _ _ (10, [some (.int 3), some (.int a), some (.int 3), some (.int 0)], [.int (bI (iP 6 3))]) (ae_en σ α z t0 ts)
    refine aw_go 1 rfl ⟨trivial, trivial⟩ ?_
    refine aw_br (c := (bI (iP 6 3)) = 0) (fun h10 => ?_) (fun h10 => ?_)
    · skip
      have h10 := bI_f h10
      show aw_W _ _ _ _ (22, [some (.int 3), some (.int a), some (.int 3), some (.int 0)], []) (ae_en σ α z t0 ts)
      exact absurd h10 (by decide)
    · skip
      have h10 := bI_t h10
      show aw_W _ _ _ _ (11, [some (.int 3), some (.int a), some (.int 3), some (.int 0)], []) (ae_en σ α z t0 ts)
      refine aw_go 3 rfl ⟨trivial, trivial, trivial, trivial⟩ ?_
      refine aw_br (c := ¬ (3 : Int32) = a) (fun h13 => ?_) (fun h13 => ?_)
      · skip
        show aw_W _ _ _ _ (16, [some (.int 3), some (.int a), some (.int 3), some (.int 0)], []) (ae_en σ α z t0 ts)
        refine aw_go 10 rfl ⟨trivial, trivial, (cI_in (a := 3) rfl (by omega) (by decide)), trivial, trivial, trivial, trivial, trivial, trivial, trivial, trivial⟩ ?_
        show aw_W _ _ _ _ (if (6 : Int32) ≤ (0 + 1) then 22 else 8, [some (.int 3), some (.int a), some (.int 1), some (.int (0 + 1))], []) (ae_en σ α z t0 ts)
        refine aw_br (c := (6 : Int32) ≤ (0 + 1)) (fun h7b => ?_) (fun h7b => ?_)
        · skip
          have h7b := cI_leT (a := 6) (b := 1) rfl (cI_add (a := 0) (b := 1) rfl rfl) (by omega) (by omega) h7b
          show aw_W _ _ _ _ (22, [some (.int 3), some (.int a), some (.int 1), some (.int (0 + 1))], []) (ae_en σ α z t0 ts)
          exact absurd h7b (by decide)
        · skip
          have h7b := cI_leF (a := 6) (b := 1) rfl (cI_add (a := 0) (b := 1) rfl rfl) (by omega) (by omega) h7b
          show aw_W _ _ _ _ (8, [some (.int 3), some (.int a), some (.int 1), some (.int (0 + 1))], []) (ae_en σ α z t0 ts)
          refine aw_go 1 rfl ⟨trivial, trivial⟩ ?_
          rw [show 0 + 1 = nI 1 from (cI_add (a := 0) (b := 1) rfl rfl)]
          refine aw_callE rfl rfl (ec_isKind (k := 1)) ?_
          show aw_W _ _ _ _ (10, [some (.int 3), some (.int a), some (.int 1), some (.int (nI 1))], [.int (bI (iP 6 1))]) (ae_en σ α z t0 ts)
          refine aw_go 1 rfl ⟨trivial, trivial⟩ ?_
          refine aw_br (c := (bI (iP 6 1)) = 0) (fun h10b => ?_) (fun h10b => ?_)
          · skip
            have h10b := bI_f h10b
            show aw_W _ _ _ _ (22, [some (.int 3), some (.int a), some (.int 1), some (.int (nI 1))], []) (ae_en σ α z t0 ts)
            exact absurd h10b (by decide)
          · skip
            have h10b := bI_t h10b
            show aw_W _ _ _ _ (11, [some (.int 3), some (.int a), some (.int 1), some (.int (nI 1))], []) (ae_en σ α z t0 ts)
            refine aw_go 3 rfl ⟨trivial, trivial, trivial, trivial⟩ ?_
            refine aw_br (c := ¬ (1 : Int32) = a) (fun h13b => ?_) (fun h13b => ?_)
            · skip
              show aw_W _ _ _ _ (16, [some (.int 3), some (.int a), some (.int 1), some (.int (nI 1))], []) (ae_en σ α z t0 ts)
              refine aw_go 10 rfl ⟨trivial, trivial, (cI_in (a := 1) rfl (by omega) (by decide)), trivial, trivial, trivial, trivial, trivial, trivial, trivial, trivial⟩ ?_
              show aw_W _ _ _ _ (if (6 : Int32) ≤ ((nI 1) + 1) then 22 else 8, [some (.int 3), some (.int a), some (.int 0), some (.int ((nI 1) + 1))], []) (ae_en σ α z t0 ts)
              refine aw_br (c := (6 : Int32) ≤ ((nI 1) + 1)) (fun h7c => ?_) (fun h7c => ?_)
              · skip
                have h7c := cI_leT (a := 6) (b := 2) rfl (cI_add (a := 1) (b := 1) rfl rfl) (by omega) (by omega) h7c
                show aw_W _ _ _ _ (22, [some (.int 3), some (.int a), some (.int 0), some (.int ((nI 1) + 1))], []) (ae_en σ α z t0 ts)
                exact absurd h7c (by decide)
              · skip
                have h7c := cI_leF (a := 6) (b := 2) rfl (cI_add (a := 1) (b := 1) rfl rfl) (by omega) (by omega) h7c
                show aw_W _ _ _ _ (8, [some (.int 3), some (.int a), some (.int 0), some (.int ((nI 1) + 1))], []) (ae_en σ α z t0 ts)
                refine aw_go 1 rfl ⟨trivial, trivial⟩ ?_
                rw [show (nI 1) + 1 = nI 2 from (cI_add (a := 1) (b := 1) rfl rfl)]
                refine aw_callE rfl rfl (ec_isKind (k := 0)) ?_
                show aw_W _ _ _ _ (10, [some (.int 3), some (.int a), some (.int 0), some (.int (nI 2))], [.int (bI (iP 6 0))]) (ae_en σ α z t0 ts)
                refine aw_go 1 rfl ⟨trivial, trivial⟩ ?_
                refine aw_br (c := (bI (iP 6 0)) = 0) (fun h10c => ?_) (fun h10c => ?_)
                · skip
                  have h10c := bI_f h10c
                  show aw_W _ _ _ _ (22, [some (.int 3), some (.int a), some (.int 0), some (.int (nI 2))], []) (ae_en σ α z t0 ts)
                  exact absurd h10c (by decide)
                · skip
                  have h10c := bI_t h10c
                  show aw_W _ _ _ _ (11, [some (.int 3), some (.int a), some (.int 0), some (.int (nI 2))], []) (ae_en σ α z t0 ts)
                  refine aw_go 3 rfl ⟨trivial, trivial, trivial, trivial⟩ ?_
                  refine aw_br (c := ¬ (0 : Int32) = a) (fun h13c => ?_) (fun h13c => ?_)
                  · skip
                    show aw_W _ _ _ _ (16, [some (.int 3), some (.int a), some (.int 0), some (.int (nI 2))], []) (ae_en σ α z t0 ts)
                    refine aw_go 10 rfl ⟨trivial, trivial, (cI_in (a := 0) rfl (by omega) (by decide)), trivial, trivial, trivial, trivial, trivial, trivial, trivial, trivial⟩ ?_
                    show aw_W _ _ _ _ (if (6 : Int32) ≤ ((nI 2) + 1) then 22 else 8, [some (.int 3), some (.int a), some (.int (-1)), some (.int ((nI 2) + 1))], []) (ae_en σ α z t0 ts)
                    refine aw_br (c := (6 : Int32) ≤ ((nI 2) + 1)) (fun h7d => ?_) (fun h7d => ?_)
                    · skip
                      have h7d := cI_leT (a := 6) (b := 3) rfl (cI_add (a := 2) (b := 1) rfl rfl) (by omega) (by omega) h7d
                      show aw_W _ _ _ _ (22, [some (.int 3), some (.int a), some (.int (-1)), some (.int ((nI 2) + 1))], []) (ae_en σ α z t0 ts)
                      exact absurd h7d (by decide)
                    · skip
                      have h7d := cI_leF (a := 6) (b := 3) rfl (cI_add (a := 2) (b := 1) rfl rfl) (by omega) (by omega) h7d
                      show aw_W _ _ _ _ (8, [some (.int 3), some (.int a), some (.int (-1)), some (.int ((nI 2) + 1))], []) (ae_en σ α z t0 ts)
                      refine aw_go 1 rfl ⟨trivial, trivial⟩ ?_
                      rw [show (nI 2) + 1 = nI 3 from (cI_add (a := 2) (b := 1) rfl rfl)]
                      refine aw_callE rfl rfl (ec_isKind (k := (-1))) ?_
                      show aw_W _ _ _ _ (10, [some (.int 3), some (.int a), some (.int (-1)), some (.int (nI 3))], [.int (bI (iP 6 (-1)))]) (ae_en σ α z t0 ts)
                      refine aw_go 1 rfl ⟨trivial, trivial⟩ ?_
                      refine aw_br (c := (bI (iP 6 (-1))) = 0) (fun h10d => ?_) (fun h10d => ?_)
                      · skip
                        have h10d := bI_f h10d
                        show aw_W _ _ _ _ (22, [some (.int 3), some (.int a), some (.int (-1)), some (.int (nI 3))], []) (ae_en σ α z t0 ts)
                        refine aw_go 1 rfl ⟨trivial, trivial⟩ ?_
                        refine aw_ret rfl rfl (by first | exact Or.inl rfl | exact Or.inr rfl) ?_
                        refine ⟨?_, rfl⟩
                        exact congrArg (fun q => some (Value.int q)) (bI_0 (by
                          intro q
                          rcases q with q | q | ⟨q, r⟩ | ⟨q, r⟩
                          all_goals first | exact absurd r (by decide) | exact h13 q | exact h13 q.symm | exact h13b q | exact h13b q.symm | exact h13c q | exact h13c q.symm))
                      · skip
                        have h10d := bI_t h10d
                        show aw_W _ _ _ _ (11, [some (.int 3), some (.int a), some (.int (-1)), some (.int (nI 3))], []) (ae_en σ α z t0 ts)
                        exact absurd h10d (by decide)
                  · skip
                    have h13c := Classical.not_not.mp h13c
                    show aw_W _ _ _ _ (14, [some (.int 3), some (.int a), some (.int 0), some (.int (nI 2))], []) (ae_en σ α z t0 ts)
                    refine aw_go 1 rfl ⟨trivial, trivial⟩ ?_
                    refine aw_ret rfl rfl (by first | exact Or.inl rfl | exact Or.inr rfl) ?_
                    refine ⟨?_, rfl⟩
                    exact congrArg (fun q => some (Value.int q)) (bI_1 (by rw [← h13c]; decide))
            · skip
              have h13b := Classical.not_not.mp h13b
              show aw_W _ _ _ _ (14, [some (.int 3), some (.int a), some (.int 1), some (.int (nI 1))], []) (ae_en σ α z t0 ts)
              refine aw_go 1 rfl ⟨trivial, trivial⟩ ?_
              refine aw_ret rfl rfl (by first | exact Or.inl rfl | exact Or.inr rfl) ?_
              refine ⟨?_, rfl⟩
              exact congrArg (fun q => some (Value.int q)) (bI_1 (by rw [← h13b]; decide))
      · skip
        have h13 := Classical.not_not.mp h13
        show aw_W _ _ _ _ (14, [some (.int 3), some (.int a), some (.int 3), some (.int 0)], []) (ae_en σ α z t0 ts)
        refine aw_go 1 rfl ⟨trivial, trivial⟩ ?_
        refine aw_ret rfl rfl (by first | exact Or.inl rfl | exact Or.inr rfl) ?_
        refine ⟨?_, rfl⟩
        exact congrArg (fun q => some (Value.int q)) (bI_1 (by rw [← h13]; decide))
theorem ev_isUnder_4 {a : Int32} {zd : Nat}  : ae_Ev P (zd + 2) 105 [.int 4, .int a] (ae_en σ α z t0 ts) (some (.int (bI (fUn 4 a)))) (ae_en σ α z t0 ts) := by
  refine aw_evE (cd := cd_Wood_isUnder) rfl rfl rfl ?_
  show aw_W _ _ _ _ (0, [some (.int 4), some (.int a), none, none], []) (ae_en σ α z t0 ts)
  refine aw_go 8 rfl ⟨trivial, trivial, trivial, trivial, trivial, trivial, trivial, trivial, trivial⟩ ?_
  show aw_W _ _ _ _ (if (6 : Int32) ≤ (0 : Int32) then 22 else 8, [some (.int 4), some (.int a), some (.int 4), some (.int 0)], []) (ae_en σ α z t0 ts)
  refine aw_br (c := (6 : Int32) ≤ (0 : Int32)) (fun h7 => ?_) (fun h7 => ?_)
  · skip
    have h7 := cI_leT (a := 6) (b := 0) rfl rfl (by omega) (by omega) h7
    show aw_W _ _ _ _ (22, [some (.int 4), some (.int a), some (.int 4), some (.int 0)], []) (ae_en σ α z t0 ts)
    exact absurd h7 (by decide)
  · skip
    have h7 := cI_leF (a := 6) (b := 0) rfl rfl (by omega) (by omega) h7
    show aw_W _ _ _ _ (8, [some (.int 4), some (.int a), some (.int 4), some (.int 0)], []) (ae_en σ α z t0 ts)
    refine aw_go 1 rfl ⟨trivial, trivial⟩ ?_
    refine aw_callE rfl rfl (ec_isKind (k := 4)) ?_
    show aw_W _ _ _ _ (10, [some (.int 4), some (.int a), some (.int 4), some (.int 0)], [.int (bI (iP 6 4))]) (ae_en σ α z t0 ts)
    refine aw_go 1 rfl ⟨trivial, trivial⟩ ?_
    refine aw_br (c := (bI (iP 6 4)) = 0) (fun h10 => ?_) (fun h10 => ?_)
    · skip
      have h10 := bI_f h10
      show aw_W _ _ _ _ (22, [some (.int 4), some (.int a), some (.int 4), some (.int 0)], []) (ae_en σ α z t0 ts)
      exact absurd h10 (by decide)
    · skip
      have h10 := bI_t h10
      show aw_W _ _ _ _ (11, [some (.int 4), some (.int a), some (.int 4), some (.int 0)], []) (ae_en σ α z t0 ts)
      refine aw_go 3 rfl ⟨trivial, trivial, trivial, trivial⟩ ?_
      refine aw_br (c := ¬ (4 : Int32) = a) (fun h13 => ?_) (fun h13 => ?_)
      · skip
        show aw_W _ _ _ _ (16, [some (.int 4), some (.int a), some (.int 4), some (.int 0)], []) (ae_en σ α z t0 ts)
        refine aw_go 10 rfl ⟨trivial, trivial, (cI_in (a := 4) rfl (by omega) (by decide)), trivial, trivial, trivial, trivial, trivial, trivial, trivial, trivial⟩ ?_
        show aw_W _ _ _ _ (if (6 : Int32) ≤ (0 + 1) then 22 else 8, [some (.int 4), some (.int a), some (.int 0), some (.int (0 + 1))], []) (ae_en σ α z t0 ts)
        refine aw_br (c := (6 : Int32) ≤ (0 + 1)) (fun h7b => ?_) (fun h7b => ?_)
        · skip
          have h7b := cI_leT (a := 6) (b := 1) rfl (cI_add (a := 0) (b := 1) rfl rfl) (by omega) (by omega) h7b
          show aw_W _ _ _ _ (22, [some (.int 4), some (.int a), some (.int 0), some (.int (0 + 1))], []) (ae_en σ α z t0 ts)
          exact absurd h7b (by decide)
        · skip
          have h7b := cI_leF (a := 6) (b := 1) rfl (cI_add (a := 0) (b := 1) rfl rfl) (by omega) (by omega) h7b
          show aw_W _ _ _ _ (8, [some (.int 4), some (.int a), some (.int 0), some (.int (0 + 1))], []) (ae_en σ α z t0 ts)
          refine aw_go 1 rfl ⟨trivial, trivial⟩ ?_
          rw [show 0 + 1 = nI 1 from (cI_add (a := 0) (b := 1) rfl rfl)]
          refine aw_callE rfl rfl (ec_isKind (k := 0)) ?_
          show aw_W _ _ _ _ (10, [some (.int 4), some (.int a), some (.int 0), some (.int (nI 1))], [.int (bI (iP 6 0))]) (ae_en σ α z t0 ts)
          refine aw_go 1 rfl ⟨trivial, trivial⟩ ?_
          refine aw_br (c := (bI (iP 6 0)) = 0) (fun h10b => ?_) (fun h10b => ?_)
          · skip
            have h10b := bI_f h10b
            show aw_W _ _ _ _ (22, [some (.int 4), some (.int a), some (.int 0), some (.int (nI 1))], []) (ae_en σ α z t0 ts)
            exact absurd h10b (by decide)
          · skip
            have h10b := bI_t h10b
            show aw_W _ _ _ _ (11, [some (.int 4), some (.int a), some (.int 0), some (.int (nI 1))], []) (ae_en σ α z t0 ts)
            refine aw_go 3 rfl ⟨trivial, trivial, trivial, trivial⟩ ?_
            refine aw_br (c := ¬ (0 : Int32) = a) (fun h13b => ?_) (fun h13b => ?_)
            · skip
              show aw_W _ _ _ _ (16, [some (.int 4), some (.int a), some (.int 0), some (.int (nI 1))], []) (ae_en σ α z t0 ts)
              refine aw_go 10 rfl ⟨trivial, trivial, (cI_in (a := 0) rfl (by omega) (by decide)), trivial, trivial, trivial, trivial, trivial, trivial, trivial, trivial⟩ ?_
              show aw_W _ _ _ _ (if (6 : Int32) ≤ ((nI 1) + 1) then 22 else 8, [some (.int 4), some (.int a), some (.int (-1)), some (.int ((nI 1) + 1))], []) (ae_en σ α z t0 ts)
              refine aw_br (c := (6 : Int32) ≤ ((nI 1) + 1)) (fun h7c => ?_) (fun h7c => ?_)
              · skip
                have h7c := cI_leT (a := 6) (b := 2) rfl (cI_add (a := 1) (b := 1) rfl rfl) (by omega) (by omega) h7c
                show aw_W _ _ _ _ (22, [some (.int 4), some (.int a), some (.int (-1)), some (.int ((nI 1) + 1))], []) (ae_en σ α z t0 ts)
                exact absurd h7c (by decide)
              · skip
                have h7c := cI_leF (a := 6) (b := 2) rfl (cI_add (a := 1) (b := 1) rfl rfl) (by omega) (by omega) h7c
                show aw_W _ _ _ _ (8, [some (.int 4), some (.int a), some (.int (-1)), some (.int ((nI 1) + 1))], []) (ae_en σ α z t0 ts)
                refine aw_go 1 rfl ⟨trivial, trivial⟩ ?_
                rw [show (nI 1) + 1 = nI 2 from (cI_add (a := 1) (b := 1) rfl rfl)]
                refine aw_callE rfl rfl (ec_isKind (k := (-1))) ?_
                show aw_W _ _ _ _ (10, [some (.int 4), some (.int a), some (.int (-1)), some (.int (nI 2))], [.int (bI (iP 6 (-1)))]) (ae_en σ α z t0 ts)
                refine aw_go 1 rfl ⟨trivial, trivial⟩ ?_
                refine aw_br (c := (bI (iP 6 (-1))) = 0) (fun h10c => ?_) (fun h10c => ?_)
                · skip
                  have h10c := bI_f h10c
                  show aw_W _ _ _ _ (22, [some (.int 4), some (.int a), some (.int (-1)), some (.int (nI 2))], []) (ae_en σ α z t0 ts)
                  refine aw_go 1 rfl ⟨trivial, trivial⟩ ?_
                  refine aw_ret rfl rfl (by first | exact Or.inl rfl | exact Or.inr rfl) ?_
                  refine ⟨?_, rfl⟩
                  exact congrArg (fun q => some (Value.int q)) (bI_0 (by
                    intro q
                    rcases q with q | q | ⟨q, r⟩ | ⟨q, r⟩
                    all_goals first | exact absurd r (by decide) | exact h13 q | exact h13 q.symm | exact h13b q | exact h13b q.symm))
                · skip
                  have h10c := bI_t h10c
                  show aw_W _ _ _ _ (11, [some (.int 4), some (.int a), some (.int (-1)), some (.int (nI 2))], []) (ae_en σ α z t0 ts)
                  exact absurd h10c (by decide)
            · skip
              have h13b := Classical.not_not.mp h13b
              show aw_W _ _ _ _ (14, [some (.int 4), some (.int a), some (.int 0), some (.int (nI 1))], []) (ae_en σ α z t0 ts)
              refine aw_go 1 rfl ⟨trivial, trivial⟩ ?_
              refine aw_ret rfl rfl (by first | exact Or.inl rfl | exact Or.inr rfl) ?_
              refine ⟨?_, rfl⟩
              exact congrArg (fun q => some (Value.int q)) (bI_1 (by rw [← h13b]; decide))
      · skip
        have h13 := Classical.not_not.mp h13
        show aw_W _ _ _ _ (14, [some (.int 4), some (.int a), some (.int 4), some (.int 0)], []) (ae_en σ α z t0 ts)
        refine aw_go 1 rfl ⟨trivial, trivial⟩ ?_
        refine aw_ret rfl rfl (by first | exact Or.inl rfl | exact Or.inr rfl) ?_
        refine ⟨?_, rfl⟩
        exact congrArg (fun q => some (Value.int q)) (bI_1 (by rw [← h13]; decide))
theorem ev_isUnder_5 {a : Int32} {zd : Nat}  : ae_Ev P (zd + 2) 105 [.int 5, .int a] (ae_en σ α z t0 ts) (some (.int (bI (fUn 5 a)))) (ae_en σ α z t0 ts) := by
  refine aw_evE (cd := cd_Wood_isUnder) rfl rfl rfl ?_
  show aw_W _ _ _ _ (0, [some (.int 5), some (.int a), none, none], []) (ae_en σ α z t0 ts)
  refine aw_go 8 rfl ⟨trivial, trivial, trivial, trivial, trivial, trivial, trivial, trivial, trivial⟩ ?_
  show aw_W _ _ _ _ (if (6 : Int32) ≤ (0 : Int32) then 22 else 8, [some (.int 5), some (.int a), some (.int 5), some (.int 0)], []) (ae_en σ α z t0 ts)
  refine aw_br (c := (6 : Int32) ≤ (0 : Int32)) (fun h7 => ?_) (fun h7 => ?_)
  · skip
    have h7 := cI_leT (a := 6) (b := 0) rfl rfl (by omega) (by omega) h7
    show aw_W _ _ _ _ (22, [some (.int 5), some (.int a), some (.int 5), some (.int 0)], []) (ae_en σ α z t0 ts)
    exact absurd h7 (by decide)
  · skip
    have h7 := cI_leF (a := 6) (b := 0) rfl rfl (by omega) (by omega) h7
    show aw_W _ _ _ _ (8, [some (.int 5), some (.int a), some (.int 5), some (.int 0)], []) (ae_en σ α z t0 ts)
    refine aw_go 1 rfl ⟨trivial, trivial⟩ ?_
    refine aw_callE rfl rfl (ec_isKind (k := 5)) ?_
    show aw_W _ _ _ _ (10, [some (.int 5), some (.int a), some (.int 5), some (.int 0)], [.int (bI (iP 6 5))]) (ae_en σ α z t0 ts)
    refine aw_go 1 rfl ⟨trivial, trivial⟩ ?_
    refine aw_br (c := (bI (iP 6 5)) = 0) (fun h10 => ?_) (fun h10 => ?_)
    · skip
      have h10 := bI_f h10
      show aw_W _ _ _ _ (22, [some (.int 5), some (.int a), some (.int 5), some (.int 0)], []) (ae_en σ α z t0 ts)
      exact absurd h10 (by decide)
    · skip
      have h10 := bI_t h10
      show aw_W _ _ _ _ (11, [some (.int 5), some (.int a), some (.int 5), some (.int 0)], []) (ae_en σ α z t0 ts)
      refine aw_go 3 rfl ⟨trivial, trivial, trivial, trivial⟩ ?_
      refine aw_br (c := ¬ (5 : Int32) = a) (fun h13 => ?_) (fun h13 => ?_)
      · skip
        show aw_W _ _ _ _ (16, [some (.int 5), some (.int a), some (.int 5), some (.int 0)], []) (ae_en σ α z t0 ts)
        refine aw_go 10 rfl ⟨trivial, trivial, (cI_in (a := 5) rfl (by omega) (by decide)), trivial, trivial, trivial, trivial, trivial, trivial, trivial, trivial⟩ ?_
        show aw_W _ _ _ _ (if (6 : Int32) ≤ (0 + 1) then 22 else 8, [some (.int 5), some (.int a), some (.int 2), some (.int (0 + 1))], []) (ae_en σ α z t0 ts)
        refine aw_br (c := (6 : Int32) ≤ (0 + 1)) (fun h7b => ?_) (fun h7b => ?_)
        · skip
          have h7b := cI_leT (a := 6) (b := 1) rfl (cI_add (a := 0) (b := 1) rfl rfl) (by omega) (by omega) h7b
          show aw_W _ _ _ _ (22, [some (.int 5), some (.int a), some (.int 2), some (.int (0 + 1))], []) (ae_en σ α z t0 ts)
          exact absurd h7b (by decide)
        · skip
          have h7b := cI_leF (a := 6) (b := 1) rfl (cI_add (a := 0) (b := 1) rfl rfl) (by omega) (by omega) h7b
          show aw_W _ _ _ _ (8, [some (.int 5), some (.int a), some (.int 2), some (.int (0 + 1))], []) (ae_en σ α z t0 ts)
          refine aw_go 1 rfl ⟨trivial, trivial⟩ ?_
          rw [show 0 + 1 = nI 1 from (cI_add (a := 0) (b := 1) rfl rfl)]
          refine aw_callE rfl rfl (ec_isKind (k := 2)) ?_
          show aw_W _ _ _ _ (10, [some (.int 5), some (.int a), some (.int 2), some (.int (nI 1))], [.int (bI (iP 6 2))]) (ae_en σ α z t0 ts)
          refine aw_go 1 rfl ⟨trivial, trivial⟩ ?_
          refine aw_br (c := (bI (iP 6 2)) = 0) (fun h10b => ?_) (fun h10b => ?_)
          · skip
            have h10b := bI_f h10b
            show aw_W _ _ _ _ (22, [some (.int 5), some (.int a), some (.int 2), some (.int (nI 1))], []) (ae_en σ α z t0 ts)
            exact absurd h10b (by decide)
          · skip
            have h10b := bI_t h10b
            show aw_W _ _ _ _ (11, [some (.int 5), some (.int a), some (.int 2), some (.int (nI 1))], []) (ae_en σ α z t0 ts)
            refine aw_go 3 rfl ⟨trivial, trivial, trivial, trivial⟩ ?_
            refine aw_br (c := ¬ (2 : Int32) = a) (fun h13b => ?_) (fun h13b => ?_)
            · skip
              show aw_W _ _ _ _ (16, [some (.int 5), some (.int a), some (.int 2), some (.int (nI 1))], []) (ae_en σ α z t0 ts)
              refine aw_go 10 rfl ⟨trivial, trivial, (cI_in (a := 2) rfl (by omega) (by decide)), trivial, trivial, trivial, trivial, trivial, trivial, trivial, trivial⟩ ?_
              show aw_W _ _ _ _ (if (6 : Int32) ≤ ((nI 1) + 1) then 22 else 8, [some (.int 5), some (.int a), some (.int 0), some (.int ((nI 1) + 1))], []) (ae_en σ α z t0 ts)
              refine aw_br (c := (6 : Int32) ≤ ((nI 1) + 1)) (fun h7c => ?_) (fun h7c => ?_)
              · skip
                have h7c := cI_leT (a := 6) (b := 2) rfl (cI_add (a := 1) (b := 1) rfl rfl) (by omega) (by omega) h7c
                show aw_W _ _ _ _ (22, [some (.int 5), some (.int a), some (.int 0), some (.int ((nI 1) + 1))], []) (ae_en σ α z t0 ts)
                exact absurd h7c (by decide)
              · skip
                have h7c := cI_leF (a := 6) (b := 2) rfl (cI_add (a := 1) (b := 1) rfl rfl) (by omega) (by omega) h7c
                show aw_W _ _ _ _ (8, [some (.int 5), some (.int a), some (.int 0), some (.int ((nI 1) + 1))], []) (ae_en σ α z t0 ts)
                refine aw_go 1 rfl ⟨trivial, trivial⟩ ?_
                rw [show (nI 1) + 1 = nI 2 from (cI_add (a := 1) (b := 1) rfl rfl)]
                refine aw_callE rfl rfl (ec_isKind (k := 0)) ?_
                show aw_W _ _ _ _ (10, [some (.int 5), some (.int a), some (.int 0), some (.int (nI 2))], [.int (bI (iP 6 0))]) (ae_en σ α z t0 ts)
                refine aw_go 1 rfl ⟨trivial, trivial⟩ ?_
                refine aw_br (c := (bI (iP 6 0)) = 0) (fun h10c => ?_) (fun h10c => ?_)
                · skip
                  have h10c := bI_f h10c
                  show aw_W _ _ _ _ (22, [some (.int 5), some (.int a), some (.int 0), some (.int (nI 2))], []) (ae_en σ α z t0 ts)
                  exact absurd h10c (by decide)
                · skip
                  have h10c := bI_t h10c
                  show aw_W _ _ _ _ (11, [some (.int 5), some (.int a), some (.int 0), some (.int (nI 2))], []) (ae_en σ α z t0 ts)
                  refine aw_go 3 rfl ⟨trivial, trivial, trivial, trivial⟩ ?_
                  refine aw_br (c := ¬ (0 : Int32) = a) (fun h13c => ?_) (fun h13c => ?_)
                  · skip
                    show aw_W _ _ _ _ (16, [some (.int 5), some (.int a), some (.int 0), some (.int (nI 2))], []) (ae_en σ α z t0 ts)
                    refine aw_go 10 rfl ⟨trivial, trivial, (cI_in (a := 0) rfl (by omega) (by decide)), trivial, trivial, trivial, trivial, trivial, trivial, trivial, trivial⟩ ?_
                    show aw_W _ _ _ _ (if (6 : Int32) ≤ ((nI 2) + 1) then 22 else 8, [some (.int 5), some (.int a), some (.int (-1)), some (.int ((nI 2) + 1))], []) (ae_en σ α z t0 ts)
                    refine aw_br (c := (6 : Int32) ≤ ((nI 2) + 1)) (fun h7d => ?_) (fun h7d => ?_)
                    · skip
                      have h7d := cI_leT (a := 6) (b := 3) rfl (cI_add (a := 2) (b := 1) rfl rfl) (by omega) (by omega) h7d
                      show aw_W _ _ _ _ (22, [some (.int 5), some (.int a), some (.int (-1)), some (.int ((nI 2) + 1))], []) (ae_en σ α z t0 ts)
                      exact absurd h7d (by decide)
                    · skip
                      have h7d := cI_leF (a := 6) (b := 3) rfl (cI_add (a := 2) (b := 1) rfl rfl) (by omega) (by omega) h7d
                      show aw_W _ _ _ _ (8, [some (.int 5), some (.int a), some (.int (-1)), some (.int ((nI 2) + 1))], []) (ae_en σ α z t0 ts)
                      refine aw_go 1 rfl ⟨trivial, trivial⟩ ?_
                      rw [show (nI 2) + 1 = nI 3 from (cI_add (a := 2) (b := 1) rfl rfl)]
                      refine aw_callE rfl rfl (ec_isKind (k := (-1))) ?_
                      show aw_W _ _ _ _ (10, [some (.int 5), some (.int a), some (.int (-1)), some (.int (nI 3))], [.int (bI (iP 6 (-1)))]) (ae_en σ α z t0 ts)
                      refine aw_go 1 rfl ⟨trivial, trivial⟩ ?_
                      refine aw_br (c := (bI (iP 6 (-1))) = 0) (fun h10d => ?_) (fun h10d => ?_)
                      · skip
                        have h10d := bI_f h10d
                        show aw_W _ _ _ _ (22, [some (.int 5), some (.int a), some (.int (-1)), some (.int (nI 3))], []) (ae_en σ α z t0 ts)
                        refine aw_go 1 rfl ⟨trivial, trivial⟩ ?_
                        refine aw_ret rfl rfl (by first | exact Or.inl rfl | exact Or.inr rfl) ?_
                        refine ⟨?_, rfl⟩
                        exact congrArg (fun q => some (Value.int q)) (bI_0 (by
                          intro q
                          rcases q with q | q | ⟨q, r⟩ | ⟨q, r⟩
                          all_goals first | exact absurd r (by decide) | exact h13 q | exact h13 q.symm | exact h13b q | exact h13b q.symm | exact h13c q | exact h13c q.symm))
                      · skip
                        have h10d := bI_t h10d
                        show aw_W _ _ _ _ (11, [some (.int 5), some (.int a), some (.int (-1)), some (.int (nI 3))], []) (ae_en σ α z t0 ts)
                        exact absurd h10d (by decide)
                  · skip
                    have h13c := Classical.not_not.mp h13c
                    show aw_W _ _ _ _ (14, [some (.int 5), some (.int a), some (.int 0), some (.int (nI 2))], []) (ae_en σ α z t0 ts)
                    refine aw_go 1 rfl ⟨trivial, trivial⟩ ?_
                    refine aw_ret rfl rfl (by first | exact Or.inl rfl | exact Or.inr rfl) ?_
                    refine ⟨?_, rfl⟩
                    exact congrArg (fun q => some (Value.int q)) (bI_1 (by rw [← h13c]; decide))
            · skip
              have h13b := Classical.not_not.mp h13b
              show aw_W _ _ _ _ (14, [some (.int 5), some (.int a), some (.int 2), some (.int (nI 1))], []) (ae_en σ α z t0 ts)
              refine aw_go 1 rfl ⟨trivial, trivial⟩ ?_
              refine aw_ret rfl rfl (by first | exact Or.inl rfl | exact Or.inr rfl) ?_
              refine ⟨?_, rfl⟩
              exact congrArg (fun q => some (Value.int q)) (bI_1 (by rw [← h13b]; decide))
      · skip
        have h13 := Classical.not_not.mp h13
        show aw_W _ _ _ _ (14, [some (.int 5), some (.int a), some (.int 5), some (.int 0)], []) (ae_en σ α z t0 ts)
        refine aw_go 1 rfl ⟨trivial, trivial⟩ ?_
        refine aw_ret rfl rfl (by first | exact Or.inl rfl | exact Or.inr rfl) ?_
        refine ⟨?_, rfl⟩
        exact congrArg (fun q => some (Value.int q)) (bI_1 (by rw [← h13]; decide))
theorem ec_isUnder {c : Nat} {a : Int32} {zd : Nat} (hc : c < 6) : ae_Ev P (zd + 2) 105 [.int (nI c), .int a] (ae_en σ α z t0 ts) (some (.int (bI (fUn (nI c) a)))) (ae_en σ α z t0 ts) := by
  obtain rfl | rfl | rfl | rfl | rfl | rfl : c = 0 ∨ c = 1 ∨ c = 2 ∨ c = 3 ∨ c = 4 ∨ c = 5 := by omega
  · exact ev_isUnder_0
  · exact ev_isUnder_1
  · exact ev_isUnder_2
  · exact ev_isUnder_3
  · exact ev_isUnder_4
  · exact ev_isUnder_5
theorem ev_Dried_taken {n : Nat} {p k : Int32} {zd : Nat} (hn : (σ 1) = nI n) (hn10 : n ≤ 10) (hkd : ∀ p, p < n → ∃ c : Nat, c < 6 ∧ (α 0) p = nI c) : ae_Ev P (zd + 3) 34 [.ref 0, .int p, .int k] (ae_en σ α z t0 ts) (some (.int (aTaken n (α 0) (α 2) p k))) (ae_en σ α z t0 ts) := by
  refine aw_evE (cd := cd_Dried_taken) rfl rfl rfl ?_
  show aw_W _ _ _ _ (0, [some (.ref 0), some (.int p), some (.int k)], []) (ae_en σ α z t0 ts)
  refine aw_go 1 rfl ⟨trivial, trivial⟩ ?_
  refine aw_callE rfl rfl (ec_isKind (k := k)) ?_
  show aw_W _ _ _ _ (2, [some (.ref 0), some (.int p), some (.int k)], [.int (bI (iP 6 k))]) (ae_en σ α z t0 ts)
  refine aw_go 1 rfl ⟨trivial, trivial⟩ ?_
  refine aw_br (c := ¬ (bI (iP 6 k)) = 0) (fun h2 => ?_) (fun h2 => ?_)
  · skip
    have h2 := bI_t h2
    show aw_W _ _ _ _ (5, [some (.ref 0), some (.int p), some (.int k)], []) (ae_en σ α z t0 ts)
    refine aw_go 3 rfl ⟨trivial, trivial, trivial, trivial⟩ ?_
    show aw_W _ _ _ _ (8, [some (.ref 0), some (.int p), some (.int k)], [.int p, .ref 1]) (ae_en σ α z t0 ts)
    refine aw_callE rfl rfl (ec_Boat_hasPlank (p := p) hn hn10) ?_
    show aw_W _ _ _ _ (9, [some (.ref 0), some (.int p), some (.int k)], [.int (bI (iP n p))]) (ae_en σ α z t0 ts)
    refine aw_go 1 rfl ⟨trivial, trivial⟩ ?_
    refine aw_br (c := ¬ (bI (iP n p)) = 0) (fun h9 => ?_) (fun h9 => ?_)
    · skip
      have h9 := bI_t h9
      show aw_W _ _ _ _ (12, [some (.ref 0), some (.int p), some (.int k)], []) (ae_en σ α z t0 ts)
      obtain ⟨j, hj, rfl⟩ := iP_of h9 (by omega)
      obtain ⟨c, hc, ec⟩ := hkd j hj
      refine aw_go 6 rfl ⟨trivial, trivial, trivial, trivial, (cI_in (a := j) rfl (by omega) (by decide)), trivial, trivial⟩ ?_
      show aw_W _ _ _ _ (18, [some (.ref 0), some (.int (nI j)), some (.int k)], [.int k, .int (α 0 (nI j).toNatClampNeg)]) (ae_en σ α z t0 ts)
      rw [show (nI j).toNatClampNeg = j from cI_cl (a := j) rfl (by omega)]
      rw [show α 0 j = nI c from ec]
      refine aw_callE rfl rfl (ec_isUnder (c := c) (a := k) hc) ?_
      show aw_W _ _ _ _ (19, [some (.ref 0), some (.int (nI j)), some (.int k)], [.int (bI (fUn (nI c) k))]) (ae_en σ α z t0 ts)
      refine aw_go 1 rfl ⟨trivial, trivial⟩ ?_
      refine aw_br (c := (bI (fUn (nI c) k)) = 0) (fun h19 => ?_) (fun h19 => ?_)
      · skip
        have h19 := bI_f h19
        show aw_W _ _ _ _ (26, [some (.ref 0), some (.int (nI j)), some (.int k)], []) (ae_en σ α z t0 ts)
        refine aw_go 1 rfl ⟨trivial, trivial⟩ ?_
        refine aw_ret rfl rfl trivial ?_
        refine ⟨?_, rfl⟩
        rw [aTaken, if_pos h2, if_pos (iP_nI hj (by omega)), nI_clamp (by omega), ec, if_neg h19]
      · skip
        have h19 := bI_t h19
        show aw_W _ _ _ _ (20, [some (.ref 0), some (.int (nI j)), some (.int k)], []) (ae_en σ α z t0 ts)
        refine aw_go 6 rfl ⟨trivial, trivial, trivial, trivial, (cI_in (a := j) rfl (by omega) (by decide)), trivial, trivial⟩ ?_
        show aw_W _ _ _ _ (27, [some (.ref 0), some (.int (nI j)), some (.int k)], [.int (α 2 (nI j).toNatClampNeg)]) (ae_en σ α z t0 ts)
        rw [show (nI j).toNatClampNeg = j from cI_cl (a := j) rfl (by omega)]
        refine aw_ret rfl rfl trivial ?_
        refine ⟨?_, rfl⟩
        rw [aTaken, if_pos h2, if_pos (iP_nI hj (by omega)), nI_clamp (by omega), ec, if_pos h19]
    · skip
      have h9 := bI_f (Classical.not_not.mp h9)
      show aw_W _ _ _ _ (10, [some (.ref 0), some (.int p), some (.int k)], []) (ae_en σ α z t0 ts)
      refine aw_go 1 rfl ⟨trivial, trivial⟩ ?_
      refine aw_ret rfl rfl trivial ?_
      refine ⟨?_, rfl⟩
      rw [aTaken, if_pos h2, if_neg h9]
  · skip
    have h2 := bI_f (Classical.not_not.mp h2)
    show aw_W _ _ _ _ (3, [some (.ref 0), some (.int p), some (.int k)], []) (ae_en σ α z t0 ts)
    refine aw_go 1 rfl ⟨trivial, trivial⟩ ?_
    refine aw_ret rfl rfl trivial ?_
    refine ⟨?_, rfl⟩
    rw [aTaken, if_neg h2]
theorem ev_Dried_isSheet {s : Int32} {zd : Nat}  : ae_Ev P (zd + 1) 29 [.int s] (ae_en σ α z t0 ts) (some (.int (bI (iP 4 s)))) (ae_en σ α z t0 ts) := by
  refine aw_evE (cd := cd_Dried_isSheet) rfl rfl rfl ?_
  show aw_W _ _ _ _ (0, [some (.int s)], []) (ae_en σ α z t0 ts)
  refine aw_go 2 rfl ⟨trivial, trivial, trivial⟩ ?_
  refine aw_br (c := s < 0) (fun h1 => ?_) (fun h1 => ?_)
  · skip
    show aw_W _ _ _ _ (7, [some (.int s)], []) (ae_en σ α z t0 ts)
    refine aw_go 1 rfl ⟨trivial, trivial⟩ ?_
    refine aw_ret rfl rfl (by first | exact Or.inl rfl | exact Or.inr rfl | exact bI_b _) ?_
    refine ⟨?_, rfl⟩
    exact congrArg (fun q => some (Value.int q)) (bI_0 (iP_neg h1))
  · skip
    show aw_W _ _ _ _ (2, [some (.int s)], []) (ae_en σ α z t0 ts)
    refine aw_go 3 rfl ⟨trivial, trivial, trivial, trivial⟩ ?_
    refine aw_br (c := (4 : Int32) ≤ s) (fun h4 => ?_) (fun h4 => ?_)
    · skip
      show aw_W _ _ _ _ (7, [some (.int s)], []) (ae_en σ α z t0 ts)
      refine aw_go 1 rfl ⟨trivial, trivial⟩ ?_
      refine aw_ret rfl rfl (by first | exact Or.inl rfl | exact Or.inr rfl | exact bI_b _) ?_
      refine ⟨?_, rfl⟩
      exact congrArg (fun q => some (Value.int q)) (bI_0 (iP_not h1 (show nI 4 ≤ s from h4) (by decide)))
    · skip
      show aw_W _ _ _ _ (5, [some (.int s)], []) (ae_en σ α z t0 ts)
      refine aw_go 2 rfl ⟨trivial, trivial, trivial⟩ ?_
      refine aw_ret rfl rfl (by first | exact Or.inl rfl | exact Or.inr rfl | exact bI_b _) ?_
      refine ⟨?_, rfl⟩
      exact congrArg (fun q => some (Value.int q)) (bI_1 (iP_yes h1 (show ¬ nI 4 ≤ s from h4) (by decide)))
theorem lp_become_0 {zd : Nat} {s n : Int32} (k : Nat) (hk : k ≤ 40) : aw_W P (zd) cd_Sheet_become (fun r H => r = none ∧ H = (ae_en (au σ [(18, s), (19, n)]) (au α [(27, fC 40 (fun _ => 0) (α 27))]) z t0 ts)) (8, [some (.ref 35), some (.int s), some (.int n), some (.int (nI k))], []) (ae_en (au σ [(18, s), (19, n)]) (au α [(27, fC k (fun _ => 0) (α 27))]) z t0 ts) := by
  refine aw_go 3 rfl ⟨trivial, trivial, trivial, trivial⟩ ?_
  refine aw_br (c := (40 : Int32) ≤ (nI k)) (fun h10 => ?_) (fun h10 => ?_)
  · skip
    have h10 := cI_leT (a := 40) (b := k) rfl rfl (by omega) (by omega) h10
    show aw_W _ _ _ _ (18, [some (.ref 35), some (.int s), some (.int n), some (.int (nI k))], []) (ae_en (au σ [(18, s), (19, n)]) (au α [(27, fC k (fun _ => 0) (α 27))]) z t0 ts)
    have e8 : k = 40 := by omega
    refine aw_ret rfl rfl trivial ?_
    rw [e8]
    exact ⟨rfl, rfl⟩
  · skip
    have h10 := cI_leF (a := 40) (b := k) rfl rfl (by omega) (by omega) h10
    show aw_W _ _ _ _ (11, [some (.ref 35), some (.int s), some (.int n), some (.int (nI k))], []) (ae_en (au σ [(18, s), (19, n)]) (au α [(27, fC k (fun _ => 0) (α 27))]) z t0 ts)
    refine aw_go 7 rfl ⟨trivial, trivial, trivial, trivial, (cI_in (a := k) rfl (by omega) (by decide)), trivial, trivial, trivial⟩ ?_
    show aw_W _ _ _ _ (8, [some (.ref 35), some (.int s), some (.int n), some (.int ((nI k) + 1))], []) (ae_en (au σ [(18, s), (19, n)]) (au α [(27, upd (fC k (fun _ => 0) (α 27)) (nI k).toNatClampNeg 0)]) z t0 ts)
    rw [show (nI k).toNatClampNeg = k from cI_cl (a := k) rfl (by omega)]
    rw [show (nI k) + 1 = nI (k + 1) from (cI_add (a := k) (b := 1) rfl rfl)]
    rw [fC_s (X := fun _ => 0) rfl]
    exact lp_become_0 (k + 1) (by omega)
termination_by 40 - k
decreasing_by all_goals omega
theorem ev_become_0 {s n : Int32} {zd : Nat}  : aw_X P (zd + 1) 94 [.ref 35, .int s, .int n] (ae_en σ α z t0 ts) (fun r H => r = none ∧ H = (ae_en (au σ [(18, s), (19, n)]) (au α [(27, fC 40 (fun _ => 0) (α 27))]) z t0 ts)) := by
  refine aw_ev (cd := cd_Sheet_become) rfl rfl rfl ?_
  show aw_W _ _ _ _ (0, [some (.ref 35), some (.int s), some (.int n), none], []) (ae_en σ α z t0 ts)
  refine aw_go 8 rfl ⟨trivial, trivial, trivial, trivial, trivial, trivial, trivial, trivial, trivial⟩ ?_
  show aw_W _ _ _ _ (8, [some (.ref 35), some (.int s), some (.int n), some (.int 0)], []) (ae_en (au σ [(18, s), (19, n)]) α z t0 ts)
  exact aw_to (lp_become_0 0 (by decide)) rfl (by rw [fC_0]; rfl)
theorem ev_holds_0 {m : Nat} {i n : Int32} {zd : Nat} (hm : σ 19 = nI m) (hm40 : m ≤ 40) : ae_Ev P (zd + 1) 95 [.ref 35, .int i, .int n] (ae_en σ α z t0 ts) (some (.int (bI (hHo m i n)))) (ae_en σ α z t0 ts) := by
  refine aw_evE (cd := cd_Sheet_holds) rfl rfl rfl ?_
  show aw_W _ _ _ _ (0, [some (.ref 35), some (.int i), some (.int n)], []) (ae_en σ α z t0 ts)
  refine aw_go 2 rfl ⟨trivial, trivial, trivial⟩ ?_
  refine aw_br (c := n < 0) (fun h1 => ?_) (fun h1 => ?_)
  · skip
    show aw_W _ _ _ _ (16, [some (.ref 35), some (.int i), some (.int n)], []) (ae_en σ α z t0 ts)
    refine aw_go 1 rfl ⟨trivial, trivial⟩ ?_
    refine aw_ret rfl rfl (by first | exact Or.inl rfl | exact Or.inr rfl | exact bI_b _) ?_
    refine ⟨?_, rfl⟩
    exact congrArg (fun q => some (Value.int q)) (bI_0 (fun q => q.1 h1))
  · skip
    show aw_W _ _ _ _ (2, [some (.ref 35), some (.int i), some (.int n)], []) (ae_en σ α z t0 ts)
    refine aw_go 2 rfl ⟨trivial, trivial, trivial⟩ ?_
    refine aw_br (c := i < 0) (fun h3 => ?_) (fun h3 => ?_)
    · skip
      show aw_W _ _ _ _ (16, [some (.ref 35), some (.int i), some (.int n)], []) (ae_en σ α z t0 ts)
      refine aw_go 1 rfl ⟨trivial, trivial⟩ ?_
      refine aw_ret rfl rfl (by first | exact Or.inl rfl | exact Or.inr rfl | exact bI_b _) ?_
      refine ⟨?_, rfl⟩
      exact congrArg (fun q => some (Value.int q)) (bI_0 (fun q => q.2.1 h3))
    · skip
      show aw_W _ _ _ _ (4, [some (.ref 35), some (.int i), some (.int n)], []) (ae_en σ α z t0 ts)
      refine aw_go 4 rfl ⟨trivial, trivial, trivial, trivial, trivial⟩ ?_
      show aw_W _ _ _ _ (if (σ 19) < i then 16 else 8, [some (.ref 35), some (.int i), some (.int n)], []) (ae_en σ α z t0 ts)
      refine aw_br (c := (σ 19) < i) (fun h7 => ?_) (fun h7 => ?_)
      · skip
        show aw_W _ _ _ _ (16, [some (.ref 35), some (.int i), some (.int n)], []) (ae_en σ α z t0 ts)
        refine aw_go 1 rfl ⟨trivial, trivial⟩ ?_
        refine aw_ret rfl rfl (by first | exact Or.inl rfl | exact Or.inr rfl | exact bI_b _) ?_
        refine ⟨?_, rfl⟩
        exact congrArg (fun q => some (Value.int q)) (bI_0 (fun q => by
          obtain ⟨a, ha, rfl⟩ := nI_of h3
          obtain ⟨b, hb, rfl⟩ := nI_of h1
          have := q.2.2
          rw [nI_clamp ha, nI_clamp hb] at this
          rw [hm, nI_ltI (by omega) (by omega)] at h7
          omega))
      · skip
        show aw_W _ _ _ _ (8, [some (.ref 35), some (.int i), some (.int n)], []) (ae_en σ α z t0 ts)
        have q8 := Int32.not_lt.mp h7
        obtain ⟨a, ha, rfl⟩ := nI_of h3
        obtain ⟨b, hb, rfl⟩ := nI_of h1
        rw [hm, nI_leI (by omega) (by omega)] at q8
        refine aw_go 6 rfl ⟨trivial, trivial, trivial, trivial, trivial, trivial, trivial⟩ ?_
        show aw_W _ _ _ _ (if ((σ 19) - (nI a)) < (nI b) then 16 else 14, [some (.ref 35), some (.int (nI a)), some (.int (nI b))], []) (ae_en σ α z t0 ts)
        refine aw_br (c := ((σ 19) - (nI a)) < (nI b)) (fun h13 => ?_) (fun h13 => ?_)
        · skip
          show aw_W _ _ _ _ (16, [some (.ref 35), some (.int (nI a)), some (.int (nI b))], []) (ae_en σ α z t0 ts)
          have q9 := h13
          rw [hm, cI_sub rfl rfl q8, nI_ltI (by omega) (by omega)] at q9
          refine aw_go 1 rfl ⟨trivial, trivial⟩ ?_
          refine aw_ret rfl rfl (by first | exact Or.inl rfl | exact Or.inr rfl | exact bI_b _) ?_
          refine ⟨?_, rfl⟩
          exact congrArg (fun q => some (Value.int q)) (bI_0 (fun q => by
            have := q.2.2
            rw [nI_clamp ha, nI_clamp hb] at this
            omega))
        · skip
          show aw_W _ _ _ _ (14, [some (.ref 35), some (.int (nI a)), some (.int (nI b))], []) (ae_en σ α z t0 ts)
          have q9 := Int32.not_lt.mp h13
          rw [hm, cI_sub rfl rfl q8, nI_leI (by omega) (by omega)] at q9
          refine aw_go 2 rfl ⟨trivial, trivial, trivial⟩ ?_
          refine aw_ret rfl rfl (by first | exact Or.inl rfl | exact Or.inr rfl | exact bI_b _) ?_
          refine ⟨?_, rfl⟩
          exact congrArg (fun q => some (Value.int q)) (bI_1 ⟨h1, h3, by rw [nI_clamp ha, nI_clamp hb]; omega⟩)
theorem ev_put_0 {i : Nat} {v : Int32} {zd : Nat} (hi : i < 40) : aw_X P (zd + 1) 96 [.ref 35, .int (nI i), .int v] (ae_en σ α z t0 ts) (fun r H => r = none ∧ H = (ae_en σ (au α [(27, upd (α 27) i (cSt (σ 18) v))]) z t0 ts)) := by
  refine aw_ev (cd := cd_Sheet_put) rfl rfl rfl ?_
  show aw_W _ _ _ _ (0, [some (.ref 35), some (.int (nI i)), some (.int v)], []) (ae_en σ α z t0 ts)
  refine aw_go 6 rfl ⟨trivial, trivial, trivial, trivial, trivial, trivial, trivial⟩ ?_
  show aw_W _ _ _ _ (if ¬ (σ 18) = 0 then 9 else 6, [some (.ref 35), some (.int (nI i)), some (.int v)], [.int (nI i), .ref 36]) (ae_en σ α z t0 ts)
  refine aw_br (c := ¬ (σ 18) = 0) (fun h5 => ?_) (fun h5 => ?_)
  · skip
    show aw_W _ _ _ _ (9, [some (.ref 35), some (.int (nI i)), some (.int v)], [.int (nI i), .ref 36]) (ae_en σ α z t0 ts)
    refine aw_go 4 rfl ⟨trivial, trivial, trivial, trivial, trivial⟩ ?_
    show aw_W _ _ _ _ (if ¬ (σ 18) = 1 then 16 else 13, [some (.ref 35), some (.int (nI i)), some (.int v)], [.int (nI i), .ref 36]) (ae_en σ α z t0 ts)
    refine aw_br (c := ¬ (σ 18) = 1) (fun h12 => ?_) (fun h12 => ?_)
    · skip
      show aw_W _ _ _ _ (16, [some (.ref 35), some (.int (nI i)), some (.int v)], [.int (nI i), .ref 36]) (ae_en σ α z t0 ts)
      refine aw_go 2 rfl ⟨trivial, (cI_in (a := i) rfl (by omega) (by decide)), trivial⟩ ?_
      show aw_W _ _ _ _ (18, [some (.ref 35), some (.int (nI i)), some (.int v)], []) (ae_en σ (au α [(27, upd (α 27) (nI i).toNatClampNeg v)]) z t0 ts)
      rw [show (nI i).toNatClampNeg = i from cI_cl (a := i) rfl (by omega)]
      refine aw_ret rfl rfl trivial ?_
      refine ⟨rfl, ?_⟩
      rw [cSt, if_neg h5, if_neg h12]
    · skip
      have h12 := Classical.not_not.mp h12
      show aw_W _ _ _ _ (13, [some (.ref 35), some (.int (nI i)), some (.int v)], [.int (nI i), .ref 36]) (ae_en σ α z t0 ts)
      refine aw_go 4 rfl ⟨trivial, trivial, trivial, (cI_in (a := i) rfl (by omega) (by decide)), trivial⟩ ?_
      show aw_W _ _ _ _ (18, [some (.ref 35), some (.int (nI i)), some (.int v)], []) (ae_en σ (au α [(27, upd (α 27) (nI i).toNatClampNeg v.toInt16.toInt32)]) z t0 ts)
      rw [show (nI i).toNatClampNeg = i from cI_cl (a := i) rfl (by omega)]
      refine aw_ret rfl rfl trivial ?_
      refine ⟨rfl, ?_⟩
      rw [cSt, if_neg h5, if_pos h12]
  · skip
    have h5 := Classical.not_not.mp h5
    show aw_W _ _ _ _ (6, [some (.ref 35), some (.int (nI i)), some (.int v)], [.int (nI i), .ref 36]) (ae_en σ α z t0 ts)
    refine aw_go 4 rfl ⟨trivial, trivial, trivial, (cI_in (a := i) rfl (by omega) (by decide)), trivial⟩ ?_
    show aw_W _ _ _ _ (18, [some (.ref 35), some (.int (nI i)), some (.int v)], []) (ae_en σ (au α [(27, upd (α 27) (nI i).toNatClampNeg v.toInt8.toInt32)]) z t0 ts)
    rw [show (nI i).toNatClampNeg = i from cI_cl (a := i) rfl (by omega)]
    refine aw_ret rfl rfl trivial ?_
    refine ⟨rfl, ?_⟩
    rw [cSt, if_pos h5]
theorem ev_sheet_0 {s n : Int32} {zd : Nat}  : aw_X P (zd + 2) 30 [.ref 0, .int 0, .int s, .int n] (ae_en σ α z t0 ts) (fun r H => r = some (.int ((pSheet s n (σ 18, σ 19, α 27)).1)) ∧ H = (ae_en (au σ [(18, (pSheet s n (σ 18, σ 19, α 27)).2.1), (19, (pSheet s n (σ 18, σ 19, α 27)).2.2.1)]) (au α [(27, (pSheet s n (σ 18, σ 19, α 27)).2.2.2)]) z t0 ts)) := by
  refine aw_ev (cd := cd_Dried_sheet) rfl rfl rfl ?_
  show aw_W _ _ _ _ (0, [some (.ref 0), some (.int 0), some (.int s), some (.int n)], []) (ae_en σ α z t0 ts)
  refine aw_go 1 rfl ⟨trivial, trivial⟩ ?_
  refine aw_callE rfl rfl (ev_Dried_isSheet (s := 0)) ?_
  show aw_W _ _ _ _ (2, [some (.ref 0), some (.int 0), some (.int s), some (.int n)], [.int (bI (iP 4 0))]) (ae_en σ α z t0 ts)
  refine aw_go 1 rfl ⟨trivial, trivial⟩ ?_
  refine aw_br (c := (bI (iP 4 0)) = 0) (fun h2 => ?_) (fun h2 => ?_)
  · skip
    have h2 := bI_f h2
    show aw_W _ _ _ _ (9, [some (.ref 0), some (.int 0), some (.int s), some (.int n)], []) (ae_en σ α z t0 ts)
    exact absurd h2 (by decide)
  · skip
    have h2 := bI_t h2
    show aw_W _ _ _ _ (3, [some (.ref 0), some (.int 0), some (.int s), some (.int n)], []) (ae_en σ α z t0 ts)
    refine aw_go 3 rfl ⟨trivial, trivial, trivial, trivial⟩ ?_
    refine aw_br (c := s < (-1)) (fun h5 => ?_) (fun h5 => ?_)
    · skip
      show aw_W _ _ _ _ (9, [some (.ref 0), some (.int 0), some (.int s), some (.int n)], []) (ae_en σ α z t0 ts)
      refine aw_go 1 rfl ⟨trivial, trivial⟩ ?_
      refine aw_ret rfl rfl trivial ?_
      rw [pSheet, if_pos (Or.inl h5)]
      exact ⟨rfl, rfl⟩
    · skip
      show aw_W _ _ _ _ (6, [some (.ref 0), some (.int 0), some (.int s), some (.int n)], []) (ae_en σ α z t0 ts)
      refine aw_go 3 rfl ⟨trivial, trivial, trivial, trivial⟩ ?_
      refine aw_br (c := s ≤ 2) (fun h8 => ?_) (fun h8 => ?_)
      · skip
        show aw_W _ _ _ _ (11, [some (.ref 0), some (.int 0), some (.int s), some (.int n)], []) (ae_en σ α z t0 ts)
        refine aw_go 3 rfl ⟨trivial, trivial, trivial, trivial⟩ ?_
        refine aw_br (c := ¬ s = (-1)) (fun h13 => ?_) (fun h13 => ?_)
        · skip
          show aw_W _ _ _ _ (23, [some (.ref 0), some (.int 0), some (.int s), some (.int n)], []) (ae_en σ α z t0 ts)
          refine aw_go 3 rfl ⟨trivial, trivial, trivial, trivial⟩ ?_
          refine aw_br (c := n ≤ 40) (fun h25 => ?_) (fun h25 => ?_)
          · skip
            show aw_W _ _ _ _ (28, [some (.ref 0), some (.int 0), some (.int s), some (.int n)], []) (ae_en σ α z t0 ts)
            refine aw_go 2 rfl ⟨trivial, trivial, trivial⟩ ?_
            refine aw_br (c := (0 : Int32) ≤ n) (fun h29 => ?_) (fun h29 => ?_)
            · skip
              show aw_W _ _ _ _ (32, [some (.ref 0), some (.int 0), some (.int s), some (.int n)], []) (ae_en σ α z t0 ts)
              refine aw_go 6 rfl ⟨trivial, trivial, trivial, (cI_in (a := 0) rfl (by omega) (by decide)), trivial, trivial, trivial⟩ ?_
              show aw_W _ _ _ _ (38, [some (.ref 0), some (.int 0), some (.int s), some (.int n)], [.int n, .int s, .ref 35]) (ae_en σ α z t0 ts)
              refine aw_call rfl rfl (ev_become_0 (s := s) (n := n)) ?_
              rintro _ _ ⟨rfl, rfl⟩
              show aw_W _ _ _ _ (39, [some (.ref 0), some (.int 0), some (.int s), some (.int n)], []) (ae_en (au σ [(18, s), (19, n)]) (au α [(27, fC 40 (fun _ => 0) (α 27))]) z t0 ts)
              refine aw_go 1 rfl ⟨trivial, trivial⟩ ?_
              refine aw_ret rfl rfl trivial ?_
              rw [pSheet, if_neg (fun q => q.elim h5 (Int32.not_lt.mpr h8)), if_neg h13, if_neg (Int32.not_lt.mpr h25), if_neg (Int32.not_lt.mpr h29)]
              exact ⟨rfl, rfl⟩
            · skip
              show aw_W _ _ _ _ (30, [some (.ref 0), some (.int 0), some (.int s), some (.int n)], []) (ae_en σ α z t0 ts)
              refine aw_go 1 rfl ⟨trivial, trivial⟩ ?_
              refine aw_ret rfl rfl trivial ?_
              rw [pSheet, if_neg (fun q => q.elim h5 (Int32.not_lt.mpr h8)), if_neg h13, if_neg (Int32.not_lt.mpr h25), if_pos (Int32.not_le.mp h29)]
              exact ⟨rfl, rfl⟩
          · skip
            show aw_W _ _ _ _ (26, [some (.ref 0), some (.int 0), some (.int s), some (.int n)], []) (ae_en σ α z t0 ts)
            refine aw_go 1 rfl ⟨trivial, trivial⟩ ?_
            refine aw_ret rfl rfl trivial ?_
            rw [pSheet, if_neg (fun q => q.elim h5 (Int32.not_lt.mpr h8)), if_neg h13, if_pos (Int32.not_le.mp h25)]
            exact ⟨rfl, rfl⟩
        · skip
          have h13 := Classical.not_not.mp h13
          show aw_W _ _ _ _ (14, [some (.ref 0), some (.int 0), some (.int s), some (.int n)], []) (ae_en σ α z t0 ts)
          refine aw_go 6 rfl ⟨trivial, trivial, trivial, (cI_in (a := 0) rfl (by omega) (by decide)), trivial, trivial, trivial⟩ ?_
          show aw_W _ _ _ _ (20, [some (.ref 0), some (.int 0), some (.int s), some (.int n)], [.int 0, .int (-1), .ref 35]) (ae_en σ α z t0 ts)
          refine aw_call rfl rfl (ev_become_0 (s := (-1)) (n := 0)) ?_
          rintro _ _ ⟨rfl, rfl⟩
          show aw_W _ _ _ _ (21, [some (.ref 0), some (.int 0), some (.int s), some (.int n)], []) (ae_en (au σ [(18, (-1)), (19, 0)]) (au α [(27, fC 40 (fun _ => 0) (α 27))]) z t0 ts)
          refine aw_go 1 rfl ⟨trivial, trivial⟩ ?_
          refine aw_ret rfl rfl trivial ?_
          rw [pSheet, if_neg (fun q => q.elim h5 (Int32.not_lt.mpr h8)), if_pos h13]
          exact ⟨rfl, rfl⟩
      · skip
        show aw_W _ _ _ _ (9, [some (.ref 0), some (.int 0), some (.int s), some (.int n)], []) (ae_en σ α z t0 ts)
        refine aw_go 1 rfl ⟨trivial, trivial⟩ ?_
        refine aw_ret rfl rfl trivial ?_
        rw [pSheet, if_pos (Or.inr (Int32.not_le.mp h8))]
        exact ⟨rfl, rfl⟩
theorem ev_cell_0 {m : Nat} {i v : Int32} {zd : Nat} (hm : ¬ σ 18 = -1 → σ 19 = nI m) (hm40 : m ≤ 40) : aw_X P (zd + 2) 31 [.ref 0, .int 0, .int i, .int v] (ae_en σ α z t0 ts) (fun r H => r = some (.int ((pCell m (σ 18) (α 27) i v).1)) ∧ H = (ae_en σ (au α [(27, (pCell m (σ 18) (α 27) i v).2)]) z t0 ts)) := by
  refine aw_ev (cd := cd_Dried_cell) rfl rfl rfl ?_
  show aw_W _ _ _ _ (0, [some (.ref 0), some (.int 0), some (.int i), some (.int v), none], []) (ae_en σ α z t0 ts)
  refine aw_go 1 rfl ⟨trivial, trivial⟩ ?_
  refine aw_callE rfl rfl (ev_Dried_isSheet (s := 0)) ?_
  show aw_W _ _ _ _ (2, [some (.ref 0), some (.int 0), some (.int i), some (.int v), none], [.int (bI (iP 4 0))]) (ae_en σ α z t0 ts)
  refine aw_go 1 rfl ⟨trivial, trivial⟩ ?_
  refine aw_br (c := ¬ (bI (iP 4 0)) = 0) (fun h2 => ?_) (fun h2 => ?_)
  · skip
    have h2 := bI_t h2
    show aw_W _ _ _ _ (5, [some (.ref 0), some (.int 0), some (.int i), some (.int v), none], []) (ae_en σ α z t0 ts)
    refine aw_go 9 rfl ⟨trivial, trivial, trivial, (cI_in (a := 0) rfl (by omega) (by decide)), trivial, trivial, trivial, trivial, trivial, trivial⟩ ?_
    show aw_W _ _ _ _ (if ¬ (σ 18) = (-1) then 16 else 14, [some (.ref 0), some (.int 0), some (.int i), some (.int v), some (.ref 35)], []) (ae_en σ α z t0 ts)
    refine aw_br (c := ¬ (σ 18) = (-1)) (fun h13 => ?_) (fun h13 => ?_)
    · skip
      show aw_W _ _ _ _ (16, [some (.ref 0), some (.int 0), some (.int i), some (.int v), some (.ref 35)], []) (ae_en σ α z t0 ts)
      refine aw_go 3 rfl ⟨trivial, trivial, trivial, trivial⟩ ?_
      refine aw_callE rfl rfl (ev_holds_0 (i := i) (n := 1) (hm h13) hm40) ?_
      show aw_W _ _ _ _ (20, [some (.ref 0), some (.int 0), some (.int i), some (.int v), some (.ref 35)], [.int (bI (hHo m i 1))]) (ae_en σ α z t0 ts)
      refine aw_go 1 rfl ⟨trivial, trivial⟩ ?_
      refine aw_br (c := ¬ (bI (hHo m i 1)) = 0) (fun h20 => ?_) (fun h20 => ?_)
      · skip
        have h20 := bI_t h20
        show aw_W _ _ _ _ (23, [some (.ref 0), some (.int 0), some (.int i), some (.int v), some (.ref 35)], []) (ae_en σ α z t0 ts)
        obtain ⟨a, ha, rfl⟩ := nI_of h20.2.1
        have q := h20.2.2
        rw [nI_clamp ha, show (1 : Int32).toNatClampNeg = 1 from rfl] at q
        refine aw_go 3 rfl ⟨trivial, trivial, trivial, trivial⟩ ?_
        refine aw_call rfl rfl (ev_put_0 (i := a) (v := v) (by omega)) ?_
        rintro _ _ ⟨rfl, rfl⟩
        show aw_W _ _ _ _ (27, [some (.ref 0), some (.int 0), some (.int (nI a)), some (.int v), some (.ref 35)], []) (ae_en σ (au α [(27, upd (α 27) a (cSt (σ 18) v))]) z t0 ts)
        refine aw_go 1 rfl ⟨trivial, trivial⟩ ?_
        refine aw_ret rfl rfl trivial ?_
        rw [pCell, if_neg h13, if_pos (iP_nI (by omega) (by omega)), nI_clamp ha]
        exact ⟨rfl, rfl⟩
      · skip
        have h20 := bI_f (Classical.not_not.mp h20)
        show aw_W _ _ _ _ (21, [some (.ref 0), some (.int 0), some (.int i), some (.int v), some (.ref 35)], []) (ae_en σ α z t0 ts)
        refine aw_go 1 rfl ⟨trivial, trivial⟩ ?_
        refine aw_ret rfl rfl trivial ?_
        rw [pCell, if_neg h13, if_neg (fun q => h20 ⟨by decide, q.1, by have := q.2; rw [show (1 : Int32).toNatClampNeg = 1 from rfl]; omega⟩)]
        exact ⟨rfl, rfl⟩
    · skip
      have h13 := Classical.not_not.mp h13
      show aw_W _ _ _ _ (14, [some (.ref 0), some (.int 0), some (.int i), some (.int v), some (.ref 35)], []) (ae_en σ α z t0 ts)
      refine aw_go 1 rfl ⟨trivial, trivial⟩ ?_
      refine aw_ret rfl rfl trivial ?_
      rw [pCell, if_pos h13]
      exact ⟨rfl, rfl⟩
  · skip
    have h2 := bI_f (Classical.not_not.mp h2)
    show aw_W _ _ _ _ (3, [some (.ref 0), some (.int 0), some (.int i), some (.int v), none], []) (ae_en σ α z t0 ts)
    exact absurd h2 (by decide)
theorem lp_become_1 {zd : Nat} {s n : Int32} (k : Nat) (hk : k ≤ 40) : aw_W P (zd) cd_Sheet_become (fun r H => r = none ∧ H = (ae_en (au σ [(20, s), (21, n)]) (au α [(28, fC 40 (fun _ => 0) (α 28))]) z t0 ts)) (8, [some (.ref 37), some (.int s), some (.int n), some (.int (nI k))], []) (ae_en (au σ [(20, s), (21, n)]) (au α [(28, fC k (fun _ => 0) (α 28))]) z t0 ts) := by
  refine aw_go 3 rfl ⟨trivial, trivial, trivial, trivial⟩ ?_
  refine aw_br (c := (40 : Int32) ≤ (nI k)) (fun h10 => ?_) (fun h10 => ?_)
  · skip
    have h10 := cI_leT (a := 40) (b := k) rfl rfl (by omega) (by omega) h10
    show aw_W _ _ _ _ (18, [some (.ref 37), some (.int s), some (.int n), some (.int (nI k))], []) (ae_en (au σ [(20, s), (21, n)]) (au α [(28, fC k (fun _ => 0) (α 28))]) z t0 ts)
    have e8 : k = 40 := by omega
    refine aw_ret rfl rfl trivial ?_
    rw [e8]
    exact ⟨rfl, rfl⟩
  · skip
    have h10 := cI_leF (a := 40) (b := k) rfl rfl (by omega) (by omega) h10
    show aw_W _ _ _ _ (11, [some (.ref 37), some (.int s), some (.int n), some (.int (nI k))], []) (ae_en (au σ [(20, s), (21, n)]) (au α [(28, fC k (fun _ => 0) (α 28))]) z t0 ts)
    refine aw_go 7 rfl ⟨trivial, trivial, trivial, trivial, (cI_in (a := k) rfl (by omega) (by decide)), trivial, trivial, trivial⟩ ?_
    show aw_W _ _ _ _ (8, [some (.ref 37), some (.int s), some (.int n), some (.int ((nI k) + 1))], []) (ae_en (au σ [(20, s), (21, n)]) (au α [(28, upd (fC k (fun _ => 0) (α 28)) (nI k).toNatClampNeg 0)]) z t0 ts)
    rw [show (nI k).toNatClampNeg = k from cI_cl (a := k) rfl (by omega)]
    rw [show (nI k) + 1 = nI (k + 1) from (cI_add (a := k) (b := 1) rfl rfl)]
    rw [fC_s (X := fun _ => 0) rfl]
    exact lp_become_1 (k + 1) (by omega)
termination_by 40 - k
decreasing_by all_goals omega
theorem ev_become_1 {s n : Int32} {zd : Nat}  : aw_X P (zd + 1) 94 [.ref 37, .int s, .int n] (ae_en σ α z t0 ts) (fun r H => r = none ∧ H = (ae_en (au σ [(20, s), (21, n)]) (au α [(28, fC 40 (fun _ => 0) (α 28))]) z t0 ts)) := by
  refine aw_ev (cd := cd_Sheet_become) rfl rfl rfl ?_
  show aw_W _ _ _ _ (0, [some (.ref 37), some (.int s), some (.int n), none], []) (ae_en σ α z t0 ts)
  refine aw_go 8 rfl ⟨trivial, trivial, trivial, trivial, trivial, trivial, trivial, trivial, trivial⟩ ?_
  show aw_W _ _ _ _ (8, [some (.ref 37), some (.int s), some (.int n), some (.int 0)], []) (ae_en (au σ [(20, s), (21, n)]) α z t0 ts)
  exact aw_to (lp_become_1 0 (by decide)) rfl (by rw [fC_0]; rfl)
theorem ev_holds_1 {m : Nat} {i n : Int32} {zd : Nat} (hm : σ 21 = nI m) (hm40 : m ≤ 40) : ae_Ev P (zd + 1) 95 [.ref 37, .int i, .int n] (ae_en σ α z t0 ts) (some (.int (bI (hHo m i n)))) (ae_en σ α z t0 ts) := by
  refine aw_evE (cd := cd_Sheet_holds) rfl rfl rfl ?_
  show aw_W _ _ _ _ (0, [some (.ref 37), some (.int i), some (.int n)], []) (ae_en σ α z t0 ts)
  refine aw_go 2 rfl ⟨trivial, trivial, trivial⟩ ?_
  refine aw_br (c := n < 0) (fun h1 => ?_) (fun h1 => ?_)
  · skip
    show aw_W _ _ _ _ (16, [some (.ref 37), some (.int i), some (.int n)], []) (ae_en σ α z t0 ts)
    refine aw_go 1 rfl ⟨trivial, trivial⟩ ?_
    refine aw_ret rfl rfl (by first | exact Or.inl rfl | exact Or.inr rfl | exact bI_b _) ?_
    refine ⟨?_, rfl⟩
    exact congrArg (fun q => some (Value.int q)) (bI_0 (fun q => q.1 h1))
  · skip
    show aw_W _ _ _ _ (2, [some (.ref 37), some (.int i), some (.int n)], []) (ae_en σ α z t0 ts)
    refine aw_go 2 rfl ⟨trivial, trivial, trivial⟩ ?_
    refine aw_br (c := i < 0) (fun h3 => ?_) (fun h3 => ?_)
    · skip
      show aw_W _ _ _ _ (16, [some (.ref 37), some (.int i), some (.int n)], []) (ae_en σ α z t0 ts)
      refine aw_go 1 rfl ⟨trivial, trivial⟩ ?_
      refine aw_ret rfl rfl (by first | exact Or.inl rfl | exact Or.inr rfl | exact bI_b _) ?_
      refine ⟨?_, rfl⟩
      exact congrArg (fun q => some (Value.int q)) (bI_0 (fun q => q.2.1 h3))
    · skip
      show aw_W _ _ _ _ (4, [some (.ref 37), some (.int i), some (.int n)], []) (ae_en σ α z t0 ts)
      refine aw_go 4 rfl ⟨trivial, trivial, trivial, trivial, trivial⟩ ?_
      show aw_W _ _ _ _ (if (σ 21) < i then 16 else 8, [some (.ref 37), some (.int i), some (.int n)], []) (ae_en σ α z t0 ts)
      refine aw_br (c := (σ 21) < i) (fun h7 => ?_) (fun h7 => ?_)
      · skip
        show aw_W _ _ _ _ (16, [some (.ref 37), some (.int i), some (.int n)], []) (ae_en σ α z t0 ts)
        refine aw_go 1 rfl ⟨trivial, trivial⟩ ?_
        refine aw_ret rfl rfl (by first | exact Or.inl rfl | exact Or.inr rfl | exact bI_b _) ?_
        refine ⟨?_, rfl⟩
        exact congrArg (fun q => some (Value.int q)) (bI_0 (fun q => by
          obtain ⟨a, ha, rfl⟩ := nI_of h3
          obtain ⟨b, hb, rfl⟩ := nI_of h1
          have := q.2.2
          rw [nI_clamp ha, nI_clamp hb] at this
          rw [hm, nI_ltI (by omega) (by omega)] at h7
          omega))
      · skip
        show aw_W _ _ _ _ (8, [some (.ref 37), some (.int i), some (.int n)], []) (ae_en σ α z t0 ts)
        have q8 := Int32.not_lt.mp h7
        obtain ⟨a, ha, rfl⟩ := nI_of h3
        obtain ⟨b, hb, rfl⟩ := nI_of h1
        rw [hm, nI_leI (by omega) (by omega)] at q8
        refine aw_go 6 rfl ⟨trivial, trivial, trivial, trivial, trivial, trivial, trivial⟩ ?_
        show aw_W _ _ _ _ (if ((σ 21) - (nI a)) < (nI b) then 16 else 14, [some (.ref 37), some (.int (nI a)), some (.int (nI b))], []) (ae_en σ α z t0 ts)
        refine aw_br (c := ((σ 21) - (nI a)) < (nI b)) (fun h13 => ?_) (fun h13 => ?_)
        · skip
          show aw_W _ _ _ _ (16, [some (.ref 37), some (.int (nI a)), some (.int (nI b))], []) (ae_en σ α z t0 ts)
          have q9 := h13
          rw [hm, cI_sub rfl rfl q8, nI_ltI (by omega) (by omega)] at q9
          refine aw_go 1 rfl ⟨trivial, trivial⟩ ?_
          refine aw_ret rfl rfl (by first | exact Or.inl rfl | exact Or.inr rfl | exact bI_b _) ?_
          refine ⟨?_, rfl⟩
          exact congrArg (fun q => some (Value.int q)) (bI_0 (fun q => by
            have := q.2.2
            rw [nI_clamp ha, nI_clamp hb] at this
            omega))
        · skip
          show aw_W _ _ _ _ (14, [some (.ref 37), some (.int (nI a)), some (.int (nI b))], []) (ae_en σ α z t0 ts)
          have q9 := Int32.not_lt.mp h13
          rw [hm, cI_sub rfl rfl q8, nI_leI (by omega) (by omega)] at q9
          refine aw_go 2 rfl ⟨trivial, trivial, trivial⟩ ?_
          refine aw_ret rfl rfl (by first | exact Or.inl rfl | exact Or.inr rfl | exact bI_b _) ?_
          refine ⟨?_, rfl⟩
          exact congrArg (fun q => some (Value.int q)) (bI_1 ⟨h1, h3, by rw [nI_clamp ha, nI_clamp hb]; omega⟩)
theorem ev_put_1 {i : Nat} {v : Int32} {zd : Nat} (hi : i < 40) : aw_X P (zd + 1) 96 [.ref 37, .int (nI i), .int v] (ae_en σ α z t0 ts) (fun r H => r = none ∧ H = (ae_en σ (au α [(28, upd (α 28) i (cSt (σ 20) v))]) z t0 ts)) := by
  refine aw_ev (cd := cd_Sheet_put) rfl rfl rfl ?_
  show aw_W _ _ _ _ (0, [some (.ref 37), some (.int (nI i)), some (.int v)], []) (ae_en σ α z t0 ts)
  refine aw_go 6 rfl ⟨trivial, trivial, trivial, trivial, trivial, trivial, trivial⟩ ?_
  show aw_W _ _ _ _ (if ¬ (σ 20) = 0 then 9 else 6, [some (.ref 37), some (.int (nI i)), some (.int v)], [.int (nI i), .ref 38]) (ae_en σ α z t0 ts)
  refine aw_br (c := ¬ (σ 20) = 0) (fun h5 => ?_) (fun h5 => ?_)
  · skip
    show aw_W _ _ _ _ (9, [some (.ref 37), some (.int (nI i)), some (.int v)], [.int (nI i), .ref 38]) (ae_en σ α z t0 ts)
    refine aw_go 4 rfl ⟨trivial, trivial, trivial, trivial, trivial⟩ ?_
    show aw_W _ _ _ _ (if ¬ (σ 20) = 1 then 16 else 13, [some (.ref 37), some (.int (nI i)), some (.int v)], [.int (nI i), .ref 38]) (ae_en σ α z t0 ts)
    refine aw_br (c := ¬ (σ 20) = 1) (fun h12 => ?_) (fun h12 => ?_)
    · skip
      show aw_W _ _ _ _ (16, [some (.ref 37), some (.int (nI i)), some (.int v)], [.int (nI i), .ref 38]) (ae_en σ α z t0 ts)
      refine aw_go 2 rfl ⟨trivial, (cI_in (a := i) rfl (by omega) (by decide)), trivial⟩ ?_
      show aw_W _ _ _ _ (18, [some (.ref 37), some (.int (nI i)), some (.int v)], []) (ae_en σ (au α [(28, upd (α 28) (nI i).toNatClampNeg v)]) z t0 ts)
      rw [show (nI i).toNatClampNeg = i from cI_cl (a := i) rfl (by omega)]
      refine aw_ret rfl rfl trivial ?_
      refine ⟨rfl, ?_⟩
      rw [cSt, if_neg h5, if_neg h12]
    · skip
      have h12 := Classical.not_not.mp h12
      show aw_W _ _ _ _ (13, [some (.ref 37), some (.int (nI i)), some (.int v)], [.int (nI i), .ref 38]) (ae_en σ α z t0 ts)
      refine aw_go 4 rfl ⟨trivial, trivial, trivial, (cI_in (a := i) rfl (by omega) (by decide)), trivial⟩ ?_
      show aw_W _ _ _ _ (18, [some (.ref 37), some (.int (nI i)), some (.int v)], []) (ae_en σ (au α [(28, upd (α 28) (nI i).toNatClampNeg v.toInt16.toInt32)]) z t0 ts)
      rw [show (nI i).toNatClampNeg = i from cI_cl (a := i) rfl (by omega)]
      refine aw_ret rfl rfl trivial ?_
      refine ⟨rfl, ?_⟩
      rw [cSt, if_neg h5, if_pos h12]
  · skip
    have h5 := Classical.not_not.mp h5
    show aw_W _ _ _ _ (6, [some (.ref 37), some (.int (nI i)), some (.int v)], [.int (nI i), .ref 38]) (ae_en σ α z t0 ts)
    refine aw_go 4 rfl ⟨trivial, trivial, trivial, (cI_in (a := i) rfl (by omega) (by decide)), trivial⟩ ?_
    show aw_W _ _ _ _ (18, [some (.ref 37), some (.int (nI i)), some (.int v)], []) (ae_en σ (au α [(28, upd (α 28) (nI i).toNatClampNeg v.toInt8.toInt32)]) z t0 ts)
    rw [show (nI i).toNatClampNeg = i from cI_cl (a := i) rfl (by omega)]
    refine aw_ret rfl rfl trivial ?_
    refine ⟨rfl, ?_⟩
    rw [cSt, if_pos h5]
theorem ev_sheet_1 {s n : Int32} {zd : Nat}  : aw_X P (zd + 2) 30 [.ref 0, .int 1, .int s, .int n] (ae_en σ α z t0 ts) (fun r H => r = some (.int ((pSheet s n (σ 20, σ 21, α 28)).1)) ∧ H = (ae_en (au σ [(20, (pSheet s n (σ 20, σ 21, α 28)).2.1), (21, (pSheet s n (σ 20, σ 21, α 28)).2.2.1)]) (au α [(28, (pSheet s n (σ 20, σ 21, α 28)).2.2.2)]) z t0 ts)) := by
  refine aw_ev (cd := cd_Dried_sheet) rfl rfl rfl ?_
  show aw_W _ _ _ _ (0, [some (.ref 0), some (.int 1), some (.int s), some (.int n)], []) (ae_en σ α z t0 ts)
  refine aw_go 1 rfl ⟨trivial, trivial⟩ ?_
  refine aw_callE rfl rfl (ev_Dried_isSheet (s := 1)) ?_
  show aw_W _ _ _ _ (2, [some (.ref 0), some (.int 1), some (.int s), some (.int n)], [.int (bI (iP 4 1))]) (ae_en σ α z t0 ts)
  refine aw_go 1 rfl ⟨trivial, trivial⟩ ?_
  refine aw_br (c := (bI (iP 4 1)) = 0) (fun h2 => ?_) (fun h2 => ?_)
  · skip
    have h2 := bI_f h2
    show aw_W _ _ _ _ (9, [some (.ref 0), some (.int 1), some (.int s), some (.int n)], []) (ae_en σ α z t0 ts)
    exact absurd h2 (by decide)
  · skip
    have h2 := bI_t h2
    show aw_W _ _ _ _ (3, [some (.ref 0), some (.int 1), some (.int s), some (.int n)], []) (ae_en σ α z t0 ts)
    refine aw_go 3 rfl ⟨trivial, trivial, trivial, trivial⟩ ?_
    refine aw_br (c := s < (-1)) (fun h5 => ?_) (fun h5 => ?_)
    · skip
      show aw_W _ _ _ _ (9, [some (.ref 0), some (.int 1), some (.int s), some (.int n)], []) (ae_en σ α z t0 ts)
      refine aw_go 1 rfl ⟨trivial, trivial⟩ ?_
      refine aw_ret rfl rfl trivial ?_
      rw [pSheet, if_pos (Or.inl h5)]
      exact ⟨rfl, rfl⟩
    · skip
      show aw_W _ _ _ _ (6, [some (.ref 0), some (.int 1), some (.int s), some (.int n)], []) (ae_en σ α z t0 ts)
      refine aw_go 3 rfl ⟨trivial, trivial, trivial, trivial⟩ ?_
      refine aw_br (c := s ≤ 2) (fun h8 => ?_) (fun h8 => ?_)
      · skip
        show aw_W _ _ _ _ (11, [some (.ref 0), some (.int 1), some (.int s), some (.int n)], []) (ae_en σ α z t0 ts)
        refine aw_go 3 rfl ⟨trivial, trivial, trivial, trivial⟩ ?_
        refine aw_br (c := ¬ s = (-1)) (fun h13 => ?_) (fun h13 => ?_)
        · skip
          show aw_W _ _ _ _ (23, [some (.ref 0), some (.int 1), some (.int s), some (.int n)], []) (ae_en σ α z t0 ts)
          refine aw_go 3 rfl ⟨trivial, trivial, trivial, trivial⟩ ?_
          refine aw_br (c := n ≤ 40) (fun h25 => ?_) (fun h25 => ?_)
          · skip
            show aw_W _ _ _ _ (28, [some (.ref 0), some (.int 1), some (.int s), some (.int n)], []) (ae_en σ α z t0 ts)
            refine aw_go 2 rfl ⟨trivial, trivial, trivial⟩ ?_
            refine aw_br (c := (0 : Int32) ≤ n) (fun h29 => ?_) (fun h29 => ?_)
            · skip
              show aw_W _ _ _ _ (32, [some (.ref 0), some (.int 1), some (.int s), some (.int n)], []) (ae_en σ α z t0 ts)
              refine aw_go 6 rfl ⟨trivial, trivial, trivial, (cI_in (a := 1) rfl (by omega) (by decide)), trivial, trivial, trivial⟩ ?_
              show aw_W _ _ _ _ (38, [some (.ref 0), some (.int 1), some (.int s), some (.int n)], [.int n, .int s, .ref 37]) (ae_en σ α z t0 ts)
              refine aw_call rfl rfl (ev_become_1 (s := s) (n := n)) ?_
              rintro _ _ ⟨rfl, rfl⟩
              show aw_W _ _ _ _ (39, [some (.ref 0), some (.int 1), some (.int s), some (.int n)], []) (ae_en (au σ [(20, s), (21, n)]) (au α [(28, fC 40 (fun _ => 0) (α 28))]) z t0 ts)
              refine aw_go 1 rfl ⟨trivial, trivial⟩ ?_
              refine aw_ret rfl rfl trivial ?_
              rw [pSheet, if_neg (fun q => q.elim h5 (Int32.not_lt.mpr h8)), if_neg h13, if_neg (Int32.not_lt.mpr h25), if_neg (Int32.not_lt.mpr h29)]
              exact ⟨rfl, rfl⟩
            · skip
              show aw_W _ _ _ _ (30, [some (.ref 0), some (.int 1), some (.int s), some (.int n)], []) (ae_en σ α z t0 ts)
              refine aw_go 1 rfl ⟨trivial, trivial⟩ ?_
              refine aw_ret rfl rfl trivial ?_
              rw [pSheet, if_neg (fun q => q.elim h5 (Int32.not_lt.mpr h8)), if_neg h13, if_neg (Int32.not_lt.mpr h25), if_pos (Int32.not_le.mp h29)]
              exact ⟨rfl, rfl⟩
          · skip
            show aw_W _ _ _ _ (26, [some (.ref 0), some (.int 1), some (.int s), some (.int n)], []) (ae_en σ α z t0 ts)
            refine aw_go 1 rfl ⟨trivial, trivial⟩ ?_
            refine aw_ret rfl rfl trivial ?_
            rw [pSheet, if_neg (fun q => q.elim h5 (Int32.not_lt.mpr h8)), if_neg h13, if_pos (Int32.not_le.mp h25)]
            exact ⟨rfl, rfl⟩
        · skip
          have h13 := Classical.not_not.mp h13
          show aw_W _ _ _ _ (14, [some (.ref 0), some (.int 1), some (.int s), some (.int n)], []) (ae_en σ α z t0 ts)
          refine aw_go 6 rfl ⟨trivial, trivial, trivial, (cI_in (a := 1) rfl (by omega) (by decide)), trivial, trivial, trivial⟩ ?_
          show aw_W _ _ _ _ (20, [some (.ref 0), some (.int 1), some (.int s), some (.int n)], [.int 0, .int (-1), .ref 37]) (ae_en σ α z t0 ts)
          refine aw_call rfl rfl (ev_become_1 (s := (-1)) (n := 0)) ?_
          rintro _ _ ⟨rfl, rfl⟩
          show aw_W _ _ _ _ (21, [some (.ref 0), some (.int 1), some (.int s), some (.int n)], []) (ae_en (au σ [(20, (-1)), (21, 0)]) (au α [(28, fC 40 (fun _ => 0) (α 28))]) z t0 ts)
          refine aw_go 1 rfl ⟨trivial, trivial⟩ ?_
          refine aw_ret rfl rfl trivial ?_
          rw [pSheet, if_neg (fun q => q.elim h5 (Int32.not_lt.mpr h8)), if_pos h13]
          exact ⟨rfl, rfl⟩
      · skip
        show aw_W _ _ _ _ (9, [some (.ref 0), some (.int 1), some (.int s), some (.int n)], []) (ae_en σ α z t0 ts)
        refine aw_go 1 rfl ⟨trivial, trivial⟩ ?_
        refine aw_ret rfl rfl trivial ?_
        rw [pSheet, if_pos (Or.inr (Int32.not_le.mp h8))]
        exact ⟨rfl, rfl⟩
theorem ev_cell_1 {m : Nat} {i v : Int32} {zd : Nat} (hm : ¬ σ 20 = -1 → σ 21 = nI m) (hm40 : m ≤ 40) : aw_X P (zd + 2) 31 [.ref 0, .int 1, .int i, .int v] (ae_en σ α z t0 ts) (fun r H => r = some (.int ((pCell m (σ 20) (α 28) i v).1)) ∧ H = (ae_en σ (au α [(28, (pCell m (σ 20) (α 28) i v).2)]) z t0 ts)) := by
  refine aw_ev (cd := cd_Dried_cell) rfl rfl rfl ?_
  show aw_W _ _ _ _ (0, [some (.ref 0), some (.int 1), some (.int i), some (.int v), none], []) (ae_en σ α z t0 ts)
  refine aw_go 1 rfl ⟨trivial, trivial⟩ ?_
  refine aw_callE rfl rfl (ev_Dried_isSheet (s := 1)) ?_
  show aw_W _ _ _ _ (2, [some (.ref 0), some (.int 1), some (.int i), some (.int v), none], [.int (bI (iP 4 1))]) (ae_en σ α z t0 ts)
  refine aw_go 1 rfl ⟨trivial, trivial⟩ ?_
  refine aw_br (c := ¬ (bI (iP 4 1)) = 0) (fun h2 => ?_) (fun h2 => ?_)
  · skip
    have h2 := bI_t h2
    show aw_W _ _ _ _ (5, [some (.ref 0), some (.int 1), some (.int i), some (.int v), none], []) (ae_en σ α z t0 ts)
    refine aw_go 9 rfl ⟨trivial, trivial, trivial, (cI_in (a := 1) rfl (by omega) (by decide)), trivial, trivial, trivial, trivial, trivial, trivial⟩ ?_
    show aw_W _ _ _ _ (if ¬ (σ 20) = (-1) then 16 else 14, [some (.ref 0), some (.int 1), some (.int i), some (.int v), some (.ref 37)], []) (ae_en σ α z t0 ts)
    refine aw_br (c := ¬ (σ 20) = (-1)) (fun h13 => ?_) (fun h13 => ?_)
    · skip
      show aw_W _ _ _ _ (16, [some (.ref 0), some (.int 1), some (.int i), some (.int v), some (.ref 37)], []) (ae_en σ α z t0 ts)
      refine aw_go 3 rfl ⟨trivial, trivial, trivial, trivial⟩ ?_
      refine aw_callE rfl rfl (ev_holds_1 (i := i) (n := 1) (hm h13) hm40) ?_
      show aw_W _ _ _ _ (20, [some (.ref 0), some (.int 1), some (.int i), some (.int v), some (.ref 37)], [.int (bI (hHo m i 1))]) (ae_en σ α z t0 ts)
      refine aw_go 1 rfl ⟨trivial, trivial⟩ ?_
      refine aw_br (c := ¬ (bI (hHo m i 1)) = 0) (fun h20 => ?_) (fun h20 => ?_)
      · skip
        have h20 := bI_t h20
        show aw_W _ _ _ _ (23, [some (.ref 0), some (.int 1), some (.int i), some (.int v), some (.ref 37)], []) (ae_en σ α z t0 ts)
        obtain ⟨a, ha, rfl⟩ := nI_of h20.2.1
        have q := h20.2.2
        rw [nI_clamp ha, show (1 : Int32).toNatClampNeg = 1 from rfl] at q
        refine aw_go 3 rfl ⟨trivial, trivial, trivial, trivial⟩ ?_
        refine aw_call rfl rfl (ev_put_1 (i := a) (v := v) (by omega)) ?_
        rintro _ _ ⟨rfl, rfl⟩
        show aw_W _ _ _ _ (27, [some (.ref 0), some (.int 1), some (.int (nI a)), some (.int v), some (.ref 37)], []) (ae_en σ (au α [(28, upd (α 28) a (cSt (σ 20) v))]) z t0 ts)
        refine aw_go 1 rfl ⟨trivial, trivial⟩ ?_
        refine aw_ret rfl rfl trivial ?_
        rw [pCell, if_neg h13, if_pos (iP_nI (by omega) (by omega)), nI_clamp ha]
        exact ⟨rfl, rfl⟩
      · skip
        have h20 := bI_f (Classical.not_not.mp h20)
        show aw_W _ _ _ _ (21, [some (.ref 0), some (.int 1), some (.int i), some (.int v), some (.ref 37)], []) (ae_en σ α z t0 ts)
        refine aw_go 1 rfl ⟨trivial, trivial⟩ ?_
        refine aw_ret rfl rfl trivial ?_
        rw [pCell, if_neg h13, if_neg (fun q => h20 ⟨by decide, q.1, by have := q.2; rw [show (1 : Int32).toNatClampNeg = 1 from rfl]; omega⟩)]
        exact ⟨rfl, rfl⟩
    · skip
      have h13 := Classical.not_not.mp h13
      show aw_W _ _ _ _ (14, [some (.ref 0), some (.int 1), some (.int i), some (.int v), some (.ref 37)], []) (ae_en σ α z t0 ts)
      refine aw_go 1 rfl ⟨trivial, trivial⟩ ?_
      refine aw_ret rfl rfl trivial ?_
      rw [pCell, if_pos h13]
      exact ⟨rfl, rfl⟩
  · skip
    have h2 := bI_f (Classical.not_not.mp h2)
    show aw_W _ _ _ _ (3, [some (.ref 0), some (.int 1), some (.int i), some (.int v), none], []) (ae_en σ α z t0 ts)
    exact absurd h2 (by decide)
theorem lp_become_2 {zd : Nat} {s n : Int32} (k : Nat) (hk : k ≤ 40) : aw_W P (zd) cd_Sheet_become (fun r H => r = none ∧ H = (ae_en (au σ [(22, s), (23, n)]) (au α [(29, fC 40 (fun _ => 0) (α 29))]) z t0 ts)) (8, [some (.ref 39), some (.int s), some (.int n), some (.int (nI k))], []) (ae_en (au σ [(22, s), (23, n)]) (au α [(29, fC k (fun _ => 0) (α 29))]) z t0 ts) := by
  refine aw_go 3 rfl ⟨trivial, trivial, trivial, trivial⟩ ?_
  refine aw_br (c := (40 : Int32) ≤ (nI k)) (fun h10 => ?_) (fun h10 => ?_)
  · skip
    have h10 := cI_leT (a := 40) (b := k) rfl rfl (by omega) (by omega) h10
    show aw_W _ _ _ _ (18, [some (.ref 39), some (.int s), some (.int n), some (.int (nI k))], []) (ae_en (au σ [(22, s), (23, n)]) (au α [(29, fC k (fun _ => 0) (α 29))]) z t0 ts)
    have e8 : k = 40 := by omega
    refine aw_ret rfl rfl trivial ?_
    rw [e8]
    exact ⟨rfl, rfl⟩
  · skip
    have h10 := cI_leF (a := 40) (b := k) rfl rfl (by omega) (by omega) h10
    show aw_W _ _ _ _ (11, [some (.ref 39), some (.int s), some (.int n), some (.int (nI k))], []) (ae_en (au σ [(22, s), (23, n)]) (au α [(29, fC k (fun _ => 0) (α 29))]) z t0 ts)
    refine aw_go 7 rfl ⟨trivial, trivial, trivial, trivial, (cI_in (a := k) rfl (by omega) (by decide)), trivial, trivial, trivial⟩ ?_
    show aw_W _ _ _ _ (8, [some (.ref 39), some (.int s), some (.int n), some (.int ((nI k) + 1))], []) (ae_en (au σ [(22, s), (23, n)]) (au α [(29, upd (fC k (fun _ => 0) (α 29)) (nI k).toNatClampNeg 0)]) z t0 ts)
    rw [show (nI k).toNatClampNeg = k from cI_cl (a := k) rfl (by omega)]
    rw [show (nI k) + 1 = nI (k + 1) from (cI_add (a := k) (b := 1) rfl rfl)]
    rw [fC_s (X := fun _ => 0) rfl]
    exact lp_become_2 (k + 1) (by omega)
termination_by 40 - k
decreasing_by all_goals omega
theorem ev_become_2 {s n : Int32} {zd : Nat}  : aw_X P (zd + 1) 94 [.ref 39, .int s, .int n] (ae_en σ α z t0 ts) (fun r H => r = none ∧ H = (ae_en (au σ [(22, s), (23, n)]) (au α [(29, fC 40 (fun _ => 0) (α 29))]) z t0 ts)) := by
  refine aw_ev (cd := cd_Sheet_become) rfl rfl rfl ?_
  show aw_W _ _ _ _ (0, [some (.ref 39), some (.int s), some (.int n), none], []) (ae_en σ α z t0 ts)
  refine aw_go 8 rfl ⟨trivial, trivial, trivial, trivial, trivial, trivial, trivial, trivial, trivial⟩ ?_
  show aw_W _ _ _ _ (8, [some (.ref 39), some (.int s), some (.int n), some (.int 0)], []) (ae_en (au σ [(22, s), (23, n)]) α z t0 ts)
  exact aw_to (lp_become_2 0 (by decide)) rfl (by rw [fC_0]; rfl)
theorem ev_holds_2 {m : Nat} {i n : Int32} {zd : Nat} (hm : σ 23 = nI m) (hm40 : m ≤ 40) : ae_Ev P (zd + 1) 95 [.ref 39, .int i, .int n] (ae_en σ α z t0 ts) (some (.int (bI (hHo m i n)))) (ae_en σ α z t0 ts) := by
  refine aw_evE (cd := cd_Sheet_holds) rfl rfl rfl ?_
  show aw_W _ _ _ _ (0, [some (.ref 39), some (.int i), some (.int n)], []) (ae_en σ α z t0 ts)
  refine aw_go 2 rfl ⟨trivial, trivial, trivial⟩ ?_
  refine aw_br (c := n < 0) (fun h1 => ?_) (fun h1 => ?_)
  · skip
    show aw_W _ _ _ _ (16, [some (.ref 39), some (.int i), some (.int n)], []) (ae_en σ α z t0 ts)
    refine aw_go 1 rfl ⟨trivial, trivial⟩ ?_
    refine aw_ret rfl rfl (by first | exact Or.inl rfl | exact Or.inr rfl | exact bI_b _) ?_
    refine ⟨?_, rfl⟩
    exact congrArg (fun q => some (Value.int q)) (bI_0 (fun q => q.1 h1))
  · skip
    show aw_W _ _ _ _ (2, [some (.ref 39), some (.int i), some (.int n)], []) (ae_en σ α z t0 ts)
    refine aw_go 2 rfl ⟨trivial, trivial, trivial⟩ ?_
    refine aw_br (c := i < 0) (fun h3 => ?_) (fun h3 => ?_)
    · skip
      show aw_W _ _ _ _ (16, [some (.ref 39), some (.int i), some (.int n)], []) (ae_en σ α z t0 ts)
      refine aw_go 1 rfl ⟨trivial, trivial⟩ ?_
      refine aw_ret rfl rfl (by first | exact Or.inl rfl | exact Or.inr rfl | exact bI_b _) ?_
      refine ⟨?_, rfl⟩
      exact congrArg (fun q => some (Value.int q)) (bI_0 (fun q => q.2.1 h3))
    · skip
      show aw_W _ _ _ _ (4, [some (.ref 39), some (.int i), some (.int n)], []) (ae_en σ α z t0 ts)
      refine aw_go 4 rfl ⟨trivial, trivial, trivial, trivial, trivial⟩ ?_
      show aw_W _ _ _ _ (if (σ 23) < i then 16 else 8, [some (.ref 39), some (.int i), some (.int n)], []) (ae_en σ α z t0 ts)
      refine aw_br (c := (σ 23) < i) (fun h7 => ?_) (fun h7 => ?_)
      · skip
        show aw_W _ _ _ _ (16, [some (.ref 39), some (.int i), some (.int n)], []) (ae_en σ α z t0 ts)
        refine aw_go 1 rfl ⟨trivial, trivial⟩ ?_
        refine aw_ret rfl rfl (by first | exact Or.inl rfl | exact Or.inr rfl | exact bI_b _) ?_
        refine ⟨?_, rfl⟩
        exact congrArg (fun q => some (Value.int q)) (bI_0 (fun q => by
          obtain ⟨a, ha, rfl⟩ := nI_of h3
          obtain ⟨b, hb, rfl⟩ := nI_of h1
          have := q.2.2
          rw [nI_clamp ha, nI_clamp hb] at this
          rw [hm, nI_ltI (by omega) (by omega)] at h7
          omega))
      · skip
        show aw_W _ _ _ _ (8, [some (.ref 39), some (.int i), some (.int n)], []) (ae_en σ α z t0 ts)
        have q8 := Int32.not_lt.mp h7
        obtain ⟨a, ha, rfl⟩ := nI_of h3
        obtain ⟨b, hb, rfl⟩ := nI_of h1
        rw [hm, nI_leI (by omega) (by omega)] at q8
        refine aw_go 6 rfl ⟨trivial, trivial, trivial, trivial, trivial, trivial, trivial⟩ ?_
        show aw_W _ _ _ _ (if ((σ 23) - (nI a)) < (nI b) then 16 else 14, [some (.ref 39), some (.int (nI a)), some (.int (nI b))], []) (ae_en σ α z t0 ts)
        refine aw_br (c := ((σ 23) - (nI a)) < (nI b)) (fun h13 => ?_) (fun h13 => ?_)
        · skip
          show aw_W _ _ _ _ (16, [some (.ref 39), some (.int (nI a)), some (.int (nI b))], []) (ae_en σ α z t0 ts)
          have q9 := h13
          rw [hm, cI_sub rfl rfl q8, nI_ltI (by omega) (by omega)] at q9
          refine aw_go 1 rfl ⟨trivial, trivial⟩ ?_
          refine aw_ret rfl rfl (by first | exact Or.inl rfl | exact Or.inr rfl | exact bI_b _) ?_
          refine ⟨?_, rfl⟩
          exact congrArg (fun q => some (Value.int q)) (bI_0 (fun q => by
            have := q.2.2
            rw [nI_clamp ha, nI_clamp hb] at this
            omega))
        · skip
          show aw_W _ _ _ _ (14, [some (.ref 39), some (.int (nI a)), some (.int (nI b))], []) (ae_en σ α z t0 ts)
          have q9 := Int32.not_lt.mp h13
          rw [hm, cI_sub rfl rfl q8, nI_leI (by omega) (by omega)] at q9
          refine aw_go 2 rfl ⟨trivial, trivial, trivial⟩ ?_
          refine aw_ret rfl rfl (by first | exact Or.inl rfl | exact Or.inr rfl | exact bI_b _) ?_
          refine ⟨?_, rfl⟩
          exact congrArg (fun q => some (Value.int q)) (bI_1 ⟨h1, h3, by rw [nI_clamp ha, nI_clamp hb]; omega⟩)
theorem ev_put_2 {i : Nat} {v : Int32} {zd : Nat} (hi : i < 40) : aw_X P (zd + 1) 96 [.ref 39, .int (nI i), .int v] (ae_en σ α z t0 ts) (fun r H => r = none ∧ H = (ae_en σ (au α [(29, upd (α 29) i (cSt (σ 22) v))]) z t0 ts)) := by
  refine aw_ev (cd := cd_Sheet_put) rfl rfl rfl ?_
  show aw_W _ _ _ _ (0, [some (.ref 39), some (.int (nI i)), some (.int v)], []) (ae_en σ α z t0 ts)
  refine aw_go 6 rfl ⟨trivial, trivial, trivial, trivial, trivial, trivial, trivial⟩ ?_
  show aw_W _ _ _ _ (if ¬ (σ 22) = 0 then 9 else 6, [some (.ref 39), some (.int (nI i)), some (.int v)], [.int (nI i), .ref 40]) (ae_en σ α z t0 ts)
  refine aw_br (c := ¬ (σ 22) = 0) (fun h5 => ?_) (fun h5 => ?_)
  · skip
    show aw_W _ _ _ _ (9, [some (.ref 39), some (.int (nI i)), some (.int v)], [.int (nI i), .ref 40]) (ae_en σ α z t0 ts)
    refine aw_go 4 rfl ⟨trivial, trivial, trivial, trivial, trivial⟩ ?_
    show aw_W _ _ _ _ (if ¬ (σ 22) = 1 then 16 else 13, [some (.ref 39), some (.int (nI i)), some (.int v)], [.int (nI i), .ref 40]) (ae_en σ α z t0 ts)
    refine aw_br (c := ¬ (σ 22) = 1) (fun h12 => ?_) (fun h12 => ?_)
    · skip
      show aw_W _ _ _ _ (16, [some (.ref 39), some (.int (nI i)), some (.int v)], [.int (nI i), .ref 40]) (ae_en σ α z t0 ts)
      refine aw_go 2 rfl ⟨trivial, (cI_in (a := i) rfl (by omega) (by decide)), trivial⟩ ?_
      show aw_W _ _ _ _ (18, [some (.ref 39), some (.int (nI i)), some (.int v)], []) (ae_en σ (au α [(29, upd (α 29) (nI i).toNatClampNeg v)]) z t0 ts)
      rw [show (nI i).toNatClampNeg = i from cI_cl (a := i) rfl (by omega)]
      refine aw_ret rfl rfl trivial ?_
      refine ⟨rfl, ?_⟩
      rw [cSt, if_neg h5, if_neg h12]
    · skip
      have h12 := Classical.not_not.mp h12
      show aw_W _ _ _ _ (13, [some (.ref 39), some (.int (nI i)), some (.int v)], [.int (nI i), .ref 40]) (ae_en σ α z t0 ts)
      refine aw_go 4 rfl ⟨trivial, trivial, trivial, (cI_in (a := i) rfl (by omega) (by decide)), trivial⟩ ?_
      show aw_W _ _ _ _ (18, [some (.ref 39), some (.int (nI i)), some (.int v)], []) (ae_en σ (au α [(29, upd (α 29) (nI i).toNatClampNeg v.toInt16.toInt32)]) z t0 ts)
      rw [show (nI i).toNatClampNeg = i from cI_cl (a := i) rfl (by omega)]
      refine aw_ret rfl rfl trivial ?_
      refine ⟨rfl, ?_⟩
      rw [cSt, if_neg h5, if_pos h12]
  · skip
    have h5 := Classical.not_not.mp h5
    show aw_W _ _ _ _ (6, [some (.ref 39), some (.int (nI i)), some (.int v)], [.int (nI i), .ref 40]) (ae_en σ α z t0 ts)
    refine aw_go 4 rfl ⟨trivial, trivial, trivial, (cI_in (a := i) rfl (by omega) (by decide)), trivial⟩ ?_
    show aw_W _ _ _ _ (18, [some (.ref 39), some (.int (nI i)), some (.int v)], []) (ae_en σ (au α [(29, upd (α 29) (nI i).toNatClampNeg v.toInt8.toInt32)]) z t0 ts)
    rw [show (nI i).toNatClampNeg = i from cI_cl (a := i) rfl (by omega)]
    refine aw_ret rfl rfl trivial ?_
    refine ⟨rfl, ?_⟩
    rw [cSt, if_pos h5]
theorem ev_sheet_2 {s n : Int32} {zd : Nat}  : aw_X P (zd + 2) 30 [.ref 0, .int 2, .int s, .int n] (ae_en σ α z t0 ts) (fun r H => r = some (.int ((pSheet s n (σ 22, σ 23, α 29)).1)) ∧ H = (ae_en (au σ [(22, (pSheet s n (σ 22, σ 23, α 29)).2.1), (23, (pSheet s n (σ 22, σ 23, α 29)).2.2.1)]) (au α [(29, (pSheet s n (σ 22, σ 23, α 29)).2.2.2)]) z t0 ts)) := by
  refine aw_ev (cd := cd_Dried_sheet) rfl rfl rfl ?_
  show aw_W _ _ _ _ (0, [some (.ref 0), some (.int 2), some (.int s), some (.int n)], []) (ae_en σ α z t0 ts)
  refine aw_go 1 rfl ⟨trivial, trivial⟩ ?_
  refine aw_callE rfl rfl (ev_Dried_isSheet (s := 2)) ?_
  show aw_W _ _ _ _ (2, [some (.ref 0), some (.int 2), some (.int s), some (.int n)], [.int (bI (iP 4 2))]) (ae_en σ α z t0 ts)
  refine aw_go 1 rfl ⟨trivial, trivial⟩ ?_
  refine aw_br (c := (bI (iP 4 2)) = 0) (fun h2 => ?_) (fun h2 => ?_)
  · skip
    have h2 := bI_f h2
    show aw_W _ _ _ _ (9, [some (.ref 0), some (.int 2), some (.int s), some (.int n)], []) (ae_en σ α z t0 ts)
    exact absurd h2 (by decide)
  · skip
    have h2 := bI_t h2
    show aw_W _ _ _ _ (3, [some (.ref 0), some (.int 2), some (.int s), some (.int n)], []) (ae_en σ α z t0 ts)
    refine aw_go 3 rfl ⟨trivial, trivial, trivial, trivial⟩ ?_
    refine aw_br (c := s < (-1)) (fun h5 => ?_) (fun h5 => ?_)
    · skip
      show aw_W _ _ _ _ (9, [some (.ref 0), some (.int 2), some (.int s), some (.int n)], []) (ae_en σ α z t0 ts)
      refine aw_go 1 rfl ⟨trivial, trivial⟩ ?_
      refine aw_ret rfl rfl trivial ?_
      rw [pSheet, if_pos (Or.inl h5)]
      exact ⟨rfl, rfl⟩
    · skip
      show aw_W _ _ _ _ (6, [some (.ref 0), some (.int 2), some (.int s), some (.int n)], []) (ae_en σ α z t0 ts)
      refine aw_go 3 rfl ⟨trivial, trivial, trivial, trivial⟩ ?_
      refine aw_br (c := s ≤ 2) (fun h8 => ?_) (fun h8 => ?_)
      · skip
        show aw_W _ _ _ _ (11, [some (.ref 0), some (.int 2), some (.int s), some (.int n)], []) (ae_en σ α z t0 ts)
        refine aw_go 3 rfl ⟨trivial, trivial, trivial, trivial⟩ ?_
        refine aw_br (c := ¬ s = (-1)) (fun h13 => ?_) (fun h13 => ?_)
        · skip
          show aw_W _ _ _ _ (23, [some (.ref 0), some (.int 2), some (.int s), some (.int n)], []) (ae_en σ α z t0 ts)
          refine aw_go 3 rfl ⟨trivial, trivial, trivial, trivial⟩ ?_
          refine aw_br (c := n ≤ 40) (fun h25 => ?_) (fun h25 => ?_)
          · skip
            show aw_W _ _ _ _ (28, [some (.ref 0), some (.int 2), some (.int s), some (.int n)], []) (ae_en σ α z t0 ts)
            refine aw_go 2 rfl ⟨trivial, trivial, trivial⟩ ?_
            refine aw_br (c := (0 : Int32) ≤ n) (fun h29 => ?_) (fun h29 => ?_)
            · skip
              show aw_W _ _ _ _ (32, [some (.ref 0), some (.int 2), some (.int s), some (.int n)], []) (ae_en σ α z t0 ts)
              refine aw_go 6 rfl ⟨trivial, trivial, trivial, (cI_in (a := 2) rfl (by omega) (by decide)), trivial, trivial, trivial⟩ ?_
              show aw_W _ _ _ _ (38, [some (.ref 0), some (.int 2), some (.int s), some (.int n)], [.int n, .int s, .ref 39]) (ae_en σ α z t0 ts)
              refine aw_call rfl rfl (ev_become_2 (s := s) (n := n)) ?_
              rintro _ _ ⟨rfl, rfl⟩
              show aw_W _ _ _ _ (39, [some (.ref 0), some (.int 2), some (.int s), some (.int n)], []) (ae_en (au σ [(22, s), (23, n)]) (au α [(29, fC 40 (fun _ => 0) (α 29))]) z t0 ts)
              refine aw_go 1 rfl ⟨trivial, trivial⟩ ?_
              refine aw_ret rfl rfl trivial ?_
              rw [pSheet, if_neg (fun q => q.elim h5 (Int32.not_lt.mpr h8)), if_neg h13, if_neg (Int32.not_lt.mpr h25), if_neg (Int32.not_lt.mpr h29)]
              exact ⟨rfl, rfl⟩
            · skip
              show aw_W _ _ _ _ (30, [some (.ref 0), some (.int 2), some (.int s), some (.int n)], []) (ae_en σ α z t0 ts)
              refine aw_go 1 rfl ⟨trivial, trivial⟩ ?_
              refine aw_ret rfl rfl trivial ?_
              rw [pSheet, if_neg (fun q => q.elim h5 (Int32.not_lt.mpr h8)), if_neg h13, if_neg (Int32.not_lt.mpr h25), if_pos (Int32.not_le.mp h29)]
              exact ⟨rfl, rfl⟩
          · skip
            show aw_W _ _ _ _ (26, [some (.ref 0), some (.int 2), some (.int s), some (.int n)], []) (ae_en σ α z t0 ts)
            refine aw_go 1 rfl ⟨trivial, trivial⟩ ?_
            refine aw_ret rfl rfl trivial ?_
            rw [pSheet, if_neg (fun q => q.elim h5 (Int32.not_lt.mpr h8)), if_neg h13, if_pos (Int32.not_le.mp h25)]
            exact ⟨rfl, rfl⟩
        · skip
          have h13 := Classical.not_not.mp h13
          show aw_W _ _ _ _ (14, [some (.ref 0), some (.int 2), some (.int s), some (.int n)], []) (ae_en σ α z t0 ts)
          refine aw_go 6 rfl ⟨trivial, trivial, trivial, (cI_in (a := 2) rfl (by omega) (by decide)), trivial, trivial, trivial⟩ ?_
          show aw_W _ _ _ _ (20, [some (.ref 0), some (.int 2), some (.int s), some (.int n)], [.int 0, .int (-1), .ref 39]) (ae_en σ α z t0 ts)
          refine aw_call rfl rfl (ev_become_2 (s := (-1)) (n := 0)) ?_
          rintro _ _ ⟨rfl, rfl⟩
          show aw_W _ _ _ _ (21, [some (.ref 0), some (.int 2), some (.int s), some (.int n)], []) (ae_en (au σ [(22, (-1)), (23, 0)]) (au α [(29, fC 40 (fun _ => 0) (α 29))]) z t0 ts)
          refine aw_go 1 rfl ⟨trivial, trivial⟩ ?_
          refine aw_ret rfl rfl trivial ?_
          rw [pSheet, if_neg (fun q => q.elim h5 (Int32.not_lt.mpr h8)), if_pos h13]
          exact ⟨rfl, rfl⟩
      · skip
        show aw_W _ _ _ _ (9, [some (.ref 0), some (.int 2), some (.int s), some (.int n)], []) (ae_en σ α z t0 ts)
        refine aw_go 1 rfl ⟨trivial, trivial⟩ ?_
        refine aw_ret rfl rfl trivial ?_
        rw [pSheet, if_pos (Or.inr (Int32.not_le.mp h8))]
        exact ⟨rfl, rfl⟩
theorem ev_cell_2 {m : Nat} {i v : Int32} {zd : Nat} (hm : ¬ σ 22 = -1 → σ 23 = nI m) (hm40 : m ≤ 40) : aw_X P (zd + 2) 31 [.ref 0, .int 2, .int i, .int v] (ae_en σ α z t0 ts) (fun r H => r = some (.int ((pCell m (σ 22) (α 29) i v).1)) ∧ H = (ae_en σ (au α [(29, (pCell m (σ 22) (α 29) i v).2)]) z t0 ts)) := by
  refine aw_ev (cd := cd_Dried_cell) rfl rfl rfl ?_
  show aw_W _ _ _ _ (0, [some (.ref 0), some (.int 2), some (.int i), some (.int v), none], []) (ae_en σ α z t0 ts)
  refine aw_go 1 rfl ⟨trivial, trivial⟩ ?_
  refine aw_callE rfl rfl (ev_Dried_isSheet (s := 2)) ?_
  show aw_W _ _ _ _ (2, [some (.ref 0), some (.int 2), some (.int i), some (.int v), none], [.int (bI (iP 4 2))]) (ae_en σ α z t0 ts)
  refine aw_go 1 rfl ⟨trivial, trivial⟩ ?_
  refine aw_br (c := ¬ (bI (iP 4 2)) = 0) (fun h2 => ?_) (fun h2 => ?_)
  · skip
    have h2 := bI_t h2
    show aw_W _ _ _ _ (5, [some (.ref 0), some (.int 2), some (.int i), some (.int v), none], []) (ae_en σ α z t0 ts)
    refine aw_go 9 rfl ⟨trivial, trivial, trivial, (cI_in (a := 2) rfl (by omega) (by decide)), trivial, trivial, trivial, trivial, trivial, trivial⟩ ?_
    show aw_W _ _ _ _ (if ¬ (σ 22) = (-1) then 16 else 14, [some (.ref 0), some (.int 2), some (.int i), some (.int v), some (.ref 39)], []) (ae_en σ α z t0 ts)
    refine aw_br (c := ¬ (σ 22) = (-1)) (fun h13 => ?_) (fun h13 => ?_)
    · skip
      show aw_W _ _ _ _ (16, [some (.ref 0), some (.int 2), some (.int i), some (.int v), some (.ref 39)], []) (ae_en σ α z t0 ts)
      refine aw_go 3 rfl ⟨trivial, trivial, trivial, trivial⟩ ?_
      refine aw_callE rfl rfl (ev_holds_2 (i := i) (n := 1) (hm h13) hm40) ?_
      show aw_W _ _ _ _ (20, [some (.ref 0), some (.int 2), some (.int i), some (.int v), some (.ref 39)], [.int (bI (hHo m i 1))]) (ae_en σ α z t0 ts)
      refine aw_go 1 rfl ⟨trivial, trivial⟩ ?_
      refine aw_br (c := ¬ (bI (hHo m i 1)) = 0) (fun h20 => ?_) (fun h20 => ?_)
      · skip
        have h20 := bI_t h20
        show aw_W _ _ _ _ (23, [some (.ref 0), some (.int 2), some (.int i), some (.int v), some (.ref 39)], []) (ae_en σ α z t0 ts)
        obtain ⟨a, ha, rfl⟩ := nI_of h20.2.1
        have q := h20.2.2
        rw [nI_clamp ha, show (1 : Int32).toNatClampNeg = 1 from rfl] at q
        refine aw_go 3 rfl ⟨trivial, trivial, trivial, trivial⟩ ?_
        refine aw_call rfl rfl (ev_put_2 (i := a) (v := v) (by omega)) ?_
        rintro _ _ ⟨rfl, rfl⟩
        show aw_W _ _ _ _ (27, [some (.ref 0), some (.int 2), some (.int (nI a)), some (.int v), some (.ref 39)], []) (ae_en σ (au α [(29, upd (α 29) a (cSt (σ 22) v))]) z t0 ts)
        refine aw_go 1 rfl ⟨trivial, trivial⟩ ?_
        refine aw_ret rfl rfl trivial ?_
        rw [pCell, if_neg h13, if_pos (iP_nI (by omega) (by omega)), nI_clamp ha]
        exact ⟨rfl, rfl⟩
      · skip
        have h20 := bI_f (Classical.not_not.mp h20)
        show aw_W _ _ _ _ (21, [some (.ref 0), some (.int 2), some (.int i), some (.int v), some (.ref 39)], []) (ae_en σ α z t0 ts)
        refine aw_go 1 rfl ⟨trivial, trivial⟩ ?_
        refine aw_ret rfl rfl trivial ?_
        rw [pCell, if_neg h13, if_neg (fun q => h20 ⟨by decide, q.1, by have := q.2; rw [show (1 : Int32).toNatClampNeg = 1 from rfl]; omega⟩)]
        exact ⟨rfl, rfl⟩
    · skip
      have h13 := Classical.not_not.mp h13
      show aw_W _ _ _ _ (14, [some (.ref 0), some (.int 2), some (.int i), some (.int v), some (.ref 39)], []) (ae_en σ α z t0 ts)
      refine aw_go 1 rfl ⟨trivial, trivial⟩ ?_
      refine aw_ret rfl rfl trivial ?_
      rw [pCell, if_pos h13]
      exact ⟨rfl, rfl⟩
  · skip
    have h2 := bI_f (Classical.not_not.mp h2)
    show aw_W _ _ _ _ (3, [some (.ref 0), some (.int 2), some (.int i), some (.int v), none], []) (ae_en σ α z t0 ts)
    exact absurd h2 (by decide)
theorem lp_become_3 {zd : Nat} {s n : Int32} (k : Nat) (hk : k ≤ 40) : aw_W P (zd) cd_Sheet_become (fun r H => r = none ∧ H = (ae_en (au σ [(24, s), (25, n)]) (au α [(30, fC 40 (fun _ => 0) (α 30))]) z t0 ts)) (8, [some (.ref 41), some (.int s), some (.int n), some (.int (nI k))], []) (ae_en (au σ [(24, s), (25, n)]) (au α [(30, fC k (fun _ => 0) (α 30))]) z t0 ts) := by
  refine aw_go 3 rfl ⟨trivial, trivial, trivial, trivial⟩ ?_
  refine aw_br (c := (40 : Int32) ≤ (nI k)) (fun h10 => ?_) (fun h10 => ?_)
  · skip
    have h10 := cI_leT (a := 40) (b := k) rfl rfl (by omega) (by omega) h10
    show aw_W _ _ _ _ (18, [some (.ref 41), some (.int s), some (.int n), some (.int (nI k))], []) (ae_en (au σ [(24, s), (25, n)]) (au α [(30, fC k (fun _ => 0) (α 30))]) z t0 ts)
    have e8 : k = 40 := by omega
    refine aw_ret rfl rfl trivial ?_
    rw [e8]
    exact ⟨rfl, rfl⟩
  · skip
    have h10 := cI_leF (a := 40) (b := k) rfl rfl (by omega) (by omega) h10
    show aw_W _ _ _ _ (11, [some (.ref 41), some (.int s), some (.int n), some (.int (nI k))], []) (ae_en (au σ [(24, s), (25, n)]) (au α [(30, fC k (fun _ => 0) (α 30))]) z t0 ts)
    refine aw_go 7 rfl ⟨trivial, trivial, trivial, trivial, (cI_in (a := k) rfl (by omega) (by decide)), trivial, trivial, trivial⟩ ?_
    show aw_W _ _ _ _ (8, [some (.ref 41), some (.int s), some (.int n), some (.int ((nI k) + 1))], []) (ae_en (au σ [(24, s), (25, n)]) (au α [(30, upd (fC k (fun _ => 0) (α 30)) (nI k).toNatClampNeg 0)]) z t0 ts)
    rw [show (nI k).toNatClampNeg = k from cI_cl (a := k) rfl (by omega)]
    rw [show (nI k) + 1 = nI (k + 1) from (cI_add (a := k) (b := 1) rfl rfl)]
    rw [fC_s (X := fun _ => 0) rfl]
    exact lp_become_3 (k + 1) (by omega)
termination_by 40 - k
decreasing_by all_goals omega
theorem ev_become_3 {s n : Int32} {zd : Nat}  : aw_X P (zd + 1) 94 [.ref 41, .int s, .int n] (ae_en σ α z t0 ts) (fun r H => r = none ∧ H = (ae_en (au σ [(24, s), (25, n)]) (au α [(30, fC 40 (fun _ => 0) (α 30))]) z t0 ts)) := by
  refine aw_ev (cd := cd_Sheet_become) rfl rfl rfl ?_
  show aw_W _ _ _ _ (0, [some (.ref 41), some (.int s), some (.int n), none], []) (ae_en σ α z t0 ts)
  refine aw_go 8 rfl ⟨trivial, trivial, trivial, trivial, trivial, trivial, trivial, trivial, trivial⟩ ?_
  show aw_W _ _ _ _ (8, [some (.ref 41), some (.int s), some (.int n), some (.int 0)], []) (ae_en (au σ [(24, s), (25, n)]) α z t0 ts)
  exact aw_to (lp_become_3 0 (by decide)) rfl (by rw [fC_0]; rfl)
theorem ev_holds_3 {m : Nat} {i n : Int32} {zd : Nat} (hm : σ 25 = nI m) (hm40 : m ≤ 40) : ae_Ev P (zd + 1) 95 [.ref 41, .int i, .int n] (ae_en σ α z t0 ts) (some (.int (bI (hHo m i n)))) (ae_en σ α z t0 ts) := by
  refine aw_evE (cd := cd_Sheet_holds) rfl rfl rfl ?_
  show aw_W _ _ _ _ (0, [some (.ref 41), some (.int i), some (.int n)], []) (ae_en σ α z t0 ts)
  refine aw_go 2 rfl ⟨trivial, trivial, trivial⟩ ?_
  refine aw_br (c := n < 0) (fun h1 => ?_) (fun h1 => ?_)
  · skip
    show aw_W _ _ _ _ (16, [some (.ref 41), some (.int i), some (.int n)], []) (ae_en σ α z t0 ts)
    refine aw_go 1 rfl ⟨trivial, trivial⟩ ?_
    refine aw_ret rfl rfl (by first | exact Or.inl rfl | exact Or.inr rfl | exact bI_b _) ?_
    refine ⟨?_, rfl⟩
    exact congrArg (fun q => some (Value.int q)) (bI_0 (fun q => q.1 h1))
  · skip
    show aw_W _ _ _ _ (2, [some (.ref 41), some (.int i), some (.int n)], []) (ae_en σ α z t0 ts)
    refine aw_go 2 rfl ⟨trivial, trivial, trivial⟩ ?_
    refine aw_br (c := i < 0) (fun h3 => ?_) (fun h3 => ?_)
    · skip
      show aw_W _ _ _ _ (16, [some (.ref 41), some (.int i), some (.int n)], []) (ae_en σ α z t0 ts)
      refine aw_go 1 rfl ⟨trivial, trivial⟩ ?_
      refine aw_ret rfl rfl (by first | exact Or.inl rfl | exact Or.inr rfl | exact bI_b _) ?_
      refine ⟨?_, rfl⟩
      exact congrArg (fun q => some (Value.int q)) (bI_0 (fun q => q.2.1 h3))
    · skip
      show aw_W _ _ _ _ (4, [some (.ref 41), some (.int i), some (.int n)], []) (ae_en σ α z t0 ts)
      refine aw_go 4 rfl ⟨trivial, trivial, trivial, trivial, trivial⟩ ?_
      show aw_W _ _ _ _ (if (σ 25) < i then 16 else 8, [some (.ref 41), some (.int i), some (.int n)], []) (ae_en σ α z t0 ts)
      refine aw_br (c := (σ 25) < i) (fun h7 => ?_) (fun h7 => ?_)
      · skip
        show aw_W _ _ _ _ (16, [some (.ref 41), some (.int i), some (.int n)], []) (ae_en σ α z t0 ts)
        refine aw_go 1 rfl ⟨trivial, trivial⟩ ?_
        refine aw_ret rfl rfl (by first | exact Or.inl rfl | exact Or.inr rfl | exact bI_b _) ?_
        refine ⟨?_, rfl⟩
        exact congrArg (fun q => some (Value.int q)) (bI_0 (fun q => by
          obtain ⟨a, ha, rfl⟩ := nI_of h3
          obtain ⟨b, hb, rfl⟩ := nI_of h1
          have := q.2.2
          rw [nI_clamp ha, nI_clamp hb] at this
          rw [hm, nI_ltI (by omega) (by omega)] at h7
          omega))
      · skip
        show aw_W _ _ _ _ (8, [some (.ref 41), some (.int i), some (.int n)], []) (ae_en σ α z t0 ts)
        have q8 := Int32.not_lt.mp h7
        obtain ⟨a, ha, rfl⟩ := nI_of h3
        obtain ⟨b, hb, rfl⟩ := nI_of h1
        rw [hm, nI_leI (by omega) (by omega)] at q8
        refine aw_go 6 rfl ⟨trivial, trivial, trivial, trivial, trivial, trivial, trivial⟩ ?_
        show aw_W _ _ _ _ (if ((σ 25) - (nI a)) < (nI b) then 16 else 14, [some (.ref 41), some (.int (nI a)), some (.int (nI b))], []) (ae_en σ α z t0 ts)
        refine aw_br (c := ((σ 25) - (nI a)) < (nI b)) (fun h13 => ?_) (fun h13 => ?_)
        · skip
          show aw_W _ _ _ _ (16, [some (.ref 41), some (.int (nI a)), some (.int (nI b))], []) (ae_en σ α z t0 ts)
          have q9 := h13
          rw [hm, cI_sub rfl rfl q8, nI_ltI (by omega) (by omega)] at q9
          refine aw_go 1 rfl ⟨trivial, trivial⟩ ?_
          refine aw_ret rfl rfl (by first | exact Or.inl rfl | exact Or.inr rfl | exact bI_b _) ?_
          refine ⟨?_, rfl⟩
          exact congrArg (fun q => some (Value.int q)) (bI_0 (fun q => by
            have := q.2.2
            rw [nI_clamp ha, nI_clamp hb] at this
            omega))
        · skip
          show aw_W _ _ _ _ (14, [some (.ref 41), some (.int (nI a)), some (.int (nI b))], []) (ae_en σ α z t0 ts)
          have q9 := Int32.not_lt.mp h13
          rw [hm, cI_sub rfl rfl q8, nI_leI (by omega) (by omega)] at q9
          refine aw_go 2 rfl ⟨trivial, trivial, trivial⟩ ?_
          refine aw_ret rfl rfl (by first | exact Or.inl rfl | exact Or.inr rfl | exact bI_b _) ?_
          refine ⟨?_, rfl⟩
          exact congrArg (fun q => some (Value.int q)) (bI_1 ⟨h1, h3, by rw [nI_clamp ha, nI_clamp hb]; omega⟩)
theorem ev_put_3 {i : Nat} {v : Int32} {zd : Nat} (hi : i < 40) : aw_X P (zd + 1) 96 [.ref 41, .int (nI i), .int v] (ae_en σ α z t0 ts) (fun r H => r = none ∧ H = (ae_en σ (au α [(30, upd (α 30) i (cSt (σ 24) v))]) z t0 ts)) := by
  refine aw_ev (cd := cd_Sheet_put) rfl rfl rfl ?_
  show aw_W _ _ _ _ (0, [some (.ref 41), some (.int (nI i)), some (.int v)], []) (ae_en σ α z t0 ts)
  refine aw_go 6 rfl ⟨trivial, trivial, trivial, trivial, trivial, trivial, trivial⟩ ?_
  show aw_W _ _ _ _ (if ¬ (σ 24) = 0 then 9 else 6, [some (.ref 41), some (.int (nI i)), some (.int v)], [.int (nI i), .ref 42]) (ae_en σ α z t0 ts)
  refine aw_br (c := ¬ (σ 24) = 0) (fun h5 => ?_) (fun h5 => ?_)
  · skip
    show aw_W _ _ _ _ (9, [some (.ref 41), some (.int (nI i)), some (.int v)], [.int (nI i), .ref 42]) (ae_en σ α z t0 ts)
    refine aw_go 4 rfl ⟨trivial, trivial, trivial, trivial, trivial⟩ ?_
    show aw_W _ _ _ _ (if ¬ (σ 24) = 1 then 16 else 13, [some (.ref 41), some (.int (nI i)), some (.int v)], [.int (nI i), .ref 42]) (ae_en σ α z t0 ts)
    refine aw_br (c := ¬ (σ 24) = 1) (fun h12 => ?_) (fun h12 => ?_)
    · skip
      show aw_W _ _ _ _ (16, [some (.ref 41), some (.int (nI i)), some (.int v)], [.int (nI i), .ref 42]) (ae_en σ α z t0 ts)
      refine aw_go 2 rfl ⟨trivial, (cI_in (a := i) rfl (by omega) (by decide)), trivial⟩ ?_
      show aw_W _ _ _ _ (18, [some (.ref 41), some (.int (nI i)), some (.int v)], []) (ae_en σ (au α [(30, upd (α 30) (nI i).toNatClampNeg v)]) z t0 ts)
      rw [show (nI i).toNatClampNeg = i from cI_cl (a := i) rfl (by omega)]
      refine aw_ret rfl rfl trivial ?_
      refine ⟨rfl, ?_⟩
      rw [cSt, if_neg h5, if_neg h12]
    · skip
      have h12 := Classical.not_not.mp h12
      show aw_W _ _ _ _ (13, [some (.ref 41), some (.int (nI i)), some (.int v)], [.int (nI i), .ref 42]) (ae_en σ α z t0 ts)
      refine aw_go 4 rfl ⟨trivial, trivial, trivial, (cI_in (a := i) rfl (by omega) (by decide)), trivial⟩ ?_
      show aw_W _ _ _ _ (18, [some (.ref 41), some (.int (nI i)), some (.int v)], []) (ae_en σ (au α [(30, upd (α 30) (nI i).toNatClampNeg v.toInt16.toInt32)]) z t0 ts)
      rw [show (nI i).toNatClampNeg = i from cI_cl (a := i) rfl (by omega)]
      refine aw_ret rfl rfl trivial ?_
      refine ⟨rfl, ?_⟩
      rw [cSt, if_neg h5, if_pos h12]
  · skip
    have h5 := Classical.not_not.mp h5
    show aw_W _ _ _ _ (6, [some (.ref 41), some (.int (nI i)), some (.int v)], [.int (nI i), .ref 42]) (ae_en σ α z t0 ts)
    refine aw_go 4 rfl ⟨trivial, trivial, trivial, (cI_in (a := i) rfl (by omega) (by decide)), trivial⟩ ?_
    show aw_W _ _ _ _ (18, [some (.ref 41), some (.int (nI i)), some (.int v)], []) (ae_en σ (au α [(30, upd (α 30) (nI i).toNatClampNeg v.toInt8.toInt32)]) z t0 ts)
    rw [show (nI i).toNatClampNeg = i from cI_cl (a := i) rfl (by omega)]
    refine aw_ret rfl rfl trivial ?_
    refine ⟨rfl, ?_⟩
    rw [cSt, if_pos h5]
theorem ev_sheet_3 {s n : Int32} {zd : Nat}  : aw_X P (zd + 2) 30 [.ref 0, .int 3, .int s, .int n] (ae_en σ α z t0 ts) (fun r H => r = some (.int ((pSheet s n (σ 24, σ 25, α 30)).1)) ∧ H = (ae_en (au σ [(24, (pSheet s n (σ 24, σ 25, α 30)).2.1), (25, (pSheet s n (σ 24, σ 25, α 30)).2.2.1)]) (au α [(30, (pSheet s n (σ 24, σ 25, α 30)).2.2.2)]) z t0 ts)) := by
  refine aw_ev (cd := cd_Dried_sheet) rfl rfl rfl ?_
  show aw_W _ _ _ _ (0, [some (.ref 0), some (.int 3), some (.int s), some (.int n)], []) (ae_en σ α z t0 ts)
  refine aw_go 1 rfl ⟨trivial, trivial⟩ ?_
  refine aw_callE rfl rfl (ev_Dried_isSheet (s := 3)) ?_
  show aw_W _ _ _ _ (2, [some (.ref 0), some (.int 3), some (.int s), some (.int n)], [.int (bI (iP 4 3))]) (ae_en σ α z t0 ts)
  refine aw_go 1 rfl ⟨trivial, trivial⟩ ?_
  refine aw_br (c := (bI (iP 4 3)) = 0) (fun h2 => ?_) (fun h2 => ?_)
  · skip
    have h2 := bI_f h2
    show aw_W _ _ _ _ (9, [some (.ref 0), some (.int 3), some (.int s), some (.int n)], []) (ae_en σ α z t0 ts)
    exact absurd h2 (by decide)
  · skip
    have h2 := bI_t h2
    show aw_W _ _ _ _ (3, [some (.ref 0), some (.int 3), some (.int s), some (.int n)], []) (ae_en σ α z t0 ts)
    refine aw_go 3 rfl ⟨trivial, trivial, trivial, trivial⟩ ?_
    refine aw_br (c := s < (-1)) (fun h5 => ?_) (fun h5 => ?_)
    · skip
      show aw_W _ _ _ _ (9, [some (.ref 0), some (.int 3), some (.int s), some (.int n)], []) (ae_en σ α z t0 ts)
      refine aw_go 1 rfl ⟨trivial, trivial⟩ ?_
      refine aw_ret rfl rfl trivial ?_
      rw [pSheet, if_pos (Or.inl h5)]
      exact ⟨rfl, rfl⟩
    · skip
      show aw_W _ _ _ _ (6, [some (.ref 0), some (.int 3), some (.int s), some (.int n)], []) (ae_en σ α z t0 ts)
      refine aw_go 3 rfl ⟨trivial, trivial, trivial, trivial⟩ ?_
      refine aw_br (c := s ≤ 2) (fun h8 => ?_) (fun h8 => ?_)
      · skip
        show aw_W _ _ _ _ (11, [some (.ref 0), some (.int 3), some (.int s), some (.int n)], []) (ae_en σ α z t0 ts)
        refine aw_go 3 rfl ⟨trivial, trivial, trivial, trivial⟩ ?_
        refine aw_br (c := ¬ s = (-1)) (fun h13 => ?_) (fun h13 => ?_)
        · skip
          show aw_W _ _ _ _ (23, [some (.ref 0), some (.int 3), some (.int s), some (.int n)], []) (ae_en σ α z t0 ts)
          refine aw_go 3 rfl ⟨trivial, trivial, trivial, trivial⟩ ?_
          refine aw_br (c := n ≤ 40) (fun h25 => ?_) (fun h25 => ?_)
          · skip
            show aw_W _ _ _ _ (28, [some (.ref 0), some (.int 3), some (.int s), some (.int n)], []) (ae_en σ α z t0 ts)
            refine aw_go 2 rfl ⟨trivial, trivial, trivial⟩ ?_
            refine aw_br (c := (0 : Int32) ≤ n) (fun h29 => ?_) (fun h29 => ?_)
            · skip
              show aw_W _ _ _ _ (32, [some (.ref 0), some (.int 3), some (.int s), some (.int n)], []) (ae_en σ α z t0 ts)
              refine aw_go 6 rfl ⟨trivial, trivial, trivial, (cI_in (a := 3) rfl (by omega) (by decide)), trivial, trivial, trivial⟩ ?_
              show aw_W _ _ _ _ (38, [some (.ref 0), some (.int 3), some (.int s), some (.int n)], [.int n, .int s, .ref 41]) (ae_en σ α z t0 ts)
              refine aw_call rfl rfl (ev_become_3 (s := s) (n := n)) ?_
              rintro _ _ ⟨rfl, rfl⟩
              show aw_W _ _ _ _ (39, [some (.ref 0), some (.int 3), some (.int s), some (.int n)], []) (ae_en (au σ [(24, s), (25, n)]) (au α [(30, fC 40 (fun _ => 0) (α 30))]) z t0 ts)
              refine aw_go 1 rfl ⟨trivial, trivial⟩ ?_
              refine aw_ret rfl rfl trivial ?_
              rw [pSheet, if_neg (fun q => q.elim h5 (Int32.not_lt.mpr h8)), if_neg h13, if_neg (Int32.not_lt.mpr h25), if_neg (Int32.not_lt.mpr h29)]
              exact ⟨rfl, rfl⟩
            · skip
              show aw_W _ _ _ _ (30, [some (.ref 0), some (.int 3), some (.int s), some (.int n)], []) (ae_en σ α z t0 ts)
              refine aw_go 1 rfl ⟨trivial, trivial⟩ ?_
              refine aw_ret rfl rfl trivial ?_
              rw [pSheet, if_neg (fun q => q.elim h5 (Int32.not_lt.mpr h8)), if_neg h13, if_neg (Int32.not_lt.mpr h25), if_pos (Int32.not_le.mp h29)]
              exact ⟨rfl, rfl⟩
          · skip
            show aw_W _ _ _ _ (26, [some (.ref 0), some (.int 3), some (.int s), some (.int n)], []) (ae_en σ α z t0 ts)
            refine aw_go 1 rfl ⟨trivial, trivial⟩ ?_
            refine aw_ret rfl rfl trivial ?_
            rw [pSheet, if_neg (fun q => q.elim h5 (Int32.not_lt.mpr h8)), if_neg h13, if_pos (Int32.not_le.mp h25)]
            exact ⟨rfl, rfl⟩
        · skip
          have h13 := Classical.not_not.mp h13
          show aw_W _ _ _ _ (14, [some (.ref 0), some (.int 3), some (.int s), some (.int n)], []) (ae_en σ α z t0 ts)
          refine aw_go 6 rfl ⟨trivial, trivial, trivial, (cI_in (a := 3) rfl (by omega) (by decide)), trivial, trivial, trivial⟩ ?_
          show aw_W _ _ _ _ (20, [some (.ref 0), some (.int 3), some (.int s), some (.int n)], [.int 0, .int (-1), .ref 41]) (ae_en σ α z t0 ts)
          refine aw_call rfl rfl (ev_become_3 (s := (-1)) (n := 0)) ?_
          rintro _ _ ⟨rfl, rfl⟩
          show aw_W _ _ _ _ (21, [some (.ref 0), some (.int 3), some (.int s), some (.int n)], []) (ae_en (au σ [(24, (-1)), (25, 0)]) (au α [(30, fC 40 (fun _ => 0) (α 30))]) z t0 ts)
          refine aw_go 1 rfl ⟨trivial, trivial⟩ ?_
          refine aw_ret rfl rfl trivial ?_
          rw [pSheet, if_neg (fun q => q.elim h5 (Int32.not_lt.mpr h8)), if_pos h13]
          exact ⟨rfl, rfl⟩
      · skip
        show aw_W _ _ _ _ (9, [some (.ref 0), some (.int 3), some (.int s), some (.int n)], []) (ae_en σ α z t0 ts)
        refine aw_go 1 rfl ⟨trivial, trivial⟩ ?_
        refine aw_ret rfl rfl trivial ?_
        rw [pSheet, if_pos (Or.inr (Int32.not_le.mp h8))]
        exact ⟨rfl, rfl⟩
theorem ev_cell_3 {m : Nat} {i v : Int32} {zd : Nat} (hm : ¬ σ 24 = -1 → σ 25 = nI m) (hm40 : m ≤ 40) : aw_X P (zd + 2) 31 [.ref 0, .int 3, .int i, .int v] (ae_en σ α z t0 ts) (fun r H => r = some (.int ((pCell m (σ 24) (α 30) i v).1)) ∧ H = (ae_en σ (au α [(30, (pCell m (σ 24) (α 30) i v).2)]) z t0 ts)) := by
  refine aw_ev (cd := cd_Dried_cell) rfl rfl rfl ?_
  show aw_W _ _ _ _ (0, [some (.ref 0), some (.int 3), some (.int i), some (.int v), none], []) (ae_en σ α z t0 ts)
  refine aw_go 1 rfl ⟨trivial, trivial⟩ ?_
  refine aw_callE rfl rfl (ev_Dried_isSheet (s := 3)) ?_
  show aw_W _ _ _ _ (2, [some (.ref 0), some (.int 3), some (.int i), some (.int v), none], [.int (bI (iP 4 3))]) (ae_en σ α z t0 ts)
  refine aw_go 1 rfl ⟨trivial, trivial⟩ ?_
  refine aw_br (c := ¬ (bI (iP 4 3)) = 0) (fun h2 => ?_) (fun h2 => ?_)
  · skip
    have h2 := bI_t h2
    show aw_W _ _ _ _ (5, [some (.ref 0), some (.int 3), some (.int i), some (.int v), none], []) (ae_en σ α z t0 ts)
    refine aw_go 9 rfl ⟨trivial, trivial, trivial, (cI_in (a := 3) rfl (by omega) (by decide)), trivial, trivial, trivial, trivial, trivial, trivial⟩ ?_
    show aw_W _ _ _ _ (if ¬ (σ 24) = (-1) then 16 else 14, [some (.ref 0), some (.int 3), some (.int i), some (.int v), some (.ref 41)], []) (ae_en σ α z t0 ts)
    refine aw_br (c := ¬ (σ 24) = (-1)) (fun h13 => ?_) (fun h13 => ?_)
    · skip
      show aw_W _ _ _ _ (16, [some (.ref 0), some (.int 3), some (.int i), some (.int v), some (.ref 41)], []) (ae_en σ α z t0 ts)
      refine aw_go 3 rfl ⟨trivial, trivial, trivial, trivial⟩ ?_
      refine aw_callE rfl rfl (ev_holds_3 (i := i) (n := 1) (hm h13) hm40) ?_
      show aw_W _ _ _ _ (20, [some (.ref 0), some (.int 3), some (.int i), some (.int v), some (.ref 41)], [.int (bI (hHo m i 1))]) (ae_en σ α z t0 ts)
      refine aw_go 1 rfl ⟨trivial, trivial⟩ ?_
      refine aw_br (c := ¬ (bI (hHo m i 1)) = 0) (fun h20 => ?_) (fun h20 => ?_)
      · skip
        have h20 := bI_t h20
        show aw_W _ _ _ _ (23, [some (.ref 0), some (.int 3), some (.int i), some (.int v), some (.ref 41)], []) (ae_en σ α z t0 ts)
        obtain ⟨a, ha, rfl⟩ := nI_of h20.2.1
        have q := h20.2.2
        rw [nI_clamp ha, show (1 : Int32).toNatClampNeg = 1 from rfl] at q
        refine aw_go 3 rfl ⟨trivial, trivial, trivial, trivial⟩ ?_
        refine aw_call rfl rfl (ev_put_3 (i := a) (v := v) (by omega)) ?_
        rintro _ _ ⟨rfl, rfl⟩
        show aw_W _ _ _ _ (27, [some (.ref 0), some (.int 3), some (.int (nI a)), some (.int v), some (.ref 41)], []) (ae_en σ (au α [(30, upd (α 30) a (cSt (σ 24) v))]) z t0 ts)
        refine aw_go 1 rfl ⟨trivial, trivial⟩ ?_
        refine aw_ret rfl rfl trivial ?_
        rw [pCell, if_neg h13, if_pos (iP_nI (by omega) (by omega)), nI_clamp ha]
        exact ⟨rfl, rfl⟩
      · skip
        have h20 := bI_f (Classical.not_not.mp h20)
        show aw_W _ _ _ _ (21, [some (.ref 0), some (.int 3), some (.int i), some (.int v), some (.ref 41)], []) (ae_en σ α z t0 ts)
        refine aw_go 1 rfl ⟨trivial, trivial⟩ ?_
        refine aw_ret rfl rfl trivial ?_
        rw [pCell, if_neg h13, if_neg (fun q => h20 ⟨by decide, q.1, by have := q.2; rw [show (1 : Int32).toNatClampNeg = 1 from rfl]; omega⟩)]
        exact ⟨rfl, rfl⟩
    · skip
      have h13 := Classical.not_not.mp h13
      show aw_W _ _ _ _ (14, [some (.ref 0), some (.int 3), some (.int i), some (.int v), some (.ref 41)], []) (ae_en σ α z t0 ts)
      refine aw_go 1 rfl ⟨trivial, trivial⟩ ?_
      refine aw_ret rfl rfl trivial ?_
      rw [pCell, if_pos h13]
      exact ⟨rfl, rfl⟩
  · skip
    have h2 := bI_f (Classical.not_not.mp h2)
    show aw_W _ _ _ _ (3, [some (.ref 0), some (.int 3), some (.int i), some (.int v), none], []) (ae_en σ α z t0 ts)
    exact absurd h2 (by decide)
end L31
