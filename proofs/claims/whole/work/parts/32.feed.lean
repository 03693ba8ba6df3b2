/-! copies, planks out of sheets, what is fed (class) -/
theorem b2 (y : Int8) : y.toInt32.toInt8 = y := by simp
section L32
variable {P : ae_P} {σ : Nat → Int32} {α : Nat → Nat → Int32} {z : Int64} {t0 : ae_T} {ts : List ae_T}

theorem ev_copy_0_0 {m m2 : Nat} {i j n : Int32} {zd : Nat} (hm : ¬ σ 18 = -1 → σ 19 = nI m) (hm40 : m ≤ 40) (hm2 : ¬ σ 18 = -1 → σ 19 = nI m2) (hm240 : m2 ≤ 40) : aw_X P (zd + 2) 32 [.ref 0, .int 0, .int i, .int 0, .int j, .int n] (ae_en σ α z t0 ts) (fun r H => r = some (.int ((pCopy m m2 (σ 18) (σ 18) (α 27) (α 27) i j n).1)) ∧ H = (ae_en σ (au α [(27, (pCopy m m2 (σ 18) (σ 18) (α 27) (α 27) i j n).2)]) z t0 ts)) := by
  refine aw_ev (cd := cd_Dried_copy) rfl rfl rfl ?_
  show aw_W _ _ _ _ (0, [some (.ref 0), some (.int 0), some (.int i), some (.int 0), some (.int j), some (.int n), none, none], []) (ae_en σ α z t0 ts)
  refine aw_go 1 rfl ⟨trivial, trivial⟩ ?_
  refine aw_callE rfl rfl (ev_Dried_isSheet (s := 0)) ?_
  show aw_W _ _ _ _ (2, [some (.ref 0), some (.int 0), some (.int i), some (.int 0), some (.int j), some (.int n), none, none], [.int (bI (iP 4 0))]) (ae_en σ α z t0 ts)
  refine aw_go 1 rfl ⟨trivial, trivial⟩ ?_
  refine aw_br (c := (bI (iP 4 0)) = 0) (fun h2 => ?_) (fun h2 => ?_)
  · skip
    have h2 := bI_f h2
    show aw_W _ _ _ _ (6, [some (.ref 0), some (.int 0), some (.int i), some (.int 0), some (.int j), some (.int n), none, none], []) (ae_en σ α z t0 ts)
    exact absurd h2 (by decide)
  · skip
    have h2 := bI_t h2
    show aw_W _ _ _ _ (3, [some (.ref 0), some (.int 0), some (.int i), some (.int 0), some (.int j), some (.int n), none, none], []) (ae_en σ α z t0 ts)
    refine aw_go 1 rfl ⟨trivial, trivial⟩ ?_
    refine aw_callE rfl rfl (ev_Dried_isSheet (s := 0)) ?_
    show aw_W _ _ _ _ (5, [some (.ref 0), some (.int 0), some (.int i), some (.int 0), some (.int j), some (.int n), none, none], [.int (bI (iP 4 0))]) (ae_en σ α z t0 ts)
    refine aw_go 1 rfl ⟨trivial, trivial⟩ ?_
    refine aw_br (c := ¬ (bI (iP 4 0)) = 0) (fun h5 => ?_) (fun h5 => ?_)
    · skip
      have h5 := bI_t h5
      show aw_W _ _ _ _ (8, [some (.ref 0), some (.int 0), some (.int i), some (.int 0), some (.int j), some (.int n), none, none], []) (ae_en σ α z t0 ts)
      refine aw_go 14 rfl ⟨trivial, trivial, trivial, (cI_in (a := 0) rfl (by omega) (by decide)), trivial, trivial, trivial, trivial, (cI_in (a := 0) rfl (by omega) (by decide)), trivial, trivial, trivial, trivial, trivial, trivial⟩ ?_
      show aw_W _ _ _ _ (if (σ 18) = (-1) then 26 else 22, [some (.ref 0), some (.int 0), some (.int i), some (.int 0), some (.int j), some (.int n), some (.ref 35), some (.ref 35)], []) (ae_en σ α z t0 ts)
      refine aw_br (c := (σ 18) = (-1)) (fun h21 => ?_) (fun h21 => ?_)
      · skip
        show aw_W _ _ _ _ (26, [some (.ref 0), some (.int 0), some (.int i), some (.int 0), some (.int j), some (.int n), some (.ref 35), some (.ref 35)], []) (ae_en σ α z t0 ts)
        refine aw_go 1 rfl ⟨trivial, trivial⟩ ?_
        refine aw_ret rfl rfl trivial ?_
        rw [pCopy, if_pos (Or.inl h21)]
        exact ⟨rfl, rfl⟩
      · skip
        show aw_W _ _ _ _ (22, [some (.ref 0), some (.int 0), some (.int i), some (.int 0), some (.int j), some (.int n), some (.ref 35), some (.ref 35)], []) (ae_en σ α z t0 ts)
        refine aw_go 4 rfl ⟨trivial, trivial, trivial, trivial, trivial⟩ ?_
        show aw_W _ _ _ _ (if ¬ (σ 18) = (-1) then 28 else 26, [some (.ref 0), some (.int 0), some (.int i), some (.int 0), some (.int j), some (.int n), some (.ref 35), some (.ref 35)], []) (ae_en σ α z t0 ts)
        refine aw_br (c := ¬ (σ 18) = (-1)) (fun h25 => ?_) (fun h25 => ?_)
        · skip
          show aw_W _ _ _ _ (28, [some (.ref 0), some (.int 0), some (.int i), some (.int 0), some (.int j), some (.int n), some (.ref 35), some (.ref 35)], []) (ae_en σ α z t0 ts)
          refine aw_go 5 rfl ⟨trivial, trivial, trivial, trivial, trivial, trivial⟩ ?_
          show aw_W _ _ _ _ (if (σ 18) = (σ 18) then 35 else 33, [some (.ref 0), some (.int 0), some (.int i), some (.int 0), some (.int j), some (.int n), some (.ref 35), some (.ref 35)], []) (ae_en σ α z t0 ts)
          refine aw_br (c := (σ 18) = (σ 18)) (fun h32 => ?_) (fun h32 => ?_)
          · skip
            show aw_W _ _ _ _ (35, [some (.ref 0), some (.int 0), some (.int i), some (.int 0), some (.int j), some (.int n), some (.ref 35), some (.ref 35)], []) (ae_en σ α z t0 ts)
            refine aw_go 3 rfl ⟨trivial, trivial, trivial, trivial⟩ ?_
            refine aw_callE rfl rfl (ev_holds_0 (i := i) (n := n) (hm h21) hm40) ?_
            show aw_W _ _ _ _ (39, [some (.ref 0), some (.int 0), some (.int i), some (.int 0), some (.int j), some (.int n), some (.ref 35), some (.ref 35)], [.int (bI (hHo m i n))]) (ae_en σ α z t0 ts)
            refine aw_go 1 rfl ⟨trivial, trivial⟩ ?_
            refine aw_br (c := (bI (hHo m i n)) = 0) (fun h39 => ?_) (fun h39 => ?_)
            · skip
              have h39 := bI_f h39
              show aw_W _ _ _ _ (45, [some (.ref 0), some (.int 0), some (.int i), some (.int 0), some (.int j), some (.int n), some (.ref 35), some (.ref 35)], []) (ae_en σ α z t0 ts)
              refine aw_go 1 rfl ⟨trivial, trivial⟩ ?_
              refine aw_ret rfl rfl trivial ?_
              rw [pCopy, if_neg (fun q => q.elim h21 h25), if_neg (fun q => q h32), if_neg (fun q => h39 q.1)]
              exact ⟨rfl, rfl⟩
            · skip
              have h39 := bI_t h39
              show aw_W _ _ _ _ (40, [some (.ref 0), some (.int 0), some (.int i), some (.int 0), some (.int j), some (.int n), some (.ref 35), some (.ref 35)], []) (ae_en σ α z t0 ts)
              refine aw_go 3 rfl ⟨trivial, trivial, trivial, trivial⟩ ?_
              refine aw_callE rfl rfl (ev_holds_0 (i := j) (n := n) (hm2 h25) hm240) ?_
              show aw_W _ _ _ _ (44, [some (.ref 0), some (.int 0), some (.int i), some (.int 0), some (.int j), some (.int n), some (.ref 35), some (.ref 35)], [.int (bI (hHo m2 j n))]) (ae_en σ α z t0 ts)
              refine aw_go 1 rfl ⟨trivial, trivial⟩ ?_
              refine aw_br (c := ¬ (bI (hHo m2 j n)) = 0) (fun h44 => ?_) (fun h44 => ?_)
              · skip
                have h44 := bI_t h44
                show aw_W _ _ _ _ (47, [some (.ref 0), some (.int 0), some (.int i), some (.int 0), some (.int j), some (.int n), some (.ref 35), some (.ref 35)], []) (ae_en σ α z t0 ts)
                refine aw_go 9 rfl ⟨trivial, trivial, trivial, trivial, trivial, trivial, trivial, ⟨h39.2.1, h44.2.1, h39.1, Nat.le_trans h39.2.2 hm40, Nat.le_trans h44.2.2 hm240⟩, trivial, trivial⟩ ?_
                show aw_W _ _ _ _ (56, [some (.ref 0), some (.int 0), some (.int i), some (.int 0), some (.int j), some (.int n), some (.ref 35), some (.ref 35)], [.int n]) (ae_en σ (au α [(27, va_cpy (α 27) (α 27) (i.toNatClampNeg) (j.toNatClampNeg) (n.toNatClampNeg))]) z t0 ts)
                refine aw_ret rfl rfl trivial ?_
                rw [pCopy, if_neg (fun q => q.elim h21 h25), if_neg (fun q => q h32), if_pos ⟨h39, h44⟩]
                exact ⟨rfl, rfl⟩
              · skip
                have h44 := bI_f (Classical.not_not.mp h44)
                show aw_W _ _ _ _ (45, [some (.ref 0), some (.int 0), some (.int i), some (.int 0), some (.int j), some (.int n), some (.ref 35), some (.ref 35)], []) (ae_en σ α z t0 ts)
                refine aw_go 1 rfl ⟨trivial, trivial⟩ ?_
                refine aw_ret rfl rfl trivial ?_
                rw [pCopy, if_neg (fun q => q.elim h21 h25), if_neg (fun q => q h32), if_neg (fun q => h44 q.2)]
                exact ⟨rfl, rfl⟩
          · skip
            show aw_W _ _ _ _ (33, [some (.ref 0), some (.int 0), some (.int i), some (.int 0), some (.int j), some (.int n), some (.ref 35), some (.ref 35)], []) (ae_en σ α z t0 ts)
            refine aw_go 1 rfl ⟨trivial, trivial⟩ ?_
            refine aw_ret rfl rfl trivial ?_
            rw [pCopy, if_neg (fun q => q.elim h21 h25), if_pos h32]
            exact ⟨rfl, rfl⟩
        · skip
          have h25 := Classical.not_not.mp h25
          show aw_W _ _ _ _ (26, [some (.ref 0), some (.int 0), some (.int i), some (.int 0), some (.int j), some (.int n), some (.ref 35), some (.ref 35)], []) (ae_en σ α z t0 ts)
          refine aw_go 1 rfl ⟨trivial, trivial⟩ ?_
          refine aw_ret rfl rfl trivial ?_
          rw [pCopy, if_pos (Or.inr h25)]
          exact ⟨rfl, rfl⟩
    · skip
      have h5 := bI_f (Classical.not_not.mp h5)
      show aw_W _ _ _ _ (6, [some (.ref 0), some (.int 0), some (.int i), some (.int 0), some (.int j), some (.int n), none, none], []) (ae_en σ α z t0 ts)
      exact absurd h5 (by decide)
theorem ev_copy_0_1 {m m2 : Nat} {i j n : Int32} {zd : Nat} (hm : ¬ σ 18 = -1 → σ 19 = nI m) (hm40 : m ≤ 40) (hm2 : ¬ σ 20 = -1 → σ 21 = nI m2) (hm240 : m2 ≤ 40) : aw_X P (zd + 2) 32 [.ref 0, .int 0, .int i, .int 1, .int j, .int n] (ae_en σ α z t0 ts) (fun r H => r = some (.int ((pCopy m m2 (σ 18) (σ 20) (α 27) (α 28) i j n).1)) ∧ H = (ae_en σ (au α [(28, (pCopy m m2 (σ 18) (σ 20) (α 27) (α 28) i j n).2)]) z t0 ts)) := by
  refine aw_ev (cd := cd_Dried_copy) rfl rfl rfl ?_
  show aw_W _ _ _ _ (0, [some (.ref 0), some (.int 0), some (.int i), some (.int 1), some (.int j), some (.int n), none, none], []) (ae_en σ α z t0 ts)
  refine aw_go 1 rfl ⟨trivial, trivial⟩ ?_
  refine aw_callE rfl rfl (ev_Dried_isSheet (s := 0)) ?_
  show aw_W _ _ _ _ (2, [some (.ref 0), some (.int 0), some (.int i), some (.int 1), some (.int j), some (.int n), none, none], [.int (bI (iP 4 0))]) (ae_en σ α z t0 ts)
  refine aw_go 1 rfl ⟨trivial, trivial⟩ ?_
  refine aw_br (c := (bI (iP 4 0)) = 0) (fun h2 => ?_) (fun h2 => ?_)
  · skip
    have h2 := bI_f h2
    show aw_W _ _ _ _ (6, [some (.ref 0), some (.int 0), some (.int i), some (.int 1), some (.int j), some (.int n), none, none], []) (ae_en σ α z t0 ts)
    exact absurd h2 (by decide)
  · skip
    have h2 := bI_t h2
    show aw_W _ _ _ _ (3, [some (.ref 0), some (.int 0), some (.int i), some (.int 1), some (.int j), some (.int n), none, none], []) (ae_en σ α z t0 ts)
    refine aw_go 1 rfl ⟨trivial, trivial⟩ ?_
    refine aw_callE rfl rfl (ev_Dried_isSheet (s := 1)) ?_
    show aw_W _ _ _ _ (5, [some (.ref 0), some (.int 0), some (.int i), some (.int 1), some (.int j), some (.int n), none, none], [.int (bI (iP 4 1))]) (ae_en σ α z t0 ts)
    refine aw_go 1 rfl ⟨trivial, trivial⟩ ?_
    refine aw_br (c := ¬ (bI (iP 4 1)) = 0) (fun h5 => ?_) (fun h5 => ?_)
    · skip
      have h5 := bI_t h5
      show aw_W _ _ _ _ (8, [some (.ref 0), some (.int 0), some (.int i), some (.int 1), some (.int j), some (.int n), none, none], []) (ae_en σ α z t0 ts)
      refine aw_go 14 rfl ⟨trivial, trivial, trivial, (cI_in (a := 0) rfl (by omega) (by decide)), trivial, trivial, trivial, trivial, (cI_in (a := 1) rfl (by omega) (by decide)), trivial, trivial, trivial, trivial, trivial, trivial⟩ ?_
      show aw_W _ _ _ _ (if (σ 18) = (-1) then 26 else 22, [some (.ref 0), some (.int 0), some (.int i), some (.int 1), some (.int j), some (.int n), some (.ref 35), some (.ref 37)], []) (ae_en σ α z t0 ts)
      refine aw_br (c := (σ 18) = (-1)) (fun h21 => ?_) (fun h21 => ?_)
      · skip
        show aw_W _ _ _ _ (26, [some (.ref 0), some (.int 0), some (.int i), some (.int 1), some (.int j), some (.int n), some (.ref 35), some (.ref 37)], []) (ae_en σ α z t0 ts)
        refine aw_go 1 rfl ⟨trivial, trivial⟩ ?_
        refine aw_ret rfl rfl trivial ?_
        rw [pCopy, if_pos (Or.inl h21)]
        exact ⟨rfl, rfl⟩
      · skip
        show aw_W _ _ _ _ (22, [some (.ref 0), some (.int 0), some (.int i), some (.int 1), some (.int j), some (.int n), some (.ref 35), some (.ref 37)], []) (ae_en σ α z t0 ts)
        refine aw_go 4 rfl ⟨trivial, trivial, trivial, trivial, trivial⟩ ?_
        show aw_W _ _ _ _ (if ¬ (σ 20) = (-1) then 28 else 26, [some (.ref 0), some (.int 0), some (.int i), some (.int 1), some (.int j), some (.int n), some (.ref 35), some (.ref 37)], []) (ae_en σ α z t0 ts)
        refine aw_br (c := ¬ (σ 20) = (-1)) (fun h25 => ?_) (fun h25 => ?_)
        · skip
          show aw_W _ _ _ _ (28, [some (.ref 0), some (.int 0), some (.int i), some (.int 1), some (.int j), some (.int n), some (.ref 35), some (.ref 37)], []) (ae_en σ α z t0 ts)
          refine aw_go 5 rfl ⟨trivial, trivial, trivial, trivial, trivial, trivial⟩ ?_
          show aw_W _ _ _ _ (if (σ 18) = (σ 20) then 35 else 33, [some (.ref 0), some (.int 0), some (.int i), some (.int 1), some (.int j), some (.int n), some (.ref 35), some (.ref 37)], []) (ae_en σ α z t0 ts)
          refine aw_br (c := (σ 18) = (σ 20)) (fun h32 => ?_) (fun h32 => ?_)
          · skip
            show aw_W _ _ _ _ (35, [some (.ref 0), some (.int 0), some (.int i), some (.int 1), some (.int j), some (.int n), some (.ref 35), some (.ref 37)], []) (ae_en σ α z t0 ts)
            refine aw_go 3 rfl ⟨trivial, trivial, trivial, trivial⟩ ?_
            refine aw_callE rfl rfl (ev_holds_0 (i := i) (n := n) (hm h21) hm40) ?_
            show aw_W _ _ _ _ (39, [some (.ref 0), some (.int 0), some (.int i), some (.int 1), some (.int j), some (.int n), some (.ref 35), some (.ref 37)], [.int (bI (hHo m i n))]) (ae_en σ α z t0 ts)
            refine aw_go 1 rfl ⟨trivial, trivial⟩ ?_
            refine aw_br (c := (bI (hHo m i n)) = 0) (fun h39 => ?_) (fun h39 => ?_)
            · skip
              have h39 := bI_f h39
              show aw_W _ _ _ _ (45, [some (.ref 0), some (.int 0), some (.int i), some (.int 1), some (.int j), some (.int n), some (.ref 35), some (.ref 37)], []) (ae_en σ α z t0 ts)
              refine aw_go 1 rfl ⟨trivial, trivial⟩ ?_
              refine aw_ret rfl rfl trivial ?_
              rw [pCopy, if_neg (fun q => q.elim h21 h25), if_neg (fun q => q h32), if_neg (fun q => h39 q.1)]
              exact ⟨rfl, rfl⟩
            · skip
              have h39 := bI_t h39
              show aw_W _ _ _ _ (40, [some (.ref 0), some (.int 0), some (.int i), some (.int 1), some (.int j), some (.int n), some (.ref 35), some (.ref 37)], []) (ae_en σ α z t0 ts)
              refine aw_go 3 rfl ⟨trivial, trivial, trivial, trivial⟩ ?_
              refine aw_callE rfl rfl (ev_holds_1 (i := j) (n := n) (hm2 h25) hm240) ?_
              show aw_W _ _ _ _ (44, [some (.ref 0), some (.int 0), some (.int i), some (.int 1), some (.int j), some (.int n), some (.ref 35), some (.ref 37)], [.int (bI (hHo m2 j n))]) (ae_en σ α z t0 ts)
              refine aw_go 1 rfl ⟨trivial, trivial⟩ ?_
              refine aw_br (c := ¬ (bI (hHo m2 j n)) = 0) (fun h44 => ?_) (fun h44 => ?_)
              · skip
                have h44 := bI_t h44
                show aw_W _ _ _ _ (47, [some (.ref 0), some (.int 0), some (.int i), some (.int 1), some (.int j), some (.int n), some (.ref 35), some (.ref 37)], []) (ae_en σ α z t0 ts)
                refine aw_go 9 rfl ⟨trivial, trivial, trivial, trivial, trivial, trivial, trivial, ⟨h39.2.1, h44.2.1, h39.1, Nat.le_trans h39.2.2 hm40, Nat.le_trans h44.2.2 hm240⟩, trivial, trivial⟩ ?_
                show aw_W _ _ _ _ (56, [some (.ref 0), some (.int 0), some (.int i), some (.int 1), some (.int j), some (.int n), some (.ref 35), some (.ref 37)], [.int n]) (ae_en σ (au α [(28, va_cpy (α 27) (α 28) (i.toNatClampNeg) (j.toNatClampNeg) (n.toNatClampNeg))]) z t0 ts)
                refine aw_ret rfl rfl trivial ?_
                rw [pCopy, if_neg (fun q => q.elim h21 h25), if_neg (fun q => q h32), if_pos ⟨h39, h44⟩]
                exact ⟨rfl, rfl⟩
              · skip
                have h44 := bI_f (Classical.not_not.mp h44)
                show aw_W _ _ _ _ (45, [some (.ref 0), some (.int 0), some (.int i), some (.int 1), some (.int j), some (.int n), some (.ref 35), some (.ref 37)], []) (ae_en σ α z t0 ts)
                refine aw_go 1 rfl ⟨trivial, trivial⟩ ?_
                refine aw_ret rfl rfl trivial ?_
                rw [pCopy, if_neg (fun q => q.elim h21 h25), if_neg (fun q => q h32), if_neg (fun q => h44 q.2)]
                exact ⟨rfl, rfl⟩
          · skip
            show aw_W _ _ _ _ (33, [some (.ref 0), some (.int 0), some (.int i), some (.int 1), some (.int j), some (.int n), some (.ref 35), some (.ref 37)], []) (ae_en σ α z t0 ts)
            refine aw_go 1 rfl ⟨trivial, trivial⟩ ?_
            refine aw_ret rfl rfl trivial ?_
            rw [pCopy, if_neg (fun q => q.elim h21 h25), if_pos h32]
            exact ⟨rfl, rfl⟩
        · skip
          have h25 := Classical.not_not.mp h25
          show aw_W _ _ _ _ (26, [some (.ref 0), some (.int 0), some (.int i), some (.int 1), some (.int j), some (.int n), some (.ref 35), some (.ref 37)], []) (ae_en σ α z t0 ts)
          refine aw_go 1 rfl ⟨trivial, trivial⟩ ?_
          refine aw_ret rfl rfl trivial ?_
          rw [pCopy, if_pos (Or.inr h25)]
          exact ⟨rfl, rfl⟩
    · skip
      have h5 := bI_f (Classical.not_not.mp h5)
      show aw_W _ _ _ _ (6, [some (.ref 0), some (.int 0), some (.int i), some (.int 1), some (.int j), some (.int n), none, none], []) (ae_en σ α z t0 ts)
      exact absurd h5 (by decide)
theorem ev_copy_0_2 {m m2 : Nat} {i j n : Int32} {zd : Nat} (hm : ¬ σ 18 = -1 → σ 19 = nI m) (hm40 : m ≤ 40) (hm2 : ¬ σ 22 = -1 → σ 23 = nI m2) (hm240 : m2 ≤ 40) : aw_X P (zd + 2) 32 [.ref 0, .int 0, .int i, .int 2, .int j, .int n] (ae_en σ α z t0 ts) (fun r H => r = some (.int ((pCopy m m2 (σ 18) (σ 22) (α 27) (α 29) i j n).1)) ∧ H = (ae_en σ (au α [(29, (pCopy m m2 (σ 18) (σ 22) (α 27) (α 29) i j n).2)]) z t0 ts)) := by
  refine aw_ev (cd := cd_Dried_copy) rfl rfl rfl ?_
  show aw_W _ _ _ _ (0, [some (.ref 0), some (.int 0), some (.int i), some (.int 2), some (.int j), some (.int n), none, none], []) (ae_en σ α z t0 ts)
  refine aw_go 1 rfl ⟨trivial, trivial⟩ ?_
  refine aw_callE rfl rfl (ev_Dried_isSheet (s := 0)) ?_
  show aw_W _ _ _ _ (2, [some (.ref 0), some (.int 0), some (.int i), some (.int 2), some (.int j), some (.int n), none, none], [.int (bI (iP 4 0))]) (ae_en σ α z t0 ts)
  refine aw_go 1 rfl ⟨trivial, trivial⟩ ?_
  refine aw_br (c := (bI (iP 4 0)) = 0) (fun h2 => ?_) (fun h2 => ?_)
  · skip
    have h2 := bI_f h2
    show aw_W _ _ _ _ (6, [some (.ref 0), some (.int 0), some (.int i), some (.int 2), some (.int j), some (.int n), none, none], []) (ae_en σ α z t0 ts)
    exact absurd h2 (by decide)
  · skip
    have h2 := bI_t h2
    show aw_W _ _ _ _ (3, [some (.ref 0), some (.int 0), some (.int i), some (.int 2), some (.int j), some (.int n), none, none], []) (ae_en σ α z t0 ts)
    refine aw_go 1 rfl ⟨trivial, trivial⟩ ?_
    refine aw_callE rfl rfl (ev_Dried_isSheet (s := 2)) ?_
    show aw_W _ _ _ _ (5, [some (.ref 0), some (.int 0), some (.int i), some (.int 2), some (.int j), some (.int n), none, none], [.int (bI (iP 4 2))]) (ae_en σ α z t0 ts)
    refine aw_go 1 rfl ⟨trivial, trivial⟩ ?_
    refine aw_br (c := ¬ (bI (iP 4 2)) = 0) (fun h5 => ?_) (fun h5 => ?_)
    · skip
      have h5 := bI_t h5
      show aw_W _ _ _ _ (8, [some (.ref 0), some (.int 0), some (.int i), some (.int 2), some (.int j), some (.int n), none, none], []) (ae_en σ α z t0 ts)
      refine aw_go 14 rfl ⟨trivial, trivial, trivial, (cI_in (a := 0) rfl (by omega) (by decide)), trivial, trivial, trivial, trivial, (cI_in (a := 2) rfl (by omega) (by decide)), trivial, trivial, trivial, trivial, trivial, trivial⟩ ?_
      show aw_W _ _ _ _ (if (σ 18) = (-1) then 26 else 22, [some (.ref 0), some (.int 0), some (.int i), some (.int 2), some (.int j), some (.int n), some (.ref 35), some (.ref 39)], []) (ae_en σ α z t0 ts)
      refine aw_br (c := (σ 18) = (-1)) (fun h21 => ?_) (fun h21 => ?_)
      · skip
        show aw_W _ _ _ _ (26, [some (.ref 0), some (.int 0), some (.int i), some (.int 2), some (.int j), some (.int n), some (.ref 35), some (.ref 39)], []) (ae_en σ α z t0 ts)
        refine aw_go 1 rfl ⟨trivial, trivial⟩ ?_
        refine aw_ret rfl rfl trivial ?_
        rw [pCopy, if_pos (Or.inl h21)]
        exact ⟨rfl, rfl⟩
      · skip
        show aw_W _ _ _ _ (22, [some (.ref 0), some (.int 0), some (.int i), some (.int 2), some (.int j), some (.int n), some (.ref 35), some (.ref 39)], []) (ae_en σ α z t0 ts)
        refine aw_go 4 rfl ⟨trivial, trivial, trivial, trivial, trivial⟩ ?_
        show aw_W _ _ _ _ (if ¬ (σ 22) = (-1) then 28 else 26, [some (.ref 0), some (.int 0), some (.int i), some (.int 2), some (.int j), some (.int n), some (.ref 35), some (.ref 39)], []) (ae_en σ α z t0 ts)
        refine aw_br (c := ¬ (σ 22) = (-1)) (fun h25 => ?_) (fun h25 => ?_)
        · skip
          show aw_W _ _ _ _ (28, [some (.ref 0), some (.int 0), some (.int i), some (.int 2), some (.int j), some (.int n), some (.ref 35), some (.ref 39)], []) (ae_en σ α z t0 ts)
          refine aw_go 5 rfl ⟨trivial, trivial, trivial, trivial, trivial, trivial⟩ ?_
          show aw_W _ _ _ _ (if (σ 18) = (σ 22) then 35 else 33, [some (.ref 0), some (.int 0), some (.int i), some (.int 2), some (.int j), some (.int n), some (.ref 35), some (.ref 39)], []) (ae_en σ α z t0 ts)
          refine aw_br (c := (σ 18) = (σ 22)) (fun h32 => ?_) (fun h32 => ?_)
          · skip
            show aw_W _ _ _ _ (35, [some (.ref 0), some (.int 0), some (.int i), some (.int 2), some (.int j), some (.int n), some (.ref 35), some (.ref 39)], []) (ae_en σ α z t0 ts)
            refine aw_go 3 rfl ⟨trivial, trivial, trivial, trivial⟩ ?_
            refine aw_callE rfl rfl (ev_holds_0 (i := i) (n := n) (hm h21) hm40) ?_
            show aw_W _ _ _ _ (39, [some (.ref 0), some (.int 0), some (.int i), some (.int 2), some (.int j), some (.int n), some (.ref 35), some (.ref 39)], [.int (bI (hHo m i n))]) (ae_en σ α z t0 ts)
            refine aw_go 1 rfl ⟨trivial, trivial⟩ ?_
            refine aw_br (c := (bI (hHo m i n)) = 0) (fun h39 => ?_) (fun h39 => ?_)
            · skip
              have h39 := bI_f h39
              show aw_W _ _ _ _ (45, [some (.ref 0), some (.int 0), some (.int i), some (.int 2), some (.int j), some (.int n), some (.ref 35), some (.ref 39)], []) (ae_en σ α z t0 ts)
              refine aw_go 1 rfl ⟨trivial, trivial⟩ ?_
              refine aw_ret rfl rfl trivial ?_
              rw [pCopy, if_neg (fun q => q.elim h21 h25), if_neg (fun q => q h32), if_neg (fun q => h39 q.1)]
              exact ⟨rfl, rfl⟩
            · skip
              have h39 := bI_t h39
              show aw_W _ _ _ _ (40, [some (.ref 0), some (.int 0), some (.int i), some (.int 2), some (.int j), some (.int n), some (.ref 35), some (.ref 39)], []) (ae_en σ α z t0 ts)
              refine aw_go 3 rfl ⟨trivial, trivial, trivial, trivial⟩ ?_
              refine aw_callE rfl rfl (ev_holds_2 (i := j) (n := n) (hm2 h25) hm240) ?_
              show aw_W _ _ _ _ (44, [some (.ref 0), some (.int 0), some (.int i), some (.int 2), some (.int j), some (.int n), some (.ref 35), some (.ref 39)], [.int (bI (hHo m2 j n))]) (ae_en σ α z t0 ts)
              refine aw_go 1 rfl ⟨trivial, trivial⟩ ?_
              refine aw_br (c := ¬ (bI (hHo m2 j n)) = 0) (fun h44 => ?_) (fun h44 => ?_)
              · skip
                have h44 := bI_t h44
                show aw_W _ _ _ _ (47, [some (.ref 0), some (.int 0), some (.int i), some (.int 2), some (.int j), some (.int n), some (.ref 35), some (.ref 39)], []) (ae_en σ α z t0 ts)
                refine aw_go 9 rfl ⟨trivial, trivial, trivial, trivial, trivial, trivial, trivial, ⟨h39.2.1, h44.2.1, h39.1, Nat.le_trans h39.2.2 hm40, Nat.le_trans h44.2.2 hm240⟩, trivial, trivial⟩ ?_
                show aw_W _ _ _ _ (56, [some (.ref 0), some (.int 0), some (.int i), some (.int 2), some (.int j), some (.int n), some (.ref 35), some (.ref 39)], [.int n]) (ae_en σ (au α [(29, va_cpy (α 27) (α 29) (i.toNatClampNeg) (j.toNatClampNeg) (n.toNatClampNeg))]) z t0 ts)
                refine aw_ret rfl rfl trivial ?_
                rw [pCopy, if_neg (fun q => q.elim h21 h25), if_neg (fun q => q h32), if_pos ⟨h39, h44⟩]
                exact ⟨rfl, rfl⟩
              · skip
                have h44 := bI_f (Classical.not_not.mp h44)
                show aw_W _ _ _ _ (45, [some (.ref 0), some (.int 0), some (.int i), some (.int 2), some (.int j), some (.int n), some (.ref 35), some (.ref 39)], []) (ae_en σ α z t0 ts)
                refine aw_go 1 rfl ⟨trivial, trivial⟩ ?_
                refine aw_ret rfl rfl trivial ?_
                rw [pCopy, if_neg (fun q => q.elim h21 h25), if_neg (fun q => q h32), if_neg (fun q => h44 q.2)]
                exact ⟨rfl, rfl⟩
          · skip
            show aw_W _ _ _ _ (33, [some (.ref 0), some (.int 0), some (.int i), some (.int 2), some (.int j), some (.int n), some (.ref 35), some (.ref 39)], []) (ae_en σ α z t0 ts)
            refine aw_go 1 rfl ⟨trivial, trivial⟩ ?_
            refine aw_ret rfl rfl trivial ?_
            rw [pCopy, if_neg (fun q => q.elim h21 h25), if_pos h32]
            exact ⟨rfl, rfl⟩
        · skip
          have h25 := Classical.not_not.mp h25
          show aw_W _ _ _ _ (26, [some (.ref 0), some (.int 0), some (.int i), some (.int 2), some (.int j), some (.int n), some (.ref 35), some (.ref 39)], []) (ae_en σ α z t0 ts)
          refine aw_go 1 rfl ⟨trivial, trivial⟩ ?_
          refine aw_ret rfl rfl trivial ?_
          rw [pCopy, if_pos (Or.inr h25)]
          exact ⟨rfl, rfl⟩
    · skip
      have h5 := bI_f (Classical.not_not.mp h5)
      show aw_W _ _ _ _ (6, [some (.ref 0), some (.int 0), some (.int i), some (.int 2), some (.int j), some (.int n), none, none], []) (ae_en σ α z t0 ts)
      exact absurd h5 (by decide)
theorem ev_copy_0_3 {m m2 : Nat} {i j n : Int32} {zd : Nat} (hm : ¬ σ 18 = -1 → σ 19 = nI m) (hm40 : m ≤ 40) (hm2 : ¬ σ 24 = -1 → σ 25 = nI m2) (hm240 : m2 ≤ 40) : aw_X P (zd + 2) 32 [.ref 0, .int 0, .int i, .int 3, .int j, .int n] (ae_en σ α z t0 ts) (fun r H => r = some (.int ((pCopy m m2 (σ 18) (σ 24) (α 27) (α 30) i j n).1)) ∧ H = (ae_en σ (au α [(30, (pCopy m m2 (σ 18) (σ 24) (α 27) (α 30) i j n).2)]) z t0 ts)) := by
  refine aw_ev (cd := cd_Dried_copy) rfl rfl rfl ?_
  show aw_W _ _ _ _ (0, [some (.ref 0), some (.int 0), some (.int i), some (.int 3), some (.int j), some (.int n), none, none], []) (ae_en σ α z t0 ts)
  refine aw_go 1 rfl ⟨trivial, trivial⟩ ?_
  refine aw_callE rfl rfl (ev_Dried_isSheet (s := 0)) ?_
  show aw_W _ _ _ _ (2, [some (.ref 0), some (.int 0), some (.int i), some (.int 3), some (.int j), some (.int n), none, none], [.int (bI (iP 4 0))]) (ae_en σ α z t0 ts)
  refine aw_go 1 rfl ⟨trivial, trivial⟩ ?_
  refine aw_br (c := (bI (iP 4 0)) = 0) (fun h2 => ?_) (fun h2 => ?_)
  · skip
    have h2 := bI_f h2
    show aw_W _ _ _ _ (6, [some (.ref 0), some (.int 0), some (.int i), some (.int 3), some (.int j), some (.int n), none, none], []) (ae_en σ α z t0 ts)
    exact absurd h2 (by decide)
  · skip
    have h2 := bI_t h2
    show aw_W _ _ _ _ (3, [some (.ref 0), some (.int 0), some (.int i), some (.int 3), some (.int j), some (.int n), none, none], []) (ae_en σ α z t0 ts)
    refine aw_go 1 rfl ⟨trivial, trivial⟩ ?_
    refine aw_callE rfl rfl (ev_Dried_isSheet (s := 3)) ?_
    show aw_W _ _ _ _ (5, [some (.ref 0), some (.int 0), some (.int i), some (.int 3), some (.int j), some (.int n), none, none], [.int (bI (iP 4 3))]) (ae_en σ α z t0 ts)
    refine aw_go 1 rfl ⟨trivial, trivial⟩ ?_
    refine aw_br (c := ¬ (bI (iP 4 3)) = 0) (fun h5 => ?_) (fun h5 => ?_)
    · skip
      have h5 := bI_t h5
      show aw_W _ _ _ _ (8, [some (.ref 0), some (.int 0), some (.int i), some (.int 3), some (.int j), some (.int n), none, none], []) (ae_en σ α z t0 ts)
      refine aw_go 14 rfl ⟨trivial, trivial, trivial, (cI_in (a := 0) rfl (by omega) (by decide)), trivial, trivial, trivial, trivial, (cI_in (a := 3) rfl (by omega) (by decide)), trivial, trivial, trivial, trivial, trivial, trivial⟩ ?_
      show aw_W _ _ _ _ (if (σ 18) = (-1) then 26 else 22, [some (.ref 0), some (.int 0), some (.int i), some (.int 3), some (.int j), some (.int n), some (.ref 35), some (.ref 41)], []) (ae_en σ α z t0 ts)
      refine aw_br (c := (σ 18) = (-1)) (fun h21 => ?_) (fun h21 => ?_)
      · skip
        show aw_W _ _ _ _ (26, [some (.ref 0), some (.int 0), some (.int i), some (.int 3), some (.int j), some (.int n), some (.ref 35), some (.ref 41)], []) (ae_en σ α z t0 ts)
        refine aw_go 1 rfl ⟨trivial, trivial⟩ ?_
        refine aw_ret rfl rfl trivial ?_
        rw [pCopy, if_pos (Or.inl h21)]
        exact ⟨rfl, rfl⟩
      · skip
        show aw_W _ _ _ _ (22, [some (.ref 0), some (.int 0), some (.int i), some (.int 3), some (.int j), some (.int n), some (.ref 35), some (.ref 41)], []) (ae_en σ α z t0 ts)
        refine aw_go 4 rfl ⟨trivial, trivial, trivial, trivial, trivial⟩ ?_
        show aw_W _ _ _ _ (if ¬ (σ 24) = (-1) then 28 else 26, [some (.ref 0), some (.int 0), some (.int i), some (.int 3), some (.int j), some (.int n), some (.ref 35), some (.ref 41)], []) (ae_en σ α z t0 ts)
        refine aw_br (c := ¬ (σ 24) = (-1)) (fun h25 => ?_) (fun h25 => ?_)
        · skip
          show aw_W _ _ _ _ (28, [some (.ref 0), some (.int 0), some (.int i), some (.int 3), some (.int j), some (.int n), some (.ref 35), some (.ref 41)], []) (ae_en σ α z t0 ts)
          refine aw_go 5 rfl ⟨trivial, trivial, trivial, trivial, trivial, trivial⟩ ?_
          show aw_W _ _ _ _ (if (σ 18) = (σ 24) then 35 else 33, [some (.ref 0), some (.int 0), some (.int i), some (.int 3), some (.int j), some (.int n), some (.ref 35), some (.ref 41)], []) (ae_en σ α z t0 ts)
          refine aw_br (c := (σ 18) = (σ 24)) (fun h32 => ?_) (fun h32 => ?_)
          · skip
            show aw_W _ _ _ _ (35, [some (.ref 0), some (.int 0), some (.int i), some (.int 3), some (.int j), some (.int n), some (.ref 35), some (.ref 41)], []) (ae_en σ α z t0 ts)
            refine aw_go 3 rfl ⟨trivial, trivial, trivial, trivial⟩ ?_
            refine aw_callE rfl rfl (ev_holds_0 (i := i) (n := n) (hm h21) hm40) ?_
            show aw_W _ _ _ _ (39, [some (.ref 0), some (.int 0), some (.int i), some (.int 3), some (.int j), some (.int n), some (.ref 35), some (.ref 41)], [.int (bI (hHo m i n))]) (ae_en σ α z t0 ts)
            refine aw_go 1 rfl ⟨trivial, trivial⟩ ?_
            refine aw_br (c := (bI (hHo m i n)) = 0) (fun h39 => ?_) (fun h39 => ?_)
            · skip
              have h39 := bI_f h39
              show aw_W _ _ _ _ (45, [some (.ref 0), some (.int 0), some (.int i), some (.int 3), some (.int j), some (.int n), some (.ref 35), some (.ref 41)], []) (ae_en σ α z t0 ts)
              refine aw_go 1 rfl ⟨trivial, trivial⟩ ?_
              refine aw_ret rfl rfl trivial ?_
              rw [pCopy, if_neg (fun q => q.elim h21 h25), if_neg (fun q => q h32), if_neg (fun q => h39 q.1)]
              exact ⟨rfl, rfl⟩
            · skip
              have h39 := bI_t h39
              show aw_W _ _ _ _ (40, [some (.ref 0), some (.int 0), some (.int i), some (.int 3), some (.int j), some (.int n), some (.ref 35), some (.ref 41)], []) (ae_en σ α z t0 ts)
              refine aw_go 3 rfl ⟨trivial, trivial, trivial, trivial⟩ ?_
              refine aw_callE rfl rfl (ev_holds_3 (i := j) (n := n) (hm2 h25) hm240) ?_
              show aw_W _ _ _ _ (44, [some (.ref 0), some (.int 0), some (.int i), some (.int 3), some (.int j), some (.int n), some (.ref 35), some (.ref 41)], [.int (bI (hHo m2 j n))]) (ae_en σ α z t0 ts)
              refine aw_go 1 rfl ⟨trivial, trivial⟩ ?_
              refine aw_br (c := ¬ (bI (hHo m2 j n)) = 0) (fun h44 => ?_) (fun h44 => ?_)
              · skip
                have h44 := bI_t h44
                show aw_W _ _ _ _ (47, [some (.ref 0), some (.int 0), some (.int i), some (.int 3), some (.int j), some (.int n), some (.ref 35), some (.ref 41)], []) (ae_en σ α z t0 ts)
                refine aw_go 9 rfl ⟨trivial, trivial, trivial, trivial, trivial, trivial, trivial, ⟨h39.2.1, h44.2.1, h39.1, Nat.le_trans h39.2.2 hm40, Nat.le_trans h44.2.2 hm240⟩, trivial, trivial⟩ ?_
                show aw_W _ _ _ _ (56, [some (.ref 0), some (.int 0), some (.int i), some (.int 3), some (.int j), some (.int n), some (.ref 35), some (.ref 41)], [.int n]) (ae_en σ (au α [(30, va_cpy (α 27) (α 30) (i.toNatClampNeg) (j.toNatClampNeg) (n.toNatClampNeg))]) z t0 ts)
                refine aw_ret rfl rfl trivial ?_
                rw [pCopy, if_neg (fun q => q.elim h21 h25), if_neg (fun q => q h32), if_pos ⟨h39, h44⟩]
                exact ⟨rfl, rfl⟩
              · skip
                have h44 := bI_f (Classical.not_not.mp h44)
                show aw_W _ _ _ _ (45, [some (.ref 0), some (.int 0), some (.int i), some (.int 3), some (.int j), some (.int n), some (.ref 35), some (.ref 41)], []) (ae_en σ α z t0 ts)
                refine aw_go 1 rfl ⟨trivial, trivial⟩ ?_
                refine aw_ret rfl rfl trivial ?_
                rw [pCopy, if_neg (fun q => q.elim h21 h25), if_neg (fun q => q h32), if_neg (fun q => h44 q.2)]
                exact ⟨rfl, rfl⟩
          · skip
            show aw_W _ _ _ _ (33, [some (.ref 0), some (.int 0), some (.int i), some (.int 3), some (.int j), some (.int n), some (.ref 35), some (.ref 41)], []) (ae_en σ α z t0 ts)
            refine aw_go 1 rfl ⟨trivial, trivial⟩ ?_
            refine aw_ret rfl rfl trivial ?_
            rw [pCopy, if_neg (fun q => q.elim h21 h25), if_pos h32]
            exact ⟨rfl, rfl⟩
        · skip
          have h25 := Classical.not_not.mp h25
          show aw_W _ _ _ _ (26, [some (.ref 0), some (.int 0), some (.int i), some (.int 3), some (.int j), some (.int n), some (.ref 35), some (.ref 41)], []) (ae_en σ α z t0 ts)
          refine aw_go 1 rfl ⟨trivial, trivial⟩ ?_
          refine aw_ret rfl rfl trivial ?_
          rw [pCopy, if_pos (Or.inr h25)]
          exact ⟨rfl, rfl⟩
    · skip
      have h5 := bI_f (Classical.not_not.mp h5)
      show aw_W _ _ _ _ (6, [some (.ref 0), some (.int 0), some (.int i), some (.int 3), some (.int j), some (.int n), none, none], []) (ae_en σ α z t0 ts)
      exact absurd h5 (by decide)
theorem ev_copy_1_0 {m m2 : Nat} {i j n : Int32} {zd : Nat} (hm : ¬ σ 20 = -1 → σ 21 = nI m) (hm40 : m ≤ 40) (hm2 : ¬ σ 18 = -1 → σ 19 = nI m2) (hm240 : m2 ≤ 40) : aw_X P (zd + 2) 32 [.ref 0, .int 1, .int i, .int 0, .int j, .int n] (ae_en σ α z t0 ts) (fun r H => r = some (.int ((pCopy m m2 (σ 20) (σ 18) (α 28) (α 27) i j n).1)) ∧ H = (ae_en σ (au α [(27, (pCopy m m2 (σ 20) (σ 18) (α 28) (α 27) i j n).2)]) z t0 ts)) := by
  refine aw_ev (cd := cd_Dried_copy) rfl rfl rfl ?_
  show aw_W _ _ _ _ (0, [some (.ref 0), some (.int 1), some (.int i), some (.int 0), some (.int j), some (.int n), none, none], []) (ae_en σ α z t0 ts)
  refine aw_go 1 rfl ⟨trivial, trivial⟩ ?_
  refine aw_callE rfl rfl (ev_Dried_isSheet (s := 1)) ?_
  show aw_W _ _ _ _ (2, [some (.ref 0), some (.int 1), some (.int i), some (.int 0), some (.int j), some (.int n), none, none], [.int (bI (iP 4 1))]) (ae_en σ α z t0 ts)
  refine aw_go 1 rfl ⟨trivial, trivial⟩ ?_
  refine aw_br (c := (bI (iP 4 1)) = 0) (fun h2 => ?_) (fun h2 => ?_)
  · skip
    have h2 := bI_f h2
    show aw_W _ _ _ _ (6, [some (.ref 0), some (.int 1), some (.int i), some (.int 0), some (.int j), some (.int n), none, none], []) (ae_en σ α z t0 ts)
    exact absurd h2 (by decide)
  · skip
    have h2 := bI_t h2
    show aw_W _ _ _ _ (3, [some (.ref 0), some (.int 1), some (.int i), some (.int 0), some (.int j), some (.int n), none, none], []) (ae_en σ α z t0 ts)
    refine aw_go 1 rfl ⟨trivial, trivial⟩ ?_
    refine aw_callE rfl rfl (ev_Dried_isSheet (s := 0)) ?_
    show aw_W _ _ _ _ (5, [some (.ref 0), some (.int 1), some (.int i), some (.int 0), some (.int j), some (.int n), none, none], [.int (bI (iP 4 0))]) (ae_en σ α z t0 ts)
    refine aw_go 1 rfl ⟨trivial, trivial⟩ ?_
    refine aw_br (c := ¬ (bI (iP 4 0)) = 0) (fun h5 => ?_) (fun h5 => ?_)
    · skip
      have h5 := bI_t h5
      show aw_W _ _ _ _ (8, [some (.ref 0), some (.int 1), some (.int i), some (.int 0), some (.int j), some (.int n), none, none], []) (ae_en σ α z t0 ts)
      refine aw_go 14 rfl ⟨trivial, trivial, trivial, (cI_in (a := 1) rfl (by omega) (by decide)), trivial, trivial, trivial, trivial, (cI_in (a := 0) rfl (by omega) (by decide)), trivial, trivial, trivial, trivial, trivial, trivial⟩ ?_
      show aw_W _ _ _ _ (if (σ 20) = (-1) then 26 else 22, [some (.ref 0), some (.int 1), some (.int i), some (.int 0), some (.int j), some (.int n), some (.ref 37), some (.ref 35)], []) (ae_en σ α z t0 ts)
      refine aw_br (c := (σ 20) = (-1)) (fun h21 => ?_) (fun h21 => ?_)
      · skip
        show aw_W _ _ _ _ (26, [some (.ref 0), some (.int 1), some (.int i), some (.int 0), some (.int j), some (.int n), some (.ref 37), some (.ref 35)], []) (ae_en σ α z t0 ts)
        refine aw_go 1 rfl ⟨trivial, trivial⟩ ?_
        refine aw_ret rfl rfl trivial ?_
        rw [pCopy, if_pos (Or.inl h21)]
        exact ⟨rfl, rfl⟩
      · skip
        show aw_W _ _ _ _ (22, [some (.ref 0), some (.int 1), some (.int i), some (.int 0), some (.int j), some (.int n), some (.ref 37), some (.ref 35)], []) (ae_en σ α z t0 ts)
        refine aw_go 4 rfl ⟨trivial, trivial, trivial, trivial, trivial⟩ ?_
        show aw_W _ _ _ _ (if ¬ (σ 18) = (-1) then 28 else 26, [some (.ref 0), some (.int 1), some (.int i), some (.int 0), some (.int j), some (.int n), some (.ref 37), some (.ref 35)], []) (ae_en σ α z t0 ts)
        refine aw_br (c := ¬ (σ 18) = (-1)) (fun h25 => ?_) (fun h25 => ?_)
        · skip
          show aw_W _ _ _ _ (28, [some (.ref 0), some (.int 1), some (.int i), some (.int 0), some (.int j), some (.int n), some (.ref 37), some (.ref 35)], []) (ae_en σ α z t0 ts)
          refine aw_go 5 rfl ⟨trivial, trivial, trivial, trivial, trivial, trivial⟩ ?_
          show aw_W _ _ _ _ (if (σ 20) = (σ 18) then 35 else 33, [some (.ref 0), some (.int 1), some (.int i), some (.int 0), some (.int j), some (.int n), some (.ref 37), some (.ref 35)], []) (ae_en σ α z t0 ts)
          refine aw_br (c := (σ 20) = (σ 18)) (fun h32 => ?_) (fun h32 => ?_)
          · skip
            show aw_W _ _ _ _ (35, [some (.ref 0), some (.int 1), some (.int i), some (.int 0), some (.int j), some (.int n), some (.ref 37), some (.ref 35)], []) (ae_en σ α z t0 ts)
            refine aw_go 3 rfl ⟨trivial, trivial, trivial, trivial⟩ ?_
            refine aw_callE rfl rfl (ev_holds_1 (i := i) (n := n) (hm h21) hm40) ?_
            show aw_W _ _ _ _ (39, [some (.ref 0), some (.int 1), some (.int i), some (.int 0), some (.int j), some (.int n), some (.ref 37), some (.ref 35)], [.int (bI (hHo m i n))]) (ae_en σ α z t0 ts)
            refine aw_go 1 rfl ⟨trivial, trivial⟩ ?_
            refine aw_br (c := (bI (hHo m i n)) = 0) (fun h39 => ?_) (fun h39 => ?_)
            · skip
              have h39 := bI_f h39
              show aw_W _ _ _ _ (45, [some (.ref 0), some (.int 1), some (.int i), some (.int 0), some (.int j), some (.int n), some (.ref 37), some (.ref 35)], []) (ae_en σ α z t0 ts)
              refine aw_go 1 rfl ⟨trivial, trivial⟩ ?_
              refine aw_ret rfl rfl trivial ?_
              rw [pCopy, if_neg (fun q => q.elim h21 h25), if_neg (fun q => q h32), if_neg (fun q => h39 q.1)]
              exact ⟨rfl, rfl⟩
            · skip
              have h39 := bI_t h39
              show aw_W _ _ _ _ (40, [some (.ref 0), some (.int 1), some (.int i), some (.int 0), some (.int j), some (.int n), some (.ref 37), some (.ref 35)], []) (ae_en σ α z t0 ts)
              refine aw_go 3 rfl ⟨trivial, trivial, trivial, trivial⟩ ?_
              refine aw_callE rfl rfl (ev_holds_0 (i := j) (n := n) (hm2 h25) hm240) ?_
              show aw_W _ _ _ _ (44, [some (.ref 0), some (.int 1), some (.int i), some (.int 0), some (.int j), some (.int n), some (.ref 37), some (.ref 35)], [.int (bI (hHo m2 j n))]) (ae_en σ α z t0 ts)
              refine aw_go 1 rfl ⟨trivial, trivial⟩ ?_
              refine aw_br (c := ¬ (bI (hHo m2 j n)) = 0) (fun h44 => ?_) (fun h44 => ?_)
              · skip
                have h44 := bI_t h44
                show aw_W _ _ _ _ (47, [some (.ref 0), some (.int 1), some (.int i), some (.int 0), some (.int j), some (.int n), some (.ref 37), some (.ref 35)], []) (ae_en σ α z t0 ts)
                refine aw_go 9 rfl ⟨trivial, trivial, trivial, trivial, trivial, trivial, trivial, ⟨h39.2.1, h44.2.1, h39.1, Nat.le_trans h39.2.2 hm40, Nat.le_trans h44.2.2 hm240⟩, trivial, trivial⟩ ?_
                show aw_W _ _ _ _ (56, [some (.ref 0), some (.int 1), some (.int i), some (.int 0), some (.int j), some (.int n), some (.ref 37), some (.ref 35)], [.int n]) (ae_en σ (au α [(27, va_cpy (α 28) (α 27) (i.toNatClampNeg) (j.toNatClampNeg) (n.toNatClampNeg))]) z t0 ts)
                refine aw_ret rfl rfl trivial ?_
                rw [pCopy, if_neg (fun q => q.elim h21 h25), if_neg (fun q => q h32), if_pos ⟨h39, h44⟩]
                exact ⟨rfl, rfl⟩
              · skip
                have h44 := bI_f (Classical.not_not.mp h44)
                show aw_W _ _ _ _ (45, [some (.ref 0), some (.int 1), some (.int i), some (.int 0), some (.int j), some (.int n), some (.ref 37), some (.ref 35)], []) (ae_en σ α z t0 ts)
                refine aw_go 1 rfl ⟨trivial, trivial⟩ ?_
                refine aw_ret rfl rfl trivial ?_
                rw [pCopy, if_neg (fun q => q.elim h21 h25), if_neg (fun q => q h32), if_neg (fun q => h44 q.2)]
                exact ⟨rfl, rfl⟩
          · skip
            show aw_W _ _ _ _ (33, [some (.ref 0), some (.int 1), some (.int i), some (.int 0), some (.int j), some (.int n), some (.ref 37), some (.ref 35)], []) (ae_en σ α z t0 ts)
            refine aw_go 1 rfl ⟨trivial, trivial⟩ ?_
            refine aw_ret rfl rfl trivial ?_
            rw [pCopy, if_neg (fun q => q.elim h21 h25), if_pos h32]
            exact ⟨rfl, rfl⟩
        · skip
          have h25 := Classical.not_not.mp h25
          show aw_W _ _ _ _ (26, [some (.ref 0), some (.int 1), some (.int i), some (.int 0), some (.int j), some (.int n), some (.ref 37), some (.ref 35)], []) (ae_en σ α z t0 ts)
          refine aw_go 1 rfl ⟨trivial, trivial⟩ ?_
          refine aw_ret rfl rfl trivial ?_
          rw [pCopy, if_pos (Or.inr h25)]
          exact ⟨rfl, rfl⟩
    · skip
      have h5 := bI_f (Classical.not_not.mp h5)
      show aw_W _ _ _ _ (6, [some (.ref 0), some (.int 1), some (.int i), some (.int 0), some (.int j), some (.int n), none, none], []) (ae_en σ α z t0 ts)
      exact absurd h5 (by decide)
theorem ev_copy_1_1 {m m2 : Nat} {i j n : Int32} {zd : Nat} (hm : ¬ σ 20 = -1 → σ 21 = nI m) (hm40 : m ≤ 40) (hm2 : ¬ σ 20 = -1 → σ 21 = nI m2) (hm240 : m2 ≤ 40) : aw_X P (zd + 2) 32 [.ref 0, .int 1, .int i, .int 1, .int j, .int n] (ae_en σ α z t0 ts) (fun r H => r = some (.int ((pCopy m m2 (σ 20) (σ 20) (α 28) (α 28) i j n).1)) ∧ H = (ae_en σ (au α [(28, (pCopy m m2 (σ 20) (σ 20) (α 28) (α 28) i j n).2)]) z t0 ts)) := by
  refine aw_ev (cd := cd_Dried_copy) rfl rfl rfl ?_
  show aw_W _ _ _ _ (0, [some (.ref 0), some (.int 1), some (.int i), some (.int 1), some (.int j), some (.int n), none, none], []) (ae_en σ α z t0 ts)
  refine aw_go 1 rfl ⟨trivial, trivial⟩ ?_
  refine aw_callE rfl rfl (ev_Dried_isSheet (s := 1)) ?_
  show aw_W _ _ _ _ (2, [some (.ref 0), some (.int 1), some (.int i), some (.int 1), some (.int j), some (.int n), none, none], [.int (bI (iP 4 1))]) (ae_en σ α z t0 ts)
  refine aw_go 1 rfl ⟨trivial, trivial⟩ ?_
  refine aw_br (c := (bI (iP 4 1)) = 0) (fun h2 => ?_) (fun h2 => ?_)
  · skip
    have h2 := bI_f h2
    show aw_W _ _ _ _ (6, [some (.ref 0), some (.int 1), some (.int i), some (.int 1), some (.int j), some (.int n), none, none], []) (ae_en σ α z t0 ts)
    exact absurd h2 (by decide)
  · skip
    have h2 := bI_t h2
    show aw_W _ _ _ _ (3, [some (.ref 0), some (.int 1), some (.int i), some (.int 1), some (.int j), some (.int n), none, none], []) (ae_en σ α z t0 ts)
    refine aw_go 1 rfl ⟨trivial, trivial⟩ ?_
    refine aw_callE rfl rfl (ev_Dried_isSheet (s := 1)) ?_
    show aw_W _ _ _ _ (5, [some (.ref 0), some (.int 1), some (.int i), some (.int 1), some (.int j), some (.int n), none, none], [.int (bI (iP 4 1))]) (ae_en σ α z t0 ts)
    refine aw_go 1 rfl ⟨trivial, trivial⟩ ?_
    refine aw_br (c := ¬ (bI (iP 4 1)) = 0) (fun h5 => ?_) (fun h5 => ?_)
    · skip
      have h5 := bI_t h5
      show aw_W _ _ _ _ (8, [some (.ref 0), some (.int 1), some (.int i), some (.int 1), some (.int j), some (.int n), none, none], []) (ae_en σ α z t0 ts)
      refine aw_go 14 rfl ⟨trivial, trivial, trivial, (cI_in (a := 1) rfl (by omega) (by decide)), trivial, trivial, trivial, trivial, (cI_in (a := 1) rfl (by omega) (by decide)), trivial, trivial, trivial, trivial, trivial, trivial⟩ ?_
      show aw_W _ _ _ _ (if (σ 20) = (-1) then 26 else 22, [some (.ref 0), some (.int 1), some (.int i), some (.int 1), some (.int j), some (.int n), some (.ref 37), some (.ref 37)], []) (ae_en σ α z t0 ts)
      refine aw_br (c := (σ 20) = (-1)) (fun h21 => ?_) (fun h21 => ?_)
      · skip
        show aw_W _ _ _ _ (26, [some (.ref 0), some (.int 1), some (.int i), some (.int 1), some (.int j), some (.int n), some (.ref 37), some (.ref 37)], []) (ae_en σ α z t0 ts)
        refine aw_go 1 rfl ⟨trivial, trivial⟩ ?_
        refine aw_ret rfl rfl trivial ?_
        rw [pCopy, if_pos (Or.inl h21)]
        exact ⟨rfl, rfl⟩
      · skip
        show aw_W _ _ _ _ (22, [some (.ref 0), some (.int 1), some (.int i), some (.int 1), some (.int j), some (.int n), some (.ref 37), some (.ref 37)], []) (ae_en σ α z t0 ts)
        refine aw_go 4 rfl ⟨trivial, trivial, trivial, trivial, trivial⟩ ?_
        show aw_W _ _ _ _ (if ¬ (σ 20) = (-1) then 28 else 26, [some (.ref 0), some (.int 1), some (.int i), some (.int 1), some (.int j), some (.int n), some (.ref 37), some (.ref 37)], []) (ae_en σ α z t0 ts)
        refine aw_br (c := ¬ (σ 20) = (-1)) (fun h25 => ?_) (fun h25 => ?_)
        · skip
          show aw_W _ _ _ _ (28, [some (.ref 0), some (.int 1), some (.int i), some (.int 1), some (.int j), some (.int n), some (.ref 37), some (.ref 37)], []) (ae_en σ α z t0 ts)
          refine aw_go 5 rfl ⟨trivial, trivial, trivial, trivial, trivial, trivial⟩ ?_
          show aw_W _ _ _ _ (if (σ 20) = (σ 20) then 35 else 33, [some (.ref 0), some (.int 1), some (.int i), some (.int 1), some (.int j), some (.int n), some (.ref 37), some (.ref 37)], []) (ae_en σ α z t0 ts)
          refine aw_br (c := (σ 20) = (σ 20)) (fun h32 => ?_) (fun h32 => ?_)
          · skip
            show aw_W _ _ _ _ (35, [some (.ref 0), some (.int 1), some (.int i), some (.int 1), some (.int j), some (.int n), some (.ref 37), some (.ref 37)], []) (ae_en σ α z t0 ts)
            refine aw_go 3 rfl ⟨trivial, trivial, trivial, trivial⟩ ?_
            refine aw_callE rfl rfl (ev_holds_1 (i := i) (n := n) (hm h21) hm40) ?_
            show aw_W _ _ _ _ (39, [some (.ref 0), some (.int 1), some (.int i), some (.int 1), some (.int j), some (.int n), some (.ref 37), some (.ref 37)], [.int (bI (hHo m i n))]) (ae_en σ α z t0 ts)
            refine aw_go 1 rfl ⟨trivial, trivial⟩ ?_
            refine aw_br (c := (bI (hHo m i n)) = 0) (fun h39 => ?_) (fun h39 => ?_)
            · skip
              have h39 := bI_f h39
              show aw_W _ _ _ _ (45, [some (.ref 0), some (.int 1), some (.int i), some (.int 1), some (.int j), some (.int n), some (.ref 37), some (.ref 37)], []) (ae_en σ α z t0 ts)
              refine aw_go 1 rfl ⟨trivial, trivial⟩ ?_
              refine aw_ret rfl rfl trivial ?_
              rw [pCopy, if_neg (fun q => q.elim h21 h25), if_neg (fun q => q h32), if_neg (fun q => h39 q.1)]
              exact ⟨rfl, rfl⟩
            · skip
              have h39 := bI_t h39
              show aw_W _ _ _ _ (40, [some (.ref 0), some (.int 1), some (.int i), some (.int 1), some (.int j), some (.int n), some (.ref 37), some (.ref 37)], []) (ae_en σ α z t0 ts)
              refine aw_go 3 rfl ⟨trivial, trivial, trivial, trivial⟩ ?_
              refine aw_callE rfl rfl (ev_holds_1 (i := j) (n := n) (hm2 h25) hm240) ?_
              show aw_W _ _ _ _ (44, [some (.ref 0), some (.int 1), some (.int i), some (.int 1), some (.int j), some (.int n), some (.ref 37), some (.ref 37)], [.int (bI (hHo m2 j n))]) (ae_en σ α z t0 ts)
              refine aw_go 1 rfl ⟨trivial, trivial⟩ ?_
              refine aw_br (c := ¬ (bI (hHo m2 j n)) = 0) (fun h44 => ?_) (fun h44 => ?_)
              · skip
                have h44 := bI_t h44
                show aw_W _ _ _ _ (47, [some (.ref 0), some (.int 1), some (.int i), some (.int 1), some (.int j), some (.int n), some (.ref 37), some (.ref 37)], []) (ae_en σ α z t0 ts)
                refine aw_go 9 rfl ⟨trivial, trivial, trivial, trivial, trivial, trivial, trivial, ⟨h39.2.1, h44.2.1, h39.1, Nat.le_trans h39.2.2 hm40, Nat.le_trans h44.2.2 hm240⟩, trivial, trivial⟩ ?_
                show aw_W _ _ _ _ (56, [some (.ref 0), some (.int 1), some (.int i), some (.int 1), some (.int j), some (.int n), some (.ref 37), some (.ref 37)], [.int n]) (ae_en σ (au α [(28, va_cpy (α 28) (α 28) (i.toNatClampNeg) (j.toNatClampNeg) (n.toNatClampNeg))]) z t0 ts)
                refine aw_ret rfl rfl trivial ?_
                rw [pCopy, if_neg (fun q => q.elim h21 h25), if_neg (fun q => q h32), if_pos ⟨h39, h44⟩]
                exact ⟨rfl, rfl⟩
              · skip
                have h44 := bI_f (Classical.not_not.mp h44)
                show aw_W _ _ _ _ (45, [some (.ref 0), some (.int 1), some (.int i), some (.int 1), some (.int j), some (.int n), some (.ref 37), some (.ref 37)], []) (ae_en σ α z t0 ts)
                refine aw_go 1 rfl ⟨trivial, trivial⟩ ?_
                refine aw_ret rfl rfl trivial ?_
                rw [pCopy, if_neg (fun q => q.elim h21 h25), if_neg (fun q => q h32), if_neg (fun q => h44 q.2)]
                exact ⟨rfl, rfl⟩
          · skip
            show aw_W _ _ _ _ (33, [some (.ref 0), some (.int 1), some (.int i), some (.int 1), some (.int j), some (.int n), some (.ref 37), some (.ref 37)], []) (ae_en σ α z t0 ts)
            refine aw_go 1 rfl ⟨trivial, trivial⟩ ?_
            refine aw_ret rfl rfl trivial ?_
            rw [pCopy, if_neg (fun q => q.elim h21 h25), if_pos h32]
            exact ⟨rfl, rfl⟩
        · skip
          have h25 := Classical.not_not.mp h25
          show aw_W _ _ _ _ (26, [some (.ref 0), some (.int 1), some (.int i), some (.int 1), some (.int j), some (.int n), some (.ref 37), some (.ref 37)], []) (ae_en σ α z t0 ts)
          refine aw_go 1 rfl ⟨trivial, trivial⟩ ?_
          refine aw_ret rfl rfl trivial ?_
          rw [pCopy, if_pos (Or.inr h25)]
          exact ⟨rfl, rfl⟩
    · skip
      have h5 := bI_f (Classical.not_not.mp h5)
      show aw_W _ _ _ _ (6, [some (.ref 0), some (.int 1), some (.int i), some (.int 1), some (.int j), some (.int n), none, none], []) (ae_en σ α z t0 ts)
      exact absurd h5 (by decide)
theorem ev_copy_1_2 {m m2 : Nat} {i j n : Int32} {zd : Nat} (hm : ¬ σ 20 = -1 → σ 21 = nI m) (hm40 : m ≤ 40) (hm2 : ¬ σ 22 = -1 → σ 23 = nI m2) (hm240 : m2 ≤ 40) : aw_X P (zd + 2) 32 [.ref 0, .int 1, .int i, .int 2, .int j, .int n] (ae_en σ α z t0 ts) (fun r H => r = some (.int ((pCopy m m2 (σ 20) (σ 22) (α 28) (α 29) i j n).1)) ∧ H = (ae_en σ (au α [(29, (pCopy m m2 (σ 20) (σ 22) (α 28) (α 29) i j n).2)]) z t0 ts)) := by
  refine aw_ev (cd := cd_Dried_copy) rfl rfl rfl ?_
  show aw_W _ _ _ _ (0, [some (.ref 0), some (.int 1), some (.int i), some (.int 2), some (.int j), some (.int n), none, none], []) (ae_en σ α z t0 ts)
  refine aw_go 1 rfl ⟨trivial, trivial⟩ ?_
  refine aw_callE rfl rfl (ev_Dried_isSheet (s := 1)) ?_
  show aw_W _ _ _ _ (2, [some (.ref 0), some (.int 1), some (.int i), some (.int 2), some (.int j), some (.int n), none, none], [.int (bI (iP 4 1))]) (ae_en σ α z t0 ts)
  refine aw_go 1 rfl ⟨trivial, trivial⟩ ?_
  refine aw_br (c := (bI (iP 4 1)) = 0) (fun h2 => ?_) (fun h2 => ?_)
  · skip
    have h2 := bI_f h2
    show aw_W _ _ _ _ (6, [some (.ref 0), some (.int 1), some (.int i), some (.int 2), some (.int j), some (.int n), none, none], []) (ae_en σ α z t0 ts)
    exact absurd h2 (by decide)
  · skip
    have h2 := bI_t h2
    show aw_W _ _ _ _ (3, [some (.ref 0), some (.int 1), some (.int i), some (.int 2), some (.int j), some (.int n), none, none], []) (ae_en σ α z t0 ts)
    refine aw_go 1 rfl ⟨trivial, trivial⟩ ?_
    refine aw_callE rfl rfl (ev_Dried_isSheet (s := 2)) ?_
    show aw_W _ _ _ _ (5, [some (.ref 0), some (.int 1), some (.int i), some (.int 2), some (.int j), some (.int n), none, none], [.int (bI (iP 4 2))]) (ae_en σ α z t0 ts)
    refine aw_go 1 rfl ⟨trivial, trivial⟩ ?_
    refine aw_br (c := ¬ (bI (iP 4 2)) = 0) (fun h5 => ?_) (fun h5 => ?_)
    · skip
      have h5 := bI_t h5
      show aw_W _ _ _ _ (8, [some (.ref 0), some (.int 1), some (.int i), some (.int 2), some (.int j), some (.int n), none, none], []) (ae_en σ α z t0 ts)
      refine aw_go 14 rfl ⟨trivial, trivial, trivial, (cI_in (a := 1) rfl (by omega) (by decide)), trivial, trivial, trivial, trivial, (cI_in (a := 2) rfl (by omega) (by decide)), trivial, trivial, trivial, trivial, trivial, trivial⟩ ?_
      show aw_W _ _ _ _ (if (σ 20) = (-1) then 26 else 22, [some (.ref 0), some (.int 1), some (.int i), some (.int 2), some (.int j), some (.int n), some (.ref 37), some (.ref 39)], []) (ae_en σ α z t0 ts)
      refine aw_br (c := (σ 20) = (-1)) (fun h21 => ?_) (fun h21 => ?_)
      · skip
        show aw_W _ _ _ _ (26, [some (.ref 0), some (.int 1), some (.int i), some (.int 2), some (.int j), some (.int n), some (.ref 37), some (.ref 39)], []) (ae_en σ α z t0 ts)
        refine aw_go 1 rfl ⟨trivial, trivial⟩ ?_
        refine aw_ret rfl rfl trivial ?_
        rw [pCopy, if_pos (Or.inl h21)]
        exact ⟨rfl, rfl⟩
      · skip
        show aw_W _ _ _ _ (22, [some (.ref 0), some (.int 1), some (.int i), some (.int 2), some (.int j), some (.int n), some (.ref 37), some (.ref 39)], []) (ae_en σ α z t0 ts)
        refine aw_go 4 rfl ⟨trivial, trivial, trivial, trivial, trivial⟩ ?_
        show aw_W _ _ _ _ (if ¬ (σ 22) = (-1) then 28 else 26, [some (.ref 0), some (.int 1), some (.int i), some (.int 2), some (.int j), some (.int n), some (.ref 37), some (.ref 39)], []) (ae_en σ α z t0 ts)
        refine aw_br (c := ¬ (σ 22) = (-1)) (fun h25 => ?_) (fun h25 => ?_)
        · skip
          show aw_W _ _ _ _ (28, [some (.ref 0), some (.int 1), some (.int i), some (.int 2), some (.int j), some (.int n), some (.ref 37), some (.ref 39)], []) (ae_en σ α z t0 ts)
          refine aw_go 5 rfl ⟨trivial, trivial, trivial, trivial, trivial, trivial⟩ ?_
          show aw_W _ _ _ _ (if (σ 20) = (σ 22) then 35 else 33, [some (.ref 0), some (.int 1), some (.int i), some (.int 2), some (.int j), some (.int n), some (.ref 37), some (.ref 39)], []) (ae_en σ α z t0 ts)
          refine aw_br (c := (σ 20) = (σ 22)) (fun h32 => ?_) (fun h32 => ?_)
          · skip
            show aw_W _ _ _ _ (35, [some (.ref 0), some (.int 1), some (.int i), some (.int 2), some (.int j), some (.int n), some (.ref 37), some (.ref 39)], []) (ae_en σ α z t0 ts)
            refine aw_go 3 rfl ⟨trivial, trivial, trivial, trivial⟩ ?_
            refine aw_callE rfl rfl (ev_holds_1 (i := i) (n := n) (hm h21) hm40) ?_
            show aw_W _ _ _ _ (39, [some (.ref 0), some (.int 1), some (.int i), some (.int 2), some (.int j), some (.int n), some (.ref 37), some (.ref 39)], [.int (bI (hHo m i n))]) (ae_en σ α z t0 ts)
            refine aw_go 1 rfl ⟨trivial, trivial⟩ ?_
            refine aw_br (c := (bI (hHo m i n)) = 0) (fun h39 => ?_) (fun h39 => ?_)
            · skip
              have h39 := bI_f h39
              show aw_W _ _ _ _ (45, [some (.ref 0), some (.int 1), some (.int i), some (.int 2), some (.int j), some (.int n), some (.ref 37), some (.ref 39)], []) (ae_en σ α z t0 ts)
              refine aw_go 1 rfl ⟨trivial, trivial⟩ ?_
              refine aw_ret rfl rfl trivial ?_
              rw [pCopy, if_neg (fun q => q.elim h21 h25), if_neg (fun q => q h32), if_neg (fun q => h39 q.1)]
              exact ⟨rfl, rfl⟩
            · skip
              have h39 := bI_t h39
              show aw_W _ _ _ _ (40, [some (.ref 0), some (.int 1), some (.int i), some (.int 2), some (.int j), some (.int n), some (.ref 37), some (.ref 39)], []) (ae_en σ α z t0 ts)
              refine aw_go 3 rfl ⟨trivial, trivial, trivial, trivial⟩ ?_
              refine aw_callE rfl rfl (ev_holds_2 (i := j) (n := n) (hm2 h25) hm240) ?_
              show aw_W _ _ _ _ (44, [some (.ref 0), some (.int 1), some (.int i), some (.int 2), some (.int j), some (.int n), some (.ref 37), some (.ref 39)], [.int (bI (hHo m2 j n))]) (ae_en σ α z t0 ts)
              refine aw_go 1 rfl ⟨trivial, trivial⟩ ?_
              refine aw_br (c := ¬ (bI (hHo m2 j n)) = 0) (fun h44 => ?_) (fun h44 => ?_)
              · skip
                have h44 := bI_t h44
                show aw_W _ _ _ _ (47, [some (.ref 0), some (.int 1), some (.int i), some (.int 2), some (.int j), some (.int n), some (.ref 37), some (.ref 39)], []) (ae_en σ α z t0 ts)
                refine aw_go 9 rfl ⟨trivial, trivial, trivial, trivial, trivial, trivial, trivial, ⟨h39.2.1, h44.2.1, h39.1, Nat.le_trans h39.2.2 hm40, Nat.le_trans h44.2.2 hm240⟩, trivial, trivial⟩ ?_
                show aw_W _ _ _ _ (56, [some (.ref 0), some (.int 1), some (.int i), some (.int 2), some (.int j), some (.int n), some (.ref 37), some (.ref 39)], [.int n]) (ae_en σ (au α [(29, va_cpy (α 28) (α 29) (i.toNatClampNeg) (j.toNatClampNeg) (n.toNatClampNeg))]) z t0 ts)
                refine aw_ret rfl rfl trivial ?_
                rw [pCopy, if_neg (fun q => q.elim h21 h25), if_neg (fun q => q h32), if_pos ⟨h39, h44⟩]
                exact ⟨rfl, rfl⟩
              · skip
                have h44 := bI_f (Classical.not_not.mp h44)
                show aw_W _ _ _ _ (45, [some (.ref 0), some (.int 1), some (.int i), some (.int 2), some (.int j), some (.int n), some (.ref 37), some (.ref 39)], []) (ae_en σ α z t0 ts)
                refine aw_go 1 rfl ⟨trivial, trivial⟩ ?_
                refine aw_ret rfl rfl trivial ?_
                rw [pCopy, if_neg (fun q => q.elim h21 h25), if_neg (fun q => q h32), if_neg (fun q => h44 q.2)]
                exact ⟨rfl, rfl⟩
          · skip
            show aw_W _ _ _ _ (33, [some (.ref 0), some (.int 1), some (.int i), some (.int 2), some (.int j), some (.int n), some (.ref 37), some (.ref 39)], []) (ae_en σ α z t0 ts)
            refine aw_go 1 rfl ⟨trivial, trivial⟩ ?_
            refine aw_ret rfl rfl trivial ?_
            rw [pCopy, if_neg (fun q => q.elim h21 h25), if_pos h32]
            exact ⟨rfl, rfl⟩
        · skip
          have h25 := Classical.not_not.mp h25
          show aw_W _ _ _ _ (26, [some (.ref 0), some (.int 1), some (.int i), some (.int 2), some (.int j), some (.int n), some (.ref 37), some (.ref 39)], []) (ae_en σ α z t0 ts)
          refine aw_go 1 rfl ⟨trivial, trivial⟩ ?_
          refine aw_ret rfl rfl trivial ?_
          rw [pCopy, if_pos (Or.inr h25)]
          exact ⟨rfl, rfl⟩
    · skip
      have h5 := bI_f (Classical.not_not.mp h5)
      show aw_W _ _ _ _ (6, [some (.ref 0), some (.int 1), some (.int i), some (.int 2), some (.int j), some (.int n), none, none], []) (ae_en σ α z t0 ts)
      exact absurd h5 (by decide)
theorem ev_copy_1_3 {m m2 : Nat} {i j n : Int32} {zd : Nat} (hm : ¬ σ 20 = -1 → σ 21 = nI m) (hm40 : m ≤ 40) (hm2 : ¬ σ 24 = -1 → σ 25 = nI m2) (hm240 : m2 ≤ 40) : aw_X P (zd + 2) 32 [.ref 0, .int 1, .int i, .int 3, .int j, .int n] (ae_en σ α z t0 ts) (fun r H => r = some (.int ((pCopy m m2 (σ 20) (σ 24) (α 28) (α 30) i j n).1)) ∧ H = (ae_en σ (au α [(30, (pCopy m m2 (σ 20) (σ 24) (α 28) (α 30) i j n).2)]) z t0 ts)) := by
  refine aw_ev (cd := cd_Dried_copy) rfl rfl rfl ?_
  show aw_W _ _ _ _ (0, [some (.ref 0), some (.int 1), some (.int i), some (.int 3), some (.int j), some (.int n), none, none], []) (ae_en σ α z t0 ts)
  refine aw_go 1 rfl ⟨trivial, trivial⟩ ?_
  refine aw_callE rfl rfl (ev_Dried_isSheet (s := 1)) ?_
  show aw_W _ _ _ _ (2, [some (.ref 0), some (.int 1), some (.int i), some (.int 3), some (.int j), some (.int n), none, none], [.int (bI (iP 4 1))]) (ae_en σ α z t0 ts)
  refine aw_go 1 rfl ⟨trivial, trivial⟩ ?_
  refine aw_br (c := (bI (iP 4 1)) = 0) (fun h2 => ?_) (fun h2 => ?_)
  · skip
    have h2 := bI_f h2
    show aw_W _ _ _ _ (6, [some (.ref 0), some (.int 1), some (.int i), some (.int 3), some (.int j), some (.int n), none, none], []) (ae_en σ α z t0 ts)
    exact absurd h2 (by decide)
  · skip
    have h2 := bI_t h2
    show aw_W _ _ _ _ (3, [some (.ref 0), some (.int 1), some (.int i), some (.int 3), some (.int j), some (.int n), none, none], []) (ae_en σ α z t0 ts)
    refine aw_go 1 rfl ⟨trivial, trivial⟩ ?_
    refine aw_callE rfl rfl (ev_Dried_isSheet (s := 3)) ?_
    show aw_W _ _ _ _ (5, [some (.ref 0), some (.int 1), some (.int i), some (.int 3), some (.int j), some (.int n), none, none], [.int (bI (iP 4 3))]) (ae_en σ α z t0 ts)
    refine aw_go 1 rfl ⟨trivial, trivial⟩ ?_
    refine aw_br (c := ¬ (bI (iP 4 3)) = 0) (fun h5 => ?_) (fun h5 => ?_)
    · skip
      have h5 := bI_t h5
      show aw_W _ _ _ _ (8, [some (.ref 0), some (.int 1), some (.int i), some (.int 3), some (.int j), some (.int n), none, none], []) (ae_en σ α z t0 ts)
      refine aw_go 14 rfl ⟨trivial, trivial, trivial, (cI_in (a := 1) rfl (by omega) (by decide)), trivial, trivial, trivial, trivial, (cI_in (a := 3) rfl (by omega) (by decide)), trivial, trivial, trivial, trivial, trivial, trivial⟩ ?_
      show aw_W _ _ _ _ (if (σ 20) = (-1) then 26 else 22, [some (.ref 0), some (.int 1), some (.int i), some (.int 3), some (.int j), some (.int n), some (.ref 37), some (.ref 41)], []) (ae_en σ α z t0 ts)
      refine aw_br (c := (σ 20) = (-1)) (fun h21 => ?_) (fun h21 => ?_)
      · skip
        show aw_W _ _ _ _ (26, [some (.ref 0), some (.int 1), some (.int i), some (.int 3), some (.int j), some (.int n), some (.ref 37), some (.ref 41)], []) (ae_en σ α z t0 ts)
        refine aw_go 1 rfl ⟨trivial, trivial⟩ ?_
        refine aw_ret rfl rfl trivial ?_
        rw [pCopy, if_pos (Or.inl h21)]
        exact ⟨rfl, rfl⟩
      · skip
        show aw_W _ _ _ _ (22, [some (.ref 0), some (.int 1), some (.int i), some (.int 3), some (.int j), some (.int n), some (.ref 37), some (.ref 41)], []) (ae_en σ α z t0 ts)
        refine aw_go 4 rfl ⟨trivial, trivial, trivial, trivial, trivial⟩ ?_
        show aw_W _ _ _ _ (if ¬ (σ 24) = (-1) then 28 else 26, [some (.ref 0), some (.int 1), some (.int i), some (.int 3), some (.int j), some (.int n), some (.ref 37), some (.ref 41)], []) (ae_en σ α z t0 ts)
        refine aw_br (c := ¬ (σ 24) = (-1)) (fun h25 => ?_) (fun h25 => ?_)
        · skip
          show aw_W _ _ _ _ (28, [some (.ref 0), some (.int 1), some (.int i), some (.int 3), some (.int j), some (.int n), some (.ref 37), some (.ref 41)], []) (ae_en σ α z t0 ts)
          refine aw_go 5 rfl ⟨trivial, trivial, trivial, trivial, trivial, trivial⟩ ?_
          show aw_W _ _ _ _ (if (σ 20) = (σ 24) then 35 else 33, [some (.ref 0), some (.int 1), some (.int i), some (.int 3), some (.int j), some (.int n), some (.ref 37), some (.ref 41)], []) (ae_en σ α z t0 ts)
          refine aw_br (c := (σ 20) = (σ 24)) (fun h32 => ?_) (fun h32 => ?_)
          · skip
            show aw_W _ _ _ _ (35, [some (.ref 0), some (.int 1), some (.int i), some (.int 3), some (.int j), some (.int n), some (.ref 37), some (.ref 41)], []) (ae_en σ α z t0 ts)
            refine aw_go 3 rfl ⟨trivial, trivial, trivial, trivial⟩ ?_
            refine aw_callE rfl rfl (ev_holds_1 (i := i) (n := n) (hm h21) hm40) ?_
            show aw_W _ _ _ _ (39, [some (.ref 0), some (.int 1), some (.int i), some (.int 3), some (.int j), some (.int n), some (.ref 37), some (.ref 41)], [.int (bI (hHo m i n))]) (ae_en σ α z t0 ts)
            refine aw_go 1 rfl ⟨trivial, trivial⟩ ?_
            refine aw_br (c := (bI (hHo m i n)) = 0) (fun h39 => ?_) (fun h39 => ?_)
            · skip
              have h39 := bI_f h39
              show aw_W _ _ _ _ (45, [some (.ref 0), some (.int 1), some (.int i), some (.int 3), some (.int j), some (.int n), some (.ref 37), some (.ref 41)], []) (ae_en σ α z t0 ts)
              refine aw_go 1 rfl ⟨trivial, trivial⟩ ?_
              refine aw_ret rfl rfl trivial ?_
              rw [pCopy, if_neg (fun q => q.elim h21 h25), if_neg (fun q => q h32), if_neg (fun q => h39 q.1)]
              exact ⟨rfl, rfl⟩
            · skip
              have h39 := bI_t h39
              show aw_W _ _ _ _ (40, [some (.ref 0), some (.int 1), some (.int i), some (.int 3), some (.int j), some (.int n), some (.ref 37), some (.ref 41)], []) (ae_en σ α z t0 ts)
              refine aw_go 3 rfl ⟨trivial, trivial, trivial, trivial⟩ ?_
              refine aw_callE rfl rfl (ev_holds_3 (i := j) (n := n) (hm2 h25) hm240) ?_
              show aw_W _ _ _ _ (44, [some (.ref 0), some (.int 1), some (.int i), some (.int 3), some (.int j), some (.int n), some (.ref 37), some (.ref 41)], [.int (bI (hHo m2 j n))]) (ae_en σ α z t0 ts)
              refine aw_go 1 rfl ⟨trivial, trivial⟩ ?_
              refine aw_br (c := ¬ (bI (hHo m2 j n)) = 0) (fun h44 => ?_) (fun h44 => ?_)
              · skip
                have h44 := bI_t h44
                show aw_W _ _ _ _ (47, [some (.ref 0), some (.int 1), some (.int i), some (.int 3), some (.int j), some (.int n), some (.ref 37), some (.ref 41)], []) (ae_en σ α z t0 ts)
                refine aw_go 9 rfl ⟨trivial, trivial, trivial, trivial, trivial, trivial, trivial, ⟨h39.2.1, h44.2.1, h39.1, Nat.le_trans h39.2.2 hm40, Nat.le_trans h44.2.2 hm240⟩, trivial, trivial⟩ ?_
                show aw_W _ _ _ _ (56, [some (.ref 0), some (.int 1), some (.int i), some (.int 3), some (.int j), some (.int n), some (.ref 37), some (.ref 41)], [.int n]) (ae_en σ (au α [(30, va_cpy (α 28) (α 30) (i.toNatClampNeg) (j.toNatClampNeg) (n.toNatClampNeg))]) z t0 ts)
                refine aw_ret rfl rfl trivial ?_
                rw [pCopy, if_neg (fun q => q.elim h21 h25), if_neg (fun q => q h32), if_pos ⟨h39, h44⟩]
                exact ⟨rfl, rfl⟩
              · skip
                have h44 := bI_f (Classical.not_not.mp h44)
                show aw_W _ _ _ _ (45, [some (.ref 0), some (.int 1), some (.int i), some (.int 3), some (.int j), some (.int n), some (.ref 37), some (.ref 41)], []) (ae_en σ α z t0 ts)
                refine aw_go 1 rfl ⟨trivial, trivial⟩ ?_
                refine aw_ret rfl rfl trivial ?_
                rw [pCopy, if_neg (fun q => q.elim h21 h25), if_neg (fun q => q h32), if_neg (fun q => h44 q.2)]
                exact ⟨rfl, rfl⟩
          · skip
            show aw_W _ _ _ _ (33, [some (.ref 0), some (.int 1), some (.int i), some (.int 3), some (.int j), some (.int n), some (.ref 37), some (.ref 41)], []) (ae_en σ α z t0 ts)
            refine aw_go 1 rfl ⟨trivial, trivial⟩ ?_
            refine aw_ret rfl rfl trivial ?_
            rw [pCopy, if_neg (fun q => q.elim h21 h25), if_pos h32]
            exact ⟨rfl, rfl⟩
        · skip
          have h25 := Classical.not_not.mp h25
          show aw_W _ _ _ _ (26, [some (.ref 0), some (.int 1), some (.int i), some (.int 3), some (.int j), some (.int n), some (.ref 37), some (.ref 41)], []) (ae_en σ α z t0 ts)
          refine aw_go 1 rfl ⟨trivial, trivial⟩ ?_
          refine aw_ret rfl rfl trivial ?_
          rw [pCopy, if_pos (Or.inr h25)]
          exact ⟨rfl, rfl⟩
    · skip
      have h5 := bI_f (Classical.not_not.mp h5)
      show aw_W _ _ _ _ (6, [some (.ref 0), some (.int 1), some (.int i), some (.int 3), some (.int j), some (.int n), none, none], []) (ae_en σ α z t0 ts)
      exact absurd h5 (by decide)
theorem ev_copy_2_0 {m m2 : Nat} {i j n : Int32} {zd : Nat} (hm : ¬ σ 22 = -1 → σ 23 = nI m) (hm40 : m ≤ 40) (hm2 : ¬ σ 18 = -1 → σ 19 = nI m2) (hm240 : m2 ≤ 40) : aw_X P (zd + 2) 32 [.ref 0, .int 2, .int i, .int 0, .int j, .int n] (ae_en σ α z t0 ts) (fun r H => r = some (.int ((pCopy m m2 (σ 22) (σ 18) (α 29) (α 27) i j n).1)) ∧ H = (ae_en σ (au α [(27, (pCopy m m2 (σ 22) (σ 18) (α 29) (α 27) i j n).2)]) z t0 ts)) := by
  refine aw_ev (cd := cd_Dried_copy) rfl rfl rfl ?_
  show aw_W _ _ _ _ (0, [some (.ref 0), some (.int 2), some (.int i), some (.int 0), some (.int j), some (.int n), none, none], []) (ae_en σ α z t0 ts)
  refine aw_go 1 rfl ⟨trivial, trivial⟩ ?_
  refine aw_callE rfl rfl (ev_Dried_isSheet (s := 2)) ?_
  show aw_W _ _ _ _ (2, [some (.ref 0), some (.int 2), some (.int i), some (.int 0), some (.int j), some (.int n), none, none], [.int (bI (iP 4 2))]) (ae_en σ α z t0 ts)
  refine aw_go 1 rfl ⟨trivial, trivial⟩ ?_
  refine aw_br (c := (bI (iP 4 2)) = 0) (fun h2 => ?_) (fun h2 => ?_)
  · skip
    have h2 := bI_f h2
    show aw_W _ _ _ _ (6, [some (.ref 0), some (.int 2), some (.int i), some (.int 0), some (.int j), some (.int n), none, none], []) (ae_en σ α z t0 ts)
    exact absurd h2 (by decide)
  · skip
    have h2 := bI_t h2
    show aw_W _ _ _ _ (3, [some (.ref 0), some (.int 2), some (.int i), some (.int 0), some (.int j), some (.int n), none, none], []) (ae_en σ α z t0 ts)
    refine aw_go 1 rfl ⟨trivial, trivial⟩ ?_
    refine aw_callE rfl rfl (ev_Dried_isSheet (s := 0)) ?_
    show aw_W _ _ _ _ (5, [some (.ref 0), some (.int 2), some (.int i), some (.int 0), some (.int j), some (.int n), none, none], [.int (bI (iP 4 0))]) (ae_en σ α z t0 ts)
    refine aw_go 1 rfl ⟨trivial, trivial⟩ ?_
    refine aw_br (c := ¬ (bI (iP 4 0)) = 0) (fun h5 => ?_) (fun h5 => ?_)
    · skip
      have h5 := bI_t h5
      show aw_W _ _ _ _ (8, [some (.ref 0), some (.int 2), some (.int i), some (.int 0), some (.int j), some (.int n), none, none], []) (ae_en σ α z t0 ts)
      refine aw_go 14 rfl ⟨trivial, trivial, trivial, (cI_in (a := 2) rfl (by omega) (by decide)), trivial, trivial, trivial, trivial, (cI_in (a := 0) rfl (by omega) (by decide)), trivial, trivial, trivial, trivial, trivial, trivial⟩ ?_
      show aw_W _ _ _ _ (if (σ 22) = (-1) then 26 else 22, [some (.ref 0), some (.int 2), some (.int i), some (.int 0), some (.int j), some (.int n), some (.ref 39), some (.ref 35)], []) (ae_en σ α z t0 ts)
      refine aw_br (c := (σ 22) = (-1)) (fun h21 => ?_) (fun h21 => ?_)
      · skip
        show aw_W _ _ _ _ (26, [some (.ref 0), some (.int 2), some (.int i), some (.int 0), some (.int j), some (.int n), some (.ref 39), some (.ref 35)], []) (ae_en σ α z t0 ts)
        refine aw_go 1 rfl ⟨trivial, trivial⟩ ?_
        refine aw_ret rfl rfl trivial ?_
        rw [pCopy, if_pos (Or.inl h21)]
        exact ⟨rfl, rfl⟩
      · skip
        show aw_W _ _ _ _ (22, [some (.ref 0), some (.int 2), some (.int i), some (.int 0), some (.int j), some (.int n), some (.ref 39), some (.ref 35)], []) (ae_en σ α z t0 ts)
        refine aw_go 4 rfl ⟨trivial, trivial, trivial, trivial, trivial⟩ ?_
        show aw_W _ _ _ _ (if ¬ (σ 18) = (-1) then 28 else 26, [some (.ref 0), some (.int 2), some (.int i), some (.int 0), some (.int j), some (.int n), some (.ref 39), some (.ref 35)], []) (ae_en σ α z t0 ts)
        refine aw_br (c := ¬ (σ 18) = (-1)) (fun h25 => ?_) (fun h25 => ?_)
        · skip
          show aw_W _ _ _ _ (28, [some (.ref 0), some (.int 2), some (.int i), some (.int 0), some (.int j), some (.int n), some (.ref 39), some (.ref 35)], []) (ae_en σ α z t0 ts)
          refine aw_go 5 rfl ⟨trivial, trivial, trivial, trivial, trivial, trivial⟩ ?_
          show aw_W _ _ _ _ (if (σ 22) = (σ 18) then 35 else 33, [some (.ref 0), some (.int 2), some (.int i), some (.int 0), some (.int j), some (.int n), some (.ref 39), some (.ref 35)], []) (ae_en σ α z t0 ts)
          refine aw_br (c := (σ 22) = (σ 18)) (fun h32 => ?_) (fun h32 => ?_)
          · skip
            show aw_W _ _ _ _ (35, [some (.ref 0), some (.int 2), some (.int i), some (.int 0), some (.int j), some (.int n), some (.ref 39), some (.ref 35)], []) (ae_en σ α z t0 ts)
            refine aw_go 3 rfl ⟨trivial, trivial, trivial, trivial⟩ ?_
            refine aw_callE rfl rfl (ev_holds_2 (i := i) (n := n) (hm h21) hm40) ?_
            show aw_W _ _ _ _ (39, [some (.ref 0), some (.int 2), some (.int i), some (.int 0), some (.int j), some (.int n), some (.ref 39), some (.ref 35)], [.int (bI (hHo m i n))]) (ae_en σ α z t0 ts)
            refine aw_go 1 rfl ⟨trivial, trivial⟩ ?_
            refine aw_br (c := (bI (hHo m i n)) = 0) (fun h39 => ?_) (fun h39 => ?_)
            · skip
              have h39 := bI_f h39
              show aw_W _ _ _ _ (45, [some (.ref 0), some (.int 2), some (.int i), some (.int 0), some (.int j), some (.int n), some (.ref 39), some (.ref 35)], []) (ae_en σ α z t0 ts)
              refine aw_go 1 rfl ⟨trivial, trivial⟩ ?_
              refine aw_ret rfl rfl trivial ?_
              rw [pCopy, if_neg (fun q => q.elim h21 h25), if_neg (fun q => q h32), if_neg (fun q => h39 q.1)]
              exact ⟨rfl, rfl⟩
            · skip
              have h39 := bI_t h39
              show aw_W _ _ _ _ (40, [some (.ref 0), some (.int 2), some (.int i), some (.int 0), some (.int j), some (.int n), some (.ref 39), some (.ref 35)], []) (ae_en σ α z t0 ts)
              refine aw_go 3 rfl ⟨trivial, trivial, trivial, trivial⟩ ?_
              refine aw_callE rfl rfl (ev_holds_0 (i := j) (n := n) (hm2 h25) hm240) ?_
              show aw_W _ _ _ _ (44, [some (.ref 0), some (.int 2), some (.int i), some (.int 0), some (.int j), some (.int n), some (.ref 39), some (.ref 35)], [.int (bI (hHo m2 j n))]) (ae_en σ α z t0 ts)
              refine aw_go 1 rfl ⟨trivial, trivial⟩ ?_
              refine aw_br (c := ¬ (bI (hHo m2 j n)) = 0) (fun h44 => ?_) (fun h44 => ?_)
              · skip
                have h44 := bI_t h44
                show aw_W _ _ _ _ (47, [some (.ref 0), some (.int 2), some (.int i), some (.int 0), some (.int j), some (.int n), some (.ref 39), some (.ref 35)], []) (ae_en σ α z t0 ts)
                refine aw_go 9 rfl ⟨trivial, trivial, trivial, trivial, trivial, trivial, trivial, ⟨h39.2.1, h44.2.1, h39.1, Nat.le_trans h39.2.2 hm40, Nat.le_trans h44.2.2 hm240⟩, trivial, trivial⟩ ?_
                show aw_W _ _ _ _ (56, [some (.ref 0), some (.int 2), some (.int i), some (.int 0), some (.int j), some (.int n), some (.ref 39), some (.ref 35)], [.int n]) (ae_en σ (au α [(27, va_cpy (α 29) (α 27) (i.toNatClampNeg) (j.toNatClampNeg) (n.toNatClampNeg))]) z t0 ts)
                refine aw_ret rfl rfl trivial ?_
                rw [pCopy, if_neg (fun q => q.elim h21 h25), if_neg (fun q => q h32), if_pos ⟨h39, h44⟩]
                exact ⟨rfl, rfl⟩
              · skip
                have h44 := bI_f (Classical.not_not.mp h44)
                show aw_W _ _ _ _ (45, [some (.ref 0), some (.int 2), some (.int i), some (.int 0), some (.int j), some (.int n), some (.ref 39), some (.ref 35)], []) (ae_en σ α z t0 ts)
                refine aw_go 1 rfl ⟨trivial, trivial⟩ ?_
                refine aw_ret rfl rfl trivial ?_
                rw [pCopy, if_neg (fun q => q.elim h21 h25), if_neg (fun q => q h32), if_neg (fun q => h44 q.2)]
                exact ⟨rfl, rfl⟩
          · skip
            show aw_W _ _ _ _ (33, [some (.ref 0), some (.int 2), some (.int i), some (.int 0), some (.int j), some (.int n), some (.ref 39), some (.ref 35)], []) (ae_en σ α z t0 ts)
            refine aw_go 1 rfl ⟨trivial, trivial⟩ ?_
            refine aw_ret rfl rfl trivial ?_
            rw [pCopy, if_neg (fun q => q.elim h21 h25), if_pos h32]
            exact ⟨rfl, rfl⟩
        · skip
          have h25 := Classical.not_not.mp h25
          show aw_W _ _ _ _ (26, [some (.ref 0), some (.int 2), some (.int i), some (.int 0), some (.int j), some (.int n), some (.ref 39), some (.ref 35)], []) (ae_en σ α z t0 ts)
          refine aw_go 1 rfl ⟨trivial, trivial⟩ ?_
          refine aw_ret rfl rfl trivial ?_
          rw [pCopy, if_pos (Or.inr h25)]
          exact ⟨rfl, rfl⟩
    · skip
      have h5 := bI_f (Classical.not_not.mp h5)
      show aw_W _ _ _ _ (6, [some (.ref 0), some (.int 2), some (.int i), some (.int 0), some (.int j), some (.int n), none, none], []) (ae_en σ α z t0 ts)
      exact absurd h5 (by decide)
theorem ev_copy_2_1 {m m2 : Nat} {i j n : Int32} {zd : Nat} (hm : ¬ σ 22 = -1 → σ 23 = nI m) (hm40 : m ≤ 40) (hm2 : ¬ σ 20 = -1 → σ 21 = nI m2) (hm240 : m2 ≤ 40) : aw_X P (zd + 2) 32 [.ref 0, .int 2, .int i, .int 1, .int j, .int n] (ae_en σ α z t0 ts) (fun r H => r = some (.int ((pCopy m m2 (σ 22) (σ 20) (α 29) (α 28) i j n).1)) ∧ H = (ae_en σ (au α [(28, (pCopy m m2 (σ 22) (σ 20) (α 29) (α 28) i j n).2)]) z t0 ts)) := by
  refine aw_ev (cd := cd_Dried_copy) rfl rfl rfl ?_
  show aw_W _ _ _ _ (0, [some (.ref 0), some (.int 2), some (.int i), some (.int 1), some (.int j), some (.int n), none, none], []) (ae_en σ α z t0 ts)
  refine aw_go 1 rfl ⟨trivial, trivial⟩ ?_
  refine aw_callE rfl rfl (ev_Dried_isSheet (s := 2)) ?_
  show aw_W _ _ _ _ (2, [some (.ref 0), some (.int 2), some (.int i), some (.int 1), some (.int j), some (.int n), none, none], [.int (bI (iP 4 2))]) (ae_en σ α z t0 ts)
  refine aw_go 1 rfl ⟨trivial, trivial⟩ ?_
  refine aw_br (c := (bI (iP 4 2)) = 0) (fun h2 => ?_) (fun h2 => ?_)
  · skip
    have h2 := bI_f h2
    show aw_W _ _ _ _ (6, [some (.ref 0), some (.int 2), some (.int i), some (.int 1), some (.int j), some (.int n), none, none], []) (ae_en σ α z t0 ts)
    exact absurd h2 (by decide)
  · skip
    have h2 := bI_t h2
    show aw_W _ _ _ _ (3, [some (.ref 0), some (.int 2), some (.int i), some (.int 1), some (.int j), some (.int n), none, none], []) (ae_en σ α z t0 ts)
    refine aw_go 1 rfl ⟨trivial, trivial⟩ ?_
    refine aw_callE rfl rfl (ev_Dried_isSheet (s := 1)) ?_
    show aw_W _ _ _ _ (5, [some (.ref 0), some (.int 2), some (.int i), some (.int 1), some (.int j), some (.int n), none, none], [.int (bI (iP 4 1))]) (ae_en σ α z t0 ts)
    refine aw_go 1 rfl ⟨trivial, trivial⟩ ?_
    refine aw_br (c := ¬ (bI (iP 4 1)) = 0) (fun h5 => ?_) (fun h5 => ?_)
    · skip
      have h5 := bI_t h5
      show aw_W _ _ _ _ (8, [some (.ref 0), some (.int 2), some (.int i), some (.int 1), some (.int j), some (.int n), none, none], []) (ae_en σ α z t0 ts)
      refine aw_go 14 rfl ⟨trivial, trivial, trivial, (cI_in (a := 2) rfl (by omega) (by decide)), trivial, trivial, trivial, trivial, (cI_in (a := 1) rfl (by omega) (by decide)), trivial, trivial, trivial, trivial, trivial, trivial⟩ ?_
      show aw_W _ _ _ _ (if (σ 22) = (-1) then 26 else 22, [some (.ref 0), some (.int 2), some (.int i), some (.int 1), some (.int j), some (.int n), some (.ref 39), some (.ref 37)], []) (ae_en σ α z t0 ts)
      refine aw_br (c := (σ 22) = (-1)) (fun h21 => ?_) (fun h21 => ?_)
      · skip
        show aw_W _ _ _ _ (26, [some (.ref 0), some (.int 2), some (.int i), some (.int 1), some (.int j), some (.int n), some (.ref 39), some (.ref 37)], []) (ae_en σ α z t0 ts)
        refine aw_go 1 rfl ⟨trivial, trivial⟩ ?_
        refine aw_ret rfl rfl trivial ?_
        rw [pCopy, if_pos (Or.inl h21)]
        exact ⟨rfl, rfl⟩
      · skip
        show aw_W _ _ _ _ (22, [some (.ref 0), some (.int 2), some (.int i), some (.int 1), some (.int j), some (.int n), some (.ref 39), some (.ref 37)], []) (ae_en σ α z t0 ts)
        refine aw_go 4 rfl ⟨trivial, trivial, trivial, trivial, trivial⟩ ?_
        show aw_W _ _ _ _ (if ¬ (σ 20) = (-1) then 28 else 26, [some (.ref 0), some (.int 2), some (.int i), some (.int 1), some (.int j), some (.int n), some (.ref 39), some (.ref 37)], []) (ae_en σ α z t0 ts)
        refine aw_br (c := ¬ (σ 20) = (-1)) (fun h25 => ?_) (fun h25 => ?_)
        · skip
          show aw_W _ _ _ _ (28, [some (.ref 0), some (.int 2), some (.int i), some (.int 1), some (.int j), some (.int n), some (.ref 39), some (.ref 37)], []) (ae_en σ α z t0 ts)
          refine aw_go 5 rfl ⟨trivial, trivial, trivial, trivial, trivial, trivial⟩ ?_
          show aw_W _ _ _ _ (if (σ 22) = (σ 20) then 35 else 33, [some (.ref 0), some (.int 2), some (.int i), some (.int 1), some (.int j), some (.int n), some (.ref 39), some (.ref 37)], []) (ae_en σ α z t0 ts)
          refine aw_br (c := (σ 22) = (σ 20)) (fun h32 => ?_) (fun h32 => ?_)
          · skip
            show aw_W _ _ _ _ (35, [some (.ref 0), some (.int 2), some (.int i), some (.int 1), some (.int j), some (.int n), some (.ref 39), some (.ref 37)], []) (ae_en σ α z t0 ts)
            refine aw_go 3 rfl ⟨trivial, trivial, trivial, trivial⟩ ?_
            refine aw_callE rfl rfl (ev_holds_2 (i := i) (n := n) (hm h21) hm40) ?_
            show aw_W _ _ _ _ (39, [some (.ref 0), some (.int 2), some (.int i), some (.int 1), some (.int j), some (.int n), some (.ref 39), some (.ref 37)], [.int (bI (hHo m i n))]) (ae_en σ α z t0 ts)
            refine aw_go 1 rfl ⟨trivial, trivial⟩ ?_
            refine aw_br (c := (bI (hHo m i n)) = 0) (fun h39 => ?_) (fun h39 => ?_)
            · skip
              have h39 := bI_f h39
              show aw_W _ _ _ _ (45, [some (.ref 0), some (.int 2), some (.int i), some (.int 1), some (.int j), some (.int n), some (.ref 39), some (.ref 37)], []) (ae_en σ α z t0 ts)
              refine aw_go 1 rfl ⟨trivial, trivial⟩ ?_
              refine aw_ret rfl rfl trivial ?_
              rw [pCopy, if_neg (fun q => q.elim h21 h25), if_neg (fun q => q h32), if_neg (fun q => h39 q.1)]
              exact ⟨rfl, rfl⟩
            · skip
              have h39 := bI_t h39
              show aw_W _ _ _ _ (40, [some (.ref 0), some (.int 2), some (.int i), some (.int 1), some (.int j), some (.int n), some (.ref 39), some (.ref 37)], []) (ae_en σ α z t0 ts)
              refine aw_go 3 rfl ⟨trivial, trivial, trivial, trivial⟩ ?_
              refine aw_callE rfl rfl (ev_holds_1 (i := j) (n := n) (hm2 h25) hm240) ?_
              show aw_W _ _ _ _ (44, [some (.ref 0), some (.int 2), some (.int i), some (.int 1), some (.int j), some (.int n), some (.ref 39), some (.ref 37)], [.int (bI (hHo m2 j n))]) (ae_en σ α z t0 ts)
              refine aw_go 1 rfl ⟨trivial, trivial⟩ ?_
              refine aw_br (c := ¬ (bI (hHo m2 j n)) = 0) (fun h44 => ?_) (fun h44 => ?_)
              · skip
                have h44 := bI_t h44
                show aw_W _ _ _ _ (47, [some (.ref 0), some (.int 2), some (.int i), some (.int 1), some (.int j), some (.int n), some (.ref 39), some (.ref 37)], []) (ae_en σ α z t0 ts)
                refine aw_go 9 rfl ⟨trivial, trivial, trivial, trivial, trivial, trivial, trivial, ⟨h39.2.1, h44.2.1, h39.1, Nat.le_trans h39.2.2 hm40, Nat.le_trans h44.2.2 hm240⟩, trivial, trivial⟩ ?_
                show aw_W _ _ _ _ (56, [some (.ref 0), some (.int 2), some (.int i), some (.int 1), some (.int j), some (.int n), some (.ref 39), some (.ref 37)], [.int n]) (ae_en σ (au α [(28, va_cpy (α 29) (α 28) (i.toNatClampNeg) (j.toNatClampNeg) (n.toNatClampNeg))]) z t0 ts)
                refine aw_ret rfl rfl trivial ?_
                rw [pCopy, if_neg (fun q => q.elim h21 h25), if_neg (fun q => q h32), if_pos ⟨h39, h44⟩]
                exact ⟨rfl, rfl⟩
              · skip
                have h44 := bI_f (Classical.not_not.mp h44)
                show aw_W _ _ _ _ (45, [some (.ref 0), some (.int 2), some (.int i), some (.int 1), some (.int j), some (.int n), some (.ref 39), some (.ref 37)], []) (ae_en σ α z t0 ts)
                refine aw_go 1 rfl ⟨trivial, trivial⟩ ?_
                refine aw_ret rfl rfl trivial ?_
                rw [pCopy, if_neg (fun q => q.elim h21 h25), if_neg (fun q => q h32), if_neg (fun q => h44 q.2)]
                exact ⟨rfl, rfl⟩
          · skip
            show aw_W _ _ _ _ (33, [some (.ref 0), some (.int 2), some (.int i), some (.int 1), some (.int j), some (.int n), some (.ref 39), some (.ref 37)], []) (ae_en σ α z t0 ts)
            refine aw_go 1 rfl ⟨trivial, trivial⟩ ?_
            refine aw_ret rfl rfl trivial ?_
            rw [pCopy, if_neg (fun q => q.elim h21 h25), if_pos h32]
            exact ⟨rfl, rfl⟩
        · skip
          have h25 := Classical.not_not.mp h25
          show aw_W _ _ _ _ (26, [some (.ref 0), some (.int 2), some (.int i), some (.int 1), some (.int j), some (.int n), some (.ref 39), some (.ref 37)], []) (ae_en σ α z t0 ts)
          refine aw_go 1 rfl ⟨trivial, trivial⟩ ?_
          refine aw_ret rfl rfl trivial ?_
          rw [pCopy, if_pos (Or.inr h25)]
          exact ⟨rfl, rfl⟩
    · skip
      have h5 := bI_f (Classical.not_not.mp h5)
      show aw_W _ _ _ _ (6, [some (.ref 0), some (.int 2), some (.int i), some (.int 1), some (.int j), some (.int n), none, none], []) (ae_en σ α z t0 ts)
      exact absurd h5 (by decide)
theorem ev_copy_2_2 {m m2 : Nat} {i j n : Int32} {zd : Nat} (hm : ¬ σ 22 = -1 → σ 23 = nI m) (hm40 : m ≤ 40) (hm2 : ¬ σ 22 = -1 → σ 23 = nI m2) (hm240 : m2 ≤ 40) : aw_X P (zd + 2) 32 [.ref 0, .int 2, .int i, .int 2, .int j, .int n] (ae_en σ α z t0 ts) (fun r H => r = some (.int ((pCopy m m2 (σ 22) (σ 22) (α 29) (α 29) i j n).1)) ∧ H = (ae_en σ (au α [(29, (pCopy m m2 (σ 22) (σ 22) (α 29) (α 29) i j n).2)]) z t0 ts)) := by
  refine aw_ev (cd := cd_Dried_copy) rfl rfl rfl ?_
  show aw_W _ _ _ _ (0, [some (.ref 0), some (.int 2), some (.int i), some (.int 2), some (.int j), some (.int n), none, none], []) (ae_en σ α z t0 ts)
  refine aw_go 1 rfl ⟨trivial, trivial⟩ ?_
  refine aw_callE rfl rfl (ev_Dried_isSheet (s := 2)) ?_
  show aw_W _ _ _ _ (2, [some (.ref 0), some (.int 2), some (.int i), some (.int 2), some (.int j), some (.int n), none, none], [.int (bI (iP 4 2))]) (ae_en σ α z t0 ts)
  refine aw_go 1 rfl ⟨trivial, trivial⟩ ?_
  refine aw_br (c := (bI (iP 4 2)) = 0) (fun h2 => ?_) (fun h2 => ?_)
  · skip
    have h2 := bI_f h2
    show aw_W _ _ _ _ (6, [some (.ref 0), some (.int 2), some (.int i), some (.int 2), some (.int j), some (.int n), none, none], []) (ae_en σ α z t0 ts)
    exact absurd h2 (by decide)
  · skip
    have h2 := bI_t h2
    show aw_W _ _ _ _ (3, [some (.ref 0), some (.int 2), some (.int i), some (.int 2), some (.int j), some (.int n), none, none], []) (ae_en σ α z t0 ts)
    refine aw_go 1 rfl ⟨trivial, trivial⟩ ?_
    refine aw_callE rfl rfl (ev_Dried_isSheet (s := 2)) ?_
    show aw_W _ _ _ _ (5, [some (.ref 0), some (.int 2), some (.int i), some (.int 2), some (.int j), some (.int n), none, none], [.int (bI (iP 4 2))]) (ae_en σ α z t0 ts)
    refine aw_go 1 rfl ⟨trivial, trivial⟩ ?_
    refine aw_br (c := ¬ (bI (iP 4 2)) = 0) (fun h5 => ?_) (fun h5 => ?_)
    · skip
      have h5 := bI_t h5
      show aw_W _ _ _ _ (8, [some (.ref 0), some (.int 2), some (.int i), some (.int 2), some (.int j), some (.int n), none, none], []) (ae_en σ α z t0 ts)
      refine aw_go 14 rfl ⟨trivial, trivial, trivial, (cI_in (a := 2) rfl (by omega) (by decide)), trivial, trivial, trivial, trivial, (cI_in (a := 2) rfl (by omega) (by decide)), trivial, trivial, trivial, trivial, trivial, trivial⟩ ?_
      show aw_W _ _ _ _ (if (σ 22) = (-1) then 26 else 22, [some (.ref 0), some (.int 2), some (.int i), some (.int 2), some (.int j), some (.int n), some (.ref 39), some (.ref 39)], []) (ae_en σ α z t0 ts)
      refine aw_br (c := (σ 22) = (-1)) (fun h21 => ?_) (fun h21 => ?_)
      · skip
        show aw_W _ _ _ _ (26, [some (.ref 0), some (.int 2), some (.int i), some (.int 2), some (.int j), some (.int n), some (.ref 39), some (.ref 39)], []) (ae_en σ α z t0 ts)
        refine aw_go 1 rfl ⟨trivial, trivial⟩ ?_
        refine aw_ret rfl rfl trivial ?_
        rw [pCopy, if_pos (Or.inl h21)]
        exact ⟨rfl, rfl⟩
      · skip
        show aw_W _ _ _ _ (22, [some (.ref 0), some (.int 2), some (.int i), some (.int 2), some (.int j), some (.int n), some (.ref 39), some (.ref 39)], []) (ae_en σ α z t0 ts)
        refine aw_go 4 rfl ⟨trivial, trivial, trivial, trivial, trivial⟩ ?_
        show aw_W _ _ _ _ (if ¬ (σ 22) = (-1) then 28 else 26, [some (.ref 0), some (.int 2), some (.int i), some (.int 2), some (.int j), some (.int n), some (.ref 39), some (.ref 39)], []) (ae_en σ α z t0 ts)
        refine aw_br (c := ¬ (σ 22) = (-1)) (fun h25 => ?_) (fun h25 => ?_)
        · skip
          show aw_W _ _ _ _ (28, [some (.ref 0), some (.int 2), some (.int i), some (.int 2), some (.int j), some (.int n), some (.ref 39), some (.ref 39)], []) (ae_en σ α z t0 ts)
          refine aw_go 5 rfl ⟨trivial, trivial, trivial, trivial, trivial, trivial⟩ ?_
          show aw_W _ _ _ _ (if (σ 22) = (σ 22) then 35 else 33, [some (.ref 0), some (.int 2), some (.int i), some (.int 2), some (.int j), some (.int n), some (.ref 39), some (.ref 39)], []) (ae_en σ α z t0 ts)
          refine aw_br (c := (σ 22) = (σ 22)) (fun h32 => ?_) (fun h32 => ?_)
          · skip
            show aw_W _ _ _ _ (35, [some (.ref 0), some (.int 2), some (.int i), some (.int 2), some (.int j), some (.int n), some (.ref 39), some (.ref 39)], []) (ae_en σ α z t0 ts)
            refine aw_go 3 rfl ⟨trivial, trivial, trivial, trivial⟩ ?_
            refine aw_callE rfl rfl (ev_holds_2 (i := i) (n := n) (hm h21) hm40) ?_
            show aw_W _ _ _ _ (39, [some (.ref 0), some (.int 2), some (.int i), some (.int 2), some (.int j), some (.int n), some (.ref 39), some (.ref 39)], [.int (bI (hHo m i n))]) (ae_en σ α z t0 ts)
            refine aw_go 1 rfl ⟨trivial, trivial⟩ ?_
            refine aw_br (c := (bI (hHo m i n)) = 0) (fun h39 => ?_) (fun h39 => ?_)
            · skip
              have h39 := bI_f h39
              show aw_W _ _ _ _ (45, [some (.ref 0), some (.int 2), some (.int i), some (.int 2), some (.int j), some (.int n), some (.ref 39), some (.ref 39)], []) (ae_en σ α z t0 ts)
              refine aw_go 1 rfl ⟨trivial, trivial⟩ ?_
              refine aw_ret rfl rfl trivial ?_
              rw [pCopy, if_neg (fun q => q.elim h21 h25), if_neg (fun q => q h32), if_neg (fun q => h39 q.1)]
              exact ⟨rfl, rfl⟩
            · skip
              have h39 := bI_t h39
              show aw_W _ _ _ _ (40, [some (.ref 0), some (.int 2), some (.int i), some (.int 2), some (.int j), some (.int n), some (.ref 39), some (.ref 39)], []) (ae_en σ α z t0 ts)
              refine aw_go 3 rfl ⟨trivial, trivial, trivial, trivial⟩ ?_
              refine aw_callE rfl rfl (ev_holds_2 (i := j) (n := n) (hm2 h25) hm240) ?_
              show aw_W _ _ _ _ (44, [some (.ref 0), some (.int 2), some (.int i), some (.int 2), some (.int j), some (.int n), some (.ref 39), some (.ref 39)], [.int (bI (hHo m2 j n))]) (ae_en σ α z t0 ts)
              refine aw_go 1 rfl ⟨trivial, trivial⟩ ?_
              refine aw_br (c := ¬ (bI (hHo m2 j n)) = 0) (fun h44 => ?_) (fun h44 => ?_)
              · skip
                have h44 := bI_t h44
                show aw_W _ _ _ _ (47, [some (.ref 0), some (.int 2), some (.int i), some (.int 2), some (.int j), some (.int n), some (.ref 39), some (.ref 39)], []) (ae_en σ α z t0 ts)
                refine aw_go 9 rfl ⟨trivial, trivial, trivial, trivial, trivial, trivial, trivial, ⟨h39.2.1, h44.2.1, h39.1, Nat.le_trans h39.2.2 hm40, Nat.le_trans h44.2.2 hm240⟩, trivial, trivial⟩ ?_
                show aw_W _ _ _ _ (56, [some (.ref 0), some (.int 2), some (.int i), some (.int 2), some (.int j), some (.int n), some (.ref 39), some (.ref 39)], [.int n]) (ae_en σ (au α [(29, va_cpy (α 29) (α 29) (i.toNatClampNeg) (j.toNatClampNeg) (n.toNatClampNeg))]) z t0 ts)
                refine aw_ret rfl rfl trivial ?_
                rw [pCopy, if_neg (fun q => q.elim h21 h25), if_neg (fun q => q h32), if_pos ⟨h39, h44⟩]
                exact ⟨rfl, rfl⟩
              · skip
                have h44 := bI_f (Classical.not_not.mp h44)
                show aw_W _ _ _ _ (45, [some (.ref 0), some (.int 2), some (.int i), some (.int 2), some (.int j), some (.int n), some (.ref 39), some (.ref 39)], []) (ae_en σ α z t0 ts)
                refine aw_go 1 rfl ⟨trivial, trivial⟩ ?_
                refine aw_ret rfl rfl trivial ?_
                rw [pCopy, if_neg (fun q => q.elim h21 h25), if_neg (fun q => q h32), if_neg (fun q => h44 q.2)]
                exact ⟨rfl, rfl⟩
          · skip
            show aw_W _ _ _ _ (33, [some (.ref 0), some (.int 2), some (.int i), some (.int 2), some (.int j), some (.int n), some (.ref 39), some (.ref 39)], []) (ae_en σ α z t0 ts)
            refine aw_go 1 rfl ⟨trivial, trivial⟩ ?_
            refine aw_ret rfl rfl trivial ?_
            rw [pCopy, if_neg (fun q => q.elim h21 h25), if_pos h32]
            exact ⟨rfl, rfl⟩
        · skip
          have h25 := Classical.not_not.mp h25
          show aw_W _ _ _ _ (26, [some (.ref 0), some (.int 2), some (.int i), some (.int 2), some (.int j), some (.int n), some (.ref 39), some (.ref 39)], []) (ae_en σ α z t0 ts)
          refine aw_go 1 rfl ⟨trivial, trivial⟩ ?_
          refine aw_ret rfl rfl trivial ?_
          rw [pCopy, if_pos (Or.inr h25)]
          exact ⟨rfl, rfl⟩
    · skip
      have h5 := bI_f (Classical.not_not.mp h5)
      show aw_W _ _ _ _ (6, [some (.ref 0), some (.int 2), some (.int i), some (.int 2), some (.int j), some (.int n), none, none], []) (ae_en σ α z t0 ts)
      exact absurd h5 (by decide)
theorem ev_copy_2_3 {m m2 : Nat} {i j n : Int32} {zd : Nat} (hm : ¬ σ 22 = -1 → σ 23 = nI m) (hm40 : m ≤ 40) (hm2 : ¬ σ 24 = -1 → σ 25 = nI m2) (hm240 : m2 ≤ 40) : aw_X P (zd + 2) 32 [.ref 0, .int 2, .int i, .int 3, .int j, .int n] (ae_en σ α z t0 ts) (fun r H => r = some (.int ((pCopy m m2 (σ 22) (σ 24) (α 29) (α 30) i j n).1)) ∧ H = (ae_en σ (au α [(30, (pCopy m m2 (σ 22) (σ 24) (α 29) (α 30) i j n).2)]) z t0 ts)) := by
  refine aw_ev (cd := cd_Dried_copy) rfl rfl rfl ?_
  show aw_W _ _ _ _ (0, [some (.ref 0), some (.int 2), some (.int i), some (.int 3), some (.int j), some (.int n), none, none], []) (ae_en σ α z t0 ts)
  refine aw_go 1 rfl ⟨trivial, trivial⟩ ?_
  refine aw_callE rfl rfl (ev_Dried_isSheet (s := 2)) ?_
  show aw_W _ _ _ _ (2, [some (.ref 0), some (.int 2), some (.int i), some (.int 3), some (.int j), some (.int n), none, none], [.int (bI (iP 4 2))]) (ae_en σ α z t0 ts)
  refine aw_go 1 rfl ⟨trivial, trivial⟩ ?_
  refine aw_br (c := (bI (iP 4 2)) = 0) (fun h2 => ?_) (fun h2 => ?_)
  · skip
    have h2 := bI_f h2
    show aw_W _ _ _ _ (6, [some (.ref 0), some (.int 2), some (.int i), some (.int 3), some (.int j), some (.int n), none, none], []) (ae_en σ α z t0 ts)
    exact absurd h2 (by decide)
  · skip
    have h2 := bI_t h2
    show aw_W _ _ _ _ (3, [some (.ref 0), some (.int 2), some (.int i), some (.int 3), some (.int j), some (.int n), none, none], []) (ae_en σ α z t0 ts)
    refine aw_go 1 rfl ⟨trivial, trivial⟩ ?_
    refine aw_callE rfl rfl (ev_Dried_isSheet (s := 3)) ?_
    show aw_W _ _ _ _ (5, [some (.ref 0), some (.int 2), some (.int i), some (.int 3), some (.int j), some (.int n), none, none], [.int (bI (iP 4 3))]) (ae_en σ α z t0 ts)
    refine aw_go 1 rfl ⟨trivial, trivial⟩ ?_
    refine aw_br (c := ¬ (bI (iP 4 3)) = 0) (fun h5 => ?_) (fun h5 => ?_)
    · skip
      have h5 := bI_t h5
      show aw_W _ _ _ _ (8, [some (.ref 0), some (.int 2), some (.int i), some (.int 3), some (.int j), some (.int n), none, none], []) (ae_en σ α z t0 ts)
      refine aw_go 14 rfl ⟨trivial, trivial, trivial, (cI_in (a := 2) rfl (by omega) (by decide)), trivial, trivial, trivial, trivial, (cI_in (a := 3) rfl (by omega) (by decide)), trivial, trivial, trivial, trivial, trivial, trivial⟩ ?_
      show aw_W _ _ _ _ (if (σ 22) = (-1) then 26 else 22, [some (.ref 0), some (.int 2), some (.int i), some (.int 3), some (.int j), some (.int n), some (.ref 39), some (.ref 41)], []) (ae_en σ α z t0 ts)
      refine aw_br (c := (σ 22) = (-1)) (fun h21 => ?_) (fun h21 => ?_)
      · skip
        show aw_W _ _ _ _ (26, [some (.ref 0), some (.int 2), some (.int i), some (.int 3), some (.int j), some (.int n), some (.ref 39), some (.ref 41)], []) (ae_en σ α z t0 ts)
        refine aw_go 1 rfl ⟨trivial, trivial⟩ ?_
        refine aw_ret rfl rfl trivial ?_
        rw [pCopy, if_pos (Or.inl h21)]
        exact ⟨rfl, rfl⟩
      · skip
        show aw_W _ _ _ _ (22, [some (.ref 0), some (.int 2), some (.int i), some (.int 3), some (.int j), some (.int n), some (.ref 39), some (.ref 41)], []) (ae_en σ α z t0 ts)
        refine aw_go 4 rfl ⟨trivial, trivial, trivial, trivial, trivial⟩ ?_
        show aw_W _ _ _ _ (if ¬ (σ 24) = (-1) then 28 else 26, [some (.ref 0), some (.int 2), some (.int i), some (.int 3), some (.int j), some (.int n), some (.ref 39), some (.ref 41)], []) (ae_en σ α z t0 ts)
        refine aw_br (c := ¬ (σ 24) = (-1)) (fun h25 => ?_) (fun h25 => ?_)
        · skip
          show aw_W _ _ _ _ (28, [some (.ref 0), some (.int 2), some (.int i), some (.int 3), some (.int j), some (.int n), some (.ref 39), some (.ref 41)], []) (ae_en σ α z t0 ts)
          refine aw_go 5 rfl ⟨trivial, trivial, trivial, trivial, trivial, trivial⟩ ?_
          show aw_W _ _ _ _ (if (σ 22) = (σ 24) then 35 else 33, [some (.ref 0), some (.int 2), some (.int i), some (.int 3), some (.int j), some (.int n), some (.ref 39), some (.ref 41)], []) (ae_en σ α z t0 ts)
          refine aw_br (c := (σ 22) = (σ 24)) (fun h32 => ?_) (fun h32 => ?_)
          · skip
            show aw_W _ _ _ _ (35, [some (.ref 0), some (.int 2), some (.int i), some (.int 3), some (.int j), some (.int n), some (.ref 39), some (.ref 41)], []) (ae_en σ α z t0 ts)
            refine aw_go 3 rfl ⟨trivial, trivial, trivial, trivial⟩ ?_
            refine aw_callE rfl rfl (ev_holds_2 (i := i) (n := n) (hm h21) hm40) ?_
            show aw_W _ _ _ _ (39, [some (.ref 0), some (.int 2), some (.int i), some (.int 3), some (.int j), some (.int n), some (.ref 39), some (.ref 41)], [.int (bI (hHo m i n))]) (ae_en σ α z t0 ts)
            refine aw_go 1 rfl ⟨trivial, trivial⟩ ?_
            refine aw_br (c := (bI (hHo m i n)) = 0) (fun h39 => ?_) (fun h39 => ?_)
            · skip
              have h39 := bI_f h39
              show aw_W _ _ _ _ (45, [some (.ref 0), some (.int 2), some (.int i), some (.int 3), some (.int j), some (.int n), some (.ref 39), some (.ref 41)], []) (ae_en σ α z t0 ts)
              refine aw_go 1 rfl ⟨trivial, trivial⟩ ?_
              refine aw_ret rfl rfl trivial ?_
              rw [pCopy, if_neg (fun q => q.elim h21 h25), if_neg (fun q => q h32), if_neg (fun q => h39 q.1)]
              exact ⟨rfl, rfl⟩
            · skip
              have h39 := bI_t h39
              show aw_W _ _ _ _ (40, [some (.ref 0), some (.int 2), some (.int i), some (.int 3), some (.int j), some (.int n), some (.ref 39), some (.ref 41)], []) (ae_en σ α z t0 ts)
              refine aw_go 3 rfl ⟨trivial, trivial, trivial, trivial⟩ ?_
              refine aw_callE rfl rfl (ev_holds_3 (i := j) (n := n) (hm2 h25) hm240) ?_
              show aw_W _ _ _ _ (44, [some (.ref 0), some (.int 2), some (.int i), some (.int 3), some (.int j), some (.int n), some (.ref 39), some (.ref 41)], [.int (bI (hHo m2 j n))]) (ae_en σ α z t0 ts)
              refine aw_go 1 rfl ⟨trivial, trivial⟩ ?_
              refine aw_br (c := ¬ (bI (hHo m2 j n)) = 0) (fun h44 => ?_) (fun h44 => ?_)
              · skip
                have h44 := bI_t h44
                show aw_W _ _ _ _ (47, [some (.ref 0), some (.int 2), some (.int i), some (.int 3), some (.int j), some (.int n), some (.ref 39), some (.ref 41)], []) (ae_en σ α z t0 ts)
                refine aw_go 9 rfl ⟨trivial, trivial, trivial, trivial, trivial, trivial, trivial, ⟨h39.2.1, h44.2.1, h39.1, Nat.le_trans h39.2.2 hm40, Nat.le_trans h44.2.2 hm240⟩, trivial, trivial⟩ ?_
                show aw_W _ _ _ _ (56, [some (.ref 0), some (.int 2), some (.int i), some (.int 3), some (.int j), some (.int n), some (.ref 39), some (.ref 41)], [.int n]) (ae_en σ (au α [(30, va_cpy (α 29) (α 30) (i.toNatClampNeg) (j.toNatClampNeg) (n.toNatClampNeg))]) z t0 ts)
                refine aw_ret rfl rfl trivial ?_
                rw [pCopy, if_neg (fun q => q.elim h21 h25), if_neg (fun q => q h32), if_pos ⟨h39, h44⟩]
                exact ⟨rfl, rfl⟩
              · skip
                have h44 := bI_f (Classical.not_not.mp h44)
                show aw_W _ _ _ _ (45, [some (.ref 0), some (.int 2), some (.int i), some (.int 3), some (.int j), some (.int n), some (.ref 39), some (.ref 41)], []) (ae_en σ α z t0 ts)
                refine aw_go 1 rfl ⟨trivial, trivial⟩ ?_
                refine aw_ret rfl rfl trivial ?_
                rw [pCopy, if_neg (fun q => q.elim h21 h25), if_neg (fun q => q h32), if_neg (fun q => h44 q.2)]
                exact ⟨rfl, rfl⟩
          · skip
            show aw_W _ _ _ _ (33, [some (.ref 0), some (.int 2), some (.int i), some (.int 3), some (.int j), some (.int n), some (.ref 39), some (.ref 41)], []) (ae_en σ α z t0 ts)
            refine aw_go 1 rfl ⟨trivial, trivial⟩ ?_
            refine aw_ret rfl rfl trivial ?_
            rw [pCopy, if_neg (fun q => q.elim h21 h25), if_pos h32]
            exact ⟨rfl, rfl⟩
        · skip
          have h25 := Classical.not_not.mp h25
          show aw_W _ _ _ _ (26, [some (.ref 0), some (.int 2), some (.int i), some (.int 3), some (.int j), some (.int n), some (.ref 39), some (.ref 41)], []) (ae_en σ α z t0 ts)
          refine aw_go 1 rfl ⟨trivial, trivial⟩ ?_
          refine aw_ret rfl rfl trivial ?_
          rw [pCopy, if_pos (Or.inr h25)]
          exact ⟨rfl, rfl⟩
    · skip
      have h5 := bI_f (Classical.not_not.mp h5)
      show aw_W _ _ _ _ (6, [some (.ref 0), some (.int 2), some (.int i), some (.int 3), some (.int j), some (.int n), none, none], []) (ae_en σ α z t0 ts)
      exact absurd h5 (by decide)
theorem ev_copy_3_0 {m m2 : Nat} {i j n : Int32} {zd : Nat} (hm : ¬ σ 24 = -1 → σ 25 = nI m) (hm40 : m ≤ 40) (hm2 : ¬ σ 18 = -1 → σ 19 = nI m2) (hm240 : m2 ≤ 40) : aw_X P (zd + 2) 32 [.ref 0, .int 3, .int i, .int 0, .int j, .int n] (ae_en σ α z t0 ts) (fun r H => r = some (.int ((pCopy m m2 (σ 24) (σ 18) (α 30) (α 27) i j n).1)) ∧ H = (ae_en σ (au α [(27, (pCopy m m2 (σ 24) (σ 18) (α 30) (α 27) i j n).2)]) z t0 ts)) := by
  refine aw_ev (cd := cd_Dried_copy) rfl rfl rfl ?_
  show aw_W _ _ _ _ (0, [some (.ref 0), some (.int 3), some (.int i), some (.int 0), some (.int j), some (.int n), none, none], []) (ae_en σ α z t0 ts)
  refine aw_go 1 rfl ⟨trivial, trivial⟩ ?_
  refine aw_callE rfl rfl (ev_Dried_isSheet (s := 3)) ?_
  show aw_W _ _ _ _ (2, [some (.ref 0), some (.int 3), some (.int i), some (.int 0), some (.int j), some (.int n), none, none], [.int (bI (iP 4 3))]) (ae_en σ α z t0 ts)
  refine aw_go 1 rfl ⟨trivial, trivial⟩ ?_
  refine aw_br (c := (bI (iP 4 3)) = 0) (fun h2 => ?_) (fun h2 => ?_)
  · skip
    have h2 := bI_f h2
    show aw_W _ _ _ _ (6, [some (.ref 0), some (.int 3), some (.int i), some (.int 0), some (.int j), some (.int n), none, none], []) (ae_en σ α z t0 ts)
    exact absurd h2 (by decide)
  · skip
    have h2 := bI_t h2
    show aw_W _ _ _ _ (3, [some (.ref 0), some (.int 3), some (.int i), some (.int 0), some (.int j), some (.int n), none, none], []) (ae_en σ α z t0 ts)
    refine aw_go 1 rfl ⟨trivial, trivial⟩ ?_
    refine aw_callE rfl rfl (ev_Dried_isSheet (s := 0)) ?_
    show aw_W _ _ _ _ (5, [some (.ref 0), some (.int 3), some (.int i), some (.int 0), some (.int j), some (.int n), none, none], [.int (bI (iP 4 0))]) (ae_en σ α z t0 ts)
    refine aw_go 1 rfl ⟨trivial, trivial⟩ ?_
    refine aw_br (c := ¬ (bI (iP 4 0)) = 0) (fun h5 => ?_) (fun h5 => ?_)
    · skip
      have h5 := bI_t h5
      show aw_W _ _ _ _ (8, [some (.ref 0), some (.int 3), some (.int i), some (.int 0), some (.int j), some (.int n), none, none], []) (ae_en σ α z t0 ts)
      refine aw_go 14 rfl ⟨trivial, trivial, trivial, (cI_in (a := 3) rfl (by omega) (by decide)), trivial, trivial, trivial, trivial, (cI_in (a := 0) rfl (by omega) (by decide)), trivial, trivial, trivial, trivial, trivial, trivial⟩ ?_
      show aw_W _ _ _ _ (if (σ 24) = (-1) then 26 else 22, [some (.ref 0), some (.int 3), some (.int i), some (.int 0), some (.int j), some (.int n), some (.ref 41), some (.ref 35)], []) (ae_en σ α z t0 ts)
      refine aw_br (c := (σ 24) = (-1)) (fun h21 => ?_) (fun h21 => ?_)
      · skip
        show aw_W _ _ _ _ (26, [some (.ref 0), some (.int 3), some (.int i), some (.int 0), some (.int j), some (.int n), some (.ref 41), some (.ref 35)], []) (ae_en σ α z t0 ts)
        refine aw_go 1 rfl ⟨trivial, trivial⟩ ?_
        refine aw_ret rfl rfl trivial ?_
        rw [pCopy, if_pos (Or.inl h21)]
        exact ⟨rfl, rfl⟩
      · skip
        show aw_W _ _ _ _ (22, [some (.ref 0), some (.int 3), some (.int i), some (.int 0), some (.int j), some (.int n), some (.ref 41), some (.ref 35)], []) (ae_en σ α z t0 ts)
        refine aw_go 4 rfl ⟨trivial, trivial, trivial, trivial, trivial⟩ ?_
        show aw_W _ _ _ _ (if ¬ (σ 18) = (-1) then 28 else 26, [some (.ref 0), some (.int 3), some (.int i), some (.int 0), some (.int j), some (.int n), some (.ref 41), some (.ref 35)], []) (ae_en σ α z t0 ts)
        refine aw_br (c := ¬ (σ 18) = (-1)) (fun h25 => ?_) (fun h25 => ?_)
        · skip
          show aw_W _ _ _ _ (28, [some (.ref 0), some (.int 3), some (.int i), some (.int 0), some (.int j), some (.int n), some (.ref 41), some (.ref 35)], []) (ae_en σ α z t0 ts)
          refine aw_go 5 rfl ⟨trivial, trivial, trivial, trivial, trivial, trivial⟩ ?_
          show aw_W _ _ _ _ (if (σ 24) = (σ 18) then 35 else 33, [some (.ref 0), some (.int 3), some (.int i), some (.int 0), some (.int j), some (.int n), some (.ref 41), some (.ref 35)], []) (ae_en σ α z t0 ts)
          refine aw_br (c := (σ 24) = (σ 18)) (fun h32 => ?_) (fun h32 => ?_)
          · skip
            show aw_W _ _ _ _ (35, [some (.ref 0), some (.int 3), some (.int i), some (.int 0), some (.int j), some (.int n), some (.ref 41), some (.ref 35)], []) (ae_en σ α z t0 ts)
            refine aw_go 3 rfl ⟨trivial, trivial, trivial, trivial⟩ ?_
            refine aw_callE rfl rfl (ev_holds_3 (i := i) (n := n) (hm h21) hm40) ?_
            show aw_W _ _ _ _ (39, [some (.ref 0), some (.int 3), some (.int i), some (.int 0), some (.int j), some (.int n), some (.ref 41), some (.ref 35)], [.int (bI (hHo m i n))]) (ae_en σ α z t0 ts)
            refine aw_go 1 rfl ⟨trivial, trivial⟩ ?_
            refine aw_br (c := (bI (hHo m i n)) = 0) (fun h39 => ?_) (fun h39 => ?_)
            · skip
              have h39 := bI_f h39
              show aw_W _ _ _ _ (45, [some (.ref 0), some (.int 3), some (.int i), some (.int 0), some (.int j), some (.int n), some (.ref 41), some (.ref 35)], []) (ae_en σ α z t0 ts)
              refine aw_go 1 rfl ⟨trivial, trivial⟩ ?_
              refine aw_ret rfl rfl trivial ?_
              rw [pCopy, if_neg (fun q => q.elim h21 h25), if_neg (fun q => q h32), if_neg (fun q => h39 q.1)]
              exact ⟨rfl, rfl⟩
            · skip
              have h39 := bI_t h39
              show aw_W _ _ _ _ (40, [some (.ref 0), some (.int 3), some (.int i), some (.int 0), some (.int j), some (.int n), some (.ref 41), some (.ref 35)], []) (ae_en σ α z t0 ts)
              refine aw_go 3 rfl ⟨trivial, trivial, trivial, trivial⟩ ?_
              refine aw_callE rfl rfl (ev_holds_0 (i := j) (n := n) (hm2 h25) hm240) ?_
              show aw_W _ _ _ _ (44, [some (.ref 0), some (.int 3), some (.int i), some (.int 0), some (.int j), some (.int n), some (.ref 41), some (.ref 35)], [.int (bI (hHo m2 j n))]) (ae_en σ α z t0 ts)
              refine aw_go 1 rfl ⟨trivial, trivial⟩ ?_
              refine aw_br (c := ¬ (bI (hHo m2 j n)) = 0) (fun h44 => ?_) (fun h44 => ?_)
              · skip
                have h44 := bI_t h44
                show aw_W _ _ _ _ (47, [some (.ref 0), some (.int 3), some (.int i), some (.int 0), some (.int j), some (.int n), some (.ref 41), some (.ref 35)], []) (ae_en σ α z t0 ts)
                refine aw_go 9 rfl ⟨trivial, trivial, trivial, trivial, trivial, trivial, trivial, ⟨h39.2.1, h44.2.1, h39.1, Nat.le_trans h39.2.2 hm40, Nat.le_trans h44.2.2 hm240⟩, trivial, trivial⟩ ?_
                show aw_W _ _ _ _ (56, [some (.ref 0), some (.int 3), some (.int i), some (.int 0), some (.int j), some (.int n), some (.ref 41), some (.ref 35)], [.int n]) (ae_en σ (au α [(27, va_cpy (α 30) (α 27) (i.toNatClampNeg) (j.toNatClampNeg) (n.toNatClampNeg))]) z t0 ts)
                refine aw_ret rfl rfl trivial ?_
                rw [pCopy, if_neg (fun q => q.elim h21 h25), if_neg (fun q => q h32), if_pos ⟨h39, h44⟩]
                exact ⟨rfl, rfl⟩
              · skip
                have h44 := bI_f (Classical.not_not.mp h44)
                show aw_W _ _ _ _ (45, [some (.ref 0), some (.int 3), some (.int i), some (.int 0), some (.int j), some (.int n), some (.ref 41), some (.ref 35)], []) (ae_en σ α z t0 ts)
                refine aw_go 1 rfl ⟨trivial, trivial⟩ ?_
                refine aw_ret rfl rfl trivial ?_
                rw [pCopy, if_neg (fun q => q.elim h21 h25), if_neg (fun q => q h32), if_neg (fun q => h44 q.2)]
                exact ⟨rfl, rfl⟩
          · skip
            show aw_W _ _ _ _ (33, [some (.ref 0), some (.int 3), some (.int i), some (.int 0), some (.int j), some (.int n), some (.ref 41), some (.ref 35)], []) (ae_en σ α z t0 ts)
            refine aw_go 1 rfl ⟨trivial, trivial⟩ ?_
            refine aw_ret rfl rfl trivial ?_
            rw [pCopy, if_neg (fun q => q.elim h21 h25), if_pos h32]
            exact ⟨rfl, rfl⟩
        · skip
          have h25 := Classical.not_not.mp h25
          show aw_W _ _ _ _ (26, [some (.ref 0), some (.int 3), some (.int i), some (.int 0), some (.int j), some (.int n), some (.ref 41), some (.ref 35)], []) (ae_en σ α z t0 ts)
          refine aw_go 1 rfl ⟨trivial, trivial⟩ ?_
          refine aw_ret rfl rfl trivial ?_
          rw [pCopy, if_pos (Or.inr h25)]
          exact ⟨rfl, rfl⟩
    · skip
      have h5 := bI_f (Classical.not_not.mp h5)
      show aw_W _ _ _ _ (6, [some (.ref 0), some (.int 3), some (.int i), some (.int 0), some (.int j), some (.int n), none, none], []) (ae_en σ α z t0 ts)
      exact absurd h5 (by decide)
theorem ev_copy_3_1 {m m2 : Nat} {i j n : Int32} {zd : Nat} (hm : ¬ σ 24 = -1 → σ 25 = nI m) (hm40 : m ≤ 40) (hm2 : ¬ σ 20 = -1 → σ 21 = nI m2) (hm240 : m2 ≤ 40) : aw_X P (zd + 2) 32 [.ref 0, .int 3, .int i, .int 1, .int j, .int n] (ae_en σ α z t0 ts) (fun r H => r = some (.int ((pCopy m m2 (σ 24) (σ 20) (α 30) (α 28) i j n).1)) ∧ H = (ae_en σ (au α [(28, (pCopy m m2 (σ 24) (σ 20) (α 30) (α 28) i j n).2)]) z t0 ts)) := by
  refine aw_ev (cd := cd_Dried_copy) rfl rfl rfl ?_
  show aw_W _ _ _ _ (0, [some (.ref 0), some (.int 3), some (.int i), some (.int 1), some (.int j), some (.int n), none, none], []) (ae_en σ α z t0 ts)
  refine aw_go 1 rfl ⟨trivial, trivial⟩ ?_
  refine aw_callE rfl rfl (ev_Dried_isSheet (s := 3)) ?_
  show aw_W _ _ _ _ (2, [some (.ref 0), some (.int 3), some (.int i), some (.int 1), some (.int j), some (.int n), none, none], [.int (bI (iP 4 3))]) (ae_en σ α z t0 ts)
  refine aw_go 1 rfl ⟨trivial, trivial⟩ ?_
  refine aw_br (c := (bI (iP 4 3)) = 0) (fun h2 => ?_) (fun h2 => ?_)
  · skip
    have h2 := bI_f h2
    show aw_W _ _ _ _ (6, [some (.ref 0), some (.int 3), some (.int i), some (.int 1), some (.int j), some (.int n), none, none], []) (ae_en σ α z t0 ts)
    exact absurd h2 (by decide)
  · skip
    have h2 := bI_t h2
    show aw_W _ _ _ _ (3, [some (.ref 0), some (.int 3), some (.int i), some (.int 1), some (.int j), some (.int n), none, none], []) (ae_en σ α z t0 ts)
    refine aw_go 1 rfl ⟨trivial, trivial⟩ ?_
    refine aw_callE rfl rfl (ev_Dried_isSheet (s := 1)) ?_
    show aw_W _ _ _ _ (5, [some (.ref 0), some (.int 3), some (.int i), some (.int 1), some (.int j), some (.int n), none, none], [.int (bI (iP 4 1))]) (ae_en σ α z t0 ts)
    refine aw_go 1 rfl ⟨trivial, trivial⟩ ?_
    refine aw_br (c := ¬ (bI (iP 4 1)) = 0) (fun h5 => ?_) (fun h5 => ?_)
    · skip
      have h5 := bI_t h5
      show aw_W _ _ _ _ (8, [some (.ref 0), some (.int 3), some (.int i), some (.int 1), some (.int j), some (.int n), none, none], []) (ae_en σ α z t0 ts)
      refine aw_go 14 rfl ⟨trivial, trivial, trivial, (cI_in (a := 3) rfl (by omega) (by decide)), trivial, trivial, trivial, trivial, (cI_in (a := 1) rfl (by omega) (by decide)), trivial, trivial, trivial, trivial, trivial, trivial⟩ ?_
      show aw_W _ _ _ _ (if (σ 24) = (-1) then 26 else 22, [some (.ref 0), some (.int 3), some (.int i), some (.int 1), some (.int j), some (.int n), some (.ref 41), some (.ref 37)], []) (ae_en σ α z t0 ts)
      refine aw_br (c := (σ 24) = (-1)) (fun h21 => ?_) (fun h21 => ?_)
      · skip
        show aw_W _ _ _ _ (26, [some (.ref 0), some (.int 3), some (.int i), some (.int 1), some (.int j), some (.int n), some (.ref 41), some (.ref 37)], []) (ae_en σ α z t0 ts)
        refine aw_go 1 rfl ⟨trivial, trivial⟩ ?_
        refine aw_ret rfl rfl trivial ?_
        rw [pCopy, if_pos (Or.inl h21)]
        exact ⟨rfl, rfl⟩
      · skip
        show aw_W _ _ _ _ (22, [some (.ref 0), some (.int 3), some (.int i), some (.int 1), some (.int j), some (.int n), some (.ref 41), some (.ref 37)], []) (ae_en σ α z t0 ts)
        refine aw_go 4 rfl ⟨trivial, trivial, trivial, trivial, trivial⟩ ?_
        show aw_W _ _ _ _ (if ¬ (σ 20) = (-1) then 28 else 26, [some (.ref 0), some (.int 3), some (.int i), some (.int 1), some (.int j), some (.int n), some (.ref 41), some (.ref 37)], []) (ae_en σ α z t0 ts)
        refine aw_br (c := ¬ (σ 20) = (-1)) (fun h25 => ?_) (fun h25 => ?_)
        · skip
          show aw_W _ _ _ _ (28, [some (.ref 0), some (.int 3), some (.int i), some (.int 1), some (.int j), some (.int n), some (.ref 41), some (.ref 37)], []) (ae_en σ α z t0 ts)
          refine aw_go 5 rfl ⟨trivial, trivial, trivial, trivial, trivial, trivial⟩ ?_
          show aw_W _ _ _ _ (if (σ 24) = (σ 20) then 35 else 33, [some (.ref 0), some (.int 3), some (.int i), some (.int 1), some (.int j), some (.int n), some (.ref 41), some (.ref 37)], []) (ae_en σ α z t0 ts)
          refine aw_br (c := (σ 24) = (σ 20)) (fun h32 => ?_) (fun h32 => ?_)
          · skip
            show aw_W _ _ _ _ (35, [some (.ref 0), some (.int 3), some (.int i), some (.int 1), some (.int j), some (.int n), some (.ref 41), some (.ref 37)], []) (ae_en σ α z t0 ts)
            refine aw_go 3 rfl ⟨trivial, trivial, trivial, trivial⟩ ?_
            refine aw_callE rfl rfl (ev_holds_3 (i := i) (n := n) (hm h21) hm40) ?_
            show aw_W _ _ _ _ (39, [some (.ref 0), some (.int 3), some (.int i), some (.int 1), some (.int j), some (.int n), some (.ref 41), some (.ref 37)], [.int (bI (hHo m i n))]) (ae_en σ α z t0 ts)
            refine aw_go 1 rfl ⟨trivial, trivial⟩ ?_
            refine aw_br (c := (bI (hHo m i n)) = 0) (fun h39 => ?_) (fun h39 => ?_)
            · skip
              have h39 := bI_f h39
              show aw_W _ _ _ _ (45, [some (.ref 0), some (.int 3), some (.int i), some (.int 1), some (.int j), some (.int n), some (.ref 41), some (.ref 37)], []) (ae_en σ α z t0 ts)
              refine aw_go 1 rfl ⟨trivial, trivial⟩ ?_
              refine aw_ret rfl rfl trivial ?_
              rw [pCopy, if_neg (fun q => q.elim h21 h25), if_neg (fun q => q h32), if_neg (fun q => h39 q.1)]
              exact ⟨rfl, rfl⟩
            · skip
              have h39 := bI_t h39
              show aw_W _ _ _ _ (40, [some (.ref 0), some (.int 3), some (.int i), some (.int 1), some (.int j), some (.int n), some (.ref 41), some (.ref 37)], []) (ae_en σ α z t0 ts)
              refine aw_go 3 rfl ⟨trivial, trivial, trivial, trivial⟩ ?_
              refine aw_callE rfl rfl (ev_holds_1 (i := j) (n := n) (hm2 h25) hm240) ?_
              show aw_W _ _ _ _ (44, [some (.ref 0), some (.int 3), some (.int i), some (.int 1), some (.int j), some (.int n), some (.ref 41), some (.ref 37)], [.int (bI (hHo m2 j n))]) (ae_en σ α z t0 ts)
              refine aw_go 1 rfl ⟨trivial, trivial⟩ ?_
              refine aw_br (c := ¬ (bI (hHo m2 j n)) = 0) (fun h44 => ?_) (fun h44 => ?_)
              · skip
                have h44 := bI_t h44
                show aw_W _ _ _ _ (47, [some (.ref 0), some (.int 3), some (.int i), some (.int 1), some (.int j), some (.int n), some (.ref 41), some (.ref 37)], []) (ae_en σ α z t0 ts)
                refine aw_go 9 rfl ⟨trivial, trivial, trivial, trivial, trivial, trivial, trivial, ⟨h39.2.1, h44.2.1, h39.1, Nat.le_trans h39.2.2 hm40, Nat.le_trans h44.2.2 hm240⟩, trivial, trivial⟩ ?_
                show aw_W _ _ _ _ (56, [some (.ref 0), some (.int 3), some (.int i), some (.int 1), some (.int j), some (.int n), some (.ref 41), some (.ref 37)], [.int n]) (ae_en σ (au α [(28, va_cpy (α 30) (α 28) (i.toNatClampNeg) (j.toNatClampNeg) (n.toNatClampNeg))]) z t0 ts)
                refine aw_ret rfl rfl trivial ?_
                rw [pCopy, if_neg (fun q => q.elim h21 h25), if_neg (fun q => q h32), if_pos ⟨h39, h44⟩]
                exact ⟨rfl, rfl⟩
              · skip
                have h44 := bI_f (Classical.not_not.mp h44)
                show aw_W _ _ _ _ (45, [some (.ref 0), some (.int 3), some (.int i), some (.int 1), some (.int j), some (.int n), some (.ref 41), some (.ref 37)], []) (ae_en σ α z t0 ts)
                refine aw_go 1 rfl ⟨trivial, trivial⟩ ?_
                refine aw_ret rfl rfl trivial ?_
                rw [pCopy, if_neg (fun q => q.elim h21 h25), if_neg (fun q => q h32), if_neg (fun q => h44 q.2)]
                exact ⟨rfl, rfl⟩
          · skip
            show aw_W _ _ _ _ (33, [some (.ref 0), some (.int 3), some (.int i), some (.int 1), some (.int j), some (.int n), some (.ref 41), some (.ref 37)], []) (ae_en σ α z t0 ts)
            refine aw_go 1 rfl ⟨trivial, trivial⟩ ?_
            refine aw_ret rfl rfl trivial ?_
            rw [pCopy, if_neg (fun q => q.elim h21 h25), if_pos h32]
            exact ⟨rfl, rfl⟩
        · skip
          have h25 := Classical.not_not.mp h25
          show aw_W _ _ _ _ (26, [some (.ref 0), some (.int 3), some (.int i), some (.int 1), some (.int j), some (.int n), some (.ref 41), some (.ref 37)], []) (ae_en σ α z t0 ts)
          refine aw_go 1 rfl ⟨trivial, trivial⟩ ?_
          refine aw_ret rfl rfl trivial ?_
          rw [pCopy, if_pos (Or.inr h25)]
          exact ⟨rfl, rfl⟩
    · skip
      have h5 := bI_f (Classical.not_not.mp h5)
      show aw_W _ _ _ _ (6, [some (.ref 0), some (.int 3), some (.int i), some (.int 1), some (.int j), some (.int n), none, none], []) (ae_en σ α z t0 ts)
      exact absurd h5 (by decide)
theorem ev_copy_3_2 {m m2 : Nat} {i j n : Int32} {zd : Nat} (hm : ¬ σ 24 = -1 → σ 25 = nI m) (hm40 : m ≤ 40) (hm2 : ¬ σ 22 = -1 → σ 23 = nI m2) (hm240 : m2 ≤ 40) : aw_X P (zd + 2) 32 [.ref 0, .int 3, .int i, .int 2, .int j, .int n] (ae_en σ α z t0 ts) (fun r H => r = some (.int ((pCopy m m2 (σ 24) (σ 22) (α 30) (α 29) i j n).1)) ∧ H = (ae_en σ (au α [(29, (pCopy m m2 (σ 24) (σ 22) (α 30) (α 29) i j n).2)]) z t0 ts)) := by
  refine aw_ev (cd := cd_Dried_copy) rfl rfl rfl ?_
  show aw_W _ _ _ _ (0, [some (.ref 0), some (.int 3), some (.int i), some (.int 2), some (.int j), some (.int n), none, none], []) (ae_en σ α z t0 ts)
  refine aw_go 1 rfl ⟨trivial, trivial⟩ ?_
  refine aw_callE rfl rfl (ev_Dried_isSheet (s := 3)) ?_
  show aw_W _ _ _ _ (2, [some (.ref 0), some (.int 3), some (.int i), some (.int 2), some (.int j), some (.int n), none, none], [.int (bI (iP 4 3))]) (ae_en σ α z t0 ts)
  refine aw_go 1 rfl ⟨trivial, trivial⟩ ?_
  refine aw_br (c := (bI (iP 4 3)) = 0) (fun h2 => ?_) (fun h2 => ?_)
  · skip
    have h2 := bI_f h2
    show aw_W _ _ _ _ (6, [some (.ref 0), some (.int 3), some (.int i), some (.int 2), some (.int j), some (.int n), none, none], []) (ae_en σ α z t0 ts)
    exact absurd h2 (by decide)
  · skip
    have h2 := bI_t h2
    show aw_W _ _ _ _ (3, [some (.ref 0), some (.int 3), some (.int i), some (.int 2), some (.int j), some (.int n), none, none], []) (ae_en σ α z t0 ts)
    refine aw_go 1 rfl ⟨trivial, trivial⟩ ?_
    refine aw_callE rfl rfl (ev_Dried_isSheet (s := 2)) ?_
    show aw_W _ _ _ _ (5, [some (.ref 0), some (.int 3), some (.int i), some (.int 2), some (.int j), some (.int n), none, none], [.int (bI (iP 4 2))]) (ae_en σ α z t0 ts)
    refine aw_go 1 rfl ⟨trivial, trivial⟩ ?_
    refine aw_br (c := ¬ (bI (iP 4 2)) = 0) (fun h5 => ?_) (fun h5 => ?_)
    · skip
      have h5 := bI_t h5
      show aw_W _ _ _ _ (8, [some (.ref 0), some (.int 3), some (.int i), some (.int 2), some (.int j), some (.int n), none, none], []) (ae_en σ α z t0 ts)
      refine aw_go 14 rfl ⟨trivial, trivial, trivial, (cI_in (a := 3) rfl (by omega) (by decide)), trivial, trivial, trivial, trivial, (cI_in (a := 2) rfl (by omega) (by decide)), trivial, trivial, trivial, trivial, trivial, trivial⟩ ?_
      show aw_W _ _ _ _ (if (σ 24) = (-1) then 26 else 22, [some (.ref 0), some (.int 3), some (.int i), some (.int 2), some (.int j), some (.int n), some (.ref 41), some (.ref 39)], []) (ae_en σ α z t0 ts)
      refine aw_br (c := (σ 24) = (-1)) (fun h21 => ?_) (fun h21 => ?_)
      · skip
        show aw_W _ _ _ _ (26, [some (.ref 0), some (.int 3), some (.int i), some (.int 2), some (.int j), some (.int n), some (.ref 41), some (.ref 39)], []) (ae_en σ α z t0 ts)
        refine aw_go 1 rfl ⟨trivial, trivial⟩ ?_
        refine aw_ret rfl rfl trivial ?_
        rw [pCopy, if_pos (Or.inl h21)]
        exact ⟨rfl, rfl⟩
      · skip
        show aw_W _ _ _ _ (22, [some (.ref 0), some (.int 3), some (.int i), some (.int 2), some (.int j), some (.int n), some (.ref 41), some (.ref 39)], []) (ae_en σ α z t0 ts)
        refine aw_go 4 rfl ⟨trivial, trivial, trivial, trivial, trivial⟩ ?_
        show aw_W _ _ _ _ (if ¬ (σ 22) = (-1) then 28 else 26, [some (.ref 0), some (.int 3), some (.int i), some (.int 2), some (.int j), some (.int n), some (.ref 41), some (.ref 39)], []) (ae_en σ α z t0 ts)
        refine aw_br (c := ¬ (σ 22) = (-1)) (fun h25 => ?_) (fun h25 => ?_)
        · skip
          show aw_W _ _ _ _ (28, [some (.ref 0), some (.int 3), some (.int i), some (.int 2), some (.int j), some (.int n), some (.ref 41), some (.ref 39)], []) (ae_en σ α z t0 ts)
          refine aw_go 5 rfl ⟨trivial, trivial, trivial, trivial, trivial, trivial⟩ ?_
          show aw_W _ _ _ _ (if (σ 24) = (σ 22) then 35 else 33, [some (.ref 0), some (.int 3), some (.int i), some (.int 2), some (.int j), some (.int n), some (.ref 41), some (.ref 39)], []) (ae_en σ α z t0 ts)
          refine aw_br (c := (σ 24) = (σ 22)) (fun h32 => ?_) (fun h32 => ?_)
          · skip
            show aw_W _ _ _ _ (35, [some (.ref 0), some (.int 3), some (.int i), some (.int 2), some (.int j), some (.int n), some (.ref 41), some (.ref 39)], []) (ae_en σ α z t0 ts)
            refine aw_go 3 rfl ⟨trivial, trivial, trivial, trivial⟩ ?_
            refine aw_callE rfl rfl (ev_holds_3 (i := i) (n := n) (hm h21) hm40) ?_
            show aw_W _ _ _ _ (39, [some (.ref 0), some (.int 3), some (.int i), some (.int 2), some (.int j), some (.int n), some (.ref 41), some (.ref 39)], [.int (bI (hHo m i n))]) (ae_en σ α z t0 ts)
            refine aw_go 1 rfl ⟨trivial, trivial⟩ ?_
            refine aw_br (c := (bI (hHo m i n)) = 0) (fun h39 => ?_) (fun h39 => ?_)
            · skip
              have h39 := bI_f h39
              show aw_W _ _ _ _ (45, [some (.ref 0), some (.int 3), some (.int i), some (.int 2), some (.int j), some (.int n), some (.ref 41), some (.ref 39)], []) (ae_en σ α z t0 ts)
              refine aw_go 1 rfl ⟨trivial, trivial⟩ ?_
              refine aw_ret rfl rfl trivial ?_
              rw [pCopy, if_neg (fun q => q.elim h21 h25), if_neg (fun q => q h32), if_neg (fun q => h39 q.1)]
              exact ⟨rfl, rfl⟩
            · skip
              have h39 := bI_t h39
              show aw_W _ _ _ _ (40, [some (.ref 0), some (.int 3), some (.int i), some (.int 2), some (.int j), some (.int n), some (.ref 41), some (.ref 39)], []) (ae_en σ α z t0 ts)
              refine aw_go 3 rfl ⟨trivial, trivial, trivial, trivial⟩ ?_
              refine aw_callE rfl rfl (ev_holds_2 (i := j) (n := n) (hm2 h25) hm240) ?_
              show aw_W _ _ _ _ (44, [some (.ref 0), some (.int 3), some (.int i), some (.int 2), some (.int j), some (.int n), some (.ref 41), some (.ref 39)], [.int (bI (hHo m2 j n))]) (ae_en σ α z t0 ts)
              refine aw_go 1 rfl ⟨trivial, trivial⟩ ?_
              refine aw_br (c := ¬ (bI (hHo m2 j n)) = 0) (fun h44 => ?_) (fun h44 => ?_)
              · skip
                have h44 := bI_t h44
                show aw_W _ _ _ _ (47, [some (.ref 0), some (.int 3), some (.int i), some (.int 2), some (.int j), some (.int n), some (.ref 41), some (.ref 39)], []) (ae_en σ α z t0 ts)
                refine aw_go 9 rfl ⟨trivial, trivial, trivial, trivial, trivial, trivial, trivial, ⟨h39.2.1, h44.2.1, h39.1, Nat.le_trans h39.2.2 hm40, Nat.le_trans h44.2.2 hm240⟩, trivial, trivial⟩ ?_
                show aw_W _ _ _ _ (56, [some (.ref 0), some (.int 3), some (.int i), some (.int 2), some (.int j), some (.int n), some (.ref 41), some (.ref 39)], [.int n]) (ae_en σ (au α [(29, va_cpy (α 30) (α 29) (i.toNatClampNeg) (j.toNatClampNeg) (n.toNatClampNeg))]) z t0 ts)
                refine aw_ret rfl rfl trivial ?_
                rw [pCopy, if_neg (fun q => q.elim h21 h25), if_neg (fun q => q h32), if_pos ⟨h39, h44⟩]
                exact ⟨rfl, rfl⟩
              · skip
                have h44 := bI_f (Classical.not_not.mp h44)
                show aw_W _ _ _ _ (45, [some (.ref 0), some (.int 3), some (.int i), some (.int 2), some (.int j), some (.int n), some (.ref 41), some (.ref 39)], []) (ae_en σ α z t0 ts)
                refine aw_go 1 rfl ⟨trivial, trivial⟩ ?_
                refine aw_ret rfl rfl trivial ?_
                rw [pCopy, if_neg (fun q => q.elim h21 h25), if_neg (fun q => q h32), if_neg (fun q => h44 q.2)]
                exact ⟨rfl, rfl⟩
          · skip
            show aw_W _ _ _ _ (33, [some (.ref 0), some (.int 3), some (.int i), some (.int 2), some (.int j), some (.int n), some (.ref 41), some (.ref 39)], []) (ae_en σ α z t0 ts)
            refine aw_go 1 rfl ⟨trivial, trivial⟩ ?_
            refine aw_ret rfl rfl trivial ?_
            rw [pCopy, if_neg (fun q => q.elim h21 h25), if_pos h32]
            exact ⟨rfl, rfl⟩
        · skip
          have h25 := Classical.not_not.mp h25
          show aw_W _ _ _ _ (26, [some (.ref 0), some (.int 3), some (.int i), some (.int 2), some (.int j), some (.int n), some (.ref 41), some (.ref 39)], []) (ae_en σ α z t0 ts)
          refine aw_go 1 rfl ⟨trivial, trivial⟩ ?_
          refine aw_ret rfl rfl trivial ?_
          rw [pCopy, if_pos (Or.inr h25)]
          exact ⟨rfl, rfl⟩
    · skip
      have h5 := bI_f (Classical.not_not.mp h5)
      show aw_W _ _ _ _ (6, [some (.ref 0), some (.int 3), some (.int i), some (.int 2), some (.int j), some (.int n), none, none], []) (ae_en σ α z t0 ts)
      exact absurd h5 (by decide)
theorem ev_copy_3_3 {m m2 : Nat} {i j n : Int32} {zd : Nat} (hm : ¬ σ 24 = -1 → σ 25 = nI m) (hm40 : m ≤ 40) (hm2 : ¬ σ 24 = -1 → σ 25 = nI m2) (hm240 : m2 ≤ 40) : aw_X P (zd + 2) 32 [.ref 0, .int 3, .int i, .int 3, .int j, .int n] (ae_en σ α z t0 ts) (fun r H => r = some (.int ((pCopy m m2 (σ 24) (σ 24) (α 30) (α 30) i j n).1)) ∧ H = (ae_en σ (au α [(30, (pCopy m m2 (σ 24) (σ 24) (α 30) (α 30) i j n).2)]) z t0 ts)) := by
  refine aw_ev (cd := cd_Dried_copy) rfl rfl rfl ?_
  show aw_W _ _ _ _ (0, [some (.ref 0), some (.int 3), some (.int i), some (.int 3), some (.int j), some (.int n), none, none], []) (ae_en σ α z t0 ts)
  refine aw_go 1 rfl ⟨trivial, trivial⟩ ?_
  refine aw_callE rfl rfl (ev_Dried_isSheet (s := 3)) ?_
  show aw_W _ _ _ _ (2, [some (.ref 0), some (.int 3), some (.int i), some (.int 3), some (.int j), some (.int n), none, none], [.int (bI (iP 4 3))]) (ae_en σ α z t0 ts)
  refine aw_go 1 rfl ⟨trivial, trivial⟩ ?_
  refine aw_br (c := (bI (iP 4 3)) = 0) (fun h2 => ?_) (fun h2 => ?_)
  · skip
    have h2 := bI_f h2
    show aw_W _ _ _ _ (6, [some (.ref 0), some (.int 3), some (.int i), some (.int 3), some (.int j), some (.int n), none, none], []) (ae_en σ α z t0 ts)
    exact absurd h2 (by decide)
  · skip
    have h2 := bI_t h2
    show aw_W _ _ _ _ (3, [some (.ref 0), some (.int 3), some (.int i), some (.int 3), some (.int j), some (.int n), none, none], []) (ae_en σ α z t0 ts)
    refine aw_go 1 rfl ⟨trivial, trivial⟩ ?_
    refine aw_callE rfl rfl (ev_Dried_isSheet (s := 3)) ?_
    show aw_W _ _ _ _ (5, [some (.ref 0), some (.int 3), some (.int i), some (.int 3), some (.int j), some (.int n), none, none], [.int (bI (iP 4 3))]) (ae_en σ α z t0 ts)
    refine aw_go 1 rfl ⟨trivial, trivial⟩ ?_
    refine aw_br (c := ¬ (bI (iP 4 3)) = 0) (fun h5 => ?_) (fun h5 => ?_)
    · skip
      have h5 := bI_t h5
      show aw_W _ _ _ _ (8, [some (.ref 0), some (.int 3), some (.int i), some (.int 3), some (.int j), some (.int n), none, none], []) (ae_en σ α z t0 ts)
      refine aw_go 14 rfl ⟨trivial, trivial, trivial, (cI_in (a := 3) rfl (by omega) (by decide)), trivial, trivial, trivial, trivial, (cI_in (a := 3) rfl (by omega) (by decide)), trivial, trivial, trivial, trivial, trivial, trivial⟩ ?_
      show aw_W _ _ _ _ (if (σ 24) = (-1) then 26 else 22, [some (.ref 0), some (.int 3), some (.int i), some (.int 3), some (.int j), some (.int n), some (.ref 41), some (.ref 41)], []) (ae_en σ α z t0 ts)
      refine aw_br (c := (σ 24) = (-1)) (fun h21 => ?_) (fun h21 => ?_)
      · skip
        show aw_W _ _ _ _ (26, [some (.ref 0), some (.int 3), some (.int i), some (.int 3), some (.int j), some (.int n), some (.ref 41), some (.ref 41)], []) (ae_en σ α z t0 ts)
        refine aw_go 1 rfl ⟨trivial, trivial⟩ ?_
        refine aw_ret rfl rfl trivial ?_
        rw [pCopy, if_pos (Or.inl h21)]
        exact ⟨rfl, rfl⟩
      · skip
        show aw_W _ _ _ _ (22, [some (.ref 0), some (.int 3), some (.int i), some (.int 3), some (.int j), some (.int n), some (.ref 41), some (.ref 41)], []) (ae_en σ α z t0 ts)
        refine aw_go 4 rfl ⟨trivial, trivial, trivial, trivial, trivial⟩ ?_
        show aw_W _ _ _ _ (if ¬ (σ 24) = (-1) then 28 else 26, [some (.ref 0), some (.int 3), some (.int i), some (.int 3), some (.int j), some (.int n), some (.ref 41), some (.ref 41)], []) (ae_en σ α z t0 ts)
        refine aw_br (c := ¬ (σ 24) = (-1)) (fun h25 => ?_) (fun h25 => ?_)
        · skip
          show aw_W _ _ _ _ (28, [some (.ref 0), some (.int 3), some (.int i), some (.int 3), some (.int j), some (.int n), some (.ref 41), some (.ref 41)], []) (ae_en σ α z t0 ts)
          refine aw_go 5 rfl ⟨trivial, trivial, trivial, trivial, trivial, trivial⟩ ?_
          show aw_W _ _ _ _ (if (σ 24) = (σ 24) then 35 else 33, [some (.ref 0), some (.int 3), some (.int i), some (.int 3), some (.int j), some (.int n), some (.ref 41), some (.ref 41)], []) (ae_en σ α z t0 ts)
          refine aw_br (c := (σ 24) = (σ 24)) (fun h32 => ?_) (fun h32 => ?_)
          · skip
            show aw_W _ _ _ _ (35, [some (.ref 0), some (.int 3), some (.int i), some (.int 3), some (.int j), some (.int n), some (.ref 41), some (.ref 41)], []) (ae_en σ α z t0 ts)
            refine aw_go 3 rfl ⟨trivial, trivial, trivial, trivial⟩ ?_
            refine aw_callE rfl rfl (ev_holds_3 (i := i) (n := n) (hm h21) hm40) ?_
            show aw_W _ _ _ _ (39, [some (.ref 0), some (.int 3), some (.int i), some (.int 3), some (.int j), some (.int n), some (.ref 41), some (.ref 41)], [.int (bI (hHo m i n))]) (ae_en σ α z t0 ts)
            refine aw_go 1 rfl ⟨trivial, trivial⟩ ?_
            refine aw_br (c := (bI (hHo m i n)) = 0) (fun h39 => ?_) (fun h39 => ?_)
            · skip
              have h39 := bI_f h39
              show aw_W _ _ _ _ (45, [some (.ref 0), some (.int 3), some (.int i), some (.int 3), some (.int j), some (.int n), some (.ref 41), some (.ref 41)], []) (ae_en σ α z t0 ts)
              refine aw_go 1 rfl ⟨trivial, trivial⟩ ?_
              refine aw_ret rfl rfl trivial ?_
              rw [pCopy, if_neg (fun q => q.elim h21 h25), if_neg (fun q => q h32), if_neg (fun q => h39 q.1)]
              exact ⟨rfl, rfl⟩
            · skip
              have h39 := bI_t h39
              show aw_W _ _ _ _ (40, [some (.ref 0), some (.int 3), some (.int i), some (.int 3), some (.int j), some (.int n), some (.ref 41), some (.ref 41)], []) (ae_en σ α z t0 ts)
              refine aw_go 3 rfl ⟨trivial, trivial, trivial, trivial⟩ ?_
              refine aw_callE rfl rfl (ev_holds_3 (i := j) (n := n) (hm2 h25) hm240) ?_
              show aw_W _ _ _ _ (44, [some (.ref 0), some (.int 3), some (.int i), some (.int 3), some (.int j), some (.int n), some (.ref 41), some (.ref 41)], [.int (bI (hHo m2 j n))]) (ae_en σ α z t0 ts)
              refine aw_go 1 rfl ⟨trivial, trivial⟩ ?_
              refine aw_br (c := ¬ (bI (hHo m2 j n)) = 0) (fun h44 => ?_) (fun h44 => ?_)
              · skip
                have h44 := bI_t h44
                show aw_W _ _ _ _ (47, [some (.ref 0), some (.int 3), some (.int i), some (.int 3), some (.int j), some (.int n), some (.ref 41), some (.ref 41)], []) (ae_en σ α z t0 ts)
                refine aw_go 9 rfl ⟨trivial, trivial, trivial, trivial, trivial, trivial, trivial, ⟨h39.2.1, h44.2.1, h39.1, Nat.le_trans h39.2.2 hm40, Nat.le_trans h44.2.2 hm240⟩, trivial, trivial⟩ ?_
                show aw_W _ _ _ _ (56, [some (.ref 0), some (.int 3), some (.int i), some (.int 3), some (.int j), some (.int n), some (.ref 41), some (.ref 41)], [.int n]) (ae_en σ (au α [(30, va_cpy (α 30) (α 30) (i.toNatClampNeg) (j.toNatClampNeg) (n.toNatClampNeg))]) z t0 ts)
                refine aw_ret rfl rfl trivial ?_
                rw [pCopy, if_neg (fun q => q.elim h21 h25), if_neg (fun q => q h32), if_pos ⟨h39, h44⟩]
                exact ⟨rfl, rfl⟩
              · skip
                have h44 := bI_f (Classical.not_not.mp h44)
                show aw_W _ _ _ _ (45, [some (.ref 0), some (.int 3), some (.int i), some (.int 3), some (.int j), some (.int n), some (.ref 41), some (.ref 41)], []) (ae_en σ α z t0 ts)
                refine aw_go 1 rfl ⟨trivial, trivial⟩ ?_
                refine aw_ret rfl rfl trivial ?_
                rw [pCopy, if_neg (fun q => q.elim h21 h25), if_neg (fun q => q h32), if_neg (fun q => h44 q.2)]
                exact ⟨rfl, rfl⟩
          · skip
            show aw_W _ _ _ _ (33, [some (.ref 0), some (.int 3), some (.int i), some (.int 3), some (.int j), some (.int n), some (.ref 41), some (.ref 41)], []) (ae_en σ α z t0 ts)
            refine aw_go 1 rfl ⟨trivial, trivial⟩ ?_
            refine aw_ret rfl rfl trivial ?_
            rw [pCopy, if_neg (fun q => q.elim h21 h25), if_pos h32]
            exact ⟨rfl, rfl⟩
        · skip
          have h25 := Classical.not_not.mp h25
          show aw_W _ _ _ _ (26, [some (.ref 0), some (.int 3), some (.int i), some (.int 3), some (.int j), some (.int n), some (.ref 41), some (.ref 41)], []) (ae_en σ α z t0 ts)
          refine aw_go 1 rfl ⟨trivial, trivial⟩ ?_
          refine aw_ret rfl rfl trivial ?_
          rw [pCopy, if_pos (Or.inr h25)]
          exact ⟨rfl, rfl⟩
    · skip
      have h5 := bI_f (Classical.not_not.mp h5)
      show aw_W _ _ _ _ (6, [some (.ref 0), some (.int 3), some (.int i), some (.int 3), some (.int j), some (.int n), none, none], []) (ae_en σ α z t0 ts)
      exact absurd h5 (by decide)
theorem lp_planks_0 {zd : Nat} {m N : Nat} {s fr cm : Int32} {q : Nat × ae_S6} {R : Int32 × Nat × ae_S6} {l8 : Option Value} (hm : σ 19 = nI m) (hm40 : m ≤ 40) (hN : N ≤ 10) (hq : q.1 ≤ 10) (k : Nat) (hk : k ≤ N) (hI : pPks (α 27) m fr (N - k) k cm q = R) : aw_W P (zd + 2) cd_Dried_planks (fun r H => r = some (.int R.1) ∧ H = (ae_en (au σ [(1, nI R.2.1)]) (au α [(0, R.2.2.1), (1, R.2.2.2.1), (2, R.2.2.2.2.1), (3, R.2.2.2.2.2.1), (5, R.2.2.2.2.2.2.1), (7, R.2.2.2.2.2.2.2)]) z t0 ts)) (40, [some (.ref 0), some (.int 0), some (.int s), some (.int fr), some (.int (nI N)), some (.ref 35), some (.int cm), some (.int (nI k)), l8], []) (ae_en (au σ [(1, nI q.1)]) (au α [(0, q.2.1), (1, q.2.2.1), (2, q.2.2.2.1), (3, q.2.2.2.2.1), (5, q.2.2.2.2.2.1), (7, q.2.2.2.2.2.2)]) z t0 ts) := by
  refine aw_go 3 rfl ⟨trivial, trivial, trivial, trivial⟩ ?_
  refine aw_br (c := (nI N) ≤ (nI k)) (fun h42 => ?_) (fun h42 => ?_)
  · skip
    have h42 := cI_leT (a := N) (b := k) rfl rfl (by omega) (by omega) h42
    show aw_W _ _ _ _ (78, [some (.ref 0), some (.int 0), some (.int s), some (.int fr), some (.int (nI N)), some (.ref 35), some (.int cm), some (.int (nI k)), l8], []) (ae_en (au σ [(1, nI q.1)]) (au α [(0, q.2.1), (1, q.2.2.1), (2, q.2.2.2.1), (3, q.2.2.2.2.1), (5, q.2.2.2.2.2.1), (7, q.2.2.2.2.2.2)]) z t0 ts)
    rw [show N - k = 0 by omega] at hI
    refine aw_go 1 rfl ⟨trivial, trivial⟩ ?_
    refine aw_ret rfl rfl trivial ?_
    rw [← hI]
    exact ⟨rfl, rfl⟩
  · skip
    have h42 := cI_leF (a := N) (b := k) rfl rfl (by omega) (by omega) h42
    show aw_W _ _ _ _ (43, [some (.ref 0), some (.int 0), some (.int s), some (.int fr), some (.int (nI N)), some (.ref 35), some (.int cm), some (.int (nI k)), l8], []) (ae_en (au σ [(1, nI q.1)]) (au α [(0, q.2.1), (1, q.2.2.1), (2, q.2.2.2.1), (3, q.2.2.2.2.1), (5, q.2.2.2.2.2.1), (7, q.2.2.2.2.2.2)]) z t0 ts)
    obtain ⟨r, hr⟩ : ∃ r, N - k = r + 1 := ⟨N - k - 1, by omega⟩
    rw [hr, pPks] at hI
    refine aw_go 9 rfl ⟨trivial, trivial, trivial, trivial, trivial, trivial, trivial, trivial, trivial, trivial⟩ ?_
    show aw_W _ _ _ _ (52, [some (.ref 0), some (.int 0), some (.int s), some (.int fr), some (.int (nI N)), some (.ref 35), some (.int cm), some (.int (nI k)), some (.int (fr + (3 * (nI k))))], [.int 3, .int (fr + (3 * (nI k))), .ref 35]) (ae_en (au σ [(1, nI q.1)]) (au α [(0, q.2.1), (1, q.2.2.1), (2, q.2.2.2.1), (3, q.2.2.2.2.1), (5, q.2.2.2.2.2.1), (7, q.2.2.2.2.2.2)]) z t0 ts)
    refine aw_callE rfl rfl (ev_holds_0 (i := (fr + (3 * (nI k)))) (n := 3) hm hm40) ?_
    show aw_W _ _ _ _ (53, [some (.ref 0), some (.int 0), some (.int s), some (.int fr), some (.int (nI N)), some (.ref 35), some (.int cm), some (.int (nI k)), some (.int (fr + (3 * (nI k))))], [.int (bI (hHo m (fr + (3 * (nI k))) 3))]) (ae_en (au σ [(1, nI q.1)]) (au α [(0, q.2.1), (1, q.2.2.1), (2, q.2.2.2.1), (3, q.2.2.2.2.1), (5, q.2.2.2.2.2.1), (7, q.2.2.2.2.2.2)]) z t0 ts)
    refine aw_go 1 rfl ⟨trivial, trivial⟩ ?_
    refine aw_br (c := ¬ (bI (hHo m (fr + (3 * (nI k))) 3)) = 0) (fun h53 => ?_) (fun h53 => ?_)
    · skip
      have h53 := bI_t h53
      show aw_W _ _ _ _ (56, [some (.ref 0), some (.int 0), some (.int s), some (.int fr), some (.int (nI N)), some (.ref 35), some (.int cm), some (.int (nI k)), some (.int (fr + (3 * (nI k))))], []) (ae_en (au σ [(1, nI q.1)]) (au α [(0, q.2.1), (1, q.2.2.1), (2, q.2.2.2.1), (3, q.2.2.2.2.1), (5, q.2.2.2.2.2.1), (7, q.2.2.2.2.2.2)]) z t0 ts)
      rw [if_pos h53] at hI
      obtain ⟨a, ha, ea⟩ := nI_of h53.2.1
      have hq2 := h53.2.2
      rw [ea, nI_clamp ha, show (3 : Int32).toNatClampNeg = 3 from rfl] at hq2
      rw [ea, nI_clamp ha] at hI
      rw [ea]
      have hI2 := hI
      refine aw_go 17 rfl ⟨trivial, trivial, trivial, trivial, (cI_in (a := a) rfl (by omega) (by decide)), trivial, trivial, trivial, trivial, trivial, (cI_in (a := a + 1) (cI_add (a := a) (b := 1) rfl rfl) (by omega) (by decide)), trivial, trivial, trivial, trivial, trivial, (cI_in (a := a + 2) (cI_add (a := a) (b := 2) rfl rfl) (by omega) (by decide)), trivial⟩ ?_
      show aw_W _ _ _ _ (73, [some (.ref 0), some (.int 0), some (.int s), some (.int fr), some (.int (nI N)), some (.ref 35), some (.int cm), some (.int (nI k)), some (.int (nI a))], [.int (α 27 ((nI a) + 2).toNatClampNeg), .int (α 27 ((nI a) + 1).toNatClampNeg), .int (α 27 (nI a).toNatClampNeg), .ref 0]) (ae_en (au σ [(1, nI q.1)]) (au α [(0, q.2.1), (1, q.2.2.1), (2, q.2.2.2.1), (3, q.2.2.2.2.1), (5, q.2.2.2.2.2.1), (7, q.2.2.2.2.2.2)]) z t0 ts)
      rw [show (nI a).toNatClampNeg = a from cI_cl (a := a) rfl (by omega)]
      rw [show ((nI a) + 1).toNatClampNeg = a + 1 from cI_cl (a := a + 1) (cI_add (a := a) (b := 1) rfl rfl) (by omega)]
      rw [show ((nI a) + 2).toNatClampNeg = a + 2 from cI_cl (a := a + 2) (cI_add (a := a) (b := 2) rfl rfl) (by omega)]
      refine aw_call rfl rfl (ev_Dried_plank (k := (α 27 a)) (x := (α 27 (a + 1))) (m := (α 27 (a + 2))) rfl hq) ?_
      rintro _ _ ⟨rfl, rfl⟩
      show aw_W _ _ _ _ (74, [some (.ref 0), some (.int 0), some (.int s), some (.int fr), some (.int (nI N)), some (.ref 35), some (.int cm), some (.int (nI k)), some (.int (nI a))], [.int ((pPlank q.1 (q.2.1, q.2.2.1, q.2.2.2.1, q.2.2.2.2.1, q.2.2.2.2.2.1, q.2.2.2.2.2.2) (α 27 a) (α 27 (a + 1)) (α 27 (a + 2))).1)]) (ae_en (au σ [(1, nI (pPlank q.1 (q.2.1, q.2.2.1, q.2.2.2.1, q.2.2.2.2.1, q.2.2.2.2.2.1, q.2.2.2.2.2.2) (α 27 a) (α 27 (a + 1)) (α 27 (a + 2))).2.1)]) (au α [(0, (pPlank q.1 (q.2.1, q.2.2.1, q.2.2.2.1, q.2.2.2.2.1, q.2.2.2.2.2.1, q.2.2.2.2.2.2) (α 27 a) (α 27 (a + 1)) (α 27 (a + 2))).2.2.1), (1, (pPlank q.1 (q.2.1, q.2.2.1, q.2.2.2.1, q.2.2.2.2.1, q.2.2.2.2.2.1, q.2.2.2.2.2.2) (α 27 a) (α 27 (a + 1)) (α 27 (a + 2))).2.2.2.1), (2, (pPlank q.1 (q.2.1, q.2.2.1, q.2.2.2.1, q.2.2.2.2.1, q.2.2.2.2.2.1, q.2.2.2.2.2.2) (α 27 a) (α 27 (a + 1)) (α 27 (a + 2))).2.2.2.2.1), (3, (pPlank q.1 (q.2.1, q.2.2.1, q.2.2.2.1, q.2.2.2.2.1, q.2.2.2.2.2.1, q.2.2.2.2.2.2) (α 27 a) (α 27 (a + 1)) (α 27 (a + 2))).2.2.2.2.2.1), (5, (pPlank q.1 (q.2.1, q.2.2.1, q.2.2.2.1, q.2.2.2.2.1, q.2.2.2.2.2.1, q.2.2.2.2.2.2) (α 27 a) (α 27 (a + 1)) (α 27 (a + 2))).2.2.2.2.2.2.1), (7, (pPlank q.1 (q.2.1, q.2.2.1, q.2.2.2.1, q.2.2.2.2.1, q.2.2.2.2.2.1, q.2.2.2.2.2.2) (α 27 a) (α 27 (a + 1)) (α 27 (a + 2))).2.2.2.2.2.2.2)]) z t0 ts)
      refine aw_go 1 rfl ⟨trivial, trivial⟩ ?_
      refine aw_br (c := ((pPlank q.1 (q.2.1, q.2.2.1, q.2.2.2.1, q.2.2.2.2.1, q.2.2.2.2.2.1, q.2.2.2.2.2.2) (α 27 a) (α 27 (a + 1)) (α 27 (a + 2))).1) < 0) (fun h74 => ?_) (fun h74 => ?_)
      · skip
        show aw_W _ _ _ _ (76, [some (.ref 0), some (.int 0), some (.int s), some (.int fr), some (.int (nI N)), some (.ref 35), some (.int cm), some (.int (nI k)), some (.int (nI a))], []) (ae_en (au σ [(1, nI (pPlank q.1 (q.2.1, q.2.2.1, q.2.2.2.1, q.2.2.2.2.1, q.2.2.2.2.2.1, q.2.2.2.2.2.2) (α 27 a) (α 27 (a + 1)) (α 27 (a + 2))).2.1)]) (au α [(0, (pPlank q.1 (q.2.1, q.2.2.1, q.2.2.2.1, q.2.2.2.2.1, q.2.2.2.2.2.1, q.2.2.2.2.2.2) (α 27 a) (α 27 (a + 1)) (α 27 (a + 2))).2.2.1), (1, (pPlank q.1 (q.2.1, q.2.2.1, q.2.2.2.1, q.2.2.2.2.1, q.2.2.2.2.2.1, q.2.2.2.2.2.2) (α 27 a) (α 27 (a + 1)) (α 27 (a + 2))).2.2.2.1), (2, (pPlank q.1 (q.2.1, q.2.2.1, q.2.2.2.1, q.2.2.2.2.1, q.2.2.2.2.2.1, q.2.2.2.2.2.2) (α 27 a) (α 27 (a + 1)) (α 27 (a + 2))).2.2.2.2.1), (3, (pPlank q.1 (q.2.1, q.2.2.1, q.2.2.2.1, q.2.2.2.2.1, q.2.2.2.2.2.1, q.2.2.2.2.2.2) (α 27 a) (α 27 (a + 1)) (α 27 (a + 2))).2.2.2.2.2.1), (5, (pPlank q.1 (q.2.1, q.2.2.1, q.2.2.2.1, q.2.2.2.2.1, q.2.2.2.2.2.1, q.2.2.2.2.2.2) (α 27 a) (α 27 (a + 1)) (α 27 (a + 2))).2.2.2.2.2.2.1), (7, (pPlank q.1 (q.2.1, q.2.2.1, q.2.2.2.1, q.2.2.2.2.1, q.2.2.2.2.2.1, q.2.2.2.2.2.2) (α 27 a) (α 27 (a + 1)) (α 27 (a + 2))).2.2.2.2.2.2.2)]) z t0 ts)
        refine aw_go 2 rfl ⟨trivial, trivial, trivial⟩ ?_
        show aw_W _ _ _ _ (40, [some (.ref 0), some (.int 0), some (.int s), some (.int fr), some (.int (nI N)), some (.ref 35), some (.int cm), some (.int ((nI k) + 1)), some (.int (nI a))], []) (ae_en (au σ [(1, nI (pPlank q.1 (q.2.1, q.2.2.1, q.2.2.2.1, q.2.2.2.2.1, q.2.2.2.2.2.1, q.2.2.2.2.2.2) (α 27 a) (α 27 (a + 1)) (α 27 (a + 2))).2.1)]) (au α [(0, (pPlank q.1 (q.2.1, q.2.2.1, q.2.2.2.1, q.2.2.2.2.1, q.2.2.2.2.2.1, q.2.2.2.2.2.2) (α 27 a) (α 27 (a + 1)) (α 27 (a + 2))).2.2.1), (1, (pPlank q.1 (q.2.1, q.2.2.1, q.2.2.2.1, q.2.2.2.2.1, q.2.2.2.2.2.1, q.2.2.2.2.2.2) (α 27 a) (α 27 (a + 1)) (α 27 (a + 2))).2.2.2.1), (2, (pPlank q.1 (q.2.1, q.2.2.1, q.2.2.2.1, q.2.2.2.2.1, q.2.2.2.2.2.1, q.2.2.2.2.2.2) (α 27 a) (α 27 (a + 1)) (α 27 (a + 2))).2.2.2.2.1), (3, (pPlank q.1 (q.2.1, q.2.2.1, q.2.2.2.1, q.2.2.2.2.1, q.2.2.2.2.2.1, q.2.2.2.2.2.2) (α 27 a) (α 27 (a + 1)) (α 27 (a + 2))).2.2.2.2.2.1), (5, (pPlank q.1 (q.2.1, q.2.2.1, q.2.2.2.1, q.2.2.2.2.1, q.2.2.2.2.2.1, q.2.2.2.2.2.2) (α 27 a) (α 27 (a + 1)) (α 27 (a + 2))).2.2.2.2.2.2.1), (7, (pPlank q.1 (q.2.1, q.2.2.1, q.2.2.2.1, q.2.2.2.2.1, q.2.2.2.2.2.1, q.2.2.2.2.2.2) (α 27 a) (α 27 (a + 1)) (α 27 (a + 2))).2.2.2.2.2.2.2)]) z t0 ts)
        rw [show (nI k) + 1 = nI (k + 1) from (cI_add (a := k) (b := 1) rfl rfl)]
        exact lp_planks_0 (q := (pPlank q.1 q.2 (α 27 a) (α 27 (a + 1)) (α 27 (a + 2))).2) hm hm40 hN (pPlank_n hq) (k + 1) (by omega) (by rw [show N - (k + 1) = r by omega, ← hI2, if_pos h74])
      · skip
        show aw_W _ _ _ _ (75, [some (.ref 0), some (.int 0), some (.int s), some (.int fr), some (.int (nI N)), some (.ref 35), some (.int cm), some (.int (nI k)), some (.int (nI a))], []) (ae_en (au σ [(1, nI (pPlank q.1 (q.2.1, q.2.2.1, q.2.2.2.1, q.2.2.2.2.1, q.2.2.2.2.2.1, q.2.2.2.2.2.2) (α 27 a) (α 27 (a + 1)) (α 27 (a + 2))).2.1)]) (au α [(0, (pPlank q.1 (q.2.1, q.2.2.1, q.2.2.2.1, q.2.2.2.2.1, q.2.2.2.2.2.1, q.2.2.2.2.2.2) (α 27 a) (α 27 (a + 1)) (α 27 (a + 2))).2.2.1), (1, (pPlank q.1 (q.2.1, q.2.2.1, q.2.2.2.1, q.2.2.2.2.1, q.2.2.2.2.2.1, q.2.2.2.2.2.2) (α 27 a) (α 27 (a + 1)) (α 27 (a + 2))).2.2.2.1), (2, (pPlank q.1 (q.2.1, q.2.2.1, q.2.2.2.1, q.2.2.2.2.1, q.2.2.2.2.2.1, q.2.2.2.2.2.2) (α 27 a) (α 27 (a + 1)) (α 27 (a + 2))).2.2.2.2.1), (3, (pPlank q.1 (q.2.1, q.2.2.1, q.2.2.2.1, q.2.2.2.2.1, q.2.2.2.2.2.1, q.2.2.2.2.2.2) (α 27 a) (α 27 (a + 1)) (α 27 (a + 2))).2.2.2.2.2.1), (5, (pPlank q.1 (q.2.1, q.2.2.1, q.2.2.2.1, q.2.2.2.2.1, q.2.2.2.2.2.1, q.2.2.2.2.2.2) (α 27 a) (α 27 (a + 1)) (α 27 (a + 2))).2.2.2.2.2.2.1), (7, (pPlank q.1 (q.2.1, q.2.2.1, q.2.2.2.1, q.2.2.2.2.1, q.2.2.2.2.2.1, q.2.2.2.2.2.2) (α 27 a) (α 27 (a + 1)) (α 27 (a + 2))).2.2.2.2.2.2.2)]) z t0 ts)
        refine aw_go 3 rfl ⟨trivial, trivial, trivial, trivial⟩ ?_
        show aw_W _ _ _ _ (40, [some (.ref 0), some (.int 0), some (.int s), some (.int fr), some (.int (nI N)), some (.ref 35), some (.int (cm + 1)), some (.int ((nI k) + 1)), some (.int (nI a))], []) (ae_en (au σ [(1, nI (pPlank q.1 (q.2.1, q.2.2.1, q.2.2.2.1, q.2.2.2.2.1, q.2.2.2.2.2.1, q.2.2.2.2.2.2) (α 27 a) (α 27 (a + 1)) (α 27 (a + 2))).2.1)]) (au α [(0, (pPlank q.1 (q.2.1, q.2.2.1, q.2.2.2.1, q.2.2.2.2.1, q.2.2.2.2.2.1, q.2.2.2.2.2.2) (α 27 a) (α 27 (a + 1)) (α 27 (a + 2))).2.2.1), (1, (pPlank q.1 (q.2.1, q.2.2.1, q.2.2.2.1, q.2.2.2.2.1, q.2.2.2.2.2.1, q.2.2.2.2.2.2) (α 27 a) (α 27 (a + 1)) (α 27 (a + 2))).2.2.2.1), (2, (pPlank q.1 (q.2.1, q.2.2.1, q.2.2.2.1, q.2.2.2.2.1, q.2.2.2.2.2.1, q.2.2.2.2.2.2) (α 27 a) (α 27 (a + 1)) (α 27 (a + 2))).2.2.2.2.1), (3, (pPlank q.1 (q.2.1, q.2.2.1, q.2.2.2.1, q.2.2.2.2.1, q.2.2.2.2.2.1, q.2.2.2.2.2.2) (α 27 a) (α 27 (a + 1)) (α 27 (a + 2))).2.2.2.2.2.1), (5, (pPlank q.1 (q.2.1, q.2.2.1, q.2.2.2.1, q.2.2.2.2.1, q.2.2.2.2.2.1, q.2.2.2.2.2.2) (α 27 a) (α 27 (a + 1)) (α 27 (a + 2))).2.2.2.2.2.2.1), (7, (pPlank q.1 (q.2.1, q.2.2.1, q.2.2.2.1, q.2.2.2.2.1, q.2.2.2.2.2.1, q.2.2.2.2.2.2) (α 27 a) (α 27 (a + 1)) (α 27 (a + 2))).2.2.2.2.2.2.2)]) z t0 ts)
        rw [show (nI k) + 1 = nI (k + 1) from (cI_add (a := k) (b := 1) rfl rfl)]
        exact lp_planks_0 (q := (pPlank q.1 q.2 (α 27 a) (α 27 (a + 1)) (α 27 (a + 2))).2) hm hm40 hN (pPlank_n hq) (k + 1) (by omega) (by rw [show N - (k + 1) = r by omega, ← hI2, if_neg h74])
    · skip
      have h53 := bI_f (Classical.not_not.mp h53)
      show aw_W _ _ _ _ (54, [some (.ref 0), some (.int 0), some (.int s), some (.int fr), some (.int (nI N)), some (.ref 35), some (.int cm), some (.int (nI k)), some (.int (fr + (3 * (nI k))))], []) (ae_en (au σ [(1, nI q.1)]) (au α [(0, q.2.1), (1, q.2.2.1), (2, q.2.2.2.1), (3, q.2.2.2.2.1), (5, q.2.2.2.2.2.1), (7, q.2.2.2.2.2.2)]) z t0 ts)
      rw [if_neg h53] at hI
      refine aw_go 1 rfl ⟨trivial, trivial⟩ ?_
      refine aw_ret rfl rfl trivial ?_
      rw [← hI]
      exact ⟨rfl, rfl⟩
termination_by N - k
decreasing_by all_goals omega
theorem ev_planks_0 {m n : Nat} {s fr x : Int32} {zd : Nat} (hn : (σ 1) = nI n) (hn10 : n ≤ 10) (hm : ¬ σ 18 = -1 → σ 19 = nI m) (hm40 : m ≤ 40) : aw_X P (zd + 3) 33 [.ref 0, .int 0, .int s, .int fr, .int x] (ae_en σ α z t0 ts) (fun r H => r = some (.int ((pPlanks (α 27) m (σ 18) s fr x (n, (α 0, α 1, α 2, α 3, α 5, α 7))).1)) ∧ H = (ae_en (au σ [(1, nI (pPlanks (α 27) m (σ 18) s fr x (n, (α 0, α 1, α 2, α 3, α 5, α 7))).2.1)]) (au α [(0, (pPlanks (α 27) m (σ 18) s fr x (n, (α 0, α 1, α 2, α 3, α 5, α 7))).2.2.1), (1, (pPlanks (α 27) m (σ 18) s fr x (n, (α 0, α 1, α 2, α 3, α 5, α 7))).2.2.2.1), (2, (pPlanks (α 27) m (σ 18) s fr x (n, (α 0, α 1, α 2, α 3, α 5, α 7))).2.2.2.2.1), (3, (pPlanks (α 27) m (σ 18) s fr x (n, (α 0, α 1, α 2, α 3, α 5, α 7))).2.2.2.2.2.1), (5, (pPlanks (α 27) m (σ 18) s fr x (n, (α 0, α 1, α 2, α 3, α 5, α 7))).2.2.2.2.2.2.1), (7, (pPlanks (α 27) m (σ 18) s fr x (n, (α 0, α 1, α 2, α 3, α 5, α 7))).2.2.2.2.2.2.2)]) z t0 ts)) := by
  refine aw_ev (cd := cd_Dried_planks) rfl rfl rfl ?_
  show aw_W _ _ _ _ (0, [some (.ref 0), some (.int 0), some (.int s), some (.int fr), some (.int x), none, none, none, none], []) (ae_en σ α z t0 ts)
  refine aw_go 1 rfl ⟨trivial, trivial⟩ ?_
  refine aw_callE rfl rfl (ev_Dried_isSheet (s := 0)) ?_
  show aw_W _ _ _ _ (2, [some (.ref 0), some (.int 0), some (.int s), some (.int fr), some (.int x), none, none, none, none], [.int (bI (iP 4 0))]) (ae_en σ α z t0 ts)
  refine aw_go 1 rfl ⟨trivial, trivial⟩ ?_
  refine aw_br (c := (bI (iP 4 0)) = 0) (fun h2 => ?_) (fun h2 => ?_)
  · skip
    have h2 := bI_f h2
    show aw_W _ _ _ _ (13, [some (.ref 0), some (.int 0), some (.int s), some (.int fr), some (.int x), none, none, none, none], []) (ae_en σ α z t0 ts)
    exact absurd h2 (by decide)
  · skip
    have h2 := bI_t h2
    show aw_W _ _ _ _ (3, [some (.ref 0), some (.int 0), some (.int s), some (.int fr), some (.int x), none, none, none, none], []) (ae_en σ α z t0 ts)
    refine aw_go 2 rfl ⟨trivial, trivial, trivial⟩ ?_
    refine aw_br (c := s < 0) (fun h4 => ?_) (fun h4 => ?_)
    · skip
      show aw_W _ _ _ _ (13, [some (.ref 0), some (.int 0), some (.int s), some (.int fr), some (.int x), none, none, none, none], []) (ae_en σ α z t0 ts)
      refine aw_go 1 rfl ⟨trivial, trivial⟩ ?_
      refine aw_ret rfl rfl trivial ?_
      rw [pPlanks, if_pos (Or.inl h4), ← hn]
      exact ⟨rfl, rfl⟩
    · skip
      show aw_W _ _ _ _ (5, [some (.ref 0), some (.int 0), some (.int s), some (.int fr), some (.int x), none, none, none, none], []) (ae_en σ α z t0 ts)
      refine aw_go 3 rfl ⟨trivial, trivial, trivial, trivial⟩ ?_
      refine aw_br (c := (2 : Int32) < s) (fun h7 => ?_) (fun h7 => ?_)
      · skip
        show aw_W _ _ _ _ (13, [some (.ref 0), some (.int 0), some (.int s), some (.int fr), some (.int x), none, none, none, none], []) (ae_en σ α z t0 ts)
        refine aw_go 1 rfl ⟨trivial, trivial⟩ ?_
        refine aw_ret rfl rfl trivial ?_
        rw [pPlanks, if_pos (Or.inr (Or.inl h7)), ← hn]
        exact ⟨rfl, rfl⟩
      · skip
        show aw_W _ _ _ _ (8, [some (.ref 0), some (.int 0), some (.int s), some (.int fr), some (.int x), none, none, none, none], []) (ae_en σ α z t0 ts)
        refine aw_go 2 rfl ⟨trivial, trivial, trivial⟩ ?_
        refine aw_br (c := x < 0) (fun h9 => ?_) (fun h9 => ?_)
        · skip
          show aw_W _ _ _ _ (13, [some (.ref 0), some (.int 0), some (.int s), some (.int fr), some (.int x), none, none, none, none], []) (ae_en σ α z t0 ts)
          refine aw_go 1 rfl ⟨trivial, trivial⟩ ?_
          refine aw_ret rfl rfl trivial ?_
          rw [pPlanks, if_pos (Or.inr (Or.inr (Or.inl h9))), ← hn]
          exact ⟨rfl, rfl⟩
        · skip
          show aw_W _ _ _ _ (10, [some (.ref 0), some (.int 0), some (.int s), some (.int fr), some (.int x), none, none, none, none], []) (ae_en σ α z t0 ts)
          refine aw_go 3 rfl ⟨trivial, trivial, trivial, trivial⟩ ?_
          refine aw_br (c := x ≤ 10) (fun h12 => ?_) (fun h12 => ?_)
          · skip
            show aw_W _ _ _ _ (15, [some (.ref 0), some (.int 0), some (.int s), some (.int fr), some (.int x), none, none, none, none], []) (ae_en σ α z t0 ts)
            obtain ⟨N, hN, rfl⟩ := nI_of2 (M := 10) (n := 10) rfl h9 h12
            refine aw_go 9 rfl ⟨trivial, trivial, trivial, (cI_in (a := 0) rfl (by omega) (by decide)), trivial, trivial, trivial, trivial, trivial, trivial⟩ ?_
            show aw_W _ _ _ _ (if (σ 18) = (-1) then 30 else 24, [some (.ref 0), some (.int 0), some (.int s), some (.int fr), some (.int (nI N)), some (.ref 35), none, none, none], []) (ae_en σ α z t0 ts)
            refine aw_br (c := (σ 18) = (-1)) (fun h23 => ?_) (fun h23 => ?_)
            · skip
              show aw_W _ _ _ _ (30, [some (.ref 0), some (.int 0), some (.int s), some (.int fr), some (.int (nI N)), some (.ref 35), none, none, none], []) (ae_en σ α z t0 ts)
              refine aw_go 4 rfl ⟨trivial, trivial, trivial, trivial, trivial⟩ ?_
              show aw_W _ _ _ _ (if ¬ (σ 18) = (-1) then 36 else 34, [some (.ref 0), some (.int 0), some (.int s), some (.int fr), some (.int (nI N)), some (.ref 35), none, none, none], []) (ae_en σ α z t0 ts)
              refine aw_br (c := ¬ (σ 18) = (-1)) (fun h33 => ?_) (fun h33 => ?_)
              · skip
                show aw_W _ _ _ _ (36, [some (.ref 0), some (.int 0), some (.int s), some (.int fr), some (.int (nI N)), some (.ref 35), none, none, none], []) (ae_en σ α z t0 ts)
                exact absurd h23 h33
              · skip
                have h33 := Classical.not_not.mp h33
                show aw_W _ _ _ _ (34, [some (.ref 0), some (.int 0), some (.int s), some (.int fr), some (.int (nI N)), some (.ref 35), none, none, none], []) (ae_en σ α z t0 ts)
                refine aw_go 1 rfl ⟨trivial, trivial⟩ ?_
                refine aw_ret rfl rfl trivial ?_
                rw [pPlanks, if_neg (fun q => by rcases q with q | q | q | q; exact h4 q; exact Int32.not_lt.mpr (Int32.not_lt.mp h7) q; exact h9 q; exact Int32.not_lt.mpr h12 q), if_neg (fun q => q.1 h23), if_pos h23, ← hn]
                exact ⟨rfl, rfl⟩
            · skip
              show aw_W _ _ _ _ (24, [some (.ref 0), some (.int 0), some (.int s), some (.int fr), some (.int (nI N)), some (.ref 35), none, none, none], []) (ae_en σ α z t0 ts)
              refine aw_go 4 rfl ⟨trivial, trivial, trivial, trivial, trivial⟩ ?_
              show aw_W _ _ _ _ (if (σ 18) = s then 30 else 28, [some (.ref 0), some (.int 0), some (.int s), some (.int fr), some (.int (nI N)), some (.ref 35), none, none, none], []) (ae_en σ α z t0 ts)
              refine aw_br (c := (σ 18) = s) (fun h27 => ?_) (fun h27 => ?_)
              · skip
                show aw_W _ _ _ _ (30, [some (.ref 0), some (.int 0), some (.int s), some (.int fr), some (.int (nI N)), some (.ref 35), none, none, none], []) (ae_en σ α z t0 ts)
                refine aw_go 4 rfl ⟨trivial, trivial, trivial, trivial, trivial⟩ ?_
                show aw_W _ _ _ _ (if ¬ (σ 18) = (-1) then 36 else 34, [some (.ref 0), some (.int 0), some (.int s), some (.int fr), some (.int (nI N)), some (.ref 35), none, none, none], []) (ae_en σ α z t0 ts)
                refine aw_br (c := ¬ (σ 18) = (-1)) (fun h33 => ?_) (fun h33 => ?_)
                · skip
                  show aw_W _ _ _ _ (36, [some (.ref 0), some (.int 0), some (.int s), some (.int fr), some (.int (nI N)), some (.ref 35), none, none, none], []) (ae_en σ α z t0 ts)
                  refine aw_go 4 rfl ⟨trivial, trivial, trivial, trivial, trivial⟩ ?_
                  rw [pPlanks, if_neg (fun q => by rcases q with q | q | q | q; exact h4 q; exact Int32.not_lt.mpr (Int32.not_lt.mp h7) q; exact h9 q; exact Int32.not_lt.mpr h12 q), if_neg (fun q => q.2 h27), if_neg h23, nI_clamp (by omega)]
                  exact aw_to (lp_planks_0 (q := (n, (α 0, α 1, α 2, α 3, α 5, α 7))) (hm h23) hm40 hN hn10 0 (Nat.zero_le _) rfl) rfl (by rw [← hn]; rfl)
                · skip
                  have h33 := Classical.not_not.mp h33
                  show aw_W _ _ _ _ (34, [some (.ref 0), some (.int 0), some (.int s), some (.int fr), some (.int (nI N)), some (.ref 35), none, none, none], []) (ae_en σ α z t0 ts)
                  exact absurd h33 h23
              · skip
                show aw_W _ _ _ _ (28, [some (.ref 0), some (.int 0), some (.int s), some (.int fr), some (.int (nI N)), some (.ref 35), none, none, none], []) (ae_en σ α z t0 ts)
                refine aw_go 1 rfl ⟨trivial, trivial⟩ ?_
                refine aw_ret rfl rfl trivial ?_
                rw [pPlanks, if_neg (fun q => by rcases q with q | q | q | q; exact h4 q; exact Int32.not_lt.mpr (Int32.not_lt.mp h7) q; exact h9 q; exact Int32.not_lt.mpr h12 q), if_pos ⟨h23, h27⟩, ← hn]
                exact ⟨rfl, rfl⟩
          · skip
            show aw_W _ _ _ _ (13, [some (.ref 0), some (.int 0), some (.int s), some (.int fr), some (.int x), none, none, none, none], []) (ae_en σ α z t0 ts)
            refine aw_go 1 rfl ⟨trivial, trivial⟩ ?_
            refine aw_ret rfl rfl trivial ?_
            rw [pPlanks, if_pos (Or.inr (Or.inr (Or.inr (Int32.not_le.mp h12)))), ← hn]
            exact ⟨rfl, rfl⟩
theorem lp_planks_1 {zd : Nat} {m N : Nat} {s fr cm : Int32} {q : Nat × ae_S6} {R : Int32 × Nat × ae_S6} {l8 : Option Value} (hm : σ 21 = nI m) (hm40 : m ≤ 40) (hN : N ≤ 10) (hq : q.1 ≤ 10) (k : Nat) (hk : k ≤ N) (hI : pPks (α 28) m fr (N - k) k cm q = R) : aw_W P (zd + 2) cd_Dried_planks (fun r H => r = some (.int R.1) ∧ H = (ae_en (au σ [(1, nI R.2.1)]) (au α [(0, R.2.2.1), (1, R.2.2.2.1), (2, R.2.2.2.2.1), (3, R.2.2.2.2.2.1), (5, R.2.2.2.2.2.2.1), (7, R.2.2.2.2.2.2.2)]) z t0 ts)) (40, [some (.ref 0), some (.int 1), some (.int s), some (.int fr), some (.int (nI N)), some (.ref 37), some (.int cm), some (.int (nI k)), l8], []) (ae_en (au σ [(1, nI q.1)]) (au α [(0, q.2.1), (1, q.2.2.1), (2, q.2.2.2.1), (3, q.2.2.2.2.1), (5, q.2.2.2.2.2.1), (7, q.2.2.2.2.2.2)]) z t0 ts) := by
  refine aw_go 3 rfl ⟨trivial, trivial, trivial, trivial⟩ ?_
  refine aw_br (c := (nI N) ≤ (nI k)) (fun h42 => ?_) (fun h42 => ?_)
  · skip
    have h42 := cI_leT (a := N) (b := k) rfl rfl (by omega) (by omega) h42
    show aw_W _ _ _ _ (78, [some (.ref 0), some (.int 1), some (.int s), some (.int fr), some (.int (nI N)), some (.ref 37), some (.int cm), some (.int (nI k)), l8], []) (ae_en (au σ [(1, nI q.1)]) (au α [(0, q.2.1), (1, q.2.2.1), (2, q.2.2.2.1), (3, q.2.2.2.2.1), (5, q.2.2.2.2.2.1), (7, q.2.2.2.2.2.2)]) z t0 ts)
    rw [show N - k = 0 by omega] at hI
    refine aw_go 1 rfl ⟨trivial, trivial⟩ ?_
    refine aw_ret rfl rfl trivial ?_
    rw [← hI]
    exact ⟨rfl, rfl⟩
  · skip
    have h42 := cI_leF (a := N) (b := k) rfl rfl (by omega) (by omega) h42
    show aw_W _ _ _ _ (43, [some (.ref 0), some (.int 1), some (.int s), some (.int fr), some (.int (nI N)), some (.ref 37), some (.int cm), some (.int (nI k)), l8], []) (ae_en (au σ [(1, nI q.1)]) (au α [(0, q.2.1), (1, q.2.2.1), (2, q.2.2.2.1), (3, q.2.2.2.2.1), (5, q.2.2.2.2.2.1), (7, q.2.2.2.2.2.2)]) z t0 ts)
    obtain ⟨r, hr⟩ : ∃ r, N - k = r + 1 := ⟨N - k - 1, by omega⟩
    rw [hr, pPks] at hI
    refine aw_go 9 rfl ⟨trivial, trivial, trivial, trivial, trivial, trivial, trivial, trivial, trivial, trivial⟩ ?_
    show aw_W _ _ _ _ (52, [some (.ref 0), some (.int 1), some (.int s), some (.int fr), some (.int (nI N)), some (.ref 37), some (.int cm), some (.int (nI k)), some (.int (fr + (3 * (nI k))))], [.int 3, .int (fr + (3 * (nI k))), .ref 37]) (ae_en (au σ [(1, nI q.1)]) (au α [(0, q.2.1), (1, q.2.2.1), (2, q.2.2.2.1), (3, q.2.2.2.2.1), (5, q.2.2.2.2.2.1), (7, q.2.2.2.2.2.2)]) z t0 ts)
    refine aw_callE rfl rfl (ev_holds_1 (i := (fr + (3 * (nI k)))) (n := 3) hm hm40) ?_
    show aw_W _ _ _ _ (53, [some (.ref 0), some (.int 1), some (.int s), some (.int fr), some (.int (nI N)), some (.ref 37), some (.int cm), some (.int (nI k)), some (.int (fr + (3 * (nI k))))], [.int (bI (hHo m (fr + (3 * (nI k))) 3))]) (ae_en (au σ [(1, nI q.1)]) (au α [(0, q.2.1), (1, q.2.2.1), (2, q.2.2.2.1), (3, q.2.2.2.2.1), (5, q.2.2.2.2.2.1), (7, q.2.2.2.2.2.2)]) z t0 ts)
    refine aw_go 1 rfl ⟨trivial, trivial⟩ ?_
    refine aw_br (c := ¬ (bI (hHo m (fr + (3 * (nI k))) 3)) = 0) (fun h53 => ?_) (fun h53 => ?_)
    · skip
      have h53 := bI_t h53
      show aw_W _ _ _ _ (56, [some (.ref 0), some (.int 1), some (.int s), some (.int fr), some (.int (nI N)), some (.ref 37), some (.int cm), some (.int (nI k)), some (.int (fr + (3 * (nI k))))], []) (ae_en (au σ [(1, nI q.1)]) (au α [(0, q.2.1), (1, q.2.2.1), (2, q.2.2.2.1), (3, q.2.2.2.2.1), (5, q.2.2.2.2.2.1), (7, q.2.2.2.2.2.2)]) z t0 ts)
      rw [if_pos h53] at hI
      obtain ⟨a, ha, ea⟩ := nI_of h53.2.1
      have hq2 := h53.2.2
      rw [ea, nI_clamp ha, show (3 : Int32).toNatClampNeg = 3 from rfl] at hq2
      rw [ea, nI_clamp ha] at hI
      rw [ea]
      have hI2 := hI
      refine aw_go 17 rfl ⟨trivial, trivial, trivial, trivial, (cI_in (a := a) rfl (by omega) (by decide)), trivial, trivial, trivial, trivial, trivial, (cI_in (a := a + 1) (cI_add (a := a) (b := 1) rfl rfl) (by omega) (by decide)), trivial, trivial, trivial, trivial, trivial, (cI_in (a := a + 2) (cI_add (a := a) (b := 2) rfl rfl) (by omega) (by decide)), trivial⟩ ?_
      show aw_W _ _ _ _ (73, [some (.ref 0), some (.int 1), some (.int s), some (.int fr), some (.int (nI N)), some (.ref 37), some (.int cm), some (.int (nI k)), some (.int (nI a))], [.int (α 28 ((nI a) + 2).toNatClampNeg), .int (α 28 ((nI a) + 1).toNatClampNeg), .int (α 28 (nI a).toNatClampNeg), .ref 0]) (ae_en (au σ [(1, nI q.1)]) (au α [(0, q.2.1), (1, q.2.2.1), (2, q.2.2.2.1), (3, q.2.2.2.2.1), (5, q.2.2.2.2.2.1), (7, q.2.2.2.2.2.2)]) z t0 ts)
      rw [show (nI a).toNatClampNeg = a from cI_cl (a := a) rfl (by omega)]
      rw [show ((nI a) + 1).toNatClampNeg = a + 1 from cI_cl (a := a + 1) (cI_add (a := a) (b := 1) rfl rfl) (by omega)]
      rw [show ((nI a) + 2).toNatClampNeg = a + 2 from cI_cl (a := a + 2) (cI_add (a := a) (b := 2) rfl rfl) (by omega)]
      refine aw_call rfl rfl (ev_Dried_plank (k := (α 28 a)) (x := (α 28 (a + 1))) (m := (α 28 (a + 2))) rfl hq) ?_
      rintro _ _ ⟨rfl, rfl⟩
      show aw_W _ _ _ _ (74, [some (.ref 0), some (.int 1), some (.int s), some (.int fr), some (.int (nI N)), some (.ref 37), some (.int cm), some (.int (nI k)), some (.int (nI a))], [.int ((pPlank q.1 (q.2.1, q.2.2.1, q.2.2.2.1, q.2.2.2.2.1, q.2.2.2.2.2.1, q.2.2.2.2.2.2) (α 28 a) (α 28 (a + 1)) (α 28 (a + 2))).1)]) (ae_en (au σ [(1, nI (pPlank q.1 (q.2.1, q.2.2.1, q.2.2.2.1, q.2.2.2.2.1, q.2.2.2.2.2.1, q.2.2.2.2.2.2) (α 28 a) (α 28 (a + 1)) (α 28 (a + 2))).2.1)]) (au α [(0, (pPlank q.1 (q.2.1, q.2.2.1, q.2.2.2.1, q.2.2.2.2.1, q.2.2.2.2.2.1, q.2.2.2.2.2.2) (α 28 a) (α 28 (a + 1)) (α 28 (a + 2))).2.2.1), (1, (pPlank q.1 (q.2.1, q.2.2.1, q.2.2.2.1, q.2.2.2.2.1, q.2.2.2.2.2.1, q.2.2.2.2.2.2) (α 28 a) (α 28 (a + 1)) (α 28 (a + 2))).2.2.2.1), (2, (pPlank q.1 (q.2.1, q.2.2.1, q.2.2.2.1, q.2.2.2.2.1, q.2.2.2.2.2.1, q.2.2.2.2.2.2) (α 28 a) (α 28 (a + 1)) (α 28 (a + 2))).2.2.2.2.1), (3, (pPlank q.1 (q.2.1, q.2.2.1, q.2.2.2.1, q.2.2.2.2.1, q.2.2.2.2.2.1, q.2.2.2.2.2.2) (α 28 a) (α 28 (a + 1)) (α 28 (a + 2))).2.2.2.2.2.1), (5, (pPlank q.1 (q.2.1, q.2.2.1, q.2.2.2.1, q.2.2.2.2.1, q.2.2.2.2.2.1, q.2.2.2.2.2.2) (α 28 a) (α 28 (a + 1)) (α 28 (a + 2))).2.2.2.2.2.2.1), (7, (pPlank q.1 (q.2.1, q.2.2.1, q.2.2.2.1, q.2.2.2.2.1, q.2.2.2.2.2.1, q.2.2.2.2.2.2) (α 28 a) (α 28 (a + 1)) (α 28 (a + 2))).2.2.2.2.2.2.2)]) z t0 ts)
      refine aw_go 1 rfl ⟨trivial, trivial⟩ ?_
      refine aw_br (c := ((pPlank q.1 (q.2.1, q.2.2.1, q.2.2.2.1, q.2.2.2.2.1, q.2.2.2.2.2.1, q.2.2.2.2.2.2) (α 28 a) (α 28 (a + 1)) (α 28 (a + 2))).1) < 0) (fun h74 => ?_) (fun h74 => ?_)
      · skip
        show aw_W _ _ _ _ (76, [some (.ref 0), some (.int 1), some (.int s), some (.int fr), some (.int (nI N)), some (.ref 37), some (.int cm), some (.int (nI k)), some (.int (nI a))], []) (ae_en (au σ [(1, nI (pPlank q.1 (q.2.1, q.2.2.1, q.2.2.2.1, q.2.2.2.2.1, q.2.2.2.2.2.1, q.2.2.2.2.2.2) (α 28 a) (α 28 (a + 1)) (α 28 (a + 2))).2.1)]) (au α [(0, (pPlank q.1 (q.2.1, q.2.2.1, q.2.2.2.1, q.2.2.2.2.1, q.2.2.2.2.2.1, q.2.2.2.2.2.2) (α 28 a) (α 28 (a + 1)) (α 28 (a + 2))).2.2.1), (1, (pPlank q.1 (q.2.1, q.2.2.1, q.2.2.2.1, q.2.2.2.2.1, q.2.2.2.2.2.1, q.2.2.2.2.2.2) (α 28 a) (α 28 (a + 1)) (α 28 (a + 2))).2.2.2.1), (2, (pPlank q.1 (q.2.1, q.2.2.1, q.2.2.2.1, q.2.2.2.2.1, q.2.2.2.2.2.1, q.2.2.2.2.2.2) (α 28 a) (α 28 (a + 1)) (α 28 (a + 2))).2.2.2.2.1), (3, (pPlank q.1 (q.2.1, q.2.2.1, q.2.2.2.1, q.2.2.2.2.1, q.2.2.2.2.2.1, q.2.2.2.2.2.2) (α 28 a) (α 28 (a + 1)) (α 28 (a + 2))).2.2.2.2.2.1), (5, (pPlank q.1 (q.2.1, q.2.2.1, q.2.2.2.1, q.2.2.2.2.1, q.2.2.2.2.2.1, q.2.2.2.2.2.2) (α 28 a) (α 28 (a + 1)) (α 28 (a + 2))).2.2.2.2.2.2.1), (7, (pPlank q.1 (q.2.1, q.2.2.1, q.2.2.2.1, q.2.2.2.2.1, q.2.2.2.2.2.1, q.2.2.2.2.2.2) (α 28 a) (α 28 (a + 1)) (α 28 (a + 2))).2.2.2.2.2.2.2)]) z t0 ts)
        refine aw_go 2 rfl ⟨trivial, trivial, trivial⟩ ?_
        show aw_W _ _ _ _ (40, [some (.ref 0), some (.int 1), some (.int s), some (.int fr), some (.int (nI N)), some (.ref 37), some (.int cm), some (.int ((nI k) + 1)), some (.int (nI a))], []) (ae_en (au σ [(1, nI (pPlank q.1 (q.2.1, q.2.2.1, q.2.2.2.1, q.2.2.2.2.1, q.2.2.2.2.2.1, q.2.2.2.2.2.2) (α 28 a) (α 28 (a + 1)) (α 28 (a + 2))).2.1)]) (au α [(0, (pPlank q.1 (q.2.1, q.2.2.1, q.2.2.2.1, q.2.2.2.2.1, q.2.2.2.2.2.1, q.2.2.2.2.2.2) (α 28 a) (α 28 (a + 1)) (α 28 (a + 2))).2.2.1), (1, (pPlank q.1 (q.2.1, q.2.2.1, q.2.2.2.1, q.2.2.2.2.1, q.2.2.2.2.2.1, q.2.2.2.2.2.2) (α 28 a) (α 28 (a + 1)) (α 28 (a + 2))).2.2.2.1), (2, (pPlank q.1 (q.2.1, q.2.2.1, q.2.2.2.1, q.2.2.2.2.1, q.2.2.2.2.2.1, q.2.2.2.2.2.2) (α 28 a) (α 28 (a + 1)) (α 28 (a + 2))).2.2.2.2.1), (3, (pPlank q.1 (q.2.1, q.2.2.1, q.2.2.2.1, q.2.2.2.2.1, q.2.2.2.2.2.1, q.2.2.2.2.2.2) (α 28 a) (α 28 (a + 1)) (α 28 (a + 2))).2.2.2.2.2.1), (5, (pPlank q.1 (q.2.1, q.2.2.1, q.2.2.2.1, q.2.2.2.2.1, q.2.2.2.2.2.1, q.2.2.2.2.2.2) (α 28 a) (α 28 (a + 1)) (α 28 (a + 2))).2.2.2.2.2.2.1), (7, (pPlank q.1 (q.2.1, q.2.2.1, q.2.2.2.1, q.2.2.2.2.1, q.2.2.2.2.2.1, q.2.2.2.2.2.2) (α 28 a) (α 28 (a + 1)) (α 28 (a + 2))).2.2.2.2.2.2.2)]) z t0 ts)
        rw [show (nI k) + 1 = nI (k + 1) from (cI_add (a := k) (b := 1) rfl rfl)]
        exact lp_planks_1 (q := (pPlank q.1 q.2 (α 28 a) (α 28 (a + 1)) (α 28 (a + 2))).2) hm hm40 hN (pPlank_n hq) (k + 1) (by omega) (by rw [show N - (k + 1) = r by omega, ← hI2, if_pos h74])
      · skip
        show aw_W _ _ _ _ (75, [some (.ref 0), some (.int 1), some (.int s), some (.int fr), some (.int (nI N)), some (.ref 37), some (.int cm), some (.int (nI k)), some (.int (nI a))], []) (ae_en (au σ [(1, nI (pPlank q.1 (q.2.1, q.2.2.1, q.2.2.2.1, q.2.2.2.2.1, q.2.2.2.2.2.1, q.2.2.2.2.2.2) (α 28 a) (α 28 (a + 1)) (α 28 (a + 2))).2.1)]) (au α [(0, (pPlank q.1 (q.2.1, q.2.2.1, q.2.2.2.1, q.2.2.2.2.1, q.2.2.2.2.2.1, q.2.2.2.2.2.2) (α 28 a) (α 28 (a + 1)) (α 28 (a + 2))).2.2.1), (1, (pPlank q.1 (q.2.1, q.2.2.1, q.2.2.2.1, q.2.2.2.2.1, q.2.2.2.2.2.1, q.2.2.2.2.2.2) (α 28 a) (α 28 (a + 1)) (α 28 (a + 2))).2.2.2.1), (2, (pPlank q.1 (q.2.1, q.2.2.1, q.2.2.2.1, q.2.2.2.2.1, q.2.2.2.2.2.1, q.2.2.2.2.2.2) (α 28 a) (α 28 (a + 1)) (α 28 (a + 2))).2.2.2.2.1), (3, (pPlank q.1 (q.2.1, q.2.2.1, q.2.2.2.1, q.2.2.2.2.1, q.2.2.2.2.2.1, q.2.2.2.2.2.2) (α 28 a) (α 28 (a + 1)) (α 28 (a + 2))).2.2.2.2.2.1), (5, (pPlank q.1 (q.2.1, q.2.2.1, q.2.2.2.1, q.2.2.2.2.1, q.2.2.2.2.2.1, q.2.2.2.2.2.2) (α 28 a) (α 28 (a + 1)) (α 28 (a + 2))).2.2.2.2.2.2.1), (7, (pPlank q.1 (q.2.1, q.2.2.1, q.2.2.2.1, q.2.2.2.2.1, q.2.2.2.2.2.1, q.2.2.2.2.2.2) (α 28 a) (α 28 (a + 1)) (α 28 (a + 2))).2.2.2.2.2.2.2)]) z t0 ts)
        refine aw_go 3 rfl ⟨trivial, trivial, trivial, trivial⟩ ?_
        show aw_W _ _ _ _ (40, [some (.ref 0), some (.int 1), some (.int s), some (.int fr), some (.int (nI N)), some (.ref 37), some (.int (cm + 1)), some (.int ((nI k) + 1)), some (.int (nI a))], []) (ae_en (au σ [(1, nI (pPlank q.1 (q.2.1, q.2.2.1, q.2.2.2.1, q.2.2.2.2.1, q.2.2.2.2.2.1, q.2.2.2.2.2.2) (α 28 a) (α 28 (a + 1)) (α 28 (a + 2))).2.1)]) (au α [(0, (pPlank q.1 (q.2.1, q.2.2.1, q.2.2.2.1, q.2.2.2.2.1, q.2.2.2.2.2.1, q.2.2.2.2.2.2) (α 28 a) (α 28 (a + 1)) (α 28 (a + 2))).2.2.1), (1, (pPlank q.1 (q.2.1, q.2.2.1, q.2.2.2.1, q.2.2.2.2.1, q.2.2.2.2.2.1, q.2.2.2.2.2.2) (α 28 a) (α 28 (a + 1)) (α 28 (a + 2))).2.2.2.1), (2, (pPlank q.1 (q.2.1, q.2.2.1, q.2.2.2.1, q.2.2.2.2.1, q.2.2.2.2.2.1, q.2.2.2.2.2.2) (α 28 a) (α 28 (a + 1)) (α 28 (a + 2))).2.2.2.2.1), (3, (pPlank q.1 (q.2.1, q.2.2.1, q.2.2.2.1, q.2.2.2.2.1, q.2.2.2.2.2.1, q.2.2.2.2.2.2) (α 28 a) (α 28 (a + 1)) (α 28 (a + 2))).2.2.2.2.2.1), (5, (pPlank q.1 (q.2.1, q.2.2.1, q.2.2.2.1, q.2.2.2.2.1, q.2.2.2.2.2.1, q.2.2.2.2.2.2) (α 28 a) (α 28 (a + 1)) (α 28 (a + 2))).2.2.2.2.2.2.1), (7, (pPlank q.1 (q.2.1, q.2.2.1, q.2.2.2.1, q.2.2.2.2.1, q.2.2.2.2.2.1, q.2.2.2.2.2.2) (α 28 a) (α 28 (a + 1)) (α 28 (a + 2))).2.2.2.2.2.2.2)]) z t0 ts)
        rw [show (nI k) + 1 = nI (k + 1) from (cI_add (a := k) (b := 1) rfl rfl)]
        exact lp_planks_1 (q := (pPlank q.1 q.2 (α 28 a) (α 28 (a + 1)) (α 28 (a + 2))).2) hm hm40 hN (pPlank_n hq) (k + 1) (by omega) (by rw [show N - (k + 1) = r by omega, ← hI2, if_neg h74])
    · skip
      have h53 := bI_f (Classical.not_not.mp h53)
      show aw_W _ _ _ _ (54, [some (.ref 0), some (.int 1), some (.int s), some (.int fr), some (.int (nI N)), some (.ref 37), some (.int cm), some (.int (nI k)), some (.int (fr + (3 * (nI k))))], []) (ae_en (au σ [(1, nI q.1)]) (au α [(0, q.2.1), (1, q.2.2.1), (2, q.2.2.2.1), (3, q.2.2.2.2.1), (5, q.2.2.2.2.2.1), (7, q.2.2.2.2.2.2)]) z t0 ts)
      rw [if_neg h53] at hI
      refine aw_go 1 rfl ⟨trivial, trivial⟩ ?_
      refine aw_ret rfl rfl trivial ?_
      rw [← hI]
      exact ⟨rfl, rfl⟩
termination_by N - k
decreasing_by all_goals omega
theorem ev_planks_1 {m n : Nat} {s fr x : Int32} {zd : Nat} (hn : (σ 1) = nI n) (hn10 : n ≤ 10) (hm : ¬ σ 20 = -1 → σ 21 = nI m) (hm40 : m ≤ 40) : aw_X P (zd + 3) 33 [.ref 0, .int 1, .int s, .int fr, .int x] (ae_en σ α z t0 ts) (fun r H => r = some (.int ((pPlanks (α 28) m (σ 20) s fr x (n, (α 0, α 1, α 2, α 3, α 5, α 7))).1)) ∧ H = (ae_en (au σ [(1, nI (pPlanks (α 28) m (σ 20) s fr x (n, (α 0, α 1, α 2, α 3, α 5, α 7))).2.1)]) (au α [(0, (pPlanks (α 28) m (σ 20) s fr x (n, (α 0, α 1, α 2, α 3, α 5, α 7))).2.2.1), (1, (pPlanks (α 28) m (σ 20) s fr x (n, (α 0, α 1, α 2, α 3, α 5, α 7))).2.2.2.1), (2, (pPlanks (α 28) m (σ 20) s fr x (n, (α 0, α 1, α 2, α 3, α 5, α 7))).2.2.2.2.1), (3, (pPlanks (α 28) m (σ 20) s fr x (n, (α 0, α 1, α 2, α 3, α 5, α 7))).2.2.2.2.2.1), (5, (pPlanks (α 28) m (σ 20) s fr x (n, (α 0, α 1, α 2, α 3, α 5, α 7))).2.2.2.2.2.2.1), (7, (pPlanks (α 28) m (σ 20) s fr x (n, (α 0, α 1, α 2, α 3, α 5, α 7))).2.2.2.2.2.2.2)]) z t0 ts)) := by
  refine aw_ev (cd := cd_Dried_planks) rfl rfl rfl ?_
  show aw_W _ _ _ _ (0, [some (.ref 0), some (.int 1), some (.int s), some (.int fr), some (.int x), none, none, none, none], []) (ae_en σ α z t0 ts)
  refine aw_go 1 rfl ⟨trivial, trivial⟩ ?_
  refine aw_callE rfl rfl (ev_Dried_isSheet (s := 1)) ?_
  show aw_W _ _ _ _ (2, [some (.ref 0), some (.int 1), some (.int s), some (.int fr), some (.int x), none, none, none, none], [.int (bI (iP 4 1))]) (ae_en σ α z t0 ts)
  refine aw_go 1 rfl ⟨trivial, trivial⟩ ?_
  refine aw_br (c := (bI (iP 4 1)) = 0) (fun h2 => ?_) (fun h2 => ?_)
  · skip
    have h2 := bI_f h2
    show aw_W _ _ _ _ (13, [some (.ref 0), some (.int 1), some (.int s), some (.int fr), some (.int x), none, none, none, none], []) (ae_en σ α z t0 ts)
    exact absurd h2 (by decide)
  · skip
    have h2 := bI_t h2
    show aw_W _ _ _ _ (3, [some (.ref 0), some (.int 1), some (.int s), some (.int fr), some (.int x), none, none, none, none], []) (ae_en σ α z t0 ts)
    refine aw_go 2 rfl ⟨trivial, trivial, trivial⟩ ?_
    refine aw_br (c := s < 0) (fun h4 => ?_) (fun h4 => ?_)
    · skip
      show aw_W _ _ _ _ (13, [some (.ref 0), some (.int 1), some (.int s), some (.int fr), some (.int x), none, none, none, none], []) (ae_en σ α z t0 ts)
      refine aw_go 1 rfl ⟨trivial, trivial⟩ ?_
      refine aw_ret rfl rfl trivial ?_
      rw [pPlanks, if_pos (Or.inl h4), ← hn]
      exact ⟨rfl, rfl⟩
    · skip
      show aw_W _ _ _ _ (5, [some (.ref 0), some (.int 1), some (.int s), some (.int fr), some (.int x), none, none, none, none], []) (ae_en σ α z t0 ts)
      refine aw_go 3 rfl ⟨trivial, trivial, trivial, trivial⟩ ?_
      refine aw_br (c := (2 : Int32) < s) (fun h7 => ?_) (fun h7 => ?_)
      · skip
        show aw_W _ _ _ _ (13, [some (.ref 0), some (.int 1), some (.int s), some (.int fr), some (.int x), none, none, none, none], []) (ae_en σ α z t0 ts)
        refine aw_go 1 rfl ⟨trivial, trivial⟩ ?_
        refine aw_ret rfl rfl trivial ?_
        rw [pPlanks, if_pos (Or.inr (Or.inl h7)), ← hn]
        exact ⟨rfl, rfl⟩
      · skip
        show aw_W _ _ _ _ (8, [some (.ref 0), some (.int 1), some (.int s), some (.int fr), some (.int x), none, none, none, none], []) (ae_en σ α z t0 ts)
        refine aw_go 2 rfl ⟨trivial, trivial, trivial⟩ ?_
        refine aw_br (c := x < 0) (fun h9 => ?_) (fun h9 => ?_)
        · skip
          show aw_W _ _ _ _ (13, [some (.ref 0), some (.int 1), some (.int s), some (.int fr), some (.int x), none, none, none, none], []) (ae_en σ α z t0 ts)
          refine aw_go 1 rfl ⟨trivial, trivial⟩ ?_
          refine aw_ret rfl rfl trivial ?_
          rw [pPlanks, if_pos (Or.inr (Or.inr (Or.inl h9))), ← hn]
          exact ⟨rfl, rfl⟩
        · skip
          show aw_W _ _ _ _ (10, [some (.ref 0), some (.int 1), some (.int s), some (.int fr), some (.int x), none, none, none, none], []) (ae_en σ α z t0 ts)
          refine aw_go 3 rfl ⟨trivial, trivial, trivial, trivial⟩ ?_
          refine aw_br (c := x ≤ 10) (fun h12 => ?_) (fun h12 => ?_)
          · skip
            show aw_W _ _ _ _ (15, [some (.ref 0), some (.int 1), some (.int s), some (.int fr), some (.int x), none, none, none, none], []) (ae_en σ α z t0 ts)
            obtain ⟨N, hN, rfl⟩ := nI_of2 (M := 10) (n := 10) rfl h9 h12
            refine aw_go 9 rfl ⟨trivial, trivial, trivial, (cI_in (a := 1) rfl (by omega) (by decide)), trivial, trivial, trivial, trivial, trivial, trivial⟩ ?_
            show aw_W _ _ _ _ (if (σ 20) = (-1) then 30 else 24, [some (.ref 0), some (.int 1), some (.int s), some (.int fr), some (.int (nI N)), some (.ref 37), none, none, none], []) (ae_en σ α z t0 ts)
            refine aw_br (c := (σ 20) = (-1)) (fun h23 => ?_) (fun h23 => ?_)
            · skip
              show aw_W _ _ _ _ (30, [some (.ref 0), some (.int 1), some (.int s), some (.int fr), some (.int (nI N)), some (.ref 37), none, none, none], []) (ae_en σ α z t0 ts)
              refine aw_go 4 rfl ⟨trivial, trivial, trivial, trivial, trivial⟩ ?_
              show aw_W _ _ _ _ (if ¬ (σ 20) = (-1) then 36 else 34, [some (.ref 0), some (.int 1), some (.int s), some (.int fr), some (.int (nI N)), some (.ref 37), none, none, none], []) (ae_en σ α z t0 ts)
              refine aw_br (c := ¬ (σ 20) = (-1)) (fun h33 => ?_) (fun h33 => ?_)
              · skip
                show aw_W _ _ _ _ (36, [some (.ref 0), some (.int 1), some (.int s), some (.int fr), some (.int (nI N)), some (.ref 37), none, none, none], []) (ae_en σ α z t0 ts)
                exact absurd h23 h33
              · skip
                have h33 := Classical.not_not.mp h33
                show aw_W _ _ _ _ (34, [some (.ref 0), some (.int 1), some (.int s), some (.int fr), some (.int (nI N)), some (.ref 37), none, none, none], []) (ae_en σ α z t0 ts)
                refine aw_go 1 rfl ⟨trivial, trivial⟩ ?_
                refine aw_ret rfl rfl trivial ?_
                rw [pPlanks, if_neg (fun q => by rcases q with q | q | q | q; exact h4 q; exact Int32.not_lt.mpr (Int32.not_lt.mp h7) q; exact h9 q; exact Int32.not_lt.mpr h12 q), if_neg (fun q => q.1 h23), if_pos h23, ← hn]
                exact ⟨rfl, rfl⟩
            · skip
              show aw_W _ _ _ _ (24, [some (.ref 0), some (.int 1), some (.int s), some (.int fr), some (.int (nI N)), some (.ref 37), none, none, none], []) (ae_en σ α z t0 ts)
              refine aw_go 4 rfl ⟨trivial, trivial, trivial, trivial, trivial⟩ ?_
              show aw_W _ _ _ _ (if (σ 20) = s then 30 else 28, [some (.ref 0), some (.int 1), some (.int s), some (.int fr), some (.int (nI N)), some (.ref 37), none, none, none], []) (ae_en σ α z t0 ts)
              refine aw_br (c := (σ 20) = s) (fun h27 => ?_) (fun h27 => ?_)
              · skip
                show aw_W _ _ _ _ (30, [some (.ref 0), some (.int 1), some (.int s), some (.int fr), some (.int (nI N)), some (.ref 37), none, none, none], []) (ae_en σ α z t0 ts)
                refine aw_go 4 rfl ⟨trivial, trivial, trivial, trivial, trivial⟩ ?_
                show aw_W _ _ _ _ (if ¬ (σ 20) = (-1) then 36 else 34, [some (.ref 0), some (.int 1), some (.int s), some (.int fr), some (.int (nI N)), some (.ref 37), none, none, none], []) (ae_en σ α z t0 ts)
                refine aw_br (c := ¬ (σ 20) = (-1)) (fun h33 => ?_) (fun h33 => ?_)
                · skip
                  show aw_W _ _ _ _ (36, [some (.ref 0), some (.int 1), some (.int s), some (.int fr), some (.int (nI N)), some (.ref 37), none, none, none], []) (ae_en σ α z t0 ts)
                  refine aw_go 4 rfl ⟨trivial, trivial, trivial, trivial, trivial⟩ ?_
                  rw [pPlanks, if_neg (fun q => by rcases q with q | q | q | q; exact h4 q; exact Int32.not_lt.mpr (Int32.not_lt.mp h7) q; exact h9 q; exact Int32.not_lt.mpr h12 q), if_neg (fun q => q.2 h27), if_neg h23, nI_clamp (by omega)]
                  exact aw_to (lp_planks_1 (q := (n, (α 0, α 1, α 2, α 3, α 5, α 7))) (hm h23) hm40 hN hn10 0 (Nat.zero_le _) rfl) rfl (by rw [← hn]; rfl)
                · skip
                  have h33 := Classical.not_not.mp h33
                  show aw_W _ _ _ _ (34, [some (.ref 0), some (.int 1), some (.int s), some (.int fr), some (.int (nI N)), some (.ref 37), none, none, none], []) (ae_en σ α z t0 ts)
                  exact absurd h33 h23
              · skip
                show aw_W _ _ _ _ (28, [some (.ref 0), some (.int 1), some (.int s), some (.int fr), some (.int (nI N)), some (.ref 37), none, none, none], []) (ae_en σ α z t0 ts)
                refine aw_go 1 rfl ⟨trivial, trivial⟩ ?_
                refine aw_ret rfl rfl trivial ?_
                rw [pPlanks, if_neg (fun q => by rcases q with q | q | q | q; exact h4 q; exact Int32.not_lt.mpr (Int32.not_lt.mp h7) q; exact h9 q; exact Int32.not_lt.mpr h12 q), if_pos ⟨h23, h27⟩, ← hn]
                exact ⟨rfl, rfl⟩
          · skip
            show aw_W _ _ _ _ (13, [some (.ref 0), some (.int 1), some (.int s), some (.int fr), some (.int x), none, none, none, none], []) (ae_en σ α z t0 ts)
            refine aw_go 1 rfl ⟨trivial, trivial⟩ ?_
            refine aw_ret rfl rfl trivial ?_
            rw [pPlanks, if_pos (Or.inr (Or.inr (Or.inr (Int32.not_le.mp h12)))), ← hn]
            exact ⟨rfl, rfl⟩
theorem lp_planks_2 {zd : Nat} {m N : Nat} {s fr cm : Int32} {q : Nat × ae_S6} {R : Int32 × Nat × ae_S6} {l8 : Option Value} (hm : σ 23 = nI m) (hm40 : m ≤ 40) (hN : N ≤ 10) (hq : q.1 ≤ 10) (k : Nat) (hk : k ≤ N) (hI : pPks (α 29) m fr (N - k) k cm q = R) : aw_W P (zd + 2) cd_Dried_planks (fun r H => r = some (.int R.1) ∧ H = (ae_en (au σ [(1, nI R.2.1)]) (au α [(0, R.2.2.1), (1, R.2.2.2.1), (2, R.2.2.2.2.1), (3, R.2.2.2.2.2.1), (5, R.2.2.2.2.2.2.1), (7, R.2.2.2.2.2.2.2)]) z t0 ts)) (40, [some (.ref 0), some (.int 2), some (.int s), some (.int fr), some (.int (nI N)), some (.ref 39), some (.int cm), some (.int (nI k)), l8], []) (ae_en (au σ [(1, nI q.1)]) (au α [(0, q.2.1), (1, q.2.2.1), (2, q.2.2.2.1), (3, q.2.2.2.2.1), (5, q.2.2.2.2.2.1), (7, q.2.2.2.2.2.2)]) z t0 ts) := by
  refine aw_go 3 rfl ⟨trivial, trivial, trivial, trivial⟩ ?_
  refine aw_br (c := (nI N) ≤ (nI k)) (fun h42 => ?_) (fun h42 => ?_)
  · skip
    have h42 := cI_leT (a := N) (b := k) rfl rfl (by omega) (by omega) h42
    show aw_W _ _ _ _ (78, [some (.ref 0), some (.int 2), some (.int s), some (.int fr), some (.int (nI N)), some (.ref 39), some (.int cm), some (.int (nI k)), l8], []) (ae_en (au σ [(1, nI q.1)]) (au α [(0, q.2.1), (1, q.2.2.1), (2, q.2.2.2.1), (3, q.2.2.2.2.1), (5, q.2.2.2.2.2.1), (7, q.2.2.2.2.2.2)]) z t0 ts)
    rw [show N - k = 0 by omega] at hI
    refine aw_go 1 rfl ⟨trivial, trivial⟩ ?_
    refine aw_ret rfl rfl trivial ?_
    rw [← hI]
    exact ⟨rfl, rfl⟩
  · skip
    have h42 := cI_leF (a := N) (b := k) rfl rfl (by omega) (by omega) h42
    show aw_W _ _ _ _ (43, [some (.ref 0), some (.int 2), some (.int s), some (.int fr), some (.int (nI N)), some (.ref 39), some (.int cm), some (.int (nI k)), l8], []) (ae_en (au σ [(1, nI q.1)]) (au α [(0, q.2.1), (1, q.2.2.1), (2, q.2.2.2.1), (3, q.2.2.2.2.1), (5, q.2.2.2.2.2.1), (7, q.2.2.2.2.2.2)]) z t0 ts)
    obtain ⟨r, hr⟩ : ∃ r, N - k = r + 1 := ⟨N - k - 1, by omega⟩
    rw [hr, pPks] at hI
    refine aw_go 9 rfl ⟨trivial, trivial, trivial, trivial, trivial, trivial, trivial, trivial, trivial, trivial⟩ ?_
    show aw_W _ _ _ _ (52, [some (.ref 0), some (.int 2), some (.int s), some (.int fr), some (.int (nI N)), some (.ref 39), some (.int cm), some (.int (nI k)), some (.int (fr + (3 * (nI k))))], [.int 3, .int (fr + (3 * (nI k))), .ref 39]) (ae_en (au σ [(1, nI q.1)]) (au α [(0, q.2.1), (1, q.2.2.1), (2, q.2.2.2.1), (3, q.2.2.2.2.1), (5, q.2.2.2.2.2.1), (7, q.2.2.2.2.2.2)]) z t0 ts)
    refine aw_callE rfl rfl (ev_holds_2 (i := (fr + (3 * (nI k)))) (n := 3) hm hm40) ?_
    show aw_W _ _ _ _ (53, [some (.ref 0), some (.int 2), some (.int s), some (.int fr), some (.int (nI N)), some (.ref 39), some (.int cm), some (.int (nI k)), some (.int (fr + (3 * (nI k))))], [.int (bI (hHo m (fr + (3 * (nI k))) 3))]) (ae_en (au σ [(1, nI q.1)]) (au α [(0, q.2.1), (1, q.2.2.1), (2, q.2.2.2.1), (3, q.2.2.2.2.1), (5, q.2.2.2.2.2.1), (7, q.2.2.2.2.2.2)]) z t0 ts)
    refine aw_go 1 rfl ⟨trivial, trivial⟩ ?_
    refine aw_br (c := ¬ (bI (hHo m (fr + (3 * (nI k))) 3)) = 0) (fun h53 => ?_) (fun h53 => ?_)
    · skip
      have h53 := bI_t h53
      show aw_W _ _ _ _ (56, [some (.ref 0), some (.int 2), some (.int s), some (.int fr), some (.int (nI N)), some (.ref 39), some (.int cm), some (.int (nI k)), some (.int (fr + (3 * (nI k))))], []) (ae_en (au σ [(1, nI q.1)]) (au α [(0, q.2.1), (1, q.2.2.1), (2, q.2.2.2.1), (3, q.2.2.2.2.1), (5, q.2.2.2.2.2.1), (7, q.2.2.2.2.2.2)]) z t0 ts)
      rw [if_pos h53] at hI
      obtain ⟨a, ha, ea⟩ := nI_of h53.2.1
      have hq2 := h53.2.2
      rw [ea, nI_clamp ha, show (3 : Int32).toNatClampNeg = 3 from rfl] at hq2
      rw [ea, nI_clamp ha] at hI
      rw [ea]
      have hI2 := hI
      refine aw_go 17 rfl ⟨trivial, trivial, trivial, trivial, (cI_in (a := a) rfl (by omega) (by decide)), trivial, trivial, trivial, trivial, trivial, (cI_in (a := a + 1) (cI_add (a := a) (b := 1) rfl rfl) (by omega) (by decide)), trivial, trivial, trivial, trivial, trivial, (cI_in (a := a + 2) (cI_add (a := a) (b := 2) rfl rfl) (by omega) (by decide)), trivial⟩ ?_
      show aw_W _ _ _ _ (73, [some (.ref 0), some (.int 2), some (.int s), some (.int fr), some (.int (nI N)), some (.ref 39), some (.int cm), some (.int (nI k)), some (.int (nI a))], [.int (α 29 ((nI a) + 2).toNatClampNeg), .int (α 29 ((nI a) + 1).toNatClampNeg), .int (α 29 (nI a).toNatClampNeg), .ref 0]) (ae_en (au σ [(1, nI q.1)]) (au α [(0, q.2.1), (1, q.2.2.1), (2, q.2.2.2.1), (3, q.2.2.2.2.1), (5, q.2.2.2.2.2.1), (7, q.2.2.2.2.2.2)]) z t0 ts)
      rw [show (nI a).toNatClampNeg = a from cI_cl (a := a) rfl (by omega)]
      rw [show ((nI a) + 1).toNatClampNeg = a + 1 from cI_cl (a := a + 1) (cI_add (a := a) (b := 1) rfl rfl) (by omega)]
      rw [show ((nI a) + 2).toNatClampNeg = a + 2 from cI_cl (a := a + 2) (cI_add (a := a) (b := 2) rfl rfl) (by omega)]
      refine aw_call rfl rfl (ev_Dried_plank (k := (α 29 a)) (x := (α 29 (a + 1))) (m := (α 29 (a + 2))) rfl hq) ?_
      rintro _ _ ⟨rfl, rfl⟩
      show aw_W _ _ _ _ (74, [some (.ref 0), some (.int 2), some (.int s), some (.int fr), some (.int (nI N)), some (.ref 39), some (.int cm), some (.int (nI k)), some (.int (nI a))], [.int ((pPlank q.1 (q.2.1, q.2.2.1, q.2.2.2.1, q.2.2.2.2.1, q.2.2.2.2.2.1, q.2.2.2.2.2.2) (α 29 a) (α 29 (a + 1)) (α 29 (a + 2))).1)]) (ae_en (au σ [(1, nI (pPlank q.1 (q.2.1, q.2.2.1, q.2.2.2.1, q.2.2.2.2.1, q.2.2.2.2.2.1, q.2.2.2.2.2.2) (α 29 a) (α 29 (a + 1)) (α 29 (a + 2))).2.1)]) (au α [(0, (pPlank q.1 (q.2.1, q.2.2.1, q.2.2.2.1, q.2.2.2.2.1, q.2.2.2.2.2.1, q.2.2.2.2.2.2) (α 29 a) (α 29 (a + 1)) (α 29 (a + 2))).2.2.1), (1, (pPlank q.1 (q.2.1, q.2.2.1, q.2.2.2.1, q.2.2.2.2.1, q.2.2.2.2.2.1, q.2.2.2.2.2.2) (α 29 a) (α 29 (a + 1)) (α 29 (a + 2))).2.2.2.1), (2, (pPlank q.1 (q.2.1, q.2.2.1, q.2.2.2.1, q.2.2.2.2.1, q.2.2.2.2.2.1, q.2.2.2.2.2.2) (α 29 a) (α 29 (a + 1)) (α 29 (a + 2))).2.2.2.2.1), (3, (pPlank q.1 (q.2.1, q.2.2.1, q.2.2.2.1, q.2.2.2.2.1, q.2.2.2.2.2.1, q.2.2.2.2.2.2) (α 29 a) (α 29 (a + 1)) (α 29 (a + 2))).2.2.2.2.2.1), (5, (pPlank q.1 (q.2.1, q.2.2.1, q.2.2.2.1, q.2.2.2.2.1, q.2.2.2.2.2.1, q.2.2.2.2.2.2) (α 29 a) (α 29 (a + 1)) (α 29 (a + 2))).2.2.2.2.2.2.1), (7, (pPlank q.1 (q.2.1, q.2.2.1, q.2.2.2.1, q.2.2.2.2.1, q.2.2.2.2.2.1, q.2.2.2.2.2.2) (α 29 a) (α 29 (a + 1)) (α 29 (a + 2))).2.2.2.2.2.2.2)]) z t0 ts)
      refine aw_go 1 rfl ⟨trivial, trivial⟩ ?_
      refine aw_br (c := ((pPlank q.1 (q.2.1, q.2.2.1, q.2.2.2.1, q.2.2.2.2.1, q.2.2.2.2.2.1, q.2.2.2.2.2.2) (α 29 a) (α 29 (a + 1)) (α 29 (a + 2))).1) < 0) (fun h74 => ?_) (fun h74 => ?_)
      · skip
        show aw_W _ _ _ _ (76, [some (.ref 0), some (.int 2), some (.int s), some (.int fr), some (.int (nI N)), some (.ref 39), some (.int cm), some (.int (nI k)), some (.int (nI a))], []) (ae_en (au σ [(1, nI (pPlank q.1 (q.2.1, q.2.2.1, q.2.2.2.1, q.2.2.2.2.1, q.2.2.2.2.2.1, q.2.2.2.2.2.2) (α 29 a) (α 29 (a + 1)) (α 29 (a + 2))).2.1)]) (au α [(0, (pPlank q.1 (q.2.1, q.2.2.1, q.2.2.2.1, q.2.2.2.2.1, q.2.2.2.2.2.1, q.2.2.2.2.2.2) (α 29 a) (α 29 (a + 1)) (α 29 (a + 2))).2.2.1), (1, (pPlank q.1 (q.2.1, q.2.2.1, q.2.2.2.1, q.2.2.2.2.1, q.2.2.2.2.2.1, q.2.2.2.2.2.2) (α 29 a) (α 29 (a + 1)) (α 29 (a + 2))).2.2.2.1), (2, (pPlank q.1 (q.2.1, q.2.2.1, q.2.2.2.1, q.2.2.2.2.1, q.2.2.2.2.2.1, q.2.2.2.2.2.2) (α 29 a) (α 29 (a + 1)) (α 29 (a + 2))).2.2.2.2.1), (3, (pPlank q.1 (q.2.1, q.2.2.1, q.2.2.2.1, q.2.2.2.2.1, q.2.2.2.2.2.1, q.2.2.2.2.2.2) (α 29 a) (α 29 (a + 1)) (α 29 (a + 2))).2.2.2.2.2.1), (5, (pPlank q.1 (q.2.1, q.2.2.1, q.2.2.2.1, q.2.2.2.2.1, q.2.2.2.2.2.1, q.2.2.2.2.2.2) (α 29 a) (α 29 (a + 1)) (α 29 (a + 2))).2.2.2.2.2.2.1), (7, (pPlank q.1 (q.2.1, q.2.2.1, q.2.2.2.1, q.2.2.2.2.1, q.2.2.2.2.2.1, q.2.2.2.2.2.2) (α 29 a) (α 29 (a + 1)) (α 29 (a + 2))).2.2.2.2.2.2.2)]) z t0 ts)
        refine aw_go 2 rfl ⟨trivial, trivial, trivial⟩ ?_
        show aw_W _ _ _ _ (40, [some (.ref 0), some (.int 2), some (.int s), some (.int fr), some (.int (nI N)), some (.ref 39), some (.int cm), some (.int ((nI k) + 1)), some (.int (nI a))], []) (ae_en (au σ [(1, nI (pPlank q.1 (q.2.1, q.2.2.1, q.2.2.2.1, q.2.2.2.2.1, q.2.2.2.2.2.1, q.2.2.2.2.2.2) (α 29 a) (α 29 (a + 1)) (α 29 (a + 2))).2.1)]) (au α [(0, (pPlank q.1 (q.2.1, q.2.2.1, q.2.2.2.1, q.2.2.2.2.1, q.2.2.2.2.2.1, q.2.2.2.2.2.2) (α 29 a) (α 29 (a + 1)) (α 29 (a + 2))).2.2.1), (1, (pPlank q.1 (q.2.1, q.2.2.1, q.2.2.2.1, q.2.2.2.2.1, q.2.2.2.2.2.1, q.2.2.2.2.2.2) (α 29 a) (α 29 (a + 1)) (α 29 (a + 2))).2.2.2.1), (2, (pPlank q.1 (q.2.1, q.2.2.1, q.2.2.2.1, q.2.2.2.2.1, q.2.2.2.2.2.1, q.2.2.2.2.2.2) (α 29 a) (α 29 (a + 1)) (α 29 (a + 2))).2.2.2.2.1), (3, (pPlank q.1 (q.2.1, q.2.2.1, q.2.2.2.1, q.2.2.2.2.1, q.2.2.2.2.2.1, q.2.2.2.2.2.2) (α 29 a) (α 29 (a + 1)) (α 29 (a + 2))).2.2.2.2.2.1), (5, (pPlank q.1 (q.2.1, q.2.2.1, q.2.2.2.1, q.2.2.2.2.1, q.2.2.2.2.2.1, q.2.2.2.2.2.2) (α 29 a) (α 29 (a + 1)) (α 29 (a + 2))).2.2.2.2.2.2.1), (7, (pPlank q.1 (q.2.1, q.2.2.1, q.2.2.2.1, q.2.2.2.2.1, q.2.2.2.2.2.1, q.2.2.2.2.2.2) (α 29 a) (α 29 (a + 1)) (α 29 (a + 2))).2.2.2.2.2.2.2)]) z t0 ts)
        rw [show (nI k) + 1 = nI (k + 1) from (cI_add (a := k) (b := 1) rfl rfl)]
        exact lp_planks_2 (q := (pPlank q.1 q.2 (α 29 a) (α 29 (a + 1)) (α 29 (a + 2))).2) hm hm40 hN (pPlank_n hq) (k + 1) (by omega) (by rw [show N - (k + 1) = r by omega, ← hI2, if_pos h74])
      · skip
        show aw_W _ _ _ _ (75, [some (.ref 0), some (.int 2), some (.int s), some (.int fr), some (.int (nI N)), some (.ref 39), some (.int cm), some (.int (nI k)), some (.int (nI a))], []) (ae_en (au σ [(1, nI (pPlank q.1 (q.2.1, q.2.2.1, q.2.2.2.1, q.2.2.2.2.1, q.2.2.2.2.2.1, q.2.2.2.2.2.2) (α 29 a) (α 29 (a + 1)) (α 29 (a + 2))).2.1)]) (au α [(0, (pPlank q.1 (q.2.1, q.2.2.1, q.2.2.2.1, q.2.2.2.2.1, q.2.2.2.2.2.1, q.2.2.2.2.2.2) (α 29 a) (α 29 (a + 1)) (α 29 (a + 2))).2.2.1), (1, (pPlank q.1 (q.2.1, q.2.2.1, q.2.2.2.1, q.2.2.2.2.1, q.2.2.2.2.2.1, q.2.2.2.2.2.2) (α 29 a) (α 29 (a + 1)) (α 29 (a + 2))).2.2.2.1), (2, (pPlank q.1 (q.2.1, q.2.2.1, q.2.2.2.1, q.2.2.2.2.1, q.2.2.2.2.2.1, q.2.2.2.2.2.2) (α 29 a) (α 29 (a + 1)) (α 29 (a + 2))).2.2.2.2.1), (3, (pPlank q.1 (q.2.1, q.2.2.1, q.2.2.2.1, q.2.2.2.2.1, q.2.2.2.2.2.1, q.2.2.2.2.2.2) (α 29 a) (α 29 (a + 1)) (α 29 (a + 2))).2.2.2.2.2.1), (5, (pPlank q.1 (q.2.1, q.2.2.1, q.2.2.2.1, q.2.2.2.2.1, q.2.2.2.2.2.1, q.2.2.2.2.2.2) (α 29 a) (α 29 (a + 1)) (α 29 (a + 2))).2.2.2.2.2.2.1), (7, (pPlank q.1 (q.2.1, q.2.2.1, q.2.2.2.1, q.2.2.2.2.1, q.2.2.2.2.2.1, q.2.2.2.2.2.2) (α 29 a) (α 29 (a + 1)) (α 29 (a + 2))).2.2.2.2.2.2.2)]) z t0 ts)
        refine aw_go 3 rfl ⟨trivial, trivial, trivial, trivial⟩ ?_
        show aw_W _ _ _ _ (40, [some (.ref 0), some (.int 2), some (.int s), some (.int fr), some (.int (nI N)), some (.ref 39), some (.int (cm + 1)), some (.int ((nI k) + 1)), some (.int (nI a))], []) (ae_en (au σ [(1, nI (pPlank q.1 (q.2.1, q.2.2.1, q.2.2.2.1, q.2.2.2.2.1, q.2.2.2.2.2.1, q.2.2.2.2.2.2) (α 29 a) (α 29 (a + 1)) (α 29 (a + 2))).2.1)]) (au α [(0, (pPlank q.1 (q.2.1, q.2.2.1, q.2.2.2.1, q.2.2.2.2.1, q.2.2.2.2.2.1, q.2.2.2.2.2.2) (α 29 a) (α 29 (a + 1)) (α 29 (a + 2))).2.2.1), (1, (pPlank q.1 (q.2.1, q.2.2.1, q.2.2.2.1, q.2.2.2.2.1, q.2.2.2.2.2.1, q.2.2.2.2.2.2) (α 29 a) (α 29 (a + 1)) (α 29 (a + 2))).2.2.2.1), (2, (pPlank q.1 (q.2.1, q.2.2.1, q.2.2.2.1, q.2.2.2.2.1, q.2.2.2.2.2.1, q.2.2.2.2.2.2) (α 29 a) (α 29 (a + 1)) (α 29 (a + 2))).2.2.2.2.1), (3, (pPlank q.1 (q.2.1, q.2.2.1, q.2.2.2.1, q.2.2.2.2.1, q.2.2.2.2.2.1, q.2.2.2.2.2.2) (α 29 a) (α 29 (a + 1)) (α 29 (a + 2))).2.2.2.2.2.1), (5, (pPlank q.1 (q.2.1, q.2.2.1, q.2.2.2.1, q.2.2.2.2.1, q.2.2.2.2.2.1, q.2.2.2.2.2.2) (α 29 a) (α 29 (a + 1)) (α 29 (a + 2))).2.2.2.2.2.2.1), (7, (pPlank q.1 (q.2.1, q.2.2.1, q.2.2.2.1, q.2.2.2.2.1, q.2.2.2.2.2.1, q.2.2.2.2.2.2) (α 29 a) (α 29 (a + 1)) (α 29 (a + 2))).2.2.2.2.2.2.2)]) z t0 ts)
        rw [show (nI k) + 1 = nI (k + 1) from (cI_add (a := k) (b := 1) rfl rfl)]
        exact lp_planks_2 (q := (pPlank q.1 q.2 (α 29 a) (α 29 (a + 1)) (α 29 (a + 2))).2) hm hm40 hN (pPlank_n hq) (k + 1) (by omega) (by rw [show N - (k + 1) = r by omega, ← hI2, if_neg h74])
    · skip
      have h53 := bI_f (Classical.not_not.mp h53)
      show aw_W _ _ _ _ (54, [some (.ref 0), some (.int 2), some (.int s), some (.int fr), some (.int (nI N)), some (.ref 39), some (.int cm), some (.int (nI k)), some (.int (fr + (3 * (nI k))))], []) (ae_en (au σ [(1, nI q.1)]) (au α [(0, q.2.1), (1, q.2.2.1), (2, q.2.2.2.1), (3, q.2.2.2.2.1), (5, q.2.2.2.2.2.1), (7, q.2.2.2.2.2.2)]) z t0 ts)
      rw [if_neg h53] at hI
      refine aw_go 1 rfl ⟨trivial, trivial⟩ ?_
      refine aw_ret rfl rfl trivial ?_
      rw [← hI]
      exact ⟨rfl, rfl⟩
termination_by N - k
decreasing_by all_goals omega
theorem ev_planks_2 {m n : Nat} {s fr x : Int32} {zd : Nat} (hn : (σ 1) = nI n) (hn10 : n ≤ 10) (hm : ¬ σ 22 = -1 → σ 23 = nI m) (hm40 : m ≤ 40) : aw_X P (zd + 3) 33 [.ref 0, .int 2, .int s, .int fr, .int x] (ae_en σ α z t0 ts) (fun r H => r = some (.int ((pPlanks (α 29) m (σ 22) s fr x (n, (α 0, α 1, α 2, α 3, α 5, α 7))).1)) ∧ H = (ae_en (au σ [(1, nI (pPlanks (α 29) m (σ 22) s fr x (n, (α 0, α 1, α 2, α 3, α 5, α 7))).2.1)]) (au α [(0, (pPlanks (α 29) m (σ 22) s fr x (n, (α 0, α 1, α 2, α 3, α 5, α 7))).2.2.1), (1, (pPlanks (α 29) m (σ 22) s fr x (n, (α 0, α 1, α 2, α 3, α 5, α 7))).2.2.2.1), (2, (pPlanks (α 29) m (σ 22) s fr x (n, (α 0, α 1, α 2, α 3, α 5, α 7))).2.2.2.2.1), (3, (pPlanks (α 29) m (σ 22) s fr x (n, (α 0, α 1, α 2, α 3, α 5, α 7))).2.2.2.2.2.1), (5, (pPlanks (α 29) m (σ 22) s fr x (n, (α 0, α 1, α 2, α 3, α 5, α 7))).2.2.2.2.2.2.1), (7, (pPlanks (α 29) m (σ 22) s fr x (n, (α 0, α 1, α 2, α 3, α 5, α 7))).2.2.2.2.2.2.2)]) z t0 ts)) := by
  refine aw_ev (cd := cd_Dried_planks) rfl rfl rfl ?_
  show aw_W _ _ _ _ (0, [some (.ref 0), some (.int 2), some (.int s), some (.int fr), some (.int x), none, none, none, none], []) (ae_en σ α z t0 ts)
  refine aw_go 1 rfl ⟨trivial, trivial⟩ ?_
  refine aw_callE rfl rfl (ev_Dried_isSheet (s := 2)) ?_
  show aw_W _ _ _ _ (2, [some (.ref 0), some (.int 2), some (.int s), some (.int fr), some (.int x), none, none, none, none], [.int (bI (iP 4 2))]) (ae_en σ α z t0 ts)
  refine aw_go 1 rfl ⟨trivial, trivial⟩ ?_
  refine aw_br (c := (bI (iP 4 2)) = 0) (fun h2 => ?_) (fun h2 => ?_)
  · skip
    have h2 := bI_f h2
    show aw_W _ _ _ _ (13, [some (.ref 0), some (.int 2), some (.int s), some (.int fr), some (.int x), none, none, none, none], []) (ae_en σ α z t0 ts)
    exact absurd h2 (by decide)
  · skip
    have h2 := bI_t h2
    show aw_W _ _ _ _ (3, [some (.ref 0), some (.int 2), some (.int s), some (.int fr), some (.int x), none, none, none, none], []) (ae_en σ α z t0 ts)
    refine aw_go 2 rfl ⟨trivial, trivial, trivial⟩ ?_
    refine aw_br (c := s < 0) (fun h4 => ?_) (fun h4 => ?_)
    · skip
      show aw_W _ _ _ _ (13, [some (.ref 0), some (.int 2), some (.int s), some (.int fr), some (.int x), none, none, none, none], []) (ae_en σ α z t0 ts)
      refine aw_go 1 rfl ⟨trivial, trivial⟩ ?_
      refine aw_ret rfl rfl trivial ?_
      rw [pPlanks, if_pos (Or.inl h4), ← hn]
      exact ⟨rfl, rfl⟩
    · skip
      show aw_W _ _ _ _ (5, [some (.ref 0), some (.int 2), some (.int s), some (.int fr), some (.int x), none, none, none, none], []) (ae_en σ α z t0 ts)
      refine aw_go 3 rfl ⟨trivial, trivial, trivial, trivial⟩ ?_
      refine aw_br (c := (2 : Int32) < s) (fun h7 => ?_) (fun h7 => ?_)
      · skip
        show aw_W _ _ _ _ (13, [some (.ref 0), some (.int 2), some (.int s), some (.int fr), some (.int x), none, none, none, none], []) (ae_en σ α z t0 ts)
        refine aw_go 1 rfl ⟨trivial, trivial⟩ ?_
        refine aw_ret rfl rfl trivial ?_
        rw [pPlanks, if_pos (Or.inr (Or.inl h7)), ← hn]
        exact ⟨rfl, rfl⟩
      · skip
        show aw_W _ _ _ _ (8, [some (.ref 0), some (.int 2), some (.int s), some (.int fr), some (.int x), none, none, none, none], []) (ae_en σ α z t0 ts)
        refine aw_go 2 rfl ⟨trivial, trivial, trivial⟩ ?_
        refine aw_br (c := x < 0) (fun h9 => ?_) (fun h9 => ?_)
        · skip
          show aw_W _ _ _ _ (13, [some (.ref 0), some (.int 2), some (.int s), some (.int fr), some (.int x), none, none, none, none], []) (ae_en σ α z t0 ts)
          refine aw_go 1 rfl ⟨trivial, trivial⟩ ?_
          refine aw_ret rfl rfl trivial ?_
          rw [pPlanks, if_pos (Or.inr (Or.inr (Or.inl h9))), ← hn]
          exact ⟨rfl, rfl⟩
        · skip
          show aw_W _ _ _ _ (10, [some (.ref 0), some (.int 2), some (.int s), some (.int fr), some (.int x), none, none, none, none], []) (ae_en σ α z t0 ts)
          refine aw_go 3 rfl ⟨trivial, trivial, trivial, trivial⟩ ?_
          refine aw_br (c := x ≤ 10) (fun h12 => ?_) (fun h12 => ?_)
          · skip
            show aw_W _ _ _ _ (15, [some (.ref 0), some (.int 2), some (.int s), some (.int fr), some (.int x), none, none, none, none], []) (ae_en σ α z t0 ts)
            obtain ⟨N, hN, rfl⟩ := nI_of2 (M := 10) (n := 10) rfl h9 h12
            refine aw_go 9 rfl ⟨trivial, trivial, trivial, (cI_in (a := 2) rfl (by omega) (by decide)), trivial, trivial, trivial, trivial, trivial, trivial⟩ ?_
            show aw_W _ _ _ _ (if (σ 22) = (-1) then 30 else 24, [some (.ref 0), some (.int 2), some (.int s), some (.int fr), some (.int (nI N)), some (.ref 39), none, none, none], []) (ae_en σ α z t0 ts)
            refine aw_br (c := (σ 22) = (-1)) (fun h23 => ?_) (fun h23 => ?_)
            · skip
              show aw_W _ _ _ _ (30, [some (.ref 0), some (.int 2), some (.int s), some (.int fr), some (.int (nI N)), some (.ref 39), none, none, none], []) (ae_en σ α z t0 ts)
              refine aw_go 4 rfl ⟨trivial, trivial, trivial, trivial, trivial⟩ ?_
              show aw_W _ _ _ _ (if ¬ (σ 22) = (-1) then 36 else 34, [some (.ref 0), some (.int 2), some (.int s), some (.int fr), some (.int (nI N)), some (.ref 39), none, none, none], []) (ae_en σ α z t0 ts)
              refine aw_br (c := ¬ (σ 22) = (-1)) (fun h33 => ?_) (fun h33 => ?_)
              · skip
                show aw_W _ _ _ _ (36, [some (.ref 0), some (.int 2), some (.int s), some (.int fr), some (.int (nI N)), some (.ref 39), none, none, none], []) (ae_en σ α z t0 ts)
                exact absurd h23 h33
              · skip
                have h33 := Classical.not_not.mp h33
                show aw_W _ _ _ _ (34, [some (.ref 0), some (.int 2), some (.int s), some (.int fr), some (.int (nI N)), some (.ref 39), none, none, none], []) (ae_en σ α z t0 ts)
                refine aw_go 1 rfl ⟨trivial, trivial⟩ ?_
                refine aw_ret rfl rfl trivial ?_
                rw [pPlanks, if_neg (fun q => by rcases q with q | q | q | q; exact h4 q; exact Int32.not_lt.mpr (Int32.not_lt.mp h7) q; exact h9 q; exact Int32.not_lt.mpr h12 q), if_neg (fun q => q.1 h23), if_pos h23, ← hn]
                exact ⟨rfl, rfl⟩
            · skip
              show aw_W _ _ _ _ (24, [some (.ref 0), some (.int 2), some (.int s), some (.int fr), some (.int (nI N)), some (.ref 39), none, none, none], []) (ae_en σ α z t0 ts)
              refine aw_go 4 rfl ⟨trivial, trivial, trivial, trivial, trivial⟩ ?_
              show aw_W _ _ _ _ (if (σ 22) = s then 30 else 28, [some (.ref 0), some (.int 2), some (.int s), some (.int fr), some (.int (nI N)), some (.ref 39), none, none, none], []) (ae_en σ α z t0 ts)
              refine aw_br (c := (σ 22) = s) (fun h27 => ?_) (fun h27 => ?_)
              · skip
                show aw_W _ _ _ _ (30, [some (.ref 0), some (.int 2), some (.int s), some (.int fr), some (.int (nI N)), some (.ref 39), none, none, none], []) (ae_en σ α z t0 ts)
                refine aw_go 4 rfl ⟨trivial, trivial, trivial, trivial, trivial⟩ ?_
                show aw_W _ _ _ _ (if ¬ (σ 22) = (-1) then 36 else 34, [some (.ref 0), some (.int 2), some (.int s), some (.int fr), some (.int (nI N)), some (.ref 39), none, none, none], []) (ae_en σ α z t0 ts)
                refine aw_br (c := ¬ (σ 22) = (-1)) (fun h33 => ?_) (fun h33 => ?_)
                · skip
                  show aw_W _ _ _ _ (36, [some (.ref 0), some (.int 2), some (.int s), some (.int fr), some (.int (nI N)), some (.ref 39), none, none, none], []) (ae_en σ α z t0 ts)
                  refine aw_go 4 rfl ⟨trivial, trivial, trivial, trivial, trivial⟩ ?_
                  rw [pPlanks, if_neg (fun q => by rcases q with q | q | q | q; exact h4 q; exact Int32.not_lt.mpr (Int32.not_lt.mp h7) q; exact h9 q; exact Int32.not_lt.mpr h12 q), if_neg (fun q => q.2 h27), if_neg h23, nI_clamp (by omega)]
                  exact aw_to (lp_planks_2 (q := (n, (α 0, α 1, α 2, α 3, α 5, α 7))) (hm h23) hm40 hN hn10 0 (Nat.zero_le _) rfl) rfl (by rw [← hn]; rfl)
                · skip
                  have h33 := Classical.not_not.mp h33
                  show aw_W _ _ _ _ (34, [some (.ref 0), some (.int 2), some (.int s), some (.int fr), some (.int (nI N)), some (.ref 39), none, none, none], []) (ae_en σ α z t0 ts)
                  exact absurd h33 h23
              · skip
                show aw_W _ _ _ _ (28, [some (.ref 0), some (.int 2), some (.int s), some (.int fr), some (.int (nI N)), some (.ref 39), none, none, none], []) (ae_en σ α z t0 ts)
                refine aw_go 1 rfl ⟨trivial, trivial⟩ ?_
                refine aw_ret rfl rfl trivial ?_
                rw [pPlanks, if_neg (fun q => by rcases q with q | q | q | q; exact h4 q; exact Int32.not_lt.mpr (Int32.not_lt.mp h7) q; exact h9 q; exact Int32.not_lt.mpr h12 q), if_pos ⟨h23, h27⟩, ← hn]
                exact ⟨rfl, rfl⟩
          · skip
            show aw_W _ _ _ _ (13, [some (.ref 0), some (.int 2), some (.int s), some (.int fr), some (.int x), none, none, none, none], []) (ae_en σ α z t0 ts)
            refine aw_go 1 rfl ⟨trivial, trivial⟩ ?_
            refine aw_ret rfl rfl trivial ?_
            rw [pPlanks, if_pos (Or.inr (Or.inr (Or.inr (Int32.not_le.mp h12)))), ← hn]
            exact ⟨rfl, rfl⟩
theorem lp_planks_3 {zd : Nat} {m N : Nat} {s fr cm : Int32} {q : Nat × ae_S6} {R : Int32 × Nat × ae_S6} {l8 : Option Value} (hm : σ 25 = nI m) (hm40 : m ≤ 40) (hN : N ≤ 10) (hq : q.1 ≤ 10) (k : Nat) (hk : k ≤ N) (hI : pPks (α 30) m fr (N - k) k cm q = R) : aw_W P (zd + 2) cd_Dried_planks (fun r H => r = some (.int R.1) ∧ H = (ae_en (au σ [(1, nI R.2.1)]) (au α [(0, R.2.2.1), (1, R.2.2.2.1), (2, R.2.2.2.2.1), (3, R.2.2.2.2.2.1), (5, R.2.2.2.2.2.2.1), (7, R.2.2.2.2.2.2.2)]) z t0 ts)) (40, [some (.ref 0), some (.int 3), some (.int s), some (.int fr), some (.int (nI N)), some (.ref 41), some (.int cm), some (.int (nI k)), l8], []) (ae_en (au σ [(1, nI q.1)]) (au α [(0, q.2.1), (1, q.2.2.1), (2, q.2.2.2.1), (3, q.2.2.2.2.1), (5, q.2.2.2.2.2.1), (7, q.2.2.2.2.2.2)]) z t0 ts) := by
  refine aw_go 3 rfl ⟨trivial, trivial, trivial, trivial⟩ ?_
  refine aw_br (c := (nI N) ≤ (nI k)) (fun h42 => ?_) (fun h42 => ?_)
  · skip
    have h42 := cI_leT (a := N) (b := k) rfl rfl (by omega) (by omega) h42
    show aw_W _ _ _ _ (78, [some (.ref 0), some (.int 3), some (.int s), some (.int fr), some (.int (nI N)), some (.ref 41), some (.int cm), some (.int (nI k)), l8], []) (ae_en (au σ [(1, nI q.1)]) (au α [(0, q.2.1), (1, q.2.2.1), (2, q.2.2.2.1), (3, q.2.2.2.2.1), (5, q.2.2.2.2.2.1), (7, q.2.2.2.2.2.2)]) z t0 ts)
    rw [show N - k = 0 by omega] at hI
    refine aw_go 1 rfl ⟨trivial, trivial⟩ ?_
    refine aw_ret rfl rfl trivial ?_
    rw [← hI]
    exact ⟨rfl, rfl⟩
  · skip
    have h42 := cI_leF (a := N) (b := k) rfl rfl (by omega) (by omega) h42
    show aw_W _ _ _ _ (43, [some (.ref 0), some (.int 3), some (.int s), some (.int fr), some (.int (nI N)), some (.ref 41), some (.int cm), some (.int (nI k)), l8], []) (ae_en (au σ [(1, nI q.1)]) (au α [(0, q.2.1), (1, q.2.2.1), (2, q.2.2.2.1), (3, q.2.2.2.2.1), (5, q.2.2.2.2.2.1), (7, q.2.2.2.2.2.2)]) z t0 ts)
    obtain ⟨r, hr⟩ : ∃ r, N - k = r + 1 := ⟨N - k - 1, by omega⟩
    rw [hr, pPks] at hI
    refine aw_go 9 rfl ⟨trivial, trivial, trivial, trivial, trivial, trivial, trivial, trivial, trivial, trivial⟩ ?_
    show aw_W _ _ _ _ (52, [some (.ref 0), some (.int 3), some (.int s), some (.int fr), some (.int (nI N)), some (.ref 41), some (.int cm), some (.int (nI k)), some (.int (fr + (3 * (nI k))))], [.int 3, .int (fr + (3 * (nI k))), .ref 41]) (ae_en (au σ [(1, nI q.1)]) (au α [(0, q.2.1), (1, q.2.2.1), (2, q.2.2.2.1), (3, q.2.2.2.2.1), (5, q.2.2.2.2.2.1), (7, q.2.2.2.2.2.2)]) z t0 ts)
    refine aw_callE rfl rfl (ev_holds_3 (i := (fr + (3 * (nI k)))) (n := 3) hm hm40) ?_
    show aw_W _ _ _ _ (53, [some (.ref 0), some (.int 3), some (.int s), some (.int fr), some (.int (nI N)), some (.ref 41), some (.int cm), some (.int (nI k)), some (.int (fr + (3 * (nI k))))], [.int (bI (hHo m (fr + (3 * (nI k))) 3))]) (ae_en (au σ [(1, nI q.1)]) (au α [(0, q.2.1), (1, q.2.2.1), (2, q.2.2.2.1), (3, q.2.2.2.2.1), (5, q.2.2.2.2.2.1), (7, q.2.2.2.2.2.2)]) z t0 ts)
    refine aw_go 1 rfl ⟨trivial, trivial⟩ ?_
    refine aw_br (c := ¬ (bI (hHo m (fr + (3 * (nI k))) 3)) = 0) (fun h53 => ?_) (fun h53 => ?_)
    · skip
      have h53 := bI_t h53
      show aw_W _ _ _ _ (56, [some (.ref 0), some (.int 3), some (.int s), some (.int fr), some (.int (nI N)), some (.ref 41), some (.int cm), some (.int (nI k)), some (.int (fr + (3 * (nI k))))], []) (ae_en (au σ [(1, nI q.1)]) (au α [(0, q.2.1), (1, q.2.2.1), (2, q.2.2.2.1), (3, q.2.2.2.2.1), (5, q.2.2.2.2.2.1), (7, q.2.2.2.2.2.2)]) z t0 ts)
      rw [if_pos h53] at hI
      obtain ⟨a, ha, ea⟩ := nI_of h53.2.1
      have hq2 := h53.2.2
      rw [ea, nI_clamp ha, show (3 : Int32).toNatClampNeg = 3 from rfl] at hq2
      rw [ea, nI_clamp ha] at hI
      rw [ea]
      have hI2 := hI
      refine aw_go 17 rfl ⟨trivial, trivial, trivial, trivial, (cI_in (a := a) rfl (by omega) (by decide)), trivial, trivial, trivial, trivial, trivial, (cI_in (a := a + 1) (cI_add (a := a) (b := 1) rfl rfl) (by omega) (by decide)), trivial, trivial, trivial, trivial, trivial, (cI_in (a := a + 2) (cI_add (a := a) (b := 2) rfl rfl) (by omega) (by decide)), trivial⟩ ?_
      show aw_W _ _ _ _ (73, [some (.ref 0), some (.int 3), some (.int s), some (.int fr), some (.int (nI N)), some (.ref 41), some (.int cm), some (.int (nI k)), some (.int (nI a))], [.int (α 30 ((nI a) + 2).toNatClampNeg), .int (α 30 ((nI a) + 1).toNatClampNeg), .int (α 30 (nI a).toNatClampNeg), .ref 0]) (ae_en (au σ [(1, nI q.1)]) (au α [(0, q.2.1), (1, q.2.2.1), (2, q.2.2.2.1), (3, q.2.2.2.2.1), (5, q.2.2.2.2.2.1), (7, q.2.2.2.2.2.2)]) z t0 ts)
      rw [show (nI a).toNatClampNeg = a from cI_cl (a := a) rfl (by omega)]
      rw [show ((nI a) + 1).toNatClampNeg = a + 1 from cI_cl (a := a + 1) (cI_add (a := a) (b := 1) rfl rfl) (by omega)]
      rw [show ((nI a) + 2).toNatClampNeg = a + 2 from cI_cl (a := a + 2) (cI_add (a := a) (b := 2) rfl rfl) (by omega)]
      refine aw_call rfl rfl (ev_Dried_plank (k := (α 30 a)) (x := (α 30 (a + 1))) (m := (α 30 (a + 2))) rfl hq) ?_
      rintro _ _ ⟨rfl, rfl⟩
      show aw_W _ _ _ _ (74, [some (.ref 0), some (.int 3), some (.int s), some (.int fr), some (.int (nI N)), some (.ref 41), some (.int cm), some (.int (nI k)), some (.int (nI a))], [.int ((pPlank q.1 (q.2.1, q.2.2.1, q.2.2.2.1, q.2.2.2.2.1, q.2.2.2.2.2.1, q.2.2.2.2.2.2) (α 30 a) (α 30 (a + 1)) (α 30 (a + 2))).1)]) (ae_en (au σ [(1, nI (pPlank q.1 (q.2.1, q.2.2.1, q.2.2.2.1, q.2.2.2.2.1, q.2.2.2.2.2.1, q.2.2.2.2.2.2) (α 30 a) (α 30 (a + 1)) (α 30 (a + 2))).2.1)]) (au α [(0, (pPlank q.1 (q.2.1, q.2.2.1, q.2.2.2.1, q.2.2.2.2.1, q.2.2.2.2.2.1, q.2.2.2.2.2.2) (α 30 a) (α 30 (a + 1)) (α 30 (a + 2))).2.2.1), (1, (pPlank q.1 (q.2.1, q.2.2.1, q.2.2.2.1, q.2.2.2.2.1, q.2.2.2.2.2.1, q.2.2.2.2.2.2) (α 30 a) (α 30 (a + 1)) (α 30 (a + 2))).2.2.2.1), (2, (pPlank q.1 (q.2.1, q.2.2.1, q.2.2.2.1, q.2.2.2.2.1, q.2.2.2.2.2.1, q.2.2.2.2.2.2) (α 30 a) (α 30 (a + 1)) (α 30 (a + 2))).2.2.2.2.1), (3, (pPlank q.1 (q.2.1, q.2.2.1, q.2.2.2.1, q.2.2.2.2.1, q.2.2.2.2.2.1, q.2.2.2.2.2.2) (α 30 a) (α 30 (a + 1)) (α 30 (a + 2))).2.2.2.2.2.1), (5, (pPlank q.1 (q.2.1, q.2.2.1, q.2.2.2.1, q.2.2.2.2.1, q.2.2.2.2.2.1, q.2.2.2.2.2.2) (α 30 a) (α 30 (a + 1)) (α 30 (a + 2))).2.2.2.2.2.2.1), (7, (pPlank q.1 (q.2.1, q.2.2.1, q.2.2.2.1, q.2.2.2.2.1, q.2.2.2.2.2.1, q.2.2.2.2.2.2) (α 30 a) (α 30 (a + 1)) (α 30 (a + 2))).2.2.2.2.2.2.2)]) z t0 ts)
      refine aw_go 1 rfl ⟨trivial, trivial⟩ ?_
      refine aw_br (c := ((pPlank q.1 (q.2.1, q.2.2.1, q.2.2.2.1, q.2.2.2.2.1, q.2.2.2.2.2.1, q.2.2.2.2.2.2) (α 30 a) (α 30 (a + 1)) (α 30 (a + 2))).1) < 0) (fun h74 => ?_) (fun h74 => ?_)
      · skip
        show aw_W _ _ _ _ (76, [some (.ref 0), some (.int 3), some (.int s), some (.int fr), some (.int (nI N)), some (.ref 41), some (.int cm), some (.int (nI k)), some (.int (nI a))], []) (ae_en (au σ [(1, nI (pPlank q.1 (q.2.1, q.2.2.1, q.2.2.2.1, q.2.2.2.2.1, q.2.2.2.2.2.1, q.2.2.2.2.2.2) (α 30 a) (α 30 (a + 1)) (α 30 (a + 2))).2.1)]) (au α [(0, (pPlank q.1 (q.2.1, q.2.2.1, q.2.2.2.1, q.2.2.2.2.1, q.2.2.2.2.2.1, q.2.2.2.2.2.2) (α 30 a) (α 30 (a + 1)) (α 30 (a + 2))).2.2.1), (1, (pPlank q.1 (q.2.1, q.2.2.1, q.2.2.2.1, q.2.2.2.2.1, q.2.2.2.2.2.1, q.2.2.2.2.2.2) (α 30 a) (α 30 (a + 1)) (α 30 (a + 2))).2.2.2.1), (2, (pPlank q.1 (q.2.1, q.2.2.1, q.2.2.2.1, q.2.2.2.2.1, q.2.2.2.2.2.1, q.2.2.2.2.2.2) (α 30 a) (α 30 (a + 1)) (α 30 (a + 2))).2.2.2.2.1), (3, (pPlank q.1 (q.2.1, q.2.2.1, q.2.2.2.1, q.2.2.2.2.1, q.2.2.2.2.2.1, q.2.2.2.2.2.2) (α 30 a) (α 30 (a + 1)) (α 30 (a + 2))).2.2.2.2.2.1), (5, (pPlank q.1 (q.2.1, q.2.2.1, q.2.2.2.1, q.2.2.2.2.1, q.2.2.2.2.2.1, q.2.2.2.2.2.2) (α 30 a) (α 30 (a + 1)) (α 30 (a + 2))).2.2.2.2.2.2.1), (7, (pPlank q.1 (q.2.1, q.2.2.1, q.2.2.2.1, q.2.2.2.2.1, q.2.2.2.2.2.1, q.2.2.2.2.2.2) (α 30 a) (α 30 (a + 1)) (α 30 (a + 2))).2.2.2.2.2.2.2)]) z t0 ts)
        refine aw_go 2 rfl ⟨trivial, trivial, trivial⟩ ?_
        show aw_W _ _ _ _ (40, [some (.ref 0), some (.int 3), some (.int s), some (.int fr), some (.int (nI N)), some (.ref 41), some (.int cm), some (.int ((nI k) + 1)), some (.int (nI a))], []) (ae_en (au σ [(1, nI (pPlank q.1 (q.2.1, q.2.2.1, q.2.2.2.1, q.2.2.2.2.1, q.2.2.2.2.2.1, q.2.2.2.2.2.2) (α 30 a) (α 30 (a + 1)) (α 30 (a + 2))).2.1)]) (au α [(0, (pPlank q.1 (q.2.1, q.2.2.1, q.2.2.2.1, q.2.2.2.2.1, q.2.2.2.2.2.1, q.2.2.2.2.2.2) (α 30 a) (α 30 (a + 1)) (α 30 (a + 2))).2.2.1), (1, (pPlank q.1 (q.2.1, q.2.2.1, q.2.2.2.1, q.2.2.2.2.1, q.2.2.2.2.2.1, q.2.2.2.2.2.2) (α 30 a) (α 30 (a + 1)) (α 30 (a + 2))).2.2.2.1), (2, (pPlank q.1 (q.2.1, q.2.2.1, q.2.2.2.1, q.2.2.2.2.1, q.2.2.2.2.2.1, q.2.2.2.2.2.2) (α 30 a) (α 30 (a + 1)) (α 30 (a + 2))).2.2.2.2.1), (3, (pPlank q.1 (q.2.1, q.2.2.1, q.2.2.2.1, q.2.2.2.2.1, q.2.2.2.2.2.1, q.2.2.2.2.2.2) (α 30 a) (α 30 (a + 1)) (α 30 (a + 2))).2.2.2.2.2.1), (5, (pPlank q.1 (q.2.1, q.2.2.1, q.2.2.2.1, q.2.2.2.2.1, q.2.2.2.2.2.1, q.2.2.2.2.2.2) (α 30 a) (α 30 (a + 1)) (α 30 (a + 2))).2.2.2.2.2.2.1), (7, (pPlank q.1 (q.2.1, q.2.2.1, q.2.2.2.1, q.2.2.2.2.1, q.2.2.2.2.2.1, q.2.2.2.2.2.2) (α 30 a) (α 30 (a + 1)) (α 30 (a + 2))).2.2.2.2.2.2.2)]) z t0 ts)
        rw [show (nI k) + 1 = nI (k + 1) from (cI_add (a := k) (b := 1) rfl rfl)]
        exact lp_planks_3 (q := (pPlank q.1 q.2 (α 30 a) (α 30 (a + 1)) (α 30 (a + 2))).2) hm hm40 hN (pPlank_n hq) (k + 1) (by omega) (by rw [show N - (k + 1) = r by omega, ← hI2, if_pos h74])
      · skip
        show aw_W _ _ _ _ (75, [some (.ref 0), some (.int 3), some (.int s), some (.int fr), some (.int (nI N)), some (.ref 41), some (.int cm), some (.int (nI k)), some (.int (nI a))], []) (ae_en (au σ [(1, nI (pPlank q.1 (q.2.1, q.2.2.1, q.2.2.2.1, q.2.2.2.2.1, q.2.2.2.2.2.1, q.2.2.2.2.2.2) (α 30 a) (α 30 (a + 1)) (α 30 (a + 2))).2.1)]) (au α [(0, (pPlank q.1 (q.2.1, q.2.2.1, q.2.2.2.1, q.2.2.2.2.1, q.2.2.2.2.2.1, q.2.2.2.2.2.2) (α 30 a) (α 30 (a + 1)) (α 30 (a + 2))).2.2.1), (1, (pPlank q.1 (q.2.1, q.2.2.1, q.2.2.2.1, q.2.2.2.2.1, q.2.2.2.2.2.1, q.2.2.2.2.2.2) (α 30 a) (α 30 (a + 1)) (α 30 (a + 2))).2.2.2.1), (2, (pPlank q.1 (q.2.1, q.2.2.1, q.2.2.2.1, q.2.2.2.2.1, q.2.2.2.2.2.1, q.2.2.2.2.2.2) (α 30 a) (α 30 (a + 1)) (α 30 (a + 2))).2.2.2.2.1), (3, (pPlank q.1 (q.2.1, q.2.2.1, q.2.2.2.1, q.2.2.2.2.1, q.2.2.2.2.2.1, q.2.2.2.2.2.2) (α 30 a) (α 30 (a + 1)) (α 30 (a + 2))).2.2.2.2.2.1), (5, (pPlank q.1 (q.2.1, q.2.2.1, q.2.2.2.1, q.2.2.2.2.1, q.2.2.2.2.2.1, q.2.2.2.2.2.2) (α 30 a) (α 30 (a + 1)) (α 30 (a + 2))).2.2.2.2.2.2.1), (7, (pPlank q.1 (q.2.1, q.2.2.1, q.2.2.2.1, q.2.2.2.2.1, q.2.2.2.2.2.1, q.2.2.2.2.2.2) (α 30 a) (α 30 (a + 1)) (α 30 (a + 2))).2.2.2.2.2.2.2)]) z t0 ts)
        refine aw_go 3 rfl ⟨trivial, trivial, trivial, trivial⟩ ?_
        show aw_W _ _ _ _ (40, [some (.ref 0), some (.int 3), some (.int s), some (.int fr), some (.int (nI N)), some (.ref 41), some (.int (cm + 1)), some (.int ((nI k) + 1)), some (.int (nI a))], []) (ae_en (au σ [(1, nI (pPlank q.1 (q.2.1, q.2.2.1, q.2.2.2.1, q.2.2.2.2.1, q.2.2.2.2.2.1, q.2.2.2.2.2.2) (α 30 a) (α 30 (a + 1)) (α 30 (a + 2))).2.1)]) (au α [(0, (pPlank q.1 (q.2.1, q.2.2.1, q.2.2.2.1, q.2.2.2.2.1, q.2.2.2.2.2.1, q.2.2.2.2.2.2) (α 30 a) (α 30 (a + 1)) (α 30 (a + 2))).2.2.1), (1, (pPlank q.1 (q.2.1, q.2.2.1, q.2.2.2.1, q.2.2.2.2.1, q.2.2.2.2.2.1, q.2.2.2.2.2.2) (α 30 a) (α 30 (a + 1)) (α 30 (a + 2))).2.2.2.1), (2, (pPlank q.1 (q.2.1, q.2.2.1, q.2.2.2.1, q.2.2.2.2.1, q.2.2.2.2.2.1, q.2.2.2.2.2.2) (α 30 a) (α 30 (a + 1)) (α 30 (a + 2))).2.2.2.2.1), (3, (pPlank q.1 (q.2.1, q.2.2.1, q.2.2.2.1, q.2.2.2.2.1, q.2.2.2.2.2.1, q.2.2.2.2.2.2) (α 30 a) (α 30 (a + 1)) (α 30 (a + 2))).2.2.2.2.2.1), (5, (pPlank q.1 (q.2.1, q.2.2.1, q.2.2.2.1, q.2.2.2.2.1, q.2.2.2.2.2.1, q.2.2.2.2.2.2) (α 30 a) (α 30 (a + 1)) (α 30 (a + 2))).2.2.2.2.2.2.1), (7, (pPlank q.1 (q.2.1, q.2.2.1, q.2.2.2.1, q.2.2.2.2.1, q.2.2.2.2.2.1, q.2.2.2.2.2.2) (α 30 a) (α 30 (a + 1)) (α 30 (a + 2))).2.2.2.2.2.2.2)]) z t0 ts)
        rw [show (nI k) + 1 = nI (k + 1) from (cI_add (a := k) (b := 1) rfl rfl)]
        exact lp_planks_3 (q := (pPlank q.1 q.2 (α 30 a) (α 30 (a + 1)) (α 30 (a + 2))).2) hm hm40 hN (pPlank_n hq) (k + 1) (by omega) (by rw [show N - (k + 1) = r by omega, ← hI2, if_neg h74])
    · skip
      have h53 := bI_f (Classical.not_not.mp h53)
      show aw_W _ _ _ _ (54, [some (.ref 0), some (.int 3), some (.int s), some (.int fr), some (.int (nI N)), some (.ref 41), some (.int cm), some (.int (nI k)), some (.int (fr + (3 * (nI k))))], []) (ae_en (au σ [(1, nI q.1)]) (au α [(0, q.2.1), (1, q.2.2.1), (2, q.2.2.2.1), (3, q.2.2.2.2.1), (5, q.2.2.2.2.2.1), (7, q.2.2.2.2.2.2)]) z t0 ts)
      rw [if_neg h53] at hI
      refine aw_go 1 rfl ⟨trivial, trivial⟩ ?_
      refine aw_ret rfl rfl trivial ?_
      rw [← hI]
      exact ⟨rfl, rfl⟩
termination_by N - k
decreasing_by all_goals omega
theorem ev_planks_3 {m n : Nat} {s fr x : Int32} {zd : Nat} (hn : (σ 1) = nI n) (hn10 : n ≤ 10) (hm : ¬ σ 24 = -1 → σ 25 = nI m) (hm40 : m ≤ 40) : aw_X P (zd + 3) 33 [.ref 0, .int 3, .int s, .int fr, .int x] (ae_en σ α z t0 ts) (fun r H => r = some (.int ((pPlanks (α 30) m (σ 24) s fr x (n, (α 0, α 1, α 2, α 3, α 5, α 7))).1)) ∧ H = (ae_en (au σ [(1, nI (pPlanks (α 30) m (σ 24) s fr x (n, (α 0, α 1, α 2, α 3, α 5, α 7))).2.1)]) (au α [(0, (pPlanks (α 30) m (σ 24) s fr x (n, (α 0, α 1, α 2, α 3, α 5, α 7))).2.2.1), (1, (pPlanks (α 30) m (σ 24) s fr x (n, (α 0, α 1, α 2, α 3, α 5, α 7))).2.2.2.1), (2, (pPlanks (α 30) m (σ 24) s fr x (n, (α 0, α 1, α 2, α 3, α 5, α 7))).2.2.2.2.1), (3, (pPlanks (α 30) m (σ 24) s fr x (n, (α 0, α 1, α 2, α 3, α 5, α 7))).2.2.2.2.2.1), (5, (pPlanks (α 30) m (σ 24) s fr x (n, (α 0, α 1, α 2, α 3, α 5, α 7))).2.2.2.2.2.2.1), (7, (pPlanks (α 30) m (σ 24) s fr x (n, (α 0, α 1, α 2, α 3, α 5, α 7))).2.2.2.2.2.2.2)]) z t0 ts)) := by
  refine aw_ev (cd := cd_Dried_planks) rfl rfl rfl ?_
  show aw_W _ _ _ _ (0, [some (.ref 0), some (.int 3), some (.int s), some (.int fr), some (.int x), none, none, none, none], []) (ae_en σ α z t0 ts)
  refine aw_go 1 rfl ⟨trivial, trivial⟩ ?_
  refine aw_callE rfl rfl (ev_Dried_isSheet (s := 3)) ?_
  show aw_W _ _ _ _ (2, [some (.ref 0), some (.int 3), some (.int s), some (.int fr), some (.int x), none, none, none, none], [.int (bI (iP 4 3))]) (ae_en σ α z t0 ts)
  refine aw_go 1 rfl ⟨trivial, trivial⟩ ?_
  refine aw_br (c := (bI (iP 4 3)) = 0) (fun h2 => ?_) (fun h2 => ?_)
  · skip
    have h2 := bI_f h2
    show aw_W _ _ _ _ (13, [some (.ref 0), some (.int 3), some (.int s), some (.int fr), some (.int x), none, none, none, none], []) (ae_en σ α z t0 ts)
    exact absurd h2 (by decide)
  · skip
    have h2 := bI_t h2
    show aw_W _ _ _ _ (3, [some (.ref 0), some (.int 3), some (.int s), some (.int fr), some (.int x), none, none, none, none], []) (ae_en σ α z t0 ts)
    refine aw_go 2 rfl ⟨trivial, trivial, trivial⟩ ?_
    refine aw_br (c := s < 0) (fun h4 => ?_) (fun h4 => ?_)
    · skip
      show aw_W _ _ _ _ (13, [some (.ref 0), some (.int 3), some (.int s), some (.int fr), some (.int x), none, none, none, none], []) (ae_en σ α z t0 ts)
      refine aw_go 1 rfl ⟨trivial, trivial⟩ ?_
      refine aw_ret rfl rfl trivial ?_
      rw [pPlanks, if_pos (Or.inl h4), ← hn]
      exact ⟨rfl, rfl⟩
    · skip
      show aw_W _ _ _ _ (5, [some (.ref 0), some (.int 3), some (.int s), some (.int fr), some (.int x), none, none, none, none], []) (ae_en σ α z t0 ts)
      refine aw_go 3 rfl ⟨trivial, trivial, trivial, trivial⟩ ?_
      refine aw_br (c := (2 : Int32) < s) (fun h7 => ?_) (fun h7 => ?_)
      · skip
        show aw_W _ _ _ _ (13, [some (.ref 0), some (.int 3), some (.int s), some (.int fr), some (.int x), none, none, none, none], []) (ae_en σ α z t0 ts)
        refine aw_go 1 rfl ⟨trivial, trivial⟩ ?_
        refine aw_ret rfl rfl trivial ?_
        rw [pPlanks, if_pos (Or.inr (Or.inl h7)), ← hn]
        exact ⟨rfl, rfl⟩
      · skip
        show aw_W _ _ _ _ (8, [some (.ref 0), some (.int 3), some (.int s), some (.int fr), some (.int x), none, none, none, none], []) (ae_en σ α z t0 ts)
        refine aw_go 2 rfl ⟨trivial, trivial, trivial⟩ ?_
        refine aw_br (c := x < 0) (fun h9 => ?_) (fun h9 => ?_)
        · skip
          show aw_W _ _ _ _ (13, [some (.ref 0), some (.int 3), some (.int s), some (.int fr), some (.int x), none, none, none, none], []) (ae_en σ α z t0 ts)
          refine aw_go 1 rfl ⟨trivial, trivial⟩ ?_
          refine aw_ret rfl rfl trivial ?_
          rw [pPlanks, if_pos (Or.inr (Or.inr (Or.inl h9))), ← hn]
          exact ⟨rfl, rfl⟩
        · skip
          show aw_W _ _ _ _ (10, [some (.ref 0), some (.int 3), some (.int s), some (.int fr), some (.int x), none, none, none, none], []) (ae_en σ α z t0 ts)
          refine aw_go 3 rfl ⟨trivial, trivial, trivial, trivial⟩ ?_
          refine aw_br (c := x ≤ 10) (fun h12 => ?_) (fun h12 => ?_)
          · skip
            show aw_W _ _ _ _ (15, [some (.ref 0), some (.int 3), some (.int s), some (.int fr), some (.int x), none, none, none, none], []) (ae_en σ α z t0 ts)
            obtain ⟨N, hN, rfl⟩ := nI_of2 (M := 10) (n := 10) rfl h9 h12
            refine aw_go 9 rfl ⟨trivial, trivial, trivial, (cI_in (a := 3) rfl (by omega) (by decide)), trivial, trivial, trivial, trivial, trivial, trivial⟩ ?_
            show aw_W _ _ _ _ (if (σ 24) = (-1) then 30 else 24, [some (.ref 0), some (.int 3), some (.int s), some (.int fr), some (.int (nI N)), some (.ref 41), none, none, none], []) (ae_en σ α z t0 ts)
            refine aw_br (c := (σ 24) = (-1)) (fun h23 => ?_) (fun h23 => ?_)
            · skip
              show aw_W _ _ _ _ (30, [some (.ref 0), some (.int 3), some (.int s), some (.int fr), some (.int (nI N)), some (.ref 41), none, none, none], []) (ae_en σ α z t0 ts)
              refine aw_go 4 rfl ⟨trivial, trivial, trivial, trivial, trivial⟩ ?_
              show aw_W _ _ _ _ (if ¬ (σ 24) = (-1) then 36 else 34, [some (.ref 0), some (.int 3), some (.int s), some (.int fr), some (.int (nI N)), some (.ref 41), none, none, none], []) (ae_en σ α z t0 ts)
              refine aw_br (c := ¬ (σ 24) = (-1)) (fun h33 => ?_) (fun h33 => ?_)
              · skip
                show aw_W _ _ _ _ (36, [some (.ref 0), some (.int 3), some (.int s), some (.int fr), some (.int (nI N)), some (.ref 41), none, none, none], []) (ae_en σ α z t0 ts)
                exact absurd h23 h33
              · skip
                have h33 := Classical.not_not.mp h33
                show aw_W _ _ _ _ (34, [some (.ref 0), some (.int 3), some (.int s), some (.int fr), some (.int (nI N)), some (.ref 41), none, none, none], []) (ae_en σ α z t0 ts)
                refine aw_go 1 rfl ⟨trivial, trivial⟩ ?_
                refine aw_ret rfl rfl trivial ?_
                rw [pPlanks, if_neg (fun q => by rcases q with q | q | q | q; exact h4 q; exact Int32.not_lt.mpr (Int32.not_lt.mp h7) q; exact h9 q; exact Int32.not_lt.mpr h12 q), if_neg (fun q => q.1 h23), if_pos h23, ← hn]
                exact ⟨rfl, rfl⟩
            · skip
              show aw_W _ _ _ _ (24, [some (.ref 0), some (.int 3), some (.int s), some (.int fr), some (.int (nI N)), some (.ref 41), none, none, none], []) (ae_en σ α z t0 ts)
              refine aw_go 4 rfl ⟨trivial, trivial, trivial, trivial, trivial⟩ ?_
              show aw_W _ _ _ _ (if (σ 24) = s then 30 else 28, [some (.ref 0), some (.int 3), some (.int s), some (.int fr), some (.int (nI N)), some (.ref 41), none, none, none], []) (ae_en σ α z t0 ts)
              refine aw_br (c := (σ 24) = s) (fun h27 => ?_) (fun h27 => ?_)
              · skip
                show aw_W _ _ _ _ (30, [some (.ref 0), some (.int 3), some (.int s), some (.int fr), some (.int (nI N)), some (.ref 41), none, none, none], []) (ae_en σ α z t0 ts)
                refine aw_go 4 rfl ⟨trivial, trivial, trivial, trivial, trivial⟩ ?_
                show aw_W _ _ _ _ (if ¬ (σ 24) = (-1) then 36 else 34, [some (.ref 0), some (.int 3), some (.int s), some (.int fr), some (.int (nI N)), some (.ref 41), none, none, none], []) (ae_en σ α z t0 ts)
                refine aw_br (c := ¬ (σ 24) = (-1)) (fun h33 => ?_) (fun h33 => ?_)
                · skip
                  show aw_W _ _ _ _ (36, [some (.ref 0), some (.int 3), some (.int s), some (.int fr), some (.int (nI N)), some (.ref 41), none, none, none], []) (ae_en σ α z t0 ts)
                  refine aw_go 4 rfl ⟨trivial, trivial, trivial, trivial, trivial⟩ ?_
                  rw [pPlanks, if_neg (fun q => by rcases q with q | q | q | q; exact h4 q; exact Int32.not_lt.mpr (Int32.not_lt.mp h7) q; exact h9 q; exact Int32.not_lt.mpr h12 q), if_neg (fun q => q.2 h27), if_neg h23, nI_clamp (by omega)]
                  exact aw_to (lp_planks_3 (q := (n, (α 0, α 1, α 2, α 3, α 5, α 7))) (hm h23) hm40 hN hn10 0 (Nat.zero_le _) rfl) rfl (by rw [← hn]; rfl)
                · skip
                  have h33 := Classical.not_not.mp h33
                  show aw_W _ _ _ _ (34, [some (.ref 0), some (.int 3), some (.int s), some (.int fr), some (.int (nI N)), some (.ref 41), none, none, none], []) (ae_en σ α z t0 ts)
                  exact absurd h33 h23
              · skip
                show aw_W _ _ _ _ (28, [some (.ref 0), some (.int 3), some (.int s), some (.int fr), some (.int (nI N)), some (.ref 41), none, none, none], []) (ae_en σ α z t0 ts)
                refine aw_go 1 rfl ⟨trivial, trivial⟩ ?_
                refine aw_ret rfl rfl trivial ?_
                rw [pPlanks, if_neg (fun q => by rcases q with q | q | q | q; exact h4 q; exact Int32.not_lt.mpr (Int32.not_lt.mp h7) q; exact h9 q; exact Int32.not_lt.mpr h12 q), if_pos ⟨h23, h27⟩, ← hn]
                exact ⟨rfl, rfl⟩
          · skip
            show aw_W _ _ _ _ (13, [some (.ref 0), some (.int 3), some (.int s), some (.int fr), some (.int x), none, none, none, none], []) (ae_en σ α z t0 ts)
            refine aw_go 1 rfl ⟨trivial, trivial⟩ ?_
            refine aw_ret rfl rfl trivial ?_
            rw [pPlanks, if_pos (Or.inr (Or.inr (Or.inr (Int32.not_le.mp h12)))), ← hn]
            exact ⟨rfl, rfl⟩
theorem ev_Reader_append {s : Nat} {b : Int32} {zd : Nat} (hs : (σ 11) = nI s) (h160 : s < 160) : aw_X P (zd + 1) 68 [.ref 19, .int b] (ae_en σ α z t0 ts) (fun r H => r = none ∧ H = (ae_en (au σ [(11, nI (s + 1))]) (au α [(16, upd (α 16) s b.toInt8.toInt32)]) z t0 ts)) := by
  refine aw_ev (cd := cd_Reader_append) rfl rfl rfl ?_
  show aw_W _ _ _ _ (0, [some (.ref 19), some (.int b)], []) (ae_en σ α z t0 ts)
  refine aw_go 4 rfl ⟨trivial, trivial, trivial, trivial, trivial⟩ ?_
  show aw_W _ _ _ _ (if (160 : Int32) ≤ (σ 11) then 16 else 4, [some (.ref 19), some (.int b)], []) (ae_en σ α z t0 ts)
  refine aw_br (c := (160 : Int32) ≤ (σ 11)) (fun h3 => ?_) (fun h3 => ?_)
  · skip
    have h3 := cI_leT (a := 160) (b := s) rfl hs (by omega) (by omega) h3
    show aw_W _ _ _ _ (16, [some (.ref 19), some (.int b)], []) (ae_en σ α z t0 ts)
    exact absurd h3 (by omega)
  · skip
    have h3 := cI_leF (a := 160) (b := s) rfl hs (by omega) (by omega) h3
    show aw_W _ _ _ _ (4, [some (.ref 19), some (.int b)], []) (ae_en σ α z t0 ts)
    refine aw_go 12 rfl ⟨trivial, trivial, trivial, trivial, trivial, (cI_in (a := s) hs (by omega) (by decide)), trivial, trivial, trivial, trivial, trivial, trivial, trivial⟩ ?_
    show aw_W _ _ _ _ (16, [some (.ref 19), some (.int b)], []) (ae_en (au σ [(11, (σ 11) + 1)]) (au α [(16, upd (α 16) (σ 11).toNatClampNeg b.toInt8.toInt32)]) z t0 ts)
    rw [show (σ 11).toNatClampNeg = s from cI_cl (a := s) hs (by omega)]
    rw [show (σ 11) + 1 = nI (s + 1) from cI_add hs rfl]
    refine aw_ret rfl rfl trivial ?_
    exact ⟨rfl, rfl⟩
theorem ev_feed_bad {x : Int32} {zz : Int64} {zd : Nat} (hx : ¬ (1 ≤ x ∧ x ≤ 8)) : ae_Ev P (zd + 1) 8 [.ref 0, .int x, .long zz] (ae_en σ α z t0 ts) (some (.int (-2))) (ae_en σ α z t0 ts) := by
  refine aw_evE (cd := cd_Dried_feed) rfl rfl rfl ?_
  show aw_W _ _ _ _ (0, [some (.ref 0), some (.int x), some (.long zz), none, none], []) (ae_en σ α z t0 ts)
  refine aw_go 3 rfl ⟨trivial, trivial, trivial, trivial⟩ ?_
  refine aw_br (c := x < 1) (fun h2 => ?_) (fun h2 => ?_)
  · skip
    show aw_W _ _ _ _ (6, [some (.ref 0), some (.int x), some (.long zz), none, none], []) (ae_en σ α z t0 ts)
    refine aw_go 1 rfl ⟨trivial, trivial⟩ ?_
    refine aw_ret rfl rfl trivial ?_
    refine ⟨?_, rfl⟩
    rfl
  · skip
    show aw_W _ _ _ _ (3, [some (.ref 0), some (.int x), some (.long zz), none, none], []) (ae_en σ α z t0 ts)
    refine aw_go 3 rfl ⟨trivial, trivial, trivial, trivial⟩ ?_
    refine aw_br (c := x ≤ 8) (fun h5 => ?_) (fun h5 => ?_)
    · skip
      show aw_W _ _ _ _ (8, [some (.ref 0), some (.int x), some (.long zz), none, none], []) (ae_en σ α z t0 ts)
      exact absurd ⟨Int32.not_lt.mp h2, h5⟩ hx
    · skip
      show aw_W _ _ _ _ (6, [some (.ref 0), some (.int x), some (.long zz), none, none], []) (ae_en σ α z t0 ts)
      refine aw_go 1 rfl ⟨trivial, trivial⟩ ?_
      refine aw_ret rfl rfl trivial ?_
      refine ⟨?_, rfl⟩
      rfl
theorem ev_feed_full {N s : Nat} {zz : Int64} {zd : Nat} (hs : (σ 11) = nI s) (hs160 : s ≤ 160) (hN1 : 1 ≤ N) (hN8 : N ≤ 8) (hf : 160 < s + N) : ae_Ev P (zd + 1) 8 [.ref 0, .int (nI N), .long zz] (ae_en σ α z t0 ts) (some (.int (-4))) (ae_en σ α z t0 ts) := by
  refine aw_evE (cd := cd_Dried_feed) rfl rfl rfl ?_
  show aw_W _ _ _ _ (0, [some (.ref 0), some (.int (nI N)), some (.long zz), none, none], []) (ae_en σ α z t0 ts)
  refine aw_go 3 rfl ⟨trivial, trivial, trivial, trivial⟩ ?_
  refine aw_br (c := (nI N) < 1) (fun h2 => ?_) (fun h2 => ?_)
  · skip
    have h2 := cI_ltT (a := N) (b := 1) rfl rfl (by omega) (by omega) h2
    show aw_W _ _ _ _ (6, [some (.ref 0), some (.int (nI N)), some (.long zz), none, none], []) (ae_en σ α z t0 ts)
    exact absurd h2 (by omega)
  · skip
    have h2 := cI_ltF (a := N) (b := 1) rfl rfl (by omega) (by omega) h2
    show aw_W _ _ _ _ (3, [some (.ref 0), some (.int (nI N)), some (.long zz), none, none], []) (ae_en σ α z t0 ts)
    refine aw_go 3 rfl ⟨trivial, trivial, trivial, trivial⟩ ?_
    refine aw_br (c := (nI N) ≤ 8) (fun h5 => ?_) (fun h5 => ?_)
    · skip
      have h5 := cI_leT (a := N) (b := 8) rfl rfl (by omega) (by omega) h5
      show aw_W _ _ _ _ (8, [some (.ref 0), some (.int (nI N)), some (.long zz), none, none], []) (ae_en σ α z t0 ts)
      refine aw_go 7 rfl ⟨trivial, trivial, trivial, trivial, trivial, trivial, trivial, trivial⟩ ?_
      show aw_W _ _ _ _ (if (nI N) ≤ (160 - (σ 11)) then 17 else 15, [some (.ref 0), some (.int (nI N)), some (.long zz), none, none], []) (ae_en σ α z t0 ts)
      refine aw_br (c := (nI N) ≤ (160 - (σ 11))) (fun h14 => ?_) (fun h14 => ?_)
      · skip
        have h14 := cI_leT (a := N) (b := 160 - s) rfl (cI_sub (a := 160) (b := s) rfl hs (by omega)) (by omega) (by omega) h14
        show aw_W _ _ _ _ (17, [some (.ref 0), some (.int (nI N)), some (.long zz), none, none], []) (ae_en σ α z t0 ts)
        exact absurd h14 (by omega)
      · skip
        have h14 := cI_leF (a := N) (b := 160 - s) rfl (cI_sub (a := 160) (b := s) rfl hs (by omega)) (by omega) (by omega) h14
        show aw_W _ _ _ _ (15, [some (.ref 0), some (.int (nI N)), some (.long zz), none, none], []) (ae_en σ α z t0 ts)
        refine aw_go 1 rfl ⟨trivial, trivial⟩ ?_
        refine aw_ret rfl rfl trivial ?_
        refine ⟨?_, rfl⟩
        rfl
    · skip
      have h5 := cI_leF (a := N) (b := 8) rfl rfl (by omega) (by omega) h5
      show aw_W _ _ _ _ (6, [some (.ref 0), some (.int (nI N)), some (.long zz), none, none], []) (ae_en σ α z t0 ts)
      exact absurd h5 (by omega)
theorem lp_feed {zd : Nat} {N s : Nat} {zz : Int64} (hf : s + N ≤ 160) (hN8 : N ≤ 8) (k : Nat) (hk : k ≤ N) : aw_W P (zd + 1) cd_Dried_feed (fun r H => r = some (.int (nI (s + N))) ∧ H = (ae_en (au σ [(11, nI (s + N))]) (au α [(16, fdR (α 16) zz s N)]) z t0 ts)) (19, [some (.ref 0), some (.int (nI N)), some (.long zz), none, some (.int (nI k))], []) (ae_en (au σ [(11, nI (s + k))]) (au α [(16, fdR (α 16) zz s k)]) z t0 ts) := by
  refine aw_go 3 rfl ⟨trivial, trivial, trivial, trivial⟩ ?_
  refine aw_br (c := (nI N) ≤ (nI k)) (fun h21 => ?_) (fun h21 => ?_)
  · skip
    have h21 := cI_leT (a := N) (b := k) rfl rfl (by omega) (by omega) h21
    show aw_W _ _ _ _ (34, [some (.ref 0), some (.int (nI N)), some (.long zz), none, some (.int (nI k))], []) (ae_en (au σ [(11, nI (s + k))]) (au α [(16, fdR (α 16) zz s k)]) z t0 ts)
    have e8 : k = N := by omega
    refine aw_go 3 rfl ⟨trivial, trivial, trivial, trivial⟩ ?_
    show aw_W _ _ _ _ (37, [some (.ref 0), some (.int (nI N)), some (.long zz), none, some (.int (nI k))], [.int (nI (s + k))]) (ae_en (au σ [(11, nI (s + k))]) (au α [(16, fdR (α 16) zz s k)]) z t0 ts)
    refine aw_ret rfl rfl trivial ?_
    rw [e8]
    exact ⟨rfl, rfl⟩
  · skip
    have h21 := cI_leF (a := N) (b := k) rfl rfl (by omega) (by omega) h21
    show aw_W _ _ _ _ (22, [some (.ref 0), some (.int (nI N)), some (.long zz), none, some (.int (nI k))], []) (ae_en (au σ [(11, nI (s + k))]) (au α [(16, fdR (α 16) zz s k)]) z t0 ts)
    refine aw_go 9 rfl ⟨trivial, trivial, trivial, trivial, trivial, trivial, trivial, trivial, trivial, trivial⟩ ?_
    show aw_W _ _ _ _ (31, [some (.ref 0), some (.int (nI N)), some (.long zz), none, some (.int (nI k))], [.int ((((zz.toUInt64 >>> ((8 * (nI k)).toInt64.toUInt64 &&& Int64.toUInt64 63)).toInt64).toInt32).toInt8.toInt32), .ref 19]) (ae_en (au σ [(11, nI (s + k))]) (au α [(16, fdR (α 16) zz s k)]) z t0 ts)
    refine aw_call rfl rfl (ev_Reader_append (b := ((((zz.toUInt64 >>> ((8 * (nI k)).toInt64.toUInt64 &&& Int64.toUInt64 63)).toInt64).toInt32).toInt8.toInt32)) rfl (by omega)) ?_
    rintro _ _ ⟨rfl, rfl⟩
    show aw_W _ _ _ _ (32, [some (.ref 0), some (.int (nI N)), some (.long zz), none, some (.int (nI k))], []) (ae_en (au σ [(11, nI ((s + k) + 1))]) (au α [(16, upd (fdR (α 16) zz s k) (s + k) ((((zz.toUInt64 >>> ((8 * (nI k)).toInt64.toUInt64 &&& Int64.toUInt64 63)).toInt64).toInt32).toInt8.toInt32).toInt8.toInt32)]) z t0 ts)
    refine aw_go 2 rfl ⟨trivial, trivial, trivial⟩ ?_
    show aw_W _ _ _ _ (19, [some (.ref 0), some (.int (nI N)), some (.long zz), none, some (.int ((nI k) + 1))], []) (ae_en (au σ [(11, nI ((s + k) + 1))]) (au α [(16, upd (fdR (α 16) zz s k) (s + k) ((((zz.toUInt64 >>> ((8 * (nI k)).toInt64.toUInt64 &&& Int64.toUInt64 63)).toInt64).toInt32).toInt8.toInt32).toInt8.toInt32)]) z t0 ts)
    rw [show (nI k) + 1 = nI (k + 1) from (cI_add (a := k) (b := 1) rfl rfl)]
    rw [b2]
    exact lp_feed hf hN8 (k + 1) (by omega)
termination_by N - k
decreasing_by all_goals omega
theorem ev_Dried_feed {N s : Nat} {zz : Int64} {zd : Nat} (hs : (σ 11) = nI s) (hs160 : s ≤ 160) (hN1 : 1 ≤ N) (hN8 : N ≤ 8) (hf : s + N ≤ 160) : aw_X P (zd + 2) 8 [.ref 0, .int (nI N), .long zz] (ae_en σ α z t0 ts) (fun r H => r = some (.int (nI (s + N))) ∧ H = (ae_en (au σ [(11, nI (s + N))]) (au α [(16, fdR (α 16) zz s N)]) z t0 ts)) := by
  refine aw_ev (cd := cd_Dried_feed) rfl rfl rfl ?_
  show aw_W _ _ _ _ (0, [some (.ref 0), some (.int (nI N)), some (.long zz), none, none], []) (ae_en σ α z t0 ts)
  refine aw_go 3 rfl ⟨trivial, trivial, trivial, trivial⟩ ?_
  refine aw_br (c := (nI N) < 1) (fun h2 => ?_) (fun h2 => ?_)
  · skip
    have h2 := cI_ltT (a := N) (b := 1) rfl rfl (by omega) (by omega) h2
    show aw_W _ _ _ _ (6, [some (.ref 0), some (.int (nI N)), some (.long zz), none, none], []) (ae_en σ α z t0 ts)
    exact absurd h2 (by omega)
  · skip
    have h2 := cI_ltF (a := N) (b := 1) rfl rfl (by omega) (by omega) h2
    show aw_W _ _ _ _ (3, [some (.ref 0), some (.int (nI N)), some (.long zz), none, none], []) (ae_en σ α z t0 ts)
    refine aw_go 3 rfl ⟨trivial, trivial, trivial, trivial⟩ ?_
    refine aw_br (c := (nI N) ≤ 8) (fun h5 => ?_) (fun h5 => ?_)
    · skip
      have h5 := cI_leT (a := N) (b := 8) rfl rfl (by omega) (by omega) h5
      show aw_W _ _ _ _ (8, [some (.ref 0), some (.int (nI N)), some (.long zz), none, none], []) (ae_en σ α z t0 ts)
      refine aw_go 7 rfl ⟨trivial, trivial, trivial, trivial, trivial, trivial, trivial, trivial⟩ ?_
      show aw_W _ _ _ _ (if (nI N) ≤ (160 - (σ 11)) then 17 else 15, [some (.ref 0), some (.int (nI N)), some (.long zz), none, none], []) (ae_en σ α z t0 ts)
      refine aw_br (c := (nI N) ≤ (160 - (σ 11))) (fun h14 => ?_) (fun h14 => ?_)
      · skip
        have h14 := cI_leT (a := N) (b := 160 - s) rfl (cI_sub (a := 160) (b := s) rfl hs (by omega)) (by omega) (by omega) h14
        show aw_W _ _ _ _ (17, [some (.ref 0), some (.int (nI N)), some (.long zz), none, none], []) (ae_en σ α z t0 ts)
        refine aw_go 2 rfl ⟨trivial, trivial, trivial⟩ ?_
        exact aw_to (lp_feed hf hN8 0 (Nat.zero_le _)) rfl (by show ae_en σ α z t0 ts = ae_en (au σ [(11, nI (s + 0))]) (au α [(16, α 16)]) z t0 ts; rw [Nat.add_zero, ← hs]; rfl)
      · skip
        have h14 := cI_leF (a := N) (b := 160 - s) rfl (cI_sub (a := 160) (b := s) rfl hs (by omega)) (by omega) (by omega) h14
        show aw_W _ _ _ _ (15, [some (.ref 0), some (.int (nI N)), some (.long zz), none, none], []) (ae_en σ α z t0 ts)
        exact absurd h14 (by omega)
    · skip
      have h5 := cI_leF (a := N) (b := 8) rfl rfl (by omega) (by omega) h5
      show aw_W _ _ _ _ (6, [some (.ref 0), some (.int (nI N)), some (.long zz), none, none], []) (ae_en σ α z t0 ts)
      exact absurd h5 (by omega)
end L32
