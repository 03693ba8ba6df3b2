/-! sheets that are none -/
section L69
variable {P : ae_P} {σ : Nat → Int32} {α : Nat → Nat → Int32} {z : Int64} {t0 : ae_T} {ts : List ae_T}

theorem ev_sheet_bad {c s n : Int32} {zd : Nat} (hc : ¬ iP 4 c) : ae_Ev P (zd + 2) 30 [.ref 0, .int c, .int s, .int n] (ae_en σ α z t0 ts) (some (.int (-2))) (ae_en σ α z t0 ts) := by
  refine aw_evE (cd := cd_Dried_sheet) rfl rfl rfl ?_
  show aw_W _ _ _ _ (0, [some (.ref 0), some (.int c), some (.int s), some (.int n)], []) (ae_en σ α z t0 ts)
  refine aw_go 1 rfl ⟨trivial, trivial⟩ ?_
  refine aw_callE rfl rfl (ev_Dried_isSheet (s := c)) ?_
  show aw_W _ _ _ _ (2, [some (.ref 0), some (.int c), some (.int s), some (.int n)], [.int (bI (iP 4 c))]) (ae_en σ α z t0 ts)
  refine aw_top (x2 := 0) (bI_0 hc).symm ?_
  refine aw_go 1 rfl ⟨trivial, trivial⟩ ?_
  refine aw_br (c := (0 : Int32) = 0) (fun h2 => ?_) (fun h2 => ?_)
  · skip
    have h2 := cI_eqT (a := 0) (b := 0) rfl rfl (by omega) (by omega) h2
    show aw_W _ _ _ _ (9, [some (.ref 0), some (.int c), some (.int s), some (.int n)], []) (ae_en σ α z t0 ts)
    refine aw_go 1 rfl ⟨trivial, trivial⟩ ?_
    refine aw_ret rfl rfl trivial ?_
    refine ⟨?_, rfl⟩
    rfl
  · skip
    have h2 := cI_eqF (a := 0) (b := 0) rfl rfl (by omega) (by omega) h2
    show aw_W _ _ _ _ (3, [some (.ref 0), some (.int c), some (.int s), some (.int n)], []) (ae_en σ α z t0 ts)
    exact absurd h2 (by decide)
theorem ev_cell_bad {c i v : Int32} {zd : Nat} (hc : ¬ iP 4 c) : ae_Ev P (zd + 2) 31 [.ref 0, .int c, .int i, .int v] (ae_en σ α z t0 ts) (some (.int (-2))) (ae_en σ α z t0 ts) := by
  refine aw_evE (cd := cd_Dried_cell) rfl rfl rfl ?_
  show aw_W _ _ _ _ (0, [some (.ref 0), some (.int c), some (.int i), some (.int v), none], []) (ae_en σ α z t0 ts)
  refine aw_go 1 rfl ⟨trivial, trivial⟩ ?_
  refine aw_callE rfl rfl (ev_Dried_isSheet (s := c)) ?_
  show aw_W _ _ _ _ (2, [some (.ref 0), some (.int c), some (.int i), some (.int v), none], [.int (bI (iP 4 c))]) (ae_en σ α z t0 ts)
  refine aw_top (x2 := 0) (bI_0 hc).symm ?_
  refine aw_go 1 rfl ⟨trivial, trivial⟩ ?_
  refine aw_br (c := ¬ (0 : Int32) = 0) (fun h2 => ?_) (fun h2 => ?_)
  · skip
    have h2 := cI_eqF (a := 0) (b := 0) rfl rfl (by omega) (by omega) h2
    show aw_W _ _ _ _ (5, [some (.ref 0), some (.int c), some (.int i), some (.int v), none], []) (ae_en σ α z t0 ts)
    exact absurd h2 (by decide)
  · skip
    have h2 := Classical.not_not.mp h2
    have h2 := cI_eqT (a := 0) (b := 0) rfl rfl (by omega) (by omega) h2
    show aw_W _ _ _ _ (3, [some (.ref 0), some (.int c), some (.int i), some (.int v), none], []) (ae_en σ α z t0 ts)
    refine aw_go 1 rfl ⟨trivial, trivial⟩ ?_
    refine aw_ret rfl rfl trivial ?_
    refine ⟨?_, rfl⟩
    rfl
theorem ev_planks_bad {c s fr x : Int32} {zd : Nat} (hc : ¬ iP 4 c) : ae_Ev P (zd + 2) 33 [.ref 0, .int c, .int s, .int fr, .int x] (ae_en σ α z t0 ts) (some (.int (-2))) (ae_en σ α z t0 ts) := by
  refine aw_evE (cd := cd_Dried_planks) rfl rfl rfl ?_
  show aw_W _ _ _ _ (0, [some (.ref 0), some (.int c), some (.int s), some (.int fr), some (.int x), none, none, none, none], []) (ae_en σ α z t0 ts)
  refine aw_go 1 rfl ⟨trivial, trivial⟩ ?_
  refine aw_callE rfl rfl (ev_Dried_isSheet (s := c)) ?_
  show aw_W _ _ _ _ (2, [some (.ref 0), some (.int c), some (.int s), some (.int fr), some (.int x), none, none, none, none], [.int (bI (iP 4 c))]) (ae_en σ α z t0 ts)
  refine aw_top (x2 := 0) (bI_0 hc).symm ?_
  refine aw_go 1 rfl ⟨trivial, trivial⟩ ?_
  refine aw_br (c := (0 : Int32) = 0) (fun h2 => ?_) (fun h2 => ?_)
  · skip
    have h2 := cI_eqT (a := 0) (b := 0) rfl rfl (by omega) (by omega) h2
    show aw_W _ _ _ _ (13, [some (.ref 0), some (.int c), some (.int s), some (.int fr), some (.int x), none, none, none, none], []) (ae_en σ α z t0 ts)
    refine aw_go 1 rfl ⟨trivial, trivial⟩ ?_
    refine aw_ret rfl rfl trivial ?_
    refine ⟨?_, rfl⟩
    rfl
  · skip
    have h2 := cI_eqF (a := 0) (b := 0) rfl rfl (by omega) (by omega) h2
    show aw_W _ _ _ _ (3, [some (.ref 0), some (.int c), some (.int s), some (.int fr), some (.int x), none, none, none, none], []) (ae_en σ α z t0 ts)
    exact absurd h2 (by decide)
theorem ev_copy_bad {c i o j n : Int32} {zd : Nat} (hc : ¬ iP 4 c ∨ ¬ iP 4 o) : ae_Ev P (zd + 2) 32 [.ref 0, .int c, .int i, .int o, .int j, .int n] (ae_en σ α z t0 ts) (some (.int (-2))) (ae_en σ α z t0 ts) := by
  refine aw_evE (cd := cd_Dried_copy) rfl rfl rfl ?_
  show aw_W _ _ _ _ (0, [some (.ref 0), some (.int c), some (.int i), some (.int o), some (.int j), some (.int n), none, none], []) (ae_en σ α z t0 ts)
  refine aw_go 1 rfl ⟨trivial, trivial⟩ ?_
  refine aw_callE rfl rfl (ev_Dried_isSheet (s := c)) ?_
  show aw_W _ _ _ _ (2, [some (.ref 0), some (.int c), some (.int i), some (.int o), some (.int j), some (.int n), none, none], [.int (bI (iP 4 c))]) (ae_en σ α z t0 ts)
  refine aw_go 1 rfl ⟨trivial, trivial⟩ ?_
  refine aw_br (c := (bI (iP 4 c)) = 0) (fun h2 => ?_) (fun h2 => ?_)
  · skip
    have h2 := bI_f h2
    show aw_W _ _ _ _ (6, [some (.ref 0), some (.int c), some (.int i), some (.int o), some (.int j), some (.int n), none, none], []) (ae_en σ α z t0 ts)
    refine aw_go 1 rfl ⟨trivial, trivial⟩ ?_
    refine aw_ret rfl rfl trivial ?_
    refine ⟨?_, rfl⟩
    rfl
  · skip
    have h2 := bI_t h2
    show aw_W _ _ _ _ (3, [some (.ref 0), some (.int c), some (.int i), some (.int o), some (.int j), some (.int n), none, none], []) (ae_en σ α z t0 ts)
    refine aw_go 1 rfl ⟨trivial, trivial⟩ ?_
    refine aw_callE rfl rfl (ev_Dried_isSheet (s := o)) ?_
    show aw_W _ _ _ _ (5, [some (.ref 0), some (.int c), some (.int i), some (.int o), some (.int j), some (.int n), none, none], [.int (bI (iP 4 o))]) (ae_en σ α z t0 ts)
    refine aw_go 1 rfl ⟨trivial, trivial⟩ ?_
    refine aw_br (c := ¬ (bI (iP 4 o)) = 0) (fun h5 => ?_) (fun h5 => ?_)
    · skip
      have h5 := bI_t h5
      show aw_W _ _ _ _ (8, [some (.ref 0), some (.int c), some (.int i), some (.int o), some (.int j), some (.int n), none, none], []) (ae_en σ α z t0 ts)
      exact absurd h5 (hc.resolve_left (fun q => q h2))
    · skip
      have h5 := bI_f (Classical.not_not.mp h5)
      show aw_W _ _ _ _ (6, [some (.ref 0), some (.int c), some (.int i), some (.int o), some (.int j), some (.int n), none, none], []) (ae_en σ α z t0 ts)
      refine aw_go 1 rfl ⟨trivial, trivial⟩ ?_
      refine aw_ret rfl rfl trivial ?_
      refine ⟨?_, rfl⟩
      rfl
theorem em_sheet_bad {c s n : Int32} {zd : Nat} (hc : ¬ iP 4 c) : ae_Ev P (zd + 3) 173 [.ref 46, .int c, .int s, .int n] (ae_en σ α z t0 ts) (some (.int (-2))) (ae_en σ α z t0 ts) := by
  refine aw_evE (cd := cd_Model_sheet) rfl rfl rfl ?_
  show aw_W _ _ _ _ (0, [some (.ref 46), some (.int c), some (.int s), some (.int n), none], []) (ae_en σ α z t0 ts)
  refine aw_go 1 rfl ⟨trivial, trivial⟩ ?_
  refine aw_callE rfl rfl (ev_Model_isSheet (s := c)) ?_
  show aw_W _ _ _ _ (2, [some (.ref 46), some (.int c), some (.int s), some (.int n), none], [.int (bI (iP 4 c))]) (ae_en σ α z t0 ts)
  refine aw_top (x2 := 0) (bI_0 hc).symm ?_
  refine aw_go 1 rfl ⟨trivial, trivial⟩ ?_
  refine aw_br (c := (0 : Int32) = 0) (fun h2 => ?_) (fun h2 => ?_)
  · skip
    have h2 := cI_eqT (a := 0) (b := 0) rfl rfl (by omega) (by omega) h2
    show aw_W _ _ _ _ (8, [some (.ref 46), some (.int c), some (.int s), some (.int n), none], []) (ae_en σ α z t0 ts)
    refine aw_go 1 rfl ⟨trivial, trivial⟩ ?_
    refine aw_ret rfl rfl trivial ?_
    refine ⟨?_, rfl⟩
    rfl
  · skip
    have h2 := cI_eqF (a := 0) (b := 0) rfl rfl (by omega) (by omega) h2
    show aw_W _ _ _ _ (3, [some (.ref 46), some (.int c), some (.int s), some (.int n), none], []) (ae_en σ α z t0 ts)
    exact absurd h2 (by decide)
theorem em_cell_bad {c i v : Int32} {zd : Nat} (hc : ¬ iP 4 c) : ae_Ev P (zd + 3) 174 [.ref 46, .int c, .int i, .int v] (ae_en σ α z t0 ts) (some (.int (-2))) (ae_en σ α z t0 ts) := by
  refine aw_evE (cd := cd_Model_cell) rfl rfl rfl ?_
  show aw_W _ _ _ _ (0, [some (.ref 46), some (.int c), some (.int i), some (.int v)], []) (ae_en σ α z t0 ts)
  refine aw_go 1 rfl ⟨trivial, trivial⟩ ?_
  refine aw_callE rfl rfl (ev_Model_isSheet (s := c)) ?_
  show aw_W _ _ _ _ (2, [some (.ref 46), some (.int c), some (.int i), some (.int v)], [.int (bI (iP 4 c))]) (ae_en σ α z t0 ts)
  refine aw_top (x2 := 0) (bI_0 hc).symm ?_
  refine aw_go 1 rfl ⟨trivial, trivial⟩ ?_
  refine aw_br (c := ¬ (0 : Int32) = 0) (fun h2 => ?_) (fun h2 => ?_)
  · skip
    have h2 := cI_eqF (a := 0) (b := 0) rfl rfl (by omega) (by omega) h2
    show aw_W _ _ _ _ (5, [some (.ref 46), some (.int c), some (.int i), some (.int v)], []) (ae_en σ α z t0 ts)
    exact absurd h2 (by decide)
  · skip
    have h2 := Classical.not_not.mp h2
    have h2 := cI_eqT (a := 0) (b := 0) rfl rfl (by omega) (by omega) h2
    show aw_W _ _ _ _ (3, [some (.ref 46), some (.int c), some (.int i), some (.int v)], []) (ae_en σ α z t0 ts)
    refine aw_go 1 rfl ⟨trivial, trivial⟩ ?_
    refine aw_ret rfl rfl trivial ?_
    refine ⟨?_, rfl⟩
    rfl
theorem em_planks_bad {c s fr x : Int32} {zd : Nat} (hc : ¬ iP 4 c) : ae_Ev P (zd + 3) 176 [.ref 46, .int c, .int s, .int fr, .int x] (ae_en σ α z t0 ts) (some (.int (-2))) (ae_en σ α z t0 ts) := by
  refine aw_evE (cd := cd_Model_planks) rfl rfl rfl ?_
  show aw_W _ _ _ _ (0, [some (.ref 46), some (.int c), some (.int s), some (.int fr), some (.int x), none, none, none, none, none], []) (ae_en σ α z t0 ts)
  refine aw_go 1 rfl ⟨trivial, trivial⟩ ?_
  refine aw_callE rfl rfl (ev_Model_isSheet (s := c)) ?_
  show aw_W _ _ _ _ (2, [some (.ref 46), some (.int c), some (.int s), some (.int fr), some (.int x), none, none, none, none, none], [.int (bI (iP 4 c))]) (ae_en σ α z t0 ts)
  refine aw_top (x2 := 0) (bI_0 hc).symm ?_
  refine aw_go 1 rfl ⟨trivial, trivial⟩ ?_
  refine aw_br (c := (0 : Int32) = 0) (fun h2 => ?_) (fun h2 => ?_)
  · skip
    have h2 := cI_eqT (a := 0) (b := 0) rfl rfl (by omega) (by omega) h2
    show aw_W _ _ _ _ (13, [some (.ref 46), some (.int c), some (.int s), some (.int fr), some (.int x), none, none, none, none, none], []) (ae_en σ α z t0 ts)
    refine aw_go 1 rfl ⟨trivial, trivial⟩ ?_
    refine aw_ret rfl rfl trivial ?_
    refine ⟨?_, rfl⟩
    rfl
  · skip
    have h2 := cI_eqF (a := 0) (b := 0) rfl rfl (by omega) (by omega) h2
    show aw_W _ _ _ _ (3, [some (.ref 46), some (.int c), some (.int s), some (.int fr), some (.int x), none, none, none, none, none], []) (ae_en σ α z t0 ts)
    exact absurd h2 (by decide)
theorem em_copy_bad {c i o j n : Int32} {zd : Nat} (hc : ¬ iP 4 c ∨ ¬ iP 4 o) : ae_Ev P (zd + 3) 175 [.ref 46, .int c, .int i, .int o, .int j, .int n] (ae_en σ α z t0 ts) (some (.int (-2))) (ae_en σ α z t0 ts) := by
  refine aw_evE (cd := cd_Model_copy) rfl rfl rfl ?_
  show aw_W _ _ _ _ (0, [some (.ref 46), some (.int c), some (.int i), some (.int o), some (.int j), some (.int n), none], []) (ae_en σ α z t0 ts)
  refine aw_go 1 rfl ⟨trivial, trivial⟩ ?_
  refine aw_callE rfl rfl (ev_Model_isSheet (s := c)) ?_
  show aw_W _ _ _ _ (2, [some (.ref 46), some (.int c), some (.int i), some (.int o), some (.int j), some (.int n), none], [.int (bI (iP 4 c))]) (ae_en σ α z t0 ts)
  refine aw_go 1 rfl ⟨trivial, trivial⟩ ?_
  refine aw_br (c := (bI (iP 4 c)) = 0) (fun h2 => ?_) (fun h2 => ?_)
  · skip
    have h2 := bI_f h2
    show aw_W _ _ _ _ (6, [some (.ref 46), some (.int c), some (.int i), some (.int o), some (.int j), some (.int n), none], []) (ae_en σ α z t0 ts)
    refine aw_go 1 rfl ⟨trivial, trivial⟩ ?_
    refine aw_ret rfl rfl trivial ?_
    refine ⟨?_, rfl⟩
    rfl
  · skip
    have h2 := bI_t h2
    show aw_W _ _ _ _ (3, [some (.ref 46), some (.int c), some (.int i), some (.int o), some (.int j), some (.int n), none], []) (ae_en σ α z t0 ts)
    refine aw_go 1 rfl ⟨trivial, trivial⟩ ?_
    refine aw_callE rfl rfl (ev_Model_isSheet (s := o)) ?_
    show aw_W _ _ _ _ (5, [some (.ref 46), some (.int c), some (.int i), some (.int o), some (.int j), some (.int n), none], [.int (bI (iP 4 o))]) (ae_en σ α z t0 ts)
    refine aw_go 1 rfl ⟨trivial, trivial⟩ ?_
    refine aw_br (c := ¬ (bI (iP 4 o)) = 0) (fun h5 => ?_) (fun h5 => ?_)
    · skip
      have h5 := bI_t h5
      show aw_W _ _ _ _ (8, [some (.ref 46), some (.int c), some (.int i), some (.int o), some (.int j), some (.int n), none], []) (ae_en σ α z t0 ts)
      exact absurd h5 (hc.resolve_left (fun q => q h2))
    · skip
      have h5 := bI_f (Classical.not_not.mp h5)
      show aw_W _ _ _ _ (6, [some (.ref 46), some (.int c), some (.int i), some (.int o), some (.int j), some (.int n), none], []) (ae_en σ α z t0 ts)
      refine aw_go 1 rfl ⟨trivial, trivial⟩ ?_
      refine aw_ret rfl rfl trivial ?_
      refine ⟨?_, rfl⟩
      rfl
end L69
