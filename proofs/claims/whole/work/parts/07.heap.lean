/-! steps that read or write the heap -/
section AEH
variable {g : ae_G} {p : Program} {l : Launch} {e : Env} {R : Room} {s : State} {m : MethodId} {args : Array Value} {below : List Frame} {meth : Method} {c : Code} {Q : State → Prop} {cc : ByteArray} {nL o n0 z0 : Nat} {cd : List ae_I} {k pc len n1 n2 i : Nat} {L L' : List (Option Value)} {S S' : List Value} {H H' : ae_H} {G : Prop} {st' : ae_S} {v : Value}
theorem as_swt {x : Int32} {d : Nat} : ∀ (cs : List (Int32 × Nat)), (∃ (j : Nat) (t : Nat), cs[j]? = some (x, t) ∧ ae_swt x d cs = t) ∨ ((∀ q ∈ cs, ¬ q.1 = x) ∧ ae_swt x d cs = d)
  | [] => Or.inr ⟨fun q h => absurd h List.not_mem_nil, rfl⟩
  | (v, t) :: cs => by
    by_cases hx : x = v
    · exact Or.inl ⟨0, t, by rw [hx]; rfl, by rw [ae_swt, if_pos hx]⟩
    · rcases as_swt (d := d) cs with ⟨j, t2, h1, h2⟩ | ⟨h1, h2⟩
      · exact Or.inl ⟨j + 1, t2, by simpa using h1, by rw [ae_swt, if_neg hx]; exact h2⟩
      · refine Or.inr ⟨fun q hq => ?_, by rw [ae_swt, if_neg hx]; exact h2⟩
        rcases List.mem_cons.mp hq with rfl | hq
        · exact fun e => hx e.symm
        · exact h1 q hq
theorem as_swi {cs : List (Int32 × Nat)} {d : Nat} (hrow : ∀ (Hc : Heap) (locs : List Loc) (cells slots : Nat) (ls : Array Slot) (rest : List Value) (x : Int32), W p l e R s m args below meth c Hc locs cells slots Q (F0 m (ae_pc cd (ae_swt x d cs)) ls rest) → W p l e R s m args below meth c Hc locs cells slots Q (F0 m pc ls (.int x :: rest))) (hk : ae_pc cd k = pc) (h : ae_swi L S H d cs = some (.inl (G, st', H')))
    (kk : ae_WA g p l e R s m args below meth c Q nL n0 z0 cd st' H') : ae_WA g p l e R s m args below meth c Q nL n0 z0 cd (k, L, S) H := by
  unfold ae_swi ae_nx at h
  split at h
  · cases h
    refine as_row (fun Hc locs cells slots ls hl kk => ?_) kk
    rw [hk]
    exact hrow _ _ _ _ _ _ _ (kk ls hl)
  · cases h
theorem as_ifn {t f : Nat} (hrow : ∀ (Hc : Heap) (locs : List Loc) (cells slots : Nat) (ls : Array Slot) (rest : List Value) (x : Nat), W p l e R s m args below meth c Hc locs cells slots Q (F0 m (ae_pc cd f) ls rest) → W p l e R s m args below meth c Hc locs cells slots Q (F0 m pc ls (.ref x :: rest)))
    (hrowN : ∀ (Hc : Heap) (locs : List Loc) (cells slots : Nat) (ls : Array Slot) (rest : List Value), W p l e R s m args below meth c Hc locs cells slots Q (F0 m (ae_pc cd t) ls rest) → W p l e R s m args below meth c Hc locs cells slots Q (F0 m pc ls (.null :: rest))) (hk : ae_pc cd k = pc) (h : ae_ifn L S H t f = some (.inl (G, st', H')))
    (kk : ae_WA g p l e R s m args below meth c Q nL n0 z0 cd st' H') : ae_WA g p l e R s m args below meth c Q nL n0 z0 cd (k, L, S) H := by
  unfold ae_ifn ae_nx at h
  split at h
  · cases h
    refine as_row (fun Hc locs cells slots ls hl kk => ?_) kk
    rw [hk]
    exact hrow _ _ _ _ _ _ _ (kk ls hl)
  · cases h
    refine as_row (fun Hc locs cells slots ls hl kk => ?_) kk
    rw [hk]
    exact hrowN _ _ _ _ _ _ (kk ls hl)
  · cases h
theorem as_dup (hx : p.tables.exec = Jvm.exec) (hb : c.code = cc) (hd : decode cc pc = .ok (.dup, 1)) (hk : ae_pc cd k = pc) (hn : ae_pc cd (k + 1) = pc + 1) (h : ae_dup k L S H = some (.inl (G, st', H')))
    (kk : ae_WA g p l e R s m args below meth c Q nL n0 z0 cd st' H') : ae_WA g p l e R s m args below meth c Q nL n0 z0 cd (k, L, S) H := by
  unfold ae_dup ae_nx at h
  split at h
  · next w r =>
    split at h
    · next hc =>
      cases h
      refine as_row (fun Hc locs cells slots ls hl kk => ?_) kk
      rw [hk]
      have := kk ls hl
      rw [hn] at this
      exact lv_dup hx hb hd (by rw [ae_cv_cat]; exact ae_beq hc) this
    · cases h
  · cases h
theorem as_pop (hx : p.tables.exec = Jvm.exec) (hb : c.code = cc) (hd : decode cc pc = .ok (.pop, 1)) (hk : ae_pc cd k = pc) (hn : ae_pc cd (k + 1) = pc + 1) (h : ae_pop k L S H = some (.inl (G, st', H')))
    (kk : ae_WA g p l e R s m args below meth c Q nL n0 z0 cd st' H') : ae_WA g p l e R s m args below meth c Q nL n0 z0 cd (k, L, S) H := by
  unfold ae_pop ae_nx at h
  split at h
  · next w r =>
    split at h
    · next hc =>
      cases h
      refine as_row (fun Hc locs cells slots ls hl kk => ?_) kk
      rw [hk]
      have := kk ls hl
      rw [hn] at this
      exact lv_pop (va := ae_cv g w) hx hb hd (by rw [ae_cv_cat]; exact ae_beq hc) this
    · cases h
  · cases h
theorem as_dup2 (hx : p.tables.exec = Jvm.exec) (hb : c.code = cc) (hd : decode cc pc = .ok (.dup2, 1)) (hk : ae_pc cd k = pc) (hn : ae_pc cd (k + 1) = pc + 1) (h : ae_dup2 k L S H = some (.inl (G, st', H')))
    (kk : ae_WA g p l e R s m args below meth c Q nL n0 z0 cd st' H') : ae_WA g p l e R s m args below meth c Q nL n0 z0 cd (k, L, S) H := by
  unfold ae_dup2 ae_nx at h
  split at h
  · next w w2 r =>
    split at h
    · next hc hc2 =>
      cases h
      refine as_row (fun Hc locs cells slots ls hl kk => ?_) kk
      rw [hk]
      have := kk ls hl
      rw [hn] at this
      exact lv_dup2_11 hx hb hd (by rw [ae_cv_cat]; exact ae_beq hc) (by rw [ae_cv_cat]; exact ae_beq hc2) this
    · cases h
  · cases h
theorem as_i2l (hx : p.tables.exec = Jvm.exec) (hb : c.code = cc) (hd : decode cc pc = .ok (.i2l, 1)) (hk : ae_pc cd k = pc) (hn : ae_pc cd (k + 1) = pc + 1) (h : ae_i2l k L S H = some (.inl (G, st', H')))
    (kk : ae_WA g p l e R s m args below meth c Q nL n0 z0 cd st' H') : ae_WA g p l e R s m args below meth c Q nL n0 z0 cd (k, L, S) H := by
  unfold ae_i2l ae_nx at h
  split at h
  · cases h
    refine as_row (fun Hc locs cells slots ls hl kk => ?_) kk
    rw [hk]
    have := kk ls hl
    rw [hn] at this
    exact lv_i2l hx hb hd rfl this
  · cases h
theorem as_l2i (hx : p.tables.exec = Jvm.exec) (hb : c.code = cc) (hd : decode cc pc = .ok (.l2i, 1)) (hk : ae_pc cd k = pc) (hn : ae_pc cd (k + 1) = pc + 1) (h : ae_l2i k L S H = some (.inl (G, st', H')))
    (kk : ae_WA g p l e R s m args below meth c Q nL n0 z0 cd st' H') : ae_WA g p l e R s m args below meth c Q nL n0 z0 cd (k, L, S) H := by
  unfold ae_l2i ae_nx at h
  split at h
  · cases h
    refine as_row (fun Hc locs cells slots ls hl kk => ?_) kk
    rw [hk]
    have := kk ls hl
    rw [hn] at this
    exact lv_l2i hx hb hd rfl this
  · cases h
theorem as_lcmp (hx : p.tables.exec = Jvm.exec) (hb : c.code = cc) (hd : decode cc pc = .ok (.lcmp, 1)) (hk : ae_pc cd k = pc) (hn : ae_pc cd (k + 1) = pc + 1) (h : ae_lcmp k L S H = some (.inl (G, st', H')))
    (kk : ae_WA g p l e R s m args below meth c Q nL n0 z0 cd st' H') : ae_WA g p l e R s m args below meth c Q nL n0 z0 cd (k, L, S) H := by
  unfold ae_lcmp ae_nx at h
  split at h
  · cases h
    refine as_row (fun Hc locs cells slots ls hl kk => ?_) kk
    rw [hk]
    have := kk ls hl
    rw [hn] at this
    exact W.lcmp hx hb hd this
  · cases h
theorem ae_FT_at {q : Nat × Nat × Nat × Nat} (h : q ∈ ae_FT) : (∃ (C : String) (T : u_T) (N : Nat), ae_cl[q.2.2.1]? = some (C, T, N) ∧ q.2.2.2 < N ∧ (T q.2.2.2).1 = C) ∨ (ae_cl[q.2.2.1]? = none ∧ q.2.2.1 = 20 ∧ q.2.2.2 < 2) := by
  have a := List.all_eq_true.mp ae_FTok q h
  split at a
  · next C T N hq =>
    simp only [Bool.and_eq_true, decide_eq_true_eq] at a
    exact Or.inl ⟨C, T, N, hq, Nat.blt_eq ▸ a.1, a.2⟩
  · next hq =>
    simp only [Bool.and_eq_true] at a
    exact Or.inr ⟨hq, ae_beq a.1, Nat.blt_eq ▸ a.2⟩
theorem as_gf (X : ae_cx g p s m args c cc nL o) (hq : (o, i, n1, n2) ∈ ae_FT) (hd : decode cc pc = .ok (.getfield i, 3)) (hk : ae_pc cd k = pc) (hn : ae_pc cd (k + 1) = pc + 3) (h : ae_gf k L S H n1 n2 = some (.inl (G, st', H')))
    (kk : ae_WA g p l e R s m args below meth c Q nL n0 z0 cd st' H') : ae_WA g p l e R s m args below meth c Q nL n0 z0 cd (k, L, S) H := by
  obtain ⟨hx, hb, hml, hown, hts, hE⟩ := X
  have hw := hts _ (ae_inF hq)
  unfold ae_gf ae_nx at h
  split at h
  · next a r =>
    split at h
    · next ci fs he =>
      split at h
      · next v hci hv =>
        cases h
        have hci := ae_beq hci
        subst hci
        intro Hc locs ls hS hL hl
        have hP := ae_SM_P hS he
        rcases ae_FT_at hq with ⟨C, T, N, hc, hk2, hT⟩ | ⟨hc, -, -⟩
        · have this := kk Hc locs ls hS hL hl
          simp only [hn] at this
          simp only [hk]
          simp only [ae_fw, hc] at hw
          refine va_get (D := g.2.2.1) (cl := ae_cl) (tys := ae_tys g) (q0 := 0) (ci := ci) (v := ae_cv g v) (C := C) (T := T) (N := N) (ref := C) (fs := fs.map (ae_cv g)) hx hb hts (ae_inO hc) hown hE.1 hP rfl hc n2 hk2 hw (fun y hy => by rw [hT] at hy; exact hy) ?_ hd this
          rw [ae_get_eq] at hv
          rw [List.getElem?_map, hv]
          rfl
        · exfalso
          obtain ⟨r0, h1, -⟩ := ae_SM_at hS he
          rw [hc] at h1
          cases h1
      · cases h
    · cases h
  · next a r =>
    have key : ∀ (w : Value), (∀ (Hc : Heap), ae_SM g Hc H → a < 13 → va_OF "java/lang/String" (if n2 = 0 then "value" else "coder") (if n2 = 0 then "[B" else "B") (ae_cv g w) (g.2.2.2.2.1 a) (ae_A g) s g.2.1) → a < 13 → n1 = 20 → some ((.inl (True, (k + 1, L, w :: r), H)) : ae_R) = some (.inl (G, st', H')) → ae_WA g p l e R s m args below meth c Q nL n0 z0 cd (k, L, .retAddr a :: r) H := by
      intro w hOF ha h20 h
      cases h
      intro Hc locs ls hS hL hl
      have this := kk Hc locs ls hS hL hl
      simp only [hn] at this
      simp only [hk]
      rcases ae_FT_at hq with ⟨C, T, N, hc, hk2, hT⟩ | ⟨hc, -, hn2⟩
      · exfalso
        have := ae_cl_len hc
        simp only [h20] at this
        omega
      · obtain ⟨cf, kf, fi, f, cell, f1, f2, f3, f4, f5, f6⟩ := hOF Hc hS ha
        have hlt : g.2.2.2.2.1 a < g.1 := Nat.not_le.mp f6
        simp only [ae_fw, hc] at hw
        refine W.getf hx hb (own := ae_cn o) (ref := "java/lang/String") (name := if n2 = 0 then "value" else "coder") (desc := if n2 = 0 then "[B" else "B") (index := i) hown ?_ f1 f2 (by rw [hS.2.2 _ hlt]; exact f3) f4 (v := ae_cv g w) f5 rfl rfl hd this
        split at hw
        · next h0 => rw [if_pos h0, if_pos h0]; exact hw
        · next h0 => rw [if_neg h0, if_neg h0]; exact hw
    split at h
    · next hh =>
      simp only [Bool.and_eq_true] at hh
      have ha : a < 13 := Nat.blt_eq ▸ hh.2
      exact key (.retAddr (100 + a)) (fun _ _ _ => (hE.2.2.2.2.2.2.1 a ha).2.2) ha (ae_beq hh.1) h
    · next hh =>
      simp only [Bool.and_eq_true] at hh
      have ha : a < 13 := Nat.blt_eq ▸ hh.2
      exact key (.int 0) (fun _ _ _ => (hE.2.2.2.2.2.2.1 a ha).2.1) ha (ae_beq hh.1) h
    · cases h
  · cases h
theorem ae_okv_spec {ty : FieldType} {v : Value} {G : Prop} (h : ae_okv ty v = some G) (hG : G) : narrow ty (ae_cv g v) = ae_cv g v ∧ fits ty (ae_cv g v) = true := by
  unfold ae_okv at h
  split at h <;> cases h
  · exact ⟨rfl, rfl⟩
  · rcases hG with rfl | rfl <;> exact ⟨rfl, rfl⟩
  all_goals exact ⟨rfl, rfl⟩
theorem as_pf (X : ae_cx g p s m args c cc nL o) (hq : (o, i, n1, n2) ∈ ae_FT) (hfin : ∀ (C : String) (T : u_T) (N : Nat), ae_cl[n1]? = some (C, T, N) → (T n2).2.2.2 = true → meth.name = "<init>" ∧ (T n2).1 = ae_cn o) (hd : decode cc pc = .ok (.putfield i, 3)) (hk : ae_pc cd k = pc) (hn : ae_pc cd (k + 1) = pc + 3) (h : ae_pf k L S H n1 n2 = some (.inl (G, st', H'))) (hG : G)
    (kk : ae_WA g p l e R s m args below meth c Q nL n0 z0 cd st' H') : ae_WA g p l e R s m args below meth c Q nL n0 z0 cd (k, L, S) H := by
  obtain ⟨hx, hb, hml, hown, hts, hE⟩ := X
  have hw := hts _ (ae_inF hq)
  unfold ae_pf ae_ng at h
  split at h
  · next v a r =>
    split at h
    · next ci fs he =>
      split at h
      · next G1 hci hfl hok =>
        cases h
        have hci := ae_beq hci
        subst hci
        have hfl : n2 < fs.length := Nat.blt_eq ▸ hfl
        obtain ⟨hnar, hfit⟩ := ae_okv_spec (g := g) hok hG
        intro Hc locs ls hS hL hl
        obtain ⟨⟨C, T, N⟩, hc, cell, q1, q2, q3, q4⟩ := ae_SM_at hS he
        rcases ae_FT_at hq with ⟨C', T', N', hc', hk2, hT⟩ | ⟨hc', -, -⟩
        · cases hc.symm.trans hc'
          obtain ⟨hpar, hnm, -, -⟩ := ae_cl_spec hc
          have hin := ae_inO hc
          have hap := va_apart (own := ae_cn o) hts hin (ae_fty ci) hpar hnm hE.1 hc
          obtain ⟨hSl, hfc, kC, hkC, hkind⟩ := hE.1.1 ci _ hc
          obtain ⟨cf, kf, fi, f, hi, hsl⟩ := hSl n2 hk2
          have hlay := hts _ (hin _ (u_in_lay hk2))
          have hst := (u_facts hfc hkC (u_lays hts hin hk2) hi).1
          simp only [ae_fw, hc] at hw
          have hi' : s.fieldFound? C (T n2).2.1 (T n2).2.2.1 = some (cf, kf, fi, f) := by rw [hT] at hi; exact hi
          have hend : ∀ (H1 : Heap) (locs1 : List Loc), H1[g.1 + a]? = some (cell.setSlot f.slot (ae_cv g v)) → H1.size = Hc.size → (∀ q : Nat, q ≠ g.1 + a → H1[q]? = Hc[q]?) → (∀ q ∈ locs1, g.1 ≤ q.base) → W p l e R s m args below meth c H1 locs1 (H.length - n0) (ae_sz H - z0) Q (F0 m (pc + 3) ls (r.map (ae_cv g))) := by
            intro H1 locs1 e1 e2 e3 hL1
            rw [hsl] at e1
            have he' : H[a]? = some (.inr (ci, fs)) := by rw [← ae_get_eq]; exact he
            have hS1 : ae_SM g H1 (H.set a (.inr (ci, fs.set n2 v))) := by
              refine ae_SM_set hS he' e2 ⟨_, hc, ?_⟩ e3
              show t_OB (g.1 + a) (g.2.2.1.1 ci) N (g.2.2.1.2 ci) H1 (vp_V ((fs.set n2 v).map (ae_cv g)))
              rw [List.map_set]
              exact t_OB.to (V := updV (vp_V (fs.map (ae_cv g))) n2 (ae_cv g v)) ⟨_, e1, q2, q3, t_set q4 hap hk2 (ae_cv g v)⟩ (fun j _ => vp_updV_set (by rw [List.length_map]; exact hfl) (ae_cv g v) j)
            have this := kk H1 locs1 ls hS1 hL1 hl
            simp only [hn] at this
            rw [List.length_set, ae_sz_set he' (by simp [ae_sz1])] at this
            exact this
          have hLs : ∀ q ∈ locs ++ [(⟨g.1 + a, f.slot⟩ : Loc)], g.1 ≤ q.base := fun q hq => by
            rcases List.mem_append.mp hq with hq | hq
            · exact hL q hq
            · rw [List.mem_singleton.mp hq]; exact Nat.le_add_right _ _
          simp only [hk]
          by_cases hf : (T n2).2.2.2 = true
          · unfold u_lay at hlay
            rw [if_pos hf] at hlay
            obtain ⟨hini, hdecl⟩ := hfin C T N hc hf
            have hcf : m.cls = cf := by
              obtain ⟨_, _, c', _, _, _, -, -, hf', -, -, -, hown2, -⟩ := Cond.laysFinal_spec hlay
              have e1 : c' = cf := by have := hi.symm.trans hf'; simp at this; exact this.1.symm
              rw [hdecl] at hown2
              rw [← e1]; exact Option.some.inj (hown.symm.trans hown2)
            have h6 := u_fits hfc hkC hkind (Or.inr hlay) hi (hpar n2 hk2) hnar hfit
            exact W.putFinK hx hb hown hw hi' hst hcf hini (by rw [q2]; exact h6) q1 q3 (by rw [hsl]; exact k2_hasslot (q4 n2 hk2)) rfl rfl hd fun H1 e1 e2 e3 => hend H1 _ e1 e2 e3 hLs
          · unfold u_lay at hlay
            rw [if_neg hf] at hlay
            have h6 := u_store hfc hkC hkind hlay hi (hpar n2 hk2) hnar hfit
            exact W.putK hx hb (f := f) ⟨hown, hw, ⟨_, _, _, hi'⟩, hst⟩ (by rw [q2]; exact h6) q1 q3 (by rw [hsl]; exact k2_hasslot (q4 n2 hk2)) rfl rfl hd fun H1 e1 e2 e3 => hend H1 _ e1 e2 e3 hLs
        · rw [hc] at hc'; cases hc'
      · cases h
    · cases h
  · cases h
end AEH
