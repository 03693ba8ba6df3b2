/-! steps over rows; new objects and rows -/
section AER
variable {g : ae_G} {p : Program} {l : Launch} {e : Env} {R : Room} {s : State} {m : MethodId} {args : Array Value} {below : List Frame} {meth : Method} {c : Code} {Q : State → Prop} {cc : ByteArray} {nL o n0 z0 : Nat} {cd : List ae_I} {k pc len n1 n2 i : Nat} {L L' : List (Option Value)} {S S' : List Value} {H H' : ae_H} {G : Prop} {st' : ae_S} {v : Value}
theorem ae_gets_row (X : ae_cx g p s m args c cc nL o) {C n d : String} {v : Value} {Hc : Heap} {locs : List Loc} {cells slots : Nat} {ls : Array Slot} {rest : List Value} (hZ : va_Z C n d v (ae_A g) s g.2.1) (hS : ae_SM g Hc H) (hw : (Cond.fieldLink (ae_cn o) i C n d).before args s = true) (hd : decode cc pc = .ok (.getstatic i, 3))
    (kk : W p l e R s m args below meth c Hc locs cells slots Q (F0 m (pc + 3) ls (v :: rest))) : W p l e R s m args below meth c Hc locs cells slots Q (F0 m pc ls rest) := by
  obtain ⟨hx, hb, hml, hown, hts, hE⟩ := X
  obtain ⟨cf, kf, fi, f, a, cell, h1, h2, h3, h4, h5, h6, h7, h8⟩ := hZ
  exact W.gets hx hb hown hw h1 h2 h3 h4 (by rw [hS.2.2 a (Nat.not_le.mp h8)]; exact h5) (fun e => by rw [e] at h6; cases h6) h7 rfl hd kk
theorem as_gs (X : ae_cx g p s m args c cc nL o) (hq : (o, i, n1) ∈ ae_ST) (hd : decode cc pc = .ok (.getstatic i, 3)) (hk : ae_pc cd k = pc) (hn : ae_pc cd (k + 1) = pc + 3) (h : ae_gs k L S H g.2.2.2.2.2 n1 = some (.inl (G, st', H')))
    (kk : ae_WA g p l e R s m args below meth c Q nL n0 z0 cd st' H') : ae_WA g p l e R s m args below meth c Q nL n0 z0 cd (k, L, S) H := by
  have hE := X.2.2.2.2.2
  have hw := X.2.2.2.2.1 _ (ae_inK3 hq)
  unfold ae_gs ae_nx at h
  split at h
  · cases h
    intro Hc locs ls hS hL hl
    have this := kk Hc locs ls hS hL hl
    simp only [hn] at this
    simp only [hk]
    exact ae_gets_row X hE.2.2.2.2.2.2.2.1 hS hw hd this
  · cases h
    intro Hc locs ls hS hL hl
    have this := kk Hc locs ls hS hL hl
    simp only [hn] at this
    simp only [hk]
    exact ae_gets_row X hE.2.2.2.2.2.2.2.2.1 hS hw hd this
  · cases h
    intro Hc locs ls hS hL hl
    have this := kk Hc locs ls hS hL hl
    simp only [hn] at this
    simp only [hk]
    exact ae_gets_row X hE.2.2.2.2.2.2.2.2.2.1 hS hw hd this
  · cases h
theorem ae_xa_row {t n a : Nat} {f : Nat → Int32} {Hc : Heap} (hE : ae_E g s) (hS : ae_SM g Hc H) (h : ae_xa g.2.2.2.2.2 a = some (t, n, f)) : ∃ cell : Cell, Hc[g.2.2.2.2.1 a]? = some cell ∧ s.isArrayOf cell (ae_ty t) ∧ cell.vm ≠ .unknown ∧ n ≤ cell.slots.size ∧ cell.slots.size.toInt32 = Int32.ofNat n ∧ ∀ j : Nat, j < n → cell.slots[j]? = some (.int (f j)) := by
  obtain ⟨cell, h1, h2, h3, h4, h5, h6, h7⟩ := hE.2.2.2.2.2.1 a t n f h
  exact ⟨cell, by rw [hS.2.2 _ (Nat.not_le.mp h7)]; exact h1, h2, h3, h4, h5, h6⟩
theorem ae_in_lt {i : Int32} {n N : Nat} (h : vp_in i n) (hN : n ≤ N) : i.toNatClampNeg < n ∧ ¬ (i < 0 ∨ N ≤ i.toNatClampNeg) := by
  have a : i.toNatClampNeg < n := Nat.not_le.mp fun q => h (Or.inr q)
  exact ⟨a, fun q => q.elim (fun q => h (Or.inl q)) (fun q => by omega)⟩
theorem as_iald (X : ae_cx g p s m args c cc nL o) (hd : decode cc pc = .ok (.iaload, 1)) (hk : ae_pc cd k = pc) (hn : ae_pc cd (k + 1) = pc + 1) (h : ae_iald k L S H g.2.2.2.2.2 0 = some (.inl (G, st', H'))) (hG : G)
    (kk : ae_WA g p l e R s m args below meth c Q nL n0 z0 cd st' H') : ae_WA g p l e R s m args below meth c Q nL n0 z0 cd (k, L, S) H := by
  obtain ⟨hx, hb, hml, hown, hts, hE⟩ := X
  unfold ae_iald ae_ng at h
  split at h
  · split at h
    · next t n f he =>
      split at h
      · next ht =>
        cases h
        have ht := ae_beq ht
        subst ht
        intro Hc locs ls hS hL hl
        have this := kk Hc locs ls hS hL hl
        simp only [hn] at this
        simp only [hk]
        exact va_iald (D := g.2.2.1) (cl := ae_cl) (tys := ae_tys g) hx hb hE.1 (ae_SM_P hS he) 0 0 rfl rfl hG hd this
      · cases h
    · cases h
  · split at h
    · next t n f he =>
      split at h
      · next ht =>
        cases h
        have ht := ae_beq ht
        subst ht
        intro Hc locs ls hS hL hl
        have this := kk Hc locs ls hS hL hl
        simp only [hn] at this
        simp only [hk]
        obtain ⟨cell, q1, q2, q3, q4, q5, q6⟩ := ae_xa_row hE hS he
        obtain ⟨a1, a2⟩ := ae_in_lt hG q4
        exact W.iald hx hb q1 q2 q3 a2 (q6 _ a1) rfl rfl hd this
      · cases h
    · cases h
  · cases h
theorem as_bald (X : ae_cx g p s m args c cc nL o) (hd : decode cc pc = .ok (.baload, 1)) (hk : ae_pc cd k = pc) (hn : ae_pc cd (k + 1) = pc + 1) (h : ae_iald k L S H g.2.2.2.2.2 1 = some (.inl (G, st', H'))) (hG : G)
    (kk : ae_WA g p l e R s m args below meth c Q nL n0 z0 cd st' H') : ae_WA g p l e R s m args below meth c Q nL n0 z0 cd (k, L, S) H := by
  obtain ⟨hx, hb, hml, hown, hts, hE⟩ := X
  unfold ae_iald ae_ng at h
  split at h
  · split at h
    · next t n f he =>
      split at h
      · next ht =>
        cases h
        have ht := ae_beq ht
        subst ht
        intro Hc locs ls hS hL hl
        have this := kk Hc locs ls hS hL hl
        simp only [hn] at this
        simp only [hk]
        exact va_bald (D := g.2.2.1) (cl := ae_cl) (tys := ae_tys g) hx hb hE.1 (ae_SM_P hS he) 0 1 rfl rfl hG hd this
      · cases h
    · cases h
  · split at h
    · next t n f he =>
      split at h
      · next ht =>
        cases h
        have ht := ae_beq ht
        subst ht
        intro Hc locs ls hS hL hl
        have this := kk Hc locs ls hS hL hl
        simp only [hn] at this
        simp only [hk]
        obtain ⟨cell, q1, q2, q3, q4, q5, q6⟩ := ae_xa_row hE hS he
        obtain ⟨a1, a2⟩ := ae_in_lt hG q4
        exact W.bald hx hb q1 q2 q3 a2 (q6 _ a1) rfl rfl hd this
      · cases h
    · cases h
  · cases h
theorem ae_locs {locs : List Loc} {a j : Nat} (hL : ∀ q ∈ locs, g.1 ≤ q.base) : ∀ q ∈ locs ++ [(⟨g.1 + a, j⟩ : Loc)], g.1 ≤ q.base := fun q hq => by
  rcases List.mem_append.mp hq with hq | hq
  · exact hL q hq
  · rw [List.mem_singleton.mp hq]; exact Nat.le_add_right _ _
theorem ae_set_end {a : Nat} {e0 e1 : va_E} {Hc H1 : Heap} {locs1 : List Loc} {ls : Array Slot} {r : List Value} (kk : ae_WA g p l e R s m args below meth c Q nL n0 z0 cd (k, L, r) (H.set a e1)) (hS : ae_SM g Hc H) (he : ae_get H a = some e0) (hsz : ae_sz1 e0 = ae_sz1 e1) (hz : H1.size = Hc.size) (hat : va_at g.2.2.1 ae_cl (g.1 + a, ae_ce g e1) H1) (oq : ∀ q : Nat, q ≠ g.1 + a → H1[q]? = Hc[q]?) (hL : ∀ q ∈ locs1, g.1 ≤ q.base) (hl : lv_has ls nL (ae_lp g 0 L)) :
    W p l e R s m args below meth c H1 locs1 (H.length - n0) (ae_sz H - z0) Q (F0 m (ae_pc cd k) ls (r.map (ae_cv g))) := by
  rw [ae_get_eq] at he
  have this := kk H1 locs1 ls (ae_SM_set hS he hz hat oq) hL hl
  rw [List.length_set, ae_sz_set he hsz] at this
  exact this
theorem as_iast (X : ae_cx g p s m args c cc nL o) (hd : decode cc pc = .ok (.iastore, 1)) (hk : ae_pc cd k = pc) (hn : ae_pc cd (k + 1) = pc + 1) (h : ae_iast k L S H = some (.inl (G, st', H'))) (hG : G)
    (kk : ae_WA g p l e R s m args below meth c Q nL n0 z0 cd st' H') : ae_WA g p l e R s m args below meth c Q nL n0 z0 cd (k, L, S) H := by
  obtain ⟨hx, hb, hml, hown, hts, hE⟩ := X
  unfold ae_iast ae_ng at h
  split at h
  · next x i a r =>
    split at h
    · next n f he =>
      cases h
      intro Hc locs ls hS hL hl
      simp only [hk]
      refine W.iast hx hb (ae_SM_at hS he) ((hE.1.2 0 _ rfl).1 n (fun j => .int (f j))) (fun q => by cases q) (by show ¬ (i < 0 ∨ (arrV _ _ _).slots.size ≤ _); rw [arrV_size]; exact hG) rfl rfl hd fun H1 e1 z oq => ?_
      have this := ae_set_end (locs1 := locs ++ [⟨g.1 + a, i.toNatClampNeg⟩]) kk hS he rfl z (show H1[g.1 + a]? = some (vp_cell _ _) by
        rw [e1]
        show some ((vp_cell _ (n, .inl f)).setSlot _ _) = some (vp_cell _ (n, .inl _))
        rw [vp_cell_i, vp_cell_i, arrV_store]
        congr 2
        funext q
        by_cases hq : q = i.toNatClampNeg
        · subst hq; simp [updV, upd]
        · simp [updV, upd, hq]) oq (ae_locs hL) hl
      rw [hn] at this
      exact this
    · cases h
  · cases h
theorem as_bast (X : ae_cx g p s m args c cc nL o) (hd : decode cc pc = .ok (.bastore, 1)) (hk : ae_pc cd k = pc) (hn : ae_pc cd (k + 1) = pc + 1) (h : ae_bast k L S H = some (.inl (G, st', H'))) (hG : G)
    (kk : ae_WA g p l e R s m args below meth c Q nL n0 z0 cd st' H') : ae_WA g p l e R s m args below meth c Q nL n0 z0 cd (k, L, S) H := by
  obtain ⟨hx, hb, hml, hown, hts, hE⟩ := X
  unfold ae_bast ae_ng at h
  split at h
  · next x i a r =>
    split at h
    · next n f he =>
      cases h
      intro Hc locs ls hS hL hl
      simp only [hk]
      refine W.bast hx hb (ae_SM_at hS he) ((hE.1.2 1 _ rfl).1 n (fun j => .int (f j))) (fun q => by cases q) (by show ¬ (i < 0 ∨ (arrV _ _ _).slots.size ≤ _); rw [arrV_size]; exact hG) rfl rfl hd fun H1 e1 z oq => ?_
      have this := ae_set_end (locs1 := locs ++ [⟨g.1 + a, i.toNatClampNeg⟩]) kk hS he rfl z (show H1[g.1 + a]? = some (vp_cell _ _) by
        rw [e1]
        show some ((vp_cell _ (n, .inl f)).setSlot _ _) = some (vp_cell _ (n, .inl _))
        rw [vp_cell_i, vp_cell_i, arrV_store]
        congr 2
        funext q
        by_cases hq : q = i.toNatClampNeg
        · subst hq; simp [updV, upd, narrow]
        · simp [updV, upd, hq]) oq (ae_locs hL) hl
      rw [hn] at this
      exact this
    · cases h
  · cases h
theorem ae_tyq {t : Nat} (h : (Nat.ble 2 t && Nat.ble t 3) = true) : (t = 2 ∨ t = 3) := by
  simp only [Bool.and_eq_true] at h
  have a := Nat.le_of_ble_eq_true h.1
  have b := Nat.le_of_ble_eq_true h.2
  omega
theorem ae_tyK {t : Nat} (hE : ae_E g s) (h : t = 2 ∨ t = 3) : ∃ (C : String) (T : u_T) (N : Nat), ae_cl[ae_ek t]? = some (C, T, N) ∧ ae_ty t = .object C ∧ ArrOfT s (g.2.2.2.1 t) (.object C) ∧ va_RA s (g.2.2.2.1 t) (.object C) := by
  rcases h with rfl | rfl
  · exact ⟨_, _, _, rfl, rfl, (hE.1.2 2 _ rfl).1, (hE.1.2 2 _ rfl).2⟩
  · exact ⟨_, _, _, rfl, rfl, (hE.1.2 3 _ rfl).1, (hE.1.2 3 _ rfl).2⟩
theorem as_aald (X : ae_cx g p s m args c cc nL o) (hd : decode cc pc = .ok (.aaload, 1)) (hk : ae_pc cd k = pc) (hn : ae_pc cd (k + 1) = pc + 1) (h : ae_aald k L S H = some (.inl (G, st', H'))) (hG : G)
    (kk : ae_WA g p l e R s m args below meth c Q nL n0 z0 cd st' H') : ae_WA g p l e R s m args below meth c Q nL n0 z0 cd (k, L, S) H := by
  obtain ⟨hx, hb, hml, hown, hts, hE⟩ := X
  unfold ae_aald ae_ng at h
  split at h
  · next i a r =>
    split at h
    · next t n f he =>
      split at h
      · next ht =>
        cases h
        obtain ⟨C, T, N, hc, -, hA, -⟩ := ae_tyK hE (ae_tyq ht)
        intro Hc locs ls hS hL hl
        have this := kk Hc locs ls hS hL hl
        simp only [hn] at this
        simp only [hk]
        obtain ⟨a1, a2⟩ := ae_in_lt hG (Nat.le_refl n)
        have e : ae_cv g (va_rf (f i.toNatClampNeg)) = va_rf ((f i.toNatClampNeg).map (g.1 + ·)) := by cases f i.toNatClampNeg <;> rfl
        rw [List.map_cons, e] at this
        exact W.aald (v := va_rf ((f i.toNatClampNeg).map (g.1 + ·))) (ty := .object C) hx hb (ae_SM_at hS he) (hA n (fun j => va_rf ((f j).map (g.1 + ·)))) rfl (fun q => by cases q) (by show ¬ (i < 0 ∨ (arrV _ _ _).slots.size ≤ _); rw [arrV_size]; exact a2) (by show (arrV _ _ _).slots[_]? = _; rw [arrV_read _ _ a1]) rfl rfl hd this
      · cases h
    · cases h
  · cases h
theorem as_aast (X : ae_cx g p s m args c cc nL o) (hd : decode cc pc = .ok (.aastore, 1)) (hk : ae_pc cd k = pc) (hn : ae_pc cd (k + 1) = pc + 1) (h : ae_aast k L S H = some (.inl (G, st', H'))) (hG : G)
    (kk : ae_WA g p l e R s m args below meth c Q nL n0 z0 cd st' H') : ae_WA g p l e R s m args below meth c Q nL n0 z0 cd (k, L, S) H := by
  obtain ⟨hx, hb, hml, hown, hts, hE⟩ := X
  unfold ae_aast ae_ng at h
  split at h
  · next x i a r =>
    split at h
    · next t n f he =>
      split at h
      · next ht hv =>
        cases h
        obtain ⟨C, T, N, hc, -, hA, hRA⟩ := ae_tyK hE (ae_tyq ht)
        have hv : (match ae_get H x with | some (.inr (ci, _)) => Nat.beq ci (ae_ek t) | _ => false) = true := hv
        split at hv
        · next ci vs hvs =>
          have hci := ae_beq hv
          subst hci
          intro Hc locs ls hS hL hl
          simp only [hk]
          obtain ⟨a1, a2⟩ := ae_in_lt hG (Nat.le_refl n)
          have h0 : ¬ i < 0 := fun q => hG (Or.inl q)
          obtain ⟨r', hr', cellV, g1, g2, g3, -⟩ := ae_SM_at hS hvs
          have hcls := (hE.1.1 _ _ hc).2
          obtain ⟨kA, comp, k1, k2, k3, -⟩ := hRA
          have hcomp : comp = g.2.2.1.1 (ae_ek t) := Option.some.inj (k3.symm.trans hcls.1)
          subst hcomp
          obtain ⟨kC, hkC, -⟩ := hcls.2
          refine W.aast hx hb (ae_SM_at hS he) (fun q h => by cases h) (fun h => by cases h) k1 k2 rfl hkC ⟨h0, by show _ < (arrV _ _ _).slots.size; rw [arrV_size]; exact a1⟩ g1 (fun q h => by rw [g3] at h; cases h) (by rw [g2]; exact hkC) (by rw [g2]; exact va_assign hcls) rfl rfl hd fun H1 e1 z oq => ?_
          have this := ae_set_end (locs1 := locs ++ [⟨g.1 + a, i.toNatClampNeg⟩]) kk hS he rfl z (show H1[g.1 + a]? = some (vp_cell _ _) by
            rw [e1]
            show some ((vp_cell _ (n, .inr (.inr (.inr (.inr (fun j => (f j).map (g.1 + ·))))))).setSlot _ _) = some (vp_cell _ (n, .inr (.inr (.inr (.inr _)))))
            rw [vp_cell_q, vp_cell_q, arrV_store]
            congr 2
            funext q
            by_cases hq : q = i.toNatClampNeg
            · subst hq; simp [updV, va_up, va_rf]
            · simp [updV, va_up, hq]) oq (ae_locs hL) hl
          rw [hn] at this
          exact this
        · cases hv
      · cases h
    · cases h
  · cases h
theorem ae_ty3 {t : Nat} (h : t ≤ 3) : t = 0 ∨ t = 1 ∨ t = 2 ∨ t = 3 := by omega
theorem ae_ce_row (g : ae_G) (t : Nat) (x : vp_A) : ∃ y : vp_A, ae_ce g (.inl (t, x)) = .inl (g.2.2.2.1 t, y) ∧ y.1 = x.1 := by
  obtain ⟨n, f | f | f | f | f⟩ := x
  · exact ⟨_, rfl, rfl⟩
  · exact ⟨_, rfl, rfl⟩
  · exact ⟨_, rfl, rfl⟩
  · exact ⟨_, rfl, rfl⟩
  · exact ⟨_, rfl, rfl⟩
theorem as_alen (X : ae_cx g p s m args c cc nL o) (hd : decode cc pc = .ok (.arraylength, 1)) (hk : ae_pc cd k = pc) (hn : ae_pc cd (k + 1) = pc + 1) (h : ae_alen k L S H g.2.2.2.2.2 = some (.inl (G, st', H')))
    (kk : ae_WA g p l e R s m args below meth c Q nL n0 z0 cd st' H') : ae_WA g p l e R s m args below meth c Q nL n0 z0 cd (k, L, S) H := by
  obtain ⟨hx, hb, hml, hown, hts, hE⟩ := X
  unfold ae_alen ae_nx at h
  split at h
  · next a r =>
    split at h
    · next t n co he =>
      split at h
      · next ht =>
        cases h
        have ht := Nat.le_of_ble_eq_true ht
        intro Hc locs ls hS hL hl
        have this := kk Hc locs ls hS hL hl
        simp only [hn] at this
        simp only [hk]
        obtain ⟨y, hy, hy1⟩ := ae_ce_row g t (n, co)
        have hP := ae_SM_P hS he
        rw [hy] at hP
        have hty : (ae_tys g)[t]? = some (g.2.2.2.1 t, ae_ty t) := by
          rcases ae_ty3 ht with rfl | rfl | rfl | rfl <;> rfl
        exact va_alen (D := g.2.2.1) (cl := ae_cl) (tys := ae_tys g) (x := y) hx hb hE.1 hP 0 t rfl hty (by rw [hy1]) hd this
      · cases h
    · cases h
  · next a r =>
    split at h
    · next t n f he =>
      cases h
      intro Hc locs ls hS hL hl
      have this := kk Hc locs ls hS hL hl
      simp only [hn] at this
      simp only [hk]
      obtain ⟨cell, q1, q2, q3, q4, q5, q6⟩ := ae_xa_row hE hS he
      exact W.alen hx hb q1 q2 q5 rfl rfl hd this
    · cases h
  · cases h
/-- room for what a step makes -/
theorem ae_push_end {e1 : va_E} {Hc H1 : Heap} {locs : List Loc} {ls : Array Slot} {r : List Value} (kk : ae_WA g p l e R s m args below meth c Q nL n0 z0 cd (k, L, r) (H ++ [e1])) (hS : ae_SM g Hc H) (hn0 : n0 ≤ H.length) (hz0 : z0 ≤ ae_sz H) (hz : H1.size = Hc.size + 1) (hat : va_at g.2.2.1 ae_cl (g.1 + H.length, ae_ce g e1) H1) (oq : ∀ q : Nat, q < Hc.size → H1[q]? = Hc[q]?) (hL : ∀ q ∈ locs, g.1 ≤ q.base) (hl : lv_has ls nL (ae_lp g 0 L)) :
    W p l e R s m args below meth c H1 locs (H.length - n0 + 1) (ae_sz H - z0 + ae_sz1 e1) Q (F0 m (ae_pc cd k) ls (r.map (ae_cv g))) := by
  have this := kk H1 locs ls (ae_SM_push hS hz hat oq) hL hl
  rw [List.length_append, ae_sz_push, show H.length + [e1].length - n0 = H.length - n0 + 1 by simp; omega, show ae_sz H + ae_sz1 e1 - z0 = ae_sz H - z0 + ae_sz1 e1 by omega] at this
  exact this
theorem as_new (X : ae_cx g p s m args c cc nL o) (hq : (o, i, n1) ∈ ae_CT) (hd : decode cc pc = .ok (.new i, 3)) (hk : ae_pc cd k = pc) (hn : ae_pc cd (k + 1) = pc + 3) (hn0 : n0 ≤ H.length) (hz0 : z0 ≤ ae_sz H) (h : ae_new k L S H n1 = some (.inl (G, st', H'))) (hR1 : H'.length - n0 ≤ R.cells) (hR2 : ae_sz H' - z0 ≤ R.slots)
    (kk : ae_WA g p l e R s m args below meth c Q nL n0 z0 cd st' H') : ae_WA g p l e R s m args below meth c Q nL n0 z0 cd (k, L, S) H := by
  obtain ⟨hx, hb, hml, hown, hts, hE⟩ := X
  have hw := hts _ (ae_inK1 hq)
  unfold ae_new ae_nx at h
  split at h
  · next hci =>
    cases h
    have hci : n1 < 8 := Nat.blt_eq ▸ hci
    obtain ⟨⟨C, T, N⟩, hc⟩ : ∃ q, ae_cl[n1]? = some q := ⟨ae_cl[n1]'hci, List.getElem?_eq_getElem hci⟩
    obtain ⟨hpar, hnm, hlen, hdf⟩ := ae_cl_spec hc
    have hKn := hE.1.1 n1 _ hc
    intro Hc locs ls hS hL hl
    rw [List.length_append] at hR1
    rw [ae_sz_push] at hR2
    simp only [ae_sz1, hlen, List.length_singleton] at hR1 hR2
    simp only [hk]
    simp only [ae_cw, hc, Option.map_some, Option.getD_some] at hw
    refine W.newcK (C := C) (n := N) (h := g.1 + H.length) hx hb hown hw (hts _ (ae_inN1 hc)) (hts _ (ae_inN2 hc)) rfl hd (by omega) (by omega) hKn.2.1 hS.1 fun H1 kC hkC e1 z1 o1 => ?_
    have hat : va_at g.2.2.1 ae_cl (g.1 + H.length, ae_ce g (.inr (n1, ae_dfl n1))) H1 := by
      refine ⟨_, hc, ?_⟩
      have e0 : (ae_dfl n1).map (ae_cv g) = ae_dfl n1 := by
        have : ∀ v ∈ ae_dfl n1, ae_cv g v = v := by
          intro v hv
          unfold ae_dfl at hv
          split at hv
          · obtain ⟨t, -, rfl⟩ := List.mem_map.mp hv
            cases t <;> rfl
          · cases hv
        exact (List.map_congr_left this).trans (List.map_id _)
      show t_OB (g.1 + H.length) (g.2.2.1.1 n1) N (g.2.2.1.2 n1) H1 (vp_V ((ae_dfl n1).map (ae_cv g)))
      rw [e0]
      exact (u_born (ae_fty n1) hts (ae_inO hc) hKn hkC e1 hpar).to hdf
    have this := ae_push_end kk hS hn0 hz0 (by rw [z1, hS.1]) hat (fun q hq => o1 q (by rw [← hS.1]; exact hq)) hL hl
    simp only [ae_sz1, hlen] at this
    rw [hn] at this
    exact this
  · cases h
theorem as_newa {a : ArrayType} (X : ae_cx g p s m args c cc nL o) (ha : (a = .int ∧ n1 = 0) ∨ (a = .byte ∧ n1 = 1)) (hd : decode cc pc = .ok (.newarray a, 2)) (hk : ae_pc cd k = pc) (hn : ae_pc cd (k + 1) = pc + 2) (hn0 : n0 ≤ H.length) (hz0 : z0 ≤ ae_sz H) (h : ae_newa k L S H n1 = some (.inl (G, st', H'))) (hG : G) (hR1 : H'.length - n0 ≤ R.cells) (hR2 : ae_sz H' - z0 ≤ R.slots)
    (kk : ae_WA g p l e R s m args below meth c Q nL n0 z0 cd st' H') : ae_WA g p l e R s m args below meth c Q nL n0 z0 cd (k, L, S) H := by
  obtain ⟨hx, hb, hml, hown, hts, hE⟩ := X
  unfold ae_newa ae_ng at h
  split at h
  · next n r =>
    cases h
    obtain ⟨hneg, hle⟩ := hG
    intro Hc locs ls hS hL hl
    rw [List.length_append] at hR1
    rw [ae_sz_push] at hR2
    simp only [ae_sz1, List.length_singleton] at hR1 hR2
    simp only [hk]
    have harr : (Cond.arrayClass (newarray.typeOf a)).before args s = true := by
      rcases ha with ⟨rfl, -⟩ | ⟨rfl, -⟩
      · exact hts _ (ae_inN3 (List.mem_of_getElem? (i := 0) rfl))
      · exact hts _ (ae_inN3 (List.mem_of_getElem? (i := 1) rfl))
    have hbt : n.toNatClampNeg * componentBytes (newarray.typeOf a) ≤ 536870912 := by
      rcases ha with ⟨rfl, -⟩ | ⟨rfl, -⟩
      · show n.toNatClampNeg * 4 ≤ _; omega
      · show n.toNatClampNeg * 1 ≤ _; omega
    refine va_newaK (h := g.1 + H.length) hx hb harr rfl hd rfl hneg rfl hbt (by omega) (by omega) hS.1 fun H1 cA e1 z1 o1 hAr hNm => ?_
    have hcA : cA = g.2.2.2.1 n1 := by
      rcases ha with ⟨rfl, rfl⟩ | ⟨rfl, rfl⟩
      · exact Option.some.inj (hNm.symm.trans (hE.1.2 0 _ rfl).2)
      · exact Option.some.inj (hNm.symm.trans (hE.1.2 1 _ rfl).2)
    have hat : va_at g.2.2.1 ae_cl (g.1 + H.length, ae_ce g (.inl (n1, n.toNatClampNeg, .inl (fun _ => 0)))) H1 := by
      show H1[g.1 + H.length]? = some (vp_cell _ (n.toNatClampNeg, .inl _))
      rw [e1, hcA, vp_cell_i]
      rcases ha with ⟨rfl, -⟩ | ⟨rfl, -⟩ <;> rfl
    have this := ae_push_end kk hS hn0 hz0 (by rw [z1, hS.1]) hat (fun q hq => o1 q (by rw [← hS.1]; exact hq)) hL hl
    rw [hn] at this
    exact this
  · cases h
theorem as_newq (X : ae_cx g p s m args c cc nL o) (hq : (o, i, ae_ek n1) ∈ ae_CT) (ht : n1 = 2 ∨ n1 = 3) (hd : decode cc pc = .ok (.anewarray i, 3)) (hk : ae_pc cd k = pc) (hn : ae_pc cd (k + 1) = pc + 3) (hn0 : n0 ≤ H.length) (hz0 : z0 ≤ ae_sz H) (h : ae_newq k L S H n1 = some (.inl (G, st', H'))) (hG : G) (hR1 : H'.length - n0 ≤ R.cells) (hR2 : ae_sz H' - z0 ≤ R.slots)
    (kk : ae_WA g p l e R s m args below meth c Q nL n0 z0 cd st' H') : ae_WA g p l e R s m args below meth c Q nL n0 z0 cd (k, L, S) H := by
  obtain ⟨hx, hb, hml, hown, hts, hE⟩ := X
  have hw := hts _ (ae_inK1 hq)
  obtain ⟨C, T, N, hc, htC, hA, hRA⟩ := ae_tyK hE ht
  have hover : va_AO C s := by
    rcases ht with rfl | rfl
    · cases htC; exact hE.2.1
    · cases htC; exact hE.2.2.1
  unfold ae_newq ae_ng at h
  split at h
  · next n r =>
    cases h
    obtain ⟨hneg, hle⟩ := hG
    intro Hc locs ls hS hL hl
    rw [List.length_append] at hR1
    rw [ae_sz_push] at hR2
    simp only [ae_sz1, List.length_singleton] at hR1 hR2
    simp only [hk]
    simp only [ae_cw, hc, Option.map_some, Option.getD_some] at hw
    refine W.anew hx hb hown hw (va_AO.use hover) rfl hd rfl hneg (by omega) (by omega) (by omega) fun cA kA comp f1 f2 f3 f4 => ?_
    have hcA : cA = g.2.2.2.1 n1 := by
      obtain ⟨kA', comp', k1, k2, k3, k4⟩ := hRA
      exact Option.some.inj (f1.symm.trans k4)
    generalize hH1 : Hc.push ({ cls := cA, slots := Array.replicate n.toNatClampNeg .null, vm := .none } : Cell) = H1
    have z1 : H1.size = Hc.size + 1 := by rw [← hH1, Array.size_push]
    have e1 : H1[Hc.size]? = some (arrV cA n.toNatClampNeg (fun _ => .null)) := by rw [← hH1, Array.getElem?_push_size, ← arrV_new]
    have o1 : ∀ q : Nat, q < Hc.size → H1[q]? = Hc[q]? := fun q hq => by rw [← hH1, Array.getElem?_push, if_neg (Nat.ne_of_lt hq)]
    have hat : va_at g.2.2.1 ae_cl (g.1 + H.length, ae_ce g (.inl (n1, n.toNatClampNeg, .inr (.inr (.inr (.inr (fun _ => none))))))) H1 := by
      show H1[g.1 + H.length]? = some (vp_cell _ (n.toNatClampNeg, .inr (.inr (.inr (.inr _)))))
      rw [← hS.1, e1, hcA, vp_cell_q]
      rfl
    have this := ae_push_end kk hS hn0 hz0 z1 hat o1 hL hl
    rw [hn] at this
    rw [hS.1]
    exact this
  · cases h
end AER
