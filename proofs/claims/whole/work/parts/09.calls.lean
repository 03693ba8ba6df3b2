/-! copies, calls, ends -/
theorem ae_step_heap {P : ae_P} {i : ae_I} {k : Nat} {L : List (Option Value)} {S : List Value} {H H' : ae_H} {G : Prop} {st' : ae_S} (h : ae_step P i k L S H = some (.inl (G, st', H'))) :
    H' = H ∨ (∃ (a : Nat) (e0 e1 : va_E), ae_get H a = some e0 ∧ ae_sz1 e0 = ae_sz1 e1 ∧ H' = H.set a e1) ∨ ∃ e1, H' = H ++ [e1] := by
  obtain ⟨pc, ins, len, n1, n2, v, cs⟩ := i
  unfold ae_step at h
  dsimp only at h
  split at h
  all_goals try unfold ae_bin at h
  all_goals try unfold ae_div at h
  all_goals try unfold ae_un at h
  all_goals try unfold ae_binL at h
  all_goals try unfold ae_divL at h
  all_goals try unfold ae_shL at h
  all_goals try unfold ae_i2l at h
  all_goals try unfold ae_l2i at h
  all_goals try unfold ae_lcmp at h
  all_goals try unfold ae_dup at h
  all_goals try unfold ae_dup2 at h
  all_goals try unfold ae_pop at h
  all_goals try unfold ae_ild at h
  all_goals try unfold ae_lld at h
  all_goals try unfold ae_ald at h
  all_goals try unfold ae_ist at h
  all_goals try unfold ae_lst at h
  all_goals try unfold ae_ast at h
  all_goals try unfold ae_inc at h
  all_goals try unfold ae_if1 at h
  all_goals try unfold ae_if2 at h
  all_goals try unfold ae_ifn at h
  all_goals try unfold ae_swi at h
  all_goals try unfold ae_gf at h
  all_goals try unfold ae_pf at h
  all_goals try unfold ae_gs at h
  all_goals try unfold ae_iald at h
  all_goals try unfold ae_iast at h
  all_goals try unfold ae_bast at h
  all_goals try unfold ae_aald at h
  all_goals try unfold ae_aast at h
  all_goals try unfold ae_alen at h
  all_goals try unfold ae_new at h
  all_goals try unfold ae_newa at h
  all_goals try unfold ae_newq at h
  all_goals try unfold ae_copy at h
  all_goals try unfold ae_mx at h
  all_goals try unfold ae_oin at h
  all_goals try unfold ae_call at h
  all_goals try unfold ae_iret at h
  all_goals try unfold ae_lret at h
  all_goals try unfold ae_aret at h
  all_goals try unfold ae_vret at h
  all_goals try unfold ae_nx at h
  all_goals try unfold ae_ng at h
  all_goals repeat' split at h
  all_goals try unfold ae_copy at h
  all_goals try unfold ae_mx at h
  all_goals try unfold ae_oin at h
  all_goals try unfold ae_call at h
  all_goals try unfold ae_nx at h
  all_goals try unfold ae_ng at h
  all_goals repeat' split at h
  all_goals first
    | (cases h; done)
    | (cases h; exact Or.inl rfl)
    | (cases h; exact Or.inr (Or.inr ⟨_, rfl⟩))
    | (cases h; exact Or.inr (Or.inl ⟨_, _, _, by assumption, by simp [ae_sz1], rfl⟩))
theorem ae_step_mono {P : ae_P} {i : ae_I} {k : Nat} {L : List (Option Value)} {S : List Value} {H H' : ae_H} {G : Prop} {st' : ae_S} (h : ae_step P i k L S H = some (.inl (G, st', H'))) : H.length ≤ H'.length ∧ ae_sz H ≤ ae_sz H' := by
  rcases ae_step_heap h with rfl | ⟨a, e0, e1, h1, h2, rfl⟩ | ⟨e1, rfl⟩
  · exact ⟨Nat.le_refl _, Nat.le_refl _⟩
  · rw [ae_get_eq] at h1
    rw [List.length_set, ae_sz_set h1 h2]
    exact ⟨Nat.le_refl _, Nat.le_refl _⟩
  · rw [List.length_append, ae_sz_push]
    exact ⟨Nat.le_add_right _ _, Nat.le_add_right _ _⟩
theorem ae_runN_mono {P : ae_P} {C : ae_C} (hC : ∀ m as H r H1, C m as H r H1 → H.length ≤ H1.length ∧ ae_sz H ≤ ae_sz H1) {cd : List ae_I} {r : Option Value} {Hf : ae_H} : ∀ (n : Nat) (st : ae_S) (H : ae_H), ae_runN P C cd r Hf n st H → H.length ≤ Hf.length ∧ ae_sz H ≤ ae_sz Hf
  | 0, _, _, h => h.elim
  | n + 1, st, H, h => by
    obtain ⟨i, -, R, hR, h⟩ := h
    obtain ⟨G, st', H1⟩ | ⟨G, v⟩ | ⟨m, as, st'⟩ := R
    · have a := ae_step_mono hR
      have b := ae_runN_mono hC n st' H1 h.2
      exact ⟨Nat.le_trans a.1 b.1, Nat.le_trans a.2 b.2⟩
    · rw [h.2.2]
      exact ⟨Nat.le_refl _, Nat.le_refl _⟩
    · obtain ⟨r1, H1, hc, h⟩ := h
      have a := hC _ _ _ _ _ hc
      have b := ae_runN_mono hC n _ H1 h
      exact ⟨Nat.le_trans a.1 b.1, Nat.le_trans a.2 b.2⟩
def ae_Pc (g : ae_G) (as : List Value) (H : ae_H) : Array Value → State → Prop := fun v U => v = (as.map (ae_cv g)).toArray ∧ ae_SM g U.heap H ∧ ae_E g U
def ae_Qc (g : ae_G) (r : Option Value) (H' : ae_H) : Array Value → State → Outcome → State → Prop := fun _ _ o t => o = .returned (r.map (ae_cv g)) ∧ ae_SM g t.heap H'
def ae_rm (d : Nat) (H H' : ae_H) : Room := { frames := d, cells := H'.length - H.length, slots := ae_sz H' - ae_sz H, locals := 60 * d }
noncomputable def ae_ws (q : ae_M) : List Cond := ae_codew q :: ae_W
/-- a method's contract -/
def ae_Ct (g : ae_G) (l : Launch) (d m : Nat) (as : List Value) (H : ae_H) (r : Option Value) (H' : ae_H) : Prop :=
  H.length ≤ H'.length ∧ ae_sz H ≤ ae_sz H' ∧ ∀ q, ae_mg m = some q → Met l q.1 (ae_ws q) (ae_rm d H H') (ae_Pc g as H) (ae_Qc g r H') (H'.length - H.length) (ae_sz H' - ae_sz H) (ae_A g)
theorem ae_blind {g : ae_G} {as : List Value} {H : ae_H} : FrameBlind (ae_Pc g as H) := fun a U fr mk h => ⟨h.1, h.2.1, ae_E_warm (s := U) (U := U.calling fr mk a) (State.WarmedH.refl U) h.2.2⟩
theorem ae_goodIn {m : Nat} {q : ae_M} (hm : m < 186) (hq : ae_mg m = some q) : GoodIn ae_W (ae_ws q) := by
  have key : ∀ w ∈ ae_W, w ∈ ae_W ∧ ((w.onTables && w.keeps) = true ∨ ∃ ty, w = .arrayClass ty) := fun w hw => ⟨hw, good_of_word (List.all_eq_true.mp ae_good w hw)⟩
  intro w hw
  rcases List.mem_cons.mp hw with rfl | hw
  · exact key _ (ae_inC hm hq)
  · exact key w hw
section AEC
variable {g : ae_G} {p : Program} {l : Launch} {e : Env} {R : Room} {s : State} {m : MethodId} {args : Array Value} {below : List Frame} {meth : Method} {c : Code} {Q : State → Prop} {cc : ByteArray} {nL o n0 z0 d : Nat} {cd : List ae_I} {k pc len n1 n2 i : Nat} {L L' : List (Option Value)} {S S' : List Value} {H H' H1 : ae_H} {G : Prop} {st' : ae_S} {v : Value} {r1 : Option Value}
theorem ae_nat5 : nativeFrameWords "java/lang/System" "arraycopy" 5 = 7 := by decide +kernel
theorem as_copy (X : ae_cx g p s m args c cc nL o) (hfr : 1 ≤ R.frames) (hlo : 40 ≤ R.locals) (hq : (o, i, 1001) ∈ ae_LT) (hd : decode cc pc = .ok (.invokestatic i, 3)) (hk : ae_pc cd k = pc) (hn : ae_pc cd (k + 1) = pc + 3) (h : ae_copy k L S H = some (.inl (G, st', H'))) (hG : G)
    (kk : ae_WA g p l e R s m args below meth c Q nL n0 z0 cd st' H') : ae_WA g p l e R s m args below meth c Q nL n0 z0 cd (k, L, S) H := by
  obtain ⟨hx, hb, hml, hown, hts, hE⟩ := X
  have hw := hts _ (ae_inL hq)
  unfold ae_copy ae_ng at h
  split at h
  · next n dp a sp a0 r =>
    split at h
    · next nn0 f nn1 f1 he0 he hcat =>
      cases h
      obtain ⟨h1, h2, h3, h4, h5⟩ := hG
      have hcat := Nat.le_of_ble_eq_true hcat
      have nn : ∀ z : Int32, ¬ z < 0 → z.toInt = (z.toNatClampNeg : Int) := by
        intro z hz
        have hz0 : (0 : Int) ≤ z.toInt := by
          have := Int32.not_lt.mp hz
          simpa using Int32.le_iff_toInt_le.mp this
        show z.toInt = ((z.toInt.toNat : Nat) : Int)
        omega
      intro Hc locs ls hS hL hl T hT XX
      have hc0 : Hc[g.1 + a0]? = some (vp_cell (g.2.2.2.1 0) (nn0, .inl f)) := ae_SM_at hS he0
      have hc1 : Hc[g.1 + a]? = some (vp_cell (g.2.2.2.1 0) (nn1, .inl f1)) := ae_SM_at hS he
      obtain ⟨-, k0, hk0, cm0, hkk0⟩ := (hE.1.2 0 _ rfl).1 nn0 (fun j => .int (f j))
      simp only [hk]
      obtain ⟨vm', X', step⟩ := XX.arraycopy hx hown hw (hts _ (ae_inN3 (List.mem_of_getElem? (i := 4) rfl))) (hts _ (ae_inN3 (List.mem_of_getElem? (i := 5) rfl))) (hts _ (ae_inN3 (List.mem_of_getElem? (i := 6) rfl))) (src := g.1 + a0) (dst := g.1 + a) (cs := vp_cell (g.2.2.2.1 0) (nn0, .inl f)) (cd := vp_cell (g.2.2.2.1 0) (nn1, .inl f1)) (srcPos := sp) (destPos := dp) (n := n) (by rw [hT]; exact hc0) (by rw [hT]; exact hc1)
        (fun _ h => by cases h) (fun _ h => by cases h) (fun h => by cases h) (fun h => by cases h) hk0 hk0 hkk0 hkk0 (by simp [refKind]) h1 h2 h3
        (by rw [nn sp h1, nn n h3]; show ¬ _ > ((arrV _ nn0 (fun j => .int (f j))).slots.size : Int); rw [arrV_size]; omega)
        (by rw [nn dp h2, nn n h3]; show ¬ _ > ((arrV _ nn1 (fun j => .int (f1 j))).slots.size : Int); rw [arrV_size]; omega)
        (fun vm₁ _ i hi => by
          have e : (vp_cell (g.2.2.2.1 0) (nn0, .inl f)).slots.getD (sp.toNatClampNeg + i) .null = .int (f (sp.toNatClampNeg + i)) := by
            show (arrV _ nn0 (fun j => .int (f j))).slots.getD _ _ = _
            rw [Array.getD_eq_getD_getElem?, arrV_read _ _ (by omega)]
            rfl
          refine ⟨?_, ?_⟩
          · rw [e]
            rfl
          · rw [e]
            exact trivial)
        (g := F0 m pc ls (.int n :: .int dp :: .ref (g.1 + a) :: .int sp :: .ref (g.1 + a0) :: r.map (ae_cv g))) rfl (by rw [hml]; exact hl.1) (rest := r.map (ae_cv g)) rfl (by rw [hb]; exact hd) hfr (by rw [ae_cat_map, ae_nat5]; show 2 * 0 + _ + _ ≤ _; omega)
      have e1 : copied (vp_cell (g.2.2.2.1 0) (nn0, .inl f)) (vp_cell (g.2.2.2.1 0) (nn1, .inl f1)) sp dp n = vp_cell (g.2.2.2.1 0) (nn1, .inl (va_cpy f f1 sp.toNatClampNeg dp.toNatClampNeg n.toNatClampNeg)) := va_copied (fun z => .int z) _ _ f f1 h4
      rw [e1] at X' step
      have hl2 : g.1 + a < Hc.size := (Array.getElem?_eq_some_iff.mp hc1).1
      have hheap : ((T.setVm vm').setCell (g.1 + a) (vp_cell (g.2.2.2.1 0) (nn1, .inl (va_cpy f f1 sp.toNatClampNeg dp.toNatClampNeg n.toNatClampNeg)))).heap = Hc.setIfInBounds (g.1 + a) (vp_cell (g.2.2.2.1 0) (nn1, .inl (va_cpy f f1 sp.toNatClampNeg dp.toNatClampNeg n.toNatClampNeg))) := by rw [← hT]; rfl
      have key : ∀ locs1 : List Loc, (∀ q ∈ locs1, g.1 ≤ q.base) → W p l e R s m args below meth c (Hc.setIfInBounds (g.1 + a) (vp_cell (g.2.2.2.1 0) (nn1, .inl (va_cpy f f1 sp.toNatClampNeg dp.toNatClampNeg n.toNatClampNeg)))) locs1 (H.length - n0) (ae_sz H - z0) Q (F0 m (ae_pc cd (k + 1)) ls (r.map (ae_cv g))) := fun locs1 hL1 => ae_set_end kk hS he (e1 := .inl (0, nn1, .inl (va_cpy f f1 sp.toNatClampNeg dp.toNatClampNeg n.toNatClampNeg))) rfl (by simp) (show (Hc.setIfInBounds (g.1 + a) _)[g.1 + a]? = some (vp_cell _ _) by simp [Array.getElem?_setIfInBounds, hl2]) (fun q hq => by simp [Array.getElem?_setIfInBounds, Ne.symm hq]) hL1 hl
      rw [hn] at key
      obtain ⟨t, a1, b1⟩ := key _ (by
        intro q hq
        rcases List.mem_append.mp hq with hq | hq
        · exact hL q hq
        · obtain ⟨z, -, hz⟩ := List.mem_map.mp hq
          rw [← hz]
          exact Nat.le_add_right _ _) _ hheap X'
      exact ⟨t, step t a1, b1⟩
    · cases h
  · cases h
theorem as_max (X : ae_cx g p s m args c cc nL o) (hfr : 1 ≤ R.frames) (hlo : 40 ≤ R.locals) (hRc : H.length - n0 ≤ R.cells) (hRs : ae_sz H - z0 ≤ R.slots) (hq : (o, i, 1002) ∈ ae_LT) (hd : decode cc pc = .ok (.invokestatic i, 3)) (hk : ae_pc cd k = pc) (hn : ae_pc cd (k + 1) = pc + 3) (h : ae_mx k L S H (fun x y => if x < y then y else x) = some (.inl (G, st', H')))
    (kk : ae_WA g p l e R s m args below meth c Q nL n0 z0 cd st' H') : ae_WA g p l e R s m args below meth c Q nL n0 z0 cd (k, L, S) H := by
  obtain ⟨hx, hb, hml, hown, hts, hE⟩ := X
  have hw := hts _ (ae_inL hq)
  unfold ae_mx ae_nx at h
  split at h
  · next y x r =>
    split at h
    · next hcat =>
      cases h
      have hcat := Nat.le_of_ble_eq_true hcat
      intro Hc locs ls hS hL hl
      have this := kk Hc locs ls hS hL hl
      simp only [hn] at this
      simp only [hk]
      exact va_mmax hx hb (by rw [hml]; exact hl.1.symm) hown hw (hts _ (ae_inN3 (List.mem_of_getElem? (i := 7) rfl))) (hts _ (ae_inN3 (List.mem_of_getElem? (i := 9) rfl))) (hts _ (ae_inN3 (List.mem_of_getElem? (i := 10) rfl))) hfr (by rw [ae_cat_map]; omega) hRc hRs hd this
    · cases h
  · cases h
theorem as_min (X : ae_cx g p s m args c cc nL o) (hfr : 1 ≤ R.frames) (hlo : 40 ≤ R.locals) (hRc : H.length - n0 ≤ R.cells) (hRs : ae_sz H - z0 ≤ R.slots) (hq : (o, i, 1003) ∈ ae_LT) (hd : decode cc pc = .ok (.invokestatic i, 3)) (hk : ae_pc cd k = pc) (hn : ae_pc cd (k + 1) = pc + 3) (h : ae_mx k L S H (fun x y => if y < x then y else x) = some (.inl (G, st', H')))
    (kk : ae_WA g p l e R s m args below meth c Q nL n0 z0 cd st' H') : ae_WA g p l e R s m args below meth c Q nL n0 z0 cd (k, L, S) H := by
  obtain ⟨hx, hb, hml, hown, hts, hE⟩ := X
  have hw := hts _ (ae_inL hq)
  unfold ae_mx ae_nx at h
  split at h
  · next y x r =>
    split at h
    · next hcat =>
      cases h
      have hcat := Nat.le_of_ble_eq_true hcat
      intro Hc locs ls hS hL hl
      have this := kk Hc locs ls hS hL hl
      simp only [hn] at this
      simp only [hk]
      exact va_mmin hx hb (by rw [hml]; exact hl.1.symm) hown hw (hts _ (ae_inN3 (List.mem_of_getElem? (i := 8) rfl))) (hts _ (ae_inN3 (List.mem_of_getElem? (i := 9) rfl))) (hts _ (ae_inN3 (List.mem_of_getElem? (i := 11) rfl))) hfr (by rw [ae_cat_map]; omega) hRc hRs hd this
    · cases h
  · cases h
theorem as_oin (X : ae_cx g p s m args c cc nL o) (hfr : 1 ≤ R.frames) (hlo : 40 ≤ R.locals) (hq : (o, i, 1000) ∈ ae_LT) (hd : decode cc pc = .ok (.invokespecial i, 3)) (hk : ae_pc cd k = pc) (hn : ae_pc cd (k + 1) = pc + 3) (h : ae_oin k L S H = some (.inl (G, st', H')))
    (kk : ae_WA g p l e R s m args below meth c Q nL n0 z0 cd st' H') : ae_WA g p l e R s m args below meth c Q nL n0 z0 cd (k, L, S) H := by
  obtain ⟨hx, hb, hml, hown, hts, hE⟩ := X
  have hw := hts _ (ae_inL hq)
  unfold ae_oin ae_nx at h
  split at h
  · next x r =>
    split at h
    · next hcat =>
      cases h
      have hcat := Nat.le_of_ble_eq_true hcat
      intro Hc locs ls hS hL hl
      have this := kk Hc locs ls hS hL hl
      simp only [hn] at this
      simp only [hk]
      exact W.objInit hx hb hown hw (hts _ (ae_inN3 (List.mem_of_getElem? (i := 2) rfl))) (hts _ (ae_inN3 (List.mem_of_getElem? (i := 3) rfl))) rfl (by rw [hml]; exact hl.1) rfl hd hfr (by rw [ae_cat_map]; show 2 * 0 + _ + _ ≤ _; omega) this
    · cases h
  · cases h
/-- behind a call -/
theorem ae_run_end {Hc : Heap} {locs : List Loc} {ls : Array Slot} {st0 rest : List Value} {a : Array Value} (hr : va_Run p l e R s m args below meth c Hc locs (H.length - n0) (ae_sz H - z0) (H1.length - H.length) (ae_sz H1 - ae_sz H) (F0 m pc ls st0) (rest.map (ae_cv g)) (ae_Qc g r1 H1 a) (ae_A g)) (hL : ∀ q ∈ locs, g.1 ≤ q.base) (hl : lv_has ls nL (ae_lp g 0 L)) (hn0 : n0 ≤ H.length) (hz0 : z0 ≤ ae_sz H) (h1 : H.length ≤ H1.length) (h2 : ae_sz H ≤ ae_sz H1) (hn : ae_pc cd (k + 1) = pc + 3)
    (kk : ae_WA g p l e R s m args below meth c Q nL n0 z0 cd (k + 1, L, r1.toList ++ rest) H1) : W p l e R s m args below meth c Hc locs (H.length - n0) (ae_sz H - z0) Q (F0 m pc ls st0) := by
  intro T hT X
  obtain ⟨v, st₀, t, T', L2, h0, X', hL2, e1, e2, ⟨hv, hSM⟩, st⟩ := hr T hT X
  have hv : v = r1.map (ae_cv g) := Outcome.returned.inj hv
  have this := kk T'.heap (locs ++ L2) ls (by rw [e1]; exact hSM) (fun q hq => by
    rcases List.mem_append.mp hq with hq | hq
    · exact hL q hq
    · exact hL2 q hq) hl
  simp only [hn] at this
  rw [show H1.length - n0 = H.length - n0 + (H1.length - H.length) by omega, show ae_sz H1 - z0 = ae_sz H - z0 + (ae_sz H1 - ae_sz H) by omega] at this
  obtain ⟨t2, a1, b1⟩ := this T' rfl X'
  refine ⟨t2, st t2 ?_, b1⟩
  rw [hv]
  have e3 : (Option.map (ae_cv g) r1).toList ++ rest.map (ae_cv g) = (r1.toList ++ rest).map (ae_cv g) := by cases r1 <;> rfl
  show Steps p.tables e below (T'.setTop (F0 m (pc + 3) ls ((Option.map (ae_cv g) r1).toList ++ rest.map (ae_cv g)))) t2
  rw [e3]
  exact a1
theorem ae_kdOK : (List.range 14).all (fun o => match ae_cl[ae_kd o]? with
  | some (C, _, _) => decide (C = ae_cn o)
  | none => !(Nat.beq (ae_kd o) 20) || decide (ae_cn o = "java/lang/String")) = true := by decide +kernel
theorem ae_recv {Hc : Heap} {o' : Nat} {v : Value} (hE : ae_E g s) (hS : ae_SM g Hc H) (ho : o' < 14) (h : ae_isk H (ae_kd o') v = true) : ∃ b : Nat, ae_cv g v = .ref b ∧ ∃ cellB : Cell, Hc[b]? = some cellB ∧ cellB.vm.isStatics = false ∧ s.vm.findClass (ae_cn o') = some cellB.cls := by
  have hk := List.all_eq_true.mp ae_kdOK o' (List.mem_range.mpr ho)
  unfold ae_isk at h
  split at h
  · next x =>
    split at h
    · next ci fs he =>
      have hci := ae_beq h
      subst hci
      obtain ⟨⟨C, T, N⟩, hc, cell, q1, q2, q3, q4⟩ := ae_SM_at hS he
      rw [hc] at hk
      have hC : C = ae_cn o' := of_decide_eq_true hk
      refine ⟨g.1 + x, rfl, cell, q1, by rw [q3]; rfl, ?_⟩
      rw [q2, ← hC]
      exact (hE.1.1 _ _ hc).2.1
    · cases h
  · next x =>
    simp only [Bool.and_eq_true] at h
    have h20 := ae_beq h.1
    have hx : x < 13 := Nat.blt_eq ▸ h.2
    obtain ⟨cell, q1, q2, q3, q4⟩ := (hE.2.2.2.2.2.2.1 x hx).1
    have hnone : ae_cl[ae_kd o']? = none := by rw [h20]; rfl
    rw [hnone] at hk
    simp only [h20] at hk
    have hC : ae_cn o' = "java/lang/String" := by simpa using hk
    exact ⟨_, rfl, cell, by rw [hS.2.2 _ (Nat.not_le.mp q4)]; exact q1, q2, by rw [hC]; exact q3⟩
  · cases h
theorem ae_call_spec {mm nn kd : Nat} {as : List Value} {m2 : Nat} (h : ae_call k L S H mm nn kd = some (.inr (.inr (m2, as, st')))) : m2 = mm ∧ as = (S.take nn).reverse ∧ st' = (k + 1, L, S.drop nn) ∧ nn ≤ S.length ∧ ae_cat (S.drop nn) ≤ 8 ∧ (kd = 50 ∨ ∃ v l, (S.take nn).reverse = v :: l ∧ ae_isk H kd v = true) := by
  unfold ae_call at h
  split at h
  · next h1 h2 h3 =>
    cases h
    refine ⟨rfl, rfl, rfl, Nat.le_of_ble_eq_true h1, Nat.le_of_ble_eq_true h2, ?_⟩
    simp only [Bool.or_eq_true] at h3
    rcases h3 with h3 | h3
    · exact Or.inl (ae_beq h3)
    · split at h3
      · next v l hv => exact Or.inr ⟨v, l, hv, h3⟩
      · cases h3
  · cases h
end AEC
