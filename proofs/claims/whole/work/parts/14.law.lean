/-! THE CLAIM OUT OF ONE WALK OF THE LAW'S BODY. Your part is whole_start (and what it stands on); all else here is the same for every law, but numbers. -/
def R_law : String := "DriedOutLaw"
def lw_P (b : Addr) (xs : List Int32) (args : Array Value) (s : State) : Prop := args = #[.ref b] ∧ s.IntsAt b xs ∧ xs.length ≤ 3072 ∧ (Jvm.Cond.and given_1 narrow_1).before args s = true
def lw_Q (_ : Array Value) (s : State) (o : Outcome) (t : State) : Prop := o = .returned (some (.int 1)) ∧ Framed s o t [] 600000 7302250
def lw_Z (below : List Frame) (a : Array Value) (s : State) : State → Prop := fun t => ∃ o, t.status = .running ∧ Ended t below o ∧ lw_Q a s o t
/-- the law's own end, with 1 on the stack, nothing written that was there before, its room as the claim has it -/
theorem lw_ret {p : Program} {l : Launch} {e : Env} {s : State} {m : MethodId} {below : List Frame} {meth : Method} {c : Code} {b : Nat} (hx : p.tables.exec = Jvm.exec) (hb : c.code = code) (hr : meth.sig.returnType = ret) (hlocks : meth.locks = false) {pc : Nat} {H : Heap} {ls : Array Slot} (hdg : decode code pc = .ok (.ireturn, 1)) : W p l e room_1 s m #[Value.ref b] below meth c H [] 600000 7302250 (lw_Z below #[Value.ref b] s) (F0 m pc ls [.int 1]) := by
  intro T hT X
  obtain ⟨fs, hret, hrun, hended, hW, hframe⟩ := X.leave (v := some (.int 1)) (hlocks := hlocks) (fun h => by rw [hr] at h; cases h)
  have hmeth' : T.vm.method? m = some meth := X.method'
  refine ⟨T.setFrames fs, ?_, .returned (some (.int 1)), hrun, hended, rfl, ⟨_, rfl⟩, hW, hframe⟩
  jvm_step X.here [X.here.top, hx, hb, hdg, hmeth', hr, ret, narrow_b1]
  (try refine ⟨rfl, ?_⟩); (try refine ⟨rfl, ?_⟩)
  first | (intro acts; rw [hret _ acts rfl rfl rfl]) | rw [hret _ _ rfl rfl rfl]
  exact Steps.refl _
/-- what holds at the law's entry: the machine, the code, the tables' words (any of lw_tbl by 'hts w (by decide +kernel)'), the script of L ints xs at the cell b, what the Statement gives of the start (any of its parts by flat_of_before) -/
def lw_At (p : Program) (s : State) (m : MethodId) (meth : Method) (c : Code) (b L : Nat) (xs : Nat → Int32) : Prop :=
  p.tables.exec = Jvm.exec ∧ c.code = code ∧ meth.sig.returnType = ret ∧ c.maxLocals = 4 ∧ s.vm.findClass R_law = some m.cls ∧ (∀ w ∈ lw_tbl, w.before #[Value.ref b] s = true) ∧ va_X b L xs s s.heap ∧ b < s.heap.size ∧ meth.locks = false ∧ (Jvm.Cond.and given_1 narrow_1).before #[Value.ref b] s = true
/-- what is left to show: the law's run over places -/
def ae_LawRun : Prop := ∀ (xs : Nat → Int32) (L : Nat) (zq : Value), (zq = .null ∨ zq = .retAddr 700) → L ≤ 3072 → ∃ (n : Nat) (Hf : ae_H), ae_runN (xs, L, zq) (ae_Ev (xs, L, zq) 100) cd_DriedLaw_law (some (.int 1)) Hf n (0, [some (.retAddr 600), none, none, none], []) [] ∧ Hf.length ≤ 600000 ∧ ae_sz Hf ≤ 7302250
theorem ae_law_code : ∀ (k : Nat) (i : ae_I), ae_get cd_DriedLaw_law k = some i → ae_okI cd_DriedLaw_law code 4 0 (some .boolean) false k i = true := ae_z186
theorem ae_step_iret {P : ae_P} {i : ae_I} {k : Nat} {L : List (Option Value)} {S : List Value} {H : ae_H} {v : Option Value} {G : Prop} (h : ae_step P i k L S H = some (.inr (.inl (G, v)))) (hr : i.2.1 ≠ .lreturn ∧ i.2.1 ≠ .areturn ∧ i.2.1 ≠ .return_) : i.2.1 = .ireturn ∧ ae_iret S i.2.2.2.1 = some (.inr (.inl (G, v))) := by
  obtain ⟨pc, ins, len, n1, n2, w, cs⟩ := i
  dsimp only at hr ⊢
  cases ins
  case ireturn => exact ⟨rfl, h⟩
  case lreturn => exact absurd rfl hr.1
  case areturn => exact absurd rfl hr.2.1
  case return_ => exact absurd rfl hr.2.2
  case ifCond cnd off =>
    exfalso
    cases cnd <;> (simp only [ae_step, ae_if1, ae_nx] at h; split at h <;> cases h)
  case if_icmp cnd off =>
    exfalso
    cases cnd <;> (simp only [ae_step, ae_if2, ae_nx] at h; split at h <;> cases h)
  all_goals exfalso
  all_goals clear hr
  all_goals try (cases h; done)
  all_goals simp only [ae_step] at h
  all_goals try unfold ae_bin at h
  all_goals try unfold ae_div at h
  all_goals try unfold ae_un at h
  all_goals try unfold ae_binL at h
  all_goals try unfold ae_divL at h
  all_goals try unfold ae_shL at h
  all_goals try unfold ae_i2l at h
  all_goals try unfold ae_l2i at h
  all_goals try unfold ae_lcmp at h
  all_goals try unfold ae_dup at h
  all_goals try unfold ae_dup2 at h
  all_goals try unfold ae_pop at h
  all_goals try unfold ae_ild at h
  all_goals try unfold ae_lld at h
  all_goals try unfold ae_ald at h
  all_goals try unfold ae_ist at h
  all_goals try unfold ae_lst at h
  all_goals try unfold ae_ast at h
  all_goals try unfold ae_inc at h
  all_goals try unfold ae_if1 at h
  all_goals try unfold ae_if2 at h
  all_goals try unfold ae_ifn at h
  all_goals try unfold ae_swi at h
  all_goals try unfold ae_gf at h
  all_goals try unfold ae_pf at h
  all_goals try unfold ae_gs at h
  all_goals try unfold ae_iald at h
  all_goals try unfold ae_iast at h
  all_goals try unfold ae_bast at h
  all_goals try unfold ae_aald at h
  all_goals try unfold ae_aast at h
  all_goals try unfold ae_alen at h
  all_goals try unfold ae_new at h
  all_goals try unfold ae_newa at h
  all_goals try unfold ae_newq at h
  all_goals try unfold ae_copy at h
  all_goals try unfold ae_mx at h
  all_goals try unfold ae_oin at h
  all_goals try unfold ae_call at h
  all_goals try unfold ae_iret at h
  all_goals try unfold ae_lret at h
  all_goals try unfold ae_aret at h
  all_goals try unfold ae_vret at h
  all_goals try unfold ae_nx at h
  all_goals try unfold ae_ng at h
  all_goals repeat' split at h
  all_goals try unfold ae_copy at h
  all_goals try unfold ae_mx at h
  all_goals try unfold ae_oin at h
  all_goals try unfold ae_call at h
  all_goals try unfold ae_nx at h
  all_goals try unfold ae_ng at h
  all_goals repeat' split at h
  all_goals cases h
theorem ae_law_ret : cd_DriedLaw_law.all (fun i => decide (i.2.1 ≠ .lreturn ∧ i.2.1 ≠ .areturn ∧ i.2.1 ≠ .return_)) = true := by decide +kernel
/-- the law's run over places is the law's run -/
theorem whole_of (hrunAll : ae_LawRun) {p : Program} {e : Env} {s : State} {m : MethodId} {below : List Frame} {meth : Method} {c : Code} (l : Launch) {b L : Nat} {xs : Nat → Int32} (hL : L ≤ 3072) (C0 : lw_At p s m meth c b L xs) : W p l e room_1 s m #[Value.ref b] below meth c s.heap [] 0 0 (lw_Z below #[Value.ref b] s) (entryFrame m ([Value.ref b] : List Value).toArray 4) := by
  obtain ⟨hx, hb, hr, hml, hown, hts, hX, hbl, hlocks, hgv⟩ := id C0
  obtain ⟨D, kp, sp, zq, hE, hsp, hzv⟩ := ae_start hts hgv hX hbl
  obtain ⟨n, Hf, hrun, hc, hsz⟩ := hrunAll xs L zq hzv hL
  generalize hg : ((s.heap.size, s.heap, D, kp, sp, (xs, L, zq)) : ae_G) = g at hE
  have hg1 : g.1 = s.heap.size := by rw [← hg]
  have hg2 : g.2.1 = s.heap := by rw [← hg]
  have hgP : g.2.2.2.2.2 = (xs, L, zq) := by rw [← hg]
  have hgs : g.2.2.2.2.1 = sp := by rw [← hg]
  have X : ae_cx g p s m #[Value.ref b] c code 4 0 := ⟨hx, hb, hml, hown, fun w hw => hts w (ae_W_tbl w hw), hE⟩
  have hW := ae_run_snd (l := l) (e := e) (R := room_1) (below := below) (meth := meth) (n0 := 0) (z0 := 0) (Q := lw_Z below #[Value.ref b] s) (d := 100) (ini := false) (rt := some .boolean) (C := ae_Ev (xs, L, zq) 100) (r := some (.int 1)) (Hf := Hf) X (fun h => by cases h) (Nat.le_of_ble_eq_true rfl) (Nat.le_of_ble_eq_true rfl) ae_law_code (fun m as H r1 H1 h => ae_sound g l 100 m as H r1 H1 (by rw [hgP]; exact h)) hc hsz (fun k i L2 S v G hi hst hG hvr => by
      subst hvr
      have hmem : i ∈ cd_DriedLaw_law := by
        rw [ae_get_eq] at hi
        exact List.mem_of_getElem? hi
      obtain ⟨e1, e2⟩ := ae_step_iret hst (of_decide_eq_true (List.all_eq_true.mp ae_law_ret i hmem))
      have hk0 : ae_pc cd_DriedLaw_law k = i.1 := by rw [ae_pc, hi]
      have hok := ae_law_code k i hi
      unfold ae_okI at hok
      rw [Bool.or_eq_true] at hok
      rcases hok with hat | hok
      · rw [e1] at hat
        cases of_decide_eq_true hat
      obtain ⟨hd, ho⟩ := ae_bits2 hok
      have hd : decode code i.1 = .ok (i.2.1, i.2.2.1) := of_decide_eq_true hd
      rw [e1] at hd ho
      obtain ⟨hl, -⟩ := ae_bits2 ho
      have hl : i.2.2.1 = 1 := ae_beq hl
      rw [hl] at hd
      have hS : S = [.int 1] := by
        unfold ae_iret at e2
        split at e2 <;> cases e2 <;> rfl
      subst hS
      intro Hc locs ls hSM hLs hl2
      simp only [hk0]
      refine va_forget (fun q hq => by rw [← hg1]; exact hLs q hq) ?_
      refine W.widen (k := 600000) (n := 7302250) (by omega) (by omega) ?_
      exact lw_ret hx hb hr hlocks hd) n (0, [some (.retAddr 600), none, none, none], []) [] (by rw [hgP]; exact hrun) (Nat.le_refl _) (Nat.zero_le _)
  have hl0 := lv_entry ([.ref b]) (n := 4) (Nat.le_of_ble_eq_true rfl)
  rw [lg_entry_eq]
  have hSM : ae_SM g s.heap [] := ⟨by rw [hg1]; rfl, fun k e h => by simp at h, fun q hq => by rw [hg2]⟩
  have hfin := hW s.heap [] _ hSM (fun q hq => absurd hq List.not_mem_nil) (ae_lp_of hl0 (fun q hq => by
    obtain ⟨t, v, h1, h2⟩ := (ae_lp_mem _ _).mp hq
    match t, h1 with
    | 0, h1 => cases h1; rw [h2]; show (0 + 0, Value.ref (g.2.2.2.2.1 600)) ∈ _; rw [hgs, hsp]; exact List.mem_cons_self
    | 1, h1 => cases h1
    | 2, h1 => cases h1
    | 3, h1 => cases h1
    | n + 4, h1 => simp at h1))
  exact hfin
