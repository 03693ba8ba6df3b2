/-! whole runs: a method's run over places gives its contract over the machine -/
theorem ae_step_call {P : ae_P} {i : ae_I} {k : Nat} {L : List (Option Value)} {S : List Value} {H : ae_H} {m2 : Nat} {as : List Value} {st' : ae_S} (h : ae_step P i k L S H = some (.inr (.inr (m2, as, st')))) :
    ae_call k L S H i.2.2.2.1 i.2.2.2.2.1 (ae_rk i.2.2.2.1) = some (.inr (.inr (m2, as, st'))) ∧ ((∃ j, i.2.1 = .invokespecial j ∧ Nat.beq i.2.2.2.1 1000 = false) ∨ (∃ j, i.2.1 = .invokestatic j ∧ Nat.beq i.2.2.2.1 1001 = false ∧ Nat.beq i.2.2.2.1 1002 = false ∧ Nat.beq i.2.2.2.1 1003 = false) ∨ ∃ j, i.2.1 = .invokevirtual j) := by
  obtain ⟨pc, ins, len, n1, n2, v, cs⟩ := i
  dsimp only
  cases ins
  case invokespecial j =>
    have h : (match Nat.beq n1 1000 with | true => ae_oin k L S H | false => ae_call k L S H n1 n2 (ae_rk n1)) = some (.inr (.inr (m2, as, st'))) := h
    split at h
    · unfold ae_oin ae_nx at h
      repeat' split at h
      all_goals cases h
    · next hb => exact ⟨h, Or.inl ⟨j, rfl, hb⟩⟩
  case invokestatic j =>
    have h : (match Nat.beq n1 1001, Nat.beq n1 1002, Nat.beq n1 1003 with
      | true, _, _ => ae_copy k L S H
      | _, true, _ => ae_mx k L S H (fun x y => if x < y then y else x)
      | _, _, true => ae_mx k L S H (fun x y => if y < x then y else x)
      | _, _, _ => ae_call k L S H n1 n2 (ae_rk n1)) = some (.inr (.inr (m2, as, st'))) := h
    split at h
    · unfold ae_copy ae_ng at h
      repeat' split at h
      all_goals cases h
    · unfold ae_mx ae_nx at h
      repeat' split at h
      all_goals cases h
    · unfold ae_mx ae_nx at h
      repeat' split at h
      all_goals cases h
    · next h1 h2 h3 =>
      refine ⟨h, Or.inr (Or.inl ⟨j, rfl, ?_, ?_, ?_⟩)⟩
      · cases q : Nat.beq n1 1001 with
        | true => exact absurd q h1
        | false => rfl
      · cases q : Nat.beq n1 1002 with
        | true => exact absurd q h2
        | false => rfl
      · cases q : Nat.beq n1 1003 with
        | true => exact absurd q h3
        | false => rfl
  case invokevirtual j => exact ⟨h, Or.inr (Or.inr ⟨j, rfl⟩)⟩
  case ifCond cnd off =>
    exfalso
    cases cnd <;> (simp only [ae_step, ae_if1, ae_nx] at h; split at h <;> cases h)
  case if_icmp cnd off =>
    exfalso
    cases cnd <;> (simp only [ae_step, ae_if2, ae_nx] at h; split at h <;> cases h)
  all_goals exfalso
  all_goals try (cases h; done)
  all_goals simp only [ae_step] at h
  all_goals try unfold ae_bin at h
  all_goals try unfold ae_div at h
  all_goals try unfold ae_un at h
  all_goals try unfold ae_binL at h
  all_goals try unfold ae_divL at h
  all_goals try unfold ae_shL at h
  all_goals try unfold ae_i2l at h
  all_goals try unfold ae_l2i at h
  all_goals try unfold ae_lcmp at h
  all_goals try unfold ae_dup at h
  all_goals try unfold ae_dup2 at h
  all_goals try unfold ae_pop at h
  all_goals try unfold ae_ild at h
  all_goals try unfold ae_lld at h
  all_goals try unfold ae_ald at h
  all_goals try unfold ae_ist at h
  all_goals try unfold ae_lst at h
  all_goals try unfold ae_ast at h
  all_goals try unfold ae_inc at h
  all_goals try unfold ae_if1 at h
  all_goals try unfold ae_if2 at h
  all_goals try unfold ae_ifn at h
  all_goals try unfold ae_swi at h
  all_goals try unfold ae_gf at h
  all_goals try unfold ae_pf at h
  all_goals try unfold ae_gs at h
  all_goals try unfold ae_iald at h
  all_goals try unfold ae_iast at h
  all_goals try unfold ae_bast at h
  all_goals try unfold ae_aald at h
  all_goals try unfold ae_aast at h
  all_goals try unfold ae_alen at h
  all_goals try unfold ae_new at h
  all_goals try unfold ae_newa at h
  all_goals try unfold ae_newq at h
  all_goals try unfold ae_iret at h
  all_goals try unfold ae_lret at h
  all_goals try unfold ae_aret at h
  all_goals try unfold ae_vret at h
  all_goals try unfold ae_nx at h
  all_goals try unfold ae_ng at h
  all_goals repeat' split at h
  all_goals cases h
section AEQ
variable {g : ae_G} {p : Program} {l : Launch} {e : Env} {R : Room} {s : State} {m : MethodId} {args : Array Value} {below : List Frame} {meth : Method} {c : Code} {Q : State → Prop} {cc : ByteArray} {nL o n0 z0 d : Nat} {cd : List ae_I} {rt : Option FieldType} {ini : Bool} {C : ae_C} {r : Option Value} {Hf : ae_H}
theorem ae_run_snd (X : ae_cx g p s m args c cc nL o) (hini : ini = true → meth.name = "<init>") (hfr : d + 1 ≤ R.frames) (hlo : 60 * (d + 1) ≤ R.locals) (hok : ∀ (k : Nat) (i : ae_I), ae_get cd k = some i → ae_okI cd cc nL o rt ini k i = true) (hC : ∀ m as H r1 H1, C m as H r1 H1 → ae_Ct g l d m as H r1 H1) (hRc : Hf.length - n0 ≤ R.cells) (hRs : ae_sz Hf - z0 ≤ R.slots)
    (hret : ∀ (k : Nat) (i : ae_I) (L : List (Option Value)) (S : List Value) (v : Option Value) (G : Prop), ae_get cd k = some i → ae_step g.2.2.2.2.2 i k L S Hf = some (.inr (.inl (G, v))) → G → v = r → ae_WA g p l e R s m args below meth c Q nL n0 z0 cd (k, L, S) Hf) :
    ∀ (n : Nat) (st : ae_S) (H : ae_H), ae_runN g.2.2.2.2.2 C cd r Hf n st H → n0 ≤ H.length → z0 ≤ ae_sz H → ae_WA g p l e R s m args below meth c Q nL n0 z0 cd st H
  | 0, _, _, h, _, _ => h.elim
  | n + 1, (k, L, S), H, h, hn0, hz0 => by
    have hCm : ∀ m as H r1 H1, C m as H r1 H1 → H.length ≤ H1.length ∧ ae_sz H ≤ ae_sz H1 := fun m as H r1 H1 hc => ⟨(hC m as H r1 H1 hc).1, (hC m as H r1 H1 hc).2.1⟩
    obtain ⟨i, hi, RR, hR, h⟩ := h
    have hi : ae_get cd k = some i := hi
    obtain ⟨G, st', H1⟩ | ⟨G, v⟩ | ⟨m2, as, st'⟩ := RR
    · have a := ae_step_mono hR
      have b := ae_runN_mono hCm n st' H1 h.2
      exact ae_snd X hini hfr hlo (hok k i hi) hi hn0 hz0 (by omega) (by omega) hR h.1 (ae_run_snd X hini hfr hlo hok hC hRc hRs hret n st' H1 h.2 (by omega) (by omega))
    · obtain ⟨h1, h2, h3⟩ := h
      subst h3
      exact hret k i L S v G hi hR h1 h2
    · obtain ⟨r1, H1, hc, h⟩ := h
      have hM := hC _ _ _ _ _ hc
      have a1 := hM.1
      have a2 := hM.2.1
      have b := ae_runN_mono hCm n _ H1 h
      have kk := ae_run_snd X hini hfr hlo hok hC hRc hRs hret n _ H1 h (by omega) (by omega)
      obtain ⟨hcall, hwhich⟩ := ae_step_call hR
      have hk0 : ae_pc cd k = i.1 := by rw [ae_pc, hi]
      have ho := hok k i hi
      unfold ae_okI at ho
      rw [Bool.or_eq_true] at ho
      obtain ⟨pc, ins, len, n1, n2, v, cs⟩ := i
      dsimp only at hcall hwhich hk0 ho
      rcases ho with hat | ho
      · have hat : ins = .athrow := of_decide_eq_true hat
        exfalso
        rcases hwhich with ⟨j, hj, -⟩ | ⟨j, hj, -⟩ | ⟨j, hj⟩ <;> (rw [hat] at hj; cases hj)
      have key := ae_bits2 ho
      clear ho
      have hd : decode cc pc = .ok (ins, len) := of_decide_eq_true key.1
      have ho := key.2
      clear key
      rcases hwhich with ⟨j, rfl, hb⟩ | ⟨j, rfl, hb1, hb2, hb3⟩ | ⟨j, rfl⟩
      · obtain ⟨hn, hl, hq⟩ := ae_bits3 ho
        obtain rfl := ae_beq hl
        rw [hb] at hq
        obtain ⟨q1, q2, q3, q4⟩ := ae_bits4 hq
        rw [Bool.or_eq_true] at q1
        have q3 := (of_decide_eq_true q3 : (ae_my n1).name = "<init>" ∧ ae_ml n1 ≤ 41)
        exact as_callI X hfr hlo (q1.imp of_decide_eq_true of_decide_eq_true) q2 q3.1 (fun q hqm => by
          rw [hqm] at q4
          exact of_decide_eq_true q4) hd hk0 (ae_beq hn) hn0 hz0 hcall hM (by omega) (by omega) kk
      · obtain ⟨hn, hl, hq, hm⟩ := ae_bits4 ho
        obtain rfl := ae_beq hl
        rw [hb1, hb2, hb3] at hm
        exact as_callS X hfr hlo (of_decide_eq_true hq) (by simpa using hm) hd hk0 (ae_beq hn) hn0 hz0 hcall hM (by omega) (by omega) kk
      · obtain ⟨hn, hl, hq, hm, hs⟩ := ae_bits5 ho
        obtain rfl := ae_beq hl
        exact as_callV X hfr hlo (of_decide_eq_true hq) hm (of_decide_eq_true hs) hd hk0 (ae_beq hn) hn0 hz0 hcall hM (by omega) (by omega) kk
/-- a method's end -/
theorem ae_ret {i : ae_I} {k : Nat} {L : List (Option Value)} {S : List Value} {v : Option Value} {G : Prop} (X : ae_cx g p s m args c cc nL o) (hr : meth.sig.returnType = rt) (hlocks : meth.locks = false) (hok : ae_okI cd cc nL o rt ini k i = true) (hi : ae_get cd k = some i) (h : ae_step g.2.2.2.2.2 i k L S Hf = some (.inr (.inl (G, v)))) (hG : G) :
    ae_WA g p l e R s m args below meth c (MQ below (ae_Qc g v Hf) args s (Hf.length - n0) (ae_sz Hf - z0) (ae_A g)) nL n0 z0 cd (k, L, S) Hf := by
  obtain ⟨hx, hb, hml, hown, hts, hE⟩ := X
  have hk0 : ae_pc cd k = i.1 := by rw [ae_pc, hi]
  unfold ae_okI at hok
  rw [Bool.or_eq_true] at hok
  obtain ⟨pc, ins, len, n1, n2, w, cs⟩ := i
  have hk : ae_pc cd k = pc := hk0
  rcases hok with hat | hok
  · have hat : ins = .athrow := of_decide_eq_true hat
    subst hat
    cases h
  have key := ae_bits2 hok
  clear hok
  have hd : decode cc pc = .ok (ins, len) := of_decide_eq_true key.1
  have hok := key.2
  clear key
  dsimp only at hok
  cases ins
  case ireturn =>
    obtain ⟨hl, ho⟩ := ae_bits2 hok
    obtain rfl := ae_beq hl
    have h : ae_iret S n1 = some (.inr (.inl (G, v))) := h
    unfold ae_iret at h
    split at h
    · cases h
      have ho : rt = some .int := of_decide_eq_true ho
      intro Hc locs ls hS hL hl2
      simp only [hk]
      exact W.iret hx hb (hr.trans ho) (fun t ht hW => ⟨rfl, by rw [ht]; exact hS⟩) hL hd
    · cases h
      have ho : rt = some .boolean := of_decide_eq_true ho
      intro Hc locs ls hS hL hl2
      simp only [hk]
      rcases hG with rfl | rfl
      · exact W.zret hx hb (hr.trans ho) rfl (fun t ht hW => ⟨rfl, by rw [ht]; exact hS⟩) hL hd
      · exact W.zret hx hb (hr.trans ho) rfl (fun t ht hW => ⟨rfl, by rw [ht]; exact hS⟩) hL hd
    · cases h
      have ho : rt = some .char := of_decide_eq_true ho
      intro Hc locs ls hS hL hl2
      simp only [hk]
      exact W.zret hx hb (hr.trans ho) hG (fun t ht hW => ⟨rfl, by rw [ht]; exact hS⟩) hL hd
    · cases h
      have ho : rt = some .byte := of_decide_eq_true ho
      intro Hc locs ls hS hL hl2
      simp only [hk]
      exact W.zret hx hb (hr.trans ho) hG (fun t ht hW => ⟨rfl, by rw [ht]; exact hS⟩) hL hd
    · cases h
  case lreturn =>
    obtain ⟨hl, ho⟩ := ae_bits2 hok
    obtain rfl := ae_beq hl
    have h : ae_lret S = some (.inr (.inl (G, v))) := h
    unfold ae_lret at h
    split at h
    · cases h
      have ho : rt = some .long := of_decide_eq_true ho
      intro Hc locs ls hS hL hl2
      simp only [hk]
      exact W.lret hx hb (hr.trans ho) (fun t ht hW => ⟨rfl, by rw [ht]; exact hS⟩) hL hd
    · cases h
  case areturn =>
    obtain ⟨hl, ho⟩ := ae_bits2 hok
    obtain rfl := ae_beq hl
    have h : ae_aret S = some (.inr (.inl (G, v))) := h
    split at ho
    · next nm =>
      unfold ae_aret at h
      split at h
      · cases h
        intro Hc locs ls hS hL hl2
        simp only [hk]
        exact W.aret hx hb hr (Or.inl ⟨_, rfl⟩) (Or.inr ⟨_, rfl⟩) (fun t ht hW => ⟨rfl, by rw [ht]; exact hS⟩) hL hd
      · cases h
        intro Hc locs ls hS hL hl2
        simp only [hk]
        exact W.aret hx hb hr (Or.inl ⟨_, rfl⟩) (Or.inr ⟨_, rfl⟩) (fun t ht hW => ⟨rfl, by rw [ht]; exact hS⟩) hL hd
      · cases h
        intro Hc locs ls hS hL hl2
        simp only [hk]
        exact W.aret hx hb hr (Or.inl ⟨_, rfl⟩) (Or.inl rfl) (fun t ht hW => ⟨rfl, by rw [ht]; exact hS⟩) hL hd
      · cases h
    · cases ho
  case return_ =>
    obtain ⟨hl, ho⟩ := ae_bits2 hok
    obtain rfl := ae_beq hl
    have h : ae_vret S = some (.inr (.inl (G, v))) := h
    unfold ae_vret at h
    split at h
    · cases h
      have ho : rt = none := of_decide_eq_true ho
      intro Hc locs ls hS hL hl2
      simp only [hk]
      exact W.vret hx hb (hr.trans ho) (fun t ht hW => ⟨rfl, by rw [ht]; exact hS⟩) hL hd
    · cases h
  case ifCond cnd off =>
    exfalso
    cases cnd <;> (simp only [ae_step, ae_if1, ae_nx] at h; split at h <;> cases h)
  case if_icmp cnd off =>
    exfalso
    cases cnd <;> (simp only [ae_step, ae_if2, ae_nx] at h; split at h <;> cases h)
  all_goals exfalso
  all_goals clear hok hd
  all_goals try (cases h; done)
  all_goals simp only [ae_step] at h
  all_goals try unfold ae_bin at h
  all_goals try unfold ae_div at h
  all_goals try unfold ae_un at h
  all_goals try unfold ae_binL at h
  all_goals try unfold ae_divL at h
  all_goals try unfold ae_shL at h
  all_goals try unfold ae_i2l at h
  all_goals try unfold ae_l2i at h
  all_goals try unfold ae_lcmp at h
  all_goals try unfold ae_dup at h
  all_goals try unfold ae_dup2 at h
  all_goals try unfold ae_pop at h
  all_goals try unfold ae_ild at h
  all_goals try unfold ae_lld at h
  all_goals try unfold ae_ald at h
  all_goals try unfold ae_ist at h
  all_goals try unfold ae_lst at h
  all_goals try unfold ae_ast at h
  all_goals try unfold ae_inc at h
  all_goals try unfold ae_if1 at h
  all_goals try unfold ae_if2 at h
  all_goals try unfold ae_ifn at h
  all_goals try unfold ae_swi at h
  all_goals try unfold ae_gf at h
  all_goals try unfold ae_pf at h
  all_goals try unfold ae_gs at h
  all_goals try unfold ae_iald at h
  all_goals try unfold ae_iast at h
  all_goals try unfold ae_bast at h
  all_goals try unfold ae_aald at h
  all_goals try unfold ae_aast at h
  all_goals try unfold ae_alen at h
  all_goals try unfold ae_new at h
  all_goals try unfold ae_newa at h
  all_goals try unfold ae_newq at h
  all_goals try unfold ae_copy at h
  all_goals try unfold ae_mx at h
  all_goals try unfold ae_oin at h
  all_goals try unfold ae_call at h
  all_goals try unfold ae_nx at h
  all_goals try unfold ae_ng at h
  all_goals repeat' split at h
  all_goals try unfold ae_copy at h
  all_goals try unfold ae_mx at h
  all_goals try unfold ae_oin at h
  all_goals try unfold ae_call at h
  all_goals try unfold ae_nx at h
  all_goals try unfold ae_ng at h
  all_goals repeat' split at h
  all_goals cases h
end AEQ
/-- a method's run, calls at most d deep below it; its arguments fit -/
noncomputable def ae_Ev (P : ae_P) : Nat → ae_C
  | 0, _, _, _, _, _ => False
  | d + 1, m, as, H, r, H' => (ae_ent as).length ≤ ae_ml m ∧ ∃ n, ae_runN P (ae_Ev P d) (ae_cd m) r H' n (0, ae_pad (ae_ml m) (ae_ent as), []) H
theorem ae_ent_len (g : ae_G) : ∀ (as : List Value), (lg_sl (as.map (ae_cv g))).length = (ae_ent as).length
  | [] => rfl
  | v :: vs => by
    have ih := ae_ent_len g vs
    unfold lg_sl at ih ⊢
    rw [List.map_cons, List.flatMap_cons, List.length_append, ih]
    cases v <;> simp [ae_ent, ae_cv, Value.category] <;> omega
theorem ae_lp_none (g : ae_G) (q : Nat × Value) : ∀ (l : List (Option Value)) (n i : Nat), q ∈ ae_lp g i (l ++ List.replicate n none) → q ∈ ae_lp g i l
  | [], n, i, h => by
    obtain ⟨t, v, h1, -⟩ := (ae_lp_mem _ _).mp h
    rw [List.nil_append, List.getElem?_replicate] at h1
    split at h1 <;> cases h1
  | none :: l, n, i, h => ae_lp_none g q l n (i + 1) h
  | some v :: l, n, i, h => by
    rcases List.mem_cons.mp h with h | h
    · exact List.mem_cons.mpr (Or.inl h)
    · exact List.mem_cons_of_mem _ (ae_lp_none g q l n (i + 1) h)
theorem ae_ent_args (g : ae_G) (q : Nat × Value) : ∀ (as : List Value) (i : Nat), q ∈ ae_lp g i (ae_ent as) → q ∈ lv_args i (as.map (ae_cv g))
  | [], i, h => h
  | v :: vs, i, h => by
    have ih := ae_ent_args g q vs
    rw [List.map_cons, lv_args]
    cases v with
    | long x =>
      rcases List.mem_cons.mp h with h | h
      · exact List.mem_cons.mpr (Or.inl h)
      · exact List.mem_cons_of_mem _ (ih (i + 2) h)
    | double x =>
      rcases List.mem_cons.mp h with h | h
      · exact List.mem_cons.mpr (Or.inl h)
      · exact List.mem_cons_of_mem _ (ih (i + 2) h)
    | _ =>
      rcases List.mem_cons.mp h with h | h
      · exact List.mem_cons.mpr (Or.inl h)
      · exact List.mem_cons_of_mem _ (ih (i + 1) h)
theorem ae_mg_lt {m : Nat} {q : ae_M} (h : ae_mg m = some q) : m < 186 := by
  rw [ae_mg, ae_get_eq] at h
  have a := (List.getElem?_eq_some_iff.mp h).1
  have b : ae_mt.length = 186 := by decide +kernel
  omega
/-- A METHOD'S RUN OVER PLACES IS ITS CONTRACT -/
theorem ae_sound (g : ae_G) (l : Launch) : ∀ (d m : Nat) (as : List Value) (H : ae_H) (r : Option Value) (H' : ae_H), ae_Ev g.2.2.2.2.2 d m as H r H' → ae_Ct g l d m as H r H'
  | 0, _, _, _, _, _, h => h.elim
  | d + 1, m, as, H, r, H', h => by
    obtain ⟨hlen, n, hrun⟩ := h
    have hC := ae_sound g l d
    have hmono := ae_runN_mono (fun m as H r1 H1 hc => ⟨(hC m as H r1 H1 hc).1, (hC m as H r1 H1 hc).2.1⟩) n _ H hrun
    refine ⟨hmono.1, hmono.2, fun q hq => ?_⟩
    have hm := ae_mg_lt hq
    obtain ⟨r0, rc, r2, r3, r4, r5, r6, r7⟩ := ae_row hm hq
    have hml0 : ae_ml m = q.2.2.1 := by rw [ae_ml, hq]
    have hokM := (ae_ok hm).2 q.1 q.2.1 q.2.2.1 q.2.2.2.1 q.2.2.2.2.1 q.2.2.2.2.2.1 q.2.2.2.2.2.2 hq
    refine Met.ofW (ws' := ae_W) (cc := q.2.1) (maxL := q.2.2.1) (ret := q.2.2.2.1) r0 rfl ?_
    intro p e s mi args below meth c s₁ B hml hv
    obtain ⟨rfl, hS, hE⟩ := hv
    have hts := atoms_spec (ws := ae_ws q) B.pre
    have hown : s.vm.findClass q.1.cls = some mi.cls := findClass_of_methodNamed B.named
    have X : ae_cx g p s mi (as.map (ae_cv g)).toArray c q.2.1 q.2.2.1 q.2.2.2.2.1 := ⟨B.exec, B.bytes, hml, by rw [← rc]; exact hown, fun w hw => hts w (List.mem_cons_of_mem _ hw), hE⟩
    have hl0 := lv_entry (as.map (ae_cv g)) (n := q.2.2.1) (by rw [ae_ent_len, ← hml0]; exact hlen)
    rw [lg_entry_eq]
    have hl : lv_has _ q.2.2.1 (ae_lp g 0 (ae_pad (ae_ml m) (ae_ent as))) := ae_lp_of hl0 (fun z hz => ae_ent_args g z as 0 (ae_lp_none g z _ _ _ hz))
    have hW := ae_run_snd (l := l) (e := e) (R := ae_rm (d + 1) H H') (below := below) (n0 := H.length) (z0 := ae_sz H) (Q := MQ below (ae_Qc g r H') (as.map (ae_cv g)).toArray s (H'.length - H.length) (ae_sz H' - ae_sz H) (ae_A g)) (d := d) X (fun hi => by
        have hi : q.1.name = "<init>" := of_decide_eq_true hi
        rw [← hi]
        exact (name_of_methodNamed B.named B.method).1) (Nat.le_refl _) (Nat.le_refl _) hokM hC (Nat.le_refl _) (Nat.le_refl _) (fun k i L S v G hi hst hG hvr => by
        subst hvr
        exact ae_ret X B.returns B.notSynchronized (hokM k i hi) hi hst hG) n _ H hrun (Nat.le_refl _) (Nat.le_refl _)
    have hfin := hW s.heap [] _ hS (fun q hq => absurd hq List.not_mem_nil) hl
    rw [Nat.sub_self, Nat.sub_self] at hfin
    simp only [r7] at hfin
    exact hfin
theorem ae_runN_C {P : ae_P} {C C' : ae_C} (hC : ∀ m as H r1 H1, C m as H r1 H1 → C' m as H r1 H1) {cd : List ae_I} {r : Option Value} {Hf : ae_H} : ∀ (n : Nat) (st : ae_S) (H : ae_H), ae_runN P C cd r Hf n st H → ae_runN P C' cd r Hf n st H
  | 0, _, _, h => h.elim
  | n + 1, st, H, h => by
    obtain ⟨i, hi, R, hR, h⟩ := h
    refine ⟨i, hi, R, hR, ?_⟩
    obtain ⟨G, st', H1⟩ | ⟨G, v⟩ | ⟨m, as, st'⟩ := R
    · exact ⟨h.1, ae_runN_C hC n st' H1 h.2⟩
    · exact h
    · obtain ⟨r1, H1, hc, h⟩ := h
      exact ⟨r1, H1, hC _ _ _ _ _ hc, ae_runN_C hC n _ H1 h⟩
theorem ae_Ev_succ (P : ae_P) : ∀ (d m : Nat) (as : List Value) (H : ae_H) (r : Option Value) (H' : ae_H), ae_Ev P d m as H r H' → ae_Ev P (d + 1) m as H r H'
  | 0, _, _, _, _, _, h => h.elim
  | d + 1, m, as, H, r, H', h => by
    obtain ⟨hlen, n, hrun⟩ := h
    exact ⟨hlen, n, ae_runN_C (ae_Ev_succ P d) n _ _ hrun⟩
theorem ae_Ev_le {P : ae_P} {d d' m : Nat} {as : List Value} {H H' : ae_H} {r : Option Value} (h : ae_Ev P d m as H r H') (hd : d ≤ d') : ae_Ev P d' m as H r H' := by
  induction hd with
  | refl => exact h
  | step _ ih => exact ae_Ev_succ P _ m as H r H' ih
