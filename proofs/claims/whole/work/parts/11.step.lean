/-! the whole run; a method's contract-/
section AEN
variable {g : ae_G} {p : Program} {l : Launch} {e : Env} {R : Room} {s : State} {m : MethodId} {args : Array Value} {below : List Frame} {meth : Method} {c : Code} {Q : State → Prop} {cc : ByteArray} {nL o n0 z0 d : Nat} {cd : List ae_I} {rt : Option FieldType} {ini : Bool} {k : Nat} {L : List (Option Value)} {S : List Value} {H H' : ae_H} {G : Prop} {st' : ae_S}
theorem ae_tgt_eq {pc n : Nat} {off : Int} (h : ae_tgt cd pc off n = true) : (pc : Int) + off = (ae_pc cd n : Int) := of_decide_eq_true h
theorem ae_lkp {pc n1 : Nat} {df : Int} {x : Int32} (ht : (pc : Int) + df = (ae_pc cd n1 : Int)) : ∀ (cs : List (Int32 × Nat)) (pl : List (Int × Int)), pl.map (fun q => q.1) = cs.map (fun q => q.1.toInt) → (∀ (j : Nat) (x : Int32) (t : Nat), cs[j]? = some (x, t) → ∃ off, pl[j]? = some (x.toInt, off) ∧ (pc : Int) + off = (ae_pc cd t : Int)) → ∃ off, Op.lookupswitch.offset pl df x.toInt = off ∧ (pc : Int) + off = (ae_pc cd (ae_swt x n1 cs) : Int)
  | [], [], _, _ => ⟨df, rfl, ht⟩
  | [], _ :: _, h, _ => by simp at h
  | _ :: _, [], h, _ => by simp at h
  | (y, t) :: cs, (z, off) :: pl, hmap, hat => by
    simp only [List.map_cons, List.cons.injEq] at hmap
    obtain ⟨hzy, hmap⟩ := hmap
    have hzy : z = y.toInt := hzy
    by_cases hxy : x = y
    · obtain ⟨off2, o1, o2⟩ := hat 0 y t rfl
      have o1 := Option.some.inj o1
      refine ⟨off, ?_, ?_⟩
      · rw [Op.lookupswitch.offset_cons, if_pos (by rw [hxy, hzy])]
      · rw [ae_swt, if_pos hxy]
        have : off = off2 := (Prod.mk.inj o1).2
        rw [this]
        exact o2
    · obtain ⟨off3, q1, q2⟩ := ae_lkp ht cs pl hmap (fun j x2 t2 hj => hat (j + 1) x2 t2 hj)
      refine ⟨off3, ?_, ?_⟩
      · rw [hzy, lv_osw hxy rfl]
        exact q1
      · rw [ae_swt, if_neg hxy]
        exact q2
theorem ae_bits2 {a b : Bool} (h : (a && b) = true) : a = true ∧ b = true := by simpa using h
theorem ae_bits3 {a b c : Bool} (h : (a && b && c) = true) : a = true ∧ b = true ∧ c = true := by simp at h; exact ⟨h.1.1, h.1.2, h.2⟩
theorem ae_bits4 {a b c d : Bool} (h : (a && b && c && d) = true) : a = true ∧ b = true ∧ c = true ∧ d = true := by simp at h; exact ⟨h.1.1.1, h.1.1.2, h.1.2, h.2⟩
theorem ae_bits5 {a b c d e : Bool} (h : (a && b && c && d && e) = true) : a = true ∧ b = true ∧ c = true ∧ d = true ∧ e = true := by simp at h; exact ⟨h.1.1.1.1, h.1.1.1.2, h.1.1.2, h.1.2, h.2⟩
theorem ae_blt {a b : Nat} (h : Nat.blt a b = true) : a < b := Nat.blt_eq ▸ h
set_option maxHeartbeats 4000000 in
/-- one step-/
theorem ae_snd {i : ae_I} (X : ae_cx g p s m args c cc nL o) (hini : ini = true → meth.name = "<init>") (hfr : d + 1 ≤ R.frames) (hlo : 60 * (d + 1) ≤ R.locals) (hok : ae_okI cd cc nL o rt ini k i = true) (hi : ae_get cd k = some i) (hn0 : n0 ≤ H.length) (hz0 : z0 ≤ ae_sz H) (hRc : H'.length - n0 ≤ R.cells) (hRs : ae_sz H' - z0 ≤ R.slots) (h : ae_step g.2.2.2.2.2 i k L S H = some (.inl (G, st', H'))) (hG : G)
    (kk : ae_WA g p l e R s m args below meth c Q nL n0 z0 cd st' H') : ae_WA g p l e R s m args below meth c Q nL n0 z0 cd (k, L, S) H := by
  have hk0 : ae_pc cd k = i.1 := by rw [ae_pc, hi]
  have hmono := ae_step_mono h
  obtain ⟨hx, hb, hml, hown, hts, hE⟩ := id X
  obtain ⟨pc, ins, len, n1, n2, v, cs⟩ := i
  have hk : ae_pc cd k = pc := hk0
  unfold ae_okI at hok
  rw [Bool.or_eq_true] at hok
  rcases hok with hat | hok
  · have hat : ins = .athrow := of_decide_eq_true hat
    subst hat
    cases h
  have key := ae_bits2 hok
  clear hok
  have hd : decode cc pc = .ok (ins, len) := of_decide_eq_true key.1
  have hok := key.2
  clear key
  dsimp only at hok
  cases ins
  all_goals try (cases h; done)
  case iconst n =>
    obtain ⟨hn, hl, hv⟩ := ae_bits3 hok
    obtain rfl := ae_beq hl
    have hv : v = .int (Int32.ofInt n) := of_decide_eq_true hv
    subst hv
    exact as_push (fun Hc locs cells slots ls rest a => lv_iconst hx hb hd rfl a) hk (ae_beq hn) h kk
  case bipush n =>
    obtain ⟨hn, hl, hv⟩ := ae_bits3 hok
    obtain rfl := ae_beq hl
    have hv : v = .int (Int8.ofInt n).toInt32 := of_decide_eq_true hv
    subst hv
    exact as_push (fun Hc locs cells slots ls rest a => lv_bipush hx hb hd rfl a) hk (ae_beq hn) h kk
  case sipush n =>
    obtain ⟨hn, hl, hv⟩ := ae_bits3 hok
    obtain rfl := ae_beq hl
    have hv : v = .int (Int16.ofInt n).toInt32 := of_decide_eq_true hv
    subst hv
    exact as_push (fun Hc locs cells slots ls rest a => lv_sipush hx hb hd rfl a) hk (ae_beq hn) h kk
  case lconst n =>
    obtain ⟨hn, hl, hv⟩ := ae_bits3 hok
    obtain rfl := ae_beq hl
    have hv : v = .long (Int64.ofNat (n : Nat)) := of_decide_eq_true hv
    subst hv
    exact as_push (fun Hc locs cells slots ls rest a => lv_lconst hx hb hd rfl a) hk (ae_beq hn) h kk
  case ldc j =>
    obtain ⟨hn, hl, hv⟩ := ae_bits3 hok
    obtain rfl := ae_beq hl
    split at hv
    · next x =>
      have hw := hts _ (ae_inK2 (of_decide_eq_true hv))
      exact as_push (fun Hc locs cells slots ls rest a => lv_ldc hx hb hown hw hd a) hk (ae_beq hn) h kk
    · next x =>
      have hZ := hE.2.2.2.2.1 _ (of_decide_eq_true hv)
      exact as_push (fun Hc locs cells slots ls rest a => va_ldcS hx hb hown hZ hd a) hk (ae_beq hn) h kk
    · cases hv
  case ldc2_w j =>
    obtain ⟨hn, hl, hv⟩ := ae_bits3 hok
    obtain rfl := ae_beq hl
    split at hv
    · next x =>
      have hw := hts _ (ae_inK2 (of_decide_eq_true hv))
      exact as_push (fun Hc locs cells slots ls rest a => lv_ldc2 hx hb hown hw hd a) hk (ae_beq hn) h kk
    · cases hv
  case aconst_null =>
    obtain ⟨hn, hl⟩ := ae_bits2 hok
    obtain rfl := ae_beq hl
    have hn := ae_beq hn
    exact as_push (fun Hc locs cells slots ls rest a => lv_null hx hb hd a) hk hn h kk
  case iload_n j =>
    obtain ⟨hn, hl, hj⟩ := ae_bits3 hok
    obtain rfl := ae_beq hl
    have hj := ae_beq hj
    exact as_ild (fun Hc locs cells slots ls rest x q a => lv_iload_n hx hb hd hj q a) hk (ae_beq hn) h kk
  case lload_n j =>
    obtain ⟨hn, hl, hj⟩ := ae_bits3 hok
    obtain rfl := ae_beq hl
    have hj := ae_beq hj
    exact as_lld (fun Hc locs cells slots ls rest x q a => lv_lload_n hx hb hd hj q a) hk (ae_beq hn) h kk
  case iload j =>
    obtain ⟨hn, hl, hj⟩ := ae_bits3 hok
    obtain rfl := ae_beq hl
    obtain rfl := ae_beq hj
    exact as_ild (fun Hc locs cells slots ls rest x q a => lv_iload hx hb hd q a) hk (ae_beq hn) h kk
  case lload j =>
    obtain ⟨hn, hl, hj⟩ := ae_bits3 hok
    obtain rfl := ae_beq hl
    obtain rfl := ae_beq hj
    exact as_lld (fun Hc locs cells slots ls rest x q a => lv_lload hx hb hd q a) hk (ae_beq hn) h kk
  case aload_n j =>
    obtain ⟨hn, hl, hj⟩ := ae_bits3 hok
    obtain rfl := ae_beq hl
    have hj := ae_beq hj
    exact as_ald (fun Hc locs cells slots ls rest x q a => lv_aload_n hx hb hd hj q a) (fun Hc locs cells slots ls rest q a => lv_aload_nN hx hb hd hj q a) hk (ae_beq hn) h kk
  case aload j =>
    obtain ⟨hn, hl, hj⟩ := ae_bits3 hok
    obtain rfl := ae_beq hl
    obtain rfl := ae_beq hj
    exact as_ald (fun Hc locs cells slots ls rest x q a => lv_aload hx hb hd q a) (fun Hc locs cells slots ls rest q a => lv_aloadN hx hb hd q a) hk (ae_beq hn) h kk
  case istore_n j =>
    obtain ⟨hn, hl, hj, hL⟩ := ae_bits4 hok
    obtain rfl := ae_beq hl
    have hj := ae_beq hj
    exact as_ist (fun Hc locs cells slots ls rest x lv q a => lv_istore_n hx hb hd hj q (ae_blt hL) rfl a) hk (ae_beq hn) h kk
  case istore j =>
    obtain ⟨hn, hl, hj, hL⟩ := ae_bits4 hok
    obtain rfl := ae_beq hl
    obtain rfl := ae_beq hj
    exact as_ist (fun Hc locs cells slots ls rest x lv q a => lv_istore hx hb hd q (ae_blt hL) rfl a) hk (ae_beq hn) h kk
  case lstore_n j =>
    obtain ⟨hn, hl, hj, hL⟩ := ae_bits4 hok
    obtain rfl := ae_beq hl
    have hj := ae_beq hj
    exact as_lst (fun Hc locs cells slots ls rest x lv q a => lv_lstore_n hx hb hd hj q (ae_blt hL) rfl a) hk (ae_beq hn) h kk
  case lstore j =>
    obtain ⟨hn, hl, hj, hL⟩ := ae_bits4 hok
    obtain rfl := ae_beq hl
    obtain rfl := ae_beq hj
    exact as_lst (fun Hc locs cells slots ls rest x lv q a => lv_lstore hx hb hd q (ae_blt hL) rfl a) hk (ae_beq hn) h kk
  case astore_n j =>
    obtain ⟨hn, hl, hj, hL⟩ := ae_bits4 hok
    obtain rfl := ae_beq hl
    have hj := ae_beq hj
    exact as_ast (fun Hc locs cells slots ls rest x lv q a => lv_astore_n hx hb hd hj q (ae_blt hL) rfl a) (fun Hc locs cells slots ls rest lv q a => lv_astore_nN hx hb hd hj q (ae_blt hL) rfl a) hk (ae_beq hn) h kk
  case astore j =>
    obtain ⟨hn, hl, hj, hL⟩ := ae_bits4 hok
    obtain rfl := ae_beq hl
    obtain rfl := ae_beq hj
    exact as_ast (fun Hc locs cells slots ls rest x lv q a => lv_astore hx hb hd q (ae_blt hL) rfl a) (fun Hc locs cells slots ls rest lv q a => lv_astoreN hx hb hd q (ae_blt hL) rfl a) hk (ae_beq hn) h kk
  case iinc j q =>
    obtain ⟨hn, hl, hj, hL, hv⟩ := ae_bits5 hok
    obtain rfl := ae_beq hl
    obtain rfl := ae_beq hj
    exact as_inc hx hb hd (of_decide_eq_true hv) (ae_blt hL) hk (ae_beq hn) h kk
  case iadd =>
    obtain ⟨hn, hl⟩ := ae_bits2 hok
    obtain rfl := ae_beq hl
    have hn := ae_beq hn
    exact as_bin (fun Hc locs cells slots ls rest x y a => lv_iadd hx hb hd a) hk hn h kk
  case isub =>
    obtain ⟨hn, hl⟩ := ae_bits2 hok
    obtain rfl := ae_beq hl
    have hn := ae_beq hn
    exact as_bin (fun Hc locs cells slots ls rest x y a => lv_isub hx hb hd a) hk hn h kk
  case imul =>
    obtain ⟨hn, hl⟩ := ae_bits2 hok
    obtain rfl := ae_beq hl
    have hn := ae_beq hn
    exact as_bin (fun Hc locs cells slots ls rest x y a => lv_imul hx hb hd a) hk hn h kk
  case iand =>
    obtain ⟨hn, hl⟩ := ae_bits2 hok
    obtain rfl := ae_beq hl
    have hn := ae_beq hn
    exact as_bin (fun Hc locs cells slots ls rest x y a => lv_iand hx hb hd a) hk hn h kk
  case ishr =>
    obtain ⟨hn, hl⟩ := ae_bits2 hok
    obtain rfl := ae_beq hl
    have hn := ae_beq hn
    exact as_bin (fun Hc locs cells slots ls rest x y a => lv_ishr hx hb hd a) hk hn h kk
  case idiv =>
    obtain ⟨hn, hl⟩ := ae_bits2 hok
    obtain rfl := ae_beq hl
    have hn := ae_beq hn
    exact as_div (fun Hc locs cells slots ls rest x y hy a => lv_idiv hx hb hd hy a) hk hn h hG kk
  case irem =>
    obtain ⟨hn, hl⟩ := ae_bits2 hok
    obtain rfl := ae_beq hl
    have hn := ae_beq hn
    exact as_div (fun Hc locs cells slots ls rest x y hy a => lv_irem hx hb hd hy a) hk hn h hG kk
  case ineg =>
    obtain ⟨hn, hl⟩ := ae_bits2 hok
    obtain rfl := ae_beq hl
    have hn := ae_beq hn
    exact as_un (fun Hc locs cells slots ls rest x a => lv_ineg hx hb hd a) hk hn h kk
  case i2b =>
    obtain ⟨hn, hl⟩ := ae_bits2 hok
    obtain rfl := ae_beq hl
    have hn := ae_beq hn
    exact as_un (fun Hc locs cells slots ls rest x a => lv_i2b hx hb hd rfl a) hk hn h kk
  case i2s =>
    obtain ⟨hn, hl⟩ := ae_bits2 hok
    obtain rfl := ae_beq hl
    have hn := ae_beq hn
    exact as_un (fun Hc locs cells slots ls rest x a => lv_i2s hx hb hd rfl a) hk hn h kk
  case i2c =>
    obtain ⟨hn, hl⟩ := ae_bits2 hok
    obtain rfl := ae_beq hl
    have hn := ae_beq hn
    exact as_un (fun Hc locs cells slots ls rest x a => lv_i2c hx hb hd rfl a) hk hn h kk
  case ladd =>
    obtain ⟨hn, hl⟩ := ae_bits2 hok
    obtain rfl := ae_beq hl
    have hn := ae_beq hn
    exact as_binL (fun Hc locs cells slots ls rest x y a => lv_ladd hx hb hd a) hk hn h kk
  case lsub =>
    obtain ⟨hn, hl⟩ := ae_bits2 hok
    obtain rfl := ae_beq hl
    have hn := ae_beq hn
    exact as_binL (fun Hc locs cells slots ls rest x y a => lv_lsub hx hb hd a) hk hn h kk
  case lmul =>
    obtain ⟨hn, hl⟩ := ae_bits2 hok
    obtain rfl := ae_beq hl
    have hn := ae_beq hn
    exact as_binL (fun Hc locs cells slots ls rest x y a => lv_lmul hx hb hd a) hk hn h kk
  case land =>
    obtain ⟨hn, hl⟩ := ae_bits2 hok
    obtain rfl := ae_beq hl
    have hn := ae_beq hn
    exact as_binL (fun Hc locs cells slots ls rest x y a => lv_land hx hb hd a) hk hn h kk
  case lor =>
    obtain ⟨hn, hl⟩ := ae_bits2 hok
    obtain rfl := ae_beq hl
    have hn := ae_beq hn
    exact as_binL (fun Hc locs cells slots ls rest x y a => lv_lor hx hb hd a) hk hn h kk
  case ldiv =>
    obtain ⟨hn, hl⟩ := ae_bits2 hok
    obtain rfl := ae_beq hl
    have hn := ae_beq hn
    exact as_divL (fun Hc locs cells slots ls rest x y hy a => lv_ldiv hx hb hd hy a) hk hn h hG kk
  case lrem =>
    obtain ⟨hn, hl⟩ := ae_bits2 hok
    obtain rfl := ae_beq hl
    have hn := ae_beq hn
    exact as_divL (fun Hc locs cells slots ls rest x y hy a => lv_lrem hx hb hd hy a) hk hn h hG kk
  case lshl =>
    obtain ⟨hn, hl⟩ := ae_bits2 hok
    obtain rfl := ae_beq hl
    have hn := ae_beq hn
    exact as_shL (fun Hc locs cells slots ls rest x y a => lv_lshl hx hb hd rfl a) hk hn h kk
  case lshr =>
    obtain ⟨hn, hl⟩ := ae_bits2 hok
    obtain rfl := ae_beq hl
    have hn := ae_beq hn
    exact as_shL (fun Hc locs cells slots ls rest x y a => lv_lshr hx hb hd rfl a) hk hn h kk
  case lushr =>
    obtain ⟨hn, hl⟩ := ae_bits2 hok
    obtain rfl := ae_beq hl
    have hn := ae_beq hn
    exact as_shL (fun Hc locs cells slots ls rest x y a => lv_lushr hx hb hd rfl a) hk hn h kk
  case i2l =>
    obtain ⟨hn, hl⟩ := ae_bits2 hok
    obtain rfl := ae_beq hl
    have hn := ae_beq hn
    exact as_i2l hx hb hd hk hn h kk
  case l2i =>
    obtain ⟨hn, hl⟩ := ae_bits2 hok
    obtain rfl := ae_beq hl
    have hn := ae_beq hn
    exact as_l2i hx hb hd hk hn h kk
  case lcmp =>
    obtain ⟨hn, hl⟩ := ae_bits2 hok
    obtain rfl := ae_beq hl
    have hn := ae_beq hn
    exact as_lcmp hx hb hd hk hn h kk
  case dup =>
    obtain ⟨hn, hl⟩ := ae_bits2 hok
    obtain rfl := ae_beq hl
    have hn := ae_beq hn
    exact as_dup hx hb hd hk hn h kk
  case dup2 =>
    obtain ⟨hn, hl⟩ := ae_bits2 hok
    obtain rfl := ae_beq hl
    have hn := ae_beq hn
    exact as_dup2 hx hb hd hk hn h kk
  case pop =>
    obtain ⟨hn, hl⟩ := ae_bits2 hok
    obtain rfl := ae_beq hl
    have hn := ae_beq hn
    exact as_pop hx hb hd hk hn h kk
  case goto off =>
    obtain ⟨hl, ht⟩ := ae_bits2 hok
    obtain rfl := ae_beq hl
    have h : ae_nx (n1, L, S) H = some (.inl (G, st', H')) := h
    unfold ae_nx at h
    cases h
    refine as_row (fun Hc locs cells slots ls hl kk => ?_) kk
    rw [hk]
    exact lv_goto hx hb hd (of_decide_eq_true ht) (kk ls hl)
  case ifCond cnd off =>
    obtain ⟨hn, hl, ht⟩ := ae_bits3 hok
    obtain rfl := ae_beq hl
    cases cnd
    · exact as_if1 (fun Hc locs cells slots ls rest x a b => lv_if_eq hx hb hd (of_decide_eq_true ht) a b) hk (ae_beq hn) h kk
    · exact as_if1 (fun Hc locs cells slots ls rest x a b => lv_if_ne hx hb hd (of_decide_eq_true ht) a (fun z => b (fun y => y z))) hk (ae_beq hn) h kk
    · exact as_if1 (fun Hc locs cells slots ls rest x a b => lv_if_lt hx hb hd (of_decide_eq_true ht) a b) hk (ae_beq hn) h kk
    · exact as_if1 (fun Hc locs cells slots ls rest x a b => lv_if_ge hx hb hd (of_decide_eq_true ht) a b) hk (ae_beq hn) h kk
    · exact as_if1 (fun Hc locs cells slots ls rest x a b => lv_if_gt hx hb hd (of_decide_eq_true ht) a b) hk (ae_beq hn) h kk
    · exact as_if1 (fun Hc locs cells slots ls rest x a b => lv_if_le hx hb hd (of_decide_eq_true ht) a b) hk (ae_beq hn) h kk
  case if_icmp cnd off =>
    obtain ⟨hn, hl, ht⟩ := ae_bits3 hok
    obtain rfl := ae_beq hl
    cases cnd
    · exact as_if2 (fun Hc locs cells slots ls rest x y a b => lv_icmp_eq hx hb hd (of_decide_eq_true ht) a b) hk (ae_beq hn) h kk
    · exact as_if2 (fun Hc locs cells slots ls rest x y a b => lv_icmp_ne hx hb hd (of_decide_eq_true ht) a (fun z => b (fun y => y z))) hk (ae_beq hn) h kk
    · exact as_if2 (fun Hc locs cells slots ls rest x y a b => lv_icmp_lt hx hb hd (of_decide_eq_true ht) a b) hk (ae_beq hn) h kk
    · exact as_if2 (fun Hc locs cells slots ls rest x y a b => lv_icmp_ge hx hb hd (of_decide_eq_true ht) a b) hk (ae_beq hn) h kk
    · exact as_if2 (fun Hc locs cells slots ls rest x y a b => lv_icmp_gt hx hb hd (of_decide_eq_true ht) a b) hk (ae_beq hn) h kk
    · exact as_if2 (fun Hc locs cells slots ls rest x y a b => lv_icmp_le hx hb hd (of_decide_eq_true ht) a b) hk (ae_beq hn) h kk
  case ifnull off =>
    obtain ⟨hn, hl, ht⟩ := ae_bits3 hok
    obtain rfl := ae_beq hl
    have hn := ae_beq hn
    exact as_ifn (fun Hc locs cells slots ls rest x a => lv_ifnull hx hb hd (by rw [hn] at a; exact a)) (fun Hc locs cells slots ls rest a => lv_ifnullN hx hb hd (of_decide_eq_true ht) a) hk h kk
  case ifnonnull off =>
    obtain ⟨hn, hl, ht⟩ := ae_bits3 hok
    obtain rfl := ae_beq hl
    have hn := ae_beq hn
    exact as_ifn (fun Hc locs cells slots ls rest x a => lv_ifnonnull hx hb hd (of_decide_eq_true ht) a) (fun Hc locs cells slots ls rest a => lv_ifnonnullN hx hb hd (by rw [hn] at a; exact a)) hk h kk
  case tableswitch df lo top offs =>
    obtain ⟨ht, hlen, hhi, hall⟩ := ae_bits4 hok
    have hlen : cs.length = offs.size := of_decide_eq_true hlen
    have hhi : top = lo + (offs.size : Int) - 1 := of_decide_eq_true hhi
    have hall := List.all_eq_true.mp hall
    have hat : ∀ (j : Nat) (x : Int32) (t : Nat), cs[j]? = some (x, t) → ∃ off, offs[j]? = some off ∧ x.toInt = lo + (j : Int) ∧ (pc : Int) + off = (ae_pc cd t : Int) := by
      intro j x t hj
      have hjl : j < cs.length := (List.getElem?_eq_some_iff.mp hj).1
      have a := hall j (List.mem_range.mpr (by omega))
      have ho : offs[j]? = some (offs[j]'(by omega)) := Array.getElem?_eq_getElem (by omega)
      rw [hj, ho] at a
      obtain ⟨a1, a2⟩ := ae_bits2 a
      exact ⟨_, ho, of_decide_eq_true a1, of_decide_eq_true a2⟩
    refine as_swi (fun Hc locs cells slots ls rest x a => ?_) hk h kk
    rcases as_swt (x := x) (d := n1) cs with ⟨j, t, h1, h2⟩ | ⟨h1, h2⟩
    · rw [h2] at a
      obtain ⟨off, o1, o2, o3⟩ := hat j x t h1
      have hjl : j < cs.length := (List.getElem?_eq_some_iff.mp h1).1
      exact lv_tableIn hx hb hd (by omega) (by omega) (by rw [show (x.toInt - lo).toNat = j by omega]; exact o1) o3 a
    · rw [h2] at a
      refine lv_tableOut hx hb hd ?_ (of_decide_eq_true ht) a
      rcases Int.lt_or_le x.toInt lo with z | z
      · exact Or.inl z
      · rcases Int.lt_or_le top x.toInt with z2 | z2
        · exact Or.inr z2
        · exfalso
          have hjl : (x.toInt - lo).toNat < cs.length := by omega
          have hq : cs[(x.toInt - lo).toNat]? = some (cs[(x.toInt - lo).toNat]'hjl) := List.getElem?_eq_getElem hjl
          generalize cs[(x.toInt - lo).toNat]'hjl = q at hq
          obtain ⟨y, t⟩ := q
          obtain ⟨off, o1, o2, o3⟩ := hat _ y t hq
          refine h1 _ (List.mem_of_getElem? hq) (Int32.toInt_inj.mp ?_)
          show y.toInt = x.toInt
          omega
  case lookupswitch df ps =>
    obtain ⟨ht, hsort, hmap, hall⟩ := ae_bits4 hok
    have hmap : ps.toList.map (fun q => q.1) = cs.map (fun q => q.1.toInt) := of_decide_eq_true hmap
    have hall := List.all_eq_true.mp hall
    have hat : ∀ (j : Nat) (x : Int32) (t : Nat), cs[j]? = some (x, t) → ∃ off, ps.toList[j]? = some (x.toInt, off) ∧ (pc : Int) + off = (ae_pc cd t : Int) := by
      intro j x t hj
      have hjl : j < cs.length := (List.getElem?_eq_some_iff.mp hj).1
      have a := hall j (List.mem_range.mpr hjl)
      have hm : (ps.toList.map (fun q => q.1))[j]? = some x.toInt := by rw [hmap, List.getElem?_map, hj]; rfl
      rw [List.getElem?_map] at hm
      cases hp : ps.toList[j]? with
      | none => rw [hp] at hm; cases hm
      | some q =>
        obtain ⟨y, off⟩ := q
        rw [hp] at hm
        have hy : y = x.toInt := Option.some.inj hm
        rw [hj, hp] at a
        subst hy
        exact ⟨off, rfl, of_decide_eq_true a⟩
    refine as_swi (fun Hc locs cells slots ls rest x a => ?_) hk h kk
    have key := ae_lkp (x := x) (ae_tgt_eq ht) cs ps.toList hmap hat
    obtain ⟨off, k1, k2⟩ := key
    exact lv_lookup hx hb hd hsort k1 k2 a
  case getfield j =>
    obtain ⟨hn, hl, hq⟩ := ae_bits3 hok
    obtain rfl := ae_beq hl
    exact as_gf X (of_decide_eq_true hq) hd hk (ae_beq hn) h kk
  case putfield j =>
    obtain ⟨hn, hl, hq, hf⟩ := ae_bits4 hok
    obtain rfl := ae_beq hl
    refine as_pf X (of_decide_eq_true hq) (fun C T N hc hfin => ?_) hd hk (ae_beq hn) h hG kk
    rw [hc] at hf
    obtain ⟨-, hf⟩ := ae_bits2 hf
    rw [hfin] at hf
    simp only [Bool.not_true, Bool.false_or] at hf
    obtain ⟨f1, f2⟩ := ae_bits2 hf
    exact ⟨hini f1, of_decide_eq_true f2⟩
  case getstatic j =>
    obtain ⟨hn, hl, hq⟩ := ae_bits3 hok
    obtain rfl := ae_beq hl
    exact as_gs X (of_decide_eq_true hq) hd hk (ae_beq hn) h kk
  case iaload =>
    obtain ⟨hn, hl⟩ := ae_bits2 hok
    obtain rfl := ae_beq hl
    have hn := ae_beq hn
    exact as_iald X hd hk hn h hG kk
  case baload =>
    obtain ⟨hn, hl⟩ := ae_bits2 hok
    obtain rfl := ae_beq hl
    have hn := ae_beq hn
    exact as_bald X hd hk hn h hG kk
  case iastore =>
    obtain ⟨hn, hl⟩ := ae_bits2 hok
    obtain rfl := ae_beq hl
    have hn := ae_beq hn
    exact as_iast X hd hk hn h hG kk
  case bastore =>
    obtain ⟨hn, hl⟩ := ae_bits2 hok
    obtain rfl := ae_beq hl
    have hn := ae_beq hn
    exact as_bast X hd hk hn h hG kk
  case aaload =>
    obtain ⟨hn, hl⟩ := ae_bits2 hok
    obtain rfl := ae_beq hl
    have hn := ae_beq hn
    exact as_aald X hd hk hn h hG kk
  case aastore =>
    obtain ⟨hn, hl⟩ := ae_bits2 hok
    obtain rfl := ae_beq hl
    have hn := ae_beq hn
    exact as_aast X hd hk hn h hG kk
  case arraylength =>
    obtain ⟨hn, hl⟩ := ae_bits2 hok
    obtain rfl := ae_beq hl
    have hn := ae_beq hn
    exact as_alen X hd hk hn h kk
  case new j =>
    obtain ⟨hn, hl, hq⟩ := ae_bits3 hok
    obtain rfl := ae_beq hl
    exact as_new X (of_decide_eq_true hq) hd hk (ae_beq hn) hn0 hz0 h hRc hRs kk
  case newarray a =>
    obtain ⟨hn, hl, hq⟩ := ae_bits3 hok
    obtain rfl := ae_beq hl
    rw [Bool.or_eq_true] at hq
    exact as_newa X (hq.imp of_decide_eq_true of_decide_eq_true) hd hk (ae_beq hn) hn0 hz0 h hG hRc hRs kk
  case anewarray j =>
    obtain ⟨hn, hl, hq, ht⟩ := ae_bits4 hok
    obtain rfl := ae_beq hl
    rw [Bool.or_eq_true] at ht
    exact as_newq X (of_decide_eq_true hq) (ht.imp ae_beq ae_beq) hd hk (ae_beq hn) hn0 hz0 h hG hRc hRs kk
  case invokespecial j =>
    obtain ⟨hn, hl, hq⟩ := ae_bits3 hok
    obtain rfl := ae_beq hl
    have h : (match Nat.beq n1 1000 with | true => ae_oin k L S H | false => ae_call k L S H n1 n2 (ae_rk n1)) = some (.inl (G, st', H')) := h
    split at h
    · next hb2 =>
      rw [hb2] at hq
      exact as_oin X (by omega) (by omega) (of_decide_eq_true hq) hd hk (ae_beq hn) h kk
    · unfold ae_call at h
      split at h <;> cases h
  case invokestatic j =>
    obtain ⟨hn, hl, hq, hm⟩ := ae_bits4 hok
    obtain rfl := ae_beq hl
    have hq := of_decide_eq_true hq
    have h : (match Nat.beq n1 1001, Nat.beq n1 1002, Nat.beq n1 1003 with
      | true, _, _ => ae_copy k L S H
      | _, true, _ => ae_mx k L S H (fun x y => if x < y then y else x)
      | _, _, true => ae_mx k L S H (fun x y => if y < x then y else x)
      | _, _, _ => ae_call k L S H n1 n2 (ae_rk n1)) = some (.inl (G, st', H')) := h
    split at h
    · next h1 =>
      have h1 := ae_beq h1
      subst h1
      exact as_copy X (by omega) (by omega) hq hd hk (ae_beq hn) h hG kk
    · next h1 _ =>
      have h1 := ae_beq h1
      subst h1
      exact as_max X (by omega) (by omega) (by omega) (by omega) hq hd hk (ae_beq hn) h kk
    · next h1 _ _ =>
      have h1 := ae_beq h1
      subst h1
      exact as_min X (by omega) (by omega) (by omega) (by omega) hq hd hk (ae_beq hn) h kk
    · unfold ae_call at h
      split at h <;> cases h
  case invokevirtual j =>
    have h : ae_call k L S H n1 n2 (ae_rk n1) = some (.inl (G, st', H')) := h
    unfold ae_call at h
    split at h <;> cases h
  case ireturn =>
    have h : ae_iret S n1 = some (.inl (G, st', H')) := h
    unfold ae_iret at h
    split at h <;> cases h
  case lreturn =>
    have h : ae_lret S = some (.inl (G, st', H')) := h
    unfold ae_lret at h
    split at h <;> cases h
  case areturn =>
    have h : ae_aret S = some (.inl (G, st', H')) := h
    unfold ae_aret at h
    split at h <;> cases h
  case return_ =>
    have h : ae_vret S = some (.inl (G, st', H')) := h
    unfold ae_vret at h
    split at h <;> cases h
end AEN
