/-! a run of the machine over places is a run of the machine -/
section AEM
variable {g : ae_G} {p : Program} {l : Launch} {e : Env} {R : Room} {s : State} {m : MethodId} {args : Array Value} {below : List Frame} {meth : Method} {c : Code} {Q : State → Prop} {cc : ByteArray} {nL o n0 z0 d : Nat} {cd : List ae_I} {k pc len n1 n2 i : Nat} {L L' : List (Option Value)} {S S' : List Value} {H H' H1 : ae_H} {G : Prop} {st' : ae_S} {v : Value} {r1 : Option Value} {as : List Value} {mm : Nat}
/-- a method's row, opened -/
theorem ae_row {q : ae_M} (hm : mm < 186) (hq : ae_mg mm = some q) : plainName q.1.cls = true ∧ q.1.cls = ae_cn q.2.2.2.2.1 ∧ q.1.cls ≠ "java/lang/invoke/MethodHandle" ∧ q.1.cls ≠ "java/lang/invoke/VarHandle" ∧ q.2.2.1 ≤ 41 ∧ (parseMethodDescriptor q.1.desc).map (fun d => d.parameters.length) = some (if q.2.2.2.2.2.2 = true then q.2.2.2.2.2.1 else q.2.2.2.2.2.1 - 1) ∧ (q.2.2.2.2.2.2 = true ∨ 0 < q.2.2.2.2.2.1) ∧ ae_pc (ae_cd mm) 0 = 0 := by
  have h := (ae_ok hm).1
  unfold ae_okh at h
  rw [hq] at h
  obtain ⟨y, cc, nL, rt, o, na, st⟩ := q
  simp only [Bool.and_eq_true, decide_eq_true_eq, Bool.or_eq_true] at h
  obtain ⟨⟨⟨⟨h1, h2⟩, h3⟩, h4⟩, h5⟩ := h
  exact ⟨h1, h2.1, h2.2.1, h2.2.2.1, h2.2.2.2, h3, h4.imp id (fun z => Nat.blt_eq ▸ z), ae_beq h5⟩
theorem ae_callB {q : ae_M} {own : String} {nn : Nat} (X : ae_cx g p s m args c cc nL o) (hm : mm < 186) (hq : ae_mg mm = some q) (hown : own = ae_cn o) (hfr : d + 1 ≤ R.frames) (hlo : 60 * (d + 1) ≤ R.locals) (hl : (Cond.methodLink own i q.1).before args s = true) (hn : (if q.2.2.2.2.2.2 = true then q.2.2.2.2.2.1 else q.2.2.2.2.2.1 - 1) = nn) :
    CallB R s args own i q.1 q.2.1 q.2.2.1 q.2.2.2.1 (ae_ws q) (ae_rm d H H1) (H1.length - H.length) (ae_sz H1 - ae_sz H) nn := by
  obtain ⟨hx, hb, hml, hown', hts, hE⟩ := X
  obtain ⟨r0, r1, r2, r3, r4, r5, r6, r7⟩ := ae_row hm hq
  refine callB_of (Ts := ae_W) nn hts (ae_goodIn hm hq) rfl rfl rfl (hts _ (ae_inI hm hq)) hl ⟨r2, r3, by rw [r5, hn]⟩ ⟨hfr, ?_⟩
  show 8 + (q.2.2.1 + 11) + 60 * d ≤ R.locals
  omega
theorem ae_okc_spec {st : Bool} (h : ae_okc mm n2 st = true) : ∃ q, ae_mg mm = some q ∧ q.2.2.2.2.2.1 = n2 ∧ q.2.2.2.2.2.2 = st ∧ mm < 186 := by
  unfold ae_okc at h
  split at h
  · next q hq =>
    simp only [Bool.and_eq_true] at h
    exact ⟨q, hq, ae_beq h.1.1, by simpa using h.1.2, Nat.blt_eq ▸ h.2⟩
  · cases h
theorem ae_my_eq {q : ae_M} (hq : ae_mg mm = some q) : ae_my mm = q.1 := by
  rw [ae_mg, ae_get_eq] at hq
  unfold ae_my
  rw [hq]
  rfl
theorem ae_ly_eq (hm : mm < 186) : ae_ly mm = ae_my mm := by
  unfold ae_ly
  rw [if_neg (by omega), if_neg (by omega), if_neg (by omega), if_neg (by omega)]
theorem ae_rk_eq {q : ae_M} (hq : ae_mg mm = some q) : ae_rk mm = if q.2.2.2.2.2.2 = true then 50 else ae_kd q.2.2.2.2.1 := by
  unfold ae_rk
  rw [hq]
  obtain ⟨y, cc, nL, rt, o, na, st⟩ := q
  cases st <;> rfl
theorem ae_stack {as : List Value} {nn : Nat} (h : as = (S.take nn).reverse) : S.map (ae_cv g) = (as.map (ae_cv g)).reverse ++ (S.drop nn).map (ae_cv g) := by
  rw [h, ← List.map_reverse, List.reverse_reverse, ← List.map_append, List.take_append_drop]
theorem ae_aslen {as : List Value} {nn : Nat} (h : as = (S.take nn).reverse) (hn : nn ≤ S.length) : as.length = nn := by
  rw [h, List.length_reverse, List.length_take]
  omega
theorem as_callS (X : ae_cx g p s m args c cc nL o) (hfr : d + 1 ≤ R.frames) (hlo : 60 * (d + 1) ≤ R.locals) (hq : (o, i, mm) ∈ ae_LT) (hok : ae_okc mm n2 true = true) (hd : decode cc pc = .ok (.invokestatic i, 3)) (hk : ae_pc cd k = pc) (hn : ae_pc cd (k + 1) = pc + 3) (hn0 : n0 ≤ H.length) (hz0 : z0 ≤ ae_sz H) {m2 : Nat} (h : ae_call k L S H mm n2 (ae_rk mm) = some (.inr (.inr (m2, as, st')))) (hM : ae_Ct g l d m2 as H r1 H1) (hRc : H1.length - n0 ≤ R.cells) (hRs : ae_sz H1 - z0 ≤ R.slots)
    (kk : ae_WA g p l e R s m args below meth c Q nL n0 z0 cd (ae_back st' r1) H1) : ae_WA g p l e R s m args below meth c Q nL n0 z0 cd (k, L, S) H := by
  obtain ⟨rfl, has, rfl, hnS, hcat, -⟩ := ae_call_spec h
  obtain ⟨q, hqm, hna, hst, hm⟩ := ae_okc_spec hok
  obtain ⟨h1, h2, hMet⟩ := hM
  have hMet := hMet q hqm
  have hw := X.2.2.2.2.1 _ (ae_inL hq)
  simp only [ae_lw, ae_ly_eq hm, ae_my_eq hqm] at hw
  have hflag := X.2.2.2.2.1 _ (ae_inG hm hqm)
  rw [ae_flagw, if_pos hst] at hflag
  have cb := ae_callB (H := H) (H1 := H1) X hm hqm rfl hfr hlo hw (nn := n2) (by rw [if_pos hst, hna])
  obtain ⟨hx, hb, hml, hown, hts, hE⟩ := X
  intro Hc locs ls hS hL hl
  simp only [hk]
  refine ae_run_end (rest := S.drop n2) (va_runS (As := as.map (ae_cv g)) ⟨hx, hb, hml, hown, hts⟩ hMet ⟨cb, hflag⟩ ⟨ae_blind, fun U hU hW => ⟨rfl, by rw [hU]; exact hS, ae_E_warm hW hE⟩⟩ rfl (by rw [List.length_map]; exact ae_aslen has hnS) hl.1 (ae_stack has) (lv_room (by rw [ae_cat_map]; exact hcat)) hd ⟨by omega, by omega⟩) hL hl hn0 hz0 h1 h2 hn kk
theorem ae_inst_args {q : ae_M} (hqm : ae_mg mm = some q) (hst : q.2.2.2.2.2.2 = false) (ho : q.2.2.2.2.1 < 14) (h : ae_rk mm = 50 ∨ ∃ v l, (S.take n2).reverse = v :: l ∧ ae_isk H (ae_rk mm) v = true) {Hc : Heap} (hE : ae_E g s) (hS : ae_SM g Hc H) : ∃ (v : Value) (l : List Value) (b : Nat), (S.take n2).reverse = v :: l ∧ ae_cv g v = .ref b ∧ ∃ cellB : Cell, Hc[b]? = some cellB ∧ cellB.vm.isStatics = false ∧ s.vm.findClass (ae_cn q.2.2.2.2.1) = some cellB.cls := by
  rw [ae_rk_eq hqm, if_neg (by rw [hst]; decide)] at h
  rcases h with h | ⟨v, l, h1, h2⟩
  · exfalso
    have a : ∀ o, o < 14 → ae_kd o ≠ 50 := by decide
    exact a _ ho h
  · obtain ⟨b, hb, hc⟩ := ae_recv hE hS ho h2
    exact ⟨v, l, b, h1, hb, hc⟩
theorem ae_own_lt {q : ae_M} (hm : mm < 186) (hqm : ae_mg mm = some q) : q.2.2.2.2.1 < 14 := by
  have a : ae_mt.all (fun q => Nat.blt q.2.2.2.2.1 14) = true := by decide +kernel
  rw [ae_mg, ae_get_eq] at hqm
  exact Nat.blt_eq ▸ (List.all_eq_true.mp a q (List.mem_of_getElem? hqm))
theorem as_callV (X : ae_cx g p s m args c cc nL o) (hfr : d + 1 ≤ R.frames) (hlo : 60 * (d + 1) ≤ R.locals) (hq : (o, i, mm) ∈ ae_LT) (hok : ae_okc mm n2 false = true) (hsel : mm ∈ ae_sels) (hd : decode cc pc = .ok (.invokevirtual i, 3)) (hk : ae_pc cd k = pc) (hn : ae_pc cd (k + 1) = pc + 3) (hn0 : n0 ≤ H.length) (hz0 : z0 ≤ ae_sz H) {m2 : Nat} (h : ae_call k L S H mm n2 (ae_rk mm) = some (.inr (.inr (m2, as, st')))) (hM : ae_Ct g l d m2 as H r1 H1) (hRc : H1.length - n0 ≤ R.cells) (hRs : ae_sz H1 - z0 ≤ R.slots)
    (kk : ae_WA g p l e R s m args below meth c Q nL n0 z0 cd (ae_back st' r1) H1) : ae_WA g p l e R s m args below meth c Q nL n0 z0 cd (k, L, S) H := by
  obtain ⟨rfl, has, rfl, hnS, hcat, hrk⟩ := ae_call_spec h
  obtain ⟨q, hqm, hna, hst, hm⟩ := ae_okc_spec hok
  obtain ⟨h1, h2, hMet⟩ := hM
  have hMet := hMet q hqm
  have hw := X.2.2.2.2.1 _ (ae_inL hq)
  simp only [ae_lw, ae_ly_eq hm, ae_my_eq hqm] at hw
  have hflag := X.2.2.2.2.1 _ (ae_inG hm hqm)
  rw [ae_flagw, if_neg (by rw [hst]; decide)] at hflag
  have hse := X.2.2.2.2.1 _ (ae_inS hsel)
  rw [ae_my_eq hqm] at hse
  have cb := ae_callB (H := H) (H1 := H1) X hm hqm rfl hfr hlo hw (nn := n2 - 1) (by rw [if_neg (by rw [hst]; decide), hna])
  obtain ⟨r0, rc, r2, r3, r4, r5, r6, r7⟩ := ae_row hm hqm
  obtain ⟨hx, hb, hml, hown, hts, hE⟩ := X
  intro Hc locs ls hS hL hl
  obtain ⟨w, l2, b, e1, e2, hcell⟩ := ae_inst_args hqm hst (ae_own_lt hm hqm) hrk hE hS
  have has2 : as = w :: l2 := has.trans e1
  have hargs : (Value.ref b :: l2.map (ae_cv g)) = as.map (ae_cv g) := by rw [has2, List.map_cons, e2]
  have hlen : (l2.map (ae_cv g)).length = n2 - 1 := by
    have a := ae_aslen has hnS
    rw [has2, List.length_cons] at a
    rw [List.length_map]
    omega
  have hstk : S.map (ae_cv g) = (l2.map (ae_cv g)).reverse ++ .ref b :: (S.drop n2).map (ae_cv g) := by
    rw [ae_stack (g := g) has, ← hargs, List.reverse_cons, List.append_assoc]
    rfl
  simp only [hk]
  refine ae_run_end (rest := S.drop n2) (va_runV (As := l2.map (ae_cv g)) (C := q.1.cls) ⟨hx, hb, hml, hown, hts⟩ hMet ⟨cb, hflag, hse⟩ ⟨ae_blind, by rw [rc]; exact hcell, fun U hU hW => ⟨by rw [hargs], by rw [hU]; exact hS, ae_E_warm hW hE⟩⟩ rfl hlen hl.1 hstk (lv_room (by rw [ae_cat_map]; exact hcat)) hd ⟨by omega, by omega⟩) hL hl hn0 hz0 h1 h2 hn kk
theorem as_callI (X : ae_cx g p s m args c cc nL o) (hfr : d + 1 ≤ R.frames) (hlo : 60 * (d + 1) ≤ R.locals) (hq : (o, i, mm) ∈ ae_LT ∨ (o, i, mm) ∈ ae_NT) (hok : ae_okc mm n2 false = true) (hini : (ae_my mm).name = "<init>") (hret : ∀ q, ae_mg mm = some q → q.2.2.2.1 = none) (hd : decode cc pc = .ok (.invokespecial i, 3)) (hk : ae_pc cd k = pc) (hn : ae_pc cd (k + 1) = pc + 3) (hn0 : n0 ≤ H.length) (hz0 : z0 ≤ ae_sz H) {m2 : Nat} (h : ae_call k L S H mm n2 (ae_rk mm) = some (.inr (.inr (m2, as, st')))) (hM : ae_Ct g l d m2 as H r1 H1) (hRc : H1.length - n0 ≤ R.cells) (hRs : ae_sz H1 - z0 ≤ R.slots)
    (kk : ae_WA g p l e R s m args below meth c Q nL n0 z0 cd (ae_back st' r1) H1) : ae_WA g p l e R s m args below meth c Q nL n0 z0 cd (k, L, S) H := by
  obtain ⟨rfl, has, rfl, hnS, hcat, hrk⟩ := ae_call_spec h
  obtain ⟨q, hqm, hna, hst, hm⟩ := ae_okc_spec hok
  obtain ⟨h1, h2, hMet⟩ := hM
  have hMet := hMet q hqm
  have hrt := hret q hqm
  rw [ae_my_eq hqm] at hini
  have hflag := X.2.2.2.2.1 _ (ae_inG hm hqm)
  rw [ae_flagw, if_neg (by rw [hst]; decide)] at hflag
  obtain ⟨r0, rc, r2, r3, r4, r5, r6, r7⟩ := ae_row hm hqm
  intro Hc locs ls hS hL hl
  obtain ⟨w, l2, b, e1, e2, hcell⟩ := ae_inst_args hqm hst (ae_own_lt hm hqm) hrk X.2.2.2.2.2 hS
  have has2 : as = w :: l2 := has.trans e1
  have hargs : (Value.ref b :: l2.map (ae_cv g)) = as.map (ae_cv g) := by rw [has2, List.map_cons, e2]
  have hlen : (l2.map (ae_cv g)).length = n2 - 1 := by
    have a := ae_aslen has hnS
    rw [has2, List.length_cons] at a
    rw [List.length_map]
    omega
  have hstk : S.map (ae_cv g) = (l2.map (ae_cv g)).reverse ++ .ref b :: (S.drop n2).map (ae_cv g) := by
    rw [ae_stack (g := g) has, ← hargs, List.reverse_cons, List.append_assoc]
    rfl
  simp only [hk]
  rcases hq with hq | hq
  · have hw := X.2.2.2.2.1 _ (ae_inL hq)
    simp only [ae_lw, ae_ly_eq hm, ae_my_eq hqm] at hw
    have cb := ae_callB (H := H) (H1 := H1) X hm hqm rfl hfr hlo hw (nn := n2 - 1) (by rw [if_neg (by rw [hst]; decide), hna])
    rw [hrt] at cb
    obtain ⟨hx, hb, hml, hown, hts, hE⟩ := X
    exact ae_run_end (rest := S.drop n2) (va_runI (As := l2.map (ae_cv g)) ⟨hx, hb, hml, hown, hts⟩ hMet ⟨cb, hini, hflag⟩ ⟨ae_blind, fun U hU hW => ⟨by rw [hargs], by rw [hU]; exact hS, ae_E_warm hW hE⟩⟩ rfl hlen hl.1 hstk (lv_room (by rw [ae_cat_map]; exact hcat)) hd ⟨by omega, by omega⟩) hL hl hn0 hz0 h1 h2 hn kk
  · have hw := X.2.2.2.2.2.2.2.2.1 _ hq
    simp only [ae_my_eq hqm] at hw
    obtain ⟨hx, hb, hml, hown, hts, hE⟩ := X
    have cn : va_CN R s args (ae_cn o) i q.1 "DriedOut" q.2.1 q.2.2.1 none (ae_ws q) (ae_rm d H H1) (H1.length - H.length) (ae_sz H1 - ae_sz H) (n2 - 1) := by
      refine va_cnB (Ts := ae_W) (n2 - 1) hts (ae_goodIn hm hqm) (by rw [← hrt]; rfl) rfl rfl hw (hts _ (ae_inI hm hqm)) ⟨r2, r3, by rw [r5, if_neg (by rw [hst]; decide), hna]⟩ ⟨hfr, ?_⟩
      show 8 + (q.2.2.1 + 11) + 60 * d ≤ R.locals
      omega
    exact ae_run_end (rest := S.drop n2) (va_runIN (As := l2.map (ae_cv g)) ⟨hx, hb, hml, hown, hts⟩ hMet ⟨cn, hini, hflag⟩ ⟨ae_blind, fun U hU hW => ⟨by rw [hargs], by rw [hU]; exact hS, ae_E_warm hW hE⟩⟩ rfl hlen hl.1 hstk (lv_room (by rw [ae_cat_map]; exact hcat)) hd ⟨by omega, by omega⟩) hL hl hn0 hz0 h1 h2 hn kk
end AEM
