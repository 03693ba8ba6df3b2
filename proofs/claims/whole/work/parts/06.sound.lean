/-! each step of the machine over places is a step of the machine -/
def ae_WA (g : ae_G) (p : Program) (l : Launch) (e : Env) (R : Room) (s : State) (m : MethodId) (args : Array Value) (below : List Frame) (meth : Method) (c : Code) (Q : State → Prop) (nL n0 z0 : Nat) (cd : List ae_I) (st : ae_S) (AH : ae_H) : Prop :=
  ∀ (Hc : Heap) (locs : List Loc) (ls : Array Slot), ae_SM g Hc AH → (∀ q ∈ locs, g.1 ≤ q.base) → lv_has ls nL (ae_lp g 0 st.2.1) → W p l e R s m args below meth c Hc locs (AH.length - n0) (ae_sz AH - z0) Q (F0 m (ae_pc cd st.1) ls (st.2.2.map (ae_cv g)))
def ae_cx (g : ae_G) (p : Program) (s : State) (m : MethodId) (args : Array Value) (c : Code) (cc : ByteArray) (nL o : Nat) : Prop :=
  p.tables.exec = Jvm.exec ∧ c.code = cc ∧ c.maxLocals = nL ∧ s.vm.findClass (ae_cn o) = some m.cls ∧ (∀ w ∈ ae_W, w.before args s = true) ∧ ae_E g s
section AES
variable {g : ae_G} {p : Program} {l : Launch} {e : Env} {R : Room} {s : State} {m : MethodId} {args : Array Value} {below : List Frame} {meth : Method} {c : Code} {Q : State → Prop} {cc : ByteArray} {nL o n0 z0 : Nat} {cd : List ae_I} {k pc len n1 n2 : Nat} {L L' : List (Option Value)} {S S' : List Value} {H H' : ae_H} {G : Prop} {st' : ae_S} {v : Value}
theorem as_bin {f : Int32 → Int32 → Int32} (hrow : ∀ (Hc : Heap) (locs : List Loc) (cells slots : Nat) (ls : Array Slot) (rest : List Value) (x y : Int32), W p l e R s m args below meth c Hc locs cells slots Q (F0 m (pc + 1) ls (.int (f x y) :: rest)) → W p l e R s m args below meth c Hc locs cells slots Q (F0 m pc ls (.int y :: .int x :: rest))) (hk : ae_pc cd k = pc) (hn : ae_pc cd (k + 1) = pc + 1) (h : ae_bin k L S H f = some (.inl (G, st', H')))
    (kk : ae_WA g p l e R s m args below meth c Q nL n0 z0 cd st' H') : ae_WA g p l e R s m args below meth c Q nL n0 z0 cd (k, L, S) H := by
  unfold ae_bin ae_nx at h
  split at h
  · cases h
    intro Hc locs ls hS hL hl
    have := kk Hc locs ls hS hL hl
    simp only [hn] at this
    simp only [hk]
    exact hrow _ _ _ _ _ _ _ _ this
  · cases h
theorem as_div {f : Int32 → Int32 → Int32} (hrow : ∀ (Hc : Heap) (locs : List Loc) (cells slots : Nat) (ls : Array Slot) (rest : List Value) (x y : Int32), ¬ y = 0 → W p l e R s m args below meth c Hc locs cells slots Q (F0 m (pc + 1) ls (.int (f x y) :: rest)) → W p l e R s m args below meth c Hc locs cells slots Q (F0 m pc ls (.int y :: .int x :: rest))) (hk : ae_pc cd k = pc) (hn : ae_pc cd (k + 1) = pc + 1) (h : ae_div k L S H f = some (.inl (G, st', H'))) (hG : G)
    (kk : ae_WA g p l e R s m args below meth c Q nL n0 z0 cd st' H') : ae_WA g p l e R s m args below meth c Q nL n0 z0 cd (k, L, S) H := by
  unfold ae_div ae_ng at h
  split at h
  · cases h
    intro Hc locs ls hS hL hl
    have := kk Hc locs ls hS hL hl
    simp only [hn] at this
    simp only [hk]
    exact hrow _ _ _ _ _ _ _ _ hG this
  · cases h
theorem as_un {f : Int32 → Int32} (hrow : ∀ (Hc : Heap) (locs : List Loc) (cells slots : Nat) (ls : Array Slot) (rest : List Value) (x : Int32), W p l e R s m args below meth c Hc locs cells slots Q (F0 m (pc + 1) ls (.int (f x) :: rest)) → W p l e R s m args below meth c Hc locs cells slots Q (F0 m pc ls (.int x :: rest))) (hk : ae_pc cd k = pc) (hn : ae_pc cd (k + 1) = pc + 1) (h : ae_un k L S H f = some (.inl (G, st', H')))
    (kk : ae_WA g p l e R s m args below meth c Q nL n0 z0 cd st' H') : ae_WA g p l e R s m args below meth c Q nL n0 z0 cd (k, L, S) H := by
  unfold ae_un ae_nx at h
  split at h
  · cases h
    intro Hc locs ls hS hL hl
    have := kk Hc locs ls hS hL hl
    simp only [hn] at this
    simp only [hk]
    exact hrow _ _ _ _ _ _ _ this
  · cases h
theorem as_binL {f : Int64 → Int64 → Int64} (hrow : ∀ (Hc : Heap) (locs : List Loc) (cells slots : Nat) (ls : Array Slot) (rest : List Value) (x y : Int64), W p l e R s m args below meth c Hc locs cells slots Q (F0 m (pc + 1) ls (.long (f x y) :: rest)) → W p l e R s m args below meth c Hc locs cells slots Q (F0 m pc ls (.long y :: .long x :: rest))) (hk : ae_pc cd k = pc) (hn : ae_pc cd (k + 1) = pc + 1) (h : ae_binL k L S H f = some (.inl (G, st', H')))
    (kk : ae_WA g p l e R s m args below meth c Q nL n0 z0 cd st' H') : ae_WA g p l e R s m args below meth c Q nL n0 z0 cd (k, L, S) H := by
  unfold ae_binL ae_nx at h
  split at h
  · cases h
    intro Hc locs ls hS hL hl
    have := kk Hc locs ls hS hL hl
    simp only [hn] at this
    simp only [hk]
    exact hrow _ _ _ _ _ _ _ _ this
  · cases h
theorem as_divL {f : Int64 → Int64 → Int64} (hrow : ∀ (Hc : Heap) (locs : List Loc) (cells slots : Nat) (ls : Array Slot) (rest : List Value) (x y : Int64), ¬ y = 0 → W p l e R s m args below meth c Hc locs cells slots Q (F0 m (pc + 1) ls (.long (f x y) :: rest)) → W p l e R s m args below meth c Hc locs cells slots Q (F0 m pc ls (.long y :: .long x :: rest))) (hk : ae_pc cd k = pc) (hn : ae_pc cd (k + 1) = pc + 1) (h : ae_divL k L S H f = some (.inl (G, st', H'))) (hG : G)
    (kk : ae_WA g p l e R s m args below meth c Q nL n0 z0 cd st' H') : ae_WA g p l e R s m args below meth c Q nL n0 z0 cd (k, L, S) H := by
  unfold ae_divL ae_ng at h
  split at h
  · cases h
    intro Hc locs ls hS hL hl
    have := kk Hc locs ls hS hL hl
    simp only [hn] at this
    simp only [hk]
    exact hrow _ _ _ _ _ _ _ _ hG this
  · cases h
theorem as_shL {f : Int64 → Int32 → Int64} (hrow : ∀ (Hc : Heap) (locs : List Loc) (cells slots : Nat) (ls : Array Slot) (rest : List Value) (x : Int64) (y : Int32), W p l e R s m args below meth c Hc locs cells slots Q (F0 m (pc + 1) ls (.long (f x y) :: rest)) → W p l e R s m args below meth c Hc locs cells slots Q (F0 m pc ls (.int y :: .long x :: rest))) (hk : ae_pc cd k = pc) (hn : ae_pc cd (k + 1) = pc + 1) (h : ae_shL k L S H f = some (.inl (G, st', H')))
    (kk : ae_WA g p l e R s m args below meth c Q nL n0 z0 cd st' H') : ae_WA g p l e R s m args below meth c Q nL n0 z0 cd (k, L, S) H := by
  unfold ae_shL ae_nx at h
  split at h
  · cases h
    intro Hc locs ls hS hL hl
    have := kk Hc locs ls hS hL hl
    simp only [hn] at this
    simp only [hk]
    exact hrow _ _ _ _ _ _ _ _ this
  · cases h
/-- a step that leaves the heap: its row, from any stack and locals -/
theorem as_row {k' : Nat} (hrow : ∀ (Hc : Heap) (locs : List Loc) (cells slots : Nat) (ls : Array Slot), lv_has ls nL (ae_lp g 0 L) → (∀ ls', lv_has ls' nL (ae_lp g 0 L') → W p l e R s m args below meth c Hc locs cells slots Q (F0 m (ae_pc cd k') ls' (S'.map (ae_cv g)))) → W p l e R s m args below meth c Hc locs cells slots Q (F0 m (ae_pc cd k) ls (S.map (ae_cv g))))
    (kk : ae_WA g p l e R s m args below meth c Q nL n0 z0 cd (k', L', S') H) : ae_WA g p l e R s m args below meth c Q nL n0 z0 cd (k, L, S) H :=
  fun Hc locs ls hS hL hl => hrow Hc locs _ _ ls hl (fun ls' hl' => kk Hc locs ls' hS hL hl')
theorem as_push {w : Value} (hrow : ∀ (Hc : Heap) (locs : List Loc) (cells slots : Nat) (ls : Array Slot) (rest : List Value), W p l e R s m args below meth c Hc locs cells slots Q (F0 m (pc + len) ls (ae_cv g w :: rest)) → W p l e R s m args below meth c Hc locs cells slots Q (F0 m pc ls rest)) (hk : ae_pc cd k = pc) (hn : ae_pc cd (k + 1) = pc + len) (h : ae_nx (k + 1, L, w :: S) H = some (.inl (G, st', H')))
    (kk : ae_WA g p l e R s m args below meth c Q nL n0 z0 cd st' H') : ae_WA g p l e R s m args below meth c Q nL n0 z0 cd (k, L, S) H := by
  unfold ae_nx at h
  cases h
  refine as_row (fun Hc locs cells slots ls hl kk => ?_) kk
  rw [hk]
  have := kk ls hl
  rw [hn] at this
  exact hrow _ _ _ _ _ _ this
theorem as_ild (hrow : ∀ (Hc : Heap) (locs : List Loc) (cells slots : Nat) (ls : Array Slot) (rest : List Value) (x : Int32), ls[n1]? = some (.val (.int x)) → W p l e R s m args below meth c Hc locs cells slots Q (F0 m (pc + len) ls (.int x :: rest)) → W p l e R s m args below meth c Hc locs cells slots Q (F0 m pc ls rest)) (hk : ae_pc cd k = pc) (hn : ae_pc cd (k + 1) = pc + len) (h : ae_ild k L S H n1 = some (.inl (G, st', H')))
    (kk : ae_WA g p l e R s m args below meth c Q nL n0 z0 cd st' H') : ae_WA g p l e R s m args below meth c Q nL n0 z0 cd (k, L, S) H := by
  unfold ae_ild ae_nx at h
  split at h
  · next x hx =>
    cases h
    refine as_row (fun Hc locs cells slots ls hl kk => ?_) kk
    rw [hk]
    have := kk ls hl
    rw [hn] at this
    exact hrow _ _ _ _ _ _ x (ae_lp_at hl hx) this
  · cases h
theorem as_lld (hrow : ∀ (Hc : Heap) (locs : List Loc) (cells slots : Nat) (ls : Array Slot) (rest : List Value) (x : Int64), ls[n1]? = some (.val (.long x)) → W p l e R s m args below meth c Hc locs cells slots Q (F0 m (pc + len) ls (.long x :: rest)) → W p l e R s m args below meth c Hc locs cells slots Q (F0 m pc ls rest)) (hk : ae_pc cd k = pc) (hn : ae_pc cd (k + 1) = pc + len) (h : ae_lld k L S H n1 = some (.inl (G, st', H')))
    (kk : ae_WA g p l e R s m args below meth c Q nL n0 z0 cd st' H') : ae_WA g p l e R s m args below meth c Q nL n0 z0 cd (k, L, S) H := by
  unfold ae_lld ae_nx at h
  split at h
  · next x hx =>
    cases h
    refine as_row (fun Hc locs cells slots ls hl kk => ?_) kk
    rw [hk]
    have := kk ls hl
    rw [hn] at this
    exact hrow _ _ _ _ _ _ x (ae_lp_at hl hx) this
  · cases h
theorem as_ald (hrow : ∀ (Hc : Heap) (locs : List Loc) (cells slots : Nat) (ls : Array Slot) (rest : List Value) (x : Nat), ls[n1]? = some (.val (.ref x)) → W p l e R s m args below meth c Hc locs cells slots Q (F0 m (pc + len) ls (.ref x :: rest)) → W p l e R s m args below meth c Hc locs cells slots Q (F0 m pc ls rest))
    (hrowN : ∀ (Hc : Heap) (locs : List Loc) (cells slots : Nat) (ls : Array Slot) (rest : List Value), ls[n1]? = some (.val .null) → W p l e R s m args below meth c Hc locs cells slots Q (F0 m (pc + len) ls (.null :: rest)) → W p l e R s m args below meth c Hc locs cells slots Q (F0 m pc ls rest)) (hk : ae_pc cd k = pc) (hn : ae_pc cd (k + 1) = pc + len) (h : ae_ald k L S H n1 = some (.inl (G, st', H')))
    (kk : ae_WA g p l e R s m args below meth c Q nL n0 z0 cd st' H') : ae_WA g p l e R s m args below meth c Q nL n0 z0 cd (k, L, S) H := by
  unfold ae_ald ae_nx at h
  split at h
  · next x hx =>
    cases h
    refine as_row (fun Hc locs cells slots ls hl kk => ?_) kk
    rw [hk]
    have := kk ls hl
    rw [hn] at this
    exact hrow _ _ _ _ _ _ _ (ae_lp_at hl hx) this
  · next x hx =>
    cases h
    refine as_row (fun Hc locs cells slots ls hl kk => ?_) kk
    rw [hk]
    have := kk ls hl
    rw [hn] at this
    exact hrow _ _ _ _ _ _ _ (ae_lp_at hl hx) this
  · next hx =>
    cases h
    refine as_row (fun Hc locs cells slots ls hl kk => ?_) kk
    rw [hk]
    have := kk ls hl
    rw [hn] at this
    exact hrowN _ _ _ _ _ _ (ae_lp_at hl hx) this
  · cases h
theorem as_ist (hrow : ∀ (Hc : Heap) (locs : List Loc) (cells slots : Nat) (ls : Array Slot) (rest : List Value) (x : Int32) (lv : List (Nat × Value)), lv_has ls nL lv → (∀ ls', lv_has ls' nL ((n1, .int x) :: lv.filter (fun q => !(q.1 == n1) && !(q.1 + 1 == n1 && q.2.category == 2))) → W p l e R s m args below meth c Hc locs cells slots Q (F0 m (pc + len) ls' rest)) → W p l e R s m args below meth c Hc locs cells slots Q (F0 m pc ls (.int x :: rest))) (hk : ae_pc cd k = pc) (hn : ae_pc cd (k + 1) = pc + len) (h : ae_ist k L S H n1 = some (.inl (G, st', H')))
    (kk : ae_WA g p l e R s m args below meth c Q nL n0 z0 cd st' H') : ae_WA g p l e R s m args below meth c Q nL n0 z0 cd (k, L, S) H := by
  unfold ae_ist ae_nx at h
  split at h
  · next x r hx =>
    cases h
    refine as_row (fun Hc locs cells slots ls hl kk => ?_) kk
    rw [hk]
    rw [hn] at kk
    exact hrow _ _ _ _ _ _ _ _ hl (fun ls' hl' => kk ls' (ae_lp_of hl' (ae_set1 hx _)))
  · cases h
theorem as_lst (hrow : ∀ (Hc : Heap) (locs : List Loc) (cells slots : Nat) (ls : Array Slot) (rest : List Value) (x : Int64) (lv : List (Nat × Value)), lv_has ls nL lv → (∀ ls', lv_has ls' nL ((n1, .long x) :: lv.filter (fun q => !(q.1 == n1) && (!(q.1 == n1 + 1) && !(q.1 + 1 == n1 && q.2.category == 2)))) → W p l e R s m args below meth c Hc locs cells slots Q (F0 m (pc + len) ls' rest)) → W p l e R s m args below meth c Hc locs cells slots Q (F0 m pc ls (.long x :: rest))) (hk : ae_pc cd k = pc) (hn : ae_pc cd (k + 1) = pc + len) (h : ae_lst k L S H n1 = some (.inl (G, st', H')))
    (kk : ae_WA g p l e R s m args below meth c Q nL n0 z0 cd st' H') : ae_WA g p l e R s m args below meth c Q nL n0 z0 cd (k, L, S) H := by
  unfold ae_lst ae_nx at h
  split at h
  · next x r hx =>
    cases h
    refine as_row (fun Hc locs cells slots ls hl kk => ?_) kk
    rw [hk]
    rw [hn] at kk
    exact hrow _ _ _ _ _ _ _ _ hl (fun ls' hl' => kk ls' (ae_lp_of hl' (ae_set2 hx _)))
  · cases h
theorem as_ast (hrow : ∀ (Hc : Heap) (locs : List Loc) (cells slots : Nat) (ls : Array Slot) (rest : List Value) (x : Nat) (lv : List (Nat × Value)), lv_has ls nL lv → (∀ ls', lv_has ls' nL ((n1, .ref x) :: lv.filter (fun q => !(q.1 == n1) && !(q.1 + 1 == n1 && q.2.category == 2))) → W p l e R s m args below meth c Hc locs cells slots Q (F0 m (pc + len) ls' rest)) → W p l e R s m args below meth c Hc locs cells slots Q (F0 m pc ls (.ref x :: rest)))
    (hrowN : ∀ (Hc : Heap) (locs : List Loc) (cells slots : Nat) (ls : Array Slot) (rest : List Value) (lv : List (Nat × Value)), lv_has ls nL lv → (∀ ls', lv_has ls' nL ((n1, .null) :: lv.filter (fun q => !(q.1 == n1) && !(q.1 + 1 == n1 && q.2.category == 2))) → W p l e R s m args below meth c Hc locs cells slots Q (F0 m (pc + len) ls' rest)) → W p l e R s m args below meth c Hc locs cells slots Q (F0 m pc ls (.null :: rest))) (hk : ae_pc cd k = pc) (hn : ae_pc cd (k + 1) = pc + len) (h : ae_ast k L S H n1 = some (.inl (G, st', H')))
    (kk : ae_WA g p l e R s m args below meth c Q nL n0 z0 cd st' H') : ae_WA g p l e R s m args below meth c Q nL n0 z0 cd (k, L, S) H := by
  unfold ae_ast ae_nx at h
  split at h
  · next x r hx =>
    cases h
    refine as_row (fun Hc locs cells slots ls hl kk => ?_) kk
    rw [hk]
    rw [hn] at kk
    exact hrow _ _ _ _ _ _ _ _ hl (fun ls' hl' => kk ls' (ae_lp_of hl' (ae_set1 hx _)))
  · next x r hx =>
    cases h
    refine as_row (fun Hc locs cells slots ls hl kk => ?_) kk
    rw [hk]
    rw [hn] at kk
    exact hrow _ _ _ _ _ _ _ _ hl (fun ls' hl' => kk ls' (ae_lp_of hl' (ae_set1 hx _)))
  · next r hx =>
    cases h
    refine as_row (fun Hc locs cells slots ls hl kk => ?_) kk
    rw [hk]
    rw [hn] at kk
    exact hrowN _ _ _ _ _ _ _ hl (fun ls' hl' => kk ls' (ae_lp_of hl' (ae_set1 hx _)))
  · cases h
theorem as_inc {n : Int} (hx : p.tables.exec = Jvm.exec) (hb : c.code = cc) (hd : decode cc pc = .ok (.iinc n1 n, 3)) (hv : v = .int (Int32.ofInt n)) (hn1 : n1 < nL) (hk : ae_pc cd k = pc) (hn : ae_pc cd (k + 1) = pc + 3) (h : ae_inc k L S H n1 v = some (.inl (G, st', H')))
    (kk : ae_WA g p l e R s m args below meth c Q nL n0 z0 cd st' H') : ae_WA g p l e R s m args below meth c Q nL n0 z0 cd (k, L, S) H := by
  unfold ae_inc ae_nx at h
  split at h
  · next x y hy hnol =>
    cases h
    cases hv
    refine as_row (fun Hc locs cells slots ls hl kk => ?_) kk
    rw [hk]
    rw [hn] at kk
    rw [ae_get_eq] at hy
    obtain ⟨j, hj⟩ := List.getElem?_of_mem ((ae_lp_mem (g := g) (q := (n1, .int x)) L 0).mpr ⟨n1, .int x, hy, by simp [ae_cv]⟩)
    exact lv_iinc (k := j) hx hb hd hl hj rfl hn1 rfl (fun ls' hl' => kk ls' (ae_lp_of hl' (ae_set1 hnol _)))
  · cases h
theorem as_if1 {q : Int32 → Prop} [∀ x, Decidable (q x)] (hrow : ∀ (Hc : Heap) (locs : List Loc) (cells slots : Nat) (ls : Array Slot) (rest : List Value) (x : Int32), (q x → W p l e R s m args below meth c Hc locs cells slots Q (F0 m (ae_pc cd n1) ls rest)) → (¬ q x → W p l e R s m args below meth c Hc locs cells slots Q (F0 m (pc + 3) ls rest)) → W p l e R s m args below meth c Hc locs cells slots Q (F0 m pc ls (.int x :: rest))) (hk : ae_pc cd k = pc) (hn : ae_pc cd (k + 1) = pc + 3) (h : ae_if1 k L S H q n1 = some (.inl (G, st', H')))
    (kk : ae_WA g p l e R s m args below meth c Q nL n0 z0 cd st' H') : ae_WA g p l e R s m args below meth c Q nL n0 z0 cd (k, L, S) H := by
  unfold ae_if1 ae_nx at h
  split at h
  · next x r =>
    cases h
    refine as_row (fun Hc locs cells slots ls hl kk => ?_) kk
    rw [hk]
    have := kk ls hl
    refine hrow _ _ _ _ _ _ _ (fun hc => ?_) (fun hc => ?_)
    · rw [if_pos hc] at this
      exact this
    · rw [if_neg hc, hn] at this
      exact this
  · cases h
theorem as_if2 {q : Int32 → Int32 → Prop} [∀ x y, Decidable (q x y)] (hrow : ∀ (Hc : Heap) (locs : List Loc) (cells slots : Nat) (ls : Array Slot) (rest : List Value) (x y : Int32), (q x y → W p l e R s m args below meth c Hc locs cells slots Q (F0 m (ae_pc cd n1) ls rest)) → (¬ q x y → W p l e R s m args below meth c Hc locs cells slots Q (F0 m (pc + 3) ls rest)) → W p l e R s m args below meth c Hc locs cells slots Q (F0 m pc ls (.int y :: .int x :: rest))) (hk : ae_pc cd k = pc) (hn : ae_pc cd (k + 1) = pc + 3) (h : ae_if2 k L S H q n1 = some (.inl (G, st', H')))
    (kk : ae_WA g p l e R s m args below meth c Q nL n0 z0 cd st' H') : ae_WA g p l e R s m args below meth c Q nL n0 z0 cd (k, L, S) H := by
  unfold ae_if2 ae_nx at h
  split at h
  · next y x r =>
    cases h
    refine as_row (fun Hc locs cells slots ls hl kk => ?_) kk
    rw [hk]
    have := kk ls hl
    refine hrow _ _ _ _ _ _ _ _ (fun hc => ?_) (fun hc => ?_)
    · rw [if_pos hc] at this
      exact this
    · rw [if_neg hc, hn] at this
      exact this
  · cases h
end AES
