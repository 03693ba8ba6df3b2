/-! what the machine over places says of the machine itself: the check of the tables, the relation -/
noncomputable def ae_pc (cd : List ae_I) (k : Nat) : Nat := match ae_get cd k with
  | some i => i.1
  | none => 0
section AEOK
variable (cd : List ae_I) (nL o : Nat) (rt : Option FieldType) (ini : Bool) (k pc len n1 n2 : Nat) (v : Value) (cs : List (Int32 × Nat))
noncomputable def ae_nxt : Bool := Nat.beq (ae_pc cd (k + 1)) (pc + len)
noncomputable def ae_tgt (off : Int) (n : Nat) : Bool := decide ((pc : Int) + off = (ae_pc cd n : Int))
/-- a method as a callee -/
noncomputable def ae_okc (m n : Nat) (st : Bool) : Bool := match ae_mg m with
  | some q => Nat.beq q.2.2.2.2.2.1 n && (q.2.2.2.2.2.2 == st) && Nat.blt m 186
  | none => false
noncomputable def ae_okX (ins : Instr) : Bool := match ins with
  | .iconst n => ae_nxt cd k pc len && Nat.beq len 1 && decide (v = .int (Int32.ofInt n))
  | .bipush n => ae_nxt cd k pc len && Nat.beq len 2 && decide (v = .int (Int8.ofInt n).toInt32)
  | .sipush n => ae_nxt cd k pc len && Nat.beq len 3 && decide (v = .int (Int16.ofInt n).toInt32)
  | .lconst n => ae_nxt cd k pc len && Nat.beq len 1 && decide (v = .long (Int64.ofNat (n : Nat)))
  | .ldc i => ae_nxt cd k pc len && Nat.beq len 2 && (match v with
    | .int x => decide ((o, i, Value.int x) ∈ ae_KT)
    | .retAddr x => decide ((o, i, x) ∈ ae_ET)
    | _ => false)
  | .ldc2_w i => ae_nxt cd k pc len && Nat.beq len 3 && (match v with
    | .long x => decide ((o, i, Value.long x) ∈ ae_KT)
    | _ => false)
  | .iload_n j => ae_nxt cd k pc len && Nat.beq len 1 && Nat.beq j.val n1
  | .lload_n j => ae_nxt cd k pc len && Nat.beq len 1 && Nat.beq j.val n1
  | .aload_n j => ae_nxt cd k pc len && Nat.beq len 1 && Nat.beq j.val n1
  | .iload j => ae_nxt cd k pc len && Nat.beq len 2 && Nat.beq j n1
  | .lload j => ae_nxt cd k pc len && Nat.beq len 2 && Nat.beq j n1
  | .aload j => ae_nxt cd k pc len && Nat.beq len 2 && Nat.beq j n1
  | .istore_n j => ae_nxt cd k pc len && Nat.beq len 1 && Nat.beq j.val n1 && Nat.blt n1 nL
  | .lstore_n j => ae_nxt cd k pc len && Nat.beq len 1 && Nat.beq j.val n1 && Nat.blt (n1 + 1) nL
  | .astore_n j => ae_nxt cd k pc len && Nat.beq len 1 && Nat.beq j.val n1 && Nat.blt n1 nL
  | .istore j => ae_nxt cd k pc len && Nat.beq len 2 && Nat.beq j n1 && Nat.blt n1 nL
  | .lstore j => ae_nxt cd k pc len && Nat.beq len 2 && Nat.beq j n1 && Nat.blt (n1 + 1) nL
  | .astore j => ae_nxt cd k pc len && Nat.beq len 2 && Nat.beq j n1 && Nat.blt n1 nL
  | .iinc j c => ae_nxt cd k pc len && Nat.beq len 3 && Nat.beq j n1 && Nat.blt n1 nL && decide (v = .int (Int32.ofInt c))
  | .goto off => Nat.beq len 3 && ae_tgt cd pc off n1
  | .ifCond _ off => ae_nxt cd k pc len && Nat.beq len 3 && ae_tgt cd pc off n1
  | .if_icmp _ off => ae_nxt cd k pc len && Nat.beq len 3 && ae_tgt cd pc off n1
  | .ifnull off => ae_nxt cd k pc len && Nat.beq len 3 && ae_tgt cd pc off n1
  | .ifnonnull off => ae_nxt cd k pc len && Nat.beq len 3 && ae_tgt cd pc off n1
  | .tableswitch d lo hi offs => ae_tgt cd pc d n1 && decide (cs.length = offs.size) && decide (hi = lo + (offs.size : Int) - 1) && (List.range offs.size).all (fun j => match cs[j]?, offs[j]? with
    | some (x, t), some off => decide (x.toInt = lo + (j : Int)) && ae_tgt cd pc off t
    | _, _ => false)
  | .lookupswitch d ps => ae_tgt cd pc d n1 && (ps.toList.zip (ps.toList.drop 1)).all (fun (a, next) => a.1 < next.1) && decide (ps.toList.map (fun q => q.1) = cs.map (fun q => q.1.toInt)) && (List.range cs.length).all (fun j => match cs[j]?, ps.toList[j]? with
    | some (_, t), some (_, off) => ae_tgt cd pc off t
    | _, _ => false)
  | .getfield i => ae_nxt cd k pc len && Nat.beq len 3 && decide ((o, i, n1, n2) ∈ ae_FT)
  | .putfield i => ae_nxt cd k pc len && Nat.beq len 3 && decide ((o, i, n1, n2) ∈ ae_FT) && (match ae_cl[n1]? with
    | some (C, T, N) => Nat.blt n2 N && (!(T n2).2.2.2 || (ini && decide ((T n2).1 = ae_cn o)))
    | none => false)
  | .getstatic i => ae_nxt cd k pc len && Nat.beq len 3 && decide ((o, i, n1) ∈ ae_ST)
  | .new i => ae_nxt cd k pc len && Nat.beq len 3 && decide ((o, i, n1) ∈ ae_CT)
  | .newarray a => ae_nxt cd k pc len && Nat.beq len 2 && (decide (a = .int ∧ n1 = 0) || decide (a = .byte ∧ n1 = 1))
  | .anewarray i => ae_nxt cd k pc len && Nat.beq len 3 && decide ((o, i, ae_ek n1) ∈ ae_CT) && (Nat.beq n1 2 || Nat.beq n1 3)
  | .invokespecial i => ae_nxt cd k pc len && Nat.beq len 3 && (match Nat.beq n1 1000 with
    | true => decide ((o, i, 1000) ∈ ae_LT)
    | false => (decide ((o, i, n1) ∈ ae_LT) || decide ((o, i, n1) ∈ ae_NT)) && ae_okc n1 n2 false && decide ((ae_my n1).name = "<init>" ∧ ae_ml n1 ≤ 41) && (match ae_mg n1 with
      | some q => decide (q.2.2.2.1 = none)
      | none => false))
  | .invokestatic i => ae_nxt cd k pc len && Nat.beq len 3 && decide ((o, i, n1) ∈ ae_LT) && (Nat.beq n1 1001 || Nat.beq n1 1002 || Nat.beq n1 1003 || ae_okc n1 n2 true)
  | .invokevirtual i => ae_nxt cd k pc len && Nat.beq len 3 && decide ((o, i, n1) ∈ ae_LT) && ae_okc n1 n2 false && decide (n1 ∈ ae_sels)
  | .ireturn => Nat.beq len 1 && (match n1 with
    | 0 => decide (rt = some .int)
    | 1 => decide (rt = some .boolean)
    | 2 => decide (rt = some .char)
    | _ => decide (rt = some .byte))
  | .lreturn => Nat.beq len 1 && decide (rt = some .long)
  | .areturn => Nat.beq len 1 && (match rt with
    | some (.object _) => true
    | _ => false)
  | .return_ => Nat.beq len 1 && decide (rt = none)
  | _ => ae_nxt cd k pc len && Nat.beq len 1
end AEOK
noncomputable def ae_okI (cd : List ae_I) (cc : ByteArray) (nL o : Nat) (rt : Option FieldType) (ini : Bool) (k : Nat) (i : ae_I) : Bool :=
  decide (i.2.1 = .athrow) || (decide (decode cc i.1 = .ok (i.2.1, i.2.2.1)) && ae_okX cd nL o rt ini k i.1 i.2.2.1 i.2.2.2.1 i.2.2.2.2.1 i.2.2.2.2.2.1 i.2.2.2.2.2.2 i.2.1)

noncomputable def ae_okq (cd : List ae_I) (cc : ByteArray) (nL o : Nat) (rt : Option FieldType) (ini : Bool) (a n : Nat) : Bool := (List.range n).all (fun j => match ae_get cd (a + j) with
    | some i => ae_okI cd cc nL o rt ini (a + j) i
    | none => false)
theorem ae_okq_at {cd : List ae_I} {cc : ByteArray} {nL o : Nat} {rt : Option FieldType} {ini : Bool} {a n : Nat} (h : ae_okq cd cc nL o rt ini a n = true) {k : Nat} {i : ae_I} (hi : ae_get cd k = some i) (h1 : a ≤ k) (h2 : k < a + n) : ae_okI cd cc nL o rt ini k i = true := by
  have q := List.all_eq_true.mp h (k - a) (List.mem_range.mpr (by omega))
  simp only [show a + (k - a) = k by omega, hi] at q
  exact q
theorem ae_get_lt {α : Type} {l : List α} {k : Nat} {x : α} (h : ae_get l k = some x) : k < l.length := by
  rw [ae_get_eq] at h
  exact (List.getElem?_eq_some_iff.mp h).1
/-- a method's row -/
noncomputable def ae_okh (m : Nat) : Bool := match ae_mg m with
  | some (y, cc, nL, rt, o, na, st) => plainName y.cls && decide (y.cls = ae_cn o ∧ y.cls ≠ "java/lang/invoke/MethodHandle" ∧ y.cls ≠ "java/lang/invoke/VarHandle" ∧ nL ≤ 41) && decide ((parseMethodDescriptor y.desc).map (fun d => d.parameters.length) = some (if st = true then na else na - 1)) && (st || Nat.blt 0 na) && Nat.beq (ae_pc (ae_cd m) 0) 0
  | none => false
/-- every instruction of a method -/
def ae_okM (m : Nat) : Prop := ae_okh m = true ∧ ∀ (y : MethodName) (cc : ByteArray) (nL : Nat) (rt : Option FieldType) (o na : Nat) (st : Bool), ae_mg m = some (y, cc, nL, rt, o, na, st) → ∀ (k : Nat) (i : ae_I), ae_get (ae_cd m) k = some i → ae_okI (ae_cd m) cc nL o rt (decide (y.name = "<init>")) k i = true
theorem ae_x0_0 : ae_okq cd_Dried_init prog_1_method_1_code 2 1 none true 0 68 = true := by decide +kernel
theorem ae_z0 : ∀ (k : Nat) (i : ae_I), ae_get cd_Dried_init k = some i → ae_okI cd_Dried_init prog_1_method_1_code 2 1 none true k i = true := by
  intro k i h
  have hl : k < 68 := ae_get_lt h
  exact ae_okq_at ae_x0_0 h (by omega) (by omega)
theorem ae_h0 : ae_okh 0 = true := by decide +kernel
theorem ae_o0 : ae_okM 0 := ⟨ae_h0, fun y cc nL rt o na st e k i h => by cases (show ae_mg 0 = _ from rfl).symm.trans e; exact ae_z0 k i h⟩
theorem ae_x1_0 : ae_okq cd_Dried_plank prog_1_method_2_code 8 1 (some .int) false 0 48 = true := by decide +kernel
theorem ae_z1 : ∀ (k : Nat) (i : ae_I), ae_get cd_Dried_plank k = some i → ae_okI cd_Dried_plank prog_1_method_2_code 8 1 (some .int) false k i = true := by
  intro k i h
  have hl : k < 48 := ae_get_lt h
  exact ae_okq_at ae_x1_0 h (by omega) (by omega)
theorem ae_h1 : ae_okh 1 = true := by decide +kernel
theorem ae_o1 : ae_okM 1 := ⟨ae_h1, fun y cc nL rt o na st e k i h => by cases (show ae_mg 1 = _ from rfl).symm.trans e; exact ae_z1 k i h⟩
theorem ae_x2_0 : ae_okq cd_Dried_set prog_1_method_3_code 4 1 (some .int) false 0 67 = true := by decide +kernel
theorem ae_z2 : ∀ (k : Nat) (i : ae_I), ae_get cd_Dried_set k = some i → ae_okI cd_Dried_set prog_1_method_3_code 4 1 (some .int) false k i = true := by
  intro k i h
  have hl : k < 67 := ae_get_lt h
  exact ae_okq_at ae_x2_0 h (by omega) (by omega)
theorem ae_h2 : ae_okh 2 = true := by decide +kernel
theorem ae_o2 : ae_okM 2 := ⟨ae_h2, fun y cc nL rt o na st e k i h => by cases (show ae_mg 2 = _ from rfl).symm.trans e; exact ae_z2 k i h⟩
theorem ae_x3_0 : ae_okq cd_Dried_change prog_1_method_4_code 6 1 (some .int) false 0 22 = true := by decide +kernel
theorem ae_z3 : ∀ (k : Nat) (i : ae_I), ae_get cd_Dried_change k = some i → ae_okI cd_Dried_change prog_1_method_4_code 6 1 (some .int) false k i = true := by
  intro k i h
  have hl : k < 22 := ae_get_lt h
  exact ae_okq_at ae_x3_0 h (by omega) (by omega)
theorem ae_h3 : ae_okh 3 = true := by decide +kernel
theorem ae_o3 : ae_okM 3 := ⟨ae_h3, fun y cc nL rt o na st e k i h => by cases (show ae_mg 3 = _ from rfl).symm.trans e; exact ae_z3 k i h⟩
theorem ae_x4_0 : ae_okq cd_Dried_changeSalt prog_1_method_5_code 3 1 (some .int) false 0 17 = true := by decide +kernel
theorem ae_z4 : ∀ (k : Nat) (i : ae_I), ae_get cd_Dried_changeSalt k = some i → ae_okI cd_Dried_changeSalt prog_1_method_5_code 3 1 (some .int) false k i = true := by
  intro k i h
  have hl : k < 17 := ae_get_lt h
  exact ae_okq_at ae_x4_0 h (by omega) (by omega)
theorem ae_h4 : ae_okh 4 = true := by decide +kernel
theorem ae_o4 : ae_okM 4 := ⟨ae_h4, fun y cc nL rt o na st e k i h => by cases (show ae_mg 4 = _ from rfl).symm.trans e; exact ae_z4 k i h⟩
theorem ae_x5_0 : ae_okq cd_Dried_changePump prog_1_method_6_code 3 1 (some .int) false 0 17 = true := by decide +kernel
theorem ae_z5 : ∀ (k : Nat) (i : ae_I), ae_get cd_Dried_changePump k = some i → ae_okI cd_Dried_changePump prog_1_method_6_code 3 1 (some .int) false k i = true := by
  intro k i h
  have hl : k < 17 := ae_get_lt h
  exact ae_okq_at ae_x5_0 h (by omega) (by omega)
theorem ae_h5 : ae_okh 5 = true := by decide +kernel
theorem ae_o5 : ae_okM 5 := ⟨ae_h5, fun y cc nL rt o na st e k i h => by cases (show ae_mg 5 = _ from rfl).symm.trans e; exact ae_z5 k i h⟩
theorem ae_x6_0 : ae_okq cd_Dried_told prog_1_method_7_code 3 1 (some .int) false 0 62 = true := by decide +kernel
theorem ae_z6 : ∀ (k : Nat) (i : ae_I), ae_get cd_Dried_told k = some i → ae_okI cd_Dried_told prog_1_method_7_code 3 1 (some .int) false k i = true := by
  intro k i h
  have hl : k < 62 := ae_get_lt h
  exact ae_okq_at ae_x6_0 h (by omega) (by omega)
theorem ae_h6 : ae_okh 6 = true := by decide +kernel
theorem ae_o6 : ae_okM 6 := ⟨ae_h6, fun y cc nL rt o na st e k i h => by cases (show ae_mg 6 = _ from rfl).symm.trans e; exact ae_z6 k i h⟩
theorem ae_x7_0 : ae_okq cd_Dried_gap prog_1_method_8_code 3 1 (some .int) false 0 45 = true := by decide +kernel
theorem ae_z7 : ∀ (k : Nat) (i : ae_I), ae_get cd_Dried_gap k = some i → ae_okI cd_Dried_gap prog_1_method_8_code 3 1 (some .int) false k i = true := by
  intro k i h
  have hl : k < 45 := ae_get_lt h
  exact ae_okq_at ae_x7_0 h (by omega) (by omega)
theorem ae_h7 : ae_okh 7 = true := by decide +kernel
theorem ae_o7 : ae_okM 7 := ⟨ae_h7, fun y cc nL rt o na st e k i h => by cases (show ae_mg 7 = _ from rfl).symm.trans e; exact ae_z7 k i h⟩
theorem ae_x8_0 : ae_okq cd_Dried_feed prog_1_method_9_code 5 1 (some .int) false 0 38 = true := by decide +kernel
theorem ae_z8 : ∀ (k : Nat) (i : ae_I), ae_get cd_Dried_feed k = some i → ae_okI cd_Dried_feed prog_1_method_9_code 5 1 (some .int) false k i = true := by
  intro k i h
  have hl : k < 38 := ae_get_lt h
  exact ae_okq_at ae_x8_0 h (by omega) (by omega)
theorem ae_h8 : ae_okh 8 = true := by decide +kernel
theorem ae_o8 : ae_okM 8 := ⟨ae_h8, fun y cc nL rt o na st e k i h => by cases (show ae_mg 8 = _ from rfl).symm.trans e; exact ae_z8 k i h⟩
theorem ae_x9_0 : ae_okq cd_Dried_text prog_1_method_10_code 1 1 (some .int) false 0 10 = true := by decide +kernel
theorem ae_z9 : ∀ (k : Nat) (i : ae_I), ae_get cd_Dried_text k = some i → ae_okI cd_Dried_text prog_1_method_10_code 1 1 (some .int) false k i = true := by
  intro k i h
  have hl : k < 10 := ae_get_lt h
  exact ae_okq_at ae_x9_0 h (by omega) (by omega)
theorem ae_h9 : ae_okh 9 = true := by decide +kernel
theorem ae_o9 : ae_okM 9 := ⟨ae_h9, fun y cc nL rt o na st e k i h => by cases (show ae_mg 9 = _ from rfl).symm.trans e; exact ae_z9 k i h⟩
theorem ae_x10_0 : ae_okq cd_Dried_learn prog_1_method_11_code 2 1 (some .int) false 0 21 = true := by decide +kernel
theorem ae_z10 : ∀ (k : Nat) (i : ae_I), ae_get cd_Dried_learn k = some i → ae_okI cd_Dried_learn prog_1_method_11_code 2 1 (some .int) false k i = true := by
  intro k i h
  have hl : k < 21 := ae_get_lt h
  exact ae_okq_at ae_x10_0 h (by omega) (by omega)
theorem ae_h10 : ae_okh 10 = true := by decide +kernel
theorem ae_o10 : ae_okM 10 := ⟨ae_h10, fun y cc nL rt o na st e k i h => by cases (show ae_mg 10 = _ from rfl).symm.trans e; exact ae_z10 k i h⟩
theorem ae_x11_0 : ae_okq cd_Dried_force prog_1_method_12_code 3 1 (some .int) false 0 19 = true := by decide +kernel
theorem ae_z11 : ∀ (k : Nat) (i : ae_I), ae_get cd_Dried_force k = some i → ae_okI cd_Dried_force prog_1_method_12_code 3 1 (some .int) false k i = true := by
  intro k i h
  have hl : k < 19 := ae_get_lt h
  exact ae_okq_at ae_x11_0 h (by omega) (by omega)
theorem ae_h11 : ae_okh 11 = true := by decide +kernel
theorem ae_o11 : ae_okM 11 := ⟨ae_h11, fun y cc nL rt o na st e k i h => by cases (show ae_mg 11 = _ from rfl).symm.trans e; exact ae_z11 k i h⟩
theorem ae_x12_0 : ae_okq cd_Dried_comes prog_1_method_13_code 1 1 (some .int) false 0 9 = true := by decide +kernel
theorem ae_z12 : ∀ (k : Nat) (i : ae_I), ae_get cd_Dried_comes k = some i → ae_okI cd_Dried_comes prog_1_method_13_code 1 1 (some .int) false k i = true := by
  intro k i h
  have hl : k < 9 := ae_get_lt h
  exact ae_okq_at ae_x12_0 h (by omega) (by omega)
theorem ae_h12 : ae_okh 12 = true := by decide +kernel
theorem ae_o12 : ae_okM 12 := ⟨ae_h12, fun y cc nL rt o na st e k i h => by cases (show ae_mg 12 = _ from rfl).symm.trans e; exact ae_z12 k i h⟩
theorem ae_x13_0 : ae_okq cd_Dried_run prog_1_method_14_code 4 1 (some .long) false 0 50 = true := by decide +kernel
theorem ae_z13 : ∀ (k : Nat) (i : ae_I), ae_get cd_Dried_run k = some i → ae_okI cd_Dried_run prog_1_method_14_code 4 1 (some .long) false k i = true := by
  intro k i h
  have hl : k < 50 := ae_get_lt h
  exact ae_okq_at ae_x13_0 h (by omega) (by omega)
theorem ae_h13 : ae_okh 13 = true := by decide +kernel
theorem ae_o13 : ae_okM 13 := ⟨ae_h13, fun y cc nL rt o na st e k i h => by cases (show ae_mg 13 = _ from rfl).symm.trans e; exact ae_z13 k i h⟩
theorem ae_x14_0 : ae_okq cd_Dried_isToldOfRun prog_1_method_15_code 3 1 (some .boolean) false 0 16 = true := by decide +kernel
theorem ae_z14 : ∀ (k : Nat) (i : ae_I), ae_get cd_Dried_isToldOfRun k = some i → ae_okI cd_Dried_isToldOfRun prog_1_method_15_code 3 1 (some .boolean) false k i = true := by
  intro k i h
  have hl : k < 16 := ae_get_lt h
  exact ae_okq_at ae_x14_0 h (by omega) (by omega)
theorem ae_h14 : ae_okh 14 = true := by decide +kernel
theorem ae_o14 : ae_okM 14 := ⟨ae_h14, fun y cc nL rt o na st e k i h => by cases (show ae_mg 14 = _ from rfl).symm.trans e; exact ae_z14 k i h⟩
theorem ae_x15_0 : ae_okq cd_Dried_lay prog_1_method_16_code 2 1 (some .int) false 0 19 = true := by decide +kernel
theorem ae_z15 : ∀ (k : Nat) (i : ae_I), ae_get cd_Dried_lay k = some i → ae_okI cd_Dried_lay prog_1_method_16_code 2 1 (some .int) false k i = true := by
  intro k i h
  have hl : k < 19 := ae_get_lt h
  exact ae_okq_at ae_x15_0 h (by omega) (by omega)
theorem ae_h15 : ae_okh 15 = true := by decide +kernel
theorem ae_o15 : ae_okM 15 := ⟨ae_h15, fun y cc nL rt o na st e k i h => by cases (show ae_mg 15 = _ from rfl).symm.trans e; exact ae_z15 k i h⟩
theorem ae_x16_0 : ae_okq cd_Dried_air prog_1_method_17_code 3 1 (some .int) false 0 22 = true := by decide +kernel
theorem ae_z16 : ∀ (k : Nat) (i : ae_I), ae_get cd_Dried_air k = some i → ae_okI cd_Dried_air prog_1_method_17_code 3 1 (some .int) false k i = true := by
  intro k i h
  have hl : k < 22 := ae_get_lt h
  exact ae_okq_at ae_x16_0 h (by omega) (by omega)
theorem ae_h16 : ae_okh 16 = true := by decide +kernel
theorem ae_o16 : ae_okM 16 := ⟨ae_h16, fun y cc nL rt o na st e k i h => by cases (show ae_mg 16 = _ from rfl).symm.trans e; exact ae_z16 k i h⟩
theorem ae_x17_0 : ae_okq cd_Dried_tight prog_1_method_18_code 2 1 (some .int) false 0 20 = true := by decide +kernel
theorem ae_z17 : ∀ (k : Nat) (i : ae_I), ae_get cd_Dried_tight k = some i → ae_okI cd_Dried_tight prog_1_method_18_code 2 1 (some .int) false k i = true := by
  intro k i h
  have hl : k < 20 := ae_get_lt h
  exact ae_okq_at ae_x17_0 h (by omega) (by omega)
theorem ae_h17 : ae_okh 17 = true := by decide +kernel
theorem ae_o17 : ae_okM 17 := ⟨ae_h17, fun y cc nL rt o na st e k i h => by cases (show ae_mg 17 = _ from rfl).symm.trans e; exact ae_z17 k i h⟩
theorem ae_x18_0 : ae_okq cd_Dried_out prog_1_method_19_code 2 1 (some .int) false 0 23 = true := by decide +kernel
theorem ae_z18 : ∀ (k : Nat) (i : ae_I), ae_get cd_Dried_out k = some i → ae_okI cd_Dried_out prog_1_method_19_code 2 1 (some .int) false k i = true := by
  intro k i h
  have hl : k < 23 := ae_get_lt h
  exact ae_okq_at ae_x18_0 h (by omega) (by omega)
theorem ae_h18 : ae_okh 18 = true := by decide +kernel
theorem ae_o18 : ae_okM 18 := ⟨ae_h18, fun y cc nL rt o na st e k i h => by cases (show ae_mg 18 = _ from rfl).symm.trans e; exact ae_z18 k i h⟩
theorem ae_x19_0 : ae_okq cd_Dried_sack prog_1_method_20_code 4 1 (some .long) false 0 40 = true := by decide +kernel
theorem ae_z19 : ∀ (k : Nat) (i : ae_I), ae_get cd_Dried_sack k = some i → ae_okI cd_Dried_sack prog_1_method_20_code 4 1 (some .long) false k i = true := by
  intro k i h
  have hl : k < 40 := ae_get_lt h
  exact ae_okq_at ae_x19_0 h (by omega) (by omega)
theorem ae_h19 : ae_okh 19 = true := by decide +kernel
theorem ae_o19 : ae_okM 19 := ⟨ae_h19, fun y cc nL rt o na st e k i h => by cases (show ae_mg 19 = _ from rfl).symm.trans e; exact ae_z19 k i h⟩
theorem ae_x20_0 : ae_okq cd_Dried_withMore prog_1_method_21_code 3 1 (some .int) false 0 10 = true := by decide +kernel
theorem ae_z20 : ∀ (k : Nat) (i : ae_I), ae_get cd_Dried_withMore k = some i → ae_okI cd_Dried_withMore prog_1_method_21_code 3 1 (some .int) false k i = true := by
  intro k i h
  have hl : k < 10 := ae_get_lt h
  exact ae_okq_at ae_x20_0 h (by omega) (by omega)
theorem ae_h20 : ae_okh 20 = true := by decide +kernel
theorem ae_o20 : ae_okM 20 := ⟨ae_h20, fun y cc nL rt o na st e k i h => by cases (show ae_mg 20 = _ from rfl).symm.trans e; exact ae_z20 k i h⟩
theorem ae_x21_0 : ae_okq cd_Dried_first prog_1_method_22_code 8 1 (some .int) false 0 73 = true := by decide +kernel
theorem ae_z21 : ∀ (k : Nat) (i : ae_I), ae_get cd_Dried_first k = some i → ae_okI cd_Dried_first prog_1_method_22_code 8 1 (some .int) false k i = true := by
  intro k i h
  have hl : k < 73 := ae_get_lt h
  exact ae_okq_at ae_x21_0 h (by omega) (by omega)
theorem ae_h21 : ae_okh 21 = true := by decide +kernel
theorem ae_o21 : ae_okM 21 := ⟨ae_h21, fun y cc nL rt o na st e k i h => by cases (show ae_mg 21 = _ from rfl).symm.trans e; exact ae_z21 k i h⟩
theorem ae_x22_0 : ae_okq cd_Dried_most prog_1_method_23_code 4 1 (some .int) false 0 40 = true := by decide +kernel
theorem ae_z22 : ∀ (k : Nat) (i : ae_I), ae_get cd_Dried_most k = some i → ae_okI cd_Dried_most prog_1_method_23_code 4 1 (some .int) false k i = true := by
  intro k i h
  have hl : k < 40 := ae_get_lt h
  exact ae_okq_at ae_x22_0 h (by omega) (by omega)
theorem ae_h22 : ae_okh 22 = true := by decide +kernel
theorem ae_o22 : ae_okM 22 := ⟨ae_h22, fun y cc nL rt o na st e k i h => by cases (show ae_mg 22 = _ from rfl).symm.trans e; exact ae_z22 k i h⟩
theorem ae_x23_0 : ae_okq cd_Dried_far prog_1_method_24_code 3 1 (some .int) false 0 31 = true := by decide +kernel
theorem ae_z23 : ∀ (k : Nat) (i : ae_I), ae_get cd_Dried_far k = some i → ae_okI cd_Dried_far prog_1_method_24_code 3 1 (some .int) false k i = true := by
  intro k i h
  have hl : k < 31 := ae_get_lt h
  exact ae_okq_at ae_x23_0 h (by omega) (by omega)
theorem ae_h23 : ae_okh 23 = true := by decide +kernel
theorem ae_o23 : ae_okM 23 := ⟨ae_h23, fun y cc nL rt o na st e k i h => by cases (show ae_mg 23 = _ from rfl).symm.trans e; exact ae_z23 k i h⟩
theorem ae_x24_0 : ae_okq cd_Dried_nails prog_1_method_25_code 5 1 (some .long) false 0 45 = true := by decide +kernel
theorem ae_z24 : ∀ (k : Nat) (i : ae_I), ae_get cd_Dried_nails k = some i → ae_okI cd_Dried_nails prog_1_method_25_code 5 1 (some .long) false k i = true := by
  intro k i h
  have hl : k < 45 := ae_get_lt h
  exact ae_okq_at ae_x24_0 h (by omega) (by omega)
theorem ae_h24 : ae_okh 24 = true := by decide +kernel
theorem ae_o24 : ae_okM 24 := ⟨ae_h24, fun y cc nL rt o na st e k i h => by cases (show ae_mg 24 = _ from rfl).symm.trans e; exact ae_z24 k i h⟩
theorem ae_x25_0 : ae_okq cd_Dried_greatestDivisor prog_1_method_26_code 4 1 (some .int) false 0 19 = true := by decide +kernel
theorem ae_z25 : ∀ (k : Nat) (i : ae_I), ae_get cd_Dried_greatestDivisor k = some i → ae_okI cd_Dried_greatestDivisor prog_1_method_26_code 4 1 (some .int) false k i = true := by
  intro k i h
  have hl : k < 19 := ae_get_lt h
  exact ae_okq_at ae_x25_0 h (by omega) (by omega)
theorem ae_h25 : ae_okh 25 = true := by decide +kernel
theorem ae_o25 : ae_okM 25 := ⟨ae_h25, fun y cc nL rt o na st e k i h => by cases (show ae_mg 25 = _ from rfl).symm.trans e; exact ae_z25 k i h⟩
theorem ae_x26_0 : ae_okq cd_Dried_image prog_1_method_27_code 1 1 (some .int) false 0 21 = true := by decide +kernel
theorem ae_z26 : ∀ (k : Nat) (i : ae_I), ae_get cd_Dried_image k = some i → ae_okI cd_Dried_image prog_1_method_27_code 1 1 (some .int) false k i = true := by
  intro k i h
  have hl : k < 21 := ae_get_lt h
  exact ae_okq_at ae_x26_0 h (by omega) (by omega)
theorem ae_h26 : ae_okh 26 = true := by decide +kernel
theorem ae_o26 : ae_okM 26 := ⟨ae_h26, fun y cc nL rt o na st e k i h => by cases (show ae_mg 26 = _ from rfl).symm.trans e; exact ae_z26 k i h⟩
theorem ae_x27_0 : ae_okq cd_Dried_back prog_1_method_28_code 1 1 (some .int) false 0 17 = true := by decide +kernel
theorem ae_z27 : ∀ (k : Nat) (i : ae_I), ae_get cd_Dried_back k = some i → ae_okI cd_Dried_back prog_1_method_28_code 1 1 (some .int) false k i = true := by
  intro k i h
  have hl : k < 17 := ae_get_lt h
  exact ae_okq_at ae_x27_0 h (by omega) (by omega)
theorem ae_h27 : ae_okh 27 = true := by decide +kernel
theorem ae_o27 : ae_okM 27 := ⟨ae_h27, fun y cc nL rt o na st e k i h => by cases (show ae_mg 27 = _ from rfl).symm.trans e; exact ae_z27 k i h⟩
theorem ae_x28_0 : ae_okq cd_Dried_count prog_1_method_29_code 2 1 (some .int) false 0 49 = true := by decide +kernel
theorem ae_z28 : ∀ (k : Nat) (i : ae_I), ae_get cd_Dried_count k = some i → ae_okI cd_Dried_count prog_1_method_29_code 2 1 (some .int) false k i = true := by
  intro k i h
  have hl : k < 49 := ae_get_lt h
  exact ae_okq_at ae_x28_0 h (by omega) (by omega)
theorem ae_h28 : ae_okh 28 = true := by decide +kernel
theorem ae_o28 : ae_okM 28 := ⟨ae_h28, fun y cc nL rt o na st e k i h => by cases (show ae_mg 28 = _ from rfl).symm.trans e; exact ae_z28 k i h⟩
theorem ae_x29_0 : ae_okq cd_Dried_isSheet prog_1_method_30_code 1 1 (some .boolean) false 0 9 = true := by decide +kernel
theorem ae_z29 : ∀ (k : Nat) (i : ae_I), ae_get cd_Dried_isSheet k = some i → ae_okI cd_Dried_isSheet prog_1_method_30_code 1 1 (some .boolean) false k i = true := by
  intro k i h
  have hl : k < 9 := ae_get_lt h
  exact ae_okq_at ae_x29_0 h (by omega) (by omega)
theorem ae_h29 : ae_okh 29 = true := by decide +kernel
theorem ae_o29 : ae_okM 29 := ⟨ae_h29, fun y cc nL rt o na st e k i h => by cases (show ae_mg 29 = _ from rfl).symm.trans e; exact ae_z29 k i h⟩
theorem ae_x30_0 : ae_okq cd_Dried_sheet prog_1_method_31_code 4 1 (some .int) false 0 41 = true := by decide +kernel
theorem ae_z30 : ∀ (k : Nat) (i : ae_I), ae_get cd_Dried_sheet k = some i → ae_okI cd_Dried_sheet prog_1_method_31_code 4 1 (some .int) false k i = true := by
  intro k i h
  have hl : k < 41 := ae_get_lt h
  exact ae_okq_at ae_x30_0 h (by omega) (by omega)
theorem ae_h30 : ae_okh 30 = true := by decide +kernel
theorem ae_o30 : ae_okM 30 := ⟨ae_h30, fun y cc nL rt o na st e k i h => by cases (show ae_mg 30 = _ from rfl).symm.trans e; exact ae_z30 k i h⟩
theorem ae_x31_0 : ae_okq cd_Dried_cell prog_1_method_32_code 5 1 (some .int) false 0 29 = true := by decide +kernel
theorem ae_z31 : ∀ (k : Nat) (i : ae_I), ae_get cd_Dried_cell k = some i → ae_okI cd_Dried_cell prog_1_method_32_code 5 1 (some .int) false k i = true := by
  intro k i h
  have hl : k < 29 := ae_get_lt h
  exact ae_okq_at ae_x31_0 h (by omega) (by omega)
theorem ae_h31 : ae_okh 31 = true := by decide +kernel
theorem ae_o31 : ae_okM 31 := ⟨ae_h31, fun y cc nL rt o na st e k i h => by cases (show ae_mg 31 = _ from rfl).symm.trans e; exact ae_z31 k i h⟩
theorem ae_x32_0 : ae_okq cd_Dried_copy prog_1_method_33_code 8 1 (some .int) false 0 57 = true := by decide +kernel
theorem ae_z32 : ∀ (k : Nat) (i : ae_I), ae_get cd_Dried_copy k = some i → ae_okI cd_Dried_copy prog_1_method_33_code 8 1 (some .int) false k i = true := by
  intro k i h
  have hl : k < 57 := ae_get_lt h
  exact ae_okq_at ae_x32_0 h (by omega) (by omega)
theorem ae_h32 : ae_okh 32 = true := by decide +kernel
theorem ae_o32 : ae_okM 32 := ⟨ae_h32, fun y cc nL rt o na st e k i h => by cases (show ae_mg 32 = _ from rfl).symm.trans e; exact ae_z32 k i h⟩
theorem ae_x33_0 : ae_okq cd_Dried_planks prog_1_method_34_code 9 1 (some .int) false 0 80 = true := by decide +kernel
theorem ae_z33 : ∀ (k : Nat) (i : ae_I), ae_get cd_Dried_planks k = some i → ae_okI cd_Dried_planks prog_1_method_34_code 9 1 (some .int) false k i = true := by
  intro k i h
  have hl : k < 80 := ae_get_lt h
  exact ae_okq_at ae_x33_0 h (by omega) (by omega)
theorem ae_h33 : ae_okh 33 = true := by decide +kernel
theorem ae_o33 : ae_okM 33 := ⟨ae_h33, fun y cc nL rt o na st e k i h => by cases (show ae_mg 33 = _ from rfl).symm.trans e; exact ae_z33 k i h⟩
theorem ae_x34_0 : ae_okq cd_Dried_taken prog_1_method_35_code 3 1 (some .int) false 0 28 = true := by decide +kernel
theorem ae_z34 : ∀ (k : Nat) (i : ae_I), ae_get cd_Dried_taken k = some i → ae_okI cd_Dried_taken prog_1_method_35_code 3 1 (some .int) false k i = true := by
  intro k i h
  have hl : k < 28 := ae_get_lt h
  exact ae_okq_at ae_x34_0 h (by omega) (by omega)
theorem ae_h34 : ae_okh 34 = true := by decide +kernel
theorem ae_o34 : ae_okM 34 := ⟨ae_h34, fun y cc nL rt o na st e k i h => by cases (show ae_mg 34 = _ from rfl).symm.trans e; exact ae_z34 k i h⟩
theorem ae_x35_0 : ae_okq cd_Boat_init prog_2_method_1_code 1 2 none true 0 38 = true := by decide +kernel
theorem ae_z35 : ∀ (k : Nat) (i : ae_I), ae_get cd_Boat_init k = some i → ae_okI cd_Boat_init prog_2_method_1_code 1 2 none true k i = true := by
  intro k i h
  have hl : k < 38 := ae_get_lt h
  exact ae_okq_at ae_x35_0 h (by omega) (by omega)
theorem ae_h35 : ae_okh 35 = true := by decide +kernel
theorem ae_o35 : ae_okM 35 := ⟨ae_h35, fun y cc nL rt o na st e k i h => by cases (show ae_mg 35 = _ from rfl).symm.trans e; exact ae_z35 k i h⟩
theorem ae_x36_0 : ae_okq cd_Boat_gaps prog_2_method_2_code 1 2 (some .int) false 0 11 = true := by decide +kernel
theorem ae_z36 : ∀ (k : Nat) (i : ae_I), ae_get cd_Boat_gaps k = some i → ae_okI cd_Boat_gaps prog_2_method_2_code 1 2 (some .int) false k i = true := by
  intro k i h
  have hl : k < 11 := ae_get_lt h
  exact ae_okq_at ae_x36_0 h (by omega) (by omega)
theorem ae_h36 : ae_okh 36 = true := by decide +kernel
theorem ae_o36 : ae_okM 36 := ⟨ae_h36, fun y cc nL rt o na st e k i h => by cases (show ae_mg 36 = _ from rfl).symm.trans e; exact ae_z36 k i h⟩
theorem ae_x37_0 : ae_okq cd_Boat_hasPlank prog_2_method_3_code 2 2 (some .boolean) false 0 10 = true := by decide +kernel
theorem ae_z37 : ∀ (k : Nat) (i : ae_I), ae_get cd_Boat_hasPlank k = some i → ae_okI cd_Boat_hasPlank prog_2_method_3_code 2 2 (some .boolean) false k i = true := by
  intro k i h
  have hl : k < 10 := ae_get_lt h
  exact ae_okq_at ae_x37_0 h (by omega) (by omega)
theorem ae_h37 : ae_okh 37 = true := by decide +kernel
theorem ae_o37 : ae_okM 37 := ⟨ae_h37, fun y cc nL rt o na st e k i h => by cases (show ae_mg 37 = _ from rfl).symm.trans e; exact ae_z37 k i h⟩
theorem ae_x38_0 : ae_okq cd_Boat_hasGap prog_2_method_4_code 2 2 (some .boolean) false 0 10 = true := by decide +kernel
theorem ae_z38 : ∀ (k : Nat) (i : ae_I), ae_get cd_Boat_hasGap k = some i → ae_okI cd_Boat_hasGap prog_2_method_4_code 2 2 (some .boolean) false k i = true := by
  intro k i h
  have hl : k < 10 := ae_get_lt h
  exact ae_okq_at ae_x38_0 h (by omega) (by omega)
theorem ae_h38 : ae_okh 38 = true := by decide +kernel
theorem ae_o38 : ae_okM 38 := ⟨ae_h38, fun y cc nL rt o na st e k i h => by cases (show ae_mg 38 = _ from rfl).symm.trans e; exact ae_z38 k i h⟩
theorem ae_x39_0 : ae_okq cd_Boat_append prog_2_method_5_code 7 2 (some .int) false 0 53 = true := by decide +kernel
theorem ae_z39 : ∀ (k : Nat) (i : ae_I), ae_get cd_Boat_append k = some i → ae_okI cd_Boat_append prog_2_method_5_code 7 2 (some .int) false k i = true := by
  intro k i h
  have hl : k < 53 := ae_get_lt h
  exact ae_okq_at ae_x39_0 h (by omega) (by omega)
theorem ae_h39 : ae_okh 39 = true := by decide +kernel
theorem ae_o39 : ae_okM 39 := ⟨ae_h39, fun y cc nL rt o na st e k i h => by cases (show ae_mg 39 = _ from rfl).symm.trans e; exact ae_z39 k i h⟩
theorem ae_x40_0 : ae_okq cd_Boat_bears prog_2_method_6_code 2 2 (some .int) false 0 10 = true := by decide +kernel
theorem ae_z40 : ∀ (k : Nat) (i : ae_I), ae_get cd_Boat_bears k = some i → ae_okI cd_Boat_bears prog_2_method_6_code 2 2 (some .int) false k i = true := by
  intro k i h
  have hl : k < 10 := ae_get_lt h
  exact ae_okq_at ae_x40_0 h (by omega) (by omega)
theorem ae_h40 : ae_okh 40 = true := by decide +kernel
theorem ae_o40 : ae_okM 40 := ⟨ae_h40, fun y cc nL rt o na st e k i h => by cases (show ae_mg 40 = _ from rfl).symm.trans e; exact ae_z40 k i h⟩
theorem ae_x41_0 : ae_okq cd_Boat_bearsAtGap prog_2_method_7_code 2 2 (some .int) false 0 10 = true := by decide +kernel
theorem ae_z41 : ∀ (k : Nat) (i : ae_I), ae_get cd_Boat_bearsAtGap k = some i → ae_okI cd_Boat_bearsAtGap prog_2_method_7_code 2 2 (some .int) false k i = true := by
  intro k i h
  have hl : k < 10 := ae_get_lt h
  exact ae_okq_at ae_x41_0 h (by omega) (by omega)
theorem ae_h41 : ae_okh 41 = true := by decide +kernel
theorem ae_o41 : ae_okM 41 := ⟨ae_h41, fun y cc nL rt o na st e k i h => by cases (show ae_mg 41 = _ from rfl).symm.trans e; exact ae_z41 k i h⟩
theorem ae_x42_0 : ae_okq cd_Boat_fastGaps prog_2_method_8_code 3 2 (some .int) false 0 19 = true := by decide +kernel
theorem ae_z42 : ∀ (k : Nat) (i : ae_I), ae_get cd_Boat_fastGaps k = some i → ae_okI cd_Boat_fastGaps prog_2_method_8_code 3 2 (some .int) false k i = true := by
  intro k i h
  have hl : k < 19 := ae_get_lt h
  exact ae_okq_at ae_x42_0 h (by omega) (by omega)
theorem ae_h42 : ae_okh 42 = true := by decide +kernel
theorem ae_o42 : ae_okM 42 := ⟨ae_h42, fun y cc nL rt o na st e k i h => by cases (show ae_mg 42 = _ from rfl).symm.trans e; exact ae_z42 k i h⟩
theorem ae_x43_0 : ae_okq cd_Boat_allNails prog_2_method_9_code 3 2 (some .int) false 0 19 = true := by decide +kernel
theorem ae_z43 : ∀ (k : Nat) (i : ae_I), ae_get cd_Boat_allNails k = some i → ae_okI cd_Boat_allNails prog_2_method_9_code 3 2 (some .int) false k i = true := by
  intro k i h
  have hl : k < 19 := ae_get_lt h
  exact ae_okq_at ae_x43_0 h (by omega) (by omega)
theorem ae_h43 : ae_okh 43 = true := by decide +kernel
theorem ae_o43 : ae_okM 43 := ⟨ae_h43, fun y cc nL rt o na st e k i h => by cases (show ae_mg 43 = _ from rfl).symm.trans e; exact ae_z43 k i h⟩
theorem ae_x44_0 : ae_okq cd_Boat_takeFrom prog_2_method_10_code 4 2 none false 0 63 = true := by decide +kernel
theorem ae_z44 : ∀ (k : Nat) (i : ae_I), ae_get cd_Boat_takeFrom k = some i → ae_okI cd_Boat_takeFrom prog_2_method_10_code 4 2 none false k i = true := by
  intro k i h
  have hl : k < 63 := ae_get_lt h
  exact ae_okq_at ae_x44_0 h (by omega) (by omega)
theorem ae_h44 : ae_okh 44 = true := by decide +kernel
theorem ae_o44 : ae_okM 44 := ⟨ae_h44, fun y cc nL rt o na st e k i h => by cases (show ae_mg 44 = _ from rfl).symm.trans e; exact ae_z44 k i h⟩
theorem ae_x45_0 : ae_okq cd_Forecast_init prog_3_method_1_code 3 3 none true 0 29 = true := by decide +kernel
theorem ae_z45 : ∀ (k : Nat) (i : ae_I), ae_get cd_Forecast_init k = some i → ae_okI cd_Forecast_init prog_3_method_1_code 3 3 none true k i = true := by
  intro k i h
  have hl : k < 29 := ae_get_lt h
  exact ae_okq_at ae_x45_0 h (by omega) (by omega)
theorem ae_h45 : ae_okh 45 = true := by decide +kernel
theorem ae_o45 : ae_okM 45 := ⟨ae_h45, fun y cc nL rt o na st e k i h => by cases (show ae_mg 45 = _ from rfl).symm.trans e; exact ae_z45 k i h⟩
theorem ae_x46_0 : ae_okq cd_Forecast_look prog_3_method_2_code 5 3 none false 0 71 = true := by decide +kernel
theorem ae_z46 : ∀ (k : Nat) (i : ae_I), ae_get cd_Forecast_look k = some i → ae_okI cd_Forecast_look prog_3_method_2_code 5 3 none false k i = true := by
  intro k i h
  have hl : k < 71 := ae_get_lt h
  exact ae_okq_at ae_x46_0 h (by omega) (by omega)
theorem ae_h46 : ae_okh 46 = true := by decide +kernel
theorem ae_o46 : ae_okM 46 := ⟨ae_h46, fun y cc nL rt o na st e k i h => by cases (show ae_mg 46 = _ from rfl).symm.trans e; exact ae_z46 k i h⟩
theorem ae_x47_0 : ae_okq cd_Forecast_stuff prog_3_method_3_code 6 3 none false 0 58 = true := by decide +kernel
theorem ae_z47 : ∀ (k : Nat) (i : ae_I), ae_get cd_Forecast_stuff k = some i → ae_okI cd_Forecast_stuff prog_3_method_3_code 6 3 none false k i = true := by
  intro k i h
  have hl : k < 58 := ae_get_lt h
  exact ae_okq_at ae_x47_0 h (by omega) (by omega)
theorem ae_h47 : ae_okh 47 = true := by decide +kernel
theorem ae_o47 : ae_okM 47 := ⟨ae_h47, fun y cc nL rt o na st e k i h => by cases (show ae_mg 47 = _ from rfl).symm.trans e; exact ae_z47 k i h⟩
theorem ae_x48_0 : ae_okq cd_Forecast_isGone prog_3_method_4_code 3 3 (some .boolean) false 0 15 = true := by decide +kernel
theorem ae_z48 : ∀ (k : Nat) (i : ae_I), ae_get cd_Forecast_isGone k = some i → ae_okI cd_Forecast_isGone prog_3_method_4_code 3 3 (some .boolean) false k i = true := by
  intro k i h
  have hl : k < 15 := ae_get_lt h
  exact ae_okq_at ae_x48_0 h (by omega) (by omega)
theorem ae_h48 : ae_okh 48 = true := by decide +kernel
theorem ae_o48 : ae_okM 48 := ⟨ae_h48, fun y cc nL rt o na st e k i h => by cases (show ae_mg 48 = _ from rfl).symm.trans e; exact ae_z48 k i h⟩
theorem ae_x49_0 : ae_okq cd_Forecast_wide prog_3_method_5_code 3 3 (some .int) false 0 18 = true := by decide +kernel
theorem ae_z49 : ∀ (k : Nat) (i : ae_I), ae_get cd_Forecast_wide k = some i → ae_okI cd_Forecast_wide prog_3_method_5_code 3 3 (some .int) false k i = true := by
  intro k i h
  have hl : k < 18 := ae_get_lt h
  exact ae_okq_at ae_x49_0 h (by omega) (by omega)
theorem ae_h49 : ae_okh 49 = true := by decide +kernel
theorem ae_o49 : ae_okM 49 := ⟨ae_h49, fun y cc nL rt o na st e k i h => by cases (show ae_mg 49 = _ from rfl).symm.trans e; exact ae_z49 k i h⟩
theorem ae_x50_0 : ae_okq cd_Forecast_left prog_3_method_6_code 3 3 (some .int) false 0 24 = true := by decide +kernel
theorem ae_z50 : ∀ (k : Nat) (i : ae_I), ae_get cd_Forecast_left k = some i → ae_okI cd_Forecast_left prog_3_method_6_code 3 3 (some .int) false k i = true := by
  intro k i h
  have hl : k < 24 := ae_get_lt h
  exact ae_okq_at ae_x50_0 h (by omega) (by omega)
theorem ae_h50 : ae_okh 50 = true := by decide +kernel
theorem ae_o50 : ae_okM 50 := ⟨ae_h50, fun y cc nL rt o na st e k i h => by cases (show ae_mg 50 = _ from rfl).symm.trans e; exact ae_z50 k i h⟩
theorem ae_x51_0 : ae_okq cd_Forecast_open prog_3_method_7_code 3 3 (some .int) false 0 7 = true := by decide +kernel
theorem ae_z51 : ∀ (k : Nat) (i : ae_I), ae_get cd_Forecast_open k = some i → ae_okI cd_Forecast_open prog_3_method_7_code 3 3 (some .int) false k i = true := by
  intro k i h
  have hl : k < 7 := ae_get_lt h
  exact ae_okq_at ae_x51_0 h (by omega) (by omega)
theorem ae_h51 : ae_okh 51 = true := by decide +kernel
theorem ae_o51 : ae_okM 51 := ⟨ae_h51, fun y cc nL rt o na st e k i h => by cases (show ae_mg 51 = _ from rfl).symm.trans e; exact ae_z51 k i h⟩
theorem ae_x52_0 : ae_okq cd_Forecast_press prog_3_method_8_code 3 3 (some .int) false 0 8 = true := by decide +kernel
theorem ae_z52 : ∀ (k : Nat) (i : ae_I), ae_get cd_Forecast_press k = some i → ae_okI cd_Forecast_press prog_3_method_8_code 3 3 (some .int) false k i = true := by
  intro k i h
  have hl : k < 8 := ae_get_lt h
  exact ae_okq_at ae_x52_0 h (by omega) (by omega)
theorem ae_h52 : ae_okh 52 = true := by decide +kernel
theorem ae_o52 : ae_okM 52 := ⟨ae_h52, fun y cc nL rt o na st e k i h => by cases (show ae_mg 52 = _ from rfl).symm.trans e; exact ae_z52 k i h⟩
theorem ae_x53_0 : ae_okq cd_Forecast_wetBehind prog_3_method_9_code 3 3 (some .int) false 0 9 = true := by decide +kernel
theorem ae_z53 : ∀ (k : Nat) (i : ae_I), ae_get cd_Forecast_wetBehind k = some i → ae_okI cd_Forecast_wetBehind prog_3_method_9_code 3 3 (some .int) false k i = true := by
  intro k i h
  have hl : k < 9 := ae_get_lt h
  exact ae_okq_at ae_x53_0 h (by omega) (by omega)
theorem ae_h53 : ae_okh 53 = true := by decide +kernel
theorem ae_o53 : ae_okM 53 := ⟨ae_h53, fun y cc nL rt o na st e k i h => by cases (show ae_mg 53 = _ from rfl).symm.trans e; exact ae_z53 k i h⟩
theorem ae_x54_0 : ae_okq cd_Forecast_grows prog_3_method_10_code 3 3 (some .int) false 0 21 = true := by decide +kernel
theorem ae_z54 : ∀ (k : Nat) (i : ae_I), ae_get cd_Forecast_grows k = some i → ae_okI cd_Forecast_grows prog_3_method_10_code 3 3 (some .int) false k i = true := by
  intro k i h
  have hl : k < 21 := ae_get_lt h
  exact ae_okq_at ae_x54_0 h (by omega) (by omega)
theorem ae_h54 : ae_okh 54 = true := by decide +kernel
theorem ae_o54 : ae_okM 54 := ⟨ae_h54, fun y cc nL rt o na st e k i h => by cases (show ae_mg 54 = _ from rfl).symm.trans e; exact ae_z54 k i h⟩
theorem ae_x55_0 : ae_okq cd_Forecast_takesUp prog_3_method_11_code 4 3 (some .int) false 0 23 = true := by decide +kernel
theorem ae_z55 : ∀ (k : Nat) (i : ae_I), ae_get cd_Forecast_takesUp k = some i → ae_okI cd_Forecast_takesUp prog_3_method_11_code 4 3 (some .int) false k i = true := by
  intro k i h
  have hl : k < 23 := ae_get_lt h
  exact ae_okq_at ae_x55_0 h (by omega) (by omega)
theorem ae_h55 : ae_okh 55 = true := by decide +kernel
theorem ae_o55 : ae_okM 55 := ⟨ae_h55, fun y cc nL rt o na st e k i h => by cases (show ae_mg 55 = _ from rfl).symm.trans e; exact ae_z55 k i h⟩
theorem ae_x56_0 : ae_okq cd_Forecast_dries prog_3_method_12_code 2 3 (some .int) false 0 10 = true := by decide +kernel
theorem ae_z56 : ∀ (k : Nat) (i : ae_I), ae_get cd_Forecast_dries k = some i → ae_okI cd_Forecast_dries prog_3_method_12_code 2 3 (some .int) false k i = true := by
  intro k i h
  have hl : k < 10 := ae_get_lt h
  exact ae_okq_at ae_x56_0 h (by omega) (by omega)
theorem ae_h56 : ae_okh 56 = true := by decide +kernel
theorem ae_o56 : ae_okM 56 := ⟨ae_h56, fun y cc nL rt o na st e k i h => by cases (show ae_mg 56 = _ from rfl).symm.trans e; exact ae_z56 k i h⟩
theorem ae_x57_0 : ae_okq cd_Forecast_leak prog_3_method_13_code 3 3 (some .int) false 0 10 = true := by decide +kernel
theorem ae_z57 : ∀ (k : Nat) (i : ae_I), ae_get cd_Forecast_leak k = some i → ae_okI cd_Forecast_leak prog_3_method_13_code 3 3 (some .int) false k i = true := by
  intro k i h
  have hl : k < 10 := ae_get_lt h
  exact ae_okq_at ae_x57_0 h (by omega) (by omega)
theorem ae_h57 : ae_okh 57 = true := by decide +kernel
theorem ae_o57 : ae_okM 57 := ⟨ae_h57, fun y cc nL rt o na st e k i h => by cases (show ae_mg 57 = _ from rfl).symm.trans e; exact ae_z57 k i h⟩
theorem ae_x58_0 : ae_okq cd_Forecast_ruled prog_3_method_14_code 5 3 (some .int) false 0 73 = true := by decide +kernel
theorem ae_z58 : ∀ (k : Nat) (i : ae_I), ae_get cd_Forecast_ruled k = some i → ae_okI cd_Forecast_ruled prog_3_method_14_code 5 3 (some .int) false k i = true := by
  intro k i h
  have hl : k < 73 := ae_get_lt h
  exact ae_okq_at ae_x58_0 h (by omega) (by omega)
theorem ae_h58 : ae_okh 58 = true := by decide +kernel
theorem ae_o58 : ae_okM 58 := ⟨ae_h58, fun y cc nL rt o na st e k i h => by cases (show ae_mg 58 = _ from rfl).symm.trans e; exact ae_z58 k i h⟩
theorem ae_x59_0 : ae_okq cd_Forecast_wetter prog_3_method_15_code 4 3 (some .int) false 0 15 = true := by decide +kernel
theorem ae_z59 : ∀ (k : Nat) (i : ae_I), ae_get cd_Forecast_wetter k = some i → ae_okI cd_Forecast_wetter prog_3_method_15_code 4 3 (some .int) false k i = true := by
  intro k i h
  have hl : k < 15 := ae_get_lt h
  exact ae_okq_at ae_x59_0 h (by omega) (by omega)
theorem ae_h59 : ae_okh 59 = true := by decide +kernel
theorem ae_o59 : ae_okM 59 := ⟨ae_h59, fun y cc nL rt o na st e k i h => by cases (show ae_mg 59 = _ from rfl).symm.trans e; exact ae_z59 k i h⟩
theorem ae_x60_0 : ae_okq cd_Forecast_openGaps prog_3_method_16_code 4 3 (some .int) false 0 24 = true := by decide +kernel
theorem ae_z60 : ∀ (k : Nat) (i : ae_I), ae_get cd_Forecast_openGaps k = some i → ae_okI cd_Forecast_openGaps prog_3_method_16_code 4 3 (some .int) false k i = true := by
  intro k i h
  have hl : k < 24 := ae_get_lt h
  exact ae_okq_at ae_x60_0 h (by omega) (by omega)
theorem ae_h60 : ae_okh 60 = true := by decide +kernel
theorem ae_o60 : ae_okM 60 := ⟨ae_h60, fun y cc nL rt o na st e k i h => by cases (show ae_mg 60 = _ from rfl).symm.trans e; exact ae_z60 k i h⟩
theorem ae_x61_0 : ae_okq cd_Forecast_mostOpen prog_3_method_17_code 3 3 (some .int) false 0 24 = true := by decide +kernel
theorem ae_z61 : ∀ (k : Nat) (i : ae_I), ae_get cd_Forecast_mostOpen k = some i → ae_okI cd_Forecast_mostOpen prog_3_method_17_code 3 3 (some .int) false k i = true := by
  intro k i h
  have hl : k < 24 := ae_get_lt h
  exact ae_okq_at ae_x61_0 h (by omega) (by omega)
theorem ae_h61 : ae_okh 61 = true := by decide +kernel
theorem ae_o61 : ae_okM 61 := ⟨ae_h61, fun y cc nL rt o na st e k i h => by cases (show ae_mg 61 = _ from rfl).symm.trans e; exact ae_z61 k i h⟩
theorem ae_x62_0 : ae_okq cd_Forecast_comesIn prog_3_method_18_code 5 3 (some .int) false 0 35 = true := by decide +kernel
theorem ae_z62 : ∀ (k : Nat) (i : ae_I), ae_get cd_Forecast_comesIn k = some i → ae_okI cd_Forecast_comesIn prog_3_method_18_code 5 3 (some .int) false k i = true := by
  intro k i h
  have hl : k < 35 := ae_get_lt h
  exact ae_okq_at ae_x62_0 h (by omega) (by omega)
theorem ae_h62 : ae_okh 62 = true := by decide +kernel
theorem ae_o62 : ae_okM 62 := ⟨ae_h62, fun y cc nL rt o na st e k i h => by cases (show ae_mg 62 = _ from rfl).symm.trans e; exact ae_z62 k i h⟩
theorem ae_x63_0 : ae_okq cd_Forecast_cameIn prog_3_method_19_code 3 3 (some .int) false 0 18 = true := by decide +kernel
theorem ae_z63 : ∀ (k : Nat) (i : ae_I), ae_get cd_Forecast_cameIn k = some i → ae_okI cd_Forecast_cameIn prog_3_method_19_code 3 3 (some .int) false k i = true := by
  intro k i h
  have hl : k < 18 := ae_get_lt h
  exact ae_okq_at ae_x63_0 h (by omega) (by omega)
theorem ae_h63 : ae_okh 63 = true := by decide +kernel
theorem ae_o63 : ae_okM 63 := ⟨ae_h63, fun y cc nL rt o na st e k i h => by cases (show ae_mg 63 = _ from rfl).symm.trans e; exact ae_z63 k i h⟩
theorem ae_x64_0 : ae_okq cd_Forecast_gone prog_3_method_20_code 3 3 (some .int) false 0 25 = true := by decide +kernel
theorem ae_z64 : ∀ (k : Nat) (i : ae_I), ae_get cd_Forecast_gone k = some i → ae_okI cd_Forecast_gone prog_3_method_20_code 3 3 (some .int) false k i = true := by
  intro k i h
  have hl : k < 25 := ae_get_lt h
  exact ae_okq_at ae_x64_0 h (by omega) (by omega)
theorem ae_h64 : ae_okh 64 = true := by decide +kernel
theorem ae_o64 : ae_okM 64 := ⟨ae_h64, fun y cc nL rt o na st e k i h => by cases (show ae_mg 64 = _ from rfl).symm.trans e; exact ae_z64 k i h⟩
theorem ae_x65_0 : ae_okq cd_Forecast_comeTrue prog_3_method_21_code 2 3 none false 0 63 = true := by decide +kernel
theorem ae_z65 : ∀ (k : Nat) (i : ae_I), ae_get cd_Forecast_comeTrue k = some i → ae_okI cd_Forecast_comeTrue prog_3_method_21_code 2 3 none false k i = true := by
  intro k i h
  have hl : k < 63 := ae_get_lt h
  exact ae_okq_at ae_x65_0 h (by omega) (by omega)
theorem ae_h65 : ae_okh 65 = true := by decide +kernel
theorem ae_o65 : ae_okM 65 := ⟨ae_h65, fun y cc nL rt o na st e k i h => by cases (show ae_mg 65 = _ from rfl).symm.trans e; exact ae_z65 k i h⟩
theorem ae_x66_0 : ae_okq cd_Forecast_dryOneDay prog_3_method_22_code 2 3 none false 0 39 = true := by decide +kernel
theorem ae_z66 : ∀ (k : Nat) (i : ae_I), ae_get cd_Forecast_dryOneDay k = some i → ae_okI cd_Forecast_dryOneDay prog_3_method_22_code 2 3 none false k i = true := by
  intro k i h
  have hl : k < 39 := ae_get_lt h
  exact ae_okq_at ae_x66_0 h (by omega) (by omega)
theorem ae_h66 : ae_okh 66 = true := by decide +kernel
theorem ae_o66 : ae_okM 66 := ⟨ae_h66, fun y cc nL rt o na st e k i h => by cases (show ae_mg 66 = _ from rfl).symm.trans e; exact ae_z66 k i h⟩
theorem ae_x67_0 : ae_okq cd_Reader_init prog_4_method_1_code 1 4 none true 0 23 = true := by decide +kernel
theorem ae_z67 : ∀ (k : Nat) (i : ae_I), ae_get cd_Reader_init k = some i → ae_okI cd_Reader_init prog_4_method_1_code 1 4 none true k i = true := by
  intro k i h
  have hl : k < 23 := ae_get_lt h
  exact ae_okq_at ae_x67_0 h (by omega) (by omega)
theorem ae_h67 : ae_okh 67 = true := by decide +kernel
theorem ae_o67 : ae_okM 67 := ⟨ae_h67, fun y cc nL rt o na st e k i h => by cases (show ae_mg 67 = _ from rfl).symm.trans e; exact ae_z67 k i h⟩
theorem ae_x68_0 : ae_okq cd_Reader_append prog_4_method_2_code 2 4 none false 0 17 = true := by decide +kernel
theorem ae_z68 : ∀ (k : Nat) (i : ae_I), ae_get cd_Reader_append k = some i → ae_okI cd_Reader_append prog_4_method_2_code 2 4 none false k i = true := by
  intro k i h
  have hl : k < 17 := ae_get_lt h
  exact ae_okq_at ae_x68_0 h (by omega) (by omega)
theorem ae_h68 : ae_okh 68 = true := by decide +kernel
theorem ae_o68 : ae_okM 68 := ⟨ae_h68, fun y cc nL rt o na st e k i h => by cases (show ae_mg 68 = _ from rfl).symm.trans e; exact ae_z68 k i h⟩
theorem ae_x69_0 : ae_okq cd_Reader_read prog_4_method_3_code 2 4 (some .int) false 0 46 = true := by decide +kernel
theorem ae_z69 : ∀ (k : Nat) (i : ae_I), ae_get cd_Reader_read k = some i → ae_okI cd_Reader_read prog_4_method_3_code 2 4 (some .int) false k i = true := by
  intro k i h
  have hl : k < 46 := ae_get_lt h
  exact ae_okq_at ae_x69_0 h (by omega) (by omega)
theorem ae_h69 : ae_okh 69 = true := by decide +kernel
theorem ae_o69 : ae_okM 69 := ⟨ae_h69, fun y cc nL rt o na st e k i h => by cases (show ae_mg 69 = _ from rfl).symm.trans e; exact ae_z69 k i h⟩
theorem ae_x70_0 : ae_okq cd_Reader_split prog_4_method_4_code 5 4 none false 0 83 = true := by decide +kernel
theorem ae_z70 : ∀ (k : Nat) (i : ae_I), ae_get cd_Reader_split k = some i → ae_okI cd_Reader_split prog_4_method_4_code 5 4 none false k i = true := by
  intro k i h
  have hl : k < 83 := ae_get_lt h
  exact ae_okq_at ae_x70_0 h (by omega) (by omega)
theorem ae_h70 : ae_okh 70 = true := by decide +kernel
theorem ae_o70 : ae_okM 70 := ⟨ae_h70, fun y cc nL rt o na st e k i h => by cases (show ae_mg 70 = _ from rfl).symm.trans e; exact ae_z70 k i h⟩
theorem ae_x71_0 : ae_okq cd_Reader_addToken prog_4_method_5_code 3 4 none false 0 25 = true := by decide +kernel
theorem ae_z71 : ∀ (k : Nat) (i : ae_I), ae_get cd_Reader_addToken k = some i → ae_okI cd_Reader_addToken prog_4_method_5_code 3 4 none false k i = true := by
  intro k i h
  have hl : k < 25 := ae_get_lt h
  exact ae_okq_at ae_x71_0 h (by omega) (by omega)
theorem ae_h71 : ae_okh 71 = true := by decide +kernel
theorem ae_o71 : ae_okM 71 := ⟨ae_h71, fun y cc nL rt o na st e k i h => by cases (show ae_mg 71 = _ from rfl).symm.trans e; exact ae_z71 k i h⟩
theorem ae_x72_0 : ae_okq cd_Reader_isDigit prog_4_method_6_code 1 4 (some .boolean) false 0 10 = true := by decide +kernel
theorem ae_z72 : ∀ (k : Nat) (i : ae_I), ae_get cd_Reader_isDigit k = some i → ae_okI cd_Reader_isDigit prog_4_method_6_code 1 4 (some .boolean) false k i = true := by
  intro k i h
  have hl : k < 10 := ae_get_lt h
  exact ae_okq_at ae_x72_0 h (by omega) (by omega)
theorem ae_h72 : ae_okh 72 = true := by decide +kernel
theorem ae_o72 : ae_okM 72 := ⟨ae_h72, fun y cc nL rt o na st e k i h => by cases (show ae_mg 72 = _ from rfl).symm.trans e; exact ae_z72 k i h⟩
theorem ae_x73_0 : ae_okq cd_Reader_isLetter prog_4_method_7_code 1 4 (some .boolean) false 0 10 = true := by decide +kernel
theorem ae_z73 : ∀ (k : Nat) (i : ae_I), ae_get cd_Reader_isLetter k = some i → ae_okI cd_Reader_isLetter prog_4_method_7_code 1 4 (some .boolean) false k i = true := by
  intro k i h
  have hl : k < 10 := ae_get_lt h
  exact ae_okq_at ae_x73_0 h (by omega) (by omega)
theorem ae_h73 : ae_okh 73 = true := by decide +kernel
theorem ae_o73 : ae_okM 73 := ⟨ae_h73, fun y cc nL rt o na st e k i h => by cases (show ae_mg 73 = _ from rfl).symm.trans e; exact ae_z73 k i h⟩
theorem ae_x74_0 : ae_okq cd_Reader_endOfNumber prog_4_method_8_code 3 4 (some .int) false 0 16 = true := by decide +kernel
theorem ae_z74 : ∀ (k : Nat) (i : ae_I), ae_get cd_Reader_endOfNumber k = some i → ae_okI cd_Reader_endOfNumber prog_4_method_8_code 3 4 (some .int) false k i = true := by
  intro k i h
  have hl : k < 16 := ae_get_lt h
  exact ae_okq_at ae_x74_0 h (by omega) (by omega)
theorem ae_h74 : ae_okh 74 = true := by decide +kernel
theorem ae_o74 : ae_okM 74 := ⟨ae_h74, fun y cc nL rt o na st e k i h => by cases (show ae_mg 74 = _ from rfl).symm.trans e; exact ae_z74 k i h⟩
theorem ae_x75_0 : ae_okq cd_Reader_endOfWord prog_4_method_9_code 3 4 (some .int) false 0 16 = true := by decide +kernel
theorem ae_z75 : ∀ (k : Nat) (i : ae_I), ae_get cd_Reader_endOfWord k = some i → ae_okI cd_Reader_endOfWord prog_4_method_9_code 3 4 (some .int) false k i = true := by
  intro k i h
  have hl : k < 16 := ae_get_lt h
  exact ae_okq_at ae_x75_0 h (by omega) (by omega)
theorem ae_h75 : ae_okh 75 = true := by decide +kernel
theorem ae_o75 : ae_okM 75 := ⟨ae_h75, fun y cc nL rt o na st e k i h => by cases (show ae_mg 75 = _ from rfl).symm.trans e; exact ae_z75 k i h⟩
theorem ae_x76_0 : ae_okq cd_Reader_number prog_4_method_10_code 5 4 (some .int) false 0 22 = true := by decide +kernel
theorem ae_z76 : ∀ (k : Nat) (i : ae_I), ae_get cd_Reader_number k = some i → ae_okI cd_Reader_number prog_4_method_10_code 5 4 (some .int) false k i = true := by
  intro k i h
  have hl : k < 22 := ae_get_lt h
  exact ae_okq_at ae_x76_0 h (by omega) (by omega)
theorem ae_h76 : ae_okh 76 = true := by decide +kernel
theorem ae_o76 : ae_okM 76 := ⟨ae_h76, fun y cc nL rt o na st e k i h => by cases (show ae_mg 76 = _ from rfl).symm.trans e; exact ae_z76 k i h⟩
theorem ae_x77_0 : ae_okq cd_Reader_token prog_4_method_11_code 1 4 (some .int) false 0 13 = true := by decide +kernel
theorem ae_z77 : ∀ (k : Nat) (i : ae_I), ae_get cd_Reader_token k = some i → ae_okI cd_Reader_token prog_4_method_11_code 1 4 (some .int) false k i = true := by
  intro k i h
  have hl : k < 13 := ae_get_lt h
  exact ae_okq_at ae_x77_0 h (by omega) (by omega)
theorem ae_h77 : ae_okh 77 = true := by decide +kernel
theorem ae_o77 : ae_okM 77 := ⟨ae_h77, fun y cc nL rt o na st e k i h => by cases (show ae_mg 77 = _ from rfl).symm.trans e; exact ae_z77 k i h⟩
theorem ae_x78_0 : ae_okq cd_Reader_pass prog_4_method_12_code 2 4 (some .boolean) false 0 14 = true := by decide +kernel
theorem ae_z78 : ∀ (k : Nat) (i : ae_I), ae_get cd_Reader_pass k = some i → ae_okI cd_Reader_pass prog_4_method_12_code 2 4 (some .boolean) false k i = true := by
  intro k i h
  have hl : k < 14 := ae_get_lt h
  exact ae_okq_at ae_x78_0 h (by omega) (by omega)
theorem ae_h78 : ae_okh 78 = true := by decide +kernel
theorem ae_o78 : ae_okM 78 := ⟨ae_h78, fun y cc nL rt o na st e k i h => by cases (show ae_mg 78 = _ from rfl).symm.trans e; exact ae_z78 k i h⟩
theorem ae_x79_0 : ae_okq cd_Reader_write prog_4_method_13_code 2 4 (some .boolean) false 0 20 = true := by decide +kernel
theorem ae_z79 : ∀ (k : Nat) (i : ae_I), ae_get cd_Reader_write k = some i → ae_okI cd_Reader_write prog_4_method_13_code 2 4 (some .boolean) false k i = true := by
  intro k i h
  have hl : k < 20 := ae_get_lt h
  exact ae_okq_at ae_x79_0 h (by omega) (by omega)
theorem ae_h79 : ae_okh 79 = true := by decide +kernel
theorem ae_o79 : ae_okM 79 := ⟨ae_h79, fun y cc nL rt o na st e k i h => by cases (show ae_mg 79 = _ from rfl).symm.trans e; exact ae_z79 k i h⟩
theorem ae_x80_0 : ae_okq cd_Reader_part prog_4_method_14_code 3 4 (some .boolean) false 0 20 = true := by decide +kernel
theorem ae_z80 : ∀ (k : Nat) (i : ae_I), ae_get cd_Reader_part k = some i → ae_okI cd_Reader_part prog_4_method_14_code 3 4 (some .boolean) false k i = true := by
  intro k i h
  have hl : k < 20 := ae_get_lt h
  exact ae_okq_at ae_x80_0 h (by omega) (by omega)
theorem ae_h80 : ae_okh 80 = true := by decide +kernel
theorem ae_o80 : ae_okM 80 := ⟨ae_h80, fun y cc nL rt o na st e k i h => by cases (show ae_mg 80 = _ from rfl).symm.trans e; exact ae_z80 k i h⟩
theorem ae_x81_0 : ae_okq cd_Reader_either prog_4_method_15_code 4 4 (some .boolean) false 0 31 = true := by decide +kernel
theorem ae_z81 : ∀ (k : Nat) (i : ae_I), ae_get cd_Reader_either k = some i → ae_okI cd_Reader_either prog_4_method_15_code 4 4 (some .boolean) false k i = true := by
  intro k i h
  have hl : k < 31 := ae_get_lt h
  exact ae_okq_at ae_x81_0 h (by omega) (by omega)
theorem ae_h81 : ae_okh 81 = true := by decide +kernel
theorem ae_o81 : ae_okM 81 := ⟨ae_h81, fun y cc nL rt o na st e k i h => by cases (show ae_mg 81 = _ from rfl).symm.trans e; exact ae_z81 k i h⟩
theorem ae_x82_0 : ae_okq cd_Reader_both prog_4_method_16_code 4 4 (some .boolean) false 0 31 = true := by decide +kernel
theorem ae_z82 : ∀ (k : Nat) (i : ae_I), ae_get cd_Reader_both k = some i → ae_okI cd_Reader_both prog_4_method_16_code 4 4 (some .boolean) false k i = true := by
  intro k i h
  have hl : k < 31 := ae_get_lt h
  exact ae_okq_at ae_x82_0 h (by omega) (by omega)
theorem ae_h82 : ae_okh 82 = true := by decide +kernel
theorem ae_o82 : ae_okM 82 := ⟨ae_h82, fun y cc nL rt o na st e k i h => by cases (show ae_mg 82 = _ from rfl).symm.trans e; exact ae_z82 k i h⟩
theorem ae_x83_0 : ae_okq cd_Reader_unless prog_4_method_17_code 3 4 (some .boolean) false 0 58 = true := by decide +kernel
theorem ae_z83 : ∀ (k : Nat) (i : ae_I), ae_get cd_Reader_unless k = some i → ae_okI cd_Reader_unless prog_4_method_17_code 3 4 (some .boolean) false k i = true := by
  intro k i h
  have hl : k < 58 := ae_get_lt h
  exact ae_okq_at ae_x83_0 h (by omega) (by omega)
theorem ae_h83 : ae_okh 83 = true := by decide +kernel
theorem ae_o83 : ae_okM 83 := ⟨ae_h83, fun y cc nL rt o na st e k i h => by cases (show ae_mg 83 = _ from rfl).symm.trans e; exact ae_z83 k i h⟩
theorem ae_x84_0 : ae_okq cd_Reader_sum prog_4_method_18_code 5 4 (some .boolean) false 0 43 = true := by decide +kernel
theorem ae_z84 : ∀ (k : Nat) (i : ae_I), ae_get cd_Reader_sum k = some i → ae_okI cd_Reader_sum prog_4_method_18_code 5 4 (some .boolean) false k i = true := by
  intro k i h
  have hl : k < 43 := ae_get_lt h
  exact ae_okq_at ae_x84_0 h (by omega) (by omega)
theorem ae_h84 : ae_okh 84 = true := by decide +kernel
theorem ae_o84 : ae_okM 84 := ⟨ae_h84, fun y cc nL rt o na st e k i h => by cases (show ae_mg 84 = _ from rfl).symm.trans e; exact ae_z84 k i h⟩
theorem ae_x85_0 : ae_okq cd_Reader_term prog_4_method_19_code 4 4 (some .boolean) false 0 31 = true := by decide +kernel
theorem ae_z85 : ∀ (k : Nat) (i : ae_I), ae_get cd_Reader_term k = some i → ae_okI cd_Reader_term prog_4_method_19_code 4 4 (some .boolean) false k i = true := by
  intro k i h
  have hl : k < 31 := ae_get_lt h
  exact ae_okq_at ae_x85_0 h (by omega) (by omega)
theorem ae_h85 : ae_okh 85 = true := by decide +kernel
theorem ae_o85 : ae_okM 85 := ⟨ae_h85, fun y cc nL rt o na st e k i h => by cases (show ae_mg 85 = _ from rfl).symm.trans e; exact ae_z85 k i h⟩
theorem ae_x86_0 : ae_okq cd_Reader_one prog_4_method_20_code 3 4 (some .boolean) false 0 62 = true := by decide +kernel
theorem ae_z86 : ∀ (k : Nat) (i : ae_I), ae_get cd_Reader_one k = some i → ae_okI cd_Reader_one prog_4_method_20_code 3 4 (some .boolean) false k i = true := by
  intro k i h
  have hl : k < 62 := ae_get_lt h
  exact ae_okq_at ae_x86_0 h (by omega) (by omega)
theorem ae_h86 : ae_okh 86 = true := by decide +kernel
theorem ae_o86 : ae_okM 86 := ⟨ae_h86, fun y cc nL rt o na st e k i h => by cases (show ae_mg 86 = _ from rfl).symm.trans e; exact ae_z86 k i h⟩
theorem ae_x87_0 : ae_okq cd_Rules_init prog_5_method_1_code 1 5 none true 0 11 = true := by decide +kernel
theorem ae_z87 : ∀ (k : Nat) (i : ae_I), ae_get cd_Rules_init k = some i → ae_okI cd_Rules_init prog_5_method_1_code 1 5 none true k i = true := by
  intro k i h
  have hl : k < 11 := ae_get_lt h
  exact ae_okq_at ae_x87_0 h (by omega) (by omega)
theorem ae_h87 : ae_okh 87 = true := by decide +kernel
theorem ae_o87 : ae_okM 87 := ⟨ae_h87, fun y cc nL rt o na st e k i h => by cases (show ae_mg 87 = _ from rfl).symm.trans e; exact ae_z87 k i h⟩
theorem ae_x88_0 : ae_okq cd_Rules_keep prog_5_method_2_code 2 5 (some .int) false 0 26 = true := by decide +kernel
theorem ae_z88 : ∀ (k : Nat) (i : ae_I), ae_get cd_Rules_keep k = some i → ae_okI cd_Rules_keep prog_5_method_2_code 2 5 (some .int) false k i = true := by
  intro k i h
  have hl : k < 26 := ae_get_lt h
  exact ae_okq_at ae_x88_0 h (by omega) (by omega)
theorem ae_h88 : ae_okh 88 = true := by decide +kernel
theorem ae_o88 : ae_okM 88 := ⟨ae_h88, fun y cc nL rt o na st e k i h => by cases (show ae_mg 88 = _ from rfl).symm.trans e; exact ae_z88 k i h⟩
theorem ae_x89_0 : ae_okq cd_Rules_answer prog_5_method_3_code 9 5 (some .int) false 0 103 = true := by decide +kernel
theorem ae_z89 : ∀ (k : Nat) (i : ae_I), ae_get cd_Rules_answer k = some i → ae_okI cd_Rules_answer prog_5_method_3_code 9 5 (some .int) false k i = true := by
  intro k i h
  have hl : k < 103 := ae_get_lt h
  exact ae_okq_at ae_x89_0 h (by omega) (by omega)
theorem ae_h89 : ae_okh 89 = true := by decide +kernel
theorem ae_o89 : ae_okM 89 := ⟨ae_h89, fun y cc nL rt o na st e k i h => by cases (show ae_mg 89 = _ from rfl).symm.trans e; exact ae_z89 k i h⟩
theorem ae_x90_0 : ae_okq cd_Rules_push prog_5_method_4_code 2 5 none false 0 19 = true := by decide +kernel
theorem ae_z90 : ∀ (k : Nat) (i : ae_I), ae_get cd_Rules_push k = some i → ae_okI cd_Rules_push prog_5_method_4_code 2 5 none false k i = true := by
  intro k i h
  have hl : k < 19 := ae_get_lt h
  exact ae_okq_at ae_x90_0 h (by omega) (by omega)
theorem ae_h90 : ae_okh 90 = true := by decide +kernel
theorem ae_o90 : ae_okM 90 := ⟨ae_h90, fun y cc nL rt o na st e k i h => by cases (show ae_mg 90 = _ from rfl).symm.trans e; exact ae_z90 k i h⟩
theorem ae_x91_0 : ae_okq cd_Rules_pop prog_5_method_5_code 1 5 (some .int) false 0 18 = true := by decide +kernel
theorem ae_z91 : ∀ (k : Nat) (i : ae_I), ae_get cd_Rules_pop k = some i → ae_okI cd_Rules_pop prog_5_method_5_code 1 5 (some .int) false k i = true := by
  intro k i h
  have hl : k < 18 := ae_get_lt h
  exact ae_okq_at ae_x91_0 h (by omega) (by omega)
theorem ae_h91 : ae_okh 91 = true := by decide +kernel
theorem ae_o91 : ae_okM 91 := ⟨ae_h91, fun y cc nL rt o na st e k i h => by cases (show ae_mg 91 = _ from rfl).symm.trans e; exact ae_z91 k i h⟩
theorem ae_x92_0 : ae_okq cd_Rules_joined prog_5_method_6_code 3 5 (some .int) false 0 44 = true := by decide +kernel
theorem ae_z92 : ∀ (k : Nat) (i : ae_I), ae_get cd_Rules_joined k = some i → ae_okI cd_Rules_joined prog_5_method_6_code 3 5 (some .int) false k i = true := by
  intro k i h
  have hl : k < 44 := ae_get_lt h
  exact ae_okq_at ae_x92_0 h (by omega) (by omega)
theorem ae_h92 : ae_okh 92 = true := by decide +kernel
theorem ae_o92 : ae_okM 92 := ⟨ae_h92, fun y cc nL rt o na st e k i h => by cases (show ae_mg 92 = _ from rfl).symm.trans e; exact ae_z92 k i h⟩
theorem ae_x93_0 : ae_okq cd_Sheet_init prog_6_method_1_code 1 6 none true 0 10 = true := by decide +kernel
theorem ae_z93 : ∀ (k : Nat) (i : ae_I), ae_get cd_Sheet_init k = some i → ae_okI cd_Sheet_init prog_6_method_1_code 1 6 none true k i = true := by
  intro k i h
  have hl : k < 10 := ae_get_lt h
  exact ae_okq_at ae_x93_0 h (by omega) (by omega)
theorem ae_h93 : ae_okh 93 = true := by decide +kernel
theorem ae_o93 : ae_okM 93 := ⟨ae_h93, fun y cc nL rt o na st e k i h => by cases (show ae_mg 93 = _ from rfl).symm.trans e; exact ae_z93 k i h⟩
theorem ae_x94_0 : ae_okq cd_Sheet_become prog_6_method_2_code 4 6 none false 0 19 = true := by decide +kernel
theorem ae_z94 : ∀ (k : Nat) (i : ae_I), ae_get cd_Sheet_become k = some i → ae_okI cd_Sheet_become prog_6_method_2_code 4 6 none false k i = true := by
  intro k i h
  have hl : k < 19 := ae_get_lt h
  exact ae_okq_at ae_x94_0 h (by omega) (by omega)
theorem ae_h94 : ae_okh 94 = true := by decide +kernel
theorem ae_o94 : ae_okM 94 := ⟨ae_h94, fun y cc nL rt o na st e k i h => by cases (show ae_mg 94 = _ from rfl).symm.trans e; exact ae_z94 k i h⟩
theorem ae_x95_0 : ae_okq cd_Sheet_holds prog_6_method_3_code 3 6 (some .boolean) false 0 18 = true := by decide +kernel
theorem ae_z95 : ∀ (k : Nat) (i : ae_I), ae_get cd_Sheet_holds k = some i → ae_okI cd_Sheet_holds prog_6_method_3_code 3 6 (some .boolean) false k i = true := by
  intro k i h
  have hl : k < 18 := ae_get_lt h
  exact ae_okq_at ae_x95_0 h (by omega) (by omega)
theorem ae_h95 : ae_okh 95 = true := by decide +kernel
theorem ae_o95 : ae_okM 95 := ⟨ae_h95, fun y cc nL rt o na st e k i h => by cases (show ae_mg 95 = _ from rfl).symm.trans e; exact ae_z95 k i h⟩
theorem ae_x96_0 : ae_okq cd_Sheet_put prog_6_method_4_code 3 6 none false 0 19 = true := by decide +kernel
theorem ae_z96 : ∀ (k : Nat) (i : ae_I), ae_get cd_Sheet_put k = some i → ae_okI cd_Sheet_put prog_6_method_4_code 3 6 none false k i = true := by
  intro k i h
  have hl : k < 19 := ae_get_lt h
  exact ae_okq_at ae_x96_0 h (by omega) (by omega)
theorem ae_h96 : ae_okh 96 = true := by decide +kernel
theorem ae_o96 : ae_okM 96 := ⟨ae_h96, fun y cc nL rt o na st e k i h => by cases (show ae_mg 96 = _ from rfl).symm.trans e; exact ae_z96 k i h⟩
theorem ae_x97_0 : ae_okq cd_Steps_init prog_7_method_1_code 2 7 none true 0 30 = true := by decide +kernel
theorem ae_z97 : ∀ (k : Nat) (i : ae_I), ae_get cd_Steps_init k = some i → ae_okI cd_Steps_init prog_7_method_1_code 2 7 none true k i = true := by
  intro k i h
  have hl : k < 30 := ae_get_lt h
  exact ae_okq_at ae_x97_0 h (by omega) (by omega)
theorem ae_h97 : ae_okh 97 = true := by decide +kernel
theorem ae_o97 : ae_okM 97 := ⟨ae_h97, fun y cc nL rt o na st e k i h => by cases (show ae_mg 97 = _ from rfl).symm.trans e; exact ae_z97 k i h⟩
theorem ae_x98_0 : ae_okq cd_Token_isNumberOrName prog_8_method_2_code 1 8 (some .boolean) false 0 9 = true := by decide +kernel
theorem ae_z98 : ∀ (k : Nat) (i : ae_I), ae_get cd_Token_isNumberOrName k = some i → ae_okI cd_Token_isNumberOrName prog_8_method_2_code 1 8 (some .boolean) false k i = true := by
  intro k i h
  have hl : k < 9 := ae_get_lt h
  exact ae_okq_at ae_x98_0 h (by omega) (by omega)
theorem ae_h98 : ae_okh 98 = true := by decide +kernel
theorem ae_o98 : ae_okM 98 := ⟨ae_h98, fun y cc nL rt o na st e k i h => by cases (show ae_mg 98 = _ from rfl).symm.trans e; exact ae_z98 k i h⟩
theorem ae_x99_0 : ae_okq cd_Token_ofSign prog_8_method_3_code 1 8 (some .int) false 0 20 = true := by decide +kernel
theorem ae_z99 : ∀ (k : Nat) (i : ae_I), ae_get cd_Token_ofSign k = some i → ae_okI cd_Token_ofSign prog_8_method_3_code 1 8 (some .int) false k i = true := by
  intro k i h
  have hl : k < 20 := ae_get_lt h
  exact ae_okq_at ae_x99_0 h (by omega) (by omega)
theorem ae_h99 : ae_okh 99 = true := by decide +kernel
theorem ae_o99 : ae_okM 99 := ⟨ae_h99, fun y cc nL rt o na st e k i h => by cases (show ae_mg 99 = _ from rfl).symm.trans e; exact ae_z99 k i h⟩
theorem ae_x100_0 : ae_okq cd_Token_ofWord prog_8_method_4_code 4 8 (some .int) false 0 19 = true := by decide +kernel
theorem ae_z100 : ∀ (k : Nat) (i : ae_I), ae_get cd_Token_ofWord k = some i → ae_okI cd_Token_ofWord prog_8_method_4_code 4 8 (some .int) false k i = true := by
  intro k i h
  have hl : k < 19 := ae_get_lt h
  exact ae_okq_at ae_x100_0 h (by omega) (by omega)
theorem ae_h100 : ae_okh 100 = true := by decide +kernel
theorem ae_o100 : ae_okM 100 := ⟨ae_h100, fun y cc nL rt o na st e k i h => by cases (show ae_mg 100 = _ from rfl).symm.trans e; exact ae_z100 k i h⟩
theorem ae_x101_0 : ae_okq cd_Token_isWord prog_8_method_5_code 5 8 (some .boolean) false 0 29 = true := by decide +kernel
theorem ae_z101 : ∀ (k : Nat) (i : ae_I), ae_get cd_Token_isWord k = some i → ae_okI cd_Token_isWord prog_8_method_5_code 5 8 (some .boolean) false k i = true := by
  intro k i h
  have hl : k < 29 := ae_get_lt h
  exact ae_okq_at ae_x101_0 h (by omega) (by omega)
theorem ae_h101 : ae_okh 101 = true := by decide +kernel
theorem ae_o101 : ae_okM 101 := ⟨ae_h101, fun y cc nL rt o na st e k i h => by cases (show ae_mg 101 = _ from rfl).symm.trans e; exact ae_z101 k i h⟩
theorem ae_x102_0 : ae_okq cd_Token_word prog_8_method_6_code 1 8 (some (.object "java/lang/String")) false 0 26 = true := by decide +kernel
theorem ae_z102 : ∀ (k : Nat) (i : ae_I), ae_get cd_Token_word k = some i → ae_okI cd_Token_word prog_8_method_6_code 1 8 (some (.object "java/lang/String")) false k i = true := by
  intro k i h
  have hl : k < 26 := ae_get_lt h
  exact ae_okq_at ae_x102_0 h (by omega) (by omega)
theorem ae_h102 : ae_okh 102 = true := by decide +kernel
theorem ae_o102 : ae_okM 102 := ⟨ae_h102, fun y cc nL rt o na st e k i h => by cases (show ae_mg 102 = _ from rfl).symm.trans e; exact ae_z102 k i h⟩
theorem ae_x103_0 : ae_okq cd_Token_tokenOfWord prog_8_method_7_code 1 8 (some .int) false 0 18 = true := by decide +kernel
theorem ae_z103 : ∀ (k : Nat) (i : ae_I), ae_get cd_Token_tokenOfWord k = some i → ae_okI cd_Token_tokenOfWord prog_8_method_7_code 1 8 (some .int) false k i = true := by
  intro k i h
  have hl : k < 18 := ae_get_lt h
  exact ae_okq_at ae_x103_0 h (by omega) (by omega)
theorem ae_h103 : ae_okh 103 = true := by decide +kernel
theorem ae_o103 : ae_okM 103 := ⟨ae_h103, fun y cc nL rt o na st e k i h => by cases (show ae_mg 103 = _ from rfl).symm.trans e; exact ae_z103 k i h⟩
theorem ae_x104_0 : ae_okq cd_Wood_isKind prog_9_method_2_code 1 9 (some .boolean) false 0 10 = true := by decide +kernel
theorem ae_z104 : ∀ (k : Nat) (i : ae_I), ae_get cd_Wood_isKind k = some i → ae_okI cd_Wood_isKind prog_9_method_2_code 1 9 (some .boolean) false k i = true := by
  intro k i h
  have hl : k < 10 := ae_get_lt h
  exact ae_okq_at ae_x104_0 h (by omega) (by omega)
theorem ae_h104 : ae_okh 104 = true := by decide +kernel
theorem ae_o104 : ae_okM 104 := ⟨ae_h104, fun y cc nL rt o na st e k i h => by cases (show ae_mg 104 = _ from rfl).symm.trans e; exact ae_z104 k i h⟩
theorem ae_x105_0 : ae_okq cd_Wood_isUnder prog_9_method_3_code 4 9 (some .boolean) false 0 24 = true := by decide +kernel
theorem ae_z105 : ∀ (k : Nat) (i : ae_I), ae_get cd_Wood_isUnder k = some i → ae_okI cd_Wood_isUnder prog_9_method_3_code 4 9 (some .boolean) false k i = true := by
  intro k i h
  have hl : k < 24 := ae_get_lt h
  exact ae_okq_at ae_x105_0 h (by omega) (by omega)
theorem ae_h105 : ae_okh 105 = true := by decide +kernel
theorem ae_o105 : ae_okM 105 := ⟨ae_h105, fun y cc nL rt o na st e k i h => by cases (show ae_mg 105 = _ from rfl).symm.trans e; exact ae_z105 k i h⟩
theorem ae_x106_0 : ae_okq cd_Wood_grows prog_9_method_4_code 5 9 (some .int) false 0 32 = true := by decide +kernel
theorem ae_z106 : ∀ (k : Nat) (i : ae_I), ae_get cd_Wood_grows k = some i → ae_okI cd_Wood_grows prog_9_method_4_code 5 9 (some .int) false k i = true := by
  intro k i h
  have hl : k < 32 := ae_get_lt h
  exact ae_okq_at ae_x106_0 h (by omega) (by omega)
theorem ae_h106 : ae_okh 106 = true := by decide +kernel
theorem ae_o106 : ae_okM 106 := ⟨ae_h106, fun y cc nL rt o na st e k i h => by cases (show ae_mg 106 = _ from rfl).symm.trans e; exact ae_z106 k i h⟩
theorem ae_x107_0 : ae_okq cd_Wood_takesUp prog_9_method_5_code 3 9 (some .int) false 0 18 = true := by decide +kernel
theorem ae_z107 : ∀ (k : Nat) (i : ae_I), ae_get cd_Wood_takesUp k = some i → ae_okI cd_Wood_takesUp prog_9_method_5_code 3 9 (some .int) false k i = true := by
  intro k i h
  have hl : k < 18 := ae_get_lt h
  exact ae_okq_at ae_x107_0 h (by omega) (by omega)
theorem ae_h107 : ae_okh 107 = true := by decide +kernel
theorem ae_o107 : ae_okM 107 := ⟨ae_h107, fun y cc nL rt o na st e k i h => by cases (show ae_mg 107 = _ from rfl).symm.trans e; exact ae_z107 k i h⟩
theorem ae_x108_0 : ae_okq cd_Wood_bears prog_9_method_6_code 3 9 (some .int) false 0 24 = true := by decide +kernel
theorem ae_z108 : ∀ (k : Nat) (i : ae_I), ae_get cd_Wood_bears k = some i → ae_okI cd_Wood_bears prog_9_method_6_code 3 9 (some .int) false k i = true := by
  intro k i h
  have hl : k < 24 := ae_get_lt h
  exact ae_okq_at ae_x108_0 h (by omega) (by omega)
theorem ae_h108 : ae_okh 108 = true := by decide +kernel
theorem ae_o108 : ae_okM 108 := ⟨ae_h108, fun y cc nL rt o na st e k i h => by cases (show ae_mg 108 = _ from rfl).symm.trans e; exact ae_z108 k i h⟩
theorem ae_x109_0 : ae_okq cd_Model_init prog_11_method_1_code 1 10 none true 0 60 = true := by decide +kernel
theorem ae_x109_1 : ae_okq cd_Model_init prog_11_method_1_code 1 10 none true 60 60 = true := by decide +kernel
theorem ae_x109_2 : ae_okq cd_Model_init prog_11_method_1_code 1 10 none true 120 60 = true := by decide +kernel
theorem ae_x109_3 : ae_okq cd_Model_init prog_11_method_1_code 1 10 none true 180 60 = true := by decide +kernel
theorem ae_x109_4 : ae_okq cd_Model_init prog_11_method_1_code 1 10 none true 240 60 = true := by decide +kernel
theorem ae_x109_5 : ae_okq cd_Model_init prog_11_method_1_code 1 10 none true 300 60 = true := by decide +kernel
theorem ae_x109_6 : ae_okq cd_Model_init prog_11_method_1_code 1 10 none true 360 41 = true := by decide +kernel
theorem ae_z109 : ∀ (k : Nat) (i : ae_I), ae_get cd_Model_init k = some i → ae_okI cd_Model_init prog_11_method_1_code 1 10 none true k i = true := by
  intro k i h
  have hl : k < 401 := by
    have e : cd_Model_init.length = 401 := by decide +kernel
    rw [← e]
    exact ae_get_lt h
  rcases Nat.lt_or_ge k 60 with q0 | q0
  · exact ae_okq_at ae_x109_0 h (by omega) (by omega)
  rcases Nat.lt_or_ge k 120 with q1 | q1
  · exact ae_okq_at ae_x109_1 h (by omega) (by omega)
  rcases Nat.lt_or_ge k 180 with q2 | q2
  · exact ae_okq_at ae_x109_2 h (by omega) (by omega)
  rcases Nat.lt_or_ge k 240 with q3 | q3
  · exact ae_okq_at ae_x109_3 h (by omega) (by omega)
  rcases Nat.lt_or_ge k 300 with q4 | q4
  · exact ae_okq_at ae_x109_4 h (by omega) (by omega)
  rcases Nat.lt_or_ge k 360 with q5 | q5
  · exact ae_okq_at ae_x109_5 h (by omega) (by omega)
  exact ae_okq_at ae_x109_6 h (by omega) (by omega)
theorem ae_h109 : ae_okh 109 = true := by decide +kernel
theorem ae_o109 : ae_okM 109 := ⟨ae_h109, fun y cc nL rt o na st e k i h => by cases (show ae_mg 109 = _ from rfl).symm.trans e; exact ae_z109 k i h⟩
theorem ae_x110_0 : ae_okq cd_Model_in prog_11_method_3_code 3 10 (some .boolean) false 0 10 = true := by decide +kernel
theorem ae_z110 : ∀ (k : Nat) (i : ae_I), ae_get cd_Model_in k = some i → ae_okI cd_Model_in prog_11_method_3_code 3 10 (some .boolean) false k i = true := by
  intro k i h
  have hl : k < 10 := ae_get_lt h
  exact ae_okq_at ae_x110_0 h (by omega) (by omega)
theorem ae_h110 : ae_okh 110 = true := by decide +kernel
theorem ae_o110 : ae_okM 110 := ⟨ae_h110, fun y cc nL rt o na st e k i h => by cases (show ae_mg 110 = _ from rfl).symm.trans e; exact ae_z110 k i h⟩
theorem ae_x111_0 : ae_okq cd_Model_held prog_11_method_4_code 3 10 (some .int) false 0 12 = true := by decide +kernel
theorem ae_z111 : ∀ (k : Nat) (i : ae_I), ae_get cd_Model_held k = some i → ae_okI cd_Model_held prog_11_method_4_code 3 10 (some .int) false k i = true := by
  intro k i h
  have hl : k < 12 := ae_get_lt h
  exact ae_okq_at ae_x111_0 h (by omega) (by omega)
theorem ae_h111 : ae_okh 111 = true := by decide +kernel
theorem ae_o111 : ae_okM 111 := ⟨ae_h111, fun y cc nL rt o na st e k i h => by cases (show ae_mg 111 = _ from rfl).symm.trans e; exact ae_z111 k i h⟩
theorem ae_x112_0 : ae_okq cd_Model_isPlank prog_11_method_5_code 2 10 (some .boolean) false 0 8 = true := by decide +kernel
theorem ae_z112 : ∀ (k : Nat) (i : ae_I), ae_get cd_Model_isPlank k = some i → ae_okI cd_Model_isPlank prog_11_method_5_code 2 10 (some .boolean) false k i = true := by
  intro k i h
  have hl : k < 8 := ae_get_lt h
  exact ae_okq_at ae_x112_0 h (by omega) (by omega)
theorem ae_h112 : ae_okh 112 = true := by decide +kernel
theorem ae_o112 : ae_okM 112 := ⟨ae_h112, fun y cc nL rt o na st e k i h => by cases (show ae_mg 112 = _ from rfl).symm.trans e; exact ae_z112 k i h⟩
theorem ae_x113_0 : ae_okq cd_Model_isGap prog_11_method_6_code 2 10 (some .boolean) false 0 8 = true := by decide +kernel
theorem ae_z113 : ∀ (k : Nat) (i : ae_I), ae_get cd_Model_isGap k = some i → ae_okI cd_Model_isGap prog_11_method_6_code 2 10 (some .boolean) false k i = true := by
  intro k i h
  have hl : k < 8 := ae_get_lt h
  exact ae_okq_at ae_x113_0 h (by omega) (by omega)
theorem ae_h113 : ae_okh 113 = true := by decide +kernel
theorem ae_o113 : ae_okM 113 := ⟨ae_h113, fun y cc nL rt o na st e k i h => by cases (show ae_mg 113 = _ from rfl).symm.trans e; exact ae_z113 k i h⟩
theorem ae_x114_0 : ae_okq cd_Model_plank prog_11_method_7_code 4 10 (some .int) false 0 99 = true := by decide +kernel
theorem ae_z114 : ∀ (k : Nat) (i : ae_I), ae_get cd_Model_plank k = some i → ae_okI cd_Model_plank prog_11_method_7_code 4 10 (some .int) false k i = true := by
  intro k i h
  have hl : k < 99 := ae_get_lt h
  exact ae_okq_at ae_x114_0 h (by omega) (by omega)
theorem ae_h114 : ae_okh 114 = true := by decide +kernel
theorem ae_o114 : ae_okM 114 := ⟨ae_h114, fun y cc nL rt o na st e k i h => by cases (show ae_mg 114 = _ from rfl).symm.trans e; exact ae_z114 k i h⟩
theorem ae_x115_0 : ae_okq cd_Model_set prog_11_method_8_code 5 10 (some .int) false 0 60 = true := by decide +kernel
theorem ae_x115_1 : ae_okq cd_Model_set prog_11_method_8_code 5 10 (some .int) false 60 60 = true := by decide +kernel
theorem ae_x115_2 : ae_okq cd_Model_set prog_11_method_8_code 5 10 (some .int) false 120 29 = true := by decide +kernel
theorem ae_z115 : ∀ (k : Nat) (i : ae_I), ae_get cd_Model_set k = some i → ae_okI cd_Model_set prog_11_method_8_code 5 10 (some .int) false k i = true := by
  intro k i h
  have hl : k < 149 := by
    have e : cd_Model_set.length = 149 := by decide +kernel
    rw [← e]
    exact ae_get_lt h
  rcases Nat.lt_or_ge k 60 with q0 | q0
  · exact ae_okq_at ae_x115_0 h (by omega) (by omega)
  rcases Nat.lt_or_ge k 120 with q1 | q1
  · exact ae_okq_at ae_x115_1 h (by omega) (by omega)
  exact ae_okq_at ae_x115_2 h (by omega) (by omega)
theorem ae_h115 : ae_okh 115 = true := by decide +kernel
theorem ae_o115 : ae_okM 115 := ⟨ae_h115, fun y cc nL rt o na st e k i h => by cases (show ae_mg 115 = _ from rfl).symm.trans e; exact ae_z115 k i h⟩
theorem ae_x116_0 : ae_okq cd_Model_feed prog_11_method_9_code 5 10 (some .int) false 0 43 = true := by decide +kernel
theorem ae_z116 : ∀ (k : Nat) (i : ae_I), ae_get cd_Model_feed k = some i → ae_okI cd_Model_feed prog_11_method_9_code 5 10 (some .int) false k i = true := by
  intro k i h
  have hl : k < 43 := ae_get_lt h
  exact ae_okq_at ae_x116_0 h (by omega) (by omega)
theorem ae_h116 : ae_okh 116 = true := by decide +kernel
theorem ae_o116 : ae_okM 116 := ⟨ae_h116, fun y cc nL rt o na st e k i h => by cases (show ae_mg 116 = _ from rfl).symm.trans e; exact ae_z116 k i h⟩
theorem ae_x117_0 : ae_okq cd_Model_isLetter prog_11_method_10_code 1 10 (some .boolean) false 0 5 = true := by decide +kernel
theorem ae_z117 : ∀ (k : Nat) (i : ae_I), ae_get cd_Model_isLetter k = some i → ae_okI cd_Model_isLetter prog_11_method_10_code 1 10 (some .boolean) false k i = true := by
  intro k i h
  have hl : k < 5 := ae_get_lt h
  exact ae_okq_at ae_x117_0 h (by omega) (by omega)
theorem ae_h117 : ae_okh 117 = true := by decide +kernel
theorem ae_o117 : ae_okM 117 := ⟨ae_h117, fun y cc nL rt o na st e k i h => by cases (show ae_mg 117 = _ from rfl).symm.trans e; exact ae_z117 k i h⟩
theorem ae_x118_0 : ae_okq cd_Model_isDigit prog_11_method_11_code 1 10 (some .boolean) false 0 5 = true := by decide +kernel
theorem ae_z118 : ∀ (k : Nat) (i : ae_I), ae_get cd_Model_isDigit k = some i → ae_okI cd_Model_isDigit prog_11_method_11_code 1 10 (some .boolean) false k i = true := by
  intro k i h
  have hl : k < 5 := ae_get_lt h
  exact ae_okq_at ae_x118_0 h (by omega) (by omega)
theorem ae_h118 : ae_okh 118 = true := by decide +kernel
theorem ae_o118 : ae_okM 118 := ⟨ae_h118, fun y cc nL rt o na st e k i h => by cases (show ae_mg 118 = _ from rfl).symm.trans e; exact ae_z118 k i h⟩
theorem ae_x119_0 : ae_okq cd_Model_wordNow prog_11_method_12_code 5 10 (some .int) false 0 52 = true := by decide +kernel
theorem ae_z119 : ∀ (k : Nat) (i : ae_I), ae_get cd_Model_wordNow k = some i → ae_okI cd_Model_wordNow prog_11_method_12_code 5 10 (some .int) false k i = true := by
  intro k i h
  have hl : k < 52 := ae_get_lt h
  exact ae_okq_at ae_x119_0 h (by omega) (by omega)
theorem ae_h119 : ae_okh 119 = true := by decide +kernel
theorem ae_o119 : ae_okM 119 := ⟨ae_h119, fun y cc nL rt o na st e k i h => by cases (show ae_mg 119 = _ from rfl).symm.trans e; exact ae_z119 k i h⟩
theorem ae_x120_0 : ae_okq cd_Model_next prog_11_method_13_code 2 10 none false 0 60 = true := by decide +kernel
theorem ae_x120_1 : ae_okq cd_Model_next prog_11_method_13_code 2 10 none false 60 60 = true := by decide +kernel
theorem ae_x120_2 : ae_okq cd_Model_next prog_11_method_13_code 2 10 none false 120 60 = true := by decide +kernel
theorem ae_x120_3 : ae_okq cd_Model_next prog_11_method_13_code 2 10 none false 180 6 = true := by decide +kernel
theorem ae_z120 : ∀ (k : Nat) (i : ae_I), ae_get cd_Model_next k = some i → ae_okI cd_Model_next prog_11_method_13_code 2 10 none false k i = true := by
  intro k i h
  have hl : k < 186 := by
    have e : cd_Model_next.length = 186 := by decide +kernel
    rw [← e]
    exact ae_get_lt h
  rcases Nat.lt_or_ge k 60 with q0 | q0
  · exact ae_okq_at ae_x120_0 h (by omega) (by omega)
  rcases Nat.lt_or_ge k 120 with q1 | q1
  · exact ae_okq_at ae_x120_1 h (by omega) (by omega)
  rcases Nat.lt_or_ge k 180 with q2 | q2
  · exact ae_okq_at ae_x120_2 h (by omega) (by omega)
  exact ae_okq_at ae_x120_3 h (by omega) (by omega)
theorem ae_h120 : ae_okh 120 = true := by decide +kernel
theorem ae_o120 : ae_okM 120 := ⟨ae_h120, fun y cc nL rt o na st e k i h => by cases (show ae_mg 120 = _ from rfl).symm.trans e; exact ae_z120 k i h⟩
theorem ae_x121_0 : ae_okq cd_Model_faulty prog_11_method_14_code 1 10 none false 0 8 = true := by decide +kernel
theorem ae_z121 : ∀ (k : Nat) (i : ae_I), ae_get cd_Model_faulty k = some i → ae_okI cd_Model_faulty prog_11_method_14_code 1 10 none false k i = true := by
  intro k i h
  have hl : k < 8 := ae_get_lt h
  exact ae_okq_at ae_x121_0 h (by omega) (by omega)
theorem ae_h121 : ae_okh 121 = true := by decide +kernel
theorem ae_o121 : ae_okM 121 := ⟨ae_h121, fun y cc nL rt o na st e k i h => by cases (show ae_mg 121 = _ from rfl).symm.trans e; exact ae_z121 k i h⟩
theorem ae_x122_0 : ae_okq cd_Model_isSign prog_11_method_15_code 2 10 (some .boolean) false 0 15 = true := by decide +kernel
theorem ae_z122 : ∀ (k : Nat) (i : ae_I), ae_get cd_Model_isSign k = some i → ae_okI cd_Model_isSign prog_11_method_15_code 2 10 (some .boolean) false k i = true := by
  intro k i h
  have hl : k < 15 := ae_get_lt h
  exact ae_okq_at ae_x122_0 h (by omega) (by omega)
theorem ae_h122 : ae_okh 122 = true := by decide +kernel
theorem ae_o122 : ae_okM 122 := ⟨ae_h122, fun y cc nL rt o na st e k i h => by cases (show ae_mg 122 = _ from rfl).symm.trans e; exact ae_z122 k i h⟩
theorem ae_x123_0 : ae_okq cd_Model_isKey prog_11_method_16_code 2 10 (some .boolean) false 0 15 = true := by decide +kernel
theorem ae_z123 : ∀ (k : Nat) (i : ae_I), ae_get cd_Model_isKey k = some i → ae_okI cd_Model_isKey prog_11_method_16_code 2 10 (some .boolean) false k i = true := by
  intro k i h
  have hl : k < 15 := ae_get_lt h
  exact ae_okq_at ae_x123_0 h (by omega) (by omega)
theorem ae_h123 : ae_okh 123 = true := by decide +kernel
theorem ae_o123 : ae_okM 123 := ⟨ae_h123, fun y cc nL rt o na st e k i h => by cases (show ae_mg 123 = _ from rfl).symm.trans e; exact ae_z123 k i h⟩
theorem ae_x124_0 : ae_okq cd_Model_addStep prog_11_method_17_code 3 10 none false 0 23 = true := by decide +kernel
theorem ae_z124 : ∀ (k : Nat) (i : ae_I), ae_get cd_Model_addStep k = some i → ae_okI cd_Model_addStep prog_11_method_17_code 3 10 none false k i = true := by
  intro k i h
  have hl : k < 23 := ae_get_lt h
  exact ae_okq_at ae_x124_0 h (by omega) (by omega)
theorem ae_h124 : ae_okh 124 = true := by decide +kernel
theorem ae_o124 : ae_okM 124 := ⟨ae_h124, fun y cc nL rt o na st e k i h => by cases (show ae_mg 124 = _ from rfl).symm.trans e; exact ae_z124 k i h⟩
theorem ae_x125_0 : ae_okq cd_Model_opens prog_11_method_18_code 1 10 (some .boolean) false 0 18 = true := by decide +kernel
theorem ae_z125 : ∀ (k : Nat) (i : ae_I), ae_get cd_Model_opens k = some i → ae_okI cd_Model_opens prog_11_method_18_code 1 10 (some .boolean) false k i = true := by
  intro k i h
  have hl : k < 18 := ae_get_lt h
  exact ae_okq_at ae_x125_0 h (by omega) (by omega)
theorem ae_h125 : ae_okh 125 = true := by decide +kernel
theorem ae_o125 : ae_okM 125 := ⟨ae_h125, fun y cc nL rt o na st e k i h => by cases (show ae_mg 125 = _ from rfl).symm.trans e; exact ae_z125 k i h⟩
theorem ae_x126_0 : ae_okq cd_Model_either prog_11_method_19_code 1 10 none false 0 16 = true := by decide +kernel
theorem ae_z126 : ∀ (k : Nat) (i : ae_I), ae_get cd_Model_either k = some i → ae_okI cd_Model_either prog_11_method_19_code 1 10 none false k i = true := by
  intro k i h
  have hl : k < 16 := ae_get_lt h
  exact ae_okq_at ae_x126_0 h (by omega) (by omega)
theorem ae_h126 : ae_okh 126 = true := by decide +kernel
theorem ae_o126 : ae_okM 126 := ⟨ae_h126, fun y cc nL rt o na st e k i h => by cases (show ae_mg 126 = _ from rfl).symm.trans e; exact ae_z126 k i h⟩
theorem ae_x127_0 : ae_okq cd_Model_all prog_11_method_20_code 1 10 none false 0 16 = true := by decide +kernel
theorem ae_z127 : ∀ (k : Nat) (i : ae_I), ae_get cd_Model_all k = some i → ae_okI cd_Model_all prog_11_method_20_code 1 10 none false k i = true := by
  intro k i h
  have hl : k < 16 := ae_get_lt h
  exact ae_okq_at ae_x127_0 h (by omega) (by omega)
theorem ae_h127 : ae_okh 127 = true := by decide +kernel
theorem ae_o127 : ae_okM 127 := ⟨ae_h127, fun y cc nL rt o na st e k i h => by cases (show ae_mg 127 = _ from rfl).symm.trans e; exact ae_z127 k i h⟩
theorem ae_x128_0 : ae_okq cd_Model_denied prog_11_method_21_code 2 10 none false 0 44 = true := by decide +kernel
theorem ae_z128 : ∀ (k : Nat) (i : ae_I), ae_get cd_Model_denied k = some i → ae_okI cd_Model_denied prog_11_method_21_code 2 10 none false k i = true := by
  intro k i h
  have hl : k < 44 := ae_get_lt h
  exact ae_okq_at ae_x128_0 h (by omega) (by omega)
theorem ae_h128 : ae_okh 128 = true := by decide +kernel
theorem ae_o128 : ae_okM 128 := ⟨ae_h128, fun y cc nL rt o na st e k i h => by cases (show ae_mg 128 = _ from rfl).symm.trans e; exact ae_z128 k i h⟩
theorem ae_x129_0 : ae_okq cd_Model_sum prog_11_method_22_code 2 10 none false 0 23 = true := by decide +kernel
theorem ae_z129 : ∀ (k : Nat) (i : ae_I), ae_get cd_Model_sum k = some i → ae_okI cd_Model_sum prog_11_method_22_code 2 10 none false k i = true := by
  intro k i h
  have hl : k < 23 := ae_get_lt h
  exact ae_okq_at ae_x129_0 h (by omega) (by omega)
theorem ae_h129 : ae_okh 129 = true := by decide +kernel
theorem ae_o129 : ae_okM 129 := ⟨ae_h129, fun y cc nL rt o na st e k i h => by cases (show ae_mg 129 = _ from rfl).symm.trans e; exact ae_z129 k i h⟩
theorem ae_x130_0 : ae_okq cd_Model_term prog_11_method_23_code 1 10 none false 0 16 = true := by decide +kernel
theorem ae_z130 : ∀ (k : Nat) (i : ae_I), ae_get cd_Model_term k = some i → ae_okI cd_Model_term prog_11_method_23_code 1 10 none false k i = true := by
  intro k i h
  have hl : k < 16 := ae_get_lt h
  exact ae_okq_at ae_x130_0 h (by omega) (by omega)
theorem ae_h130 : ae_okh 130 = true := by decide +kernel
theorem ae_o130 : ae_okM 130 := ⟨ae_h130, fun y cc nL rt o na st e k i h => by cases (show ae_mg 130 = _ from rfl).symm.trans e; exact ae_z130 k i h⟩
theorem ae_x131_0 : ae_okq cd_Model_one prog_11_method_24_code 1 10 none false 0 82 = true := by decide +kernel
theorem ae_z131 : ∀ (k : Nat) (i : ae_I), ae_get cd_Model_one k = some i → ae_okI cd_Model_one prog_11_method_24_code 1 10 none false k i = true := by
  intro k i h
  have hl : k < 82 := ae_get_lt h
  exact ae_okq_at ae_x131_0 h (by omega) (by omega)
theorem ae_h131 : ae_okh 131 = true := by decide +kernel
theorem ae_o131 : ae_okM 131 := ⟨ae_h131, fun y cc nL rt o na st e k i h => by cases (show ae_mg 131 = _ from rfl).symm.trans e; exact ae_z131 k i h⟩
theorem ae_x132_0 : ae_okq cd_Model_rule prog_11_method_25_code 2 10 none false 0 31 = true := by decide +kernel
theorem ae_z132 : ∀ (k : Nat) (i : ae_I), ae_get cd_Model_rule k = some i → ae_okI cd_Model_rule prog_11_method_25_code 2 10 none false k i = true := by
  intro k i h
  have hl : k < 31 := ae_get_lt h
  exact ae_okq_at ae_x132_0 h (by omega) (by omega)
theorem ae_h132 : ae_okh 132 = true := by decide +kernel
theorem ae_o132 : ae_okM 132 := ⟨ae_h132, fun y cc nL rt o na st e k i h => by cases (show ae_mg 132 = _ from rfl).symm.trans e; exact ae_z132 k i h⟩
theorem ae_x133_0 : ae_okq cd_Model_text prog_11_method_26_code 2 10 (some .int) false 0 124 = true := by decide +kernel
theorem ae_z133 : ∀ (k : Nat) (i : ae_I), ae_get cd_Model_text k = some i → ae_okI cd_Model_text prog_11_method_26_code 2 10 (some .int) false k i = true := by
  intro k i h
  have hl : k < 124 := ae_get_lt h
  exact ae_okq_at ae_x133_0 h (by omega) (by omega)
theorem ae_h133 : ae_okh 133 = true := by decide +kernel
theorem ae_o133 : ae_okM 133 := ⟨ae_h133, fun y cc nL rt o na st e k i h => by cases (show ae_mg 133 = _ from rfl).symm.trans e; exact ae_z133 k i h⟩
theorem ae_x134_0 : ae_okq cd_Model_force prog_11_method_27_code 3 10 (some .int) false 0 18 = true := by decide +kernel
theorem ae_z134 : ∀ (k : Nat) (i : ae_I), ae_get cd_Model_force k = some i → ae_okI cd_Model_force prog_11_method_27_code 3 10 (some .int) false k i = true := by
  intro k i h
  have hl : k < 18 := ae_get_lt h
  exact ae_okq_at ae_x134_0 h (by omega) (by omega)
theorem ae_h134 : ae_okh 134 = true := by decide +kernel
theorem ae_o134 : ae_okM 134 := ⟨ae_h134, fun y cc nL rt o na st e k i h => by cases (show ae_mg 134 = _ from rfl).symm.trans e; exact ae_z134 k i h⟩
theorem ae_x135_0 : ae_okq cd_Model_twoOf prog_11_method_28_code 3 10 (some .int) false 0 44 = true := by decide +kernel
theorem ae_z135 : ∀ (k : Nat) (i : ae_I), ae_get cd_Model_twoOf k = some i → ae_okI cd_Model_twoOf prog_11_method_28_code 3 10 (some .int) false k i = true := by
  intro k i h
  have hl : k < 44 := ae_get_lt h
  exact ae_okq_at ae_x135_0 h (by omega) (by omega)
theorem ae_h135 : ae_okh 135 = true := by decide +kernel
theorem ae_o135 : ae_okM 135 := ⟨ae_h135, fun y cc nL rt o na st e k i h => by cases (show ae_mg 135 = _ from rfl).symm.trans e; exact ae_z135 k i h⟩
theorem ae_x136_0 : ae_okq cd_Model_gives prog_11_method_29_code 5 10 (some .int) false 0 60 = true := by decide +kernel
theorem ae_x136_1 : ae_okq cd_Model_gives prog_11_method_29_code 5 10 (some .int) false 60 60 = true := by decide +kernel
theorem ae_x136_2 : ae_okq cd_Model_gives prog_11_method_29_code 5 10 (some .int) false 120 57 = true := by decide +kernel
theorem ae_z136 : ∀ (k : Nat) (i : ae_I), ae_get cd_Model_gives k = some i → ae_okI cd_Model_gives prog_11_method_29_code 5 10 (some .int) false k i = true := by
  intro k i h
  have hl : k < 177 := by
    have e : cd_Model_gives.length = 177 := by decide +kernel
    rw [← e]
    exact ae_get_lt h
  rcases Nat.lt_or_ge k 60 with q0 | q0
  · exact ae_okq_at ae_x136_0 h (by omega) (by omega)
  rcases Nat.lt_or_ge k 120 with q1 | q1
  · exact ae_okq_at ae_x136_1 h (by omega) (by omega)
  exact ae_okq_at ae_x136_2 h (by omega) (by omega)
theorem ae_h136 : ae_okh 136 = true := by decide +kernel
theorem ae_o136 : ae_okM 136 := ⟨ae_h136, fun y cc nL rt o na st e k i h => by cases (show ae_mg 136 = _ from rfl).symm.trans e; exact ae_z136 k i h⟩
theorem ae_x137_0 : ae_okq cd_Model_findFacts prog_11_method_30_code 2 10 none false 0 90 = true := by decide +kernel
theorem ae_z137 : ∀ (k : Nat) (i : ae_I), ae_get cd_Model_findFacts k = some i → ae_okI cd_Model_findFacts prog_11_method_30_code 2 10 none false k i = true := by
  intro k i h
  have hl : k < 90 := ae_get_lt h
  exact ae_okq_at ae_x137_0 h (by omega) (by omega)
theorem ae_h137 : ae_okh 137 = true := by decide +kernel
theorem ae_o137 : ae_okM 137 := ⟨ae_h137, fun y cc nL rt o na st e k i h => by cases (show ae_mg 137 = _ from rfl).symm.trans e; exact ae_z137 k i h⟩
theorem ae_x138_0 : ae_okq cd_Model_growsOf prog_11_method_31_code 3 10 (some .int) false 0 62 = true := by decide +kernel
theorem ae_z138 : ∀ (k : Nat) (i : ae_I), ae_get cd_Model_growsOf k = some i → ae_okI cd_Model_growsOf prog_11_method_31_code 3 10 (some .int) false k i = true := by
  intro k i h
  have hl : k < 62 := ae_get_lt h
  exact ae_okq_at ae_x138_0 h (by omega) (by omega)
theorem ae_h138 : ae_okh 138 = true := by decide +kernel
theorem ae_o138 : ae_okM 138 := ⟨ae_h138, fun y cc nL rt o na st e k i h => by cases (show ae_mg 138 = _ from rfl).symm.trans e; exact ae_z138 k i h⟩
theorem ae_x139_0 : ae_okq cd_Model_takesUp prog_11_method_32_code 3 10 (some .int) false 0 44 = true := by decide +kernel
theorem ae_z139 : ∀ (k : Nat) (i : ae_I), ae_get cd_Model_takesUp k = some i → ae_okI cd_Model_takesUp prog_11_method_32_code 3 10 (some .int) false k i = true := by
  intro k i h
  have hl : k < 44 := ae_get_lt h
  exact ae_okq_at ae_x139_0 h (by omega) (by omega)
theorem ae_h139 : ae_okh 139 = true := by decide +kernel
theorem ae_o139 : ae_okM 139 := ⟨ae_h139, fun y cc nL rt o na st e k i h => by cases (show ae_mg 139 = _ from rfl).symm.trans e; exact ae_z139 k i h⟩
theorem ae_x140_0 : ae_okq cd_Model_bearsOf prog_11_method_33_code 3 10 (some .int) false 0 34 = true := by decide +kernel
theorem ae_z140 : ∀ (k : Nat) (i : ae_I), ae_get cd_Model_bearsOf k = some i → ae_okI cd_Model_bearsOf prog_11_method_33_code 3 10 (some .int) false k i = true := by
  intro k i h
  have hl : k < 34 := ae_get_lt h
  exact ae_okq_at ae_x140_0 h (by omega) (by omega)
theorem ae_h140 : ae_okh 140 = true := by decide +kernel
theorem ae_o140 : ae_okM 140 := ⟨ae_h140, fun y cc nL rt o na st e k i h => by cases (show ae_mg 140 = _ from rfl).symm.trans e; exact ae_z140 k i h⟩
theorem ae_x141_0 : ae_okq cd_Model_told prog_11_method_34_code 3 10 (some .int) false 0 47 = true := by decide +kernel
theorem ae_z141 : ∀ (k : Nat) (i : ae_I), ae_get cd_Model_told k = some i → ae_okI cd_Model_told prog_11_method_34_code 3 10 (some .int) false k i = true := by
  intro k i h
  have hl : k < 47 := ae_get_lt h
  exact ae_okq_at ae_x141_0 h (by omega) (by omega)
theorem ae_h141 : ae_okh 141 = true := by decide +kernel
theorem ae_o141 : ae_okM 141 := ⟨ae_h141, fun y cc nL rt o na st e k i h => by cases (show ae_mg 141 = _ from rfl).symm.trans e; exact ae_z141 k i h⟩
theorem ae_x142_0 : ae_okq cd_Model_leftOf prog_11_method_35_code 2 10 (some .int) false 0 22 = true := by decide +kernel
theorem ae_z142 : ∀ (k : Nat) (i : ae_I), ae_get cd_Model_leftOf k = some i → ae_okI cd_Model_leftOf prog_11_method_35_code 2 10 (some .int) false k i = true := by
  intro k i h
  have hl : k < 22 := ae_get_lt h
  exact ae_okq_at ae_x142_0 h (by omega) (by omega)
theorem ae_h142 : ae_okh 142 = true := by decide +kernel
theorem ae_o142 : ae_okM 142 := ⟨ae_h142, fun y cc nL rt o na st e k i h => by cases (show ae_mg 142 = _ from rfl).symm.trans e; exact ae_z142 k i h⟩
theorem ae_x143_0 : ae_okq cd_Model_openOf prog_11_method_36_code 2 10 (some .int) false 0 10 = true := by decide +kernel
theorem ae_z143 : ∀ (k : Nat) (i : ae_I), ae_get cd_Model_openOf k = some i → ae_okI cd_Model_openOf prog_11_method_36_code 2 10 (some .int) false k i = true := by
  intro k i h
  have hl : k < 10 := ae_get_lt h
  exact ae_okq_at ae_x143_0 h (by omega) (by omega)
theorem ae_h143 : ae_okh 143 = true := by decide +kernel
theorem ae_o143 : ae_okM 143 := ⟨ae_h143, fun y cc nL rt o na st e k i h => by cases (show ae_mg 143 = _ from rfl).symm.trans e; exact ae_z143 k i h⟩
theorem ae_x144_0 : ae_okq cd_Model_pressOf prog_11_method_37_code 2 10 (some .int) false 0 11 = true := by decide +kernel
theorem ae_z144 : ∀ (k : Nat) (i : ae_I), ae_get cd_Model_pressOf k = some i → ae_okI cd_Model_pressOf prog_11_method_37_code 2 10 (some .int) false k i = true := by
  intro k i h
  have hl : k < 11 := ae_get_lt h
  exact ae_okq_at ae_x144_0 h (by omega) (by omega)
theorem ae_h144 : ae_okh 144 = true := by decide +kernel
theorem ae_o144 : ae_okM 144 := ⟨ae_h144, fun y cc nL rt o na st e k i h => by cases (show ae_mg 144 = _ from rfl).symm.trans e; exact ae_z144 k i h⟩
theorem ae_x145_0 : ae_okq cd_Model_gap prog_11_method_38_code 3 10 (some .int) false 0 33 = true := by decide +kernel
theorem ae_z145 : ∀ (k : Nat) (i : ae_I), ae_get cd_Model_gap k = some i → ae_okI cd_Model_gap prog_11_method_38_code 3 10 (some .int) false k i = true := by
  intro k i h
  have hl : k < 33 := ae_get_lt h
  exact ae_okq_at ae_x145_0 h (by omega) (by omega)
theorem ae_h145 : ae_okh 145 = true := by decide +kernel
theorem ae_o145 : ae_okM 145 := ⟨ae_h145, fun y cc nL rt o na st e k i h => by cases (show ae_mg 145 = _ from rfl).symm.trans e; exact ae_z145 k i h⟩
theorem ae_x146_0 : ae_okq cd_Model_allNails prog_11_method_39_code 3 10 (some .int) false 0 19 = true := by decide +kernel
theorem ae_z146 : ∀ (k : Nat) (i : ae_I), ae_get cd_Model_allNails k = some i → ae_okI cd_Model_allNails prog_11_method_39_code 3 10 (some .int) false k i = true := by
  intro k i h
  have hl : k < 19 := ae_get_lt h
  exact ae_okq_at ae_x146_0 h (by omega) (by omega)
theorem ae_h146 : ae_okh 146 = true := by decide +kernel
theorem ae_o146 : ae_okM 146 := ⟨ae_h146, fun y cc nL rt o na st e k i h => by cases (show ae_mg 146 = _ from rfl).symm.trans e; exact ae_z146 k i h⟩
theorem ae_x147_0 : ae_okq cd_Model_comesIn prog_11_method_40_code 4 10 (some .int) false 0 38 = true := by decide +kernel
theorem ae_z147 : ∀ (k : Nat) (i : ae_I), ae_get cd_Model_comesIn k = some i → ae_okI cd_Model_comesIn prog_11_method_40_code 4 10 (some .int) false k i = true := by
  intro k i h
  have hl : k < 38 := ae_get_lt h
  exact ae_okq_at ae_x147_0 h (by omega) (by omega)
theorem ae_h147 : ae_okh 147 = true := by decide +kernel
theorem ae_o147 : ae_okM 147 := ⟨ae_h147, fun y cc nL rt o na st e k i h => by cases (show ae_mg 147 = _ from rfl).symm.trans e; exact ae_z147 k i h⟩
theorem ae_x148_0 : ae_okq cd_Model_comes prog_11_method_41_code 1 10 (some .int) false 0 3 = true := by decide +kernel
theorem ae_z148 : ∀ (k : Nat) (i : ae_I), ae_get cd_Model_comes k = some i → ae_okI cd_Model_comes prog_11_method_41_code 1 10 (some .int) false k i = true := by
  intro k i h
  have hl : k < 3 := ae_get_lt h
  exact ae_okq_at ae_x148_0 h (by omega) (by omega)
theorem ae_h148 : ae_okh 148 = true := by decide +kernel
theorem ae_o148 : ae_okM 148 := ⟨ae_h148, fun y cc nL rt o na st e k i h => by cases (show ae_mg 148 = _ from rfl).symm.trans e; exact ae_z148 k i h⟩
theorem ae_x149_0 : ae_okq cd_Model_keepNow prog_11_method_42_code 2 10 none false 0 36 = true := by decide +kernel
theorem ae_z149 : ∀ (k : Nat) (i : ae_I), ae_get cd_Model_keepNow k = some i → ae_okI cd_Model_keepNow prog_11_method_42_code 2 10 none false k i = true := by
  intro k i h
  have hl : k < 36 := ae_get_lt h
  exact ae_okq_at ae_x149_0 h (by omega) (by omega)
theorem ae_h149 : ae_okh 149 = true := by decide +kernel
theorem ae_o149 : ae_okM 149 := ⟨ae_h149, fun y cc nL rt o na st e k i h => by cases (show ae_mg 149 = _ from rfl).symm.trans e; exact ae_z149 k i h⟩
theorem ae_x150_0 : ae_okq cd_Model_layBack prog_11_method_43_code 2 10 none false 0 36 = true := by decide +kernel
theorem ae_z150 : ∀ (k : Nat) (i : ae_I), ae_get cd_Model_layBack k = some i → ae_okI cd_Model_layBack prog_11_method_43_code 2 10 none false k i = true := by
  intro k i h
  have hl : k < 36 := ae_get_lt h
  exact ae_okq_at ae_x150_0 h (by omega) (by omega)
theorem ae_h150 : ae_okh 150 = true := by decide +kernel
theorem ae_o150 : ae_okM 150 := ⟨ae_h150, fun y cc nL rt o na st e k i h => by cases (show ae_mg 150 = _ from rfl).symm.trans e; exact ae_z150 k i h⟩
theorem ae_x151_0 : ae_okq cd_Model_dayOn prog_11_method_44_code 1 10 none false 0 11 = true := by decide +kernel
theorem ae_z151 : ∀ (k : Nat) (i : ae_I), ae_get cd_Model_dayOn k = some i → ae_okI cd_Model_dayOn prog_11_method_44_code 1 10 none false k i = true := by
  intro k i h
  have hl : k < 11 := ae_get_lt h
  exact ae_okq_at ae_x151_0 h (by omega) (by omega)
theorem ae_h151 : ae_okh 151 = true := by decide +kernel
theorem ae_o151 : ae_okM 151 := ⟨ae_h151, fun y cc nL rt o na st e k i h => by cases (show ae_mg 151 = _ from rfl).symm.trans e; exact ae_z151 k i h⟩
theorem ae_x152_0 : ae_okq cd_Model_inWater prog_11_method_45_code 4 10 none false 0 113 = true := by decide +kernel
theorem ae_z152 : ∀ (k : Nat) (i : ae_I), ae_get cd_Model_inWater k = some i → ae_okI cd_Model_inWater prog_11_method_45_code 4 10 none false k i = true := by
  intro k i h
  have hl : k < 113 := ae_get_lt h
  exact ae_okq_at ae_x152_0 h (by omega) (by omega)
theorem ae_h152 : ae_okh 152 = true := by decide +kernel
theorem ae_o152 : ae_okM 152 := ⟨ae_h152, fun y cc nL rt o na st e k i h => by cases (show ae_mg 152 = _ from rfl).symm.trans e; exact ae_z152 k i h⟩
theorem ae_x153_0 : ae_okq cd_Model_inAir prog_11_method_46_code 2 10 none false 0 48 = true := by decide +kernel
theorem ae_z153 : ∀ (k : Nat) (i : ae_I), ae_get cd_Model_inAir k = some i → ae_okI cd_Model_inAir prog_11_method_46_code 2 10 none false k i = true := by
  intro k i h
  have hl : k < 48 := ae_get_lt h
  exact ae_okq_at ae_x153_0 h (by omega) (by omega)
theorem ae_h153 : ae_okh 153 = true := by decide +kernel
theorem ae_o153 : ae_okM 153 := ⟨ae_h153, fun y cc nL rt o na st e k i h => by cases (show ae_mg 153 = _ from rfl).symm.trans e; exact ae_z153 k i h⟩
theorem ae_x154_0 : ae_okq cd_Model_water prog_11_method_47_code 3 10 none false 0 16 = true := by decide +kernel
theorem ae_z154 : ∀ (k : Nat) (i : ae_I), ae_get cd_Model_water k = some i → ae_okI cd_Model_water prog_11_method_47_code 3 10 none false k i = true := by
  intro k i h
  have hl : k < 16 := ae_get_lt h
  exact ae_okq_at ae_x154_0 h (by omega) (by omega)
theorem ae_h154 : ae_okh 154 = true := by decide +kernel
theorem ae_o154 : ae_okM 154 := ⟨ae_h154, fun y cc nL rt o na st e k i h => by cases (show ae_mg 154 = _ from rfl).symm.trans e; exact ae_z154 k i h⟩
theorem ae_x155_0 : ae_okq cd_Model_isRun prog_11_method_48_code 1 10 (some .boolean) false 0 5 = true := by decide +kernel
theorem ae_z155 : ∀ (k : Nat) (i : ae_I), ae_get cd_Model_isRun k = some i → ae_okI cd_Model_isRun prog_11_method_48_code 1 10 (some .boolean) false k i = true := by
  intro k i h
  have hl : k < 5 := ae_get_lt h
  exact ae_okq_at ae_x155_0 h (by omega) (by omega)
theorem ae_h155 : ae_okh 155 = true := by decide +kernel
theorem ae_o155 : ae_okM 155 := ⟨ae_h155, fun y cc nL rt o na st e k i h => by cases (show ae_mg 155 = _ from rfl).symm.trans e; exact ae_z155 k i h⟩
theorem ae_x156_0 : ae_okq cd_Model_run prog_11_method_49_code 6 10 (some .long) false 0 67 = true := by decide +kernel
theorem ae_z156 : ∀ (k : Nat) (i : ae_I), ae_get cd_Model_run k = some i → ae_okI cd_Model_run prog_11_method_49_code 6 10 (some .long) false k i = true := by
  intro k i h
  have hl : k < 67 := ae_get_lt h
  exact ae_okq_at ae_x156_0 h (by omega) (by omega)
theorem ae_h156 : ae_okh 156 = true := by decide +kernel
theorem ae_o156 : ae_okM 156 := ⟨ae_h156, fun y cc nL rt o na st e k i h => by cases (show ae_mg 156 = _ from rfl).symm.trans e; exact ae_z156 k i h⟩
theorem ae_x157_0 : ae_okq cd_Model_lay prog_11_method_50_code 2 10 (some .int) false 0 11 = true := by decide +kernel
theorem ae_z157 : ∀ (k : Nat) (i : ae_I), ae_get cd_Model_lay k = some i → ae_okI cd_Model_lay prog_11_method_50_code 2 10 (some .int) false k i = true := by
  intro k i h
  have hl : k < 11 := ae_get_lt h
  exact ae_okq_at ae_x157_0 h (by omega) (by omega)
theorem ae_h157 : ae_okh 157 = true := by decide +kernel
theorem ae_o157 : ae_okM 157 := ⟨ae_h157, fun y cc nL rt o na st e k i h => by cases (show ae_mg 157 = _ from rfl).symm.trans e; exact ae_z157 k i h⟩
theorem ae_x158_0 : ae_okq cd_Model_air prog_11_method_51_code 3 10 (some .int) false 0 17 = true := by decide +kernel
theorem ae_z158 : ∀ (k : Nat) (i : ae_I), ae_get cd_Model_air k = some i → ae_okI cd_Model_air prog_11_method_51_code 3 10 (some .int) false k i = true := by
  intro k i h
  have hl : k < 17 := ae_get_lt h
  exact ae_okq_at ae_x158_0 h (by omega) (by omega)
theorem ae_h158 : ae_okh 158 = true := by decide +kernel
theorem ae_o158 : ae_okM 158 := ⟨ae_h158, fun y cc nL rt o na st e k i h => by cases (show ae_mg 158 = _ from rfl).symm.trans e; exact ae_z158 k i h⟩
theorem ae_x159_0 : ae_okq cd_Model_openMany prog_11_method_52_code 3 10 (some .int) false 0 24 = true := by decide +kernel
theorem ae_z159 : ∀ (k : Nat) (i : ae_I), ae_get cd_Model_openMany k = some i → ae_okI cd_Model_openMany prog_11_method_52_code 3 10 (some .int) false k i = true := by
  intro k i h
  have hl : k < 24 := ae_get_lt h
  exact ae_okq_at ae_x159_0 h (by omega) (by omega)
theorem ae_h159 : ae_okh 159 = true := by decide +kernel
theorem ae_o159 : ae_okM 159 := ⟨ae_h159, fun y cc nL rt o na st e k i h => by cases (show ae_mg 159 = _ from rfl).symm.trans e; exact ae_z159 k i h⟩
theorem ae_x160_0 : ae_okq cd_Model_tight prog_11_method_53_code 3 10 (some .int) false 0 29 = true := by decide +kernel
theorem ae_z160 : ∀ (k : Nat) (i : ae_I), ae_get cd_Model_tight k = some i → ae_okI cd_Model_tight prog_11_method_53_code 3 10 (some .int) false k i = true := by
  intro k i h
  have hl : k < 29 := ae_get_lt h
  exact ae_okq_at ae_x160_0 h (by omega) (by omega)
theorem ae_h160 : ae_okh 160 = true := by decide +kernel
theorem ae_o160 : ae_okM 160 := ⟨ae_h160, fun y cc nL rt o na st e k i h => by cases (show ae_mg 160 = _ from rfl).symm.trans e; exact ae_z160 k i h⟩
theorem ae_x161_0 : ae_okq cd_Model_out prog_11_method_54_code 3 10 (some .int) false 0 33 = true := by decide +kernel
theorem ae_z161 : ∀ (k : Nat) (i : ae_I), ae_get cd_Model_out k = some i → ae_okI cd_Model_out prog_11_method_54_code 3 10 (some .int) false k i = true := by
  intro k i h
  have hl : k < 33 := ae_get_lt h
  exact ae_okq_at ae_x161_0 h (by omega) (by omega)
theorem ae_h161 : ae_okh 161 = true := by decide +kernel
theorem ae_o161 : ae_okM 161 := ⟨ae_h161, fun y cc nL rt o na st e k i h => by cases (show ae_mg 161 = _ from rfl).symm.trans e; exact ae_z161 k i h⟩
theorem ae_x162_0 : ae_okq cd_Model_sack prog_11_method_55_code 6 10 (some .long) false 0 64 = true := by decide +kernel
theorem ae_z162 : ∀ (k : Nat) (i : ae_I), ae_get cd_Model_sack k = some i → ae_okI cd_Model_sack prog_11_method_55_code 6 10 (some .long) false k i = true := by
  intro k i h
  have hl : k < 64 := ae_get_lt h
  exact ae_okq_at ae_x162_0 h (by omega) (by omega)
theorem ae_h162 : ae_okh 162 = true := by decide +kernel
theorem ae_o162 : ae_okM 162 := ⟨ae_h162, fun y cc nL rt o na st e k i h => by cases (show ae_mg 162 = _ from rfl).symm.trans e; exact ae_z162 k i h⟩
theorem ae_x163_0 : ae_okq cd_Model_tryStuffing prog_11_method_56_code 4 10 none false 0 31 = true := by decide +kernel
theorem ae_z163 : ∀ (k : Nat) (i : ae_I), ae_get cd_Model_tryStuffing k = some i → ae_okI cd_Model_tryStuffing prog_11_method_56_code 4 10 none false k i = true := by
  intro k i h
  have hl : k < 31 := ae_get_lt h
  exact ae_okq_at ae_x163_0 h (by omega) (by omega)
theorem ae_h163 : ae_okh 163 = true := by decide +kernel
theorem ae_o163 : ae_okM 163 := ⟨ae_h163, fun y cc nL rt o na st e k i h => by cases (show ae_mg 163 = _ from rfl).symm.trans e; exact ae_z163 k i h⟩
theorem ae_x164_0 : ae_okq cd_Model_first prog_11_method_57_code 6 10 (some .int) false 0 60 = true := by decide +kernel
theorem ae_z164 : ∀ (k : Nat) (i : ae_I), ae_get cd_Model_first k = some i → ae_okI cd_Model_first prog_11_method_57_code 6 10 (some .int) false k i = true := by
  intro k i h
  have hl : k < 60 := ae_get_lt h
  exact ae_okq_at ae_x164_0 h (by omega) (by omega)
theorem ae_h164 : ae_okh 164 = true := by decide +kernel
theorem ae_o164 : ae_okM 164 := ⟨ae_h164, fun y cc nL rt o na st e k i h => by cases (show ae_mg 164 = _ from rfl).symm.trans e; exact ae_z164 k i h⟩
theorem ae_x165_0 : ae_okq cd_Model_most prog_11_method_58_code 4 10 (some .int) false 0 31 = true := by decide +kernel
theorem ae_z165 : ∀ (k : Nat) (i : ae_I), ae_get cd_Model_most k = some i → ae_okI cd_Model_most prog_11_method_58_code 4 10 (some .int) false k i = true := by
  intro k i h
  have hl : k < 31 := ae_get_lt h
  exact ae_okq_at ae_x165_0 h (by omega) (by omega)
theorem ae_h165 : ae_okh 165 = true := by decide +kernel
theorem ae_o165 : ae_okM 165 := ⟨ae_h165, fun y cc nL rt o na st e k i h => by cases (show ae_mg 165 = _ from rfl).symm.trans e; exact ae_z165 k i h⟩
theorem ae_x166_0 : ae_okq cd_Model_far prog_11_method_59_code 4 10 (some .int) false 0 29 = true := by decide +kernel
theorem ae_z166 : ∀ (k : Nat) (i : ae_I), ae_get cd_Model_far k = some i → ae_okI cd_Model_far prog_11_method_59_code 4 10 (some .int) false k i = true := by
  intro k i h
  have hl : k < 29 := ae_get_lt h
  exact ae_okq_at ae_x166_0 h (by omega) (by omega)
theorem ae_h166 : ae_okh 166 = true := by decide +kernel
theorem ae_o166 : ae_okM 166 := ⟨ae_h166, fun y cc nL rt o na st e k i h => by cases (show ae_mg 166 = _ from rfl).symm.trans e; exact ae_z166 k i h⟩
theorem ae_x167_0 : ae_okq cd_Model_nails prog_11_method_60_code 12 10 (some .long) false 0 58 = true := by decide +kernel
theorem ae_z167 : ∀ (k : Nat) (i : ae_I), ae_get cd_Model_nails k = some i → ae_okI cd_Model_nails prog_11_method_60_code 12 10 (some .long) false k i = true := by
  intro k i h
  have hl : k < 58 := ae_get_lt h
  exact ae_okq_at ae_x167_0 h (by omega) (by omega)
theorem ae_h167 : ae_okh 167 = true := by decide +kernel
theorem ae_o167 : ae_okM 167 := ⟨ae_h167, fun y cc nL rt o na st e k i h => by cases (show ae_mg 167 = _ from rfl).symm.trans e; exact ae_z167 k i h⟩
theorem ae_x168_0 : ae_okq cd_Model_image prog_11_method_61_code 2 10 (some .int) false 0 73 = true := by decide +kernel
theorem ae_z168 : ∀ (k : Nat) (i : ae_I), ae_get cd_Model_image k = some i → ae_okI cd_Model_image prog_11_method_61_code 2 10 (some .int) false k i = true := by
  intro k i h
  have hl : k < 73 := ae_get_lt h
  exact ae_okq_at ae_x168_0 h (by omega) (by omega)
theorem ae_h168 : ae_okh 168 = true := by decide +kernel
theorem ae_o168 : ae_okM 168 := ⟨ae_h168, fun y cc nL rt o na st e k i h => by cases (show ae_mg 168 = _ from rfl).symm.trans e; exact ae_z168 k i h⟩
theorem ae_x169_0 : ae_okq cd_Model_back prog_11_method_62_code 2 10 (some .int) false 0 79 = true := by decide +kernel
theorem ae_z169 : ∀ (k : Nat) (i : ae_I), ae_get cd_Model_back k = some i → ae_okI cd_Model_back prog_11_method_62_code 2 10 (some .int) false k i = true := by
  intro k i h
  have hl : k < 79 := ae_get_lt h
  exact ae_okq_at ae_x169_0 h (by omega) (by omega)
theorem ae_h169 : ae_okh 169 = true := by decide +kernel
theorem ae_o169 : ae_okM 169 := ⟨ae_h169, fun y cc nL rt o na st e k i h => by cases (show ae_mg 169 = _ from rfl).symm.trans e; exact ae_z169 k i h⟩
theorem ae_x170_0 : ae_okq cd_Model_fastMany prog_11_method_63_code 3 10 (some .int) false 0 21 = true := by decide +kernel
theorem ae_z170 : ∀ (k : Nat) (i : ae_I), ae_get cd_Model_fastMany k = some i → ae_okI cd_Model_fastMany prog_11_method_63_code 3 10 (some .int) false k i = true := by
  intro k i h
  have hl : k < 21 := ae_get_lt h
  exact ae_okq_at ae_x170_0 h (by omega) (by omega)
theorem ae_h170 : ae_okh 170 = true := by decide +kernel
theorem ae_o170 : ae_okM 170 := ⟨ae_h170, fun y cc nL rt o na st e k i h => by cases (show ae_mg 170 = _ from rfl).symm.trans e; exact ae_z170 k i h⟩
theorem ae_x171_0 : ae_okq cd_Model_count prog_11_method_64_code 2 10 (some .int) false 0 34 = true := by decide +kernel
theorem ae_z171 : ∀ (k : Nat) (i : ae_I), ae_get cd_Model_count k = some i → ae_okI cd_Model_count prog_11_method_64_code 2 10 (some .int) false k i = true := by
  intro k i h
  have hl : k < 34 := ae_get_lt h
  exact ae_okq_at ae_x171_0 h (by omega) (by omega)
theorem ae_h171 : ae_okh 171 = true := by decide +kernel
theorem ae_o171 : ae_okM 171 := ⟨ae_h171, fun y cc nL rt o na st e k i h => by cases (show ae_mg 171 = _ from rfl).symm.trans e; exact ae_z171 k i h⟩
theorem ae_x172_0 : ae_okq cd_Model_isSheet prog_11_method_65_code 1 10 (some .boolean) false 0 5 = true := by decide +kernel
theorem ae_z172 : ∀ (k : Nat) (i : ae_I), ae_get cd_Model_isSheet k = some i → ae_okI cd_Model_isSheet prog_11_method_65_code 1 10 (some .boolean) false k i = true := by
  intro k i h
  have hl : k < 5 := ae_get_lt h
  exact ae_okq_at ae_x172_0 h (by omega) (by omega)
theorem ae_h172 : ae_okh 172 = true := by decide +kernel
theorem ae_o172 : ae_okM 172 := ⟨ae_h172, fun y cc nL rt o na st e k i h => by cases (show ae_mg 172 = _ from rfl).symm.trans e; exact ae_z172 k i h⟩
theorem ae_x173_0 : ae_okq cd_Model_sheet prog_11_method_66_code 5 10 (some .int) false 0 57 = true := by decide +kernel
theorem ae_z173 : ∀ (k : Nat) (i : ae_I), ae_get cd_Model_sheet k = some i → ae_okI cd_Model_sheet prog_11_method_66_code 5 10 (some .int) false k i = true := by
  intro k i h
  have hl : k < 57 := ae_get_lt h
  exact ae_okq_at ae_x173_0 h (by omega) (by omega)
theorem ae_h173 : ae_okh 173 = true := by decide +kernel
theorem ae_o173 : ae_okM 173 := ⟨ae_h173, fun y cc nL rt o na st e k i h => by cases (show ae_mg 173 = _ from rfl).symm.trans e; exact ae_z173 k i h⟩
theorem ae_x174_0 : ae_okq cd_Model_cell prog_11_method_67_code 4 10 (some .int) false 0 52 = true := by decide +kernel
theorem ae_z174 : ∀ (k : Nat) (i : ae_I), ae_get cd_Model_cell k = some i → ae_okI cd_Model_cell prog_11_method_67_code 4 10 (some .int) false k i = true := by
  intro k i h
  have hl : k < 52 := ae_get_lt h
  exact ae_okq_at ae_x174_0 h (by omega) (by omega)
theorem ae_h174 : ae_okh 174 = true := by decide +kernel
theorem ae_o174 : ae_okM 174 := ⟨ae_h174, fun y cc nL rt o na st e k i h => by cases (show ae_mg 174 = _ from rfl).symm.trans e; exact ae_z174 k i h⟩
theorem ae_x175_0 : ae_okq cd_Model_copy prog_11_method_68_code 7 10 (some .int) false 0 107 = true := by decide +kernel
theorem ae_z175 : ∀ (k : Nat) (i : ae_I), ae_get cd_Model_copy k = some i → ae_okI cd_Model_copy prog_11_method_68_code 7 10 (some .int) false k i = true := by
  intro k i h
  have hl : k < 107 := ae_get_lt h
  exact ae_okq_at ae_x175_0 h (by omega) (by omega)
theorem ae_h175 : ae_okh 175 = true := by decide +kernel
theorem ae_o175 : ae_okM 175 := ⟨ae_h175, fun y cc nL rt o na st e k i h => by cases (show ae_mg 175 = _ from rfl).symm.trans e; exact ae_z175 k i h⟩
theorem ae_x176_0 : ae_okq cd_Model_planks prog_11_method_69_code 10 10 (some .int) false 0 97 = true := by decide +kernel
theorem ae_z176 : ∀ (k : Nat) (i : ae_I), ae_get cd_Model_planks k = some i → ae_okI cd_Model_planks prog_11_method_69_code 10 10 (some .int) false k i = true := by
  intro k i h
  have hl : k < 97 := ae_get_lt h
  exact ae_okq_at ae_x176_0 h (by omega) (by omega)
theorem ae_h176 : ae_okh 176 = true := by decide +kernel
theorem ae_o176 : ae_okM 176 := ⟨ae_h176, fun y cc nL rt o na st e k i h => by cases (show ae_mg 176 = _ from rfl).symm.trans e; exact ae_z176 k i h⟩
theorem ae_x177_0 : ae_okq cd_Model_isUnder prog_11_method_70_code 2 10 (some .boolean) false 0 21 = true := by decide +kernel
theorem ae_z177 : ∀ (k : Nat) (i : ae_I), ae_get cd_Model_isUnder k = some i → ae_okI cd_Model_isUnder prog_11_method_70_code 2 10 (some .boolean) false k i = true := by
  intro k i h
  have hl : k < 21 := ae_get_lt h
  exact ae_okq_at ae_x177_0 h (by omega) (by omega)
theorem ae_h177 : ae_okh 177 = true := by decide +kernel
theorem ae_o177 : ae_okM 177 := ⟨ae_h177, fun y cc nL rt o na st e k i h => by cases (show ae_mg 177 = _ from rfl).symm.trans e; exact ae_z177 k i h⟩
theorem ae_x178_0 : ae_okq cd_Model_taken prog_11_method_71_code 3 10 (some .int) false 0 27 = true := by decide +kernel
theorem ae_z178 : ∀ (k : Nat) (i : ae_I), ae_get cd_Model_taken k = some i → ae_okI cd_Model_taken prog_11_method_71_code 3 10 (some .int) false k i = true := by
  intro k i h
  have hl : k < 27 := ae_get_lt h
  exact ae_okq_at ae_x178_0 h (by omega) (by omega)
theorem ae_h178 : ae_okh 178 = true := by decide +kernel
theorem ae_o178 : ae_okM 178 := ⟨ae_h178, fun y cc nL rt o na st e k i h => by cases (show ae_mg 178 = _ from rfl).symm.trans e; exact ae_z178 k i h⟩
theorem ae_x179_0 : ae_okq cd_String_length prog_13_method_54_code 1 11 (some .int) false 0 7 = true := by decide +kernel
theorem ae_z179 : ∀ (k : Nat) (i : ae_I), ae_get cd_String_length k = some i → ae_okI cd_String_length prog_13_method_54_code 1 11 (some .int) false k i = true := by
  intro k i h
  have hl : k < 7 := ae_get_lt h
  exact ae_okq_at ae_x179_0 h (by omega) (by omega)
theorem ae_h179 : ae_okh 179 = true := by decide +kernel
theorem ae_o179 : ae_okM 179 := ⟨ae_h179, fun y cc nL rt o na st e k i h => by cases (show ae_mg 179 = _ from rfl).symm.trans e; exact ae_z179 k i h⟩
theorem ae_x180_0 : ae_okq cd_String_charAt prog_13_method_56_code 2 11 (some .char) false 0 13 = true := by decide +kernel
theorem ae_z180 : ∀ (k : Nat) (i : ae_I), ae_get cd_String_charAt k = some i → ae_okI cd_String_charAt prog_13_method_56_code 2 11 (some .char) false k i = true := by
  intro k i h
  have hl : k < 13 := ae_get_lt h
  exact ae_okq_at ae_x180_0 h (by omega) (by omega)
theorem ae_h180 : ae_okh 180 = true := by decide +kernel
theorem ae_o180 : ae_okM 180 := ⟨ae_h180, fun y cc nL rt o na st e k i h => by cases (show ae_mg 180 = _ from rfl).symm.trans e; exact ae_z180 k i h⟩
theorem ae_x181_0 : ae_okq cd_String_coder prog_13_method_152_code 1 11 (some .byte) false 0 7 = true := by decide +kernel
theorem ae_z181 : ∀ (k : Nat) (i : ae_I), ae_get cd_String_coder k = some i → ae_okI cd_String_coder prog_13_method_152_code 1 11 (some .byte) false k i = true := by
  intro k i h
  have hl : k < 7 := ae_get_lt h
  exact ae_okq_at ae_x181_0 h (by omega) (by omega)
theorem ae_h181 : ae_okh 181 = true := by decide +kernel
theorem ae_o181 : ae_okM 181 := ⟨ae_h181, fun y cc nL rt o na st e k i h => by cases (show ae_mg 181 = _ from rfl).symm.trans e; exact ae_z181 k i h⟩
theorem ae_x182_0 : ae_okq cd_String_isLatin1 prog_13_method_154_code 1 11 (some .boolean) false 0 9 = true := by decide +kernel
theorem ae_z182 : ∀ (k : Nat) (i : ae_I), ae_get cd_String_isLatin1 k = some i → ae_okI cd_String_isLatin1 prog_13_method_154_code 1 11 (some .boolean) false k i = true := by
  intro k i h
  have hl : k < 9 := ae_get_lt h
  exact ae_okq_at ae_x182_0 h (by omega) (by omega)
theorem ae_h182 : ae_okh 182 = true := by decide +kernel
theorem ae_o182 : ae_okM 182 := ⟨ae_h182, fun y cc nL rt o na st e k i h => by cases (show ae_mg 182 = _ from rfl).symm.trans e; exact ae_z182 k i h⟩
theorem ae_x183_0 : ae_okq cd_String_checkIndex prog_13_method_155_code 2 11 none false 0 6 = true := by decide +kernel
theorem ae_z183 : ∀ (k : Nat) (i : ae_I), ae_get cd_String_checkIndex k = some i → ae_okI cd_String_checkIndex prog_13_method_155_code 2 11 none false k i = true := by
  intro k i h
  have hl : k < 6 := ae_get_lt h
  exact ae_okq_at ae_x183_0 h (by omega) (by omega)
theorem ae_h183 : ae_okh 183 = true := by decide +kernel
theorem ae_o183 : ae_okM 183 := ⟨ae_h183, fun y cc nL rt o na st e k i h => by cases (show ae_mg 183 = _ from rfl).symm.trans e; exact ae_z183 k i h⟩
theorem ae_x184_0 : ae_okq cd_StringLatin1_charAt prog_14_method_2_code 2 12 (some .char) false 0 11 = true := by decide +kernel
theorem ae_z184 : ∀ (k : Nat) (i : ae_I), ae_get cd_StringLatin1_charAt k = some i → ae_okI cd_StringLatin1_charAt prog_14_method_2_code 2 12 (some .char) false k i = true := by
  intro k i h
  have hl : k < 11 := ae_get_lt h
  exact ae_okq_at ae_x184_0 h (by omega) (by omega)
theorem ae_h184 : ae_okh 184 = true := by decide +kernel
theorem ae_o184 : ae_okM 184 := ⟨ae_h184, fun y cc nL rt o na st e k i h => by cases (show ae_mg 184 = _ from rfl).symm.trans e; exact ae_z184 k i h⟩
theorem ae_x185_0 : ae_okq cd_Preconditions_checkIndex prog_17_method_11_code 3 13 (some .int) false 0 12 = true := by decide +kernel
theorem ae_z185 : ∀ (k : Nat) (i : ae_I), ae_get cd_Preconditions_checkIndex k = some i → ae_okI cd_Preconditions_checkIndex prog_17_method_11_code 3 13 (some .int) false k i = true := by
  intro k i h
  have hl : k < 12 := ae_get_lt h
  exact ae_okq_at ae_x185_0 h (by omega) (by omega)
theorem ae_h185 : ae_okh 185 = true := by decide +kernel
theorem ae_o185 : ae_okM 185 := ⟨ae_h185, fun y cc nL rt o na st e k i h => by cases (show ae_mg 185 = _ from rfl).symm.trans e; exact ae_z185 k i h⟩
theorem ae_x186_0 : ae_okq cd_DriedLaw_law code 4 0 (some .boolean) false 0 60 = true := by decide +kernel
theorem ae_x186_1 : ae_okq cd_DriedLaw_law code 4 0 (some .boolean) false 60 60 = true := by decide +kernel
theorem ae_x186_2 : ae_okq cd_DriedLaw_law code 4 0 (some .boolean) false 120 60 = true := by decide +kernel
theorem ae_x186_3 : ae_okq cd_DriedLaw_law code 4 0 (some .boolean) false 180 60 = true := by decide +kernel
theorem ae_x186_4 : ae_okq cd_DriedLaw_law code 4 0 (some .boolean) false 240 60 = true := by decide +kernel
theorem ae_x186_5 : ae_okq cd_DriedLaw_law code 4 0 (some .boolean) false 300 60 = true := by decide +kernel
theorem ae_x186_6 : ae_okq cd_DriedLaw_law code 4 0 (some .boolean) false 360 60 = true := by decide +kernel
theorem ae_x186_7 : ae_okq cd_DriedLaw_law code 4 0 (some .boolean) false 420 60 = true := by decide +kernel
theorem ae_x186_8 : ae_okq cd_DriedLaw_law code 4 0 (some .boolean) false 480 60 = true := by decide +kernel
theorem ae_x186_9 : ae_okq cd_DriedLaw_law code 4 0 (some .boolean) false 540 60 = true := by decide +kernel
theorem ae_x186_10 : ae_okq cd_DriedLaw_law code 4 0 (some .boolean) false 600 45 = true := by decide +kernel
theorem ae_z186 : ∀ (k : Nat) (i : ae_I), ae_get cd_DriedLaw_law k = some i → ae_okI cd_DriedLaw_law code 4 0 (some .boolean) false k i = true := by
  intro k i h
  have hl : k < 645 := by
    have e : cd_DriedLaw_law.length = 645 := by decide +kernel
    rw [← e]
    exact ae_get_lt h
  rcases Nat.lt_or_ge k 60 with q0 | q0
  · exact ae_okq_at ae_x186_0 h (by omega) (by omega)
  rcases Nat.lt_or_ge k 120 with q1 | q1
  · exact ae_okq_at ae_x186_1 h (by omega) (by omega)
  rcases Nat.lt_or_ge k 180 with q2 | q2
  · exact ae_okq_at ae_x186_2 h (by omega) (by omega)
  rcases Nat.lt_or_ge k 240 with q3 | q3
  · exact ae_okq_at ae_x186_3 h (by omega) (by omega)
  rcases Nat.lt_or_ge k 300 with q4 | q4
  · exact ae_okq_at ae_x186_4 h (by omega) (by omega)
  rcases Nat.lt_or_ge k 360 with q5 | q5
  · exact ae_okq_at ae_x186_5 h (by omega) (by omega)
  rcases Nat.lt_or_ge k 420 with q6 | q6
  · exact ae_okq_at ae_x186_6 h (by omega) (by omega)
  rcases Nat.lt_or_ge k 480 with q7 | q7
  · exact ae_okq_at ae_x186_7 h (by omega) (by omega)
  rcases Nat.lt_or_ge k 540 with q8 | q8
  · exact ae_okq_at ae_x186_8 h (by omega) (by omega)
  rcases Nat.lt_or_ge k 600 with q9 | q9
  · exact ae_okq_at ae_x186_9 h (by omega) (by omega)
  exact ae_okq_at ae_x186_10 h (by omega) (by omega)
theorem ae_oc0 : ∀ m ∈ [0, 1, 2, 3, 4, 5, 6, 7, 8, 9, 10, 11, 12, 13, 14, 15, 16, 17, 18, 19], ae_okM m := List.forall_mem_cons.mpr ⟨ae_o0, List.forall_mem_cons.mpr ⟨ae_o1, List.forall_mem_cons.mpr ⟨ae_o2, List.forall_mem_cons.mpr ⟨ae_o3, List.forall_mem_cons.mpr ⟨ae_o4, List.forall_mem_cons.mpr ⟨ae_o5, List.forall_mem_cons.mpr ⟨ae_o6, List.forall_mem_cons.mpr ⟨ae_o7, List.forall_mem_cons.mpr ⟨ae_o8, List.forall_mem_cons.mpr ⟨ae_o9, List.forall_mem_cons.mpr ⟨ae_o10, List.forall_mem_cons.mpr ⟨ae_o11, List.forall_mem_cons.mpr ⟨ae_o12, List.forall_mem_cons.mpr ⟨ae_o13, List.forall_mem_cons.mpr ⟨ae_o14, List.forall_mem_cons.mpr ⟨ae_o15, List.forall_mem_cons.mpr ⟨ae_o16, List.forall_mem_cons.mpr ⟨ae_o17, List.forall_mem_cons.mpr ⟨ae_o18, List.forall_mem_cons.mpr ⟨ae_o19, fun _ h => absurd h List.not_mem_nil⟩⟩⟩⟩⟩⟩⟩⟩⟩⟩⟩⟩⟩⟩⟩⟩⟩⟩⟩⟩
theorem ae_oc1 : ∀ m ∈ [20, 21, 22, 23, 24, 25, 26, 27, 28, 29, 30, 31, 32, 33, 34, 35, 36, 37, 38, 39], ae_okM m := List.forall_mem_cons.mpr ⟨ae_o20, List.forall_mem_cons.mpr ⟨ae_o21, List.forall_mem_cons.mpr ⟨ae_o22, List.forall_mem_cons.mpr ⟨ae_o23, List.forall_mem_cons.mpr ⟨ae_o24, List.forall_mem_cons.mpr ⟨ae_o25, List.forall_mem_cons.mpr ⟨ae_o26, List.forall_mem_cons.mpr ⟨ae_o27, List.forall_mem_cons.mpr ⟨ae_o28, List.forall_mem_cons.mpr ⟨ae_o29, List.forall_mem_cons.mpr ⟨ae_o30, List.forall_mem_cons.mpr ⟨ae_o31, List.forall_mem_cons.mpr ⟨ae_o32, List.forall_mem_cons.mpr ⟨ae_o33, List.forall_mem_cons.mpr ⟨ae_o34, List.forall_mem_cons.mpr ⟨ae_o35, List.forall_mem_cons.mpr ⟨ae_o36, List.forall_mem_cons.mpr ⟨ae_o37, List.forall_mem_cons.mpr ⟨ae_o38, List.forall_mem_cons.mpr ⟨ae_o39, fun _ h => absurd h List.not_mem_nil⟩⟩⟩⟩⟩⟩⟩⟩⟩⟩⟩⟩⟩⟩⟩⟩⟩⟩⟩⟩
theorem ae_oc2 : ∀ m ∈ [40, 41, 42, 43, 44, 45, 46, 47, 48, 49, 50, 51, 52, 53, 54, 55, 56, 57, 58, 59], ae_okM m := List.forall_mem_cons.mpr ⟨ae_o40, List.forall_mem_cons.mpr ⟨ae_o41, List.forall_mem_cons.mpr ⟨ae_o42, List.forall_mem_cons.mpr ⟨ae_o43, List.forall_mem_cons.mpr ⟨ae_o44, List.forall_mem_cons.mpr ⟨ae_o45, List.forall_mem_cons.mpr ⟨ae_o46, List.forall_mem_cons.mpr ⟨ae_o47, List.forall_mem_cons.mpr ⟨ae_o48, List.forall_mem_cons.mpr ⟨ae_o49, List.forall_mem_cons.mpr ⟨ae_o50, List.forall_mem_cons.mpr ⟨ae_o51, List.forall_mem_cons.mpr ⟨ae_o52, List.forall_mem_cons.mpr ⟨ae_o53, List.forall_mem_cons.mpr ⟨ae_o54, List.forall_mem_cons.mpr ⟨ae_o55, List.forall_mem_cons.mpr ⟨ae_o56, List.forall_mem_cons.mpr ⟨ae_o57, List.forall_mem_cons.mpr ⟨ae_o58, List.forall_mem_cons.mpr ⟨ae_o59, fun _ h => absurd h List.not_mem_nil⟩⟩⟩⟩⟩⟩⟩⟩⟩⟩⟩⟩⟩⟩⟩⟩⟩⟩⟩⟩
theorem ae_oc3 : ∀ m ∈ [60, 61, 62, 63, 64, 65, 66, 67, 68, 69, 70, 71, 72, 73, 74, 75, 76, 77, 78, 79], ae_okM m := List.forall_mem_cons.mpr ⟨ae_o60, List.forall_mem_cons.mpr ⟨ae_o61, List.forall_mem_cons.mpr ⟨ae_o62, List.forall_mem_cons.mpr ⟨ae_o63, List.forall_mem_cons.mpr ⟨ae_o64, List.forall_mem_cons.mpr ⟨ae_o65, List.forall_mem_cons.mpr ⟨ae_o66, List.forall_mem_cons.mpr ⟨ae_o67, List.forall_mem_cons.mpr ⟨ae_o68, List.forall_mem_cons.mpr ⟨ae_o69, List.forall_mem_cons.mpr ⟨ae_o70, List.forall_mem_cons.mpr ⟨ae_o71, List.forall_mem_cons.mpr ⟨ae_o72, List.forall_mem_cons.mpr ⟨ae_o73, List.forall_mem_cons.mpr ⟨ae_o74, List.forall_mem_cons.mpr ⟨ae_o75, List.forall_mem_cons.mpr ⟨ae_o76, List.forall_mem_cons.mpr ⟨ae_o77, List.forall_mem_cons.mpr ⟨ae_o78, List.forall_mem_cons.mpr ⟨ae_o79, fun _ h => absurd h List.not_mem_nil⟩⟩⟩⟩⟩⟩⟩⟩⟩⟩⟩⟩⟩⟩⟩⟩⟩⟩⟩⟩
theorem ae_oc4 : ∀ m ∈ [80, 81, 82, 83, 84, 85, 86, 87, 88, 89, 90, 91, 92, 93, 94, 95, 96, 97, 98, 99], ae_okM m := List.forall_mem_cons.mpr ⟨ae_o80, List.forall_mem_cons.mpr ⟨ae_o81, List.forall_mem_cons.mpr ⟨ae_o82, List.forall_mem_cons.mpr ⟨ae_o83, List.forall_mem_cons.mpr ⟨ae_o84, List.forall_mem_cons.mpr ⟨ae_o85, List.forall_mem_cons.mpr ⟨ae_o86, List.forall_mem_cons.mpr ⟨ae_o87, List.forall_mem_cons.mpr ⟨ae_o88, List.forall_mem_cons.mpr ⟨ae_o89, List.forall_mem_cons.mpr ⟨ae_o90, List.forall_mem_cons.mpr ⟨ae_o91, List.forall_mem_cons.mpr ⟨ae_o92, List.forall_mem_cons.mpr ⟨ae_o93, List.forall_mem_cons.mpr ⟨ae_o94, List.forall_mem_cons.mpr ⟨ae_o95, List.forall_mem_cons.mpr ⟨ae_o96, List.forall_mem_cons.mpr ⟨ae_o97, List.forall_mem_cons.mpr ⟨ae_o98, List.forall_mem_cons.mpr ⟨ae_o99, fun _ h => absurd h List.not_mem_nil⟩⟩⟩⟩⟩⟩⟩⟩⟩⟩⟩⟩⟩⟩⟩⟩⟩⟩⟩⟩
theorem ae_oc5 : ∀ m ∈ [100, 101, 102, 103, 104, 105, 106, 107, 108, 109, 110, 111, 112, 113, 114, 115, 116, 117, 118, 119], ae_okM m := List.forall_mem_cons.mpr ⟨ae_o100, List.forall_mem_cons.mpr ⟨ae_o101, List.forall_mem_cons.mpr ⟨ae_o102, List.forall_mem_cons.mpr ⟨ae_o103, List.forall_mem_cons.mpr ⟨ae_o104, List.forall_mem_cons.mpr ⟨ae_o105, List.forall_mem_cons.mpr ⟨ae_o106, List.forall_mem_cons.mpr ⟨ae_o107, List.forall_mem_cons.mpr ⟨ae_o108, List.forall_mem_cons.mpr ⟨ae_o109, List.forall_mem_cons.mpr ⟨ae_o110, List.forall_mem_cons.mpr ⟨ae_o111, List.forall_mem_cons.mpr ⟨ae_o112, List.forall_mem_cons.mpr ⟨ae_o113, List.forall_mem_cons.mpr ⟨ae_o114, List.forall_mem_cons.mpr ⟨ae_o115, List.forall_mem_cons.mpr ⟨ae_o116, List.forall_mem_cons.mpr ⟨ae_o117, List.forall_mem_cons.mpr ⟨ae_o118, List.forall_mem_cons.mpr ⟨ae_o119, fun _ h => absurd h List.not_mem_nil⟩⟩⟩⟩⟩⟩⟩⟩⟩⟩⟩⟩⟩⟩⟩⟩⟩⟩⟩⟩
theorem ae_oc6 : ∀ m ∈ [120, 121, 122, 123, 124, 125, 126, 127, 128, 129, 130, 131, 132, 133, 134, 135, 136, 137, 138, 139], ae_okM m := List.forall_mem_cons.mpr ⟨ae_o120, List.forall_mem_cons.mpr ⟨ae_o121, List.forall_mem_cons.mpr ⟨ae_o122, List.forall_mem_cons.mpr ⟨ae_o123, List.forall_mem_cons.mpr ⟨ae_o124, List.forall_mem_cons.mpr ⟨ae_o125, List.forall_mem_cons.mpr ⟨ae_o126, List.forall_mem_cons.mpr ⟨ae_o127, List.forall_mem_cons.mpr ⟨ae_o128, List.forall_mem_cons.mpr ⟨ae_o129, List.forall_mem_cons.mpr ⟨ae_o130, List.forall_mem_cons.mpr ⟨ae_o131, List.forall_mem_cons.mpr ⟨ae_o132, List.forall_mem_cons.mpr ⟨ae_o133, List.forall_mem_cons.mpr ⟨ae_o134, List.forall_mem_cons.mpr ⟨ae_o135, List.forall_mem_cons.mpr ⟨ae_o136, List.forall_mem_cons.mpr ⟨ae_o137, List.forall_mem_cons.mpr ⟨ae_o138, List.forall_mem_cons.mpr ⟨ae_o139, fun _ h => absurd h List.not_mem_nil⟩⟩⟩⟩⟩⟩⟩⟩⟩⟩⟩⟩⟩⟩⟩⟩⟩⟩⟩⟩
theorem ae_oc7 : ∀ m ∈ [140, 141, 142, 143, 144, 145, 146, 147, 148, 149, 150, 151, 152, 153, 154, 155, 156, 157, 158, 159], ae_okM m := List.forall_mem_cons.mpr ⟨ae_o140, List.forall_mem_cons.mpr ⟨ae_o141, List.forall_mem_cons.mpr ⟨ae_o142, List.forall_mem_cons.mpr ⟨ae_o143, List.forall_mem_cons.mpr ⟨ae_o144, List.forall_mem_cons.mpr ⟨ae_o145, List.forall_mem_cons.mpr ⟨ae_o146, List.forall_mem_cons.mpr ⟨ae_o147, List.forall_mem_cons.mpr ⟨ae_o148, List.forall_mem_cons.mpr ⟨ae_o149, List.forall_mem_cons.mpr ⟨ae_o150, List.forall_mem_cons.mpr ⟨ae_o151, List.forall_mem_cons.mpr ⟨ae_o152, List.forall_mem_cons.mpr ⟨ae_o153, List.forall_mem_cons.mpr ⟨ae_o154, List.forall_mem_cons.mpr ⟨ae_o155, List.forall_mem_cons.mpr ⟨ae_o156, List.forall_mem_cons.mpr ⟨ae_o157, List.forall_mem_cons.mpr ⟨ae_o158, List.forall_mem_cons.mpr ⟨ae_o159, fun _ h => absurd h List.not_mem_nil⟩⟩⟩⟩⟩⟩⟩⟩⟩⟩⟩⟩⟩⟩⟩⟩⟩⟩⟩⟩
theorem ae_oc8 : ∀ m ∈ [160, 161, 162, 163, 164, 165, 166, 167, 168, 169, 170, 171, 172, 173, 174, 175, 176, 177, 178, 179], ae_okM m := List.forall_mem_cons.mpr ⟨ae_o160, List.forall_mem_cons.mpr ⟨ae_o161, List.forall_mem_cons.mpr ⟨ae_o162, List.forall_mem_cons.mpr ⟨ae_o163, List.forall_mem_cons.mpr ⟨ae_o164, List.forall_mem_cons.mpr ⟨ae_o165, List.forall_mem_cons.mpr ⟨ae_o166, List.forall_mem_cons.mpr ⟨ae_o167, List.forall_mem_cons.mpr ⟨ae_o168, List.forall_mem_cons.mpr ⟨ae_o169, List.forall_mem_cons.mpr ⟨ae_o170, List.forall_mem_cons.mpr ⟨ae_o171, List.forall_mem_cons.mpr ⟨ae_o172, List.forall_mem_cons.mpr ⟨ae_o173, List.forall_mem_cons.mpr ⟨ae_o174, List.forall_mem_cons.mpr ⟨ae_o175, List.forall_mem_cons.mpr ⟨ae_o176, List.forall_mem_cons.mpr ⟨ae_o177, List.forall_mem_cons.mpr ⟨ae_o178, List.forall_mem_cons.mpr ⟨ae_o179, fun _ h => absurd h List.not_mem_nil⟩⟩⟩⟩⟩⟩⟩⟩⟩⟩⟩⟩⟩⟩⟩⟩⟩⟩⟩⟩
theorem ae_oc9 : ∀ m ∈ [180, 181, 182, 183, 184, 185], ae_okM m := List.forall_mem_cons.mpr ⟨ae_o180, List.forall_mem_cons.mpr ⟨ae_o181, List.forall_mem_cons.mpr ⟨ae_o182, List.forall_mem_cons.mpr ⟨ae_o183, List.forall_mem_cons.mpr ⟨ae_o184, List.forall_mem_cons.mpr ⟨ae_o185, fun _ h => absurd h List.not_mem_nil⟩⟩⟩⟩⟩⟩
theorem ae_ok {m : Nat} (h : m < 186) : ae_okM m := by
  have hm : m ∈ List.range 186 := List.mem_range.mpr h
  have e : List.range 186 = [0, 1, 2, 3, 4, 5, 6, 7, 8, 9, 10, 11, 12, 13, 14, 15, 16, 17, 18, 19] ++ ([20, 21, 22, 23, 24, 25, 26, 27, 28, 29, 30, 31, 32, 33, 34, 35, 36, 37, 38, 39] ++ ([40, 41, 42, 43, 44, 45, 46, 47, 48, 49, 50, 51, 52, 53, 54, 55, 56, 57, 58, 59] ++ ([60, 61, 62, 63, 64, 65, 66, 67, 68, 69, 70, 71, 72, 73, 74, 75, 76, 77, 78, 79] ++ ([80, 81, 82, 83, 84, 85, 86, 87, 88, 89, 90, 91, 92, 93, 94, 95, 96, 97, 98, 99] ++ ([100, 101, 102, 103, 104, 105, 106, 107, 108, 109, 110, 111, 112, 113, 114, 115, 116, 117, 118, 119] ++ ([120, 121, 122, 123, 124, 125, 126, 127, 128, 129, 130, 131, 132, 133, 134, 135, 136, 137, 138, 139] ++ ([140, 141, 142, 143, 144, 145, 146, 147, 148, 149, 150, 151, 152, 153, 154, 155, 156, 157, 158, 159] ++ ([160, 161, 162, 163, 164, 165, 166, 167, 168, 169, 170, 171, 172, 173, 174, 175, 176, 177, 178, 179] ++ ([180, 181, 182, 183, 184, 185]))))))))) := by decide +kernel
  rw [e] at hm
  simp only [List.mem_append] at hm
  rcases hm with h | h | h | h | h | h | h | h | h | h
  · exact ae_oc0 m h
  · exact ae_oc1 m h
  · exact ae_oc2 m h
  · exact ae_oc3 m h
  · exact ae_oc4 m h
  · exact ae_oc5 m h
  · exact ae_oc6 m h
  · exact ae_oc7 m h
  · exact ae_oc8 m h
  · exact ae_oc9 m h
