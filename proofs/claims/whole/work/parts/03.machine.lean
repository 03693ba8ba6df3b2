/-! the machine over places: an object's address is its place in a list; texts, the script and a static row are values of their own (retAddr) -/
abbrev ae_H : Type := List va_E
/-- number of the next instruction, locals, stack -/
abbrev ae_S : Type := Nat × List (Option Value) × List Value
/-- the script, its length, what a static of the JDK's holds -/
abbrev ae_P : Type := (Nat → Int32) × Nat × Value
abbrev ae_R : Type := (Prop × ae_S × ae_H) ⊕ (Prop × Option Value) ⊕ (Nat × List Value × ae_S)
def ae_get {α : Type} : List α → Nat → Option α
  | [], _ => none
  | a :: _, 0 => some a
  | _ :: l, n + 1 => ae_get l n
theorem ae_get_eq {α : Type} : ∀ (l : List α) (n : Nat), ae_get l n = l[n]?
  | [], _ => by simp [ae_get]
  | a :: _, 0 => by simp [ae_get]
  | _ :: l, n + 1 => by rw [ae_get, ae_get_eq l n, List.getElem?_cons_succ]
def ae_lenS : List Nat := [83, 3, 3, 4, 3, 3, 4, 4, 4, 5, 2, 3, 3]
def ae_bytS : List (List Int32) := [[115, 111, 97, 107, 32, 50, 32, 43, 32, 110, 101, 97, 114, 32, 42, 32, 51, 32, 43, 32, 40, 32, 53, 48, 32, 60, 32, 100, 114, 121, 32, 41, 32, 42, 32, 52, 32, 59, 32, 108, 101, 97, 107, 32, 50, 32, 43, 32, 115, 97, 108, 116, 32, 59, 32, 100, 114, 105, 101, 115, 32, 49, 32, 43, 32, 40, 32, 53, 48, 32, 60, 32, 119, 101, 116, 32, 41, 32, 42, 32, 50, 32, 59], [119, 101, 116], [100, 114, 121], [110, 101, 97, 114], [111, 108, 100], [100, 97, 121], [115, 97, 108, 116], [115, 111, 97, 107], [108, 101, 97, 107], [100, 114, 105, 101, 115], [111, 114], [97, 110, 100], [110, 111, 116]]
def ae_above : List Int32 := [-1, 0, 0, 1, 0, 2]
/-- rows outside the heap of places: type, length, content -/
def ae_xa (P : ae_P) (i : Nat) : Option (Nat × Nat × (Nat → Int32)) :=
  match Nat.beq i 600, Nat.beq i 500, Nat.ble 100 i && Nat.ble i 112 with
  | true, _, _ => some (0, P.2.1, P.1)
  | _, true, _ => some (0, 6, fun j => ae_above.getD j 0)
  | _, _, true => some (1, ae_lenS.getD (i - 100) 0, fun j => (ae_bytS.getD (i - 100) []).getD j 0)
  | _, _, _ => none
def ae_nol (L : List (Option Value)) : Nat → Bool
  | 0 => true
  | k + 1 => match ae_get L k with
    | some (some (.long _)) => false
    | some (some (.double _)) => false
    | _ => true
def ae_okv (ty : FieldType) (v : Value) : Option Prop := match ty, v with
  | .int, .int _ => some True
  | .boolean, .int x => some (x = 0 ∨ x = 1)
  | .long, .long _ => some True
  | .object _, .ref _ => some True
  | .object _, .null => some True
  | .array _, .ref _ => some True
  | .array _, .null => some True
  | _, _ => none
def ae_fty (ci k : Nat) : FieldType := match ae_get ae_ft ci with
  | some l => (match ae_get l k with | some t => t | none => .int)
  | none => .int
/-- a new object's fields -/
def ae_dfl (ci : Nat) : List Value := match ae_get ae_ft ci with
  | some l => l.map defaultValue
  | none => []
def ae_cat (S : List Value) : Nat := (S.map fun v => v.category).sum
/-- the kind of objects of a class, by its number in ae_CN -/
def ae_kd (o : Nat) : Nat := match o with
  | 1 => 6 | 2 => 0 | 3 => 1 | 4 => 2 | 5 => 3 | 6 => 4 | 7 => 5 | 10 => 7 | 11 => 20 | _ => 99
/-- is it an object of that kind -/
def ae_isk (H : ae_H) (kd : Nat) (v : Value) : Bool := match v with
  | .ref k => (match ae_get H k with | some (.inr (ci, _)) => Nat.beq ci kd | _ => false)
  | .retAddr i => Nat.beq kd 20 && Nat.blt i 13
  | _ => false
def ae_swt (x : Int32) (d : Nat) : List (Int32 × Nat) → Nat
  | [] => d
  | (v, t) :: cs => if x = v then t else ae_swt x d cs
/-- a plain step; a step that asks something -/
def ae_nx (st : ae_S) (H : ae_H) : Option ae_R := some (.inl (True, st, H))
def ae_ng (G : Prop) (st : ae_S) (H : ae_H) : Option ae_R := some (.inl (G, st, H))
section AEK
variable (k : Nat) (L : List (Option Value)) (S : List Value) (H : ae_H)
def ae_bin (f : Int32 → Int32 → Int32) : Option ae_R := match S with
  | .int y :: .int x :: r => ae_nx (k + 1, L, .int (f x y) :: r) H
  | _ => none
def ae_div (f : Int32 → Int32 → Int32) : Option ae_R := match S with
  | .int y :: .int x :: r => ae_ng (¬ y = 0) (k + 1, L, .int (f x y) :: r) H
  | _ => none
def ae_un (f : Int32 → Int32) : Option ae_R := match S with
  | .int x :: r => ae_nx (k + 1, L, .int (f x) :: r) H
  | _ => none
def ae_binL (f : Int64 → Int64 → Int64) : Option ae_R := match S with
  | .long y :: .long x :: r => ae_nx (k + 1, L, .long (f x y) :: r) H
  | _ => none
def ae_divL (f : Int64 → Int64 → Int64) : Option ae_R := match S with
  | .long y :: .long x :: r => ae_ng (¬ y = 0) (k + 1, L, .long (f x y) :: r) H
  | _ => none
def ae_shL (f : Int64 → Int32 → Int64) : Option ae_R := match S with
  | .int y :: .long x :: r => ae_nx (k + 1, L, .long (f x y) :: r) H
  | _ => none
def ae_i2l : Option ae_R := match S with
  | .int x :: r => ae_nx (k + 1, L, .long x.toInt64 :: r) H
  | _ => none
def ae_l2i : Option ae_R := match S with
  | .long x :: r => ae_nx (k + 1, L, .int x.toInt32 :: r) H
  | _ => none
def ae_lcmp : Option ae_R := match S with
  | .long y :: .long x :: r => ae_nx (k + 1, L, .int (lg_cmp x y) :: r) H
  | _ => none
def ae_dup : Option ae_R := match S with
  | v :: r => (match Nat.beq v.category 1 with | true => ae_nx (k + 1, L, v :: v :: r) H | false => none)
  | _ => none
def ae_pop : Option ae_R := match S with
  | v :: r => (match Nat.beq v.category 1 with | true => ae_nx (k + 1, L, r) H | false => none)
  | _ => none
def ae_dup2 : Option ae_R := match S with
  | v :: w :: r => (match Nat.beq v.category 1, Nat.beq w.category 1 with | true, true => ae_nx (k + 1, L, v :: w :: v :: w :: r) H | _, _ => none)
  | _ => none
def ae_ild (n : Nat) : Option ae_R := match ae_get L n with
  | some (some (.int x)) => ae_nx (k + 1, L, .int x :: S) H
  | _ => none
def ae_lld (n : Nat) : Option ae_R := match ae_get L n with
  | some (some (.long x)) => ae_nx (k + 1, L, .long x :: S) H
  | _ => none
def ae_ald (n : Nat) : Option ae_R := match ae_get L n with
  | some (some (.ref x)) => ae_nx (k + 1, L, .ref x :: S) H
  | some (some (.retAddr x)) => ae_nx (k + 1, L, .retAddr x :: S) H
  | some (some .null) => ae_nx (k + 1, L, .null :: S) H
  | _ => none
def ae_ist (n : Nat) : Option ae_R := match S, ae_nol L n with
  | .int x :: r, true => ae_nx (k + 1, L.set n (some (.int x)), r) H
  | _, _ => none
def ae_lst (n : Nat) : Option ae_R := match S, ae_nol L n with
  | .long x :: r, true => ae_nx (k + 1, (L.set n (some (.long x))).set (n + 1) none, r) H
  | _, _ => none
def ae_ast (n : Nat) : Option ae_R := match S, ae_nol L n with
  | .ref x :: r, true => ae_nx (k + 1, L.set n (some (.ref x)), r) H
  | .retAddr x :: r, true => ae_nx (k + 1, L.set n (some (.retAddr x)), r) H
  | .null :: r, true => ae_nx (k + 1, L.set n (some .null), r) H
  | _, _ => none
def ae_inc (n : Nat) (v : Value) : Option ae_R := match ae_get L n, v, ae_nol L n with
  | some (some (.int x)), .int c, true => ae_nx (k + 1, L.set n (some (.int (x + c))), S) H
  | _, _, _ => none
def ae_if1 (p : Int32 → Prop) [∀ x, Decidable (p x)] (t : Nat) : Option ae_R := match S with
  | .int x :: r => ae_nx (if p x then t else k + 1, L, r) H
  | _ => none
def ae_if2 (p : Int32 → Int32 → Prop) [∀ x y, Decidable (p x y)] (t : Nat) : Option ae_R := match S with
  | .int y :: .int x :: r => ae_nx (if p x y then t else k + 1, L, r) H
  | _ => none
def ae_ifn (t f : Nat) : Option ae_R := match S with
  | .ref _ :: r => ae_nx (f, L, r) H
  | .null :: r => ae_nx (t, L, r) H
  | _ => none
def ae_swi (d : Nat) (cs : List (Int32 × Nat)) : Option ae_R := match S with
  | .int x :: r => ae_nx (ae_swt x d cs, L, r) H
  | _ => none
def ae_gf (n1 n2 : Nat) : Option ae_R := match S with
  | .ref a :: r => (match ae_get H a with
    | some (.inr (ci, fs)) => (match Nat.beq ci n1, ae_get fs n2 with
      | true, some v => ae_nx (k + 1, L, v :: r) H
      | _, _ => none)
    | _ => none)
  | .retAddr i :: r => (match Nat.beq n1 20 && Nat.blt i 13, n2 with
    | true, 0 => ae_nx (k + 1, L, .retAddr (100 + i) :: r) H
    | true, 1 => ae_nx (k + 1, L, .int 0 :: r) H
    | _, _ => none)
  | _ => none
def ae_pf (n1 n2 : Nat) : Option ae_R := match S with
  | v :: .ref a :: r => (match ae_get H a with
    | some (.inr (ci, fs)) => (match Nat.beq ci n1, Nat.blt n2 fs.length, ae_okv (ae_fty n1 n2) v with
      | true, true, some G => ae_ng G (k + 1, L, r) (H.set a (.inr (ci, fs.set n2 v)))
      | _, _, _ => none)
    | _ => none)
  | _ => none
def ae_gs (P : ae_P) (n1 : Nat) : Option ae_R := match n1 with
  | 0 => ae_nx (k + 1, L, .int 1 :: S) H
  | 1 => ae_nx (k + 1, L, P.2.2 :: S) H
  | 2 => ae_nx (k + 1, L, .retAddr 500 :: S) H
  | _ => none
def ae_iald (P : ae_P) (ty : Nat) : Option ae_R := match S with
  | .int i :: .ref a :: r => (match ae_get H a with
    | some (.inl (t, n, .inl f)) => (match Nat.beq t ty with | true => ae_ng (vp_in i n) (k + 1, L, .int (f i.toNatClampNeg) :: r) H | false => none)
    | _ => none)
  | .int i :: .retAddr a :: r => (match ae_xa P a with
    | some (t, n, f) => (match Nat.beq t ty with | true => ae_ng (vp_in i n) (k + 1, L, .int (f i.toNatClampNeg) :: r) H | false => none)
    | none => none)
  | _ => none
def ae_iast : Option ae_R := match S with
  | .int x :: .int i :: .ref a :: r => (match ae_get H a with
    | some (.inl (0, n, .inl f)) => ae_ng (vp_in i n) (k + 1, L, r) (H.set a (.inl (0, n, .inl (upd f i.toNatClampNeg x))))
    | _ => none)
  | _ => none
def ae_bast : Option ae_R := match S with
  | .int x :: .int i :: .ref a :: r => (match ae_get H a with
    | some (.inl (1, n, .inl f)) => ae_ng (vp_in i n) (k + 1, L, r) (H.set a (.inl (1, n, .inl (upd f i.toNatClampNeg x.toInt8.toInt32))))
    | _ => none)
  | _ => none
def ae_aald : Option ae_R := match S with
  | .int i :: .ref a :: r => (match ae_get H a with
    | some (.inl (t, n, .inr (.inr (.inr (.inr f))))) => (match Nat.ble 2 t && Nat.ble t 3 with | true => ae_ng (vp_in i n) (k + 1, L, va_rf (f i.toNatClampNeg) :: r) H | false => none)
    | _ => none)
  | _ => none
/-- the kind that a row of references holds -/
def ae_ek (t : Nat) : Nat := match t with
  | 2 => 4
  | 3 => 5
  | _ => 98
def ae_aast : Option ae_R := match S with
  | .ref x :: .int i :: .ref a :: r => (match ae_get H a with
    | some (.inl (t, n, .inr (.inr (.inr (.inr f))))) => (match Nat.ble 2 t && Nat.ble t 3, ae_isk H (ae_ek t) (.ref x) with
      | true, true => ae_ng (vp_in i n) (k + 1, L, r) (H.set a (.inl (t, n, .inr (.inr (.inr (.inr (va_up f i.toNatClampNeg (some x))))))))
      | _, _ => none)
    | _ => none)
  | _ => none
def ae_alen (P : ae_P) : Option ae_R := match S with
  | .ref a :: r => (match ae_get H a with
    | some (.inl (t, n, _)) => (match Nat.ble t 3 with | true => ae_nx (k + 1, L, .int (Int32.ofNat n) :: r) H | false => none)
    | _ => none)
  | .retAddr a :: r => (match ae_xa P a with
    | some (_, n, _) => ae_nx (k + 1, L, .int (Int32.ofNat n) :: r) H
    | none => none)
  | _ => none
def ae_new (ci : Nat) : Option ae_R := match Nat.blt ci 8 with
  | true => ae_nx (k + 1, L, .ref H.length :: S) (H ++ [.inr (ci, ae_dfl ci)])
  | false => none
def ae_newa (t : Nat) : Option ae_R := match S with
  | .int n :: r => ae_ng (¬ n < 0 ∧ n.toNatClampNeg ≤ 10000) (k + 1, L, .ref H.length :: r) (H ++ [.inl (t, n.toNatClampNeg, .inl (fun _ => 0))])
  | _ => none
def ae_newq (t : Nat) : Option ae_R := match S with
  | .int n :: r => ae_ng (¬ n < 0 ∧ n.toNatClampNeg ≤ 10000) (k + 1, L, .ref H.length :: r) (H ++ [.inl (t, n.toNatClampNeg, .inr (.inr (.inr (.inr (fun _ => none)))))])
  | _ => none
def ae_copy : Option ae_R := match S with
  | .int n :: .int dp :: .ref a :: .int sp :: .ref a0 :: r => (match ae_get H a0, ae_get H a, Nat.ble (ae_cat r) 8 with
    | some (.inl (0, n0, .inl f)), some (.inl (0, n1, .inl g)), true => ae_ng (¬ sp < 0 ∧ ¬ dp < 0 ∧ ¬ n < 0 ∧ sp.toNatClampNeg + n.toNatClampNeg ≤ n0 ∧ dp.toNatClampNeg + n.toNatClampNeg ≤ n1) (k + 1, L, r) (H.set a (.inl (0, n1, .inl (va_cpy f g sp.toNatClampNeg dp.toNatClampNeg n.toNatClampNeg))))
    | _, _, _ => none)
  | _ => none
def ae_mx (f : Int32 → Int32 → Int32) : Option ae_R := match S with
  | .int y :: .int x :: r => (match Nat.ble (ae_cat r) 8 with | true => ae_nx (k + 1, L, .int (f x y) :: r) H | false => none)
  | _ => none
/-- a call: what the method is, how many arguments with the receiver, its kind (50: none is asked) -/
def ae_call (m n kd : Nat) : Option ae_R := match Nat.ble n S.length, Nat.ble (ae_cat (S.drop n)) 8, Nat.beq kd 50 || (match (S.take n).reverse with | v :: _ => ae_isk H kd v | [] => false) with
  | true, true, true => some (.inr (.inr (m, (S.take n).reverse, (k + 1, L, S.drop n))))
  | _, _, _ => none
def ae_oin : Option ae_R := match S with
  | .ref _ :: r => (match Nat.ble (ae_cat r) 8 with | true => ae_nx (k + 1, L, r) H | false => none)
  | _ => none
def ae_iret (t : Nat) : Option ae_R := match S, t with
  | [.int v], 0 => some (.inr (.inl (True, some (.int v))))
  | [.int v], 1 => some (.inr (.inl (v = 0 ∨ v = 1, some (.int v))))
  | [.int v], 2 => some (.inr (.inl (narrow .char (.int v) = .int v, some (.int v))))
  | [.int v], 3 => some (.inr (.inl (narrow .byte (.int v) = .int v, some (.int v))))
  | _, _ => none
def ae_lret : Option ae_R := match S with
  | [.long v] => some (.inr (.inl (True, some (.long v))))
  | _ => none
def ae_aret : Option ae_R := match S with
  | [.ref v] => some (.inr (.inl (True, some (.ref v))))
  | [.retAddr v] => some (.inr (.inl (True, some (.retAddr v))))
  | [.null] => some (.inr (.inl (True, some .null)))
  | _ => none
def ae_vret : Option ae_R := match S with
  | [] => some (.inr (.inl (True, none)))
  | _ => none
end AEK
noncomputable def ae_mg (k : Nat) : Option ae_M := ae_get ae_mt k
/-- the kind that a call of a method asks of its receiver -/
noncomputable def ae_rk (m : Nat) : Nat := match ae_mg m with
  | some (_, _, _, _, o, _, st) => (match st with | true => 50 | false => ae_kd o)
  | none => 99
noncomputable def ae_step (P : ae_P) (i : ae_I) (k : Nat) (L : List (Option Value)) (S : List Value) (H : ae_H) : Option ae_R :=
  match i with
  | (_, ins, _, n1, n2, v, cs) => match ins with
    | .iconst _ => ae_nx (k + 1, L, v :: S) H
    | .bipush _ => ae_nx (k + 1, L, v :: S) H
    | .sipush _ => ae_nx (k + 1, L, v :: S) H
    | .lconst _ => ae_nx (k + 1, L, v :: S) H
    | .ldc _ => ae_nx (k + 1, L, v :: S) H
    | .ldc2_w _ => ae_nx (k + 1, L, v :: S) H
    | .aconst_null => ae_nx (k + 1, L, .null :: S) H
    | .iload_n _ => ae_ild k L S H n1
    | .iload _ => ae_ild k L S H n1
    | .lload_n _ => ae_lld k L S H n1
    | .lload _ => ae_lld k L S H n1
    | .aload_n _ => ae_ald k L S H n1
    | .aload _ => ae_ald k L S H n1
    | .istore_n _ => ae_ist k L S H n1
    | .istore _ => ae_ist k L S H n1
    | .lstore_n _ => ae_lst k L S H n1
    | .lstore _ => ae_lst k L S H n1
    | .astore_n _ => ae_ast k L S H n1
    | .astore _ => ae_ast k L S H n1
    | .iinc _ _ => ae_inc k L S H n1 v
    | .iadd => ae_bin k L S H (fun x y => x + y)
    | .isub => ae_bin k L S H (fun x y => x - y)
    | .imul => ae_bin k L S H (fun x y => x * y)
    | .iand => ae_bin k L S H (fun x y => x &&& y)
    | .ishr => ae_bin k L S H (fun x y => x >>> (y &&& 31))
    | .idiv => ae_div k L S H (fun x y => x / y)
    | .irem => ae_div k L S H (fun x y => x - x / y * y)
    | .ineg => ae_un k L S H (fun x => -x)
    | .i2b => ae_un k L S H (fun x => x.toInt8.toInt32)
    | .i2s => ae_un k L S H (fun x => x.toInt16.toInt32)
    | .i2c => ae_un k L S H (fun x => (x.toUInt32 % 65536).toInt32)
    | .ladd => ae_binL k L S H (fun x y => x + y)
    | .lsub => ae_binL k L S H (fun x y => x - y)
    | .lmul => ae_binL k L S H (fun x y => x * y)
    | .land => ae_binL k L S H (fun x y => x &&& y)
    | .lor => ae_binL k L S H (fun x y => x ||| y)
    | .ldiv => ae_divL k L S H (fun x y => x / y)
    | .lrem => ae_divL k L S H (fun x y => x - x / y * y)
    | .lshl => ae_shL k L S H (fun x y => x <<< (y.toInt64 &&& 63))
    | .lshr => ae_shL k L S H (fun x y => x >>> (y.toInt64 &&& 63))
    | .lushr => ae_shL k L S H (fun x y => (x.toUInt64 >>> (y.toInt64.toUInt64 &&& Int64.toUInt64 63)).toInt64)
    | .i2l => ae_i2l k L S H
    | .l2i => ae_l2i k L S H
    | .lcmp => ae_lcmp k L S H
    | .dup => ae_dup k L S H
    | .dup2 => ae_dup2 k L S H
    | .pop => ae_pop k L S H
    | .goto _ => ae_nx (n1, L, S) H
    | .ifCond .eq _ => ae_if1 k L S H (fun x => x = 0) n1
    | .ifCond .ne _ => ae_if1 k L S H (fun x => ¬ x = 0) n1
    | .ifCond .lt _ => ae_if1 k L S H (fun x => x < 0) n1
    | .ifCond .ge _ => ae_if1 k L S H (fun x => 0 ≤ x) n1
    | .ifCond .gt _ => ae_if1 k L S H (fun x => 0 < x) n1
    | .ifCond .le _ => ae_if1 k L S H (fun x => x ≤ 0) n1
    | .if_icmp .eq _ => ae_if2 k L S H (fun x y => x = y) n1
    | .if_icmp .ne _ => ae_if2 k L S H (fun x y => ¬ x = y) n1
    | .if_icmp .lt _ => ae_if2 k L S H (fun x y => x < y) n1
    | .if_icmp .ge _ => ae_if2 k L S H (fun x y => y ≤ x) n1
    | .if_icmp .gt _ => ae_if2 k L S H (fun x y => y < x) n1
    | .if_icmp .le _ => ae_if2 k L S H (fun x y => x ≤ y) n1
    | .ifnull _ => ae_ifn L S H n1 (k + 1)
    | .ifnonnull _ => ae_ifn L S H (k + 1) n1
    | .tableswitch _ _ _ _ => ae_swi L S H n1 cs
    | .lookupswitch _ _ => ae_swi L S H n1 cs
    | .getfield _ => ae_gf k L S H n1 n2
    | .putfield _ => ae_pf k L S H n1 n2
    | .getstatic _ => ae_gs k L S H P n1
    | .iaload => ae_iald k L S H P 0
    | .baload => ae_iald k L S H P 1
    | .iastore => ae_iast k L S H
    | .bastore => ae_bast k L S H
    | .aaload => ae_aald k L S H
    | .aastore => ae_aast k L S H
    | .arraylength => ae_alen k L S H P
    | .new _ => ae_new k L S H n1
    | .newarray _ => ae_newa k L S H n1
    | .anewarray _ => ae_newq k L S H n1
    | .invokespecial _ => (match Nat.beq n1 1000 with | true => ae_oin k L S H | false => ae_call k L S H n1 n2 (ae_rk n1))
    | .invokestatic _ => (match Nat.beq n1 1001, Nat.beq n1 1002, Nat.beq n1 1003 with
      | true, _, _ => ae_copy k L S H
      | _, true, _ => ae_mx k L S H (fun x y => if x < y then y else x)
      | _, _, true => ae_mx k L S H (fun x y => if y < x then y else x)
      | _, _, _ => ae_call k L S H n1 n2 (ae_rk n1))
    | .invokevirtual _ => ae_call k L S H n1 n2 (ae_rk n1)
    | .ireturn => ae_iret S n1
    | .lreturn => ae_lret S
    | .areturn => ae_aret S
    | .return_ => ae_vret S
    | _ => none
/-- a frame's run to its end; C: what a call does -/
abbrev ae_C : Type := Nat → List Value → ae_H → Option Value → ae_H → Prop
def ae_back (st : ae_S) (r : Option Value) : ae_S := (st.1, st.2.1, r.toList ++ st.2.2)
noncomputable def ae_runN (P : ae_P) (C : ae_C) (cd : List ae_I) (r : Option Value) (H' : ae_H) : Nat → ae_S → ae_H → Prop
  | 0, _, _ => False
  | n + 1, st, H => ∃ i, ae_get cd st.1 = some i ∧ ∃ R, ae_step P i st.1 st.2.1 st.2.2 H = some R ∧ (match R with
    | .inl (G, st', H1) => G ∧ ae_runN P C cd r H' n st' H1
    | .inr (.inl (G, v)) => G ∧ v = r ∧ H = H'
    | .inr (.inr (m, as, st')) => ∃ r1 H1, C m as H r1 H1 ∧ ae_runN P C cd r H' n (ae_back st' r1) H1)
/-- a method's first locals -/
def ae_ent : List Value → List (Option Value)
  | [] => []
  | .long x :: vs => some (.long x) :: none :: ae_ent vs
  | .double x :: vs => some (.double x) :: none :: ae_ent vs
  | v :: vs => some v :: ae_ent vs
def ae_pad (n : Nat) (l : List (Option Value)) : List (Option Value) := l ++ List.replicate (n - l.length) none
noncomputable def ae_cd (m : Nat) : List ae_I := match ae_get ae_cds m with
  | some c => c
  | none => []
noncomputable def ae_ml (m : Nat) : Nat := match ae_mg m with
  | some (_, _, n, _) => n
  | none => 0
/-- a method's run, calls at most d deep below it -/
noncomputable def ae_ev (P : ae_P) : Nat → ae_C
  | 0, _, _, _, _, _ => False
  | d + 1, m, as, H, r, H' => ∃ n, ae_runN P (ae_ev P d) (ae_cd m) r H' n (0, ae_pad (ae_ml m) (ae_ent as), []) H
