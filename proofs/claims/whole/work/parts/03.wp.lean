/-! THE SMALL MACHINE: values as whole numbers, memory as a function of a cell's number and a slot's; conditions for a stretch of code, computed (ab_wp) -/
abbrev ab_V : Type := Unit ⊕ Int ⊕ Int ⊕ (Nat × Nat × Nat)
abbrev ab_M : Type := Nat → Nat → Int
abbrev ab_E : Type := Nat × va_G × (Nat → ClassId)
abbrev Xn : ab_V := .inl ()
abbrev Xi (z : Int) : ab_V := .inr (.inl z)
abbrev Xl (z : Int) : ab_V := .inr (.inr (.inl z))
abbrev Xr (o c n : Nat) : ab_V := .inr (.inr (.inr (o, c, n)))
def ab_cv (S : Nat) : ab_V → Value
  | .inl _ => .null
  | .inr (.inl z) => .int (Int32.ofInt z)
  | .inr (.inr (.inl z)) => .long (Int64.ofInt z)
  | .inr (.inr (.inr (o, _, _))) => .ref (S + o)
def ab_rf (S : Nat) (z : Int) : Option Nat := if z < 0 then none else some (S + z.toNat)
def ab_fv (S t : Nat) (z : Int) : Value := if t < 2 then .int (Int32.ofInt z) else va_rf (ab_rf S z)
def ab_ent (E : ab_E) (M : ab_M) (o : Nat) : va_E :=
  if ab_kd o < 20 then .inr (ab_kd o, (List.range (ab_nf (ab_kd o))).map fun k => ab_fv E.1 (ab_ft (ab_kd o) k).1 (M o k))
  else if ab_kd o = 21 then .inl (E.2.2 (ab_kd o), ab_ln o, .inr (.inl fun j => Int64.ofInt (M o j)))
  else if ab_kd o = 25 ∨ ab_kd o = 26 then .inl (E.2.2 (ab_kd o), ab_ln o, .inr (.inr (.inr (.inr fun j => ab_rf E.1 (M o j)))))
  else .inl (E.2.2 (ab_kd o), ab_ln o, .inl fun j => Int32.ofInt (M o j))
def ab_W (E : ab_E) (n : Nat) (M : ab_M) : va_W := (List.range n).map fun o => (E.1 + o, ab_ent E M o)
abbrev ab_tys (cy : Nat → ClassId) : List (ClassId × FieldType) := [(cy 20, .int), (cy 21, .long), (cy 22, .byte), (cy 23, .boolean), (cy 24, .char), (cy 25, .object RX4), (cy 26, .object RX6)]
def ab_up (M : ab_M) (o k : Nat) (v : Int) : ab_M := fun o' k' => bif (Nat.beq o' o && Nat.beq k' k) then v else M o' k'
def ab_cpy (M : ab_M) (a : Nat) (sp : Int) (b : Nat) (dp n : Int) : ab_M := fun o k => bif (Nat.beq o b && (Nat.ble dp.toNat k && Nat.blt k (dp.toNat + n.toNat))) then M a (sp.toNat + (k - dp.toNat)) else M o k
/-- the references that never change hold what the layout says -/
def ab_wd (M : ab_M) : Prop := (∀ o k, o < ab_n → (ab_ft (ab_kd o) k).1 = 2 → M o k = ((ab_ft (ab_kd o) k).2.1 : Int)) ∧ (∀ o k, o < ab_n → ((ab_ft (ab_kd o) k).1 = 4 ∨ (ab_ft (ab_kd o) k).1 = 5) → M o k = ((o + (ab_ft (ab_kd o) k).2.1 : Nat) : Int)) ∧ ∀ o i, o < ab_n → ab_kd o = 25 → i < ab_ln o → M o i = ((o + 1 + 3 * i : Nat) : Int)
/-- a reference is what it says -/
def ab_wf : ab_V → Prop
  | .inr (.inr (.inr (o, c, n))) => o < ab_n ∧ ab_kd o = c ∧ ab_ln o = n
  | _ => True
abbrev ab_ir (z : Int) : Prop := -2147483648 ≤ z ∧ z < 2147483648
abbrev ab_lr (z : Int) : Prop := -9223372036854775808 ≤ z ∧ z < 9223372036854775808
def ab_and (a b : Int) : Int := (Int32.ofInt a &&& Int32.ofInt b).toInt
def ab_or (a b : Int) : Int := (Int32.ofInt a ||| Int32.ofInt b).toInt
def ab_xor (a b : Int) : Int := (Int32.ofInt a ^^^ Int32.ofInt b).toInt
def ab_shl (a b : Int) : Int := (Int32.ofInt a <<< (Int32.ofInt b &&& 31)).toInt
def ab_shr (a b : Int) : Int := (Int32.ofInt a >>> (Int32.ofInt b &&& 31)).toInt
def ab_ushr (a b : Int) : Int := ((Int32.ofInt a).toUInt32 >>> ((Int32.ofInt b).toUInt32 &&& Int32.toUInt32 31)).toInt32.toInt
def ab_land (a b : Int) : Int := (Int64.ofInt a &&& Int64.ofInt b).toInt
def ab_lor (a b : Int) : Int := (Int64.ofInt a ||| Int64.ofInt b).toInt
def ab_lxor (a b : Int) : Int := (Int64.ofInt a ^^^ Int64.ofInt b).toInt
def ab_lshl (a b : Int) : Int := (Int64.ofInt a <<< ((Int32.ofInt b).toInt64 &&& 63)).toInt
def ab_lshr (a b : Int) : Int := (Int64.ofInt a >>> ((Int32.ofInt b).toInt64 &&& 63)).toInt
def ab_lushr (a b : Int) : Int := ((Int64.ofInt a).toUInt64 >>> ((Int32.ofInt b).toInt64.toUInt64 &&& Int64.toUInt64 63)).toInt64.toInt
def ab_ld (L : List ab_V) (i : Nat) : ab_V := match L, i with
  | [], _ => .inl ()
  | v :: _, 0 => v
  | _ :: t, j + 1 => ab_ld t j
def ab_pu (L : List ab_V) (i : Nat) (v : ab_V) : List ab_V := match L, i with
  | [], _ => []
  | _ :: t, 0 => v :: t
  | w :: t, j + 1 => w :: ab_pu t j v
/-- a store: a long that reaches into the place goes -/
def ab_s1 (L : List ab_V) (i : Nat) (v : ab_V) : List ab_V := match i with
  | 0 => ab_pu L 0 v
  | j + 1 => match ab_ld L j with
    | .inr (.inr (.inl _)) => ab_pu (ab_pu L j (.inl ())) (j + 1) v
    | _ => ab_pu L (j + 1) v
def ab_s2 (L : List ab_V) (i : Nat) (v : ab_V) : List ab_V := ab_pu (ab_s1 L i v) (i + 1) (.inl ())
abbrev ab_K : Type := List ab_V → List ab_V → ab_M → Prop
/-- an instruction that goes on to the next -/
def ab_st (I : Instr) (r : Int × Nat × Nat × Nat × Nat) (L st : List ab_V) (M : ab_M) (K : ab_K) : Prop :=
  match I with
  | .iconst v => K L (.inr (.inl v) :: st) M
  | .bipush v => (-128 ≤ v ∧ v < 128) ∧ K L (.inr (.inl v) :: st) M
  | .sipush v => (-32768 ≤ v ∧ v < 32768) ∧ K L (.inr (.inl v) :: st) M
  | .lconst v => K L (.inr (.inr (.inl ((v : Nat) : Int))) :: st) M
  | .ldc _ => K L (.inr (.inl r.1) :: st) M
  | .ldc_w _ => K L (.inr (.inl r.1) :: st) M
  | .ldc2_w _ => K L (.inr (.inr (.inl r.1)) :: st) M
  | .iload i => match ab_ld L i with | .inr (.inl z) => K L (.inr (.inl z) :: st) M | _ => False
  | .iload_n i => match ab_ld L i with | .inr (.inl z) => K L (.inr (.inl z) :: st) M | _ => False
  | .lload i => match ab_ld L i with | .inr (.inr (.inl z)) => K L (.inr (.inr (.inl z)) :: st) M | _ => False
  | .lload_n i => match ab_ld L i with | .inr (.inr (.inl z)) => K L (.inr (.inr (.inl z)) :: st) M | _ => False
  | .aload i => match ab_ld L i with | .inr (.inr (.inr a)) => K L (.inr (.inr (.inr a)) :: st) M | _ => False
  | .aload_n i => match ab_ld L i with | .inr (.inr (.inr a)) => K L (.inr (.inr (.inr a)) :: st) M | _ => False
  | .istore i => match st with | .inr (.inl z) :: st => bif Nat.ble (i + 1) L.length then K (ab_s1 L i (.inr (.inl z))) st M else False | _ => False
  | .istore_n i => match st with | .inr (.inl z) :: st => bif Nat.ble (i + 1) L.length then K (ab_s1 L i (.inr (.inl z))) st M else False | _ => False
  | .lstore i => match st with | .inr (.inr (.inl z)) :: st => bif Nat.ble (i + 2) L.length then K (ab_s2 L i (.inr (.inr (.inl z)))) st M else False | _ => False
  | .lstore_n i => match st with | .inr (.inr (.inl z)) :: st => bif Nat.ble (i + 2) L.length then K (ab_s2 L i (.inr (.inr (.inl z)))) st M else False | _ => False
  | .astore i => match st with | .inr (.inr (.inr a)) :: st => bif Nat.ble (i + 1) L.length then K (ab_s1 L i (.inr (.inr (.inr a)))) st M else False | _ => False
  | .astore_n i => match st with | .inr (.inr (.inr a)) :: st => bif Nat.ble (i + 1) L.length then K (ab_s1 L i (.inr (.inr (.inr a)))) st M else False | _ => False
  | .iinc i d => match ab_ld L i with | .inr (.inl z) => K (ab_s1 L i (.inr (.inl (z + d)))) st M | _ => False
  | .iadd => match st with | .inr (.inl b) :: .inr (.inl a) :: st => K L (.inr (.inl (a + b)) :: st) M | _ => False
  | .isub => match st with | .inr (.inl b) :: .inr (.inl a) :: st => K L (.inr (.inl (a - b)) :: st) M | _ => False
  | .imul => match st with | .inr (.inl b) :: .inr (.inl a) :: st => K L (.inr (.inl (a * b)) :: st) M | _ => False
  | .idiv => match st with | .inr (.inl b) :: .inr (.inl a) :: st => (0 ≤ a ∧ a < 2147483648 ∧ 0 < b ∧ b < 2147483648) ∧ K L (.inr (.inl (a / b)) :: st) M | _ => False
  | .irem => match st with | .inr (.inl b) :: .inr (.inl a) :: st => (0 ≤ a ∧ a < 2147483648 ∧ 0 < b ∧ b < 2147483648) ∧ K L (.inr (.inl (a % b)) :: st) M | _ => False
  | .iand => match st with | .inr (.inl b) :: .inr (.inl a) :: st => K L (.inr (.inl (ab_and a b)) :: st) M | _ => False
  | .ior => match st with | .inr (.inl b) :: .inr (.inl a) :: st => K L (.inr (.inl (ab_or a b)) :: st) M | _ => False
  | .ixor => match st with | .inr (.inl b) :: .inr (.inl a) :: st => K L (.inr (.inl (ab_xor a b)) :: st) M | _ => False
  | .ishl => match st with | .inr (.inl b) :: .inr (.inl a) :: st => K L (.inr (.inl (ab_shl a b)) :: st) M | _ => False
  | .ishr => match st with | .inr (.inl b) :: .inr (.inl a) :: st => K L (.inr (.inl (ab_shr a b)) :: st) M | _ => False
  | .iushr => match st with | .inr (.inl b) :: .inr (.inl a) :: st => K L (.inr (.inl (ab_ushr a b)) :: st) M | _ => False
  | .ladd => match st with | .inr (.inr (.inl b)) :: .inr (.inr (.inl a)) :: st => K L (.inr (.inr (.inl (a + b))) :: st) M | _ => False
  | .lsub => match st with | .inr (.inr (.inl b)) :: .inr (.inr (.inl a)) :: st => K L (.inr (.inr (.inl (a - b))) :: st) M | _ => False
  | .lmul => match st with | .inr (.inr (.inl b)) :: .inr (.inr (.inl a)) :: st => K L (.inr (.inr (.inl (a * b))) :: st) M | _ => False
  | .land => match st with | .inr (.inr (.inl b)) :: .inr (.inr (.inl a)) :: st => K L (.inr (.inr (.inl (ab_land a b))) :: st) M | _ => False
  | .lor => match st with | .inr (.inr (.inl b)) :: .inr (.inr (.inl a)) :: st => K L (.inr (.inr (.inl (ab_lor a b))) :: st) M | _ => False
  | .lxor => match st with | .inr (.inr (.inl b)) :: .inr (.inr (.inl a)) :: st => K L (.inr (.inr (.inl (ab_lxor a b))) :: st) M | _ => False
  | .lshl => match st with | .inr (.inl b) :: .inr (.inr (.inl a)) :: st => K L (.inr (.inr (.inl (ab_lshl a b))) :: st) M | _ => False
  | .lshr => match st with | .inr (.inl b) :: .inr (.inr (.inl a)) :: st => K L (.inr (.inr (.inl (ab_lshr a b))) :: st) M | _ => False
  | .lushr => match st with | .inr (.inl b) :: .inr (.inr (.inl a)) :: st => K L (.inr (.inr (.inl (ab_lushr a b))) :: st) M | _ => False
  | .lcmp => match st with | .inr (.inr (.inl b)) :: .inr (.inr (.inl a)) :: st => (a = b ∨ (ab_lr a ∧ ab_lr b)) ∧ K L (.inr (.inl (if b < a then 1 else if a = b then 0 else -1)) :: st) M | _ => False
  | .i2l => match st with | .inr (.inl a) :: st => ab_ir a ∧ K L (.inr (.inr (.inl a)) :: st) M | _ => False
  | .l2i => match st with | .inr (.inr (.inl a)) :: st => K L (.inr (.inl a) :: st) M | _ => False
  | .i2b => match st with | .inr (.inl a) :: st => (-128 ≤ a ∧ a < 128) ∧ K L (.inr (.inl a) :: st) M | _ => False
  | .i2c => match st with | .inr (.inl a) :: st => (0 ≤ a ∧ a < 65536) ∧ K L (.inr (.inl a) :: st) M | _ => False
  | .dup => match st with
    | .inr (.inl a) :: st => K L (.inr (.inl a) :: .inr (.inl a) :: st) M
    | .inr (.inr (.inr a)) :: st => K L (.inr (.inr (.inr a)) :: .inr (.inr (.inr a)) :: st) M
    | _ => False
  | .dup2 => match st with
    | .inr (.inl b) :: .inr (.inr (.inr a)) :: st => K L (.inr (.inl b) :: .inr (.inr (.inr a)) :: .inr (.inl b) :: .inr (.inr (.inr a)) :: st) M
    | _ => False
  | .pop => match st with
    | .inr (.inl _) :: st => K L st M
    | .inr (.inr (.inr _)) :: st => K L st M
    | _ => False
  | .pop2 => match st with
    | .inr (.inr (.inl _)) :: st => K L st M
    | _ => False
  | .getfield _ => match st with
    | .inr (.inr (.inr (o, c, _))) :: st => bif Nat.beq c r.2.2.1 then (match ab_ft r.2.2.1 r.2.2.2.1 with
      | (0, _, _, _) => K L (.inr (.inl (M o r.2.2.2.1)) :: st) M
      | (1, _, _, _) => K L (.inr (.inl (M o r.2.2.2.1)) :: st) M
      | (2, d, c', n') => K L (.inr (.inr (.inr (d, c', n'))) :: st) M
      | (3, _, c', n') => (0 ≤ M o r.2.2.2.1 ∧ ab_wf (.inr (.inr (.inr ((M o r.2.2.2.1).toNat, c', n'))))) ∧ K L (.inr (.inr (.inr ((M o r.2.2.2.1).toNat, c', n'))) :: st) M
      | (4, d, c', _) => K L (.inr (.inr (.inr (o + d, c', ab_ln (o + d)))) :: st) M
      | (5, d, c', n') => K L (.inr (.inr (.inr (o + d, c', n'))) :: st) M
      | _ => False) else False
    | _ => False
  | .putfield _ => match st with
    | .inr (.inl z) :: .inr (.inr (.inr (o, c, _))) :: st => bif Nat.beq c r.2.2.1 then (match ab_ft r.2.2.1 r.2.2.2.1 with
      | (0, _, _, _) => K L st (ab_up M o r.2.2.2.1 z)
      | (1, _, _, _) => (z = 0 ∨ z = 1) ∧ K L st (ab_up M o r.2.2.2.1 z)
      | _ => False) else False
    | .inr (.inr (.inr (o', c', _))) :: .inr (.inr (.inr (o, c, _))) :: st => bif Nat.beq c r.2.2.1 then (match ab_ft r.2.2.1 r.2.2.2.1 with
      | (3, _, c2, _) => bif Nat.beq c' c2 then K L st (ab_up M o r.2.2.2.1 (o' : Int)) else False
      | _ => False) else False
    | _ => False
  | .arraylength => match st with
    | .inr (.inr (.inr (_, c, n))) :: st => bif Nat.ble 20 c then K L (.inr (.inl (n : Int)) :: st) M else False
    | _ => False
  | .iaload => match st with
    | .inr (.inl i) :: .inr (.inr (.inr (o, c, n))) :: st => bif Nat.beq c 20 then (0 ≤ i ∧ i < (n : Int)) ∧ K L (.inr (.inl (M o i.toNat)) :: st) M else False
    | _ => False
  | .laload => match st with
    | .inr (.inl i) :: .inr (.inr (.inr (o, c, n))) :: st => bif Nat.beq c 21 then (0 ≤ i ∧ i < (n : Int)) ∧ K L (.inr (.inr (.inl (M o i.toNat))) :: st) M else False
    | _ => False
  | .baload => match st with
    | .inr (.inl i) :: .inr (.inr (.inr (o, c, n))) :: st => bif (Nat.beq c 22 || Nat.beq c 23) then (0 ≤ i ∧ i < (n : Int)) ∧ K L (.inr (.inl (M o i.toNat)) :: st) M else False
    | _ => False
  | .caload => match st with
    | .inr (.inl i) :: .inr (.inr (.inr (o, c, n))) :: st => bif Nat.beq c 24 then (0 ≤ i ∧ i < (n : Int)) ∧ K L (.inr (.inl (M o i.toNat)) :: st) M else False
    | _ => False
  | .aaload => match st with
    | .inr (.inl i) :: .inr (.inr (.inr (o, c, n))) :: st => bif Nat.beq c 25 then (0 ≤ i ∧ i < (n : Int)) ∧ K L (.inr (.inr (.inr (o + 1 + 3 * i.toNat, 4, 0))) :: st) M
        else bif Nat.beq c 26 then ((0 ≤ i ∧ i < (n : Int)) ∧ 0 ≤ M o i.toNat ∧ ab_wf (.inr (.inr (.inr ((M o i.toNat).toNat, 6, 0))))) ∧ K L (.inr (.inr (.inr ((M o i.toNat).toNat, 6, 0))) :: st) M else False
    | _ => False
  | .iastore => match st with
    | .inr (.inl z) :: .inr (.inl i) :: .inr (.inr (.inr (o, c, n))) :: st => bif Nat.beq c 20 then (0 ≤ i ∧ i < (n : Int)) ∧ K L st (ab_up M o i.toNat z) else False
    | _ => False
  | .lastore => match st with
    | .inr (.inr (.inl z)) :: .inr (.inl i) :: .inr (.inr (.inr (o, c, n))) :: st => bif Nat.beq c 21 then (0 ≤ i ∧ i < (n : Int)) ∧ K L st (ab_up M o i.toNat z) else False
    | _ => False
  | .bastore => match st with
    | .inr (.inl z) :: .inr (.inl i) :: .inr (.inr (.inr (o, c, n))) :: st => bif Nat.beq c 22 then ((0 ≤ i ∧ i < (n : Int)) ∧ -128 ≤ z ∧ z < 128) ∧ K L st (ab_up M o i.toNat z)
        else bif Nat.beq c 23 then ((0 ≤ i ∧ i < (n : Int)) ∧ (z = 0 ∨ z = 1)) ∧ K L st (ab_up M o i.toNat z) else False
    | _ => False
  | .castore => match st with
    | .inr (.inl z) :: .inr (.inl i) :: .inr (.inr (.inr (o, c, n))) :: st => bif Nat.beq c 24 then ((0 ≤ i ∧ i < (n : Int)) ∧ 0 ≤ z ∧ z < 65536) ∧ K L st (ab_up M o i.toNat z) else False
    | _ => False
  | .aastore => match st with
    | .inr (.inr (.inr (o', c', _))) :: .inr (.inl i) :: .inr (.inr (.inr (o, c, n))) :: st => bif (Nat.beq c 26 && Nat.beq c' 6) then (0 ≤ i ∧ i < (n : Int)) ∧ K L st (ab_up M o i.toNat (o' : Int)) else False
    | _ => False
  | _ => False
abbrev ab_PT : Type := List ab_V → ab_M → (List ab_V → ab_M → Prop) → Prop
def ab_seek : List ab_T → Nat → List ab_T
  | [], _ => []
  | e :: t, pc => bif Nat.beq e.1 pc then e :: t else ab_seek t pc
def ab_isc : List Nat → Nat → Bool
  | [], _ => false
  | a :: t, pc => Nat.beq a pc || ab_isc t pc
def ab_find : List (Nat × ab_PT) → Nat → ab_PT
  | [], _ => fun _ _ _ => False
  | a :: t, i => bif Nat.beq a.1 i then a.2 else ab_find t i
def ab_cat : List ab_V → Nat
  | [] => 0
  | .inr (.inr (.inl _)) :: t => ab_cat t + 2
  | _ :: t => ab_cat t + 1
def ab_sw (x : Int) (d : Nat) (J : Nat → Prop) : List (Int × Nat) → Prop
  | [] => J d
  | a :: t => (x = a.1 → J a.2) ∧ (¬ x = a.1 → ab_sw x d J t)
def ab_rel (c : Jvm.ClassFile.Cond) (a b : Int) (A B : Prop) : Prop :=
  match c with
  | .eq => (a = b → A) ∧ (¬ a = b → B)
  | .ne => (¬ a = b → A) ∧ (a = b → B)
  | .lt => (a < b → A) ∧ (b ≤ a → B)
  | .ge => (b ≤ a → A) ∧ (a < b → B)
  | .gt => (b < a → A) ∧ (a ≤ b → B)
  | .le => (a ≤ b → A) ∧ (b < a → B)
/-- a call: the arguments, what lies below them -/
def ab_ca (G : List (Nat × ab_PT)) (r : Int × Nat × Nat × Nat × Nat) (k : Nat) (st : List ab_V) (M : ab_M) (K : List ab_V → ab_M → Prop) : Prop :=
  bif Nat.beq (st.take k).length k && Nat.ble (ab_cat (st.drop k)) 8 then ab_find G r.2.2.1 (st.take k).reverse M (fun rv M' => K (rv ++ st.drop k) M') else False
/-- what must hold at a row of code, so that the walk comes to a cut place with C, or to the end with R; rt: 0 void, 1 int, 2 boolean, 3 long, 4 a reference -/
def ab_wp (rt : Nat) (cuts : List Nat) (G : List (Nat × ab_PT)) (tb : List ab_T) (C : Nat → ab_K) (R : List ab_V → ab_M → Prop) : Nat → Bool → List ab_T → List ab_V → List ab_V → ab_M → Prop
  | 0, _, _, _, _, _ => False
  | _ + 1, _, [], _, _, _ => False
  | n + 1, f, e :: rest, L, st, M =>
    bif (f && ab_isc cuts e.1) then C e.1 L st M else
    match e.2.1 with
    | .goto _ => ab_wp rt cuts G tb C R n true (ab_seek tb e.2.2.2.1.2.1) L st M
    | .ifCond c _ => match st with
      | .inr (.inl a) :: st => ab_ir a ∧ ab_rel c a 0 (ab_wp rt cuts G tb C R n true (ab_seek tb e.2.2.2.1.2.1) L st M) (ab_wp rt cuts G tb C R n true rest L st M)
      | _ => False
    | .if_icmp c _ => match st with
      | .inr (.inl b) :: .inr (.inl a) :: st => (ab_ir a ∧ ab_ir b) ∧ ab_rel c a b (ab_wp rt cuts G tb C R n true (ab_seek tb e.2.2.2.1.2.1) L st M) (ab_wp rt cuts G tb C R n true rest L st M)
      | _ => False
    | .if_acmp c _ => match c, st with
      | .eq, .inr (.inr (.inr (b, _))) :: .inr (.inr (.inr (a, _))) :: st => (a = b → ab_wp rt cuts G tb C R n true (ab_seek tb e.2.2.2.1.2.1) L st M) ∧ (¬ a = b → ab_wp rt cuts G tb C R n true rest L st M)
      | _, _ => False
    | .tableswitch _ _ _ _ => match st with
      | .inr (.inl x) :: st => ab_ir x ∧ ab_sw x e.2.2.2.1.2.1 (fun t => ab_wp rt cuts G tb C R n true (ab_seek tb t) L st M) e.2.2.2.2
      | _ => False
    | .lookupswitch _ _ => match st with
      | .inr (.inl x) :: st => ab_ir x ∧ ab_sw x e.2.2.2.1.2.1 (fun t => ab_wp rt cuts G tb C R n true (ab_seek tb t) L st M) e.2.2.2.2
      | _ => False
    | .ireturn => match rt, st with
      | 1, [.inr (.inl z)] => R [.inr (.inl z)] M
      | 2, [.inr (.inl z)] => (z = 0 ∨ z = 1) ∧ R [.inr (.inl z)] M
      | _, _ => False
    | .lreturn => match rt, st with
      | 3, [.inr (.inr (.inl z))] => R [.inr (.inr (.inl z))] M
      | _, _ => False
    | .areturn => match rt, st with
      | 4, [.inr (.inr (.inr a))] => R [.inr (.inr (.inr a))] M
      | _, _ => False
    | .return_ => match rt, st with
      | 0, [] => R [] M
      | _, _ => False
    | .invokevirtual _ => match (st.take (e.2.2.2.1.2.2.2.1 + 1)).reverse with
      | .inr (.inr (.inr (_, c, _))) :: _ => bif Nat.beq c e.2.2.2.1.1.toNat then ab_ca G e.2.2.2.1 (e.2.2.2.1.2.2.2.1 + 1) st M (fun st' M' => ab_wp rt cuts G tb C R n true rest L st' M') else False
      | _ => False
    | .invokestatic _ => match e.2.2.2.1.2.1, st with
      | 2, st => ab_ca G e.2.2.2.1 e.2.2.2.1.2.2.2.1 st M (fun st' M' => ab_wp rt cuts G tb C R n true rest L st' M')
      | 3, st => ab_ca G e.2.2.2.1 e.2.2.2.1.2.2.2.1 st M (fun st' M' => ab_wp rt cuts G tb C R n true rest L st' M')
      | 9, .inr (.inl n') :: .inr (.inl dp) :: .inr (.inr (.inr (b, cb, nb))) :: .inr (.inl sp) :: .inr (.inr (.inr (a, ca, na))) :: st =>
        bif Nat.beq ca cb && (Nat.beq ca 20 || Nat.beq ca 24) && Nat.ble (ab_cat st) 8 then ((0 ≤ sp ∧ 0 ≤ dp ∧ 0 ≤ n' ∧ sp + n' ≤ (na : Int) ∧ dp + n' ≤ (nb : Int)) ∧ (ca = 24 → ∀ i : Nat, (i : Int) < n' → 0 ≤ M a (sp.toNat + i) ∧ M a (sp.toNat + i) < 65536)) ∧ ab_wp rt cuts G tb C R n true rest L st (ab_cpy M a sp b dp n') else False
      | 10, .inr (.inl y) :: .inr (.inl x) :: st => bif Nat.ble (ab_cat st) 8 then (ab_ir x ∧ ab_ir y) ∧ ab_wp rt cuts G tb C R n true rest L (.inr (.inl (if x < y then y else x)) :: st) M else False
      | 11, .inr (.inl y) :: .inr (.inl x) :: st => bif Nat.ble (ab_cat st) 8 then (ab_ir x ∧ ab_ir y) ∧ ab_wp rt cuts G tb C R n true rest L (.inr (.inl (if y < x then y else x)) :: st) M else False
      | _, _ => False
    | I => ab_st I e.2.2.2.1 L st M (fun L' st' M' => ab_wp rt cuts G tb C R n true rest L' st' M')
