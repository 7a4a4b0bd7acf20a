/-! THE ABSTRACT MACHINE: bytecode over whole numbers and numbered cells, as a transformer of predicates -/
abbrev am_V : Type := Int ⊕ Int ⊕ (Int × Int) ⊕ Option Nat ⊕ Nat
abbrev am_I (x : Int) : am_V := Sum.inl x
abbrev am_L (x : Int) : am_V := Sum.inr (Sum.inl x)
abbrev am_C (x y : Int) : am_V := Sum.inr (Sum.inr (Sum.inl (x, y)))
abbrev am_R (k : Nat) : am_V := Sum.inr (Sum.inr (Sum.inr (Sum.inl (some k))))
abbrev am_N : am_V := Sum.inr (Sum.inr (Sum.inr (Sum.inl none)))
abbrev am_O (j : Nat) : am_V := Sum.inr (Sum.inr (Sum.inr (Sum.inr j)))
abbrev am_H : Type := List am_K × (Nat → Int → Int) × (Nat → Int → Int)
abbrev am_S : Type := Nat × List (Option am_V) × List am_V × am_H × Nat × Nat
abbrev am_r (x : Int) : Prop := -2147483648 ≤ x ∧ x < 2147483648
abbrev am_rl (x : Int) : Prop := -9223372036854775808 ≤ x ∧ x < 9223372036854775808
def am_w (x : Int) : Int := (Int32.ofInt x).toInt
def am_wl (x : Int) : Int := (Int64.ofInt x).toInt
def am_and (a b : Int) : Int := (Int32.ofInt a &&& Int32.ofInt b).toInt
def am_or (a b : Int) : Int := (Int32.ofInt a ||| Int32.ofInt b).toInt
def am_xor (a b : Int) : Int := (Int32.ofInt a ^^^ Int32.ofInt b).toInt
def am_shl (a b : Int) : Int := (Int32.ofInt a <<< (Int32.ofInt b &&& 31)).toInt
def am_shr (a b : Int) : Int := (Int32.ofInt a >>> (Int32.ofInt b &&& 31)).toInt
def am_ushr (a b : Int) : Int := ((Int32.ofInt a).toUInt32 >>> ((Int32.ofInt b).toUInt32 &&& Int32.toUInt32 31)).toInt32.toInt
def am_lor (a b : Int) : Int := (Int64.ofInt a ||| Int64.ofInt b).toInt
def am_lshl (a b : Int) : Int := (Int64.ofInt a <<< ((Int32.ofInt b).toInt64 &&& 63)).toInt
def am_up (I : Nat → Int → Int) (k : Nat) (i v : Int) : Nat → Int → Int := fun k' i' => if k' = k then (if i' = i then v else I k i') else I k' i'
def am_z (I : Nat → Int → Int) (k : Nat) : Nat → Int → Int := fun k' i' => if k' = k then 0 else I k' i'
def am_cp (I : Nat → Int → Int) (a0 a : Nat) (sp dp n : Int) : Nat → Int → Int := fun k i => if k = a then (if dp ≤ i ∧ i < dp + n then I a0 (sp + (i - dp)) else I a i) else I k i
def am_nth {α : Type} : List α → Nat → Option α
  | [], _ => none
  | a :: _, 0 => some a
  | _ :: l, n + 1 => am_nth l n
def am_mx (n : Nat) : Nat := (am_nth am_mxs n).getD 0
def am_al (n : Nat) : Nat × Nat := (am_nth am_als n).getD (0, 0)
def am_ix (f : Int → Int) (c : Int) : Nat → Int → Int
  | 0, _ => -1
  | n + 1, k => if f k = c then k else am_ix f c n (k + 1)
def am_at : List (Nat × am_E) → Nat → Option am_E
  | [], _ => none
  | (p, e) :: r, pc => match Nat.beq p pc with
    | true => some e
    | false => am_at r pc
def am_kill (lv : List (Option am_V)) : Nat → List (Option am_V)
  | 0 => lv
  | j + 1 => match am_nth lv j with
    | some (some (.inr (.inl _))) => lv.set j none
    | _ => lv
def am_st1 (lv : List (Option am_V)) (i : Nat) (v : am_V) : List (Option am_V) := (am_kill lv i).set i (some v)
def am_st2 (lv : List (Option am_V)) (i : Nat) (v : am_V) : List (Option am_V) := ((am_kill lv i).set i (some v)).set (i + 1) none
def am_wd : List am_V → Nat
  | [] => 0
  | .inr (.inl _) :: r => am_wd r + 2
  | _ :: r => am_wd r + 1
def am_push : Option am_V → List am_V → List am_V
  | none, st => st
  | some v, st => v :: st
def am_sw (P : Nat → Prop) (x : Int) (d : Nat) : List (Int × Nat) → Prop
  | [] => P d
  | (v, t) :: r => (x = v → P t) ∧ (¬ x = v → am_sw P x d r)
def am_cmp (c : Jvm.ClassFile.Cond) (a b : Int) : Prop := match c with
  | .eq => a = b
  | .ne => ¬ a = b
  | .lt => a < b
  | .ge => b ≤ a
  | .gt => b < a
  | .le => a ≤ b
def am_ar (wr : Bool) (x : Int) (P : Int → Prop) : Prop := match wr with
  | true => P (am_w x)
  | false => am_r x ∧ P x
def am_arl (wr : Bool) (x : Int) (P : Int → Prop) : Prop := match wr with
  | true => P (am_wl x)
  | false => am_rl x ∧ P x
def am_dv (wr : Bool) (a b : Int) (P : Int → Prop) : Prop := match wr with
  | true => ¬ b = 0 ∧ P (am_w (a.tdiv b))
  | false => (0 ≤ a ∧ 0 < b) ∧ P (a / b)
def am_rm (wr : Bool) (a b : Int) (P : Int → Prop) : Prop := match wr with
  | true => ¬ b = 0 ∧ P (a.tmod b)
  | false => (0 ≤ a ∧ 0 < b) ∧ P (a % b)
def am_bo (bz : Bool) (x : Int) (P : Prop) : Prop := match bz with
  | true => (x = 0 ∨ x = 1) ∧ P
  | false => P
/-- one instruction -/
def am_step (cal : Nat → List am_V → am_H → (Option am_V → am_H → Prop) → Prop) (ro : Nat → Int × (Int → Int)) (wr bz : Bool) (Q : Option am_V → am_H → Prop) (P : am_S → Prop) (o : am_E) (s : am_S) : Prop :=
  match o, s with
  | (i, _, n1, n2, n3, n4, z, sw), (pc, lv, st, h, bc, bs) =>
  match i with
  | .iconst x => P (pc + 1, lv, am_I x :: st, h, bc, bs)
  | .bipush x => P (pc + 2, lv, am_I x :: st, h, bc, bs)
  | .sipush x => P (pc + 3, lv, am_I x :: st, h, bc, bs)
  | .lconst _ => P (pc + 1, lv, am_L z :: st, h, bc, bs)
  | .ldc _ => match n1 with
    | 0 => P (pc + 2, lv, am_I z :: st, h, bc, bs)
    | _ => P (pc + 2, lv, am_O n2 :: st, h, bc, bs)
  | .ldc_w _ => P (pc + 3, lv, am_I z :: st, h, bc, bs)
  | .ldc2_w _ => P (pc + 3, lv, am_L z :: st, h, bc, bs)
  | .aconst_null => P (pc + 1, lv, am_N :: st, h, bc, bs)
  | .iload _ => match am_nth lv n1 with
    | some (some (.inl x)) => P (pc + 2, lv, am_I x :: st, h, bc, bs)
    | _ => False
  | .iload_n _ => match am_nth lv n1 with
    | some (some (.inl x)) => P (pc + 1, lv, am_I x :: st, h, bc, bs)
    | _ => False
  | .lload _ => match am_nth lv n1 with
    | some (some (.inr (.inl x))) => P (pc + 2, lv, am_L x :: st, h, bc, bs)
    | _ => False
  | .lload_n _ => match am_nth lv n1 with
    | some (some (.inr (.inl x))) => P (pc + 1, lv, am_L x :: st, h, bc, bs)
    | _ => False
  | .aload _ => match am_nth lv n1 with
    | some (some (.inr (.inr (.inr (.inl (some k)))))) => P (pc + 2, lv, am_R k :: st, h, bc, bs)
    | some (some (.inr (.inr (.inr (.inr j))))) => P (pc + 2, lv, am_O j :: st, h, bc, bs)
    | _ => False
  | .aload_n _ => match am_nth lv n1 with
    | some (some (.inr (.inr (.inr (.inl (some k)))))) => P (pc + 1, lv, am_R k :: st, h, bc, bs)
    | some (some (.inr (.inr (.inr (.inr j))))) => P (pc + 1, lv, am_O j :: st, h, bc, bs)
    | _ => False
  | .istore _ => match st with
    | .inl x :: st => P (pc + 2, am_st1 lv n1 (am_I x), st, h, bc, bs)
    | _ => False
  | .istore_n _ => match st with
    | .inl x :: st => P (pc + 1, am_st1 lv n1 (am_I x), st, h, bc, bs)
    | _ => False
  | .lstore _ => match st with
    | .inr (.inl x) :: st => P (pc + 2, am_st2 lv n1 (am_L x), st, h, bc, bs)
    | _ => False
  | .lstore_n _ => match st with
    | .inr (.inl x) :: st => P (pc + 1, am_st2 lv n1 (am_L x), st, h, bc, bs)
    | _ => False
  | .astore _ => match st with
    | .inr (.inr (.inr (.inl (some k)))) :: st => P (pc + 2, am_st1 lv n1 (am_R k), st, h, bc, bs)
    | _ => False
  | .astore_n _ => match st with
    | .inr (.inr (.inr (.inl (some k)))) :: st => P (pc + 1, am_st1 lv n1 (am_R k), st, h, bc, bs)
    | _ => False
  | .iinc _ n => match am_nth lv n1 with
    | some (some (.inl x)) => am_ar wr (x + n) (fun v => P (pc + 3, am_st1 lv n1 (am_I v), st, h, bc, bs))
    | _ => False
  | .iadd => match st with
    | .inl b :: .inl a :: st => am_ar wr (a + b) (fun v => P (pc + 1, lv, am_I v :: st, h, bc, bs))
    | _ => False
  | .isub => match st with
    | .inl b :: .inl a :: st => am_ar wr (a - b) (fun v => P (pc + 1, lv, am_I v :: st, h, bc, bs))
    | _ => False
  | .imul => match st with
    | .inl b :: .inl a :: st => am_ar wr (a * b) (fun v => P (pc + 1, lv, am_I v :: st, h, bc, bs))
    | _ => False
  | .ineg => match st with
    | .inl a :: st => am_ar wr (-a) (fun v => P (pc + 1, lv, am_I v :: st, h, bc, bs))
    | _ => False
  | .idiv => match st with
    | .inl b :: .inl a :: st => am_dv wr a b (fun v => P (pc + 1, lv, am_I v :: st, h, bc, bs))
    | _ => False
  | .irem => match st with
    | .inl b :: .inl a :: st => am_rm wr a b (fun v => P (pc + 1, lv, am_I v :: st, h, bc, bs))
    | _ => False
  | .iand => match st with
    | .inl b :: .inl a :: st => P (pc + 1, lv, am_I (am_and a b) :: st, h, bc, bs)
    | _ => False
  | .ior => match st with
    | .inl b :: .inl a :: st => P (pc + 1, lv, am_I (am_or a b) :: st, h, bc, bs)
    | _ => False
  | .ixor => match st with
    | .inl b :: .inl a :: st => P (pc + 1, lv, am_I (am_xor a b) :: st, h, bc, bs)
    | _ => False
  | .ishl => match st with
    | .inl b :: .inl a :: st => P (pc + 1, lv, am_I (am_shl a b) :: st, h, bc, bs)
    | _ => False
  | .ishr => match st with
    | .inl b :: .inl a :: st => P (pc + 1, lv, am_I (am_shr a b) :: st, h, bc, bs)
    | _ => False
  | .iushr => match st with
    | .inl b :: .inl a :: st => P (pc + 1, lv, am_I (am_ushr a b) :: st, h, bc, bs)
    | _ => False
  | .ladd => match st with
    | .inr (.inl b) :: .inr (.inl a) :: st => am_arl wr (a + b) (fun v => P (pc + 1, lv, am_L v :: st, h, bc, bs))
    | _ => False
  | .lsub => match st with
    | .inr (.inl b) :: .inr (.inl a) :: st => am_arl wr (a - b) (fun v => P (pc + 1, lv, am_L v :: st, h, bc, bs))
    | _ => False
  | .lmul => match st with
    | .inr (.inl b) :: .inr (.inl a) :: st => am_arl wr (a * b) (fun v => P (pc + 1, lv, am_L v :: st, h, bc, bs))
    | _ => False
  | .ldiv => match st with
    | .inr (.inl b) :: .inr (.inl a) :: st => (0 ≤ a ∧ 0 < b) ∧ P (pc + 1, lv, am_L (a / b) :: st, h, bc, bs)
    | _ => False
  | .lrem => match st with
    | .inr (.inl b) :: .inr (.inl a) :: st => (0 ≤ a ∧ 0 < b) ∧ P (pc + 1, lv, am_L (a % b) :: st, h, bc, bs)
    | _ => False
  | .lor => match st with
    | .inr (.inl b) :: .inr (.inl a) :: st => P (pc + 1, lv, am_L (am_lor a b) :: st, h, bc, bs)
    | _ => False
  | .lshl => match st with
    | .inl b :: .inr (.inl a) :: st => P (pc + 1, lv, am_L (am_lshl a b) :: st, h, bc, bs)
    | _ => False
  | .i2l => match st with
    | .inl a :: st => P (pc + 1, lv, am_L a :: st, h, bc, bs)
    | _ => False
  | .l2i => match st with
    | .inr (.inl a) :: st => am_ar wr a (fun v => P (pc + 1, lv, am_I v :: st, h, bc, bs))
    | _ => False
  | .i2c => match st with
    | .inl a :: st => (0 ≤ a ∧ a < 65536) ∧ P (pc + 1, lv, am_I a :: st, h, bc, bs)
    | _ => False
  | .lcmp => match st with
    | .inr (.inl b) :: .inr (.inl a) :: st => P (pc + 1, lv, am_C a b :: st, h, bc, bs)
    | _ => False
  | .dup => match st with
    | .inl a :: st => P (pc + 1, lv, am_I a :: am_I a :: st, h, bc, bs)
    | .inr (.inr (.inr (.inl (some k)))) :: st => P (pc + 1, lv, am_R k :: am_R k :: st, h, bc, bs)
    | _ => False
  | .dup2 => match st with
    | .inl a :: .inr (.inr (.inr (.inl (some k)))) :: st => P (pc + 1, lv, am_I a :: am_R k :: am_I a :: am_R k :: st, h, bc, bs)
    | _ => False
  | .pop => match st with
    | .inl _ :: st => P (pc + 1, lv, st, h, bc, bs)
    | _ => False
  | .pop2 => match st with
    | .inr (.inl _) :: st => P (pc + 1, lv, st, h, bc, bs)
    | _ => False
  | .if_icmp c _ => match st with
    | .inl b :: .inl a :: st => (am_cmp c a b → P (n1, lv, st, h, bc, bs)) ∧ (¬ am_cmp c a b → P (pc + 3, lv, st, h, bc, bs))
    | _ => False
  | .ifCond c _ => match st with
    | .inl a :: st => (am_cmp c a 0 → P (n1, lv, st, h, bc, bs)) ∧ (¬ am_cmp c a 0 → P (pc + 3, lv, st, h, bc, bs))
    | .inr (.inr (.inl (a, b))) :: st => (am_cmp c a b → P (n1, lv, st, h, bc, bs)) ∧ (¬ am_cmp c a b → P (pc + 3, lv, st, h, bc, bs))
    | _ => False
  | .ifnonnull _ => match st with
    | .inr (.inr (.inr (.inl none))) :: st => P (pc + 3, lv, st, h, bc, bs)
    | .inr (.inr (.inr (.inl (some _)))) :: st => P (n1, lv, st, h, bc, bs)
    | _ => False
  | .goto _ => P (n1, lv, st, h, bc, bs)
  | .tableswitch _ _ _ _ => match st with
    | .inl x :: st => am_sw (fun t => P (t, lv, st, h, bc, bs)) x n1 sw
    | _ => False
  | .lookupswitch _ _ => match st with
    | .inl x :: st => am_sw (fun t => P (t, lv, st, h, bc, bs)) x n1 sw
    | _ => False
  | .ireturn => match st with
    | [.inl x] => am_bo bz x (Q (some (am_I x)) h)
    | _ => False
  | .lreturn => match st with
    | [.inr (.inl x)] => Q (some (am_L x)) h
    | _ => False
  | .return_ => match st with
    | [] => Q none h
    | _ => False
  | .getfield _ => match st with
    | .inr (.inr (.inr (.inl (some a)))) :: st => match am_nth h.1 a with
      | some (.inr (ci, fs)) => match Nat.beq ci n1 with
        | true => match am_nth fs n2 with
          | some (.inl .long) => P (pc + 3, lv, am_L (h.2.2 a z) :: st, h, bc, bs)
          | some (.inl .int) => P (pc + 3, lv, am_I (h.2.1 a z) :: st, h, bc, bs)
          | some (.inl .boolean) => P (pc + 3, lv, am_I (h.2.1 a z) :: st, h, bc, bs)
          | some (.inr r) => P (pc + 3, lv, Sum.inr (Sum.inr (Sum.inr (Sum.inl r))) :: st, h, bc, bs)
          | _ => False
        | false => False
      | _ => False
    | _ => False
  | .putfield _ => match st with
    | v :: .inr (.inr (.inr (.inl (some a)))) :: st => match am_nth h.1 a with
      | some (.inr (ci, fs)) => match Nat.beq ci n1 with
        | true => match am_nth fs n2, v with
          | some (.inl .long), .inr (.inl x) => P (pc + 3, lv, st, (h.1, h.2.1, am_up h.2.2 a z x), bc, bs)
          | some (.inl .int), .inl x => P (pc + 3, lv, st, (h.1, am_up h.2.1 a z x, h.2.2), bc, bs)
          | some (.inl .boolean), .inl x => (x = 0 ∨ x = 1) ∧ P (pc + 3, lv, st, (h.1, am_up h.2.1 a z x, h.2.2), bc, bs)
          | some (.inr _), .inr (.inr (.inr (.inl r))) => P (pc + 3, lv, st, (h.1.set a (.inr (ci, fs.set n2 (.inr r))), h.2.1, h.2.2), bc, bs)
          | _, _ => False
        | false => False
      | _ => False
    | _ => False
  | .getstatic _ => P (pc + 3, lv, am_O n1 :: st, h, bc, bs)
  | .iaload => match st with
    | .inl i :: .inr (.inr (.inr (.inl (some a)))) :: st => match am_nth h.1 a with
      | some (.inl (.int, n)) => (0 ≤ i ∧ i < n) ∧ P (pc + 1, lv, am_I (h.2.1 a i) :: st, h, bc, bs)
      | _ => False
    | .inl i :: .inr (.inr (.inr (.inr j))) :: st => match Nat.ble j 2 with
      | true => (0 ≤ i ∧ i < (ro j).1) ∧ P (pc + 1, lv, am_I ((ro j).2 i) :: st, h, bc, bs)
      | false => False
    | _ => False
  | .baload => match st with
    | .inl i :: .inr (.inr (.inr (.inl (some a)))) :: st => match am_nth h.1 a with
      | some (.inl (.boolean, n)) => (0 ≤ i ∧ i < n) ∧ P (pc + 1, lv, am_I (h.2.1 a i) :: st, h, bc, bs)
      | _ => False
    | _ => False
  | .laload => match st with
    | .inl i :: .inr (.inr (.inr (.inl (some a)))) :: st => match am_nth h.1 a with
      | some (.inl (.long, n)) => (0 ≤ i ∧ i < n) ∧ P (pc + 1, lv, am_L (h.2.2 a i) :: st, h, bc, bs)
      | _ => False
    | _ => False
  | .iastore => match st with
    | .inl x :: .inl i :: .inr (.inr (.inr (.inl (some a)))) :: st => match am_nth h.1 a with
      | some (.inl (.int, n)) => (0 ≤ i ∧ i < n) ∧ P (pc + 1, lv, st, (h.1, am_up h.2.1 a i x, h.2.2), bc, bs)
      | _ => False
    | _ => False
  | .bastore => match st with
    | .inl x :: .inl i :: .inr (.inr (.inr (.inl (some a)))) :: st => match am_nth h.1 a with
      | some (.inl (.boolean, n)) => (x = 0 ∨ x = 1) ∧ (0 ≤ i ∧ i < n) ∧ P (pc + 1, lv, st, (h.1, am_up h.2.1 a i x, h.2.2), bc, bs)
      | _ => False
    | _ => False
  | .lastore => match st with
    | .inr (.inl x) :: .inl i :: .inr (.inr (.inr (.inl (some a)))) :: st => match am_nth h.1 a with
      | some (.inl (.long, n)) => (0 ≤ i ∧ i < n) ∧ P (pc + 1, lv, st, (h.1, h.2.1, am_up h.2.2 a i x), bc, bs)
      | _ => False
    | _ => False
  | .arraylength => match st with
    | .inr (.inr (.inr (.inl (some a)))) :: st => match am_nth h.1 a with
      | some (.inl (_, n)) => P (pc + 1, lv, am_I n :: st, h, bc, bs)
      | _ => False
    | .inr (.inr (.inr (.inr j))) :: st => match Nat.ble j 2 with
      | true => P (pc + 1, lv, am_I (ro j).1 :: st, h, bc, bs)
      | false => False
    | _ => False
  | .newarray t => match st, bc with
    | .inl x :: st, bc + 1 => match t with
      | .int => (x = z ∧ n1 ≤ bs) ∧ P (pc + 2, lv, am_R h.1.length :: st, (h.1 ++ [.inl (.int, z)], am_z h.2.1 h.1.length, am_z h.2.2 h.1.length), bc, bs - n1)
      | .long => (x = z ∧ n1 ≤ bs) ∧ P (pc + 2, lv, am_R h.1.length :: st, (h.1 ++ [.inl (.long, z)], am_z h.2.1 h.1.length, am_z h.2.2 h.1.length), bc, bs - n1)
      | .boolean => (x = z ∧ n1 ≤ bs) ∧ P (pc + 2, lv, am_R h.1.length :: st, (h.1 ++ [.inl (.boolean, z)], am_z h.2.1 h.1.length, am_z h.2.2 h.1.length), bc, bs - n1)
      | _ => False
    | _, _ => False
  | .new _ => match bc with
    | bc + 1 => (n2 ≤ bs) ∧ P (pc + 3, lv, am_R h.1.length :: st, (h.1 ++ [.inr (n1, am_fs n1)], am_z h.2.1 h.1.length, am_z h.2.2 h.1.length), bc, bs - n2)
    | _ => False
  | .invokevirtual _ => match n4 with
    | 0 => match am_nth st (n2 - 1) with
      | some (.inr (.inr (.inr (.inl (some a))))) => match am_nth h.1 a with
        | some (.inr (ci, _)) => match Nat.beq ci n3, Nat.ble (am_wd (st.drop n2)) 8 with
          | true, true => cal n1 (st.take n2).reverse h (fun r h1 => P (pc + 3, lv, am_push r (st.drop n2), h1, bc, bs))
          | _, _ => False
        | _ => False
      | _ => False
    | 1 => match am_nth st (n2 - 1) with
      | some (.inr (.inr (.inr (.inl (some a))))) => match am_nth h.1 a with
        | some (.inr (ci, _)) => match Nat.beq ci n3, Nat.ble (am_wd (st.drop n2)) 8 with
          | true, true => ((am_al n1).1 ≤ bc ∧ (am_al n1).2 ≤ bs) ∧ cal n1 (st.take n2).reverse h (fun r h1 => P (pc + 3, lv, am_push r (st.drop n2), h1, bc - (am_al n1).1, bs - (am_al n1).2))
          | _, _ => False
        | _ => False
      | _ => False
    | 2 => match st with
      | .inl i :: .inr (.inr (.inr (.inr j))) :: st => match Nat.ble 3 j && Nat.ble j 4, Nat.ble (am_wd st) 8 with
        | true, true => (0 ≤ i ∧ i < (ro j).1) ∧ P (pc + 3, lv, am_I ((ro j).2 i) :: st, h, bc, bs)
        | _, _ => False
      | _ => False
    | 3 => match st with
      | .inl c :: .inr (.inr (.inr (.inr j))) :: st => match Nat.ble 3 j && Nat.ble j 4, Nat.ble (am_wd st) 8 with
        | true, true => P (pc + 3, lv, am_I (am_ix (ro j).2 c (ro j).1.toNat 0) :: st, h, bc, bs)
        | _, _ => False
      | _ => False
    | _ => match st with
      | .inr (.inr (.inr (.inr j))) :: st => match Nat.ble 3 j && Nat.ble j 4, Nat.ble (am_wd st) 8 with
        | true, true => P (pc + 3, lv, am_I (ro j).1 :: st, h, bc, bs)
        | _, _ => False
      | _ => False
  | .invokestatic _ => match n3 with
    | 0 => match Nat.ble (am_wd (st.drop n2)) 8, Nat.ble n2 st.length with
      | true, true => cal n1 (st.take n2).reverse h (fun r h1 => P (pc + 3, lv, am_push r (st.drop n2), h1, bc, bs))
      | _, _ => False
    | 1 => match st with
      | .inl n :: .inl dp :: .inr (.inr (.inr (.inl (some a)))) :: .inl sp :: .inr (.inr (.inr (.inl (some a0)))) :: st => match am_nth h.1 a0, am_nth h.1 a, Nat.ble (am_wd st) 8 with
        | some (.inl (.int, m0)), some (.inl (.int, m1)), true => (0 ≤ sp ∧ 0 ≤ dp ∧ 0 ≤ n ∧ sp + n ≤ m0 ∧ dp + n ≤ m1) ∧ P (pc + 3, lv, st, (h.1, am_cp h.2.1 a0 a sp dp n, h.2.2), bc, bs)
        | some (.inl (.long, m0)), some (.inl (.long, m1)), true => (0 ≤ sp ∧ 0 ≤ dp ∧ 0 ≤ n ∧ sp + n ≤ m0 ∧ dp + n ≤ m1) ∧ P (pc + 3, lv, st, (h.1, h.2.1, am_cp h.2.2 a0 a sp dp n), bc, bs)
        | _, _, _ => False
      | _ => False
    | 2 => match st with
      | .inl b :: .inl a :: st => match Nat.ble (am_wd st) 8 with
        | true => P (pc + 3, lv, am_I (max a b) :: st, h, bc, bs)
        | false => False
      | _ => False
    | 3 => match st with
      | .inl b :: .inl a :: st => match Nat.ble (am_wd st) 8 with
        | true => P (pc + 3, lv, am_I (min a b) :: st, h, bc, bs)
        | false => False
      | _ => False
    | _ => match st with
      | .inr (.inl b) :: .inr (.inl a) :: st => match Nat.ble (am_wd st) 8 with
        | true => P (pc + 3, lv, am_L (max a b) :: st, h, bc, bs)
        | false => False
      | _ => False
  | .invokespecial _ => match n3 with
    | 0 => match am_nth st (n2 - 1), Nat.ble (am_wd (st.drop n2)) 8 with
      | some (.inr (.inr (.inr (.inl (some _))))), true => ((am_al n1).1 ≤ bc ∧ (am_al n1).2 ≤ bs) ∧ cal n1 (st.take n2).reverse h (fun r h1 => P (pc + 3, lv, am_push r (st.drop n2), h1, bc - (am_al n1).1, bs - (am_al n1).2))
      | _, _ => False
    | _ => match st with
      | .inr (.inr (.inr (.inl (some _)))) :: st => match Nat.ble (am_wd st) 8 with
        | true => P (pc + 3, lv, st, h, bc, bs)
        | false => False
      | _ => False
  | _ => False
def am_st (cal : Nat → List am_V → am_H → (Option am_V → am_H → Prop) → Prop) (ro : Nat → Int × (Int → Int)) (M : am_M) (Q : Option am_V → am_H → Prop) (P : am_S → Prop) (s : am_S) : Prop :=
  match am_at M.1 s.1 with
  | some o => am_step cal ro M.2.1 M.2.2 Q P o s
  | none => False
/-- from this state the method comes to its end, with Q -/
def am_ex (cal : Nat → List am_V → am_H → (Option am_V → am_H → Prop) → Prop) (ro : Nat → Int × (Int → Int)) (M : am_M) (Q : Option am_V → am_H → Prop) (s : am_S) : Prop :=
  ∀ P : am_S → Prop, (∀ (s : am_S) (P' : am_S → Prop), (∀ t, P' t → P t) → am_st cal ro M Q P' s → P s) → P s
def am_sn (cal : Nat → List am_V → am_H → (Option am_V → am_H → Prop) → Prop) (ro : Nat → Int × (Int → Int)) (M : am_M) (Q : Option am_V → am_H → Prop) (P : am_S → Prop) : Nat → am_S → Prop
  | 0, s => P s
  | n + 1, s => am_st cal ro M Q (am_sn cal ro M Q P n) s
def am_la : List am_V → List (Option am_V)
  | [] => []
  | .inr (.inl x) :: r => some (.inr (.inl x)) :: none :: am_la r
  | v :: r => some v :: am_la r
def am_lv (n : Nat) (a : List am_V) : List (Option am_V) := am_la a ++ List.replicate (n - (am_la a).length) none
/-- a method of depth d, its number, what it is given, the heap, and what must hold behind it -/
def am_m (ro : Nat → Int × (Int → Int)) : Nat → Nat → List am_V → am_H → (Option am_V → am_H → Prop) → Prop
  | 0 => fun _ _ _ _ => False
  | d + 1 => fun mid a h Q => match am_nth am_Ms mid, Nat.ble (am_la a).length (am_mx mid) with
    | some M, true => am_ex (am_m ro d) ro M Q (0, am_lv (am_mx mid) a, [], h, (am_al mid).1, (am_al mid).2)
    | _, _ => False
section AM1
variable {cal : Nat → List am_V → am_H → (Option am_V → am_H → Prop) → Prop} {ro : Nat → Int × (Int → Int)} {M : am_M} {Q : Option am_V → am_H → Prop}
theorem am_one {s : am_S} (h : am_st cal ro M Q (am_ex cal ro M Q) s) : am_ex cal ro M Q s := fun P hP => hP s (am_ex cal ro M Q) (fun t ht => ht P hP) h
theorem am_go : ∀ (n : Nat) {s : am_S}, am_sn cal ro M Q (am_ex cal ro M Q) n s → am_ex cal ro M Q s
  | 0, _, h => h
  | n + 1, _, h => fun P hP => hP _ _ (fun _ ht => am_go n ht P hP) h
theorem am_in {ro : Nat → Int × (Int → Int)} {d mid : Nat} {a : List am_V} {h : am_H} {Q : Option am_V → am_H → Prop} {M : am_M} {lv : List (Option am_V)} {bc bs : Nat} (hM : am_nth am_Ms mid = some M) (hn : Nat.ble (am_la a).length (am_mx mid) = true) (hl : am_lv (am_mx mid) a = lv) (hb : am_al mid = (bc, bs)) (hx : am_ex (am_m ro d) ro M Q (0, lv, [], h, bc, bs)) : am_m ro (d + 1) mid a h Q := by
  subst hl
  have e1 : bc = (am_al mid).1 := by rw [hb]
  have e2 : bs = (am_al mid).2 := by rw [hb]
  subst e1; subst e2
  show (match am_nth am_Ms mid, Nat.ble (am_la a).length (am_mx mid) with
    | some M, true => am_ex (am_m ro d) ro M Q (0, am_lv (am_mx mid) a, [], h, (am_al mid).1, (am_al mid).2)
    | _, _ => False)
  rw [hM, hn]
  exact hx
end AM1
