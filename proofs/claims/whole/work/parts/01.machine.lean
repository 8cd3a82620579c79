/-! THE SMALL MACHINE. A deterministic abstract machine over the bytecode: abstract values, a heap of named cells (role, world, number), a predicate transformer for each instruction ('am_step'), for a run inside a method ('am_vc'), for a call ('am_call'). Its soundness over the kit's machine is another part. -/
abbrev am_K : Type := Nat × Nat × Nat
/-- an int, a long, a reference -/
abbrev am_V : Type := Int32 ⊕ (Int64 ⊕ am_K)
/-- ints by role, world, number, slot -/
abbrev am_I : Type := Nat → Nat → Nat → Nat → Int32
/-- references by role, world, number, slot -/
abbrev am_R : Type := Nat → Nat → Nat → Nat → Option am_K
/-- what is there: an array's length, an object's number of fields -/
abbrev am_N : Type := Nat → Nat → Nat → Option Nat
/-- references, what is there, cells made, slots made -/
abbrev am_S : Type := am_R × am_N × Nat × Nat
abbrev am_H : Type := am_I × am_S
abbrev am_L : Type := List (Option am_V)
/-- instruction, the next place, a number, three places, a switch's table -/
abbrev am_X : Type := Instr × Nat × Int32 × Nat × Nat × Nat × List (Int32 × Nat)
abbrev am_Q : Type := Option am_V → am_H → Prop
abbrev am_C : Type := Nat → List am_V → am_H → am_Q → Prop

def am_set (I : am_I) (r w j s : Nat) (v : Int32) : am_I := fun r' w' j' s' => if r' = r then (if w' = w ∧ j' = j ∧ s' = s then v else I r' w' j' s') else I r' w' j' s'
def am_setR (R : am_R) (r w j s : Nat) (v : am_K) : am_R := fun r' w' j' s' => if r' = r then (if w' = w ∧ j' = j ∧ s' = s then some v else R r' w' j' s') else R r' w' j' s'
/-- a cell is made: its ints are 0, its references null -/
def am_newI (I : am_I) (r w j : Nat) : am_I := fun r' w' j' s' => if r' = r then (if w' = w ∧ j' = j then 0 else I r' w' j' s') else I r' w' j' s'
def am_newR (R : am_R) (r w j : Nat) : am_R := fun r' w' j' s' => if r' = r then (if w' = w ∧ j' = j then none else R r' w' j' s') else R r' w' j' s'
def am_newN (N : am_N) (r w j n : Nat) : am_N := fun r' w' j' => if r' = r then (if w' = w ∧ j' = j then some n else N r' w' j') else N r' w' j'
def am_new (h : am_H) (r w j n : Nat) : am_H := match h with
  | (I, R, N, c, m) => (am_newI I r w j, am_newR R r w j, am_newN N r w j n, c + 1, m + n)
/-- n slots copied -/
def am_cpy (I : am_I) (r w j : Nat) (g : Nat → Int32) (sp dp n : Nat) : am_I := fun r' w' j' s' => if r' = r then (if w' = w ∧ j' = j then va_cpy g (I r' w' j') sp dp n s' else I r' w' j' s') else I r' w' j' s'
def am_fill (I : am_I) (r w j : Nat) (g : Nat → Int32) : am_I := fun r' w' j' s' => if r' = r then (if w' = w ∧ j' = j then g s' else I r' w' j' s') else I r' w' j' s'

def am_ld : am_L → Nat → Option am_V
  | [], _ => none
  | v :: _, 0 => v
  | _ :: l, n + 1 => am_ld l n
def am_nol : Option am_V → Option am_V
  | some (.inr (.inl _)) => none
  | x => x
def am_sto : am_L → Nat → am_V → am_L
  | [], _, _ => []
  | _ :: l, 0, v => some v :: l
  | x :: l, 1, v => am_nol x :: am_sto l 0 v
  | x :: l, n + 2, v => x :: am_sto l (n + 1) v
def am_seq {α : Type} : List α → (List α → Prop) → Prop
  | [], f => f []
  | a :: l, f => am_seq l (fun l' => f (a :: l'))
/-- n values off the stack, the deepest first -/
def am_pop : Nat → List am_V → List am_V → (List am_V → List am_V → Prop) → Prop
  | 0, st, as, f => f as st
  | n + 1, v :: st, as, f => am_pop n st (v :: as) f
  | _ + 1, [], _, _ => False
def am_cat : List am_V → Nat
  | [] => 0
  | .inr (.inl _) :: l => 2 + am_cat l
  | _ :: l => 1 + am_cat l
def am_sw : List (Int32 × Nat) → Int32 → Nat → (Nat → Prop) → Prop
  | [], _, d, f => f d
  | (v, t) :: l, x, d, f => (x = v → f t) ∧ (¬ x = v → am_sw l x d f)
/-- the locals that a method begins with -/
def am_loc : List am_V → Nat → am_L
  | [], n => List.replicate n none
  | .inr (.inl v) :: as, n + 2 => some (.inr (.inl v)) :: none :: am_loc as n
  | a :: as, n + 1 => some a :: am_loc as n
  | _ :: _, 0 => []

/-- max, min, abs of Math; else g -/
def am_math (a : Nat) (st : List am_V) (f : List am_V → Prop) (g : Prop) : Prop :=
  cond (Nat.beq a 9996) (match st with | .inl y :: .inl z :: st => cond (Nat.ble (am_cat st) 8) (f (.inl (if z < y then y else z) :: st)) False | _ => False)
    (cond (Nat.beq a 9995) (match st with | .inl y :: .inl z :: st => cond (Nat.ble (am_cat st) 8) (f (.inl (if y < z then y else z) :: st)) False | _ => False)
      (cond (Nat.beq a 9994) (match st with | .inl z :: st => cond (Nat.ble (am_cat st) 8) (f (.inl (if 0 ≤ z then z else 0 - z) :: st)) False | _ => False) g))
def am_ref (as : List am_V) : Bool := match as with
  | .inr (.inr _) :: _ => true
  | _ => false
section am
variable (rt : Nat → Nat)
/-- the receiver is of the method's class -/
def am_rcv (a : Nat) (as : List am_V) : Bool := match as with
  | .inr (.inr (r, _, _)) :: _ => Nat.beq (rt r) (a / 100)
  | _ => false
def am_step (call : am_C) (x : am_X) (ls : am_L) (st : List am_V) (h : am_H) (k : Nat → am_L → List am_V → am_H → Prop) (q : am_Q) : Prop :=
  match x with
  | (ins, nx, im, a, b, c, sw) =>
  match ins with
  | .iconst _ => k nx ls (.inl im :: st) h
  | .bipush _ => k nx ls (.inl im :: st) h
  | .sipush _ => k nx ls (.inl im :: st) h
  | .ldc _ => k nx ls (.inl im :: st) h
  | .ldc_w _ => k nx ls (.inl im :: st) h
  | .ldc2_w _ => k nx ls (.inr (.inl (Int64.ofNat a)) :: st) h
  | .iload _ => match am_ld ls a with | some (.inl v) => k nx ls (.inl v :: st) h | _ => False
  | .iload_n _ => match am_ld ls a with | some (.inl v) => k nx ls (.inl v :: st) h | _ => False
  | .lload_n _ => match am_ld ls a with | some (.inr (.inl v)) => k nx ls (.inr (.inl v) :: st) h | _ => False
  | .aload _ => match am_ld ls a with | some (.inr (.inr v)) => k nx ls (.inr (.inr v) :: st) h | _ => False
  | .aload_n _ => match am_ld ls a with | some (.inr (.inr v)) => k nx ls (.inr (.inr v) :: st) h | _ => False
  | .istore _ => match st with | .inl v :: st => am_seq (am_sto ls a (.inl v)) (fun ls => k nx ls st h) | _ => False
  | .istore_n _ => match st with | .inl v :: st => am_seq (am_sto ls a (.inl v)) (fun ls => k nx ls st h) | _ => False
  | .astore _ => match st with | .inr (.inr v) :: st => am_seq (am_sto ls a (.inr (.inr v))) (fun ls => k nx ls st h) | _ => False
  | .astore_n _ => match st with | .inr (.inr v) :: st => am_seq (am_sto ls a (.inr (.inr v))) (fun ls => k nx ls st h) | _ => False
  | .iinc _ _ => match am_ld ls a with | some (.inl v) => am_seq (am_sto ls a (.inl (v + im))) (fun ls => k nx ls st h) | _ => False
  | .pop => match st with | .inl _ :: st => k nx ls st h | .inr (.inr _) :: st => k nx ls st h | _ => False
  | .dup => match st with | .inl v :: st => k nx ls (.inl v :: .inl v :: st) h | .inr (.inr v) :: st => k nx ls (.inr (.inr v) :: .inr (.inr v) :: st) h | _ => False
  | .dup_x1 => match st with | .inl v :: .inr (.inr w) :: st => k nx ls (.inl v :: .inr (.inr w) :: .inl v :: st) h | .inl v :: .inl w :: st => k nx ls (.inl v :: .inl w :: .inl v :: st) h | _ => False
  | .dup2 => match st with | .inl v :: .inr (.inr w) :: st => k nx ls (.inl v :: .inr (.inr w) :: .inl v :: .inr (.inr w) :: st) h | _ => False
  | .iadd => match st with | .inl y :: .inl z :: st => k nx ls (.inl (z + y) :: st) h | _ => False
  | .isub => match st with | .inl y :: .inl z :: st => k nx ls (.inl (z - y) :: st) h | _ => False
  | .imul => match st with | .inl y :: .inl z :: st => k nx ls (.inl (z * y) :: st) h | _ => False
  | .idiv => match st with | .inl y :: .inl z :: st => ¬ y = 0 ∧ k nx ls (.inl (z / y) :: st) h | _ => False
  | .irem => match st with | .inl y :: .inl z :: st => ¬ y = 0 ∧ k nx ls (.inl (z - z / y * y) :: st) h | _ => False
  | .ineg => match st with | .inl z :: st => k nx ls (.inl (-z) :: st) h | _ => False
  | .iand => match st with | .inl y :: .inl z :: st => k nx ls (.inl (z &&& y) :: st) h | _ => False
  | .ior => match st with | .inl y :: .inl z :: st => k nx ls (.inl (z ||| y) :: st) h | _ => False
  | .ishl => match st with | .inl y :: .inl z :: st => k nx ls (.inl (z <<< (y &&& 31)) :: st) h | _ => False
  | .ishr => match st with | .inl y :: .inl z :: st => k nx ls (.inl (z >>> (y &&& 31)) :: st) h | _ => False
  | .iushr => match st with | .inl y :: .inl z :: st => k nx ls (.inl ((z.toUInt32 >>> (y.toUInt32 &&& Int32.toUInt32 31)).toInt32) :: st) h | _ => False
  | .i2l => match st with | .inl z :: st => k nx ls (.inr (.inl z.toInt64) :: st) h | _ => False
  | .l2i => match st with | .inr (.inl z) :: st => k nx ls (.inl z.toInt32 :: st) h | _ => False
  | .i2b => match st with | .inl z :: st => k nx ls (.inl z.toInt8.toInt32 :: st) h | _ => False
  | .i2s => match st with | .inl z :: st => k nx ls (.inl z.toInt16.toInt32 :: st) h | _ => False
  | .land => match st with | .inr (.inl y) :: .inr (.inl z) :: st => k nx ls (.inr (.inl (z &&& y)) :: st) h | _ => False
  | .lor => match st with | .inr (.inl y) :: .inr (.inl z) :: st => k nx ls (.inr (.inl (z ||| y)) :: st) h | _ => False
  | .lshl => match st with | .inl y :: .inr (.inl z) :: st => k nx ls (.inr (.inl (z <<< (y.toInt64 &&& 63))) :: st) h | _ => False
  | .lshr => match st with | .inl y :: .inr (.inl z) :: st => k nx ls (.inr (.inl (z >>> (y.toInt64 &&& 63))) :: st) h | _ => False
  | .lushr => match st with | .inl y :: .inr (.inl z) :: st => k nx ls (.inr (.inl ((z.toUInt64 >>> (y.toInt64.toUInt64 &&& Int64.toUInt64 63)).toInt64)) :: st) h | _ => False
  | .ifCond d _ => match st with
    | .inl z :: st => match d with
      | .eq => (z = 0 → k a ls st h) ∧ (¬ z = 0 → k nx ls st h)
      | .ne => (¬ z = 0 → k a ls st h) ∧ (z = 0 → k nx ls st h)
      | .lt => (z < 0 → k a ls st h) ∧ (¬ z < 0 → k nx ls st h)
      | .ge => (0 ≤ z → k a ls st h) ∧ (¬ 0 ≤ z → k nx ls st h)
      | .gt => (0 < z → k a ls st h) ∧ (¬ 0 < z → k nx ls st h)
      | .le => (z ≤ 0 → k a ls st h) ∧ (¬ z ≤ 0 → k nx ls st h)
    | _ => False
  | .if_icmp d _ => match st with
    | .inl y :: .inl z :: st => match d with
      | .eq => (z = y → k a ls st h) ∧ (¬ z = y → k nx ls st h)
      | .ne => (¬ z = y → k a ls st h) ∧ (z = y → k nx ls st h)
      | .lt => (z < y → k a ls st h) ∧ (¬ z < y → k nx ls st h)
      | .ge => (y ≤ z → k a ls st h) ∧ (¬ y ≤ z → k nx ls st h)
      | .gt => (y < z → k a ls st h) ∧ (¬ y < z → k nx ls st h)
      | .le => (z ≤ y → k a ls st h) ∧ (¬ z ≤ y → k nx ls st h)
    | _ => False
  | .goto _ => k a ls st h
  | .tableswitch _ _ _ _ => match st with | .inl z :: st => am_sw sw z a (fun t => k t ls st h) | _ => False
  | .lookupswitch _ _ => match st with | .inl z :: st => am_sw sw z a (fun t => k t ls st h) | _ => False
  | .getfield _ => match st with
    | .inr (.inr (r, w, j)) :: st => cond (Nat.beq (rt r) a) (match h with
      | (I, S) => cond (Nat.beq c 2) (match S.1 r w j b with | some v => k nx ls (.inr (.inr v) :: st) (I, S) | none => False) (k nx ls (.inl (I r w j b) :: st) (I, S))) False
    | _ => False
  | .putfield _ => match st with
    | .inl v :: .inr (.inr (r, w, j)) :: st => cond (Nat.beq (rt r) a) (match h with
      | (I, S) => match c with
        | 0 => k nx ls st (am_set I r w j b v, S)
        | 1 => (v = 0 ∨ v = 1) ∧ k nx ls st (am_set I r w j b v, S)
        | _ => False) False
    | .inr (.inr v) :: .inr (.inr (r, w, j)) :: st => cond (Nat.beq (rt r) a && (Nat.beq c 2 && Nat.blt v.1 300)) (match h with
      | (I, R, S) => k nx ls st (I, am_setR R r w j b v, S)) False
    | _ => False
  | .getstatic _ => k nx ls (.inr (.inr (a, 0, 0)) :: st) h
  | .iaload => match st with
    | .inl i :: .inr (.inr (r, w, j)) :: st => cond (Nat.beq (rt r) 100) (match h with
      | (I, S) => match S.2.1 r w j with | some n => vp_in i n ∧ k nx ls (.inl (I r w j i.toNatClampNeg) :: st) (I, S) | none => False) False
    | _ => False
  | .baload => match st with
    | .inl i :: .inr (.inr (r, w, j)) :: st => cond (Nat.beq (rt r) 101 || Nat.beq (rt r) 102) (match h with
      | (I, S) => match S.2.1 r w j with | some n => vp_in i n ∧ k nx ls (.inl (I r w j i.toNatClampNeg) :: st) (I, S) | none => False) False
    | _ => False
  | .saload => match st with
    | .inl i :: .inr (.inr (r, w, j)) :: st => cond (Nat.beq (rt r) 103) (match h with
      | (I, S) => match S.2.1 r w j with | some n => vp_in i n ∧ k nx ls (.inl (I r w j i.toNatClampNeg) :: st) (I, S) | none => False) False
    | _ => False
  | .aaload => match st with
    | .inl i :: .inr (.inr (r, w, j)) :: st => cond (Nat.ble 110 (rt r) && Nat.blt r 300) (match h with
      | (I, S) => match S.2.1 r w j with
        | some n => vp_in i n ∧ ∃ r' w' j', S.1 r w j i.toNatClampNeg = some (r', w', j') ∧ k nx ls (.inr (.inr (r', w', j')) :: st) (I, S)
        | none => False) False
    | _ => False
  | .iastore => match st with
    | .inl v :: .inl i :: .inr (.inr (r, w, j)) :: st => cond (Nat.beq (rt r) 100 && Nat.blt r 300) (match h with
      | (I, S) => match S.2.1 r w j with | some n => vp_in i n ∧ k nx ls st (am_set I r w j i.toNatClampNeg v, S) | none => False) False
    | _ => False
  | .bastore => match st with
    | .inl v :: .inl i :: .inr (.inr (r, w, j)) :: st => match h with
      | (I, S) => match S.2.1 r w j with
        | some n => cond (Nat.beq (rt r) 101) (vp_in i n ∧ (v = 0 ∨ v = 1) ∧ k nx ls st (am_set I r w j i.toNatClampNeg v, S))
            (cond (Nat.beq (rt r) 102) (vp_in i n ∧ k nx ls st (am_set I r w j i.toNatClampNeg v.toInt8.toInt32, S)) False)
        | none => False
    | _ => False
  | .sastore => match st with
    | .inl v :: .inl i :: .inr (.inr (r, w, j)) :: st => cond (Nat.beq (rt r) 103) (match h with
      | (I, S) => match S.2.1 r w j with | some n => vp_in i n ∧ k nx ls st (am_set I r w j i.toNatClampNeg v.toInt16.toInt32, S) | none => False) False
    | _ => False
  | .aastore => match st with
    | .inr (.inr (r', w', j')) :: .inl i :: .inr (.inr (r, w, j)) :: st => cond (Nat.beq (rt r) (110 + rt r') && Nat.blt r' 300) (match h with
      | (I, R, N, S) => match N r w j with | some n => vp_in i n ∧ k nx ls st (I, am_setR R r w j i.toNatClampNeg (r', w', j'), N, S) | none => False) False
    | _ => False
  | .arraylength => match st with
    | .inr (.inr (r, w, j)) :: st => cond (Nat.ble 100 (rt r)) (match h with
      | (I, S) => match S.2.1 r w j with | some n => k nx ls (.inl (Int32.ofNat n) :: st) (I, S) | none => False) False
    | _ => False
  | .new _ => ∃ r w j, (rt r = a ∧ r < 300) ∧ (match h with | (I, S) => S.2.1 r w j = none ∧ k nx ls (.inr (.inr (r, w, j)) :: st) (am_new (I, S) r w j b))
  | .newarray _ => match st with
    | .inl i :: st => ∃ r w j n, (rt r = a ∧ r < 300) ∧ i = Int32.ofNat n ∧ n < 65536 ∧ (match h with | (I, S) => S.2.1 r w j = none ∧ k nx ls (.inr (.inr (r, w, j)) :: st) (am_new (I, S) r w j n))
    | _ => False
  | .anewarray _ => match st with
    | .inl i :: st => ∃ r w j n, (rt r = 110 + a ∧ r < 300) ∧ i = Int32.ofNat n ∧ n < 65536 ∧ (match h with | (I, S) => S.2.1 r w j = none ∧ k nx ls (.inr (.inr (r, w, j)) :: st) (am_new (I, S) r w j n))
    | _ => False
  | .checkcast _ => match st with
    | .inr (.inr (r, w, j)) :: st => cond (Nat.beq (rt r) 100 && Nat.blt r 300) (k nx ls (.inr (.inr (r, w, j)) :: st) h) False
    | _ => False
  | .invokespecial _ => cond (Nat.beq a 9999) (match st with | .inr (.inr _) :: st => cond (Nat.ble (am_cat st) 8) (k nx ls st h) False | _ => False)
      (am_pop b st [] (fun as st => cond (Nat.ble (am_cat st) 8 && am_ref as) (call a as h (fun v h => match v with | none => k nx ls st h | some _ => False)) False))
  | .invokevirtual _ => cond (Nat.beq a 9998) (match st with
        | .inr (.inr (r, w, j)) :: st => cond (Nat.beq (rt r) 100 && (Nat.blt r 300 && Nat.ble (am_cat st) 8)) (∃ r' w' j' n, (rt r' = 100 ∧ r' < 300) ∧ (match h with | (I, S) => S.2.1 r w j = some n ∧ S.2.1 r' w' j' = none ∧ k nx ls (.inr (.inr (r', w', j')) :: st) ((fun H : am_H => match H with | (I', S') => (am_fill I' r' w' j' (I r w j), S')) (am_new (I, S) r' w' j' n)))) False
        | _ => False)
      (am_pop b st [] (fun as st => cond (Nat.ble (am_cat st) 8 && am_rcv rt a as) (call a as h (fun v h => match c, v with | 0, none => k nx ls st h | 1, some v => k nx ls (v :: st) h | _, _ => False)) False))
  | .invokestatic _ => am_math a st (fun st => k nx ls st h) (cond (Nat.beq a 9997) (match st with
        | .inl n :: .inl dp :: .inr (.inr (r, w, j)) :: .inl sp :: .inr (.inr (r', w', j')) :: st => cond (Nat.beq (rt r) (rt r') && (Nat.beq (rt r) 100 || Nat.beq (rt r) 101) && (Nat.ble (am_cat st) 8 && (Nat.blt r 300 && Nat.blt r' 300))) (match h with
          | (I, S) => match S.2.1 r w j, S.2.1 r' w' j' with
            | some m, some m' => ¬ sp < 0 ∧ ¬ dp < 0 ∧ ¬ n < 0 ∧ sp.toNatClampNeg + n.toNatClampNeg ≤ m' ∧ dp.toNatClampNeg + n.toNatClampNeg ≤ m ∧ k nx ls st (am_cpy I r w j (I r' w' j') sp.toNatClampNeg dp.toNatClampNeg n.toNatClampNeg, S)
            | _, _ => False) False
        | _ => False)
      (am_pop b st [] (fun as st => cond (Nat.ble (am_cat st) 8) (call a as h (fun v h => match c, v with | 0, none => k nx ls st h | 1, some v => k nx ls (v :: st) h | _, _ => False)) False)))
  | .ireturn => match st with
    | [.inl v] => cond (Nat.beq c 1) ((v = 0 ∨ v = 1) ∧ q (some (.inl v)) h) (q (some (.inl v)) h)
    | _ => False
  | .areturn => match st with | [.inr (.inr v)] => q (some (.inr (.inr v))) h | _ => False
  | .return_ => match st with | [] => q none h | _ => False
  | _ => False

/-- n instructions at most, up to a cut -/
def am_vc (call : am_C) (cd : Nat → am_X) (cut : Nat → Bool) (K : Nat → am_L → List am_V → am_H → Prop) (q : am_Q) : Nat → Nat → am_L → List am_V → am_H → Prop
  | 0, _, _, _, _ => False
  | n + 1, pc, ls, st, h => am_step rt call (cd pc) ls st h (fun pc ls st h => cond (cut pc) (K pc ls st h) (am_vc call cd cut K q n pc ls st h)) q
/-- from a place of a method to its end -/
def am_W (call : am_C) (cd : Nat → am_X) (pc : Nat) (ls : am_L) (st : List am_V) (h : am_H) (q : am_Q) : Prop :=
  ∃ n, am_vc rt call cd (fun _ => false) (fun _ _ _ _ => False) q n pc ls st h
/-- a call, d deep at most -/
def am_call (P : Nat → (Nat → am_X) × Nat) : Nat → am_C
  | 0, _, _, _, _ => False
  | d + 1, y, as, h, q => match P y with | (cd, m) => Nat.ble (am_cat as) m = true ∧ am_W rt (am_call P d) cd 0 (am_loc as m) [] h q
end am
