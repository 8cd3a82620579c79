section
/-! THE SMALL MACHINE. A deterministic abstract machine over the bytecode: abstract values, a heap of named cells (role, world, number), a predicate transformer for each instruction ('am_step'), for a run inside a method ('am_vc'), for a call ('am_call'). Its soundness over the kit's machine is another part. -/
abbrev am_K : Type := Nat × Nat × Nat
/-- an int, a long, a reference -/
abbrev am_V : Type := Int32 ⊕ (Int64 ⊕ am_K)
/-- ints by role, world, number, slot -/
abbrev am_I : Type := Nat → Nat → Nat → Nat → Int32
/-- references by role, world, number, slot -/
abbrev am_R : Type := Nat → Nat → Nat → Nat → Option am_K
/-- what is there: an array's length, an object's number of fields -/
abbrev am_N : Type := Nat → Nat → Nat → Option Nat
/-- references, what is there, cells made, slots made -/
abbrev am_S : Type := am_R × am_N × Nat × Nat
abbrev am_H : Type := am_I × am_S
abbrev am_L : Type := List (Option am_V)
/-- instruction, the next place, a number, three places, a switch's table -/
abbrev am_X : Type := Instr × Nat × Int32 × Nat × Nat × Nat × List (Int32 × Nat)
abbrev am_Q : Type := Option am_V → am_H → Prop
abbrev am_C : Type := Nat → List am_V → am_H → am_Q → Prop

def am_set (I : am_I) (r w j s : Nat) (v : Int32) : am_I := fun r' w' j' s' => if r' = r then (if w' = w ∧ j' = j ∧ s' = s then v else I r' w' j' s') else I r' w' j' s'
def am_setR (R : am_R) (r w j s : Nat) (v : am_K) : am_R := fun r' w' j' s' => if r' = r then (if w' = w ∧ j' = j ∧ s' = s then some v else R r' w' j' s') else R r' w' j' s'
/-- a cell is made: its ints are 0, its references null -/
def am_newI (I : am_I) (r w j : Nat) : am_I := fun r' w' j' s' => if r' = r then (if w' = w ∧ j' = j then 0 else I r' w' j' s') else I r' w' j' s'
def am_newR (R : am_R) (r w j : Nat) : am_R := fun r' w' j' s' => if r' = r then (if w' = w ∧ j' = j then none else R r' w' j' s') else R r' w' j' s'
def am_newN (N : am_N) (r w j n : Nat) : am_N := fun r' w' j' => if r' = r then (if w' = w ∧ j' = j then some n else N r' w' j') else N r' w' j'
def am_new (h : am_H) (r w j n : Nat) : am_H := match h with
  | (I, R, N, c, m) => (am_newI I r w j, am_newR R r w j, am_newN N r w j n, c + 1, m + n)
/-- n slots copied -/
def am_cpy (I : am_I) (r w j : Nat) (g : Nat → Int32) (sp dp n : Nat) : am_I := fun r' w' j' s' => if r' = r then (if w' = w ∧ j' = j then va_cpy g (I r' w' j') sp dp n s' else I r' w' j' s') else I r' w' j' s'
def am_fill (I : am_I) (r w j : Nat) (g : Nat → Int32) : am_I := fun r' w' j' s' => if r' = r then (if w' = w ∧ j' = j then g s' else I r' w' j' s') else I r' w' j' s'

def am_ld : am_L → Nat → Option am_V
  | [], _ => none
  | v :: _, 0 => v
  | _ :: l, n + 1 => am_ld l n
def am_nol : Option am_V → Option am_V
  | some (.inr (.inl _)) => none
  | x => x
def am_sto : am_L → Nat → am_V → am_L
  | [], _, _ => []
  | _ :: l, 0, v => some v :: l
  | x :: l, 1, v => am_nol x :: am_sto l 0 v
  | x :: l, n + 2, v => x :: am_sto l (n + 1) v
def am_seq {α : Type} : List α → (List α → Prop) → Prop
  | [], f => f []
  | a :: l, f => am_seq l (fun l' => f (a :: l'))
/-- n values off the stack, the deepest first -/
def am_pop : Nat → List am_V → List am_V → (List am_V → List am_V → Prop) → Prop
  | 0, st, as, f => f as st
  | n + 1, v :: st, as, f => am_pop n st (v :: as) f
  | _ + 1, [], _, _ => False
def am_cat : List am_V → Nat
  | [] => 0
  | .inr (.inl _) :: l => 2 + am_cat l
  | _ :: l => 1 + am_cat l
def am_sw : List (Int32 × Nat) → Int32 → Nat → (Nat → Prop) → Prop
  | [], _, d, f => f d
  | (v, t) :: l, x, d, f => (x = v → f t) ∧ (¬ x = v → am_sw l x d f)
/-- the locals that a method begins with -/
def am_loc : List am_V → Nat → am_L
  | [], n => List.replicate n none
  | .inr (.inl v) :: as, n + 2 => some (.inr (.inl v)) :: none :: am_loc as n
  | a :: as, n + 1 => some a :: am_loc as n
  | _ :: _, 0 => []

/-- max, min, abs of Math; else g -/
def am_math (a : Nat) (st : List am_V) (f : List am_V → Prop) (g : Prop) : Prop :=
  cond (Nat.beq a 9996) (match st with | .inl y :: .inl z :: st => cond (Nat.ble (am_cat st) 8) (f (.inl (if z < y then y else z) :: st)) False | _ => False)
    (cond (Nat.beq a 9995) (match st with | .inl y :: .inl z :: st => cond (Nat.ble (am_cat st) 8) (f (.inl (if y < z then y else z) :: st)) False | _ => False)
      (cond (Nat.beq a 9994) (match st with | .inl z :: st => cond (Nat.ble (am_cat st) 8) (f (.inl (if 0 ≤ z then z else 0 - z) :: st)) False | _ => False) g))
def am_ref (as : List am_V) : Bool := match as with
  | .inr (.inr _) :: _ => true
  | _ => false
section am
variable (rt : Nat → Nat)
/-- the receiver is of the method's class -/
def am_rcv (a : Nat) (as : List am_V) : Bool := match as with
  | .inr (.inr (r, _, _)) :: _ => Nat.beq (rt r) (a / 100)
  | _ => false
def am_step (call : am_C) (x : am_X) (ls : am_L) (st : List am_V) (h : am_H) (k : Nat → am_L → List am_V → am_H → Prop) (q : am_Q) : Prop :=
  match x with
  | (ins, nx, im, a, b, c, sw) =>
  match ins with
  | .iconst _ => k nx ls (.inl im :: st) h
  | .bipush _ => k nx ls (.inl im :: st) h
  | .sipush _ => k nx ls (.inl im :: st) h
  | .ldc _ => k nx ls (.inl im :: st) h
  | .ldc_w _ => k nx ls (.inl im :: st) h
  | .ldc2_w _ => k nx ls (.inr (.inl (Int64.ofNat a)) :: st) h
  | .iload _ => match am_ld ls a with | some (.inl v) => k nx ls (.inl v :: st) h | _ => False
  | .iload_n _ => match am_ld ls a with | some (.inl v) => k nx ls (.inl v :: st) h | _ => False
  | .lload_n _ => match am_ld ls a with | some (.inr (.inl v)) => k nx ls (.inr (.inl v) :: st) h | _ => False
  | .aload _ => match am_ld ls a with | some (.inr (.inr v)) => k nx ls (.inr (.inr v) :: st) h | _ => False
  | .aload_n _ => match am_ld ls a with | some (.inr (.inr v)) => k nx ls (.inr (.inr v) :: st) h | _ => False
  | .istore _ => match st with | .inl v :: st => am_seq (am_sto ls a (.inl v)) (fun ls => k nx ls st h) | _ => False
  | .istore_n _ => match st with | .inl v :: st => am_seq (am_sto ls a (.inl v)) (fun ls => k nx ls st h) | _ => False
  | .astore _ => match st with | .inr (.inr v) :: st => am_seq (am_sto ls a (.inr (.inr v))) (fun ls => k nx ls st h) | _ => False
  | .astore_n _ => match st with | .inr (.inr v) :: st => am_seq (am_sto ls a (.inr (.inr v))) (fun ls => k nx ls st h) | _ => False
  | .iinc _ _ => match am_ld ls a with | some (.inl v) => am_seq (am_sto ls a (.inl (v + im))) (fun ls => k nx ls st h) | _ => False
  | .pop => match st with | .inl _ :: st => k nx ls st h | .inr (.inr _) :: st => k nx ls st h | _ => False
  | .dup => match st with | .inl v :: st => k nx ls (.inl v :: .inl v :: st) h | .inr (.inr v) :: st => k nx ls (.inr (.inr v) :: .inr (.inr v) :: st) h | _ => False
  | .dup_x1 => match st with | .inl v :: .inr (.inr w) :: st => k nx ls (.inl v :: .inr (.inr w) :: .inl v :: st) h | .inl v :: .inl w :: st => k nx ls (.inl v :: .inl w :: .inl v :: st) h | _ => False
  | .dup2 => match st with | .inl v :: .inr (.inr w) :: st => k nx ls (.inl v :: .inr (.inr w) :: .inl v :: .inr (.inr w) :: st) h | _ => False
  | .iadd => match st with | .inl y :: .inl z :: st => k nx ls (.inl (z + y) :: st) h | _ => False
  | .isub => match st with | .inl y :: .inl z :: st => k nx ls (.inl (z - y) :: st) h | _ => False
  | .imul => match st with | .inl y :: .inl z :: st => k nx ls (.inl (z * y) :: st) h | _ => False
  | .idiv => match st with | .inl y :: .inl z :: st => ¬ y = 0 ∧ k nx ls (.inl (z / y) :: st) h | _ => False
  | .irem => match st with | .inl y :: .inl z :: st => ¬ y = 0 ∧ k nx ls (.inl (z - z / y * y) :: st) h | _ => False
  | .ineg => match st with | .inl z :: st => k nx ls (.inl (-z) :: st) h | _ => False
  | .iand => match st with | .inl y :: .inl z :: st => k nx ls (.inl (z &&& y) :: st) h | _ => False
  | .ior => match st with | .inl y :: .inl z :: st => k nx ls (.inl (z ||| y) :: st) h | _ => False
  | .ishl => match st with | .inl y :: .inl z :: st => k nx ls (.inl (z <<< (y &&& 31)) :: st) h | _ => False
  | .ishr => match st with | .inl y :: .inl z :: st => k nx ls (.inl (z >>> (y &&& 31)) :: st) h | _ => False
  | .iushr => match st with | .inl y :: .inl z :: st => k nx ls (.inl ((z.toUInt32 >>> (y.toUInt32 &&& Int32.toUInt32 31)).toInt32) :: st) h | _ => False
  | .i2l => match st with | .inl z :: st => k nx ls (.inr (.inl z.toInt64) :: st) h | _ => False
  | .l2i => match st with | .inr (.inl z) :: st => k nx ls (.inl z.toInt32 :: st) h | _ => False
  | .i2b => match st with | .inl z :: st => k nx ls (.inl z.toInt8.toInt32 :: st) h | _ => False
  | .i2s => match st with | .inl z :: st => k nx ls (.inl z.toInt16.toInt32 :: st) h | _ => False
  | .land => match st with | .inr (.inl y) :: .inr (.inl z) :: st => k nx ls (.inr (.inl (z &&& y)) :: st) h | _ => False
  | .lor => match st with | .inr (.inl y) :: .inr (.inl z) :: st => k nx ls (.inr (.inl (z ||| y)) :: st) h | _ => False
  | .lshl => match st with | .inl y :: .inr (.inl z) :: st => k nx ls (.inr (.inl (z <<< (y.toInt64 &&& 63))) :: st) h | _ => False
  | .lshr => match st with | .inl y :: .inr (.inl z) :: st => k nx ls (.inr (.inl (z >>> (y.toInt64 &&& 63))) :: st) h | _ => False
  | .lushr => match st with | .inl y :: .inr (.inl z) :: st => k nx ls (.inr (.inl ((z.toUInt64 >>> (y.toInt64.toUInt64 &&& Int64.toUInt64 63)).toInt64)) :: st) h | _ => False
  | .ifCond d _ => match st with
    | .inl z :: st => match d with
      | .eq => (z = 0 → k a ls st h) ∧ (¬ z = 0 → k nx ls st h)
      | .ne => (¬ z = 0 → k a ls st h) ∧ (z = 0 → k nx ls st h)
      | .lt => (z < 0 → k a ls st h) ∧ (¬ z < 0 → k nx ls st h)
      | .ge => (0 ≤ z → k a ls st h) ∧ (¬ 0 ≤ z → k nx ls st h)
      | .gt => (0 < z → k a ls st h) ∧ (¬ 0 < z → k nx ls st h)
      | .le => (z ≤ 0 → k a ls st h) ∧ (¬ z ≤ 0 → k nx ls st h)
    | _ => False
  | .if_icmp d _ => match st with
    | .inl y :: .inl z :: st => match d with
      | .eq => (z = y → k a ls st h) ∧ (¬ z = y → k nx ls st h)
      | .ne => (¬ z = y → k a ls st h) ∧ (z = y → k nx ls st h)
      | .lt => (z < y → k a ls st h) ∧ (¬ z < y → k nx ls st h)
      | .ge => (y ≤ z → k a ls st h) ∧ (¬ y ≤ z → k nx ls st h)
      | .gt => (y < z → k a ls st h) ∧ (¬ y < z → k nx ls st h)
      | .le => (z ≤ y → k a ls st h) ∧ (¬ z ≤ y → k nx ls st h)
    | _ => False
  | .goto _ => k a ls st h
  | .tableswitch _ _ _ _ => match st with | .inl z :: st => am_sw sw z a (fun t => k t ls st h) | _ => False
  | .lookupswitch _ _ => match st with | .inl z :: st => am_sw sw z a (fun t => k t ls st h) | _ => False
  | .getfield _ => match st with
    | .inr (.inr (r, w, j)) :: st => cond (Nat.beq (rt r) a) (match h with
      | (I, S) => cond (Nat.beq c 2) (match S.1 r w j b with | some v => k nx ls (.inr (.inr v) :: st) (I, S) | none => False) (k nx ls (.inl (I r w j b) :: st) (I, S))) False
    | _ => False
  | .putfield _ => match st with
    | .inl v :: .inr (.inr (r, w, j)) :: st => cond (Nat.beq (rt r) a) (match h with
      | (I, S) => match c with
        | 0 => k nx ls st (am_set I r w j b v, S)
        | 1 => (v = 0 ∨ v = 1) ∧ k nx ls st (am_set I r w j b v, S)
        | _ => False) False
    | .inr (.inr v) :: .inr (.inr (r, w, j)) :: st => cond (Nat.beq (rt r) a && (Nat.beq c 2 && Nat.blt v.1 300)) (match h with
      | (I, R, S) => k nx ls st (I, am_setR R r w j b v, S)) False
    | _ => False
  | .getstatic _ => k nx ls (.inr (.inr (a, 0, 0)) :: st) h
  | .iaload => match st with
    | .inl i :: .inr (.inr (r, w, j)) :: st => cond (Nat.beq (rt r) 100) (match h with
      | (I, S) => match S.2.1 r w j with | some n => vp_in i n ∧ k nx ls (.inl (I r w j i.toNatClampNeg) :: st) (I, S) | none => False) False
    | _ => False
  | .baload => match st with
    | .inl i :: .inr (.inr (r, w, j)) :: st => cond (Nat.beq (rt r) 101 || Nat.beq (rt r) 102) (match h with
      | (I, S) => match S.2.1 r w j with | some n => vp_in i n ∧ k nx ls (.inl (I r w j i.toNatClampNeg) :: st) (I, S) | none => False) False
    | _ => False
  | .saload => match st with
    | .inl i :: .inr (.inr (r, w, j)) :: st => cond (Nat.beq (rt r) 103) (match h with
      | (I, S) => match S.2.1 r w j with | some n => vp_in i n ∧ k nx ls (.inl (I r w j i.toNatClampNeg) :: st) (I, S) | none => False) False
    | _ => False
  | .aaload => match st with
    | .inl i :: .inr (.inr (r, w, j)) :: st => cond (Nat.ble 110 (rt r) && Nat.blt r 300) (match h with
      | (I, S) => match S.2.1 r w j with
        | some n => vp_in i n ∧ ∃ r' w' j', S.1 r w j i.toNatClampNeg = some (r', w', j') ∧ k nx ls (.inr (.inr (r', w', j')) :: st) (I, S)
        | none => False) False
    | _ => False
  | .iastore => match st with
    | .inl v :: .inl i :: .inr (.inr (r, w, j)) :: st => cond (Nat.beq (rt r) 100 && Nat.blt r 300) (match h with
      | (I, S) => match S.2.1 r w j with | some n => vp_in i n ∧ k nx ls st (am_set I r w j i.toNatClampNeg v, S) | none => False) False
    | _ => False
  | .bastore => match st with
    | .inl v :: .inl i :: .inr (.inr (r, w, j)) :: st => match h with
      | (I, S) => match S.2.1 r w j with
        | some n => cond (Nat.beq (rt r) 101) (vp_in i n ∧ (v = 0 ∨ v = 1) ∧ k nx ls st (am_set I r w j i.toNatClampNeg v, S))
            (cond (Nat.beq (rt r) 102) (vp_in i n ∧ k nx ls st (am_set I r w j i.toNatClampNeg v.toInt8.toInt32, S)) False)
        | none => False
    | _ => False
  | .sastore => match st with
    | .inl v :: .inl i :: .inr (.inr (r, w, j)) :: st => cond (Nat.beq (rt r) 103) (match h with
      | (I, S) => match S.2.1 r w j with | some n => vp_in i n ∧ k nx ls st (am_set I r w j i.toNatClampNeg v.toInt16.toInt32, S) | none => False) False
    | _ => False
  | .aastore => match st with
    | .inr (.inr (r', w', j')) :: .inl i :: .inr (.inr (r, w, j)) :: st => cond (Nat.beq (rt r) (110 + rt r') && Nat.blt r' 300) (match h with
      | (I, R, N, S) => match N r w j with | some n => vp_in i n ∧ k nx ls st (I, am_setR R r w j i.toNatClampNeg (r', w', j'), N, S) | none => False) False
    | _ => False
  | .arraylength => match st with
    | .inr (.inr (r, w, j)) :: st => cond (Nat.ble 100 (rt r)) (match h with
      | (I, S) => match S.2.1 r w j with | some n => k nx ls (.inl (Int32.ofNat n) :: st) (I, S) | none => False) False
    | _ => False
  | .new _ => ∃ r w j, (rt r = a ∧ r < 300) ∧ (match h with | (I, S) => S.2.1 r w j = none ∧ k nx ls (.inr (.inr (r, w, j)) :: st) (am_new (I, S) r w j b))
  | .newarray _ => match st with
    | .inl i :: st => ∃ r w j n, (rt r = a ∧ r < 300) ∧ i = Int32.ofNat n ∧ n < 65536 ∧ (match h with | (I, S) => S.2.1 r w j = none ∧ k nx ls (.inr (.inr (r, w, j)) :: st) (am_new (I, S) r w j n))
    | _ => False
  | .anewarray _ => match st with
    | .inl i :: st => ∃ r w j n, (rt r = 110 + a ∧ r < 300) ∧ i = Int32.ofNat n ∧ n < 65536 ∧ (match h with | (I, S) => S.2.1 r w j = none ∧ k nx ls (.inr (.inr (r, w, j)) :: st) (am_new (I, S) r w j n))
    | _ => False
  | .checkcast _ => match st with
    | .inr (.inr (r, w, j)) :: st => cond (Nat.beq (rt r) 100 && Nat.blt r 300) (k nx ls (.inr (.inr (r, w, j)) :: st) h) False
    | _ => False
  | .invokespecial _ => cond (Nat.beq a 9999) (match st with | .inr (.inr _) :: st => cond (Nat.ble (am_cat st) 8) (k nx ls st h) False | _ => False)
      (am_pop b st [] (fun as st => cond (Nat.ble (am_cat st) 8 && am_ref as) (call a as h (fun v h => match v with | none => k nx ls st h | some _ => False)) False))
  | .invokevirtual _ => cond (Nat.beq a 9998) (match st with
        | .inr (.inr (r, w, j)) :: st => cond (Nat.beq (rt r) 100 && (Nat.blt r 300 && Nat.ble (am_cat st) 8)) (∃ r' w' j' n, (rt r' = 100 ∧ r' < 300) ∧ (match h with | (I, S) => S.2.1 r w j = some n ∧ S.2.1 r' w' j' = none ∧ k nx ls (.inr (.inr (r', w', j')) :: st) ((fun H : am_H => match H with | (I', S') => (am_fill I' r' w' j' (I r w j), S')) (am_new (I, S) r' w' j' n)))) False
        | _ => False)
      (am_pop b st [] (fun as st => cond (Nat.ble (am_cat st) 8 && am_rcv rt a as) (call a as h (fun v h => match c, v with | 0, none => k nx ls st h | 1, some v => k nx ls (v :: st) h | _, _ => False)) False))
  | .invokestatic _ => am_math a st (fun st => k nx ls st h) (cond (Nat.beq a 9997) (match st with
        | .inl n :: .inl dp :: .inr (.inr (r, w, j)) :: .inl sp :: .inr (.inr (r', w', j')) :: st => cond (Nat.beq (rt r) (rt r') && (Nat.beq (rt r) 100 || Nat.beq (rt r) 101) && (Nat.ble (am_cat st) 8 && (Nat.blt r 300 && Nat.blt r' 300))) (match h with
          | (I, S) => match S.2.1 r w j, S.2.1 r' w' j' with
            | some m, some m' => ¬ sp < 0 ∧ ¬ dp < 0 ∧ ¬ n < 0 ∧ sp.toNatClampNeg + n.toNatClampNeg ≤ m' ∧ dp.toNatClampNeg + n.toNatClampNeg ≤ m ∧ k nx ls st (am_cpy I r w j (I r' w' j') sp.toNatClampNeg dp.toNatClampNeg n.toNatClampNeg, S)
            | _, _ => False) False
        | _ => False)
      (am_pop b st [] (fun as st => cond (Nat.ble (am_cat st) 8) (call a as h (fun v h => match c, v with | 0, none => k nx ls st h | 1, some v => k nx ls (v :: st) h | _, _ => False)) False)))
  | .ireturn => match st with
    | [.inl v] => cond (Nat.beq c 1) ((v = 0 ∨ v = 1) ∧ q (some (.inl v)) h) (q (some (.inl v)) h)
    | _ => False
  | .areturn => match st with | [.inr (.inr v)] => q (some (.inr (.inr v))) h | _ => False
  | .return_ => match st with | [] => q none h | _ => False
  | _ => False

/-- n instructions at most, up to a cut -/
def am_vc (call : am_C) (cd : Nat → am_X) (cut : Nat → Bool) (K : Nat → am_L → List am_V → am_H → Prop) (q : am_Q) : Nat → Nat → am_L → List am_V → am_H → Prop
  | 0, _, _, _, _ => False
  | n + 1, pc, ls, st, h => am_step rt call (cd pc) ls st h (fun pc ls st h => cond (cut pc) (K pc ls st h) (am_vc call cd cut K q n pc ls st h)) q
/-- from a place of a method to its end -/
def am_W (call : am_C) (cd : Nat → am_X) (pc : Nat) (ls : am_L) (st : List am_V) (h : am_H) (q : am_Q) : Prop :=
  ∃ n, am_vc rt call cd (fun _ => false) (fun _ _ _ _ => False) q n pc ls st h
/-- a call, d deep at most -/
def am_call (P : Nat → (Nat → am_X) × Nat) : Nat → am_C
  | 0, _, _, _, _ => False
  | d + 1, y, as, h, q => match P y with | (cd, m) => Nat.ble (am_cat as) m = true ∧ am_W rt (am_call P d) cd 0 (am_loc as m) [] h q
end am
end
section
theorem am_seq_eq {α : Type} (l : List α) (f : List α → Prop) : am_seq l f = f l := by
  induction l generalizing f with
  | nil => rfl
  | cons a l ih => exact ih _
theorem am_pop_ex {Z : Type} {f : List am_V → List am_V → Prop} {X : Z → List am_V → List am_V → Prop} (hf : ∀ a s, f a s → ∃ z, X z a s) : ∀ (n : Nat) (st as : List am_V), am_pop n st as f → ∃ z, am_pop n st as (X z) := by
  intro n
  induction n with
  | zero => intro st as h; exact hf _ _ h
  | succ n ih =>
    intro st as h
    cases st with
    | nil => exact h.elim
    | cons v st => exact ih _ _ h
theorem am_sw_ex {Z : Type} {f : Nat → Prop} {X : Z → Nat → Prop} (hf : ∀ t, f t → ∃ z, X z t) (x : Int32) (d : Nat) : ∀ l : List (Int32 × Nat), am_sw l x d f → ∃ z, am_sw l x d (X z) := by
  intro l
  induction l with
  | nil => intro h; exact hf _ h
  | cons q l ih =>
    obtain ⟨v, t⟩ := q
    intro h
    by_cases hx : x = v
    · obtain ⟨z, hz⟩ := hf _ (h.1 hx)
      exact ⟨z, fun _ => hz, fun h => absurd hx h⟩
    · obtain ⟨z, hz⟩ := ih (h.2 hx)
      exact ⟨z, fun h => absurd h hx, fun _ => hz⟩
/-- a call's promise may be weakened, and what it gives may be chosen ahead -/
def am_good (call : am_C) : Prop := ∀ (Z : Type) (y : Nat) (as : List am_V) (h : am_H) (q : am_Q) (X : Z → am_Q), (∀ v h, q v h → ∃ z, X z v h) → call y as h q → ∃ z, call y as h (X z)
theorem am_br {Z : Type} {c A B : Prop} {A' B' : Z → Prop} (ha : A → ∃ z, A' z) (hb : B → ∃ z, B' z) (h : (c → A) ∧ (¬ c → B)) : ∃ z, (c → A' z) ∧ (¬ c → B' z) := by
  by_cases hc : c
  · obtain ⟨z, hz⟩ := ha (h.1 hc)
    exact ⟨z, fun _ => hz, fun h => absurd hc h⟩
  · obtain ⟨z, hz⟩ := hb (h.2 hc)
    exact ⟨z, fun h => absurd h hc, fun _ => hz⟩
theorem am_br' {Z : Type} {c A B : Prop} {A' B' : Z → Prop} (ha : A → ∃ z, A' z) (hb : B → ∃ z, B' z) (h : (¬ c → A) ∧ (c → B)) : ∃ z, (¬ c → A' z) ∧ (c → B' z) := by
  by_cases hc : c
  · obtain ⟨z, hz⟩ := hb (h.2 hc)
    exact ⟨z, fun h => absurd hc h, fun _ => hz⟩
  · obtain ⟨z, hz⟩ := ha (h.1 hc)
    exact ⟨z, fun _ => hz, fun h => absurd h hc⟩
theorem am_cond_ex {Z : Type} {b : Bool} {A B : Prop} {A' B' : Z → Prop} (ha : A → ∃ z, A' z) (hb : B → ∃ z, B' z) (h : cond b A B) : ∃ z, cond b (A' z) (B' z) := by
  cases b
  · exact hb h
  · exact ha h
theorem am_and_ex {Z : Type} {c A : Prop} {A' : Z → Prop} (ha : A → ∃ z, A' z) (h : c ∧ A) : ∃ z, c ∧ A' z := by
  obtain ⟨z, hz⟩ := ha h.2
  exact ⟨z, h.1, hz⟩
theorem am_math_ex {Z : Type} {a : Nat} {st : List am_V} {f : List am_V → Prop} {F : Z → List am_V → Prop} {g : Prop} {G : Z → Prop} (hf : ∀ st, f st → ∃ z, F z st) (hg : g → ∃ z, G z) (h : am_math a st f g) : ∃ z, am_math a st (F z) (G z) := by
  have nofalse : False → ∃ z : Z, False := fun h => h.elim
  unfold am_math at h ⊢
  refine am_cond_ex (fun h => ?_) (am_cond_ex (fun h => ?_) (am_cond_ex (fun h => ?_) hg)) h <;> (split at h <;> first | exact am_cond_ex (hf _) nofalse h | exact h.elim)
theorem am_exi {Z α : Type} {A : α → Prop} {A' : Z → α → Prop} (ha : ∀ r, A r → ∃ z, A' z r) (h : ∃ r, A r) : ∃ z, ∃ r, A' z r := by
  obtain ⟨r, hr⟩ := h
  obtain ⟨z, hz⟩ := ha r hr
  exact ⟨z, r, hz⟩
theorem am_step_ex {rt : Nat → Nat} {call : am_C} (hc : am_good call) {Z : Type} (x : am_X) (ls : am_L) (st : List am_V) (h : am_H) (k : Nat → am_L → List am_V → am_H → Prop) (q : am_Q) (K : Z → Nat → am_L → List am_V → am_H → Prop) (Q : Z → am_Q)
    (hk : ∀ pc ls st h, k pc ls st h → ∃ z, K z pc ls st h) (hq : ∀ v h, q v h → ∃ z, Q z v h) (hs : am_step rt call x ls st h k q) : ∃ z, am_step rt call x ls st h (K z) (Q z) := by
  obtain ⟨ins, nx, im, a, b, c, sw⟩ := x
  obtain ⟨I, R, N, cN, sN⟩ := h
  have nofalse : False → ∃ z : Z, False := fun h => h.elim
  cases ins <;> dsimp only [am_step] at hs ⊢ <;> try exact hs.elim
  all_goals (try simp only [am_seq_eq] at hs ⊢)
  all_goals (repeat' split at hs)
  all_goals (try exact hs.elim)
  all_goals (try (rename_i heq; simp only [heq] at hs ⊢))
  all_goals (try (exact hk _ _ _ _ hs))
  all_goals (try (exact hq _ _ hs))
  all_goals (try (exact am_and_ex (hk _ _ _ _) hs))
  all_goals (try (exact am_br (hk _ _ _ _) (hk _ _ _ _) hs))
  all_goals (try (exact am_br' (hk _ _ _ _) (hk _ _ _ _) hs))
  all_goals (try (exact am_sw_ex (fun t => hk _ _ _ _) _ _ _ hs))
  all_goals (try (exact am_cond_ex (am_and_ex (hq _ _)) (hq _ _) hs))
  all_goals (try (exact am_cond_ex (hk _ _ _ _) nofalse hs))
  all_goals (try (exact am_cond_ex (am_and_ex (hk _ _ _ _)) nofalse hs))
  all_goals (try (exact am_cond_ex nofalse nofalse hs))
  all_goals (try (exact am_cond_ex (am_and_ex (am_exi fun _ => am_exi fun _ => am_exi fun _ => am_and_ex (hk _ _ _ _))) nofalse hs))
  all_goals (try (exact (am_exi fun _ => am_exi fun _ => am_exi fun _ => am_and_ex (am_and_ex (hk _ _ _ _))) hs))
  all_goals (try (exact (am_exi fun _ => am_exi fun _ => am_exi fun _ => am_exi fun _ => am_and_ex (am_and_ex (am_and_ex (am_and_ex (hk _ _ _ _))))) hs))
  all_goals (try (exact am_cond_ex (am_and_ex (am_and_ex (hk _ _ _ _))) (am_cond_ex (am_and_ex (hk _ _ _ _)) nofalse) hs))
  all_goals (try (exact am_cond_ex (am_cond_ex (hk _ _ _ _) (hk _ _ _ _)) nofalse hs))
  all_goals (try (exact am_cond_ex (am_cond_ex nofalse (hk _ _ _ _)) nofalse hs))
  all_goals (try (exact am_cond_ex (am_cond_ex nofalse nofalse) nofalse hs))
  all_goals (try (exact am_cond_ex nofalse (am_cond_ex nofalse nofalse) hs))
  all_goals (try (exact am_cond_ex (am_cond_ex (am_exi fun _ => am_exi fun _ => am_exi fun _ => am_exi fun _ => am_and_ex (am_and_ex (am_and_ex (hk _ _ _ _)))) nofalse) (am_pop_ex (fun as st => am_cond_ex (hc Z _ _ _ _ _ (fun v h hv => by split at hv <;> first | exact hk _ _ _ _ hv | exact hv.elim)) nofalse) _ _ _) hs))
  all_goals (try (exact am_math_ex (fun st => hk _ _ _ _) (am_cond_ex (am_cond_ex (am_exi fun _ => am_exi fun _ => am_exi fun _ => am_exi fun _ => am_and_ex (am_and_ex (am_and_ex (hk _ _ _ _)))) nofalse) (am_pop_ex (fun as st => am_cond_ex (hc Z _ _ _ _ _ (fun v h hv => by split at hv <;> first | exact hk _ _ _ _ hv | exact hv.elim)) nofalse) _ _ _)) hs))
  all_goals (try (exact am_cond_ex (am_cond_ex (am_and_ex (am_and_ex (am_and_ex (am_and_ex (am_and_ex (hk _ _ _ _)))))) nofalse) (am_pop_ex (fun as st => am_cond_ex (hc Z _ _ _ _ _ (fun v h hv => by split at hv <;> first | exact hk _ _ _ _ hv | exact hv.elim)) nofalse) _ _ _) hs))
  all_goals (try (exact am_math_ex (fun st => hk _ _ _ _) (am_cond_ex (am_cond_ex (am_and_ex (am_and_ex (am_and_ex (am_and_ex (am_and_ex (hk _ _ _ _)))))) nofalse) (am_pop_ex (fun as st => am_cond_ex (hc Z _ _ _ _ _ (fun v h hv => by split at hv <;> first | exact hk _ _ _ _ hv | exact hv.elim)) nofalse) _ _ _)) hs))
  all_goals (try (exact am_cond_ex (am_cond_ex nofalse nofalse) (am_pop_ex (fun as st => am_cond_ex (hc Z _ _ _ _ _ (fun v h hv => by split at hv <;> first | exact hk _ _ _ _ hv | exact hv.elim)) nofalse) _ _ _) hs))
  all_goals (try (exact am_math_ex (fun st => hk _ _ _ _) (am_cond_ex (am_cond_ex nofalse nofalse) (am_pop_ex (fun as st => am_cond_ex (hc Z _ _ _ _ _ (fun v h hv => by split at hv <;> first | exact hk _ _ _ _ hv | exact hv.elim)) nofalse) _ _ _)) hs))
  all_goals (try (exact am_cond_ex (am_cond_ex (hk _ _ _ _) nofalse) (am_pop_ex (fun as st => am_cond_ex (hc Z _ _ _ _ _ (fun v h hv => by split at hv <;> first | exact hk _ _ _ _ hv | exact hv.elim)) nofalse) _ _ _) hs))
  all_goals (try (exact am_math_ex (fun st => hk _ _ _ _) (am_cond_ex (am_cond_ex (hk _ _ _ _) nofalse) (am_pop_ex (fun as st => am_cond_ex (hc Z _ _ _ _ _ (fun v h hv => by split at hv <;> first | exact hk _ _ _ _ hv | exact hv.elim)) nofalse) _ _ _)) hs))
  all_goals (try (exact am_cond_ex nofalse (am_pop_ex (fun as st => am_cond_ex (hc Z _ _ _ _ _ (fun v h hv => by split at hv <;> first | exact hk _ _ _ _ hv | exact hv.elim)) nofalse) _ _ _) hs))
  all_goals (try (exact am_math_ex (fun st => hk _ _ _ _) (am_cond_ex nofalse (am_pop_ex (fun as st => am_cond_ex (hc Z _ _ _ _ _ (fun v h hv => by split at hv <;> first | exact hk _ _ _ _ hv | exact hv.elim)) nofalse) _ _ _)) hs))
theorem am_step_mono {rt : Nat → Nat} {call : am_C} (hc : am_good call) {x : am_X} {ls : am_L} {st : List am_V} {h : am_H} {k K : Nat → am_L → List am_V → am_H → Prop} {q Q : am_Q}
    (hs : am_step rt call x ls st h k q) (hk : ∀ pc ls st h, k pc ls st h → K pc ls st h) (hq : ∀ v h, q v h → Q v h) : am_step rt call x ls st h K Q := by
  obtain ⟨_, h⟩ := am_step_ex hc (Z := Unit) x ls st h k q (fun _ => K) (fun _ => Q) (fun a b c d e => ⟨(), hk a b c d e⟩) (fun a b c => ⟨(), hq a b c⟩) hs
  exact h
theorem am_vc_ex {rt : Nat → Nat} {call : am_C} (hc : am_good call) {Z : Type} (cd : Nat → am_X) (cut : Nat → Bool) (k : Nat → am_L → List am_V → am_H → Prop) (q : am_Q) (K : Z → Nat → am_L → List am_V → am_H → Prop) (Q : Z → am_Q)
    (hk : ∀ pc ls st h, k pc ls st h → ∃ z, K z pc ls st h) (hq : ∀ v h, q v h → ∃ z, Q z v h) : ∀ n pc ls st h, am_vc rt call cd cut k q n pc ls st h → ∃ z, am_vc rt call cd cut (K z) (Q z) n pc ls st h := by
  intro n
  induction n with
  | zero => intro _ _ _ _ h; exact h.elim
  | succ n ih =>
    intro pc ls st h hs
    exact am_step_ex hc _ _ _ _ _ _ (fun z pc ls st h => cond (cut pc) (K z pc ls st h) (am_vc rt call cd cut (K z) (Q z) n pc ls st h)) Q (fun pc ls st h => am_cond_ex (hk pc ls st h) (ih pc ls st h)) hq hs
theorem am_vc_mono {rt : Nat → Nat} {call : am_C} (hc : am_good call) {cd : Nat → am_X} {cut : Nat → Bool} {k K : Nat → am_L → List am_V → am_H → Prop} {q Q : am_Q} {n pc : Nat} {ls : am_L} {st : List am_V} {h : am_H}
    (hs : am_vc rt call cd cut k q n pc ls st h) (hk : ∀ pc ls st h, k pc ls st h → K pc ls st h) (hq : ∀ v h, q v h → Q v h) : am_vc rt call cd cut K Q n pc ls st h := by
  obtain ⟨_, h⟩ := am_vc_ex hc (Z := Unit) cd cut k q (fun _ => K) (fun _ => Q) (fun a b c d e => ⟨(), hk a b c d e⟩) (fun a b c => ⟨(), hq a b c⟩) n pc ls st h hs
  exact h
theorem am_W_step {rt : Nat → Nat} {call : am_C} (hc : am_good call) {cd : Nat → am_X} {pc : Nat} {ls : am_L} {st : List am_V} {h : am_H} {q : am_Q}
    (hs : am_step rt call (cd pc) ls st h (fun pc ls st h => am_W rt call cd pc ls st h q) q) : am_W rt call cd pc ls st h q := by
  obtain ⟨n, hn⟩ := am_step_ex hc (Z := Nat) _ _ _ _ _ _ (fun n pc ls st h => am_vc rt call cd (fun _ => false) (fun _ _ _ _ => False) q n pc ls st h) (fun _ => q) (fun _ _ _ _ h => h) (fun _ _ h => ⟨0, h⟩) hs
  exact ⟨n + 1, hn⟩
/-- up to the cuts, and from there on -/
theorem am_W_vc {rt : Nat → Nat} {call : am_C} (hc : am_good call) {cd : Nat → am_X} {q : am_Q} (cut : Nat → Bool) : ∀ (n : Nat) {pc : Nat} {ls : am_L} {st : List am_V} {h : am_H},
    am_vc rt call cd cut (fun pc ls st h => am_W rt call cd pc ls st h q) q n pc ls st h → am_W rt call cd pc ls st h q := by
  intro n
  induction n with
  | zero => intro _ _ _ _ h; exact h.elim
  | succ n ih =>
    intro pc ls st h hs
    refine am_W_step hc (am_step_mono hc hs (fun pc ls st h hh => ?_) (fun _ _ h => h))
    cases hb : cut pc
    · rw [hb] at hh; exact ih hh
    · rw [hb] at hh; exact hh
theorem am_W_ex {rt : Nat → Nat} {call : am_C} (hc : am_good call) {Z : Type} {cd : Nat → am_X} {pc : Nat} {ls : am_L} {st : List am_V} {h : am_H} {q : am_Q} {Q : Z → am_Q} (hq : ∀ v h, q v h → ∃ z, Q z v h)
    (hs : am_W rt call cd pc ls st h q) : ∃ z, am_W rt call cd pc ls st h (Q z) := by
  obtain ⟨n, hn⟩ := hs
  obtain ⟨z, hz⟩ := am_vc_ex hc cd (fun _ => false) _ q (fun _ _ _ _ _ => False) Q (fun _ _ _ _ h => h.elim) hq n pc ls st h hn
  exact ⟨z, n, hz⟩
theorem am_call_good (rt : Nat → Nat) (P : Nat → (Nat → am_X) × Nat) : ∀ d, am_good (am_call rt P d) := by
  intro d
  induction d with
  | zero => intro Z y as h q X _ hs; exact hs.elim
  | succ d ih =>
    intro Z y as h q X hq hs
    obtain ⟨z, hz⟩ := am_W_ex ih hq hs.2
    exact ⟨z, hs.1, hz⟩
theorem am_call_mono {rt : Nat → Nat} {P : Nat → (Nat → am_X) × Nat} {d y : Nat} {as : List am_V} {h : am_H} {q Q : am_Q} (hs : am_call rt P d y as h q) (hq : ∀ v h, q v h → Q v h) : am_call rt P d y as h Q := by
  obtain ⟨_, h⟩ := am_call_good rt P d Unit y as h q (fun _ => Q) (fun v h e => ⟨(), hq v h e⟩) hs
  exact h
/-- what a call gives is one thing -/
theorem am_call_one {rt : Nat → Nat} {P : Nat → (Nat → am_X) × Nat} {d y : Nat} {as : List am_V} {h : am_H} {q : am_Q} (hs : am_call rt P d y as h q) : ∃ v h', q v h' ∧ am_call rt P d y as h (fun v1 h1 => v1 = v ∧ h1 = h') := by
  obtain ⟨⟨⟨v, h'⟩, hz⟩, h1⟩ := am_call_good rt P d {z : Option am_V × am_H // q z.1 z.2} y as h q (fun z v1 h1 => v1 = z.1.1 ∧ h1 = z.1.2) (fun v h e => ⟨⟨(v, h), e⟩, rfl, rfl⟩) hs
  exact ⟨v, h', hz, h1⟩
end
section
/-- the cells and slots made only grow -/
def am_le (h h' : am_H) : Prop := h.2.2.2.1 ≤ h'.2.2.2.1 ∧ h.2.2.2.2 ≤ h'.2.2.2.2
theorem am_le_rfl (h : am_H) : am_le h h := ⟨Nat.le_refl _, Nat.le_refl _⟩
theorem am_le_trans {a b c : am_H} (h : am_le a b) (h' : am_le b c) : am_le a c := ⟨Nat.le_trans h.1 h'.1, Nat.le_trans h.2 h'.2⟩
theorem am_cond_map {b : Bool} {A B A' B' : Prop} (ha : A → A') (hb : B → B') (h : cond b A B) : cond b A' B' := by
  cases b
  · exact hb h
  · exact ha h
theorem am_and_map {c A A' : Prop} (ha : A → A') (h : c ∧ A) : c ∧ A' := ⟨h.1, ha h.2⟩
theorem am_br_map {c c' A B A' B' : Prop} (ha : A → A') (hb : B → B') (h : (c → A) ∧ (c' → B)) : (c → A') ∧ (c' → B') := ⟨fun x => ha (h.1 x), fun x => hb (h.2 x)⟩
theorem am_ex_map {α : Type} {A A' : α → Prop} (ha : ∀ r, A r → A' r) (h : ∃ r, A r) : ∃ r, A' r := by
  obtain ⟨r, hr⟩ := h
  exact ⟨r, ha r hr⟩
theorem am_pop_map {f f' : List am_V → List am_V → Prop} (hf : ∀ a s, f a s → f' a s) (n : Nat) (st as : List am_V) (h : am_pop n st as f) : am_pop n st as f' := by
  obtain ⟨_, h⟩ := am_pop_ex (Z := Unit) (X := fun _ => f') (fun a s x => ⟨(), hf a s x⟩) n st as h
  exact h
theorem am_sw_map {f f' : Nat → Prop} (hf : ∀ t, f t → f' t) (x : Int32) (d : Nat) (l : List (Int32 × Nat)) (h : am_sw l x d f) : am_sw l x d f' := by
  obtain ⟨_, h⟩ := am_sw_ex (Z := Unit) (X := fun _ => f') (fun a x => ⟨(), hf a x⟩) x d l h
  exact h
theorem am_math_map {a : Nat} {st : List am_V} {f f' : List am_V → Prop} {g g' : Prop} (hf : ∀ st, f st → f' st) (hg : g → g') (h : am_math a st f g) : am_math a st f' g' := by
  obtain ⟨_, h⟩ := am_math_ex (Z := Unit) (F := fun _ => f') (G := fun _ => g') (fun st x => ⟨(), hf st x⟩) (fun x => ⟨(), hg x⟩) h
  exact h
def am_grows (call : am_C) : Prop := ∀ (y : Nat) (as : List am_V) (h : am_H) (q : am_Q), call y as h q → call y as h (fun v h1 => q v h1 ∧ am_le h h1)
theorem am_step_grow {rt : Nat → Nat} {call : am_C} (hg : am_good call) (hc : am_grows call) (x : am_X) (ls : am_L) (st : List am_V) (h : am_H) (k : Nat → am_L → List am_V → am_H → Prop) (q : am_Q)
    (hs : am_step rt call x ls st h k q) : am_step rt call x ls st h (fun pc ls st h1 => k pc ls st h1 ∧ am_le h h1) (fun v h1 => q v h1 ∧ am_le h h1) := by
  obtain ⟨ins, nx, im, a, b, c, sw⟩ := x
  obtain ⟨I, R, N, cN, sN⟩ := h
  have hk : ∀ {pc ls st} {I' : am_I} {R' : am_R} {N' : am_N} {c' n' : Nat}, cN ≤ c' → sN ≤ n' → k pc ls st (I', R', N', c', n') → (k pc ls st (I', R', N', c', n') ∧ am_le (I, R, N, cN, sN) (I', R', N', c', n')) := fun h1 h2 h3 => ⟨h3, h1, h2⟩
  have hq : ∀ {v} , q v (I, R, N, cN, sN) → (q v (I, R, N, cN, sN) ∧ am_le (I, R, N, cN, sN) (I, R, N, cN, sN)) := fun h3 => ⟨h3, am_le_rfl _⟩
  have nf : False → False := fun h => h
  have hcall : ∀ (y : Nat) (as : List am_V) (f : am_Q) (g : am_Q), (∀ v h1, f v h1 → am_le (I, R, N, cN, sN) h1 → g v h1) → call y as (I, R, N, cN, sN) f → call y as (I, R, N, cN, sN) g := by
    intro y as f g hfg hcl
    obtain ⟨_, h2⟩ := hg Unit y as (I, R, N, cN, sN) _ (fun _ => g) (fun v h1 hv => ⟨(), hfg v h1 hv.1 hv.2⟩) (hc y as _ f hcl)
    exact h2
  cases ins <;> dsimp only [am_step] at hs ⊢ <;> try exact hs.elim
  all_goals (try simp only [am_seq_eq] at hs ⊢)
  all_goals (repeat' split at hs)
  all_goals (try exact hs.elim)
  all_goals (try (rename_i heq; simp only [heq] at hs ⊢))
  all_goals (try (exact hk (Nat.le_refl _) (Nat.le_refl _) hs))
  all_goals (try (exact hq hs))
  all_goals (try (exact am_and_map (hk (Nat.le_refl _) (Nat.le_refl _)) hs))
  all_goals (try (exact am_br_map (hk (Nat.le_refl _) (Nat.le_refl _)) (hk (Nat.le_refl _) (Nat.le_refl _)) hs))
  all_goals (try (exact am_sw_map (fun t => hk (Nat.le_refl _) (Nat.le_refl _)) _ _ _ hs))
  all_goals (try (exact am_cond_map (am_and_map hq) hq hs))
  all_goals (try (exact am_cond_map (hk (Nat.le_refl _) (Nat.le_refl _)) nf hs))
  all_goals (try (exact am_cond_map (am_and_map (hk (Nat.le_refl _) (Nat.le_refl _))) nf hs))
  all_goals (try (exact am_cond_map nf nf hs))
  all_goals (try (exact am_cond_map (am_and_map (am_ex_map fun _ => am_ex_map fun _ => am_ex_map fun _ => am_and_map (hk (Nat.le_refl _) (Nat.le_refl _)))) nf hs))
  all_goals (try (exact (am_ex_map fun _ => am_ex_map fun _ => am_ex_map fun _ => am_and_map (am_and_map (hk (Nat.le_succ _) (Nat.le_add_right _ _)))) hs))
  all_goals (try (exact (am_ex_map fun _ => am_ex_map fun _ => am_ex_map fun _ => am_ex_map fun _ => am_and_map (am_and_map (am_and_map (am_and_map (hk (Nat.le_succ _) (Nat.le_add_right _ _)))))) hs))
  all_goals (try (exact am_cond_map (am_and_map (am_and_map (hk (Nat.le_refl _) (Nat.le_refl _)))) (am_cond_map (am_and_map (hk (Nat.le_refl _) (Nat.le_refl _))) nf) hs))
  all_goals (try (exact am_cond_map (am_cond_map (hk (Nat.le_refl _) (Nat.le_refl _)) (hk (Nat.le_refl _) (Nat.le_refl _))) nf hs))
  all_goals (try (exact am_cond_map (am_cond_map nf (hk (Nat.le_refl _) (Nat.le_refl _))) nf hs))
  all_goals (try (exact am_cond_map (am_cond_map nf nf) nf hs))
  all_goals (try (exact am_cond_map nf (am_cond_map nf nf) hs))
  all_goals (try (exact am_cond_map (am_cond_map (am_ex_map fun _ => am_ex_map fun _ => am_ex_map fun _ => am_ex_map fun _ => am_and_map (am_and_map (am_and_map (hk (Nat.le_succ _) (Nat.le_add_right _ _))))) nf) (am_pop_map (fun as st => am_cond_map (hcall _ _ _ _ (fun v h1 hv hle => by split at hv <;> first | exact ⟨hv, hle⟩ | exact hv.elim)) nf) _ _ _) hs))
  all_goals (try (exact am_math_map (fun st => hk (Nat.le_refl _) (Nat.le_refl _)) (am_cond_map (am_cond_map (am_ex_map fun _ => am_ex_map fun _ => am_ex_map fun _ => am_ex_map fun _ => am_and_map (am_and_map (am_and_map (hk (Nat.le_succ _) (Nat.le_add_right _ _))))) nf) (am_pop_map (fun as st => am_cond_map (hcall _ _ _ _ (fun v h1 hv hle => by split at hv <;> first | exact ⟨hv, hle⟩ | exact hv.elim)) nf) _ _ _)) hs))
  all_goals (try (exact am_cond_map (am_cond_map (am_and_map (am_and_map (am_and_map (am_and_map (am_and_map (hk (Nat.le_refl _) (Nat.le_refl _))))))) nf) (am_pop_map (fun as st => am_cond_map (hcall _ _ _ _ (fun v h1 hv hle => by split at hv <;> first | exact ⟨hv, hle⟩ | exact hv.elim)) nf) _ _ _) hs))
  all_goals (try (exact am_math_map (fun st => hk (Nat.le_refl _) (Nat.le_refl _)) (am_cond_map (am_cond_map (am_and_map (am_and_map (am_and_map (am_and_map (am_and_map (hk (Nat.le_refl _) (Nat.le_refl _))))))) nf) (am_pop_map (fun as st => am_cond_map (hcall _ _ _ _ (fun v h1 hv hle => by split at hv <;> first | exact ⟨hv, hle⟩ | exact hv.elim)) nf) _ _ _)) hs))
  all_goals (try (exact am_cond_map (am_cond_map nf nf) (am_pop_map (fun as st => am_cond_map (hcall _ _ _ _ (fun v h1 hv hle => by split at hv <;> first | exact ⟨hv, hle⟩ | exact hv.elim)) nf) _ _ _) hs))
  all_goals (try (exact am_math_map (fun st => hk (Nat.le_refl _) (Nat.le_refl _)) (am_cond_map (am_cond_map nf nf) (am_pop_map (fun as st => am_cond_map (hcall _ _ _ _ (fun v h1 hv hle => by split at hv <;> first | exact ⟨hv, hle⟩ | exact hv.elim)) nf) _ _ _)) hs))
  all_goals (try (exact am_cond_map (am_cond_map (hk (Nat.le_refl _) (Nat.le_refl _)) nf) (am_pop_map (fun as st => am_cond_map (hcall _ _ _ _ (fun v h1 hv hle => by split at hv <;> first | exact ⟨hv, hle⟩ | exact hv.elim)) nf) _ _ _) hs))
  all_goals (try (exact am_math_map (fun st => hk (Nat.le_refl _) (Nat.le_refl _)) (am_cond_map (am_cond_map (hk (Nat.le_refl _) (Nat.le_refl _)) nf) (am_pop_map (fun as st => am_cond_map (hcall _ _ _ _ (fun v h1 hv hle => by split at hv <;> first | exact ⟨hv, hle⟩ | exact hv.elim)) nf) _ _ _)) hs))
  all_goals (try (exact am_cond_map nf (am_pop_map (fun as st => am_cond_map (hcall _ _ _ _ (fun v h1 hv hle => by split at hv <;> first | exact ⟨hv, hle⟩ | exact hv.elim)) nf) _ _ _) hs))
  all_goals (try (exact am_math_map (fun st => hk (Nat.le_refl _) (Nat.le_refl _)) (am_cond_map nf (am_pop_map (fun as st => am_cond_map (hcall _ _ _ _ (fun v h1 hv hle => by split at hv <;> first | exact ⟨hv, hle⟩ | exact hv.elim)) nf) _ _ _)) hs))
theorem am_vc_grow {rt : Nat → Nat} {call : am_C} (hg : am_good call) (hc : am_grows call) (cd : Nat → am_X) (q : am_Q) : ∀ n pc ls st h, am_vc rt call cd (fun _ => false) (fun _ _ _ _ => False) q n pc ls st h → am_vc rt call cd (fun _ => false) (fun _ _ _ _ => False) (fun v h1 => q v h1 ∧ am_le h h1) n pc ls st h := by
  intro n
  induction n with
  | zero => intro _ _ _ _ h; exact h.elim
  | succ n ih =>
    intro pc ls st h hs
    refine am_step_mono hg (am_step_grow hg hc _ _ _ _ _ _ hs) (fun pc ls st h1 hh => ?_) (fun _ _ h => h)
    exact am_vc_mono hg (ih _ _ _ _ hh.1) (fun _ _ _ _ h => h) (fun v h2 hq => ⟨hq.1, am_le_trans hh.2 hq.2⟩)
theorem am_call_grows (rt : Nat → Nat) (P : Nat → (Nat → am_X) × Nat) : ∀ d, am_grows (am_call rt P d) := by
  intro d
  induction d with
  | zero => intro y as h q hs; exact hs.elim
  | succ d ih =>
    intro y as h q hs
    obtain ⟨hc, n, hn⟩ := hs
    exact ⟨hc, n, am_vc_grow (am_call_good rt P d) ih _ q n _ _ _ _ hn⟩
/-- the end is behind every place on the way -/
theorem am_vc_le {rt : Nat → Nat} {call : am_C} (hg : am_good call) (hc : am_grows call) {cd : Nat → am_X} {v0 : Option am_V} {h0 : am_H} {n pc : Nat} {ls : am_L} {st : List am_V} {h : am_H} (hs : am_vc rt call cd (fun _ => false) (fun _ _ _ _ => False) (fun v h1 => v = v0 ∧ h1 = h0) n pc ls st h) : am_le h h0 := by
  have h1 := am_vc_grow hg hc cd _ n pc ls st h hs
  obtain ⟨⟨⟨v, h2⟩, hz⟩, -⟩ := am_vc_ex hg (Z := {z : Option am_V × am_H // (z.1 = v0 ∧ z.2 = h0) ∧ am_le h z.2}) cd (fun _ => false) _ _ (fun _ _ _ _ _ => False) (fun z v h => v = z.1.1 ∧ h = z.1.2) (fun _ _ _ _ h => h.elim) (fun v h e => ⟨⟨(v, h), e⟩, rfl, rfl⟩) n pc ls st h h1
  exact hz.1.2 ▸ hz.2
end
section
/-! printed by wip/gen_code.py: the code of CrowdOutModel as the small machine reads it -/
def tb_M_init : List (Nat × List (Nat × am_X)) := [
 (28, [(0, .aload_n 0, 1, 0, 0, 0, 0, []), (1, .invokespecial 1, 4, 0, 9999, 1, 0, [(0, 1076), (0, 97), (0, 98)]), (4, .aload_n 0, 5, 0, 0, 0, 0, []), (5, .iconst 2, 6, 2, 0, 0, 0, []), (6, .newarray .int, 8, 0, 100, 0, 0, [(0, 157)]), (8, .putfield 7, 11, 0, 11, 1, 2, [(0, 1078)]), (11, .aload_n 0, 12, 0, 0, 0, 0, []), (12, .bipush 20, 14, 20, 0, 0, 0, []), (14, .newarray .int, 16, 0, 100, 0, 0, [(0, 157)]), (16, .putfield 13, 19, 0, 11, 3, 2, [(0, 1080)]), (19, .aload_n 0, 20, 0, 0, 0, 0, []), (20, .bipush 20, 22, 20, 0, 0, 0, []), (22, .newarray .int, 24, 0, 100, 0, 0, [(0, 157)]), (24, .putfield 16, 27, 0, 11, 4, 2, [(0, 1081)]), (27, .aload_n 0, 28, 0, 0, 0, 0, []), (28, .bipush 40, 30, 40, 0, 0, 0, [])]),
 (60, [(30, .newarray .int, 32, 0, 100, 0, 0, [(0, 157)]), (32, .putfield 19, 35, 0, 11, 5, 2, [(0, 1082)]), (35, .aload_n 0, 36, 0, 0, 0, 0, []), (36, .bipush 40, 38, 40, 0, 0, 0, []), (38, .newarray .int, 40, 0, 100, 0, 0, [(0, 157)]), (40, .putfield 22, 43, 0, 11, 6, 2, [(0, 1083)]), (43, .aload_n 0, 44, 0, 0, 0, 0, []), (44, .bipush 40, 46, 40, 0, 0, 0, []), (46, .newarray .int, 48, 0, 100, 0, 0, [(0, 157)]), (48, .putfield 25, 51, 0, 11, 7, 2, [(0, 1084)]), (51, .aload_n 0, 52, 0, 0, 0, 0, []), (52, .bipush 40, 54, 40, 0, 0, 0, []), (54, .newarray .int, 56, 0, 100, 0, 0, [(0, 157)]), (56, .putfield 28, 59, 0, 11, 8, 2, [(0, 1085)]), (59, .aload_n 0, 60, 0, 0, 0, 0, []), (60, .bipush 40, 62, 40, 0, 0, 0, [])]),
 (92, [(62, .newarray .int, 64, 0, 100, 0, 0, [(0, 157)]), (64, .putfield 31, 67, 0, 11, 9, 2, [(0, 1086)]), (67, .aload_n 0, 68, 0, 0, 0, 0, []), (68, .bipush 40, 70, 40, 0, 0, 0, []), (70, .newarray .int, 72, 0, 100, 0, 0, [(0, 157)]), (72, .putfield 34, 75, 0, 11, 10, 2, [(0, 1087)]), (75, .aload_n 0, 76, 0, 0, 0, 0, []), (76, .bipush 40, 78, 40, 0, 0, 0, []), (78, .newarray .int, 80, 0, 100, 0, 0, [(0, 157)]), (80, .putfield 37, 83, 0, 11, 11, 2, [(0, 1088)]), (83, .aload_n 0, 84, 0, 0, 0, 0, []), (84, .bipush 30, 86, 30, 0, 0, 0, []), (86, .newarray .int, 88, 0, 100, 0, 0, [(0, 157)]), (88, .putfield 40, 91, 0, 11, 13, 2, [(0, 1090)]), (91, .aload_n 0, 92, 0, 0, 0, 0, []), (92, .bipush 30, 94, 30, 0, 0, 0, [])]),
 (125, [(94, .newarray .int, 96, 0, 100, 0, 0, [(0, 157)]), (96, .putfield 43, 99, 0, 11, 14, 2, [(0, 1091)]), (99, .aload_n 0, 100, 0, 0, 0, 0, []), (100, .bipush 30, 102, 30, 0, 0, 0, []), (102, .newarray .int, 104, 0, 100, 0, 0, [(0, 157)]), (104, .putfield 46, 107, 0, 11, 15, 2, [(0, 1092)]), (107, .aload_n 0, 108, 0, 0, 0, 0, []), (108, .sipush 300, 111, 300, 0, 0, 0, []), (111, .newarray .int, 113, 0, 100, 0, 0, [(0, 157)]), (113, .putfield 49, 116, 0, 11, 16, 2, [(0, 1093)]), (116, .aload_n 0, 117, 0, 0, 0, 0, []), (117, .bipush 60, 119, 60, 0, 0, 0, []), (119, .newarray .int, 121, 0, 100, 0, 0, [(0, 157)]), (121, .putfield 52, 124, 0, 11, 17, 2, [(0, 1094)]), (124, .aload_n 0, 125, 0, 0, 0, 0, []), (125, .bipush 24, 127, 24, 0, 0, 0, [])]),
 (157, [(127, .newarray .int, 129, 0, 100, 0, 0, [(0, 157)]), (129, .putfield 55, 132, 0, 11, 19, 2, [(0, 1096)]), (132, .aload_n 0, 133, 0, 0, 0, 0, []), (133, .bipush 24, 135, 24, 0, 0, 0, []), (135, .newarray .int, 137, 0, 100, 0, 0, [(0, 157)]), (137, .putfield 58, 140, 0, 11, 20, 2, [(0, 1097)]), (140, .aload_n 0, 141, 0, 0, 0, 0, []), (141, .bipush 24, 143, 24, 0, 0, 0, []), (143, .newarray .int, 145, 0, 100, 0, 0, [(0, 157)]), (145, .putfield 61, 148, 0, 11, 21, 2, [(0, 1098)]), (148, .aload_n 0, 149, 0, 0, 0, 0, []), (149, .bipush 24, 151, 24, 0, 0, 0, []), (151, .newarray .int, 153, 0, 100, 0, 0, [(0, 157)]), (153, .putfield 64, 156, 0, 11, 22, 2, [(0, 1099)]), (156, .aload_n 0, 157, 0, 0, 0, 0, []), (157, .bipush 48, 159, 48, 0, 0, 0, [])]),
 (190, [(159, .newarray .boolean, 161, 0, 101, 0, 0, [(0, 156)]), (161, .putfield 67, 164, 0, 11, 23, 2, [(0, 1100)]), (164, .aload_n 0, 165, 0, 0, 0, 0, []), (165, .bipush 48, 167, 48, 0, 0, 0, []), (167, .newarray .int, 169, 0, 100, 0, 0, [(0, 157)]), (169, .putfield 71, 172, 0, 11, 24, 2, [(0, 1101)]), (172, .aload_n 0, 173, 0, 0, 0, 0, []), (173, .bipush 48, 175, 48, 0, 0, 0, []), (175, .newarray .int, 177, 0, 100, 0, 0, [(0, 157)]), (177, .putfield 74, 180, 0, 11, 25, 2, [(0, 1102)]), (180, .aload_n 0, 181, 0, 0, 0, 0, []), (181, .sipush 960, 184, 960, 0, 0, 0, []), (184, .newarray .int, 186, 0, 100, 0, 0, [(0, 157)]), (186, .putfield 77, 189, 0, 11, 26, 2, [(0, 1103)]), (189, .aload_n 0, 190, 0, 0, 0, 0, []), (190, .sipush 480, 193, 480, 0, 0, 0, [])]),
 (224, [(193, .newarray .int, 195, 0, 100, 0, 0, [(0, 157)]), (195, .putfield 80, 198, 0, 11, 27, 2, [(0, 1104)]), (198, .aload_n 0, 199, 0, 0, 0, 0, []), (199, .sipush 25920, 202, 25920, 0, 0, 0, []), (202, .newarray .int, 204, 0, 100, 0, 0, [(0, 157)]), (204, .putfield 83, 207, 0, 11, 28, 2, [(0, 1105)]), (207, .aload_n 0, 208, 0, 0, 0, 0, []), (208, .bipush 8, 210, 8, 0, 0, 0, []), (210, .newarray .int, 212, 0, 100, 0, 0, [(0, 157)]), (212, .putfield 86, 215, 0, 11, 30, 2, [(0, 1107)]), (215, .aload_n 0, 216, 0, 0, 0, 0, []), (216, .bipush 8, 218, 8, 0, 0, 0, []), (218, .newarray .int, 220, 0, 100, 0, 0, [(0, 157)]), (220, .putfield 89, 223, 0, 11, 31, 2, [(0, 1108)]), (223, .aload_n 0, 224, 0, 0, 0, 0, []), (224, .bipush 8, 226, 8, 0, 0, 0, [])]),
 (255, [(226, .newarray .int, 228, 0, 100, 0, 0, [(0, 157)]), (228, .putfield 92, 231, 0, 11, 32, 2, [(0, 1109)]), (231, .aload_n 0, 232, 0, 0, 0, 0, []), (232, .bipush 8, 234, 8, 0, 0, 0, []), (234, .newarray .int, 236, 0, 100, 0, 0, [(0, 157)]), (236, .putfield 95, 239, 0, 11, 33, 2, [(0, 1110)]), (239, .aload_n 0, 240, 0, 0, 0, 0, []), (240, .bipush 16, 242, 16, 0, 0, 0, []), (242, .newarray .boolean, 244, 0, 101, 0, 0, [(0, 156)]), (244, .putfield 98, 247, 0, 11, 34, 2, [(0, 1111)]), (247, .aload_n 0, 248, 0, 0, 0, 0, []), (248, .iconst 2, 249, 2, 0, 0, 0, []), (249, .newarray .int, 251, 0, 100, 0, 0, [(0, 157)]), (251, .putfield 101, 254, 0, 11, 35, 2, [(0, 1112)]), (254, .aload_n 0, 255, 0, 0, 0, 0, []), (255, .sipush 150, 258, 150, 0, 0, 0, [])]),
 (289, [(258, .putfield 104, 261, 0, 11, 36, 0, [(0, 1113)]), (261, .aload_n 0, 262, 0, 0, 0, 0, []), (262, .bipush 100, 264, 100, 0, 0, 0, []), (264, .putfield 108, 267, 0, 11, 37, 0, [(0, 1114)]), (267, .aload_n 0, 268, 0, 0, 0, 0, []), (268, .iconst 5, 269, 5, 0, 0, 0, []), (269, .putfield 111, 272, 0, 11, 38, 0, [(0, 1115)]), (272, .aload_n 0, 273, 0, 0, 0, 0, []), (273, .bipush 120, 275, 120, 0, 0, 0, []), (275, .newarray .byte, 277, 0, 102, 0, 0, [(0, 1303)]), (277, .putfield 114, 280, 0, 11, 39, 2, [(0, 1116)]), (280, .aload_n 0, 281, 0, 0, 0, 0, []), (281, .sipush 1440, 284, 1440, 0, 0, 0, []), (284, .newarray .byte, 286, 0, 102, 0, 0, [(0, 1303)]), (286, .putfield 118, 289, 0, 11, 42, 2, [(0, 1119)]), (289, .aload_n 0, 290, 0, 0, 0, 0, [])]),
 (321, [(290, .bipush 12, 292, 12, 0, 0, 0, []), (292, .newarray .int, 294, 0, 100, 0, 0, [(0, 157)]), (294, .putfield 121, 297, 0, 11, 43, 2, [(0, 1120)]), (297, .aload_n 0, 298, 0, 0, 0, 0, []), (298, .bipush 12, 300, 12, 0, 0, 0, []), (300, .newarray .boolean, 302, 0, 101, 0, 0, [(0, 156)]), (302, .putfield 124, 305, 0, 11, 44, 2, [(0, 1121)]), (305, .aload_n 0, 306, 0, 0, 0, 0, []), (306, .bipush 24, 308, 24, 0, 0, 0, []), (308, .newarray .int, 310, 0, 100, 0, 0, [(0, 157)]), (310, .putfield 127, 313, 0, 11, 45, 2, [(0, 1122)]), (313, .aload_n 0, 314, 0, 0, 0, 0, []), (314, .bipush 24, 316, 24, 0, 0, 0, []), (316, .newarray .boolean, 318, 0, 101, 0, 0, [(0, 156)]), (318, .putfield 130, 321, 0, 11, 46, 2, [(0, 1123)]), (321, .aload_n 0, 322, 0, 0, 0, 0, [])]),
 (354, [(322, .sipush 2000, 325, 2000, 0, 0, 0, []), (325, .newarray .int, 327, 0, 100, 0, 0, [(0, 157)]), (327, .putfield 133, 330, 0, 11, 47, 2, [(0, 1124)]), (330, .aload_n 0, 331, 0, 0, 0, 0, []), (331, .iconst 2, 332, 2, 0, 0, 0, []), (332, .newarray .int, 334, 0, 100, 0, 0, [(0, 157)]), (334, .putfield 136, 337, 0, 11, 48, 2, [(0, 1125)]), (337, .aload_n 0, 338, 0, 0, 0, 0, []), (338, .sipush 30000, 341, 30000, 0, 0, 0, []), (341, .newarray .short, 343, 0, 103, 0, 0, [(0, 1304)]), (343, .putfield 139, 346, 0, 11, 49, 2, [(0, 1126)]), (346, .aload_n 0, 347, 0, 0, 0, 0, []), (347, .bipush 60, 349, 60, 0, 0, 0, []), (349, .newarray .int, 351, 0, 100, 0, 0, [(0, 157)]), (351, .putfield 143, 354, 0, 11, 51, 2, [(0, 1128)]), (354, .aload_n 0, 355, 0, 0, 0, 0, [])]),
 (385, [(355, .bipush 60, 357, 60, 0, 0, 0, []), (357, .newarray .int, 359, 0, 100, 0, 0, [(0, 157)]), (359, .putfield 146, 362, 0, 11, 52, 2, [(0, 1129)]), (362, .aload_n 0, 363, 0, 0, 0, 0, []), (363, .bipush 60, 365, 60, 0, 0, 0, []), (365, .newarray .int, 367, 0, 100, 0, 0, [(0, 157)]), (367, .putfield 149, 370, 0, 11, 53, 2, [(0, 1130)]), (370, .aload_n 0, 371, 0, 0, 0, 0, []), (371, .bipush 60, 373, 60, 0, 0, 0, []), (373, .newarray .int, 375, 0, 100, 0, 0, [(0, 157)]), (375, .putfield 152, 378, 0, 11, 54, 2, [(0, 1131)]), (378, .aload_n 0, 379, 0, 0, 0, 0, []), (379, .iconst 4, 380, 4, 0, 0, 0, []), (380, .newarray .int, 382, 0, 100, 0, 0, [(0, 157)]), (382, .putfield 155, 385, 0, 11, 56, 2, [(0, 1133)]), (385, .aload_n 0, 386, 0, 0, 0, 0, [])]),
 (413, [(386, .iconst 4, 387, 4, 0, 0, 0, []), (387, .newarray .int, 389, 0, 100, 0, 0, [(0, 157)]), (389, .putfield 158, 392, 0, 11, 57, 2, [(0, 1134)]), (392, .aload_n 0, 393, 0, 0, 0, 0, []), (393, .iconst 4, 394, 4, 0, 0, 0, []), (394, .newarray .int, 396, 0, 100, 0, 0, [(0, 157)]), (396, .putfield 161, 399, 0, 11, 58, 2, [(0, 1135)]), (399, .aload_n 0, 400, 0, 0, 0, 0, []), (400, .iconst (-1), 401, (-1), 0, 0, 0, []), (401, .putfield 164, 404, 0, 11, 59, 0, [(0, 1136)]), (404, .aload_n 0, 405, 0, 0, 0, 0, []), (405, .bipush 40, 407, 40, 0, 0, 0, []), (407, .newarray .int, 409, 0, 100, 0, 0, [(0, 157)]), (409, .putfield 167, 412, 0, 11, 61, 2, [(0, 1138)]), (412, .aload_n 0, 413, 0, 0, 0, 0, []), (413, .sipush 800, 416, 800, 0, 0, 0, [])]),
 (446, [(416, .newarray .int, 418, 0, 100, 0, 0, [(0, 157)]), (418, .putfield 170, 421, 0, 11, 62, 2, [(0, 1139)]), (421, .aload_n 0, 422, 0, 0, 0, 0, []), (422, .bipush 6, 424, 6, 0, 0, 0, []), (424, .newarray .int, 426, 0, 100, 0, 0, [(0, 157)]), (426, .putfield 173, 429, 0, 11, 63, 2, [(0, 1140)]), (429, .aload_n 0, 430, 0, 0, 0, 0, []), (430, .bipush 6, 432, 6, 0, 0, 0, []), (432, .newarray .boolean, 434, 0, 101, 0, 0, [(0, 156)]), (434, .putfield 176, 437, 0, 11, 64, 2, [(0, 1141)]), (437, .aload_n 0, 438, 0, 0, 0, 0, []), (438, .bipush 6, 440, 6, 0, 0, 0, []), (440, .newarray .boolean, 442, 0, 101, 0, 0, [(0, 156)]), (442, .putfield 179, 445, 0, 11, 65, 2, [(0, 1142)]), (445, .aload_n 0, 446, 0, 0, 0, 0, []), (446, .bipush 6, 448, 6, 0, 0, 0, [])]),
 (475, [(448, .newarray .boolean, 450, 0, 101, 0, 0, [(0, 156)]), (450, .putfield 182, 453, 0, 11, 66, 2, [(0, 1143)]), (453, .aload_n 0, 454, 0, 0, 0, 0, []), (454, .bipush 7, 456, 7, 0, 0, 0, []), (456, .newarray .int, 458, 0, 100, 0, 0, [(0, 157)]), (458, .putfield 185, 461, 0, 11, 72, 2, [(0, 1149)]), (461, .iconst 0, 462, 0, 0, 0, 0, []), (462, .istore_n 1, 463, 0, 1, 0, 0, []), (463, .iload_n 1, 464, 0, 1, 0, 0, []), (464, .bipush 40, 466, 40, 0, 0, 0, []), (466, .if_icmp .ge 16, 469, 0, 482, 0, 0, []), (469, .aload_n 0, 470, 0, 0, 0, 0, []), (470, .getfield 167, 473, 0, 11, 61, 2, [(0, 1138)]), (473, .iload_n 1, 474, 0, 1, 0, 0, []), (474, .iconst (-1), 475, (-1), 0, 0, 0, []), (475, .iastore, 476, 0, 0, 0, 0, [])]),
 (482, [(476, .iinc 1 1, 479, 1, 1, 0, 0, []), (479, .goto (-16), 482, 0, 463, 0, 0, []), (482, .return_, 483, 0, 0, 0, 0, [])])]
def tb_M_no : List (Nat × List (Nat × am_X)) := [
 (12, [(0, .aload_n 0, 1, 0, 0, 0, 0, []), (1, .getfield 185, 4, 0, 11, 72, 2, [(0, 1149)]), (4, .iload_n 1, 5, 0, 1, 0, 0, []), (5, .ineg, 6, 0, 0, 0, 0, []), (6, .dup2, 7, 0, 0, 0, 0, []), (7, .iaload, 8, 0, 0, 0, 0, []), (8, .iconst 1, 9, 1, 0, 0, 0, []), (9, .iadd, 10, 0, 0, 0, 0, []), (10, .iastore, 11, 0, 0, 0, 0, []), (11, .iload_n 1, 12, 0, 1, 0, 0, []), (12, .ireturn, 13, 0, 0, 0, 0, [])])]
def tb_M_isArea : List (Nat × List (Nat × am_X)) := [
 (17, [(0, .iload_n 1, 1, 0, 1, 0, 0, []), (1, .ifCond .lt 15, 4, 0, 16, 0, 0, []), (4, .iload_n 1, 5, 0, 1, 0, 0, []), (5, .aload_n 0, 6, 0, 0, 0, 0, []), (6, .getfield 188, 9, 0, 11, 2, 0, [(0, 1079)]), (9, .if_icmp .ge 7, 12, 0, 16, 0, 0, []), (12, .iconst 1, 13, 1, 0, 0, 0, []), (13, .goto 4, 16, 0, 17, 0, 0, []), (16, .iconst 0, 17, 0, 0, 0, 0, []), (17, .ireturn, 18, 0, 0, 0, 1, [])])]
def tb_M_isLink : List (Nat × List (Nat × am_X)) := [
 (17, [(0, .iload_n 1, 1, 0, 1, 0, 0, []), (1, .ifCond .lt 15, 4, 0, 16, 0, 0, []), (4, .iload_n 1, 5, 0, 1, 0, 0, []), (5, .aload_n 0, 6, 0, 0, 0, 0, []), (6, .getfield 191, 9, 0, 11, 12, 0, [(0, 1089)]), (9, .if_icmp .ge 7, 12, 0, 16, 0, 0, []), (12, .iconst 1, 13, 1, 0, 0, 0, []), (13, .goto 4, 16, 0, 17, 0, 0, []), (16, .iconst 0, 17, 0, 0, 0, 0, []), (17, .ireturn, 18, 0, 0, 0, 1, [])])]
def tb_M_isFolk : List (Nat × List (Nat × am_X)) := [
 (17, [(0, .iload_n 1, 1, 0, 1, 0, 0, []), (1, .ifCond .lt 15, 4, 0, 16, 0, 0, []), (4, .iload_n 1, 5, 0, 1, 0, 0, []), (5, .aload_n 0, 6, 0, 0, 0, 0, []), (6, .getfield 194, 9, 0, 11, 18, 0, [(0, 1095)]), (9, .if_icmp .ge 7, 12, 0, 16, 0, 0, []), (12, .iconst 1, 13, 1, 0, 0, 0, []), (13, .goto 4, 16, 0, 17, 0, 0, []), (16, .iconst 0, 17, 0, 0, 0, 0, []), (17, .ireturn, 18, 0, 0, 0, 1, [])])]
def tb_M_isTrain : List (Nat × List (Nat × am_X)) := [
 (17, [(0, .iload_n 1, 1, 0, 1, 0, 0, []), (1, .ifCond .lt 15, 4, 0, 16, 0, 0, []), (4, .iload_n 1, 5, 0, 1, 0, 0, []), (5, .aload_n 0, 6, 0, 0, 0, 0, []), (6, .getfield 197, 9, 0, 11, 29, 0, [(0, 1106)]), (9, .if_icmp .ge 7, 12, 0, 16, 0, 0, []), (12, .iconst 1, 13, 1, 0, 0, 0, []), (13, .goto 4, 16, 0, 17, 0, 0, []), (16, .iconst 0, 17, 0, 0, 0, 0, []), (17, .ireturn, 18, 0, 0, 0, 1, [])])]
def tb_M_isOrder : List (Nat × List (Nat × am_X)) := [
 (17, [(0, .iload_n 1, 1, 0, 1, 0, 0, []), (1, .ifCond .lt 15, 4, 0, 16, 0, 0, []), (4, .iload_n 1, 5, 0, 1, 0, 0, []), (5, .aload_n 0, 6, 0, 0, 0, 0, []), (6, .getfield 200, 9, 0, 11, 41, 0, [(0, 1118)]), (9, .if_icmp .ge 7, 12, 0, 16, 0, 0, []), (12, .iconst 1, 13, 1, 0, 0, 0, []), (13, .goto 4, 16, 0, 17, 0, 0, []), (16, .iconst 0, 17, 0, 0, 0, 0, []), (17, .ireturn, 18, 0, 0, 0, 1, [])])]
def tb_M_area : List (Nat × List (Nat × am_X)) := [
 (27, [(0, .iload_n 1, 1, 0, 1, 0, 0, []), (1, .ifCond .lt 8, 4, 0, 9, 0, 0, []), (4, .iload_n 1, 5, 0, 1, 0, 0, []), (5, .iconst 3, 6, 3, 0, 0, 0, []), (6, .if_icmp .le 10, 9, 0, 16, 0, 0, []), (9, .aload_n 0, 10, 0, 0, 0, 0, []), (10, .bipush (-2), 12, (-2), 0, 0, 0, []), (12, .invokevirtual 203, 15, 0, 1101, 2, 1, [(0, 1309), (0, 1311), (0, 30), (0, 81), (0, 1312)]), (15, .ireturn, 16, 0, 0, 0, 0, []), (16, .iload_n 2, 17, 0, 2, 0, 0, []), (17, .iconst 1, 18, 1, 0, 0, 0, []), (18, .if_icmp .ge 10, 21, 0, 28, 0, 0, []), (21, .aload_n 0, 22, 0, 0, 0, 0, []), (22, .bipush (-4), 24, (-4), 0, 0, 0, []), (24, .invokevirtual 203, 27, 0, 1101, 2, 1, [(0, 1309), (0, 1311), (0, 30), (0, 81), (0, 1312)]), (27, .ireturn, 28, 0, 0, 0, 0, [])]),
 (59, [(28, .iload_n 2, 29, 0, 2, 0, 0, []), (29, .sipush 20000, 32, 20000, 0, 0, 0, []), (32, .if_icmp .gt 12, 35, 0, 44, 0, 0, []), (35, .aload_n 0, 36, 0, 0, 0, 0, []), (36, .getfield 188, 39, 0, 11, 2, 0, [(0, 1079)]), (39, .bipush 20, 41, 20, 0, 0, 0, []), (41, .if_icmp .ne 10, 44, 0, 51, 0, 0, []), (44, .aload_n 0, 45, 0, 0, 0, 0, []), (45, .bipush (-6), 47, (-6), 0, 0, 0, []), (47, .invokevirtual 203, 50, 0, 1101, 2, 1, [(0, 1309), (0, 1311), (0, 30), (0, 81), (0, 1312)]), (50, .ireturn, 51, 0, 0, 0, 0, []), (51, .aload_n 0, 52, 0, 0, 0, 0, []), (52, .getfield 13, 55, 0, 11, 3, 2, [(0, 1080)]), (55, .aload_n 0, 56, 0, 0, 0, 0, []), (56, .getfield 188, 59, 0, 11, 2, 0, [(0, 1079)]), (59, .iload_n 1, 60, 0, 1, 0, 0, [])]),
 (84, [(60, .iastore, 61, 0, 0, 0, 0, []), (61, .aload_n 0, 62, 0, 0, 0, 0, []), (62, .getfield 16, 65, 0, 11, 4, 2, [(0, 1081)]), (65, .aload_n 0, 66, 0, 0, 0, 0, []), (66, .getfield 188, 69, 0, 11, 2, 0, [(0, 1079)]), (69, .iload_n 2, 70, 0, 2, 0, 0, []), (70, .iastore, 71, 0, 0, 0, 0, []), (71, .aload_n 0, 72, 0, 0, 0, 0, []), (72, .getfield 37, 75, 0, 11, 11, 2, [(0, 1088)]), (75, .aload_n 0, 76, 0, 0, 0, 0, []), (76, .getfield 188, 79, 0, 11, 2, 0, [(0, 1079)]), (79, .bipush (-9), 81, (-9), 0, 0, 0, []), (81, .iastore, 82, 0, 0, 0, 0, []), (82, .aload_n 0, 83, 0, 0, 0, 0, []), (83, .dup, 84, 0, 0, 0, 0, []), (84, .getfield 207, 87, 0, 11, 60, 0, [(0, 1137)])]),
 (108, [(87, .iconst 1, 88, 1, 0, 0, 0, []), (88, .iadd, 89, 0, 0, 0, 0, []), (89, .putfield 207, 92, 0, 11, 60, 0, [(0, 1137)]), (92, .aload_n 0, 93, 0, 0, 0, 0, []), (93, .dup, 94, 0, 0, 0, 0, []), (94, .getfield 188, 97, 0, 11, 2, 0, [(0, 1079)]), (97, .iconst 1, 98, 1, 0, 0, 0, []), (98, .iadd, 99, 0, 0, 0, 0, []), (99, .putfield 188, 102, 0, 11, 2, 0, [(0, 1079)]), (102, .aload_n 0, 103, 0, 0, 0, 0, []), (103, .getfield 188, 106, 0, 11, 2, 0, [(0, 1079)]), (106, .iconst 1, 107, 1, 0, 0, 0, []), (107, .isub, 108, 0, 0, 0, 0, []), (108, .ireturn, 109, 0, 0, 0, 0, [])])]
def tb_M_link : List (Nat × List (Nat × am_X)) := [
 (27, [(0, .aload_n 0, 1, 0, 0, 0, 0, []), (1, .iload_n 1, 2, 0, 1, 0, 0, []), (2, .invokevirtual 210, 5, 0, 1102, 2, 1, [(0, 1317), (0, 1319), (0, 31), (0, 81), (0, 1320)]), (5, .ifCond .eq 16, 8, 0, 21, 0, 0, []), (8, .aload_n 0, 9, 0, 0, 0, 0, []), (9, .iload_n 2, 10, 0, 2, 0, 0, []), (10, .invokevirtual 210, 13, 0, 1102, 2, 1, [(0, 1317), (0, 1319), (0, 31), (0, 81), (0, 1320)]), (13, .ifCond .eq 8, 16, 0, 21, 0, 0, []), (16, .iload_n 1, 17, 0, 1, 0, 0, []), (17, .iload_n 2, 18, 0, 2, 0, 0, []), (18, .if_icmp .ne 9, 21, 0, 27, 0, 0, []), (21, .aload_n 0, 22, 0, 0, 0, 0, []), (22, .iconst (-1), 23, (-1), 0, 0, 0, []), (23, .invokevirtual 203, 26, 0, 1101, 2, 1, [(0, 1309), (0, 1311), (0, 30), (0, 81), (0, 1312)]), (26, .ireturn, 27, 0, 0, 0, 0, []), (27, .iload_n 3, 28, 0, 3, 0, 0, [])]),
 (59, [(28, .iconst 1, 29, 1, 0, 0, 0, []), (29, .if_icmp .lt 9, 32, 0, 38, 0, 0, []), (32, .iload 4, 34, 0, 4, 0, 0, []), (34, .iconst 1, 35, 1, 0, 0, 0, []), (35, .if_icmp .ge 10, 38, 0, 45, 0, 0, []), (38, .aload_n 0, 39, 0, 0, 0, 0, []), (39, .bipush (-4), 41, (-4), 0, 0, 0, []), (41, .invokevirtual 203, 44, 0, 1101, 2, 1, [(0, 1309), (0, 1311), (0, 30), (0, 81), (0, 1312)]), (44, .ireturn, 45, 0, 0, 0, 0, []), (45, .iload_n 3, 46, 0, 3, 0, 0, []), (46, .sipush 999, 49, 999, 0, 0, 0, []), (49, .if_icmp .gt 19, 52, 0, 68, 0, 0, []), (52, .iload 4, 54, 0, 4, 0, 0, []), (54, .bipush 9, 56, 9, 0, 0, 0, []), (56, .if_icmp .gt 12, 59, 0, 68, 0, 0, []), (59, .aload_n 0, 60, 0, 0, 0, 0, [])]),
 (89, [(60, .getfield 191, 63, 0, 11, 12, 0, [(0, 1089)]), (63, .bipush 30, 65, 30, 0, 0, 0, []), (65, .if_icmp .ne 10, 68, 0, 75, 0, 0, []), (68, .aload_n 0, 69, 0, 0, 0, 0, []), (69, .bipush (-6), 71, (-6), 0, 0, 0, []), (71, .invokevirtual 203, 74, 0, 1101, 2, 1, [(0, 1309), (0, 1311), (0, 30), (0, 81), (0, 1312)]), (74, .ireturn, 75, 0, 0, 0, 0, []), (75, .aload_n 0, 76, 0, 0, 0, 0, []), (76, .getfield 40, 79, 0, 11, 13, 2, [(0, 1090)]), (79, .aload_n 0, 80, 0, 0, 0, 0, []), (80, .getfield 191, 83, 0, 11, 12, 0, [(0, 1089)]), (83, .iload_n 1, 84, 0, 1, 0, 0, []), (84, .iastore, 85, 0, 0, 0, 0, []), (85, .aload_n 0, 86, 0, 0, 0, 0, []), (86, .getfield 43, 89, 0, 11, 14, 2, [(0, 1091)]), (89, .aload_n 0, 90, 0, 0, 0, 0, [])]),
 (116, [(90, .getfield 191, 93, 0, 11, 12, 0, [(0, 1089)]), (93, .iload_n 2, 94, 0, 2, 0, 0, []), (94, .iastore, 95, 0, 0, 0, 0, []), (95, .aload_n 0, 96, 0, 0, 0, 0, []), (96, .getfield 46, 99, 0, 11, 15, 2, [(0, 1092)]), (99, .aload_n 0, 100, 0, 0, 0, 0, []), (100, .getfield 191, 103, 0, 11, 12, 0, [(0, 1089)]), (103, .iload 4, 105, 0, 4, 0, 0, []), (105, .iastore, 106, 0, 0, 0, 0, []), (106, .aload_n 0, 107, 0, 0, 0, 0, []), (107, .getfield 49, 110, 0, 11, 16, 2, [(0, 1093)]), (110, .aload_n 0, 111, 0, 0, 0, 0, []), (111, .getfield 191, 114, 0, 11, 12, 0, [(0, 1089)]), (114, .iconst 5, 115, 5, 0, 0, 0, []), (115, .imul, 116, 0, 0, 0, 0, []), (116, .iconst 1, 117, 1, 0, 0, 0, [])]),
 (138, [(117, .iastore, 118, 0, 0, 0, 0, []), (118, .aload_n 0, 119, 0, 0, 0, 0, []), (119, .getfield 49, 122, 0, 11, 16, 2, [(0, 1093)]), (122, .aload_n 0, 123, 0, 0, 0, 0, []), (123, .getfield 191, 126, 0, 11, 12, 0, [(0, 1089)]), (126, .iconst 5, 127, 5, 0, 0, 0, []), (127, .imul, 128, 0, 0, 0, 0, []), (128, .iconst 4, 129, 4, 0, 0, 0, []), (129, .iadd, 130, 0, 0, 0, 0, []), (130, .iload_n 3, 131, 0, 3, 0, 0, []), (131, .iastore, 132, 0, 0, 0, 0, []), (132, .aload_n 0, 133, 0, 0, 0, 0, []), (133, .dup, 134, 0, 0, 0, 0, []), (134, .getfield 207, 137, 0, 11, 60, 0, [(0, 1137)]), (137, .iconst 1, 138, 1, 0, 0, 0, []), (138, .iadd, 139, 0, 0, 0, 0, [])]),
 (158, [(139, .putfield 207, 142, 0, 11, 60, 0, [(0, 1137)]), (142, .aload_n 0, 143, 0, 0, 0, 0, []), (143, .dup, 144, 0, 0, 0, 0, []), (144, .getfield 191, 147, 0, 11, 12, 0, [(0, 1089)]), (147, .iconst 1, 148, 1, 0, 0, 0, []), (148, .iadd, 149, 0, 0, 0, 0, []), (149, .putfield 191, 152, 0, 11, 12, 0, [(0, 1089)]), (152, .aload_n 0, 153, 0, 0, 0, 0, []), (153, .getfield 191, 156, 0, 11, 12, 0, [(0, 1089)]), (156, .iconst 1, 157, 1, 0, 0, 0, []), (157, .isub, 158, 0, 0, 0, 0, []), (158, .ireturn, 159, 0, 0, 0, 0, [])])]
def tb_M_barred : List (Nat × List (Nat × am_X)) := [
 (24, [(0, .aload_n 0, 1, 0, 0, 0, 0, []), (1, .iload_n 1, 2, 0, 1, 0, 0, []), (2, .invokevirtual 214, 5, 0, 1103, 2, 1, [(0, 1329), (0, 1331), (0, 33), (0, 81), (0, 1332)]), (5, .ifCond .ne 5, 8, 0, 10, 0, 0, []), (8, .iconst (-1), 9, (-1), 0, 0, 0, []), (9, .ireturn, 10, 0, 0, 0, 0, []), (10, .iload_n 2, 11, 0, 2, 0, 0, []), (11, .ifCond .lt 8, 14, 0, 19, 0, 0, []), (14, .iload_n 2, 15, 0, 2, 0, 0, []), (15, .iconst 4, 16, 4, 0, 0, 0, []), (16, .if_icmp .le 6, 19, 0, 22, 0, 0, []), (19, .bipush (-2), 21, (-2), 0, 0, 0, []), (21, .ireturn, 22, 0, 0, 0, 0, []), (22, .iload_n 3, 23, 0, 3, 0, 0, []), (23, .iload_n 2, 24, 0, 2, 0, 0, []), (24, .iconst 4, 25, 4, 0, 0, 0, [])]),
 (53, [(25, .if_icmp .ne 7, 28, 0, 32, 0, 0, []), (28, .iconst 1, 29, 1, 0, 0, 0, []), (29, .goto 4, 32, 0, 33, 0, 0, []), (32, .iconst 0, 33, 0, 0, 0, 0, []), (33, .if_icmp .ge 6, 36, 0, 39, 0, 0, []), (36, .bipush (-4), 38, (-4), 0, 0, 0, []), (38, .ireturn, 39, 0, 0, 0, 0, []), (39, .iload_n 2, 40, 0, 2, 0, 0, []), (40, .ifCond .eq 8, 43, 0, 48, 0, 0, []), (43, .iload_n 2, 44, 0, 2, 0, 0, []), (44, .iconst 2, 45, 2, 0, 0, 0, []), (45, .if_icmp .ne 7, 48, 0, 52, 0, 0, []), (48, .iconst 1, 49, 1, 0, 0, 0, []), (49, .goto 25, 52, 0, 74, 0, 0, []), (52, .iload_n 2, 53, 0, 2, 0, 0, []), (53, .iconst 1, 54, 1, 0, 0, 0, [])]),
 (87, [(54, .if_icmp .ne 7, 57, 0, 61, 0, 0, []), (57, .iconst 2, 58, 2, 0, 0, 0, []), (58, .goto 16, 61, 0, 74, 0, 0, []), (61, .iload_n 2, 62, 0, 2, 0, 0, []), (62, .iconst 3, 63, 3, 0, 0, 0, []), (63, .if_icmp .ne 8, 66, 0, 71, 0, 0, []), (66, .bipush 20, 68, 20, 0, 0, 0, []), (68, .goto 6, 71, 0, 74, 0, 0, []), (71, .sipush 999, 74, 999, 0, 0, 0, []), (74, .istore 4, 76, 0, 4, 0, 0, []), (76, .iload_n 3, 77, 0, 3, 0, 0, []), (77, .iload 4, 79, 0, 4, 0, 0, []), (79, .if_icmp .le 8, 82, 0, 87, 0, 0, []), (82, .bipush (-6), 84, (-6), 0, 0, 0, []), (84, .goto 4, 87, 0, 88, 0, 0, []), (87, .iconst 0, 88, 0, 0, 0, 0, [])]),
 (88, [(88, .ireturn, 89, 0, 0, 0, 0, [])])]
def tb_M_linkSet : List (Nat × List (Nat × am_X)) := [
 (26, [(0, .aload_n 0, 1, 0, 0, 0, 0, []), (1, .iload_n 1, 2, 0, 1, 0, 0, []), (2, .iload_n 2, 3, 0, 2, 0, 0, []), (3, .iload_n 3, 4, 0, 3, 0, 0, []), (4, .invokevirtual 217, 7, 0, 1109, 4, 1, [(0, 1325), (0, 1327), (0, 32), (0, 81), (0, 1328)]), (7, .istore 4, 9, 0, 4, 0, 0, []), (9, .iload 4, 11, 0, 4, 0, 0, []), (11, .ifCond .ge 10, 14, 0, 21, 0, 0, []), (14, .aload_n 0, 15, 0, 0, 0, 0, []), (15, .iload 4, 17, 0, 4, 0, 0, []), (17, .invokevirtual 203, 20, 0, 1101, 2, 1, [(0, 1309), (0, 1311), (0, 30), (0, 81), (0, 1312)]), (20, .ireturn, 21, 0, 0, 0, 0, []), (21, .aload_n 0, 22, 0, 0, 0, 0, []), (22, .getfield 49, 25, 0, 11, 16, 2, [(0, 1093)]), (25, .iload_n 1, 26, 0, 1, 0, 0, []), (26, .iconst 5, 27, 5, 0, 0, 0, [])]),
 (45, [(27, .imul, 28, 0, 0, 0, 0, []), (28, .iload_n 2, 29, 0, 2, 0, 0, []), (29, .iadd, 30, 0, 0, 0, 0, []), (30, .iaload, 31, 0, 0, 0, 0, []), (31, .istore 5, 33, 0, 5, 0, 0, []), (33, .aload_n 0, 34, 0, 0, 0, 0, []), (34, .getfield 49, 37, 0, 11, 16, 2, [(0, 1093)]), (37, .iload_n 1, 38, 0, 1, 0, 0, []), (38, .iconst 5, 39, 5, 0, 0, 0, []), (39, .imul, 40, 0, 0, 0, 0, []), (40, .iload_n 2, 41, 0, 2, 0, 0, []), (41, .iadd, 42, 0, 0, 0, 0, []), (42, .iload_n 3, 43, 0, 3, 0, 0, []), (43, .iastore, 44, 0, 0, 0, 0, []), (44, .aload_n 0, 45, 0, 0, 0, 0, []), (45, .dup, 46, 0, 0, 0, 0, [])]),
 (56, [(46, .getfield 207, 49, 0, 11, 60, 0, [(0, 1137)]), (49, .iconst 1, 50, 1, 0, 0, 0, []), (50, .iadd, 51, 0, 0, 0, 0, []), (51, .putfield 207, 54, 0, 11, 60, 0, [(0, 1137)]), (54, .iload 5, 56, 0, 5, 0, 0, []), (56, .ireturn, 57, 0, 0, 0, 0, [])])]
def tb_M_folk : List (Nat × List (Nat × am_X)) := [
 (27, [(0, .aload_n 0, 1, 0, 0, 0, 0, []), (1, .iload_n 1, 2, 0, 1, 0, 0, []), (2, .invokevirtual 210, 5, 0, 1102, 2, 1, [(0, 1317), (0, 1319), (0, 31), (0, 81), (0, 1320)]), (5, .ifCond .eq 21, 8, 0, 26, 0, 0, []), (8, .aload_n 0, 9, 0, 0, 0, 0, []), (9, .iload_n 3, 10, 0, 3, 0, 0, []), (10, .invokevirtual 210, 13, 0, 1102, 2, 1, [(0, 1317), (0, 1319), (0, 31), (0, 81), (0, 1320)]), (13, .ifCond .eq 13, 16, 0, 26, 0, 0, []), (16, .aload_n 0, 17, 0, 0, 0, 0, []), (17, .getfield 13, 20, 0, 11, 3, 2, [(0, 1080)]), (20, .iload_n 3, 21, 0, 3, 0, 0, []), (21, .iaload, 22, 0, 0, 0, 0, []), (22, .iconst 3, 23, 3, 0, 0, 0, []), (23, .if_icmp .eq 9, 26, 0, 32, 0, 0, []), (26, .aload_n 0, 27, 0, 0, 0, 0, []), (27, .iconst (-1), 28, (-1), 0, 0, 0, [])]),
 (56, [(28, .invokevirtual 203, 31, 0, 1101, 2, 1, [(0, 1309), (0, 1311), (0, 30), (0, 81), (0, 1312)]), (31, .ireturn, 32, 0, 0, 0, 0, []), (32, .iload 4, 34, 0, 4, 0, 0, []), (34, .ifCond .lt 9, 37, 0, 43, 0, 0, []), (37, .iload 4, 39, 0, 4, 0, 0, []), (39, .iconst 2, 40, 2, 0, 0, 0, []), (40, .if_icmp .le 10, 43, 0, 50, 0, 0, []), (43, .aload_n 0, 44, 0, 0, 0, 0, []), (44, .bipush (-2), 46, (-2), 0, 0, 0, []), (46, .invokevirtual 203, 49, 0, 1101, 2, 1, [(0, 1309), (0, 1311), (0, 30), (0, 81), (0, 1312)]), (49, .ireturn, 50, 0, 0, 0, 0, []), (50, .iload_n 1, 51, 0, 1, 0, 0, []), (51, .iload_n 3, 52, 0, 3, 0, 0, []), (52, .if_icmp .ne 10, 55, 0, 62, 0, 0, []), (55, .aload_n 0, 56, 0, 0, 0, 0, []), (56, .bipush (-3), 58, (-3), 0, 0, 0, [])]),
 (87, [(58, .invokevirtual 203, 61, 0, 1101, 2, 1, [(0, 1309), (0, 1311), (0, 30), (0, 81), (0, 1312)]), (61, .ireturn, 62, 0, 0, 0, 0, []), (62, .iload_n 2, 63, 0, 2, 0, 0, []), (63, .iconst 1, 64, 1, 0, 0, 0, []), (64, .if_icmp .ge 10, 67, 0, 74, 0, 0, []), (67, .aload_n 0, 68, 0, 0, 0, 0, []), (68, .bipush (-4), 70, (-4), 0, 0, 0, []), (70, .invokevirtual 203, 73, 0, 1101, 2, 1, [(0, 1309), (0, 1311), (0, 30), (0, 81), (0, 1312)]), (73, .ireturn, 74, 0, 0, 0, 0, []), (74, .iload_n 2, 75, 0, 2, 0, 0, []), (75, .sipush 9999, 78, 9999, 0, 0, 0, []), (78, .if_icmp .gt 29, 81, 0, 107, 0, 0, []), (81, .aload_n 0, 82, 0, 0, 0, 0, []), (82, .getfield 194, 85, 0, 11, 18, 0, [(0, 1095)]), (85, .bipush 24, 87, 24, 0, 0, 0, []), (87, .if_icmp .eq 20, 90, 0, 107, 0, 0, [])]),
 (114, [(90, .aload_n 0, 91, 0, 0, 0, 0, []), (91, .getfield 19, 94, 0, 11, 5, 2, [(0, 1082)]), (94, .iload_n 1, 95, 0, 1, 0, 0, []), (95, .iaload, 96, 0, 0, 0, 0, []), (96, .iload_n 2, 97, 0, 2, 0, 0, []), (97, .iadd, 98, 0, 0, 0, 0, []), (98, .aload_n 0, 99, 0, 0, 0, 0, []), (99, .getfield 16, 102, 0, 11, 4, 2, [(0, 1081)]), (102, .iload_n 1, 103, 0, 1, 0, 0, []), (103, .iaload, 104, 0, 0, 0, 0, []), (104, .if_icmp .le 10, 107, 0, 114, 0, 0, []), (107, .aload_n 0, 108, 0, 0, 0, 0, []), (108, .bipush (-6), 110, (-6), 0, 0, 0, []), (110, .invokevirtual 203, 113, 0, 1101, 2, 1, [(0, 1309), (0, 1311), (0, 30), (0, 81), (0, 1312)]), (113, .ireturn, 114, 0, 0, 0, 0, []), (114, .aload_n 0, 115, 0, 0, 0, 0, [])]),
 (142, [(115, .getfield 55, 118, 0, 11, 19, 2, [(0, 1096)]), (118, .aload_n 0, 119, 0, 0, 0, 0, []), (119, .getfield 194, 122, 0, 11, 18, 0, [(0, 1095)]), (122, .iload_n 1, 123, 0, 1, 0, 0, []), (123, .iastore, 124, 0, 0, 0, 0, []), (124, .aload_n 0, 125, 0, 0, 0, 0, []), (125, .getfield 58, 128, 0, 11, 20, 2, [(0, 1097)]), (128, .aload_n 0, 129, 0, 0, 0, 0, []), (129, .getfield 194, 132, 0, 11, 18, 0, [(0, 1095)]), (132, .iload_n 2, 133, 0, 2, 0, 0, []), (133, .iastore, 134, 0, 0, 0, 0, []), (134, .aload_n 0, 135, 0, 0, 0, 0, []), (135, .getfield 61, 138, 0, 11, 21, 2, [(0, 1098)]), (138, .aload_n 0, 139, 0, 0, 0, 0, []), (139, .getfield 194, 142, 0, 11, 18, 0, [(0, 1095)]), (142, .iload_n 3, 143, 0, 3, 0, 0, [])]),
 (170, [(143, .iastore, 144, 0, 0, 0, 0, []), (144, .aload_n 0, 145, 0, 0, 0, 0, []), (145, .getfield 64, 148, 0, 11, 22, 2, [(0, 1099)]), (148, .aload_n 0, 149, 0, 0, 0, 0, []), (149, .getfield 194, 152, 0, 11, 18, 0, [(0, 1095)]), (152, .iload 4, 154, 0, 4, 0, 0, []), (154, .iastore, 155, 0, 0, 0, 0, []), (155, .aload_n 0, 156, 0, 0, 0, 0, []), (156, .getfield 74, 159, 0, 11, 25, 2, [(0, 1102)]), (159, .aload_n 0, 160, 0, 0, 0, 0, []), (160, .getfield 194, 163, 0, 11, 18, 0, [(0, 1095)]), (163, .bipush (-9), 165, (-9), 0, 0, 0, []), (165, .iastore, 166, 0, 0, 0, 0, []), (166, .aload_n 0, 167, 0, 0, 0, 0, []), (167, .getfield 77, 170, 0, 11, 26, 2, [(0, 1103)]), (170, .aload_n 0, 171, 0, 0, 0, 0, [])]),
 (193, [(171, .getfield 194, 174, 0, 11, 18, 0, [(0, 1095)]), (174, .bipush 20, 176, 20, 0, 0, 0, []), (176, .imul, 177, 0, 0, 0, 0, []), (177, .iload_n 1, 178, 0, 1, 0, 0, []), (178, .iadd, 179, 0, 0, 0, 0, []), (179, .iload_n 2, 180, 0, 2, 0, 0, []), (180, .iastore, 181, 0, 0, 0, 0, []), (181, .aload_n 0, 182, 0, 0, 0, 0, []), (182, .iconst 0, 183, 0, 0, 0, 0, []), (183, .putfield 221, 186, 0, 11, 0, 0, [(0, 1077)]), (186, .aload_n 0, 187, 0, 0, 0, 0, []), (187, .iload_n 1, 188, 0, 1, 0, 0, []), (188, .iload_n 2, 189, 0, 2, 0, 0, []), (189, .invokevirtual 224, 192, 0, 1116, 3, 0, [(0, 1337), (0, 1339), (0, 34), (0, 81), (0, 1340)]), (192, .aload_n 0, 193, 0, 0, 0, 0, []), (193, .dup, 194, 0, 0, 0, 0, [])]),
 (208, [(194, .getfield 194, 197, 0, 11, 18, 0, [(0, 1095)]), (197, .iconst 1, 198, 1, 0, 0, 0, []), (198, .iadd, 199, 0, 0, 0, 0, []), (199, .putfield 194, 202, 0, 11, 18, 0, [(0, 1095)]), (202, .aload_n 0, 203, 0, 0, 0, 0, []), (203, .getfield 194, 206, 0, 11, 18, 0, [(0, 1095)]), (206, .iconst 1, 207, 1, 0, 0, 0, []), (207, .isub, 208, 0, 0, 0, 0, []), (208, .ireturn, 209, 0, 0, 0, 0, [])])]
def tb_M_train : List (Nat × List (Nat × am_X)) := [
 (25, [(0, .aload_n 0, 1, 0, 0, 0, 0, []), (1, .iload_n 1, 2, 0, 1, 0, 0, []), (2, .invokevirtual 210, 5, 0, 1102, 2, 1, [(0, 1317), (0, 1319), (0, 31), (0, 81), (0, 1320)]), (5, .ifCond .eq 13, 8, 0, 18, 0, 0, []), (8, .aload_n 0, 9, 0, 0, 0, 0, []), (9, .getfield 13, 12, 0, 11, 3, 2, [(0, 1080)]), (12, .iload_n 1, 13, 0, 1, 0, 0, []), (13, .iaload, 14, 0, 0, 0, 0, []), (14, .iconst 3, 15, 3, 0, 0, 0, []), (15, .if_icmp .eq 9, 18, 0, 24, 0, 0, []), (18, .aload_n 0, 19, 0, 0, 0, 0, []), (19, .iconst (-1), 20, (-1), 0, 0, 0, []), (20, .invokevirtual 203, 23, 0, 1101, 2, 1, [(0, 1309), (0, 1311), (0, 30), (0, 81), (0, 1312)]), (23, .ireturn, 24, 0, 0, 0, 0, []), (24, .iload_n 2, 25, 0, 2, 0, 0, []), (25, .aload_n 0, 26, 0, 0, 0, 0, [])]),
 (55, [(26, .getfield 7, 29, 0, 11, 1, 2, [(0, 1078)]), (29, .iconst 0, 30, 0, 0, 0, 0, []), (30, .iaload, 31, 0, 0, 0, 0, []), (31, .if_icmp .lt 18, 34, 0, 49, 0, 0, []), (34, .iload_n 2, 35, 0, 2, 0, 0, []), (35, .ifCond .lt 14, 38, 0, 49, 0, 0, []), (38, .iload_n 3, 39, 0, 3, 0, 0, []), (39, .iconst 1, 40, 1, 0, 0, 0, []), (40, .if_icmp .lt 9, 43, 0, 49, 0, 0, []), (43, .iload 4, 45, 0, 4, 0, 0, []), (45, .iconst 1, 46, 1, 0, 0, 0, []), (46, .if_icmp .ge 10, 49, 0, 56, 0, 0, []), (49, .aload_n 0, 50, 0, 0, 0, 0, []), (50, .bipush (-4), 52, (-4), 0, 0, 0, []), (52, .invokevirtual 203, 55, 0, 1101, 2, 1, [(0, 1309), (0, 1311), (0, 30), (0, 81), (0, 1312)]), (55, .ireturn, 56, 0, 0, 0, 0, [])]),
 (90, [(56, .iload_n 2, 57, 0, 2, 0, 0, []), (57, .sipush 999, 60, 999, 0, 0, 0, []), (60, .if_icmp .gt 27, 63, 0, 87, 0, 0, []), (63, .iload_n 3, 64, 0, 3, 0, 0, []), (64, .sipush 200, 67, 200, 0, 0, 0, []), (67, .if_icmp .gt 20, 70, 0, 87, 0, 0, []), (70, .iload 4, 72, 0, 4, 0, 0, []), (72, .sipush 9999, 75, 9999, 0, 0, 0, []), (75, .if_icmp .gt 12, 78, 0, 87, 0, 0, []), (78, .aload_n 0, 79, 0, 0, 0, 0, []), (79, .getfield 197, 82, 0, 11, 29, 0, [(0, 1106)]), (82, .bipush 8, 84, 8, 0, 0, 0, []), (84, .if_icmp .ne 10, 87, 0, 94, 0, 0, []), (87, .aload_n 0, 88, 0, 0, 0, 0, []), (88, .bipush (-6), 90, (-6), 0, 0, 0, []), (90, .invokevirtual 203, 93, 0, 1101, 2, 1, [(0, 1309), (0, 1311), (0, 30), (0, 81), (0, 1312)])]),
 (118, [(93, .ireturn, 94, 0, 0, 0, 0, []), (94, .aload_n 0, 95, 0, 0, 0, 0, []), (95, .getfield 86, 98, 0, 11, 30, 2, [(0, 1107)]), (98, .aload_n 0, 99, 0, 0, 0, 0, []), (99, .getfield 197, 102, 0, 11, 29, 0, [(0, 1106)]), (102, .iload_n 1, 103, 0, 1, 0, 0, []), (103, .iastore, 104, 0, 0, 0, 0, []), (104, .aload_n 0, 105, 0, 0, 0, 0, []), (105, .getfield 89, 108, 0, 11, 31, 2, [(0, 1108)]), (108, .aload_n 0, 109, 0, 0, 0, 0, []), (109, .getfield 197, 112, 0, 11, 29, 0, [(0, 1106)]), (112, .iload_n 2, 113, 0, 2, 0, 0, []), (113, .iastore, 114, 0, 0, 0, 0, []), (114, .aload_n 0, 115, 0, 0, 0, 0, []), (115, .getfield 92, 118, 0, 11, 32, 2, [(0, 1109)]), (118, .aload_n 0, 119, 0, 0, 0, 0, [])]),
 (145, [(119, .getfield 197, 122, 0, 11, 29, 0, [(0, 1106)]), (122, .iload_n 3, 123, 0, 3, 0, 0, []), (123, .iastore, 124, 0, 0, 0, 0, []), (124, .aload_n 0, 125, 0, 0, 0, 0, []), (125, .getfield 95, 128, 0, 11, 33, 2, [(0, 1110)]), (128, .aload_n 0, 129, 0, 0, 0, 0, []), (129, .getfield 197, 132, 0, 11, 29, 0, [(0, 1106)]), (132, .iload 4, 134, 0, 4, 0, 0, []), (134, .iastore, 135, 0, 0, 0, 0, []), (135, .aload_n 0, 136, 0, 0, 0, 0, []), (136, .dup, 137, 0, 0, 0, 0, []), (137, .getfield 197, 140, 0, 11, 29, 0, [(0, 1106)]), (140, .iconst 1, 141, 1, 0, 0, 0, []), (141, .iadd, 142, 0, 0, 0, 0, []), (142, .putfield 197, 145, 0, 11, 29, 0, [(0, 1106)]), (145, .aload_n 0, 146, 0, 0, 0, 0, [])]),
 (151, [(146, .getfield 197, 149, 0, 11, 29, 0, [(0, 1106)]), (149, .iconst 1, 150, 1, 0, 0, 0, []), (150, .isub, 151, 0, 0, 0, 0, []), (151, .ireturn, 152, 0, 0, 0, 0, [])])]
def tb_M_hold : List (Nat × List (Nat × am_X)) := [
 (25, [(0, .aload_n 0, 1, 0, 0, 0, 0, []), (1, .iload_n 1, 2, 0, 1, 0, 0, []), (2, .invokevirtual 228, 5, 0, 1105, 2, 1, [(0, 1353), (0, 1355), (0, 36), (0, 81), (0, 1356)]), (5, .ifCond .ne 9, 8, 0, 14, 0, 0, []), (8, .aload_n 0, 9, 0, 0, 0, 0, []), (9, .iconst (-1), 10, (-1), 0, 0, 0, []), (10, .invokevirtual 203, 13, 0, 1101, 2, 1, [(0, 1309), (0, 1311), (0, 30), (0, 81), (0, 1312)]), (13, .ireturn, 14, 0, 0, 0, 0, []), (14, .aload_n 0, 15, 0, 0, 0, 0, []), (15, .getfield 98, 18, 0, 11, 34, 2, [(0, 1111)]), (18, .iload_n 1, 19, 0, 1, 0, 0, []), (19, .baload, 20, 0, 0, 0, 0, []), (20, .iload_n 2, 21, 0, 2, 0, 0, []), (21, .if_icmp .ne 5, 24, 0, 26, 0, 0, []), (24, .iconst 0, 25, 0, 0, 0, 0, []), (25, .ireturn, 26, 0, 0, 0, 0, [])]),
 (34, [(26, .aload_n 0, 27, 0, 0, 0, 0, []), (27, .getfield 98, 30, 0, 11, 34, 2, [(0, 1111)]), (30, .iload_n 1, 31, 0, 1, 0, 0, []), (31, .iload_n 2, 32, 0, 2, 0, 0, []), (32, .bastore, 33, 0, 0, 0, 0, []), (33, .iconst 1, 34, 1, 0, 0, 0, []), (34, .ireturn, 35, 0, 0, 0, 0, [])])]
def tb_M_set : List (Nat × List (Nat × am_X)) := [
 (27, [(0, .iload_n 1, 1, 0, 1, 0, 0, []), (1, .ifCond .lt 8, 4, 0, 9, 0, 0, []), (4, .iload_n 1, 5, 0, 1, 0, 0, []), (5, .iconst 2, 6, 2, 0, 0, 0, []), (6, .if_icmp .le 10, 9, 0, 16, 0, 0, []), (9, .aload_n 0, 10, 0, 0, 0, 0, []), (10, .bipush (-2), 12, (-2), 0, 0, 0, []), (12, .invokevirtual 203, 15, 0, 1101, 2, 1, [(0, 1309), (0, 1311), (0, 30), (0, 81), (0, 1312)]), (15, .ireturn, 16, 0, 0, 0, 0, []), (16, .iload_n 2, 17, 0, 2, 0, 0, []), (17, .iload_n 1, 18, 0, 1, 0, 0, []), (18, .ifCond .ne 8, 21, 0, 26, 0, 0, []), (21, .bipush 100, 23, 100, 0, 0, 0, []), (23, .goto 14, 26, 0, 37, 0, 0, []), (26, .iload_n 1, 27, 0, 1, 0, 0, []), (27, .iconst 1, 28, 1, 0, 0, 0, [])]),
 (58, [(28, .if_icmp .ne 8, 31, 0, 36, 0, 0, []), (31, .bipush 10, 33, 10, 0, 0, 0, []), (33, .goto 4, 36, 0, 37, 0, 0, []), (36, .iconst 0, 37, 0, 0, 0, 0, []), (37, .if_icmp .ge 10, 40, 0, 47, 0, 0, []), (40, .aload_n 0, 41, 0, 0, 0, 0, []), (41, .bipush (-4), 43, (-4), 0, 0, 0, []), (43, .invokevirtual 203, 46, 0, 1101, 2, 1, [(0, 1309), (0, 1311), (0, 30), (0, 81), (0, 1312)]), (46, .ireturn, 47, 0, 0, 0, 0, []), (47, .iload_n 2, 48, 0, 2, 0, 0, []), (48, .iload_n 1, 49, 0, 1, 0, 0, []), (49, .iconst 2, 50, 2, 0, 0, 0, []), (50, .if_icmp .ne 8, 53, 0, 58, 0, 0, []), (53, .bipush 50, 55, 50, 0, 0, 0, []), (55, .goto 6, 58, 0, 61, 0, 0, []), (58, .sipush 300, 61, 300, 0, 0, 0, [])]),
 (91, [(61, .if_icmp .le 10, 64, 0, 71, 0, 0, []), (64, .aload_n 0, 65, 0, 0, 0, 0, []), (65, .bipush (-6), 67, (-6), 0, 0, 0, []), (67, .invokevirtual 203, 70, 0, 1101, 2, 1, [(0, 1309), (0, 1311), (0, 30), (0, 81), (0, 1312)]), (70, .ireturn, 71, 0, 0, 0, 0, []), (71, .iload_n 1, 72, 0, 1, 0, 0, []), (72, .ifCond .ne 10, 75, 0, 82, 0, 0, []), (75, .aload_n 0, 76, 0, 0, 0, 0, []), (76, .getfield 104, 79, 0, 11, 36, 0, [(0, 1113)]), (79, .goto 19, 82, 0, 98, 0, 0, []), (82, .iload_n 1, 83, 0, 1, 0, 0, []), (83, .iconst 1, 84, 1, 0, 0, 0, []), (84, .if_icmp .ne 10, 87, 0, 94, 0, 0, []), (87, .aload_n 0, 88, 0, 0, 0, 0, []), (88, .getfield 108, 91, 0, 11, 37, 0, [(0, 1114)]), (91, .goto 7, 94, 0, 98, 0, 0, [])]),
 (119, [(94, .aload_n 0, 95, 0, 0, 0, 0, []), (95, .getfield 111, 98, 0, 11, 38, 0, [(0, 1115)]), (98, .istore_n 3, 99, 0, 3, 0, 0, []), (99, .iload_n 1, 100, 0, 1, 0, 0, []), (100, .ifCond .ne 8, 103, 0, 108, 0, 0, []), (103, .aload_n 0, 104, 0, 0, 0, 0, []), (104, .iload_n 2, 105, 0, 2, 0, 0, []), (105, .putfield 104, 108, 0, 11, 36, 0, [(0, 1113)]), (108, .iload_n 1, 109, 0, 1, 0, 0, []), (109, .iconst 1, 110, 1, 0, 0, 0, []), (110, .if_icmp .ne 8, 113, 0, 118, 0, 0, []), (113, .aload_n 0, 114, 0, 0, 0, 0, []), (114, .iload_n 2, 115, 0, 2, 0, 0, []), (115, .putfield 108, 118, 0, 11, 37, 0, [(0, 1114)]), (118, .iload_n 1, 119, 0, 1, 0, 0, []), (119, .iconst 2, 120, 2, 0, 0, 0, [])]),
 (139, [(120, .if_icmp .ne 8, 123, 0, 128, 0, 0, []), (123, .aload_n 0, 124, 0, 0, 0, 0, []), (124, .iload_n 2, 125, 0, 2, 0, 0, []), (125, .putfield 111, 128, 0, 11, 38, 0, [(0, 1115)]), (128, .aload_n 0, 129, 0, 0, 0, 0, []), (129, .dup, 130, 0, 0, 0, 0, []), (130, .getfield 207, 133, 0, 11, 60, 0, [(0, 1137)]), (133, .iconst 1, 134, 1, 0, 0, 0, []), (134, .iadd, 135, 0, 0, 0, 0, []), (135, .putfield 207, 138, 0, 11, 60, 0, [(0, 1137)]), (138, .iload_n 3, 139, 0, 3, 0, 0, []), (139, .ireturn, 140, 0, 0, 0, 0, [])])]
def tb_M_pressOf : List (Nat × List (Nat × am_X)) := [
 (27, [(0, .aload_n 0, 1, 0, 0, 0, 0, []), (1, .getfield 13, 4, 0, 11, 3, 2, [(0, 1080)]), (4, .iload_n 1, 5, 0, 1, 0, 0, []), (5, .iaload, 6, 0, 0, 0, 0, []), (6, .iconst 3, 7, 3, 0, 0, 0, []), (7, .if_icmp .ne 7, 10, 0, 14, 0, 0, []), (10, .iconst 0, 11, 0, 0, 0, 0, []), (11, .goto 27, 14, 0, 38, 0, 0, []), (14, .bipush 100, 16, 100, 0, 0, 0, []), (16, .aload_n 0, 17, 0, 0, 0, 0, []), (17, .getfield 19, 20, 0, 11, 5, 2, [(0, 1082)]), (20, .aload_n 0, 21, 0, 0, 0, 0, []), (21, .getfield 221, 24, 0, 11, 0, 0, [(0, 1077)]), (24, .bipush 20, 26, 20, 0, 0, 0, []), (26, .imul, 27, 0, 0, 0, 0, []), (27, .iload_n 1, 28, 0, 1, 0, 0, [])]),
 (38, [(28, .iadd, 29, 0, 0, 0, 0, []), (29, .iaload, 30, 0, 0, 0, 0, []), (30, .imul, 31, 0, 0, 0, 0, []), (31, .aload_n 0, 32, 0, 0, 0, 0, []), (32, .getfield 16, 35, 0, 11, 4, 2, [(0, 1081)]), (35, .iload_n 1, 36, 0, 1, 0, 0, []), (36, .iaload, 37, 0, 0, 0, 0, []), (37, .idiv, 38, 0, 0, 0, 0, []), (38, .ireturn, 39, 0, 0, 0, 0, [])])]
def tb_M_addHeads : List (Nat × List (Nat × am_X)) := [
 (28, [(0, .aload_n 0, 1, 0, 0, 0, 0, []), (1, .iload_n 1, 2, 0, 1, 0, 0, []), (2, .invokevirtual 231, 5, 0, 1115, 2, 1, [(0, 1341), (0, 1343), (0, 35), (0, 81), (0, 1344)]), (5, .aload_n 0, 6, 0, 0, 0, 0, []), (6, .getfield 108, 9, 0, 11, 37, 0, [(0, 1114)]), (9, .if_icmp .lt 7, 12, 0, 16, 0, 0, []), (12, .iconst 1, 13, 1, 0, 0, 0, []), (13, .goto 4, 16, 0, 17, 0, 0, []), (16, .iconst 0, 17, 0, 0, 0, 0, []), (17, .istore_n 3, 18, 0, 3, 0, 0, []), (18, .aload_n 0, 19, 0, 0, 0, 0, []), (19, .getfield 19, 22, 0, 11, 5, 2, [(0, 1082)]), (22, .aload_n 0, 23, 0, 0, 0, 0, []), (23, .getfield 221, 26, 0, 11, 0, 0, [(0, 1077)]), (26, .bipush 20, 28, 20, 0, 0, 0, []), (28, .imul, 29, 0, 0, 0, 0, [])]),
 (50, [(29, .iload_n 1, 30, 0, 1, 0, 0, []), (30, .iadd, 31, 0, 0, 0, 0, []), (31, .dup2, 32, 0, 0, 0, 0, []), (32, .iaload, 33, 0, 0, 0, 0, []), (33, .iload_n 2, 34, 0, 2, 0, 0, []), (34, .iadd, 35, 0, 0, 0, 0, []), (35, .iastore, 36, 0, 0, 0, 0, []), (36, .iload_n 3, 37, 0, 3, 0, 0, []), (37, .aload_n 0, 38, 0, 0, 0, 0, []), (38, .iload_n 1, 39, 0, 1, 0, 0, []), (39, .invokevirtual 231, 42, 0, 1115, 2, 1, [(0, 1341), (0, 1343), (0, 35), (0, 81), (0, 1344)]), (42, .aload_n 0, 43, 0, 0, 0, 0, []), (43, .getfield 108, 46, 0, 11, 37, 0, [(0, 1114)]), (46, .if_icmp .lt 7, 49, 0, 53, 0, 0, []), (49, .iconst 1, 50, 1, 0, 0, 0, []), (50, .goto 4, 53, 0, 54, 0, 0, [])]),
 (67, [(53, .iconst 0, 54, 0, 0, 0, 0, []), (54, .if_icmp .eq 13, 57, 0, 67, 0, 0, []), (57, .aload_n 0, 58, 0, 0, 0, 0, []), (58, .dup, 59, 0, 0, 0, 0, []), (59, .getfield 207, 62, 0, 11, 60, 0, [(0, 1137)]), (62, .iconst 1, 63, 1, 0, 0, 0, []), (63, .iadd, 64, 0, 0, 0, 0, []), (64, .putfield 207, 67, 0, 11, 60, 0, [(0, 1137)]), (67, .return_, 68, 0, 0, 0, 0, [])])]
def tb_M_endOf : List (Nat × List (Nat × am_X)) := [
 (25, [(0, .aload_n 0, 1, 0, 0, 0, 0, []), (1, .getfield 40, 4, 0, 11, 13, 2, [(0, 1090)]), (4, .iload_n 1, 5, 0, 1, 0, 0, []), (5, .iaload, 6, 0, 0, 0, 0, []), (6, .iload_n 2, 7, 0, 2, 0, 0, []), (7, .if_icmp .ne 12, 10, 0, 19, 0, 0, []), (10, .aload_n 0, 11, 0, 0, 0, 0, []), (11, .getfield 43, 14, 0, 11, 14, 2, [(0, 1091)]), (14, .iload_n 1, 15, 0, 1, 0, 0, []), (15, .iaload, 16, 0, 0, 0, 0, []), (16, .goto 9, 19, 0, 25, 0, 0, []), (19, .aload_n 0, 20, 0, 0, 0, 0, []), (20, .getfield 40, 23, 0, 11, 13, 2, [(0, 1090)]), (23, .iload_n 1, 24, 0, 1, 0, 0, []), (24, .iaload, 25, 0, 0, 0, 0, []), (25, .ireturn, 26, 0, 0, 0, 0, [])])]
def tb_M_goes : List (Nat × List (Nat × am_X)) := [
 (25, [(0, .aload_n 0, 1, 0, 0, 0, 0, []), (1, .getfield 40, 4, 0, 11, 13, 2, [(0, 1090)]), (4, .iload_n 1, 5, 0, 1, 0, 0, []), (5, .iaload, 6, 0, 0, 0, 0, []), (6, .iload_n 2, 7, 0, 2, 0, 0, []), (7, .if_icmp .eq 13, 10, 0, 20, 0, 0, []), (10, .aload_n 0, 11, 0, 0, 0, 0, []), (11, .getfield 43, 14, 0, 11, 14, 2, [(0, 1091)]), (14, .iload_n 1, 15, 0, 1, 0, 0, []), (15, .iaload, 16, 0, 0, 0, 0, []), (16, .iload_n 2, 17, 0, 2, 0, 0, []), (17, .if_icmp .ne 11, 20, 0, 28, 0, 0, []), (20, .iload_n 1, 21, 0, 1, 0, 0, []), (21, .aload_n 0, 22, 0, 0, 0, 0, []), (22, .getfield 164, 25, 0, 11, 59, 0, [(0, 1136)]), (25, .if_icmp .ne 5, 28, 0, 30, 0, 0, [])]),
 (51, [(28, .iconst 0, 29, 0, 0, 0, 0, []), (29, .ireturn, 30, 0, 0, 0, 1, []), (30, .aload_n 0, 31, 0, 0, 0, 0, []), (31, .getfield 221, 34, 0, 11, 0, 0, [(0, 1077)]), (34, .sipush 150, 37, 150, 0, 0, 0, []), (37, .imul, 38, 0, 0, 0, 0, []), (38, .iload_n 1, 39, 0, 1, 0, 0, []), (39, .iconst 5, 40, 5, 0, 0, 0, []), (40, .imul, 41, 0, 0, 0, 0, []), (41, .iadd, 42, 0, 0, 0, 0, []), (42, .istore 4, 44, 0, 4, 0, 0, []), (44, .aload_n 0, 45, 0, 0, 0, 0, []), (45, .getfield 49, 48, 0, 11, 16, 2, [(0, 1093)]), (48, .iload 4, 50, 0, 4, 0, 0, []), (50, .iaload, 51, 0, 0, 0, 0, []), (51, .ifCond .eq 20, 54, 0, 71, 0, 0, [])]),
 (79, [(54, .iload_n 3, 55, 0, 3, 0, 0, []), (55, .ifCond .eq 18, 58, 0, 73, 0, 0, []), (58, .aload_n 0, 59, 0, 0, 0, 0, []), (59, .getfield 49, 62, 0, 11, 16, 2, [(0, 1093)]), (62, .iload 4, 64, 0, 4, 0, 0, []), (64, .iconst 2, 65, 2, 0, 0, 0, []), (65, .iadd, 66, 0, 0, 0, 0, []), (66, .iaload, 67, 0, 0, 0, 0, []), (67, .iconst 1, 68, 1, 0, 0, 0, []), (68, .if_icmp .ne 5, 71, 0, 73, 0, 0, []), (71, .iconst 0, 72, 0, 0, 0, 0, []), (72, .ireturn, 73, 0, 0, 0, 1, []), (73, .aload_n 0, 74, 0, 0, 0, 0, []), (74, .getfield 49, 77, 0, 11, 16, 2, [(0, 1093)]), (77, .iload 4, 79, 0, 4, 0, 0, []), (79, .iconst 1, 80, 1, 0, 0, 0, [])]),
 (104, [(80, .iadd, 81, 0, 0, 0, 0, []), (81, .iaload, 82, 0, 0, 0, 0, []), (82, .ifCond .eq 30, 85, 0, 112, 0, 0, []), (85, .aload_n 0, 86, 0, 0, 0, 0, []), (86, .getfield 49, 89, 0, 11, 16, 2, [(0, 1093)]), (89, .iload 4, 91, 0, 4, 0, 0, []), (91, .iconst 1, 92, 1, 0, 0, 0, []), (92, .iadd, 93, 0, 0, 0, 0, []), (93, .iaload, 94, 0, 0, 0, 0, []), (94, .aload_n 0, 95, 0, 0, 0, 0, []), (95, .getfield 40, 98, 0, 11, 13, 2, [(0, 1090)]), (98, .iload_n 1, 99, 0, 1, 0, 0, []), (99, .iaload, 100, 0, 0, 0, 0, []), (100, .iload_n 2, 101, 0, 2, 0, 0, []), (101, .if_icmp .ne 7, 104, 0, 108, 0, 0, []), (104, .iconst 1, 105, 1, 0, 0, 0, [])]),
 (117, [(105, .goto 4, 108, 0, 109, 0, 0, []), (108, .iconst 2, 109, 2, 0, 0, 0, []), (109, .if_icmp .ne 7, 112, 0, 116, 0, 0, []), (112, .iconst 1, 113, 1, 0, 0, 0, []), (113, .goto 4, 116, 0, 117, 0, 0, []), (116, .iconst 0, 117, 0, 0, 0, 0, []), (117, .ireturn, 118, 0, 0, 0, 1, [])])]
def tb_M_timeOf : List (Nat × List (Nat × am_X)) := [
 (27, [(0, .aload_n 0, 1, 0, 0, 0, 0, []), (1, .getfield 46, 4, 0, 11, 15, 2, [(0, 1092)]), (4, .iload_n 1, 5, 0, 1, 0, 0, []), (5, .iaload, 6, 0, 0, 0, 0, []), (6, .aload_n 0, 7, 0, 0, 0, 0, []), (7, .iload_n 2, 8, 0, 2, 0, 0, []), (8, .invokevirtual 231, 11, 0, 1115, 2, 1, [(0, 1341), (0, 1343), (0, 35), (0, 81), (0, 1344)]), (11, .aload_n 0, 12, 0, 0, 0, 0, []), (12, .getfield 108, 15, 0, 11, 37, 0, [(0, 1114)]), (15, .if_icmp .lt 10, 18, 0, 25, 0, 0, []), (18, .aload_n 0, 19, 0, 0, 0, 0, []), (19, .getfield 111, 22, 0, 11, 38, 0, [(0, 1115)]), (22, .goto 4, 25, 0, 26, 0, 0, []), (25, .iconst 0, 26, 0, 0, 0, 0, []), (26, .iadd, 27, 0, 0, 0, 0, []), (27, .ireturn, 28, 0, 0, 0, 0, [])])]
def tb_M_far : List (Nat × List (Nat × am_X)) := [
 (24, [(0, .iload_n 2, 1, 0, 2, 0, 0, []), (1, .ifCond .eq 8, 4, 0, 9, 0, 0, []), (4, .bipush 20, 6, 20, 0, 0, 0, []), (6, .goto 4, 9, 0, 10, 0, 0, []), (9, .iconst 0, 10, 0, 0, 0, 0, []), (10, .iload_n 1, 11, 0, 1, 0, 0, []), (11, .iadd, 12, 0, 0, 0, 0, []), (12, .istore_n 3, 13, 0, 3, 0, 0, []), (13, .iload_n 3, 14, 0, 3, 0, 0, []), (14, .bipush 20, 16, 20, 0, 0, 0, []), (16, .imul, 17, 0, 0, 0, 0, []), (17, .istore 4, 19, 0, 4, 0, 0, []), (19, .aload_n 0, 20, 0, 0, 0, 0, []), (20, .getfield 167, 23, 0, 11, 61, 2, [(0, 1138)]), (23, .iload_n 3, 24, 0, 3, 0, 0, []), (24, .iaload, 25, 0, 0, 0, 0, [])]),
 (51, [(25, .aload_n 0, 26, 0, 0, 0, 0, []), (26, .getfield 207, 29, 0, 11, 60, 0, [(0, 1137)]), (29, .if_icmp .ne 6, 32, 0, 35, 0, 0, []), (32, .iload 4, 34, 0, 4, 0, 0, []), (34, .ireturn, 35, 0, 0, 0, 0, []), (35, .aload_n 0, 36, 0, 0, 0, 0, []), (36, .getfield 167, 39, 0, 11, 61, 2, [(0, 1138)]), (39, .iload_n 3, 40, 0, 3, 0, 0, []), (40, .aload_n 0, 41, 0, 0, 0, 0, []), (41, .getfield 207, 44, 0, 11, 60, 0, [(0, 1137)]), (44, .iastore, 45, 0, 0, 0, 0, []), (45, .iconst 0, 46, 0, 0, 0, 0, []), (46, .istore 5, 48, 0, 5, 0, 0, []), (48, .iload 5, 50, 0, 5, 0, 0, []), (50, .aload_n 0, 51, 0, 0, 0, 0, []), (51, .getfield 188, 54, 0, 11, 2, 0, [(0, 1079)])]),
 (84, [(54, .if_icmp .ge 30, 57, 0, 84, 0, 0, []), (57, .aload_n 0, 58, 0, 0, 0, 0, []), (58, .getfield 170, 61, 0, 11, 62, 2, [(0, 1139)]), (61, .iload 4, 63, 0, 4, 0, 0, []), (63, .iload 5, 65, 0, 5, 0, 0, []), (65, .iadd, 66, 0, 0, 0, 0, []), (66, .iload 5, 68, 0, 5, 0, 0, []), (68, .iload_n 1, 69, 0, 1, 0, 0, []), (69, .if_icmp .ne 7, 72, 0, 76, 0, 0, []), (72, .iconst 0, 73, 0, 0, 0, 0, []), (73, .goto 4, 76, 0, 77, 0, 0, []), (76, .iconst (-1), 77, (-1), 0, 0, 0, []), (77, .iastore, 78, 0, 0, 0, 0, []), (78, .iinc 5 1, 81, 1, 5, 0, 0, []), (81, .goto (-33), 84, 0, 48, 0, 0, []), (84, .iconst 1, 85, 1, 0, 0, 0, [])]),
 (114, [(85, .istore 5, 87, 0, 5, 0, 0, []), (87, .iconst 0, 88, 0, 0, 0, 0, []), (88, .istore 6, 90, 0, 6, 0, 0, []), (90, .iload 6, 92, 0, 6, 0, 0, []), (92, .bipush 30, 94, 30, 0, 0, 0, []), (94, .if_icmp .ge 79, 97, 0, 173, 0, 0, []), (97, .iload 5, 99, 0, 5, 0, 0, []), (99, .ifCond .eq 74, 102, 0, 173, 0, 0, []), (102, .iconst 0, 103, 0, 0, 0, 0, []), (103, .istore 5, 105, 0, 5, 0, 0, []), (105, .iconst 0, 106, 0, 0, 0, 0, []), (106, .istore 7, 108, 0, 7, 0, 0, []), (108, .iload 7, 110, 0, 7, 0, 0, []), (110, .aload_n 0, 111, 0, 0, 0, 0, []), (111, .getfield 191, 114, 0, 11, 12, 0, [(0, 1089)]), (114, .if_icmp .ge 53, 117, 0, 167, 0, 0, [])]),
 (144, [(117, .aload_n 0, 118, 0, 0, 0, 0, []), (118, .iload 4, 120, 0, 4, 0, 0, []), (120, .iload 7, 122, 0, 7, 0, 0, []), (122, .aload_n 0, 123, 0, 0, 0, 0, []), (123, .getfield 40, 126, 0, 11, 13, 2, [(0, 1090)]), (126, .iload 7, 128, 0, 7, 0, 0, []), (128, .iaload, 129, 0, 0, 0, 0, []), (129, .iload_n 2, 130, 0, 2, 0, 0, []), (130, .invokevirtual 234, 133, 0, 1121, 5, 1, [(0, 1373), (0, 1375), (0, 39), (0, 81), (0, 1376)]), (133, .ifCond .eq 6, 136, 0, 139, 0, 0, []), (136, .iconst 1, 137, 1, 0, 0, 0, []), (137, .istore 5, 139, 0, 5, 0, 0, []), (139, .aload_n 0, 140, 0, 0, 0, 0, []), (140, .iload 4, 142, 0, 4, 0, 0, []), (142, .iload 7, 144, 0, 7, 0, 0, []), (144, .aload_n 0, 145, 0, 0, 0, 0, [])]),
 (175, [(145, .getfield 43, 148, 0, 11, 14, 2, [(0, 1091)]), (148, .iload 7, 150, 0, 7, 0, 0, []), (150, .iaload, 151, 0, 0, 0, 0, []), (151, .iload_n 2, 152, 0, 2, 0, 0, []), (152, .invokevirtual 234, 155, 0, 1121, 5, 1, [(0, 1373), (0, 1375), (0, 39), (0, 81), (0, 1376)]), (155, .ifCond .eq 6, 158, 0, 161, 0, 0, []), (158, .iconst 1, 159, 1, 0, 0, 0, []), (159, .istore 5, 161, 0, 5, 0, 0, []), (161, .iinc 7 1, 164, 1, 7, 0, 0, []), (164, .goto (-56), 167, 0, 108, 0, 0, []), (167, .iinc 6 1, 170, 1, 6, 0, 0, []), (170, .goto (-80), 173, 0, 90, 0, 0, []), (173, .iload 4, 175, 0, 4, 0, 0, []), (175, .ireturn, 176, 0, 0, 0, 0, [])])]
def tb_M_lower : List (Nat × List (Nat × am_X)) := [
 (23, [(0, .aload_n 0, 1, 0, 0, 0, 0, []), (1, .iload_n 2, 2, 0, 2, 0, 0, []), (2, .iload_n 3, 3, 0, 3, 0, 0, []), (3, .invokevirtual 238, 6, 0, 1117, 3, 1, [(0, 1377), (0, 1379), (0, 40), (0, 81), (0, 1380)]), (6, .istore 5, 8, 0, 5, 0, 0, []), (8, .aload_n 0, 9, 0, 0, 0, 0, []), (9, .getfield 170, 12, 0, 11, 62, 2, [(0, 1139)]), (12, .iload_n 1, 13, 0, 1, 0, 0, []), (13, .iload 5, 15, 0, 5, 0, 0, []), (15, .iadd, 16, 0, 0, 0, 0, []), (16, .iaload, 17, 0, 0, 0, 0, []), (17, .ifCond .lt 14, 20, 0, 31, 0, 0, []), (20, .aload_n 0, 21, 0, 0, 0, 0, []), (21, .iload_n 2, 22, 0, 2, 0, 0, []), (22, .iload_n 3, 23, 0, 3, 0, 0, []), (23, .iload 4, 25, 0, 4, 0, 0, [])]),
 (50, [(25, .invokevirtual 242, 28, 0, 1118, 4, 1, [(0, 1381), (0, 1383), (0, 41), (0, 81), (0, 1384)]), (28, .ifCond .ne 5, 31, 0, 33, 0, 0, []), (31, .iconst 0, 32, 0, 0, 0, 0, []), (32, .ireturn, 33, 0, 0, 0, 1, []), (33, .aload_n 0, 34, 0, 0, 0, 0, []), (34, .getfield 170, 37, 0, 11, 62, 2, [(0, 1139)]), (37, .iload_n 1, 38, 0, 1, 0, 0, []), (38, .iload 5, 40, 0, 5, 0, 0, []), (40, .iadd, 41, 0, 0, 0, 0, []), (41, .iaload, 42, 0, 0, 0, 0, []), (42, .aload_n 0, 43, 0, 0, 0, 0, []), (43, .iload_n 2, 44, 0, 2, 0, 0, []), (44, .iload 5, 46, 0, 5, 0, 0, []), (46, .invokevirtual 246, 49, 0, 1119, 3, 1, [(0, 1385), (0, 1387), (0, 42), (0, 81), (0, 1388)]), (49, .iadd, 50, 0, 0, 0, 0, []), (50, .istore 6, 52, 0, 6, 0, 0, [])]),
 (76, [(52, .aload_n 0, 53, 0, 0, 0, 0, []), (53, .getfield 170, 56, 0, 11, 62, 2, [(0, 1139)]), (56, .iload_n 1, 57, 0, 1, 0, 0, []), (57, .iload_n 3, 58, 0, 3, 0, 0, []), (58, .iadd, 59, 0, 0, 0, 0, []), (59, .iaload, 60, 0, 0, 0, 0, []), (60, .ifCond .lt 18, 63, 0, 78, 0, 0, []), (63, .aload_n 0, 64, 0, 0, 0, 0, []), (64, .getfield 170, 67, 0, 11, 62, 2, [(0, 1139)]), (67, .iload_n 1, 68, 0, 1, 0, 0, []), (68, .iload_n 3, 69, 0, 3, 0, 0, []), (69, .iadd, 70, 0, 0, 0, 0, []), (70, .iaload, 71, 0, 0, 0, 0, []), (71, .iload 6, 73, 0, 6, 0, 0, []), (73, .if_icmp .gt 5, 76, 0, 78, 0, 0, []), (76, .iconst 0, 77, 0, 0, 0, 0, [])]),
 (89, [(77, .ireturn, 78, 0, 0, 0, 1, []), (78, .aload_n 0, 79, 0, 0, 0, 0, []), (79, .getfield 170, 82, 0, 11, 62, 2, [(0, 1139)]), (82, .iload_n 1, 83, 0, 1, 0, 0, []), (83, .iload_n 3, 84, 0, 3, 0, 0, []), (84, .iadd, 85, 0, 0, 0, 0, []), (85, .iload 6, 87, 0, 6, 0, 0, []), (87, .iastore, 88, 0, 0, 0, 0, []), (88, .iconst 1, 89, 1, 0, 0, 0, []), (89, .ireturn, 90, 0, 0, 0, 1, [])])]
def tb_M_wayOn : List (Nat × List (Nat × am_X)) := [
 (24, [(0, .iload_n 1, 1, 0, 1, 0, 0, []), (1, .iload_n 2, 2, 0, 2, 0, 0, []), (2, .if_icmp .ne 6, 5, 0, 8, 0, 0, []), (5, .bipush (-9), 7, (-9), 0, 0, 0, []), (7, .ireturn, 8, 0, 0, 0, 0, []), (8, .aload_n 0, 9, 0, 0, 0, 0, []), (9, .iload_n 2, 10, 0, 2, 0, 0, []), (10, .iload_n 3, 11, 0, 3, 0, 0, []), (11, .invokevirtual 249, 14, 0, 1120, 3, 1, [(0, 1369), (0, 1371), (0, 38), (0, 81), (0, 1372)]), (14, .istore 4, 16, 0, 4, 0, 0, []), (16, .aload_n 0, 17, 0, 0, 0, 0, []), (17, .getfield 170, 20, 0, 11, 62, 2, [(0, 1139)]), (20, .iload 4, 22, 0, 4, 0, 0, []), (22, .iload_n 1, 23, 0, 1, 0, 0, []), (23, .iadd, 24, 0, 0, 0, 0, []), (24, .iaload, 25, 0, 0, 0, 0, [])]),
 (54, [(25, .ifCond .ge 6, 28, 0, 31, 0, 0, []), (28, .bipush (-9), 30, (-9), 0, 0, 0, []), (30, .ireturn, 31, 0, 0, 0, 0, []), (31, .iconst 0, 32, 0, 0, 0, 0, []), (32, .istore 5, 34, 0, 5, 0, 0, []), (34, .iload 5, 36, 0, 5, 0, 0, []), (36, .aload_n 0, 37, 0, 0, 0, 0, []), (37, .getfield 191, 40, 0, 11, 12, 0, [(0, 1089)]), (40, .if_icmp .ge 79, 43, 0, 119, 0, 0, []), (43, .aload_n 0, 44, 0, 0, 0, 0, []), (44, .iload 5, 46, 0, 5, 0, 0, []), (46, .iload_n 1, 47, 0, 1, 0, 0, []), (47, .iload_n 3, 48, 0, 3, 0, 0, []), (48, .invokevirtual 242, 51, 0, 1118, 4, 1, [(0, 1381), (0, 1383), (0, 41), (0, 81), (0, 1384)]), (51, .ifCond .ne 6, 54, 0, 57, 0, 0, []), (54, .goto 59, 57, 0, 113, 0, 0, [])]),
 (85, [(57, .aload_n 0, 58, 0, 0, 0, 0, []), (58, .iload 5, 60, 0, 5, 0, 0, []), (60, .iload_n 1, 61, 0, 1, 0, 0, []), (61, .invokevirtual 238, 64, 0, 1117, 3, 1, [(0, 1377), (0, 1379), (0, 40), (0, 81), (0, 1380)]), (64, .istore 6, 66, 0, 6, 0, 0, []), (66, .aload_n 0, 67, 0, 0, 0, 0, []), (67, .getfield 170, 70, 0, 11, 62, 2, [(0, 1139)]), (70, .iload 4, 72, 0, 4, 0, 0, []), (72, .iload 6, 74, 0, 6, 0, 0, []), (74, .iadd, 75, 0, 0, 0, 0, []), (75, .iaload, 76, 0, 0, 0, 0, []), (76, .ifCond .lt 37, 79, 0, 113, 0, 0, []), (79, .aload_n 0, 80, 0, 0, 0, 0, []), (80, .getfield 170, 83, 0, 11, 62, 2, [(0, 1139)]), (83, .iload 4, 85, 0, 4, 0, 0, []), (85, .iload 6, 87, 0, 6, 0, 0, [])]),
 (112, [(87, .iadd, 88, 0, 0, 0, 0, []), (88, .iaload, 89, 0, 0, 0, 0, []), (89, .aload_n 0, 90, 0, 0, 0, 0, []), (90, .iload 5, 92, 0, 5, 0, 0, []), (92, .iload 6, 94, 0, 6, 0, 0, []), (94, .invokevirtual 246, 97, 0, 1119, 3, 1, [(0, 1385), (0, 1387), (0, 42), (0, 81), (0, 1388)]), (97, .iadd, 98, 0, 0, 0, 0, []), (98, .aload_n 0, 99, 0, 0, 0, 0, []), (99, .getfield 170, 102, 0, 11, 62, 2, [(0, 1139)]), (102, .iload 4, 104, 0, 4, 0, 0, []), (104, .iload_n 1, 105, 0, 1, 0, 0, []), (105, .iadd, 106, 0, 0, 0, 0, []), (106, .iaload, 107, 0, 0, 0, 0, []), (107, .if_icmp .ne 6, 110, 0, 113, 0, 0, []), (110, .iload 5, 112, 0, 5, 0, 0, []), (112, .ireturn, 113, 0, 0, 0, 0, [])]),
 (121, [(113, .iinc 5 1, 116, 1, 5, 0, 0, []), (116, .goto (-82), 119, 0, 34, 0, 0, []), (119, .bipush (-9), 121, (-9), 0, 0, 0, []), (121, .ireturn, 122, 0, 0, 0, 0, [])])]
def tb_M_next : List (Nat × List (Nat × am_X)) := [
 (27, [(0, .aload_n 0, 1, 0, 0, 0, 0, []), (1, .iload_n 1, 2, 0, 1, 0, 0, []), (2, .invokevirtual 210, 5, 0, 1102, 2, 1, [(0, 1317), (0, 1319), (0, 31), (0, 81), (0, 1320)]), (5, .ifCond .eq 21, 8, 0, 26, 0, 0, []), (8, .aload_n 0, 9, 0, 0, 0, 0, []), (9, .iload_n 2, 10, 0, 2, 0, 0, []), (10, .invokevirtual 210, 13, 0, 1102, 2, 1, [(0, 1317), (0, 1319), (0, 31), (0, 81), (0, 1320)]), (13, .ifCond .eq 13, 16, 0, 26, 0, 0, []), (16, .aload_n 0, 17, 0, 0, 0, 0, []), (17, .getfield 13, 20, 0, 11, 3, 2, [(0, 1080)]), (20, .iload_n 2, 21, 0, 2, 0, 0, []), (21, .iaload, 22, 0, 0, 0, 0, []), (22, .iconst 3, 23, 3, 0, 0, 0, []), (23, .if_icmp .eq 9, 26, 0, 32, 0, 0, []), (26, .aload_n 0, 27, 0, 0, 0, 0, []), (27, .iconst (-1), 28, (-1), 0, 0, 0, [])]),
 (44, [(28, .invokevirtual 203, 31, 0, 1101, 2, 1, [(0, 1309), (0, 1311), (0, 30), (0, 81), (0, 1312)]), (31, .ireturn, 32, 0, 0, 0, 0, []), (32, .aload_n 0, 33, 0, 0, 0, 0, []), (33, .iconst 0, 34, 0, 0, 0, 0, []), (34, .putfield 221, 37, 0, 11, 0, 0, [(0, 1077)]), (37, .aload_n 0, 38, 0, 0, 0, 0, []), (38, .iload_n 1, 39, 0, 1, 0, 0, []), (39, .iload_n 2, 40, 0, 2, 0, 0, []), (40, .iload_n 3, 41, 0, 3, 0, 0, []), (41, .invokevirtual 253, 44, 0, 1122, 4, 1, [(0, 1365), (0, 1367), (0, 37), (0, 81), (0, 1368)]), (44, .ireturn, 45, 0, 0, 0, 0, [])])]
def tb_M_walk : List (Nat × List (Nat × am_X)) := [
 (27, [(0, .aload_n 0, 1, 0, 0, 0, 0, []), (1, .iload_n 1, 2, 0, 1, 0, 0, []), (2, .invokevirtual 210, 5, 0, 1102, 2, 1, [(0, 1317), (0, 1319), (0, 31), (0, 81), (0, 1320)]), (5, .ifCond .eq 21, 8, 0, 26, 0, 0, []), (8, .aload_n 0, 9, 0, 0, 0, 0, []), (9, .iload_n 2, 10, 0, 2, 0, 0, []), (10, .invokevirtual 210, 13, 0, 1102, 2, 1, [(0, 1317), (0, 1319), (0, 31), (0, 81), (0, 1320)]), (13, .ifCond .eq 13, 16, 0, 26, 0, 0, []), (16, .aload_n 0, 17, 0, 0, 0, 0, []), (17, .getfield 13, 20, 0, 11, 3, 2, [(0, 1080)]), (20, .iload_n 2, 21, 0, 2, 0, 0, []), (21, .iaload, 22, 0, 0, 0, 0, []), (22, .iconst 3, 23, 3, 0, 0, 0, []), (23, .if_icmp .eq 9, 26, 0, 32, 0, 0, []), (26, .aload_n 0, 27, 0, 0, 0, 0, []), (27, .iconst (-1), 28, (-1), 0, 0, 0, [])]),
 (52, [(28, .invokevirtual 203, 31, 0, 1101, 2, 1, [(0, 1309), (0, 1311), (0, 30), (0, 81), (0, 1312)]), (31, .ireturn, 32, 0, 0, 0, 0, []), (32, .aload_n 0, 33, 0, 0, 0, 0, []), (33, .iconst 0, 34, 0, 0, 0, 0, []), (34, .putfield 221, 37, 0, 11, 0, 0, [(0, 1077)]), (37, .aload_n 0, 38, 0, 0, 0, 0, []), (38, .getfield 170, 41, 0, 11, 62, 2, [(0, 1139)]), (41, .aload_n 0, 42, 0, 0, 0, 0, []), (42, .iload_n 2, 43, 0, 2, 0, 0, []), (43, .iload_n 3, 44, 0, 3, 0, 0, []), (44, .invokevirtual 249, 47, 0, 1120, 3, 1, [(0, 1369), (0, 1371), (0, 38), (0, 81), (0, 1372)]), (47, .iload_n 1, 48, 0, 1, 0, 0, []), (48, .iadd, 49, 0, 0, 0, 0, []), (49, .iaload, 50, 0, 0, 0, 0, []), (50, .istore 4, 52, 0, 4, 0, 0, []), (52, .iload 4, 54, 0, 4, 0, 0, [])]),
 (64, [(54, .ifCond .ge 8, 57, 0, 62, 0, 0, []), (57, .bipush (-9), 59, (-9), 0, 0, 0, []), (59, .goto 5, 62, 0, 64, 0, 0, []), (62, .iload 4, 64, 0, 4, 0, 0, []), (64, .ireturn, 65, 0, 0, 0, 0, [])])]
def tb_M_wayAt : List (Nat × List (Nat × am_X)) := [
 (21, [(0, .aload_n 0, 1, 0, 0, 0, 0, []), (1, .getfield 221, 4, 0, 11, 0, 0, [(0, 1077)]), (4, .sipush 12960, 7, 12960, 0, 0, 0, []), (7, .imul, 8, 0, 0, 0, 0, []), (8, .iload_n 1, 9, 0, 1, 0, 0, []), (9, .bipush 30, 11, 30, 0, 0, 0, []), (11, .imul, 12, 0, 0, 0, 0, []), (12, .iload_n 2, 13, 0, 2, 0, 0, []), (13, .iadd, 14, 0, 0, 0, 0, []), (14, .iconst 2, 15, 2, 0, 0, 0, []), (15, .imul, 16, 0, 0, 0, 0, []), (16, .iload_n 3, 17, 0, 3, 0, 0, []), (17, .iadd, 18, 0, 0, 0, 0, []), (18, .bipush 9, 20, 9, 0, 0, 0, []), (20, .imul, 21, 0, 0, 0, 0, []), (21, .iadd, 22, 0, 0, 0, 0, [])]),
 (27, [(22, .iload 4, 24, 0, 4, 0, 0, []), (24, .iadd, 25, 0, 0, 0, 0, []), (25, .iconst 1, 26, 1, 0, 0, 0, []), (26, .isub, 27, 0, 0, 0, 0, []), (27, .ireturn, 28, 0, 0, 0, 0, [])])]
def tb_M_hear : List (Nat × List (Nat × am_X)) := [
 (25, [(0, .iconst 0, 1, 0, 0, 0, 0, []), (1, .istore_n 1, 2, 0, 1, 0, 0, []), (2, .iload_n 1, 3, 0, 1, 0, 0, []), (3, .aload_n 0, 4, 0, 0, 0, 0, []), (4, .getfield 136, 7, 0, 11, 48, 2, [(0, 1125)]), (7, .aload_n 0, 8, 0, 0, 0, 0, []), (8, .getfield 221, 11, 0, 11, 0, 0, [(0, 1077)]), (11, .iaload, 12, 0, 0, 0, 0, []), (12, .if_icmp .ge 212, 15, 0, 224, 0, 0, []), (15, .aload_n 0, 16, 0, 0, 0, 0, []), (16, .getfield 221, 19, 0, 11, 0, 0, [(0, 1077)]), (19, .sipush 1000, 22, 1000, 0, 0, 0, []), (22, .imul, 23, 0, 0, 0, 0, []), (23, .iload_n 1, 24, 0, 1, 0, 0, []), (24, .iconst 5, 25, 5, 0, 0, 0, []), (25, .imul, 26, 0, 0, 0, 0, [])]),
 (51, [(26, .iadd, 27, 0, 0, 0, 0, []), (27, .istore_n 2, 28, 0, 2, 0, 0, []), (28, .aload_n 0, 29, 0, 0, 0, 0, []), (29, .getfield 133, 32, 0, 11, 47, 2, [(0, 1124)]), (32, .iload_n 2, 33, 0, 2, 0, 0, []), (33, .iconst 4, 34, 4, 0, 0, 0, []), (34, .iadd, 35, 0, 0, 0, 0, []), (35, .iaload, 36, 0, 0, 0, 0, []), (36, .aload_n 0, 37, 0, 0, 0, 0, []), (37, .getfield 7, 40, 0, 11, 1, 2, [(0, 1078)]), (40, .aload_n 0, 41, 0, 0, 0, 0, []), (41, .getfield 221, 44, 0, 11, 0, 0, [(0, 1077)]), (44, .iaload, 45, 0, 0, 0, 0, []), (45, .if_icmp .eq 6, 48, 0, 51, 0, 0, []), (48, .goto 170, 51, 0, 218, 0, 0, []), (51, .aload_n 0, 52, 0, 0, 0, 0, [])]),
 (72, [(52, .getfield 133, 55, 0, 11, 47, 2, [(0, 1124)]), (55, .iload_n 2, 56, 0, 2, 0, 0, []), (56, .iconst 2, 57, 2, 0, 0, 0, []), (57, .iadd, 58, 0, 0, 0, 0, []), (58, .iaload, 59, 0, 0, 0, 0, []), (59, .istore_n 3, 60, 0, 3, 0, 0, []), (60, .aload_n 0, 61, 0, 0, 0, 0, []), (61, .getfield 133, 64, 0, 11, 47, 2, [(0, 1124)]), (64, .iload_n 2, 65, 0, 2, 0, 0, []), (65, .iconst 3, 66, 3, 0, 0, 0, []), (66, .iadd, 67, 0, 0, 0, 0, []), (67, .iaload, 68, 0, 0, 0, 0, []), (68, .istore 4, 70, 0, 4, 0, 0, []), (70, .iload_n 3, 71, 0, 3, 0, 0, []), (71, .iconst 3, 72, 3, 0, 0, 0, []), (72, .if_icmp .ge 50, 75, 0, 122, 0, 0, [])]),
 (102, [(75, .aload_n 0, 76, 0, 0, 0, 0, []), (76, .iload 4, 78, 0, 4, 0, 0, []), (78, .invokevirtual 214, 81, 0, 1103, 2, 1, [(0, 1329), (0, 1331), (0, 33), (0, 81), (0, 1332)]), (81, .ifCond .eq 41, 84, 0, 122, 0, 0, []), (84, .aload_n 0, 85, 0, 0, 0, 0, []), (85, .getfield 49, 88, 0, 11, 16, 2, [(0, 1093)]), (88, .aload_n 0, 89, 0, 0, 0, 0, []), (89, .getfield 221, 92, 0, 11, 0, 0, [(0, 1077)]), (92, .sipush 150, 95, 150, 0, 0, 0, []), (95, .imul, 96, 0, 0, 0, 0, []), (96, .iload 4, 98, 0, 4, 0, 0, []), (98, .iconst 5, 99, 5, 0, 0, 0, []), (99, .imul, 100, 0, 0, 0, 0, []), (100, .iadd, 101, 0, 0, 0, 0, []), (101, .iload_n 3, 102, 0, 3, 0, 0, []), (102, .iconst 1, 103, 1, 0, 0, 0, [])]),
 (128, [(103, .if_icmp .ne 7, 106, 0, 110, 0, 0, []), (106, .iconst 1, 107, 1, 0, 0, 0, []), (107, .goto 4, 110, 0, 111, 0, 0, []), (110, .iconst 0, 111, 0, 0, 0, 0, []), (111, .iastore, 112, 0, 0, 0, 0, []), (112, .aload_n 0, 113, 0, 0, 0, 0, []), (113, .dup, 114, 0, 0, 0, 0, []), (114, .getfield 207, 117, 0, 11, 60, 0, [(0, 1137)]), (117, .iconst 1, 118, 1, 0, 0, 0, []), (118, .iadd, 119, 0, 0, 0, 0, []), (119, .putfield 207, 122, 0, 11, 60, 0, [(0, 1137)]), (122, .iload_n 3, 123, 0, 3, 0, 0, []), (123, .iconst 3, 124, 3, 0, 0, 0, []), (124, .if_icmp .eq 8, 127, 0, 132, 0, 0, []), (127, .iload_n 3, 128, 0, 3, 0, 0, []), (128, .iconst 4, 129, 4, 0, 0, 0, [])]),
 (157, [(129, .if_icmp .ne 37, 132, 0, 166, 0, 0, []), (132, .aload_n 0, 133, 0, 0, 0, 0, []), (133, .iload 4, 135, 0, 4, 0, 0, []), (135, .invokevirtual 228, 138, 0, 1105, 2, 1, [(0, 1353), (0, 1355), (0, 36), (0, 81), (0, 1356)]), (138, .ifCond .eq 28, 141, 0, 166, 0, 0, []), (141, .aload_n 0, 142, 0, 0, 0, 0, []), (142, .getfield 98, 145, 0, 11, 34, 2, [(0, 1111)]), (145, .aload_n 0, 146, 0, 0, 0, 0, []), (146, .getfield 221, 149, 0, 11, 0, 0, [(0, 1077)]), (149, .bipush 8, 151, 8, 0, 0, 0, []), (151, .imul, 152, 0, 0, 0, 0, []), (152, .iload 4, 154, 0, 4, 0, 0, []), (154, .iadd, 155, 0, 0, 0, 0, []), (155, .iload_n 3, 156, 0, 3, 0, 0, []), (156, .iconst 3, 157, 3, 0, 0, 0, []), (157, .if_icmp .ne 7, 160, 0, 164, 0, 0, [])]),
 (188, [(160, .iconst 1, 161, 1, 0, 0, 0, []), (161, .goto 4, 164, 0, 165, 0, 0, []), (164, .iconst 0, 165, 0, 0, 0, 0, []), (165, .bastore, 166, 0, 0, 0, 0, []), (166, .iload_n 3, 167, 0, 3, 0, 0, []), (167, .iconst 5, 168, 5, 0, 0, 0, []), (168, .if_icmp .ne 50, 171, 0, 218, 0, 0, []), (171, .aload_n 0, 172, 0, 0, 0, 0, []), (172, .iload 4, 174, 0, 4, 0, 0, []), (174, .invokevirtual 257, 177, 0, 1104, 2, 1, [(0, 1405), (0, 1407), (0, 45), (0, 81), (0, 1408)]), (177, .ifCond .eq 41, 180, 0, 218, 0, 0, []), (180, .aload_n 0, 181, 0, 0, 0, 0, []), (181, .getfield 67, 184, 0, 11, 23, 2, [(0, 1100)]), (184, .aload_n 0, 185, 0, 0, 0, 0, []), (185, .getfield 221, 188, 0, 11, 0, 0, [(0, 1077)]), (188, .bipush 24, 190, 24, 0, 0, 0, [])]),
 (216, [(190, .imul, 191, 0, 0, 0, 0, []), (191, .iload 4, 193, 0, 4, 0, 0, []), (193, .iadd, 194, 0, 0, 0, 0, []), (194, .aload_n 0, 195, 0, 0, 0, 0, []), (195, .getfield 67, 198, 0, 11, 23, 2, [(0, 1100)]), (198, .aload_n 0, 199, 0, 0, 0, 0, []), (199, .getfield 221, 202, 0, 11, 0, 0, [(0, 1077)]), (202, .bipush 24, 204, 24, 0, 0, 0, []), (204, .imul, 205, 0, 0, 0, 0, []), (205, .iload 4, 207, 0, 4, 0, 0, []), (207, .iadd, 208, 0, 0, 0, 0, []), (208, .baload, 209, 0, 0, 0, 0, []), (209, .ifCond .ne 7, 212, 0, 216, 0, 0, []), (212, .iconst 1, 213, 1, 0, 0, 0, []), (213, .goto 4, 216, 0, 217, 0, 0, []), (216, .iconst 0, 217, 0, 0, 0, 0, [])]),
 (224, [(217, .bastore, 218, 0, 0, 0, 0, []), (218, .iinc 1 1, 221, 1, 1, 0, 0, []), (221, .goto (-219), 224, 0, 2, 0, 0, []), (224, .return_, 225, 0, 0, 0, 0, [])])]
def tb_M_arrive : List (Nat × List (Nat × am_X)) := [
 (25, [(0, .iconst 0, 1, 0, 0, 0, 0, []), (1, .istore_n 1, 2, 0, 1, 0, 0, []), (2, .iconst 0, 3, 0, 0, 0, 0, []), (3, .istore_n 2, 4, 0, 2, 0, 0, []), (4, .iload_n 2, 5, 0, 2, 0, 0, []), (5, .sipush 480, 8, 480, 0, 0, 0, []), (8, .if_icmp .ge 16, 11, 0, 24, 0, 0, []), (11, .aload_n 0, 12, 0, 0, 0, 0, []), (12, .getfield 80, 15, 0, 11, 27, 2, [(0, 1104)]), (15, .iload_n 2, 16, 0, 2, 0, 0, []), (16, .iconst 0, 17, 0, 0, 0, 0, []), (17, .iastore, 18, 0, 0, 0, 0, []), (18, .iinc 2 1, 21, 1, 2, 0, 0, []), (21, .goto (-17), 24, 0, 4, 0, 0, []), (24, .iconst 0, 25, 0, 0, 0, 0, []), (25, .istore_n 2, 26, 0, 2, 0, 0, [])]),
 (53, [(26, .iload_n 2, 27, 0, 2, 0, 0, []), (27, .aload_n 0, 28, 0, 0, 0, 0, []), (28, .getfield 191, 31, 0, 11, 12, 0, [(0, 1089)]), (31, .if_icmp .ge 51, 34, 0, 82, 0, 0, []), (34, .iconst 0, 35, 0, 0, 0, 0, []), (35, .istore_n 3, 36, 0, 3, 0, 0, []), (36, .iload_n 3, 37, 0, 3, 0, 0, []), (37, .iconst 2, 38, 2, 0, 0, 0, []), (38, .if_icmp .ge 38, 41, 0, 76, 0, 0, []), (41, .iconst 0, 42, 0, 0, 0, 0, []), (42, .istore 4, 44, 0, 4, 0, 0, []), (44, .iload 4, 46, 0, 4, 0, 0, []), (46, .aload_n 0, 47, 0, 0, 0, 0, []), (47, .getfield 194, 50, 0, 11, 18, 0, [(0, 1095)]), (50, .if_icmp .ge 20, 53, 0, 70, 0, 0, []), (53, .iload_n 1, 54, 0, 1, 0, 0, [])]),
 (83, [(54, .aload_n 0, 55, 0, 0, 0, 0, []), (55, .iload 4, 57, 0, 4, 0, 0, []), (57, .iload_n 2, 58, 0, 2, 0, 0, []), (58, .iload_n 3, 59, 0, 3, 0, 0, []), (59, .invokevirtual 260, 62, 0, 1128, 4, 1, [(0, 1413), (0, 1415), (0, 47), (0, 81), (0, 1416)]), (62, .iadd, 63, 0, 0, 0, 0, []), (63, .istore_n 1, 64, 0, 1, 0, 0, []), (64, .iinc 4 1, 67, 1, 4, 0, 0, []), (67, .goto (-23), 70, 0, 44, 0, 0, []), (70, .iinc 3 1, 73, 1, 3, 0, 0, []), (73, .goto (-37), 76, 0, 36, 0, 0, []), (76, .iinc 2 1, 79, 1, 2, 0, 0, []), (79, .goto (-53), 82, 0, 26, 0, 0, []), (82, .iload_n 1, 83, 0, 1, 0, 0, []), (83, .ireturn, 84, 0, 0, 0, 0, [])])]
def tb_M_comeIn : List (Nat × List (Nat × am_X)) := [
 (24, [(0, .aload_n 0, 1, 0, 0, 0, 0, []), (1, .iload_n 1, 2, 0, 1, 0, 0, []), (2, .iload_n 2, 3, 0, 2, 0, 0, []), (3, .iload_n 3, 4, 0, 3, 0, 0, []), (4, .iconst 1, 5, 1, 0, 0, 0, []), (5, .invokevirtual 263, 8, 0, 1125, 5, 1, [(0, 1417), (0, 1419), (0, 48), (0, 81), (0, 1420)]), (8, .istore 4, 10, 0, 4, 0, 0, []), (10, .aload_n 0, 11, 0, 0, 0, 0, []), (11, .getfield 83, 14, 0, 11, 28, 2, [(0, 1105)]), (14, .iload 4, 16, 0, 4, 0, 0, []), (16, .iaload, 17, 0, 0, 0, 0, []), (17, .istore 5, 19, 0, 5, 0, 0, []), (19, .iconst 0, 20, 0, 0, 0, 0, []), (20, .istore 6, 22, 0, 6, 0, 0, []), (22, .iload 6, 24, 0, 6, 0, 0, []), (24, .bipush 8, 26, 8, 0, 0, 0, [])]),
 (51, [(26, .if_icmp .ge 31, 29, 0, 57, 0, 0, []), (29, .aload_n 0, 30, 0, 0, 0, 0, []), (30, .getfield 83, 33, 0, 11, 28, 2, [(0, 1105)]), (33, .iload 4, 35, 0, 4, 0, 0, []), (35, .iload 6, 37, 0, 6, 0, 0, []), (37, .iadd, 38, 0, 0, 0, 0, []), (38, .aload_n 0, 39, 0, 0, 0, 0, []), (39, .getfield 83, 42, 0, 11, 28, 2, [(0, 1105)]), (42, .iload 4, 44, 0, 4, 0, 0, []), (44, .iload 6, 46, 0, 6, 0, 0, []), (46, .iadd, 47, 0, 0, 0, 0, []), (47, .iconst 1, 48, 1, 0, 0, 0, []), (48, .iadd, 49, 0, 0, 0, 0, []), (49, .iaload, 50, 0, 0, 0, 0, []), (50, .iastore, 51, 0, 0, 0, 0, []), (51, .iinc 6 1, 54, 1, 6, 0, 0, [])]),
 (80, [(54, .goto (-32), 57, 0, 22, 0, 0, []), (57, .aload_n 0, 58, 0, 0, 0, 0, []), (58, .getfield 83, 61, 0, 11, 28, 2, [(0, 1105)]), (61, .iload 4, 63, 0, 4, 0, 0, []), (63, .bipush 8, 65, 8, 0, 0, 0, []), (65, .iadd, 66, 0, 0, 0, 0, []), (66, .iconst 0, 67, 0, 0, 0, 0, []), (67, .iastore, 68, 0, 0, 0, 0, []), (68, .iload 5, 70, 0, 5, 0, 0, []), (70, .ifCond .ne 5, 73, 0, 75, 0, 0, []), (73, .iconst 0, 74, 0, 0, 0, 0, []), (74, .ireturn, 75, 0, 0, 0, 0, []), (75, .iload_n 3, 76, 0, 3, 0, 0, []), (76, .iconst 1, 77, 1, 0, 0, 0, []), (77, .if_icmp .ne 12, 80, 0, 89, 0, 0, []), (80, .aload_n 0, 81, 0, 0, 0, 0, [])]),
 (108, [(81, .getfield 40, 84, 0, 11, 13, 2, [(0, 1090)]), (84, .iload_n 2, 85, 0, 2, 0, 0, []), (85, .iaload, 86, 0, 0, 0, 0, []), (86, .goto 9, 89, 0, 95, 0, 0, []), (89, .aload_n 0, 90, 0, 0, 0, 0, []), (90, .getfield 43, 93, 0, 11, 14, 2, [(0, 1091)]), (93, .iload_n 2, 94, 0, 2, 0, 0, []), (94, .iaload, 95, 0, 0, 0, 0, []), (95, .istore 6, 97, 0, 6, 0, 0, []), (97, .aload_n 0, 98, 0, 0, 0, 0, []), (98, .getfield 22, 101, 0, 11, 6, 2, [(0, 1083)]), (101, .aload_n 0, 102, 0, 0, 0, 0, []), (102, .getfield 221, 105, 0, 11, 0, 0, [(0, 1077)]), (105, .bipush 20, 107, 20, 0, 0, 0, []), (107, .imul, 108, 0, 0, 0, 0, []), (108, .iload 6, 110, 0, 6, 0, 0, [])]),
 (133, [(110, .iadd, 111, 0, 0, 0, 0, []), (111, .dup2, 112, 0, 0, 0, 0, []), (112, .iaload, 113, 0, 0, 0, 0, []), (113, .iload 5, 115, 0, 5, 0, 0, []), (115, .isub, 116, 0, 0, 0, 0, []), (116, .iastore, 117, 0, 0, 0, 0, []), (117, .iload 6, 119, 0, 6, 0, 0, []), (119, .aload_n 0, 120, 0, 0, 0, 0, []), (120, .getfield 61, 123, 0, 11, 21, 2, [(0, 1098)]), (123, .iload_n 1, 124, 0, 1, 0, 0, []), (124, .iaload, 125, 0, 0, 0, 0, []), (125, .if_icmp .ne 85, 128, 0, 210, 0, 0, []), (128, .aload_n 0, 129, 0, 0, 0, 0, []), (129, .getfield 67, 132, 0, 11, 23, 2, [(0, 1100)]), (132, .aload_n 0, 133, 0, 0, 0, 0, []), (133, .getfield 221, 136, 0, 11, 0, 0, [(0, 1077)])]),
 (159, [(136, .bipush 24, 138, 24, 0, 0, 0, []), (138, .imul, 139, 0, 0, 0, 0, []), (139, .iload_n 1, 140, 0, 1, 0, 0, []), (140, .iadd, 141, 0, 0, 0, 0, []), (141, .baload, 142, 0, 0, 0, 0, []), (142, .ifCond .ne 68, 145, 0, 210, 0, 0, []), (145, .aload_n 0, 146, 0, 0, 0, 0, []), (146, .getfield 71, 149, 0, 11, 24, 2, [(0, 1101)]), (149, .aload_n 0, 150, 0, 0, 0, 0, []), (150, .getfield 221, 153, 0, 11, 0, 0, [(0, 1077)]), (153, .bipush 24, 155, 24, 0, 0, 0, []), (155, .imul, 156, 0, 0, 0, 0, []), (156, .iload_n 1, 157, 0, 1, 0, 0, []), (157, .iadd, 158, 0, 0, 0, 0, []), (158, .dup2, 159, 0, 0, 0, 0, []), (159, .iaload, 160, 0, 0, 0, 0, [])]),
 (185, [(160, .iload 5, 162, 0, 5, 0, 0, []), (162, .iadd, 163, 0, 0, 0, 0, []), (163, .iastore, 164, 0, 0, 0, 0, []), (164, .aload_n 0, 165, 0, 0, 0, 0, []), (165, .getfield 74, 168, 0, 11, 25, 2, [(0, 1102)]), (168, .aload_n 0, 169, 0, 0, 0, 0, []), (169, .getfield 221, 172, 0, 11, 0, 0, [(0, 1077)]), (172, .bipush 24, 174, 24, 0, 0, 0, []), (174, .imul, 175, 0, 0, 0, 0, []), (175, .iload_n 1, 176, 0, 1, 0, 0, []), (176, .iadd, 177, 0, 0, 0, 0, []), (177, .aload_n 0, 178, 0, 0, 0, 0, []), (178, .getfield 7, 181, 0, 11, 1, 2, [(0, 1078)]), (181, .aload_n 0, 182, 0, 0, 0, 0, []), (182, .getfield 221, 185, 0, 11, 0, 0, [(0, 1077)]), (185, .iaload, 186, 0, 0, 0, 0, [])]),
 (209, [(186, .iastore, 187, 0, 0, 0, 0, []), (187, .aload_n 0, 188, 0, 0, 0, 0, []), (188, .getfield 25, 191, 0, 11, 7, 2, [(0, 1084)]), (191, .aload_n 0, 192, 0, 0, 0, 0, []), (192, .getfield 221, 195, 0, 11, 0, 0, [(0, 1077)]), (195, .bipush 20, 197, 20, 0, 0, 0, []), (197, .imul, 198, 0, 0, 0, 0, []), (198, .iload 6, 200, 0, 6, 0, 0, []), (200, .iadd, 201, 0, 0, 0, 0, []), (201, .dup2, 202, 0, 0, 0, 0, []), (202, .iaload, 203, 0, 0, 0, 0, []), (203, .iload 5, 205, 0, 5, 0, 0, []), (205, .iadd, 206, 0, 0, 0, 0, []), (206, .iastore, 207, 0, 0, 0, 0, []), (207, .iload 5, 209, 0, 5, 0, 0, []), (209, .ireturn, 210, 0, 0, 0, 0, [])]),
 (234, [(210, .aload_n 0, 211, 0, 0, 0, 0, []), (211, .getfield 77, 214, 0, 11, 26, 2, [(0, 1103)]), (214, .aload_n 0, 215, 0, 0, 0, 0, []), (215, .getfield 221, 218, 0, 11, 0, 0, [(0, 1077)]), (218, .sipush 480, 221, 480, 0, 0, 0, []), (221, .imul, 222, 0, 0, 0, 0, []), (222, .iload_n 1, 223, 0, 1, 0, 0, []), (223, .bipush 20, 225, 20, 0, 0, 0, []), (225, .imul, 226, 0, 0, 0, 0, []), (226, .iadd, 227, 0, 0, 0, 0, []), (227, .iload 6, 229, 0, 6, 0, 0, []), (229, .iadd, 230, 0, 0, 0, 0, []), (230, .dup2, 231, 0, 0, 0, 0, []), (231, .iaload, 232, 0, 0, 0, 0, []), (232, .iload 5, 234, 0, 5, 0, 0, []), (234, .iadd, 235, 0, 0, 0, 0, [])]),
 (256, [(235, .iastore, 236, 0, 0, 0, 0, []), (236, .aload_n 0, 237, 0, 0, 0, 0, []), (237, .getfield 80, 240, 0, 11, 27, 2, [(0, 1104)]), (240, .iload_n 1, 241, 0, 1, 0, 0, []), (241, .bipush 20, 243, 20, 0, 0, 0, []), (243, .imul, 244, 0, 0, 0, 0, []), (244, .iload 6, 246, 0, 6, 0, 0, []), (246, .iadd, 247, 0, 0, 0, 0, []), (247, .dup2, 248, 0, 0, 0, 0, []), (248, .iaload, 249, 0, 0, 0, 0, []), (249, .iload 5, 251, 0, 5, 0, 0, []), (251, .iadd, 252, 0, 0, 0, 0, []), (252, .iastore, 253, 0, 0, 0, 0, []), (253, .aload_n 0, 254, 0, 0, 0, 0, []), (254, .iload 6, 256, 0, 6, 0, 0, []), (256, .iload 5, 258, 0, 5, 0, 0, [])]),
 (262, [(258, .invokevirtual 224, 261, 0, 1116, 3, 0, [(0, 1337), (0, 1339), (0, 34), (0, 81), (0, 1340)]), (261, .iconst 0, 262, 0, 0, 0, 0, []), (262, .ireturn, 263, 0, 0, 0, 0, [])])]
def tb_M_goOn : List (Nat × List (Nat × am_X)) := [
 (24, [(0, .aload_n 0, 1, 0, 0, 0, 0, []), (1, .getfield 77, 4, 0, 11, 26, 2, [(0, 1103)]), (4, .aload_n 0, 5, 0, 0, 0, 0, []), (5, .getfield 221, 8, 0, 11, 0, 0, [(0, 1077)]), (8, .sipush 480, 11, 480, 0, 0, 0, []), (11, .imul, 12, 0, 0, 0, 0, []), (12, .iload_n 1, 13, 0, 1, 0, 0, []), (13, .bipush 20, 15, 20, 0, 0, 0, []), (15, .imul, 16, 0, 0, 0, 0, []), (16, .iadd, 17, 0, 0, 0, 0, []), (17, .iload_n 2, 18, 0, 2, 0, 0, []), (18, .iadd, 19, 0, 0, 0, 0, []), (19, .iaload, 20, 0, 0, 0, 0, []), (20, .aload_n 0, 21, 0, 0, 0, 0, []), (21, .getfield 80, 24, 0, 11, 27, 2, [(0, 1104)]), (24, .iload_n 1, 25, 0, 1, 0, 0, [])]),
 (48, [(25, .bipush 20, 27, 20, 0, 0, 0, []), (27, .imul, 28, 0, 0, 0, 0, []), (28, .iload_n 2, 29, 0, 2, 0, 0, []), (29, .iadd, 30, 0, 0, 0, 0, []), (30, .iaload, 31, 0, 0, 0, 0, []), (31, .isub, 32, 0, 0, 0, 0, []), (32, .istore_n 3, 33, 0, 3, 0, 0, []), (33, .iload_n 3, 34, 0, 3, 0, 0, []), (34, .ifCond .ne 4, 37, 0, 38, 0, 0, []), (37, .return_, 38, 0, 0, 0, 0, []), (38, .aload_n 0, 39, 0, 0, 0, 0, []), (39, .getfield 67, 42, 0, 11, 23, 2, [(0, 1100)]), (42, .aload_n 0, 43, 0, 0, 0, 0, []), (43, .getfield 221, 46, 0, 11, 0, 0, [(0, 1077)]), (46, .bipush 24, 48, 24, 0, 0, 0, []), (48, .imul, 49, 0, 0, 0, 0, [])]),
 (73, [(49, .iload_n 1, 50, 0, 1, 0, 0, []), (50, .iadd, 51, 0, 0, 0, 0, []), (51, .baload, 52, 0, 0, 0, 0, []), (52, .ifCond .eq 12, 55, 0, 64, 0, 0, []), (55, .aload_n 0, 56, 0, 0, 0, 0, []), (56, .getfield 55, 59, 0, 11, 19, 2, [(0, 1096)]), (59, .iload_n 1, 60, 0, 1, 0, 0, []), (60, .iaload, 61, 0, 0, 0, 0, []), (61, .goto 9, 64, 0, 70, 0, 0, []), (64, .aload_n 0, 65, 0, 0, 0, 0, []), (65, .getfield 61, 68, 0, 11, 21, 2, [(0, 1098)]), (68, .iload_n 1, 69, 0, 1, 0, 0, []), (69, .iaload, 70, 0, 0, 0, 0, []), (70, .istore 4, 72, 0, 4, 0, 0, []), (72, .aload_n 0, 73, 0, 0, 0, 0, []), (73, .iload_n 2, 74, 0, 2, 0, 0, [])]),
 (102, [(74, .iload 4, 76, 0, 4, 0, 0, []), (76, .aload_n 0, 77, 0, 0, 0, 0, []), (77, .getfield 64, 80, 0, 11, 22, 2, [(0, 1099)]), (80, .iload_n 1, 81, 0, 1, 0, 0, []), (81, .iaload, 82, 0, 0, 0, 0, []), (82, .iconst 2, 83, 2, 0, 0, 0, []), (83, .if_icmp .ne 7, 86, 0, 90, 0, 0, []), (86, .iconst 1, 87, 1, 0, 0, 0, []), (87, .goto 4, 90, 0, 91, 0, 0, []), (90, .iconst 0, 91, 0, 0, 0, 0, []), (91, .invokevirtual 253, 94, 0, 1122, 4, 1, [(0, 1365), (0, 1367), (0, 37), (0, 81), (0, 1368)]), (94, .istore 5, 96, 0, 5, 0, 0, []), (96, .iload 5, 98, 0, 5, 0, 0, []), (98, .ifCond .ge 4, 101, 0, 102, 0, 0, []), (101, .return_, 102, 0, 0, 0, 0, []), (102, .aload_n 0, 103, 0, 0, 0, 0, [])]),
 (129, [(103, .iload 5, 105, 0, 5, 0, 0, []), (105, .iload_n 2, 106, 0, 2, 0, 0, []), (106, .invokevirtual 238, 109, 0, 1117, 3, 1, [(0, 1377), (0, 1379), (0, 40), (0, 81), (0, 1380)]), (109, .istore 6, 111, 0, 6, 0, 0, []), (111, .aload_n 0, 112, 0, 0, 0, 0, []), (112, .getfield 49, 115, 0, 11, 16, 2, [(0, 1093)]), (115, .aload_n 0, 116, 0, 0, 0, 0, []), (116, .getfield 221, 119, 0, 11, 0, 0, [(0, 1077)]), (119, .sipush 150, 122, 150, 0, 0, 0, []), (122, .imul, 123, 0, 0, 0, 0, []), (123, .iload 5, 125, 0, 5, 0, 0, []), (125, .iconst 5, 126, 5, 0, 0, 0, []), (126, .imul, 127, 0, 0, 0, 0, []), (127, .iadd, 128, 0, 0, 0, 0, []), (128, .iconst 4, 129, 4, 0, 0, 0, []), (129, .iadd, 130, 0, 0, 0, 0, [])]),
 (154, [(130, .iaload, 131, 0, 0, 0, 0, []), (131, .istore 7, 133, 0, 7, 0, 0, []), (133, .iload 7, 135, 0, 7, 0, 0, []), (135, .aload_n 0, 136, 0, 0, 0, 0, []), (136, .getfield 52, 139, 0, 11, 17, 2, [(0, 1094)]), (139, .aload_n 0, 140, 0, 0, 0, 0, []), (140, .getfield 221, 143, 0, 11, 0, 0, [(0, 1077)]), (143, .bipush 30, 145, 30, 0, 0, 0, []), (145, .imul, 146, 0, 0, 0, 0, []), (146, .iload 5, 148, 0, 5, 0, 0, []), (148, .iadd, 149, 0, 0, 0, 0, []), (149, .iaload, 150, 0, 0, 0, 0, []), (150, .isub, 151, 0, 0, 0, 0, []), (151, .istore 8, 153, 0, 8, 0, 0, []), (153, .aload_n 0, 154, 0, 0, 0, 0, []), (154, .getfield 13, 157, 0, 11, 3, 2, [(0, 1080)])]),
 (185, [(157, .iload 6, 159, 0, 6, 0, 0, []), (159, .iaload, 160, 0, 0, 0, 0, []), (160, .iconst 3, 161, 3, 0, 0, 0, []), (161, .if_icmp .ne 9, 164, 0, 170, 0, 0, []), (164, .ldc_w 267, 167, 1000000, 0, 0, 0, [(0, 1425)]), (167, .goto 50, 170, 0, 217, 0, 0, []), (170, .aload_n 0, 171, 0, 0, 0, 0, []), (171, .getfield 16, 174, 0, 11, 4, 2, [(0, 1081)]), (174, .iload 6, 176, 0, 6, 0, 0, []), (176, .iaload, 177, 0, 0, 0, 0, []), (177, .aload_n 0, 178, 0, 0, 0, 0, []), (178, .getfield 104, 181, 0, 11, 36, 0, [(0, 1113)]), (181, .imul, 182, 0, 0, 0, 0, []), (182, .bipush 100, 184, 100, 0, 0, 0, []), (184, .idiv, 185, 0, 0, 0, 0, []), (185, .aload_n 0, 186, 0, 0, 0, 0, [])]),
 (212, [(186, .getfield 19, 189, 0, 11, 5, 2, [(0, 1082)]), (189, .aload_n 0, 190, 0, 0, 0, 0, []), (190, .getfield 221, 193, 0, 11, 0, 0, [(0, 1077)]), (193, .bipush 20, 195, 20, 0, 0, 0, []), (195, .imul, 196, 0, 0, 0, 0, []), (196, .iload 6, 198, 0, 6, 0, 0, []), (198, .iadd, 199, 0, 0, 0, 0, []), (199, .iaload, 200, 0, 0, 0, 0, []), (200, .isub, 201, 0, 0, 0, 0, []), (201, .aload_n 0, 202, 0, 0, 0, 0, []), (202, .getfield 22, 205, 0, 11, 6, 2, [(0, 1083)]), (205, .aload_n 0, 206, 0, 0, 0, 0, []), (206, .getfield 221, 209, 0, 11, 0, 0, [(0, 1077)]), (209, .bipush 20, 211, 20, 0, 0, 0, []), (211, .imul, 212, 0, 0, 0, 0, []), (212, .iload 6, 214, 0, 6, 0, 0, [])]),
 (238, [(214, .iadd, 215, 0, 0, 0, 0, []), (215, .iaload, 216, 0, 0, 0, 0, []), (216, .isub, 217, 0, 0, 0, 0, []), (217, .istore 9, 219, 0, 9, 0, 0, []), (219, .iload_n 3, 220, 0, 3, 0, 0, []), (220, .istore 10, 222, 0, 10, 0, 0, []), (222, .aload_n 0, 223, 0, 0, 0, 0, []), (223, .getfield 64, 226, 0, 11, 22, 2, [(0, 1099)]), (226, .iload_n 1, 227, 0, 1, 0, 0, []), (227, .iaload, 228, 0, 0, 0, 0, []), (228, .iconst 1, 229, 1, 0, 0, 0, []), (229, .if_icmp .ne 55, 232, 0, 284, 0, 0, []), (232, .iload_n 3, 233, 0, 3, 0, 0, []), (233, .iload 7, 235, 0, 7, 0, 0, []), (235, .if_icmp .le 25, 238, 0, 260, 0, 0, []), (238, .aload_n 0, 239, 0, 0, 0, 0, [])]),
 (266, [(239, .getfield 52, 242, 0, 11, 17, 2, [(0, 1094)]), (242, .aload_n 0, 243, 0, 0, 0, 0, []), (243, .getfield 221, 246, 0, 11, 0, 0, [(0, 1077)]), (246, .bipush 30, 248, 30, 0, 0, 0, []), (248, .imul, 249, 0, 0, 0, 0, []), (249, .iload 5, 251, 0, 5, 0, 0, []), (251, .iadd, 252, 0, 0, 0, 0, []), (252, .iaload, 253, 0, 0, 0, 0, []), (253, .ifCond .ne 7, 256, 0, 260, 0, 0, []), (256, .iconst 1, 257, 1, 0, 0, 0, []), (257, .goto 4, 260, 0, 261, 0, 0, []), (260, .iconst 0, 261, 0, 0, 0, 0, []), (261, .istore 11, 263, 0, 11, 0, 0, []), (263, .iload_n 3, 264, 0, 3, 0, 0, []), (264, .iload 9, 266, 0, 9, 0, 0, []), (266, .if_icmp .gt 14, 269, 0, 280, 0, 0, [])]),
 (302, [(269, .iload_n 3, 270, 0, 3, 0, 0, []), (270, .iload 8, 272, 0, 8, 0, 0, []), (272, .if_icmp .le 9, 275, 0, 281, 0, 0, []), (275, .iload 11, 277, 0, 11, 0, 0, []), (277, .ifCond .ne 4, 280, 0, 281, 0, 0, []), (280, .return_, 281, 0, 0, 0, 0, []), (281, .goto 25, 284, 0, 306, 0, 0, []), (284, .iload 10, 286, 0, 10, 0, 0, []), (286, .iload 8, 288, 0, 8, 0, 0, []), (288, .if_icmp .le 7, 291, 0, 295, 0, 0, []), (291, .iload 8, 293, 0, 8, 0, 0, []), (293, .istore 10, 295, 0, 10, 0, 0, []), (295, .iload 10, 297, 0, 10, 0, 0, []), (297, .iload 9, 299, 0, 9, 0, 0, []), (299, .if_icmp .le 7, 302, 0, 306, 0, 0, []), (302, .iload 9, 304, 0, 9, 0, 0, [])]),
 (330, [(304, .istore 10, 306, 0, 10, 0, 0, []), (306, .iload 10, 308, 0, 10, 0, 0, []), (308, .ifCond .gt 4, 311, 0, 312, 0, 0, []), (311, .return_, 312, 0, 0, 0, 0, []), (312, .aload_n 0, 313, 0, 0, 0, 0, []), (313, .getfield 52, 316, 0, 11, 17, 2, [(0, 1094)]), (316, .aload_n 0, 317, 0, 0, 0, 0, []), (317, .getfield 221, 320, 0, 11, 0, 0, [(0, 1077)]), (320, .bipush 30, 322, 30, 0, 0, 0, []), (322, .imul, 323, 0, 0, 0, 0, []), (323, .iload 5, 325, 0, 5, 0, 0, []), (325, .iadd, 326, 0, 0, 0, 0, []), (326, .dup2, 327, 0, 0, 0, 0, []), (327, .iaload, 328, 0, 0, 0, 0, []), (328, .iload 10, 330, 0, 10, 0, 0, []), (330, .iadd, 331, 0, 0, 0, 0, [])]),
 (353, [(331, .iastore, 332, 0, 0, 0, 0, []), (332, .aload_n 0, 333, 0, 0, 0, 0, []), (333, .getfield 77, 336, 0, 11, 26, 2, [(0, 1103)]), (336, .aload_n 0, 337, 0, 0, 0, 0, []), (337, .getfield 221, 340, 0, 11, 0, 0, [(0, 1077)]), (340, .sipush 480, 343, 480, 0, 0, 0, []), (343, .imul, 344, 0, 0, 0, 0, []), (344, .iload_n 1, 345, 0, 1, 0, 0, []), (345, .bipush 20, 347, 20, 0, 0, 0, []), (347, .imul, 348, 0, 0, 0, 0, []), (348, .iadd, 349, 0, 0, 0, 0, []), (349, .iload_n 2, 350, 0, 2, 0, 0, []), (350, .iadd, 351, 0, 0, 0, 0, []), (351, .dup2, 352, 0, 0, 0, 0, []), (352, .iaload, 353, 0, 0, 0, 0, []), (353, .iload 10, 355, 0, 10, 0, 0, [])]),
 (379, [(355, .isub, 356, 0, 0, 0, 0, []), (356, .iastore, 357, 0, 0, 0, 0, []), (357, .aload_n 0, 358, 0, 0, 0, 0, []), (358, .iload_n 2, 359, 0, 2, 0, 0, []), (359, .iload 10, 361, 0, 10, 0, 0, []), (361, .ineg, 362, 0, 0, 0, 0, []), (362, .invokevirtual 224, 365, 0, 1116, 3, 0, [(0, 1337), (0, 1339), (0, 34), (0, 81), (0, 1340)]), (365, .aload_n 0, 366, 0, 0, 0, 0, []), (366, .getfield 22, 369, 0, 11, 6, 2, [(0, 1083)]), (369, .aload_n 0, 370, 0, 0, 0, 0, []), (370, .getfield 221, 373, 0, 11, 0, 0, [(0, 1077)]), (373, .bipush 20, 375, 20, 0, 0, 0, []), (375, .imul, 376, 0, 0, 0, 0, []), (376, .iload 6, 378, 0, 6, 0, 0, []), (378, .iadd, 379, 0, 0, 0, 0, []), (379, .dup2, 380, 0, 0, 0, 0, [])]),
 (405, [(380, .iaload, 381, 0, 0, 0, 0, []), (381, .iload 10, 383, 0, 10, 0, 0, []), (383, .iadd, 384, 0, 0, 0, 0, []), (384, .iastore, 385, 0, 0, 0, 0, []), (385, .aload_n 0, 386, 0, 0, 0, 0, []), (386, .getfield 83, 389, 0, 11, 28, 2, [(0, 1105)]), (389, .aload_n 0, 390, 0, 0, 0, 0, []), (390, .iload_n 1, 391, 0, 1, 0, 0, []), (391, .iload 5, 393, 0, 5, 0, 0, []), (393, .aload_n 0, 394, 0, 0, 0, 0, []), (394, .getfield 40, 397, 0, 11, 13, 2, [(0, 1090)]), (397, .iload 5, 399, 0, 5, 0, 0, []), (399, .iaload, 400, 0, 0, 0, 0, []), (400, .iload 6, 402, 0, 6, 0, 0, []), (402, .if_icmp .ne 7, 405, 0, 409, 0, 0, []), (405, .iconst 1, 406, 1, 0, 0, 0, [])]),
 (426, [(406, .goto 4, 409, 0, 410, 0, 0, []), (409, .iconst 0, 410, 0, 0, 0, 0, []), (410, .aload_n 0, 411, 0, 0, 0, 0, []), (411, .getfield 46, 414, 0, 11, 15, 2, [(0, 1092)]), (414, .iload 5, 416, 0, 5, 0, 0, []), (416, .iaload, 417, 0, 0, 0, 0, []), (417, .invokevirtual 263, 420, 0, 1125, 5, 1, [(0, 1417), (0, 1419), (0, 48), (0, 81), (0, 1420)]), (420, .dup2, 421, 0, 0, 0, 0, []), (421, .iaload, 422, 0, 0, 0, 0, []), (422, .iload 10, 424, 0, 10, 0, 0, []), (424, .iadd, 425, 0, 0, 0, 0, []), (425, .iastore, 426, 0, 0, 0, 0, []), (426, .return_, 427, 0, 0, 0, 0, [])])]
def tb_M_pushes : List (Nat × List (Nat × am_X)) := [
 (22, [(0, .iconst 0, 1, 0, 0, 0, 0, []), (1, .istore_n 1, 2, 0, 1, 0, 0, []), (2, .iload_n 1, 3, 0, 1, 0, 0, []), (3, .aload_n 0, 4, 0, 0, 0, 0, []), (4, .getfield 188, 7, 0, 11, 2, 0, [(0, 1079)]), (7, .if_icmp .ge 164, 10, 0, 171, 0, 0, []), (10, .aload_n 0, 11, 0, 0, 0, 0, []), (11, .getfield 221, 14, 0, 11, 0, 0, [(0, 1077)]), (14, .bipush 20, 16, 20, 0, 0, 0, []), (16, .imul, 17, 0, 0, 0, 0, []), (17, .iload_n 1, 18, 0, 1, 0, 0, []), (18, .iadd, 19, 0, 0, 0, 0, []), (19, .istore_n 2, 20, 0, 2, 0, 0, []), (20, .aload_n 0, 21, 0, 0, 0, 0, []), (21, .iload_n 1, 22, 0, 1, 0, 0, []), (22, .invokevirtual 231, 25, 0, 1115, 2, 1, [(0, 1341), (0, 1343), (0, 35), (0, 81), (0, 1344)])]),
 (48, [(25, .istore_n 3, 26, 0, 3, 0, 0, []), (26, .iload_n 3, 27, 0, 3, 0, 0, []), (27, .aload_n 0, 28, 0, 0, 0, 0, []), (28, .getfield 34, 31, 0, 11, 10, 2, [(0, 1087)]), (31, .iload_n 2, 32, 0, 2, 0, 0, []), (32, .iaload, 33, 0, 0, 0, 0, []), (33, .if_icmp .le 10, 36, 0, 43, 0, 0, []), (36, .aload_n 0, 37, 0, 0, 0, 0, []), (37, .getfield 34, 40, 0, 11, 10, 2, [(0, 1087)]), (40, .iload_n 2, 41, 0, 2, 0, 0, []), (41, .iload_n 3, 42, 0, 3, 0, 0, []), (42, .iastore, 43, 0, 0, 0, 0, []), (43, .aload_n 0, 44, 0, 0, 0, 0, []), (44, .getfield 28, 47, 0, 11, 8, 2, [(0, 1085)]), (47, .iload_n 2, 48, 0, 2, 0, 0, []), (48, .iload_n 3, 49, 0, 3, 0, 0, [])]),
 (73, [(49, .bipush 120, 51, 120, 0, 0, 0, []), (51, .if_icmp .lt 14, 54, 0, 65, 0, 0, []), (54, .aload_n 0, 55, 0, 0, 0, 0, []), (55, .getfield 28, 58, 0, 11, 8, 2, [(0, 1085)]), (58, .iload_n 2, 59, 0, 2, 0, 0, []), (59, .iaload, 60, 0, 0, 0, 0, []), (60, .iconst 1, 61, 1, 0, 0, 0, []), (61, .iadd, 62, 0, 0, 0, 0, []), (62, .goto 4, 65, 0, 66, 0, 0, []), (65, .iconst 0, 66, 0, 0, 0, 0, []), (66, .iastore, 67, 0, 0, 0, 0, []), (67, .aload_n 0, 68, 0, 0, 0, 0, []), (68, .getfield 28, 71, 0, 11, 8, 2, [(0, 1085)]), (71, .iload_n 2, 72, 0, 2, 0, 0, []), (72, .iaload, 73, 0, 0, 0, 0, []), (73, .iconst 3, 74, 3, 0, 0, 0, [])]),
 (101, [(74, .if_icmp .ge 6, 77, 0, 80, 0, 0, []), (77, .goto 88, 80, 0, 165, 0, 0, []), (80, .iload_n 3, 81, 0, 3, 0, 0, []), (81, .bipush 110, 83, 110, 0, 0, 0, []), (83, .isub, 84, 0, 0, 0, 0, []), (84, .bipush 10, 86, 10, 0, 0, 0, []), (86, .idiv, 87, 0, 0, 0, 0, []), (87, .istore 4, 89, 0, 4, 0, 0, []), (89, .iload 4, 91, 0, 4, 0, 0, []), (91, .aload_n 0, 92, 0, 0, 0, 0, []), (92, .getfield 19, 95, 0, 11, 5, 2, [(0, 1082)]), (95, .iload_n 2, 96, 0, 2, 0, 0, []), (96, .iaload, 97, 0, 0, 0, 0, []), (97, .aload_n 0, 98, 0, 0, 0, 0, []), (98, .getfield 31, 101, 0, 11, 9, 2, [(0, 1086)]), (101, .iload_n 2, 102, 0, 2, 0, 0, [])]),
 (127, [(102, .iaload, 103, 0, 0, 0, 0, []), (103, .isub, 104, 0, 0, 0, 0, []), (104, .if_icmp .le 18, 107, 0, 122, 0, 0, []), (107, .aload_n 0, 108, 0, 0, 0, 0, []), (108, .getfield 19, 111, 0, 11, 5, 2, [(0, 1082)]), (111, .iload_n 2, 112, 0, 2, 0, 0, []), (112, .iaload, 113, 0, 0, 0, 0, []), (113, .aload_n 0, 114, 0, 0, 0, 0, []), (114, .getfield 31, 117, 0, 11, 9, 2, [(0, 1086)]), (117, .iload_n 2, 118, 0, 2, 0, 0, []), (118, .iaload, 119, 0, 0, 0, 0, []), (119, .isub, 120, 0, 0, 0, 0, []), (120, .istore 4, 122, 0, 4, 0, 0, []), (122, .iload 4, 124, 0, 4, 0, 0, []), (124, .ifCond .gt 6, 127, 0, 130, 0, 0, []), (127, .goto 38, 130, 0, 165, 0, 0, [])]),
 (154, [(130, .aload_n 0, 131, 0, 0, 0, 0, []), (131, .getfield 31, 134, 0, 11, 9, 2, [(0, 1086)]), (134, .iload_n 2, 135, 0, 2, 0, 0, []), (135, .dup2, 136, 0, 0, 0, 0, []), (136, .iaload, 137, 0, 0, 0, 0, []), (137, .iload 4, 139, 0, 4, 0, 0, []), (139, .iadd, 140, 0, 0, 0, 0, []), (140, .iastore, 141, 0, 0, 0, 0, []), (141, .aload_n 0, 142, 0, 0, 0, 0, []), (142, .getfield 37, 145, 0, 11, 11, 2, [(0, 1088)]), (145, .iload_n 2, 146, 0, 2, 0, 0, []), (146, .iaload, 147, 0, 0, 0, 0, []), (147, .ifCond .ge 18, 150, 0, 165, 0, 0, []), (150, .aload_n 0, 151, 0, 0, 0, 0, []), (151, .getfield 37, 154, 0, 11, 11, 2, [(0, 1088)]), (154, .iload_n 2, 155, 0, 2, 0, 0, [])]),
 (171, [(155, .aload_n 0, 156, 0, 0, 0, 0, []), (156, .getfield 7, 159, 0, 11, 1, 2, [(0, 1078)]), (159, .aload_n 0, 160, 0, 0, 0, 0, []), (160, .getfield 221, 163, 0, 11, 0, 0, [(0, 1077)]), (163, .iaload, 164, 0, 0, 0, 0, []), (164, .iastore, 165, 0, 0, 0, 0, []), (165, .iinc 1 1, 168, 1, 1, 0, 0, []), (168, .goto (-166), 171, 0, 2, 0, 0, []), (171, .return_, 172, 0, 0, 0, 0, [])])]
def tb_M_carry : List (Nat × List (Nat × am_X)) := [
 (25, [(0, .iconst 0, 1, 0, 0, 0, 0, []), (1, .istore_n 1, 2, 0, 1, 0, 0, []), (2, .iload_n 1, 3, 0, 1, 0, 0, []), (3, .aload_n 0, 4, 0, 0, 0, 0, []), (4, .getfield 197, 7, 0, 11, 29, 0, [(0, 1106)]), (7, .if_icmp .ge 133, 10, 0, 140, 0, 0, []), (10, .aload_n 0, 11, 0, 0, 0, 0, []), (11, .getfield 7, 14, 0, 11, 1, 2, [(0, 1078)]), (14, .aload_n 0, 15, 0, 0, 0, 0, []), (15, .getfield 221, 18, 0, 11, 0, 0, [(0, 1077)]), (18, .iaload, 19, 0, 0, 0, 0, []), (19, .aload_n 0, 20, 0, 0, 0, 0, []), (20, .getfield 89, 23, 0, 11, 31, 2, [(0, 1108)]), (23, .iload_n 1, 24, 0, 1, 0, 0, []), (24, .iaload, 25, 0, 0, 0, 0, []), (25, .isub, 26, 0, 0, 0, 0, [])]),
 (52, [(26, .istore_n 2, 27, 0, 2, 0, 0, []), (27, .iload_n 2, 28, 0, 2, 0, 0, []), (28, .ifCond .lt 106, 31, 0, 134, 0, 0, []), (31, .iload_n 2, 32, 0, 2, 0, 0, []), (32, .aload_n 0, 33, 0, 0, 0, 0, []), (33, .getfield 92, 36, 0, 11, 32, 2, [(0, 1109)]), (36, .iload_n 1, 37, 0, 1, 0, 0, []), (37, .iaload, 38, 0, 0, 0, 0, []), (38, .irem, 39, 0, 0, 0, 0, []), (39, .ifCond .ne 95, 42, 0, 134, 0, 0, []), (42, .aload_n 0, 43, 0, 0, 0, 0, []), (43, .getfield 98, 46, 0, 11, 34, 2, [(0, 1111)]), (46, .aload_n 0, 47, 0, 0, 0, 0, []), (47, .getfield 221, 50, 0, 11, 0, 0, [(0, 1077)]), (50, .bipush 8, 52, 8, 0, 0, 0, []), (52, .imul, 53, 0, 0, 0, 0, [])]),
 (77, [(53, .iload_n 1, 54, 0, 1, 0, 0, []), (54, .iadd, 55, 0, 0, 0, 0, []), (55, .baload, 56, 0, 0, 0, 0, []), (56, .ifCond .eq 6, 59, 0, 62, 0, 0, []), (59, .goto 75, 62, 0, 134, 0, 0, []), (62, .aload_n 0, 63, 0, 0, 0, 0, []), (63, .getfield 221, 66, 0, 11, 0, 0, [(0, 1077)]), (66, .bipush 20, 68, 20, 0, 0, 0, []), (68, .imul, 69, 0, 0, 0, 0, []), (69, .aload_n 0, 70, 0, 0, 0, 0, []), (70, .getfield 86, 73, 0, 11, 30, 2, [(0, 1107)]), (73, .iload_n 1, 74, 0, 1, 0, 0, []), (74, .iaload, 75, 0, 0, 0, 0, []), (75, .iadd, 76, 0, 0, 0, 0, []), (76, .istore_n 3, 77, 0, 3, 0, 0, []), (77, .aload_n 0, 78, 0, 0, 0, 0, [])]),
 (105, [(78, .getfield 25, 81, 0, 11, 7, 2, [(0, 1084)]), (81, .iload_n 3, 82, 0, 3, 0, 0, []), (82, .iaload, 83, 0, 0, 0, 0, []), (83, .aload_n 0, 84, 0, 0, 0, 0, []), (84, .getfield 95, 87, 0, 11, 33, 2, [(0, 1110)]), (87, .iload_n 1, 88, 0, 1, 0, 0, []), (88, .iaload, 89, 0, 0, 0, 0, []), (89, .if_icmp .ge 12, 92, 0, 101, 0, 0, []), (92, .aload_n 0, 93, 0, 0, 0, 0, []), (93, .getfield 25, 96, 0, 11, 7, 2, [(0, 1084)]), (96, .iload_n 3, 97, 0, 3, 0, 0, []), (97, .iaload, 98, 0, 0, 0, 0, []), (98, .goto 9, 101, 0, 107, 0, 0, []), (101, .aload_n 0, 102, 0, 0, 0, 0, []), (102, .getfield 95, 105, 0, 11, 33, 2, [(0, 1110)]), (105, .iload_n 1, 106, 0, 1, 0, 0, [])]),
 (129, [(106, .iaload, 107, 0, 0, 0, 0, []), (107, .istore 4, 109, 0, 4, 0, 0, []), (109, .aload_n 0, 110, 0, 0, 0, 0, []), (110, .getfield 25, 113, 0, 11, 7, 2, [(0, 1084)]), (113, .iload_n 3, 114, 0, 3, 0, 0, []), (114, .dup2, 115, 0, 0, 0, 0, []), (115, .iaload, 116, 0, 0, 0, 0, []), (116, .iload 4, 118, 0, 4, 0, 0, []), (118, .isub, 119, 0, 0, 0, 0, []), (119, .iastore, 120, 0, 0, 0, 0, []), (120, .aload_n 0, 121, 0, 0, 0, 0, []), (121, .getfield 101, 124, 0, 11, 35, 2, [(0, 1112)]), (124, .aload_n 0, 125, 0, 0, 0, 0, []), (125, .getfield 221, 128, 0, 11, 0, 0, [(0, 1077)]), (128, .dup2, 129, 0, 0, 0, 0, []), (129, .iaload, 130, 0, 0, 0, 0, [])]),
 (140, [(130, .iload 4, 132, 0, 4, 0, 0, []), (132, .iadd, 133, 0, 0, 0, 0, []), (133, .iastore, 134, 0, 0, 0, 0, []), (134, .iinc 1 1, 137, 1, 1, 0, 0, []), (137, .goto (-135), 140, 0, 2, 0, 0, []), (140, .return_, 141, 0, 0, 0, 0, [])])]
def tb_M_pass : List (Nat × List (Nat × am_X)) := [
 (21, [(0, .aload_n 0, 1, 0, 0, 0, 0, []), (1, .getfield 7, 4, 0, 11, 1, 2, [(0, 1078)]), (4, .aload_n 0, 5, 0, 0, 0, 0, []), (5, .getfield 221, 8, 0, 11, 0, 0, [(0, 1077)]), (8, .dup2, 9, 0, 0, 0, 0, []), (9, .iaload, 10, 0, 0, 0, 0, []), (10, .iconst 1, 11, 1, 0, 0, 0, []), (11, .iadd, 12, 0, 0, 0, 0, []), (12, .iastore, 13, 0, 0, 0, 0, []), (13, .aload_n 0, 14, 0, 0, 0, 0, []), (14, .invokevirtual 268, 17, 0, 1126, 1, 0, [(0, 1401), (0, 1403), (0, 44), (0, 81), (0, 1404)]), (17, .iconst 0, 18, 0, 0, 0, 0, []), (18, .istore_n 1, 19, 0, 1, 0, 0, []), (19, .iload_n 1, 20, 0, 1, 0, 0, []), (20, .aload_n 0, 21, 0, 0, 0, 0, []), (21, .getfield 191, 24, 0, 11, 12, 0, [(0, 1089)])]),
 (52, [(24, .if_icmp .ge 24, 27, 0, 48, 0, 0, []), (27, .aload_n 0, 28, 0, 0, 0, 0, []), (28, .getfield 52, 31, 0, 11, 17, 2, [(0, 1094)]), (31, .aload_n 0, 32, 0, 0, 0, 0, []), (32, .getfield 221, 35, 0, 11, 0, 0, [(0, 1077)]), (35, .bipush 30, 37, 30, 0, 0, 0, []), (37, .imul, 38, 0, 0, 0, 0, []), (38, .iload_n 1, 39, 0, 1, 0, 0, []), (39, .iadd, 40, 0, 0, 0, 0, []), (40, .iconst 0, 41, 0, 0, 0, 0, []), (41, .iastore, 42, 0, 0, 0, 0, []), (42, .iinc 1 1, 45, 1, 1, 0, 0, []), (45, .goto (-26), 48, 0, 19, 0, 0, []), (48, .aload_n 0, 49, 0, 0, 0, 0, []), (49, .invokevirtual 271, 52, 0, 1127, 1, 1, [(0, 1409), (0, 1411), (0, 46), (0, 81), (0, 1412)]), (52, .istore_n 1, 53, 0, 1, 0, 0, [])]),
 (76, [(53, .iconst 0, 54, 0, 0, 0, 0, []), (54, .istore_n 2, 55, 0, 2, 0, 0, []), (55, .iload_n 2, 56, 0, 2, 0, 0, []), (56, .aload_n 0, 57, 0, 0, 0, 0, []), (57, .getfield 194, 60, 0, 11, 18, 0, [(0, 1095)]), (60, .if_icmp .ge 31, 63, 0, 91, 0, 0, []), (63, .iconst 0, 64, 0, 0, 0, 0, []), (64, .istore_n 3, 65, 0, 3, 0, 0, []), (65, .iload_n 3, 66, 0, 3, 0, 0, []), (66, .aload_n 0, 67, 0, 0, 0, 0, []), (67, .getfield 188, 70, 0, 11, 2, 0, [(0, 1079)]), (70, .if_icmp .ge 15, 73, 0, 85, 0, 0, []), (73, .aload_n 0, 74, 0, 0, 0, 0, []), (74, .iload_n 2, 75, 0, 2, 0, 0, []), (75, .iload_n 3, 76, 0, 3, 0, 0, []), (76, .invokevirtual 275, 79, 0, 1129, 3, 0, [(0, 1421), (0, 1423), (0, 49), (0, 81), (0, 1424)])]),
 (104, [(79, .iinc 3 1, 82, 1, 3, 0, 0, []), (82, .goto (-17), 85, 0, 65, 0, 0, []), (85, .iinc 2 1, 88, 1, 2, 0, 0, []), (88, .goto (-33), 91, 0, 55, 0, 0, []), (91, .aload_n 0, 92, 0, 0, 0, 0, []), (92, .invokevirtual 278, 95, 0, 1130, 1, 0, [(0, 1426), (0, 1428), (0, 50), (0, 81), (0, 1429)]), (95, .aload_n 0, 96, 0, 0, 0, 0, []), (96, .invokevirtual 281, 99, 0, 1131, 1, 0, [(0, 1430), (0, 1432), (0, 51), (0, 81), (0, 1433)]), (99, .aload_n 0, 100, 0, 0, 0, 0, []), (100, .invokevirtual 284, 103, 0, 1153, 1, 0, [(0, 1434), (0, 1436), (0, 52), (0, 81), (0, 1437)]), (103, .iload_n 1, 104, 0, 1, 0, 0, []), (104, .ireturn, 105, 0, 0, 0, 0, [])])]
def tb_M_ticks : List (Nat × List (Nat × am_X)) := [
 (26, [(0, .iload_n 1, 1, 0, 1, 0, 0, []), (1, .iconst 1, 2, 1, 0, 0, 0, []), (2, .if_icmp .ge 10, 5, 0, 12, 0, 0, []), (5, .aload_n 0, 6, 0, 0, 0, 0, []), (6, .bipush (-4), 8, (-4), 0, 0, 0, []), (8, .invokevirtual 203, 11, 0, 1101, 2, 1, [(0, 1309), (0, 1311), (0, 30), (0, 81), (0, 1312)]), (11, .ireturn, 12, 0, 0, 0, 0, []), (12, .iload_n 1, 13, 0, 1, 0, 0, []), (13, .sipush 999, 16, 999, 0, 0, 0, []), (16, .aload_n 0, 17, 0, 0, 0, 0, []), (17, .getfield 7, 20, 0, 11, 1, 2, [(0, 1078)]), (20, .iconst 0, 21, 0, 0, 0, 0, []), (21, .iaload, 22, 0, 0, 0, 0, []), (22, .isub, 23, 0, 0, 0, 0, []), (23, .if_icmp .le 10, 26, 0, 33, 0, 0, []), (26, .aload_n 0, 27, 0, 0, 0, 0, [])]),
 (49, [(27, .bipush (-6), 29, (-6), 0, 0, 0, []), (29, .invokevirtual 203, 32, 0, 1101, 2, 1, [(0, 1309), (0, 1311), (0, 30), (0, 81), (0, 1312)]), (32, .ireturn, 33, 0, 0, 0, 0, []), (33, .aload_n 0, 34, 0, 0, 0, 0, []), (34, .iconst 0, 35, 0, 0, 0, 0, []), (35, .putfield 221, 38, 0, 11, 0, 0, [(0, 1077)]), (38, .iconst 0, 39, 0, 0, 0, 0, []), (39, .istore_n 2, 40, 0, 2, 0, 0, []), (40, .iconst 0, 41, 0, 0, 0, 0, []), (41, .istore_n 3, 42, 0, 3, 0, 0, []), (42, .iload_n 3, 43, 0, 3, 0, 0, []), (43, .iload_n 1, 44, 0, 1, 0, 0, []), (44, .if_icmp .ge 60, 47, 0, 104, 0, 0, []), (47, .iload_n 2, 48, 0, 2, 0, 0, []), (48, .aload_n 0, 49, 0, 0, 0, 0, []), (49, .invokevirtual 287, 52, 0, 1132, 1, 1, [(0, 1397), (0, 1399), (0, 43), (0, 81), (0, 1400)])]),
 (80, [(52, .iadd, 53, 0, 0, 0, 0, []), (53, .istore_n 2, 54, 0, 2, 0, 0, []), (54, .iconst 0, 55, 0, 0, 0, 0, []), (55, .istore 4, 57, 0, 4, 0, 0, []), (57, .iload 4, 59, 0, 4, 0, 0, []), (59, .aload_n 0, 60, 0, 0, 0, 0, []), (60, .getfield 191, 63, 0, 11, 12, 0, [(0, 1089)]), (63, .if_icmp .ge 35, 66, 0, 98, 0, 0, []), (66, .aload_n 0, 67, 0, 0, 0, 0, []), (67, .getfield 139, 70, 0, 11, 49, 2, [(0, 1126)]), (70, .iload 4, 72, 0, 4, 0, 0, []), (72, .sipush 1000, 75, 1000, 0, 0, 0, []), (75, .imul, 76, 0, 0, 0, 0, []), (76, .aload_n 0, 77, 0, 0, 0, 0, []), (77, .getfield 7, 80, 0, 11, 1, 2, [(0, 1078)]), (80, .iconst 0, 81, 0, 0, 0, 0, [])]),
 (105, [(81, .iaload, 82, 0, 0, 0, 0, []), (82, .iadd, 83, 0, 0, 0, 0, []), (83, .aload_n 0, 84, 0, 0, 0, 0, []), (84, .getfield 52, 87, 0, 11, 17, 2, [(0, 1094)]), (87, .iload 4, 89, 0, 4, 0, 0, []), (89, .iaload, 90, 0, 0, 0, 0, []), (90, .i2s, 91, 0, 0, 0, 0, []), (91, .sastore, 92, 0, 0, 0, 0, []), (92, .iinc 4 1, 95, 1, 4, 0, 0, []), (95, .goto (-38), 98, 0, 57, 0, 0, []), (98, .iinc 3 1, 101, 1, 3, 0, 0, []), (101, .goto (-59), 104, 0, 42, 0, 0, []), (104, .iload_n 2, 105, 0, 2, 0, 0, []), (105, .ireturn, 106, 0, 0, 0, 0, [])])]
def tb_M_areaOf : List (Nat × List (Nat × am_X)) := [
 (27, [(0, .aload_n 0, 1, 0, 0, 0, 0, []), (1, .iload_n 1, 2, 0, 1, 0, 0, []), (2, .invokevirtual 210, 5, 0, 1102, 2, 1, [(0, 1317), (0, 1319), (0, 31), (0, 81), (0, 1320)]), (5, .ifCond .ne 9, 8, 0, 14, 0, 0, []), (8, .aload_n 0, 9, 0, 0, 0, 0, []), (9, .iconst (-1), 10, (-1), 0, 0, 0, []), (10, .invokevirtual 203, 13, 0, 1101, 2, 1, [(0, 1309), (0, 1311), (0, 30), (0, 81), (0, 1312)]), (13, .ireturn, 14, 0, 0, 0, 0, []), (14, .iload_n 2, 15, 0, 2, 0, 0, []), (15, .ifCond .lt 9, 18, 0, 24, 0, 0, []), (18, .iload_n 2, 19, 0, 2, 0, 0, []), (19, .bipush 7, 21, 7, 0, 0, 0, []), (21, .if_icmp .le 10, 24, 0, 31, 0, 0, []), (24, .aload_n 0, 25, 0, 0, 0, 0, []), (25, .bipush (-2), 27, (-2), 0, 0, 0, []), (27, .invokevirtual 203, 30, 0, 1101, 2, 1, [(0, 1309), (0, 1311), (0, 30), (0, 81), (0, 1312)])]),
 (53, [(30, .ireturn, 31, 0, 0, 0, 0, []), (31, .aload_n 0, 32, 0, 0, 0, 0, []), (32, .iconst 0, 33, 0, 0, 0, 0, []), (33, .putfield 221, 36, 0, 11, 0, 0, [(0, 1077)]), (36, .iload_n 2, 37, 0, 2, 0, 0, []), (37, .ifCond .ne 10, 40, 0, 47, 0, 0, []), (40, .aload_n 0, 41, 0, 0, 0, 0, []), (41, .getfield 13, 44, 0, 11, 3, 2, [(0, 1080)]), (44, .iload_n 1, 45, 0, 1, 0, 0, []), (45, .iaload, 46, 0, 0, 0, 0, []), (46, .ireturn, 47, 0, 0, 0, 0, []), (47, .iload_n 2, 48, 0, 2, 0, 0, []), (48, .iconst 1, 49, 1, 0, 0, 0, []), (49, .if_icmp .ne 10, 52, 0, 59, 0, 0, []), (52, .aload_n 0, 53, 0, 0, 0, 0, []), (53, .getfield 16, 56, 0, 11, 4, 2, [(0, 1081)])]),
 (77, [(56, .iload_n 1, 57, 0, 1, 0, 0, []), (57, .iaload, 58, 0, 0, 0, 0, []), (58, .ireturn, 59, 0, 0, 0, 0, []), (59, .iload_n 2, 60, 0, 2, 0, 0, []), (60, .iconst 2, 61, 2, 0, 0, 0, []), (61, .if_icmp .ne 10, 64, 0, 71, 0, 0, []), (64, .aload_n 0, 65, 0, 0, 0, 0, []), (65, .getfield 19, 68, 0, 11, 5, 2, [(0, 1082)]), (68, .iload_n 1, 69, 0, 1, 0, 0, []), (69, .iaload, 70, 0, 0, 0, 0, []), (70, .ireturn, 71, 0, 0, 0, 0, []), (71, .iload_n 2, 72, 0, 2, 0, 0, []), (72, .iconst 3, 73, 3, 0, 0, 0, []), (73, .if_icmp .ne 9, 76, 0, 82, 0, 0, []), (76, .aload_n 0, 77, 0, 0, 0, 0, []), (77, .iload_n 1, 78, 0, 1, 0, 0, [])]),
 (103, [(78, .invokevirtual 231, 81, 0, 1115, 2, 1, [(0, 1341), (0, 1343), (0, 35), (0, 81), (0, 1344)]), (81, .ireturn, 82, 0, 0, 0, 0, []), (82, .iload_n 2, 83, 0, 2, 0, 0, []), (83, .iconst 4, 84, 4, 0, 0, 0, []), (84, .if_icmp .ne 10, 87, 0, 94, 0, 0, []), (87, .aload_n 0, 88, 0, 0, 0, 0, []), (88, .getfield 28, 91, 0, 11, 8, 2, [(0, 1085)]), (91, .iload_n 1, 92, 0, 1, 0, 0, []), (92, .iaload, 93, 0, 0, 0, 0, []), (93, .ireturn, 94, 0, 0, 0, 0, []), (94, .iload_n 2, 95, 0, 2, 0, 0, []), (95, .iconst 5, 96, 5, 0, 0, 0, []), (96, .if_icmp .ne 10, 99, 0, 106, 0, 0, []), (99, .aload_n 0, 100, 0, 0, 0, 0, []), (100, .getfield 31, 103, 0, 11, 9, 2, [(0, 1086)]), (103, .iload_n 1, 104, 0, 1, 0, 0, [])]),
 (127, [(104, .iaload, 105, 0, 0, 0, 0, []), (105, .ireturn, 106, 0, 0, 0, 0, []), (106, .iload_n 2, 107, 0, 2, 0, 0, []), (107, .bipush 6, 109, 6, 0, 0, 0, []), (109, .if_icmp .ne 12, 112, 0, 121, 0, 0, []), (112, .aload_n 0, 113, 0, 0, 0, 0, []), (113, .getfield 34, 116, 0, 11, 10, 2, [(0, 1087)]), (116, .iload_n 1, 117, 0, 1, 0, 0, []), (117, .iaload, 118, 0, 0, 0, 0, []), (118, .goto 9, 121, 0, 127, 0, 0, []), (121, .aload_n 0, 122, 0, 0, 0, 0, []), (122, .getfield 37, 125, 0, 11, 11, 2, [(0, 1088)]), (125, .iload_n 1, 126, 0, 1, 0, 0, []), (126, .iaload, 127, 0, 0, 0, 0, []), (127, .ireturn, 128, 0, 0, 0, 0, [])])]
def tb_M_onLink : List (Nat × List (Nat × am_X)) := [
 (23, [(0, .iconst 0, 1, 0, 0, 0, 0, []), (1, .istore_n 3, 2, 0, 3, 0, 0, []), (2, .iconst 0, 3, 0, 0, 0, 0, []), (3, .istore 4, 5, 0, 4, 0, 0, []), (5, .iload 4, 7, 0, 4, 0, 0, []), (7, .bipush 18, 9, 18, 0, 0, 0, []), (9, .if_icmp .ge 29, 12, 0, 38, 0, 0, []), (12, .iload_n 3, 13, 0, 3, 0, 0, []), (13, .aload_n 0, 14, 0, 0, 0, 0, []), (14, .getfield 83, 17, 0, 11, 28, 2, [(0, 1105)]), (17, .iload_n 1, 18, 0, 1, 0, 0, []), (18, .bipush 30, 20, 30, 0, 0, 0, []), (20, .imul, 21, 0, 0, 0, 0, []), (21, .iload_n 2, 22, 0, 2, 0, 0, []), (22, .iadd, 23, 0, 0, 0, 0, []), (23, .bipush 18, 25, 18, 0, 0, 0, [])]),
 (39, [(25, .imul, 26, 0, 0, 0, 0, []), (26, .iload 4, 28, 0, 4, 0, 0, []), (28, .iadd, 29, 0, 0, 0, 0, []), (29, .iaload, 30, 0, 0, 0, 0, []), (30, .iadd, 31, 0, 0, 0, 0, []), (31, .istore_n 3, 32, 0, 3, 0, 0, []), (32, .iinc 4 1, 35, 1, 4, 0, 0, []), (35, .goto (-30), 38, 0, 5, 0, 0, []), (38, .iload_n 3, 39, 0, 3, 0, 0, []), (39, .ireturn, 40, 0, 0, 0, 0, [])])]
def tb_M_folkOf : List (Nat × List (Nat × am_X)) := [
 (27, [(0, .aload_n 0, 1, 0, 0, 0, 0, []), (1, .iload_n 1, 2, 0, 1, 0, 0, []), (2, .invokevirtual 257, 5, 0, 1104, 2, 1, [(0, 1405), (0, 1407), (0, 45), (0, 81), (0, 1408)]), (5, .ifCond .ne 9, 8, 0, 14, 0, 0, []), (8, .aload_n 0, 9, 0, 0, 0, 0, []), (9, .iconst (-1), 10, (-1), 0, 0, 0, []), (10, .invokevirtual 203, 13, 0, 1101, 2, 1, [(0, 1309), (0, 1311), (0, 30), (0, 81), (0, 1312)]), (13, .ireturn, 14, 0, 0, 0, 0, []), (14, .iload_n 2, 15, 0, 2, 0, 0, []), (15, .ifCond .ne 11, 18, 0, 26, 0, 0, []), (18, .aload_n 0, 19, 0, 0, 0, 0, []), (19, .iload_n 3, 20, 0, 3, 0, 0, []), (20, .invokevirtual 210, 23, 0, 1102, 2, 1, [(0, 1317), (0, 1319), (0, 31), (0, 81), (0, 1320)]), (23, .ifCond .eq 16, 26, 0, 39, 0, 0, []), (26, .iload_n 2, 27, 0, 2, 0, 0, []), (27, .iconst 1, 28, 1, 0, 0, 0, [])]),
 (55, [(28, .if_icmp .ne 17, 31, 0, 45, 0, 0, []), (31, .aload_n 0, 32, 0, 0, 0, 0, []), (32, .iload_n 3, 33, 0, 3, 0, 0, []), (33, .invokevirtual 214, 36, 0, 1103, 2, 1, [(0, 1329), (0, 1331), (0, 33), (0, 81), (0, 1332)]), (36, .ifCond .ne 9, 39, 0, 45, 0, 0, []), (39, .aload_n 0, 40, 0, 0, 0, 0, []), (40, .iconst (-1), 41, (-1), 0, 0, 0, []), (41, .invokevirtual 203, 44, 0, 1101, 2, 1, [(0, 1309), (0, 1311), (0, 30), (0, 81), (0, 1312)]), (44, .ireturn, 45, 0, 0, 0, 0, []), (45, .iload_n 2, 46, 0, 2, 0, 0, []), (46, .ifCond .lt 8, 49, 0, 54, 0, 0, []), (49, .iload_n 2, 50, 0, 2, 0, 0, []), (50, .iconst 4, 51, 4, 0, 0, 0, []), (51, .if_icmp .le 10, 54, 0, 61, 0, 0, []), (54, .aload_n 0, 55, 0, 0, 0, 0, []), (55, .bipush (-2), 57, (-2), 0, 0, 0, [])]),
 (79, [(57, .invokevirtual 203, 60, 0, 1101, 2, 1, [(0, 1309), (0, 1311), (0, 30), (0, 81), (0, 1312)]), (60, .ireturn, 61, 0, 0, 0, 0, []), (61, .iload_n 2, 62, 0, 2, 0, 0, []), (62, .ifCond .ne 15, 65, 0, 77, 0, 0, []), (65, .aload_n 0, 66, 0, 0, 0, 0, []), (66, .getfield 77, 69, 0, 11, 26, 2, [(0, 1103)]), (69, .iload_n 1, 70, 0, 1, 0, 0, []), (70, .bipush 20, 72, 20, 0, 0, 0, []), (72, .imul, 73, 0, 0, 0, 0, []), (73, .iload_n 3, 74, 0, 3, 0, 0, []), (74, .iadd, 75, 0, 0, 0, 0, []), (75, .iaload, 76, 0, 0, 0, 0, []), (76, .ireturn, 77, 0, 0, 0, 0, []), (77, .iload_n 2, 78, 0, 2, 0, 0, []), (78, .iconst 1, 79, 1, 0, 0, 0, []), (79, .if_icmp .ne 10, 82, 0, 89, 0, 0, [])]),
 (103, [(82, .aload_n 0, 83, 0, 0, 0, 0, []), (83, .iload_n 1, 84, 0, 1, 0, 0, []), (84, .iload_n 3, 85, 0, 3, 0, 0, []), (85, .invokevirtual 290, 88, 0, 1135, 3, 1, [(0, 1474), (0, 1476), (0, 60), (0, 81), (0, 1477)]), (88, .ireturn, 89, 0, 0, 0, 0, []), (89, .iload_n 2, 90, 0, 2, 0, 0, []), (90, .iconst 2, 91, 2, 0, 0, 0, []), (91, .if_icmp .ne 10, 94, 0, 101, 0, 0, []), (94, .aload_n 0, 95, 0, 0, 0, 0, []), (95, .getfield 71, 98, 0, 11, 24, 2, [(0, 1101)]), (98, .iload_n 1, 99, 0, 1, 0, 0, []), (99, .iaload, 100, 0, 0, 0, 0, []), (100, .ireturn, 101, 0, 0, 0, 0, []), (101, .iload_n 2, 102, 0, 2, 0, 0, []), (102, .iconst 3, 103, 3, 0, 0, 0, []), (103, .if_icmp .ne 10, 106, 0, 113, 0, 0, [])]),
 (129, [(106, .aload_n 0, 107, 0, 0, 0, 0, []), (107, .getfield 61, 110, 0, 11, 21, 2, [(0, 1098)]), (110, .iload_n 1, 111, 0, 1, 0, 0, []), (111, .iaload, 112, 0, 0, 0, 0, []), (112, .ireturn, 113, 0, 0, 0, 0, []), (113, .aload_n 0, 114, 0, 0, 0, 0, []), (114, .getfield 71, 117, 0, 11, 24, 2, [(0, 1101)]), (117, .iload_n 1, 118, 0, 1, 0, 0, []), (118, .iaload, 119, 0, 0, 0, 0, []), (119, .aload_n 0, 120, 0, 0, 0, 0, []), (120, .getfield 58, 123, 0, 11, 20, 2, [(0, 1097)]), (123, .iload_n 1, 124, 0, 1, 0, 0, []), (124, .iaload, 125, 0, 0, 0, 0, []), (125, .if_icmp .ne 12, 128, 0, 137, 0, 0, []), (128, .aload_n 0, 129, 0, 0, 0, 0, []), (129, .getfield 74, 132, 0, 11, 25, 2, [(0, 1102)])]),
 (139, [(132, .iload_n 1, 133, 0, 1, 0, 0, []), (133, .iaload, 134, 0, 0, 0, 0, []), (134, .goto 5, 137, 0, 139, 0, 0, []), (137, .bipush (-9), 139, (-9), 0, 0, 0, []), (139, .ireturn, 140, 0, 0, 0, 0, [])])]
def tb_M_kin : List (Nat × List (Nat × am_X)) := [
 (23, [(0, .aload_n 0, 1, 0, 0, 0, 0, []), (1, .iload_n 1, 2, 0, 1, 0, 0, []), (2, .invokevirtual 257, 5, 0, 1104, 2, 1, [(0, 1405), (0, 1407), (0, 45), (0, 81), (0, 1408)]), (5, .ifCond .ne 9, 8, 0, 14, 0, 0, []), (8, .aload_n 0, 9, 0, 0, 0, 0, []), (9, .iconst (-1), 10, (-1), 0, 0, 0, []), (10, .invokevirtual 203, 13, 0, 1101, 2, 1, [(0, 1309), (0, 1311), (0, 30), (0, 81), (0, 1312)]), (13, .ireturn, 14, 0, 0, 0, 0, []), (14, .iconst 0, 15, 0, 0, 0, 0, []), (15, .istore_n 2, 16, 0, 2, 0, 0, []), (16, .iconst 0, 17, 0, 0, 0, 0, []), (17, .istore_n 3, 18, 0, 3, 0, 0, []), (18, .iload_n 3, 19, 0, 3, 0, 0, []), (19, .aload_n 0, 20, 0, 0, 0, 0, []), (20, .getfield 188, 23, 0, 11, 2, 0, [(0, 1079)]), (23, .if_icmp .ge 26, 26, 0, 49, 0, 0, [])]),
 (52, [(26, .aload_n 0, 27, 0, 0, 0, 0, []), (27, .getfield 77, 30, 0, 11, 26, 2, [(0, 1103)]), (30, .iload_n 1, 31, 0, 1, 0, 0, []), (31, .bipush 20, 33, 20, 0, 0, 0, []), (33, .imul, 34, 0, 0, 0, 0, []), (34, .iload_n 3, 35, 0, 3, 0, 0, []), (35, .iadd, 36, 0, 0, 0, 0, []), (36, .iaload, 37, 0, 0, 0, 0, []), (37, .ifCond .le 6, 40, 0, 43, 0, 0, []), (40, .iinc 2 1, 43, 1, 2, 0, 0, []), (43, .iinc 3 1, 46, 1, 3, 0, 0, []), (46, .goto (-28), 49, 0, 18, 0, 0, []), (49, .iconst 0, 50, 0, 0, 0, 0, []), (50, .istore_n 3, 51, 0, 3, 0, 0, []), (51, .iload_n 3, 52, 0, 3, 0, 0, []), (52, .aload_n 0, 53, 0, 0, 0, 0, [])]),
 (78, [(53, .getfield 191, 56, 0, 11, 12, 0, [(0, 1089)]), (56, .if_icmp .ge 21, 59, 0, 77, 0, 0, []), (59, .aload_n 0, 60, 0, 0, 0, 0, []), (60, .iload_n 1, 61, 0, 1, 0, 0, []), (61, .iload_n 3, 62, 0, 3, 0, 0, []), (62, .invokevirtual 290, 65, 0, 1135, 3, 1, [(0, 1474), (0, 1476), (0, 60), (0, 81), (0, 1477)]), (65, .ifCond .le 6, 68, 0, 71, 0, 0, []), (68, .iinc 2 1, 71, 1, 2, 0, 0, []), (71, .iinc 3 1, 74, 1, 3, 0, 0, []), (74, .goto (-23), 77, 0, 51, 0, 0, []), (77, .iload_n 2, 78, 0, 2, 0, 0, []), (78, .ireturn, 79, 0, 0, 0, 0, [])])]
def tb_M_feed : List (Nat × List (Nat × am_X)) := [
 (26, [(0, .iload_n 1, 1, 0, 1, 0, 0, []), (1, .iconst 1, 2, 1, 0, 0, 0, []), (2, .if_icmp .ge 10, 5, 0, 12, 0, 0, []), (5, .aload_n 0, 6, 0, 0, 0, 0, []), (6, .bipush (-4), 8, (-4), 0, 0, 0, []), (8, .invokevirtual 203, 11, 0, 1101, 2, 1, [(0, 1309), (0, 1311), (0, 30), (0, 81), (0, 1312)]), (11, .ireturn, 12, 0, 0, 0, 0, []), (12, .iload_n 1, 13, 0, 1, 0, 0, []), (13, .bipush 8, 15, 8, 0, 0, 0, []), (15, .if_icmp .gt 14, 18, 0, 29, 0, 0, []), (18, .aload_n 0, 19, 0, 0, 0, 0, []), (19, .getfield 293, 22, 0, 11, 40, 0, [(0, 1117)]), (22, .iload_n 1, 23, 0, 1, 0, 0, []), (23, .iadd, 24, 0, 0, 0, 0, []), (24, .bipush 120, 26, 120, 0, 0, 0, []), (26, .if_icmp .le 10, 29, 0, 36, 0, 0, [])]),
 (56, [(29, .aload_n 0, 30, 0, 0, 0, 0, []), (30, .bipush (-6), 32, (-6), 0, 0, 0, []), (32, .invokevirtual 203, 35, 0, 1101, 2, 1, [(0, 1309), (0, 1311), (0, 30), (0, 81), (0, 1312)]), (35, .ireturn, 36, 0, 0, 0, 0, []), (36, .iconst 0, 37, 0, 0, 0, 0, []), (37, .istore 4, 39, 0, 4, 0, 0, []), (39, .iload 4, 41, 0, 4, 0, 0, []), (41, .iload_n 1, 42, 0, 1, 0, 0, []), (42, .if_icmp .ge 37, 45, 0, 79, 0, 0, []), (45, .aload_n 0, 46, 0, 0, 0, 0, []), (46, .getfield 114, 49, 0, 11, 39, 2, [(0, 1116)]), (49, .aload_n 0, 50, 0, 0, 0, 0, []), (50, .getfield 293, 53, 0, 11, 40, 0, [(0, 1117)]), (53, .lload_n 2, 54, 0, 2, 0, 0, []), (54, .bipush 8, 56, 8, 0, 0, 0, []), (56, .iload 4, 58, 0, 4, 0, 0, [])]),
 (83, [(58, .imul, 59, 0, 0, 0, 0, []), (59, .lshr, 60, 0, 0, 0, 0, []), (60, .l2i, 61, 0, 0, 0, 0, []), (61, .i2b, 62, 0, 0, 0, 0, []), (62, .bastore, 63, 0, 0, 0, 0, []), (63, .aload_n 0, 64, 0, 0, 0, 0, []), (64, .dup, 65, 0, 0, 0, 0, []), (65, .getfield 293, 68, 0, 11, 40, 0, [(0, 1117)]), (68, .iconst 1, 69, 1, 0, 0, 0, []), (69, .iadd, 70, 0, 0, 0, 0, []), (70, .putfield 293, 73, 0, 11, 40, 0, [(0, 1117)]), (73, .iinc 4 1, 76, 1, 4, 0, 0, []), (76, .goto (-37), 79, 0, 39, 0, 0, []), (79, .aload_n 0, 80, 0, 0, 0, 0, []), (80, .getfield 293, 83, 0, 11, 40, 0, [(0, 1117)]), (83, .ireturn, 84, 0, 0, 0, 0, [])])]
def tb_M_isDigit : List (Nat × List (Nat × am_X)) := [
 (27, [(0, .iload_n 1, 1, 0, 1, 0, 0, []), (1, .aload_n 0, 2, 0, 0, 0, 0, []), (2, .getfield 293, 5, 0, 11, 40, 0, [(0, 1117)]), (5, .if_icmp .ge 29, 8, 0, 34, 0, 0, []), (8, .aload_n 0, 9, 0, 0, 0, 0, []), (9, .getfield 114, 12, 0, 11, 39, 2, [(0, 1116)]), (12, .iload_n 1, 13, 0, 1, 0, 0, []), (13, .baload, 14, 0, 0, 0, 0, []), (14, .bipush 48, 16, 48, 0, 0, 0, []), (16, .if_icmp .lt 18, 19, 0, 34, 0, 0, []), (19, .aload_n 0, 20, 0, 0, 0, 0, []), (20, .getfield 114, 23, 0, 11, 39, 2, [(0, 1116)]), (23, .iload_n 1, 24, 0, 1, 0, 0, []), (24, .baload, 25, 0, 0, 0, 0, []), (25, .bipush 57, 27, 57, 0, 0, 0, []), (27, .if_icmp .gt 7, 30, 0, 34, 0, 0, [])]),
 (35, [(30, .iconst 1, 31, 1, 0, 0, 0, []), (31, .goto 4, 34, 0, 35, 0, 0, []), (34, .iconst 0, 35, 0, 0, 0, 0, []), (35, .ireturn, 36, 0, 0, 0, 1, [])])]
def tb_M_byteOf : List (Nat × List (Nat × am_X)) := [
 (18, [(0, .iload_n 1, 1, 0, 1, 0, 0, []), (1, .aload_n 0, 2, 0, 0, 0, 0, []), (2, .getfield 293, 5, 0, 11, 40, 0, [(0, 1117)]), (5, .if_icmp .ge 12, 8, 0, 17, 0, 0, []), (8, .aload_n 0, 9, 0, 0, 0, 0, []), (9, .getfield 114, 12, 0, 11, 39, 2, [(0, 1116)]), (12, .iload_n 1, 13, 0, 1, 0, 0, []), (13, .baload, 14, 0, 0, 0, 0, []), (14, .goto 4, 17, 0, 18, 0, 0, []), (17, .iconst 0, 18, 0, 0, 0, 0, []), (18, .ireturn, 19, 0, 0, 0, 0, [])])]
def tb_M_isOf : List (Nat × List (Nat × am_X)) := [
 (30, [(0, .iload_n 1, 1, 0, 1, 0, 0, []), (1, .bipush 112, 3, 112, 0, 0, 0, []), (3, .if_icmp .eq 27, 6, 0, 30, 0, 0, []), (6, .iload_n 1, 7, 0, 1, 0, 0, []), (7, .bipush 104, 9, 104, 0, 0, 0, []), (9, .if_icmp .eq 21, 12, 0, 30, 0, 0, []), (12, .iload_n 1, 13, 0, 1, 0, 0, []), (13, .bipush 117, 15, 117, 0, 0, 0, []), (15, .if_icmp .eq 15, 18, 0, 30, 0, 0, []), (18, .iload_n 1, 19, 0, 1, 0, 0, []), (19, .bipush 108, 21, 108, 0, 0, 0, []), (21, .if_icmp .eq 9, 24, 0, 30, 0, 0, []), (24, .iload_n 1, 25, 0, 1, 0, 0, []), (25, .bipush 119, 27, 119, 0, 0, 0, []), (27, .if_icmp .ne 7, 30, 0, 34, 0, 0, []), (30, .iconst 1, 31, 1, 0, 0, 0, [])]),
 (35, [(31, .goto 4, 34, 0, 35, 0, 0, []), (34, .iconst 0, 35, 0, 0, 0, 0, []), (35, .ireturn, 36, 0, 0, 0, 1, [])])]
def tb_M_isAct : List (Nat × List (Nat × am_X)) := [
 (30, [(0, .iload_n 1, 1, 0, 1, 0, 0, []), (1, .bipush 111, 3, 111, 0, 0, 0, []), (3, .if_icmp .eq 27, 6, 0, 30, 0, 0, []), (6, .iload_n 1, 7, 0, 1, 0, 0, []), (7, .bipush 115, 9, 115, 0, 0, 0, []), (9, .if_icmp .eq 21, 12, 0, 30, 0, 0, []), (12, .iload_n 1, 13, 0, 1, 0, 0, []), (13, .bipush 107, 15, 107, 0, 0, 0, []), (15, .if_icmp .eq 15, 18, 0, 30, 0, 0, []), (18, .iload_n 1, 19, 0, 1, 0, 0, []), (19, .bipush 103, 21, 103, 0, 0, 0, []), (21, .if_icmp .eq 9, 24, 0, 30, 0, 0, []), (24, .iload_n 1, 25, 0, 1, 0, 0, []), (25, .bipush 98, 27, 98, 0, 0, 0, []), (27, .if_icmp .ne 7, 30, 0, 34, 0, 0, []), (30, .iconst 1, 31, 1, 0, 0, 0, [])]),
 (35, [(31, .goto 4, 34, 0, 35, 0, 0, []), (34, .iconst 0, 35, 0, 0, 0, 0, []), (35, .ireturn, 36, 0, 0, 0, 1, [])])]
def tb_M_behind : List (Nat × List (Nat × am_X)) := [
 (24, [(0, .aload_n 0, 1, 0, 0, 0, 0, []), (1, .iload_n 1, 2, 0, 1, 0, 0, []), (2, .invokevirtual 296, 5, 0, 1140, 2, 1, [(0, 1494), (0, 1496), (0, 62), (0, 81), (0, 1497)]), (5, .istore_n 2, 6, 0, 2, 0, 0, []), (6, .iload_n 2, 7, 0, 2, 0, 0, []), (7, .bipush 116, 9, 116, 0, 0, 0, []), (9, .if_icmp .ne 7, 12, 0, 16, 0, 0, []), (12, .iload_n 1, 13, 0, 1, 0, 0, []), (13, .iconst 1, 14, 1, 0, 0, 0, []), (14, .iadd, 15, 0, 0, 0, 0, []), (15, .ireturn, 16, 0, 0, 0, 0, []), (16, .aload_n 0, 17, 0, 0, 0, 0, []), (17, .iload_n 2, 18, 0, 2, 0, 0, []), (18, .invokevirtual 299, 21, 0, 1141, 2, 1, [(0, 1454), (0, 1456), (0, 57), (0, 81), (0, 1457)]), (21, .ifCond .eq 41, 24, 0, 62, 0, 0, []), (24, .aload_n 0, 25, 0, 0, 0, 0, [])]),
 (51, [(25, .iload_n 1, 26, 0, 1, 0, 0, []), (26, .iconst 1, 27, 1, 0, 0, 0, []), (27, .iadd, 28, 0, 0, 0, 0, []), (28, .invokevirtual 302, 31, 0, 1139, 2, 1, [(0, 1502), (0, 1504), (0, 64), (0, 81), (0, 1505)]), (31, .ifCond .ne 10, 34, 0, 41, 0, 0, []), (34, .bipush (-2), 36, (-2), 0, 0, 0, []), (36, .iload_n 1, 37, 0, 1, 0, 0, []), (37, .isub, 38, 0, 0, 0, 0, []), (38, .goto 23, 41, 0, 61, 0, 0, []), (41, .aload_n 0, 42, 0, 0, 0, 0, []), (42, .iload_n 1, 43, 0, 1, 0, 0, []), (43, .iconst 2, 44, 2, 0, 0, 0, []), (44, .iadd, 45, 0, 0, 0, 0, []), (45, .invokevirtual 302, 48, 0, 1139, 2, 1, [(0, 1502), (0, 1504), (0, 64), (0, 81), (0, 1505)]), (48, .ifCond .eq 9, 51, 0, 57, 0, 0, []), (51, .iload_n 1, 52, 0, 1, 0, 0, [])]),
 (72, [(52, .iconst 3, 53, 3, 0, 0, 0, []), (53, .iadd, 54, 0, 0, 0, 0, []), (54, .goto 7, 57, 0, 61, 0, 0, []), (57, .bipush (-3), 59, (-3), 0, 0, 0, []), (59, .iload_n 1, 60, 0, 1, 0, 0, []), (60, .isub, 61, 0, 0, 0, 0, []), (61, .ireturn, 62, 0, 0, 0, 0, []), (62, .iload_n 1, 63, 0, 1, 0, 0, []), (63, .istore_n 3, 64, 0, 3, 0, 0, []), (64, .iload_n 3, 65, 0, 3, 0, 0, []), (65, .iload_n 1, 66, 0, 1, 0, 0, []), (66, .iconst 5, 67, 5, 0, 0, 0, []), (67, .iadd, 68, 0, 0, 0, 0, []), (68, .if_icmp .ge 17, 71, 0, 85, 0, 0, []), (71, .aload_n 0, 72, 0, 0, 0, 0, []), (72, .iload_n 3, 73, 0, 3, 0, 0, [])]),
 (97, [(73, .invokevirtual 302, 76, 0, 1139, 2, 1, [(0, 1502), (0, 1504), (0, 64), (0, 81), (0, 1505)]), (76, .ifCond .eq 9, 79, 0, 85, 0, 0, []), (79, .iinc 3 1, 82, 1, 3, 0, 0, []), (82, .goto (-18), 85, 0, 64, 0, 0, []), (85, .iload_n 3, 86, 0, 3, 0, 0, []), (86, .iload_n 1, 87, 0, 1, 0, 0, []), (87, .if_icmp .ne 9, 90, 0, 96, 0, 0, []), (90, .iconst (-1), 91, (-1), 0, 0, 0, []), (91, .iload_n 1, 92, 0, 1, 0, 0, []), (92, .isub, 93, 0, 0, 0, 0, []), (93, .goto 4, 96, 0, 97, 0, 0, []), (96, .iload_n 3, 97, 0, 3, 0, 0, []), (97, .ireturn, 98, 0, 0, 0, 0, [])])]
def tb_M_fault : List (Nat × List (Nat × am_X)) := [
 (19, [(0, .iconst 0, 1, 0, 0, 0, 0, []), (1, .istore_n 1, 2, 0, 1, 0, 0, []), (2, .iconst 0, 3, 0, 0, 0, 0, []), (3, .istore_n 2, 4, 0, 2, 0, 0, []), (4, .iconst 0, 5, 0, 0, 0, 0, []), (5, .istore_n 3, 6, 0, 3, 0, 0, []), (6, .iconst 0, 7, 0, 0, 0, 0, []), (7, .istore 4, 9, 0, 4, 0, 0, []), (9, .aload_n 0, 10, 0, 0, 0, 0, []), (10, .getfield 173, 13, 0, 11, 63, 2, [(0, 1140)]), (13, .iconst 0, 14, 0, 0, 0, 0, []), (14, .iconst 0, 15, 0, 0, 0, 0, []), (15, .iastore, 16, 0, 0, 0, 0, []), (16, .iconst 0, 17, 0, 0, 0, 0, []), (17, .istore 5, 19, 0, 5, 0, 0, []), (19, .iconst 0, 20, 0, 0, 0, 0, [])]),
 (53, [(20, .istore 6, 22, 0, 6, 0, 0, []), (22, .iload 6, 24, 0, 6, 0, 0, []), (24, .sipush 130, 27, 130, 0, 0, 0, []), (27, .if_icmp .ge 422, 30, 0, 449, 0, 0, []), (30, .aload_n 0, 31, 0, 0, 0, 0, []), (31, .iload 5, 33, 0, 5, 0, 0, []), (33, .invokevirtual 296, 36, 0, 1140, 2, 1, [(0, 1494), (0, 1496), (0, 62), (0, 81), (0, 1497)]), (36, .istore 7, 38, 0, 7, 0, 0, []), (38, .iload 5, 40, 0, 5, 0, 0, []), (40, .aload_n 0, 41, 0, 0, 0, 0, []), (41, .getfield 293, 44, 0, 11, 40, 0, [(0, 1117)]), (44, .if_icmp .ne 18, 47, 0, 62, 0, 0, []), (47, .iload_n 1, 48, 0, 1, 0, 0, []), (48, .bipush 6, 50, 6, 0, 0, 0, []), (50, .if_icmp .ne 7, 53, 0, 57, 0, 0, []), (53, .iconst (-1), 54, (-1), 0, 0, 0, [])]),
 (85, [(54, .goto 7, 57, 0, 61, 0, 0, []), (57, .aload_n 0, 58, 0, 0, 0, 0, []), (58, .getfield 293, 61, 0, 11, 40, 0, [(0, 1117)]), (61, .ireturn, 62, 0, 0, 0, 0, []), (62, .iload_n 1, 63, 0, 1, 0, 0, []), (63, .ifCond .ne 68, 66, 0, 131, 0, 0, []), (66, .iload 7, 68, 0, 7, 0, 0, []), (68, .bipush 33, 70, 33, 0, 0, 0, []), (70, .if_icmp .eq 10, 73, 0, 80, 0, 0, []), (73, .iload 7, 75, 0, 7, 0, 0, []), (75, .bipush 40, 77, 40, 0, 0, 0, []), (77, .if_icmp .ne 54, 80, 0, 131, 0, 0, []), (80, .iload_n 2, 81, 0, 2, 0, 0, []), (81, .iconst 4, 82, 4, 0, 0, 0, []), (82, .if_icmp .ne 6, 85, 0, 88, 0, 0, []), (85, .iload 5, 87, 0, 5, 0, 0, [])]),
 (112, [(87, .ireturn, 88, 0, 0, 0, 0, []), (88, .iinc 2 1, 91, 1, 2, 0, 0, []), (91, .iload 7, 93, 0, 7, 0, 0, []), (93, .bipush 33, 95, 33, 0, 0, 0, []), (95, .if_icmp .ne 13, 98, 0, 108, 0, 0, []), (98, .aload_n 0, 99, 0, 0, 0, 0, []), (99, .getfield 173, 102, 0, 11, 63, 2, [(0, 1140)]), (102, .iload_n 3, 103, 0, 3, 0, 0, []), (103, .dup2, 104, 0, 0, 0, 0, []), (104, .iaload, 105, 0, 0, 0, 0, []), (105, .iconst 1, 106, 1, 0, 0, 0, []), (106, .iadd, 107, 0, 0, 0, 0, []), (107, .iastore, 108, 0, 0, 0, 0, []), (108, .iload 7, 110, 0, 7, 0, 0, []), (110, .bipush 40, 112, 40, 0, 0, 0, []), (112, .if_icmp .ne 13, 115, 0, 125, 0, 0, [])]),
 (144, [(115, .iinc 3 1, 118, 1, 3, 0, 0, []), (118, .aload_n 0, 119, 0, 0, 0, 0, []), (119, .getfield 173, 122, 0, 11, 63, 2, [(0, 1140)]), (122, .iload_n 3, 123, 0, 3, 0, 0, []), (123, .iconst 0, 124, 0, 0, 0, 0, []), (124, .iastore, 125, 0, 0, 0, 0, []), (125, .iinc 5 1, 128, 1, 5, 0, 0, []), (128, .goto 315, 131, 0, 443, 0, 0, []), (131, .iload_n 1, 132, 0, 1, 0, 0, []), (132, .ifCond .eq 8, 135, 0, 140, 0, 0, []), (135, .iload_n 1, 136, 0, 1, 0, 0, []), (136, .iconst 2, 137, 2, 0, 0, 0, []), (137, .if_icmp .ne 46, 140, 0, 183, 0, 0, []), (140, .iload_n 1, 141, 0, 1, 0, 0, []), (141, .ifCond .ne 6, 144, 0, 147, 0, 0, []), (144, .iconst 0, 145, 0, 0, 0, 0, [])]),
 (174, [(145, .istore 4, 147, 0, 4, 0, 0, []), (147, .aload_n 0, 148, 0, 0, 0, 0, []), (148, .iload 5, 150, 0, 5, 0, 0, []), (150, .invokevirtual 305, 153, 0, 1143, 2, 1, [(0, 1498), (0, 1500), (0, 63), (0, 81), (0, 1501)]), (153, .istore 8, 155, 0, 8, 0, 0, []), (155, .iload 8, 157, 0, 8, 0, 0, []), (157, .ifCond .ge 8, 160, 0, 165, 0, 0, []), (160, .iconst (-1), 161, (-1), 0, 0, 0, []), (161, .iload 8, 163, 0, 8, 0, 0, []), (163, .isub, 164, 0, 0, 0, 0, []), (164, .ireturn, 165, 0, 0, 0, 0, []), (165, .iload 8, 167, 0, 8, 0, 0, []), (167, .istore 5, 169, 0, 5, 0, 0, []), (169, .iload 4, 171, 0, 4, 0, 0, []), (171, .ifCond .eq 7, 174, 0, 178, 0, 0, []), (174, .iconst 3, 175, 3, 0, 0, 0, [])]),
 (204, [(175, .goto 4, 178, 0, 179, 0, 0, []), (178, .iconst 1, 179, 1, 0, 0, 0, []), (179, .istore_n 1, 180, 0, 1, 0, 0, []), (180, .goto 263, 183, 0, 443, 0, 0, []), (183, .iload_n 1, 184, 0, 1, 0, 0, []), (184, .iconst 1, 185, 1, 0, 0, 0, []), (185, .if_icmp .eq 8, 188, 0, 193, 0, 0, []), (188, .iload_n 1, 189, 0, 1, 0, 0, []), (189, .iconst 3, 190, 3, 0, 0, 0, []), (190, .if_icmp .ne 25, 193, 0, 215, 0, 0, []), (193, .iload 7, 195, 0, 7, 0, 0, []), (195, .bipush 43, 197, 43, 0, 0, 0, []), (197, .if_icmp .eq 10, 200, 0, 207, 0, 0, []), (200, .iload 7, 202, 0, 7, 0, 0, []), (202, .bipush 45, 204, 45, 0, 0, 0, []), (204, .if_icmp .ne 11, 207, 0, 215, 0, 0, [])]),
 (238, [(207, .iconst 2, 208, 2, 0, 0, 0, []), (208, .istore_n 1, 209, 0, 1, 0, 0, []), (209, .iinc 5 1, 212, 1, 5, 0, 0, []), (212, .goto 231, 215, 0, 443, 0, 0, []), (215, .iload_n 1, 216, 0, 1, 0, 0, []), (216, .iconst 1, 217, 1, 0, 0, 0, []), (217, .if_icmp .ne 35, 220, 0, 252, 0, 0, []), (220, .iload 7, 222, 0, 7, 0, 0, []), (222, .bipush 60, 224, 60, 0, 0, 0, []), (224, .if_icmp .eq 17, 227, 0, 241, 0, 0, []), (227, .iload 7, 229, 0, 7, 0, 0, []), (229, .bipush 61, 231, 61, 0, 0, 0, []), (231, .if_icmp .eq 10, 234, 0, 241, 0, 0, []), (234, .iload 7, 236, 0, 7, 0, 0, []), (236, .bipush 62, 238, 62, 0, 0, 0, []), (238, .if_icmp .ne 14, 241, 0, 252, 0, 0, [])]),
 (269, [(241, .iconst 1, 242, 1, 0, 0, 0, []), (242, .istore 4, 244, 0, 4, 0, 0, []), (244, .iconst 2, 245, 2, 0, 0, 0, []), (245, .istore_n 1, 246, 0, 1, 0, 0, []), (246, .iinc 5 1, 249, 1, 5, 0, 0, []), (249, .goto 194, 252, 0, 443, 0, 0, []), (252, .iload_n 1, 253, 0, 1, 0, 0, []), (253, .iconst 3, 254, 3, 0, 0, 0, []), (254, .if_icmp .eq 8, 257, 0, 262, 0, 0, []), (257, .iload_n 1, 258, 0, 1, 0, 0, []), (258, .iconst 4, 259, 4, 0, 0, 0, []), (259, .if_icmp .ne 41, 262, 0, 300, 0, 0, []), (262, .iload 7, 264, 0, 7, 0, 0, []), (264, .bipush 38, 266, 38, 0, 0, 0, []), (266, .if_icmp .eq 10, 269, 0, 276, 0, 0, []), (269, .iload 7, 271, 0, 7, 0, 0, [])]),
 (293, [(271, .bipush 124, 273, 124, 0, 0, 0, []), (273, .if_icmp .ne 27, 276, 0, 300, 0, 0, []), (276, .iload_n 2, 277, 0, 2, 0, 0, []), (277, .aload_n 0, 278, 0, 0, 0, 0, []), (278, .getfield 173, 281, 0, 11, 63, 2, [(0, 1140)]), (281, .iload_n 3, 282, 0, 3, 0, 0, []), (282, .iaload, 283, 0, 0, 0, 0, []), (283, .isub, 284, 0, 0, 0, 0, []), (284, .istore_n 2, 285, 0, 2, 0, 0, []), (285, .aload_n 0, 286, 0, 0, 0, 0, []), (286, .getfield 173, 289, 0, 11, 63, 2, [(0, 1140)]), (289, .iload_n 3, 290, 0, 3, 0, 0, []), (290, .iconst 0, 291, 0, 0, 0, 0, []), (291, .iastore, 292, 0, 0, 0, 0, []), (292, .iconst 0, 293, 0, 0, 0, 0, []), (293, .istore_n 1, 294, 0, 1, 0, 0, [])]),
 (323, [(294, .iinc 5 1, 297, 1, 5, 0, 0, []), (297, .goto 146, 300, 0, 443, 0, 0, []), (300, .iload_n 1, 301, 0, 1, 0, 0, []), (301, .iconst 3, 302, 3, 0, 0, 0, []), (302, .if_icmp .eq 8, 305, 0, 310, 0, 0, []), (305, .iload_n 1, 306, 0, 1, 0, 0, []), (306, .iconst 4, 307, 4, 0, 0, 0, []), (307, .if_icmp .ne 36, 310, 0, 343, 0, 0, []), (310, .iload 7, 312, 0, 7, 0, 0, []), (312, .bipush 41, 314, 41, 0, 0, 0, []), (314, .if_icmp .ne 29, 317, 0, 343, 0, 0, []), (317, .iload_n 3, 318, 0, 3, 0, 0, []), (318, .ifCond .le 25, 321, 0, 343, 0, 0, []), (321, .iload_n 2, 322, 0, 2, 0, 0, []), (322, .aload_n 0, 323, 0, 0, 0, 0, []), (323, .getfield 173, 326, 0, 11, 63, 2, [(0, 1140)])]),
 (349, [(326, .iload_n 3, 327, 0, 3, 0, 0, []), (327, .iaload, 328, 0, 0, 0, 0, []), (328, .iconst 1, 329, 1, 0, 0, 0, []), (329, .iadd, 330, 0, 0, 0, 0, []), (330, .isub, 331, 0, 0, 0, 0, []), (331, .istore_n 2, 332, 0, 2, 0, 0, []), (332, .iinc 3 (-1), 335, (-1), 3, 0, 0, []), (335, .iconst 4, 336, 4, 0, 0, 0, []), (336, .istore_n 1, 337, 0, 1, 0, 0, []), (337, .iinc 5 1, 340, 1, 5, 0, 0, []), (340, .goto 103, 343, 0, 443, 0, 0, []), (343, .iload_n 1, 344, 0, 1, 0, 0, []), (344, .iconst 3, 345, 3, 0, 0, 0, []), (345, .if_icmp .eq 8, 348, 0, 353, 0, 0, []), (348, .iload_n 1, 349, 0, 1, 0, 0, []), (349, .iconst 4, 350, 4, 0, 0, 0, [])]),
 (382, [(350, .if_icmp .ne 14, 353, 0, 364, 0, 0, []), (353, .iload 7, 355, 0, 7, 0, 0, []), (355, .bipush 58, 357, 58, 0, 0, 0, []), (357, .if_icmp .ne 7, 360, 0, 364, 0, 0, []), (360, .iload_n 3, 361, 0, 3, 0, 0, []), (361, .ifCond .eq 16, 364, 0, 377, 0, 0, []), (364, .iload_n 1, 365, 0, 1, 0, 0, []), (365, .bipush 6, 367, 6, 0, 0, 0, []), (367, .if_icmp .ne 18, 370, 0, 385, 0, 0, []), (370, .iload 7, 372, 0, 7, 0, 0, []), (372, .bipush 59, 374, 59, 0, 0, 0, []), (374, .if_icmp .ne 11, 377, 0, 385, 0, 0, []), (377, .iconst 5, 378, 5, 0, 0, 0, []), (378, .istore_n 1, 379, 0, 1, 0, 0, []), (379, .iinc 5 1, 382, 1, 5, 0, 0, []), (382, .goto 61, 385, 0, 443, 0, 0, [])]),
 (413, [(385, .iload_n 1, 386, 0, 1, 0, 0, []), (386, .iconst 5, 387, 5, 0, 0, 0, []), (387, .if_icmp .ne 53, 390, 0, 440, 0, 0, []), (390, .aload_n 0, 391, 0, 0, 0, 0, []), (391, .iload 7, 393, 0, 7, 0, 0, []), (393, .invokevirtual 308, 396, 0, 1142, 2, 1, [(0, 1506), (0, 1508), (0, 65), (0, 81), (0, 1509)]), (396, .ifCond .eq 44, 399, 0, 440, 0, 0, []), (399, .aload_n 0, 400, 0, 0, 0, 0, []), (400, .iload 5, 402, 0, 5, 0, 0, []), (402, .iconst 1, 403, 1, 0, 0, 0, []), (403, .iadd, 404, 0, 0, 0, 0, []), (404, .invokevirtual 302, 407, 0, 1139, 2, 1, [(0, 1502), (0, 1504), (0, 64), (0, 81), (0, 1505)]), (407, .ifCond .ne 8, 410, 0, 415, 0, 0, []), (410, .iload 5, 412, 0, 5, 0, 0, []), (412, .iconst 1, 413, 1, 0, 0, 0, []), (413, .iadd, 414, 0, 0, 0, 0, [])]),
 (440, [(414, .ireturn, 415, 0, 0, 0, 0, []), (415, .aload_n 0, 416, 0, 0, 0, 0, []), (416, .iload 5, 418, 0, 5, 0, 0, []), (418, .iconst 2, 419, 2, 0, 0, 0, []), (419, .iadd, 420, 0, 0, 0, 0, []), (420, .invokevirtual 302, 423, 0, 1139, 2, 1, [(0, 1502), (0, 1504), (0, 64), (0, 81), (0, 1505)]), (423, .ifCond .ne 8, 426, 0, 431, 0, 0, []), (426, .iload 5, 428, 0, 5, 0, 0, []), (428, .iconst 2, 429, 2, 0, 0, 0, []), (429, .iadd, 430, 0, 0, 0, 0, []), (430, .ireturn, 431, 0, 0, 0, 0, []), (431, .iinc 5 3, 434, 3, 5, 0, 0, []), (434, .bipush 6, 436, 6, 0, 0, 0, []), (436, .istore_n 1, 437, 0, 1, 0, 0, []), (437, .goto 6, 440, 0, 443, 0, 0, []), (440, .iload 5, 442, 0, 5, 0, 0, [])]),
 (453, [(442, .ireturn, 443, 0, 0, 0, 0, []), (443, .iinc 6 1, 446, 1, 6, 0, 0, []), (446, .goto (-424), 449, 0, 22, 0, 0, []), (449, .aload_n 0, 450, 0, 0, 0, 0, []), (450, .getfield 293, 453, 0, 11, 40, 0, [(0, 1117)]), (453, .ireturn, 454, 0, 0, 0, 0, [])])]
def tb_M_order : List (Nat × List (Nat × am_X)) := [
 (28, [(0, .iload_n 1, 1, 0, 1, 0, 0, []), (1, .ifCond .lt 8, 4, 0, 9, 0, 0, []), (4, .iload_n 1, 5, 0, 1, 0, 0, []), (5, .iconst 1, 6, 1, 0, 0, 0, []), (6, .if_icmp .le 10, 9, 0, 16, 0, 0, []), (9, .aload_n 0, 10, 0, 0, 0, 0, []), (10, .bipush (-2), 12, (-2), 0, 0, 0, []), (12, .invokevirtual 203, 15, 0, 1101, 2, 1, [(0, 1309), (0, 1311), (0, 30), (0, 81), (0, 1312)]), (15, .ireturn, 16, 0, 0, 0, 0, []), (16, .aload_n 0, 17, 0, 0, 0, 0, []), (17, .getfield 200, 20, 0, 11, 41, 0, [(0, 1118)]), (20, .bipush 12, 22, 12, 0, 0, 0, []), (22, .if_icmp .ne 10, 25, 0, 32, 0, 0, []), (25, .aload_n 0, 26, 0, 0, 0, 0, []), (26, .bipush (-6), 28, (-6), 0, 0, 0, []), (28, .invokevirtual 203, 31, 0, 1101, 2, 1, [(0, 1309), (0, 1311), (0, 30), (0, 81), (0, 1312)])]),
 (55, [(31, .ireturn, 32, 0, 0, 0, 0, []), (32, .aload_n 0, 33, 0, 0, 0, 0, []), (33, .invokevirtual 311, 36, 0, 1144, 1, 1, [(0, 1490), (0, 1492), (0, 61), (0, 81), (0, 1493)]), (36, .istore_n 2, 37, 0, 2, 0, 0, []), (37, .aload_n 0, 38, 0, 0, 0, 0, []), (38, .getfield 293, 41, 0, 11, 40, 0, [(0, 1117)]), (41, .istore_n 3, 42, 0, 3, 0, 0, []), (42, .aload_n 0, 43, 0, 0, 0, 0, []), (43, .iconst 0, 44, 0, 0, 0, 0, []), (44, .putfield 293, 47, 0, 11, 40, 0, [(0, 1117)]), (47, .iload_n 2, 48, 0, 2, 0, 0, []), (48, .ifCond .lt 8, 51, 0, 56, 0, 0, []), (51, .bipush (-20), 53, (-20), 0, 0, 0, []), (53, .iload_n 2, 54, 0, 2, 0, 0, []), (54, .isub, 55, 0, 0, 0, 0, []), (55, .ireturn, 56, 0, 0, 0, 0, [])]),
 (83, [(56, .iconst 0, 57, 0, 0, 0, 0, []), (57, .istore 4, 59, 0, 4, 0, 0, []), (59, .iload 4, 61, 0, 4, 0, 0, []), (61, .iload_n 3, 62, 0, 3, 0, 0, []), (62, .if_icmp .ge 31, 65, 0, 93, 0, 0, []), (65, .aload_n 0, 66, 0, 0, 0, 0, []), (66, .getfield 118, 69, 0, 11, 42, 2, [(0, 1119)]), (69, .aload_n 0, 70, 0, 0, 0, 0, []), (70, .getfield 200, 73, 0, 11, 41, 0, [(0, 1118)]), (73, .bipush 120, 75, 120, 0, 0, 0, []), (75, .imul, 76, 0, 0, 0, 0, []), (76, .iload 4, 78, 0, 4, 0, 0, []), (78, .iadd, 79, 0, 0, 0, 0, []), (79, .aload_n 0, 80, 0, 0, 0, 0, []), (80, .getfield 114, 83, 0, 11, 39, 2, [(0, 1116)]), (83, .iload 4, 85, 0, 4, 0, 0, [])]),
 (112, [(85, .baload, 86, 0, 0, 0, 0, []), (86, .bastore, 87, 0, 0, 0, 0, []), (87, .iinc 4 1, 90, 1, 4, 0, 0, []), (90, .goto (-31), 93, 0, 59, 0, 0, []), (93, .aload_n 0, 94, 0, 0, 0, 0, []), (94, .getfield 121, 97, 0, 11, 43, 2, [(0, 1120)]), (97, .aload_n 0, 98, 0, 0, 0, 0, []), (98, .getfield 200, 101, 0, 11, 41, 0, [(0, 1118)]), (101, .iload_n 3, 102, 0, 3, 0, 0, []), (102, .iastore, 103, 0, 0, 0, 0, []), (103, .aload_n 0, 104, 0, 0, 0, 0, []), (104, .getfield 124, 107, 0, 11, 44, 2, [(0, 1121)]), (107, .aload_n 0, 108, 0, 0, 0, 0, []), (108, .getfield 200, 111, 0, 11, 41, 0, [(0, 1118)]), (111, .iload_n 1, 112, 0, 1, 0, 0, []), (112, .iconst 1, 113, 1, 0, 0, 0, [])]),
 (139, [(113, .if_icmp .ne 7, 116, 0, 120, 0, 0, []), (116, .iconst 1, 117, 1, 0, 0, 0, []), (117, .goto 4, 120, 0, 121, 0, 0, []), (120, .iconst 0, 121, 0, 0, 0, 0, []), (121, .bastore, 122, 0, 0, 0, 0, []), (122, .aload_n 0, 123, 0, 0, 0, 0, []), (123, .getfield 127, 126, 0, 11, 45, 2, [(0, 1122)]), (126, .aload_n 0, 127, 0, 0, 0, 0, []), (127, .getfield 200, 130, 0, 11, 41, 0, [(0, 1118)]), (130, .bipush (-9), 132, (-9), 0, 0, 0, []), (132, .iastore, 133, 0, 0, 0, 0, []), (133, .aload_n 0, 134, 0, 0, 0, 0, []), (134, .dup, 135, 0, 0, 0, 0, []), (135, .getfield 200, 138, 0, 11, 41, 0, [(0, 1118)]), (138, .iconst 1, 139, 1, 0, 0, 0, []), (139, .iadd, 140, 0, 0, 0, 0, [])]),
 (149, [(140, .putfield 200, 143, 0, 11, 41, 0, [(0, 1118)]), (143, .aload_n 0, 144, 0, 0, 0, 0, []), (144, .getfield 200, 147, 0, 11, 41, 0, [(0, 1118)]), (147, .iconst 1, 148, 1, 0, 0, 0, []), (148, .isub, 149, 0, 0, 0, 0, []), (149, .ireturn, 150, 0, 0, 0, 0, [])])]
def tb_M_stand : List (Nat × List (Nat × am_X)) := [
 (25, [(0, .aload_n 0, 1, 0, 0, 0, 0, []), (1, .iload_n 1, 2, 0, 1, 0, 0, []), (2, .invokevirtual 314, 5, 0, 1106, 2, 1, [(0, 1514), (0, 1516), (0, 66), (0, 81), (0, 1517)]), (5, .ifCond .ne 9, 8, 0, 14, 0, 0, []), (8, .aload_n 0, 9, 0, 0, 0, 0, []), (9, .iconst (-1), 10, (-1), 0, 0, 0, []), (10, .invokevirtual 203, 13, 0, 1101, 2, 1, [(0, 1309), (0, 1311), (0, 30), (0, 81), (0, 1312)]), (13, .ireturn, 14, 0, 0, 0, 0, []), (14, .aload_n 0, 15, 0, 0, 0, 0, []), (15, .getfield 124, 18, 0, 11, 44, 2, [(0, 1121)]), (18, .iload_n 1, 19, 0, 1, 0, 0, []), (19, .baload, 20, 0, 0, 0, 0, []), (20, .iload_n 2, 21, 0, 2, 0, 0, []), (21, .if_icmp .ne 5, 24, 0, 26, 0, 0, []), (24, .iconst 0, 25, 0, 0, 0, 0, []), (25, .ireturn, 26, 0, 0, 0, 0, [])]),
 (34, [(26, .aload_n 0, 27, 0, 0, 0, 0, []), (27, .getfield 124, 30, 0, 11, 44, 2, [(0, 1121)]), (30, .iload_n 1, 31, 0, 1, 0, 0, []), (31, .iload_n 2, 32, 0, 2, 0, 0, []), (32, .bastore, 33, 0, 0, 0, 0, []), (33, .iconst 1, 34, 1, 0, 0, 0, []), (34, .ireturn, 35, 0, 0, 0, 0, [])])]
def tb_M_twoDigits : List (Nat × List (Nat × am_X)) := [
 (24, [(0, .bipush 10, 2, 10, 0, 0, 0, []), (2, .aload_n 0, 3, 0, 0, 0, 0, []), (3, .getfield 118, 6, 0, 11, 42, 2, [(0, 1119)]), (6, .iload_n 1, 7, 0, 1, 0, 0, []), (7, .bipush 120, 9, 120, 0, 0, 0, []), (9, .imul, 10, 0, 0, 0, 0, []), (10, .aload_n 0, 11, 0, 0, 0, 0, []), (11, .getfield 317, 14, 0, 11, 67, 0, [(0, 1144)]), (14, .iadd, 15, 0, 0, 0, 0, []), (15, .baload, 16, 0, 0, 0, 0, []), (16, .bipush 48, 18, 48, 0, 0, 0, []), (18, .isub, 19, 0, 0, 0, 0, []), (19, .imul, 20, 0, 0, 0, 0, []), (20, .aload_n 0, 21, 0, 0, 0, 0, []), (21, .getfield 118, 24, 0, 11, 42, 2, [(0, 1119)]), (24, .iload_n 1, 25, 0, 1, 0, 0, [])]),
 (46, [(25, .bipush 120, 27, 120, 0, 0, 0, []), (27, .imul, 28, 0, 0, 0, 0, []), (28, .aload_n 0, 29, 0, 0, 0, 0, []), (29, .getfield 317, 32, 0, 11, 67, 0, [(0, 1144)]), (32, .iadd, 33, 0, 0, 0, 0, []), (33, .iconst 1, 34, 1, 0, 0, 0, []), (34, .iadd, 35, 0, 0, 0, 0, []), (35, .baload, 36, 0, 0, 0, 0, []), (36, .iadd, 37, 0, 0, 0, 0, []), (37, .bipush 48, 39, 48, 0, 0, 0, []), (39, .isub, 40, 0, 0, 0, 0, []), (40, .istore_n 2, 41, 0, 2, 0, 0, []), (41, .aload_n 0, 42, 0, 0, 0, 0, []), (42, .dup, 43, 0, 0, 0, 0, []), (43, .getfield 317, 46, 0, 11, 67, 0, [(0, 1144)]), (46, .iconst 2, 47, 2, 0, 0, 0, [])]),
 (52, [(47, .iadd, 48, 0, 0, 0, 0, []), (48, .putfield 317, 51, 0, 11, 67, 0, [(0, 1144)]), (51, .iload_n 2, 52, 0, 2, 0, 0, []), (52, .ireturn, 53, 0, 0, 0, 0, [])])]
def tb_M_unit : List (Nat × List (Nat × am_X)) := [
 (23, [(0, .aload_n 0, 1, 0, 0, 0, 0, []), (1, .getfield 118, 4, 0, 11, 42, 2, [(0, 1119)]), (4, .iload_n 1, 5, 0, 1, 0, 0, []), (5, .bipush 120, 7, 120, 0, 0, 0, []), (7, .imul, 8, 0, 0, 0, 0, []), (8, .aload_n 0, 9, 0, 0, 0, 0, []), (9, .getfield 317, 12, 0, 11, 67, 0, [(0, 1144)]), (12, .iadd, 13, 0, 0, 0, 0, []), (13, .baload, 14, 0, 0, 0, 0, []), (14, .istore_n 2, 15, 0, 2, 0, 0, []), (15, .iload_n 2, 16, 0, 2, 0, 0, []), (16, .bipush 116, 18, 116, 0, 0, 0, []), (18, .if_icmp .eq 11, 21, 0, 29, 0, 0, []), (21, .aload_n 0, 22, 0, 0, 0, 0, []), (22, .iload_n 2, 23, 0, 2, 0, 0, []), (23, .invokevirtual 299, 26, 0, 1141, 2, 1, [(0, 1454), (0, 1456), (0, 57), (0, 81), (0, 1457)])]),
 (54, [(26, .ifCond .eq 151, 29, 0, 177, 0, 0, []), (29, .aload_n 0, 30, 0, 0, 0, 0, []), (30, .dup, 31, 0, 0, 0, 0, []), (31, .getfield 317, 34, 0, 11, 67, 0, [(0, 1144)]), (34, .iconst 1, 35, 1, 0, 0, 0, []), (35, .iadd, 36, 0, 0, 0, 0, []), (36, .putfield 317, 39, 0, 11, 67, 0, [(0, 1144)]), (39, .iload_n 2, 40, 0, 2, 0, 0, []), (40, .bipush 116, 42, 116, 0, 0, 0, []), (42, .if_icmp .ne 13, 45, 0, 55, 0, 0, []), (45, .aload_n 0, 46, 0, 0, 0, 0, []), (46, .getfield 7, 49, 0, 11, 1, 2, [(0, 1078)]), (49, .aload_n 0, 50, 0, 0, 0, 0, []), (50, .getfield 221, 53, 0, 11, 0, 0, [(0, 1077)]), (53, .iaload, 54, 0, 0, 0, 0, []), (54, .ireturn, 55, 0, 0, 0, 0, [])]),
 (83, [(55, .aload_n 0, 56, 0, 0, 0, 0, []), (56, .iload_n 1, 57, 0, 1, 0, 0, []), (57, .invokevirtual 320, 60, 0, 1147, 2, 1, [(0, 1458), (0, 1460), (0, 58), (0, 81), (0, 1461)]), (60, .istore_n 3, 61, 0, 3, 0, 0, []), (61, .iload_n 2, 62, 0, 2, 0, 0, []), (62, .bipush 108, 64, 108, 0, 0, 0, []), (64, .if_icmp .ne 30, 67, 0, 94, 0, 0, []), (67, .aload_n 0, 68, 0, 0, 0, 0, []), (68, .iload_n 3, 69, 0, 3, 0, 0, []), (69, .invokevirtual 214, 72, 0, 1103, 2, 1, [(0, 1329), (0, 1331), (0, 33), (0, 81), (0, 1332)]), (72, .ifCond .eq 20, 75, 0, 92, 0, 0, []), (75, .aload_n 0, 76, 0, 0, 0, 0, []), (76, .getfield 52, 79, 0, 11, 17, 2, [(0, 1094)]), (79, .aload_n 0, 80, 0, 0, 0, 0, []), (80, .getfield 221, 83, 0, 11, 0, 0, [(0, 1077)]), (83, .bipush 30, 85, 30, 0, 0, 0, [])]),
 (107, [(85, .imul, 86, 0, 0, 0, 0, []), (86, .iload_n 3, 87, 0, 3, 0, 0, []), (87, .iadd, 88, 0, 0, 0, 0, []), (88, .iaload, 89, 0, 0, 0, 0, []), (89, .goto 4, 92, 0, 93, 0, 0, []), (92, .iconst 0, 93, 0, 0, 0, 0, []), (93, .ireturn, 94, 0, 0, 0, 0, []), (94, .aload_n 0, 95, 0, 0, 0, 0, []), (95, .iload_n 3, 96, 0, 3, 0, 0, []), (96, .invokevirtual 210, 99, 0, 1102, 2, 1, [(0, 1317), (0, 1319), (0, 31), (0, 81), (0, 1320)]), (99, .ifCond .ne 5, 102, 0, 104, 0, 0, []), (102, .iconst 0, 103, 0, 0, 0, 0, []), (103, .ireturn, 104, 0, 0, 0, 0, []), (104, .iload_n 2, 105, 0, 2, 0, 0, []), (105, .bipush 112, 107, 112, 0, 0, 0, []), (107, .if_icmp .ne 9, 110, 0, 116, 0, 0, [])]),
 (135, [(110, .aload_n 0, 111, 0, 0, 0, 0, []), (111, .iload_n 3, 112, 0, 3, 0, 0, []), (112, .invokevirtual 231, 115, 0, 1115, 2, 1, [(0, 1341), (0, 1343), (0, 35), (0, 81), (0, 1344)]), (115, .ireturn, 116, 0, 0, 0, 0, []), (116, .iload_n 2, 117, 0, 2, 0, 0, []), (117, .bipush 104, 119, 104, 0, 0, 0, []), (119, .if_icmp .ne 20, 122, 0, 139, 0, 0, []), (122, .aload_n 0, 123, 0, 0, 0, 0, []), (123, .getfield 19, 126, 0, 11, 5, 2, [(0, 1082)]), (126, .aload_n 0, 127, 0, 0, 0, 0, []), (127, .getfield 221, 130, 0, 11, 0, 0, [(0, 1077)]), (130, .bipush 20, 132, 20, 0, 0, 0, []), (132, .imul, 133, 0, 0, 0, 0, []), (133, .iload_n 3, 134, 0, 3, 0, 0, []), (134, .iadd, 135, 0, 0, 0, 0, []), (135, .iaload, 136, 0, 0, 0, 0, [])]),
 (163, [(136, .goto 40, 139, 0, 176, 0, 0, []), (139, .iload_n 2, 140, 0, 2, 0, 0, []), (140, .bipush 117, 142, 117, 0, 0, 0, []), (142, .if_icmp .ne 20, 145, 0, 162, 0, 0, []), (145, .aload_n 0, 146, 0, 0, 0, 0, []), (146, .getfield 28, 149, 0, 11, 8, 2, [(0, 1085)]), (149, .aload_n 0, 150, 0, 0, 0, 0, []), (150, .getfield 221, 153, 0, 11, 0, 0, [(0, 1077)]), (153, .bipush 20, 155, 20, 0, 0, 0, []), (155, .imul, 156, 0, 0, 0, 0, []), (156, .iload_n 3, 157, 0, 3, 0, 0, []), (157, .iadd, 158, 0, 0, 0, 0, []), (158, .iaload, 159, 0, 0, 0, 0, []), (159, .goto 17, 162, 0, 176, 0, 0, []), (162, .aload_n 0, 163, 0, 0, 0, 0, []), (163, .getfield 25, 166, 0, 11, 7, 2, [(0, 1084)])]),
 (187, [(166, .aload_n 0, 167, 0, 0, 0, 0, []), (167, .getfield 221, 170, 0, 11, 0, 0, [(0, 1077)]), (170, .bipush 20, 172, 20, 0, 0, 0, []), (172, .imul, 173, 0, 0, 0, 0, []), (173, .iload_n 3, 174, 0, 3, 0, 0, []), (174, .iadd, 175, 0, 0, 0, 0, []), (175, .iaload, 176, 0, 0, 0, 0, []), (176, .ireturn, 177, 0, 0, 0, 0, []), (177, .iconst 0, 178, 0, 0, 0, 0, []), (178, .istore_n 3, 179, 0, 3, 0, 0, []), (179, .aload_n 0, 180, 0, 0, 0, 0, []), (180, .getfield 118, 183, 0, 11, 42, 2, [(0, 1119)]), (183, .iload_n 1, 184, 0, 1, 0, 0, []), (184, .bipush 120, 186, 120, 0, 0, 0, []), (186, .imul, 187, 0, 0, 0, 0, []), (187, .aload_n 0, 188, 0, 0, 0, 0, [])]),
 (214, [(188, .getfield 317, 191, 0, 11, 67, 0, [(0, 1144)]), (191, .iadd, 192, 0, 0, 0, 0, []), (192, .baload, 193, 0, 0, 0, 0, []), (193, .bipush 48, 195, 48, 0, 0, 0, []), (195, .if_icmp .lt 58, 198, 0, 253, 0, 0, []), (198, .aload_n 0, 199, 0, 0, 0, 0, []), (199, .getfield 118, 202, 0, 11, 42, 2, [(0, 1119)]), (202, .iload_n 1, 203, 0, 1, 0, 0, []), (203, .bipush 120, 205, 120, 0, 0, 0, []), (205, .imul, 206, 0, 0, 0, 0, []), (206, .aload_n 0, 207, 0, 0, 0, 0, []), (207, .getfield 317, 210, 0, 11, 67, 0, [(0, 1144)]), (210, .iadd, 211, 0, 0, 0, 0, []), (211, .baload, 212, 0, 0, 0, 0, []), (212, .bipush 57, 214, 57, 0, 0, 0, []), (214, .if_icmp .gt 39, 217, 0, 253, 0, 0, [])]),
 (239, [(217, .bipush 10, 219, 10, 0, 0, 0, []), (219, .iload_n 3, 220, 0, 3, 0, 0, []), (220, .imul, 221, 0, 0, 0, 0, []), (221, .aload_n 0, 222, 0, 0, 0, 0, []), (222, .getfield 118, 225, 0, 11, 42, 2, [(0, 1119)]), (225, .iload_n 1, 226, 0, 1, 0, 0, []), (226, .bipush 120, 228, 120, 0, 0, 0, []), (228, .imul, 229, 0, 0, 0, 0, []), (229, .aload_n 0, 230, 0, 0, 0, 0, []), (230, .getfield 317, 233, 0, 11, 67, 0, [(0, 1144)]), (233, .iadd, 234, 0, 0, 0, 0, []), (234, .baload, 235, 0, 0, 0, 0, []), (235, .iadd, 236, 0, 0, 0, 0, []), (236, .bipush 48, 238, 48, 0, 0, 0, []), (238, .isub, 239, 0, 0, 0, 0, []), (239, .istore_n 3, 240, 0, 3, 0, 0, [])]),
 (254, [(240, .aload_n 0, 241, 0, 0, 0, 0, []), (241, .dup, 242, 0, 0, 0, 0, []), (242, .getfield 317, 245, 0, 11, 67, 0, [(0, 1144)]), (245, .iconst 1, 246, 1, 0, 0, 0, []), (246, .iadd, 247, 0, 0, 0, 0, []), (247, .putfield 317, 250, 0, 11, 67, 0, [(0, 1144)]), (250, .goto (-71), 253, 0, 179, 0, 0, []), (253, .iload_n 3, 254, 0, 3, 0, 0, []), (254, .ireturn, 255, 0, 0, 0, 0, [])])]
def tb_M_sum : List (Nat × List (Nat × am_X)) := [
 (22, [(0, .aload_n 0, 1, 0, 0, 0, 0, []), (1, .iload_n 1, 2, 0, 1, 0, 0, []), (2, .invokevirtual 323, 5, 0, 1148, 2, 1, [(0, 1450), (0, 1452), (0, 56), (0, 81), (0, 1453)]), (5, .istore_n 2, 6, 0, 2, 0, 0, []), (6, .aload_n 0, 7, 0, 0, 0, 0, []), (7, .getfield 118, 10, 0, 11, 42, 2, [(0, 1119)]), (10, .iload_n 1, 11, 0, 1, 0, 0, []), (11, .bipush 120, 13, 120, 0, 0, 0, []), (13, .imul, 14, 0, 0, 0, 0, []), (14, .aload_n 0, 15, 0, 0, 0, 0, []), (15, .getfield 317, 18, 0, 11, 67, 0, [(0, 1144)]), (18, .iadd, 19, 0, 0, 0, 0, []), (19, .baload, 20, 0, 0, 0, 0, []), (20, .istore_n 3, 21, 0, 3, 0, 0, []), (21, .iload_n 3, 22, 0, 3, 0, 0, []), (22, .bipush 43, 24, 43, 0, 0, 0, [])]),
 (51, [(24, .if_icmp .eq 9, 27, 0, 33, 0, 0, []), (27, .iload_n 3, 28, 0, 3, 0, 0, []), (28, .bipush 45, 30, 45, 0, 0, 0, []), (30, .if_icmp .ne 56, 33, 0, 86, 0, 0, []), (33, .aload_n 0, 34, 0, 0, 0, 0, []), (34, .dup, 35, 0, 0, 0, 0, []), (35, .getfield 317, 38, 0, 11, 67, 0, [(0, 1144)]), (38, .iconst 1, 39, 1, 0, 0, 0, []), (39, .iadd, 40, 0, 0, 0, 0, []), (40, .putfield 317, 43, 0, 11, 67, 0, [(0, 1144)]), (43, .aload_n 0, 44, 0, 0, 0, 0, []), (44, .iload_n 1, 45, 0, 1, 0, 0, []), (45, .invokevirtual 323, 48, 0, 1148, 2, 1, [(0, 1450), (0, 1452), (0, 56), (0, 81), (0, 1453)]), (48, .istore 4, 50, 0, 4, 0, 0, []), (50, .iload_n 3, 51, 0, 3, 0, 0, []), (51, .bipush 43, 53, 43, 0, 0, 0, [])]),
 (77, [(53, .if_icmp .ne 10, 56, 0, 63, 0, 0, []), (56, .iload_n 2, 57, 0, 2, 0, 0, []), (57, .iload 4, 59, 0, 4, 0, 0, []), (59, .iadd, 60, 0, 0, 0, 0, []), (60, .goto 7, 63, 0, 67, 0, 0, []), (63, .iload_n 2, 64, 0, 2, 0, 0, []), (64, .iload 4, 66, 0, 4, 0, 0, []), (66, .isub, 67, 0, 0, 0, 0, []), (67, .istore_n 2, 68, 0, 2, 0, 0, []), (68, .aload_n 0, 69, 0, 0, 0, 0, []), (69, .getfield 118, 72, 0, 11, 42, 2, [(0, 1119)]), (72, .iload_n 1, 73, 0, 1, 0, 0, []), (73, .bipush 120, 75, 120, 0, 0, 0, []), (75, .imul, 76, 0, 0, 0, 0, []), (76, .aload_n 0, 77, 0, 0, 0, 0, []), (77, .getfield 317, 80, 0, 11, 67, 0, [(0, 1144)])]),
 (87, [(80, .iadd, 81, 0, 0, 0, 0, []), (81, .baload, 82, 0, 0, 0, 0, []), (82, .istore_n 3, 83, 0, 3, 0, 0, []), (83, .goto (-62), 86, 0, 21, 0, 0, []), (86, .iload_n 2, 87, 0, 2, 0, 0, []), (87, .ireturn, 88, 0, 0, 0, 0, [])])]
def tb_M_wordsHold : List (Nat × List (Nat × am_X)) := [
 (21, [(0, .aload_n 0, 1, 0, 0, 0, 0, []), (1, .iconst 0, 2, 0, 0, 0, 0, []), (2, .putfield 317, 5, 0, 11, 67, 0, [(0, 1144)]), (5, .iconst 0, 6, 0, 0, 0, 0, []), (6, .istore_n 2, 7, 0, 2, 0, 0, []), (7, .aload_n 0, 8, 0, 0, 0, 0, []), (8, .getfield 176, 11, 0, 11, 64, 2, [(0, 1141)]), (11, .iconst 0, 12, 0, 0, 0, 0, []), (12, .iconst 0, 13, 0, 0, 0, 0, []), (13, .bastore, 14, 0, 0, 0, 0, []), (14, .aload_n 0, 15, 0, 0, 0, 0, []), (15, .getfield 179, 18, 0, 11, 65, 2, [(0, 1142)]), (18, .iconst 0, 19, 0, 0, 0, 0, []), (19, .iconst 1, 20, 1, 0, 0, 0, []), (20, .bastore, 21, 0, 0, 0, 0, []), (21, .aload_n 0, 22, 0, 0, 0, 0, [])]),
 (45, [(22, .getfield 182, 25, 0, 11, 66, 2, [(0, 1143)]), (25, .iconst 0, 26, 0, 0, 0, 0, []), (26, .iconst 0, 27, 0, 0, 0, 0, []), (27, .bastore, 28, 0, 0, 0, 0, []), (28, .aload_n 0, 29, 0, 0, 0, 0, []), (29, .getfield 118, 32, 0, 11, 42, 2, [(0, 1119)]), (32, .iload_n 1, 33, 0, 1, 0, 0, []), (33, .bipush 120, 35, 120, 0, 0, 0, []), (35, .imul, 36, 0, 0, 0, 0, []), (36, .baload, 37, 0, 0, 0, 0, []), (37, .istore_n 3, 38, 0, 3, 0, 0, []), (38, .iload_n 3, 39, 0, 3, 0, 0, []), (39, .bipush 58, 41, 58, 0, 0, 0, []), (41, .if_icmp .eq 332, 44, 0, 373, 0, 0, []), (44, .iload_n 3, 45, 0, 3, 0, 0, []), (45, .bipush 33, 47, 33, 0, 0, 0, [])]),
 (72, [(47, .if_icmp .ne 36, 50, 0, 83, 0, 0, []), (50, .aload_n 0, 51, 0, 0, 0, 0, []), (51, .getfield 182, 54, 0, 11, 66, 2, [(0, 1143)]), (54, .iload_n 2, 55, 0, 2, 0, 0, []), (55, .aload_n 0, 56, 0, 0, 0, 0, []), (56, .getfield 182, 59, 0, 11, 66, 2, [(0, 1143)]), (59, .iload_n 2, 60, 0, 2, 0, 0, []), (60, .baload, 61, 0, 0, 0, 0, []), (61, .ifCond .ne 7, 64, 0, 68, 0, 0, []), (64, .iconst 1, 65, 1, 0, 0, 0, []), (65, .goto 4, 68, 0, 69, 0, 0, []), (68, .iconst 0, 69, 0, 0, 0, 0, []), (69, .bastore, 70, 0, 0, 0, 0, []), (70, .aload_n 0, 71, 0, 0, 0, 0, []), (71, .dup, 72, 0, 0, 0, 0, []), (72, .getfield 317, 75, 0, 11, 67, 0, [(0, 1144)])]),
 (103, [(75, .iconst 1, 76, 1, 0, 0, 0, []), (76, .iadd, 77, 0, 0, 0, 0, []), (77, .putfield 317, 80, 0, 11, 67, 0, [(0, 1144)]), (80, .goto 275, 83, 0, 355, 0, 0, []), (83, .iload_n 3, 84, 0, 3, 0, 0, []), (84, .bipush 40, 86, 40, 0, 0, 0, []), (86, .if_icmp .ne 40, 89, 0, 126, 0, 0, []), (89, .iinc 2 1, 92, 1, 2, 0, 0, []), (92, .aload_n 0, 93, 0, 0, 0, 0, []), (93, .getfield 176, 96, 0, 11, 64, 2, [(0, 1141)]), (96, .iload_n 2, 97, 0, 2, 0, 0, []), (97, .iconst 0, 98, 0, 0, 0, 0, []), (98, .bastore, 99, 0, 0, 0, 0, []), (99, .aload_n 0, 100, 0, 0, 0, 0, []), (100, .getfield 179, 103, 0, 11, 65, 2, [(0, 1142)]), (103, .iload_n 2, 104, 0, 2, 0, 0, [])]),
 (127, [(104, .iconst 1, 105, 1, 0, 0, 0, []), (105, .bastore, 106, 0, 0, 0, 0, []), (106, .aload_n 0, 107, 0, 0, 0, 0, []), (107, .getfield 182, 110, 0, 11, 66, 2, [(0, 1143)]), (110, .iload_n 2, 111, 0, 2, 0, 0, []), (111, .iconst 0, 112, 0, 0, 0, 0, []), (112, .bastore, 113, 0, 0, 0, 0, []), (113, .aload_n 0, 114, 0, 0, 0, 0, []), (114, .dup, 115, 0, 0, 0, 0, []), (115, .getfield 317, 118, 0, 11, 67, 0, [(0, 1144)]), (118, .iconst 1, 119, 1, 0, 0, 0, []), (119, .iadd, 120, 0, 0, 0, 0, []), (120, .putfield 317, 123, 0, 11, 67, 0, [(0, 1144)]), (123, .goto 232, 126, 0, 355, 0, 0, []), (126, .iload_n 3, 127, 0, 3, 0, 0, []), (127, .bipush 38, 129, 38, 0, 0, 0, [])]),
 (157, [(129, .if_icmp .ne 16, 132, 0, 145, 0, 0, []), (132, .aload_n 0, 133, 0, 0, 0, 0, []), (133, .dup, 134, 0, 0, 0, 0, []), (134, .getfield 317, 137, 0, 11, 67, 0, [(0, 1144)]), (137, .iconst 1, 138, 1, 0, 0, 0, []), (138, .iadd, 139, 0, 0, 0, 0, []), (139, .putfield 317, 142, 0, 11, 67, 0, [(0, 1144)]), (142, .goto 213, 145, 0, 355, 0, 0, []), (145, .iload_n 3, 146, 0, 3, 0, 0, []), (146, .bipush 124, 148, 124, 0, 0, 0, []), (148, .if_icmp .ne 52, 151, 0, 200, 0, 0, []), (151, .aload_n 0, 152, 0, 0, 0, 0, []), (152, .getfield 176, 155, 0, 11, 64, 2, [(0, 1141)]), (155, .iload_n 2, 156, 0, 2, 0, 0, []), (156, .aload_n 0, 157, 0, 0, 0, 0, []), (157, .getfield 176, 160, 0, 11, 64, 2, [(0, 1141)])]),
 (185, [(160, .iload_n 2, 161, 0, 2, 0, 0, []), (161, .baload, 162, 0, 0, 0, 0, []), (162, .ifCond .ne 12, 165, 0, 174, 0, 0, []), (165, .aload_n 0, 166, 0, 0, 0, 0, []), (166, .getfield 179, 169, 0, 11, 65, 2, [(0, 1142)]), (169, .iload_n 2, 170, 0, 2, 0, 0, []), (170, .baload, 171, 0, 0, 0, 0, []), (171, .ifCond .eq 7, 174, 0, 178, 0, 0, []), (174, .iconst 1, 175, 1, 0, 0, 0, []), (175, .goto 4, 178, 0, 179, 0, 0, []), (178, .iconst 0, 179, 0, 0, 0, 0, []), (179, .bastore, 180, 0, 0, 0, 0, []), (180, .aload_n 0, 181, 0, 0, 0, 0, []), (181, .getfield 179, 184, 0, 11, 65, 2, [(0, 1142)]), (184, .iload_n 2, 185, 0, 2, 0, 0, []), (185, .iconst 1, 186, 1, 0, 0, 0, [])]),
 (212, [(186, .bastore, 187, 0, 0, 0, 0, []), (187, .aload_n 0, 188, 0, 0, 0, 0, []), (188, .dup, 189, 0, 0, 0, 0, []), (189, .getfield 317, 192, 0, 11, 67, 0, [(0, 1144)]), (192, .iconst 1, 193, 1, 0, 0, 0, []), (193, .iadd, 194, 0, 0, 0, 0, []), (194, .putfield 317, 197, 0, 11, 67, 0, [(0, 1144)]), (197, .goto 158, 200, 0, 355, 0, 0, []), (200, .iload_n 3, 201, 0, 3, 0, 0, []), (201, .bipush 41, 203, 41, 0, 0, 0, []), (203, .if_icmp .ne 51, 206, 0, 254, 0, 0, []), (206, .iinc 2 (-1), 209, (-1), 2, 0, 0, []), (209, .aload_n 0, 210, 0, 0, 0, 0, []), (210, .iload_n 2, 211, 0, 2, 0, 0, []), (211, .aload_n 0, 212, 0, 0, 0, 0, []), (212, .getfield 176, 215, 0, 11, 64, 2, [(0, 1141)])]),
 (238, [(215, .iload_n 2, 216, 0, 2, 0, 0, []), (216, .iconst 1, 217, 1, 0, 0, 0, []), (217, .iadd, 218, 0, 0, 0, 0, []), (218, .baload, 219, 0, 0, 0, 0, []), (219, .ifCond .ne 14, 222, 0, 233, 0, 0, []), (222, .aload_n 0, 223, 0, 0, 0, 0, []), (223, .getfield 179, 226, 0, 11, 65, 2, [(0, 1142)]), (226, .iload_n 2, 227, 0, 2, 0, 0, []), (227, .iconst 1, 228, 1, 0, 0, 0, []), (228, .iadd, 229, 0, 0, 0, 0, []), (229, .baload, 230, 0, 0, 0, 0, []), (230, .ifCond .eq 7, 233, 0, 237, 0, 0, []), (233, .iconst 1, 234, 1, 0, 0, 0, []), (234, .goto 4, 237, 0, 238, 0, 0, []), (237, .iconst 0, 238, 0, 0, 0, 0, []), (238, .invokevirtual 326, 241, 0, 1151, 3, 0, [(0, 1442), (0, 1444), (0, 54), (0, 81), (0, 1445)])]),
 (268, [(241, .aload_n 0, 242, 0, 0, 0, 0, []), (242, .dup, 243, 0, 0, 0, 0, []), (243, .getfield 317, 246, 0, 11, 67, 0, [(0, 1144)]), (246, .iconst 1, 247, 1, 0, 0, 0, []), (247, .iadd, 248, 0, 0, 0, 0, []), (248, .putfield 317, 251, 0, 11, 67, 0, [(0, 1144)]), (251, .goto 104, 254, 0, 355, 0, 0, []), (254, .aload_n 0, 255, 0, 0, 0, 0, []), (255, .iload_n 1, 256, 0, 1, 0, 0, []), (256, .invokevirtual 330, 259, 0, 1149, 2, 1, [(0, 1446), (0, 1448), (0, 55), (0, 81), (0, 1449)]), (259, .istore 4, 261, 0, 4, 0, 0, []), (261, .aload_n 0, 262, 0, 0, 0, 0, []), (262, .getfield 118, 265, 0, 11, 42, 2, [(0, 1119)]), (265, .iload_n 1, 266, 0, 1, 0, 0, []), (266, .bipush 120, 268, 120, 0, 0, 0, []), (268, .imul, 269, 0, 0, 0, 0, [])]),
 (294, [(269, .aload_n 0, 270, 0, 0, 0, 0, []), (270, .getfield 317, 273, 0, 11, 67, 0, [(0, 1144)]), (273, .iadd, 274, 0, 0, 0, 0, []), (274, .baload, 275, 0, 0, 0, 0, []), (275, .istore 5, 277, 0, 5, 0, 0, []), (277, .aload_n 0, 278, 0, 0, 0, 0, []), (278, .dup, 279, 0, 0, 0, 0, []), (279, .getfield 317, 282, 0, 11, 67, 0, [(0, 1144)]), (282, .iconst 1, 283, 1, 0, 0, 0, []), (283, .iadd, 284, 0, 0, 0, 0, []), (284, .putfield 317, 287, 0, 11, 67, 0, [(0, 1144)]), (287, .aload_n 0, 288, 0, 0, 0, 0, []), (288, .iload_n 1, 289, 0, 1, 0, 0, []), (289, .invokevirtual 330, 292, 0, 1149, 2, 1, [(0, 1446), (0, 1448), (0, 55), (0, 81), (0, 1449)]), (292, .istore 6, 294, 0, 6, 0, 0, []), (294, .aload_n 0, 295, 0, 0, 0, 0, [])]),
 (327, [(295, .iload_n 2, 296, 0, 2, 0, 0, []), (296, .iload 5, 298, 0, 5, 0, 0, []), (298, .bipush 60, 300, 60, 0, 0, 0, []), (300, .if_icmp .ne 18, 303, 0, 318, 0, 0, []), (303, .iload 4, 305, 0, 4, 0, 0, []), (305, .iload 6, 307, 0, 6, 0, 0, []), (307, .if_icmp .ge 7, 310, 0, 314, 0, 0, []), (310, .iconst 1, 311, 1, 0, 0, 0, []), (311, .goto 41, 314, 0, 352, 0, 0, []), (314, .iconst 0, 315, 0, 0, 0, 0, []), (315, .goto 37, 318, 0, 352, 0, 0, []), (318, .iload 5, 320, 0, 5, 0, 0, []), (320, .bipush 61, 322, 61, 0, 0, 0, []), (322, .if_icmp .ne 18, 325, 0, 340, 0, 0, []), (325, .iload 4, 327, 0, 4, 0, 0, []), (327, .iload 6, 329, 0, 6, 0, 0, [])]),
 (360, [(329, .if_icmp .ne 7, 332, 0, 336, 0, 0, []), (332, .iconst 1, 333, 1, 0, 0, 0, []), (333, .goto 19, 336, 0, 352, 0, 0, []), (336, .iconst 0, 337, 0, 0, 0, 0, []), (337, .goto 15, 340, 0, 352, 0, 0, []), (340, .iload 4, 342, 0, 4, 0, 0, []), (342, .iload 6, 344, 0, 6, 0, 0, []), (344, .if_icmp .le 7, 347, 0, 351, 0, 0, []), (347, .iconst 1, 348, 1, 0, 0, 0, []), (348, .goto 4, 351, 0, 352, 0, 0, []), (351, .iconst 0, 352, 0, 0, 0, 0, []), (352, .invokevirtual 326, 355, 0, 1151, 3, 0, [(0, 1442), (0, 1444), (0, 54), (0, 81), (0, 1445)]), (355, .aload_n 0, 356, 0, 0, 0, 0, []), (356, .getfield 118, 359, 0, 11, 42, 2, [(0, 1119)]), (359, .iload_n 1, 360, 0, 1, 0, 0, []), (360, .bipush 120, 362, 120, 0, 0, 0, [])]),
 (387, [(362, .imul, 363, 0, 0, 0, 0, []), (363, .aload_n 0, 364, 0, 0, 0, 0, []), (364, .getfield 317, 367, 0, 11, 67, 0, [(0, 1144)]), (367, .iadd, 368, 0, 0, 0, 0, []), (368, .baload, 369, 0, 0, 0, 0, []), (369, .istore_n 3, 370, 0, 3, 0, 0, []), (370, .goto (-332), 373, 0, 38, 0, 0, []), (373, .aload_n 0, 374, 0, 0, 0, 0, []), (374, .dup, 375, 0, 0, 0, 0, []), (375, .getfield 317, 378, 0, 11, 67, 0, [(0, 1144)]), (378, .iconst 1, 379, 1, 0, 0, 0, []), (379, .iadd, 380, 0, 0, 0, 0, []), (380, .putfield 317, 383, 0, 11, 67, 0, [(0, 1144)]), (383, .aload_n 0, 384, 0, 0, 0, 0, []), (384, .getfield 176, 387, 0, 11, 64, 2, [(0, 1141)]), (387, .iconst 0, 388, 0, 0, 0, 0, [])]),
 (406, [(388, .baload, 389, 0, 0, 0, 0, []), (389, .ifCond .ne 12, 392, 0, 401, 0, 0, []), (392, .aload_n 0, 393, 0, 0, 0, 0, []), (393, .getfield 179, 396, 0, 11, 65, 2, [(0, 1142)]), (396, .iconst 0, 397, 0, 0, 0, 0, []), (397, .baload, 398, 0, 0, 0, 0, []), (398, .ifCond .eq 7, 401, 0, 405, 0, 0, []), (401, .iconst 1, 402, 1, 0, 0, 0, []), (402, .goto 4, 405, 0, 406, 0, 0, []), (405, .iconst 0, 406, 0, 0, 0, 0, []), (406, .ireturn, 407, 0, 0, 0, 1, [])])]
def tb_M_test : List (Nat × List (Nat × am_X)) := [
 (25, [(0, .aload_n 0, 1, 0, 0, 0, 0, []), (1, .getfield 179, 4, 0, 11, 65, 2, [(0, 1142)]), (4, .iload_n 1, 5, 0, 1, 0, 0, []), (5, .aload_n 0, 6, 0, 0, 0, 0, []), (6, .getfield 179, 9, 0, 11, 65, 2, [(0, 1142)]), (9, .iload_n 1, 10, 0, 1, 0, 0, []), (10, .baload, 11, 0, 0, 0, 0, []), (11, .ifCond .eq 17, 14, 0, 28, 0, 0, []), (14, .iload_n 2, 15, 0, 2, 0, 0, []), (15, .aload_n 0, 16, 0, 0, 0, 0, []), (16, .getfield 182, 19, 0, 11, 66, 2, [(0, 1143)]), (19, .iload_n 1, 20, 0, 1, 0, 0, []), (20, .baload, 21, 0, 0, 0, 0, []), (21, .if_icmp .eq 7, 24, 0, 28, 0, 0, []), (24, .iconst 1, 25, 1, 0, 0, 0, []), (25, .goto 4, 28, 0, 29, 0, 0, [])]),
 (37, [(28, .iconst 0, 29, 0, 0, 0, 0, []), (29, .bastore, 30, 0, 0, 0, 0, []), (30, .aload_n 0, 31, 0, 0, 0, 0, []), (31, .getfield 182, 34, 0, 11, 66, 2, [(0, 1143)]), (34, .iload_n 1, 35, 0, 1, 0, 0, []), (35, .iconst 0, 36, 0, 0, 0, 0, []), (36, .bastore, 37, 0, 0, 0, 0, []), (37, .return_, 38, 0, 0, 0, 0, [])])]
def tb_M_holds : List (Nat × List (Nat × am_X)) := [
 (27, [(0, .aload_n 0, 1, 0, 0, 0, 0, []), (1, .iload_n 1, 2, 0, 1, 0, 0, []), (2, .invokevirtual 314, 5, 0, 1106, 2, 1, [(0, 1514), (0, 1516), (0, 66), (0, 81), (0, 1517)]), (5, .ifCond .ne 9, 8, 0, 14, 0, 0, []), (8, .aload_n 0, 9, 0, 0, 0, 0, []), (9, .iconst (-1), 10, (-1), 0, 0, 0, []), (10, .invokevirtual 203, 13, 0, 1101, 2, 1, [(0, 1309), (0, 1311), (0, 30), (0, 81), (0, 1312)]), (13, .ireturn, 14, 0, 0, 0, 0, []), (14, .aload_n 0, 15, 0, 0, 0, 0, []), (15, .iconst 0, 16, 0, 0, 0, 0, []), (16, .putfield 221, 19, 0, 11, 0, 0, [(0, 1077)]), (19, .aload_n 0, 20, 0, 0, 0, 0, []), (20, .iload_n 1, 21, 0, 1, 0, 0, []), (21, .invokevirtual 333, 24, 0, 1150, 2, 1, [(0, 1438), (0, 1440), (0, 53), (0, 81), (0, 1441)]), (24, .ifCond .eq 7, 27, 0, 31, 0, 0, []), (27, .iconst 1, 28, 1, 0, 0, 0, [])]),
 (32, [(28, .goto 4, 31, 0, 32, 0, 0, []), (31, .iconst 0, 32, 0, 0, 0, 0, []), (32, .ireturn, 33, 0, 0, 0, 0, [])])]
def tb_M_ask : List (Nat × List (Nat × am_X)) := [
 (28, [(0, .iconst 0, 1, 0, 0, 0, 0, []), (1, .istore_n 1, 2, 0, 1, 0, 0, []), (2, .iload_n 1, 3, 0, 1, 0, 0, []), (3, .aload_n 0, 4, 0, 0, 0, 0, []), (4, .getfield 200, 7, 0, 11, 41, 0, [(0, 1118)]), (7, .if_icmp .ge 110, 10, 0, 117, 0, 0, []), (10, .aload_n 0, 11, 0, 0, 0, 0, []), (11, .getfield 124, 14, 0, 11, 44, 2, [(0, 1121)]), (14, .iload_n 1, 15, 0, 1, 0, 0, []), (15, .baload, 16, 0, 0, 0, 0, []), (16, .ifCond .ne 6, 19, 0, 22, 0, 0, []), (19, .goto 92, 22, 0, 111, 0, 0, []), (22, .aload_n 0, 23, 0, 0, 0, 0, []), (23, .getfield 221, 26, 0, 11, 0, 0, [(0, 1077)]), (26, .bipush 12, 28, 12, 0, 0, 0, []), (28, .imul, 29, 0, 0, 0, 0, [])]),
 (52, [(29, .iload_n 1, 30, 0, 1, 0, 0, []), (30, .iadd, 31, 0, 0, 0, 0, []), (31, .istore_n 2, 32, 0, 2, 0, 0, []), (32, .aload_n 0, 33, 0, 0, 0, 0, []), (33, .getfield 127, 36, 0, 11, 45, 2, [(0, 1122)]), (36, .iload_n 2, 37, 0, 2, 0, 0, []), (37, .iaload, 38, 0, 0, 0, 0, []), (38, .aload_n 0, 39, 0, 0, 0, 0, []), (39, .getfield 7, 42, 0, 11, 1, 2, [(0, 1078)]), (42, .aload_n 0, 43, 0, 0, 0, 0, []), (43, .getfield 221, 46, 0, 11, 0, 0, [(0, 1077)]), (46, .iaload, 47, 0, 0, 0, 0, []), (47, .iconst 1, 48, 1, 0, 0, 0, []), (48, .isub, 49, 0, 0, 0, 0, []), (49, .if_icmp .ne 16, 52, 0, 65, 0, 0, []), (52, .aload_n 0, 53, 0, 0, 0, 0, [])]),
 (79, [(53, .getfield 130, 56, 0, 11, 46, 2, [(0, 1123)]), (56, .iload_n 2, 57, 0, 2, 0, 0, []), (57, .baload, 58, 0, 0, 0, 0, []), (58, .ifCond .eq 7, 61, 0, 65, 0, 0, []), (61, .iconst 1, 62, 1, 0, 0, 0, []), (62, .goto 4, 65, 0, 66, 0, 0, []), (65, .iconst 0, 66, 0, 0, 0, 0, []), (66, .istore_n 3, 67, 0, 3, 0, 0, []), (67, .aload_n 0, 68, 0, 0, 0, 0, []), (68, .iload_n 1, 69, 0, 1, 0, 0, []), (69, .invokevirtual 333, 72, 0, 1150, 2, 1, [(0, 1438), (0, 1440), (0, 53), (0, 81), (0, 1441)]), (72, .istore 4, 74, 0, 4, 0, 0, []), (74, .aload_n 0, 75, 0, 0, 0, 0, []), (75, .getfield 127, 78, 0, 11, 45, 2, [(0, 1122)]), (78, .iload_n 2, 79, 0, 2, 0, 0, []), (79, .aload_n 0, 80, 0, 0, 0, 0, [])]),
 (107, [(80, .getfield 7, 83, 0, 11, 1, 2, [(0, 1078)]), (83, .aload_n 0, 84, 0, 0, 0, 0, []), (84, .getfield 221, 87, 0, 11, 0, 0, [(0, 1077)]), (87, .iaload, 88, 0, 0, 0, 0, []), (88, .iastore, 89, 0, 0, 0, 0, []), (89, .aload_n 0, 90, 0, 0, 0, 0, []), (90, .getfield 130, 93, 0, 11, 46, 2, [(0, 1123)]), (93, .iload_n 2, 94, 0, 2, 0, 0, []), (94, .iload 4, 96, 0, 4, 0, 0, []), (96, .bastore, 97, 0, 0, 0, 0, []), (97, .iload 4, 99, 0, 4, 0, 0, []), (99, .ifCond .eq 12, 102, 0, 111, 0, 0, []), (102, .iload_n 3, 103, 0, 3, 0, 0, []), (103, .ifCond .ne 8, 106, 0, 111, 0, 0, []), (106, .aload_n 0, 107, 0, 0, 0, 0, []), (107, .iload_n 1, 108, 0, 1, 0, 0, [])]),
 (117, [(108, .invokevirtual 336, 111, 0, 1154, 2, 0, [(0, 1462), (0, 1464), (0, 59), (0, 81), (0, 1465)]), (111, .iinc 1 1, 114, 1, 1, 0, 0, []), (114, .goto (-112), 117, 0, 2, 0, 0, []), (117, .return_, 118, 0, 0, 0, 0, [])])]
def tb_M_give : List (Nat × List (Nat × am_X)) := [
 (26, [(0, .aload_n 0, 1, 0, 0, 0, 0, []), (1, .getfield 317, 4, 0, 11, 67, 0, [(0, 1144)]), (4, .aload_n 0, 5, 0, 0, 0, 0, []), (5, .getfield 121, 8, 0, 11, 43, 2, [(0, 1120)]), (8, .iload_n 1, 9, 0, 1, 0, 0, []), (9, .iaload, 10, 0, 0, 0, 0, []), (10, .if_icmp .ge 247, 13, 0, 257, 0, 0, []), (13, .aload_n 0, 14, 0, 0, 0, 0, []), (14, .getfield 118, 17, 0, 11, 42, 2, [(0, 1119)]), (17, .iload_n 1, 18, 0, 1, 0, 0, []), (18, .bipush 120, 20, 120, 0, 0, 0, []), (20, .imul, 21, 0, 0, 0, 0, []), (21, .aload_n 0, 22, 0, 0, 0, 0, []), (22, .getfield 317, 25, 0, 11, 67, 0, [(0, 1144)]), (25, .iadd, 26, 0, 0, 0, 0, []), (26, .baload, 27, 0, 0, 0, 0, [])]),
 (53, [(27, .istore_n 2, 28, 0, 2, 0, 0, []), (28, .aload_n 0, 29, 0, 0, 0, 0, []), (29, .dup, 30, 0, 0, 0, 0, []), (30, .getfield 317, 33, 0, 11, 67, 0, [(0, 1144)]), (33, .iconst 1, 34, 1, 0, 0, 0, []), (34, .iadd, 35, 0, 0, 0, 0, []), (35, .putfield 317, 38, 0, 11, 67, 0, [(0, 1144)]), (38, .iload_n 2, 39, 0, 2, 0, 0, []), (39, .bipush 59, 41, 59, 0, 0, 0, []), (41, .if_icmp .ne 6, 44, 0, 47, 0, 0, []), (44, .goto (-44), 47, 0, 0, 0, 0, []), (47, .aload_n 0, 48, 0, 0, 0, 0, []), (48, .iload_n 1, 49, 0, 1, 0, 0, []), (49, .invokevirtual 320, 52, 0, 1147, 2, 1, [(0, 1458), (0, 1460), (0, 58), (0, 81), (0, 1461)]), (52, .istore_n 3, 53, 0, 3, 0, 0, []), (53, .aload_n 0, 54, 0, 0, 0, 0, [])]),
 (87, [(54, .getfield 136, 57, 0, 11, 48, 2, [(0, 1125)]), (57, .aload_n 0, 58, 0, 0, 0, 0, []), (58, .getfield 221, 61, 0, 11, 0, 0, [(0, 1077)]), (61, .iaload, 62, 0, 0, 0, 0, []), (62, .sipush 200, 65, 200, 0, 0, 0, []), (65, .if_icmp .ne 6, 68, 0, 71, 0, 0, []), (68, .goto (-68), 71, 0, 0, 0, 0, []), (71, .iload_n 2, 72, 0, 2, 0, 0, []), (72, .bipush 111, 74, 111, 0, 0, 0, []), (74, .if_icmp .ne 7, 77, 0, 81, 0, 0, []), (77, .iconst 1, 78, 1, 0, 0, 0, []), (78, .goto 34, 81, 0, 112, 0, 0, []), (81, .iload_n 2, 82, 0, 2, 0, 0, []), (82, .bipush 115, 84, 115, 0, 0, 0, []), (84, .if_icmp .ne 7, 87, 0, 91, 0, 0, []), (87, .iconst 2, 88, 2, 0, 0, 0, [])]),
 (118, [(88, .goto 24, 91, 0, 112, 0, 0, []), (91, .iload_n 2, 92, 0, 2, 0, 0, []), (92, .bipush 107, 94, 107, 0, 0, 0, []), (94, .if_icmp .ne 7, 97, 0, 101, 0, 0, []), (97, .iconst 3, 98, 3, 0, 0, 0, []), (98, .goto 14, 101, 0, 112, 0, 0, []), (101, .iload_n 2, 102, 0, 2, 0, 0, []), (102, .bipush 103, 104, 103, 0, 0, 0, []), (104, .if_icmp .ne 7, 107, 0, 111, 0, 0, []), (107, .iconst 4, 108, 4, 0, 0, 0, []), (108, .goto 4, 111, 0, 112, 0, 0, []), (111, .iconst 5, 112, 5, 0, 0, 0, []), (112, .istore 4, 114, 0, 4, 0, 0, []), (114, .aload_n 0, 115, 0, 0, 0, 0, []), (115, .getfield 221, 118, 0, 11, 0, 0, [(0, 1077)]), (118, .sipush 1000, 121, 1000, 0, 0, 0, [])]),
 (144, [(121, .imul, 122, 0, 0, 0, 0, []), (122, .aload_n 0, 123, 0, 0, 0, 0, []), (123, .getfield 136, 126, 0, 11, 48, 2, [(0, 1125)]), (126, .aload_n 0, 127, 0, 0, 0, 0, []), (127, .getfield 221, 130, 0, 11, 0, 0, [(0, 1077)]), (130, .iaload, 131, 0, 0, 0, 0, []), (131, .iconst 5, 132, 5, 0, 0, 0, []), (132, .imul, 133, 0, 0, 0, 0, []), (133, .iadd, 134, 0, 0, 0, 0, []), (134, .istore 5, 136, 0, 5, 0, 0, []), (136, .aload_n 0, 137, 0, 0, 0, 0, []), (137, .getfield 133, 140, 0, 11, 47, 2, [(0, 1124)]), (140, .iload 5, 142, 0, 5, 0, 0, []), (142, .iload_n 1, 143, 0, 1, 0, 0, []), (143, .iastore, 144, 0, 0, 0, 0, []), (144, .aload_n 0, 145, 0, 0, 0, 0, [])]),
 (170, [(145, .getfield 133, 148, 0, 11, 47, 2, [(0, 1124)]), (148, .iload 5, 150, 0, 5, 0, 0, []), (150, .iconst 1, 151, 1, 0, 0, 0, []), (151, .iadd, 152, 0, 0, 0, 0, []), (152, .aload_n 0, 153, 0, 0, 0, 0, []), (153, .getfield 7, 156, 0, 11, 1, 2, [(0, 1078)]), (156, .aload_n 0, 157, 0, 0, 0, 0, []), (157, .getfield 221, 160, 0, 11, 0, 0, [(0, 1077)]), (160, .iaload, 161, 0, 0, 0, 0, []), (161, .iastore, 162, 0, 0, 0, 0, []), (162, .aload_n 0, 163, 0, 0, 0, 0, []), (163, .getfield 133, 166, 0, 11, 47, 2, [(0, 1124)]), (166, .iload 5, 168, 0, 5, 0, 0, []), (168, .iconst 2, 169, 2, 0, 0, 0, []), (169, .iadd, 170, 0, 0, 0, 0, []), (170, .iload 4, 172, 0, 4, 0, 0, [])]),
 (195, [(172, .iastore, 173, 0, 0, 0, 0, []), (173, .aload_n 0, 174, 0, 0, 0, 0, []), (174, .getfield 133, 177, 0, 11, 47, 2, [(0, 1124)]), (177, .iload 5, 179, 0, 5, 0, 0, []), (179, .iconst 3, 180, 3, 0, 0, 0, []), (180, .iadd, 181, 0, 0, 0, 0, []), (181, .iload_n 3, 182, 0, 3, 0, 0, []), (182, .iastore, 183, 0, 0, 0, 0, []), (183, .aload_n 0, 184, 0, 0, 0, 0, []), (184, .getfield 133, 187, 0, 11, 47, 2, [(0, 1124)]), (187, .iload 5, 189, 0, 5, 0, 0, []), (189, .iconst 4, 190, 4, 0, 0, 0, []), (190, .iadd, 191, 0, 0, 0, 0, []), (191, .aload_n 0, 192, 0, 0, 0, 0, []), (192, .getfield 7, 195, 0, 11, 1, 2, [(0, 1078)]), (195, .aload_n 0, 196, 0, 0, 0, 0, [])]),
 (224, [(196, .getfield 221, 199, 0, 11, 0, 0, [(0, 1077)]), (199, .iaload, 200, 0, 0, 0, 0, []), (200, .iconst 1, 201, 1, 0, 0, 0, []), (201, .iadd, 202, 0, 0, 0, 0, []), (202, .iload 4, 204, 0, 4, 0, 0, []), (204, .iconst 3, 205, 3, 0, 0, 0, []), (205, .if_icmp .ge 33, 208, 0, 238, 0, 0, []), (208, .aload_n 0, 209, 0, 0, 0, 0, []), (209, .iload_n 3, 210, 0, 3, 0, 0, []), (210, .invokevirtual 214, 213, 0, 1103, 2, 1, [(0, 1329), (0, 1331), (0, 33), (0, 81), (0, 1332)]), (213, .ifCond .eq 25, 216, 0, 238, 0, 0, []), (216, .aload_n 0, 217, 0, 0, 0, 0, []), (217, .getfield 49, 220, 0, 11, 16, 2, [(0, 1093)]), (220, .aload_n 0, 221, 0, 0, 0, 0, []), (221, .getfield 221, 224, 0, 11, 0, 0, [(0, 1077)]), (224, .sipush 150, 227, 150, 0, 0, 0, [])]),
 (246, [(227, .imul, 228, 0, 0, 0, 0, []), (228, .iload_n 3, 229, 0, 3, 0, 0, []), (229, .iconst 5, 230, 5, 0, 0, 0, []), (230, .imul, 231, 0, 0, 0, 0, []), (231, .iadd, 232, 0, 0, 0, 0, []), (232, .iconst 3, 233, 3, 0, 0, 0, []), (233, .iadd, 234, 0, 0, 0, 0, []), (234, .iaload, 235, 0, 0, 0, 0, []), (235, .goto 4, 238, 0, 239, 0, 0, []), (238, .iconst 0, 239, 0, 0, 0, 0, []), (239, .iadd, 240, 0, 0, 0, 0, []), (240, .iastore, 241, 0, 0, 0, 0, []), (241, .aload_n 0, 242, 0, 0, 0, 0, []), (242, .getfield 136, 245, 0, 11, 48, 2, [(0, 1125)]), (245, .aload_n 0, 246, 0, 0, 0, 0, []), (246, .getfield 221, 249, 0, 11, 0, 0, [(0, 1077)])]),
 (257, [(249, .dup2, 250, 0, 0, 0, 0, []), (250, .iaload, 251, 0, 0, 0, 0, []), (251, .iconst 1, 252, 1, 0, 0, 0, []), (252, .iadd, 253, 0, 0, 0, 0, []), (253, .iastore, 254, 0, 0, 0, 0, []), (254, .goto (-254), 257, 0, 0, 0, 0, []), (257, .return_, 258, 0, 0, 0, 0, [])])]
def tb_M_given : List (Nat × List (Nat × am_X)) := [
 (26, [(0, .iload_n 2, 1, 0, 2, 0, 0, []), (1, .ifCond .lt 8, 4, 0, 9, 0, 0, []), (4, .iload_n 2, 5, 0, 2, 0, 0, []), (5, .iconst 4, 6, 4, 0, 0, 0, []), (6, .if_icmp .le 10, 9, 0, 16, 0, 0, []), (9, .aload_n 0, 10, 0, 0, 0, 0, []), (10, .bipush (-2), 12, (-2), 0, 0, 0, []), (12, .invokevirtual 203, 15, 0, 1101, 2, 1, [(0, 1309), (0, 1311), (0, 30), (0, 81), (0, 1312)]), (15, .ireturn, 16, 0, 0, 0, 0, []), (16, .iload_n 1, 17, 0, 1, 0, 0, []), (17, .ifCond .lt 13, 20, 0, 30, 0, 0, []), (20, .iload_n 1, 21, 0, 1, 0, 0, []), (21, .aload_n 0, 22, 0, 0, 0, 0, []), (22, .getfield 136, 25, 0, 11, 48, 2, [(0, 1125)]), (25, .iconst 0, 26, 0, 0, 0, 0, []), (26, .iaload, 27, 0, 0, 0, 0, [])]),
 (43, [(27, .if_icmp .lt 6, 30, 0, 33, 0, 0, []), (30, .bipush (-9), 32, (-9), 0, 0, 0, []), (32, .ireturn, 33, 0, 0, 0, 0, []), (33, .aload_n 0, 34, 0, 0, 0, 0, []), (34, .getfield 133, 37, 0, 11, 47, 2, [(0, 1124)]), (37, .iload_n 1, 38, 0, 1, 0, 0, []), (38, .iconst 5, 39, 5, 0, 0, 0, []), (39, .imul, 40, 0, 0, 0, 0, []), (40, .iload_n 2, 41, 0, 2, 0, 0, []), (41, .iadd, 42, 0, 0, 0, 0, []), (42, .iaload, 43, 0, 0, 0, 0, []), (43, .ireturn, 44, 0, 0, 0, 0, [])])]
def tb_M_counted : List (Nat × List (Nat × am_X)) := [
 (25, [(0, .aload_n 0, 1, 0, 0, 0, 0, []), (1, .iload_n 1, 2, 0, 1, 0, 0, []), (2, .invokevirtual 214, 5, 0, 1103, 2, 1, [(0, 1329), (0, 1331), (0, 33), (0, 81), (0, 1332)]), (5, .ifCond .ne 9, 8, 0, 14, 0, 0, []), (8, .aload_n 0, 9, 0, 0, 0, 0, []), (9, .iconst (-1), 10, (-1), 0, 0, 0, []), (10, .invokevirtual 203, 13, 0, 1101, 2, 1, [(0, 1309), (0, 1311), (0, 30), (0, 81), (0, 1312)]), (13, .ireturn, 14, 0, 0, 0, 0, []), (14, .iload_n 2, 15, 0, 2, 0, 0, []), (15, .aload_n 0, 16, 0, 0, 0, 0, []), (16, .getfield 7, 19, 0, 11, 1, 2, [(0, 1078)]), (19, .iconst 0, 20, 0, 0, 0, 0, []), (20, .iaload, 21, 0, 0, 0, 0, []), (21, .if_icmp .le 10, 24, 0, 31, 0, 0, []), (24, .aload_n 0, 25, 0, 0, 0, 0, []), (25, .bipush (-3), 27, (-3), 0, 0, 0, [])]),
 (57, [(27, .invokevirtual 203, 30, 0, 1101, 2, 1, [(0, 1309), (0, 1311), (0, 30), (0, 81), (0, 1312)]), (30, .ireturn, 31, 0, 0, 0, 0, []), (31, .iload_n 2, 32, 0, 2, 0, 0, []), (32, .ifCond .lt 7, 35, 0, 39, 0, 0, []), (35, .iload_n 3, 36, 0, 3, 0, 0, []), (36, .ifCond .ge 10, 39, 0, 46, 0, 0, []), (39, .aload_n 0, 40, 0, 0, 0, 0, []), (40, .bipush (-4), 42, (-4), 0, 0, 0, []), (42, .invokevirtual 203, 45, 0, 1101, 2, 1, [(0, 1309), (0, 1311), (0, 30), (0, 81), (0, 1312)]), (45, .ireturn, 46, 0, 0, 0, 0, []), (46, .iload_n 3, 47, 0, 3, 0, 0, []), (47, .ldc_w 340, 50, 99999, 0, 0, 0, [(0, 1530)]), (50, .if_icmp .gt 12, 53, 0, 62, 0, 0, []), (53, .aload_n 0, 54, 0, 0, 0, 0, []), (54, .getfield 341, 57, 0, 11, 50, 0, [(0, 1127)]), (57, .bipush 60, 59, 60, 0, 0, 0, [])]),
 (87, [(59, .if_icmp .ne 10, 62, 0, 69, 0, 0, []), (62, .aload_n 0, 63, 0, 0, 0, 0, []), (63, .bipush (-6), 65, (-6), 0, 0, 0, []), (65, .invokevirtual 203, 68, 0, 1101, 2, 1, [(0, 1309), (0, 1311), (0, 30), (0, 81), (0, 1312)]), (68, .ireturn, 69, 0, 0, 0, 0, []), (69, .aload_n 0, 70, 0, 0, 0, 0, []), (70, .getfield 143, 73, 0, 11, 51, 2, [(0, 1128)]), (73, .aload_n 0, 74, 0, 0, 0, 0, []), (74, .getfield 341, 77, 0, 11, 50, 0, [(0, 1127)]), (77, .iload_n 1, 78, 0, 1, 0, 0, []), (78, .iastore, 79, 0, 0, 0, 0, []), (79, .aload_n 0, 80, 0, 0, 0, 0, []), (80, .getfield 146, 83, 0, 11, 52, 2, [(0, 1129)]), (83, .aload_n 0, 84, 0, 0, 0, 0, []), (84, .getfield 341, 87, 0, 11, 50, 0, [(0, 1127)]), (87, .iload_n 2, 88, 0, 2, 0, 0, [])]),
 (113, [(88, .iastore, 89, 0, 0, 0, 0, []), (89, .aload_n 0, 90, 0, 0, 0, 0, []), (90, .getfield 149, 93, 0, 11, 53, 2, [(0, 1130)]), (93, .aload_n 0, 94, 0, 0, 0, 0, []), (94, .getfield 341, 97, 0, 11, 50, 0, [(0, 1127)]), (97, .iload_n 3, 98, 0, 3, 0, 0, []), (98, .iastore, 99, 0, 0, 0, 0, []), (99, .aload_n 0, 100, 0, 0, 0, 0, []), (100, .getfield 152, 103, 0, 11, 54, 2, [(0, 1131)]), (103, .aload_n 0, 104, 0, 0, 0, 0, []), (104, .getfield 341, 107, 0, 11, 50, 0, [(0, 1127)]), (107, .aload_n 0, 108, 0, 0, 0, 0, []), (108, .getfield 7, 111, 0, 11, 1, 2, [(0, 1078)]), (111, .iconst 0, 112, 0, 0, 0, 0, []), (112, .iaload, 113, 0, 0, 0, 0, []), (113, .iastore, 114, 0, 0, 0, 0, [])]),
 (128, [(114, .aload_n 0, 115, 0, 0, 0, 0, []), (115, .dup, 116, 0, 0, 0, 0, []), (116, .getfield 341, 119, 0, 11, 50, 0, [(0, 1127)]), (119, .iconst 1, 120, 1, 0, 0, 0, []), (120, .iadd, 121, 0, 0, 0, 0, []), (121, .putfield 341, 124, 0, 11, 50, 0, [(0, 1127)]), (124, .aload_n 0, 125, 0, 0, 0, 0, []), (125, .getfield 341, 128, 0, 11, 50, 0, [(0, 1127)]), (128, .ireturn, 129, 0, 0, 0, 0, [])])]
def tb_M_countOf : List (Nat × List (Nat × am_X)) := [
 (28, [(0, .bipush (-9), 2, (-9), 0, 0, 0, []), (2, .istore 4, 4, 0, 4, 0, 0, []), (4, .iconst 0, 5, 0, 0, 0, 0, []), (5, .istore 5, 7, 0, 5, 0, 0, []), (7, .iload 5, 9, 0, 5, 0, 0, []), (9, .aload_n 0, 10, 0, 0, 0, 0, []), (10, .getfield 341, 13, 0, 11, 50, 0, [(0, 1127)]), (13, .if_icmp .ge 51, 16, 0, 64, 0, 0, []), (16, .aload_n 0, 17, 0, 0, 0, 0, []), (17, .getfield 143, 20, 0, 11, 51, 2, [(0, 1128)]), (20, .iload 5, 22, 0, 5, 0, 0, []), (22, .iaload, 23, 0, 0, 0, 0, []), (23, .iload_n 1, 24, 0, 1, 0, 0, []), (24, .if_icmp .ne 34, 27, 0, 58, 0, 0, []), (27, .aload_n 0, 28, 0, 0, 0, 0, []), (28, .getfield 146, 31, 0, 11, 52, 2, [(0, 1129)])]),
 (58, [(31, .iload 5, 33, 0, 5, 0, 0, []), (33, .iaload, 34, 0, 0, 0, 0, []), (34, .iload_n 2, 35, 0, 2, 0, 0, []), (35, .if_icmp .ne 23, 38, 0, 58, 0, 0, []), (38, .aload_n 0, 39, 0, 0, 0, 0, []), (39, .getfield 152, 42, 0, 11, 54, 2, [(0, 1131)]), (42, .iload 5, 44, 0, 5, 0, 0, []), (44, .iaload, 45, 0, 0, 0, 0, []), (45, .iload_n 3, 46, 0, 3, 0, 0, []), (46, .if_icmp .gt 12, 49, 0, 58, 0, 0, []), (49, .aload_n 0, 50, 0, 0, 0, 0, []), (50, .getfield 149, 53, 0, 11, 53, 2, [(0, 1130)]), (53, .iload 5, 55, 0, 5, 0, 0, []), (55, .iaload, 56, 0, 0, 0, 0, []), (56, .istore 4, 58, 0, 4, 0, 0, []), (58, .iinc 5 1, 61, 1, 5, 0, 0, [])]),
 (66, [(61, .goto (-54), 64, 0, 7, 0, 0, []), (64, .iload 4, 66, 0, 4, 0, 0, []), (66, .ireturn, 67, 0, 0, 0, 0, [])])]
def tb_M_count : List (Nat × List (Nat × am_X)) := [
 (28, [(0, .aload_n 0, 1, 0, 0, 0, 0, []), (1, .iload_n 1, 2, 0, 1, 0, 0, []), (2, .invokevirtual 214, 5, 0, 1103, 2, 1, [(0, 1329), (0, 1331), (0, 33), (0, 81), (0, 1332)]), (5, .ifCond .ne 9, 8, 0, 14, 0, 0, []), (8, .aload_n 0, 9, 0, 0, 0, 0, []), (9, .iconst (-1), 10, (-1), 0, 0, 0, []), (10, .invokevirtual 203, 13, 0, 1101, 2, 1, [(0, 1309), (0, 1311), (0, 30), (0, 81), (0, 1312)]), (13, .ireturn, 14, 0, 0, 0, 0, []), (14, .iload_n 2, 15, 0, 2, 0, 0, []), (15, .ifCond .lt 7, 18, 0, 22, 0, 0, []), (18, .iload_n 3, 19, 0, 3, 0, 0, []), (19, .ifCond .ge 10, 22, 0, 29, 0, 0, []), (22, .aload_n 0, 23, 0, 0, 0, 0, []), (23, .bipush (-4), 25, (-4), 0, 0, 0, []), (25, .invokevirtual 203, 28, 0, 1101, 2, 1, [(0, 1309), (0, 1311), (0, 30), (0, 81), (0, 1312)]), (28, .ireturn, 29, 0, 0, 0, 0, [])]),
 (57, [(29, .iload_n 2, 30, 0, 2, 0, 0, []), (30, .sipush 999, 33, 999, 0, 0, 0, []), (33, .if_icmp .gt 10, 36, 0, 43, 0, 0, []), (36, .iload_n 3, 37, 0, 3, 0, 0, []), (37, .sipush 999, 40, 999, 0, 0, 0, []), (40, .if_icmp .le 10, 43, 0, 50, 0, 0, []), (43, .aload_n 0, 44, 0, 0, 0, 0, []), (44, .bipush (-6), 46, (-6), 0, 0, 0, []), (46, .invokevirtual 203, 49, 0, 1101, 2, 1, [(0, 1309), (0, 1311), (0, 30), (0, 81), (0, 1312)]), (49, .ireturn, 50, 0, 0, 0, 0, []), (50, .aload_n 0, 51, 0, 0, 0, 0, []), (51, .iload_n 1, 52, 0, 1, 0, 0, []), (52, .iload_n 2, 53, 0, 2, 0, 0, []), (53, .iload_n 3, 54, 0, 3, 0, 0, []), (54, .invokevirtual 344, 57, 0, 1157, 4, 1, [(0, 1535), (0, 1537), (0, 67), (0, 81), (0, 1538)]), (57, .ireturn, 58, 0, 0, 0, 0, [])])]
def tb_M_wrong : List (Nat × List (Nat × am_X)) := [
 (26, [(0, .aload_n 0, 1, 0, 0, 0, 0, []), (1, .iload_n 1, 2, 0, 1, 0, 0, []), (2, .invokevirtual 214, 5, 0, 1103, 2, 1, [(0, 1329), (0, 1331), (0, 33), (0, 81), (0, 1332)]), (5, .ifCond .ne 9, 8, 0, 14, 0, 0, []), (8, .aload_n 0, 9, 0, 0, 0, 0, []), (9, .iconst (-1), 10, (-1), 0, 0, 0, []), (10, .invokevirtual 203, 13, 0, 1101, 2, 1, [(0, 1309), (0, 1311), (0, 30), (0, 81), (0, 1312)]), (13, .ireturn, 14, 0, 0, 0, 0, []), (14, .iload_n 2, 15, 0, 2, 0, 0, []), (15, .ifCond .ge 10, 18, 0, 25, 0, 0, []), (18, .aload_n 0, 19, 0, 0, 0, 0, []), (19, .bipush (-4), 21, (-4), 0, 0, 0, []), (21, .invokevirtual 203, 24, 0, 1101, 2, 1, [(0, 1309), (0, 1311), (0, 30), (0, 81), (0, 1312)]), (24, .ireturn, 25, 0, 0, 0, 0, []), (25, .iload_n 2, 26, 0, 2, 0, 0, []), (26, .sipush 999, 29, 999, 0, 0, 0, [])]),
 (55, [(29, .if_icmp .le 10, 32, 0, 39, 0, 0, []), (32, .aload_n 0, 33, 0, 0, 0, 0, []), (33, .bipush (-6), 35, (-6), 0, 0, 0, []), (35, .invokevirtual 203, 38, 0, 1101, 2, 1, [(0, 1309), (0, 1311), (0, 30), (0, 81), (0, 1312)]), (38, .ireturn, 39, 0, 0, 0, 0, []), (39, .iconst 0, 40, 0, 0, 0, 0, []), (40, .istore_n 3, 41, 0, 3, 0, 0, []), (41, .iconst 0, 42, 0, 0, 0, 0, []), (42, .istore 4, 44, 0, 4, 0, 0, []), (44, .iload 4, 46, 0, 4, 0, 0, []), (46, .aload_n 0, 47, 0, 0, 0, 0, []), (47, .getfield 7, 50, 0, 11, 1, 2, [(0, 1078)]), (50, .iconst 0, 51, 0, 0, 0, 0, []), (51, .iaload, 52, 0, 0, 0, 0, []), (52, .if_icmp .gt 61, 55, 0, 113, 0, 0, []), (55, .aload_n 0, 56, 0, 0, 0, 0, [])]),
 (86, [(56, .iload_n 1, 57, 0, 1, 0, 0, []), (57, .iload 4, 59, 0, 4, 0, 0, []), (59, .iload_n 2, 60, 0, 2, 0, 0, []), (60, .invokevirtual 344, 63, 0, 1157, 4, 1, [(0, 1535), (0, 1537), (0, 67), (0, 81), (0, 1538)]), (63, .istore 5, 65, 0, 5, 0, 0, []), (65, .iload 5, 67, 0, 5, 0, 0, []), (67, .ifCond .ge 6, 70, 0, 73, 0, 0, []), (70, .goto 37, 73, 0, 107, 0, 0, []), (73, .iload 5, 75, 0, 5, 0, 0, []), (75, .aload_n 0, 76, 0, 0, 0, 0, []), (76, .getfield 139, 79, 0, 11, 49, 2, [(0, 1126)]), (79, .iload_n 1, 80, 0, 1, 0, 0, []), (80, .sipush 1000, 83, 1000, 0, 0, 0, []), (83, .imul, 84, 0, 0, 0, 0, []), (84, .iload 4, 86, 0, 4, 0, 0, []), (86, .iadd, 87, 0, 0, 0, 0, [])]),
 (114, [(87, .saload, 88, 0, 0, 0, 0, []), (88, .isub, 89, 0, 0, 0, 0, []), (89, .istore 6, 91, 0, 6, 0, 0, []), (91, .iload_n 3, 92, 0, 3, 0, 0, []), (92, .iload 6, 94, 0, 6, 0, 0, []), (94, .ifCond .ge 9, 97, 0, 103, 0, 0, []), (97, .iload 6, 99, 0, 6, 0, 0, []), (99, .ineg, 100, 0, 0, 0, 0, []), (100, .goto 5, 103, 0, 105, 0, 0, []), (103, .iload 6, 105, 0, 6, 0, 0, []), (105, .iadd, 106, 0, 0, 0, 0, []), (106, .istore_n 3, 107, 0, 3, 0, 0, []), (107, .iinc 4 1, 110, 1, 4, 0, 0, []), (110, .goto (-66), 113, 0, 44, 0, 0, []), (113, .iload_n 3, 114, 0, 3, 0, 0, []), (114, .ireturn, 115, 0, 0, 0, 0, [])])]
def tb_M_copyGround : List (Nat × List (Nat × am_X)) := [
 (24, [(0, .aload_n 0, 1, 0, 0, 0, 0, []), (1, .getfield 7, 4, 0, 11, 1, 2, [(0, 1078)]), (4, .iconst 1, 5, 1, 0, 0, 0, []), (5, .aload_n 0, 6, 0, 0, 0, 0, []), (6, .getfield 7, 9, 0, 11, 1, 2, [(0, 1078)]), (9, .iconst 0, 10, 0, 0, 0, 0, []), (10, .iaload, 11, 0, 0, 0, 0, []), (11, .iastore, 12, 0, 0, 0, 0, []), (12, .iconst 0, 13, 0, 0, 0, 0, []), (13, .istore_n 1, 14, 0, 1, 0, 0, []), (14, .iload_n 1, 15, 0, 1, 0, 0, []), (15, .bipush 20, 17, 20, 0, 0, 0, []), (17, .if_icmp .ge 114, 20, 0, 131, 0, 0, []), (20, .aload_n 0, 21, 0, 0, 0, 0, []), (21, .getfield 19, 24, 0, 11, 5, 2, [(0, 1082)]), (24, .bipush 20, 26, 20, 0, 0, 0, [])]),
 (48, [(26, .iload_n 1, 27, 0, 1, 0, 0, []), (27, .iadd, 28, 0, 0, 0, 0, []), (28, .aload_n 0, 29, 0, 0, 0, 0, []), (29, .getfield 19, 32, 0, 11, 5, 2, [(0, 1082)]), (32, .iload_n 1, 33, 0, 1, 0, 0, []), (33, .iaload, 34, 0, 0, 0, 0, []), (34, .iastore, 35, 0, 0, 0, 0, []), (35, .aload_n 0, 36, 0, 0, 0, 0, []), (36, .getfield 22, 39, 0, 11, 6, 2, [(0, 1083)]), (39, .bipush 20, 41, 20, 0, 0, 0, []), (41, .iload_n 1, 42, 0, 1, 0, 0, []), (42, .iadd, 43, 0, 0, 0, 0, []), (43, .aload_n 0, 44, 0, 0, 0, 0, []), (44, .getfield 22, 47, 0, 11, 6, 2, [(0, 1083)]), (47, .iload_n 1, 48, 0, 1, 0, 0, []), (48, .iaload, 49, 0, 0, 0, 0, [])]),
 (72, [(49, .iastore, 50, 0, 0, 0, 0, []), (50, .aload_n 0, 51, 0, 0, 0, 0, []), (51, .getfield 25, 54, 0, 11, 7, 2, [(0, 1084)]), (54, .bipush 20, 56, 20, 0, 0, 0, []), (56, .iload_n 1, 57, 0, 1, 0, 0, []), (57, .iadd, 58, 0, 0, 0, 0, []), (58, .aload_n 0, 59, 0, 0, 0, 0, []), (59, .getfield 25, 62, 0, 11, 7, 2, [(0, 1084)]), (62, .iload_n 1, 63, 0, 1, 0, 0, []), (63, .iaload, 64, 0, 0, 0, 0, []), (64, .iastore, 65, 0, 0, 0, 0, []), (65, .aload_n 0, 66, 0, 0, 0, 0, []), (66, .getfield 28, 69, 0, 11, 8, 2, [(0, 1085)]), (69, .bipush 20, 71, 20, 0, 0, 0, []), (71, .iload_n 1, 72, 0, 1, 0, 0, []), (72, .iadd, 73, 0, 0, 0, 0, [])]),
 (95, [(73, .aload_n 0, 74, 0, 0, 0, 0, []), (74, .getfield 28, 77, 0, 11, 8, 2, [(0, 1085)]), (77, .iload_n 1, 78, 0, 1, 0, 0, []), (78, .iaload, 79, 0, 0, 0, 0, []), (79, .iastore, 80, 0, 0, 0, 0, []), (80, .aload_n 0, 81, 0, 0, 0, 0, []), (81, .getfield 31, 84, 0, 11, 9, 2, [(0, 1086)]), (84, .bipush 20, 86, 20, 0, 0, 0, []), (86, .iload_n 1, 87, 0, 1, 0, 0, []), (87, .iadd, 88, 0, 0, 0, 0, []), (88, .aload_n 0, 89, 0, 0, 0, 0, []), (89, .getfield 31, 92, 0, 11, 9, 2, [(0, 1086)]), (92, .iload_n 1, 93, 0, 1, 0, 0, []), (93, .iaload, 94, 0, 0, 0, 0, []), (94, .iastore, 95, 0, 0, 0, 0, []), (95, .aload_n 0, 96, 0, 0, 0, 0, [])]),
 (119, [(96, .getfield 34, 99, 0, 11, 10, 2, [(0, 1087)]), (99, .bipush 20, 101, 20, 0, 0, 0, []), (101, .iload_n 1, 102, 0, 1, 0, 0, []), (102, .iadd, 103, 0, 0, 0, 0, []), (103, .aload_n 0, 104, 0, 0, 0, 0, []), (104, .getfield 34, 107, 0, 11, 10, 2, [(0, 1087)]), (107, .iload_n 1, 108, 0, 1, 0, 0, []), (108, .iaload, 109, 0, 0, 0, 0, []), (109, .iastore, 110, 0, 0, 0, 0, []), (110, .aload_n 0, 111, 0, 0, 0, 0, []), (111, .getfield 37, 114, 0, 11, 11, 2, [(0, 1088)]), (114, .bipush 20, 116, 20, 0, 0, 0, []), (116, .iload_n 1, 117, 0, 1, 0, 0, []), (117, .iadd, 118, 0, 0, 0, 0, []), (118, .aload_n 0, 119, 0, 0, 0, 0, []), (119, .getfield 37, 122, 0, 11, 11, 2, [(0, 1088)])]),
 (149, [(122, .iload_n 1, 123, 0, 1, 0, 0, []), (123, .iaload, 124, 0, 0, 0, 0, []), (124, .iastore, 125, 0, 0, 0, 0, []), (125, .iinc 1 1, 128, 1, 1, 0, 0, []), (128, .goto (-114), 131, 0, 14, 0, 0, []), (131, .iconst 0, 132, 0, 0, 0, 0, []), (132, .istore_n 1, 133, 0, 1, 0, 0, []), (133, .iload_n 1, 134, 0, 1, 0, 0, []), (134, .sipush 150, 137, 150, 0, 0, 0, []), (137, .if_icmp .ge 25, 140, 0, 162, 0, 0, []), (140, .aload_n 0, 141, 0, 0, 0, 0, []), (141, .getfield 49, 144, 0, 11, 16, 2, [(0, 1093)]), (144, .sipush 150, 147, 150, 0, 0, 0, []), (147, .iload_n 1, 148, 0, 1, 0, 0, []), (148, .iadd, 149, 0, 0, 0, 0, []), (149, .aload_n 0, 150, 0, 0, 0, 0, [])]),
 (177, [(150, .getfield 49, 153, 0, 11, 16, 2, [(0, 1093)]), (153, .iload_n 1, 154, 0, 1, 0, 0, []), (154, .iaload, 155, 0, 0, 0, 0, []), (155, .iastore, 156, 0, 0, 0, 0, []), (156, .iinc 1 1, 159, 1, 1, 0, 0, []), (159, .goto (-26), 162, 0, 133, 0, 0, []), (162, .iconst 0, 163, 0, 0, 0, 0, []), (163, .istore_n 1, 164, 0, 1, 0, 0, []), (164, .iload_n 1, 165, 0, 1, 0, 0, []), (165, .bipush 30, 167, 30, 0, 0, 0, []), (167, .if_icmp .ge 24, 170, 0, 191, 0, 0, []), (170, .aload_n 0, 171, 0, 0, 0, 0, []), (171, .getfield 52, 174, 0, 11, 17, 2, [(0, 1094)]), (174, .bipush 30, 176, 30, 0, 0, 0, []), (176, .iload_n 1, 177, 0, 1, 0, 0, []), (177, .iadd, 178, 0, 0, 0, 0, [])]),
 (205, [(178, .aload_n 0, 179, 0, 0, 0, 0, []), (179, .getfield 52, 182, 0, 11, 17, 2, [(0, 1094)]), (182, .iload_n 1, 183, 0, 1, 0, 0, []), (183, .iaload, 184, 0, 0, 0, 0, []), (184, .iastore, 185, 0, 0, 0, 0, []), (185, .iinc 1 1, 188, 1, 1, 0, 0, []), (188, .goto (-24), 191, 0, 164, 0, 0, []), (191, .iconst 0, 192, 0, 0, 0, 0, []), (192, .istore_n 1, 193, 0, 1, 0, 0, []), (193, .iload_n 1, 194, 0, 1, 0, 0, []), (194, .bipush 24, 196, 24, 0, 0, 0, []), (196, .if_icmp .ge 54, 199, 0, 250, 0, 0, []), (199, .aload_n 0, 200, 0, 0, 0, 0, []), (200, .getfield 67, 203, 0, 11, 23, 2, [(0, 1100)]), (203, .bipush 24, 205, 24, 0, 0, 0, []), (205, .iload_n 1, 206, 0, 1, 0, 0, [])]),
 (228, [(206, .iadd, 207, 0, 0, 0, 0, []), (207, .aload_n 0, 208, 0, 0, 0, 0, []), (208, .getfield 67, 211, 0, 11, 23, 2, [(0, 1100)]), (211, .iload_n 1, 212, 0, 1, 0, 0, []), (212, .baload, 213, 0, 0, 0, 0, []), (213, .bastore, 214, 0, 0, 0, 0, []), (214, .aload_n 0, 215, 0, 0, 0, 0, []), (215, .getfield 71, 218, 0, 11, 24, 2, [(0, 1101)]), (218, .bipush 24, 220, 24, 0, 0, 0, []), (220, .iload_n 1, 221, 0, 1, 0, 0, []), (221, .iadd, 222, 0, 0, 0, 0, []), (222, .aload_n 0, 223, 0, 0, 0, 0, []), (223, .getfield 71, 226, 0, 11, 24, 2, [(0, 1101)]), (226, .iload_n 1, 227, 0, 1, 0, 0, []), (227, .iaload, 228, 0, 0, 0, 0, []), (228, .iastore, 229, 0, 0, 0, 0, [])]),
 (253, [(229, .aload_n 0, 230, 0, 0, 0, 0, []), (230, .getfield 74, 233, 0, 11, 25, 2, [(0, 1102)]), (233, .bipush 24, 235, 24, 0, 0, 0, []), (235, .iload_n 1, 236, 0, 1, 0, 0, []), (236, .iadd, 237, 0, 0, 0, 0, []), (237, .aload_n 0, 238, 0, 0, 0, 0, []), (238, .getfield 74, 241, 0, 11, 25, 2, [(0, 1102)]), (241, .iload_n 1, 242, 0, 1, 0, 0, []), (242, .iaload, 243, 0, 0, 0, 0, []), (243, .iastore, 244, 0, 0, 0, 0, []), (244, .iinc 1 1, 247, 1, 1, 0, 0, []), (247, .goto (-54), 250, 0, 193, 0, 0, []), (250, .iconst 0, 251, 0, 0, 0, 0, []), (251, .istore_n 1, 252, 0, 1, 0, 0, []), (252, .iload_n 1, 253, 0, 1, 0, 0, []), (253, .sipush 480, 256, 480, 0, 0, 0, [])]),
 (283, [(256, .if_icmp .ge 25, 259, 0, 281, 0, 0, []), (259, .aload_n 0, 260, 0, 0, 0, 0, []), (260, .getfield 77, 263, 0, 11, 26, 2, [(0, 1103)]), (263, .sipush 480, 266, 480, 0, 0, 0, []), (266, .iload_n 1, 267, 0, 1, 0, 0, []), (267, .iadd, 268, 0, 0, 0, 0, []), (268, .aload_n 0, 269, 0, 0, 0, 0, []), (269, .getfield 77, 272, 0, 11, 26, 2, [(0, 1103)]), (272, .iload_n 1, 273, 0, 1, 0, 0, []), (273, .iaload, 274, 0, 0, 0, 0, []), (274, .iastore, 275, 0, 0, 0, 0, []), (275, .iinc 1 1, 278, 1, 1, 0, 0, []), (278, .goto (-26), 281, 0, 252, 0, 0, []), (281, .iconst 0, 282, 0, 0, 0, 0, []), (282, .istore_n 1, 283, 0, 1, 0, 0, []), (283, .iload_n 1, 284, 0, 1, 0, 0, [])]),
 (313, [(284, .sipush 12960, 287, 12960, 0, 0, 0, []), (287, .if_icmp .ge 25, 290, 0, 312, 0, 0, []), (290, .aload_n 0, 291, 0, 0, 0, 0, []), (291, .getfield 83, 294, 0, 11, 28, 2, [(0, 1105)]), (294, .sipush 12960, 297, 12960, 0, 0, 0, []), (297, .iload_n 1, 298, 0, 1, 0, 0, []), (298, .iadd, 299, 0, 0, 0, 0, []), (299, .aload_n 0, 300, 0, 0, 0, 0, []), (300, .getfield 83, 303, 0, 11, 28, 2, [(0, 1105)]), (303, .iload_n 1, 304, 0, 1, 0, 0, []), (304, .iaload, 305, 0, 0, 0, 0, []), (305, .iastore, 306, 0, 0, 0, 0, []), (306, .iinc 1 1, 309, 1, 1, 0, 0, []), (309, .goto (-26), 312, 0, 283, 0, 0, []), (312, .iconst 0, 313, 0, 0, 0, 0, []), (313, .istore_n 1, 314, 0, 1, 0, 0, [])]),
 (341, [(314, .iload_n 1, 315, 0, 1, 0, 0, []), (315, .bipush 8, 317, 8, 0, 0, 0, []), (317, .if_icmp .ge 24, 320, 0, 341, 0, 0, []), (320, .aload_n 0, 321, 0, 0, 0, 0, []), (321, .getfield 98, 324, 0, 11, 34, 2, [(0, 1111)]), (324, .bipush 8, 326, 8, 0, 0, 0, []), (326, .iload_n 1, 327, 0, 1, 0, 0, []), (327, .iadd, 328, 0, 0, 0, 0, []), (328, .aload_n 0, 329, 0, 0, 0, 0, []), (329, .getfield 98, 332, 0, 11, 34, 2, [(0, 1111)]), (332, .iload_n 1, 333, 0, 1, 0, 0, []), (333, .baload, 334, 0, 0, 0, 0, []), (334, .bastore, 335, 0, 0, 0, 0, []), (335, .iinc 1 1, 338, 1, 1, 0, 0, []), (338, .goto (-24), 341, 0, 314, 0, 0, []), (341, .aload_n 0, 342, 0, 0, 0, 0, [])]),
 (367, [(342, .getfield 101, 345, 0, 11, 35, 2, [(0, 1112)]), (345, .iconst 1, 346, 1, 0, 0, 0, []), (346, .aload_n 0, 347, 0, 0, 0, 0, []), (347, .getfield 101, 350, 0, 11, 35, 2, [(0, 1112)]), (350, .iconst 0, 351, 0, 0, 0, 0, []), (351, .iaload, 352, 0, 0, 0, 0, []), (352, .iastore, 353, 0, 0, 0, 0, []), (353, .iconst 0, 354, 0, 0, 0, 0, []), (354, .istore_n 1, 355, 0, 1, 0, 0, []), (355, .iload_n 1, 356, 0, 1, 0, 0, []), (356, .bipush 12, 358, 12, 0, 0, 0, []), (358, .if_icmp .ge 39, 361, 0, 397, 0, 0, []), (361, .aload_n 0, 362, 0, 0, 0, 0, []), (362, .getfield 127, 365, 0, 11, 45, 2, [(0, 1122)]), (365, .bipush 12, 367, 12, 0, 0, 0, []), (367, .iload_n 1, 368, 0, 1, 0, 0, [])]),
 (390, [(368, .iadd, 369, 0, 0, 0, 0, []), (369, .aload_n 0, 370, 0, 0, 0, 0, []), (370, .getfield 127, 373, 0, 11, 45, 2, [(0, 1122)]), (373, .iload_n 1, 374, 0, 1, 0, 0, []), (374, .iaload, 375, 0, 0, 0, 0, []), (375, .iastore, 376, 0, 0, 0, 0, []), (376, .aload_n 0, 377, 0, 0, 0, 0, []), (377, .getfield 130, 380, 0, 11, 46, 2, [(0, 1123)]), (380, .bipush 12, 382, 12, 0, 0, 0, []), (382, .iload_n 1, 383, 0, 1, 0, 0, []), (383, .iadd, 384, 0, 0, 0, 0, []), (384, .aload_n 0, 385, 0, 0, 0, 0, []), (385, .getfield 130, 388, 0, 11, 46, 2, [(0, 1123)]), (388, .iload_n 1, 389, 0, 1, 0, 0, []), (389, .baload, 390, 0, 0, 0, 0, []), (390, .bastore, 391, 0, 0, 0, 0, [])]),
 (414, [(391, .iinc 1 1, 394, 1, 1, 0, 0, []), (394, .goto (-39), 397, 0, 355, 0, 0, []), (397, .aload_n 0, 398, 0, 0, 0, 0, []), (398, .getfield 136, 401, 0, 11, 48, 2, [(0, 1125)]), (401, .iconst 1, 402, 1, 0, 0, 0, []), (402, .aload_n 0, 403, 0, 0, 0, 0, []), (403, .getfield 136, 406, 0, 11, 48, 2, [(0, 1125)]), (406, .iconst 0, 407, 0, 0, 0, 0, []), (407, .iaload, 408, 0, 0, 0, 0, []), (408, .iastore, 409, 0, 0, 0, 0, []), (409, .iconst 0, 410, 0, 0, 0, 0, []), (410, .istore_n 1, 411, 0, 1, 0, 0, []), (411, .iload_n 1, 412, 0, 1, 0, 0, []), (412, .iconst 5, 413, 5, 0, 0, 0, []), (413, .aload_n 0, 414, 0, 0, 0, 0, []), (414, .getfield 136, 417, 0, 11, 48, 2, [(0, 1125)])]),
 (442, [(417, .iconst 0, 418, 0, 0, 0, 0, []), (418, .iaload, 419, 0, 0, 0, 0, []), (419, .imul, 420, 0, 0, 0, 0, []), (420, .if_icmp .ge 25, 423, 0, 445, 0, 0, []), (423, .aload_n 0, 424, 0, 0, 0, 0, []), (424, .getfield 133, 427, 0, 11, 47, 2, [(0, 1124)]), (427, .sipush 1000, 430, 1000, 0, 0, 0, []), (430, .iload_n 1, 431, 0, 1, 0, 0, []), (431, .iadd, 432, 0, 0, 0, 0, []), (432, .aload_n 0, 433, 0, 0, 0, 0, []), (433, .getfield 133, 436, 0, 11, 47, 2, [(0, 1124)]), (436, .iload_n 1, 437, 0, 1, 0, 0, []), (437, .iaload, 438, 0, 0, 0, 0, []), (438, .iastore, 439, 0, 0, 0, 0, []), (439, .iinc 1 1, 442, 1, 1, 0, 0, []), (442, .goto (-31), 445, 0, 411, 0, 0, [])]),
 (445, [(445, .return_, 446, 0, 0, 0, 0, [])])]
def tb_M_isOver : List (Nat × List (Nat × am_X)) := [
 (24, [(0, .iconst 0, 1, 0, 0, 0, 0, []), (1, .istore_n 1, 2, 0, 1, 0, 0, []), (2, .iload_n 1, 3, 0, 1, 0, 0, []), (3, .aload_n 0, 4, 0, 0, 0, 0, []), (4, .getfield 194, 7, 0, 11, 18, 0, [(0, 1095)]), (7, .if_icmp .ge 66, 10, 0, 73, 0, 0, []), (10, .aload_n 0, 11, 0, 0, 0, 0, []), (11, .getfield 71, 14, 0, 11, 24, 2, [(0, 1101)]), (14, .bipush 24, 16, 24, 0, 0, 0, []), (16, .iload_n 1, 17, 0, 1, 0, 0, []), (17, .iadd, 18, 0, 0, 0, 0, []), (18, .iaload, 19, 0, 0, 0, 0, []), (19, .istore_n 2, 20, 0, 2, 0, 0, []), (20, .aload_n 0, 21, 0, 0, 0, 0, []), (21, .getfield 67, 24, 0, 11, 23, 2, [(0, 1100)]), (24, .bipush 24, 26, 24, 0, 0, 0, [])]),
 (50, [(26, .iload_n 1, 27, 0, 1, 0, 0, []), (27, .iadd, 28, 0, 0, 0, 0, []), (28, .baload, 29, 0, 0, 0, 0, []), (29, .ifCond .eq 26, 32, 0, 55, 0, 0, []), (32, .iload_n 2, 33, 0, 2, 0, 0, []), (33, .aload_n 0, 34, 0, 0, 0, 0, []), (34, .getfield 77, 37, 0, 11, 26, 2, [(0, 1103)]), (37, .sipush 480, 40, 480, 0, 0, 0, []), (40, .iload_n 1, 41, 0, 1, 0, 0, []), (41, .bipush 20, 43, 20, 0, 0, 0, []), (43, .imul, 44, 0, 0, 0, 0, []), (44, .iadd, 45, 0, 0, 0, 0, []), (45, .aload_n 0, 46, 0, 0, 0, 0, []), (46, .getfield 55, 49, 0, 11, 19, 2, [(0, 1096)]), (49, .iload_n 1, 50, 0, 1, 0, 0, []), (50, .iaload, 51, 0, 0, 0, 0, [])]),
 (74, [(51, .iadd, 52, 0, 0, 0, 0, []), (52, .iaload, 53, 0, 0, 0, 0, []), (53, .iadd, 54, 0, 0, 0, 0, []), (54, .istore_n 2, 55, 0, 2, 0, 0, []), (55, .iload_n 2, 56, 0, 2, 0, 0, []), (56, .aload_n 0, 57, 0, 0, 0, 0, []), (57, .getfield 58, 60, 0, 11, 20, 2, [(0, 1097)]), (60, .iload_n 1, 61, 0, 1, 0, 0, []), (61, .iaload, 62, 0, 0, 0, 0, []), (62, .if_icmp .ge 5, 65, 0, 67, 0, 0, []), (65, .iconst 0, 66, 0, 0, 0, 0, []), (66, .ireturn, 67, 0, 0, 0, 1, []), (67, .iinc 1 1, 70, 1, 1, 0, 0, []), (70, .goto (-68), 73, 0, 2, 0, 0, []), (73, .iconst 1, 74, 1, 0, 0, 0, []), (74, .ireturn, 75, 0, 0, 0, 1, [])])]
def tb_M_empty : List (Nat × List (Nat × am_X)) := [
 (25, [(0, .aload_n 0, 1, 0, 0, 0, 0, []), (1, .invokevirtual 347, 4, 0, 1160, 1, 0, [(0, 1551), (0, 1553), (0, 69), (0, 81), (0, 1554)]), (4, .aload_n 0, 5, 0, 0, 0, 0, []), (5, .iconst 1, 6, 1, 0, 0, 0, []), (6, .putfield 221, 9, 0, 11, 0, 0, [(0, 1077)]), (9, .aload_n 0, 10, 0, 0, 0, 0, []), (10, .iload_n 1, 11, 0, 1, 0, 0, []), (11, .putfield 164, 14, 0, 11, 59, 0, [(0, 1136)]), (14, .aload_n 0, 15, 0, 0, 0, 0, []), (15, .dup, 16, 0, 0, 0, 0, []), (16, .getfield 207, 19, 0, 11, 60, 0, [(0, 1137)]), (19, .iconst 1, 20, 1, 0, 0, 0, []), (20, .iadd, 21, 0, 0, 0, 0, []), (21, .putfield 207, 24, 0, 11, 60, 0, [(0, 1137)]), (24, .iconst 0, 25, 0, 0, 0, 0, []), (25, .istore_n 3, 26, 0, 3, 0, 0, [])]),
 (51, [(26, .iload_n 3, 27, 0, 3, 0, 0, []), (27, .aload_n 0, 28, 0, 0, 0, 0, []), (28, .getfield 350, 31, 0, 11, 55, 0, [(0, 1132)]), (31, .if_icmp .ge 48, 34, 0, 79, 0, 0, []), (34, .iload_n 2, 35, 0, 2, 0, 0, []), (35, .iload_n 3, 36, 0, 3, 0, 0, []), (36, .ishr, 37, 0, 0, 0, 0, []), (37, .iconst 1, 38, 1, 0, 0, 0, []), (38, .iand, 39, 0, 0, 0, 0, []), (39, .iconst 1, 40, 1, 0, 0, 0, []), (40, .if_icmp .ne 33, 43, 0, 73, 0, 0, []), (43, .aload_n 0, 44, 0, 0, 0, 0, []), (44, .getfield 49, 47, 0, 11, 16, 2, [(0, 1093)]), (47, .sipush 150, 50, 150, 0, 0, 0, []), (50, .aload_n 0, 51, 0, 0, 0, 0, []), (51, .getfield 155, 54, 0, 11, 56, 2, [(0, 1133)])]),
 (73, [(54, .iload_n 3, 55, 0, 3, 0, 0, []), (55, .iaload, 56, 0, 0, 0, 0, []), (56, .iconst 5, 57, 5, 0, 0, 0, []), (57, .imul, 58, 0, 0, 0, 0, []), (58, .iadd, 59, 0, 0, 0, 0, []), (59, .aload_n 0, 60, 0, 0, 0, 0, []), (60, .getfield 158, 63, 0, 11, 57, 2, [(0, 1134)]), (63, .iload_n 3, 64, 0, 3, 0, 0, []), (64, .iaload, 65, 0, 0, 0, 0, []), (65, .iadd, 66, 0, 0, 0, 0, []), (66, .aload_n 0, 67, 0, 0, 0, 0, []), (67, .getfield 161, 70, 0, 11, 58, 2, [(0, 1135)]), (70, .iload_n 3, 71, 0, 3, 0, 0, []), (71, .iaload, 72, 0, 0, 0, 0, []), (72, .iastore, 73, 0, 0, 0, 0, []), (73, .iinc 3 1, 76, 1, 3, 0, 0, [])]),
 (103, [(76, .goto (-50), 79, 0, 26, 0, 0, []), (79, .iconst 0, 80, 0, 0, 0, 0, []), (80, .istore_n 3, 81, 0, 3, 0, 0, []), (81, .iconst 0, 82, 0, 0, 0, 0, []), (82, .istore 4, 84, 0, 4, 0, 0, []), (84, .iload 4, 86, 0, 4, 0, 0, []), (86, .aload_n 0, 87, 0, 0, 0, 0, []), (87, .getfield 188, 90, 0, 11, 2, 0, [(0, 1079)]), (90, .if_icmp .ge 22, 93, 0, 112, 0, 0, []), (93, .iload_n 3, 94, 0, 3, 0, 0, []), (94, .aload_n 0, 95, 0, 0, 0, 0, []), (95, .getfield 31, 98, 0, 11, 9, 2, [(0, 1086)]), (98, .bipush 20, 100, 20, 0, 0, 0, []), (100, .iload 4, 102, 0, 4, 0, 0, []), (102, .iadd, 103, 0, 0, 0, 0, []), (103, .iaload, 104, 0, 0, 0, 0, [])]),
 (132, [(104, .iadd, 105, 0, 0, 0, 0, []), (105, .istore_n 3, 106, 0, 3, 0, 0, []), (106, .iinc 4 1, 109, 1, 4, 0, 0, []), (109, .goto (-25), 112, 0, 84, 0, 0, []), (112, .aload_n 0, 113, 0, 0, 0, 0, []), (113, .iconst 0, 114, 0, 0, 0, 0, []), (114, .putfield 353, 117, 0, 11, 68, 0, [(0, 1145)]), (117, .aload_n 0, 118, 0, 0, 0, 0, []), (118, .iconst 0, 119, 0, 0, 0, 0, []), (119, .putfield 356, 122, 0, 11, 69, 0, [(0, 1146)]), (122, .aload_n 0, 123, 0, 0, 0, 0, []), (123, .bipush (-9), 125, (-9), 0, 0, 0, []), (125, .putfield 359, 128, 0, 11, 70, 0, [(0, 1147)]), (128, .aload_n 0, 129, 0, 0, 0, 0, []), (129, .getfield 353, 132, 0, 11, 68, 0, [(0, 1145)]), (132, .sipush 300, 135, 300, 0, 0, 0, [])]),
 (163, [(135, .if_icmp .ge 85, 138, 0, 220, 0, 0, []), (138, .aload_n 0, 139, 0, 0, 0, 0, []), (139, .invokevirtual 362, 142, 0, 1161, 1, 1, [(0, 1555), (0, 1557), (0, 70), (0, 81), (0, 1558)]), (142, .ifCond .ne 78, 145, 0, 220, 0, 0, []), (145, .aload_n 0, 146, 0, 0, 0, 0, []), (146, .invokevirtual 287, 149, 0, 1132, 1, 1, [(0, 1397), (0, 1399), (0, 43), (0, 81), (0, 1400)]), (149, .pop, 150, 0, 0, 0, 0, []), (150, .aload_n 0, 151, 0, 0, 0, 0, []), (151, .dup, 152, 0, 0, 0, 0, []), (152, .getfield 353, 155, 0, 11, 68, 0, [(0, 1145)]), (155, .iconst 1, 156, 1, 0, 0, 0, []), (156, .iadd, 157, 0, 0, 0, 0, []), (157, .putfield 353, 160, 0, 11, 68, 0, [(0, 1145)]), (160, .iconst 0, 161, 0, 0, 0, 0, []), (161, .istore 4, 163, 0, 4, 0, 0, []), (163, .iload 4, 165, 0, 4, 0, 0, [])]),
 (197, [(165, .aload_n 0, 166, 0, 0, 0, 0, []), (166, .getfield 188, 169, 0, 11, 2, 0, [(0, 1079)]), (169, .if_icmp .ge 48, 172, 0, 217, 0, 0, []), (172, .aload_n 0, 173, 0, 0, 0, 0, []), (173, .getfield 359, 176, 0, 11, 70, 0, [(0, 1147)]), (176, .ifCond .lt 19, 179, 0, 195, 0, 0, []), (179, .aload_n 0, 180, 0, 0, 0, 0, []), (180, .iload 4, 182, 0, 4, 0, 0, []), (182, .invokevirtual 231, 185, 0, 1115, 2, 1, [(0, 1341), (0, 1343), (0, 35), (0, 81), (0, 1344)]), (185, .aload_n 0, 186, 0, 0, 0, 0, []), (186, .getfield 356, 189, 0, 11, 69, 0, [(0, 1146)]), (189, .if_icmp .gt 6, 192, 0, 195, 0, 0, []), (192, .goto 19, 195, 0, 211, 0, 0, []), (195, .aload_n 0, 196, 0, 0, 0, 0, []), (196, .aload_n 0, 197, 0, 0, 0, 0, []), (197, .iload 4, 199, 0, 4, 0, 0, [])]),
 (234, [(199, .invokevirtual 231, 202, 0, 1115, 2, 1, [(0, 1341), (0, 1343), (0, 35), (0, 81), (0, 1344)]), (202, .putfield 356, 205, 0, 11, 69, 0, [(0, 1146)]), (205, .aload_n 0, 206, 0, 0, 0, 0, []), (206, .iload 4, 208, 0, 4, 0, 0, []), (208, .putfield 359, 211, 0, 11, 70, 0, [(0, 1147)]), (211, .iinc 4 1, 214, 1, 4, 0, 0, []), (214, .goto (-51), 217, 0, 163, 0, 0, []), (217, .goto (-89), 220, 0, 128, 0, 0, []), (220, .aload_n 0, 221, 0, 0, 0, 0, []), (221, .invokevirtual 362, 224, 0, 1161, 1, 1, [(0, 1555), (0, 1557), (0, 70), (0, 81), (0, 1558)]), (224, .ifCond .ne 9, 227, 0, 233, 0, 0, []), (227, .aload_n 0, 228, 0, 0, 0, 0, []), (228, .bipush (-9), 230, (-9), 0, 0, 0, []), (230, .putfield 353, 233, 0, 11, 68, 0, [(0, 1145)]), (233, .aload_n 0, 234, 0, 0, 0, 0, []), (234, .iload_n 3, 235, 0, 3, 0, 0, [])]),
 (264, [(235, .ineg, 236, 0, 0, 0, 0, []), (236, .putfield 366, 239, 0, 11, 71, 0, [(0, 1148)]), (239, .iconst 0, 240, 0, 0, 0, 0, []), (240, .istore 4, 242, 0, 4, 0, 0, []), (242, .iload 4, 244, 0, 4, 0, 0, []), (244, .aload_n 0, 245, 0, 0, 0, 0, []), (245, .getfield 188, 248, 0, 11, 2, 0, [(0, 1079)]), (248, .if_icmp .ge 28, 251, 0, 276, 0, 0, []), (251, .aload_n 0, 252, 0, 0, 0, 0, []), (252, .dup, 253, 0, 0, 0, 0, []), (253, .getfield 366, 256, 0, 11, 71, 0, [(0, 1148)]), (256, .aload_n 0, 257, 0, 0, 0, 0, []), (257, .getfield 31, 260, 0, 11, 9, 2, [(0, 1086)]), (260, .bipush 20, 262, 20, 0, 0, 0, []), (262, .iload 4, 264, 0, 4, 0, 0, []), (264, .iadd, 265, 0, 0, 0, 0, [])]),
 (292, [(265, .iaload, 266, 0, 0, 0, 0, []), (266, .iadd, 267, 0, 0, 0, 0, []), (267, .putfield 366, 270, 0, 11, 71, 0, [(0, 1148)]), (270, .iinc 4 1, 273, 1, 4, 0, 0, []), (273, .goto (-31), 276, 0, 242, 0, 0, []), (276, .aload_n 0, 277, 0, 0, 0, 0, []), (277, .iconst 0, 278, 0, 0, 0, 0, []), (278, .putfield 221, 281, 0, 11, 0, 0, [(0, 1077)]), (281, .aload_n 0, 282, 0, 0, 0, 0, []), (282, .iconst (-1), 283, (-1), 0, 0, 0, []), (283, .putfield 164, 286, 0, 11, 59, 0, [(0, 1136)]), (286, .aload_n 0, 287, 0, 0, 0, 0, []), (287, .dup, 288, 0, 0, 0, 0, []), (288, .getfield 207, 291, 0, 11, 60, 0, [(0, 1137)]), (291, .iconst 1, 292, 1, 0, 0, 0, []), (292, .iadd, 293, 0, 0, 0, 0, [])]),
 (296, [(293, .putfield 207, 296, 0, 11, 60, 0, [(0, 1137)]), (296, .return_, 297, 0, 0, 0, 0, [])])]
def tb_M_out : List (Nat × List (Nat × am_X)) := [
 (25, [(0, .iload_n 1, 1, 0, 1, 0, 0, []), (1, .iconst (-1), 2, (-1), 0, 0, 0, []), (2, .if_icmp .eq 17, 5, 0, 19, 0, 0, []), (5, .aload_n 0, 6, 0, 0, 0, 0, []), (6, .iload_n 1, 7, 0, 1, 0, 0, []), (7, .invokevirtual 214, 10, 0, 1103, 2, 1, [(0, 1329), (0, 1331), (0, 33), (0, 81), (0, 1332)]), (10, .ifCond .ne 9, 13, 0, 19, 0, 0, []), (13, .aload_n 0, 14, 0, 0, 0, 0, []), (14, .iconst (-1), 15, (-1), 0, 0, 0, []), (15, .invokevirtual 203, 18, 0, 1101, 2, 1, [(0, 1309), (0, 1311), (0, 30), (0, 81), (0, 1312)]), (18, .ireturn, 19, 0, 0, 0, 0, []), (19, .iload_n 2, 20, 0, 2, 0, 0, []), (20, .ifCond .lt 8, 23, 0, 28, 0, 0, []), (23, .iload_n 2, 24, 0, 2, 0, 0, []), (24, .iconst 3, 25, 3, 0, 0, 0, []), (25, .if_icmp .le 10, 28, 0, 35, 0, 0, [])]),
 (54, [(28, .aload_n 0, 29, 0, 0, 0, 0, []), (29, .bipush (-2), 31, (-2), 0, 0, 0, []), (31, .invokevirtual 203, 34, 0, 1101, 2, 1, [(0, 1309), (0, 1311), (0, 30), (0, 81), (0, 1312)]), (34, .ireturn, 35, 0, 0, 0, 0, []), (35, .aload_n 0, 36, 0, 0, 0, 0, []), (36, .iload_n 1, 37, 0, 1, 0, 0, []), (37, .iconst 0, 38, 0, 0, 0, 0, []), (38, .invokevirtual 369, 41, 0, 1162, 3, 0, [(0, 1547), (0, 1549), (0, 68), (0, 81), (0, 1550)]), (41, .iload_n 2, 42, 0, 2, 0, 0, []), (42, .ifCond .ne 10, 45, 0, 52, 0, 0, []), (45, .aload_n 0, 46, 0, 0, 0, 0, []), (46, .getfield 353, 49, 0, 11, 68, 0, [(0, 1145)]), (49, .goto 31, 52, 0, 80, 0, 0, []), (52, .iload_n 2, 53, 0, 2, 0, 0, []), (53, .iconst 1, 54, 1, 0, 0, 0, []), (54, .if_icmp .ne 10, 57, 0, 64, 0, 0, [])]),
 (80, [(57, .aload_n 0, 58, 0, 0, 0, 0, []), (58, .getfield 356, 61, 0, 11, 69, 0, [(0, 1146)]), (61, .goto 19, 64, 0, 80, 0, 0, []), (64, .iload_n 2, 65, 0, 2, 0, 0, []), (65, .iconst 2, 66, 2, 0, 0, 0, []), (66, .if_icmp .ne 10, 69, 0, 76, 0, 0, []), (69, .aload_n 0, 70, 0, 0, 0, 0, []), (70, .getfield 359, 73, 0, 11, 70, 0, [(0, 1147)]), (73, .goto 7, 76, 0, 80, 0, 0, []), (76, .aload_n 0, 77, 0, 0, 0, 0, []), (77, .getfield 366, 80, 0, 11, 71, 0, [(0, 1148)]), (80, .ireturn, 81, 0, 0, 0, 0, [])])]
def tb_M_worst : List (Nat × List (Nat × am_X)) := [
 (26, [(0, .iload_n 1, 1, 0, 1, 0, 0, []), (1, .ifCond .lt 8, 4, 0, 9, 0, 0, []), (4, .iload_n 1, 5, 0, 1, 0, 0, []), (5, .iconst 2, 6, 2, 0, 0, 0, []), (6, .if_icmp .le 10, 9, 0, 16, 0, 0, []), (9, .aload_n 0, 10, 0, 0, 0, 0, []), (10, .bipush (-2), 12, (-2), 0, 0, 0, []), (12, .invokevirtual 203, 15, 0, 1101, 2, 1, [(0, 1309), (0, 1311), (0, 30), (0, 81), (0, 1312)]), (15, .ireturn, 16, 0, 0, 0, 0, []), (16, .bipush (-9), 18, (-9), 0, 0, 0, []), (18, .istore_n 2, 19, 0, 2, 0, 0, []), (19, .bipush (-9), 21, (-9), 0, 0, 0, []), (21, .istore_n 3, 22, 0, 3, 0, 0, []), (22, .bipush (-9), 24, (-9), 0, 0, 0, []), (24, .istore 4, 26, 0, 4, 0, 0, []), (26, .iconst 0, 27, 0, 0, 0, 0, [])]),
 (59, [(27, .istore 5, 29, 0, 5, 0, 0, []), (29, .iload 5, 31, 0, 5, 0, 0, []), (31, .aload_n 0, 32, 0, 0, 0, 0, []), (32, .getfield 191, 35, 0, 11, 12, 0, [(0, 1089)]), (35, .if_icmp .ge 92, 38, 0, 127, 0, 0, []), (38, .aload_n 0, 39, 0, 0, 0, 0, []), (39, .iload 5, 41, 0, 5, 0, 0, []), (41, .iconst 0, 42, 0, 0, 0, 0, []), (42, .invokevirtual 369, 45, 0, 1162, 3, 0, [(0, 1547), (0, 1549), (0, 68), (0, 81), (0, 1550)]), (45, .aload_n 0, 46, 0, 0, 0, 0, []), (46, .getfield 353, 49, 0, 11, 68, 0, [(0, 1145)]), (49, .ifCond .ge 9, 52, 0, 58, 0, 0, []), (52, .sipush 1000, 55, 1000, 0, 0, 0, []), (55, .goto 7, 58, 0, 62, 0, 0, []), (58, .aload_n 0, 59, 0, 0, 0, 0, []), (59, .getfield 353, 62, 0, 11, 68, 0, [(0, 1145)])]),
 (95, [(62, .istore 6, 64, 0, 6, 0, 0, []), (64, .iload_n 3, 65, 0, 3, 0, 0, []), (65, .ifCond .ge 9, 68, 0, 74, 0, 0, []), (68, .sipush 1000, 71, 1000, 0, 0, 0, []), (71, .goto 4, 74, 0, 75, 0, 0, []), (74, .iload_n 3, 75, 0, 3, 0, 0, []), (75, .istore 7, 77, 0, 7, 0, 0, []), (77, .iload_n 2, 78, 0, 2, 0, 0, []), (78, .ifCond .lt 29, 81, 0, 107, 0, 0, []), (81, .iload 6, 83, 0, 6, 0, 0, []), (83, .iload 7, 85, 0, 7, 0, 0, []), (85, .if_icmp .lt 36, 88, 0, 121, 0, 0, []), (88, .iload 6, 90, 0, 6, 0, 0, []), (90, .iload 7, 92, 0, 7, 0, 0, []), (92, .if_icmp .ne 15, 95, 0, 107, 0, 0, []), (95, .aload_n 0, 96, 0, 0, 0, 0, [])]),
 (128, [(96, .getfield 356, 99, 0, 11, 69, 0, [(0, 1146)]), (99, .iload 4, 101, 0, 4, 0, 0, []), (101, .if_icmp .gt 6, 104, 0, 107, 0, 0, []), (104, .goto 17, 107, 0, 121, 0, 0, []), (107, .iload 5, 109, 0, 5, 0, 0, []), (109, .istore_n 2, 110, 0, 2, 0, 0, []), (110, .aload_n 0, 111, 0, 0, 0, 0, []), (111, .getfield 353, 114, 0, 11, 68, 0, [(0, 1145)]), (114, .istore_n 3, 115, 0, 3, 0, 0, []), (115, .aload_n 0, 116, 0, 0, 0, 0, []), (116, .getfield 356, 119, 0, 11, 69, 0, [(0, 1146)]), (119, .istore 4, 121, 0, 4, 0, 0, []), (121, .iinc 5 1, 124, 1, 5, 0, 0, []), (124, .goto (-95), 127, 0, 29, 0, 0, []), (127, .iload_n 1, 128, 0, 1, 0, 0, []), (128, .ifCond .ne 7, 131, 0, 135, 0, 0, [])]),
 (146, [(131, .iload_n 2, 132, 0, 2, 0, 0, []), (132, .goto 14, 135, 0, 146, 0, 0, []), (135, .iload_n 1, 136, 0, 1, 0, 0, []), (136, .iconst 1, 137, 1, 0, 0, 0, []), (137, .if_icmp .ne 7, 140, 0, 144, 0, 0, []), (140, .iload_n 3, 141, 0, 3, 0, 0, []), (141, .goto 5, 144, 0, 146, 0, 0, []), (144, .iload 4, 146, 0, 4, 0, 0, []), (146, .ireturn, 147, 0, 0, 0, 0, [])])]
def tb_M_option : List (Nat × List (Nat × am_X)) := [
 (26, [(0, .aload_n 0, 1, 0, 0, 0, 0, []), (1, .iload_n 1, 2, 0, 1, 0, 0, []), (2, .iload_n 2, 3, 0, 2, 0, 0, []), (3, .iload_n 3, 4, 0, 3, 0, 0, []), (4, .invokevirtual 217, 7, 0, 1109, 4, 1, [(0, 1325), (0, 1327), (0, 32), (0, 81), (0, 1328)]), (7, .istore 4, 9, 0, 4, 0, 0, []), (9, .iload 4, 11, 0, 4, 0, 0, []), (11, .ifCond .ge 10, 14, 0, 21, 0, 0, []), (14, .aload_n 0, 15, 0, 0, 0, 0, []), (15, .iload 4, 17, 0, 4, 0, 0, []), (17, .invokevirtual 203, 20, 0, 1101, 2, 1, [(0, 1309), (0, 1311), (0, 30), (0, 81), (0, 1312)]), (20, .ireturn, 21, 0, 0, 0, 0, []), (21, .aload_n 0, 22, 0, 0, 0, 0, []), (22, .getfield 350, 25, 0, 11, 55, 0, [(0, 1132)]), (25, .iconst 4, 26, 4, 0, 0, 0, []), (26, .if_icmp .ne 10, 29, 0, 36, 0, 0, [])]),
 (55, [(29, .aload_n 0, 30, 0, 0, 0, 0, []), (30, .bipush (-6), 32, (-6), 0, 0, 0, []), (32, .invokevirtual 203, 35, 0, 1101, 2, 1, [(0, 1309), (0, 1311), (0, 30), (0, 81), (0, 1312)]), (35, .ireturn, 36, 0, 0, 0, 0, []), (36, .aload_n 0, 37, 0, 0, 0, 0, []), (37, .getfield 155, 40, 0, 11, 56, 2, [(0, 1133)]), (40, .aload_n 0, 41, 0, 0, 0, 0, []), (41, .getfield 350, 44, 0, 11, 55, 0, [(0, 1132)]), (44, .iload_n 1, 45, 0, 1, 0, 0, []), (45, .iastore, 46, 0, 0, 0, 0, []), (46, .aload_n 0, 47, 0, 0, 0, 0, []), (47, .getfield 158, 50, 0, 11, 57, 2, [(0, 1134)]), (50, .aload_n 0, 51, 0, 0, 0, 0, []), (51, .getfield 350, 54, 0, 11, 55, 0, [(0, 1132)]), (54, .iload_n 2, 55, 0, 2, 0, 0, []), (55, .iastore, 56, 0, 0, 0, 0, [])]),
 (81, [(56, .aload_n 0, 57, 0, 0, 0, 0, []), (57, .getfield 161, 60, 0, 11, 58, 2, [(0, 1135)]), (60, .aload_n 0, 61, 0, 0, 0, 0, []), (61, .getfield 350, 64, 0, 11, 55, 0, [(0, 1132)]), (64, .iload_n 3, 65, 0, 3, 0, 0, []), (65, .iastore, 66, 0, 0, 0, 0, []), (66, .aload_n 0, 67, 0, 0, 0, 0, []), (67, .dup, 68, 0, 0, 0, 0, []), (68, .getfield 350, 71, 0, 11, 55, 0, [(0, 1132)]), (71, .iconst 1, 72, 1, 0, 0, 0, []), (72, .iadd, 73, 0, 0, 0, 0, []), (73, .putfield 350, 76, 0, 11, 55, 0, [(0, 1132)]), (76, .aload_n 0, 77, 0, 0, 0, 0, []), (77, .getfield 350, 80, 0, 11, 55, 0, [(0, 1132)]), (80, .iconst 1, 81, 1, 0, 0, 0, []), (81, .isub, 82, 0, 0, 0, 0, [])]),
 (82, [(82, .ireturn, 83, 0, 0, 0, 0, [])])]
def tb_M_sizeOf : List (Nat × List (Nat × am_X)) := [
 (17, [(0, .iconst 0, 1, 0, 0, 0, 0, []), (1, .istore_n 2, 2, 0, 2, 0, 0, []), (2, .iconst 0, 3, 0, 0, 0, 0, []), (3, .istore_n 3, 4, 0, 3, 0, 0, []), (4, .iload_n 3, 5, 0, 3, 0, 0, []), (5, .iconst 4, 6, 4, 0, 0, 0, []), (6, .if_icmp .ge 17, 9, 0, 23, 0, 0, []), (9, .iload_n 2, 10, 0, 2, 0, 0, []), (10, .iload_n 1, 11, 0, 1, 0, 0, []), (11, .iload_n 3, 12, 0, 3, 0, 0, []), (12, .ishr, 13, 0, 0, 0, 0, []), (13, .iconst 1, 14, 1, 0, 0, 0, []), (14, .iand, 15, 0, 0, 0, 0, []), (15, .iadd, 16, 0, 0, 0, 0, []), (16, .istore_n 2, 17, 0, 2, 0, 0, []), (17, .iinc 3 1, 20, 1, 3, 0, 0, [])]),
 (24, [(20, .goto (-16), 23, 0, 4, 0, 0, []), (23, .iload_n 2, 24, 0, 2, 0, 0, []), (24, .ireturn, 25, 0, 0, 0, 0, [])])]
def tb_M_bears : List (Nat × List (Nat × am_X)) := [
 (29, [(0, .aload_n 0, 1, 0, 0, 0, 0, []), (1, .iconst 0, 2, 0, 0, 0, 0, []), (2, .putfield 372, 5, 0, 11, 73, 0, [(0, 1150)]), (5, .aload_n 0, 6, 0, 0, 0, 0, []), (6, .iconst 0, 7, 0, 0, 0, 0, []), (7, .putfield 375, 10, 0, 11, 74, 0, [(0, 1151)]), (10, .iconst (-1), 11, (-1), 0, 0, 0, []), (11, .istore 4, 13, 0, 4, 0, 0, []), (13, .iload 4, 15, 0, 4, 0, 0, []), (15, .aload_n 0, 16, 0, 0, 0, 0, []), (16, .getfield 191, 19, 0, 11, 12, 0, [(0, 1089)]), (19, .if_icmp .ge 86, 22, 0, 105, 0, 0, []), (22, .iload 4, 24, 0, 4, 0, 0, []), (24, .bipush 6, 26, 6, 0, 0, 0, []), (26, .if_icmp .ge 79, 29, 0, 105, 0, 0, []), (29, .aload_n 0, 30, 0, 0, 0, 0, [])]),
 (60, [(30, .iload 4, 32, 0, 4, 0, 0, []), (32, .iload_n 1, 33, 0, 1, 0, 0, []), (33, .invokevirtual 369, 36, 0, 1162, 3, 0, [(0, 1547), (0, 1549), (0, 68), (0, 81), (0, 1550)]), (36, .aload_n 0, 37, 0, 0, 0, 0, []), (37, .getfield 353, 40, 0, 11, 68, 0, [(0, 1145)]), (40, .ifCond .lt 19, 43, 0, 59, 0, 0, []), (43, .aload_n 0, 44, 0, 0, 0, 0, []), (44, .getfield 353, 47, 0, 11, 68, 0, [(0, 1145)]), (47, .iload_n 2, 48, 0, 2, 0, 0, []), (48, .if_icmp .gt 11, 51, 0, 59, 0, 0, []), (51, .aload_n 0, 52, 0, 0, 0, 0, []), (52, .getfield 356, 55, 0, 11, 69, 0, [(0, 1146)]), (55, .iload_n 3, 56, 0, 3, 0, 0, []), (56, .if_icmp .le 5, 59, 0, 61, 0, 0, []), (59, .iconst 0, 60, 0, 0, 0, 0, []), (60, .ireturn, 61, 0, 0, 0, 1, [])]),
 (92, [(61, .aload_n 0, 62, 0, 0, 0, 0, []), (62, .getfield 353, 65, 0, 11, 68, 0, [(0, 1145)]), (65, .aload_n 0, 66, 0, 0, 0, 0, []), (66, .getfield 372, 69, 0, 11, 73, 0, [(0, 1150)]), (69, .if_icmp .le 11, 72, 0, 80, 0, 0, []), (72, .aload_n 0, 73, 0, 0, 0, 0, []), (73, .aload_n 0, 74, 0, 0, 0, 0, []), (74, .getfield 353, 77, 0, 11, 68, 0, [(0, 1145)]), (77, .putfield 372, 80, 0, 11, 73, 0, [(0, 1150)]), (80, .aload_n 0, 81, 0, 0, 0, 0, []), (81, .getfield 356, 84, 0, 11, 69, 0, [(0, 1146)]), (84, .aload_n 0, 85, 0, 0, 0, 0, []), (85, .getfield 375, 88, 0, 11, 74, 0, [(0, 1151)]), (88, .if_icmp .le 11, 91, 0, 99, 0, 0, []), (91, .aload_n 0, 92, 0, 0, 0, 0, []), (92, .aload_n 0, 93, 0, 0, 0, 0, [])]),
 (106, [(93, .getfield 356, 96, 0, 11, 69, 0, [(0, 1146)]), (96, .putfield 375, 99, 0, 11, 74, 0, [(0, 1151)]), (99, .iinc 4 1, 102, 1, 4, 0, 0, []), (102, .goto (-89), 105, 0, 13, 0, 0, []), (105, .iconst 1, 106, 1, 0, 0, 0, []), (106, .ireturn, 107, 0, 0, 0, 1, [])])]
def tb_M_design : List (Nat × List (Nat × am_X)) := [
 (26, [(0, .iload_n 3, 1, 0, 3, 0, 0, []), (1, .ifCond .lt 8, 4, 0, 9, 0, 0, []), (4, .iload_n 3, 5, 0, 3, 0, 0, []), (5, .iconst 3, 6, 3, 0, 0, 0, []), (6, .if_icmp .le 10, 9, 0, 16, 0, 0, []), (9, .aload_n 0, 10, 0, 0, 0, 0, []), (10, .bipush (-2), 12, (-2), 0, 0, 0, []), (12, .invokevirtual 203, 15, 0, 1101, 2, 1, [(0, 1309), (0, 1311), (0, 30), (0, 81), (0, 1312)]), (15, .ireturn, 16, 0, 0, 0, 0, []), (16, .iload_n 1, 17, 0, 1, 0, 0, []), (17, .iconst 1, 18, 1, 0, 0, 0, []), (18, .if_icmp .lt 8, 21, 0, 26, 0, 0, []), (21, .iload_n 2, 22, 0, 2, 0, 0, []), (22, .iconst 1, 23, 1, 0, 0, 0, []), (23, .if_icmp .ge 10, 26, 0, 33, 0, 0, []), (26, .aload_n 0, 27, 0, 0, 0, 0, [])]),
 (57, [(27, .bipush (-4), 29, (-4), 0, 0, 0, []), (29, .invokevirtual 203, 32, 0, 1101, 2, 1, [(0, 1309), (0, 1311), (0, 30), (0, 81), (0, 1312)]), (32, .ireturn, 33, 0, 0, 0, 0, []), (33, .iload_n 1, 34, 0, 1, 0, 0, []), (34, .sipush 300, 37, 300, 0, 0, 0, []), (37, .if_icmp .gt 10, 40, 0, 47, 0, 0, []), (40, .iload_n 2, 41, 0, 2, 0, 0, []), (41, .sipush 999, 44, 999, 0, 0, 0, []), (44, .if_icmp .le 10, 47, 0, 54, 0, 0, []), (47, .aload_n 0, 48, 0, 0, 0, 0, []), (48, .bipush (-6), 50, (-6), 0, 0, 0, []), (50, .invokevirtual 203, 53, 0, 1101, 2, 1, [(0, 1309), (0, 1311), (0, 30), (0, 81), (0, 1312)]), (53, .ireturn, 54, 0, 0, 0, 0, []), (54, .iconst 0, 55, 0, 0, 0, 0, []), (55, .istore 4, 57, 0, 4, 0, 0, []), (57, .iload 4, 59, 0, 4, 0, 0, [])]),
 (88, [(59, .aload_n 0, 60, 0, 0, 0, 0, []), (60, .getfield 350, 63, 0, 11, 55, 0, [(0, 1132)]), (63, .if_icmp .gt 90, 66, 0, 153, 0, 0, []), (66, .iconst 0, 67, 0, 0, 0, 0, []), (67, .istore 5, 69, 0, 5, 0, 0, []), (69, .iload 5, 71, 0, 5, 0, 0, []), (71, .iconst 1, 72, 1, 0, 0, 0, []), (72, .aload_n 0, 73, 0, 0, 0, 0, []), (73, .getfield 350, 76, 0, 11, 55, 0, [(0, 1132)]), (76, .ishl, 77, 0, 0, 0, 0, []), (77, .if_icmp .ge 70, 80, 0, 147, 0, 0, []), (80, .aload_n 0, 81, 0, 0, 0, 0, []), (81, .iload 5, 83, 0, 5, 0, 0, []), (83, .invokevirtual 378, 86, 0, 1166, 2, 1, [(0, 1571), (0, 1573), (0, 71), (0, 81), (0, 1574)]), (86, .iload 4, 88, 0, 4, 0, 0, []), (88, .if_icmp .ne 53, 91, 0, 141, 0, 0, [])]),
 (121, [(91, .aload_n 0, 92, 0, 0, 0, 0, []), (92, .iload 5, 94, 0, 5, 0, 0, []), (94, .iload_n 1, 95, 0, 1, 0, 0, []), (95, .iload_n 2, 96, 0, 2, 0, 0, []), (96, .invokevirtual 381, 99, 0, 1167, 4, 1, [(0, 1575), (0, 1577), (0, 72), (0, 81), (0, 1578)]), (99, .ifCond .ne 6, 102, 0, 105, 0, 0, []), (102, .goto 39, 105, 0, 141, 0, 0, []), (105, .iload_n 3, 106, 0, 3, 0, 0, []), (106, .ifCond .ne 8, 109, 0, 114, 0, 0, []), (109, .iload 5, 111, 0, 5, 0, 0, []), (111, .goto 29, 114, 0, 140, 0, 0, []), (114, .iload_n 3, 115, 0, 3, 0, 0, []), (115, .iconst 1, 116, 1, 0, 0, 0, []), (116, .if_icmp .ne 8, 119, 0, 124, 0, 0, []), (119, .iload 4, 121, 0, 4, 0, 0, []), (121, .goto 19, 124, 0, 140, 0, 0, [])]),
 (155, [(124, .iload_n 3, 125, 0, 3, 0, 0, []), (125, .iconst 2, 126, 2, 0, 0, 0, []), (126, .if_icmp .ne 10, 129, 0, 136, 0, 0, []), (129, .aload_n 0, 130, 0, 0, 0, 0, []), (130, .getfield 372, 133, 0, 11, 73, 0, [(0, 1150)]), (133, .goto 7, 136, 0, 140, 0, 0, []), (136, .aload_n 0, 137, 0, 0, 0, 0, []), (137, .getfield 375, 140, 0, 11, 74, 0, [(0, 1151)]), (140, .ireturn, 141, 0, 0, 0, 0, []), (141, .iinc 5 1, 144, 1, 5, 0, 0, []), (144, .goto (-75), 147, 0, 69, 0, 0, []), (147, .iinc 4 1, 150, 1, 4, 0, 0, []), (150, .goto (-93), 153, 0, 57, 0, 0, []), (153, .bipush (-9), 155, (-9), 0, 0, 0, []), (155, .ireturn, 156, 0, 0, 0, 0, [])])]
def tb_M_sumOf : List (Nat × List (Nat × am_X)) := [
 (23, [(0, .iconst 0, 1, 0, 0, 0, 0, []), (1, .istore_n 2, 2, 0, 2, 0, 0, []), (2, .iconst 0, 3, 0, 0, 0, 0, []), (3, .istore_n 3, 4, 0, 3, 0, 0, []), (4, .iload_n 3, 5, 0, 3, 0, 0, []), (5, .aload_n 0, 6, 0, 0, 0, 0, []), (6, .getfield 194, 9, 0, 11, 18, 0, [(0, 1095)]), (9, .if_icmp .ge 48, 12, 0, 57, 0, 0, []), (12, .iload_n 2, 13, 0, 2, 0, 0, []), (13, .iload_n 1, 14, 0, 1, 0, 0, []), (14, .iconst 4, 15, 4, 0, 0, 0, []), (15, .if_icmp .ne 19, 18, 0, 34, 0, 0, []), (18, .aload_n 0, 19, 0, 0, 0, 0, []), (19, .getfield 58, 22, 0, 11, 20, 2, [(0, 1097)]), (22, .iload_n 3, 23, 0, 3, 0, 0, []), (23, .iaload, 24, 0, 0, 0, 0, [])]),
 (49, [(24, .aload_n 0, 25, 0, 0, 0, 0, []), (25, .getfield 71, 28, 0, 11, 24, 2, [(0, 1101)]), (28, .iload_n 3, 29, 0, 3, 0, 0, []), (29, .iaload, 30, 0, 0, 0, 0, []), (30, .isub, 31, 0, 0, 0, 0, []), (31, .goto 18, 34, 0, 49, 0, 0, []), (34, .iload_n 1, 35, 0, 1, 0, 0, []), (35, .iconst 5, 36, 5, 0, 0, 0, []), (36, .if_icmp .ne 12, 39, 0, 48, 0, 0, []), (39, .aload_n 0, 40, 0, 0, 0, 0, []), (40, .getfield 71, 43, 0, 11, 24, 2, [(0, 1101)]), (43, .iload_n 3, 44, 0, 3, 0, 0, []), (44, .iaload, 45, 0, 0, 0, 0, []), (45, .goto 4, 48, 0, 49, 0, 0, []), (48, .iconst 0, 49, 0, 0, 0, 0, []), (49, .iadd, 50, 0, 0, 0, 0, [])]),
 (78, [(50, .istore_n 2, 51, 0, 2, 0, 0, []), (51, .iinc 3 1, 54, 1, 3, 0, 0, []), (54, .goto (-50), 57, 0, 4, 0, 0, []), (57, .iconst 0, 58, 0, 0, 0, 0, []), (58, .istore_n 3, 59, 0, 3, 0, 0, []), (59, .iload_n 3, 60, 0, 3, 0, 0, []), (60, .aload_n 0, 61, 0, 0, 0, 0, []), (61, .getfield 188, 64, 0, 11, 2, 0, [(0, 1079)]), (64, .if_icmp .ge 28, 67, 0, 92, 0, 0, []), (67, .iload_n 2, 68, 0, 2, 0, 0, []), (68, .iload_n 1, 69, 0, 1, 0, 0, []), (69, .bipush 6, 71, 6, 0, 0, 0, []), (71, .if_icmp .ne 12, 74, 0, 83, 0, 0, []), (74, .aload_n 0, 75, 0, 0, 0, 0, []), (75, .getfield 31, 78, 0, 11, 9, 2, [(0, 1086)]), (78, .iload_n 3, 79, 0, 3, 0, 0, [])]),
 (104, [(79, .iaload, 80, 0, 0, 0, 0, []), (80, .goto 4, 83, 0, 84, 0, 0, []), (83, .iconst 0, 84, 0, 0, 0, 0, []), (84, .iadd, 85, 0, 0, 0, 0, []), (85, .istore_n 2, 86, 0, 2, 0, 0, []), (86, .iinc 3 1, 89, 1, 3, 0, 0, []), (89, .goto (-30), 92, 0, 59, 0, 0, []), (92, .iconst 0, 93, 0, 0, 0, 0, []), (93, .istore_n 3, 94, 0, 3, 0, 0, []), (94, .iload_n 3, 95, 0, 3, 0, 0, []), (95, .aload_n 0, 96, 0, 0, 0, 0, []), (96, .getfield 200, 99, 0, 11, 41, 0, [(0, 1118)]), (99, .if_icmp .ge 32, 102, 0, 131, 0, 0, []), (102, .iload_n 2, 103, 0, 2, 0, 0, []), (103, .iload_n 1, 104, 0, 1, 0, 0, []), (104, .bipush 9, 106, 9, 0, 0, 0, [])]),
 (132, [(106, .if_icmp .ne 16, 109, 0, 122, 0, 0, []), (109, .aload_n 0, 110, 0, 0, 0, 0, []), (110, .getfield 124, 113, 0, 11, 44, 2, [(0, 1121)]), (113, .iload_n 3, 114, 0, 3, 0, 0, []), (114, .baload, 115, 0, 0, 0, 0, []), (115, .ifCond .eq 7, 118, 0, 122, 0, 0, []), (118, .iconst 1, 119, 1, 0, 0, 0, []), (119, .goto 4, 122, 0, 123, 0, 0, []), (122, .iconst 0, 123, 0, 0, 0, 0, []), (123, .iadd, 124, 0, 0, 0, 0, []), (124, .istore_n 2, 125, 0, 2, 0, 0, []), (125, .iinc 3 1, 128, 1, 3, 0, 0, []), (128, .goto (-34), 131, 0, 94, 0, 0, []), (131, .iload_n 2, 132, 0, 2, 0, 0, []), (132, .ireturn, 133, 0, 0, 0, 0, [])])]
def tb_M_total : List (Nat × List (Nat × am_X)) := [
 (26, [(0, .iload_n 1, 1, 0, 1, 0, 0, []), (1, .bipush 11, 3, 11, 0, 0, 0, []), (3, .if_icmp .lt 19, 6, 0, 22, 0, 0, []), (6, .iload_n 1, 7, 0, 1, 0, 0, []), (7, .bipush 16, 9, 16, 0, 0, 0, []), (9, .if_icmp .gt 13, 12, 0, 22, 0, 0, []), (12, .aload_n 0, 13, 0, 0, 0, 0, []), (13, .getfield 185, 16, 0, 11, 72, 2, [(0, 1149)]), (16, .iload_n 1, 17, 0, 1, 0, 0, []), (17, .bipush 10, 19, 10, 0, 0, 0, []), (19, .isub, 20, 0, 0, 0, 0, []), (20, .iaload, 21, 0, 0, 0, 0, []), (21, .ireturn, 22, 0, 0, 0, 0, []), (22, .iload_n 1, 23, 0, 1, 0, 0, []), (23, .ifCond .ne 10, 26, 0, 33, 0, 0, []), (26, .aload_n 0, 27, 0, 0, 0, 0, [])]),
 (52, [(27, .getfield 7, 30, 0, 11, 1, 2, [(0, 1078)]), (30, .iconst 0, 31, 0, 0, 0, 0, []), (31, .iaload, 32, 0, 0, 0, 0, []), (32, .ireturn, 33, 0, 0, 0, 0, []), (33, .iload_n 1, 34, 0, 1, 0, 0, []), (34, .iconst 1, 35, 1, 0, 0, 0, []), (35, .if_icmp .ne 8, 38, 0, 43, 0, 0, []), (38, .aload_n 0, 39, 0, 0, 0, 0, []), (39, .getfield 188, 42, 0, 11, 2, 0, [(0, 1079)]), (42, .ireturn, 43, 0, 0, 0, 0, []), (43, .iload_n 1, 44, 0, 1, 0, 0, []), (44, .iconst 2, 45, 2, 0, 0, 0, []), (45, .if_icmp .ne 8, 48, 0, 53, 0, 0, []), (48, .aload_n 0, 49, 0, 0, 0, 0, []), (49, .getfield 191, 52, 0, 11, 12, 0, [(0, 1089)]), (52, .ireturn, 53, 0, 0, 0, 0, [])]),
 (79, [(53, .iload_n 1, 54, 0, 1, 0, 0, []), (54, .iconst 3, 55, 3, 0, 0, 0, []), (55, .if_icmp .ne 8, 58, 0, 63, 0, 0, []), (58, .aload_n 0, 59, 0, 0, 0, 0, []), (59, .getfield 194, 62, 0, 11, 18, 0, [(0, 1095)]), (62, .ireturn, 63, 0, 0, 0, 0, []), (63, .iload_n 1, 64, 0, 1, 0, 0, []), (64, .iconst 4, 65, 4, 0, 0, 0, []), (65, .if_icmp .eq 20, 68, 0, 85, 0, 0, []), (68, .iload_n 1, 69, 0, 1, 0, 0, []), (69, .iconst 5, 70, 5, 0, 0, 0, []), (70, .if_icmp .eq 15, 73, 0, 85, 0, 0, []), (73, .iload_n 1, 74, 0, 1, 0, 0, []), (74, .bipush 6, 76, 6, 0, 0, 0, []), (76, .if_icmp .eq 9, 79, 0, 85, 0, 0, []), (79, .iload_n 1, 80, 0, 1, 0, 0, [])]),
 (108, [(80, .bipush 9, 82, 9, 0, 0, 0, []), (82, .if_icmp .ne 9, 85, 0, 91, 0, 0, []), (85, .aload_n 0, 86, 0, 0, 0, 0, []), (86, .iload_n 1, 87, 0, 1, 0, 0, []), (87, .invokevirtual 385, 90, 0, 1169, 2, 1, [(0, 1583), (0, 1585), (0, 73), (0, 81), (0, 1586)]), (90, .ireturn, 91, 0, 0, 0, 0, []), (91, .iload_n 1, 92, 0, 1, 0, 0, []), (92, .bipush 7, 94, 7, 0, 0, 0, []), (94, .if_icmp .ne 8, 97, 0, 102, 0, 0, []), (97, .aload_n 0, 98, 0, 0, 0, 0, []), (98, .getfield 197, 101, 0, 11, 29, 0, [(0, 1106)]), (101, .ireturn, 102, 0, 0, 0, 0, []), (102, .iload_n 1, 103, 0, 1, 0, 0, []), (103, .bipush 8, 105, 8, 0, 0, 0, []), (105, .if_icmp .ne 10, 108, 0, 115, 0, 0, []), (108, .aload_n 0, 109, 0, 0, 0, 0, [])]),
 (134, [(109, .getfield 101, 112, 0, 11, 35, 2, [(0, 1112)]), (112, .iconst 0, 113, 0, 0, 0, 0, []), (113, .iaload, 114, 0, 0, 0, 0, []), (114, .ireturn, 115, 0, 0, 0, 0, []), (115, .iload_n 1, 116, 0, 1, 0, 0, []), (116, .bipush 10, 118, 10, 0, 0, 0, []), (118, .if_icmp .ne 10, 121, 0, 128, 0, 0, []), (121, .aload_n 0, 122, 0, 0, 0, 0, []), (122, .getfield 136, 125, 0, 11, 48, 2, [(0, 1125)]), (125, .iconst 0, 126, 0, 0, 0, 0, []), (126, .iaload, 127, 0, 0, 0, 0, []), (127, .ireturn, 128, 0, 0, 0, 0, []), (128, .iload_n 1, 129, 0, 1, 0, 0, []), (129, .bipush 17, 131, 17, 0, 0, 0, []), (131, .if_icmp .ne 10, 134, 0, 141, 0, 0, []), (134, .aload_n 0, 135, 0, 0, 0, 0, [])]),
 (143, [(135, .getfield 293, 138, 0, 11, 40, 0, [(0, 1117)]), (138, .goto 5, 141, 0, 143, 0, 0, []), (141, .bipush (-9), 143, (-9), 0, 0, 0, []), (143, .ireturn, 144, 0, 0, 0, 0, [])])]
end
section
/-! printed by wip/gen_code.py: the code of CrowdOut and of what is nested in it, and of the JDK that it reaches -/
def tb_Area_init : List (Nat × List (Nat × am_X)) := [
 (24, [(0, .aload_n 0, 1, 0, 0, 0, 0, []), (1, .invokespecial 3, 4, 0, 9999, 1, 0, [(0, 400), (0, 97), (0, 98)]), (4, .aload_n 0, 5, 0, 0, 0, 0, []), (5, .bipush (-9), 7, (-9), 0, 0, 0, []), (7, .putfield 9, 10, 0, 0, 8, 0, [(0, 425)]), (10, .aload_n 0, 11, 0, 0, 0, 0, []), (11, .iload_n 1, 12, 0, 1, 0, 0, []), (12, .putfield 15, 15, 0, 0, 0, 0, [(0, 404)]), (15, .aload_n 0, 16, 0, 0, 0, 0, []), (16, .iconst 1, 17, 1, 0, 0, 0, []), (17, .iload_n 2, 18, 0, 2, 0, 0, []), (18, .invokestatic 18, 21, 0, 9996, 2, 1, [(0, 401), (0, 402), (0, 83), (0, 403)]), (21, .putfield 24, 24, 0, 0, 1, 0, [(0, 407)]), (24, .return_, 25, 0, 0, 0, 0, [])])]
def tb_Area_copyFrom : List (Nat × List (Nat × am_X)) := [
 (29, [(0, .aload_n 0, 1, 0, 0, 0, 0, []), (1, .aload_n 1, 2, 0, 1, 0, 0, []), (2, .getfield 27, 5, 0, 0, 2, 0, [(0, 410)]), (5, .putfield 27, 8, 0, 0, 2, 0, [(0, 410)]), (8, .aload_n 0, 9, 0, 0, 0, 0, []), (9, .aload_n 1, 10, 0, 1, 0, 0, []), (10, .getfield 30, 13, 0, 0, 3, 0, [(0, 413)]), (13, .putfield 30, 16, 0, 0, 3, 0, [(0, 413)]), (16, .aload_n 0, 17, 0, 0, 0, 0, []), (17, .aload_n 1, 18, 0, 1, 0, 0, []), (18, .getfield 33, 21, 0, 0, 4, 0, [(0, 415)]), (21, .putfield 33, 24, 0, 0, 4, 0, [(0, 415)]), (24, .aload_n 0, 25, 0, 0, 0, 0, []), (25, .aload_n 1, 26, 0, 1, 0, 0, []), (26, .getfield 36, 29, 0, 0, 5, 0, [(0, 417)]), (29, .putfield 36, 32, 0, 0, 5, 0, [(0, 417)])]),
 (48, [(32, .aload_n 0, 33, 0, 0, 0, 0, []), (33, .aload_n 1, 34, 0, 1, 0, 0, []), (34, .getfield 39, 37, 0, 0, 6, 0, [(0, 420)]), (37, .putfield 39, 40, 0, 0, 6, 0, [(0, 420)]), (40, .aload_n 0, 41, 0, 0, 0, 0, []), (41, .aload_n 1, 42, 0, 1, 0, 0, []), (42, .getfield 42, 45, 0, 0, 9, 1, [(0, 427)]), (45, .putfield 42, 48, 0, 0, 9, 1, [(0, 427)]), (48, .return_, 49, 0, 0, 0, 0, [])])]
def tb_Area_press : List (Nat × List (Nat × am_X)) := [
 (24, [(0, .aload_n 0, 1, 0, 0, 0, 0, []), (1, .getfield 15, 4, 0, 0, 0, 0, [(0, 404)]), (4, .iconst 3, 5, 3, 0, 0, 0, []), (5, .if_icmp .ne 7, 8, 0, 12, 0, 0, []), (8, .iconst 0, 9, 0, 0, 0, 0, []), (9, .goto 15, 12, 0, 24, 0, 0, []), (12, .bipush 100, 14, 100, 0, 0, 0, []), (14, .aload_n 0, 15, 0, 0, 0, 0, []), (15, .getfield 27, 18, 0, 0, 2, 0, [(0, 410)]), (18, .imul, 19, 0, 0, 0, 0, []), (19, .aload_n 0, 20, 0, 0, 0, 0, []), (20, .getfield 24, 23, 0, 0, 1, 0, [(0, 407)]), (23, .idiv, 24, 0, 0, 0, 0, []), (24, .ireturn, 25, 0, 0, 0, 0, [])])]
def tb_Area_seeTight : List (Nat × List (Nat × am_X)) := [
 (28, [(0, .aload_n 0, 1, 0, 0, 0, 0, []), (1, .getfield 15, 4, 0, 0, 0, 0, [(0, 404)]), (4, .iconst 3, 5, 3, 0, 0, 0, []), (5, .if_icmp .eq 23, 8, 0, 28, 0, 0, []), (8, .bipush 100, 10, 100, 0, 0, 0, []), (10, .aload_n 0, 11, 0, 0, 0, 0, []), (11, .getfield 27, 14, 0, 0, 2, 0, [(0, 410)]), (14, .imul, 15, 0, 0, 0, 0, []), (15, .aload_n 0, 16, 0, 0, 0, 0, []), (16, .getfield 24, 19, 0, 0, 1, 0, [(0, 407)]), (19, .idiv, 20, 0, 0, 0, 0, []), (20, .iload_n 1, 21, 0, 1, 0, 0, []), (21, .if_icmp .lt 7, 24, 0, 28, 0, 0, []), (24, .iconst 1, 25, 1, 0, 0, 0, []), (25, .goto 4, 28, 0, 29, 0, 0, []), (28, .iconst 0, 29, 0, 0, 0, 0, [])]),
 (50, [(29, .istore_n 2, 30, 0, 2, 0, 0, []), (30, .iload_n 2, 31, 0, 2, 0, 0, []), (31, .aload_n 0, 32, 0, 0, 0, 0, []), (32, .getfield 42, 35, 0, 0, 9, 1, [(0, 427)]), (35, .if_icmp .eq 7, 38, 0, 42, 0, 0, []), (38, .iconst 1, 39, 1, 0, 0, 0, []), (39, .goto 4, 42, 0, 43, 0, 0, []), (42, .iconst 0, 43, 0, 0, 0, 0, []), (43, .istore_n 3, 44, 0, 3, 0, 0, []), (44, .aload_n 0, 45, 0, 0, 0, 0, []), (45, .iload_n 2, 46, 0, 2, 0, 0, []), (46, .putfield 42, 49, 0, 0, 9, 1, [(0, 427)]), (49, .iload_n 3, 50, 0, 3, 0, 0, []), (50, .ireturn, 51, 0, 0, 0, 1, [])])]
def tb_Area_roomLeft : List (Nat × List (Nat × am_X)) := [
 (27, [(0, .aload_n 0, 1, 0, 0, 0, 0, []), (1, .getfield 15, 4, 0, 0, 0, 0, [(0, 404)]), (4, .iconst 3, 5, 3, 0, 0, 0, []), (5, .if_icmp .ne 8, 8, 0, 13, 0, 0, []), (8, .ldc 48, 10, 2147483647, 0, 0, 0, [(0, 730)]), (10, .goto 22, 13, 0, 32, 0, 0, []), (13, .aload_n 0, 14, 0, 0, 0, 0, []), (14, .getfield 24, 17, 0, 0, 1, 0, [(0, 407)]), (17, .iload_n 1, 18, 0, 1, 0, 0, []), (18, .imul, 19, 0, 0, 0, 0, []), (19, .bipush 100, 21, 100, 0, 0, 0, []), (21, .idiv, 22, 0, 0, 0, 0, []), (22, .aload_n 0, 23, 0, 0, 0, 0, []), (23, .getfield 27, 26, 0, 0, 2, 0, [(0, 410)]), (26, .isub, 27, 0, 0, 0, 0, []), (27, .aload_n 0, 28, 0, 0, 0, 0, [])]),
 (32, [(28, .getfield 30, 31, 0, 0, 3, 0, [(0, 413)]), (31, .isub, 32, 0, 0, 0, 0, []), (32, .ireturn, 33, 0, 0, 0, 0, [])])]
def tb_Area_fall : List (Nat × List (Nat × am_X)) := [
 (26, [(0, .aload_n 0, 1, 0, 0, 0, 0, []), (1, .iload_n 1, 2, 0, 1, 0, 0, []), (2, .bipush 120, 4, 120, 0, 0, 0, []), (4, .if_icmp .lt 12, 7, 0, 16, 0, 0, []), (7, .aload_n 0, 8, 0, 0, 0, 0, []), (8, .getfield 36, 11, 0, 0, 5, 0, [(0, 417)]), (11, .iconst 1, 12, 1, 0, 0, 0, []), (12, .iadd, 13, 0, 0, 0, 0, []), (13, .goto 4, 16, 0, 17, 0, 0, []), (16, .iconst 0, 17, 0, 0, 0, 0, []), (17, .putfield 36, 20, 0, 0, 5, 0, [(0, 417)]), (20, .aload_n 0, 21, 0, 0, 0, 0, []), (21, .aload_n 0, 22, 0, 0, 0, 0, []), (22, .getfield 49, 25, 0, 0, 7, 0, [(0, 423)]), (25, .iload_n 1, 26, 0, 1, 0, 0, []), (26, .invokestatic 18, 29, 0, 9996, 2, 1, [(0, 401), (0, 402), (0, 83), (0, 403)])]),
 (56, [(29, .putfield 49, 32, 0, 0, 7, 0, [(0, 423)]), (32, .aload_n 0, 33, 0, 0, 0, 0, []), (33, .getfield 36, 36, 0, 0, 5, 0, [(0, 417)]), (36, .iconst 3, 37, 3, 0, 0, 0, []), (37, .if_icmp .lt 53, 40, 0, 90, 0, 0, []), (40, .iconst 0, 41, 0, 0, 0, 0, []), (41, .iload_n 1, 42, 0, 1, 0, 0, []), (42, .bipush 110, 44, 110, 0, 0, 0, []), (44, .isub, 45, 0, 0, 0, 0, []), (45, .bipush 10, 47, 10, 0, 0, 0, []), (47, .idiv, 48, 0, 0, 0, 0, []), (48, .aload_n 0, 49, 0, 0, 0, 0, []), (49, .getfield 27, 52, 0, 0, 2, 0, [(0, 410)]), (52, .aload_n 0, 53, 0, 0, 0, 0, []), (53, .getfield 39, 56, 0, 0, 6, 0, [(0, 420)]), (56, .isub, 57, 0, 0, 0, 0, [])]),
 (86, [(57, .invokestatic 52, 60, 0, 9995, 2, 1, [(0, 747), (0, 473), (0, 83), (0, 474)]), (60, .invokestatic 18, 63, 0, 9996, 2, 1, [(0, 401), (0, 402), (0, 83), (0, 403)]), (63, .istore_n 3, 64, 0, 3, 0, 0, []), (64, .iload_n 3, 65, 0, 3, 0, 0, []), (65, .ifCond .le 15, 68, 0, 80, 0, 0, []), (68, .aload_n 0, 69, 0, 0, 0, 0, []), (69, .getfield 39, 72, 0, 0, 6, 0, [(0, 420)]), (72, .ifCond .ne 8, 75, 0, 80, 0, 0, []), (75, .aload_n 0, 76, 0, 0, 0, 0, []), (76, .iload_n 2, 77, 0, 2, 0, 0, []), (77, .putfield 9, 80, 0, 0, 8, 0, [(0, 425)]), (80, .aload_n 0, 81, 0, 0, 0, 0, []), (81, .dup, 82, 0, 0, 0, 0, []), (82, .getfield 39, 85, 0, 0, 6, 0, [(0, 420)]), (85, .iload_n 3, 86, 0, 3, 0, 0, []), (86, .iadd, 87, 0, 0, 0, 0, [])]),
 (90, [(87, .putfield 39, 90, 0, 0, 6, 0, [(0, 420)]), (90, .return_, 91, 0, 0, 0, 0, [])])]
def tb_Folk_init : List (Nat × List (Nat × am_X)) := [
 (28, [(0, .aload_n 0, 1, 0, 0, 0, 0, []), (1, .invokespecial 3, 4, 0, 9999, 1, 0, [(0, 544), (0, 97), (0, 98)]), (4, .aload_n 0, 5, 0, 0, 0, 0, []), (5, .bipush 20, 7, 20, 0, 0, 0, []), (7, .newarray .int, 9, 0, 100, 0, 0, [(0, 157)]), (9, .putfield 9, 12, 0, 1, 5, 2, [(0, 557)]), (12, .aload_n 0, 13, 0, 0, 0, 0, []), (13, .bipush 20, 15, 20, 0, 0, 0, []), (15, .newarray .int, 17, 0, 100, 0, 0, [(0, 157)]), (17, .putfield 15, 20, 0, 1, 6, 2, [(0, 560)]), (20, .aload_n 0, 21, 0, 0, 0, 0, []), (21, .bipush (-9), 23, (-9), 0, 0, 0, []), (23, .putfield 18, 26, 0, 1, 9, 0, [(0, 568)]), (26, .aload_n 0, 27, 0, 0, 0, 0, []), (27, .iload_n 1, 28, 0, 1, 0, 0, []), (28, .putfield 22, 31, 0, 1, 0, 0, [(0, 545)])]),
 (47, [(31, .aload_n 0, 32, 0, 0, 0, 0, []), (32, .iload_n 2, 33, 0, 2, 0, 0, []), (33, .putfield 25, 36, 0, 1, 1, 0, [(0, 547)]), (36, .aload_n 0, 37, 0, 0, 0, 0, []), (37, .iload_n 3, 38, 0, 3, 0, 0, []), (38, .putfield 28, 41, 0, 1, 2, 0, [(0, 550)]), (41, .aload_n 0, 42, 0, 0, 0, 0, []), (42, .iload 4, 44, 0, 4, 0, 0, []), (44, .putfield 31, 47, 0, 1, 3, 0, [(0, 553)]), (47, .return_, 48, 0, 0, 0, 0, [])])]
def tb_Folk_copyFrom : List (Nat × List (Nat × am_X)) := [
 (27, [(0, .aload_n 0, 1, 0, 0, 0, 0, []), (1, .aload_n 1, 2, 0, 1, 0, 0, []), (2, .getfield 34, 5, 0, 1, 4, 1, [(0, 555)]), (5, .putfield 34, 8, 0, 1, 4, 1, [(0, 555)]), (8, .aload_n 1, 9, 0, 1, 0, 0, []), (9, .getfield 9, 12, 0, 1, 5, 2, [(0, 557)]), (12, .iconst 0, 13, 0, 0, 0, 0, []), (13, .aload_n 0, 14, 0, 0, 0, 0, []), (14, .getfield 9, 17, 0, 1, 5, 2, [(0, 557)]), (17, .iconst 0, 18, 0, 0, 0, 0, []), (18, .aload_n 0, 19, 0, 0, 0, 0, []), (19, .getfield 9, 22, 0, 1, 5, 2, [(0, 557)]), (22, .arraylength, 23, 0, 0, 0, 0, []), (23, .invokestatic 38, 26, 0, 9997, 5, 0, [(0, 990), (0, 885), (0, 884), (0, 89)]), (26, .aload_n 0, 27, 0, 0, 0, 0, []), (27, .aload_n 1, 28, 0, 1, 0, 0, [])]),
 (42, [(28, .getfield 44, 31, 0, 1, 7, 0, [(0, 562)]), (31, .putfield 44, 34, 0, 1, 7, 0, [(0, 562)]), (34, .aload_n 0, 35, 0, 0, 0, 0, []), (35, .aload_n 1, 36, 0, 1, 0, 0, []), (36, .getfield 47, 39, 0, 1, 8, 0, [(0, 565)]), (39, .putfield 47, 42, 0, 1, 8, 0, [(0, 565)]), (42, .return_, 43, 0, 0, 0, 0, [])])]
def tb_Folk_target : List (Nat × List (Nat × am_X)) := [
 (18, [(0, .aload_n 0, 1, 0, 0, 0, 0, []), (1, .getfield 34, 4, 0, 1, 4, 1, [(0, 555)]), (4, .ifCond .eq 10, 7, 0, 14, 0, 0, []), (7, .aload_n 0, 8, 0, 0, 0, 0, []), (8, .getfield 22, 11, 0, 1, 0, 0, [(0, 545)]), (11, .goto 7, 14, 0, 18, 0, 0, []), (14, .aload_n 0, 15, 0, 0, 0, 0, []), (15, .getfield 28, 18, 0, 1, 2, 0, [(0, 550)]), (18, .ireturn, 19, 0, 0, 0, 0, [])])]
def tb_Folk_isWhereItShould : List (Nat × List (Nat × am_X)) := [
 (29, [(0, .aload_n 0, 1, 0, 0, 0, 0, []), (1, .getfield 47, 4, 0, 1, 8, 0, [(0, 565)]), (4, .aload_n 0, 5, 0, 0, 0, 0, []), (5, .getfield 34, 8, 0, 1, 4, 1, [(0, 555)]), (8, .ifCond .eq 15, 11, 0, 23, 0, 0, []), (11, .aload_n 0, 12, 0, 0, 0, 0, []), (12, .getfield 9, 15, 0, 1, 5, 2, [(0, 557)]), (15, .aload_n 0, 16, 0, 0, 0, 0, []), (16, .getfield 22, 19, 0, 1, 0, 0, [(0, 545)]), (19, .iaload, 20, 0, 0, 0, 0, []), (20, .goto 4, 23, 0, 24, 0, 0, []), (23, .iconst 0, 24, 0, 0, 0, 0, []), (24, .iadd, 25, 0, 0, 0, 0, []), (25, .aload_n 0, 26, 0, 0, 0, 0, []), (26, .getfield 25, 29, 0, 1, 1, 0, [(0, 547)]), (29, .if_icmp .ne 7, 32, 0, 36, 0, 0, [])]),
 (37, [(32, .iconst 1, 33, 1, 0, 0, 0, []), (33, .goto 4, 36, 0, 37, 0, 0, []), (36, .iconst 0, 37, 0, 0, 0, 0, []), (37, .ireturn, 38, 0, 0, 0, 1, [])])]
def tb_Given_init : List (Nat × List (Nat × am_X)) := [
 (32, [(0, .aload_n 0, 1, 0, 0, 0, 0, []), (1, .invokespecial 3, 4, 0, 9999, 1, 0, [(0, 120), (0, 97), (0, 98)]), (4, .aload_n 0, 5, 0, 0, 0, 0, []), (5, .sipush 200, 8, 200, 0, 0, 0, []), (8, .newarray .int, 10, 0, 100, 0, 0, [(0, 157)]), (10, .putfield 9, 13, 0, 2, 0, 2, [(0, 121)]), (13, .aload_n 0, 14, 0, 0, 0, 0, []), (14, .sipush 200, 17, 200, 0, 0, 0, []), (17, .newarray .int, 19, 0, 100, 0, 0, [(0, 157)]), (19, .putfield 15, 22, 0, 2, 1, 2, [(0, 124)]), (22, .aload_n 0, 23, 0, 0, 0, 0, []), (23, .sipush 200, 26, 200, 0, 0, 0, []), (26, .newarray .int, 28, 0, 100, 0, 0, [(0, 157)]), (28, .putfield 18, 31, 0, 2, 2, 2, [(0, 127)]), (31, .aload_n 0, 32, 0, 0, 0, 0, []), (32, .sipush 200, 35, 200, 0, 0, 0, [])]),
 (49, [(35, .newarray .int, 37, 0, 100, 0, 0, [(0, 157)]), (37, .putfield 21, 40, 0, 2, 3, 2, [(0, 130)]), (40, .aload_n 0, 41, 0, 0, 0, 0, []), (41, .sipush 200, 44, 200, 0, 0, 0, []), (44, .newarray .int, 46, 0, 100, 0, 0, [(0, 157)]), (46, .putfield 24, 49, 0, 2, 4, 2, [(0, 133)]), (49, .return_, 50, 0, 0, 0, 0, [])])]
def tb_Given_copyFrom : List (Nat × List (Nat × am_X)) := [
 (27, [(0, .aload_n 1, 1, 0, 1, 0, 0, []), (1, .getfield 18, 4, 0, 2, 2, 2, [(0, 127)]), (4, .iconst 0, 5, 0, 0, 0, 0, []), (5, .aload_n 0, 6, 0, 0, 0, 0, []), (6, .getfield 18, 9, 0, 2, 2, 2, [(0, 127)]), (9, .iconst 0, 10, 0, 0, 0, 0, []), (10, .aload_n 1, 11, 0, 1, 0, 0, []), (11, .getfield 27, 14, 0, 2, 5, 0, [(0, 136)]), (14, .invokestatic 31, 17, 0, 9997, 5, 0, [(0, 997), (0, 885), (0, 884), (0, 89)]), (17, .aload_n 1, 18, 0, 1, 0, 0, []), (18, .getfield 21, 21, 0, 2, 3, 2, [(0, 130)]), (21, .iconst 0, 22, 0, 0, 0, 0, []), (22, .aload_n 0, 23, 0, 0, 0, 0, []), (23, .getfield 21, 26, 0, 2, 3, 2, [(0, 130)]), (26, .iconst 0, 27, 0, 0, 0, 0, []), (27, .aload_n 1, 28, 0, 1, 0, 0, [])]),
 (59, [(28, .getfield 27, 31, 0, 2, 5, 0, [(0, 136)]), (31, .invokestatic 31, 34, 0, 9997, 5, 0, [(0, 997), (0, 885), (0, 884), (0, 89)]), (34, .aload_n 1, 35, 0, 1, 0, 0, []), (35, .getfield 24, 38, 0, 2, 4, 2, [(0, 133)]), (38, .iconst 0, 39, 0, 0, 0, 0, []), (39, .aload_n 0, 40, 0, 0, 0, 0, []), (40, .getfield 24, 43, 0, 2, 4, 2, [(0, 133)]), (43, .iconst 0, 44, 0, 0, 0, 0, []), (44, .aload_n 1, 45, 0, 1, 0, 0, []), (45, .getfield 27, 48, 0, 2, 5, 0, [(0, 136)]), (48, .invokestatic 31, 51, 0, 9997, 5, 0, [(0, 997), (0, 885), (0, 884), (0, 89)]), (51, .aload_n 0, 52, 0, 0, 0, 0, []), (52, .aload_n 1, 53, 0, 1, 0, 0, []), (53, .getfield 27, 56, 0, 2, 5, 0, [(0, 136)]), (56, .putfield 27, 59, 0, 2, 5, 0, [(0, 136)]), (59, .aload_n 0, 60, 0, 0, 0, 0, [])]),
 (67, [(60, .aload_n 1, 61, 0, 1, 0, 0, []), (61, .getfield 37, 64, 0, 2, 6, 0, [(0, 139)]), (64, .putfield 37, 67, 0, 2, 6, 0, [(0, 139)]), (67, .return_, 68, 0, 0, 0, 0, [])])]
def tb_Given_passOverHeard : List (Nat × List (Nat × am_X)) := [
 (25, [(0, .aload_n 0, 1, 0, 0, 0, 0, []), (1, .getfield 37, 4, 0, 2, 6, 0, [(0, 139)]), (4, .istore_n 2, 5, 0, 2, 0, 0, []), (5, .iload_n 2, 6, 0, 2, 0, 0, []), (6, .aload_n 0, 7, 0, 0, 0, 0, []), (7, .getfield 27, 10, 0, 2, 5, 0, [(0, 136)]), (10, .if_icmp .ge 26, 13, 0, 36, 0, 0, []), (13, .aload_n 0, 14, 0, 0, 0, 0, []), (14, .getfield 24, 17, 0, 2, 4, 2, [(0, 133)]), (17, .iload_n 2, 18, 0, 2, 0, 0, []), (18, .iaload, 19, 0, 0, 0, 0, []), (19, .iload_n 1, 20, 0, 1, 0, 0, []), (20, .if_icmp .gt 16, 23, 0, 36, 0, 0, []), (23, .aload_n 0, 24, 0, 0, 0, 0, []), (24, .iload_n 2, 25, 0, 2, 0, 0, []), (25, .iconst 1, 26, 1, 0, 0, 0, [])]),
 (36, [(26, .iadd, 27, 0, 0, 0, 0, []), (27, .putfield 37, 30, 0, 2, 6, 0, [(0, 139)]), (30, .iinc 2 1, 33, 1, 2, 0, 0, []), (33, .goto (-28), 36, 0, 5, 0, 0, []), (36, .return_, 37, 0, 0, 0, 0, [])])]
def tb_Link_init : List (Nat × List (Nat × am_X)) := [
 (25, [(0, .aload_n 0, 1, 0, 0, 0, 0, []), (1, .invokespecial 3, 4, 0, 9999, 1, 0, [(0, 471), (0, 97), (0, 98)]), (4, .aload_n 0, 5, 0, 0, 0, 0, []), (5, .iconst 5, 6, 5, 0, 0, 0, []), (6, .newarray .int, 8, 0, 100, 0, 0, [(0, 157)]), (8, .putfield 9, 11, 0, 3, 3, 2, [(0, 485)]), (11, .aload_n 0, 12, 0, 0, 0, 0, []), (12, .iconst 0, 13, 0, 0, 0, 0, []), (13, .newarray .int, 15, 0, 100, 0, 0, [(0, 157)]), (15, .putfield 15, 18, 0, 3, 7, 2, [(0, 495)]), (18, .aload_n 0, 19, 0, 0, 0, 0, []), (19, .iload_n 1, 20, 0, 1, 0, 0, []), (20, .putfield 18, 23, 0, 3, 0, 0, [(0, 476)]), (23, .aload_n 0, 24, 0, 0, 0, 0, []), (24, .iload_n 2, 25, 0, 2, 0, 0, []), (25, .putfield 22, 28, 0, 3, 1, 0, [(0, 479)])]),
 (54, [(28, .aload_n 0, 29, 0, 0, 0, 0, []), (29, .iconst 1, 30, 1, 0, 0, 0, []), (30, .bipush 9, 32, 9, 0, 0, 0, []), (32, .iload_n 3, 33, 0, 3, 0, 0, []), (33, .invokestatic 25, 36, 0, 9995, 2, 1, [(0, 472), (0, 473), (0, 83), (0, 474)]), (36, .invokestatic 31, 39, 0, 9996, 2, 1, [(0, 475), (0, 402), (0, 83), (0, 403)]), (39, .putfield 34, 42, 0, 3, 2, 0, [(0, 482)]), (42, .aload_n 0, 43, 0, 0, 0, 0, []), (43, .iconst 2, 44, 2, 0, 0, 0, []), (44, .aload_n 0, 45, 0, 0, 0, 0, []), (45, .getfield 34, 48, 0, 3, 2, 0, [(0, 482)]), (48, .imul, 49, 0, 0, 0, 0, []), (49, .bipush 24, 51, 24, 0, 0, 0, []), (51, .imul, 52, 0, 0, 0, 0, []), (52, .newarray .int, 54, 0, 100, 0, 0, [(0, 157)]), (54, .putfield 37, 57, 0, 3, 5, 2, [(0, 491)])]),
 (69, [(57, .aload_n 0, 58, 0, 0, 0, 0, []), (58, .iconst 2, 59, 2, 0, 0, 0, []), (59, .aload_n 0, 60, 0, 0, 0, 0, []), (60, .getfield 34, 63, 0, 3, 2, 0, [(0, 482)]), (63, .imul, 64, 0, 0, 0, 0, []), (64, .newarray .int, 66, 0, 100, 0, 0, [(0, 157)]), (66, .putfield 40, 69, 0, 3, 6, 2, [(0, 493)]), (69, .return_, 70, 0, 0, 0, 0, [])])]
def tb_Link_copyFrom : List (Nat × List (Nat × am_X)) := [
 (29, [(0, .aload_n 1, 1, 0, 1, 0, 0, []), (1, .getfield 9, 4, 0, 3, 3, 2, [(0, 485)]), (4, .iconst 0, 5, 0, 0, 0, 0, []), (5, .aload_n 0, 6, 0, 0, 0, 0, []), (6, .getfield 9, 9, 0, 3, 3, 2, [(0, 485)]), (9, .iconst 0, 10, 0, 0, 0, 0, []), (10, .aload_n 0, 11, 0, 0, 0, 0, []), (11, .getfield 9, 14, 0, 3, 3, 2, [(0, 485)]), (14, .arraylength, 15, 0, 0, 0, 0, []), (15, .invokestatic 43, 18, 0, 9997, 5, 0, [(0, 984), (0, 885), (0, 884), (0, 89)]), (18, .aload_n 1, 19, 0, 1, 0, 0, []), (19, .getfield 34, 22, 0, 3, 2, 0, [(0, 482)]), (22, .aload_n 0, 23, 0, 0, 0, 0, []), (23, .getfield 34, 26, 0, 3, 2, 0, [(0, 482)]), (26, .if_icmp .ne 39, 29, 0, 65, 0, 0, []), (29, .aload_n 1, 30, 0, 1, 0, 0, [])]),
 (57, [(30, .getfield 37, 33, 0, 3, 5, 2, [(0, 491)]), (33, .iconst 0, 34, 0, 0, 0, 0, []), (34, .aload_n 0, 35, 0, 0, 0, 0, []), (35, .getfield 37, 38, 0, 3, 5, 2, [(0, 491)]), (38, .iconst 0, 39, 0, 0, 0, 0, []), (39, .aload_n 0, 40, 0, 0, 0, 0, []), (40, .getfield 37, 43, 0, 3, 5, 2, [(0, 491)]), (43, .arraylength, 44, 0, 0, 0, 0, []), (44, .invokestatic 43, 47, 0, 9997, 5, 0, [(0, 984), (0, 885), (0, 884), (0, 89)]), (47, .aload_n 1, 48, 0, 1, 0, 0, []), (48, .getfield 40, 51, 0, 3, 6, 2, [(0, 493)]), (51, .iconst 0, 52, 0, 0, 0, 0, []), (52, .aload_n 0, 53, 0, 0, 0, 0, []), (53, .getfield 40, 56, 0, 3, 6, 2, [(0, 493)]), (56, .iconst 0, 57, 0, 0, 0, 0, []), (57, .aload_n 0, 58, 0, 0, 0, 0, [])]),
 (65, [(58, .getfield 40, 61, 0, 3, 6, 2, [(0, 493)]), (61, .arraylength, 62, 0, 0, 0, 0, []), (62, .invokestatic 43, 65, 0, 9997, 5, 0, [(0, 984), (0, 885), (0, 884), (0, 89)]), (65, .return_, 66, 0, 0, 0, 0, [])])]
def tb_Link_rowOf : List (Nat × List (Nat × am_X)) := [
 (13, [(0, .iload_n 1, 1, 0, 1, 0, 0, []), (1, .aload_n 0, 2, 0, 0, 0, 0, []), (2, .getfield 34, 5, 0, 3, 2, 0, [(0, 482)]), (5, .imul, 6, 0, 0, 0, 0, []), (6, .iload_n 2, 7, 0, 2, 0, 0, []), (7, .aload_n 0, 8, 0, 0, 0, 0, []), (8, .getfield 34, 11, 0, 3, 2, 0, [(0, 482)]), (11, .irem, 12, 0, 0, 0, 0, []), (12, .iadd, 13, 0, 0, 0, 0, []), (13, .ireturn, 14, 0, 0, 0, 0, [])])]
def tb_Link_note : List (Nat × List (Nat × am_X)) := [
 (30, [(0, .aload_n 0, 1, 0, 0, 0, 0, []), (1, .getfield 49, 4, 0, 3, 4, 0, [(0, 489)]), (4, .ifCond .le 20, 7, 0, 24, 0, 0, []), (7, .aload_n 0, 8, 0, 0, 0, 0, []), (8, .getfield 15, 11, 0, 3, 7, 2, [(0, 495)]), (11, .arraylength, 12, 0, 0, 0, 0, []), (12, .ifCond .ne 12, 15, 0, 24, 0, 0, []), (15, .aload_n 0, 16, 0, 0, 0, 0, []), (16, .sipush 1000, 19, 1000, 0, 0, 0, []), (19, .newarray .int, 21, 0, 100, 0, 0, [(0, 157)]), (21, .putfield 15, 24, 0, 3, 7, 2, [(0, 495)]), (24, .iload_n 1, 25, 0, 1, 0, 0, []), (25, .ifCond .lt 22, 28, 0, 47, 0, 0, []), (28, .iload_n 1, 29, 0, 1, 0, 0, []), (29, .aload_n 0, 30, 0, 0, 0, 0, []), (30, .getfield 15, 33, 0, 3, 7, 2, [(0, 495)])]),
 (47, [(33, .arraylength, 34, 0, 0, 0, 0, []), (34, .if_icmp .ge 13, 37, 0, 47, 0, 0, []), (37, .aload_n 0, 38, 0, 0, 0, 0, []), (38, .getfield 15, 41, 0, 3, 7, 2, [(0, 495)]), (41, .iload_n 1, 42, 0, 1, 0, 0, []), (42, .aload_n 0, 43, 0, 0, 0, 0, []), (43, .getfield 49, 46, 0, 3, 4, 0, [(0, 489)]), (46, .iastore, 47, 0, 0, 0, 0, []), (47, .return_, 48, 0, 0, 0, 0, [])])]
def tb_Link_wentOn : List (Nat × List (Nat × am_X)) := [
 (23, [(0, .iload_n 1, 1, 0, 1, 0, 0, []), (1, .ifCond .lt 21, 4, 0, 22, 0, 0, []), (4, .iload_n 1, 5, 0, 1, 0, 0, []), (5, .aload_n 0, 6, 0, 0, 0, 0, []), (6, .getfield 15, 9, 0, 3, 7, 2, [(0, 495)]), (9, .arraylength, 10, 0, 0, 0, 0, []), (10, .if_icmp .ge 12, 13, 0, 22, 0, 0, []), (13, .aload_n 0, 14, 0, 0, 0, 0, []), (14, .getfield 15, 17, 0, 3, 7, 2, [(0, 495)]), (17, .iload_n 1, 18, 0, 1, 0, 0, []), (18, .iaload, 19, 0, 0, 0, 0, []), (19, .goto 4, 22, 0, 23, 0, 0, []), (22, .iconst 0, 23, 0, 0, 0, 0, []), (23, .ireturn, 24, 0, 0, 0, 0, [])])]
def tb_Link_headsOf : List (Nat × List (Nat × am_X)) := [
 (22, [(0, .iconst 0, 1, 0, 0, 0, 0, []), (1, .istore_n 2, 2, 0, 2, 0, 0, []), (2, .iconst 0, 3, 0, 0, 0, 0, []), (3, .istore_n 3, 4, 0, 3, 0, 0, []), (4, .iload_n 3, 5, 0, 3, 0, 0, []), (5, .aload_n 0, 6, 0, 0, 0, 0, []), (6, .getfield 40, 9, 0, 3, 6, 2, [(0, 493)]), (9, .arraylength, 10, 0, 0, 0, 0, []), (10, .if_icmp .ge 23, 13, 0, 33, 0, 0, []), (13, .iload_n 2, 14, 0, 2, 0, 0, []), (14, .aload_n 0, 15, 0, 0, 0, 0, []), (15, .getfield 37, 18, 0, 3, 5, 2, [(0, 491)]), (18, .iload_n 3, 19, 0, 3, 0, 0, []), (19, .bipush 24, 21, 24, 0, 0, 0, []), (21, .imul, 22, 0, 0, 0, 0, []), (22, .iload_n 1, 23, 0, 1, 0, 0, [])]),
 (34, [(23, .iadd, 24, 0, 0, 0, 0, []), (24, .iaload, 25, 0, 0, 0, 0, []), (25, .iadd, 26, 0, 0, 0, 0, []), (26, .istore_n 2, 27, 0, 2, 0, 0, []), (27, .iinc 3 1, 30, 1, 3, 0, 0, []), (30, .goto (-26), 33, 0, 4, 0, 0, []), (33, .iload_n 2, 34, 0, 2, 0, 0, []), (34, .ireturn, 35, 0, 0, 0, 0, [])])]
def tb_Order_init : List (Nat × List (Nat × am_X)) := [
 (19, [(0, .aload_n 0, 1, 0, 0, 0, 0, []), (1, .invokespecial 1, 4, 0, 9999, 1, 0, [(0, 893), (0, 97), (0, 98)]), (4, .aload_n 0, 5, 0, 0, 0, 0, []), (5, .aload_n 1, 6, 0, 1, 0, 0, []), (6, .putfield 7, 9, 0, 4, 0, 2, [(0, 894)]), (9, .aload_n 0, 10, 0, 0, 0, 0, []), (10, .aload_n 2, 11, 0, 2, 0, 0, []), (11, .putfield 13, 14, 0, 4, 1, 2, [(0, 896)]), (14, .aload_n 0, 15, 0, 0, 0, 0, []), (15, .iload_n 3, 16, 0, 3, 0, 0, []), (16, .putfield 16, 19, 0, 4, 2, 1, [(0, 898)]), (19, .return_, 20, 0, 0, 0, 0, [])])]
def tb_Reader_init : List (Nat × List (Nat × am_X)) := [
 (28, [(0, .aload_n 0, 1, 0, 0, 0, 0, []), (1, .invokespecial 5, 4, 0, 9999, 1, 0, [(0, 277), (0, 97), (0, 98)]), (4, .aload_n 0, 5, 0, 0, 0, 0, []), (5, .bipush 120, 7, 120, 0, 0, 0, []), (7, .newarray .int, 9, 0, 100, 0, 0, [(0, 157)]), (9, .putfield 11, 12, 0, 5, 0, 2, [(0, 278)]), (12, .aload_n 0, 13, 0, 0, 0, 0, []), (13, .bipush 120, 15, 120, 0, 0, 0, []), (15, .newarray .int, 17, 0, 100, 0, 0, [(0, 157)]), (17, .putfield 15, 20, 0, 5, 5, 2, [(0, 285)]), (20, .aload_n 0, 21, 0, 0, 0, 0, []), (21, .bipush 120, 23, 120, 0, 0, 0, []), (23, .newarray .int, 25, 0, 100, 0, 0, [(0, 157)]), (25, .putfield 18, 28, 0, 5, 7, 2, [(0, 287)]), (28, .return_, 29, 0, 0, 0, 0, [])])]
def tb_Reader_keep : List (Nat × List (Nat × am_X)) := [
 (26, [(0, .aload_n 0, 1, 0, 0, 0, 0, []), (1, .getfield 21, 4, 0, 5, 1, 0, [(0, 279)]), (4, .bipush 120, 6, 120, 0, 0, 0, []), (6, .if_icmp .ge 23, 9, 0, 29, 0, 0, []), (9, .aload_n 0, 10, 0, 0, 0, 0, []), (10, .getfield 11, 13, 0, 5, 0, 2, [(0, 278)]), (13, .aload_n 0, 14, 0, 0, 0, 0, []), (14, .getfield 21, 17, 0, 5, 1, 0, [(0, 279)]), (17, .iload_n 1, 18, 0, 1, 0, 0, []), (18, .iastore, 19, 0, 0, 0, 0, []), (19, .aload_n 0, 20, 0, 0, 0, 0, []), (20, .dup, 21, 0, 0, 0, 0, []), (21, .getfield 21, 24, 0, 5, 1, 0, [(0, 279)]), (24, .iconst 1, 25, 1, 0, 0, 0, []), (25, .iadd, 26, 0, 0, 0, 0, []), (26, .putfield 21, 29, 0, 5, 1, 0, [(0, 279)])]),
 (29, [(29, .return_, 30, 0, 0, 0, 0, [])])]
def tb_Reader_begin : List (Nat × List (Nat × am_X)) := [
 (25, [(0, .aload_n 0, 1, 0, 0, 0, 0, []), (1, .iconst 0, 2, 0, 0, 0, 0, []), (2, .putfield 25, 5, 0, 5, 3, 0, [(0, 283)]), (5, .aload_n 0, 6, 0, 0, 0, 0, []), (6, .iconst (-1), 7, (-1), 0, 0, 0, []), (7, .putfield 28, 10, 0, 5, 2, 0, [(0, 281)]), (10, .aload_n 0, 11, 0, 0, 0, 0, []), (11, .iconst 0, 12, 0, 0, 0, 0, []), (12, .putfield 31, 15, 0, 5, 6, 0, [(0, 286)]), (15, .aload_n 0, 16, 0, 0, 0, 0, []), (16, .iconst 0, 17, 0, 0, 0, 0, []), (17, .putfield 34, 20, 0, 5, 8, 0, [(0, 288)]), (20, .aload_n 0, 21, 0, 0, 0, 0, []), (21, .aload_n 0, 22, 0, 0, 0, 0, []), (22, .getfield 21, 25, 0, 5, 1, 0, [(0, 279)]), (25, .ifCond .le 12, 28, 0, 37, 0, 0, [])]),
 (41, [(28, .aload_n 0, 29, 0, 0, 0, 0, []), (29, .getfield 11, 32, 0, 5, 0, 2, [(0, 278)]), (32, .iconst 0, 33, 0, 0, 0, 0, []), (33, .iaload, 34, 0, 0, 0, 0, []), (34, .goto 4, 37, 0, 38, 0, 0, []), (37, .iconst (-1), 38, (-1), 0, 0, 0, []), (38, .putfield 37, 41, 0, 5, 4, 0, [(0, 284)]), (41, .return_, 42, 0, 0, 0, 0, [])])]
def tb_Reader_writtenTests : List (Nat × List (Nat × am_X)) := [
 (11, [(0, .aload_n 0, 1, 0, 0, 0, 0, []), (1, .getfield 15, 4, 0, 5, 5, 2, [(0, 285)]), (4, .aload_n 0, 5, 0, 0, 0, 0, []), (5, .getfield 31, 8, 0, 5, 6, 0, [(0, 286)]), (8, .invokestatic 40, 11, 0, 1204, 2, 1, [(0, 877), (0, 878), (0, 87), (0, 879)]), (11, .areturn, 12, 0, 0, 0, 0, [])])]
def tb_Reader_writtenActs : List (Nat × List (Nat × am_X)) := [
 (11, [(0, .aload_n 0, 1, 0, 0, 0, 0, []), (1, .getfield 18, 4, 0, 5, 7, 2, [(0, 287)]), (4, .aload_n 0, 5, 0, 0, 0, 0, []), (5, .getfield 34, 8, 0, 5, 8, 0, [(0, 288)]), (8, .invokestatic 40, 11, 0, 1204, 2, 1, [(0, 877), (0, 878), (0, 87), (0, 879)]), (11, .areturn, 12, 0, 0, 0, 0, [])])]
def tb_Reader_readOrs : List (Nat × List (Nat × am_X)) := [
 (27, [(0, .aload_n 0, 1, 0, 0, 0, 0, []), (1, .iload_n 1, 2, 0, 1, 0, 0, []), (2, .invokevirtual 46, 5, 0, 507, 2, 0, [(0, 823), (0, 825), (0, 14), (0, 79), (0, 826)]), (5, .iconst 0, 6, 0, 0, 0, 0, []), (6, .istore_n 2, 7, 0, 2, 0, 0, []), (7, .iload_n 2, 8, 0, 2, 0, 0, []), (8, .bipush 120, 10, 120, 0, 0, 0, []), (10, .if_icmp .ge 34, 13, 0, 44, 0, 0, []), (13, .aload_n 0, 14, 0, 0, 0, 0, []), (14, .getfield 37, 17, 0, 5, 4, 0, [(0, 284)]), (17, .bipush 124, 19, 124, 0, 0, 0, []), (19, .if_icmp .ne 25, 22, 0, 44, 0, 0, []), (22, .aload_n 0, 23, 0, 0, 0, 0, []), (23, .invokevirtual 50, 26, 0, 514, 1, 0, [(0, 835), (0, 837), (0, 17), (0, 79), (0, 838)]), (26, .aload_n 0, 27, 0, 0, 0, 0, []), (27, .iload_n 1, 28, 0, 1, 0, 0, [])]),
 (44, [(28, .invokevirtual 46, 31, 0, 507, 2, 0, [(0, 823), (0, 825), (0, 14), (0, 79), (0, 826)]), (31, .aload_n 0, 32, 0, 0, 0, 0, []), (32, .bipush 14, 34, 14, 0, 0, 0, []), (34, .iconst 0, 35, 0, 0, 0, 0, []), (35, .invokevirtual 53, 38, 0, 517, 3, 0, [(0, 839), (0, 841), (0, 18), (0, 79), (0, 842)]), (38, .iinc 2 1, 41, 1, 2, 0, 0, []), (41, .goto (-34), 44, 0, 7, 0, 0, []), (44, .return_, 45, 0, 0, 0, 0, [])])]
def tb_Reader_readActs : List (Nat × List (Nat × am_X)) := [
 (28, [(0, .aload_n 0, 1, 0, 0, 0, 0, []), (1, .bipush 58, 3, 58, 0, 0, 0, []), (3, .invokevirtual 57, 6, 0, 515, 2, 0, [(0, 844), (0, 846), (0, 19), (0, 79), (0, 847)]), (6, .aload_n 0, 7, 0, 0, 0, 0, []), (7, .invokevirtual 60, 10, 0, 512, 1, 0, [(0, 867), (0, 869), (0, 23), (0, 79), (0, 870)]), (10, .iconst 0, 11, 0, 0, 0, 0, []), (11, .istore_n 1, 12, 0, 1, 0, 0, []), (12, .iload_n 1, 13, 0, 1, 0, 0, []), (13, .bipush 120, 15, 120, 0, 0, 0, []), (15, .if_icmp .ge 26, 18, 0, 41, 0, 0, []), (18, .aload_n 0, 19, 0, 0, 0, 0, []), (19, .getfield 37, 22, 0, 5, 4, 0, [(0, 284)]), (22, .bipush 59, 24, 59, 0, 0, 0, []), (24, .if_icmp .ne 17, 27, 0, 41, 0, 0, []), (27, .aload_n 0, 28, 0, 0, 0, 0, []), (28, .invokevirtual 50, 31, 0, 514, 1, 0, [(0, 835), (0, 837), (0, 17), (0, 79), (0, 838)])]),
 (53, [(31, .aload_n 0, 32, 0, 0, 0, 0, []), (32, .invokevirtual 60, 35, 0, 512, 1, 0, [(0, 867), (0, 869), (0, 23), (0, 79), (0, 870)]), (35, .iinc 1 1, 38, 1, 1, 0, 0, []), (38, .goto (-26), 41, 0, 12, 0, 0, []), (41, .aload_n 0, 42, 0, 0, 0, 0, []), (42, .getfield 37, 45, 0, 5, 4, 0, [(0, 284)]), (45, .iconst (-1), 46, (-1), 0, 0, 0, []), (46, .if_icmp .eq 7, 49, 0, 53, 0, 0, []), (49, .aload_n 0, 50, 0, 0, 0, 0, []), (50, .invokevirtual 63, 53, 0, 516, 1, 0, [(0, 831), (0, 833), (0, 16), (0, 79), (0, 834)]), (53, .return_, 54, 0, 0, 0, 0, [])])]
def tb_Reader_readAnds : List (Nat × List (Nat × am_X)) := [
 (27, [(0, .aload_n 0, 1, 0, 0, 0, 0, []), (1, .iload_n 1, 2, 0, 1, 0, 0, []), (2, .invokevirtual 66, 5, 0, 508, 2, 0, [(0, 827), (0, 829), (0, 15), (0, 79), (0, 830)]), (5, .iconst 0, 6, 0, 0, 0, 0, []), (6, .istore_n 2, 7, 0, 2, 0, 0, []), (7, .iload_n 2, 8, 0, 2, 0, 0, []), (8, .bipush 120, 10, 120, 0, 0, 0, []), (10, .if_icmp .ge 34, 13, 0, 44, 0, 0, []), (13, .aload_n 0, 14, 0, 0, 0, 0, []), (14, .getfield 37, 17, 0, 5, 4, 0, [(0, 284)]), (17, .bipush 38, 19, 38, 0, 0, 0, []), (19, .if_icmp .ne 25, 22, 0, 44, 0, 0, []), (22, .aload_n 0, 23, 0, 0, 0, 0, []), (23, .invokevirtual 50, 26, 0, 514, 1, 0, [(0, 835), (0, 837), (0, 17), (0, 79), (0, 838)]), (26, .aload_n 0, 27, 0, 0, 0, 0, []), (27, .iload_n 1, 28, 0, 1, 0, 0, [])]),
 (44, [(28, .invokevirtual 66, 31, 0, 508, 2, 0, [(0, 827), (0, 829), (0, 15), (0, 79), (0, 830)]), (31, .aload_n 0, 32, 0, 0, 0, 0, []), (32, .bipush 13, 34, 13, 0, 0, 0, []), (34, .iconst 0, 35, 0, 0, 0, 0, []), (35, .invokevirtual 53, 38, 0, 517, 3, 0, [(0, 839), (0, 841), (0, 18), (0, 79), (0, 842)]), (38, .iinc 2 1, 41, 1, 2, 0, 0, []), (41, .goto (-34), 44, 0, 7, 0, 0, []), (44, .return_, 45, 0, 0, 0, 0, [])])]
def tb_Reader_readTest : List (Nat × List (Nat × am_X)) := [
 (29, [(0, .aload_n 0, 1, 0, 0, 0, 0, []), (1, .getfield 37, 4, 0, 5, 4, 0, [(0, 284)]), (4, .bipush 33, 6, 33, 0, 0, 0, []), (6, .if_icmp .ne 7, 9, 0, 13, 0, 0, []), (9, .iconst 1, 10, 1, 0, 0, 0, []), (10, .goto 4, 13, 0, 14, 0, 0, []), (13, .iconst 0, 14, 0, 0, 0, 0, []), (14, .istore_n 2, 15, 0, 2, 0, 0, []), (15, .aload_n 0, 16, 0, 0, 0, 0, []), (16, .getfield 37, 19, 0, 5, 4, 0, [(0, 284)]), (19, .bipush 40, 21, 40, 0, 0, 0, []), (21, .if_icmp .ne 7, 24, 0, 28, 0, 0, []), (24, .iconst 1, 25, 1, 0, 0, 0, []), (25, .goto 4, 28, 0, 29, 0, 0, []), (28, .iconst 0, 29, 0, 0, 0, 0, []), (29, .istore_n 3, 30, 0, 3, 0, 0, [])]),
 (59, [(30, .iload_n 2, 31, 0, 2, 0, 0, []), (31, .ifCond .ne 7, 34, 0, 38, 0, 0, []), (34, .iload_n 3, 35, 0, 3, 0, 0, []), (35, .ifCond .eq 15, 38, 0, 50, 0, 0, []), (38, .iload_n 1, 39, 0, 1, 0, 0, []), (39, .iconst 4, 40, 4, 0, 0, 0, []), (40, .if_icmp .lt 10, 43, 0, 50, 0, 0, []), (43, .aload_n 0, 44, 0, 0, 0, 0, []), (44, .invokevirtual 63, 47, 0, 516, 1, 0, [(0, 831), (0, 833), (0, 16), (0, 79), (0, 834)]), (47, .goto 129, 50, 0, 176, 0, 0, []), (50, .iload_n 2, 51, 0, 2, 0, 0, []), (51, .ifCond .eq 24, 54, 0, 75, 0, 0, []), (54, .aload_n 0, 55, 0, 0, 0, 0, []), (55, .invokevirtual 50, 58, 0, 514, 1, 0, [(0, 835), (0, 837), (0, 17), (0, 79), (0, 838)]), (58, .aload_n 0, 59, 0, 0, 0, 0, []), (59, .iload_n 1, 60, 0, 1, 0, 0, [])]),
 (86, [(60, .iconst 1, 61, 1, 0, 0, 0, []), (61, .iadd, 62, 0, 0, 0, 0, []), (62, .invokevirtual 66, 65, 0, 508, 2, 0, [(0, 827), (0, 829), (0, 15), (0, 79), (0, 830)]), (65, .aload_n 0, 66, 0, 0, 0, 0, []), (66, .bipush 12, 68, 12, 0, 0, 0, []), (68, .iconst 0, 69, 0, 0, 0, 0, []), (69, .invokevirtual 53, 72, 0, 517, 3, 0, [(0, 839), (0, 841), (0, 18), (0, 79), (0, 842)]), (72, .goto 104, 75, 0, 176, 0, 0, []), (75, .iload_n 3, 76, 0, 3, 0, 0, []), (76, .ifCond .eq 23, 79, 0, 99, 0, 0, []), (79, .aload_n 0, 80, 0, 0, 0, 0, []), (80, .invokevirtual 50, 83, 0, 514, 1, 0, [(0, 835), (0, 837), (0, 17), (0, 79), (0, 838)]), (83, .aload_n 0, 84, 0, 0, 0, 0, []), (84, .iload_n 1, 85, 0, 1, 0, 0, []), (85, .iconst 1, 86, 1, 0, 0, 0, []), (86, .iadd, 87, 0, 0, 0, 0, [])]),
 (121, [(87, .invokevirtual 69, 90, 0, 505, 2, 0, [(0, 843), (0, 820), (0, 821), (0, 79), (0, 822)]), (90, .aload_n 0, 91, 0, 0, 0, 0, []), (91, .bipush 41, 93, 41, 0, 0, 0, []), (93, .invokevirtual 57, 96, 0, 515, 2, 0, [(0, 844), (0, 846), (0, 19), (0, 79), (0, 847)]), (96, .goto 80, 99, 0, 176, 0, 0, []), (99, .aload_n 0, 100, 0, 0, 0, 0, []), (100, .invokevirtual 72, 103, 0, 509, 1, 0, [(0, 848), (0, 850), (0, 20), (0, 79), (0, 851)]), (103, .aload_n 0, 104, 0, 0, 0, 0, []), (104, .getfield 37, 107, 0, 5, 4, 0, [(0, 284)]), (107, .bipush 60, 109, 60, 0, 0, 0, []), (109, .if_icmp .ne 8, 112, 0, 117, 0, 0, []), (112, .bipush 9, 114, 9, 0, 0, 0, []), (114, .goto 19, 117, 0, 133, 0, 0, []), (117, .aload_n 0, 118, 0, 0, 0, 0, []), (118, .getfield 37, 121, 0, 5, 4, 0, [(0, 284)]), (121, .bipush 61, 123, 61, 0, 0, 0, [])]),
 (157, [(123, .if_icmp .ne 8, 126, 0, 131, 0, 0, []), (126, .bipush 10, 128, 10, 0, 0, 0, []), (128, .goto 5, 131, 0, 133, 0, 0, []), (131, .bipush 11, 133, 11, 0, 0, 0, []), (133, .istore 4, 135, 0, 4, 0, 0, []), (135, .aload_n 0, 136, 0, 0, 0, 0, []), (136, .iload 4, 138, 0, 4, 0, 0, []), (138, .bipush 9, 140, 9, 0, 0, 0, []), (140, .if_icmp .ne 8, 143, 0, 148, 0, 0, []), (143, .bipush 60, 145, 60, 0, 0, 0, []), (145, .goto 17, 148, 0, 162, 0, 0, []), (148, .iload 4, 150, 0, 4, 0, 0, []), (150, .bipush 10, 152, 10, 0, 0, 0, []), (152, .if_icmp .ne 8, 155, 0, 160, 0, 0, []), (155, .bipush 61, 157, 61, 0, 0, 0, []), (157, .goto 5, 160, 0, 162, 0, 0, [])]),
 (176, [(160, .bipush 62, 162, 62, 0, 0, 0, []), (162, .invokevirtual 57, 165, 0, 515, 2, 0, [(0, 844), (0, 846), (0, 19), (0, 79), (0, 847)]), (165, .aload_n 0, 166, 0, 0, 0, 0, []), (166, .invokevirtual 72, 169, 0, 509, 1, 0, [(0, 848), (0, 850), (0, 20), (0, 79), (0, 851)]), (169, .aload_n 0, 170, 0, 0, 0, 0, []), (170, .iload 4, 172, 0, 4, 0, 0, []), (172, .iconst 0, 173, 0, 0, 0, 0, []), (173, .invokevirtual 53, 176, 0, 517, 3, 0, [(0, 839), (0, 841), (0, 18), (0, 79), (0, 842)]), (176, .return_, 177, 0, 0, 0, 0, [])])]
def tb_Reader_readSum : List (Nat × List (Nat × am_X)) := [
 (30, [(0, .aload_n 0, 1, 0, 0, 0, 0, []), (1, .invokevirtual 75, 4, 0, 510, 1, 0, [(0, 852), (0, 854), (0, 21), (0, 79), (0, 855)]), (4, .iconst 0, 5, 0, 0, 0, 0, []), (5, .istore_n 1, 6, 0, 1, 0, 0, []), (6, .iload_n 1, 7, 0, 1, 0, 0, []), (7, .bipush 120, 9, 120, 0, 0, 0, []), (9, .if_icmp .ge 58, 12, 0, 67, 0, 0, []), (12, .aload_n 0, 13, 0, 0, 0, 0, []), (13, .getfield 37, 16, 0, 5, 4, 0, [(0, 284)]), (16, .bipush 43, 18, 43, 0, 0, 0, []), (18, .if_icmp .eq 12, 21, 0, 30, 0, 0, []), (21, .aload_n 0, 22, 0, 0, 0, 0, []), (22, .getfield 37, 25, 0, 5, 4, 0, [(0, 284)]), (25, .bipush 45, 27, 45, 0, 0, 0, []), (27, .if_icmp .ne 40, 30, 0, 67, 0, 0, []), (30, .aload_n 0, 31, 0, 0, 0, 0, [])]),
 (61, [(31, .getfield 37, 34, 0, 5, 4, 0, [(0, 284)]), (34, .bipush 43, 36, 43, 0, 0, 0, []), (36, .if_icmp .ne 8, 39, 0, 44, 0, 0, []), (39, .bipush 7, 41, 7, 0, 0, 0, []), (41, .goto 5, 44, 0, 46, 0, 0, []), (44, .bipush 8, 46, 8, 0, 0, 0, []), (46, .istore_n 2, 47, 0, 2, 0, 0, []), (47, .aload_n 0, 48, 0, 0, 0, 0, []), (48, .invokevirtual 50, 51, 0, 514, 1, 0, [(0, 835), (0, 837), (0, 17), (0, 79), (0, 838)]), (51, .aload_n 0, 52, 0, 0, 0, 0, []), (52, .invokevirtual 75, 55, 0, 510, 1, 0, [(0, 852), (0, 854), (0, 21), (0, 79), (0, 855)]), (55, .aload_n 0, 56, 0, 0, 0, 0, []), (56, .iload_n 2, 57, 0, 2, 0, 0, []), (57, .iconst 0, 58, 0, 0, 0, 0, []), (58, .invokevirtual 53, 61, 0, 517, 3, 0, [(0, 839), (0, 841), (0, 18), (0, 79), (0, 842)]), (61, .iinc 1 1, 64, 1, 1, 0, 0, [])]),
 (67, [(64, .goto (-58), 67, 0, 6, 0, 0, []), (67, .return_, 68, 0, 0, 0, 0, [])])]
def tb_Reader_readUnit : List (Nat × List (Nat × am_X)) := [
 (27, [(0, .aload_n 0, 1, 0, 0, 0, 0, []), (1, .getfield 37, 4, 0, 5, 4, 0, [(0, 284)]), (4, .invokestatic 78, 7, 0, 511, 1, 1, [(0, 856), (0, 857), (0, 79), (0, 858)]), (7, .istore_n 1, 8, 0, 1, 0, 0, []), (8, .iload_n 1, 9, 0, 1, 0, 0, []), (9, .ifCond .ge 10, 12, 0, 19, 0, 0, []), (12, .aload_n 0, 13, 0, 0, 0, 0, []), (13, .invokevirtual 63, 16, 0, 516, 1, 0, [(0, 831), (0, 833), (0, 16), (0, 79), (0, 834)]), (16, .goto 45, 19, 0, 61, 0, 0, []), (19, .iload_n 1, 20, 0, 1, 0, 0, []), (20, .ifCond .ne 17, 23, 0, 37, 0, 0, []), (23, .aload_n 0, 24, 0, 0, 0, 0, []), (24, .iconst 0, 25, 0, 0, 0, 0, []), (25, .aload_n 0, 26, 0, 0, 0, 0, []), (26, .iconst 1, 27, 1, 0, 0, 0, []), (27, .iconst 5, 28, 5, 0, 0, 0, [])]),
 (55, [(28, .invokevirtual 82, 31, 0, 513, 3, 1, [(0, 859), (0, 861), (0, 22), (0, 79), (0, 862)]), (31, .invokevirtual 53, 34, 0, 517, 3, 0, [(0, 839), (0, 841), (0, 18), (0, 79), (0, 842)]), (34, .goto 27, 37, 0, 61, 0, 0, []), (37, .aload_n 0, 38, 0, 0, 0, 0, []), (38, .invokevirtual 50, 41, 0, 514, 1, 0, [(0, 835), (0, 837), (0, 17), (0, 79), (0, 838)]), (41, .aload_n 0, 42, 0, 0, 0, 0, []), (42, .iload_n 1, 43, 0, 1, 0, 0, []), (43, .iload_n 1, 44, 0, 1, 0, 0, []), (44, .iconst 1, 45, 1, 0, 0, 0, []), (45, .if_icmp .ne 7, 48, 0, 52, 0, 0, []), (48, .iconst 0, 49, 0, 0, 0, 0, []), (49, .goto 9, 52, 0, 58, 0, 0, []), (52, .aload_n 0, 53, 0, 0, 0, 0, []), (53, .iconst 2, 54, 2, 0, 0, 0, []), (54, .iconst 2, 55, 2, 0, 0, 0, []), (55, .invokevirtual 82, 58, 0, 513, 3, 1, [(0, 859), (0, 861), (0, 22), (0, 79), (0, 862)])]),
 (61, [(58, .invokevirtual 53, 61, 0, 517, 3, 0, [(0, 839), (0, 841), (0, 18), (0, 79), (0, 842)]), (61, .return_, 62, 0, 0, 0, 0, [])])]
def tb_Reader_unitOf : List (Nat × List (Nat × am_X)) := [
 (94, [(0, .iload_n 0, 1, 0, 0, 0, 0, []), (1, .tableswitch 92 104 119 #[83, 92, 92, 92, 87, 92, 92, 92, 81, 92, 92, 92, 79, 85, 92, 89], 80, 0, 93, 0, 0, [(104, 84), (108, 88), (112, 82), (116, 80), (117, 86), (119, 90)]), (80, .iconst 1, 81, 1, 0, 0, 0, []), (81, .ireturn, 82, 0, 0, 0, 0, []), (82, .iconst 2, 83, 2, 0, 0, 0, []), (83, .ireturn, 84, 0, 0, 0, 0, []), (84, .iconst 3, 85, 3, 0, 0, 0, []), (85, .ireturn, 86, 0, 0, 0, 0, []), (86, .iconst 4, 87, 4, 0, 0, 0, []), (87, .ireturn, 88, 0, 0, 0, 0, []), (88, .iconst 5, 89, 5, 0, 0, 0, []), (89, .ireturn, 90, 0, 0, 0, 0, []), (90, .bipush 6, 92, 6, 0, 0, 0, []), (92, .ireturn, 93, 0, 0, 0, 0, []), (93, .iload_n 0, 94, 0, 0, 0, 0, []), (94, .bipush 48, 96, 48, 0, 0, 0, [])]),
 (110, [(96, .if_icmp .lt 13, 99, 0, 109, 0, 0, []), (99, .iload_n 0, 100, 0, 0, 0, 0, []), (100, .bipush 57, 102, 57, 0, 0, 0, []), (102, .if_icmp .gt 7, 105, 0, 109, 0, 0, []), (105, .iconst 0, 106, 0, 0, 0, 0, []), (106, .goto 4, 109, 0, 110, 0, 0, []), (109, .iconst (-1), 110, (-1), 0, 0, 0, []), (110, .ireturn, 111, 0, 0, 0, 0, [])])]
def tb_Reader_readAct : List (Nat × List (Nat × am_X)) := [
 (76, [(0, .aload_n 0, 1, 0, 0, 0, 0, []), (1, .getfield 37, 4, 0, 5, 4, 0, [(0, 284)]), (4, .lookupswitch 77 #[(98, 72), (103, 67), (107, 62), (111, 52), (115, 57)], 56, 0, 81, 0, 0, [(98, 76), (103, 71), (107, 66), (111, 56), (115, 61)]), (56, .iconst 1, 57, 1, 0, 0, 0, []), (57, .istore_n 1, 58, 0, 1, 0, 0, []), (58, .goto 28, 61, 0, 86, 0, 0, []), (61, .iconst 2, 62, 2, 0, 0, 0, []), (62, .istore_n 1, 63, 0, 1, 0, 0, []), (63, .goto 23, 66, 0, 86, 0, 0, []), (66, .iconst 3, 67, 3, 0, 0, 0, []), (67, .istore_n 1, 68, 0, 1, 0, 0, []), (68, .goto 18, 71, 0, 86, 0, 0, []), (71, .iconst 4, 72, 4, 0, 0, 0, []), (72, .istore_n 1, 73, 0, 1, 0, 0, []), (73, .goto 13, 76, 0, 86, 0, 0, []), (76, .iconst 5, 77, 5, 0, 0, 0, [])]),
 (102, [(77, .istore_n 1, 78, 0, 1, 0, 0, []), (78, .goto 8, 81, 0, 86, 0, 0, []), (81, .aload_n 0, 82, 0, 0, 0, 0, []), (82, .invokevirtual 63, 85, 0, 516, 1, 0, [(0, 831), (0, 833), (0, 16), (0, 79), (0, 834)]), (85, .return_, 86, 0, 0, 0, 0, []), (86, .aload_n 0, 87, 0, 0, 0, 0, []), (87, .invokevirtual 50, 90, 0, 514, 1, 0, [(0, 835), (0, 837), (0, 17), (0, 79), (0, 838)]), (90, .aload_n 0, 91, 0, 0, 0, 0, []), (91, .iconst 2, 92, 2, 0, 0, 0, []), (92, .iconst 2, 93, 2, 0, 0, 0, []), (93, .invokevirtual 82, 96, 0, 513, 3, 1, [(0, 859), (0, 861), (0, 22), (0, 79), (0, 862)]), (96, .istore_n 2, 97, 0, 2, 0, 0, []), (97, .aload_n 0, 98, 0, 0, 0, 0, []), (98, .getfield 34, 101, 0, 5, 8, 0, [(0, 288)]), (101, .iconst 1, 102, 1, 0, 0, 0, []), (102, .iadd, 103, 0, 0, 0, 0, [])]),
 (130, [(103, .aload_n 0, 104, 0, 0, 0, 0, []), (104, .getfield 18, 107, 0, 5, 7, 2, [(0, 287)]), (107, .arraylength, 108, 0, 0, 0, 0, []), (108, .if_icmp .ge 35, 111, 0, 143, 0, 0, []), (111, .aload_n 0, 112, 0, 0, 0, 0, []), (112, .getfield 18, 115, 0, 5, 7, 2, [(0, 287)]), (115, .aload_n 0, 116, 0, 0, 0, 0, []), (116, .getfield 34, 119, 0, 5, 8, 0, [(0, 288)]), (119, .iload_n 1, 120, 0, 1, 0, 0, []), (120, .iastore, 121, 0, 0, 0, 0, []), (121, .aload_n 0, 122, 0, 0, 0, 0, []), (122, .getfield 18, 125, 0, 5, 7, 2, [(0, 287)]), (125, .aload_n 0, 126, 0, 0, 0, 0, []), (126, .getfield 34, 129, 0, 5, 8, 0, [(0, 288)]), (129, .iconst 1, 130, 1, 0, 0, 0, []), (130, .iadd, 131, 0, 0, 0, 0, [])]),
 (143, [(131, .iload_n 2, 132, 0, 2, 0, 0, []), (132, .iastore, 133, 0, 0, 0, 0, []), (133, .aload_n 0, 134, 0, 0, 0, 0, []), (134, .dup, 135, 0, 0, 0, 0, []), (135, .getfield 34, 138, 0, 5, 8, 0, [(0, 288)]), (138, .iconst 2, 139, 2, 0, 0, 0, []), (139, .iadd, 140, 0, 0, 0, 0, []), (140, .putfield 34, 143, 0, 5, 8, 0, [(0, 288)]), (143, .return_, 144, 0, 0, 0, 0, [])])]
def tb_Reader_readDigits : List (Nat × List (Nat × am_X)) := [
 (27, [(0, .iconst 0, 1, 0, 0, 0, 0, []), (1, .istore_n 3, 2, 0, 3, 0, 0, []), (2, .iconst 0, 3, 0, 0, 0, 0, []), (3, .istore 4, 5, 0, 4, 0, 0, []), (5, .iconst 0, 6, 0, 0, 0, 0, []), (6, .istore 5, 8, 0, 5, 0, 0, []), (8, .iload 5, 10, 0, 5, 0, 0, []), (10, .iload_n 2, 11, 0, 2, 0, 0, []), (11, .if_icmp .ge 47, 14, 0, 58, 0, 0, []), (14, .aload_n 0, 15, 0, 0, 0, 0, []), (15, .getfield 37, 18, 0, 5, 4, 0, [(0, 284)]), (18, .bipush 48, 20, 48, 0, 0, 0, []), (20, .if_icmp .lt 38, 23, 0, 58, 0, 0, []), (23, .aload_n 0, 24, 0, 0, 0, 0, []), (24, .getfield 37, 27, 0, 5, 4, 0, [(0, 284)]), (27, .bipush 57, 29, 57, 0, 0, 0, [])]),
 (58, [(29, .if_icmp .gt 29, 32, 0, 58, 0, 0, []), (32, .bipush 10, 34, 10, 0, 0, 0, []), (34, .iload_n 3, 35, 0, 3, 0, 0, []), (35, .imul, 36, 0, 0, 0, 0, []), (36, .aload_n 0, 37, 0, 0, 0, 0, []), (37, .getfield 37, 40, 0, 5, 4, 0, [(0, 284)]), (40, .iadd, 41, 0, 0, 0, 0, []), (41, .bipush 48, 43, 48, 0, 0, 0, []), (43, .isub, 44, 0, 0, 0, 0, []), (44, .istore_n 3, 45, 0, 3, 0, 0, []), (45, .iinc 4 1, 48, 1, 4, 0, 0, []), (48, .aload_n 0, 49, 0, 0, 0, 0, []), (49, .invokevirtual 50, 52, 0, 514, 1, 0, [(0, 835), (0, 837), (0, 17), (0, 79), (0, 838)]), (52, .iinc 5 1, 55, 1, 5, 0, 0, []), (55, .goto (-47), 58, 0, 8, 0, 0, []), (58, .iload 4, 60, 0, 4, 0, 0, [])]),
 (69, [(60, .iload_n 1, 61, 0, 1, 0, 0, []), (61, .if_icmp .ge 7, 64, 0, 68, 0, 0, []), (64, .aload_n 0, 65, 0, 0, 0, 0, []), (65, .invokevirtual 63, 68, 0, 516, 1, 0, [(0, 831), (0, 833), (0, 16), (0, 79), (0, 834)]), (68, .iload_n 3, 69, 0, 3, 0, 0, []), (69, .ireturn, 70, 0, 0, 0, 0, [])])]
def tb_Reader_step : List (Nat × List (Nat × am_X)) := [
 (27, [(0, .aload_n 0, 1, 0, 0, 0, 0, []), (1, .dup, 2, 0, 0, 0, 0, []), (2, .getfield 25, 5, 0, 5, 3, 0, [(0, 283)]), (5, .iconst 1, 6, 1, 0, 0, 0, []), (6, .iadd, 7, 0, 0, 0, 0, []), (7, .putfield 25, 10, 0, 5, 3, 0, [(0, 283)]), (10, .aload_n 0, 11, 0, 0, 0, 0, []), (11, .aload_n 0, 12, 0, 0, 0, 0, []), (12, .getfield 25, 15, 0, 5, 3, 0, [(0, 283)]), (15, .aload_n 0, 16, 0, 0, 0, 0, []), (16, .getfield 21, 19, 0, 5, 1, 0, [(0, 279)]), (19, .if_icmp .ge 15, 22, 0, 34, 0, 0, []), (22, .aload_n 0, 23, 0, 0, 0, 0, []), (23, .getfield 11, 26, 0, 5, 0, 2, [(0, 278)]), (26, .aload_n 0, 27, 0, 0, 0, 0, []), (27, .getfield 25, 30, 0, 5, 3, 0, [(0, 283)])]),
 (38, [(30, .iaload, 31, 0, 0, 0, 0, []), (31, .goto 4, 34, 0, 35, 0, 0, []), (34, .iconst (-1), 35, (-1), 0, 0, 0, []), (35, .putfield 37, 38, 0, 5, 4, 0, [(0, 284)]), (38, .return_, 39, 0, 0, 0, 0, [])])]
def tb_Reader_stepOver : List (Nat × List (Nat × am_X)) := [
 (19, [(0, .aload_n 0, 1, 0, 0, 0, 0, []), (1, .getfield 37, 4, 0, 5, 4, 0, [(0, 284)]), (4, .iload_n 1, 5, 0, 1, 0, 0, []), (5, .if_icmp .ne 10, 8, 0, 15, 0, 0, []), (8, .aload_n 0, 9, 0, 0, 0, 0, []), (9, .invokevirtual 50, 12, 0, 514, 1, 0, [(0, 835), (0, 837), (0, 17), (0, 79), (0, 838)]), (12, .goto 7, 15, 0, 19, 0, 0, []), (15, .aload_n 0, 16, 0, 0, 0, 0, []), (16, .invokevirtual 63, 19, 0, 516, 1, 0, [(0, 831), (0, 833), (0, 16), (0, 79), (0, 834)]), (19, .return_, 20, 0, 0, 0, 0, [])])]
def tb_Reader_fail : List (Nat × List (Nat × am_X)) := [
 (20, [(0, .aload_n 0, 1, 0, 0, 0, 0, []), (1, .getfield 28, 4, 0, 5, 2, 0, [(0, 281)]), (4, .ifCond .ge 11, 7, 0, 15, 0, 0, []), (7, .aload_n 0, 8, 0, 0, 0, 0, []), (8, .aload_n 0, 9, 0, 0, 0, 0, []), (9, .getfield 25, 12, 0, 5, 3, 0, [(0, 283)]), (12, .putfield 28, 15, 0, 5, 2, 0, [(0, 281)]), (15, .aload_n 0, 16, 0, 0, 0, 0, []), (16, .iconst (-1), 17, (-1), 0, 0, 0, []), (17, .putfield 37, 20, 0, 5, 4, 0, [(0, 284)]), (20, .return_, 21, 0, 0, 0, 0, [])])]
def tb_Reader_put : List (Nat × List (Nat × am_X)) := [
 (26, [(0, .aload_n 0, 1, 0, 0, 0, 0, []), (1, .getfield 31, 4, 0, 5, 6, 0, [(0, 286)]), (4, .aload_n 0, 5, 0, 0, 0, 0, []), (5, .getfield 15, 8, 0, 5, 5, 2, [(0, 285)]), (8, .arraylength, 9, 0, 0, 0, 0, []), (9, .if_icmp .ge 28, 12, 0, 37, 0, 0, []), (12, .aload_n 0, 13, 0, 0, 0, 0, []), (13, .getfield 15, 16, 0, 5, 5, 2, [(0, 285)]), (16, .aload_n 0, 17, 0, 0, 0, 0, []), (17, .getfield 31, 20, 0, 5, 6, 0, [(0, 286)]), (20, .iload_n 1, 21, 0, 1, 0, 0, []), (21, .bipush 17, 23, 17, 0, 0, 0, []), (23, .ishl, 24, 0, 0, 0, 0, []), (24, .iload_n 2, 25, 0, 2, 0, 0, []), (25, .ior, 26, 0, 0, 0, 0, []), (26, .iastore, 27, 0, 0, 0, 0, [])]),
 (37, [(27, .aload_n 0, 28, 0, 0, 0, 0, []), (28, .dup, 29, 0, 0, 0, 0, []), (29, .getfield 31, 32, 0, 5, 6, 0, [(0, 286)]), (32, .iconst 1, 33, 1, 0, 0, 0, []), (33, .iadd, 34, 0, 0, 0, 0, []), (34, .putfield 31, 37, 0, 5, 6, 0, [(0, 286)]), (37, .return_, 38, 0, 0, 0, 0, [])])]
def tb_Tellings_init : List (Nat × List (Nat × am_X)) := [
 (29, [(0, .aload_n 0, 1, 0, 0, 0, 0, []), (1, .invokespecial 3, 4, 0, 9999, 1, 0, [(0, 313), (0, 97), (0, 98)]), (4, .aload_n 0, 5, 0, 0, 0, 0, []), (5, .bipush 60, 7, 60, 0, 0, 0, []), (7, .newarray .int, 9, 0, 100, 0, 0, [(0, 157)]), (9, .putfield 9, 12, 0, 6, 0, 2, [(0, 314)]), (12, .aload_n 0, 13, 0, 0, 0, 0, []), (13, .bipush 60, 15, 60, 0, 0, 0, []), (15, .newarray .int, 17, 0, 100, 0, 0, [(0, 157)]), (17, .putfield 15, 20, 0, 6, 1, 2, [(0, 315)]), (20, .aload_n 0, 21, 0, 0, 0, 0, []), (21, .bipush 60, 23, 60, 0, 0, 0, []), (23, .newarray .int, 25, 0, 100, 0, 0, [(0, 157)]), (25, .putfield 18, 28, 0, 6, 2, 2, [(0, 316)]), (28, .aload_n 0, 29, 0, 0, 0, 0, []), (29, .bipush 60, 31, 60, 0, 0, 0, [])]),
 (36, [(31, .newarray .int, 33, 0, 100, 0, 0, [(0, 157)]), (33, .putfield 21, 36, 0, 6, 3, 2, [(0, 317)]), (36, .return_, 37, 0, 0, 0, 0, [])])]
def tb_Tellings_add : List (Nat × List (Nat × am_X)) := [
 (28, [(0, .aload_n 0, 1, 0, 0, 0, 0, []), (1, .getfield 24, 4, 0, 6, 4, 0, [(0, 319)]), (4, .bipush 60, 6, 60, 0, 0, 0, []), (6, .if_icmp .ge 54, 9, 0, 60, 0, 0, []), (9, .aload_n 0, 10, 0, 0, 0, 0, []), (10, .getfield 9, 13, 0, 6, 0, 2, [(0, 314)]), (13, .aload_n 0, 14, 0, 0, 0, 0, []), (14, .getfield 24, 17, 0, 6, 4, 0, [(0, 319)]), (17, .iload_n 1, 18, 0, 1, 0, 0, []), (18, .iastore, 19, 0, 0, 0, 0, []), (19, .aload_n 0, 20, 0, 0, 0, 0, []), (20, .getfield 15, 23, 0, 6, 1, 2, [(0, 315)]), (23, .aload_n 0, 24, 0, 0, 0, 0, []), (24, .getfield 24, 27, 0, 6, 4, 0, [(0, 319)]), (27, .iload_n 2, 28, 0, 2, 0, 0, []), (28, .iastore, 29, 0, 0, 0, 0, [])]),
 (55, [(29, .aload_n 0, 30, 0, 0, 0, 0, []), (30, .getfield 21, 33, 0, 6, 3, 2, [(0, 317)]), (33, .aload_n 0, 34, 0, 0, 0, 0, []), (34, .getfield 24, 37, 0, 6, 4, 0, [(0, 319)]), (37, .iload_n 3, 38, 0, 3, 0, 0, []), (38, .iastore, 39, 0, 0, 0, 0, []), (39, .aload_n 0, 40, 0, 0, 0, 0, []), (40, .getfield 18, 43, 0, 6, 2, 2, [(0, 316)]), (43, .aload_n 0, 44, 0, 0, 0, 0, []), (44, .getfield 24, 47, 0, 6, 4, 0, [(0, 319)]), (47, .iload 4, 49, 0, 4, 0, 0, []), (49, .iastore, 50, 0, 0, 0, 0, []), (50, .aload_n 0, 51, 0, 0, 0, 0, []), (51, .dup, 52, 0, 0, 0, 0, []), (52, .getfield 24, 55, 0, 6, 4, 0, [(0, 319)]), (55, .iconst 1, 56, 1, 0, 0, 0, [])]),
 (60, [(56, .iadd, 57, 0, 0, 0, 0, []), (57, .putfield 24, 60, 0, 6, 4, 0, [(0, 319)]), (60, .return_, 61, 0, 0, 0, 0, [])])]
def tb_Tellings_latest : List (Nat × List (Nat × am_X)) := [
 (28, [(0, .aload_n 0, 1, 0, 0, 0, 0, []), (1, .getfield 24, 4, 0, 6, 4, 0, [(0, 319)]), (4, .iconst 1, 5, 1, 0, 0, 0, []), (5, .isub, 6, 0, 0, 0, 0, []), (6, .istore 4, 8, 0, 4, 0, 0, []), (8, .iload 4, 10, 0, 4, 0, 0, []), (10, .ifCond .lt 45, 13, 0, 55, 0, 0, []), (13, .aload_n 0, 14, 0, 0, 0, 0, []), (14, .getfield 9, 17, 0, 6, 0, 2, [(0, 314)]), (17, .iload 4, 19, 0, 4, 0, 0, []), (19, .iaload, 20, 0, 0, 0, 0, []), (20, .iload_n 1, 21, 0, 1, 0, 0, []), (21, .if_icmp .ne 28, 24, 0, 49, 0, 0, []), (24, .aload_n 0, 25, 0, 0, 0, 0, []), (25, .getfield 15, 28, 0, 6, 1, 2, [(0, 315)]), (28, .iload 4, 30, 0, 4, 0, 0, [])]),
 (56, [(30, .iaload, 31, 0, 0, 0, 0, []), (31, .iload_n 2, 32, 0, 2, 0, 0, []), (32, .if_icmp .ne 17, 35, 0, 49, 0, 0, []), (35, .aload_n 0, 36, 0, 0, 0, 0, []), (36, .getfield 18, 39, 0, 6, 2, 2, [(0, 316)]), (39, .iload 4, 41, 0, 4, 0, 0, []), (41, .iaload, 42, 0, 0, 0, 0, []), (42, .iload_n 3, 43, 0, 3, 0, 0, []), (43, .if_icmp .gt 6, 46, 0, 49, 0, 0, []), (46, .iload 4, 48, 0, 4, 0, 0, []), (48, .ireturn, 49, 0, 0, 0, 0, []), (49, .iinc 4 (-1), 52, (-1), 4, 0, 0, []), (52, .goto (-44), 55, 0, 8, 0, 0, []), (55, .iconst (-1), 56, (-1), 0, 0, 0, []), (56, .ireturn, 57, 0, 0, 0, 0, [])])]
def tb_Tellings_off : List (Nat × List (Nat × am_X)) := [
 (27, [(0, .iconst 0, 1, 0, 0, 0, 0, []), (1, .istore 4, 3, 0, 4, 0, 0, []), (3, .iconst 0, 4, 0, 0, 0, 0, []), (4, .istore 5, 6, 0, 5, 0, 0, []), (6, .iload 5, 8, 0, 5, 0, 0, []), (8, .aload_n 0, 9, 0, 0, 0, 0, []), (9, .getfield 24, 12, 0, 6, 4, 0, [(0, 319)]), (12, .if_icmp .ge 65, 15, 0, 77, 0, 0, []), (15, .aload_n 0, 16, 0, 0, 0, 0, []), (16, .getfield 9, 19, 0, 6, 0, 2, [(0, 314)]), (19, .iload 5, 21, 0, 5, 0, 0, []), (21, .iaload, 22, 0, 0, 0, 0, []), (22, .iload_n 1, 23, 0, 1, 0, 0, []), (23, .if_icmp .ne 48, 26, 0, 71, 0, 0, []), (26, .aload_n 0, 27, 0, 0, 0, 0, []), (27, .iload_n 1, 28, 0, 1, 0, 0, [])]),
 (55, [(28, .aload_n 0, 29, 0, 0, 0, 0, []), (29, .getfield 15, 32, 0, 6, 1, 2, [(0, 315)]), (32, .iload 5, 34, 0, 5, 0, 0, []), (34, .iaload, 35, 0, 0, 0, 0, []), (35, .iload_n 2, 36, 0, 2, 0, 0, []), (36, .invokevirtual 28, 39, 0, 602, 4, 1, [(0, 950), (0, 939), (0, 940), (0, 80), (0, 941)]), (39, .iload 5, 41, 0, 5, 0, 0, []), (41, .if_icmp .ne 30, 44, 0, 71, 0, 0, []), (44, .iload 4, 46, 0, 4, 0, 0, []), (46, .aload_n 0, 47, 0, 0, 0, 0, []), (47, .getfield 21, 50, 0, 6, 3, 2, [(0, 317)]), (50, .iload 5, 52, 0, 5, 0, 0, []), (52, .iaload, 53, 0, 0, 0, 0, []), (53, .aload_n 3, 54, 0, 3, 0, 0, []), (54, .aload_n 0, 55, 0, 0, 0, 0, []), (55, .getfield 15, 58, 0, 6, 1, 2, [(0, 315)])]),
 (79, [(58, .iload 5, 60, 0, 5, 0, 0, []), (60, .iaload, 61, 0, 0, 0, 0, []), (61, .invokevirtual 32, 64, 0, 304, 2, 1, [(0, 951), (0, 952), (0, 953), (0, 84), (0, 954)]), (64, .isub, 65, 0, 0, 0, 0, []), (65, .invokestatic 38, 68, 0, 9994, 1, 1, [(0, 955), (0, 956), (0, 83), (0, 957)]), (68, .iadd, 69, 0, 0, 0, 0, []), (69, .istore 4, 71, 0, 4, 0, 0, []), (71, .iinc 5 1, 74, 1, 5, 0, 0, []), (74, .goto (-68), 77, 0, 6, 0, 0, []), (77, .iload 4, 79, 0, 4, 0, 0, []), (79, .ireturn, 80, 0, 0, 0, 0, [])])]
def tb_Train_init : List (Nat × List (Nat × am_X)) := [
 (26, [(0, .aload_n 0, 1, 0, 0, 0, 0, []), (1, .invokespecial 1, 4, 0, 9999, 1, 0, [(0, 609), (0, 97), (0, 98)]), (4, .aload_n 0, 5, 0, 0, 0, 0, []), (5, .iload_n 1, 6, 0, 1, 0, 0, []), (6, .putfield 7, 9, 0, 7, 0, 0, [(0, 611)]), (9, .aload_n 0, 10, 0, 0, 0, 0, []), (10, .iload_n 2, 11, 0, 2, 0, 0, []), (11, .putfield 13, 14, 0, 7, 1, 0, [(0, 613)]), (14, .aload_n 0, 15, 0, 0, 0, 0, []), (15, .iconst 1, 16, 1, 0, 0, 0, []), (16, .iload_n 3, 17, 0, 3, 0, 0, []), (17, .invokestatic 16, 20, 0, 9996, 2, 1, [(0, 610), (0, 402), (0, 83), (0, 403)]), (20, .putfield 22, 23, 0, 7, 2, 0, [(0, 615)]), (23, .aload_n 0, 24, 0, 0, 0, 0, []), (24, .iload 4, 26, 0, 4, 0, 0, []), (26, .putfield 25, 29, 0, 7, 3, 0, [(0, 617)])]),
 (29, [(29, .return_, 30, 0, 0, 0, 0, [])])]
def tb_Train_comesOn : List (Nat × List (Nat × am_X)) := [
 (29, [(0, .aload_n 0, 1, 0, 0, 0, 0, []), (1, .getfield 28, 4, 0, 7, 5, 1, [(0, 620)]), (4, .ifCond .ne 29, 7, 0, 33, 0, 0, []), (7, .iload_n 1, 8, 0, 1, 0, 0, []), (8, .aload_n 0, 9, 0, 0, 0, 0, []), (9, .getfield 13, 12, 0, 7, 1, 0, [(0, 613)]), (12, .if_icmp .lt 21, 15, 0, 33, 0, 0, []), (15, .iload_n 1, 16, 0, 1, 0, 0, []), (16, .aload_n 0, 17, 0, 0, 0, 0, []), (17, .getfield 13, 20, 0, 7, 1, 0, [(0, 613)]), (20, .isub, 21, 0, 0, 0, 0, []), (21, .aload_n 0, 22, 0, 0, 0, 0, []), (22, .getfield 22, 25, 0, 7, 2, 0, [(0, 615)]), (25, .irem, 26, 0, 0, 0, 0, []), (26, .ifCond .ne 7, 29, 0, 33, 0, 0, []), (29, .iconst 1, 30, 1, 0, 0, 0, [])]),
 (34, [(30, .goto 4, 33, 0, 34, 0, 0, []), (33, .iconst 0, 34, 0, 0, 0, 0, []), (34, .ireturn, 35, 0, 0, 0, 1, [])])]
def tb_Ways_init : List (Nat × List (Nat × am_X)) := [
 (31, [(0, .aload_n 0, 1, 0, 0, 0, 0, []), (1, .invokespecial 3, 4, 0, 9999, 1, 0, [(0, 163), (0, 97), (0, 98)]), (4, .aload_n 0, 5, 0, 0, 0, 0, []), (5, .sipush 800, 8, 800, 0, 0, 0, []), (8, .newarray .int, 10, 0, 100, 0, 0, [(0, 157)]), (10, .putfield 9, 13, 0, 8, 0, 2, [(0, 164)]), (13, .aload_n 0, 14, 0, 0, 0, 0, []), (14, .sipush 800, 17, 800, 0, 0, 0, []), (17, .newarray .int, 19, 0, 100, 0, 0, [(0, 157)]), (19, .putfield 15, 22, 0, 8, 1, 2, [(0, 166)]), (22, .aload_n 0, 23, 0, 0, 0, 0, []), (23, .bipush 40, 25, 40, 0, 0, 0, []), (25, .newarray .int, 27, 0, 100, 0, 0, [(0, 157)]), (27, .putfield 18, 30, 0, 8, 2, 2, [(0, 169)]), (30, .aload_n 0, 31, 0, 0, 0, 0, []), (31, .iconst 1, 32, 1, 0, 0, 0, [])]),
 (35, [(32, .putfield 21, 35, 0, 8, 3, 0, [(0, 170)]), (35, .return_, 36, 0, 0, 0, 0, [])])]
def tb_Ways_forget : List (Nat × List (Nat × am_X)) := [
 (10, [(0, .aload_n 0, 1, 0, 0, 0, 0, []), (1, .dup, 2, 0, 0, 0, 0, []), (2, .getfield 21, 5, 0, 8, 3, 0, [(0, 170)]), (5, .iconst 1, 6, 1, 0, 0, 0, []), (6, .iadd, 7, 0, 0, 0, 0, []), (7, .putfield 21, 10, 0, 8, 3, 0, [(0, 170)]), (10, .return_, 11, 0, 0, 0, 0, [])])]
def tb_Ways_rowTo : List (Nat × List (Nat × am_X)) := [
 (27, [(0, .iload_n 3, 1, 0, 3, 0, 0, []), (1, .ifCond .eq 10, 4, 0, 11, 0, 0, []), (4, .bipush 20, 6, 20, 0, 0, 0, []), (6, .iload_n 2, 7, 0, 2, 0, 0, []), (7, .iadd, 8, 0, 0, 0, 0, []), (8, .goto 4, 11, 0, 12, 0, 0, []), (11, .iload_n 2, 12, 0, 2, 0, 0, []), (12, .istore 4, 14, 0, 4, 0, 0, []), (14, .iload 4, 16, 0, 4, 0, 0, []), (16, .bipush 20, 18, 20, 0, 0, 0, []), (18, .imul, 19, 0, 0, 0, 0, []), (19, .istore 5, 21, 0, 5, 0, 0, []), (21, .aload_n 0, 22, 0, 0, 0, 0, []), (22, .getfield 18, 25, 0, 8, 2, 2, [(0, 169)]), (25, .iload 4, 27, 0, 4, 0, 0, []), (27, .iaload, 28, 0, 0, 0, 0, [])]),
 (57, [(28, .aload_n 0, 29, 0, 0, 0, 0, []), (29, .getfield 21, 32, 0, 8, 3, 0, [(0, 170)]), (32, .if_icmp .eq 90, 35, 0, 122, 0, 0, []), (35, .aload_n 0, 36, 0, 0, 0, 0, []), (36, .getfield 18, 39, 0, 8, 2, 2, [(0, 169)]), (39, .iload 4, 41, 0, 4, 0, 0, []), (41, .aload_n 0, 42, 0, 0, 0, 0, []), (42, .getfield 21, 45, 0, 8, 3, 0, [(0, 170)]), (45, .iastore, 46, 0, 0, 0, 0, []), (46, .aload_n 0, 47, 0, 0, 0, 0, []), (47, .getfield 9, 50, 0, 8, 0, 2, [(0, 164)]), (50, .iload 5, 52, 0, 5, 0, 0, []), (52, .iload 5, 54, 0, 5, 0, 0, []), (54, .bipush 20, 56, 20, 0, 0, 0, []), (56, .iadd, 57, 0, 0, 0, 0, []), (57, .bipush (-9), 59, (-9), 0, 0, 0, [])]),
 (87, [(59, .invokestatic 25, 62, 0, 1205, 4, 0, [(0, 716), (0, 717), (0, 87), (0, 718)]), (62, .aload_n 0, 63, 0, 0, 0, 0, []), (63, .getfield 15, 66, 0, 8, 1, 2, [(0, 166)]), (66, .iload 5, 68, 0, 5, 0, 0, []), (68, .iload 5, 70, 0, 5, 0, 0, []), (70, .bipush 20, 72, 20, 0, 0, 0, []), (72, .iadd, 73, 0, 0, 0, 0, []), (73, .bipush (-9), 75, (-9), 0, 0, 0, []), (75, .invokestatic 25, 78, 0, 1205, 4, 0, [(0, 716), (0, 717), (0, 87), (0, 718)]), (78, .aload_n 0, 79, 0, 0, 0, 0, []), (79, .getfield 9, 82, 0, 8, 0, 2, [(0, 164)]), (82, .iload 5, 84, 0, 5, 0, 0, []), (84, .iload_n 2, 85, 0, 2, 0, 0, []), (85, .iadd, 86, 0, 0, 0, 0, []), (86, .iconst 0, 87, 0, 0, 0, 0, []), (87, .iastore, 88, 0, 0, 0, 0, [])]),
 (116, [(88, .iconst 1, 89, 1, 0, 0, 0, []), (89, .istore 6, 91, 0, 6, 0, 0, []), (91, .iconst 0, 92, 0, 0, 0, 0, []), (92, .istore 7, 94, 0, 7, 0, 0, []), (94, .iload 7, 96, 0, 7, 0, 0, []), (96, .bipush 20, 98, 20, 0, 0, 0, []), (98, .if_icmp .ge 24, 101, 0, 122, 0, 0, []), (101, .iload 6, 103, 0, 6, 0, 0, []), (103, .ifCond .eq 19, 106, 0, 122, 0, 0, []), (106, .aload_n 0, 107, 0, 0, 0, 0, []), (107, .aload_n 1, 108, 0, 1, 0, 0, []), (108, .iload 5, 110, 0, 5, 0, 0, []), (110, .iload_n 3, 111, 0, 3, 0, 0, []), (111, .invokevirtual 31, 114, 0, 803, 4, 1, [(0, 722), (0, 724), (0, 8), (0, 78), (0, 725)]), (114, .istore 6, 116, 0, 6, 0, 0, []), (116, .iinc 7 1, 119, 1, 7, 0, 0, [])]),
 (124, [(119, .goto (-25), 122, 0, 94, 0, 0, []), (122, .iload 5, 124, 0, 5, 0, 0, []), (124, .ireturn, 125, 0, 0, 0, 0, [])])]
def tb_Ways_shorten : List (Nat × List (Nat × am_X)) := [
 (24, [(0, .iconst 0, 1, 0, 0, 0, 0, []), (1, .istore 4, 3, 0, 4, 0, 0, []), (3, .iconst 0, 4, 0, 0, 0, 0, []), (4, .istore 5, 6, 0, 5, 0, 0, []), (6, .iload 5, 8, 0, 5, 0, 0, []), (8, .iconst 2, 9, 2, 0, 0, 0, []), (9, .aload_n 1, 10, 0, 1, 0, 0, []), (10, .getfield 35, 13, 0, 9, 3, 0, [(0, 199)]), (13, .imul, 14, 0, 0, 0, 0, []), (14, .if_icmp .ge 268, 17, 0, 282, 0, 0, []), (17, .iload 5, 19, 0, 5, 0, 0, []), (19, .iconst 2, 20, 2, 0, 0, 0, []), (20, .idiv, 21, 0, 0, 0, 0, []), (21, .istore 6, 23, 0, 6, 0, 0, []), (23, .aload_n 1, 24, 0, 1, 0, 0, []), (24, .getfield 40, 27, 0, 9, 2, 2, [(0, 196)])]),
 (56, [(27, .iload 6, 29, 0, 6, 0, 0, []), (29, .aaload, 30, 0, 0, 0, 0, []), (30, .astore 7, 32, 0, 7, 0, 0, []), (32, .iload_n 2, 33, 0, 2, 0, 0, []), (33, .iload 5, 35, 0, 5, 0, 0, []), (35, .iconst 2, 36, 2, 0, 0, 0, []), (36, .irem, 37, 0, 0, 0, 0, []), (37, .ifCond .ne 11, 40, 0, 48, 0, 0, []), (40, .aload 7, 42, 0, 7, 0, 0, []), (42, .getfield 44, 45, 0, 3, 0, 0, [(0, 477)]), (45, .goto 8, 48, 0, 53, 0, 0, []), (48, .aload 7, 50, 0, 7, 0, 0, []), (50, .getfield 49, 53, 0, 3, 1, 0, [(0, 480)]), (53, .iadd, 54, 0, 0, 0, 0, []), (54, .istore 8, 56, 0, 8, 0, 0, []), (56, .iload 5, 58, 0, 5, 0, 0, [])]),
 (88, [(58, .iconst 2, 59, 2, 0, 0, 0, []), (59, .irem, 60, 0, 0, 0, 0, []), (60, .ifCond .ne 11, 63, 0, 71, 0, 0, []), (63, .aload 7, 65, 0, 7, 0, 0, []), (65, .getfield 49, 68, 0, 3, 1, 0, [(0, 480)]), (68, .goto 8, 71, 0, 76, 0, 0, []), (71, .aload 7, 73, 0, 7, 0, 0, []), (73, .getfield 44, 76, 0, 3, 0, 0, [(0, 477)]), (76, .istore 9, 78, 0, 9, 0, 0, []), (78, .aload 7, 80, 0, 7, 0, 0, []), (80, .getfield 52, 83, 0, 3, 3, 2, [(0, 487)]), (83, .iconst 1, 84, 1, 0, 0, 0, []), (84, .iaload, 85, 0, 0, 0, 0, []), (85, .istore 10, 87, 0, 10, 0, 0, []), (87, .aload_n 0, 88, 0, 0, 0, 0, []), (88, .getfield 9, 91, 0, 8, 0, 2, [(0, 164)])]),
 (120, [(91, .iload_n 2, 92, 0, 2, 0, 0, []), (92, .iload 9, 94, 0, 9, 0, 0, []), (94, .iadd, 95, 0, 0, 0, 0, []), (95, .iaload, 96, 0, 0, 0, 0, []), (96, .bipush (-9), 98, (-9), 0, 0, 0, []), (98, .if_icmp .eq 178, 101, 0, 276, 0, 0, []), (101, .iload 6, 103, 0, 6, 0, 0, []), (103, .aload_n 1, 104, 0, 1, 0, 0, []), (104, .getfield 55, 107, 0, 9, 15, 0, [(0, 223)]), (107, .if_icmp .eq 169, 110, 0, 276, 0, 0, []), (110, .aload 7, 112, 0, 7, 0, 0, []), (112, .getfield 52, 115, 0, 3, 3, 2, [(0, 487)]), (115, .iconst 0, 116, 0, 0, 0, 0, []), (116, .iaload, 117, 0, 0, 0, 0, []), (117, .ifCond .eq 159, 120, 0, 276, 0, 0, []), (120, .iload 10, 122, 0, 10, 0, 0, [])]),
 (148, [(122, .ifCond .eq 14, 125, 0, 136, 0, 0, []), (125, .iload 10, 127, 0, 10, 0, 0, []), (127, .iconst 1, 128, 1, 0, 0, 0, []), (128, .iload 5, 130, 0, 5, 0, 0, []), (130, .iconst 2, 131, 2, 0, 0, 0, []), (131, .irem, 132, 0, 0, 0, 0, []), (132, .iadd, 133, 0, 0, 0, 0, []), (133, .if_icmp .ne 143, 136, 0, 276, 0, 0, []), (136, .iload_n 3, 137, 0, 3, 0, 0, []), (137, .ifCond .eq 17, 140, 0, 154, 0, 0, []), (140, .aload 7, 142, 0, 7, 0, 0, []), (142, .getfield 52, 145, 0, 3, 3, 2, [(0, 487)]), (145, .iconst 2, 146, 2, 0, 0, 0, []), (146, .iaload, 147, 0, 0, 0, 0, []), (147, .iconst 1, 148, 1, 0, 0, 0, []), (148, .if_icmp .ne 6, 151, 0, 154, 0, 0, [])]),
 (179, [(151, .goto 125, 154, 0, 276, 0, 0, []), (154, .aload_n 0, 155, 0, 0, 0, 0, []), (155, .getfield 9, 158, 0, 8, 0, 2, [(0, 164)]), (158, .iload_n 2, 159, 0, 2, 0, 0, []), (159, .iload 9, 161, 0, 9, 0, 0, []), (161, .iadd, 162, 0, 0, 0, 0, []), (162, .iaload, 163, 0, 0, 0, 0, []), (163, .aload 7, 165, 0, 7, 0, 0, []), (165, .getfield 58, 168, 0, 3, 2, 0, [(0, 483)]), (168, .iadd, 169, 0, 0, 0, 0, []), (169, .aload_n 1, 170, 0, 1, 0, 0, []), (170, .getfield 61, 173, 0, 9, 0, 2, [(0, 191)]), (173, .iload 9, 175, 0, 9, 0, 0, []), (175, .aaload, 176, 0, 0, 0, 0, []), (176, .getfield 65, 179, 0, 0, 9, 1, [(0, 428)]), (179, .ifCond .eq 12, 182, 0, 191, 0, 0, [])]),
 (209, [(182, .aload_n 1, 183, 0, 1, 0, 0, []), (183, .getfield 71, 186, 0, 9, 13, 2, [(0, 218)]), (186, .iconst 2, 187, 2, 0, 0, 0, []), (187, .iaload, 188, 0, 0, 0, 0, []), (188, .goto 4, 191, 0, 192, 0, 0, []), (191, .iconst 0, 192, 0, 0, 0, 0, []), (192, .iadd, 193, 0, 0, 0, 0, []), (193, .istore 11, 195, 0, 11, 0, 0, []), (195, .aload_n 0, 196, 0, 0, 0, 0, []), (196, .getfield 9, 199, 0, 8, 0, 2, [(0, 164)]), (199, .iload 8, 201, 0, 8, 0, 0, []), (201, .iaload, 202, 0, 0, 0, 0, []), (202, .bipush (-9), 204, (-9), 0, 0, 0, []), (204, .if_icmp .eq 15, 207, 0, 219, 0, 0, []), (207, .iload 11, 209, 0, 11, 0, 0, []), (209, .aload_n 0, 210, 0, 0, 0, 0, [])]),
 (238, [(210, .getfield 9, 213, 0, 8, 0, 2, [(0, 164)]), (213, .iload 8, 215, 0, 8, 0, 0, []), (215, .iaload, 216, 0, 0, 0, 0, []), (216, .if_icmp .ge 27, 219, 0, 243, 0, 0, []), (219, .aload_n 0, 220, 0, 0, 0, 0, []), (220, .getfield 9, 223, 0, 8, 0, 2, [(0, 164)]), (223, .iload 8, 225, 0, 8, 0, 0, []), (225, .iload 11, 227, 0, 11, 0, 0, []), (227, .iastore, 228, 0, 0, 0, 0, []), (228, .aload_n 0, 229, 0, 0, 0, 0, []), (229, .getfield 15, 232, 0, 8, 1, 2, [(0, 166)]), (232, .iload 8, 234, 0, 8, 0, 0, []), (234, .iload 6, 236, 0, 6, 0, 0, []), (236, .iastore, 237, 0, 0, 0, 0, []), (237, .iconst 1, 238, 1, 0, 0, 0, []), (238, .istore 4, 240, 0, 4, 0, 0, [])]),
 (271, [(240, .goto 36, 243, 0, 276, 0, 0, []), (243, .iload 11, 245, 0, 11, 0, 0, []), (245, .aload_n 0, 246, 0, 0, 0, 0, []), (246, .getfield 9, 249, 0, 8, 0, 2, [(0, 164)]), (249, .iload 8, 251, 0, 8, 0, 0, []), (251, .iaload, 252, 0, 0, 0, 0, []), (252, .if_icmp .ne 24, 255, 0, 276, 0, 0, []), (255, .iload 6, 257, 0, 6, 0, 0, []), (257, .aload_n 0, 258, 0, 0, 0, 0, []), (258, .getfield 15, 261, 0, 8, 1, 2, [(0, 166)]), (261, .iload 8, 263, 0, 8, 0, 0, []), (263, .iaload, 264, 0, 0, 0, 0, []), (264, .if_icmp .ge 12, 267, 0, 276, 0, 0, []), (267, .aload_n 0, 268, 0, 0, 0, 0, []), (268, .getfield 15, 271, 0, 8, 1, 2, [(0, 166)]), (271, .iload 8, 273, 0, 8, 0, 0, [])]),
 (284, [(273, .iload 6, 275, 0, 6, 0, 0, []), (275, .iastore, 276, 0, 0, 0, 0, []), (276, .iinc 5 1, 279, 1, 5, 0, 0, []), (279, .goto (-273), 282, 0, 6, 0, 0, []), (282, .iload 4, 284, 0, 4, 0, 0, []), (284, .ireturn, 285, 0, 0, 0, 1, [])])]
def tb_World_init : List (Nat × List (Nat × am_X)) := [
 (32, [(0, .aload_n 0, 1, 0, 0, 0, 0, []), (1, .invokespecial 3, 4, 0, 9999, 1, 0, [(0, 104), (0, 97), (0, 98)]), (4, .aload_n 0, 5, 0, 0, 0, 0, []), (5, .bipush 20, 7, 20, 0, 0, 0, []), (7, .anewarray 9, 10, 0, 0, 0, 0, [(0, 105)]), (10, .putfield 11, 13, 0, 9, 0, 2, [(0, 189)]), (13, .aload_n 0, 14, 0, 0, 0, 0, []), (14, .bipush 30, 16, 30, 0, 0, 0, []), (16, .anewarray 17, 19, 0, 3, 0, 0, [(0, 107)]), (19, .putfield 19, 22, 0, 9, 2, 2, [(0, 194)]), (22, .aload_n 0, 23, 0, 0, 0, 0, []), (23, .bipush 24, 25, 24, 0, 0, 0, []), (25, .anewarray 23, 28, 0, 1, 0, 0, [(0, 109)]), (28, .putfield 25, 31, 0, 9, 4, 2, [(0, 200)]), (31, .aload_n 0, 32, 0, 0, 0, 0, []), (32, .bipush 8, 34, 8, 0, 0, 0, [])]),
 (68, [(34, .anewarray 29, 37, 0, 7, 0, 0, [(0, 111)]), (37, .putfield 31, 40, 0, 9, 6, 2, [(0, 204)]), (40, .aload_n 0, 41, 0, 0, 0, 0, []), (41, .bipush 12, 43, 12, 0, 0, 0, []), (43, .anewarray 35, 46, 0, 4, 0, 0, [(0, 113)]), (46, .putfield 37, 49, 0, 9, 8, 2, [(0, 208)]), (49, .aload_n 0, 50, 0, 0, 0, 0, []), (50, .bipush 12, 52, 12, 0, 0, 0, []), (52, .newarray .boolean, 54, 0, 101, 0, 0, [(0, 156)]), (54, .putfield 41, 57, 0, 9, 10, 2, [(0, 212)]), (57, .aload_n 0, 58, 0, 0, 0, 0, []), (58, .new 45, 61, 0, 2, 7, 0, [(0, 115), (0, 116), (0, 77)]), (61, .dup, 62, 0, 0, 0, 0, []), (62, .invokespecial 47, 65, 0, 200, 1, 0, [(1, 117), (0, 118), (0, 77), (0, 119)]), (65, .putfield 48, 68, 0, 9, 11, 2, [(0, 213)]), (68, .aload_n 0, 69, 0, 0, 0, 0, [])]),
 (102, [(69, .new 52, 72, 0, 8, 4, 0, [(0, 158), (0, 159), (0, 78)]), (72, .dup, 73, 0, 0, 0, 0, []), (73, .invokespecial 54, 76, 0, 800, 1, 0, [(1, 160), (0, 161), (0, 78), (0, 162)]), (76, .putfield 55, 79, 0, 9, 12, 2, [(0, 215)]), (79, .aload_n 0, 80, 0, 0, 0, 0, []), (80, .getstatic 59, 83, 0, 305, 0, 0, [(1, 180)]), (83, .invokevirtual 63, 86, 0, 9998, 1, 1, [(0, 182), (0, 183), (0, 184), (0, 185), (0, 186)]), (86, .checkcast 64, 89, 0, 0, 0, 0, [(0, 188)]), (89, .putfield 68, 92, 0, 9, 13, 2, [(0, 217)]), (92, .aload_n 0, 93, 0, 0, 0, 0, []), (93, .iconst (-1), 94, (-1), 0, 0, 0, []), (94, .putfield 71, 97, 0, 9, 15, 0, [(0, 222)]), (97, .aload_n 0, 98, 0, 0, 0, 0, []), (98, .bipush 120, 100, 120, 0, 0, 0, []), (100, .newarray .int, 102, 0, 100, 0, 0, [(0, 157)]), (102, .putfield 75, 105, 0, 9, 19, 2, [(0, 230)])]),
 (105, [(105, .return_, 106, 0, 0, 0, 0, [])])]
def tb_World_isArea : List (Nat × List (Nat × am_X)) := [
 (17, [(0, .iload_n 1, 1, 0, 1, 0, 0, []), (1, .ifCond .lt 15, 4, 0, 16, 0, 0, []), (4, .iload_n 1, 5, 0, 1, 0, 0, []), (5, .aload_n 0, 6, 0, 0, 0, 0, []), (6, .getfield 78, 9, 0, 9, 1, 0, [(0, 192)]), (9, .if_icmp .ge 7, 12, 0, 16, 0, 0, []), (12, .iconst 1, 13, 1, 0, 0, 0, []), (13, .goto 4, 16, 0, 17, 0, 0, []), (16, .iconst 0, 17, 0, 0, 0, 0, []), (17, .ireturn, 18, 0, 0, 0, 1, [])])]
def tb_World_isGoal : List (Nat × List (Nat × am_X)) := [
 (26, [(0, .aload_n 0, 1, 0, 0, 0, 0, []), (1, .iload_n 1, 2, 0, 1, 0, 0, []), (2, .invokevirtual 81, 5, 0, 901, 2, 1, [(0, 538), (0, 459), (0, 460), (0, 76), (0, 461)]), (5, .ifCond .eq 20, 8, 0, 25, 0, 0, []), (8, .aload_n 0, 9, 0, 0, 0, 0, []), (9, .getfield 11, 12, 0, 9, 0, 2, [(0, 189)]), (12, .iload_n 1, 13, 0, 1, 0, 0, []), (13, .aaload, 14, 0, 0, 0, 0, []), (14, .getfield 85, 17, 0, 0, 0, 0, [(0, 405)]), (17, .iconst 3, 18, 3, 0, 0, 0, []), (18, .if_icmp .ne 7, 21, 0, 25, 0, 0, []), (21, .iconst 1, 22, 1, 0, 0, 0, []), (22, .goto 4, 25, 0, 26, 0, 0, []), (25, .iconst 0, 26, 0, 0, 0, 0, []), (26, .ireturn, 27, 0, 0, 0, 1, [])])]
def tb_World_isLink : List (Nat × List (Nat × am_X)) := [
 (17, [(0, .iload_n 1, 1, 0, 1, 0, 0, []), (1, .ifCond .lt 15, 4, 0, 16, 0, 0, []), (4, .iload_n 1, 5, 0, 1, 0, 0, []), (5, .aload_n 0, 6, 0, 0, 0, 0, []), (6, .getfield 88, 9, 0, 9, 3, 0, [(0, 198)]), (9, .if_icmp .ge 7, 12, 0, 16, 0, 0, []), (12, .iconst 1, 13, 1, 0, 0, 0, []), (13, .goto 4, 16, 0, 17, 0, 0, []), (16, .iconst 0, 17, 0, 0, 0, 0, []), (17, .ireturn, 18, 0, 0, 0, 1, [])])]
def tb_World_isFolk : List (Nat × List (Nat × am_X)) := [
 (17, [(0, .iload_n 1, 1, 0, 1, 0, 0, []), (1, .ifCond .lt 15, 4, 0, 16, 0, 0, []), (4, .iload_n 1, 5, 0, 1, 0, 0, []), (5, .aload_n 0, 6, 0, 0, 0, 0, []), (6, .getfield 91, 9, 0, 9, 5, 0, [(0, 202)]), (9, .if_icmp .ge 7, 12, 0, 16, 0, 0, []), (12, .iconst 1, 13, 1, 0, 0, 0, []), (13, .goto 4, 16, 0, 17, 0, 0, []), (16, .iconst 0, 17, 0, 0, 0, 0, []), (17, .ireturn, 18, 0, 0, 0, 1, [])])]
def tb_World_isTrain : List (Nat × List (Nat × am_X)) := [
 (17, [(0, .iload_n 1, 1, 0, 1, 0, 0, []), (1, .ifCond .lt 15, 4, 0, 16, 0, 0, []), (4, .iload_n 1, 5, 0, 1, 0, 0, []), (5, .aload_n 0, 6, 0, 0, 0, 0, []), (6, .getfield 94, 9, 0, 9, 7, 0, [(0, 206)]), (9, .if_icmp .ge 7, 12, 0, 16, 0, 0, []), (12, .iconst 1, 13, 1, 0, 0, 0, []), (13, .goto 4, 16, 0, 17, 0, 0, []), (16, .iconst 0, 17, 0, 0, 0, 0, []), (17, .ireturn, 18, 0, 0, 0, 1, [])])]
def tb_World_isOrder : List (Nat × List (Nat × am_X)) := [
 (17, [(0, .iload_n 1, 1, 0, 1, 0, 0, []), (1, .ifCond .lt 15, 4, 0, 16, 0, 0, []), (4, .iload_n 1, 5, 0, 1, 0, 0, []), (5, .aload_n 0, 6, 0, 0, 0, 0, []), (6, .getfield 97, 9, 0, 9, 9, 0, [(0, 210)]), (9, .if_icmp .ge 7, 12, 0, 16, 0, 0, []), (12, .iconst 1, 13, 1, 0, 0, 0, []), (13, .goto 4, 16, 0, 17, 0, 0, []), (16, .iconst 0, 17, 0, 0, 0, 0, []), (17, .ireturn, 18, 0, 0, 0, 1, [])])]
def tb_World_copyFrom : List (Nat × List (Nat × am_X)) := [
 (23, [(0, .aload_n 0, 1, 0, 0, 0, 0, []), (1, .aload_n 1, 2, 0, 1, 0, 0, []), (2, .invokevirtual 100, 5, 0, 908, 2, 0, [(0, 970), (0, 972), (0, 25), (0, 76), (0, 973)]), (5, .iconst 0, 6, 0, 0, 0, 0, []), (6, .istore_n 2, 7, 0, 2, 0, 0, []), (7, .iload_n 2, 8, 0, 2, 0, 0, []), (8, .aload_n 1, 9, 0, 1, 0, 0, []), (9, .getfield 91, 12, 0, 9, 5, 0, [(0, 202)]), (12, .if_icmp .ge 63, 15, 0, 75, 0, 0, []), (15, .aload_n 1, 16, 0, 1, 0, 0, []), (16, .getfield 25, 19, 0, 9, 4, 2, [(0, 200)]), (19, .iload_n 2, 20, 0, 2, 0, 0, []), (20, .aaload, 21, 0, 0, 0, 0, []), (21, .astore_n 3, 22, 0, 3, 0, 0, []), (22, .iload_n 2, 23, 0, 2, 0, 0, []), (23, .aload_n 0, 24, 0, 0, 0, 0, [])]),
 (55, [(24, .getfield 91, 27, 0, 9, 5, 0, [(0, 202)]), (27, .if_icmp .lt 32, 30, 0, 59, 0, 0, []), (30, .aload_n 0, 31, 0, 0, 0, 0, []), (31, .getfield 25, 34, 0, 9, 4, 2, [(0, 200)]), (34, .iload_n 2, 35, 0, 2, 0, 0, []), (35, .new 23, 38, 0, 1, 10, 0, [(0, 109), (0, 540), (0, 85)]), (38, .dup, 39, 0, 0, 0, 0, []), (39, .aload_n 3, 40, 0, 3, 0, 0, []), (40, .getfield 104, 43, 0, 1, 0, 0, [(0, 546)]), (43, .aload_n 3, 44, 0, 3, 0, 0, []), (44, .getfield 107, 47, 0, 1, 1, 0, [(0, 548)]), (47, .aload_n 3, 48, 0, 3, 0, 0, []), (48, .getfield 110, 51, 0, 1, 2, 0, [(0, 551)]), (51, .aload_n 3, 52, 0, 3, 0, 0, []), (52, .getfield 113, 55, 0, 1, 3, 0, [(0, 554)]), (55, .invokespecial 114, 58, 0, 100, 5, 0, [(0, 985), (0, 542), (0, 85), (0, 543)])]),
 (85, [(58, .aastore, 59, 0, 0, 0, 0, []), (59, .aload_n 0, 60, 0, 0, 0, 0, []), (60, .getfield 25, 63, 0, 9, 4, 2, [(0, 200)]), (63, .iload_n 2, 64, 0, 2, 0, 0, []), (64, .aaload, 65, 0, 0, 0, 0, []), (65, .aload_n 3, 66, 0, 3, 0, 0, []), (66, .invokevirtual 117, 69, 0, 101, 2, 0, [(0, 986), (0, 987), (0, 988), (0, 85), (0, 989)]), (69, .iinc 2 1, 72, 1, 2, 0, 0, []), (72, .goto (-65), 75, 0, 7, 0, 0, []), (75, .aload_n 0, 76, 0, 0, 0, 0, []), (76, .aload_n 1, 77, 0, 1, 0, 0, []), (77, .getfield 91, 80, 0, 9, 5, 0, [(0, 202)]), (80, .putfield 91, 83, 0, 9, 5, 0, [(0, 202)]), (83, .iconst 0, 84, 0, 0, 0, 0, []), (84, .istore_n 2, 85, 0, 2, 0, 0, []), (85, .iload_n 2, 86, 0, 2, 0, 0, [])]),
 (113, [(86, .aload_n 1, 87, 0, 1, 0, 0, []), (87, .getfield 94, 90, 0, 9, 7, 0, [(0, 206)]), (90, .if_icmp .ge 66, 93, 0, 156, 0, 0, []), (93, .aload_n 1, 94, 0, 1, 0, 0, []), (94, .getfield 31, 97, 0, 9, 6, 2, [(0, 204)]), (97, .iload_n 2, 98, 0, 2, 0, 0, []), (98, .aaload, 99, 0, 0, 0, 0, []), (99, .astore_n 3, 100, 0, 3, 0, 0, []), (100, .iload_n 2, 101, 0, 2, 0, 0, []), (101, .aload_n 0, 102, 0, 0, 0, 0, []), (102, .getfield 94, 105, 0, 9, 7, 0, [(0, 206)]), (105, .if_icmp .lt 32, 108, 0, 137, 0, 0, []), (108, .aload_n 0, 109, 0, 0, 0, 0, []), (109, .getfield 31, 112, 0, 9, 6, 2, [(0, 204)]), (112, .iload_n 2, 113, 0, 2, 0, 0, []), (113, .new 29, 116, 0, 7, 6, 0, [(0, 111), (0, 605), (0, 86)])]),
 (143, [(116, .dup, 117, 0, 0, 0, 0, []), (117, .aload_n 3, 118, 0, 3, 0, 0, []), (118, .getfield 121, 121, 0, 7, 0, 0, [(0, 612)]), (121, .aload_n 3, 122, 0, 3, 0, 0, []), (122, .getfield 124, 125, 0, 7, 1, 0, [(0, 614)]), (125, .aload_n 3, 126, 0, 3, 0, 0, []), (126, .getfield 127, 129, 0, 7, 2, 0, [(0, 616)]), (129, .aload_n 3, 130, 0, 3, 0, 0, []), (130, .getfield 130, 133, 0, 7, 3, 0, [(0, 618)]), (133, .invokespecial 133, 136, 0, 700, 5, 0, [(0, 991), (0, 607), (0, 86), (0, 608)]), (136, .aastore, 137, 0, 0, 0, 0, []), (137, .aload_n 0, 138, 0, 0, 0, 0, []), (138, .getfield 31, 141, 0, 9, 6, 2, [(0, 204)]), (141, .iload_n 2, 142, 0, 2, 0, 0, []), (142, .aaload, 143, 0, 0, 0, 0, []), (143, .aload_n 3, 144, 0, 3, 0, 0, [])]),
 (177, [(144, .getfield 134, 147, 0, 7, 5, 1, [(0, 622)]), (147, .putfield 134, 150, 0, 7, 5, 1, [(0, 622)]), (150, .iinc 2 1, 153, 1, 2, 0, 0, []), (153, .goto (-68), 156, 0, 85, 0, 0, []), (156, .aload_n 0, 157, 0, 0, 0, 0, []), (157, .aload_n 1, 158, 0, 1, 0, 0, []), (158, .getfield 94, 161, 0, 9, 7, 0, [(0, 206)]), (161, .putfield 94, 164, 0, 9, 7, 0, [(0, 206)]), (164, .aload_n 0, 165, 0, 0, 0, 0, []), (165, .aload_n 1, 166, 0, 1, 0, 0, []), (166, .getfield 37, 169, 0, 9, 8, 2, [(0, 208)]), (169, .putfield 37, 172, 0, 9, 8, 2, [(0, 208)]), (172, .aload_n 0, 173, 0, 0, 0, 0, []), (173, .aload_n 1, 174, 0, 1, 0, 0, []), (174, .getfield 97, 177, 0, 9, 9, 0, [(0, 210)]), (177, .putfield 97, 180, 0, 9, 9, 0, [(0, 210)])]),
 (209, [(180, .aload_n 1, 181, 0, 1, 0, 0, []), (181, .getfield 41, 184, 0, 9, 10, 2, [(0, 212)]), (184, .iconst 0, 185, 0, 0, 0, 0, []), (185, .aload_n 0, 186, 0, 0, 0, 0, []), (186, .getfield 41, 189, 0, 9, 10, 2, [(0, 212)]), (189, .iconst 0, 190, 0, 0, 0, 0, []), (190, .aload_n 0, 191, 0, 0, 0, 0, []), (191, .getfield 41, 194, 0, 9, 10, 2, [(0, 212)]), (194, .arraylength, 195, 0, 0, 0, 0, []), (195, .invokestatic 137, 198, 0, 9997, 5, 0, [(0, 992), (0, 885), (0, 884), (0, 89)]), (198, .aload_n 0, 199, 0, 0, 0, 0, []), (199, .getfield 48, 202, 0, 9, 11, 2, [(0, 213)]), (202, .aload_n 1, 203, 0, 1, 0, 0, []), (203, .getfield 48, 206, 0, 9, 11, 2, [(0, 213)]), (206, .invokevirtual 143, 209, 0, 201, 2, 0, [(0, 993), (0, 994), (0, 995), (0, 77), (0, 996)]), (209, .aload_n 1, 210, 0, 1, 0, 0, [])]),
 (239, [(210, .getfield 68, 213, 0, 9, 13, 2, [(0, 217)]), (213, .iconst 0, 214, 0, 0, 0, 0, []), (214, .aload_n 0, 215, 0, 0, 0, 0, []), (215, .getfield 68, 218, 0, 9, 13, 2, [(0, 217)]), (218, .iconst 0, 219, 0, 0, 0, 0, []), (219, .aload_n 0, 220, 0, 0, 0, 0, []), (220, .getfield 68, 223, 0, 9, 13, 2, [(0, 217)]), (223, .arraylength, 224, 0, 0, 0, 0, []), (224, .invokestatic 137, 227, 0, 9997, 5, 0, [(0, 992), (0, 885), (0, 884), (0, 89)]), (227, .aload_n 0, 228, 0, 0, 0, 0, []), (228, .aload_n 1, 229, 0, 1, 0, 0, []), (229, .getfield 146, 232, 0, 9, 14, 0, [(0, 221)]), (232, .putfield 146, 235, 0, 9, 14, 0, [(0, 221)]), (235, .aload_n 0, 236, 0, 0, 0, 0, []), (236, .getfield 55, 239, 0, 9, 12, 2, [(0, 215)]), (239, .invokevirtual 149, 242, 0, 801, 1, 0, [(0, 529), (0, 451), (0, 452), (0, 78), (0, 453)])]),
 (242, [(242, .return_, 243, 0, 0, 0, 0, [])])]
def tb_World_copyGround : List (Nat × List (Nat × am_X)) := [
 (25, [(0, .iconst 0, 1, 0, 0, 0, 0, []), (1, .istore_n 2, 2, 0, 2, 0, 0, []), (2, .iload_n 2, 3, 0, 2, 0, 0, []), (3, .aload_n 1, 4, 0, 1, 0, 0, []), (4, .getfield 78, 7, 0, 9, 1, 0, [(0, 192)]), (7, .if_icmp .ge 55, 10, 0, 62, 0, 0, []), (10, .aload_n 1, 11, 0, 1, 0, 0, []), (11, .getfield 11, 14, 0, 9, 0, 2, [(0, 189)]), (14, .iload_n 2, 15, 0, 2, 0, 0, []), (15, .aaload, 16, 0, 0, 0, 0, []), (16, .astore_n 3, 17, 0, 3, 0, 0, []), (17, .iload_n 2, 18, 0, 2, 0, 0, []), (18, .aload_n 0, 19, 0, 0, 0, 0, []), (19, .getfield 78, 22, 0, 9, 1, 0, [(0, 192)]), (22, .if_icmp .lt 24, 25, 0, 46, 0, 0, []), (25, .aload_n 0, 26, 0, 0, 0, 0, [])]),
 (53, [(26, .getfield 11, 29, 0, 9, 0, 2, [(0, 189)]), (29, .iload_n 2, 30, 0, 2, 0, 0, []), (30, .new 9, 33, 0, 0, 10, 0, [(0, 105), (0, 396), (0, 82)]), (33, .dup, 34, 0, 0, 0, 0, []), (34, .aload_n 3, 35, 0, 3, 0, 0, []), (35, .getfield 85, 38, 0, 0, 0, 0, [(0, 405)]), (38, .aload_n 3, 39, 0, 3, 0, 0, []), (39, .getfield 152, 42, 0, 0, 1, 0, [(0, 409)]), (42, .invokespecial 155, 45, 0, 0, 3, 0, [(0, 974), (0, 398), (0, 82), (0, 399)]), (45, .aastore, 46, 0, 0, 0, 0, []), (46, .aload_n 0, 47, 0, 0, 0, 0, []), (47, .getfield 11, 50, 0, 9, 0, 2, [(0, 189)]), (50, .iload_n 2, 51, 0, 2, 0, 0, []), (51, .aaload, 52, 0, 0, 0, 0, []), (52, .aload_n 3, 53, 0, 3, 0, 0, []), (53, .invokevirtual 158, 56, 0, 1, 2, 0, [(0, 975), (0, 976), (0, 977), (0, 82), (0, 978)])]),
 (85, [(56, .iinc 2 1, 59, 1, 2, 0, 0, []), (59, .goto (-57), 62, 0, 2, 0, 0, []), (62, .aload_n 0, 63, 0, 0, 0, 0, []), (63, .aload_n 1, 64, 0, 1, 0, 0, []), (64, .getfield 78, 67, 0, 9, 1, 0, [(0, 192)]), (67, .putfield 78, 70, 0, 9, 1, 0, [(0, 192)]), (70, .iconst 0, 71, 0, 0, 0, 0, []), (71, .istore_n 2, 72, 0, 2, 0, 0, []), (72, .iload_n 2, 73, 0, 2, 0, 0, []), (73, .aload_n 1, 74, 0, 1, 0, 0, []), (74, .getfield 88, 77, 0, 9, 3, 0, [(0, 198)]), (77, .if_icmp .ge 59, 80, 0, 136, 0, 0, []), (80, .aload_n 1, 81, 0, 1, 0, 0, []), (81, .getfield 19, 84, 0, 9, 2, 2, [(0, 194)]), (84, .iload_n 2, 85, 0, 2, 0, 0, []), (85, .aaload, 86, 0, 0, 0, 0, [])]),
 (113, [(86, .astore_n 3, 87, 0, 3, 0, 0, []), (87, .iload_n 2, 88, 0, 2, 0, 0, []), (88, .aload_n 0, 89, 0, 0, 0, 0, []), (89, .getfield 88, 92, 0, 9, 3, 0, [(0, 198)]), (92, .if_icmp .lt 28, 95, 0, 120, 0, 0, []), (95, .aload_n 0, 96, 0, 0, 0, 0, []), (96, .getfield 19, 99, 0, 9, 2, 2, [(0, 194)]), (99, .iload_n 2, 100, 0, 2, 0, 0, []), (100, .new 17, 103, 0, 3, 8, 0, [(0, 107), (0, 467), (0, 84)]), (103, .dup, 104, 0, 0, 0, 0, []), (104, .aload_n 3, 105, 0, 3, 0, 0, []), (105, .getfield 161, 108, 0, 3, 0, 0, [(0, 478)]), (108, .aload_n 3, 109, 0, 3, 0, 0, []), (109, .getfield 164, 112, 0, 3, 1, 0, [(0, 481)]), (112, .aload_n 3, 113, 0, 3, 0, 0, []), (113, .getfield 167, 116, 0, 3, 2, 0, [(0, 484)])]),
 (144, [(116, .invokespecial 170, 119, 0, 300, 4, 0, [(0, 979), (0, 469), (0, 84), (0, 470)]), (119, .aastore, 120, 0, 0, 0, 0, []), (120, .aload_n 0, 121, 0, 0, 0, 0, []), (121, .getfield 19, 124, 0, 9, 2, 2, [(0, 194)]), (124, .iload_n 2, 125, 0, 2, 0, 0, []), (125, .aaload, 126, 0, 0, 0, 0, []), (126, .aload_n 3, 127, 0, 3, 0, 0, []), (127, .invokevirtual 173, 130, 0, 301, 2, 0, [(0, 980), (0, 981), (0, 982), (0, 84), (0, 983)]), (130, .iinc 2 1, 133, 1, 2, 0, 0, []), (133, .goto (-61), 136, 0, 72, 0, 0, []), (136, .aload_n 0, 137, 0, 0, 0, 0, []), (137, .aload_n 1, 138, 0, 1, 0, 0, []), (138, .getfield 88, 141, 0, 9, 3, 0, [(0, 198)]), (141, .putfield 88, 144, 0, 9, 3, 0, [(0, 198)]), (144, .return_, 145, 0, 0, 0, 0, [])])]
def tb_World_change : List (Nat × List (Nat × am_X)) := [
 (19, [(0, .aload_n 0, 1, 0, 0, 0, 0, []), (1, .getfield 19, 4, 0, 9, 2, 2, [(0, 194)]), (4, .iload_n 1, 5, 0, 1, 0, 0, []), (5, .aaload, 6, 0, 0, 0, 0, []), (6, .getfield 176, 9, 0, 3, 3, 2, [(0, 488)]), (9, .iload_n 2, 10, 0, 2, 0, 0, []), (10, .iload_n 3, 11, 0, 3, 0, 0, []), (11, .iastore, 12, 0, 0, 0, 0, []), (12, .aload_n 0, 13, 0, 0, 0, 0, []), (13, .getfield 55, 16, 0, 9, 12, 2, [(0, 215)]), (16, .invokevirtual 149, 19, 0, 801, 1, 0, [(0, 529), (0, 451), (0, 452), (0, 78), (0, 453)]), (19, .return_, 20, 0, 0, 0, 0, [])])]
def tb_World_shift : List (Nat × List (Nat × am_X)) := [
 (25, [(0, .aload_n 0, 1, 0, 0, 0, 0, []), (1, .getfield 11, 4, 0, 9, 0, 2, [(0, 189)]), (4, .iload_n 1, 5, 0, 1, 0, 0, []), (5, .aaload, 6, 0, 0, 0, 0, []), (6, .dup, 7, 0, 0, 0, 0, []), (7, .getfield 179, 10, 0, 0, 2, 0, [(0, 412)]), (10, .iload_n 2, 11, 0, 2, 0, 0, []), (11, .iadd, 12, 0, 0, 0, 0, []), (12, .putfield 179, 15, 0, 0, 2, 0, [(0, 412)]), (15, .aload_n 0, 16, 0, 0, 0, 0, []), (16, .getfield 11, 19, 0, 9, 0, 2, [(0, 189)]), (19, .iload_n 1, 20, 0, 1, 0, 0, []), (20, .aaload, 21, 0, 0, 0, 0, []), (21, .aload_n 0, 22, 0, 0, 0, 0, []), (22, .getfield 68, 25, 0, 9, 13, 2, [(0, 217)]), (25, .iconst 1, 26, 1, 0, 0, 0, [])]),
 (40, [(26, .iaload, 27, 0, 0, 0, 0, []), (27, .invokevirtual 180, 30, 0, 3, 2, 1, [(0, 596), (0, 597), (0, 598), (0, 82), (0, 599)]), (30, .ifCond .eq 10, 33, 0, 40, 0, 0, []), (33, .aload_n 0, 34, 0, 0, 0, 0, []), (34, .getfield 55, 37, 0, 9, 12, 2, [(0, 215)]), (37, .invokevirtual 149, 40, 0, 801, 1, 0, [(0, 529), (0, 451), (0, 452), (0, 78), (0, 453)]), (40, .return_, 41, 0, 0, 0, 0, [])])]
def tb_World_seeAllTight : List (Nat × List (Nat × am_X)) := [
 (25, [(0, .iconst 0, 1, 0, 0, 0, 0, []), (1, .istore_n 1, 2, 0, 1, 0, 0, []), (2, .iload_n 1, 3, 0, 1, 0, 0, []), (3, .aload_n 0, 4, 0, 0, 0, 0, []), (4, .getfield 78, 7, 0, 9, 1, 0, [(0, 192)]), (7, .if_icmp .ge 25, 10, 0, 32, 0, 0, []), (10, .aload_n 0, 11, 0, 0, 0, 0, []), (11, .getfield 11, 14, 0, 9, 0, 2, [(0, 189)]), (14, .iload_n 1, 15, 0, 1, 0, 0, []), (15, .aaload, 16, 0, 0, 0, 0, []), (16, .aload_n 0, 17, 0, 0, 0, 0, []), (17, .getfield 68, 20, 0, 9, 13, 2, [(0, 217)]), (20, .iconst 1, 21, 1, 0, 0, 0, []), (21, .iaload, 22, 0, 0, 0, 0, []), (22, .invokevirtual 180, 25, 0, 3, 2, 1, [(0, 596), (0, 597), (0, 598), (0, 82), (0, 599)]), (25, .pop, 26, 0, 0, 0, 0, [])]),
 (39, [(26, .iinc 1 1, 29, 1, 1, 0, 0, []), (29, .goto (-27), 32, 0, 2, 0, 0, []), (32, .aload_n 0, 33, 0, 0, 0, 0, []), (33, .getfield 55, 36, 0, 9, 12, 2, [(0, 215)]), (36, .invokevirtual 149, 39, 0, 801, 1, 0, [(0, 529), (0, 451), (0, 452), (0, 78), (0, 453)]), (39, .return_, 40, 0, 0, 0, 0, [])])]
def tb_World_allInside : List (Nat × List (Nat × am_X)) := [
 (25, [(0, .aload_n 0, 1, 0, 0, 0, 0, []), (1, .invokevirtual 183, 4, 0, 913, 1, 1, [(0, 1016), (0, 1018), (0, 28), (0, 76), (0, 1019)]), (4, .istore_n 1, 5, 0, 1, 0, 0, []), (5, .iconst 0, 6, 0, 0, 0, 0, []), (6, .istore_n 2, 7, 0, 2, 0, 0, []), (7, .iload_n 2, 8, 0, 2, 0, 0, []), (8, .aload_n 0, 9, 0, 0, 0, 0, []), (9, .getfield 91, 12, 0, 9, 5, 0, [(0, 202)]), (12, .if_icmp .ge 21, 15, 0, 33, 0, 0, []), (15, .iload_n 1, 16, 0, 1, 0, 0, []), (16, .aload_n 0, 17, 0, 0, 0, 0, []), (17, .getfield 25, 20, 0, 9, 4, 2, [(0, 200)]), (20, .iload_n 2, 21, 0, 2, 0, 0, []), (21, .aaload, 22, 0, 0, 0, 0, []), (22, .getfield 187, 25, 0, 1, 7, 0, [(0, 564)]), (25, .iadd, 26, 0, 0, 0, 0, [])]),
 (34, [(26, .istore_n 1, 27, 0, 1, 0, 0, []), (27, .iinc 2 1, 30, 1, 2, 0, 0, []), (30, .goto (-23), 33, 0, 7, 0, 0, []), (33, .iload_n 1, 34, 0, 1, 0, 0, []), (34, .ireturn, 35, 0, 0, 0, 0, [])])]
def tb_World_allOnWay : List (Nat × List (Nat × am_X)) := [
 (23, [(0, .iconst 0, 1, 0, 0, 0, 0, []), (1, .istore_n 1, 2, 0, 1, 0, 0, []), (2, .iconst 0, 3, 0, 0, 0, 0, []), (3, .istore_n 2, 4, 0, 2, 0, 0, []), (4, .iload_n 2, 5, 0, 2, 0, 0, []), (5, .aload_n 0, 6, 0, 0, 0, 0, []), (6, .getfield 78, 9, 0, 9, 1, 0, [(0, 192)]), (9, .if_icmp .ge 21, 12, 0, 30, 0, 0, []), (12, .iload_n 1, 13, 0, 1, 0, 0, []), (13, .aload_n 0, 14, 0, 0, 0, 0, []), (14, .getfield 11, 17, 0, 9, 0, 2, [(0, 189)]), (17, .iload_n 2, 18, 0, 2, 0, 0, []), (18, .aaload, 19, 0, 0, 0, 0, []), (19, .getfield 190, 22, 0, 0, 3, 0, [(0, 414)]), (22, .iadd, 23, 0, 0, 0, 0, []), (23, .istore_n 1, 24, 0, 1, 0, 0, [])]),
 (31, [(24, .iinc 2 1, 27, 1, 2, 0, 0, []), (27, .goto (-23), 30, 0, 4, 0, 0, []), (30, .iload_n 1, 31, 0, 1, 0, 0, []), (31, .ireturn, 32, 0, 0, 0, 0, [])])]
def tb_World_allOut : List (Nat × List (Nat × am_X)) := [
 (23, [(0, .iconst 0, 1, 0, 0, 0, 0, []), (1, .istore_n 1, 2, 0, 1, 0, 0, []), (2, .iconst 0, 3, 0, 0, 0, 0, []), (3, .istore_n 2, 4, 0, 2, 0, 0, []), (4, .iload_n 2, 5, 0, 2, 0, 0, []), (5, .aload_n 0, 6, 0, 0, 0, 0, []), (6, .getfield 91, 9, 0, 9, 5, 0, [(0, 202)]), (9, .if_icmp .ge 21, 12, 0, 30, 0, 0, []), (12, .iload_n 1, 13, 0, 1, 0, 0, []), (13, .aload_n 0, 14, 0, 0, 0, 0, []), (14, .getfield 25, 17, 0, 9, 4, 2, [(0, 200)]), (17, .iload_n 2, 18, 0, 2, 0, 0, []), (18, .aaload, 19, 0, 0, 0, 0, []), (19, .getfield 193, 22, 0, 1, 8, 0, [(0, 567)]), (22, .iadd, 23, 0, 0, 0, 0, []), (23, .istore_n 1, 24, 0, 1, 0, 0, [])]),
 (31, [(24, .iinc 2 1, 27, 1, 2, 0, 0, []), (27, .goto (-23), 30, 0, 4, 0, 0, []), (30, .iload_n 1, 31, 0, 1, 0, 0, []), (31, .ireturn, 32, 0, 0, 0, 0, [])])]
def tb_World_allFell : List (Nat × List (Nat × am_X)) := [
 (23, [(0, .iconst 0, 1, 0, 0, 0, 0, []), (1, .istore_n 1, 2, 0, 1, 0, 0, []), (2, .iconst 0, 3, 0, 0, 0, 0, []), (3, .istore_n 2, 4, 0, 2, 0, 0, []), (4, .iload_n 2, 5, 0, 2, 0, 0, []), (5, .aload_n 0, 6, 0, 0, 0, 0, []), (6, .getfield 78, 9, 0, 9, 1, 0, [(0, 192)]), (9, .if_icmp .ge 21, 12, 0, 30, 0, 0, []), (12, .iload_n 1, 13, 0, 1, 0, 0, []), (13, .aload_n 0, 14, 0, 0, 0, 0, []), (14, .getfield 11, 17, 0, 9, 0, 2, [(0, 189)]), (17, .iload_n 2, 18, 0, 2, 0, 0, []), (18, .aaload, 19, 0, 0, 0, 0, []), (19, .getfield 196, 22, 0, 0, 6, 0, [(0, 422)]), (22, .iadd, 23, 0, 0, 0, 0, []), (23, .istore_n 1, 24, 0, 1, 0, 0, [])]),
 (31, [(24, .iinc 2 1, 27, 1, 2, 0, 0, []), (27, .goto (-23), 30, 0, 4, 0, 0, []), (30, .iload_n 1, 31, 0, 1, 0, 0, []), (31, .ireturn, 32, 0, 0, 0, 0, [])])]
def tb_World_allTaken : List (Nat × List (Nat × am_X)) := [
 (23, [(0, .iconst 0, 1, 0, 0, 0, 0, []), (1, .istore_n 1, 2, 0, 1, 0, 0, []), (2, .iconst 0, 3, 0, 0, 0, 0, []), (3, .istore_n 2, 4, 0, 2, 0, 0, []), (4, .iload_n 2, 5, 0, 2, 0, 0, []), (5, .aload_n 0, 6, 0, 0, 0, 0, []), (6, .getfield 94, 9, 0, 9, 7, 0, [(0, 206)]), (9, .if_icmp .ge 21, 12, 0, 30, 0, 0, []), (12, .iload_n 1, 13, 0, 1, 0, 0, []), (13, .aload_n 0, 14, 0, 0, 0, 0, []), (14, .getfield 31, 17, 0, 9, 6, 2, [(0, 204)]), (17, .iload_n 2, 18, 0, 2, 0, 0, []), (18, .aaload, 19, 0, 0, 0, 0, []), (19, .getfield 199, 22, 0, 7, 4, 0, [(0, 619)]), (22, .iadd, 23, 0, 0, 0, 0, []), (23, .istore_n 1, 24, 0, 1, 0, 0, [])]),
 (31, [(24, .iinc 2 1, 27, 1, 2, 0, 0, []), (27, .goto (-23), 30, 0, 4, 0, 0, []), (30, .iload_n 1, 31, 0, 1, 0, 0, []), (31, .ireturn, 32, 0, 0, 0, 0, [])])]
def tb_World_ordersThatStand : List (Nat × List (Nat × am_X)) := [
 (25, [(0, .iconst 0, 1, 0, 0, 0, 0, []), (1, .istore_n 1, 2, 0, 1, 0, 0, []), (2, .iconst 0, 3, 0, 0, 0, 0, []), (3, .istore_n 2, 4, 0, 2, 0, 0, []), (4, .iload_n 2, 5, 0, 2, 0, 0, []), (5, .aload_n 0, 6, 0, 0, 0, 0, []), (6, .getfield 97, 9, 0, 9, 9, 0, [(0, 210)]), (9, .if_icmp .ge 29, 12, 0, 38, 0, 0, []), (12, .iload_n 1, 13, 0, 1, 0, 0, []), (13, .aload_n 0, 14, 0, 0, 0, 0, []), (14, .getfield 37, 17, 0, 9, 8, 2, [(0, 208)]), (17, .iload_n 2, 18, 0, 2, 0, 0, []), (18, .aaload, 19, 0, 0, 0, 0, []), (19, .getfield 202, 22, 0, 4, 2, 1, [(0, 900)]), (22, .ifCond .eq 7, 25, 0, 29, 0, 0, []), (25, .iconst 1, 26, 1, 0, 0, 0, [])]),
 (39, [(26, .goto 4, 29, 0, 30, 0, 0, []), (29, .iconst 0, 30, 0, 0, 0, 0, []), (30, .iadd, 31, 0, 0, 0, 0, []), (31, .istore_n 1, 32, 0, 1, 0, 0, []), (32, .iinc 2 1, 35, 1, 2, 0, 0, []), (35, .goto (-31), 38, 0, 4, 0, 0, []), (38, .iload_n 1, 39, 0, 1, 0, 0, []), (39, .ireturn, 40, 0, 0, 0, 0, [])])]
def tb_World_empty : List (Nat × List (Nat × am_X)) := [
 (26, [(0, .aload_n 0, 1, 0, 0, 0, 0, []), (1, .iconst (-1), 2, (-1), 0, 0, 0, []), (2, .putfield 205, 5, 0, 9, 16, 0, [(0, 225)]), (5, .aload_n 0, 6, 0, 0, 0, 0, []), (6, .bipush (-9), 8, (-9), 0, 0, 0, []), (8, .putfield 208, 11, 0, 9, 17, 0, [(0, 227)]), (11, .aload_n 0, 12, 0, 0, 0, 0, []), (12, .invokevirtual 211, 15, 0, 919, 1, 1, [(0, 1003), (0, 1005), (0, 26), (0, 76), (0, 1006)]), (15, .istore_n 3, 16, 0, 3, 0, 0, []), (16, .iconst 0, 17, 0, 0, 0, 0, []), (17, .istore 4, 19, 0, 4, 0, 0, []), (19, .iload_n 3, 20, 0, 3, 0, 0, []), (20, .ifCond .ne 56, 23, 0, 76, 0, 0, []), (23, .iload 4, 25, 0, 4, 0, 0, []), (25, .iload_n 1, 26, 0, 1, 0, 0, []), (26, .if_icmp .ge 50, 29, 0, 76, 0, 0, [])]),
 (60, [(29, .aload_n 0, 30, 0, 0, 0, 0, []), (30, .getfield 205, 33, 0, 9, 16, 0, [(0, 225)]), (33, .iload_n 2, 34, 0, 2, 0, 0, []), (34, .if_icmp .gt 42, 37, 0, 76, 0, 0, []), (37, .aload_n 0, 38, 0, 0, 0, 0, []), (38, .invokevirtual 215, 41, 0, 921, 1, 0, [(0, 1011), (0, 665), (0, 666), (0, 76), (0, 667)]), (41, .iinc 4 1, 44, 1, 4, 0, 0, []), (44, .aload_n 0, 45, 0, 0, 0, 0, []), (45, .invokevirtual 211, 48, 0, 919, 1, 1, [(0, 1003), (0, 1005), (0, 26), (0, 76), (0, 1006)]), (48, .istore_n 3, 49, 0, 3, 0, 0, []), (49, .iload_n 3, 50, 0, 3, 0, 0, []), (50, .ifCond .ne (-31), 53, 0, 19, 0, 0, []), (53, .aload_n 0, 54, 0, 0, 0, 0, []), (54, .invokevirtual 218, 57, 0, 920, 1, 1, [(0, 1012), (0, 1014), (0, 27), (0, 76), (0, 1015)]), (57, .ifCond .eq (-38), 60, 0, 19, 0, 0, []), (60, .iload 4, 62, 0, 4, 0, 0, [])]),
 (87, [(62, .iload_n 1, 63, 0, 1, 0, 0, []), (63, .if_icmp .ge (-44), 66, 0, 19, 0, 0, []), (66, .aload_n 0, 67, 0, 0, 0, 0, []), (67, .invokevirtual 221, 70, 0, 929, 1, 0, [(0, 735), (0, 737), (0, 9), (0, 76), (0, 738)]), (70, .iinc 4 1, 73, 1, 4, 0, 0, []), (73, .goto (-13), 76, 0, 60, 0, 0, []), (76, .iload_n 3, 77, 0, 3, 0, 0, []), (77, .ifCond .eq 8, 80, 0, 85, 0, 0, []), (80, .iload 4, 82, 0, 4, 0, 0, []), (82, .goto 5, 85, 0, 87, 0, 0, []), (85, .bipush (-9), 87, (-9), 0, 0, 0, []), (87, .ireturn, 88, 0, 0, 0, 0, [])])]
def tb_World_isOver : List (Nat × List (Nat × am_X)) := [
 (27, [(0, .iconst 0, 1, 0, 0, 0, 0, []), (1, .istore_n 1, 2, 0, 1, 0, 0, []), (2, .iload_n 1, 3, 0, 1, 0, 0, []), (3, .aload_n 0, 4, 0, 0, 0, 0, []), (4, .getfield 91, 7, 0, 9, 5, 0, [(0, 202)]), (7, .if_icmp .ge 23, 10, 0, 30, 0, 0, []), (10, .aload_n 0, 11, 0, 0, 0, 0, []), (11, .getfield 25, 14, 0, 9, 4, 2, [(0, 200)]), (14, .iload_n 1, 15, 0, 1, 0, 0, []), (15, .aaload, 16, 0, 0, 0, 0, []), (16, .invokevirtual 224, 19, 0, 103, 1, 1, [(0, 1007), (0, 1008), (0, 1009), (0, 85), (0, 1010)]), (19, .ifCond .ne 5, 22, 0, 24, 0, 0, []), (22, .iconst 0, 23, 0, 0, 0, 0, []), (23, .ireturn, 24, 0, 0, 0, 1, []), (24, .iinc 1 1, 27, 1, 1, 0, 0, []), (27, .goto (-25), 30, 0, 2, 0, 0, [])]),
 (31, [(30, .iconst 1, 31, 1, 0, 0, 0, []), (31, .ireturn, 32, 0, 0, 0, 1, [])])]
def tb_World_isStuck : List (Nat × List (Nat × am_X)) := [
 (35, [(0, .aload_n 0, 1, 0, 0, 0, 0, []), (1, .getfield 227, 4, 0, 9, 18, 1, [(0, 229)]), (4, .ifCond .ne 38, 7, 0, 42, 0, 0, []), (7, .aload_n 0, 8, 0, 0, 0, 0, []), (8, .invokevirtual 183, 11, 0, 913, 1, 1, [(0, 1016), (0, 1018), (0, 28), (0, 76), (0, 1019)]), (11, .ifCond .ne 31, 14, 0, 42, 0, 0, []), (14, .aload_n 0, 15, 0, 0, 0, 0, []), (15, .getfield 48, 18, 0, 9, 11, 2, [(0, 213)]), (18, .getfield 230, 21, 0, 2, 6, 0, [(0, 140)]), (21, .aload_n 0, 22, 0, 0, 0, 0, []), (22, .getfield 48, 25, 0, 9, 11, 2, [(0, 213)]), (25, .getfield 233, 28, 0, 2, 5, 0, [(0, 138)]), (28, .if_icmp .ne 14, 31, 0, 42, 0, 0, []), (31, .aload_n 0, 32, 0, 0, 0, 0, []), (32, .invokevirtual 236, 35, 0, 917, 1, 1, [(0, 1020), (0, 1021), (0, 1022), (0, 76), (0, 1023)]), (35, .ifCond .ne 7, 38, 0, 42, 0, 0, [])]),
 (43, [(38, .iconst 1, 39, 1, 0, 0, 0, []), (39, .goto 4, 42, 0, 43, 0, 0, []), (42, .iconst 0, 43, 0, 0, 0, 0, []), (43, .ireturn, 44, 0, 0, 0, 1, [])])]
def tb_World_pass : List (Nat × List (Nat × am_X)) := [
 (27, [(0, .aload_n 0, 1, 0, 0, 0, 0, []), (1, .dup, 2, 0, 0, 0, 0, []), (2, .getfield 146, 5, 0, 9, 14, 0, [(0, 221)]), (5, .iconst 1, 6, 1, 0, 0, 0, []), (6, .iadd, 7, 0, 0, 0, 0, []), (7, .putfield 146, 10, 0, 9, 14, 0, [(0, 221)]), (10, .aload_n 0, 11, 0, 0, 0, 0, []), (11, .iconst 0, 12, 0, 0, 0, 0, []), (12, .putfield 227, 15, 0, 9, 18, 1, [(0, 229)]), (15, .aload_n 0, 16, 0, 0, 0, 0, []), (16, .invokevirtual 239, 19, 0, 922, 1, 0, [(0, 668), (0, 670), (0, 2), (0, 76), (0, 671)]), (19, .aload_n 0, 20, 0, 0, 0, 0, []), (20, .invokevirtual 242, 23, 0, 924, 1, 0, [(0, 687), (0, 689), (0, 4), (0, 76), (0, 690)]), (23, .aload_n 0, 24, 0, 0, 0, 0, []), (24, .invokevirtual 245, 27, 0, 926, 1, 0, [(0, 700), (0, 702), (0, 6), (0, 76), (0, 703)]), (27, .aload_n 0, 28, 0, 0, 0, 0, [])]),
 (39, [(28, .invokevirtual 221, 31, 0, 929, 1, 0, [(0, 735), (0, 737), (0, 9), (0, 76), (0, 738)]), (31, .aload_n 0, 32, 0, 0, 0, 0, []), (32, .invokevirtual 248, 35, 0, 930, 1, 0, [(0, 748), (0, 750), (0, 10), (0, 76), (0, 751)]), (35, .aload_n 0, 36, 0, 0, 0, 0, []), (36, .invokevirtual 251, 39, 0, 931, 1, 0, [(0, 756), (0, 758), (0, 11), (0, 76), (0, 759)]), (39, .return_, 40, 0, 0, 0, 0, [])])]
def tb_World_hear : List (Nat × List (Nat × am_X)) := [
 (29, [(0, .aload_n 0, 1, 0, 0, 0, 0, []), (1, .getfield 48, 4, 0, 9, 11, 2, [(0, 213)]), (4, .getfield 230, 7, 0, 2, 6, 0, [(0, 140)]), (7, .istore_n 1, 8, 0, 1, 0, 0, []), (8, .iload_n 1, 9, 0, 1, 0, 0, []), (9, .aload_n 0, 10, 0, 0, 0, 0, []), (10, .getfield 48, 13, 0, 9, 11, 2, [(0, 213)]), (13, .getfield 233, 16, 0, 2, 5, 0, [(0, 138)]), (16, .if_icmp .ge 47, 19, 0, 63, 0, 0, []), (19, .aload_n 0, 20, 0, 0, 0, 0, []), (20, .getfield 48, 23, 0, 9, 11, 2, [(0, 213)]), (23, .getfield 254, 26, 0, 2, 4, 2, [(0, 135)]), (26, .iload_n 1, 27, 0, 1, 0, 0, []), (27, .iaload, 28, 0, 0, 0, 0, []), (28, .aload_n 0, 29, 0, 0, 0, 0, []), (29, .getfield 146, 32, 0, 9, 14, 0, [(0, 221)])]),
 (63, [(32, .if_icmp .ne 25, 35, 0, 57, 0, 0, []), (35, .aload_n 0, 36, 0, 0, 0, 0, []), (36, .aload_n 0, 37, 0, 0, 0, 0, []), (37, .getfield 48, 40, 0, 9, 11, 2, [(0, 213)]), (40, .getfield 257, 43, 0, 2, 2, 2, [(0, 129)]), (43, .iload_n 1, 44, 0, 1, 0, 0, []), (44, .iaload, 45, 0, 0, 0, 0, []), (45, .aload_n 0, 46, 0, 0, 0, 0, []), (46, .getfield 48, 49, 0, 9, 11, 2, [(0, 213)]), (49, .getfield 260, 52, 0, 2, 3, 2, [(0, 132)]), (52, .iload_n 1, 53, 0, 1, 0, 0, []), (53, .iaload, 54, 0, 0, 0, 0, []), (54, .invokevirtual 263, 57, 0, 923, 3, 0, [(0, 672), (0, 674), (0, 3), (0, 76), (0, 675)]), (57, .iinc 1 1, 60, 1, 1, 0, 0, []), (60, .goto (-52), 63, 0, 8, 0, 0, []), (63, .aload_n 0, 64, 0, 0, 0, 0, [])]),
 (74, [(64, .getfield 48, 67, 0, 9, 11, 2, [(0, 213)]), (67, .aload_n 0, 68, 0, 0, 0, 0, []), (68, .getfield 146, 71, 0, 9, 14, 0, [(0, 221)]), (71, .invokevirtual 266, 74, 0, 202, 2, 0, [(0, 683), (0, 684), (0, 685), (0, 77), (0, 686)]), (74, .return_, 75, 0, 0, 0, 0, [])])]
def tb_World_perform : List (Nat × List (Nat × am_X)) := [
 (53, [(0, .iload_n 1, 1, 0, 1, 0, 0, []), (1, .tableswitch 88 1 4 #[31, 31, 58, 58], 32, 0, 89, 0, 0, [(1, 32), (2, 32), (3, 59), (4, 59)]), (32, .aload_n 0, 33, 0, 0, 0, 0, []), (33, .iload_n 2, 34, 0, 2, 0, 0, []), (34, .invokevirtual 270, 37, 0, 903, 2, 1, [(0, 676), (0, 522), (0, 523), (0, 76), (0, 524)]), (37, .ifCond .eq 86, 40, 0, 123, 0, 0, []), (40, .aload_n 0, 41, 0, 0, 0, 0, []), (41, .iload_n 2, 42, 0, 2, 0, 0, []), (42, .iconst 0, 43, 0, 0, 0, 0, []), (43, .iload_n 1, 44, 0, 1, 0, 0, []), (44, .iconst 1, 45, 1, 0, 0, 0, []), (45, .if_icmp .ne 7, 48, 0, 52, 0, 0, []), (48, .iconst 1, 49, 1, 0, 0, 0, []), (49, .goto 4, 52, 0, 53, 0, 0, []), (52, .iconst 0, 53, 0, 0, 0, 0, []), (53, .invokevirtual 273, 56, 0, 909, 4, 0, [(0, 677), (0, 526), (0, 527), (0, 76), (0, 528)])]),
 (83, [(56, .goto 67, 59, 0, 123, 0, 0, []), (59, .aload_n 0, 60, 0, 0, 0, 0, []), (60, .iload_n 2, 61, 0, 2, 0, 0, []), (61, .invokevirtual 276, 64, 0, 905, 2, 1, [(0, 678), (0, 641), (0, 642), (0, 76), (0, 643)]), (64, .ifCond .eq 59, 67, 0, 123, 0, 0, []), (67, .aload_n 0, 68, 0, 0, 0, 0, []), (68, .getfield 31, 71, 0, 9, 6, 2, [(0, 204)]), (71, .iload_n 2, 72, 0, 2, 0, 0, []), (72, .aaload, 73, 0, 0, 0, 0, []), (73, .iload_n 1, 74, 0, 1, 0, 0, []), (74, .iconst 3, 75, 3, 0, 0, 0, []), (75, .if_icmp .ne 7, 78, 0, 82, 0, 0, []), (78, .iconst 1, 79, 1, 0, 0, 0, []), (79, .goto 4, 82, 0, 83, 0, 0, []), (82, .iconst 0, 83, 0, 0, 0, 0, []), (83, .putfield 134, 86, 0, 7, 5, 1, [(0, 622)])]),
 (115, [(86, .goto 37, 89, 0, 123, 0, 0, []), (89, .aload_n 0, 90, 0, 0, 0, 0, []), (90, .iload_n 2, 91, 0, 2, 0, 0, []), (91, .invokevirtual 279, 94, 0, 904, 2, 1, [(0, 679), (0, 680), (0, 681), (0, 76), (0, 682)]), (94, .ifCond .eq 29, 97, 0, 123, 0, 0, []), (97, .aload_n 0, 98, 0, 0, 0, 0, []), (98, .getfield 25, 101, 0, 9, 4, 2, [(0, 200)]), (101, .iload_n 2, 102, 0, 2, 0, 0, []), (102, .aaload, 103, 0, 0, 0, 0, []), (103, .aload_n 0, 104, 0, 0, 0, 0, []), (104, .getfield 25, 107, 0, 9, 4, 2, [(0, 200)]), (107, .iload_n 2, 108, 0, 2, 0, 0, []), (108, .aaload, 109, 0, 0, 0, 0, []), (109, .getfield 282, 112, 0, 1, 4, 1, [(0, 556)]), (112, .ifCond .ne 7, 115, 0, 119, 0, 0, []), (115, .iconst 1, 116, 1, 0, 0, 0, [])]),
 (123, [(116, .goto 4, 119, 0, 120, 0, 0, []), (119, .iconst 0, 120, 0, 0, 0, 0, []), (120, .putfield 282, 123, 0, 1, 4, 1, [(0, 556)]), (123, .return_, 124, 0, 0, 0, 0, [])])]
def tb_World_comeIn : List (Nat × List (Nat × am_X)) := [
 (23, [(0, .iconst 0, 1, 0, 0, 0, 0, []), (1, .istore_n 1, 2, 0, 1, 0, 0, []), (2, .iload_n 1, 3, 0, 1, 0, 0, []), (3, .aload_n 0, 4, 0, 0, 0, 0, []), (4, .getfield 88, 7, 0, 9, 3, 0, [(0, 198)]), (7, .if_icmp .ge 125, 10, 0, 132, 0, 0, []), (10, .aload_n 0, 11, 0, 0, 0, 0, []), (11, .getfield 19, 14, 0, 9, 2, 2, [(0, 194)]), (14, .iload_n 1, 15, 0, 1, 0, 0, []), (15, .aaload, 16, 0, 0, 0, 0, []), (16, .astore_n 2, 17, 0, 2, 0, 0, []), (17, .aload_n 2, 18, 0, 2, 0, 0, []), (18, .iconst 0, 19, 0, 0, 0, 0, []), (19, .putfield 285, 22, 0, 3, 4, 0, [(0, 490)]), (22, .iconst 0, 23, 0, 0, 0, 0, []), (23, .istore_n 3, 24, 0, 3, 0, 0, [])]),
 (51, [(24, .iload_n 3, 25, 0, 3, 0, 0, []), (25, .iconst 2, 26, 2, 0, 0, 0, []), (26, .if_icmp .ge 100, 29, 0, 126, 0, 0, []), (29, .aload_n 2, 30, 0, 2, 0, 0, []), (30, .iload_n 3, 31, 0, 3, 0, 0, []), (31, .aload_n 0, 32, 0, 0, 0, 0, []), (32, .getfield 146, 35, 0, 9, 14, 0, [(0, 221)]), (35, .invokevirtual 288, 38, 0, 302, 3, 1, [(0, 691), (0, 692), (0, 693), (0, 84), (0, 694)]), (38, .istore 4, 40, 0, 4, 0, 0, []), (40, .aload_n 2, 41, 0, 2, 0, 0, []), (41, .getfield 292, 44, 0, 3, 6, 2, [(0, 494)]), (44, .iload 4, 46, 0, 4, 0, 0, []), (46, .iaload, 47, 0, 0, 0, 0, []), (47, .ifCond .le 73, 50, 0, 120, 0, 0, []), (50, .aload_n 0, 51, 0, 0, 0, 0, []), (51, .iconst 1, 52, 1, 0, 0, 0, [])]),
 (83, [(52, .putfield 227, 55, 0, 9, 18, 1, [(0, 229)]), (55, .aload_n 0, 56, 0, 0, 0, 0, []), (56, .getfield 11, 59, 0, 9, 0, 2, [(0, 189)]), (59, .iload_n 3, 60, 0, 3, 0, 0, []), (60, .ifCond .ne 10, 63, 0, 70, 0, 0, []), (63, .aload_n 2, 64, 0, 2, 0, 0, []), (64, .getfield 164, 67, 0, 3, 1, 0, [(0, 481)]), (67, .goto 7, 70, 0, 74, 0, 0, []), (70, .aload_n 2, 71, 0, 2, 0, 0, []), (71, .getfield 161, 74, 0, 3, 0, 0, [(0, 478)]), (74, .aaload, 75, 0, 0, 0, 0, []), (75, .dup, 76, 0, 0, 0, 0, []), (76, .getfield 190, 79, 0, 0, 3, 0, [(0, 414)]), (79, .aload_n 2, 80, 0, 2, 0, 0, []), (80, .getfield 292, 83, 0, 3, 6, 2, [(0, 494)]), (83, .iload 4, 85, 0, 4, 0, 0, [])]),
 (110, [(85, .iaload, 86, 0, 0, 0, 0, []), (86, .isub, 87, 0, 0, 0, 0, []), (87, .putfield 190, 90, 0, 0, 3, 0, [(0, 414)]), (90, .aload_n 2, 91, 0, 2, 0, 0, []), (91, .getfield 292, 94, 0, 3, 6, 2, [(0, 494)]), (94, .iload 4, 96, 0, 4, 0, 0, []), (96, .iconst 0, 97, 0, 0, 0, 0, []), (97, .iastore, 98, 0, 0, 0, 0, []), (98, .aload_n 0, 99, 0, 0, 0, 0, []), (99, .aload_n 2, 100, 0, 2, 0, 0, []), (100, .iload 4, 102, 0, 4, 0, 0, []), (102, .iload_n 3, 103, 0, 3, 0, 0, []), (103, .ifCond .ne 10, 106, 0, 113, 0, 0, []), (106, .aload_n 2, 107, 0, 2, 0, 0, []), (107, .getfield 164, 110, 0, 3, 1, 0, [(0, 481)]), (110, .goto 7, 113, 0, 117, 0, 0, [])]),
 (132, [(113, .aload_n 2, 114, 0, 2, 0, 0, []), (114, .getfield 161, 117, 0, 3, 0, 0, [(0, 478)]), (117, .invokevirtual 295, 120, 0, 925, 4, 0, [(0, 695), (0, 697), (0, 5), (0, 76), (0, 698)]), (120, .iinc 3 1, 123, 1, 3, 0, 0, []), (123, .goto (-99), 126, 0, 24, 0, 0, []), (126, .iinc 1 1, 129, 1, 1, 0, 0, []), (129, .goto (-127), 132, 0, 2, 0, 0, []), (132, .return_, 133, 0, 0, 0, 0, [])])]
def tb_World_arrive : List (Nat × List (Nat × am_X)) := [
 (28, [(0, .iconst 0, 1, 0, 0, 0, 0, []), (1, .istore 4, 3, 0, 4, 0, 0, []), (3, .iload 4, 5, 0, 4, 0, 0, []), (5, .aload_n 0, 6, 0, 0, 0, 0, []), (6, .getfield 91, 9, 0, 9, 5, 0, [(0, 202)]), (9, .if_icmp .ge 155, 12, 0, 164, 0, 0, []), (12, .aload_n 0, 13, 0, 0, 0, 0, []), (13, .getfield 25, 16, 0, 9, 4, 2, [(0, 200)]), (16, .iload 4, 18, 0, 4, 0, 0, []), (18, .aaload, 19, 0, 0, 0, 0, []), (19, .astore 5, 21, 0, 5, 0, 0, []), (21, .aload_n 1, 22, 0, 1, 0, 0, []), (22, .getfield 299, 25, 0, 3, 5, 2, [(0, 492)]), (25, .iload_n 2, 26, 0, 2, 0, 0, []), (26, .bipush 24, 28, 24, 0, 0, 0, []), (28, .imul, 29, 0, 0, 0, 0, [])]),
 (53, [(29, .iload 4, 31, 0, 4, 0, 0, []), (31, .iadd, 32, 0, 0, 0, 0, []), (32, .iaload, 33, 0, 0, 0, 0, []), (33, .istore 6, 35, 0, 6, 0, 0, []), (35, .aload_n 1, 36, 0, 1, 0, 0, []), (36, .getfield 299, 39, 0, 3, 5, 2, [(0, 492)]), (39, .iload_n 2, 40, 0, 2, 0, 0, []), (40, .bipush 24, 42, 24, 0, 0, 0, []), (42, .imul, 43, 0, 0, 0, 0, []), (43, .iload 4, 45, 0, 4, 0, 0, []), (45, .iadd, 46, 0, 0, 0, 0, []), (46, .iconst 0, 47, 0, 0, 0, 0, []), (47, .iastore, 48, 0, 0, 0, 0, []), (48, .iload 6, 50, 0, 6, 0, 0, []), (50, .ifCond .le 60, 53, 0, 110, 0, 0, []), (53, .aload 5, 55, 0, 5, 0, 0, [])]),
 (88, [(55, .getfield 282, 58, 0, 1, 4, 1, [(0, 556)]), (58, .ifCond .ne 52, 61, 0, 110, 0, 0, []), (61, .iload_n 3, 62, 0, 3, 0, 0, []), (62, .aload 5, 64, 0, 5, 0, 0, []), (64, .getfield 110, 67, 0, 1, 2, 0, [(0, 551)]), (67, .if_icmp .ne 43, 70, 0, 110, 0, 0, []), (70, .aload 5, 72, 0, 5, 0, 0, []), (72, .dup, 73, 0, 0, 0, 0, []), (73, .getfield 193, 76, 0, 1, 8, 0, [(0, 567)]), (76, .iload 6, 78, 0, 6, 0, 0, []), (78, .iadd, 79, 0, 0, 0, 0, []), (79, .putfield 193, 82, 0, 1, 8, 0, [(0, 567)]), (82, .aload 5, 84, 0, 5, 0, 0, []), (84, .aload_n 0, 85, 0, 0, 0, 0, []), (85, .getfield 146, 88, 0, 9, 14, 0, [(0, 221)]), (88, .putfield 302, 91, 0, 1, 9, 0, [(0, 570)])]),
 (121, [(91, .aload_n 0, 92, 0, 0, 0, 0, []), (92, .getfield 11, 95, 0, 9, 0, 2, [(0, 189)]), (95, .iload_n 3, 96, 0, 3, 0, 0, []), (96, .aaload, 97, 0, 0, 0, 0, []), (97, .dup, 98, 0, 0, 0, 0, []), (98, .getfield 305, 101, 0, 0, 4, 0, [(0, 416)]), (101, .iload 6, 103, 0, 6, 0, 0, []), (103, .iadd, 104, 0, 0, 0, 0, []), (104, .putfield 305, 107, 0, 0, 4, 0, [(0, 416)]), (107, .goto 51, 110, 0, 158, 0, 0, []), (110, .iload 6, 112, 0, 6, 0, 0, []), (112, .ifCond .le 46, 115, 0, 158, 0, 0, []), (115, .aload 5, 117, 0, 5, 0, 0, []), (117, .getfield 308, 120, 0, 1, 5, 2, [(0, 559)]), (120, .iload_n 3, 121, 0, 3, 0, 0, []), (121, .dup2, 122, 0, 0, 0, 0, [])]),
 (145, [(122, .iaload, 123, 0, 0, 0, 0, []), (123, .iload 6, 125, 0, 6, 0, 0, []), (125, .iadd, 126, 0, 0, 0, 0, []), (126, .iastore, 127, 0, 0, 0, 0, []), (127, .aload 5, 129, 0, 5, 0, 0, []), (129, .getfield 311, 132, 0, 1, 6, 2, [(0, 561)]), (132, .iload_n 3, 133, 0, 3, 0, 0, []), (133, .dup2, 134, 0, 0, 0, 0, []), (134, .iaload, 135, 0, 0, 0, 0, []), (135, .iload 6, 137, 0, 6, 0, 0, []), (137, .iadd, 138, 0, 0, 0, 0, []), (138, .iastore, 139, 0, 0, 0, 0, []), (139, .aload 5, 141, 0, 5, 0, 0, []), (141, .dup, 142, 0, 0, 0, 0, []), (142, .getfield 187, 145, 0, 1, 7, 0, [(0, 564)]), (145, .iload 6, 147, 0, 6, 0, 0, [])]),
 (164, [(147, .iadd, 148, 0, 0, 0, 0, []), (148, .putfield 187, 151, 0, 1, 7, 0, [(0, 564)]), (151, .aload_n 0, 152, 0, 0, 0, 0, []), (152, .iload_n 3, 153, 0, 3, 0, 0, []), (153, .iload 6, 155, 0, 6, 0, 0, []), (155, .invokevirtual 314, 158, 0, 910, 3, 0, [(0, 699), (0, 593), (0, 594), (0, 76), (0, 595)]), (158, .iinc 4 1, 161, 1, 4, 0, 0, []), (161, .goto (-158), 164, 0, 3, 0, 0, []), (164, .return_, 165, 0, 0, 0, 0, [])])]
def tb_World_goOn : List (Nat × List (Nat × am_X)) := [
 (23, [(0, .iconst 0, 1, 0, 0, 0, 0, []), (1, .istore_n 1, 2, 0, 1, 0, 0, []), (2, .iload_n 1, 3, 0, 1, 0, 0, []), (3, .aload_n 0, 4, 0, 0, 0, 0, []), (4, .getfield 91, 7, 0, 9, 5, 0, [(0, 202)]), (7, .if_icmp .ge 101, 10, 0, 108, 0, 0, []), (10, .aload_n 0, 11, 0, 0, 0, 0, []), (11, .getfield 25, 14, 0, 9, 4, 2, [(0, 200)]), (14, .iload_n 1, 15, 0, 1, 0, 0, []), (15, .aaload, 16, 0, 0, 0, 0, []), (16, .astore_n 2, 17, 0, 2, 0, 0, []), (17, .aload_n 2, 18, 0, 2, 0, 0, []), (18, .getfield 187, 21, 0, 1, 7, 0, [(0, 564)]), (21, .istore_n 3, 22, 0, 3, 0, 0, []), (22, .iconst 0, 23, 0, 0, 0, 0, []), (23, .istore 4, 25, 0, 4, 0, 0, [])]),
 (52, [(25, .iload 4, 27, 0, 4, 0, 0, []), (27, .aload_n 0, 28, 0, 0, 0, 0, []), (28, .getfield 78, 31, 0, 9, 1, 0, [(0, 192)]), (31, .if_icmp .ge 71, 34, 0, 102, 0, 0, []), (34, .iload_n 3, 35, 0, 3, 0, 0, []), (35, .ifCond .le 67, 38, 0, 102, 0, 0, []), (38, .iload_n 3, 39, 0, 3, 0, 0, []), (39, .aload_n 2, 40, 0, 2, 0, 0, []), (40, .getfield 308, 43, 0, 1, 5, 2, [(0, 559)]), (43, .iload 4, 45, 0, 4, 0, 0, []), (45, .iaload, 46, 0, 0, 0, 0, []), (46, .isub, 47, 0, 0, 0, 0, []), (47, .istore_n 3, 48, 0, 3, 0, 0, []), (48, .aload_n 2, 49, 0, 2, 0, 0, []), (49, .getfield 308, 52, 0, 1, 5, 2, [(0, 559)]), (52, .iload 4, 54, 0, 4, 0, 0, [])]),
 (80, [(54, .iaload, 55, 0, 0, 0, 0, []), (55, .aload_n 2, 56, 0, 2, 0, 0, []), (56, .getfield 311, 59, 0, 1, 6, 2, [(0, 561)]), (59, .iload 4, 61, 0, 4, 0, 0, []), (61, .iaload, 62, 0, 0, 0, 0, []), (62, .isub, 63, 0, 0, 0, 0, []), (63, .istore 5, 65, 0, 5, 0, 0, []), (65, .aload_n 2, 66, 0, 2, 0, 0, []), (66, .getfield 311, 69, 0, 1, 6, 2, [(0, 561)]), (69, .iload 4, 71, 0, 4, 0, 0, []), (71, .iconst 0, 72, 0, 0, 0, 0, []), (72, .iastore, 73, 0, 0, 0, 0, []), (73, .iload 5, 75, 0, 5, 0, 0, []), (75, .ifCond .le 21, 78, 0, 96, 0, 0, []), (78, .iload 4, 80, 0, 4, 0, 0, []), (80, .aload_n 2, 81, 0, 2, 0, 0, [])]),
 (108, [(81, .invokevirtual 317, 84, 0, 102, 1, 1, [(0, 704), (0, 705), (0, 706), (0, 85), (0, 707)]), (84, .if_icmp .eq 12, 87, 0, 96, 0, 0, []), (87, .aload_n 0, 88, 0, 0, 0, 0, []), (88, .iload_n 1, 89, 0, 1, 0, 0, []), (89, .iload 4, 91, 0, 4, 0, 0, []), (91, .iload 5, 93, 0, 5, 0, 0, []), (93, .invokevirtual 320, 96, 0, 927, 4, 0, [(0, 708), (0, 710), (0, 7), (0, 76), (0, 711)]), (96, .iinc 4 1, 99, 1, 4, 0, 0, []), (99, .goto (-74), 102, 0, 25, 0, 0, []), (102, .iinc 1 1, 105, 1, 1, 0, 0, []), (105, .goto (-103), 108, 0, 2, 0, 0, []), (108, .return_, 109, 0, 0, 0, 0, [])])]
def tb_World_leave : List (Nat × List (Nat × am_X)) := [
 (30, [(0, .aload_n 0, 1, 0, 0, 0, 0, []), (1, .getfield 25, 4, 0, 9, 4, 2, [(0, 200)]), (4, .iload_n 1, 5, 0, 1, 0, 0, []), (5, .aaload, 6, 0, 0, 0, 0, []), (6, .astore 4, 8, 0, 4, 0, 0, []), (8, .aload_n 0, 9, 0, 0, 0, 0, []), (9, .getfield 55, 12, 0, 9, 12, 2, [(0, 215)]), (12, .getfield 323, 15, 0, 8, 1, 2, [(0, 168)]), (15, .aload_n 0, 16, 0, 0, 0, 0, []), (16, .getfield 55, 19, 0, 9, 12, 2, [(0, 215)]), (19, .aload_n 0, 20, 0, 0, 0, 0, []), (20, .aload 4, 22, 0, 4, 0, 0, []), (22, .invokevirtual 317, 25, 0, 102, 1, 1, [(0, 704), (0, 705), (0, 706), (0, 85), (0, 707)]), (25, .aload 4, 27, 0, 4, 0, 0, []), (27, .getfield 113, 30, 0, 1, 3, 0, [(0, 554)]), (30, .iconst 2, 31, 2, 0, 0, 0, [])]),
 (59, [(31, .if_icmp .ne 7, 34, 0, 38, 0, 0, []), (34, .iconst 1, 35, 1, 0, 0, 0, []), (35, .goto 4, 38, 0, 39, 0, 0, []), (38, .iconst 0, 39, 0, 0, 0, 0, []), (39, .invokevirtual 325, 42, 0, 802, 4, 1, [(0, 712), (0, 713), (0, 714), (0, 78), (0, 715)]), (42, .iload_n 2, 43, 0, 2, 0, 0, []), (43, .iadd, 44, 0, 0, 0, 0, []), (44, .iaload, 45, 0, 0, 0, 0, []), (45, .istore 5, 47, 0, 5, 0, 0, []), (47, .iload 5, 49, 0, 5, 0, 0, []), (49, .ifCond .ge 4, 52, 0, 53, 0, 0, []), (52, .return_, 53, 0, 0, 0, 0, []), (53, .aload_n 0, 54, 0, 0, 0, 0, []), (54, .getfield 19, 57, 0, 9, 2, 2, [(0, 194)]), (57, .iload 5, 59, 0, 5, 0, 0, []), (59, .aaload, 60, 0, 0, 0, 0, [])]),
 (93, [(60, .astore 6, 62, 0, 6, 0, 0, []), (62, .aload 6, 64, 0, 6, 0, 0, []), (64, .getfield 161, 67, 0, 3, 0, 0, [(0, 478)]), (67, .iload_n 2, 68, 0, 2, 0, 0, []), (68, .if_icmp .ne 7, 71, 0, 75, 0, 0, []), (71, .iconst 0, 72, 0, 0, 0, 0, []), (72, .goto 4, 75, 0, 76, 0, 0, []), (75, .iconst 1, 76, 1, 0, 0, 0, []), (76, .istore 7, 78, 0, 7, 0, 0, []), (78, .iload 7, 80, 0, 7, 0, 0, []), (80, .ifCond .ne 11, 83, 0, 91, 0, 0, []), (83, .aload 6, 85, 0, 6, 0, 0, []), (85, .getfield 164, 88, 0, 3, 1, 0, [(0, 481)]), (88, .goto 8, 91, 0, 96, 0, 0, []), (91, .aload 6, 93, 0, 6, 0, 0, []), (93, .getfield 161, 96, 0, 3, 0, 0, [(0, 478)])]),
 (125, [(96, .istore 8, 98, 0, 8, 0, 0, []), (98, .aload 4, 100, 0, 4, 0, 0, []), (100, .getfield 113, 103, 0, 1, 3, 0, [(0, 554)]), (103, .iload_n 3, 104, 0, 3, 0, 0, []), (104, .aload 6, 106, 0, 6, 0, 0, []), (106, .aload_n 0, 107, 0, 0, 0, 0, []), (107, .getfield 11, 110, 0, 9, 0, 2, [(0, 189)]), (110, .iload 8, 112, 0, 8, 0, 0, []), (112, .aaload, 113, 0, 0, 0, 0, []), (113, .aload_n 0, 114, 0, 0, 0, 0, []), (114, .getfield 68, 117, 0, 9, 13, 2, [(0, 217)]), (117, .iconst 0, 118, 0, 0, 0, 0, []), (118, .iaload, 119, 0, 0, 0, 0, []), (119, .invokevirtual 329, 122, 0, 4, 2, 1, [(0, 726), (0, 727), (0, 728), (0, 82), (0, 729)]), (122, .invokestatic 333, 125, 0, 928, 4, 1, [(0, 731), (0, 732), (0, 76), (0, 733)]), (125, .istore 9, 127, 0, 9, 0, 0, [])]),
 (158, [(127, .iload 9, 129, 0, 9, 0, 0, []), (129, .ifCond .gt 4, 132, 0, 133, 0, 0, []), (132, .return_, 133, 0, 0, 0, 0, []), (133, .aload 6, 135, 0, 6, 0, 0, []), (135, .dup, 136, 0, 0, 0, 0, []), (136, .getfield 285, 139, 0, 3, 4, 0, [(0, 490)]), (139, .iload 9, 141, 0, 9, 0, 0, []), (141, .iadd, 142, 0, 0, 0, 0, []), (142, .putfield 285, 145, 0, 3, 4, 0, [(0, 490)]), (145, .aload 6, 147, 0, 6, 0, 0, []), (147, .iload 7, 149, 0, 7, 0, 0, []), (149, .aload_n 0, 150, 0, 0, 0, 0, []), (150, .getfield 146, 153, 0, 9, 14, 0, [(0, 221)]), (153, .invokevirtual 288, 156, 0, 302, 3, 1, [(0, 691), (0, 692), (0, 693), (0, 84), (0, 694)]), (156, .istore 10, 158, 0, 10, 0, 0, []), (158, .aload 6, 160, 0, 6, 0, 0, [])]),
 (184, [(160, .getfield 299, 163, 0, 3, 5, 2, [(0, 492)]), (163, .iload 10, 165, 0, 10, 0, 0, []), (165, .bipush 24, 167, 24, 0, 0, 0, []), (167, .imul, 168, 0, 0, 0, 0, []), (168, .iload_n 1, 169, 0, 1, 0, 0, []), (169, .iadd, 170, 0, 0, 0, 0, []), (170, .dup2, 171, 0, 0, 0, 0, []), (171, .iaload, 172, 0, 0, 0, 0, []), (172, .iload 9, 174, 0, 9, 0, 0, []), (174, .iadd, 175, 0, 0, 0, 0, []), (175, .iastore, 176, 0, 0, 0, 0, []), (176, .aload 6, 178, 0, 6, 0, 0, []), (178, .getfield 292, 181, 0, 3, 6, 2, [(0, 494)]), (181, .iload 10, 183, 0, 10, 0, 0, []), (183, .dup2, 184, 0, 0, 0, 0, []), (184, .iaload, 185, 0, 0, 0, 0, [])]),
 (212, [(185, .iload 9, 187, 0, 9, 0, 0, []), (187, .iadd, 188, 0, 0, 0, 0, []), (188, .iastore, 189, 0, 0, 0, 0, []), (189, .aload_n 0, 190, 0, 0, 0, 0, []), (190, .getfield 11, 193, 0, 9, 0, 2, [(0, 189)]), (193, .iload 8, 195, 0, 8, 0, 0, []), (195, .aaload, 196, 0, 0, 0, 0, []), (196, .dup, 197, 0, 0, 0, 0, []), (197, .getfield 190, 200, 0, 0, 3, 0, [(0, 414)]), (200, .iload 9, 202, 0, 9, 0, 0, []), (202, .iadd, 203, 0, 0, 0, 0, []), (203, .putfield 190, 206, 0, 0, 3, 0, [(0, 414)]), (206, .aload 4, 208, 0, 4, 0, 0, []), (208, .getfield 308, 211, 0, 1, 5, 2, [(0, 559)]), (211, .iload_n 2, 212, 0, 2, 0, 0, []), (212, .dup2, 213, 0, 0, 0, 0, [])]),
 (238, [(213, .iaload, 214, 0, 0, 0, 0, []), (214, .iload 9, 216, 0, 9, 0, 0, []), (216, .isub, 217, 0, 0, 0, 0, []), (217, .iastore, 218, 0, 0, 0, 0, []), (218, .aload 4, 220, 0, 4, 0, 0, []), (220, .dup, 221, 0, 0, 0, 0, []), (221, .getfield 187, 224, 0, 1, 7, 0, [(0, 564)]), (224, .iload 9, 226, 0, 9, 0, 0, []), (226, .isub, 227, 0, 0, 0, 0, []), (227, .putfield 187, 230, 0, 1, 7, 0, [(0, 564)]), (230, .aload_n 0, 231, 0, 0, 0, 0, []), (231, .iload_n 2, 232, 0, 2, 0, 0, []), (232, .iload 9, 234, 0, 9, 0, 0, []), (234, .ineg, 235, 0, 0, 0, 0, []), (235, .invokevirtual 314, 238, 0, 910, 3, 0, [(0, 699), (0, 593), (0, 594), (0, 76), (0, 595)]), (238, .return_, 239, 0, 0, 0, 0, [])])]
def tb_World_fitting : List (Nat × List (Nat × am_X)) := [
 (25, [(0, .aload_n 2, 1, 0, 2, 0, 0, []), (1, .getfield 176, 4, 0, 3, 3, 2, [(0, 488)]), (4, .iconst 4, 5, 4, 0, 0, 0, []), (5, .iaload, 6, 0, 0, 0, 0, []), (6, .istore 4, 8, 0, 4, 0, 0, []), (8, .iload_n 0, 9, 0, 0, 0, 0, []), (9, .iconst 1, 10, 1, 0, 0, 0, []), (10, .if_icmp .eq 19, 13, 0, 29, 0, 0, []), (13, .iload_n 1, 14, 0, 1, 0, 0, []), (14, .iload 4, 16, 0, 4, 0, 0, []), (16, .aload_n 2, 17, 0, 2, 0, 0, []), (17, .getfield 285, 20, 0, 3, 4, 0, [(0, 490)]), (20, .isub, 21, 0, 0, 0, 0, []), (21, .iload_n 3, 22, 0, 3, 0, 0, []), (22, .invokestatic 337, 25, 0, 9995, 2, 1, [(0, 734), (0, 473), (0, 83), (0, 474)]), (25, .invokestatic 337, 28, 0, 9995, 2, 1, [(0, 734), (0, 473), (0, 83), (0, 474)])]),
 (57, [(28, .ireturn, 29, 0, 0, 0, 0, []), (29, .iload_n 1, 30, 0, 1, 0, 0, []), (30, .iload 4, 32, 0, 4, 0, 0, []), (32, .aload_n 2, 33, 0, 2, 0, 0, []), (33, .getfield 285, 36, 0, 3, 4, 0, [(0, 490)]), (36, .isub, 37, 0, 0, 0, 0, []), (37, .if_icmp .le 16, 40, 0, 53, 0, 0, []), (40, .iload_n 1, 41, 0, 1, 0, 0, []), (41, .iload 4, 43, 0, 4, 0, 0, []), (43, .if_icmp .le 14, 46, 0, 57, 0, 0, []), (46, .aload_n 2, 47, 0, 2, 0, 0, []), (47, .getfield 285, 50, 0, 3, 4, 0, [(0, 490)]), (50, .ifCond .ne 7, 53, 0, 57, 0, 0, []), (53, .iconst 1, 54, 1, 0, 0, 0, []), (54, .goto 4, 57, 0, 58, 0, 0, []), (57, .iconst 0, 58, 0, 0, 0, 0, [])]),
 (75, [(58, .istore 5, 60, 0, 5, 0, 0, []), (60, .iload 5, 62, 0, 5, 0, 0, []), (62, .ifCond .eq 12, 65, 0, 74, 0, 0, []), (65, .iload_n 1, 66, 0, 1, 0, 0, []), (66, .iload_n 3, 67, 0, 3, 0, 0, []), (67, .if_icmp .gt 7, 70, 0, 74, 0, 0, []), (70, .iload_n 1, 71, 0, 1, 0, 0, []), (71, .goto 4, 74, 0, 75, 0, 0, []), (74, .iconst 0, 75, 0, 0, 0, 0, []), (75, .ireturn, 76, 0, 0, 0, 0, [])])]
def tb_World_pressOn : List (Nat × List (Nat × am_X)) := [
 (25, [(0, .iconst 0, 1, 0, 0, 0, 0, []), (1, .istore_n 1, 2, 0, 1, 0, 0, []), (2, .iload_n 1, 3, 0, 1, 0, 0, []), (3, .aload_n 0, 4, 0, 0, 0, 0, []), (4, .getfield 78, 7, 0, 9, 1, 0, [(0, 192)]), (7, .if_icmp .ge 51, 10, 0, 58, 0, 0, []), (10, .aload_n 0, 11, 0, 0, 0, 0, []), (11, .getfield 11, 14, 0, 9, 0, 2, [(0, 189)]), (14, .iload_n 1, 15, 0, 1, 0, 0, []), (15, .aaload, 16, 0, 0, 0, 0, []), (16, .invokevirtual 342, 19, 0, 2, 1, 1, [(0, 739), (0, 740), (0, 741), (0, 82), (0, 742)]), (19, .istore_n 2, 20, 0, 2, 0, 0, []), (20, .aload_n 0, 21, 0, 0, 0, 0, []), (21, .getfield 11, 24, 0, 9, 0, 2, [(0, 189)]), (24, .iload_n 1, 25, 0, 1, 0, 0, []), (25, .aaload, 26, 0, 0, 0, 0, [])]),
 (55, [(26, .iload_n 2, 27, 0, 2, 0, 0, []), (27, .aload_n 0, 28, 0, 0, 0, 0, []), (28, .getfield 146, 31, 0, 9, 14, 0, [(0, 221)]), (31, .invokevirtual 345, 34, 0, 5, 3, 0, [(0, 743), (0, 744), (0, 745), (0, 82), (0, 746)]), (34, .iload_n 2, 35, 0, 2, 0, 0, []), (35, .aload_n 0, 36, 0, 0, 0, 0, []), (36, .getfield 205, 39, 0, 9, 16, 0, [(0, 225)]), (39, .if_icmp .le 13, 42, 0, 52, 0, 0, []), (42, .aload_n 0, 43, 0, 0, 0, 0, []), (43, .iload_n 2, 44, 0, 2, 0, 0, []), (44, .putfield 205, 47, 0, 9, 16, 0, [(0, 225)]), (47, .aload_n 0, 48, 0, 0, 0, 0, []), (48, .iload_n 1, 49, 0, 1, 0, 0, []), (49, .putfield 208, 52, 0, 9, 17, 0, [(0, 227)]), (52, .iinc 1 1, 55, 1, 1, 0, 0, []), (55, .goto (-53), 58, 0, 2, 0, 0, [])]),
 (58, [(58, .return_, 59, 0, 0, 0, 0, [])])]
def tb_World_board : List (Nat × List (Nat × am_X)) := [
 (25, [(0, .iconst 0, 1, 0, 0, 0, 0, []), (1, .istore_n 1, 2, 0, 1, 0, 0, []), (2, .iload_n 1, 3, 0, 1, 0, 0, []), (3, .aload_n 0, 4, 0, 0, 0, 0, []), (4, .getfield 94, 7, 0, 9, 7, 0, [(0, 206)]), (7, .if_icmp .ge 75, 10, 0, 82, 0, 0, []), (10, .aload_n 0, 11, 0, 0, 0, 0, []), (11, .getfield 31, 14, 0, 9, 6, 2, [(0, 204)]), (14, .iload_n 1, 15, 0, 1, 0, 0, []), (15, .aaload, 16, 0, 0, 0, 0, []), (16, .astore_n 2, 17, 0, 2, 0, 0, []), (17, .aload_n 2, 18, 0, 2, 0, 0, []), (18, .aload_n 0, 19, 0, 0, 0, 0, []), (19, .getfield 146, 22, 0, 9, 14, 0, [(0, 221)]), (22, .invokevirtual 348, 25, 0, 701, 2, 1, [(0, 752), (0, 753), (0, 754), (0, 86), (0, 755)]), (25, .ifCond .eq 51, 28, 0, 76, 0, 0, [])]),
 (57, [(28, .aload_n 2, 29, 0, 2, 0, 0, []), (29, .getfield 130, 32, 0, 7, 3, 0, [(0, 618)]), (32, .aload_n 0, 33, 0, 0, 0, 0, []), (33, .getfield 11, 36, 0, 9, 0, 2, [(0, 189)]), (36, .aload_n 2, 37, 0, 2, 0, 0, []), (37, .getfield 121, 40, 0, 7, 0, 0, [(0, 612)]), (40, .aaload, 41, 0, 0, 0, 0, []), (41, .getfield 305, 44, 0, 0, 4, 0, [(0, 416)]), (44, .invokestatic 337, 47, 0, 9995, 2, 1, [(0, 734), (0, 473), (0, 83), (0, 474)]), (47, .istore_n 3, 48, 0, 3, 0, 0, []), (48, .aload_n 0, 49, 0, 0, 0, 0, []), (49, .getfield 11, 52, 0, 9, 0, 2, [(0, 189)]), (52, .aload_n 2, 53, 0, 2, 0, 0, []), (53, .getfield 121, 56, 0, 7, 0, 0, [(0, 612)]), (56, .aaload, 57, 0, 0, 0, 0, []), (57, .dup, 58, 0, 0, 0, 0, [])]),
 (82, [(58, .getfield 305, 61, 0, 0, 4, 0, [(0, 416)]), (61, .iload_n 3, 62, 0, 3, 0, 0, []), (62, .isub, 63, 0, 0, 0, 0, []), (63, .putfield 305, 66, 0, 0, 4, 0, [(0, 416)]), (66, .aload_n 2, 67, 0, 2, 0, 0, []), (67, .dup, 68, 0, 0, 0, 0, []), (68, .getfield 199, 71, 0, 7, 4, 0, [(0, 619)]), (71, .iload_n 3, 72, 0, 3, 0, 0, []), (72, .iadd, 73, 0, 0, 0, 0, []), (73, .putfield 199, 76, 0, 7, 4, 0, [(0, 619)]), (76, .iinc 1 1, 79, 1, 1, 0, 0, []), (79, .goto (-77), 82, 0, 2, 0, 0, []), (82, .return_, 83, 0, 0, 0, 0, [])])]
def tb_World_ask : List (Nat × List (Nat × am_X)) := [
 (27, [(0, .iconst 0, 1, 0, 0, 0, 0, []), (1, .istore_n 1, 2, 0, 1, 0, 0, []), (2, .iload_n 1, 3, 0, 1, 0, 0, []), (3, .aload_n 0, 4, 0, 0, 0, 0, []), (4, .getfield 97, 7, 0, 9, 9, 0, [(0, 210)]), (7, .if_icmp .ge 65, 10, 0, 72, 0, 0, []), (10, .aload_n 0, 11, 0, 0, 0, 0, []), (11, .getfield 37, 14, 0, 9, 8, 2, [(0, 208)]), (14, .iload_n 1, 15, 0, 1, 0, 0, []), (15, .aaload, 16, 0, 0, 0, 0, []), (16, .getfield 202, 19, 0, 4, 2, 1, [(0, 900)]), (19, .ifCond .eq 20, 22, 0, 39, 0, 0, []), (22, .aload_n 0, 23, 0, 0, 0, 0, []), (23, .aload_n 0, 24, 0, 0, 0, 0, []), (24, .getfield 37, 27, 0, 9, 8, 2, [(0, 208)]), (27, .iload_n 1, 28, 0, 1, 0, 0, [])]),
 (55, [(28, .aaload, 29, 0, 0, 0, 0, []), (29, .invokevirtual 351, 32, 0, 933, 2, 1, [(0, 760), (0, 761), (0, 762), (0, 76), (0, 763)]), (32, .ifCond .eq 7, 35, 0, 39, 0, 0, []), (35, .iconst 1, 36, 1, 0, 0, 0, []), (36, .goto 4, 39, 0, 40, 0, 0, []), (39, .iconst 0, 40, 0, 0, 0, 0, []), (40, .istore_n 2, 41, 0, 2, 0, 0, []), (41, .iload_n 2, 42, 0, 2, 0, 0, []), (42, .ifCond .eq 17, 45, 0, 59, 0, 0, []), (45, .aload_n 0, 46, 0, 0, 0, 0, []), (46, .getfield 41, 49, 0, 9, 10, 2, [(0, 212)]), (49, .iload_n 1, 50, 0, 1, 0, 0, []), (50, .baload, 51, 0, 0, 0, 0, []), (51, .ifCond .ne 8, 54, 0, 59, 0, 0, []), (54, .aload_n 0, 55, 0, 0, 0, 0, []), (55, .iload_n 1, 56, 0, 1, 0, 0, [])]),
 (72, [(56, .invokevirtual 355, 59, 0, 932, 2, 0, [(0, 772), (0, 774), (0, 13), (0, 76), (0, 775)]), (59, .aload_n 0, 60, 0, 0, 0, 0, []), (60, .getfield 41, 63, 0, 9, 10, 2, [(0, 212)]), (63, .iload_n 1, 64, 0, 1, 0, 0, []), (64, .iload_n 2, 65, 0, 2, 0, 0, []), (65, .bastore, 66, 0, 0, 0, 0, []), (66, .iinc 1 1, 69, 1, 1, 0, 0, []), (69, .goto (-67), 72, 0, 2, 0, 0, []), (72, .return_, 73, 0, 0, 0, 0, [])])]
def tb_World_give : List (Nat × List (Nat × am_X)) := [
 (21, [(0, .aload_n 0, 1, 0, 0, 0, 0, []), (1, .getfield 37, 4, 0, 9, 8, 2, [(0, 208)]), (4, .iload_n 1, 5, 0, 1, 0, 0, []), (5, .aaload, 6, 0, 0, 0, 0, []), (6, .getfield 358, 9, 0, 4, 1, 2, [(0, 897)]), (9, .astore_n 2, 10, 0, 2, 0, 0, []), (10, .iconst 0, 11, 0, 0, 0, 0, []), (11, .istore_n 3, 12, 0, 3, 0, 0, []), (12, .iload_n 3, 13, 0, 3, 0, 0, []), (13, .iconst 1, 14, 1, 0, 0, 0, []), (14, .iadd, 15, 0, 0, 0, 0, []), (15, .aload_n 2, 16, 0, 2, 0, 0, []), (16, .arraylength, 17, 0, 0, 0, 0, []), (17, .if_icmp .ge 191, 20, 0, 208, 0, 0, []), (20, .aload_n 0, 21, 0, 0, 0, 0, []), (21, .getfield 48, 24, 0, 9, 11, 2, [(0, 213)])]),
 (51, [(24, .getfield 233, 27, 0, 2, 5, 0, [(0, 138)]), (27, .sipush 200, 30, 200, 0, 0, 0, []), (30, .if_icmp .ge 178, 33, 0, 208, 0, 0, []), (33, .aload_n 2, 34, 0, 2, 0, 0, []), (34, .iload_n 3, 35, 0, 3, 0, 0, []), (35, .iaload, 36, 0, 0, 0, 0, []), (36, .iconst 1, 37, 1, 0, 0, 0, []), (37, .if_icmp .eq 10, 40, 0, 47, 0, 0, []), (40, .aload_n 2, 41, 0, 2, 0, 0, []), (41, .iload_n 3, 42, 0, 3, 0, 0, []), (42, .iaload, 43, 0, 0, 0, 0, []), (43, .iconst 2, 44, 2, 0, 0, 0, []), (44, .if_icmp .ne 7, 47, 0, 51, 0, 0, []), (47, .iconst 1, 48, 1, 0, 0, 0, []), (48, .goto 4, 51, 0, 52, 0, 0, []), (51, .iconst 0, 52, 0, 0, 0, 0, [])]),
 (77, [(52, .istore 4, 54, 0, 4, 0, 0, []), (54, .iload 4, 56, 0, 4, 0, 0, []), (56, .ifCond .eq 33, 59, 0, 89, 0, 0, []), (59, .aload_n 0, 60, 0, 0, 0, 0, []), (60, .aload_n 2, 61, 0, 2, 0, 0, []), (61, .iload_n 3, 62, 0, 3, 0, 0, []), (62, .iconst 1, 63, 1, 0, 0, 0, []), (63, .iadd, 64, 0, 0, 0, 0, []), (64, .iaload, 65, 0, 0, 0, 0, []), (65, .invokevirtual 270, 68, 0, 903, 2, 1, [(0, 676), (0, 522), (0, 523), (0, 76), (0, 524)]), (68, .ifCond .eq 21, 71, 0, 89, 0, 0, []), (71, .aload_n 0, 72, 0, 0, 0, 0, []), (72, .getfield 19, 75, 0, 9, 2, 2, [(0, 194)]), (75, .aload_n 2, 76, 0, 2, 0, 0, []), (76, .iload_n 3, 77, 0, 3, 0, 0, []), (77, .iconst 1, 78, 1, 0, 0, 0, [])]),
 (106, [(78, .iadd, 79, 0, 0, 0, 0, []), (79, .iaload, 80, 0, 0, 0, 0, []), (80, .aaload, 81, 0, 0, 0, 0, []), (81, .getfield 176, 84, 0, 3, 3, 2, [(0, 488)]), (84, .iconst 3, 85, 3, 0, 0, 0, []), (85, .iaload, 86, 0, 0, 0, 0, []), (86, .goto 4, 89, 0, 90, 0, 0, []), (89, .iconst 0, 90, 0, 0, 0, 0, []), (90, .istore 5, 92, 0, 5, 0, 0, []), (92, .aload_n 0, 93, 0, 0, 0, 0, []), (93, .getfield 48, 96, 0, 9, 11, 2, [(0, 213)]), (96, .getfield 361, 99, 0, 2, 0, 2, [(0, 123)]), (99, .aload_n 0, 100, 0, 0, 0, 0, []), (100, .getfield 48, 103, 0, 9, 11, 2, [(0, 213)]), (103, .getfield 233, 106, 0, 2, 5, 0, [(0, 138)]), (106, .iload_n 1, 107, 0, 1, 0, 0, [])]),
 (138, [(107, .iastore, 108, 0, 0, 0, 0, []), (108, .aload_n 0, 109, 0, 0, 0, 0, []), (109, .getfield 48, 112, 0, 9, 11, 2, [(0, 213)]), (112, .getfield 364, 115, 0, 2, 1, 2, [(0, 126)]), (115, .aload_n 0, 116, 0, 0, 0, 0, []), (116, .getfield 48, 119, 0, 9, 11, 2, [(0, 213)]), (119, .getfield 233, 122, 0, 2, 5, 0, [(0, 138)]), (122, .aload_n 0, 123, 0, 0, 0, 0, []), (123, .getfield 146, 126, 0, 9, 14, 0, [(0, 221)]), (126, .iastore, 127, 0, 0, 0, 0, []), (127, .aload_n 0, 128, 0, 0, 0, 0, []), (128, .getfield 48, 131, 0, 9, 11, 2, [(0, 213)]), (131, .getfield 257, 134, 0, 2, 2, 2, [(0, 129)]), (134, .aload_n 0, 135, 0, 0, 0, 0, []), (135, .getfield 48, 138, 0, 9, 11, 2, [(0, 213)]), (138, .getfield 233, 141, 0, 2, 5, 0, [(0, 138)])]),
 (164, [(141, .aload_n 2, 142, 0, 2, 0, 0, []), (142, .iload_n 3, 143, 0, 3, 0, 0, []), (143, .iaload, 144, 0, 0, 0, 0, []), (144, .iastore, 145, 0, 0, 0, 0, []), (145, .aload_n 0, 146, 0, 0, 0, 0, []), (146, .getfield 48, 149, 0, 9, 11, 2, [(0, 213)]), (149, .getfield 260, 152, 0, 2, 3, 2, [(0, 132)]), (152, .aload_n 0, 153, 0, 0, 0, 0, []), (153, .getfield 48, 156, 0, 9, 11, 2, [(0, 213)]), (156, .getfield 233, 159, 0, 2, 5, 0, [(0, 138)]), (159, .aload_n 2, 160, 0, 2, 0, 0, []), (160, .iload_n 3, 161, 0, 3, 0, 0, []), (161, .iconst 1, 162, 1, 0, 0, 0, []), (162, .iadd, 163, 0, 0, 0, 0, []), (163, .iaload, 164, 0, 0, 0, 0, []), (164, .iastore, 165, 0, 0, 0, 0, [])]),
 (193, [(165, .aload_n 0, 166, 0, 0, 0, 0, []), (166, .getfield 48, 169, 0, 9, 11, 2, [(0, 213)]), (169, .getfield 254, 172, 0, 2, 4, 2, [(0, 135)]), (172, .aload_n 0, 173, 0, 0, 0, 0, []), (173, .getfield 48, 176, 0, 9, 11, 2, [(0, 213)]), (176, .getfield 233, 179, 0, 2, 5, 0, [(0, 138)]), (179, .aload_n 0, 180, 0, 0, 0, 0, []), (180, .getfield 146, 183, 0, 9, 14, 0, [(0, 221)]), (183, .iload 5, 185, 0, 5, 0, 0, []), (185, .iadd, 186, 0, 0, 0, 0, []), (186, .iconst 1, 187, 1, 0, 0, 0, []), (187, .iadd, 188, 0, 0, 0, 0, []), (188, .iastore, 189, 0, 0, 0, 0, []), (189, .aload_n 0, 190, 0, 0, 0, 0, []), (190, .getfield 48, 193, 0, 9, 11, 2, [(0, 213)]), (193, .dup, 194, 0, 0, 0, 0, [])]),
 (208, [(194, .getfield 233, 197, 0, 2, 5, 0, [(0, 138)]), (197, .iconst 1, 198, 1, 0, 0, 0, []), (198, .iadd, 199, 0, 0, 0, 0, []), (199, .putfield 233, 202, 0, 2, 5, 0, [(0, 138)]), (202, .iinc 3 2, 205, 2, 3, 0, 0, []), (205, .goto (-193), 208, 0, 12, 0, 0, []), (208, .return_, 209, 0, 0, 0, 0, [])])]
def tb_World_isTrue : List (Nat × List (Nat × am_X)) := [
 (22, [(0, .iconst 0, 1, 0, 0, 0, 0, []), (1, .istore_n 2, 2, 0, 2, 0, 0, []), (2, .iconst 0, 3, 0, 0, 0, 0, []), (3, .istore_n 3, 4, 0, 3, 0, 0, []), (4, .iload_n 3, 5, 0, 3, 0, 0, []), (5, .aload_n 1, 6, 0, 1, 0, 0, []), (6, .getfield 366, 9, 0, 4, 0, 2, [(0, 895)]), (9, .arraylength, 10, 0, 0, 0, 0, []), (10, .if_icmp .ge 131, 13, 0, 141, 0, 0, []), (13, .aload_n 1, 14, 0, 1, 0, 0, []), (14, .getfield 366, 17, 0, 4, 0, 2, [(0, 895)]), (17, .iload_n 3, 18, 0, 3, 0, 0, []), (18, .iaload, 19, 0, 0, 0, 0, []), (19, .bipush 17, 21, 17, 0, 0, 0, []), (21, .ishr, 22, 0, 0, 0, 0, []), (22, .istore 4, 24, 0, 4, 0, 0, [])]),
 (52, [(24, .iload 4, 26, 0, 4, 0, 0, []), (26, .bipush 6, 28, 6, 0, 0, 0, []), (28, .if_icmp .gt 40, 31, 0, 68, 0, 0, []), (31, .iload_n 2, 32, 0, 2, 0, 0, []), (32, .aload_n 0, 33, 0, 0, 0, 0, []), (33, .getfield 75, 36, 0, 9, 19, 2, [(0, 230)]), (36, .arraylength, 37, 0, 0, 0, 0, []), (37, .if_icmp .ge 31, 40, 0, 68, 0, 0, []), (40, .aload_n 0, 41, 0, 0, 0, 0, []), (41, .getfield 75, 44, 0, 9, 19, 2, [(0, 230)]), (44, .iload_n 2, 45, 0, 2, 0, 0, []), (45, .aload_n 0, 46, 0, 0, 0, 0, []), (46, .iload 4, 48, 0, 4, 0, 0, []), (48, .aload_n 1, 49, 0, 1, 0, 0, []), (49, .getfield 366, 52, 0, 4, 0, 2, [(0, 895)]), (52, .iload_n 3, 53, 0, 3, 0, 0, [])]),
 (84, [(53, .iaload, 54, 0, 0, 0, 0, []), (54, .ldc_w 371, 57, 131071, 0, 0, 0, [(0, 764)]), (57, .iand, 58, 0, 0, 0, 0, []), (58, .invokevirtual 372, 61, 0, 934, 3, 1, [(0, 765), (0, 767), (0, 12), (0, 76), (0, 768)]), (61, .iastore, 62, 0, 0, 0, 0, []), (62, .iinc 2 1, 65, 1, 2, 0, 0, []), (65, .goto 70, 68, 0, 135, 0, 0, []), (68, .iload 4, 70, 0, 4, 0, 0, []), (70, .bipush 12, 72, 12, 0, 0, 0, []), (72, .if_icmp .ne 28, 75, 0, 100, 0, 0, []), (75, .iload_n 2, 76, 0, 2, 0, 0, []), (76, .ifCond .le 24, 79, 0, 100, 0, 0, []), (79, .aload_n 0, 80, 0, 0, 0, 0, []), (80, .getfield 75, 83, 0, 9, 19, 2, [(0, 230)]), (83, .iload_n 2, 84, 0, 2, 0, 0, []), (84, .iconst 1, 85, 1, 0, 0, 0, [])]),
 (108, [(85, .isub, 86, 0, 0, 0, 0, []), (86, .iconst 1, 87, 1, 0, 0, 0, []), (87, .aload_n 0, 88, 0, 0, 0, 0, []), (88, .getfield 75, 91, 0, 9, 19, 2, [(0, 230)]), (91, .iload_n 2, 92, 0, 2, 0, 0, []), (92, .iconst 1, 93, 1, 0, 0, 0, []), (93, .isub, 94, 0, 0, 0, 0, []), (94, .iaload, 95, 0, 0, 0, 0, []), (95, .isub, 96, 0, 0, 0, 0, []), (96, .iastore, 97, 0, 0, 0, 0, []), (97, .goto 38, 100, 0, 135, 0, 0, []), (100, .iload_n 2, 101, 0, 2, 0, 0, []), (101, .iconst 1, 102, 1, 0, 0, 0, []), (102, .if_icmp .le 33, 105, 0, 135, 0, 0, []), (105, .iinc 2 (-1), 108, (-1), 2, 0, 0, []), (108, .aload_n 0, 109, 0, 0, 0, 0, [])]),
 (131, [(109, .getfield 75, 112, 0, 9, 19, 2, [(0, 230)]), (112, .iload_n 2, 113, 0, 2, 0, 0, []), (113, .iconst 1, 114, 1, 0, 0, 0, []), (114, .isub, 115, 0, 0, 0, 0, []), (115, .iload 4, 117, 0, 4, 0, 0, []), (117, .aload_n 0, 118, 0, 0, 0, 0, []), (118, .getfield 75, 121, 0, 9, 19, 2, [(0, 230)]), (121, .iload_n 2, 122, 0, 2, 0, 0, []), (122, .iconst 1, 123, 1, 0, 0, 0, []), (123, .isub, 124, 0, 0, 0, 0, []), (124, .iaload, 125, 0, 0, 0, 0, []), (125, .aload_n 0, 126, 0, 0, 0, 0, []), (126, .getfield 75, 129, 0, 9, 19, 2, [(0, 230)]), (129, .iload_n 2, 130, 0, 2, 0, 0, []), (130, .iaload, 131, 0, 0, 0, 0, []), (131, .invokestatic 375, 134, 0, 935, 3, 1, [(0, 769), (0, 770), (0, 76), (0, 771)])]),
 (159, [(134, .iastore, 135, 0, 0, 0, 0, []), (135, .iinc 3 1, 138, 1, 3, 0, 0, []), (138, .goto (-134), 141, 0, 4, 0, 0, []), (141, .iload_n 2, 142, 0, 2, 0, 0, []), (142, .ifCond .le 16, 145, 0, 158, 0, 0, []), (145, .aload_n 0, 146, 0, 0, 0, 0, []), (146, .getfield 75, 149, 0, 9, 19, 2, [(0, 230)]), (149, .iconst 0, 150, 0, 0, 0, 0, []), (150, .iaload, 151, 0, 0, 0, 0, []), (151, .ifCond .eq 7, 154, 0, 158, 0, 0, []), (154, .iconst 1, 155, 1, 0, 0, 0, []), (155, .goto 4, 158, 0, 159, 0, 0, []), (158, .iconst 0, 159, 0, 0, 0, 0, []), (159, .ireturn, 160, 0, 0, 0, 1, [])])]
def tb_World_worth : List (Nat × List (Nat × am_X)) := [
 (61, [(0, .iload_n 1, 1, 0, 1, 0, 0, []), (1, .tableswitch 134 0 5 #[39, 41, 46, 68, 90, 112], 40, 0, 135, 0, 0, [(0, 40), (1, 42), (2, 47), (3, 69), (4, 91), (5, 113)]), (40, .iload_n 2, 41, 0, 2, 0, 0, []), (41, .ireturn, 42, 0, 0, 0, 0, []), (42, .aload_n 0, 43, 0, 0, 0, 0, []), (43, .getfield 146, 46, 0, 9, 14, 0, [(0, 221)]), (46, .ireturn, 47, 0, 0, 0, 0, []), (47, .aload_n 0, 48, 0, 0, 0, 0, []), (48, .iload_n 2, 49, 0, 2, 0, 0, []), (49, .invokevirtual 81, 52, 0, 901, 2, 1, [(0, 538), (0, 459), (0, 460), (0, 76), (0, 461)]), (52, .ifCond .eq 15, 55, 0, 67, 0, 0, []), (55, .aload_n 0, 56, 0, 0, 0, 0, []), (56, .getfield 11, 59, 0, 9, 0, 2, [(0, 189)]), (59, .iload_n 2, 60, 0, 2, 0, 0, []), (60, .aaload, 61, 0, 0, 0, 0, []), (61, .invokevirtual 342, 64, 0, 2, 1, 1, [(0, 739), (0, 740), (0, 741), (0, 82), (0, 742)])]),
 (91, [(64, .goto 4, 67, 0, 68, 0, 0, []), (67, .iconst 0, 68, 0, 0, 0, 0, []), (68, .ireturn, 69, 0, 0, 0, 0, []), (69, .aload_n 0, 70, 0, 0, 0, 0, []), (70, .iload_n 2, 71, 0, 2, 0, 0, []), (71, .invokevirtual 81, 74, 0, 901, 2, 1, [(0, 538), (0, 459), (0, 460), (0, 76), (0, 461)]), (74, .ifCond .eq 15, 77, 0, 89, 0, 0, []), (77, .aload_n 0, 78, 0, 0, 0, 0, []), (78, .getfield 11, 81, 0, 9, 0, 2, [(0, 189)]), (81, .iload_n 2, 82, 0, 2, 0, 0, []), (82, .aaload, 83, 0, 0, 0, 0, []), (83, .getfield 179, 86, 0, 0, 2, 0, [(0, 412)]), (86, .goto 4, 89, 0, 90, 0, 0, []), (89, .iconst 0, 90, 0, 0, 0, 0, []), (90, .ireturn, 91, 0, 0, 0, 0, []), (91, .aload_n 0, 92, 0, 0, 0, 0, [])]),
 (121, [(92, .iload_n 2, 93, 0, 2, 0, 0, []), (93, .invokevirtual 81, 96, 0, 901, 2, 1, [(0, 538), (0, 459), (0, 460), (0, 76), (0, 461)]), (96, .ifCond .eq 15, 99, 0, 111, 0, 0, []), (99, .aload_n 0, 100, 0, 0, 0, 0, []), (100, .getfield 11, 103, 0, 9, 0, 2, [(0, 189)]), (103, .iload_n 2, 104, 0, 2, 0, 0, []), (104, .aaload, 105, 0, 0, 0, 0, []), (105, .getfield 379, 108, 0, 0, 5, 0, [(0, 419)]), (108, .goto 4, 111, 0, 112, 0, 0, []), (111, .iconst 0, 112, 0, 0, 0, 0, []), (112, .ireturn, 113, 0, 0, 0, 0, []), (113, .aload_n 0, 114, 0, 0, 0, 0, []), (114, .iload_n 2, 115, 0, 2, 0, 0, []), (115, .invokevirtual 270, 118, 0, 903, 2, 1, [(0, 676), (0, 522), (0, 523), (0, 76), (0, 524)]), (118, .ifCond .eq 15, 121, 0, 133, 0, 0, []), (121, .aload_n 0, 122, 0, 0, 0, 0, [])]),
 (149, [(122, .getfield 19, 125, 0, 9, 2, 2, [(0, 194)]), (125, .iload_n 2, 126, 0, 2, 0, 0, []), (126, .aaload, 127, 0, 0, 0, 0, []), (127, .getfield 285, 130, 0, 3, 4, 0, [(0, 490)]), (130, .goto 4, 133, 0, 134, 0, 0, []), (133, .iconst 0, 134, 0, 0, 0, 0, []), (134, .ireturn, 135, 0, 0, 0, 0, []), (135, .aload_n 0, 136, 0, 0, 0, 0, []), (136, .iload_n 2, 137, 0, 2, 0, 0, []), (137, .invokevirtual 81, 140, 0, 901, 2, 1, [(0, 538), (0, 459), (0, 460), (0, 76), (0, 461)]), (140, .ifCond .eq 15, 143, 0, 155, 0, 0, []), (143, .aload_n 0, 144, 0, 0, 0, 0, []), (144, .getfield 11, 147, 0, 9, 0, 2, [(0, 189)]), (147, .iload_n 2, 148, 0, 2, 0, 0, []), (148, .aaload, 149, 0, 0, 0, 0, []), (149, .getfield 305, 152, 0, 0, 4, 0, [(0, 416)])]),
 (156, [(152, .goto 4, 155, 0, 156, 0, 0, []), (155, .iconst 0, 156, 0, 0, 0, 0, []), (156, .ireturn, 157, 0, 0, 0, 0, [])])]
def tb_World_joined : List (Nat × List (Nat × am_X)) := [
 (61, [(0, .iload_n 0, 1, 0, 0, 0, 0, []), (1, .tableswitch 88 7 13 #[43, 47, 51, 62, 73, 88, 84], 44, 0, 89, 0, 0, [(7, 44), (8, 48), (9, 52), (10, 63), (11, 74), (13, 85)]), (44, .iload_n 1, 45, 0, 1, 0, 0, []), (45, .iload_n 2, 46, 0, 2, 0, 0, []), (46, .iadd, 47, 0, 0, 0, 0, []), (47, .ireturn, 48, 0, 0, 0, 0, []), (48, .iload_n 1, 49, 0, 1, 0, 0, []), (49, .iload_n 2, 50, 0, 2, 0, 0, []), (50, .isub, 51, 0, 0, 0, 0, []), (51, .ireturn, 52, 0, 0, 0, 0, []), (52, .iload_n 1, 53, 0, 1, 0, 0, []), (53, .iload_n 2, 54, 0, 2, 0, 0, []), (54, .if_icmp .ge 7, 57, 0, 61, 0, 0, []), (57, .iconst 1, 58, 1, 0, 0, 0, []), (58, .goto 4, 61, 0, 62, 0, 0, []), (61, .iconst 0, 62, 0, 0, 0, 0, [])]),
 (85, [(62, .ireturn, 63, 0, 0, 0, 0, []), (63, .iload_n 1, 64, 0, 1, 0, 0, []), (64, .iload_n 2, 65, 0, 2, 0, 0, []), (65, .if_icmp .ne 7, 68, 0, 72, 0, 0, []), (68, .iconst 1, 69, 1, 0, 0, 0, []), (69, .goto 4, 72, 0, 73, 0, 0, []), (72, .iconst 0, 73, 0, 0, 0, 0, []), (73, .ireturn, 74, 0, 0, 0, 0, []), (74, .iload_n 1, 75, 0, 1, 0, 0, []), (75, .iload_n 2, 76, 0, 2, 0, 0, []), (76, .if_icmp .le 7, 79, 0, 83, 0, 0, []), (79, .iconst 1, 80, 1, 0, 0, 0, []), (80, .goto 4, 83, 0, 84, 0, 0, []), (83, .iconst 0, 84, 0, 0, 0, 0, []), (84, .ireturn, 85, 0, 0, 0, 0, []), (85, .iload_n 1, 86, 0, 1, 0, 0, [])]),
 (92, [(86, .iload_n 2, 87, 0, 2, 0, 0, []), (87, .iand, 88, 0, 0, 0, 0, []), (88, .ireturn, 89, 0, 0, 0, 0, []), (89, .iload_n 1, 90, 0, 1, 0, 0, []), (90, .iload_n 2, 91, 0, 2, 0, 0, []), (91, .ior, 92, 0, 0, 0, 0, []), (92, .ireturn, 93, 0, 0, 0, 0, [])])]
def tb_C_init : List (Nat × List (Nat × am_X)) := [
 (31, [(0, .aload_n 0, 1, 0, 0, 0, 0, []), (1, .invokespecial 1, 4, 0, 9999, 1, 0, [(0, 96), (0, 97), (0, 98)]), (4, .aload_n 0, 5, 0, 0, 0, 0, []), (5, .new 7, 8, 0, 9, 20, 0, [(0, 99), (0, 100), (0, 76)]), (8, .dup, 9, 0, 0, 0, 0, []), (9, .invokespecial 9, 12, 0, 900, 1, 0, [(1, 101), (0, 102), (0, 76), (0, 103)]), (12, .putfield 10, 15, 0, 10, 0, 2, [(0, 332)]), (15, .aload_n 0, 16, 0, 0, 0, 0, []), (16, .new 7, 19, 0, 9, 20, 0, [(0, 99), (0, 100), (0, 76)]), (19, .dup, 20, 0, 0, 0, 0, []), (20, .invokespecial 9, 23, 0, 900, 1, 0, [(1, 101), (0, 102), (0, 76), (0, 103)]), (23, .putfield 16, 26, 0, 10, 1, 2, [(0, 333)]), (26, .aload_n 0, 27, 0, 0, 0, 0, []), (27, .new 19, 30, 0, 5, 9, 0, [(0, 272), (0, 273), (0, 79)]), (30, .dup, 31, 0, 0, 0, 0, []), (31, .invokespecial 21, 34, 0, 500, 1, 0, [(1, 274), (0, 275), (0, 79), (0, 276)])]),
 (64, [(34, .putfield 22, 37, 0, 10, 2, 2, [(0, 334)]), (37, .aload_n 0, 38, 0, 0, 0, 0, []), (38, .new 26, 41, 0, 6, 5, 0, [(0, 308), (0, 309), (0, 80)]), (41, .dup, 42, 0, 0, 0, 0, []), (42, .invokespecial 28, 45, 0, 600, 1, 0, [(1, 310), (0, 311), (0, 80), (0, 312)]), (45, .putfield 29, 48, 0, 10, 3, 2, [(0, 335)]), (48, .aload_n 0, 49, 0, 0, 0, 0, []), (49, .bipush 7, 51, 7, 0, 0, 0, []), (51, .newarray .int, 53, 0, 100, 0, 0, [(0, 157)]), (53, .putfield 33, 56, 0, 10, 4, 2, [(0, 336)]), (56, .aload_n 0, 57, 0, 0, 0, 0, []), (57, .iconst 4, 58, 4, 0, 0, 0, []), (58, .newarray .int, 60, 0, 100, 0, 0, [(0, 157)]), (60, .putfield 37, 63, 0, 10, 5, 2, [(0, 337)]), (63, .aload_n 0, 64, 0, 0, 0, 0, []), (64, .iconst 4, 65, 4, 0, 0, 0, [])]),
 (93, [(65, .newarray .int, 67, 0, 100, 0, 0, [(0, 157)]), (67, .putfield 40, 70, 0, 10, 6, 2, [(0, 338)]), (70, .aload_n 0, 71, 0, 0, 0, 0, []), (71, .iconst 4, 72, 4, 0, 0, 0, []), (72, .newarray .int, 74, 0, 100, 0, 0, [(0, 157)]), (74, .putfield 43, 77, 0, 10, 7, 2, [(0, 339)]), (77, .aload_n 0, 78, 0, 0, 0, 0, []), (78, .iconst 1, 79, 1, 0, 0, 0, []), (79, .putfield 46, 82, 0, 10, 9, 0, [(0, 341)]), (82, .aload_n 0, 83, 0, 0, 0, 0, []), (83, .bipush 124, 85, 124, 0, 0, 0, []), (85, .newarray .int, 87, 0, 100, 0, 0, [(0, 157)]), (87, .putfield 50, 90, 0, 10, 10, 2, [(0, 342)]), (90, .aload_n 0, 91, 0, 0, 0, 0, []), (91, .bipush 31, 93, 31, 0, 0, 0, []), (93, .newarray .int, 95, 0, 100, 0, 0, [(0, 157)])]),
 (98, [(95, .putfield 53, 98, 0, 10, 11, 2, [(0, 343)]), (98, .return_, 99, 0, 0, 0, 0, [])])]
def tb_C_area : List (Nat × List (Nat × am_X)) := [
 (27, [(0, .iload_n 1, 1, 0, 1, 0, 0, []), (1, .ifCond .lt 8, 4, 0, 9, 0, 0, []), (4, .iload_n 1, 5, 0, 1, 0, 0, []), (5, .iconst 3, 6, 3, 0, 0, 0, []), (6, .if_icmp .le 10, 9, 0, 16, 0, 0, []), (9, .aload_n 0, 10, 0, 0, 0, 0, []), (10, .bipush (-2), 12, (-2), 0, 0, 0, []), (12, .invokevirtual 56, 15, 0, 1027, 2, 1, [(0, 391), (0, 393), (0, 0), (0, 75), (0, 394)]), (15, .ireturn, 16, 0, 0, 0, 0, []), (16, .iload_n 2, 17, 0, 2, 0, 0, []), (17, .iconst 1, 18, 1, 0, 0, 0, []), (18, .if_icmp .ge 10, 21, 0, 28, 0, 0, []), (21, .aload_n 0, 22, 0, 0, 0, 0, []), (22, .bipush (-4), 24, (-4), 0, 0, 0, []), (24, .invokevirtual 56, 27, 0, 1027, 2, 1, [(0, 391), (0, 393), (0, 0), (0, 75), (0, 394)]), (27, .ireturn, 28, 0, 0, 0, 0, [])]),
 (59, [(28, .iload_n 2, 29, 0, 2, 0, 0, []), (29, .sipush 20000, 32, 20000, 0, 0, 0, []), (32, .if_icmp .gt 15, 35, 0, 47, 0, 0, []), (35, .aload_n 0, 36, 0, 0, 0, 0, []), (36, .getfield 10, 39, 0, 10, 0, 2, [(0, 332)]), (39, .getfield 60, 42, 0, 9, 1, 0, [(0, 193)]), (42, .bipush 20, 44, 20, 0, 0, 0, []), (44, .if_icmp .lt 10, 47, 0, 54, 0, 0, []), (47, .aload_n 0, 48, 0, 0, 0, 0, []), (48, .bipush (-6), 50, (-6), 0, 0, 0, []), (50, .invokevirtual 56, 53, 0, 1027, 2, 1, [(0, 391), (0, 393), (0, 0), (0, 75), (0, 394)]), (53, .ireturn, 54, 0, 0, 0, 0, []), (54, .aload_n 0, 55, 0, 0, 0, 0, []), (55, .dup, 56, 0, 0, 0, 0, []), (56, .getfield 46, 59, 0, 10, 9, 0, [(0, 341)]), (59, .iconst 1, 60, 1, 0, 0, 0, [])]),
 (89, [(60, .iadd, 61, 0, 0, 0, 0, []), (61, .putfield 46, 64, 0, 10, 9, 0, [(0, 341)]), (64, .aload_n 0, 65, 0, 0, 0, 0, []), (65, .getfield 10, 68, 0, 10, 0, 2, [(0, 332)]), (68, .getfield 63, 71, 0, 9, 0, 2, [(0, 190)]), (71, .aload_n 0, 72, 0, 0, 0, 0, []), (72, .getfield 10, 75, 0, 10, 0, 2, [(0, 332)]), (75, .getfield 60, 78, 0, 9, 1, 0, [(0, 193)]), (78, .new 67, 81, 0, 0, 10, 0, [(0, 395), (0, 396), (0, 82)]), (81, .dup, 82, 0, 0, 0, 0, []), (82, .iload_n 1, 83, 0, 1, 0, 0, []), (83, .iload_n 2, 84, 0, 2, 0, 0, []), (84, .invokespecial 69, 87, 0, 0, 3, 0, [(0, 397), (0, 398), (0, 82), (0, 399)]), (87, .aastore, 88, 0, 0, 0, 0, []), (88, .aload_n 0, 89, 0, 0, 0, 0, []), (89, .getfield 10, 92, 0, 10, 0, 2, [(0, 332)])]),
 (112, [(92, .getfield 72, 95, 0, 9, 12, 2, [(0, 216)]), (95, .invokevirtual 76, 98, 0, 801, 1, 0, [(0, 450), (0, 451), (0, 452), (0, 78), (0, 453)]), (98, .aload_n 0, 99, 0, 0, 0, 0, []), (99, .getfield 10, 102, 0, 10, 0, 2, [(0, 332)]), (102, .dup, 103, 0, 0, 0, 0, []), (103, .getfield 60, 106, 0, 9, 1, 0, [(0, 193)]), (106, .dup_x1, 107, 0, 0, 0, 0, []), (107, .iconst 1, 108, 1, 0, 0, 0, []), (108, .iadd, 109, 0, 0, 0, 0, []), (109, .putfield 60, 112, 0, 9, 1, 0, [(0, 193)]), (112, .ireturn, 113, 0, 0, 0, 0, [])])]
def tb_C_link : List (Nat × List (Nat × am_X)) := [
 (29, [(0, .aload_n 0, 1, 0, 0, 0, 0, []), (1, .getfield 10, 4, 0, 10, 0, 2, [(0, 332)]), (4, .iload_n 1, 5, 0, 1, 0, 0, []), (5, .invokevirtual 81, 8, 0, 901, 2, 1, [(0, 458), (0, 459), (0, 460), (0, 76), (0, 461)]), (8, .ifCond .eq 19, 11, 0, 27, 0, 0, []), (11, .aload_n 0, 12, 0, 0, 0, 0, []), (12, .getfield 10, 15, 0, 10, 0, 2, [(0, 332)]), (15, .iload_n 2, 16, 0, 2, 0, 0, []), (16, .invokevirtual 81, 19, 0, 901, 2, 1, [(0, 458), (0, 459), (0, 460), (0, 76), (0, 461)]), (19, .ifCond .eq 8, 22, 0, 27, 0, 0, []), (22, .iload_n 1, 23, 0, 1, 0, 0, []), (23, .iload_n 2, 24, 0, 2, 0, 0, []), (24, .if_icmp .ne 9, 27, 0, 33, 0, 0, []), (27, .aload_n 0, 28, 0, 0, 0, 0, []), (28, .iconst (-1), 29, (-1), 0, 0, 0, []), (29, .invokevirtual 56, 32, 0, 1027, 2, 1, [(0, 391), (0, 393), (0, 0), (0, 75), (0, 394)])]),
 (59, [(32, .ireturn, 33, 0, 0, 0, 0, []), (33, .iload_n 3, 34, 0, 3, 0, 0, []), (34, .getstatic 85, 37, 0, 301, 0, 0, [(0, 462)]), (37, .iconst 4, 38, 4, 0, 0, 0, []), (38, .iaload, 39, 0, 0, 0, 0, []), (39, .if_icmp .lt 9, 42, 0, 48, 0, 0, []), (42, .iload 4, 44, 0, 4, 0, 0, []), (44, .iconst 1, 45, 1, 0, 0, 0, []), (45, .if_icmp .ge 10, 48, 0, 55, 0, 0, []), (48, .aload_n 0, 49, 0, 0, 0, 0, []), (49, .bipush (-4), 51, (-4), 0, 0, 0, []), (51, .invokevirtual 56, 54, 0, 1027, 2, 1, [(0, 391), (0, 393), (0, 0), (0, 75), (0, 394)]), (54, .ireturn, 55, 0, 0, 0, 0, []), (55, .iload_n 3, 56, 0, 3, 0, 0, []), (56, .getstatic 88, 59, 0, 302, 0, 0, [(0, 464)]), (59, .iconst 4, 60, 4, 0, 0, 0, [])]),
 (91, [(60, .iaload, 61, 0, 0, 0, 0, []), (61, .if_icmp .gt 22, 64, 0, 83, 0, 0, []), (64, .iload 4, 66, 0, 4, 0, 0, []), (66, .bipush 9, 68, 9, 0, 0, 0, []), (68, .if_icmp .gt 15, 71, 0, 83, 0, 0, []), (71, .aload_n 0, 72, 0, 0, 0, 0, []), (72, .getfield 10, 75, 0, 10, 0, 2, [(0, 332)]), (75, .getfield 91, 78, 0, 9, 3, 0, [(0, 197)]), (78, .bipush 30, 80, 30, 0, 0, 0, []), (80, .if_icmp .lt 10, 83, 0, 90, 0, 0, []), (83, .aload_n 0, 84, 0, 0, 0, 0, []), (84, .bipush (-6), 86, (-6), 0, 0, 0, []), (86, .invokevirtual 56, 89, 0, 1027, 2, 1, [(0, 391), (0, 393), (0, 0), (0, 75), (0, 394)]), (89, .ireturn, 90, 0, 0, 0, 0, []), (90, .aload_n 0, 91, 0, 0, 0, 0, []), (91, .dup, 92, 0, 0, 0, 0, [])]),
 (120, [(92, .getfield 46, 95, 0, 10, 9, 0, [(0, 341)]), (95, .iconst 1, 96, 1, 0, 0, 0, []), (96, .iadd, 97, 0, 0, 0, 0, []), (97, .putfield 46, 100, 0, 10, 9, 0, [(0, 341)]), (100, .new 94, 103, 0, 3, 8, 0, [(0, 466), (0, 467), (0, 84)]), (103, .dup, 104, 0, 0, 0, 0, []), (104, .iload_n 1, 105, 0, 1, 0, 0, []), (105, .iload_n 2, 106, 0, 2, 0, 0, []), (106, .iload 4, 108, 0, 4, 0, 0, []), (108, .invokespecial 96, 111, 0, 300, 4, 0, [(0, 468), (0, 469), (0, 84), (0, 470)]), (111, .astore 5, 113, 0, 5, 0, 0, []), (113, .aload 5, 115, 0, 5, 0, 0, []), (115, .getfield 99, 118, 0, 3, 3, 2, [(0, 486)]), (118, .iconst 0, 119, 0, 0, 0, 0, []), (119, .iconst 1, 120, 1, 0, 0, 0, []), (120, .iastore, 121, 0, 0, 0, 0, [])]),
 (150, [(121, .aload 5, 123, 0, 5, 0, 0, []), (123, .getfield 99, 126, 0, 3, 3, 2, [(0, 486)]), (126, .iconst 4, 127, 4, 0, 0, 0, []), (127, .iload_n 3, 128, 0, 3, 0, 0, []), (128, .iastore, 129, 0, 0, 0, 0, []), (129, .aload_n 0, 130, 0, 0, 0, 0, []), (130, .getfield 10, 133, 0, 10, 0, 2, [(0, 332)]), (133, .getfield 102, 136, 0, 9, 2, 2, [(0, 195)]), (136, .aload_n 0, 137, 0, 0, 0, 0, []), (137, .getfield 10, 140, 0, 10, 0, 2, [(0, 332)]), (140, .getfield 91, 143, 0, 9, 3, 0, [(0, 197)]), (143, .aload 5, 145, 0, 5, 0, 0, []), (145, .aastore, 146, 0, 0, 0, 0, []), (146, .aload_n 0, 147, 0, 0, 0, 0, []), (147, .getfield 10, 150, 0, 10, 0, 2, [(0, 332)]), (150, .getfield 72, 153, 0, 9, 12, 2, [(0, 216)])]),
 (170, [(153, .invokevirtual 76, 156, 0, 801, 1, 0, [(0, 450), (0, 451), (0, 452), (0, 78), (0, 453)]), (156, .aload_n 0, 157, 0, 0, 0, 0, []), (157, .getfield 10, 160, 0, 10, 0, 2, [(0, 332)]), (160, .dup, 161, 0, 0, 0, 0, []), (161, .getfield 91, 164, 0, 9, 3, 0, [(0, 197)]), (164, .dup_x1, 165, 0, 0, 0, 0, []), (165, .iconst 1, 166, 1, 0, 0, 0, []), (166, .iadd, 167, 0, 0, 0, 0, []), (167, .putfield 91, 170, 0, 9, 3, 0, [(0, 197)]), (170, .ireturn, 171, 0, 0, 0, 0, [])])]
def tb_C_linkSet : List (Nat × List (Nat × am_X)) := [
 (26, [(0, .aload_n 0, 1, 0, 0, 0, 0, []), (1, .iload_n 1, 2, 0, 1, 0, 0, []), (2, .iload_n 2, 3, 0, 2, 0, 0, []), (3, .iload_n 3, 4, 0, 3, 0, 0, []), (4, .invokevirtual 106, 7, 0, 1028, 4, 1, [(0, 517), (0, 519), (0, 1), (0, 75), (0, 520)]), (7, .istore 4, 9, 0, 4, 0, 0, []), (9, .iload 4, 11, 0, 4, 0, 0, []), (11, .ifCond .ge 10, 14, 0, 21, 0, 0, []), (14, .aload_n 0, 15, 0, 0, 0, 0, []), (15, .iload 4, 17, 0, 4, 0, 0, []), (17, .invokevirtual 56, 20, 0, 1027, 2, 1, [(0, 391), (0, 393), (0, 0), (0, 75), (0, 394)]), (20, .ireturn, 21, 0, 0, 0, 0, []), (21, .aload_n 0, 22, 0, 0, 0, 0, []), (22, .dup, 23, 0, 0, 0, 0, []), (23, .getfield 46, 26, 0, 10, 9, 0, [(0, 341)]), (26, .iconst 1, 27, 1, 0, 0, 0, [])]),
 (53, [(27, .iadd, 28, 0, 0, 0, 0, []), (28, .putfield 46, 31, 0, 10, 9, 0, [(0, 341)]), (31, .aload_n 0, 32, 0, 0, 0, 0, []), (32, .getfield 10, 35, 0, 10, 0, 2, [(0, 332)]), (35, .getfield 102, 38, 0, 9, 2, 2, [(0, 195)]), (38, .iload_n 1, 39, 0, 1, 0, 0, []), (39, .aaload, 40, 0, 0, 0, 0, []), (40, .getfield 99, 43, 0, 3, 3, 2, [(0, 486)]), (43, .iload_n 2, 44, 0, 2, 0, 0, []), (44, .iaload, 45, 0, 0, 0, 0, []), (45, .istore 5, 47, 0, 5, 0, 0, []), (47, .aload_n 0, 48, 0, 0, 0, 0, []), (48, .getfield 10, 51, 0, 10, 0, 2, [(0, 332)]), (51, .iload_n 1, 52, 0, 1, 0, 0, []), (52, .iload_n 2, 53, 0, 2, 0, 0, []), (53, .iload_n 3, 54, 0, 3, 0, 0, [])]),
 (59, [(54, .invokevirtual 110, 57, 0, 909, 4, 0, [(0, 525), (0, 526), (0, 527), (0, 76), (0, 528)]), (57, .iload 5, 59, 0, 5, 0, 0, []), (59, .ireturn, 60, 0, 0, 0, 0, [])])]
def tb_C_folk : List (Nat × List (Nat × am_X)) := [
 (30, [(0, .aload_n 0, 1, 0, 0, 0, 0, []), (1, .getfield 10, 4, 0, 10, 0, 2, [(0, 332)]), (4, .iload_n 1, 5, 0, 1, 0, 0, []), (5, .invokevirtual 81, 8, 0, 901, 2, 1, [(0, 458), (0, 459), (0, 460), (0, 76), (0, 461)]), (8, .ifCond .eq 14, 11, 0, 22, 0, 0, []), (11, .aload_n 0, 12, 0, 0, 0, 0, []), (12, .getfield 10, 15, 0, 10, 0, 2, [(0, 332)]), (15, .iload_n 3, 16, 0, 3, 0, 0, []), (16, .invokevirtual 113, 19, 0, 902, 2, 1, [(0, 534), (0, 535), (0, 536), (0, 76), (0, 537)]), (19, .ifCond .ne 9, 22, 0, 28, 0, 0, []), (22, .aload_n 0, 23, 0, 0, 0, 0, []), (23, .iconst (-1), 24, (-1), 0, 0, 0, []), (24, .invokevirtual 56, 27, 0, 1027, 2, 1, [(0, 391), (0, 393), (0, 0), (0, 75), (0, 394)]), (27, .ireturn, 28, 0, 0, 0, 0, []), (28, .iload 4, 30, 0, 4, 0, 0, []), (30, .ifCond .lt 9, 33, 0, 39, 0, 0, [])]),
 (59, [(33, .iload 4, 35, 0, 4, 0, 0, []), (35, .iconst 2, 36, 2, 0, 0, 0, []), (36, .if_icmp .le 10, 39, 0, 46, 0, 0, []), (39, .aload_n 0, 40, 0, 0, 0, 0, []), (40, .bipush (-2), 42, (-2), 0, 0, 0, []), (42, .invokevirtual 56, 45, 0, 1027, 2, 1, [(0, 391), (0, 393), (0, 0), (0, 75), (0, 394)]), (45, .ireturn, 46, 0, 0, 0, 0, []), (46, .iload_n 1, 47, 0, 1, 0, 0, []), (47, .iload_n 3, 48, 0, 3, 0, 0, []), (48, .if_icmp .ne 10, 51, 0, 58, 0, 0, []), (51, .aload_n 0, 52, 0, 0, 0, 0, []), (52, .bipush (-3), 54, (-3), 0, 0, 0, []), (54, .invokevirtual 56, 57, 0, 1027, 2, 1, [(0, 391), (0, 393), (0, 0), (0, 75), (0, 394)]), (57, .ireturn, 58, 0, 0, 0, 0, []), (58, .iload_n 2, 59, 0, 2, 0, 0, []), (59, .iconst 1, 60, 1, 0, 0, 0, [])]),
 (89, [(60, .if_icmp .ge 10, 63, 0, 70, 0, 0, []), (63, .aload_n 0, 64, 0, 0, 0, 0, []), (64, .bipush (-4), 66, (-4), 0, 0, 0, []), (66, .invokevirtual 56, 69, 0, 1027, 2, 1, [(0, 391), (0, 393), (0, 0), (0, 75), (0, 394)]), (69, .ireturn, 70, 0, 0, 0, 0, []), (70, .aload_n 0, 71, 0, 0, 0, 0, []), (71, .getfield 10, 74, 0, 10, 0, 2, [(0, 332)]), (74, .getfield 63, 77, 0, 9, 0, 2, [(0, 190)]), (77, .iload_n 1, 78, 0, 1, 0, 0, []), (78, .aaload, 79, 0, 0, 0, 0, []), (79, .astore 5, 81, 0, 5, 0, 0, []), (81, .iload_n 2, 82, 0, 2, 0, 0, []), (82, .sipush 9999, 85, 9999, 0, 0, 0, []), (85, .if_icmp .gt 30, 88, 0, 115, 0, 0, []), (88, .aload_n 0, 89, 0, 0, 0, 0, []), (89, .getfield 10, 92, 0, 10, 0, 2, [(0, 332)])]),
 (123, [(92, .getfield 116, 95, 0, 9, 5, 0, [(0, 203)]), (95, .bipush 24, 97, 24, 0, 0, 0, []), (97, .if_icmp .ge 18, 100, 0, 115, 0, 0, []), (100, .iload_n 2, 101, 0, 2, 0, 0, []), (101, .aload 5, 103, 0, 5, 0, 0, []), (103, .getfield 119, 106, 0, 0, 1, 0, [(0, 408)]), (106, .aload 5, 108, 0, 5, 0, 0, []), (108, .getfield 122, 111, 0, 0, 2, 0, [(0, 411)]), (111, .isub, 112, 0, 0, 0, 0, []), (112, .if_icmp .le 10, 115, 0, 122, 0, 0, []), (115, .aload_n 0, 116, 0, 0, 0, 0, []), (116, .bipush (-6), 118, (-6), 0, 0, 0, []), (118, .invokevirtual 56, 121, 0, 1027, 2, 1, [(0, 391), (0, 393), (0, 0), (0, 75), (0, 394)]), (121, .ireturn, 122, 0, 0, 0, 0, []), (122, .aload_n 0, 123, 0, 0, 0, 0, []), (123, .dup, 124, 0, 0, 0, 0, [])]),
 (152, [(124, .getfield 46, 127, 0, 10, 9, 0, [(0, 341)]), (127, .iconst 1, 128, 1, 0, 0, 0, []), (128, .iadd, 129, 0, 0, 0, 0, []), (129, .putfield 46, 132, 0, 10, 9, 0, [(0, 341)]), (132, .new 125, 135, 0, 1, 10, 0, [(0, 539), (0, 540), (0, 85)]), (135, .dup, 136, 0, 0, 0, 0, []), (136, .iload_n 1, 137, 0, 1, 0, 0, []), (137, .iload_n 2, 138, 0, 2, 0, 0, []), (138, .iload_n 3, 139, 0, 3, 0, 0, []), (139, .iload 4, 141, 0, 4, 0, 0, []), (141, .invokespecial 127, 144, 0, 100, 5, 0, [(0, 541), (0, 542), (0, 85), (0, 543)]), (144, .astore 6, 146, 0, 6, 0, 0, []), (146, .aload 6, 148, 0, 6, 0, 0, []), (148, .getfield 130, 151, 0, 1, 5, 2, [(0, 558)]), (151, .iload_n 1, 152, 0, 1, 0, 0, []), (152, .iload_n 2, 153, 0, 2, 0, 0, [])]),
 (182, [(153, .iastore, 154, 0, 0, 0, 0, []), (154, .aload 6, 156, 0, 6, 0, 0, []), (156, .iload_n 2, 157, 0, 2, 0, 0, []), (157, .putfield 133, 160, 0, 1, 7, 0, [(0, 563)]), (160, .aload_n 0, 161, 0, 0, 0, 0, []), (161, .getfield 10, 164, 0, 10, 0, 2, [(0, 332)]), (164, .getfield 136, 167, 0, 9, 4, 2, [(0, 201)]), (167, .aload_n 0, 168, 0, 0, 0, 0, []), (168, .getfield 10, 171, 0, 10, 0, 2, [(0, 332)]), (171, .getfield 116, 174, 0, 9, 5, 0, [(0, 203)]), (174, .aload 6, 176, 0, 6, 0, 0, []), (176, .aastore, 177, 0, 0, 0, 0, []), (177, .aload_n 0, 178, 0, 0, 0, 0, []), (178, .getfield 10, 181, 0, 10, 0, 2, [(0, 332)]), (181, .iload_n 1, 182, 0, 1, 0, 0, []), (182, .iload_n 2, 183, 0, 2, 0, 0, [])]),
 (200, [(183, .invokevirtual 140, 186, 0, 910, 3, 0, [(0, 592), (0, 593), (0, 594), (0, 76), (0, 595)]), (186, .aload_n 0, 187, 0, 0, 0, 0, []), (187, .getfield 10, 190, 0, 10, 0, 2, [(0, 332)]), (190, .dup, 191, 0, 0, 0, 0, []), (191, .getfield 116, 194, 0, 9, 5, 0, [(0, 203)]), (194, .dup_x1, 195, 0, 0, 0, 0, []), (195, .iconst 1, 196, 1, 0, 0, 0, []), (196, .iadd, 197, 0, 0, 0, 0, []), (197, .putfield 116, 200, 0, 9, 5, 0, [(0, 203)]), (200, .ireturn, 201, 0, 0, 0, 0, [])])]
def tb_C_train : List (Nat × List (Nat × am_X)) := [
 (29, [(0, .aload_n 0, 1, 0, 0, 0, 0, []), (1, .getfield 10, 4, 0, 10, 0, 2, [(0, 332)]), (4, .iload_n 1, 5, 0, 1, 0, 0, []), (5, .invokevirtual 113, 8, 0, 902, 2, 1, [(0, 534), (0, 535), (0, 536), (0, 76), (0, 537)]), (8, .ifCond .ne 9, 11, 0, 17, 0, 0, []), (11, .aload_n 0, 12, 0, 0, 0, 0, []), (12, .iconst (-1), 13, (-1), 0, 0, 0, []), (13, .invokevirtual 56, 16, 0, 1027, 2, 1, [(0, 391), (0, 393), (0, 0), (0, 75), (0, 394)]), (16, .ireturn, 17, 0, 0, 0, 0, []), (17, .iload_n 2, 18, 0, 2, 0, 0, []), (18, .aload_n 0, 19, 0, 0, 0, 0, []), (19, .getfield 10, 22, 0, 10, 0, 2, [(0, 332)]), (22, .getfield 143, 25, 0, 9, 14, 0, [(0, 220)]), (25, .if_icmp .lt 14, 28, 0, 39, 0, 0, []), (28, .iload_n 3, 29, 0, 3, 0, 0, []), (29, .iconst 1, 30, 1, 0, 0, 0, [])]),
 (62, [(30, .if_icmp .lt 9, 33, 0, 39, 0, 0, []), (33, .iload 4, 35, 0, 4, 0, 0, []), (35, .iconst 1, 36, 1, 0, 0, 0, []), (36, .if_icmp .ge 10, 39, 0, 46, 0, 0, []), (39, .aload_n 0, 40, 0, 0, 0, 0, []), (40, .bipush (-4), 42, (-4), 0, 0, 0, []), (42, .invokevirtual 56, 45, 0, 1027, 2, 1, [(0, 391), (0, 393), (0, 0), (0, 75), (0, 394)]), (45, .ireturn, 46, 0, 0, 0, 0, []), (46, .iload_n 2, 47, 0, 2, 0, 0, []), (47, .sipush 999, 50, 999, 0, 0, 0, []), (50, .if_icmp .gt 30, 53, 0, 80, 0, 0, []), (53, .iload_n 3, 54, 0, 3, 0, 0, []), (54, .sipush 200, 57, 200, 0, 0, 0, []), (57, .if_icmp .gt 23, 60, 0, 80, 0, 0, []), (60, .iload 4, 62, 0, 4, 0, 0, []), (62, .sipush 9999, 65, 9999, 0, 0, 0, [])]),
 (94, [(65, .if_icmp .gt 15, 68, 0, 80, 0, 0, []), (68, .aload_n 0, 69, 0, 0, 0, 0, []), (69, .getfield 10, 72, 0, 10, 0, 2, [(0, 332)]), (72, .getfield 146, 75, 0, 9, 7, 0, [(0, 207)]), (75, .bipush 8, 77, 8, 0, 0, 0, []), (77, .if_icmp .lt 10, 80, 0, 87, 0, 0, []), (80, .aload_n 0, 81, 0, 0, 0, 0, []), (81, .bipush (-6), 83, (-6), 0, 0, 0, []), (83, .invokevirtual 56, 86, 0, 1027, 2, 1, [(0, 391), (0, 393), (0, 0), (0, 75), (0, 394)]), (86, .ireturn, 87, 0, 0, 0, 0, []), (87, .aload_n 0, 88, 0, 0, 0, 0, []), (88, .dup, 89, 0, 0, 0, 0, []), (89, .getfield 46, 92, 0, 10, 9, 0, [(0, 341)]), (92, .iconst 1, 93, 1, 0, 0, 0, []), (93, .iadd, 94, 0, 0, 0, 0, []), (94, .putfield 46, 97, 0, 10, 9, 0, [(0, 341)])]),
 (125, [(97, .aload_n 0, 98, 0, 0, 0, 0, []), (98, .getfield 10, 101, 0, 10, 0, 2, [(0, 332)]), (101, .getfield 149, 104, 0, 9, 6, 2, [(0, 205)]), (104, .aload_n 0, 105, 0, 0, 0, 0, []), (105, .getfield 10, 108, 0, 10, 0, 2, [(0, 332)]), (108, .getfield 146, 111, 0, 9, 7, 0, [(0, 207)]), (111, .new 153, 114, 0, 7, 6, 0, [(0, 604), (0, 605), (0, 86)]), (114, .dup, 115, 0, 0, 0, 0, []), (115, .iload_n 1, 116, 0, 1, 0, 0, []), (116, .iload_n 2, 117, 0, 2, 0, 0, []), (117, .iload_n 3, 118, 0, 3, 0, 0, []), (118, .iload 4, 120, 0, 4, 0, 0, []), (120, .invokespecial 155, 123, 0, 700, 5, 0, [(0, 606), (0, 607), (0, 86), (0, 608)]), (123, .aastore, 124, 0, 0, 0, 0, []), (124, .aload_n 0, 125, 0, 0, 0, 0, []), (125, .getfield 10, 128, 0, 10, 0, 2, [(0, 332)])]),
 (138, [(128, .dup, 129, 0, 0, 0, 0, []), (129, .getfield 146, 132, 0, 9, 7, 0, [(0, 207)]), (132, .dup_x1, 133, 0, 0, 0, 0, []), (133, .iconst 1, 134, 1, 0, 0, 0, []), (134, .iadd, 135, 0, 0, 0, 0, []), (135, .putfield 146, 138, 0, 9, 7, 0, [(0, 207)]), (138, .ireturn, 139, 0, 0, 0, 0, [])])]
def tb_C_hold : List (Nat × List (Nat × am_X)) := [
 (27, [(0, .aload_n 0, 1, 0, 0, 0, 0, []), (1, .getfield 10, 4, 0, 10, 0, 2, [(0, 332)]), (4, .iload_n 1, 5, 0, 1, 0, 0, []), (5, .invokevirtual 156, 8, 0, 905, 2, 1, [(0, 640), (0, 641), (0, 642), (0, 76), (0, 643)]), (8, .ifCond .ne 9, 11, 0, 17, 0, 0, []), (11, .aload_n 0, 12, 0, 0, 0, 0, []), (12, .iconst (-1), 13, (-1), 0, 0, 0, []), (13, .invokevirtual 56, 16, 0, 1027, 2, 1, [(0, 391), (0, 393), (0, 0), (0, 75), (0, 394)]), (16, .ireturn, 17, 0, 0, 0, 0, []), (17, .aload_n 0, 18, 0, 0, 0, 0, []), (18, .getfield 10, 21, 0, 10, 0, 2, [(0, 332)]), (21, .getfield 149, 24, 0, 9, 6, 2, [(0, 205)]), (24, .iload_n 1, 25, 0, 1, 0, 0, []), (25, .aaload, 26, 0, 0, 0, 0, []), (26, .astore_n 3, 27, 0, 3, 0, 0, []), (27, .aload_n 3, 28, 0, 3, 0, 0, [])]),
 (53, [(28, .getfield 159, 31, 0, 7, 5, 1, [(0, 621)]), (31, .iload_n 2, 32, 0, 2, 0, 0, []), (32, .if_icmp .ne 5, 35, 0, 37, 0, 0, []), (35, .iconst 0, 36, 0, 0, 0, 0, []), (36, .ireturn, 37, 0, 0, 0, 0, []), (37, .aload_n 0, 38, 0, 0, 0, 0, []), (38, .dup, 39, 0, 0, 0, 0, []), (39, .getfield 46, 42, 0, 10, 9, 0, [(0, 341)]), (42, .iconst 1, 43, 1, 0, 0, 0, []), (43, .iadd, 44, 0, 0, 0, 0, []), (44, .putfield 46, 47, 0, 10, 9, 0, [(0, 341)]), (47, .aload_n 3, 48, 0, 3, 0, 0, []), (48, .iload_n 2, 49, 0, 2, 0, 0, []), (49, .putfield 159, 52, 0, 7, 5, 1, [(0, 621)]), (52, .iconst 1, 53, 1, 0, 0, 0, []), (53, .ireturn, 54, 0, 0, 0, 0, [])])]
def tb_C_set : List (Nat × List (Nat × am_X)) := [
 (26, [(0, .iload_n 1, 1, 0, 1, 0, 0, []), (1, .ifCond .lt 8, 4, 0, 9, 0, 0, []), (4, .iload_n 1, 5, 0, 1, 0, 0, []), (5, .iconst 2, 6, 2, 0, 0, 0, []), (6, .if_icmp .le 10, 9, 0, 16, 0, 0, []), (9, .aload_n 0, 10, 0, 0, 0, 0, []), (10, .bipush (-2), 12, (-2), 0, 0, 0, []), (12, .invokevirtual 56, 15, 0, 1027, 2, 1, [(0, 391), (0, 393), (0, 0), (0, 75), (0, 394)]), (15, .ireturn, 16, 0, 0, 0, 0, []), (16, .iload_n 2, 17, 0, 2, 0, 0, []), (17, .getstatic 163, 20, 0, 303, 0, 0, [(0, 648)]), (20, .iload_n 1, 21, 0, 1, 0, 0, []), (21, .iaload, 22, 0, 0, 0, 0, []), (22, .if_icmp .ge 10, 25, 0, 32, 0, 0, []), (25, .aload_n 0, 26, 0, 0, 0, 0, []), (26, .bipush (-4), 28, (-4), 0, 0, 0, [])]),
 (54, [(28, .invokevirtual 56, 31, 0, 1027, 2, 1, [(0, 391), (0, 393), (0, 0), (0, 75), (0, 394)]), (31, .ireturn, 32, 0, 0, 0, 0, []), (32, .iload_n 2, 33, 0, 2, 0, 0, []), (33, .getstatic 166, 36, 0, 304, 0, 0, [(0, 650)]), (36, .iload_n 1, 37, 0, 1, 0, 0, []), (37, .iaload, 38, 0, 0, 0, 0, []), (38, .if_icmp .le 10, 41, 0, 48, 0, 0, []), (41, .aload_n 0, 42, 0, 0, 0, 0, []), (42, .bipush (-6), 44, (-6), 0, 0, 0, []), (44, .invokevirtual 56, 47, 0, 1027, 2, 1, [(0, 391), (0, 393), (0, 0), (0, 75), (0, 394)]), (47, .ireturn, 48, 0, 0, 0, 0, []), (48, .aload_n 0, 49, 0, 0, 0, 0, []), (49, .dup, 50, 0, 0, 0, 0, []), (50, .getfield 46, 53, 0, 10, 9, 0, [(0, 341)]), (53, .iconst 1, 54, 1, 0, 0, 0, []), (54, .iadd, 55, 0, 0, 0, 0, [])]),
 (82, [(55, .putfield 46, 58, 0, 10, 9, 0, [(0, 341)]), (58, .aload_n 0, 59, 0, 0, 0, 0, []), (59, .getfield 10, 62, 0, 10, 0, 2, [(0, 332)]), (62, .getfield 169, 65, 0, 9, 13, 2, [(0, 219)]), (65, .iload_n 1, 66, 0, 1, 0, 0, []), (66, .iaload, 67, 0, 0, 0, 0, []), (67, .istore_n 3, 68, 0, 3, 0, 0, []), (68, .aload_n 0, 69, 0, 0, 0, 0, []), (69, .getfield 10, 72, 0, 10, 0, 2, [(0, 332)]), (72, .getfield 169, 75, 0, 9, 13, 2, [(0, 219)]), (75, .iload_n 1, 76, 0, 1, 0, 0, []), (76, .iload_n 2, 77, 0, 2, 0, 0, []), (77, .iastore, 78, 0, 0, 0, 0, []), (78, .aload_n 0, 79, 0, 0, 0, 0, []), (79, .getfield 10, 82, 0, 10, 0, 2, [(0, 332)]), (82, .invokevirtual 172, 85, 0, 911, 1, 0, [(0, 652), (0, 653), (0, 654), (0, 76), (0, 655)])]),
 (86, [(85, .iload_n 3, 86, 0, 3, 0, 0, []), (86, .ireturn, 87, 0, 0, 0, 0, [])])]
def tb_C_ticks : List (Nat × List (Nat × am_X)) := [
 (28, [(0, .iload_n 1, 1, 0, 1, 0, 0, []), (1, .iconst 1, 2, 1, 0, 0, 0, []), (2, .if_icmp .ge 10, 5, 0, 12, 0, 0, []), (5, .aload_n 0, 6, 0, 0, 0, 0, []), (6, .bipush (-4), 8, (-4), 0, 0, 0, []), (8, .invokevirtual 56, 11, 0, 1027, 2, 1, [(0, 391), (0, 393), (0, 0), (0, 75), (0, 394)]), (11, .ireturn, 12, 0, 0, 0, 0, []), (12, .iload_n 1, 13, 0, 1, 0, 0, []), (13, .sipush 999, 16, 999, 0, 0, 0, []), (16, .aload_n 0, 17, 0, 0, 0, 0, []), (17, .getfield 10, 20, 0, 10, 0, 2, [(0, 332)]), (20, .getfield 143, 23, 0, 9, 14, 0, [(0, 220)]), (23, .isub, 24, 0, 0, 0, 0, []), (24, .if_icmp .le 10, 27, 0, 34, 0, 0, []), (27, .aload_n 0, 28, 0, 0, 0, 0, []), (28, .bipush (-6), 30, (-6), 0, 0, 0, [])]),
 (55, [(30, .invokevirtual 56, 33, 0, 1027, 2, 1, [(0, 391), (0, 393), (0, 0), (0, 75), (0, 394)]), (33, .ireturn, 34, 0, 0, 0, 0, []), (34, .aload_n 0, 35, 0, 0, 0, 0, []), (35, .dup, 36, 0, 0, 0, 0, []), (36, .getfield 46, 39, 0, 10, 9, 0, [(0, 341)]), (39, .iconst 1, 40, 1, 0, 0, 0, []), (40, .iadd, 41, 0, 0, 0, 0, []), (41, .putfield 46, 44, 0, 10, 9, 0, [(0, 341)]), (44, .aload_n 0, 45, 0, 0, 0, 0, []), (45, .getfield 10, 48, 0, 10, 0, 2, [(0, 332)]), (48, .invokevirtual 175, 51, 0, 914, 1, 1, [(0, 660), (0, 661), (0, 662), (0, 76), (0, 663)]), (51, .istore_n 2, 52, 0, 2, 0, 0, []), (52, .iconst 0, 53, 0, 0, 0, 0, []), (53, .istore_n 3, 54, 0, 3, 0, 0, []), (54, .iload_n 3, 55, 0, 3, 0, 0, []), (55, .iload_n 1, 56, 0, 1, 0, 0, [])]),
 (90, [(56, .if_icmp .ge 57, 59, 0, 113, 0, 0, []), (59, .aload_n 0, 60, 0, 0, 0, 0, []), (60, .getfield 10, 63, 0, 10, 0, 2, [(0, 332)]), (63, .invokevirtual 179, 66, 0, 921, 1, 0, [(0, 664), (0, 665), (0, 666), (0, 76), (0, 667)]), (66, .iconst 0, 67, 0, 0, 0, 0, []), (67, .istore 4, 69, 0, 4, 0, 0, []), (69, .iload 4, 71, 0, 4, 0, 0, []), (71, .aload_n 0, 72, 0, 0, 0, 0, []), (72, .getfield 10, 75, 0, 10, 0, 2, [(0, 332)]), (75, .getfield 91, 78, 0, 9, 3, 0, [(0, 197)]), (78, .if_icmp .ge 29, 81, 0, 107, 0, 0, []), (81, .aload_n 0, 82, 0, 0, 0, 0, []), (82, .getfield 10, 85, 0, 10, 0, 2, [(0, 332)]), (85, .getfield 102, 88, 0, 9, 2, 2, [(0, 195)]), (88, .iload 4, 90, 0, 4, 0, 0, []), (90, .aaload, 91, 0, 0, 0, 0, [])]),
 (122, [(91, .aload_n 0, 92, 0, 0, 0, 0, []), (92, .getfield 10, 95, 0, 10, 0, 2, [(0, 332)]), (95, .getfield 143, 98, 0, 9, 14, 0, [(0, 220)]), (98, .invokevirtual 182, 101, 0, 303, 2, 0, [(0, 776), (0, 777), (0, 778), (0, 84), (0, 779)]), (101, .iinc 4 1, 104, 1, 4, 0, 0, []), (104, .goto (-35), 107, 0, 69, 0, 0, []), (107, .iinc 3 1, 110, 1, 3, 0, 0, []), (110, .goto (-56), 113, 0, 54, 0, 0, []), (113, .aload_n 0, 114, 0, 0, 0, 0, []), (114, .getfield 10, 117, 0, 10, 0, 2, [(0, 332)]), (117, .invokevirtual 175, 120, 0, 914, 1, 1, [(0, 660), (0, 661), (0, 662), (0, 76), (0, 663)]), (120, .iload_n 2, 121, 0, 2, 0, 0, []), (121, .isub, 122, 0, 0, 0, 0, []), (122, .ireturn, 123, 0, 0, 0, 0, [])])]
def tb_C_areaOf : List (Nat × List (Nat × am_X)) := [
 (27, [(0, .aload_n 0, 1, 0, 0, 0, 0, []), (1, .getfield 10, 4, 0, 10, 0, 2, [(0, 332)]), (4, .iload_n 1, 5, 0, 1, 0, 0, []), (5, .invokevirtual 81, 8, 0, 901, 2, 1, [(0, 458), (0, 459), (0, 460), (0, 76), (0, 461)]), (8, .ifCond .ne 9, 11, 0, 17, 0, 0, []), (11, .aload_n 0, 12, 0, 0, 0, 0, []), (12, .iconst (-1), 13, (-1), 0, 0, 0, []), (13, .invokevirtual 56, 16, 0, 1027, 2, 1, [(0, 391), (0, 393), (0, 0), (0, 75), (0, 394)]), (16, .ireturn, 17, 0, 0, 0, 0, []), (17, .aload_n 0, 18, 0, 0, 0, 0, []), (18, .getfield 10, 21, 0, 10, 0, 2, [(0, 332)]), (21, .getfield 63, 24, 0, 9, 0, 2, [(0, 190)]), (24, .iload_n 1, 25, 0, 1, 0, 0, []), (25, .aaload, 26, 0, 0, 0, 0, []), (26, .astore_n 3, 27, 0, 3, 0, 0, []), (27, .iload_n 2, 28, 0, 2, 0, 0, [])]),
 (100, [(28, .tableswitch 88 0 7 #[48, 53, 58, 63, 68, 73, 78, 83], 76, 0, 116, 0, 0, [(0, 76), (1, 81), (2, 86), (3, 91), (4, 96), (5, 101), (6, 106), (7, 111)]), (76, .aload_n 3, 77, 0, 3, 0, 0, []), (77, .getfield 186, 80, 0, 0, 0, 0, [(0, 406)]), (80, .ireturn, 81, 0, 0, 0, 0, []), (81, .aload_n 3, 82, 0, 3, 0, 0, []), (82, .getfield 119, 85, 0, 0, 1, 0, [(0, 408)]), (85, .ireturn, 86, 0, 0, 0, 0, []), (86, .aload_n 3, 87, 0, 3, 0, 0, []), (87, .getfield 122, 90, 0, 0, 2, 0, [(0, 411)]), (90, .ireturn, 91, 0, 0, 0, 0, []), (91, .aload_n 3, 92, 0, 3, 0, 0, []), (92, .invokevirtual 189, 95, 0, 2, 1, 1, [(0, 784), (0, 740), (0, 741), (0, 82), (0, 742)]), (95, .ireturn, 96, 0, 0, 0, 0, []), (96, .aload_n 3, 97, 0, 3, 0, 0, []), (97, .getfield 192, 100, 0, 0, 5, 0, [(0, 418)]), (100, .ireturn, 101, 0, 0, 0, 0, [])]),
 (122, [(101, .aload_n 3, 102, 0, 3, 0, 0, []), (102, .getfield 195, 105, 0, 0, 6, 0, [(0, 421)]), (105, .ireturn, 106, 0, 0, 0, 0, []), (106, .aload_n 3, 107, 0, 3, 0, 0, []), (107, .getfield 198, 110, 0, 0, 7, 0, [(0, 424)]), (110, .ireturn, 111, 0, 0, 0, 0, []), (111, .aload_n 3, 112, 0, 3, 0, 0, []), (112, .getfield 201, 115, 0, 0, 8, 0, [(0, 426)]), (115, .ireturn, 116, 0, 0, 0, 0, []), (116, .aload_n 0, 117, 0, 0, 0, 0, []), (117, .bipush (-2), 119, (-2), 0, 0, 0, []), (119, .invokevirtual 56, 122, 0, 1027, 2, 1, [(0, 391), (0, 393), (0, 0), (0, 75), (0, 394)]), (122, .ireturn, 123, 0, 0, 0, 0, [])])]
def tb_C_folkOf : List (Nat × List (Nat × am_X)) := [
 (31, [(0, .aload_n 0, 1, 0, 0, 0, 0, []), (1, .getfield 10, 4, 0, 10, 0, 2, [(0, 332)]), (4, .iload_n 1, 5, 0, 1, 0, 0, []), (5, .invokevirtual 204, 8, 0, 904, 2, 1, [(0, 789), (0, 680), (0, 681), (0, 76), (0, 682)]), (8, .ifCond .eq 34, 11, 0, 42, 0, 0, []), (11, .iload_n 2, 12, 0, 2, 0, 0, []), (12, .ifCond .ne 14, 15, 0, 26, 0, 0, []), (15, .aload_n 0, 16, 0, 0, 0, 0, []), (16, .getfield 10, 19, 0, 10, 0, 2, [(0, 332)]), (19, .iload_n 3, 20, 0, 3, 0, 0, []), (20, .invokevirtual 81, 23, 0, 901, 2, 1, [(0, 458), (0, 459), (0, 460), (0, 76), (0, 461)]), (23, .ifCond .eq 19, 26, 0, 42, 0, 0, []), (26, .iload_n 2, 27, 0, 2, 0, 0, []), (27, .iconst 1, 28, 1, 0, 0, 0, []), (28, .if_icmp .ne 20, 31, 0, 48, 0, 0, []), (31, .aload_n 0, 32, 0, 0, 0, 0, [])]),
 (60, [(32, .getfield 10, 35, 0, 10, 0, 2, [(0, 332)]), (35, .iload_n 3, 36, 0, 3, 0, 0, []), (36, .invokevirtual 207, 39, 0, 903, 2, 1, [(0, 521), (0, 522), (0, 523), (0, 76), (0, 524)]), (39, .ifCond .ne 9, 42, 0, 48, 0, 0, []), (42, .aload_n 0, 43, 0, 0, 0, 0, []), (43, .iconst (-1), 44, (-1), 0, 0, 0, []), (44, .invokevirtual 56, 47, 0, 1027, 2, 1, [(0, 391), (0, 393), (0, 0), (0, 75), (0, 394)]), (47, .ireturn, 48, 0, 0, 0, 0, []), (48, .aload_n 0, 49, 0, 0, 0, 0, []), (49, .getfield 10, 52, 0, 10, 0, 2, [(0, 332)]), (52, .getfield 136, 55, 0, 9, 4, 2, [(0, 201)]), (55, .iload_n 1, 56, 0, 1, 0, 0, []), (56, .aaload, 57, 0, 0, 0, 0, []), (57, .astore 4, 59, 0, 4, 0, 0, []), (59, .iload_n 2, 60, 0, 2, 0, 0, []), (60, .tableswitch 94 0 4 #[36, 44, 58, 64, 70], 96, 0, 154, 0, 0, [(0, 96), (1, 104), (2, 118), (3, 124), (4, 130)])]),
 (123, [(96, .aload 4, 98, 0, 4, 0, 0, []), (98, .getfield 130, 101, 0, 1, 5, 2, [(0, 558)]), (101, .iload_n 3, 102, 0, 3, 0, 0, []), (102, .iaload, 103, 0, 0, 0, 0, []), (103, .ireturn, 104, 0, 0, 0, 0, []), (104, .aload_n 0, 105, 0, 0, 0, 0, []), (105, .getfield 10, 108, 0, 10, 0, 2, [(0, 332)]), (108, .getfield 102, 111, 0, 9, 2, 2, [(0, 195)]), (111, .iload_n 3, 112, 0, 3, 0, 0, []), (112, .aaload, 113, 0, 0, 0, 0, []), (113, .iload_n 1, 114, 0, 1, 0, 0, []), (114, .invokevirtual 210, 117, 0, 305, 2, 1, [(0, 790), (0, 791), (0, 792), (0, 84), (0, 793)]), (117, .ireturn, 118, 0, 0, 0, 0, []), (118, .aload 4, 120, 0, 4, 0, 0, []), (120, .getfield 213, 123, 0, 1, 8, 0, [(0, 566)]), (123, .ireturn, 124, 0, 0, 0, 0, [])]),
 (157, [(124, .aload 4, 126, 0, 4, 0, 0, []), (126, .getfield 216, 129, 0, 1, 2, 0, [(0, 552)]), (129, .ireturn, 130, 0, 0, 0, 0, []), (130, .aload 4, 132, 0, 4, 0, 0, []), (132, .getfield 213, 135, 0, 1, 8, 0, [(0, 566)]), (135, .aload 4, 137, 0, 4, 0, 0, []), (137, .getfield 219, 140, 0, 1, 1, 0, [(0, 549)]), (140, .if_icmp .ne 11, 143, 0, 151, 0, 0, []), (143, .aload 4, 145, 0, 4, 0, 0, []), (145, .getfield 220, 148, 0, 1, 9, 0, [(0, 569)]), (148, .goto 5, 151, 0, 153, 0, 0, []), (151, .bipush (-9), 153, (-9), 0, 0, 0, []), (153, .ireturn, 154, 0, 0, 0, 0, []), (154, .aload_n 0, 155, 0, 0, 0, 0, []), (155, .bipush (-2), 157, (-2), 0, 0, 0, []), (157, .invokevirtual 56, 160, 0, 1027, 2, 1, [(0, 391), (0, 393), (0, 0), (0, 75), (0, 394)])]),
 (160, [(160, .ireturn, 161, 0, 0, 0, 0, [])])]
def tb_C_next : List (Nat × List (Nat × am_X)) := [
 (29, [(0, .aload_n 0, 1, 0, 0, 0, 0, []), (1, .getfield 10, 4, 0, 10, 0, 2, [(0, 332)]), (4, .iload_n 1, 5, 0, 1, 0, 0, []), (5, .invokevirtual 81, 8, 0, 901, 2, 1, [(0, 458), (0, 459), (0, 460), (0, 76), (0, 461)]), (8, .ifCond .eq 14, 11, 0, 22, 0, 0, []), (11, .aload_n 0, 12, 0, 0, 0, 0, []), (12, .getfield 10, 15, 0, 10, 0, 2, [(0, 332)]), (15, .iload_n 2, 16, 0, 2, 0, 0, []), (16, .invokevirtual 113, 19, 0, 902, 2, 1, [(0, 534), (0, 535), (0, 536), (0, 76), (0, 537)]), (19, .ifCond .ne 9, 22, 0, 28, 0, 0, []), (22, .aload_n 0, 23, 0, 0, 0, 0, []), (23, .iconst (-1), 24, (-1), 0, 0, 0, []), (24, .invokevirtual 56, 27, 0, 1027, 2, 1, [(0, 391), (0, 393), (0, 0), (0, 75), (0, 394)]), (27, .ireturn, 28, 0, 0, 0, 0, []), (28, .aload_n 0, 29, 0, 0, 0, 0, []), (29, .getfield 10, 32, 0, 10, 0, 2, [(0, 332)])]),
 (57, [(32, .getfield 72, 35, 0, 9, 12, 2, [(0, 216)]), (35, .getfield 223, 38, 0, 8, 1, 2, [(0, 167)]), (38, .aload_n 0, 39, 0, 0, 0, 0, []), (39, .getfield 10, 42, 0, 10, 0, 2, [(0, 332)]), (42, .getfield 72, 45, 0, 9, 12, 2, [(0, 216)]), (45, .aload_n 0, 46, 0, 0, 0, 0, []), (46, .getfield 10, 49, 0, 10, 0, 2, [(0, 332)]), (49, .iload_n 2, 50, 0, 2, 0, 0, []), (50, .iload_n 3, 51, 0, 3, 0, 0, []), (51, .invokevirtual 226, 54, 0, 802, 4, 1, [(0, 798), (0, 713), (0, 714), (0, 78), (0, 715)]), (54, .iload_n 1, 55, 0, 1, 0, 0, []), (55, .iadd, 56, 0, 0, 0, 0, []), (56, .iaload, 57, 0, 0, 0, 0, []), (57, .ireturn, 58, 0, 0, 0, 0, [])])]
def tb_C_walk : List (Nat × List (Nat × am_X)) := [
 (29, [(0, .aload_n 0, 1, 0, 0, 0, 0, []), (1, .getfield 10, 4, 0, 10, 0, 2, [(0, 332)]), (4, .iload_n 1, 5, 0, 1, 0, 0, []), (5, .invokevirtual 81, 8, 0, 901, 2, 1, [(0, 458), (0, 459), (0, 460), (0, 76), (0, 461)]), (8, .ifCond .eq 14, 11, 0, 22, 0, 0, []), (11, .aload_n 0, 12, 0, 0, 0, 0, []), (12, .getfield 10, 15, 0, 10, 0, 2, [(0, 332)]), (15, .iload_n 2, 16, 0, 2, 0, 0, []), (16, .invokevirtual 113, 19, 0, 902, 2, 1, [(0, 534), (0, 535), (0, 536), (0, 76), (0, 537)]), (19, .ifCond .ne 9, 22, 0, 28, 0, 0, []), (22, .aload_n 0, 23, 0, 0, 0, 0, []), (23, .iconst (-1), 24, (-1), 0, 0, 0, []), (24, .invokevirtual 56, 27, 0, 1027, 2, 1, [(0, 391), (0, 393), (0, 0), (0, 75), (0, 394)]), (27, .ireturn, 28, 0, 0, 0, 0, []), (28, .aload_n 0, 29, 0, 0, 0, 0, []), (29, .getfield 10, 32, 0, 10, 0, 2, [(0, 332)])]),
 (57, [(32, .getfield 72, 35, 0, 9, 12, 2, [(0, 216)]), (35, .getfield 230, 38, 0, 8, 0, 2, [(0, 165)]), (38, .aload_n 0, 39, 0, 0, 0, 0, []), (39, .getfield 10, 42, 0, 10, 0, 2, [(0, 332)]), (42, .getfield 72, 45, 0, 9, 12, 2, [(0, 216)]), (45, .aload_n 0, 46, 0, 0, 0, 0, []), (46, .getfield 10, 49, 0, 10, 0, 2, [(0, 332)]), (49, .iload_n 2, 50, 0, 2, 0, 0, []), (50, .iload_n 3, 51, 0, 3, 0, 0, []), (51, .invokevirtual 226, 54, 0, 802, 4, 1, [(0, 798), (0, 713), (0, 714), (0, 78), (0, 715)]), (54, .iload_n 1, 55, 0, 1, 0, 0, []), (55, .iadd, 56, 0, 0, 0, 0, []), (56, .iaload, 57, 0, 0, 0, 0, []), (57, .ireturn, 58, 0, 0, 0, 0, [])])]
def tb_C_feed : List (Nat × List (Nat × am_X)) := [
 (28, [(0, .iload_n 1, 1, 0, 1, 0, 0, []), (1, .iconst 1, 2, 1, 0, 0, 0, []), (2, .if_icmp .ge 10, 5, 0, 12, 0, 0, []), (5, .aload_n 0, 6, 0, 0, 0, 0, []), (6, .bipush (-4), 8, (-4), 0, 0, 0, []), (8, .invokevirtual 56, 11, 0, 1027, 2, 1, [(0, 391), (0, 393), (0, 0), (0, 75), (0, 394)]), (11, .ireturn, 12, 0, 0, 0, 0, []), (12, .iload_n 1, 13, 0, 1, 0, 0, []), (13, .bipush 8, 15, 8, 0, 0, 0, []), (15, .if_icmp .gt 17, 18, 0, 32, 0, 0, []), (18, .iload_n 1, 19, 0, 1, 0, 0, []), (19, .bipush 120, 21, 120, 0, 0, 0, []), (21, .aload_n 0, 22, 0, 0, 0, 0, []), (22, .getfield 22, 25, 0, 10, 2, 2, [(0, 334)]), (25, .getfield 233, 28, 0, 5, 1, 0, [(0, 280)]), (28, .isub, 29, 0, 0, 0, 0, [])]),
 (57, [(29, .if_icmp .le 10, 32, 0, 39, 0, 0, []), (32, .aload_n 0, 33, 0, 0, 0, 0, []), (33, .bipush (-6), 35, (-6), 0, 0, 0, []), (35, .invokevirtual 56, 38, 0, 1027, 2, 1, [(0, 391), (0, 393), (0, 0), (0, 75), (0, 394)]), (38, .ireturn, 39, 0, 0, 0, 0, []), (39, .iconst 0, 40, 0, 0, 0, 0, []), (40, .istore 4, 42, 0, 4, 0, 0, []), (42, .iload 4, 44, 0, 4, 0, 0, []), (44, .iload_n 1, 45, 0, 1, 0, 0, []), (45, .if_icmp .ge 28, 48, 0, 73, 0, 0, []), (48, .aload_n 0, 49, 0, 0, 0, 0, []), (49, .getfield 22, 52, 0, 10, 2, 2, [(0, 334)]), (52, .lload_n 2, 53, 0, 2, 0, 0, []), (53, .bipush 8, 55, 8, 0, 0, 0, []), (55, .iload 4, 57, 0, 4, 0, 0, []), (57, .imul, 58, 0, 0, 0, 0, [])]),
 (80, [(58, .lushr, 59, 0, 0, 0, 0, []), (59, .l2i, 60, 0, 0, 0, 0, []), (60, .sipush 255, 63, 255, 0, 0, 0, []), (63, .iand, 64, 0, 0, 0, 0, []), (64, .invokevirtual 236, 67, 0, 501, 2, 0, [(0, 807), (0, 808), (0, 809), (0, 79), (0, 810)]), (67, .iinc 4 1, 70, 1, 4, 0, 0, []), (70, .goto (-28), 73, 0, 42, 0, 0, []), (73, .aload_n 0, 74, 0, 0, 0, 0, []), (74, .getfield 22, 77, 0, 10, 2, 2, [(0, 334)]), (77, .getfield 233, 80, 0, 5, 1, 0, [(0, 280)]), (80, .ireturn, 81, 0, 0, 0, 0, [])])]
def tb_C_order : List (Nat × List (Nat × am_X)) := [
 (29, [(0, .iload_n 1, 1, 0, 1, 0, 0, []), (1, .ifCond .eq 15, 4, 0, 16, 0, 0, []), (4, .iload_n 1, 5, 0, 1, 0, 0, []), (5, .iconst 1, 6, 1, 0, 0, 0, []), (6, .if_icmp .eq 10, 9, 0, 16, 0, 0, []), (9, .aload_n 0, 10, 0, 0, 0, 0, []), (10, .bipush (-2), 12, (-2), 0, 0, 0, []), (12, .invokevirtual 56, 15, 0, 1027, 2, 1, [(0, 391), (0, 393), (0, 0), (0, 75), (0, 394)]), (15, .ireturn, 16, 0, 0, 0, 0, []), (16, .aload_n 0, 17, 0, 0, 0, 0, []), (17, .getfield 10, 20, 0, 10, 0, 2, [(0, 332)]), (20, .getfield 239, 23, 0, 9, 9, 0, [(0, 211)]), (23, .bipush 12, 25, 12, 0, 0, 0, []), (25, .if_icmp .lt 10, 28, 0, 35, 0, 0, []), (28, .aload_n 0, 29, 0, 0, 0, 0, []), (29, .bipush (-6), 31, (-6), 0, 0, 0, [])]),
 (64, [(31, .invokevirtual 56, 34, 0, 1027, 2, 1, [(0, 391), (0, 393), (0, 0), (0, 75), (0, 394)]), (34, .ireturn, 35, 0, 0, 0, 0, []), (35, .aload_n 0, 36, 0, 0, 0, 0, []), (36, .getfield 22, 39, 0, 10, 2, 2, [(0, 334)]), (39, .invokevirtual 242, 42, 0, 502, 1, 0, [(0, 815), (0, 816), (0, 817), (0, 79), (0, 818)]), (42, .aload_n 0, 43, 0, 0, 0, 0, []), (43, .getfield 22, 46, 0, 10, 2, 2, [(0, 334)]), (46, .iconst 0, 47, 0, 0, 0, 0, []), (47, .invokevirtual 245, 50, 0, 505, 2, 0, [(0, 819), (0, 820), (0, 821), (0, 79), (0, 822)]), (50, .aload_n 0, 51, 0, 0, 0, 0, []), (51, .getfield 22, 54, 0, 10, 2, 2, [(0, 334)]), (54, .invokevirtual 248, 57, 0, 506, 1, 0, [(0, 863), (0, 864), (0, 865), (0, 79), (0, 866)]), (57, .aload_n 0, 58, 0, 0, 0, 0, []), (58, .getfield 22, 61, 0, 10, 2, 2, [(0, 334)]), (61, .getfield 251, 64, 0, 5, 2, 0, [(0, 282)]), (64, .istore_n 2, 65, 0, 2, 0, 0, [])]),
 (89, [(65, .aload_n 0, 66, 0, 0, 0, 0, []), (66, .getfield 22, 69, 0, 10, 2, 2, [(0, 334)]), (69, .iconst 0, 70, 0, 0, 0, 0, []), (70, .putfield 233, 73, 0, 5, 1, 0, [(0, 280)]), (73, .iload_n 2, 74, 0, 2, 0, 0, []), (74, .ifCond .lt 8, 77, 0, 82, 0, 0, []), (77, .bipush (-20), 79, (-20), 0, 0, 0, []), (79, .iload_n 2, 80, 0, 2, 0, 0, []), (80, .isub, 81, 0, 0, 0, 0, []), (81, .ireturn, 82, 0, 0, 0, 0, []), (82, .aload_n 0, 83, 0, 0, 0, 0, []), (83, .dup, 84, 0, 0, 0, 0, []), (84, .getfield 46, 87, 0, 10, 9, 0, [(0, 341)]), (87, .iconst 1, 88, 1, 0, 0, 0, []), (88, .iadd, 89, 0, 0, 0, 0, []), (89, .putfield 46, 92, 0, 10, 9, 0, [(0, 341)])]),
 (125, [(92, .aload_n 0, 93, 0, 0, 0, 0, []), (93, .getfield 10, 96, 0, 10, 0, 2, [(0, 332)]), (96, .getfield 254, 99, 0, 9, 8, 2, [(0, 209)]), (99, .aload_n 0, 100, 0, 0, 0, 0, []), (100, .getfield 10, 103, 0, 10, 0, 2, [(0, 332)]), (103, .getfield 239, 106, 0, 9, 9, 0, [(0, 211)]), (106, .new 258, 109, 0, 4, 3, 0, [(0, 871), (0, 872), (0, 88)]), (109, .dup, 110, 0, 0, 0, 0, []), (110, .aload_n 0, 111, 0, 0, 0, 0, []), (111, .getfield 22, 114, 0, 10, 2, 2, [(0, 334)]), (114, .invokevirtual 260, 117, 0, 503, 1, 1, [(0, 873), (0, 874), (0, 875), (0, 79), (0, 876)]), (117, .aload_n 0, 118, 0, 0, 0, 0, []), (118, .getfield 22, 121, 0, 10, 2, 2, [(0, 334)]), (121, .invokevirtual 264, 124, 0, 504, 1, 1, [(0, 886), (0, 887), (0, 888), (0, 79), (0, 889)]), (124, .iload_n 1, 125, 0, 1, 0, 0, []), (125, .iconst 1, 126, 1, 0, 0, 0, [])]),
 (152, [(126, .if_icmp .ne 7, 129, 0, 133, 0, 0, []), (129, .iconst 1, 130, 1, 0, 0, 0, []), (130, .goto 4, 133, 0, 134, 0, 0, []), (133, .iconst 0, 134, 0, 0, 0, 0, []), (134, .invokespecial 267, 137, 0, 400, 4, 0, [(0, 890), (0, 891), (0, 88), (0, 892)]), (137, .aastore, 138, 0, 0, 0, 0, []), (138, .aload_n 0, 139, 0, 0, 0, 0, []), (139, .getfield 10, 142, 0, 10, 0, 2, [(0, 332)]), (142, .dup, 143, 0, 0, 0, 0, []), (143, .getfield 239, 146, 0, 9, 9, 0, [(0, 211)]), (146, .dup_x1, 147, 0, 0, 0, 0, []), (147, .iconst 1, 148, 1, 0, 0, 0, []), (148, .iadd, 149, 0, 0, 0, 0, []), (149, .putfield 239, 152, 0, 9, 9, 0, [(0, 211)]), (152, .ireturn, 153, 0, 0, 0, 0, [])])]
def tb_C_stand : List (Nat × List (Nat × am_X)) := [
 (27, [(0, .aload_n 0, 1, 0, 0, 0, 0, []), (1, .getfield 10, 4, 0, 10, 0, 2, [(0, 332)]), (4, .iload_n 1, 5, 0, 1, 0, 0, []), (5, .invokevirtual 270, 8, 0, 906, 2, 1, [(0, 912), (0, 913), (0, 914), (0, 76), (0, 915)]), (8, .ifCond .ne 9, 11, 0, 17, 0, 0, []), (11, .aload_n 0, 12, 0, 0, 0, 0, []), (12, .iconst (-1), 13, (-1), 0, 0, 0, []), (13, .invokevirtual 56, 16, 0, 1027, 2, 1, [(0, 391), (0, 393), (0, 0), (0, 75), (0, 394)]), (16, .ireturn, 17, 0, 0, 0, 0, []), (17, .aload_n 0, 18, 0, 0, 0, 0, []), (18, .getfield 10, 21, 0, 10, 0, 2, [(0, 332)]), (21, .getfield 254, 24, 0, 9, 8, 2, [(0, 209)]), (24, .iload_n 1, 25, 0, 1, 0, 0, []), (25, .aaload, 26, 0, 0, 0, 0, []), (26, .astore_n 3, 27, 0, 3, 0, 0, []), (27, .aload_n 3, 28, 0, 3, 0, 0, [])]),
 (53, [(28, .getfield 273, 31, 0, 4, 2, 1, [(0, 899)]), (31, .iload_n 2, 32, 0, 2, 0, 0, []), (32, .if_icmp .ne 5, 35, 0, 37, 0, 0, []), (35, .iconst 0, 36, 0, 0, 0, 0, []), (36, .ireturn, 37, 0, 0, 0, 0, []), (37, .aload_n 0, 38, 0, 0, 0, 0, []), (38, .dup, 39, 0, 0, 0, 0, []), (39, .getfield 46, 42, 0, 10, 9, 0, [(0, 341)]), (42, .iconst 1, 43, 1, 0, 0, 0, []), (43, .iadd, 44, 0, 0, 0, 0, []), (44, .putfield 46, 47, 0, 10, 9, 0, [(0, 341)]), (47, .aload_n 3, 48, 0, 3, 0, 0, []), (48, .iload_n 2, 49, 0, 2, 0, 0, []), (49, .putfield 273, 52, 0, 4, 2, 1, [(0, 899)]), (52, .iconst 1, 53, 1, 0, 0, 0, []), (53, .ireturn, 54, 0, 0, 0, 0, [])])]
def tb_C_holds : List (Nat × List (Nat × am_X)) := [
 (29, [(0, .aload_n 0, 1, 0, 0, 0, 0, []), (1, .getfield 10, 4, 0, 10, 0, 2, [(0, 332)]), (4, .iload_n 1, 5, 0, 1, 0, 0, []), (5, .invokevirtual 270, 8, 0, 906, 2, 1, [(0, 912), (0, 913), (0, 914), (0, 76), (0, 915)]), (8, .ifCond .ne 9, 11, 0, 17, 0, 0, []), (11, .aload_n 0, 12, 0, 0, 0, 0, []), (12, .iconst (-1), 13, (-1), 0, 0, 0, []), (13, .invokevirtual 56, 16, 0, 1027, 2, 1, [(0, 391), (0, 393), (0, 0), (0, 75), (0, 394)]), (16, .ireturn, 17, 0, 0, 0, 0, []), (17, .aload_n 0, 18, 0, 0, 0, 0, []), (18, .getfield 10, 21, 0, 10, 0, 2, [(0, 332)]), (21, .aload_n 0, 22, 0, 0, 0, 0, []), (22, .getfield 10, 25, 0, 10, 0, 2, [(0, 332)]), (25, .getfield 254, 28, 0, 9, 8, 2, [(0, 209)]), (28, .iload_n 1, 29, 0, 1, 0, 0, []), (29, .aaload, 30, 0, 0, 0, 0, [])]),
 (41, [(30, .invokevirtual 276, 33, 0, 933, 2, 1, [(0, 920), (0, 761), (0, 762), (0, 76), (0, 763)]), (33, .ifCond .eq 7, 36, 0, 40, 0, 0, []), (36, .iconst 1, 37, 1, 0, 0, 0, []), (37, .goto 4, 40, 0, 41, 0, 0, []), (40, .iconst 0, 41, 0, 0, 0, 0, []), (41, .ireturn, 42, 0, 0, 0, 0, [])])]
def tb_C_given : List (Nat × List (Nat × am_X)) := [
 (28, [(0, .iload_n 2, 1, 0, 2, 0, 0, []), (1, .ifCond .lt 8, 4, 0, 9, 0, 0, []), (4, .iload_n 2, 5, 0, 2, 0, 0, []), (5, .iconst 4, 6, 4, 0, 0, 0, []), (6, .if_icmp .le 10, 9, 0, 16, 0, 0, []), (9, .aload_n 0, 10, 0, 0, 0, 0, []), (10, .bipush (-2), 12, (-2), 0, 0, 0, []), (12, .invokevirtual 56, 15, 0, 1027, 2, 1, [(0, 391), (0, 393), (0, 0), (0, 75), (0, 394)]), (15, .ireturn, 16, 0, 0, 0, 0, []), (16, .aload_n 0, 17, 0, 0, 0, 0, []), (17, .getfield 10, 20, 0, 10, 0, 2, [(0, 332)]), (20, .getfield 280, 23, 0, 9, 11, 2, [(0, 214)]), (23, .astore_n 3, 24, 0, 3, 0, 0, []), (24, .iload_n 1, 25, 0, 1, 0, 0, []), (25, .ifCond .lt 11, 28, 0, 36, 0, 0, []), (28, .iload_n 1, 29, 0, 1, 0, 0, [])]),
 (84, [(29, .aload_n 3, 30, 0, 3, 0, 0, []), (30, .getfield 284, 33, 0, 2, 5, 0, [(0, 137)]), (33, .if_icmp .lt 6, 36, 0, 39, 0, 0, []), (36, .bipush (-9), 38, (-9), 0, 0, 0, []), (38, .ireturn, 39, 0, 0, 0, 0, []), (39, .iload_n 2, 40, 0, 2, 0, 0, []), (40, .tableswitch 60 0 3 #[32, 39, 46, 53], 72, 0, 100, 0, 0, [(0, 72), (1, 79), (2, 86), (3, 93)]), (72, .aload_n 3, 73, 0, 3, 0, 0, []), (73, .getfield 287, 76, 0, 2, 0, 2, [(0, 122)]), (76, .iload_n 1, 77, 0, 1, 0, 0, []), (77, .iaload, 78, 0, 0, 0, 0, []), (78, .ireturn, 79, 0, 0, 0, 0, []), (79, .aload_n 3, 80, 0, 3, 0, 0, []), (80, .getfield 290, 83, 0, 2, 1, 2, [(0, 125)]), (83, .iload_n 1, 84, 0, 1, 0, 0, []), (84, .iaload, 85, 0, 0, 0, 0, [])]),
 (106, [(85, .ireturn, 86, 0, 0, 0, 0, []), (86, .aload_n 3, 87, 0, 3, 0, 0, []), (87, .getfield 292, 90, 0, 2, 2, 2, [(0, 128)]), (90, .iload_n 1, 91, 0, 1, 0, 0, []), (91, .iaload, 92, 0, 0, 0, 0, []), (92, .ireturn, 93, 0, 0, 0, 0, []), (93, .aload_n 3, 94, 0, 3, 0, 0, []), (94, .getfield 295, 97, 0, 2, 3, 2, [(0, 131)]), (97, .iload_n 1, 98, 0, 1, 0, 0, []), (98, .iaload, 99, 0, 0, 0, 0, []), (99, .ireturn, 100, 0, 0, 0, 0, []), (100, .aload_n 3, 101, 0, 3, 0, 0, []), (101, .getfield 298, 104, 0, 2, 4, 2, [(0, 134)]), (104, .iload_n 1, 105, 0, 1, 0, 0, []), (105, .iaload, 106, 0, 0, 0, 0, []), (106, .ireturn, 107, 0, 0, 0, 0, [])])]
def tb_C_counted : List (Nat × List (Nat × am_X)) := [
 (29, [(0, .aload_n 0, 1, 0, 0, 0, 0, []), (1, .getfield 10, 4, 0, 10, 0, 2, [(0, 332)]), (4, .iload_n 1, 5, 0, 1, 0, 0, []), (5, .invokevirtual 207, 8, 0, 903, 2, 1, [(0, 521), (0, 522), (0, 523), (0, 76), (0, 524)]), (8, .ifCond .ne 9, 11, 0, 17, 0, 0, []), (11, .aload_n 0, 12, 0, 0, 0, 0, []), (12, .iconst (-1), 13, (-1), 0, 0, 0, []), (13, .invokevirtual 56, 16, 0, 1027, 2, 1, [(0, 391), (0, 393), (0, 0), (0, 75), (0, 394)]), (16, .ireturn, 17, 0, 0, 0, 0, []), (17, .iload_n 2, 18, 0, 2, 0, 0, []), (18, .aload_n 0, 19, 0, 0, 0, 0, []), (19, .getfield 10, 22, 0, 10, 0, 2, [(0, 332)]), (22, .getfield 143, 25, 0, 9, 14, 0, [(0, 220)]), (25, .if_icmp .le 10, 28, 0, 35, 0, 0, []), (28, .aload_n 0, 29, 0, 0, 0, 0, []), (29, .bipush (-3), 31, (-3), 0, 0, 0, [])]),
 (61, [(31, .invokevirtual 56, 34, 0, 1027, 2, 1, [(0, 391), (0, 393), (0, 0), (0, 75), (0, 394)]), (34, .ireturn, 35, 0, 0, 0, 0, []), (35, .iload_n 2, 36, 0, 2, 0, 0, []), (36, .ifCond .lt 7, 39, 0, 43, 0, 0, []), (39, .iload_n 3, 40, 0, 3, 0, 0, []), (40, .ifCond .ge 10, 43, 0, 50, 0, 0, []), (43, .aload_n 0, 44, 0, 0, 0, 0, []), (44, .bipush (-4), 46, (-4), 0, 0, 0, []), (46, .invokevirtual 56, 49, 0, 1027, 2, 1, [(0, 391), (0, 393), (0, 0), (0, 75), (0, 394)]), (49, .ireturn, 50, 0, 0, 0, 0, []), (50, .iload_n 3, 51, 0, 3, 0, 0, []), (51, .ldc_w 301, 54, 99999, 0, 0, 0, [(0, 929)]), (54, .if_icmp .gt 15, 57, 0, 69, 0, 0, []), (57, .aload_n 0, 58, 0, 0, 0, 0, []), (58, .getfield 29, 61, 0, 10, 3, 2, [(0, 335)]), (61, .getfield 302, 64, 0, 6, 4, 0, [(0, 320)])]),
 (93, [(64, .bipush 60, 66, 60, 0, 0, 0, []), (66, .if_icmp .lt 10, 69, 0, 76, 0, 0, []), (69, .aload_n 0, 70, 0, 0, 0, 0, []), (70, .bipush (-6), 72, (-6), 0, 0, 0, []), (72, .invokevirtual 56, 75, 0, 1027, 2, 1, [(0, 391), (0, 393), (0, 0), (0, 75), (0, 394)]), (75, .ireturn, 76, 0, 0, 0, 0, []), (76, .aload_n 0, 77, 0, 0, 0, 0, []), (77, .getfield 29, 80, 0, 10, 3, 2, [(0, 335)]), (80, .iload_n 1, 81, 0, 1, 0, 0, []), (81, .iload_n 2, 82, 0, 2, 0, 0, []), (82, .iload_n 3, 83, 0, 3, 0, 0, []), (83, .aload_n 0, 84, 0, 0, 0, 0, []), (84, .getfield 10, 87, 0, 10, 0, 2, [(0, 332)]), (87, .getfield 143, 90, 0, 9, 14, 0, [(0, 220)]), (90, .invokevirtual 303, 93, 0, 601, 5, 0, [(0, 930), (0, 931), (0, 932), (0, 80), (0, 933)]), (93, .aload_n 0, 94, 0, 0, 0, 0, [])]),
 (100, [(94, .getfield 29, 97, 0, 10, 3, 2, [(0, 335)]), (97, .getfield 302, 100, 0, 6, 4, 0, [(0, 320)]), (100, .ireturn, 101, 0, 0, 0, 0, [])])]
def tb_C_count : List (Nat × List (Nat × am_X)) := [
 (28, [(0, .aload_n 0, 1, 0, 0, 0, 0, []), (1, .getfield 10, 4, 0, 10, 0, 2, [(0, 332)]), (4, .iload_n 1, 5, 0, 1, 0, 0, []), (5, .invokevirtual 207, 8, 0, 903, 2, 1, [(0, 521), (0, 522), (0, 523), (0, 76), (0, 524)]), (8, .ifCond .ne 9, 11, 0, 17, 0, 0, []), (11, .aload_n 0, 12, 0, 0, 0, 0, []), (12, .iconst (-1), 13, (-1), 0, 0, 0, []), (13, .invokevirtual 56, 16, 0, 1027, 2, 1, [(0, 391), (0, 393), (0, 0), (0, 75), (0, 394)]), (16, .ireturn, 17, 0, 0, 0, 0, []), (17, .iload_n 2, 18, 0, 2, 0, 0, []), (18, .ifCond .lt 7, 21, 0, 25, 0, 0, []), (21, .iload_n 3, 22, 0, 3, 0, 0, []), (22, .ifCond .ge 10, 25, 0, 32, 0, 0, []), (25, .aload_n 0, 26, 0, 0, 0, 0, []), (26, .bipush (-4), 28, (-4), 0, 0, 0, []), (28, .invokevirtual 56, 31, 0, 1027, 2, 1, [(0, 391), (0, 393), (0, 0), (0, 75), (0, 394)])]),
 (59, [(31, .ireturn, 32, 0, 0, 0, 0, []), (32, .iload_n 2, 33, 0, 2, 0, 0, []), (33, .sipush 999, 36, 999, 0, 0, 0, []), (36, .if_icmp .gt 10, 39, 0, 46, 0, 0, []), (39, .iload_n 3, 40, 0, 3, 0, 0, []), (40, .sipush 999, 43, 999, 0, 0, 0, []), (43, .if_icmp .le 10, 46, 0, 53, 0, 0, []), (46, .aload_n 0, 47, 0, 0, 0, 0, []), (47, .bipush (-6), 49, (-6), 0, 0, 0, []), (49, .invokevirtual 56, 52, 0, 1027, 2, 1, [(0, 391), (0, 393), (0, 0), (0, 75), (0, 394)]), (52, .ireturn, 53, 0, 0, 0, 0, []), (53, .aload_n 0, 54, 0, 0, 0, 0, []), (54, .getfield 29, 57, 0, 10, 3, 2, [(0, 335)]), (57, .iload_n 1, 58, 0, 1, 0, 0, []), (58, .iload_n 2, 59, 0, 2, 0, 0, []), (59, .iload_n 3, 60, 0, 3, 0, 0, [])]),
 (85, [(60, .invokevirtual 306, 63, 0, 602, 4, 1, [(0, 938), (0, 939), (0, 940), (0, 80), (0, 941)]), (63, .istore 4, 65, 0, 4, 0, 0, []), (65, .iload 4, 67, 0, 4, 0, 0, []), (67, .ifCond .ge 8, 70, 0, 75, 0, 0, []), (70, .bipush (-9), 72, (-9), 0, 0, 0, []), (72, .goto 13, 75, 0, 85, 0, 0, []), (75, .aload_n 0, 76, 0, 0, 0, 0, []), (76, .getfield 29, 79, 0, 10, 3, 2, [(0, 335)]), (79, .getfield 309, 82, 0, 6, 3, 2, [(0, 318)]), (82, .iload 4, 84, 0, 4, 0, 0, []), (84, .iaload, 85, 0, 0, 0, 0, []), (85, .ireturn, 86, 0, 0, 0, 0, [])])]
def tb_C_wrong : List (Nat × List (Nat × am_X)) := [
 (28, [(0, .aload_n 0, 1, 0, 0, 0, 0, []), (1, .getfield 10, 4, 0, 10, 0, 2, [(0, 332)]), (4, .iload_n 1, 5, 0, 1, 0, 0, []), (5, .invokevirtual 207, 8, 0, 903, 2, 1, [(0, 521), (0, 522), (0, 523), (0, 76), (0, 524)]), (8, .ifCond .ne 9, 11, 0, 17, 0, 0, []), (11, .aload_n 0, 12, 0, 0, 0, 0, []), (12, .iconst (-1), 13, (-1), 0, 0, 0, []), (13, .invokevirtual 56, 16, 0, 1027, 2, 1, [(0, 391), (0, 393), (0, 0), (0, 75), (0, 394)]), (16, .ireturn, 17, 0, 0, 0, 0, []), (17, .iload_n 2, 18, 0, 2, 0, 0, []), (18, .ifCond .ge 10, 21, 0, 28, 0, 0, []), (21, .aload_n 0, 22, 0, 0, 0, 0, []), (22, .bipush (-4), 24, (-4), 0, 0, 0, []), (24, .invokevirtual 56, 27, 0, 1027, 2, 1, [(0, 391), (0, 393), (0, 0), (0, 75), (0, 394)]), (27, .ireturn, 28, 0, 0, 0, 0, []), (28, .iload_n 2, 29, 0, 2, 0, 0, [])]),
 (57, [(29, .sipush 999, 32, 999, 0, 0, 0, []), (32, .if_icmp .le 10, 35, 0, 42, 0, 0, []), (35, .aload_n 0, 36, 0, 0, 0, 0, []), (36, .bipush (-6), 38, (-6), 0, 0, 0, []), (38, .invokevirtual 56, 41, 0, 1027, 2, 1, [(0, 391), (0, 393), (0, 0), (0, 75), (0, 394)]), (41, .ireturn, 42, 0, 0, 0, 0, []), (42, .aload_n 0, 43, 0, 0, 0, 0, []), (43, .getfield 29, 46, 0, 10, 3, 2, [(0, 335)]), (46, .iload_n 1, 47, 0, 1, 0, 0, []), (47, .iload_n 2, 48, 0, 2, 0, 0, []), (48, .aload_n 0, 49, 0, 0, 0, 0, []), (49, .getfield 10, 52, 0, 10, 0, 2, [(0, 332)]), (52, .getfield 102, 55, 0, 9, 2, 2, [(0, 195)]), (55, .iload_n 1, 56, 0, 1, 0, 0, []), (56, .aaload, 57, 0, 0, 0, 0, []), (57, .invokevirtual 311, 60, 0, 603, 4, 1, [(0, 946), (0, 947), (0, 948), (0, 80), (0, 949)])]),
 (60, [(60, .ireturn, 61, 0, 0, 0, 0, [])])]
def tb_C_out : List (Nat × List (Nat × am_X)) := [
 (27, [(0, .iload_n 1, 1, 0, 1, 0, 0, []), (1, .iconst (-1), 2, (-1), 0, 0, 0, []), (2, .if_icmp .eq 20, 5, 0, 22, 0, 0, []), (5, .aload_n 0, 6, 0, 0, 0, 0, []), (6, .getfield 10, 9, 0, 10, 0, 2, [(0, 332)]), (9, .iload_n 1, 10, 0, 1, 0, 0, []), (10, .invokevirtual 207, 13, 0, 903, 2, 1, [(0, 521), (0, 522), (0, 523), (0, 76), (0, 524)]), (13, .ifCond .ne 9, 16, 0, 22, 0, 0, []), (16, .aload_n 0, 17, 0, 0, 0, 0, []), (17, .iconst (-1), 18, (-1), 0, 0, 0, []), (18, .invokevirtual 56, 21, 0, 1027, 2, 1, [(0, 391), (0, 393), (0, 0), (0, 75), (0, 394)]), (21, .ireturn, 22, 0, 0, 0, 0, []), (22, .iload_n 2, 23, 0, 2, 0, 0, []), (23, .ifCond .lt 8, 26, 0, 31, 0, 0, []), (26, .iload_n 2, 27, 0, 2, 0, 0, []), (27, .iconst 3, 28, 3, 0, 0, 0, [])]),
 (44, [(28, .if_icmp .le 10, 31, 0, 38, 0, 0, []), (31, .aload_n 0, 32, 0, 0, 0, 0, []), (32, .bipush (-2), 34, (-2), 0, 0, 0, []), (34, .invokevirtual 56, 37, 0, 1027, 2, 1, [(0, 391), (0, 393), (0, 0), (0, 75), (0, 394)]), (37, .ireturn, 38, 0, 0, 0, 0, []), (38, .aload_n 0, 39, 0, 0, 0, 0, []), (39, .iload_n 1, 40, 0, 1, 0, 0, []), (40, .iload_n 2, 41, 0, 2, 0, 0, []), (41, .invokevirtual 315, 44, 0, 1029, 3, 1, [(0, 962), (0, 964), (0, 24), (0, 75), (0, 965)]), (44, .ireturn, 45, 0, 0, 0, 0, [])])]
def tb_C_worst : List (Nat × List (Nat × am_X)) := [
 (24, [(0, .iload_n 1, 1, 0, 1, 0, 0, []), (1, .ifCond .lt 8, 4, 0, 9, 0, 0, []), (4, .iload_n 1, 5, 0, 1, 0, 0, []), (5, .iconst 2, 6, 2, 0, 0, 0, []), (6, .if_icmp .le 10, 9, 0, 16, 0, 0, []), (9, .aload_n 0, 10, 0, 0, 0, 0, []), (10, .bipush (-2), 12, (-2), 0, 0, 0, []), (12, .invokevirtual 56, 15, 0, 1027, 2, 1, [(0, 391), (0, 393), (0, 0), (0, 75), (0, 394)]), (15, .ireturn, 16, 0, 0, 0, 0, []), (16, .bipush (-9), 18, (-9), 0, 0, 0, []), (18, .istore_n 2, 19, 0, 2, 0, 0, []), (19, .iconst (-1), 20, (-1), 0, 0, 0, []), (20, .istore_n 3, 21, 0, 3, 0, 0, []), (21, .iconst (-1), 22, (-1), 0, 0, 0, []), (22, .istore 4, 24, 0, 4, 0, 0, []), (24, .iconst 0, 25, 0, 0, 0, 0, [])]),
 (58, [(25, .istore 5, 27, 0, 5, 0, 0, []), (27, .iload 5, 29, 0, 5, 0, 0, []), (29, .aload_n 0, 30, 0, 0, 0, 0, []), (30, .getfield 10, 33, 0, 10, 0, 2, [(0, 332)]), (33, .getfield 91, 36, 0, 9, 3, 0, [(0, 197)]), (36, .if_icmp .ge 73, 39, 0, 109, 0, 0, []), (39, .aload_n 0, 40, 0, 0, 0, 0, []), (40, .iload 5, 42, 0, 5, 0, 0, []), (42, .iconst 0, 43, 0, 0, 0, 0, []), (43, .invokevirtual 315, 46, 0, 1029, 3, 1, [(0, 962), (0, 964), (0, 24), (0, 75), (0, 965)]), (46, .istore 6, 48, 0, 6, 0, 0, []), (48, .iload 6, 50, 0, 6, 0, 0, []), (50, .bipush (-9), 52, (-9), 0, 0, 0, []), (52, .if_icmp .ne 9, 55, 0, 61, 0, 0, []), (55, .sipush 301, 58, 301, 0, 0, 0, []), (58, .goto 5, 61, 0, 63, 0, 0, [])]),
 (90, [(61, .iload 6, 63, 0, 6, 0, 0, []), (63, .istore 7, 65, 0, 7, 0, 0, []), (65, .aload_n 0, 66, 0, 0, 0, 0, []), (66, .iload 5, 68, 0, 5, 0, 0, []), (68, .iconst 1, 69, 1, 0, 0, 0, []), (69, .invokevirtual 315, 72, 0, 1029, 3, 1, [(0, 962), (0, 964), (0, 24), (0, 75), (0, 965)]), (72, .istore 8, 74, 0, 8, 0, 0, []), (74, .iload 7, 76, 0, 7, 0, 0, []), (76, .iload_n 3, 77, 0, 3, 0, 0, []), (77, .if_icmp .gt 16, 80, 0, 93, 0, 0, []), (80, .iload 7, 82, 0, 7, 0, 0, []), (82, .iload_n 3, 83, 0, 3, 0, 0, []), (83, .if_icmp .ne 20, 86, 0, 103, 0, 0, []), (86, .iload 8, 88, 0, 8, 0, 0, []), (88, .iload 4, 90, 0, 4, 0, 0, []), (90, .if_icmp .le 13, 93, 0, 103, 0, 0, [])]),
 (121, [(93, .iload 5, 95, 0, 5, 0, 0, []), (95, .istore_n 2, 96, 0, 2, 0, 0, []), (96, .iload 7, 98, 0, 7, 0, 0, []), (98, .istore_n 3, 99, 0, 3, 0, 0, []), (99, .iload 8, 101, 0, 8, 0, 0, []), (101, .istore 4, 103, 0, 4, 0, 0, []), (103, .iinc 5 1, 106, 1, 5, 0, 0, []), (106, .goto (-79), 109, 0, 27, 0, 0, []), (109, .iload_n 2, 110, 0, 2, 0, 0, []), (110, .bipush (-9), 112, (-9), 0, 0, 0, []), (112, .if_icmp .eq 7, 115, 0, 119, 0, 0, []), (115, .iload_n 1, 116, 0, 1, 0, 0, []), (116, .ifCond .ne 5, 119, 0, 121, 0, 0, []), (119, .iload_n 2, 120, 0, 2, 0, 0, []), (120, .ireturn, 121, 0, 0, 0, 0, []), (121, .aload_n 0, 122, 0, 0, 0, 0, [])]),
 (129, [(122, .iload_n 2, 123, 0, 2, 0, 0, []), (123, .iload_n 1, 124, 0, 1, 0, 0, []), (124, .iconst 1, 125, 1, 0, 0, 0, []), (125, .isub, 126, 0, 0, 0, 0, []), (126, .invokevirtual 315, 129, 0, 1029, 3, 1, [(0, 962), (0, 964), (0, 24), (0, 75), (0, 965)]), (129, .ireturn, 130, 0, 0, 0, 0, [])])]
def tb_C_option : List (Nat × List (Nat × am_X)) := [
 (26, [(0, .aload_n 0, 1, 0, 0, 0, 0, []), (1, .iload_n 1, 2, 0, 1, 0, 0, []), (2, .iload_n 2, 3, 0, 2, 0, 0, []), (3, .iload_n 3, 4, 0, 3, 0, 0, []), (4, .invokevirtual 106, 7, 0, 1028, 4, 1, [(0, 517), (0, 519), (0, 1), (0, 75), (0, 520)]), (7, .istore 4, 9, 0, 4, 0, 0, []), (9, .iload 4, 11, 0, 4, 0, 0, []), (11, .ifCond .ge 10, 14, 0, 21, 0, 0, []), (14, .aload_n 0, 15, 0, 0, 0, 0, []), (15, .iload 4, 17, 0, 4, 0, 0, []), (17, .invokevirtual 56, 20, 0, 1027, 2, 1, [(0, 391), (0, 393), (0, 0), (0, 75), (0, 394)]), (20, .ireturn, 21, 0, 0, 0, 0, []), (21, .aload_n 0, 22, 0, 0, 0, 0, []), (22, .getfield 319, 25, 0, 10, 8, 0, [(0, 340)]), (25, .iconst 4, 26, 4, 0, 0, 0, []), (26, .if_icmp .lt 10, 29, 0, 36, 0, 0, [])]),
 (55, [(29, .aload_n 0, 30, 0, 0, 0, 0, []), (30, .bipush (-6), 32, (-6), 0, 0, 0, []), (32, .invokevirtual 56, 35, 0, 1027, 2, 1, [(0, 391), (0, 393), (0, 0), (0, 75), (0, 394)]), (35, .ireturn, 36, 0, 0, 0, 0, []), (36, .aload_n 0, 37, 0, 0, 0, 0, []), (37, .dup, 38, 0, 0, 0, 0, []), (38, .getfield 46, 41, 0, 10, 9, 0, [(0, 341)]), (41, .iconst 1, 42, 1, 0, 0, 0, []), (42, .iadd, 43, 0, 0, 0, 0, []), (43, .putfield 46, 46, 0, 10, 9, 0, [(0, 341)]), (46, .aload_n 0, 47, 0, 0, 0, 0, []), (47, .getfield 37, 50, 0, 10, 5, 2, [(0, 337)]), (50, .aload_n 0, 51, 0, 0, 0, 0, []), (51, .getfield 319, 54, 0, 10, 8, 0, [(0, 340)]), (54, .iload_n 1, 55, 0, 1, 0, 0, []), (55, .iastore, 56, 0, 0, 0, 0, [])]),
 (81, [(56, .aload_n 0, 57, 0, 0, 0, 0, []), (57, .getfield 40, 60, 0, 10, 6, 2, [(0, 338)]), (60, .aload_n 0, 61, 0, 0, 0, 0, []), (61, .getfield 319, 64, 0, 10, 8, 0, [(0, 340)]), (64, .iload_n 2, 65, 0, 2, 0, 0, []), (65, .iastore, 66, 0, 0, 0, 0, []), (66, .aload_n 0, 67, 0, 0, 0, 0, []), (67, .getfield 43, 70, 0, 10, 7, 2, [(0, 339)]), (70, .aload_n 0, 71, 0, 0, 0, 0, []), (71, .getfield 319, 74, 0, 10, 8, 0, [(0, 340)]), (74, .iload_n 3, 75, 0, 3, 0, 0, []), (75, .iastore, 76, 0, 0, 0, 0, []), (76, .aload_n 0, 77, 0, 0, 0, 0, []), (77, .dup, 78, 0, 0, 0, 0, []), (78, .getfield 319, 81, 0, 10, 8, 0, [(0, 340)]), (81, .dup_x1, 82, 0, 0, 0, 0, [])]),
 (87, [(82, .iconst 1, 83, 1, 0, 0, 0, []), (83, .iadd, 84, 0, 0, 0, 0, []), (84, .putfield 319, 87, 0, 10, 8, 0, [(0, 340)]), (87, .ireturn, 88, 0, 0, 0, 0, [])])]
def tb_C_design : List (Nat × List (Nat × am_X)) := [
 (26, [(0, .iload_n 3, 1, 0, 3, 0, 0, []), (1, .ifCond .lt 8, 4, 0, 9, 0, 0, []), (4, .iload_n 3, 5, 0, 3, 0, 0, []), (5, .iconst 3, 6, 3, 0, 0, 0, []), (6, .if_icmp .le 10, 9, 0, 16, 0, 0, []), (9, .aload_n 0, 10, 0, 0, 0, 0, []), (10, .bipush (-2), 12, (-2), 0, 0, 0, []), (12, .invokevirtual 56, 15, 0, 1027, 2, 1, [(0, 391), (0, 393), (0, 0), (0, 75), (0, 394)]), (15, .ireturn, 16, 0, 0, 0, 0, []), (16, .iload_n 1, 17, 0, 1, 0, 0, []), (17, .iconst 1, 18, 1, 0, 0, 0, []), (18, .if_icmp .lt 8, 21, 0, 26, 0, 0, []), (21, .iload_n 2, 22, 0, 2, 0, 0, []), (22, .iconst 1, 23, 1, 0, 0, 0, []), (23, .if_icmp .ge 10, 26, 0, 33, 0, 0, []), (26, .aload_n 0, 27, 0, 0, 0, 0, [])]),
 (58, [(27, .bipush (-4), 29, (-4), 0, 0, 0, []), (29, .invokevirtual 56, 32, 0, 1027, 2, 1, [(0, 391), (0, 393), (0, 0), (0, 75), (0, 394)]), (32, .ireturn, 33, 0, 0, 0, 0, []), (33, .iload_n 1, 34, 0, 1, 0, 0, []), (34, .sipush 300, 37, 300, 0, 0, 0, []), (37, .if_icmp .gt 10, 40, 0, 47, 0, 0, []), (40, .iload_n 2, 41, 0, 2, 0, 0, []), (41, .sipush 999, 44, 999, 0, 0, 0, []), (44, .if_icmp .le 10, 47, 0, 54, 0, 0, []), (47, .aload_n 0, 48, 0, 0, 0, 0, []), (48, .bipush (-6), 50, (-6), 0, 0, 0, []), (50, .invokevirtual 56, 53, 0, 1027, 2, 1, [(0, 391), (0, 393), (0, 0), (0, 75), (0, 394)]), (53, .ireturn, 54, 0, 0, 0, 0, []), (54, .aload_n 0, 55, 0, 0, 0, 0, []), (55, .getfield 322, 58, 0, 10, 12, 0, [(0, 344)]), (58, .aload_n 0, 59, 0, 0, 0, 0, [])]),
 (90, [(59, .getfield 46, 62, 0, 10, 9, 0, [(0, 341)]), (62, .if_icmp .ne 19, 65, 0, 81, 0, 0, []), (65, .aload_n 0, 66, 0, 0, 0, 0, []), (66, .getfield 325, 69, 0, 10, 13, 0, [(0, 345)]), (69, .iload_n 1, 70, 0, 1, 0, 0, []), (70, .if_icmp .ne 11, 73, 0, 81, 0, 0, []), (73, .aload_n 0, 74, 0, 0, 0, 0, []), (74, .getfield 328, 77, 0, 10, 14, 0, [(0, 346)]), (77, .iload_n 2, 78, 0, 2, 0, 0, []), (78, .if_icmp .eq 94, 81, 0, 172, 0, 0, []), (81, .aload_n 0, 82, 0, 0, 0, 0, []), (82, .aload_n 0, 83, 0, 0, 0, 0, []), (83, .getfield 46, 86, 0, 10, 9, 0, [(0, 341)]), (86, .putfield 322, 89, 0, 10, 12, 0, [(0, 344)]), (89, .aload_n 0, 90, 0, 0, 0, 0, []), (90, .iload_n 1, 91, 0, 1, 0, 0, [])]),
 (121, [(91, .putfield 325, 94, 0, 10, 13, 0, [(0, 345)]), (94, .aload_n 0, 95, 0, 0, 0, 0, []), (95, .iload_n 2, 96, 0, 2, 0, 0, []), (96, .putfield 328, 99, 0, 10, 14, 0, [(0, 346)]), (99, .aload_n 0, 100, 0, 0, 0, 0, []), (100, .bipush (-9), 102, (-9), 0, 0, 0, []), (102, .putfield 331, 105, 0, 10, 15, 0, [(0, 347)]), (105, .iconst 0, 106, 0, 0, 0, 0, []), (106, .istore 4, 108, 0, 4, 0, 0, []), (108, .iload 4, 110, 0, 4, 0, 0, []), (110, .getstatic 334, 113, 0, 306, 0, 0, [(0, 1041)]), (113, .arraylength, 114, 0, 0, 0, 0, []), (114, .if_icmp .ge 58, 117, 0, 172, 0, 0, []), (117, .aload_n 0, 118, 0, 0, 0, 0, []), (118, .getfield 331, 121, 0, 10, 15, 0, [(0, 347)]), (121, .bipush (-9), 123, (-9), 0, 0, 0, [])]),
 (150, [(123, .if_icmp .ne 49, 126, 0, 172, 0, 0, []), (126, .getstatic 334, 129, 0, 306, 0, 0, [(0, 1041)]), (129, .iload 4, 131, 0, 4, 0, 0, []), (131, .iaload, 132, 0, 0, 0, 0, []), (132, .iconst 1, 133, 1, 0, 0, 0, []), (133, .aload_n 0, 134, 0, 0, 0, 0, []), (134, .getfield 319, 137, 0, 10, 8, 0, [(0, 340)]), (137, .ishl, 138, 0, 0, 0, 0, []), (138, .if_icmp .ge 28, 141, 0, 166, 0, 0, []), (141, .aload_n 0, 142, 0, 0, 0, 0, []), (142, .getstatic 334, 145, 0, 306, 0, 0, [(0, 1041)]), (145, .iload 4, 147, 0, 4, 0, 0, []), (147, .iaload, 148, 0, 0, 0, 0, []), (148, .iload_n 1, 149, 0, 1, 0, 0, []), (149, .iload_n 2, 150, 0, 2, 0, 0, []), (150, .invokevirtual 337, 153, 0, 1030, 4, 1, [(0, 1043), (0, 1045), (0, 29), (0, 75), (0, 1046)])]),
 (186, [(153, .ifCond .eq 13, 156, 0, 166, 0, 0, []), (156, .aload_n 0, 157, 0, 0, 0, 0, []), (157, .getstatic 334, 160, 0, 306, 0, 0, [(0, 1041)]), (160, .iload 4, 162, 0, 4, 0, 0, []), (162, .iaload, 163, 0, 0, 0, 0, []), (163, .putfield 331, 166, 0, 10, 15, 0, [(0, 347)]), (166, .iinc 4 1, 169, 1, 4, 0, 0, []), (169, .goto (-61), 172, 0, 108, 0, 0, []), (172, .aload_n 0, 173, 0, 0, 0, 0, []), (173, .getfield 331, 176, 0, 10, 15, 0, [(0, 347)]), (176, .bipush (-9), 178, (-9), 0, 0, 0, []), (178, .if_icmp .eq 7, 181, 0, 185, 0, 0, []), (181, .iload_n 3, 182, 0, 3, 0, 0, []), (182, .ifCond .ne 8, 185, 0, 190, 0, 0, []), (185, .aload_n 0, 186, 0, 0, 0, 0, []), (186, .getfield 331, 189, 0, 10, 15, 0, [(0, 347)])]),
 (216, [(189, .ireturn, 190, 0, 0, 0, 0, []), (190, .iload_n 3, 191, 0, 3, 0, 0, []), (191, .iconst 1, 192, 1, 0, 0, 0, []), (192, .if_icmp .ne 11, 195, 0, 203, 0, 0, []), (195, .aload_n 0, 196, 0, 0, 0, 0, []), (196, .getfield 331, 199, 0, 10, 15, 0, [(0, 347)]), (199, .invokestatic 341, 202, 0, 1203, 1, 1, [(0, 1048), (0, 1049), (0, 90), (0, 1050)]), (202, .ireturn, 203, 0, 0, 0, 0, []), (203, .iload_n 3, 204, 0, 3, 0, 0, []), (204, .iconst 2, 205, 2, 0, 0, 0, []), (205, .if_icmp .ne 10, 208, 0, 215, 0, 0, []), (208, .aload_n 0, 209, 0, 0, 0, 0, []), (209, .getfield 346, 212, 0, 10, 16, 0, [(0, 348)]), (212, .goto 7, 215, 0, 219, 0, 0, []), (215, .aload_n 0, 216, 0, 0, 0, 0, []), (216, .getfield 349, 219, 0, 10, 17, 0, [(0, 349)])]),
 (219, [(219, .ireturn, 220, 0, 0, 0, 0, [])])]
def tb_C_kin : List (Nat × List (Nat × am_X)) := [
 (23, [(0, .aload_n 0, 1, 0, 0, 0, 0, []), (1, .getfield 10, 4, 0, 10, 0, 2, [(0, 332)]), (4, .iload_n 1, 5, 0, 1, 0, 0, []), (5, .invokevirtual 204, 8, 0, 904, 2, 1, [(0, 789), (0, 680), (0, 681), (0, 76), (0, 682)]), (8, .ifCond .ne 9, 11, 0, 17, 0, 0, []), (11, .aload_n 0, 12, 0, 0, 0, 0, []), (12, .iconst (-1), 13, (-1), 0, 0, 0, []), (13, .invokevirtual 56, 16, 0, 1027, 2, 1, [(0, 391), (0, 393), (0, 0), (0, 75), (0, 394)]), (16, .ireturn, 17, 0, 0, 0, 0, []), (17, .iconst 0, 18, 0, 0, 0, 0, []), (18, .istore_n 2, 19, 0, 2, 0, 0, []), (19, .iconst 0, 20, 0, 0, 0, 0, []), (20, .istore_n 3, 21, 0, 3, 0, 0, []), (21, .iload_n 3, 22, 0, 3, 0, 0, []), (22, .aload_n 0, 23, 0, 0, 0, 0, []), (23, .getfield 10, 26, 0, 10, 0, 2, [(0, 332)])]),
 (55, [(26, .getfield 60, 29, 0, 9, 1, 0, [(0, 193)]), (29, .if_icmp .ge 34, 32, 0, 63, 0, 0, []), (32, .iload_n 2, 33, 0, 2, 0, 0, []), (33, .aload_n 0, 34, 0, 0, 0, 0, []), (34, .getfield 10, 37, 0, 10, 0, 2, [(0, 332)]), (37, .getfield 136, 40, 0, 9, 4, 2, [(0, 201)]), (40, .iload_n 1, 41, 0, 1, 0, 0, []), (41, .aaload, 42, 0, 0, 0, 0, []), (42, .getfield 130, 45, 0, 1, 5, 2, [(0, 558)]), (45, .iload_n 3, 46, 0, 3, 0, 0, []), (46, .iaload, 47, 0, 0, 0, 0, []), (47, .ifCond .le 7, 50, 0, 54, 0, 0, []), (50, .iconst 1, 51, 1, 0, 0, 0, []), (51, .goto 4, 54, 0, 55, 0, 0, []), (54, .iconst 0, 55, 0, 0, 0, 0, []), (55, .iadd, 56, 0, 0, 0, 0, [])]),
 (85, [(56, .istore_n 2, 57, 0, 2, 0, 0, []), (57, .iinc 3 1, 60, 1, 3, 0, 0, []), (60, .goto (-39), 63, 0, 21, 0, 0, []), (63, .iconst 0, 64, 0, 0, 0, 0, []), (64, .istore_n 3, 65, 0, 3, 0, 0, []), (65, .iload_n 3, 66, 0, 3, 0, 0, []), (66, .aload_n 0, 67, 0, 0, 0, 0, []), (67, .getfield 10, 70, 0, 10, 0, 2, [(0, 332)]), (70, .getfield 91, 73, 0, 9, 3, 0, [(0, 197)]), (73, .if_icmp .ge 33, 76, 0, 106, 0, 0, []), (76, .iload_n 2, 77, 0, 2, 0, 0, []), (77, .aload_n 0, 78, 0, 0, 0, 0, []), (78, .getfield 10, 81, 0, 10, 0, 2, [(0, 332)]), (81, .getfield 102, 84, 0, 9, 2, 2, [(0, 195)]), (84, .iload_n 3, 85, 0, 3, 0, 0, []), (85, .aaload, 86, 0, 0, 0, 0, [])]),
 (107, [(86, .iload_n 1, 87, 0, 1, 0, 0, []), (87, .invokevirtual 210, 90, 0, 305, 2, 1, [(0, 790), (0, 791), (0, 792), (0, 84), (0, 793)]), (90, .ifCond .le 7, 93, 0, 97, 0, 0, []), (93, .iconst 1, 94, 1, 0, 0, 0, []), (94, .goto 4, 97, 0, 98, 0, 0, []), (97, .iconst 0, 98, 0, 0, 0, 0, []), (98, .iadd, 99, 0, 0, 0, 0, []), (99, .istore_n 2, 100, 0, 2, 0, 0, []), (100, .iinc 3 1, 103, 1, 3, 0, 0, []), (103, .goto (-38), 106, 0, 65, 0, 0, []), (106, .iload_n 2, 107, 0, 2, 0, 0, []), (107, .ireturn, 108, 0, 0, 0, 0, [])])]
def tb_C_total : List (Nat × List (Nat × am_X)) := [
 (108, [(0, .iload_n 1, 1, 0, 1, 0, 0, []), (1, .bipush 11, 3, 11, 0, 0, 0, []), (3, .if_icmp .lt 19, 6, 0, 22, 0, 0, []), (6, .iload_n 1, 7, 0, 1, 0, 0, []), (7, .bipush 16, 9, 16, 0, 0, 0, []), (9, .if_icmp .gt 13, 12, 0, 22, 0, 0, []), (12, .aload_n 0, 13, 0, 0, 0, 0, []), (13, .getfield 33, 16, 0, 10, 4, 2, [(0, 336)]), (16, .iload_n 1, 17, 0, 1, 0, 0, []), (17, .bipush 10, 19, 10, 0, 0, 0, []), (19, .isub, 20, 0, 0, 0, 0, []), (20, .iaload, 21, 0, 0, 0, 0, []), (21, .ireturn, 22, 0, 0, 0, 0, []), (22, .iload_n 1, 23, 0, 1, 0, 0, []), (23, .tableswitch 184 0 17 #[85, 93, 101, 109, 117, 125, 133, 141, 149, 157, 165, 184, 184, 184, 184, 184, 184, 176], 108, 0, 207, 0, 0, [(0, 108), (1, 116), (2, 124), (3, 132), (4, 140), (5, 148), (6, 156), (7, 164), (8, 172), (9, 180), (10, 188), (17, 199)]), (108, .aload_n 0, 109, 0, 0, 0, 0, [])]),
 (140, [(109, .getfield 10, 112, 0, 10, 0, 2, [(0, 332)]), (112, .getfield 143, 115, 0, 9, 14, 0, [(0, 220)]), (115, .ireturn, 116, 0, 0, 0, 0, []), (116, .aload_n 0, 117, 0, 0, 0, 0, []), (117, .getfield 10, 120, 0, 10, 0, 2, [(0, 332)]), (120, .getfield 60, 123, 0, 9, 1, 0, [(0, 193)]), (123, .ireturn, 124, 0, 0, 0, 0, []), (124, .aload_n 0, 125, 0, 0, 0, 0, []), (125, .getfield 10, 128, 0, 10, 0, 2, [(0, 332)]), (128, .getfield 91, 131, 0, 9, 3, 0, [(0, 197)]), (131, .ireturn, 132, 0, 0, 0, 0, []), (132, .aload_n 0, 133, 0, 0, 0, 0, []), (133, .getfield 10, 136, 0, 10, 0, 2, [(0, 332)]), (136, .getfield 116, 139, 0, 9, 5, 0, [(0, 203)]), (139, .ireturn, 140, 0, 0, 0, 0, []), (140, .aload_n 0, 141, 0, 0, 0, 0, [])]),
 (172, [(141, .getfield 10, 144, 0, 10, 0, 2, [(0, 332)]), (144, .invokevirtual 352, 147, 0, 912, 1, 1, [(0, 1062), (0, 1063), (0, 1064), (0, 76), (0, 1065)]), (147, .ireturn, 148, 0, 0, 0, 0, []), (148, .aload_n 0, 149, 0, 0, 0, 0, []), (149, .getfield 10, 152, 0, 10, 0, 2, [(0, 332)]), (152, .invokevirtual 175, 155, 0, 914, 1, 1, [(0, 660), (0, 661), (0, 662), (0, 76), (0, 663)]), (155, .ireturn, 156, 0, 0, 0, 0, []), (156, .aload_n 0, 157, 0, 0, 0, 0, []), (157, .getfield 10, 160, 0, 10, 0, 2, [(0, 332)]), (160, .invokevirtual 355, 163, 0, 915, 1, 1, [(0, 1025), (0, 1026), (0, 1027), (0, 76), (0, 1028)]), (163, .ireturn, 164, 0, 0, 0, 0, []), (164, .aload_n 0, 165, 0, 0, 0, 0, []), (165, .getfield 10, 168, 0, 10, 0, 2, [(0, 332)]), (168, .getfield 146, 171, 0, 9, 7, 0, [(0, 207)]), (171, .ireturn, 172, 0, 0, 0, 0, []), (172, .aload_n 0, 173, 0, 0, 0, 0, [])]),
 (206, [(173, .getfield 10, 176, 0, 10, 0, 2, [(0, 332)]), (176, .invokevirtual 358, 179, 0, 916, 1, 1, [(0, 1066), (0, 1067), (0, 1068), (0, 76), (0, 1069)]), (179, .ireturn, 180, 0, 0, 0, 0, []), (180, .aload_n 0, 181, 0, 0, 0, 0, []), (181, .getfield 10, 184, 0, 10, 0, 2, [(0, 332)]), (184, .invokevirtual 361, 187, 0, 917, 1, 1, [(0, 1070), (0, 1021), (0, 1022), (0, 76), (0, 1023)]), (187, .ireturn, 188, 0, 0, 0, 0, []), (188, .aload_n 0, 189, 0, 0, 0, 0, []), (189, .getfield 10, 192, 0, 10, 0, 2, [(0, 332)]), (192, .getfield 280, 195, 0, 9, 11, 2, [(0, 214)]), (195, .getfield 284, 198, 0, 2, 5, 0, [(0, 137)]), (198, .ireturn, 199, 0, 0, 0, 0, []), (199, .aload_n 0, 200, 0, 0, 0, 0, []), (200, .getfield 22, 203, 0, 10, 2, 2, [(0, 334)]), (203, .getfield 233, 206, 0, 5, 1, 0, [(0, 280)]), (206, .ireturn, 207, 0, 0, 0, 0, [])]),
 (209, [(207, .bipush (-9), 209, (-9), 0, 0, 0, []), (209, .ireturn, 210, 0, 0, 0, 0, [])])]
def tb_C_refuse : List (Nat × List (Nat × am_X)) := [
 (23, [(0, .iload_n 1, 1, 0, 1, 0, 0, []), (1, .ineg, 2, 0, 0, 0, 0, []), (2, .istore_n 2, 3, 0, 2, 0, 0, []), (3, .iload_n 2, 4, 0, 2, 0, 0, []), (4, .ifCond .le 22, 7, 0, 26, 0, 0, []), (7, .iload_n 2, 8, 0, 2, 0, 0, []), (8, .aload_n 0, 9, 0, 0, 0, 0, []), (9, .getfield 33, 12, 0, 10, 4, 2, [(0, 336)]), (12, .arraylength, 13, 0, 0, 0, 0, []), (13, .if_icmp .ge 13, 16, 0, 26, 0, 0, []), (16, .aload_n 0, 17, 0, 0, 0, 0, []), (17, .getfield 33, 20, 0, 10, 4, 2, [(0, 336)]), (20, .iload_n 2, 21, 0, 2, 0, 0, []), (21, .dup2, 22, 0, 0, 0, 0, []), (22, .iaload, 23, 0, 0, 0, 0, []), (23, .iconst 1, 24, 1, 0, 0, 0, [])]),
 (27, [(24, .iadd, 25, 0, 0, 0, 0, []), (25, .iastore, 26, 0, 0, 0, 0, []), (26, .iload_n 1, 27, 0, 1, 0, 0, []), (27, .ireturn, 28, 0, 0, 0, 0, [])])]
def tb_C_linkRefusal : List (Nat × List (Nat × am_X)) := [
 (26, [(0, .aload_n 0, 1, 0, 0, 0, 0, []), (1, .getfield 10, 4, 0, 10, 0, 2, [(0, 332)]), (4, .iload_n 1, 5, 0, 1, 0, 0, []), (5, .invokevirtual 207, 8, 0, 903, 2, 1, [(0, 521), (0, 522), (0, 523), (0, 76), (0, 524)]), (8, .ifCond .ne 5, 11, 0, 13, 0, 0, []), (11, .iconst (-1), 12, (-1), 0, 0, 0, []), (12, .ireturn, 13, 0, 0, 0, 0, []), (13, .iload_n 2, 14, 0, 2, 0, 0, []), (14, .ifCond .lt 8, 17, 0, 22, 0, 0, []), (17, .iload_n 2, 18, 0, 2, 0, 0, []), (18, .iconst 4, 19, 4, 0, 0, 0, []), (19, .if_icmp .le 6, 22, 0, 25, 0, 0, []), (22, .bipush (-2), 24, (-2), 0, 0, 0, []), (24, .ireturn, 25, 0, 0, 0, 0, []), (25, .iload_n 3, 26, 0, 3, 0, 0, []), (26, .getstatic 85, 29, 0, 301, 0, 0, [(0, 462)])]),
 (52, [(29, .iload_n 2, 30, 0, 2, 0, 0, []), (30, .iaload, 31, 0, 0, 0, 0, []), (31, .if_icmp .ge 6, 34, 0, 37, 0, 0, []), (34, .bipush (-4), 36, (-4), 0, 0, 0, []), (36, .ireturn, 37, 0, 0, 0, 0, []), (37, .iload_n 3, 38, 0, 3, 0, 0, []), (38, .getstatic 88, 41, 0, 302, 0, 0, [(0, 464)]), (41, .iload_n 2, 42, 0, 2, 0, 0, []), (42, .iaload, 43, 0, 0, 0, 0, []), (43, .if_icmp .le 8, 46, 0, 51, 0, 0, []), (46, .bipush (-6), 48, (-6), 0, 0, 0, []), (48, .goto 4, 51, 0, 52, 0, 0, []), (51, .iconst 0, 52, 0, 0, 0, 0, []), (52, .ireturn, 53, 0, 0, 0, 0, [])])]
def tb_C_emptiedRow : List (Nat × List (Nat × am_X)) := [
 (21, [(0, .iconst 4, 1, 4, 0, 0, 0, []), (1, .iload_n 1, 2, 0, 1, 0, 0, []), (2, .iconst 1, 3, 1, 0, 0, 0, []), (3, .iadd, 4, 0, 0, 0, 0, []), (4, .imul, 5, 0, 0, 0, 0, []), (5, .istore_n 3, 6, 0, 3, 0, 0, []), (6, .aload_n 0, 7, 0, 0, 0, 0, []), (7, .getfield 53, 10, 0, 10, 11, 2, [(0, 343)]), (10, .iload_n 1, 11, 0, 1, 0, 0, []), (11, .iconst 1, 12, 1, 0, 0, 0, []), (12, .iadd, 13, 0, 0, 0, 0, []), (13, .iaload, 14, 0, 0, 0, 0, []), (14, .aload_n 0, 15, 0, 0, 0, 0, []), (15, .getfield 46, 18, 0, 10, 9, 0, [(0, 341)]), (18, .if_icmp .eq 114, 21, 0, 132, 0, 0, []), (21, .aload_n 0, 22, 0, 0, 0, 0, [])]),
 (49, [(22, .getfield 53, 25, 0, 10, 11, 2, [(0, 343)]), (25, .iload_n 1, 26, 0, 1, 0, 0, []), (26, .iconst 1, 27, 1, 0, 0, 0, []), (27, .iadd, 28, 0, 0, 0, 0, []), (28, .aload_n 0, 29, 0, 0, 0, 0, []), (29, .getfield 46, 32, 0, 10, 9, 0, [(0, 341)]), (32, .iastore, 33, 0, 0, 0, 0, []), (33, .aload_n 0, 34, 0, 0, 0, 0, []), (34, .getfield 16, 37, 0, 10, 1, 2, [(0, 333)]), (37, .aload_n 0, 38, 0, 0, 0, 0, []), (38, .getfield 10, 41, 0, 10, 0, 2, [(0, 332)]), (41, .invokevirtual 364, 44, 0, 907, 2, 0, [(0, 966), (0, 967), (0, 968), (0, 76), (0, 969)]), (44, .aload_n 0, 45, 0, 0, 0, 0, []), (45, .getfield 16, 48, 0, 10, 1, 2, [(0, 333)]), (48, .iload_n 1, 49, 0, 1, 0, 0, []), (49, .putfield 368, 52, 0, 9, 15, 0, [(0, 224)])]),
 (81, [(52, .aload_n 0, 53, 0, 0, 0, 0, []), (53, .getfield 16, 56, 0, 10, 1, 2, [(0, 333)]), (56, .sipush 300, 59, 300, 0, 0, 0, []), (59, .ldc_w 371, 62, 2147483647, 0, 0, 0, [(0, 998)]), (62, .invokevirtual 372, 65, 0, 918, 3, 1, [(0, 999), (0, 1000), (0, 1001), (0, 76), (0, 1002)]), (65, .istore 4, 67, 0, 4, 0, 0, []), (67, .aload_n 0, 68, 0, 0, 0, 0, []), (68, .getfield 50, 71, 0, 10, 10, 2, [(0, 342)]), (71, .iload_n 3, 72, 0, 3, 0, 0, []), (72, .iload 4, 74, 0, 4, 0, 0, []), (74, .iastore, 75, 0, 0, 0, 0, []), (75, .aload_n 0, 76, 0, 0, 0, 0, []), (76, .getfield 50, 79, 0, 10, 10, 2, [(0, 342)]), (79, .iload_n 3, 80, 0, 3, 0, 0, []), (80, .iconst 1, 81, 1, 0, 0, 0, []), (81, .iadd, 82, 0, 0, 0, 0, [])]),
 (109, [(82, .iconst 0, 83, 0, 0, 0, 0, []), (83, .aload_n 0, 84, 0, 0, 0, 0, []), (84, .getfield 16, 87, 0, 10, 1, 2, [(0, 333)]), (87, .getfield 375, 90, 0, 9, 16, 0, [(0, 226)]), (90, .invokestatic 378, 93, 0, 9996, 2, 1, [(0, 1024), (0, 402), (0, 83), (0, 403)]), (93, .iastore, 94, 0, 0, 0, 0, []), (94, .aload_n 0, 95, 0, 0, 0, 0, []), (95, .getfield 50, 98, 0, 10, 10, 2, [(0, 342)]), (98, .iload_n 3, 99, 0, 3, 0, 0, []), (99, .iconst 2, 100, 2, 0, 0, 0, []), (100, .iadd, 101, 0, 0, 0, 0, []), (101, .aload_n 0, 102, 0, 0, 0, 0, []), (102, .getfield 16, 105, 0, 10, 1, 2, [(0, 333)]), (105, .getfield 383, 108, 0, 9, 17, 0, [(0, 228)]), (108, .iastore, 109, 0, 0, 0, 0, []), (109, .aload_n 0, 110, 0, 0, 0, 0, [])]),
 (137, [(110, .getfield 50, 113, 0, 10, 10, 2, [(0, 342)]), (113, .iload_n 3, 114, 0, 3, 0, 0, []), (114, .iconst 3, 115, 3, 0, 0, 0, []), (115, .iadd, 116, 0, 0, 0, 0, []), (116, .aload_n 0, 117, 0, 0, 0, 0, []), (117, .getfield 16, 120, 0, 10, 1, 2, [(0, 333)]), (120, .invokevirtual 355, 123, 0, 915, 1, 1, [(0, 1025), (0, 1026), (0, 1027), (0, 76), (0, 1028)]), (123, .aload_n 0, 124, 0, 0, 0, 0, []), (124, .getfield 10, 127, 0, 10, 0, 2, [(0, 332)]), (127, .invokevirtual 355, 130, 0, 915, 1, 1, [(0, 1025), (0, 1026), (0, 1027), (0, 76), (0, 1028)]), (130, .isub, 131, 0, 0, 0, 0, []), (131, .iastore, 132, 0, 0, 0, 0, []), (132, .aload_n 0, 133, 0, 0, 0, 0, []), (133, .getfield 50, 136, 0, 10, 10, 2, [(0, 342)]), (136, .iload_n 3, 137, 0, 3, 0, 0, []), (137, .iload_n 2, 138, 0, 2, 0, 0, [])]),
 (140, [(138, .iadd, 139, 0, 0, 0, 0, []), (139, .iaload, 140, 0, 0, 0, 0, []), (140, .ireturn, 141, 0, 0, 0, 0, [])])]
def tb_C_isEnough : List (Nat × List (Nat × am_X)) := [
 (29, [(0, .aload_n 0, 1, 0, 0, 0, 0, []), (1, .iconst 0, 2, 0, 0, 0, 0, []), (2, .putfield 346, 5, 0, 10, 16, 0, [(0, 348)]), (5, .aload_n 0, 6, 0, 0, 0, 0, []), (6, .iconst 0, 7, 0, 0, 0, 0, []), (7, .putfield 349, 10, 0, 10, 17, 0, [(0, 349)]), (10, .bipush 6, 12, 6, 0, 0, 0, []), (12, .aload_n 0, 13, 0, 0, 0, 0, []), (13, .getfield 10, 16, 0, 10, 0, 2, [(0, 332)]), (16, .getfield 91, 19, 0, 9, 3, 0, [(0, 197)]), (19, .invokestatic 386, 22, 0, 9995, 2, 1, [(0, 1047), (0, 473), (0, 83), (0, 474)]), (22, .istore 4, 24, 0, 4, 0, 0, []), (24, .iconst (-1), 25, (-1), 0, 0, 0, []), (25, .istore 5, 27, 0, 5, 0, 0, []), (27, .iload 5, 29, 0, 5, 0, 0, []), (29, .iload 4, 31, 0, 4, 0, 0, [])]),
 (63, [(31, .if_icmp .ge 147, 34, 0, 178, 0, 0, []), (34, .aload_n 0, 35, 0, 0, 0, 0, []), (35, .getfield 16, 38, 0, 10, 1, 2, [(0, 333)]), (38, .aload_n 0, 39, 0, 0, 0, 0, []), (39, .getfield 10, 42, 0, 10, 0, 2, [(0, 332)]), (42, .invokevirtual 364, 45, 0, 907, 2, 0, [(0, 966), (0, 967), (0, 968), (0, 76), (0, 969)]), (45, .aload_n 0, 46, 0, 0, 0, 0, []), (46, .getfield 16, 49, 0, 10, 1, 2, [(0, 333)]), (49, .iload 5, 51, 0, 5, 0, 0, []), (51, .putfield 368, 54, 0, 9, 15, 0, [(0, 224)]), (54, .iconst 0, 55, 0, 0, 0, 0, []), (55, .istore 6, 57, 0, 6, 0, 0, []), (57, .iload 6, 59, 0, 6, 0, 0, []), (59, .aload_n 0, 60, 0, 0, 0, 0, []), (60, .getfield 319, 63, 0, 10, 8, 0, [(0, 340)]), (63, .if_icmp .ge 47, 66, 0, 110, 0, 0, [])]),
 (91, [(66, .iload_n 1, 67, 0, 1, 0, 0, []), (67, .iload 6, 69, 0, 6, 0, 0, []), (69, .ishr, 70, 0, 0, 0, 0, []), (70, .iconst 1, 71, 1, 0, 0, 0, []), (71, .iand, 72, 0, 0, 0, 0, []), (72, .iconst 1, 73, 1, 0, 0, 0, []), (73, .if_icmp .ne 31, 76, 0, 104, 0, 0, []), (76, .aload_n 0, 77, 0, 0, 0, 0, []), (77, .getfield 16, 80, 0, 10, 1, 2, [(0, 333)]), (80, .aload_n 0, 81, 0, 0, 0, 0, []), (81, .getfield 37, 84, 0, 10, 5, 2, [(0, 337)]), (84, .iload 6, 86, 0, 6, 0, 0, []), (86, .iaload, 87, 0, 0, 0, 0, []), (87, .aload_n 0, 88, 0, 0, 0, 0, []), (88, .getfield 40, 91, 0, 10, 6, 2, [(0, 338)]), (91, .iload 6, 93, 0, 6, 0, 0, [])]),
 (123, [(93, .iaload, 94, 0, 0, 0, 0, []), (94, .aload_n 0, 95, 0, 0, 0, 0, []), (95, .getfield 43, 98, 0, 10, 7, 2, [(0, 339)]), (98, .iload 6, 100, 0, 6, 0, 0, []), (100, .iaload, 101, 0, 0, 0, 0, []), (101, .invokevirtual 110, 104, 0, 909, 4, 0, [(0, 525), (0, 526), (0, 527), (0, 76), (0, 528)]), (104, .iinc 6 1, 107, 1, 6, 0, 0, []), (107, .goto (-50), 110, 0, 57, 0, 0, []), (110, .aload_n 0, 111, 0, 0, 0, 0, []), (111, .getfield 16, 114, 0, 10, 1, 2, [(0, 333)]), (114, .iload_n 2, 115, 0, 2, 0, 0, []), (115, .iload_n 3, 116, 0, 3, 0, 0, []), (116, .invokevirtual 372, 119, 0, 918, 3, 1, [(0, 999), (0, 1000), (0, 1001), (0, 76), (0, 1002)]), (119, .istore 6, 121, 0, 6, 0, 0, []), (121, .iload 6, 123, 0, 6, 0, 0, []), (123, .bipush (-9), 125, (-9), 0, 0, 0, [])]),
 (155, [(125, .if_icmp .eq 14, 128, 0, 139, 0, 0, []), (128, .aload_n 0, 129, 0, 0, 0, 0, []), (129, .getfield 16, 132, 0, 10, 1, 2, [(0, 333)]), (132, .getfield 375, 135, 0, 9, 16, 0, [(0, 226)]), (135, .iload_n 3, 136, 0, 3, 0, 0, []), (136, .if_icmp .le 5, 139, 0, 141, 0, 0, []), (139, .iconst 0, 140, 0, 0, 0, 0, []), (140, .ireturn, 141, 0, 0, 0, 1, []), (141, .aload_n 0, 142, 0, 0, 0, 0, []), (142, .aload_n 0, 143, 0, 0, 0, 0, []), (143, .getfield 346, 146, 0, 10, 16, 0, [(0, 348)]), (146, .iload 6, 148, 0, 6, 0, 0, []), (148, .invokestatic 378, 151, 0, 9996, 2, 1, [(0, 1024), (0, 402), (0, 83), (0, 403)]), (151, .putfield 346, 154, 0, 10, 16, 0, [(0, 348)]), (154, .aload_n 0, 155, 0, 0, 0, 0, []), (155, .aload_n 0, 156, 0, 0, 0, 0, [])]),
 (179, [(156, .getfield 349, 159, 0, 10, 17, 0, [(0, 349)]), (159, .aload_n 0, 160, 0, 0, 0, 0, []), (160, .getfield 16, 163, 0, 10, 1, 2, [(0, 333)]), (163, .getfield 375, 166, 0, 9, 16, 0, [(0, 226)]), (166, .invokestatic 378, 169, 0, 9996, 2, 1, [(0, 1024), (0, 402), (0, 83), (0, 403)]), (169, .putfield 349, 172, 0, 10, 17, 0, [(0, 349)]), (172, .iinc 5 1, 175, 1, 5, 0, 0, []), (175, .goto (-148), 178, 0, 27, 0, 0, []), (178, .iconst 1, 179, 1, 0, 0, 0, []), (179, .ireturn, 180, 0, 0, 0, 1, [])])]
def tb_J_bitCount : List (Nat × List (Nat × am_X)) := [
 (21, [(0, .iload_n 0, 1, 0, 0, 0, 0, []), (1, .iload_n 0, 2, 0, 0, 0, 0, []), (2, .iconst 1, 3, 1, 0, 0, 0, []), (3, .iushr, 4, 0, 0, 0, 0, []), (4, .ldc_w 265, 7, 1431655765, 0, 0, 0, [(0, 1051)]), (7, .iand, 8, 0, 0, 0, 0, []), (8, .isub, 9, 0, 0, 0, 0, []), (9, .istore_n 0, 10, 0, 0, 0, 0, []), (10, .iload_n 0, 11, 0, 0, 0, 0, []), (11, .ldc_w 266, 14, 858993459, 0, 0, 0, [(0, 1052)]), (14, .iand, 15, 0, 0, 0, 0, []), (15, .iload_n 0, 16, 0, 0, 0, 0, []), (16, .iconst 2, 17, 2, 0, 0, 0, []), (17, .iushr, 18, 0, 0, 0, 0, []), (18, .ldc_w 266, 21, 858993459, 0, 0, 0, [(0, 1052)]), (21, .iand, 22, 0, 0, 0, 0, [])]),
 (40, [(22, .iadd, 23, 0, 0, 0, 0, []), (23, .istore_n 0, 24, 0, 0, 0, 0, []), (24, .iload_n 0, 25, 0, 0, 0, 0, []), (25, .iload_n 0, 26, 0, 0, 0, 0, []), (26, .iconst 4, 27, 4, 0, 0, 0, []), (27, .iushr, 28, 0, 0, 0, 0, []), (28, .iadd, 29, 0, 0, 0, 0, []), (29, .ldc_w 267, 32, 252645135, 0, 0, 0, [(0, 1053)]), (32, .iand, 33, 0, 0, 0, 0, []), (33, .istore_n 0, 34, 0, 0, 0, 0, []), (34, .iload_n 0, 35, 0, 0, 0, 0, []), (35, .iload_n 0, 36, 0, 0, 0, 0, []), (36, .bipush 8, 38, 8, 0, 0, 0, []), (38, .iushr, 39, 0, 0, 0, 0, []), (39, .iadd, 40, 0, 0, 0, 0, []), (40, .istore_n 0, 41, 0, 0, 0, 0, [])]),
 (52, [(41, .iload_n 0, 42, 0, 0, 0, 0, []), (42, .iload_n 0, 43, 0, 0, 0, 0, []), (43, .bipush 16, 45, 16, 0, 0, 0, []), (45, .iushr, 46, 0, 0, 0, 0, []), (46, .iadd, 47, 0, 0, 0, 0, []), (47, .istore_n 0, 48, 0, 0, 0, 0, []), (48, .iload_n 0, 49, 0, 0, 0, 0, []), (49, .bipush 63, 51, 63, 0, 0, 0, []), (51, .iand, 52, 0, 0, 0, 0, []), (52, .ireturn, 53, 0, 0, 0, 0, [])])]
def tb_J_copyOf : List (Nat × List (Nat × am_X)) := [
 (22, [(0, .iload_n 1, 1, 0, 1, 0, 0, []), (1, .aload_n 0, 2, 0, 0, 0, 0, []), (2, .arraylength, 3, 0, 0, 0, 0, []), (3, .if_icmp .ne 11, 6, 0, 14, 0, 0, []), (6, .aload_n 0, 7, 0, 0, 0, 0, []), (7, .invokevirtual 316, 10, 0, 9998, 1, 1, [(0, 880), (0, 183), (0, 184), (0, 185), (0, 186)]), (10, .checkcast 317, 13, 0, 0, 0, 0, [(0, 881)]), (13, .areturn, 14, 0, 0, 0, 0, []), (14, .iload_n 1, 15, 0, 1, 0, 0, []), (15, .newarray .int, 17, 0, 100, 0, 0, [(0, 157)]), (17, .astore_n 2, 18, 0, 2, 0, 0, []), (18, .aload_n 0, 19, 0, 0, 0, 0, []), (19, .iconst 0, 20, 0, 0, 0, 0, []), (20, .aload_n 2, 21, 0, 2, 0, 0, []), (21, .iconst 0, 22, 0, 0, 0, 0, []), (22, .aload_n 0, 23, 0, 0, 0, 0, [])]),
 (32, [(23, .arraylength, 24, 0, 0, 0, 0, []), (24, .iload_n 1, 25, 0, 1, 0, 0, []), (25, .invokestatic 304, 28, 0, 9995, 2, 1, [(0, 882), (0, 473), (0, 83), (0, 474)]), (28, .invokestatic 150, 31, 0, 9997, 5, 0, [(0, 883), (0, 885), (0, 884), (0, 89)]), (31, .aload_n 2, 32, 0, 2, 0, 0, []), (32, .areturn, 33, 0, 0, 0, 0, [])])]
def tb_J_fill : List (Nat × List (Nat × am_X)) := [
 (24, [(0, .aload_n 0, 1, 0, 0, 0, 0, []), (1, .arraylength, 2, 0, 0, 0, 0, []), (2, .iload_n 1, 3, 0, 1, 0, 0, []), (3, .iload_n 2, 4, 0, 2, 0, 0, []), (4, .invokestatic 13, 7, 0, 1206, 3, 0, [(0, 719), (0, 720), (0, 87), (0, 721)]), (7, .iload_n 1, 8, 0, 1, 0, 0, []), (8, .istore 4, 10, 0, 4, 0, 0, []), (10, .iload 4, 12, 0, 4, 0, 0, []), (12, .iload_n 2, 13, 0, 2, 0, 0, []), (13, .if_icmp .ge 14, 16, 0, 27, 0, 0, []), (16, .aload_n 0, 17, 0, 0, 0, 0, []), (17, .iload 4, 19, 0, 4, 0, 0, []), (19, .iload_n 3, 20, 0, 3, 0, 0, []), (20, .iastore, 21, 0, 0, 0, 0, []), (21, .iinc 4 1, 24, 1, 4, 0, 0, []), (24, .goto (-14), 27, 0, 10, 0, 0, [])]),
 (27, [(27, .return_, 28, 0, 0, 0, 0, [])])]
def tb_J_rangeCheck : List (Nat × List (Nat × am_X)) := [
 (31, [(0, .iload_n 1, 1, 0, 1, 0, 0, []), (1, .iload_n 2, 2, 0, 2, 0, 0, []), (2, .if_icmp .le 44, 5, 0, 46, 0, 0, []), (21, .iload_n 1, 22, 0, 1, 0, 0, []), (30, .iload_n 2, 31, 0, 2, 0, 0, [])]),
 (64, [(46, .iload_n 1, 47, 0, 1, 0, 0, []), (47, .ifCond .ge 12, 50, 0, 59, 0, 0, []), (54, .iload_n 1, 55, 0, 1, 0, 0, []), (59, .iload_n 2, 60, 0, 2, 0, 0, []), (60, .iload_n 0, 61, 0, 0, 0, 0, []), (61, .if_icmp .le 12, 64, 0, 73, 0, 0, [])]),
 (73, [(68, .iload_n 2, 69, 0, 2, 0, 0, []), (73, .return_, 74, 0, 0, 0, 0, [])])]
end
section
/-! printed by wip/gen_code.py: the law; the table of methods; the kinds of the roles -/
def tb_law : List (Nat × List (Nat × am_X)) := [
 (23, [(0, .new 7, 3, 0, 10, 18, 0, [(0, 91), (0, 92), (0, 75)]), (3, .dup, 4, 0, 0, 0, 0, []), (4, .invokespecial 9, 7, 0, 1000, 1, 0, [(0, 93), (0, 94), (0, 75), (0, 95)]), (7, .astore_n 1, 8, 0, 1, 0, 0, []), (8, .new 10, 11, 0, 11, 75, 0, [(0, 1071), (0, 1072), (0, 81)]), (11, .dup, 12, 0, 0, 0, 0, []), (12, .invokespecial 12, 15, 0, 1100, 1, 0, [(0, 1073), (0, 1074), (0, 81), (0, 1075)]), (15, .astore_n 2, 16, 0, 2, 0, 0, []), (16, .iconst 0, 17, 0, 0, 0, 0, []), (17, .istore_n 3, 18, 0, 3, 0, 0, []), (18, .iload_n 3, 19, 0, 3, 0, 0, []), (19, .aload_n 0, 20, 0, 0, 0, 0, []), (20, .arraylength, 21, 0, 0, 0, 0, []), (21, .iconst 5, 22, 5, 0, 0, 0, []), (22, .isub, 23, 0, 0, 0, 0, []), (23, .if_icmp .gt 1167, 26, 0, 1190, 0, 0, [])]),
 (161, [(26, .aload_n 0, 27, 0, 0, 0, 0, []), (27, .iload_n 3, 28, 0, 3, 0, 0, []), (28, .iaload, 29, 0, 0, 0, 0, []), (29, .bipush 31, 31, 31, 0, 0, 0, []), (31, .iand, 32, 0, 0, 0, 0, []), (32, .tableswitch 1152 0 25 #[120, 153, 206, 249, 302, 355, 404, 437, 460, 493, 536, 595, 654, 717, 740, 789, 812, 845, 888, 931, 964, 997, 1020, 1063, 1106, 1129], 152, 0, 1184, 0, 0, [(0, 152), (1, 185), (2, 238), (3, 281), (4, 334), (5, 387), (6, 436), (7, 469), (8, 492), (9, 525), (10, 568), (11, 627), (12, 686), (13, 749), (14, 772), (15, 821), (16, 844), (17, 877), (18, 920), (19, 963), (20, 996), (21, 1029), (22, 1052), (23, 1095), (24, 1138), (25, 1161)]), (152, .aload_n 1, 153, 0, 1, 0, 0, []), (153, .aload_n 0, 154, 0, 0, 0, 0, []), (154, .iload_n 3, 155, 0, 3, 0, 0, []), (155, .iconst 1, 156, 1, 0, 0, 0, []), (156, .iadd, 157, 0, 0, 0, 0, []), (157, .iaload, 158, 0, 0, 0, 0, []), (158, .aload_n 0, 159, 0, 0, 0, 0, []), (159, .iload_n 3, 160, 0, 3, 0, 0, []), (160, .iconst 2, 161, 2, 0, 0, 0, []), (161, .iadd, 162, 0, 0, 0, 0, [])]),
 (183, [(162, .iaload, 163, 0, 0, 0, 0, []), (163, .invokevirtual 13, 166, 0, 1001, 3, 1, [(0, 387), (0, 388), (0, 389), (0, 75), (0, 390)]), (166, .aload_n 2, 167, 0, 2, 0, 0, []), (167, .aload_n 0, 168, 0, 0, 0, 0, []), (168, .iload_n 3, 169, 0, 3, 0, 0, []), (169, .iconst 1, 170, 1, 0, 0, 0, []), (170, .iadd, 171, 0, 0, 0, 0, []), (171, .iaload, 172, 0, 0, 0, 0, []), (172, .aload_n 0, 173, 0, 0, 0, 0, []), (173, .iload_n 3, 174, 0, 3, 0, 0, []), (174, .iconst 2, 175, 2, 0, 0, 0, []), (175, .iadd, 176, 0, 0, 0, 0, []), (176, .iaload, 177, 0, 0, 0, 0, []), (177, .invokevirtual 17, 180, 0, 1107, 3, 1, [(0, 1305), (0, 1306), (0, 1307), (0, 81), (0, 1308)]), (180, .if_icmp .eq 1004, 183, 0, 1184, 0, 0, []), (183, .iconst 0, 184, 0, 0, 0, 0, [])]),
 (199, [(184, .ireturn, 185, 0, 0, 0, 1, []), (185, .aload_n 1, 186, 0, 1, 0, 0, []), (186, .aload_n 0, 187, 0, 0, 0, 0, []), (187, .iload_n 3, 188, 0, 3, 0, 0, []), (188, .iconst 1, 189, 1, 0, 0, 0, []), (189, .iadd, 190, 0, 0, 0, 0, []), (190, .iaload, 191, 0, 0, 0, 0, []), (191, .aload_n 0, 192, 0, 0, 0, 0, []), (192, .iload_n 3, 193, 0, 3, 0, 0, []), (193, .iconst 2, 194, 2, 0, 0, 0, []), (194, .iadd, 195, 0, 0, 0, 0, []), (195, .iaload, 196, 0, 0, 0, 0, []), (196, .aload_n 0, 197, 0, 0, 0, 0, []), (197, .iload_n 3, 198, 0, 3, 0, 0, []), (198, .iconst 3, 199, 3, 0, 0, 0, []), (199, .iadd, 200, 0, 0, 0, 0, [])]),
 (217, [(200, .iaload, 201, 0, 0, 0, 0, []), (201, .aload_n 0, 202, 0, 0, 0, 0, []), (202, .iload_n 3, 203, 0, 3, 0, 0, []), (203, .iconst 4, 204, 4, 0, 0, 0, []), (204, .iadd, 205, 0, 0, 0, 0, []), (205, .iaload, 206, 0, 0, 0, 0, []), (206, .invokevirtual 18, 209, 0, 1002, 5, 1, [(0, 454), (0, 455), (0, 456), (0, 75), (0, 457)]), (209, .aload_n 2, 210, 0, 2, 0, 0, []), (210, .aload_n 0, 211, 0, 0, 0, 0, []), (211, .iload_n 3, 212, 0, 3, 0, 0, []), (212, .iconst 1, 213, 1, 0, 0, 0, []), (213, .iadd, 214, 0, 0, 0, 0, []), (214, .iaload, 215, 0, 0, 0, 0, []), (215, .aload_n 0, 216, 0, 0, 0, 0, []), (216, .iload_n 3, 217, 0, 3, 0, 0, []), (217, .iconst 2, 218, 2, 0, 0, 0, [])]),
 (237, [(218, .iadd, 219, 0, 0, 0, 0, []), (219, .iaload, 220, 0, 0, 0, 0, []), (220, .aload_n 0, 221, 0, 0, 0, 0, []), (221, .iload_n 3, 222, 0, 3, 0, 0, []), (222, .iconst 3, 223, 3, 0, 0, 0, []), (223, .iadd, 224, 0, 0, 0, 0, []), (224, .iaload, 225, 0, 0, 0, 0, []), (225, .aload_n 0, 226, 0, 0, 0, 0, []), (226, .iload_n 3, 227, 0, 3, 0, 0, []), (227, .iconst 4, 228, 4, 0, 0, 0, []), (228, .iadd, 229, 0, 0, 0, 0, []), (229, .iaload, 230, 0, 0, 0, 0, []), (230, .invokevirtual 22, 233, 0, 1108, 5, 1, [(0, 1313), (0, 1314), (0, 1315), (0, 81), (0, 1316)]), (233, .if_icmp .eq 951, 236, 0, 1184, 0, 0, []), (236, .iconst 0, 237, 0, 0, 0, 0, []), (237, .ireturn, 238, 0, 0, 0, 1, [])]),
 (253, [(238, .aload_n 1, 239, 0, 1, 0, 0, []), (239, .aload_n 0, 240, 0, 0, 0, 0, []), (240, .iload_n 3, 241, 0, 3, 0, 0, []), (241, .iconst 1, 242, 1, 0, 0, 0, []), (242, .iadd, 243, 0, 0, 0, 0, []), (243, .iaload, 244, 0, 0, 0, 0, []), (244, .aload_n 0, 245, 0, 0, 0, 0, []), (245, .iload_n 3, 246, 0, 3, 0, 0, []), (246, .iconst 2, 247, 2, 0, 0, 0, []), (247, .iadd, 248, 0, 0, 0, 0, []), (248, .iaload, 249, 0, 0, 0, 0, []), (249, .aload_n 0, 250, 0, 0, 0, 0, []), (250, .iload_n 3, 251, 0, 3, 0, 0, []), (251, .iconst 3, 252, 3, 0, 0, 0, []), (252, .iadd, 253, 0, 0, 0, 0, []), (253, .iaload, 254, 0, 0, 0, 0, [])]),
 (271, [(254, .invokevirtual 23, 257, 0, 1003, 4, 1, [(0, 513), (0, 514), (0, 515), (0, 75), (0, 516)]), (257, .aload_n 2, 258, 0, 2, 0, 0, []), (258, .aload_n 0, 259, 0, 0, 0, 0, []), (259, .iload_n 3, 260, 0, 3, 0, 0, []), (260, .iconst 1, 261, 1, 0, 0, 0, []), (261, .iadd, 262, 0, 0, 0, 0, []), (262, .iaload, 263, 0, 0, 0, 0, []), (263, .aload_n 0, 264, 0, 0, 0, 0, []), (264, .iload_n 3, 265, 0, 3, 0, 0, []), (265, .iconst 2, 266, 2, 0, 0, 0, []), (266, .iadd, 267, 0, 0, 0, 0, []), (267, .iaload, 268, 0, 0, 0, 0, []), (268, .aload_n 0, 269, 0, 0, 0, 0, []), (269, .iload_n 3, 270, 0, 3, 0, 0, []), (270, .iconst 3, 271, 3, 0, 0, 0, []), (271, .iadd, 272, 0, 0, 0, 0, [])]),
 (291, [(272, .iaload, 273, 0, 0, 0, 0, []), (273, .invokevirtual 27, 276, 0, 1110, 4, 1, [(0, 1321), (0, 1322), (0, 1323), (0, 81), (0, 1324)]), (276, .if_icmp .eq 908, 279, 0, 1184, 0, 0, []), (279, .iconst 0, 280, 0, 0, 0, 0, []), (280, .ireturn, 281, 0, 0, 0, 1, []), (281, .aload_n 1, 282, 0, 1, 0, 0, []), (282, .aload_n 0, 283, 0, 0, 0, 0, []), (283, .iload_n 3, 284, 0, 3, 0, 0, []), (284, .iconst 1, 285, 1, 0, 0, 0, []), (285, .iadd, 286, 0, 0, 0, 0, []), (286, .iaload, 287, 0, 0, 0, 0, []), (287, .aload_n 0, 288, 0, 0, 0, 0, []), (288, .iload_n 3, 289, 0, 3, 0, 0, []), (289, .iconst 2, 290, 2, 0, 0, 0, []), (290, .iadd, 291, 0, 0, 0, 0, []), (291, .iaload, 292, 0, 0, 0, 0, [])]),
 (309, [(292, .aload_n 0, 293, 0, 0, 0, 0, []), (293, .iload_n 3, 294, 0, 3, 0, 0, []), (294, .iconst 3, 295, 3, 0, 0, 0, []), (295, .iadd, 296, 0, 0, 0, 0, []), (296, .iaload, 297, 0, 0, 0, 0, []), (297, .aload_n 0, 298, 0, 0, 0, 0, []), (298, .iload_n 3, 299, 0, 3, 0, 0, []), (299, .iconst 4, 300, 4, 0, 0, 0, []), (300, .iadd, 301, 0, 0, 0, 0, []), (301, .iaload, 302, 0, 0, 0, 0, []), (302, .invokevirtual 28, 305, 0, 1004, 5, 1, [(0, 530), (0, 531), (0, 532), (0, 75), (0, 533)]), (305, .aload_n 2, 306, 0, 2, 0, 0, []), (306, .aload_n 0, 307, 0, 0, 0, 0, []), (307, .iload_n 3, 308, 0, 3, 0, 0, []), (308, .iconst 1, 309, 1, 0, 0, 0, []), (309, .iadd, 310, 0, 0, 0, 0, [])]),
 (325, [(310, .iaload, 311, 0, 0, 0, 0, []), (311, .aload_n 0, 312, 0, 0, 0, 0, []), (312, .iload_n 3, 313, 0, 3, 0, 0, []), (313, .iconst 2, 314, 2, 0, 0, 0, []), (314, .iadd, 315, 0, 0, 0, 0, []), (315, .iaload, 316, 0, 0, 0, 0, []), (316, .aload_n 0, 317, 0, 0, 0, 0, []), (317, .iload_n 3, 318, 0, 3, 0, 0, []), (318, .iconst 3, 319, 3, 0, 0, 0, []), (319, .iadd, 320, 0, 0, 0, 0, []), (320, .iaload, 321, 0, 0, 0, 0, []), (321, .aload_n 0, 322, 0, 0, 0, 0, []), (322, .iload_n 3, 323, 0, 3, 0, 0, []), (323, .iconst 4, 324, 4, 0, 0, 0, []), (324, .iadd, 325, 0, 0, 0, 0, []), (325, .iaload, 326, 0, 0, 0, 0, [])]),
 (345, [(326, .invokevirtual 31, 329, 0, 1111, 5, 1, [(0, 1333), (0, 1334), (0, 1335), (0, 81), (0, 1336)]), (329, .if_icmp .eq 855, 332, 0, 1184, 0, 0, []), (332, .iconst 0, 333, 0, 0, 0, 0, []), (333, .ireturn, 334, 0, 0, 0, 1, []), (334, .aload_n 1, 335, 0, 1, 0, 0, []), (335, .aload_n 0, 336, 0, 0, 0, 0, []), (336, .iload_n 3, 337, 0, 3, 0, 0, []), (337, .iconst 1, 338, 1, 0, 0, 0, []), (338, .iadd, 339, 0, 0, 0, 0, []), (339, .iaload, 340, 0, 0, 0, 0, []), (340, .aload_n 0, 341, 0, 0, 0, 0, []), (341, .iload_n 3, 342, 0, 3, 0, 0, []), (342, .iconst 2, 343, 2, 0, 0, 0, []), (343, .iadd, 344, 0, 0, 0, 0, []), (344, .iaload, 345, 0, 0, 0, 0, []), (345, .aload_n 0, 346, 0, 0, 0, 0, [])]),
 (363, [(346, .iload_n 3, 347, 0, 3, 0, 0, []), (347, .iconst 3, 348, 3, 0, 0, 0, []), (348, .iadd, 349, 0, 0, 0, 0, []), (349, .iaload, 350, 0, 0, 0, 0, []), (350, .aload_n 0, 351, 0, 0, 0, 0, []), (351, .iload_n 3, 352, 0, 3, 0, 0, []), (352, .iconst 4, 353, 4, 0, 0, 0, []), (353, .iadd, 354, 0, 0, 0, 0, []), (354, .iaload, 355, 0, 0, 0, 0, []), (355, .invokevirtual 32, 358, 0, 1005, 5, 1, [(0, 600), (0, 601), (0, 602), (0, 75), (0, 603)]), (358, .aload_n 2, 359, 0, 2, 0, 0, []), (359, .aload_n 0, 360, 0, 0, 0, 0, []), (360, .iload_n 3, 361, 0, 3, 0, 0, []), (361, .iconst 1, 362, 1, 0, 0, 0, []), (362, .iadd, 363, 0, 0, 0, 0, []), (363, .iaload, 364, 0, 0, 0, 0, [])]),
 (379, [(364, .aload_n 0, 365, 0, 0, 0, 0, []), (365, .iload_n 3, 366, 0, 3, 0, 0, []), (366, .iconst 2, 367, 2, 0, 0, 0, []), (367, .iadd, 368, 0, 0, 0, 0, []), (368, .iaload, 369, 0, 0, 0, 0, []), (369, .aload_n 0, 370, 0, 0, 0, 0, []), (370, .iload_n 3, 371, 0, 3, 0, 0, []), (371, .iconst 3, 372, 3, 0, 0, 0, []), (372, .iadd, 373, 0, 0, 0, 0, []), (373, .iaload, 374, 0, 0, 0, 0, []), (374, .aload_n 0, 375, 0, 0, 0, 0, []), (375, .iload_n 3, 376, 0, 3, 0, 0, []), (376, .iconst 4, 377, 4, 0, 0, 0, []), (377, .iadd, 378, 0, 0, 0, 0, []), (378, .iaload, 379, 0, 0, 0, 0, []), (379, .invokevirtual 35, 382, 0, 1112, 5, 1, [(0, 1345), (0, 1346), (0, 1347), (0, 81), (0, 1348)])]),
 (401, [(382, .if_icmp .eq 802, 385, 0, 1184, 0, 0, []), (385, .iconst 0, 386, 0, 0, 0, 0, []), (386, .ireturn, 387, 0, 0, 0, 1, []), (387, .aload_n 1, 388, 0, 1, 0, 0, []), (388, .aload_n 0, 389, 0, 0, 0, 0, []), (389, .iload_n 3, 390, 0, 3, 0, 0, []), (390, .iconst 1, 391, 1, 0, 0, 0, []), (391, .iadd, 392, 0, 0, 0, 0, []), (392, .iaload, 393, 0, 0, 0, 0, []), (393, .aload_n 0, 394, 0, 0, 0, 0, []), (394, .iload_n 3, 395, 0, 3, 0, 0, []), (395, .iconst 2, 396, 2, 0, 0, 0, []), (396, .iadd, 397, 0, 0, 0, 0, []), (397, .iaload, 398, 0, 0, 0, 0, []), (398, .ifCond .eq 7, 401, 0, 405, 0, 0, []), (401, .iconst 1, 402, 1, 0, 0, 0, [])]),
 (423, [(402, .goto 4, 405, 0, 406, 0, 0, []), (405, .iconst 0, 406, 0, 0, 0, 0, []), (406, .invokevirtual 36, 409, 0, 1006, 3, 1, [(0, 636), (0, 637), (0, 638), (0, 75), (0, 639)]), (409, .aload_n 2, 410, 0, 2, 0, 0, []), (410, .aload_n 0, 411, 0, 0, 0, 0, []), (411, .iload_n 3, 412, 0, 3, 0, 0, []), (412, .iconst 1, 413, 1, 0, 0, 0, []), (413, .iadd, 414, 0, 0, 0, 0, []), (414, .iaload, 415, 0, 0, 0, 0, []), (415, .aload_n 0, 416, 0, 0, 0, 0, []), (416, .iload_n 3, 417, 0, 3, 0, 0, []), (417, .iconst 2, 418, 2, 0, 0, 0, []), (418, .iadd, 419, 0, 0, 0, 0, []), (419, .iaload, 420, 0, 0, 0, 0, []), (420, .ifCond .eq 7, 423, 0, 427, 0, 0, []), (423, .iconst 1, 424, 1, 0, 0, 0, [])]),
 (445, [(424, .goto 4, 427, 0, 428, 0, 0, []), (427, .iconst 0, 428, 0, 0, 0, 0, []), (428, .invokevirtual 40, 431, 0, 1113, 3, 1, [(0, 1349), (0, 1350), (0, 1351), (0, 81), (0, 1352)]), (431, .if_icmp .eq 753, 434, 0, 1184, 0, 0, []), (434, .iconst 0, 435, 0, 0, 0, 0, []), (435, .ireturn, 436, 0, 0, 0, 1, []), (436, .aload_n 1, 437, 0, 1, 0, 0, []), (437, .aload_n 0, 438, 0, 0, 0, 0, []), (438, .iload_n 3, 439, 0, 3, 0, 0, []), (439, .iconst 1, 440, 1, 0, 0, 0, []), (440, .iadd, 441, 0, 0, 0, 0, []), (441, .iaload, 442, 0, 0, 0, 0, []), (442, .aload_n 0, 443, 0, 0, 0, 0, []), (443, .iload_n 3, 444, 0, 3, 0, 0, []), (444, .iconst 2, 445, 2, 0, 0, 0, []), (445, .iadd, 446, 0, 0, 0, 0, [])]),
 (467, [(446, .iaload, 447, 0, 0, 0, 0, []), (447, .invokevirtual 41, 450, 0, 1007, 3, 1, [(0, 644), (0, 645), (0, 646), (0, 75), (0, 647)]), (450, .aload_n 2, 451, 0, 2, 0, 0, []), (451, .aload_n 0, 452, 0, 0, 0, 0, []), (452, .iload_n 3, 453, 0, 3, 0, 0, []), (453, .iconst 1, 454, 1, 0, 0, 0, []), (454, .iadd, 455, 0, 0, 0, 0, []), (455, .iaload, 456, 0, 0, 0, 0, []), (456, .aload_n 0, 457, 0, 0, 0, 0, []), (457, .iload_n 3, 458, 0, 3, 0, 0, []), (458, .iconst 2, 459, 2, 0, 0, 0, []), (459, .iadd, 460, 0, 0, 0, 0, []), (460, .iaload, 461, 0, 0, 0, 0, []), (461, .invokevirtual 44, 464, 0, 1114, 3, 1, [(0, 1357), (0, 1358), (0, 1359), (0, 81), (0, 1360)]), (464, .if_icmp .eq 720, 467, 0, 1184, 0, 0, []), (467, .iconst 0, 468, 0, 0, 0, 0, [])]),
 (487, [(468, .ireturn, 469, 0, 0, 0, 1, []), (469, .aload_n 1, 470, 0, 1, 0, 0, []), (470, .aload_n 0, 471, 0, 0, 0, 0, []), (471, .iload_n 3, 472, 0, 3, 0, 0, []), (472, .iconst 1, 473, 1, 0, 0, 0, []), (473, .iadd, 474, 0, 0, 0, 0, []), (474, .iaload, 475, 0, 0, 0, 0, []), (475, .invokevirtual 45, 478, 0, 1008, 2, 1, [(0, 656), (0, 657), (0, 658), (0, 75), (0, 659)]), (478, .aload_n 2, 479, 0, 2, 0, 0, []), (479, .aload_n 0, 480, 0, 0, 0, 0, []), (480, .iload_n 3, 481, 0, 3, 0, 0, []), (481, .iconst 1, 482, 1, 0, 0, 0, []), (482, .iadd, 483, 0, 0, 0, 0, []), (483, .iaload, 484, 0, 0, 0, 0, []), (484, .invokevirtual 49, 487, 0, 1133, 2, 1, [(0, 1393), (0, 1394), (0, 1395), (0, 81), (0, 1396)]), (487, .if_icmp .eq 697, 490, 0, 1184, 0, 0, [])]),
 (507, [(490, .iconst 0, 491, 0, 0, 0, 0, []), (491, .ireturn, 492, 0, 0, 0, 1, []), (492, .aload_n 1, 493, 0, 1, 0, 0, []), (493, .aload_n 0, 494, 0, 0, 0, 0, []), (494, .iload_n 3, 495, 0, 3, 0, 0, []), (495, .iconst 1, 496, 1, 0, 0, 0, []), (496, .iadd, 497, 0, 0, 0, 0, []), (497, .iaload, 498, 0, 0, 0, 0, []), (498, .aload_n 0, 499, 0, 0, 0, 0, []), (499, .iload_n 3, 500, 0, 3, 0, 0, []), (500, .iconst 2, 501, 2, 0, 0, 0, []), (501, .iadd, 502, 0, 0, 0, 0, []), (502, .iaload, 503, 0, 0, 0, 0, []), (503, .invokevirtual 50, 506, 0, 1009, 3, 1, [(0, 780), (0, 781), (0, 782), (0, 75), (0, 783)]), (506, .aload_n 2, 507, 0, 2, 0, 0, []), (507, .aload_n 0, 508, 0, 0, 0, 0, [])]),
 (527, [(508, .iload_n 3, 509, 0, 3, 0, 0, []), (509, .iconst 1, 510, 1, 0, 0, 0, []), (510, .iadd, 511, 0, 0, 0, 0, []), (511, .iaload, 512, 0, 0, 0, 0, []), (512, .aload_n 0, 513, 0, 0, 0, 0, []), (513, .iload_n 3, 514, 0, 3, 0, 0, []), (514, .iconst 2, 515, 2, 0, 0, 0, []), (515, .iadd, 516, 0, 0, 0, 0, []), (516, .iaload, 517, 0, 0, 0, 0, []), (517, .invokevirtual 53, 520, 0, 1134, 3, 1, [(0, 1466), (0, 1467), (0, 1468), (0, 81), (0, 1469)]), (520, .if_icmp .eq 664, 523, 0, 1184, 0, 0, []), (523, .iconst 0, 524, 0, 0, 0, 0, []), (524, .ireturn, 525, 0, 0, 0, 1, []), (525, .aload_n 1, 526, 0, 1, 0, 0, []), (526, .aload_n 0, 527, 0, 0, 0, 0, []), (527, .iload_n 3, 528, 0, 3, 0, 0, [])]),
 (545, [(528, .iconst 1, 529, 1, 0, 0, 0, []), (529, .iadd, 530, 0, 0, 0, 0, []), (530, .iaload, 531, 0, 0, 0, 0, []), (531, .aload_n 0, 532, 0, 0, 0, 0, []), (532, .iload_n 3, 533, 0, 3, 0, 0, []), (533, .iconst 2, 534, 2, 0, 0, 0, []), (534, .iadd, 535, 0, 0, 0, 0, []), (535, .iaload, 536, 0, 0, 0, 0, []), (536, .aload_n 0, 537, 0, 0, 0, 0, []), (537, .iload_n 3, 538, 0, 3, 0, 0, []), (538, .iconst 3, 539, 3, 0, 0, 0, []), (539, .iadd, 540, 0, 0, 0, 0, []), (540, .iaload, 541, 0, 0, 0, 0, []), (541, .invokevirtual 54, 544, 0, 1010, 4, 1, [(0, 785), (0, 786), (0, 787), (0, 75), (0, 788)]), (544, .aload_n 2, 545, 0, 2, 0, 0, []), (545, .aload_n 0, 546, 0, 0, 0, 0, [])]),
 (563, [(546, .iload_n 3, 547, 0, 3, 0, 0, []), (547, .iconst 1, 548, 1, 0, 0, 0, []), (548, .iadd, 549, 0, 0, 0, 0, []), (549, .iaload, 550, 0, 0, 0, 0, []), (550, .aload_n 0, 551, 0, 0, 0, 0, []), (551, .iload_n 3, 552, 0, 3, 0, 0, []), (552, .iconst 2, 553, 2, 0, 0, 0, []), (553, .iadd, 554, 0, 0, 0, 0, []), (554, .iaload, 555, 0, 0, 0, 0, []), (555, .aload_n 0, 556, 0, 0, 0, 0, []), (556, .iload_n 3, 557, 0, 3, 0, 0, []), (557, .iconst 3, 558, 3, 0, 0, 0, []), (558, .iadd, 559, 0, 0, 0, 0, []), (559, .iaload, 560, 0, 0, 0, 0, []), (560, .invokevirtual 57, 563, 0, 1136, 4, 1, [(0, 1470), (0, 1471), (0, 1472), (0, 81), (0, 1473)]), (563, .if_icmp .eq 621, 566, 0, 1184, 0, 0, [])]),
 (581, [(566, .iconst 0, 567, 0, 0, 0, 0, []), (567, .ireturn, 568, 0, 0, 0, 1, []), (568, .aload_n 1, 569, 0, 1, 0, 0, []), (569, .aload_n 0, 570, 0, 0, 0, 0, []), (570, .iload_n 3, 571, 0, 3, 0, 0, []), (571, .iconst 1, 572, 1, 0, 0, 0, []), (572, .iadd, 573, 0, 0, 0, 0, []), (573, .iaload, 574, 0, 0, 0, 0, []), (574, .aload_n 0, 575, 0, 0, 0, 0, []), (575, .iload_n 3, 576, 0, 3, 0, 0, []), (576, .iconst 2, 577, 2, 0, 0, 0, []), (577, .iadd, 578, 0, 0, 0, 0, []), (578, .iaload, 579, 0, 0, 0, 0, []), (579, .aload_n 0, 580, 0, 0, 0, 0, []), (580, .iload_n 3, 581, 0, 3, 0, 0, []), (581, .iconst 3, 582, 3, 0, 0, 0, [])]),
 (603, [(582, .iadd, 583, 0, 0, 0, 0, []), (583, .iaload, 584, 0, 0, 0, 0, []), (584, .ifCond .eq 7, 587, 0, 591, 0, 0, []), (587, .iconst 1, 588, 1, 0, 0, 0, []), (588, .goto 4, 591, 0, 592, 0, 0, []), (591, .iconst 0, 592, 0, 0, 0, 0, []), (592, .invokevirtual 58, 595, 0, 1011, 4, 1, [(0, 794), (0, 795), (0, 796), (0, 75), (0, 797)]), (595, .aload_n 2, 596, 0, 2, 0, 0, []), (596, .aload_n 0, 597, 0, 0, 0, 0, []), (597, .iload_n 3, 598, 0, 3, 0, 0, []), (598, .iconst 1, 599, 1, 0, 0, 0, []), (599, .iadd, 600, 0, 0, 0, 0, []), (600, .iaload, 601, 0, 0, 0, 0, []), (601, .aload_n 0, 602, 0, 0, 0, 0, []), (602, .iload_n 3, 603, 0, 3, 0, 0, []), (603, .iconst 2, 604, 2, 0, 0, 0, [])]),
 (627, [(604, .iadd, 605, 0, 0, 0, 0, []), (605, .iaload, 606, 0, 0, 0, 0, []), (606, .aload_n 0, 607, 0, 0, 0, 0, []), (607, .iload_n 3, 608, 0, 3, 0, 0, []), (608, .iconst 3, 609, 3, 0, 0, 0, []), (609, .iadd, 610, 0, 0, 0, 0, []), (610, .iaload, 611, 0, 0, 0, 0, []), (611, .ifCond .eq 7, 614, 0, 618, 0, 0, []), (614, .iconst 1, 615, 1, 0, 0, 0, []), (615, .goto 4, 618, 0, 619, 0, 0, []), (618, .iconst 0, 619, 0, 0, 0, 0, []), (619, .invokevirtual 62, 622, 0, 1123, 4, 1, [(0, 1361), (0, 1362), (0, 1363), (0, 81), (0, 1364)]), (622, .if_icmp .eq 562, 625, 0, 1184, 0, 0, []), (625, .iconst 0, 626, 0, 0, 0, 0, []), (626, .ireturn, 627, 0, 0, 0, 1, []), (627, .aload_n 1, 628, 0, 1, 0, 0, [])]),
 (643, [(628, .aload_n 0, 629, 0, 0, 0, 0, []), (629, .iload_n 3, 630, 0, 3, 0, 0, []), (630, .iconst 1, 631, 1, 0, 0, 0, []), (631, .iadd, 632, 0, 0, 0, 0, []), (632, .iaload, 633, 0, 0, 0, 0, []), (633, .aload_n 0, 634, 0, 0, 0, 0, []), (634, .iload_n 3, 635, 0, 3, 0, 0, []), (635, .iconst 2, 636, 2, 0, 0, 0, []), (636, .iadd, 637, 0, 0, 0, 0, []), (637, .iaload, 638, 0, 0, 0, 0, []), (638, .aload_n 0, 639, 0, 0, 0, 0, []), (639, .iload_n 3, 640, 0, 3, 0, 0, []), (640, .iconst 3, 641, 3, 0, 0, 0, []), (641, .iadd, 642, 0, 0, 0, 0, []), (642, .iaload, 643, 0, 0, 0, 0, []), (643, .ifCond .eq 7, 646, 0, 650, 0, 0, [])]),
 (665, [(646, .iconst 1, 647, 1, 0, 0, 0, []), (647, .goto 4, 650, 0, 651, 0, 0, []), (650, .iconst 0, 651, 0, 0, 0, 0, []), (651, .invokevirtual 63, 654, 0, 1012, 4, 1, [(0, 799), (0, 800), (0, 801), (0, 75), (0, 802)]), (654, .aload_n 2, 655, 0, 2, 0, 0, []), (655, .aload_n 0, 656, 0, 0, 0, 0, []), (656, .iload_n 3, 657, 0, 3, 0, 0, []), (657, .iconst 1, 658, 1, 0, 0, 0, []), (658, .iadd, 659, 0, 0, 0, 0, []), (659, .iaload, 660, 0, 0, 0, 0, []), (660, .aload_n 0, 661, 0, 0, 0, 0, []), (661, .iload_n 3, 662, 0, 3, 0, 0, []), (662, .iconst 2, 663, 2, 0, 0, 0, []), (663, .iadd, 664, 0, 0, 0, 0, []), (664, .iaload, 665, 0, 0, 0, 0, []), (665, .aload_n 0, 666, 0, 0, 0, 0, [])]),
 (689, [(666, .iload_n 3, 667, 0, 3, 0, 0, []), (667, .iconst 3, 668, 3, 0, 0, 0, []), (668, .iadd, 669, 0, 0, 0, 0, []), (669, .iaload, 670, 0, 0, 0, 0, []), (670, .ifCond .eq 7, 673, 0, 677, 0, 0, []), (673, .iconst 1, 674, 1, 0, 0, 0, []), (674, .goto 4, 677, 0, 678, 0, 0, []), (677, .iconst 0, 678, 0, 0, 0, 0, []), (678, .invokevirtual 66, 681, 0, 1124, 4, 1, [(0, 1389), (0, 1390), (0, 1391), (0, 81), (0, 1392)]), (681, .if_icmp .eq 503, 684, 0, 1184, 0, 0, []), (684, .iconst 0, 685, 0, 0, 0, 0, []), (685, .ireturn, 686, 0, 0, 0, 1, []), (686, .aload_n 1, 687, 0, 1, 0, 0, []), (687, .aload_n 0, 688, 0, 0, 0, 0, []), (688, .iload_n 3, 689, 0, 3, 0, 0, []), (689, .iconst 1, 690, 1, 0, 0, 0, [])]),
 (706, [(690, .iadd, 691, 0, 0, 0, 0, []), (691, .iaload, 692, 0, 0, 0, 0, []), (692, .aload_n 0, 693, 0, 0, 0, 0, []), (693, .iload_n 3, 694, 0, 3, 0, 0, []), (694, .iconst 2, 695, 2, 0, 0, 0, []), (695, .iadd, 696, 0, 0, 0, 0, []), (696, .iaload, 697, 0, 0, 0, 0, []), (697, .i2l, 698, 0, 0, 0, 0, []), (698, .bipush 32, 700, 32, 0, 0, 0, []), (700, .lshl, 701, 0, 0, 0, 0, []), (701, .aload_n 0, 702, 0, 0, 0, 0, []), (702, .iload_n 3, 703, 0, 3, 0, 0, []), (703, .iconst 3, 704, 3, 0, 0, 0, []), (704, .iadd, 705, 0, 0, 0, 0, []), (705, .iaload, 706, 0, 0, 0, 0, []), (706, .i2l, 707, 0, 0, 0, 0, [])]),
 (726, [(707, .ldc2_w 67, 710, 0, 4294967295, 0, 0, [(0, 1587)]), (710, .land, 711, 0, 0, 0, 0, []), (711, .lor, 712, 0, 0, 0, 0, []), (712, .invokevirtual 69, 715, 0, 1013, 3, 1, [(0, 803), (0, 804), (0, 805), (0, 75), (0, 806)]), (715, .aload_n 2, 716, 0, 2, 0, 0, []), (716, .aload_n 0, 717, 0, 0, 0, 0, []), (717, .iload_n 3, 718, 0, 3, 0, 0, []), (718, .iconst 1, 719, 1, 0, 0, 0, []), (719, .iadd, 720, 0, 0, 0, 0, []), (720, .iaload, 721, 0, 0, 0, 0, []), (721, .aload_n 0, 722, 0, 0, 0, 0, []), (722, .iload_n 3, 723, 0, 3, 0, 0, []), (723, .iconst 2, 724, 2, 0, 0, 0, []), (724, .iadd, 725, 0, 0, 0, 0, []), (725, .iaload, 726, 0, 0, 0, 0, []), (726, .i2l, 727, 0, 0, 0, 0, [])]),
 (749, [(727, .bipush 32, 729, 32, 0, 0, 0, []), (729, .lshl, 730, 0, 0, 0, 0, []), (730, .aload_n 0, 731, 0, 0, 0, 0, []), (731, .iload_n 3, 732, 0, 3, 0, 0, []), (732, .iconst 3, 733, 3, 0, 0, 0, []), (733, .iadd, 734, 0, 0, 0, 0, []), (734, .iaload, 735, 0, 0, 0, 0, []), (735, .i2l, 736, 0, 0, 0, 0, []), (736, .ldc2_w 67, 739, 0, 4294967295, 0, 0, [(0, 1587)]), (739, .land, 740, 0, 0, 0, 0, []), (740, .lor, 741, 0, 0, 0, 0, []), (741, .invokevirtual 73, 744, 0, 1138, 3, 1, [(0, 1482), (0, 1483), (0, 1484), (0, 81), (0, 1485)]), (744, .if_icmp .eq 440, 747, 0, 1184, 0, 0, []), (747, .iconst 0, 748, 0, 0, 0, 0, []), (748, .ireturn, 749, 0, 0, 0, 1, []), (749, .aload_n 1, 750, 0, 1, 0, 0, [])]),
 (771, [(750, .aload_n 0, 751, 0, 0, 0, 0, []), (751, .iload_n 3, 752, 0, 3, 0, 0, []), (752, .iconst 1, 753, 1, 0, 0, 0, []), (753, .iadd, 754, 0, 0, 0, 0, []), (754, .iaload, 755, 0, 0, 0, 0, []), (755, .invokevirtual 74, 758, 0, 1014, 2, 1, [(0, 811), (0, 812), (0, 813), (0, 75), (0, 814)]), (758, .aload_n 2, 759, 0, 2, 0, 0, []), (759, .aload_n 0, 760, 0, 0, 0, 0, []), (760, .iload_n 3, 761, 0, 3, 0, 0, []), (761, .iconst 1, 762, 1, 0, 0, 0, []), (762, .iadd, 763, 0, 0, 0, 0, []), (763, .iaload, 764, 0, 0, 0, 0, []), (764, .invokevirtual 77, 767, 0, 1145, 2, 1, [(0, 1486), (0, 1487), (0, 1488), (0, 81), (0, 1489)]), (767, .if_icmp .eq 417, 770, 0, 1184, 0, 0, []), (770, .iconst 0, 771, 0, 0, 0, 0, []), (771, .ireturn, 772, 0, 0, 0, 1, [])]),
 (791, [(772, .aload_n 1, 773, 0, 1, 0, 0, []), (773, .aload_n 0, 774, 0, 0, 0, 0, []), (774, .iload_n 3, 775, 0, 3, 0, 0, []), (775, .iconst 1, 776, 1, 0, 0, 0, []), (776, .iadd, 777, 0, 0, 0, 0, []), (777, .iaload, 778, 0, 0, 0, 0, []), (778, .aload_n 0, 779, 0, 0, 0, 0, []), (779, .iload_n 3, 780, 0, 3, 0, 0, []), (780, .iconst 2, 781, 2, 0, 0, 0, []), (781, .iadd, 782, 0, 0, 0, 0, []), (782, .iaload, 783, 0, 0, 0, 0, []), (783, .ifCond .eq 7, 786, 0, 790, 0, 0, []), (786, .iconst 1, 787, 1, 0, 0, 0, []), (787, .goto 4, 790, 0, 791, 0, 0, []), (790, .iconst 0, 791, 0, 0, 0, 0, []), (791, .invokevirtual 78, 794, 0, 1015, 3, 1, [(0, 908), (0, 909), (0, 910), (0, 75), (0, 911)])]),
 (813, [(794, .aload_n 2, 795, 0, 2, 0, 0, []), (795, .aload_n 0, 796, 0, 0, 0, 0, []), (796, .iload_n 3, 797, 0, 3, 0, 0, []), (797, .iconst 1, 798, 1, 0, 0, 0, []), (798, .iadd, 799, 0, 0, 0, 0, []), (799, .iaload, 800, 0, 0, 0, 0, []), (800, .aload_n 0, 801, 0, 0, 0, 0, []), (801, .iload_n 3, 802, 0, 3, 0, 0, []), (802, .iconst 2, 803, 2, 0, 0, 0, []), (803, .iadd, 804, 0, 0, 0, 0, []), (804, .iaload, 805, 0, 0, 0, 0, []), (805, .ifCond .eq 7, 808, 0, 812, 0, 0, []), (808, .iconst 1, 809, 1, 0, 0, 0, []), (809, .goto 4, 812, 0, 813, 0, 0, []), (812, .iconst 0, 813, 0, 0, 0, 0, []), (813, .invokevirtual 81, 816, 0, 1146, 3, 1, [(0, 1510), (0, 1511), (0, 1512), (0, 81), (0, 1513)])]),
 (835, [(816, .if_icmp .eq 368, 819, 0, 1184, 0, 0, []), (819, .iconst 0, 820, 0, 0, 0, 0, []), (820, .ireturn, 821, 0, 0, 0, 1, []), (821, .aload_n 1, 822, 0, 1, 0, 0, []), (822, .aload_n 0, 823, 0, 0, 0, 0, []), (823, .iload_n 3, 824, 0, 3, 0, 0, []), (824, .iconst 1, 825, 1, 0, 0, 0, []), (825, .iadd, 826, 0, 0, 0, 0, []), (826, .iaload, 827, 0, 0, 0, 0, []), (827, .invokevirtual 82, 830, 0, 1016, 2, 1, [(0, 916), (0, 917), (0, 918), (0, 75), (0, 919)]), (830, .aload_n 2, 831, 0, 2, 0, 0, []), (831, .aload_n 0, 832, 0, 0, 0, 0, []), (832, .iload_n 3, 833, 0, 3, 0, 0, []), (833, .iconst 1, 834, 1, 0, 0, 0, []), (834, .iadd, 835, 0, 0, 0, 0, []), (835, .iaload, 836, 0, 0, 0, 0, [])]),
 (855, [(836, .invokevirtual 85, 839, 0, 1152, 2, 1, [(0, 1518), (0, 1519), (0, 1520), (0, 81), (0, 1521)]), (839, .if_icmp .eq 345, 842, 0, 1184, 0, 0, []), (842, .iconst 0, 843, 0, 0, 0, 0, []), (843, .ireturn, 844, 0, 0, 0, 1, []), (844, .aload_n 1, 845, 0, 1, 0, 0, []), (845, .aload_n 0, 846, 0, 0, 0, 0, []), (846, .iload_n 3, 847, 0, 3, 0, 0, []), (847, .iconst 1, 848, 1, 0, 0, 0, []), (848, .iadd, 849, 0, 0, 0, 0, []), (849, .iaload, 850, 0, 0, 0, 0, []), (850, .aload_n 0, 851, 0, 0, 0, 0, []), (851, .iload_n 3, 852, 0, 3, 0, 0, []), (852, .iconst 2, 853, 2, 0, 0, 0, []), (853, .iadd, 854, 0, 0, 0, 0, []), (854, .iaload, 855, 0, 0, 0, 0, []), (855, .invokevirtual 86, 858, 0, 1017, 3, 1, [(0, 921), (0, 922), (0, 923), (0, 75), (0, 924)])]),
 (877, [(858, .aload_n 2, 859, 0, 2, 0, 0, []), (859, .aload_n 0, 860, 0, 0, 0, 0, []), (860, .iload_n 3, 861, 0, 3, 0, 0, []), (861, .iconst 1, 862, 1, 0, 0, 0, []), (862, .iadd, 863, 0, 0, 0, 0, []), (863, .iaload, 864, 0, 0, 0, 0, []), (864, .aload_n 0, 865, 0, 0, 0, 0, []), (865, .iload_n 3, 866, 0, 3, 0, 0, []), (866, .iconst 2, 867, 2, 0, 0, 0, []), (867, .iadd, 868, 0, 0, 0, 0, []), (868, .iaload, 869, 0, 0, 0, 0, []), (869, .invokevirtual 89, 872, 0, 1155, 3, 1, [(0, 1522), (0, 1523), (0, 1524), (0, 81), (0, 1525)]), (872, .if_icmp .eq 312, 875, 0, 1184, 0, 0, []), (875, .iconst 0, 876, 0, 0, 0, 0, []), (876, .ireturn, 877, 0, 0, 0, 1, []), (877, .aload_n 1, 878, 0, 1, 0, 0, [])]),
 (893, [(878, .aload_n 0, 879, 0, 0, 0, 0, []), (879, .iload_n 3, 880, 0, 3, 0, 0, []), (880, .iconst 1, 881, 1, 0, 0, 0, []), (881, .iadd, 882, 0, 0, 0, 0, []), (882, .iaload, 883, 0, 0, 0, 0, []), (883, .aload_n 0, 884, 0, 0, 0, 0, []), (884, .iload_n 3, 885, 0, 3, 0, 0, []), (885, .iconst 2, 886, 2, 0, 0, 0, []), (886, .iadd, 887, 0, 0, 0, 0, []), (887, .iaload, 888, 0, 0, 0, 0, []), (888, .aload_n 0, 889, 0, 0, 0, 0, []), (889, .iload_n 3, 890, 0, 3, 0, 0, []), (890, .iconst 3, 891, 3, 0, 0, 0, []), (891, .iadd, 892, 0, 0, 0, 0, []), (892, .iaload, 893, 0, 0, 0, 0, []), (893, .invokevirtual 90, 896, 0, 1018, 4, 1, [(0, 925), (0, 926), (0, 927), (0, 75), (0, 928)])]),
 (911, [(896, .aload_n 2, 897, 0, 2, 0, 0, []), (897, .aload_n 0, 898, 0, 0, 0, 0, []), (898, .iload_n 3, 899, 0, 3, 0, 0, []), (899, .iconst 1, 900, 1, 0, 0, 0, []), (900, .iadd, 901, 0, 0, 0, 0, []), (901, .iaload, 902, 0, 0, 0, 0, []), (902, .aload_n 0, 903, 0, 0, 0, 0, []), (903, .iload_n 3, 904, 0, 3, 0, 0, []), (904, .iconst 2, 905, 2, 0, 0, 0, []), (905, .iadd, 906, 0, 0, 0, 0, []), (906, .iaload, 907, 0, 0, 0, 0, []), (907, .aload_n 0, 908, 0, 0, 0, 0, []), (908, .iload_n 3, 909, 0, 3, 0, 0, []), (909, .iconst 3, 910, 3, 0, 0, 0, []), (910, .iadd, 911, 0, 0, 0, 0, []), (911, .iaload, 912, 0, 0, 0, 0, [])]),
 (931, [(912, .invokevirtual 93, 915, 0, 1156, 4, 1, [(0, 1526), (0, 1527), (0, 1528), (0, 81), (0, 1529)]), (915, .if_icmp .eq 269, 918, 0, 1184, 0, 0, []), (918, .iconst 0, 919, 0, 0, 0, 0, []), (919, .ireturn, 920, 0, 0, 0, 1, []), (920, .aload_n 1, 921, 0, 1, 0, 0, []), (921, .aload_n 0, 922, 0, 0, 0, 0, []), (922, .iload_n 3, 923, 0, 3, 0, 0, []), (923, .iconst 1, 924, 1, 0, 0, 0, []), (924, .iadd, 925, 0, 0, 0, 0, []), (925, .iaload, 926, 0, 0, 0, 0, []), (926, .aload_n 0, 927, 0, 0, 0, 0, []), (927, .iload_n 3, 928, 0, 3, 0, 0, []), (928, .iconst 2, 929, 2, 0, 0, 0, []), (929, .iadd, 930, 0, 0, 0, 0, []), (930, .iaload, 931, 0, 0, 0, 0, []), (931, .aload_n 0, 932, 0, 0, 0, 0, [])]),
 (949, [(932, .iload_n 3, 933, 0, 3, 0, 0, []), (933, .iconst 3, 934, 3, 0, 0, 0, []), (934, .iadd, 935, 0, 0, 0, 0, []), (935, .iaload, 936, 0, 0, 0, 0, []), (936, .invokevirtual 94, 939, 0, 1019, 4, 1, [(0, 934), (0, 935), (0, 936), (0, 75), (0, 937)]), (939, .aload_n 2, 940, 0, 2, 0, 0, []), (940, .aload_n 0, 941, 0, 0, 0, 0, []), (941, .iload_n 3, 942, 0, 3, 0, 0, []), (942, .iconst 1, 943, 1, 0, 0, 0, []), (943, .iadd, 944, 0, 0, 0, 0, []), (944, .iaload, 945, 0, 0, 0, 0, []), (945, .aload_n 0, 946, 0, 0, 0, 0, []), (946, .iload_n 3, 947, 0, 3, 0, 0, []), (947, .iconst 2, 948, 2, 0, 0, 0, []), (948, .iadd, 949, 0, 0, 0, 0, []), (949, .iaload, 950, 0, 0, 0, 0, [])]),
 (969, [(950, .aload_n 0, 951, 0, 0, 0, 0, []), (951, .iload_n 3, 952, 0, 3, 0, 0, []), (952, .iconst 3, 953, 3, 0, 0, 0, []), (953, .iadd, 954, 0, 0, 0, 0, []), (954, .iaload, 955, 0, 0, 0, 0, []), (955, .invokevirtual 97, 958, 0, 1158, 4, 1, [(0, 1531), (0, 1532), (0, 1533), (0, 81), (0, 1534)]), (958, .if_icmp .eq 226, 961, 0, 1184, 0, 0, []), (961, .iconst 0, 962, 0, 0, 0, 0, []), (962, .ireturn, 963, 0, 0, 0, 1, []), (963, .aload_n 1, 964, 0, 1, 0, 0, []), (964, .aload_n 0, 965, 0, 0, 0, 0, []), (965, .iload_n 3, 966, 0, 3, 0, 0, []), (966, .iconst 1, 967, 1, 0, 0, 0, []), (967, .iadd, 968, 0, 0, 0, 0, []), (968, .iaload, 969, 0, 0, 0, 0, []), (969, .aload_n 0, 970, 0, 0, 0, 0, [])]),
 (987, [(970, .iload_n 3, 971, 0, 3, 0, 0, []), (971, .iconst 2, 972, 2, 0, 0, 0, []), (972, .iadd, 973, 0, 0, 0, 0, []), (973, .iaload, 974, 0, 0, 0, 0, []), (974, .invokevirtual 98, 977, 0, 1020, 3, 1, [(0, 942), (0, 943), (0, 944), (0, 75), (0, 945)]), (977, .aload_n 2, 978, 0, 2, 0, 0, []), (978, .aload_n 0, 979, 0, 0, 0, 0, []), (979, .iload_n 3, 980, 0, 3, 0, 0, []), (980, .iconst 1, 981, 1, 0, 0, 0, []), (981, .iadd, 982, 0, 0, 0, 0, []), (982, .iaload, 983, 0, 0, 0, 0, []), (983, .aload_n 0, 984, 0, 0, 0, 0, []), (984, .iload_n 3, 985, 0, 3, 0, 0, []), (985, .iconst 2, 986, 2, 0, 0, 0, []), (986, .iadd, 987, 0, 0, 0, 0, []), (987, .iaload, 988, 0, 0, 0, 0, [])]),
 (1007, [(988, .invokevirtual 101, 991, 0, 1159, 3, 1, [(0, 1539), (0, 1540), (0, 1541), (0, 81), (0, 1542)]), (991, .if_icmp .eq 193, 994, 0, 1184, 0, 0, []), (994, .iconst 0, 995, 0, 0, 0, 0, []), (995, .ireturn, 996, 0, 0, 0, 1, []), (996, .aload_n 1, 997, 0, 1, 0, 0, []), (997, .aload_n 0, 998, 0, 0, 0, 0, []), (998, .iload_n 3, 999, 0, 3, 0, 0, []), (999, .iconst 1, 1000, 1, 0, 0, 0, []), (1000, .iadd, 1001, 0, 0, 0, 0, []), (1001, .iaload, 1002, 0, 0, 0, 0, []), (1002, .aload_n 0, 1003, 0, 0, 0, 0, []), (1003, .iload_n 3, 1004, 0, 3, 0, 0, []), (1004, .iconst 2, 1005, 2, 0, 0, 0, []), (1005, .iadd, 1006, 0, 0, 0, 0, []), (1006, .iaload, 1007, 0, 0, 0, 0, []), (1007, .invokevirtual 102, 1010, 0, 1021, 3, 1, [(0, 958), (0, 959), (0, 960), (0, 75), (0, 961)])]),
 (1029, [(1010, .aload_n 2, 1011, 0, 2, 0, 0, []), (1011, .aload_n 0, 1012, 0, 0, 0, 0, []), (1012, .iload_n 3, 1013, 0, 3, 0, 0, []), (1013, .iconst 1, 1014, 1, 0, 0, 0, []), (1014, .iadd, 1015, 0, 0, 0, 0, []), (1015, .iaload, 1016, 0, 0, 0, 0, []), (1016, .aload_n 0, 1017, 0, 0, 0, 0, []), (1017, .iload_n 3, 1018, 0, 3, 0, 0, []), (1018, .iconst 2, 1019, 2, 0, 0, 0, []), (1019, .iadd, 1020, 0, 0, 0, 0, []), (1020, .iaload, 1021, 0, 0, 0, 0, []), (1021, .invokevirtual 105, 1024, 0, 1163, 3, 1, [(0, 1543), (0, 1544), (0, 1545), (0, 81), (0, 1546)]), (1024, .if_icmp .eq 160, 1027, 0, 1184, 0, 0, []), (1027, .iconst 0, 1028, 0, 0, 0, 0, []), (1028, .ireturn, 1029, 0, 0, 0, 1, []), (1029, .aload_n 1, 1030, 0, 1, 0, 0, [])]),
 (1051, [(1030, .aload_n 0, 1031, 0, 0, 0, 0, []), (1031, .iload_n 3, 1032, 0, 3, 0, 0, []), (1032, .iconst 1, 1033, 1, 0, 0, 0, []), (1033, .iadd, 1034, 0, 0, 0, 0, []), (1034, .iaload, 1035, 0, 0, 0, 0, []), (1035, .invokevirtual 106, 1038, 0, 1022, 2, 1, [(0, 1029), (0, 1030), (0, 1031), (0, 75), (0, 1032)]), (1038, .aload_n 2, 1039, 0, 2, 0, 0, []), (1039, .aload_n 0, 1040, 0, 0, 0, 0, []), (1040, .iload_n 3, 1041, 0, 3, 0, 0, []), (1041, .iconst 1, 1042, 1, 0, 0, 0, []), (1042, .iadd, 1043, 0, 0, 0, 0, []), (1043, .iaload, 1044, 0, 0, 0, 0, []), (1044, .invokevirtual 109, 1047, 0, 1164, 2, 1, [(0, 1559), (0, 1560), (0, 1561), (0, 81), (0, 1562)]), (1047, .if_icmp .eq 137, 1050, 0, 1184, 0, 0, []), (1050, .iconst 0, 1051, 0, 0, 0, 0, []), (1051, .ireturn, 1052, 0, 0, 0, 1, [])]),
 (1067, [(1052, .aload_n 1, 1053, 0, 1, 0, 0, []), (1053, .aload_n 0, 1054, 0, 0, 0, 0, []), (1054, .iload_n 3, 1055, 0, 3, 0, 0, []), (1055, .iconst 1, 1056, 1, 0, 0, 0, []), (1056, .iadd, 1057, 0, 0, 0, 0, []), (1057, .iaload, 1058, 0, 0, 0, 0, []), (1058, .aload_n 0, 1059, 0, 0, 0, 0, []), (1059, .iload_n 3, 1060, 0, 3, 0, 0, []), (1060, .iconst 2, 1061, 2, 0, 0, 0, []), (1061, .iadd, 1062, 0, 0, 0, 0, []), (1062, .iaload, 1063, 0, 0, 0, 0, []), (1063, .aload_n 0, 1064, 0, 0, 0, 0, []), (1064, .iload_n 3, 1065, 0, 3, 0, 0, []), (1065, .iconst 3, 1066, 3, 0, 0, 0, []), (1066, .iadd, 1067, 0, 0, 0, 0, []), (1067, .iaload, 1068, 0, 0, 0, 0, [])]),
 (1085, [(1068, .invokevirtual 110, 1071, 0, 1023, 4, 1, [(0, 1033), (0, 1034), (0, 1035), (0, 75), (0, 1036)]), (1071, .aload_n 2, 1072, 0, 2, 0, 0, []), (1072, .aload_n 0, 1073, 0, 0, 0, 0, []), (1073, .iload_n 3, 1074, 0, 3, 0, 0, []), (1074, .iconst 1, 1075, 1, 0, 0, 0, []), (1075, .iadd, 1076, 0, 0, 0, 0, []), (1076, .iaload, 1077, 0, 0, 0, 0, []), (1077, .aload_n 0, 1078, 0, 0, 0, 0, []), (1078, .iload_n 3, 1079, 0, 3, 0, 0, []), (1079, .iconst 2, 1080, 2, 0, 0, 0, []), (1080, .iadd, 1081, 0, 0, 0, 0, []), (1081, .iaload, 1082, 0, 0, 0, 0, []), (1082, .aload_n 0, 1083, 0, 0, 0, 0, []), (1083, .iload_n 3, 1084, 0, 3, 0, 0, []), (1084, .iconst 3, 1085, 3, 0, 0, 0, []), (1085, .iadd, 1086, 0, 0, 0, 0, [])]),
 (1105, [(1086, .iaload, 1087, 0, 0, 0, 0, []), (1087, .invokevirtual 113, 1090, 0, 1165, 4, 1, [(0, 1563), (0, 1564), (0, 1565), (0, 81), (0, 1566)]), (1090, .if_icmp .eq 94, 1093, 0, 1184, 0, 0, []), (1093, .iconst 0, 1094, 0, 0, 0, 0, []), (1094, .ireturn, 1095, 0, 0, 0, 1, []), (1095, .aload_n 1, 1096, 0, 1, 0, 0, []), (1096, .aload_n 0, 1097, 0, 0, 0, 0, []), (1097, .iload_n 3, 1098, 0, 3, 0, 0, []), (1098, .iconst 1, 1099, 1, 0, 0, 0, []), (1099, .iadd, 1100, 0, 0, 0, 0, []), (1100, .iaload, 1101, 0, 0, 0, 0, []), (1101, .aload_n 0, 1102, 0, 0, 0, 0, []), (1102, .iload_n 3, 1103, 0, 3, 0, 0, []), (1103, .iconst 2, 1104, 2, 0, 0, 0, []), (1104, .iadd, 1105, 0, 0, 0, 0, []), (1105, .iaload, 1106, 0, 0, 0, 0, [])]),
 (1123, [(1106, .aload_n 0, 1107, 0, 0, 0, 0, []), (1107, .iload_n 3, 1108, 0, 3, 0, 0, []), (1108, .iconst 3, 1109, 3, 0, 0, 0, []), (1109, .iadd, 1110, 0, 0, 0, 0, []), (1110, .iaload, 1111, 0, 0, 0, 0, []), (1111, .invokevirtual 114, 1114, 0, 1024, 4, 1, [(0, 1037), (0, 1038), (0, 1039), (0, 75), (0, 1040)]), (1114, .aload_n 2, 1115, 0, 2, 0, 0, []), (1115, .aload_n 0, 1116, 0, 0, 0, 0, []), (1116, .iload_n 3, 1117, 0, 3, 0, 0, []), (1117, .iconst 1, 1118, 1, 0, 0, 0, []), (1118, .iadd, 1119, 0, 0, 0, 0, []), (1119, .iaload, 1120, 0, 0, 0, 0, []), (1120, .aload_n 0, 1121, 0, 0, 0, 0, []), (1121, .iload_n 3, 1122, 0, 3, 0, 0, []), (1122, .iconst 2, 1123, 2, 0, 0, 0, []), (1123, .iadd, 1124, 0, 0, 0, 0, [])]),
 (1143, [(1124, .iaload, 1125, 0, 0, 0, 0, []), (1125, .aload_n 0, 1126, 0, 0, 0, 0, []), (1126, .iload_n 3, 1127, 0, 3, 0, 0, []), (1127, .iconst 3, 1128, 3, 0, 0, 0, []), (1128, .iadd, 1129, 0, 0, 0, 0, []), (1129, .iaload, 1130, 0, 0, 0, 0, []), (1130, .invokevirtual 117, 1133, 0, 1168, 4, 1, [(0, 1567), (0, 1568), (0, 1569), (0, 81), (0, 1570)]), (1133, .if_icmp .eq 51, 1136, 0, 1184, 0, 0, []), (1136, .iconst 0, 1137, 0, 0, 0, 0, []), (1137, .ireturn, 1138, 0, 0, 0, 1, []), (1138, .aload_n 1, 1139, 0, 1, 0, 0, []), (1139, .aload_n 0, 1140, 0, 0, 0, 0, []), (1140, .iload_n 3, 1141, 0, 3, 0, 0, []), (1141, .iconst 1, 1142, 1, 0, 0, 0, []), (1142, .iadd, 1143, 0, 0, 0, 0, []), (1143, .iaload, 1144, 0, 0, 0, 0, [])]),
 (1165, [(1144, .invokevirtual 118, 1147, 0, 1025, 2, 1, [(0, 1054), (0, 1055), (0, 1056), (0, 75), (0, 1057)]), (1147, .aload_n 2, 1148, 0, 2, 0, 0, []), (1148, .aload_n 0, 1149, 0, 0, 0, 0, []), (1149, .iload_n 3, 1150, 0, 3, 0, 0, []), (1150, .iconst 1, 1151, 1, 0, 0, 0, []), (1151, .iadd, 1152, 0, 0, 0, 0, []), (1152, .iaload, 1153, 0, 0, 0, 0, []), (1153, .invokevirtual 121, 1156, 0, 1137, 2, 1, [(0, 1478), (0, 1479), (0, 1480), (0, 81), (0, 1481)]), (1156, .if_icmp .eq 28, 1159, 0, 1184, 0, 0, []), (1159, .iconst 0, 1160, 0, 0, 0, 0, []), (1160, .ireturn, 1161, 0, 0, 0, 1, []), (1161, .aload_n 1, 1162, 0, 1, 0, 0, []), (1162, .aload_n 0, 1163, 0, 0, 0, 0, []), (1163, .iload_n 3, 1164, 0, 3, 0, 0, []), (1164, .iconst 1, 1165, 1, 0, 0, 0, []), (1165, .iadd, 1166, 0, 0, 0, 0, [])]),
 (1191, [(1166, .iaload, 1167, 0, 0, 0, 0, []), (1167, .invokevirtual 122, 1170, 0, 1026, 2, 1, [(0, 1058), (0, 1059), (0, 1060), (0, 75), (0, 1061)]), (1170, .aload_n 2, 1171, 0, 2, 0, 0, []), (1171, .aload_n 0, 1172, 0, 0, 0, 0, []), (1172, .iload_n 3, 1173, 0, 3, 0, 0, []), (1173, .iconst 1, 1174, 1, 0, 0, 0, []), (1174, .iadd, 1175, 0, 0, 0, 0, []), (1175, .iaload, 1176, 0, 0, 0, 0, []), (1176, .invokevirtual 125, 1179, 0, 1170, 2, 1, [(0, 1579), (0, 1580), (0, 1581), (0, 81), (0, 1582)]), (1179, .if_icmp .eq 5, 1182, 0, 1184, 0, 0, []), (1182, .iconst 0, 1183, 0, 0, 0, 0, []), (1183, .ireturn, 1184, 0, 0, 0, 1, []), (1184, .iinc 3 5, 1187, 5, 3, 0, 0, []), (1187, .goto (-1169), 1190, 0, 18, 0, 0, []), (1190, .iconst 1, 1191, 1, 0, 0, 0, []), (1191, .ireturn, 1192, 0, 0, 0, 1, [])])]
def am_nop : am_X := (.nop, 0, 0, 0, 0, 0, [])
def am_look1 : List (Nat × am_X) → Nat → am_X
  | [], _ => am_nop
  | (p, x) :: l, pc => bif Nat.beq p pc then x else am_look1 l pc
def am_look : List (Nat × List (Nat × am_X)) → Nat → am_X
  | [], _ => am_nop
  | (hi, l) :: t, pc => bif Nat.ble pc hi then am_look1 l pc else am_look t pc
def am_P (y : Nat) : (Nat → am_X) × Nat := (bif Nat.blt y 1011 then (bif Nat.blt y 803 then (bif Nat.blt y 503 then (bif Nat.blt y 201 then (bif Nat.blt y 5 then (bif Nat.blt y 2 then (bif Nat.blt y 1 then (bif Nat.beq y 0 then (am_look tb_Area_init, 3) else (am_look [], 0)) else (bif Nat.beq y 1 then (am_look tb_Area_copyFrom, 2) else (am_look [], 0))) else (bif Nat.blt y 3 then (bif Nat.beq y 2 then (am_look tb_Area_press, 1) else (am_look [], 0)) else (bif Nat.blt y 4 then (bif Nat.beq y 3 then (am_look tb_Area_seeTight, 4) else (am_look [], 0)) else (bif Nat.beq y 4 then (am_look tb_Area_roomLeft, 2) else (am_look [], 0))))) else (bif Nat.blt y 102 then (bif Nat.blt y 100 then (bif Nat.beq y 5 then (am_look tb_Area_fall, 4) else (am_look [], 0)) else (bif Nat.blt y 101 then (bif Nat.beq y 100 then (am_look tb_Folk_init, 5) else (am_look [], 0)) else (bif Nat.beq y 101 then (am_look tb_Folk_copyFrom, 2) else (am_look [], 0)))) else (bif Nat.blt y 103 then (bif Nat.beq y 102 then (am_look tb_Folk_target, 1) else (am_look [], 0)) else (bif Nat.blt y 200 then (bif Nat.beq y 103 then (am_look tb_Folk_isWhereItShould, 1) else (am_look [], 0)) else (bif Nat.beq y 200 then (am_look tb_Given_init, 1) else (am_look [], 0)))))) else (bif Nat.blt y 304 then (bif Nat.blt y 301 then (bif Nat.blt y 202 then (bif Nat.beq y 201 then (am_look tb_Given_copyFrom, 2) else (am_look [], 0)) else (bif Nat.blt y 300 then (bif Nat.beq y 202 then (am_look tb_Given_passOverHeard, 3) else (am_look [], 0)) else (bif Nat.beq y 300 then (am_look tb_Link_init, 4) else (am_look [], 0)))) else (bif Nat.blt y 302 then (bif Nat.beq y 301 then (am_look tb_Link_copyFrom, 2) else (am_look [], 0)) else (bif Nat.blt y 303 then (bif Nat.beq y 302 then (am_look tb_Link_rowOf, 3) else (am_look [], 0)) else (bif Nat.beq y 303 then (am_look tb_Link_note, 2) else (am_look [], 0))))) else (bif Nat.blt y 500 then (bif Nat.blt y 305 then (bif Nat.beq y 304 then (am_look tb_Link_wentOn, 2) else (am_look [], 0)) else (bif Nat.blt y 400 then (bif Nat.beq y 305 then (am_look tb_Link_headsOf, 4) else (am_look [], 0)) else (bif Nat.beq y 400 then (am_look tb_Order_init, 4) else (am_look [], 0)))) else (bif Nat.blt y 501 then (bif Nat.beq y 500 then (am_look tb_Reader_init, 1) else (am_look [], 0)) else (bif Nat.blt y 502 then (bif Nat.beq y 501 then (am_look tb_Reader_keep, 2) else (am_look [], 0)) else (bif Nat.beq y 502 then (am_look tb_Reader_begin, 1) else (am_look [], 0))))))) else (bif Nat.blt y 515 then (bif Nat.blt y 509 then (bif Nat.blt y 506 then (bif Nat.blt y 504 then (bif Nat.beq y 503 then (am_look tb_Reader_writtenTests, 1) else (am_look [], 0)) else (bif Nat.blt y 505 then (bif Nat.beq y 504 then (am_look tb_Reader_writtenActs, 1) else (am_look [], 0)) else (bif Nat.beq y 505 then (am_look tb_Reader_readOrs, 3) else (am_look [], 0)))) else (bif Nat.blt y 507 then (bif Nat.beq y 506 then (am_look tb_Reader_readActs, 2) else (am_look [], 0)) else (bif Nat.blt y 508 then (bif Nat.beq y 507 then (am_look tb_Reader_readAnds, 3) else (am_look [], 0)) else (bif Nat.beq y 508 then (am_look tb_Reader_readTest, 5) else (am_look [], 0))))) else (bif Nat.blt y 512 then (bif Nat.blt y 510 then (bif Nat.beq y 509 then (am_look tb_Reader_readSum, 3) else (am_look [], 0)) else (bif Nat.blt y 511 then (bif Nat.beq y 510 then (am_look tb_Reader_readUnit, 2) else (am_look [], 0)) else (bif Nat.beq y 511 then (am_look tb_Reader_unitOf, 1) else (am_look [], 0)))) else (bif Nat.blt y 513 then (bif Nat.beq y 512 then (am_look tb_Reader_readAct, 3) else (am_look [], 0)) else (bif Nat.blt y 514 then (bif Nat.beq y 513 then (am_look tb_Reader_readDigits, 6) else (am_look [], 0)) else (bif Nat.beq y 514 then (am_look tb_Reader_step, 1) else (am_look [], 0)))))) else (bif Nat.blt y 603 then (bif Nat.blt y 600 then (bif Nat.blt y 516 then (bif Nat.beq y 515 then (am_look tb_Reader_stepOver, 2) else (am_look [], 0)) else (bif Nat.blt y 517 then (bif Nat.beq y 516 then (am_look tb_Reader_fail, 1) else (am_look [], 0)) else (bif Nat.beq y 517 then (am_look tb_Reader_put, 3) else (am_look [], 0)))) else (bif Nat.blt y 601 then (bif Nat.beq y 600 then (am_look tb_Tellings_init, 1) else (am_look [], 0)) else (bif Nat.blt y 602 then (bif Nat.beq y 601 then (am_look tb_Tellings_add, 5) else (am_look [], 0)) else (bif Nat.beq y 602 then (am_look tb_Tellings_latest, 5) else (am_look [], 0))))) else (bif Nat.blt y 800 then (bif Nat.blt y 700 then (bif Nat.beq y 603 then (am_look tb_Tellings_off, 6) else (am_look [], 0)) else (bif Nat.blt y 701 then (bif Nat.beq y 700 then (am_look tb_Train_init, 5) else (am_look [], 0)) else (bif Nat.beq y 701 then (am_look tb_Train_comesOn, 2) else (am_look [], 0)))) else (bif Nat.blt y 801 then (bif Nat.beq y 800 then (am_look tb_Ways_init, 1) else (am_look [], 0)) else (bif Nat.blt y 802 then (bif Nat.beq y 801 then (am_look tb_Ways_forget, 1) else (am_look [], 0)) else (bif Nat.beq y 802 then (am_look tb_Ways_rowTo, 8) else (am_look [], 0)))))))) else (bif Nat.blt y 923 then (bif Nat.blt y 911 then (bif Nat.blt y 905 then (bif Nat.blt y 902 then (bif Nat.blt y 900 then (bif Nat.beq y 803 then (am_look tb_Ways_shorten, 12) else (am_look [], 0)) else (bif Nat.blt y 901 then (bif Nat.beq y 900 then (am_look tb_World_init, 1) else (am_look [], 0)) else (bif Nat.beq y 901 then (am_look tb_World_isArea, 2) else (am_look [], 0)))) else (bif Nat.blt y 903 then (bif Nat.beq y 902 then (am_look tb_World_isGoal, 2) else (am_look [], 0)) else (bif Nat.blt y 904 then (bif Nat.beq y 903 then (am_look tb_World_isLink, 2) else (am_look [], 0)) else (bif Nat.beq y 904 then (am_look tb_World_isFolk, 2) else (am_look [], 0))))) else (bif Nat.blt y 908 then (bif Nat.blt y 906 then (bif Nat.beq y 905 then (am_look tb_World_isTrain, 2) else (am_look [], 0)) else (bif Nat.blt y 907 then (bif Nat.beq y 906 then (am_look tb_World_isOrder, 2) else (am_look [], 0)) else (bif Nat.beq y 907 then (am_look tb_World_copyFrom, 4) else (am_look [], 0)))) else (bif Nat.blt y 909 then (bif Nat.beq y 908 then (am_look tb_World_copyGround, 4) else (am_look [], 0)) else (bif Nat.blt y 910 then (bif Nat.beq y 909 then (am_look tb_World_change, 4) else (am_look [], 0)) else (bif Nat.beq y 910 then (am_look tb_World_shift, 3) else (am_look [], 0)))))) else (bif Nat.blt y 917 then (bif Nat.blt y 914 then (bif Nat.blt y 912 then (bif Nat.beq y 911 then (am_look tb_World_seeAllTight, 2) else (am_look [], 0)) else (bif Nat.blt y 913 then (bif Nat.beq y 912 then (am_look tb_World_allInside, 3) else (am_look [], 0)) else (bif Nat.beq y 913 then (am_look tb_World_allOnWay, 3) else (am_look [], 0)))) else (bif Nat.blt y 915 then (bif Nat.beq y 914 then (am_look tb_World_allOut, 3) else (am_look [], 0)) else (bif Nat.blt y 916 then (bif Nat.beq y 915 then (am_look tb_World_allFell, 3) else (am_look [], 0)) else (bif Nat.beq y 916 then (am_look tb_World_allTaken, 3) else (am_look [], 0))))) else (bif Nat.blt y 920 then (bif Nat.blt y 918 then (bif Nat.beq y 917 then (am_look tb_World_ordersThatStand, 3) else (am_look [], 0)) else (bif Nat.blt y 919 then (bif Nat.beq y 918 then (am_look tb_World_empty, 5) else (am_look [], 0)) else (bif Nat.beq y 919 then (am_look tb_World_isOver, 2) else (am_look [], 0)))) else (bif Nat.blt y 921 then (bif Nat.beq y 920 then (am_look tb_World_isStuck, 1) else (am_look [], 0)) else (bif Nat.blt y 922 then (bif Nat.beq y 921 then (am_look tb_World_pass, 1) else (am_look [], 0)) else (bif Nat.beq y 922 then (am_look tb_World_hear, 2) else (am_look [], 0))))))) else (bif Nat.blt y 935 then (bif Nat.blt y 929 then (bif Nat.blt y 926 then (bif Nat.blt y 924 then (bif Nat.beq y 923 then (am_look tb_World_perform, 3) else (am_look [], 0)) else (bif Nat.blt y 925 then (bif Nat.beq y 924 then (am_look tb_World_comeIn, 5) else (am_look [], 0)) else (bif Nat.beq y 925 then (am_look tb_World_arrive, 7) else (am_look [], 0)))) else (bif Nat.blt y 927 then (bif Nat.beq y 926 then (am_look tb_World_goOn, 6) else (am_look [], 0)) else (bif Nat.blt y 928 then (bif Nat.beq y 927 then (am_look tb_World_leave, 11) else (am_look [], 0)) else (bif Nat.beq y 928 then (am_look tb_World_fitting, 6) else (am_look [], 0))))) else (bif Nat.blt y 932 then (bif Nat.blt y 930 then (bif Nat.beq y 929 then (am_look tb_World_pressOn, 3) else (am_look [], 0)) else (bif Nat.blt y 931 then (bif Nat.beq y 930 then (am_look tb_World_board, 4) else (am_look [], 0)) else (bif Nat.beq y 931 then (am_look tb_World_ask, 3) else (am_look [], 0)))) else (bif Nat.blt y 933 then (bif Nat.beq y 932 then (am_look tb_World_give, 6) else (am_look [], 0)) else (bif Nat.blt y 934 then (bif Nat.beq y 933 then (am_look tb_World_isTrue, 5) else (am_look [], 0)) else (bif Nat.beq y 934 then (am_look tb_World_worth, 3) else (am_look [], 0)))))) else (bif Nat.blt y 1005 then (bif Nat.blt y 1002 then (bif Nat.blt y 1000 then (bif Nat.beq y 935 then (am_look tb_World_joined, 3) else (am_look [], 0)) else (bif Nat.blt y 1001 then (bif Nat.beq y 1000 then (am_look tb_C_init, 1) else (am_look [], 0)) else (bif Nat.beq y 1001 then (am_look tb_C_area, 3) else (am_look [], 0)))) else (bif Nat.blt y 1003 then (bif Nat.beq y 1002 then (am_look tb_C_link, 6) else (am_look [], 0)) else (bif Nat.blt y 1004 then (bif Nat.beq y 1003 then (am_look tb_C_linkSet, 6) else (am_look [], 0)) else (bif Nat.beq y 1004 then (am_look tb_C_folk, 7) else (am_look [], 0))))) else (bif Nat.blt y 1008 then (bif Nat.blt y 1006 then (bif Nat.beq y 1005 then (am_look tb_C_train, 5) else (am_look [], 0)) else (bif Nat.blt y 1007 then (bif Nat.beq y 1006 then (am_look tb_C_hold, 4) else (am_look [], 0)) else (bif Nat.beq y 1007 then (am_look tb_C_set, 4) else (am_look [], 0)))) else (bif Nat.blt y 1009 then (bif Nat.beq y 1008 then (am_look tb_C_ticks, 5) else (am_look [], 0)) else (bif Nat.blt y 1010 then (bif Nat.beq y 1009 then (am_look tb_C_areaOf, 4) else (am_look [], 0)) else (bif Nat.beq y 1010 then (am_look tb_C_folkOf, 5) else (am_look [], 0))))))))) else (bif Nat.blt y 1128 then (bif Nat.blt y 1104 then (bif Nat.blt y 1023 then (bif Nat.blt y 1017 then (bif Nat.blt y 1014 then (bif Nat.blt y 1012 then (bif Nat.beq y 1011 then (am_look tb_C_next, 4) else (am_look [], 0)) else (bif Nat.blt y 1013 then (bif Nat.beq y 1012 then (am_look tb_C_walk, 4) else (am_look [], 0)) else (bif Nat.beq y 1013 then (am_look tb_C_feed, 5) else (am_look [], 0)))) else (bif Nat.blt y 1015 then (bif Nat.beq y 1014 then (am_look tb_C_order, 3) else (am_look [], 0)) else (bif Nat.blt y 1016 then (bif Nat.beq y 1015 then (am_look tb_C_stand, 4) else (am_look [], 0)) else (bif Nat.beq y 1016 then (am_look tb_C_holds, 2) else (am_look [], 0))))) else (bif Nat.blt y 1020 then (bif Nat.blt y 1018 then (bif Nat.beq y 1017 then (am_look tb_C_given, 4) else (am_look [], 0)) else (bif Nat.blt y 1019 then (bif Nat.beq y 1018 then (am_look tb_C_counted, 4) else (am_look [], 0)) else (bif Nat.beq y 1019 then (am_look tb_C_count, 5) else (am_look [], 0)))) else (bif Nat.blt y 1021 then (bif Nat.beq y 1020 then (am_look tb_C_wrong, 3) else (am_look [], 0)) else (bif Nat.blt y 1022 then (bif Nat.beq y 1021 then (am_look tb_C_out, 3) else (am_look [], 0)) else (bif Nat.beq y 1022 then (am_look tb_C_worst, 9) else (am_look [], 0)))))) else (bif Nat.blt y 1029 then (bif Nat.blt y 1026 then (bif Nat.blt y 1024 then (bif Nat.beq y 1023 then (am_look tb_C_option, 5) else (am_look [], 0)) else (bif Nat.blt y 1025 then (bif Nat.beq y 1024 then (am_look tb_C_design, 5) else (am_look [], 0)) else (bif Nat.beq y 1025 then (am_look tb_C_kin, 4) else (am_look [], 0)))) else (bif Nat.blt y 1027 then (bif Nat.beq y 1026 then (am_look tb_C_total, 2) else (am_look [], 0)) else (bif Nat.blt y 1028 then (bif Nat.beq y 1027 then (am_look tb_C_refuse, 3) else (am_look [], 0)) else (bif Nat.beq y 1028 then (am_look tb_C_linkRefusal, 4) else (am_look [], 0))))) else (bif Nat.blt y 1101 then (bif Nat.blt y 1030 then (bif Nat.beq y 1029 then (am_look tb_C_emptiedRow, 5) else (am_look [], 0)) else (bif Nat.blt y 1100 then (bif Nat.beq y 1030 then (am_look tb_C_isEnough, 7) else (am_look [], 0)) else (bif Nat.beq y 1100 then (am_look tb_M_init, 2) else (am_look [], 0)))) else (bif Nat.blt y 1102 then (bif Nat.beq y 1101 then (am_look tb_M_no, 2) else (am_look [], 0)) else (bif Nat.blt y 1103 then (bif Nat.beq y 1102 then (am_look tb_M_isArea, 2) else (am_look [], 0)) else (bif Nat.beq y 1103 then (am_look tb_M_isLink, 2) else (am_look [], 0))))))) else (bif Nat.blt y 1116 then (bif Nat.blt y 1110 then (bif Nat.blt y 1107 then (bif Nat.blt y 1105 then (bif Nat.beq y 1104 then (am_look tb_M_isFolk, 2) else (am_look [], 0)) else (bif Nat.blt y 1106 then (bif Nat.beq y 1105 then (am_look tb_M_isTrain, 2) else (am_look [], 0)) else (bif Nat.beq y 1106 then (am_look tb_M_isOrder, 2) else (am_look [], 0)))) else (bif Nat.blt y 1108 then (bif Nat.beq y 1107 then (am_look tb_M_area, 3) else (am_look [], 0)) else (bif Nat.blt y 1109 then (bif Nat.beq y 1108 then (am_look tb_M_link, 5) else (am_look [], 0)) else (bif Nat.beq y 1109 then (am_look tb_M_barred, 5) else (am_look [], 0))))) else (bif Nat.blt y 1113 then (bif Nat.blt y 1111 then (bif Nat.beq y 1110 then (am_look tb_M_linkSet, 6) else (am_look [], 0)) else (bif Nat.blt y 1112 then (bif Nat.beq y 1111 then (am_look tb_M_folk, 5) else (am_look [], 0)) else (bif Nat.beq y 1112 then (am_look tb_M_train, 5) else (am_look [], 0)))) else (bif Nat.blt y 1114 then (bif Nat.beq y 1113 then (am_look tb_M_hold, 3) else (am_look [], 0)) else (bif Nat.blt y 1115 then (bif Nat.beq y 1114 then (am_look tb_M_set, 4) else (am_look [], 0)) else (bif Nat.beq y 1115 then (am_look tb_M_pressOf, 2) else (am_look [], 0)))))) else (bif Nat.blt y 1122 then (bif Nat.blt y 1119 then (bif Nat.blt y 1117 then (bif Nat.beq y 1116 then (am_look tb_M_addHeads, 4) else (am_look [], 0)) else (bif Nat.blt y 1118 then (bif Nat.beq y 1117 then (am_look tb_M_endOf, 3) else (am_look [], 0)) else (bif Nat.beq y 1118 then (am_look tb_M_goes, 5) else (am_look [], 0)))) else (bif Nat.blt y 1120 then (bif Nat.beq y 1119 then (am_look tb_M_timeOf, 3) else (am_look [], 0)) else (bif Nat.blt y 1121 then (bif Nat.beq y 1120 then (am_look tb_M_far, 8) else (am_look [], 0)) else (bif Nat.beq y 1121 then (am_look tb_M_lower, 7) else (am_look [], 0))))) else (bif Nat.blt y 1125 then (bif Nat.blt y 1123 then (bif Nat.beq y 1122 then (am_look tb_M_wayOn, 7) else (am_look [], 0)) else (bif Nat.blt y 1124 then (bif Nat.beq y 1123 then (am_look tb_M_next, 4) else (am_look [], 0)) else (bif Nat.beq y 1124 then (am_look tb_M_walk, 5) else (am_look [], 0)))) else (bif Nat.blt y 1126 then (bif Nat.beq y 1125 then (am_look tb_M_wayAt, 5) else (am_look [], 0)) else (bif Nat.blt y 1127 then (bif Nat.beq y 1126 then (am_look tb_M_hear, 5) else (am_look [], 0)) else (bif Nat.beq y 1127 then (am_look tb_M_arrive, 5) else (am_look [], 0)))))))) else (bif Nat.blt y 1152 then (bif Nat.blt y 1140 then (bif Nat.blt y 1134 then (bif Nat.blt y 1131 then (bif Nat.blt y 1129 then (bif Nat.beq y 1128 then (am_look tb_M_comeIn, 7) else (am_look [], 0)) else (bif Nat.blt y 1130 then (bif Nat.beq y 1129 then (am_look tb_M_goOn, 12) else (am_look [], 0)) else (bif Nat.beq y 1130 then (am_look tb_M_pushes, 5) else (am_look [], 0)))) else (bif Nat.blt y 1132 then (bif Nat.beq y 1131 then (am_look tb_M_carry, 5) else (am_look [], 0)) else (bif Nat.blt y 1133 then (bif Nat.beq y 1132 then (am_look tb_M_pass, 4) else (am_look [], 0)) else (bif Nat.beq y 1133 then (am_look tb_M_ticks, 5) else (am_look [], 0))))) else (bif Nat.blt y 1137 then (bif Nat.blt y 1135 then (bif Nat.beq y 1134 then (am_look tb_M_areaOf, 3) else (am_look [], 0)) else (bif Nat.blt y 1136 then (bif Nat.beq y 1135 then (am_look tb_M_onLink, 5) else (am_look [], 0)) else (bif Nat.beq y 1136 then (am_look tb_M_folkOf, 4) else (am_look [], 0)))) else (bif Nat.blt y 1138 then (bif Nat.beq y 1137 then (am_look tb_M_kin, 4) else (am_look [], 0)) else (bif Nat.blt y 1139 then (bif Nat.beq y 1138 then (am_look tb_M_feed, 5) else (am_look [], 0)) else (bif Nat.beq y 1139 then (am_look tb_M_isDigit, 2) else (am_look [], 0)))))) else (bif Nat.blt y 1146 then (bif Nat.blt y 1143 then (bif Nat.blt y 1141 then (bif Nat.beq y 1140 then (am_look tb_M_byteOf, 2) else (am_look [], 0)) else (bif Nat.blt y 1142 then (bif Nat.beq y 1141 then (am_look tb_M_isOf, 2) else (am_look [], 0)) else (bif Nat.beq y 1142 then (am_look tb_M_isAct, 2) else (am_look [], 0)))) else (bif Nat.blt y 1144 then (bif Nat.beq y 1143 then (am_look tb_M_behind, 4) else (am_look [], 0)) else (bif Nat.blt y 1145 then (bif Nat.beq y 1144 then (am_look tb_M_fault, 9) else (am_look [], 0)) else (bif Nat.beq y 1145 then (am_look tb_M_order, 5) else (am_look [], 0))))) else (bif Nat.blt y 1149 then (bif Nat.blt y 1147 then (bif Nat.beq y 1146 then (am_look tb_M_stand, 3) else (am_look [], 0)) else (bif Nat.blt y 1148 then (bif Nat.beq y 1147 then (am_look tb_M_twoDigits, 3) else (am_look [], 0)) else (bif Nat.beq y 1148 then (am_look tb_M_unit, 4) else (am_look [], 0)))) else (bif Nat.blt y 1150 then (bif Nat.beq y 1149 then (am_look tb_M_sum, 5) else (am_look [], 0)) else (bif Nat.blt y 1151 then (bif Nat.beq y 1150 then (am_look tb_M_wordsHold, 7) else (am_look [], 0)) else (bif Nat.beq y 1151 then (am_look tb_M_test, 3) else (am_look [], 0))))))) else (bif Nat.blt y 1164 then (bif Nat.blt y 1158 then (bif Nat.blt y 1155 then (bif Nat.blt y 1153 then (bif Nat.beq y 1152 then (am_look tb_M_holds, 2) else (am_look [], 0)) else (bif Nat.blt y 1154 then (bif Nat.beq y 1153 then (am_look tb_M_ask, 5) else (am_look [], 0)) else (bif Nat.beq y 1154 then (am_look tb_M_give, 6) else (am_look [], 0)))) else (bif Nat.blt y 1156 then (bif Nat.beq y 1155 then (am_look tb_M_given, 3) else (am_look [], 0)) else (bif Nat.blt y 1157 then (bif Nat.beq y 1156 then (am_look tb_M_counted, 4) else (am_look [], 0)) else (bif Nat.beq y 1157 then (am_look tb_M_countOf, 6) else (am_look [], 0))))) else (bif Nat.blt y 1161 then (bif Nat.blt y 1159 then (bif Nat.beq y 1158 then (am_look tb_M_count, 4) else (am_look [], 0)) else (bif Nat.blt y 1160 then (bif Nat.beq y 1159 then (am_look tb_M_wrong, 7) else (am_look [], 0)) else (bif Nat.beq y 1160 then (am_look tb_M_copyGround, 2) else (am_look [], 0)))) else (bif Nat.blt y 1162 then (bif Nat.beq y 1161 then (am_look tb_M_isOver, 3) else (am_look [], 0)) else (bif Nat.blt y 1163 then (bif Nat.beq y 1162 then (am_look tb_M_empty, 5) else (am_look [], 0)) else (bif Nat.beq y 1163 then (am_look tb_M_out, 3) else (am_look [], 0)))))) else (bif Nat.blt y 1170 then (bif Nat.blt y 1167 then (bif Nat.blt y 1165 then (bif Nat.beq y 1164 then (am_look tb_M_worst, 8) else (am_look [], 0)) else (bif Nat.blt y 1166 then (bif Nat.beq y 1165 then (am_look tb_M_option, 5) else (am_look [], 0)) else (bif Nat.beq y 1166 then (am_look tb_M_sizeOf, 4) else (am_look [], 0)))) else (bif Nat.blt y 1168 then (bif Nat.beq y 1167 then (am_look tb_M_bears, 5) else (am_look [], 0)) else (bif Nat.blt y 1169 then (bif Nat.beq y 1168 then (am_look tb_M_design, 6) else (am_look [], 0)) else (bif Nat.beq y 1169 then (am_look tb_M_sumOf, 4) else (am_look [], 0))))) else (bif Nat.blt y 1205 then (bif Nat.blt y 1203 then (bif Nat.beq y 1170 then (am_look tb_M_total, 2) else (am_look [], 0)) else (bif Nat.blt y 1204 then (bif Nat.beq y 1203 then (am_look tb_J_bitCount, 1) else (am_look [], 0)) else (bif Nat.beq y 1204 then (am_look tb_J_copyOf, 3) else (am_look [], 0)))) else (bif Nat.blt y 1206 then (bif Nat.beq y 1205 then (am_look tb_J_fill, 5) else (am_look [], 0)) else (bif Nat.blt y 1500 then (bif Nat.beq y 1206 then (am_look tb_J_rangeCheck, 3) else (am_look [], 0)) else (bif Nat.beq y 1500 then (am_look tb_law, 4) else (am_look [], 0))))))))))
def am_rt (r : Nat) : Nat := (bif Nat.blt r 207 then (bif Nat.blt r 27 then (bif Nat.blt r 13 then (bif Nat.blt r 6 then (bif Nat.blt r 3 then (bif Nat.blt r 1 then (bif Nat.beq r 0 then 10 else 999) else (bif Nat.blt r 2 then (bif Nat.beq r 1 then 9 else 999) else (bif Nat.beq r 2 then 5 else 999))) else (bif Nat.blt r 4 then (bif Nat.beq r 3 then 6 else 999) else (bif Nat.blt r 5 then (bif Nat.beq r 4 then 100 else 999) else (bif Nat.beq r 5 then 100 else 999)))) else (bif Nat.blt r 9 then (bif Nat.blt r 7 then (bif Nat.beq r 6 then 100 else 999) else (bif Nat.blt r 8 then (bif Nat.beq r 7 then 100 else 999) else (bif Nat.beq r 8 then 100 else 999))) else (bif Nat.blt r 11 then (bif Nat.blt r 10 then (bif Nat.beq r 9 then 100 else 999) else (bif Nat.beq r 10 then 110 else 999)) else (bif Nat.blt r 12 then (bif Nat.beq r 11 then 113 else 999) else (bif Nat.beq r 12 then 111 else 999))))) else (bif Nat.blt r 20 then (bif Nat.blt r 16 then (bif Nat.blt r 14 then (bif Nat.beq r 13 then 117 else 999) else (bif Nat.blt r 15 then (bif Nat.beq r 14 then 114 else 999) else (bif Nat.beq r 15 then 101 else 999))) else (bif Nat.blt r 18 then (bif Nat.blt r 17 then (bif Nat.beq r 16 then 2 else 999) else (bif Nat.beq r 17 then 8 else 999)) else (bif Nat.blt r 19 then (bif Nat.beq r 18 then 100 else 999) else (bif Nat.beq r 19 then 100 else 999)))) else (bif Nat.blt r 23 then (bif Nat.blt r 21 then (bif Nat.beq r 20 then 100 else 999) else (bif Nat.blt r 22 then (bif Nat.beq r 21 then 100 else 999) else (bif Nat.beq r 22 then 100 else 999))) else (bif Nat.blt r 25 then (bif Nat.blt r 24 then (bif Nat.beq r 23 then 100 else 999) else (bif Nat.beq r 24 then 100 else 999)) else (bif Nat.blt r 26 then (bif Nat.beq r 25 then 100 else 999) else (bif Nat.beq r 26 then 100 else 999)))))) else (bif Nat.blt r 41 then (bif Nat.blt r 34 then (bif Nat.blt r 30 then (bif Nat.blt r 28 then (bif Nat.beq r 27 then 100 else 999) else (bif Nat.blt r 29 then (bif Nat.beq r 28 then 0 else 999) else (bif Nat.beq r 29 then 3 else 999))) else (bif Nat.blt r 32 then (bif Nat.blt r 31 then (bif Nat.beq r 30 then 100 else 999) else (bif Nat.beq r 31 then 100 else 999)) else (bif Nat.blt r 33 then (bif Nat.beq r 32 then 100 else 999) else (bif Nat.beq r 33 then 100 else 999)))) else (bif Nat.blt r 37 then (bif Nat.blt r 35 then (bif Nat.beq r 34 then 100 else 999) else (bif Nat.blt r 36 then (bif Nat.beq r 35 then 1 else 999) else (bif Nat.beq r 36 then 100 else 999))) else (bif Nat.blt r 39 then (bif Nat.blt r 38 then (bif Nat.beq r 37 then 100 else 999) else (bif Nat.beq r 38 then 7 else 999)) else (bif Nat.blt r 40 then (bif Nat.beq r 39 then 4 else 999) else (bif Nat.beq r 40 then 100 else 999))))) else (bif Nat.blt r 48 then (bif Nat.blt r 44 then (bif Nat.blt r 42 then (bif Nat.beq r 41 then 100 else 999) else (bif Nat.blt r 43 then (bif Nat.beq r 42 then 100 else 999) else (bif Nat.beq r 43 then 100 else 999))) else (bif Nat.blt r 46 then (bif Nat.blt r 45 then (bif Nat.beq r 44 then 100 else 999) else (bif Nat.beq r 45 then 100 else 999)) else (bif Nat.blt r 47 then (bif Nat.beq r 46 then 100 else 999) else (bif Nat.beq r 47 then 100 else 999)))) else (bif Nat.blt r 203 then (bif Nat.blt r 199 then (bif Nat.beq r 48 then 100 else 999) else (bif Nat.blt r 201 then (bif Nat.beq r 199 then 11 else 999) else (bif Nat.beq r 201 then 100 else 999))) else (bif Nat.blt r 205 then (bif Nat.blt r 204 then (bif Nat.beq r 203 then 100 else 999) else (bif Nat.beq r 204 then 100 else 999)) else (bif Nat.blt r 206 then (bif Nat.beq r 205 then 100 else 999) else (bif Nat.beq r 206 then 100 else 999))))))) else (bif Nat.blt r 243 then (bif Nat.blt r 223 then (bif Nat.blt r 215 then (bif Nat.blt r 210 then (bif Nat.blt r 208 then (bif Nat.beq r 207 then 100 else 999) else (bif Nat.blt r 209 then (bif Nat.beq r 208 then 100 else 999) else (bif Nat.beq r 209 then 100 else 999))) else (bif Nat.blt r 213 then (bif Nat.blt r 211 then (bif Nat.beq r 210 then 100 else 999) else (bif Nat.beq r 211 then 100 else 999)) else (bif Nat.blt r 214 then (bif Nat.beq r 213 then 100 else 999) else (bif Nat.beq r 214 then 100 else 999)))) else (bif Nat.blt r 219 then (bif Nat.blt r 216 then (bif Nat.beq r 215 then 100 else 999) else (bif Nat.blt r 217 then (bif Nat.beq r 216 then 100 else 999) else (bif Nat.beq r 217 then 100 else 999))) else (bif Nat.blt r 221 then (bif Nat.blt r 220 then (bif Nat.beq r 219 then 100 else 999) else (bif Nat.beq r 220 then 100 else 999)) else (bif Nat.blt r 222 then (bif Nat.beq r 221 then 100 else 999) else (bif Nat.beq r 222 then 100 else 999))))) else (bif Nat.blt r 231 then (bif Nat.blt r 226 then (bif Nat.blt r 224 then (bif Nat.beq r 223 then 101 else 999) else (bif Nat.blt r 225 then (bif Nat.beq r 224 then 100 else 999) else (bif Nat.beq r 225 then 100 else 999))) else (bif Nat.blt r 228 then (bif Nat.blt r 227 then (bif Nat.beq r 226 then 100 else 999) else (bif Nat.beq r 227 then 100 else 999)) else (bif Nat.blt r 230 then (bif Nat.beq r 228 then 100 else 999) else (bif Nat.beq r 230 then 100 else 999)))) else (bif Nat.blt r 234 then (bif Nat.blt r 232 then (bif Nat.beq r 231 then 100 else 999) else (bif Nat.blt r 233 then (bif Nat.beq r 232 then 100 else 999) else (bif Nat.beq r 233 then 100 else 999))) else (bif Nat.blt r 239 then (bif Nat.blt r 235 then (bif Nat.beq r 234 then 101 else 999) else (bif Nat.beq r 235 then 100 else 999)) else (bif Nat.blt r 242 then (bif Nat.beq r 239 then 102 else 999) else (bif Nat.beq r 242 then 102 else 999)))))) else (bif Nat.blt r 261 then (bif Nat.blt r 251 then (bif Nat.blt r 246 then (bif Nat.blt r 244 then (bif Nat.beq r 243 then 100 else 999) else (bif Nat.blt r 245 then (bif Nat.beq r 244 then 101 else 999) else (bif Nat.beq r 245 then 100 else 999))) else (bif Nat.blt r 248 then (bif Nat.blt r 247 then (bif Nat.beq r 246 then 101 else 999) else (bif Nat.beq r 247 then 100 else 999)) else (bif Nat.blt r 249 then (bif Nat.beq r 248 then 100 else 999) else (bif Nat.beq r 249 then 103 else 999)))) else (bif Nat.blt r 254 then (bif Nat.blt r 252 then (bif Nat.beq r 251 then 100 else 999) else (bif Nat.blt r 253 then (bif Nat.beq r 252 then 100 else 999) else (bif Nat.beq r 253 then 100 else 999))) else (bif Nat.blt r 257 then (bif Nat.blt r 256 then (bif Nat.beq r 254 then 100 else 999) else (bif Nat.beq r 256 then 100 else 999)) else (bif Nat.blt r 258 then (bif Nat.beq r 257 then 100 else 999) else (bif Nat.beq r 258 then 100 else 999))))) else (bif Nat.blt r 300 then (bif Nat.blt r 264 then (bif Nat.blt r 262 then (bif Nat.beq r 261 then 100 else 999) else (bif Nat.blt r 263 then (bif Nat.beq r 262 then 100 else 999) else (bif Nat.beq r 263 then 100 else 999))) else (bif Nat.blt r 266 then (bif Nat.blt r 265 then (bif Nat.beq r 264 then 101 else 999) else (bif Nat.beq r 265 then 101 else 999)) else (bif Nat.blt r 272 then (bif Nat.beq r 266 then 101 else 999) else (bif Nat.beq r 272 then 100 else 999)))) else (bif Nat.blt r 303 then (bif Nat.blt r 301 then (bif Nat.beq r 300 then 100 else 999) else (bif Nat.blt r 302 then (bif Nat.beq r 301 then 100 else 999) else (bif Nat.beq r 302 then 100 else 999))) else (bif Nat.blt r 305 then (bif Nat.blt r 304 then (bif Nat.beq r 303 then 100 else 999) else (bif Nat.beq r 304 then 100 else 999)) else (bif Nat.blt r 306 then (bif Nat.beq r 305 then 100 else 999) else (bif Nat.beq r 306 then 100 else 999))))))))
/-- a call, d deep at most -/
abbrev cl_ (d : Nat) : am_C := am_call am_rt am_P d
end
section
/-! printed by wip/gen_struct.py: the shape of the heap behind the two constructors; g: ghost counts (0 areas, 1 links, 2 folk, 3 trains of a world; 4 orders; 5 whose row of orders a world has; 6 far of a link; 7 whether a link has its history; 8, 9 how long an order's tests, acts are; 11 the script's length) -/
def ss_R (g : Nat → Nat → Nat) : am_R := fun r w j s => (bif Nat.blt r 13 then (bif Nat.blt r 3 then (bif Nat.blt r 1 then (bif Nat.beq r 0 then (bif Nat.beq w 0 && Nat.beq j 0 then (bif Nat.blt s 5 then (bif Nat.blt s 2 then (bif Nat.blt s 1 then (bif Nat.beq s 0 then some (1, 0, 0) else none) else (bif Nat.beq s 1 then some (1, 1, 0) else none)) else (bif Nat.blt s 3 then (bif Nat.beq s 2 then some (2, 0, 0) else none) else (bif Nat.blt s 4 then (bif Nat.beq s 3 then some (3, 0, 0) else none) else (bif Nat.beq s 4 then some (4, 0, 0) else none)))) else (bif Nat.blt s 7 then (bif Nat.blt s 6 then (bif Nat.beq s 5 then some (5, 0, 0) else none) else (bif Nat.beq s 6 then some (6, 0, 0) else none)) else (bif Nat.blt s 10 then (bif Nat.beq s 7 then some (7, 0, 0) else none) else (bif Nat.blt s 11 then (bif Nat.beq s 10 then some (8, 0, 0) else none) else (bif Nat.beq s 11 then some (9, 0, 0) else none))))) else none) else none) else (bif Nat.blt r 2 then (bif Nat.beq r 1 then (bif Nat.blt w 2 && Nat.beq j 0 then (bif Nat.blt s 10 then (bif Nat.blt s 4 then (bif Nat.blt s 2 then (bif Nat.beq s 0 then some (10, w, 0) else none) else (bif Nat.beq s 2 then some (11, w, 0) else none)) else (bif Nat.blt s 6 then (bif Nat.beq s 4 then some (12, w, 0) else none) else (bif Nat.blt s 8 then (bif Nat.beq s 6 then some (13, w, 0) else none) else (bif Nat.beq s 8 then some (14, g 5 w, 0) else none)))) else (bif Nat.blt s 12 then (bif Nat.blt s 11 then (bif Nat.beq s 10 then some (15, w, 0) else none) else (bif Nat.beq s 11 then some (16, w, 0) else none)) else (bif Nat.blt s 13 then (bif Nat.beq s 12 then some (17, w, 0) else none) else (bif Nat.blt s 19 then (bif Nat.beq s 13 then some (18, w, 0) else none) else (bif Nat.beq s 19 then some (19, w, 0) else none))))) else none) else none) else (bif Nat.beq r 2 then (bif Nat.beq w 0 && Nat.beq j 0 then (bif Nat.blt s 5 then (bif Nat.beq s 0 then some (42, 0, 0) else none) else (bif Nat.blt s 7 then (bif Nat.beq s 5 then some (43, 0, 0) else none) else (bif Nat.beq s 7 then some (44, 0, 0) else none))) else none) else none))) else (bif Nat.blt r 11 then (bif Nat.blt r 10 then (bif Nat.beq r 3 then (bif Nat.beq w 0 && Nat.beq j 0 then (bif Nat.blt s 2 then (bif Nat.blt s 1 then (bif Nat.beq s 0 then some (45, 0, 0) else none) else (bif Nat.beq s 1 then some (46, 0, 0) else none)) else (bif Nat.blt s 3 then (bif Nat.beq s 2 then some (47, 0, 0) else none) else (bif Nat.beq s 3 then some (48, 0, 0) else none))) else none) else none) else (bif Nat.beq r 10 then (bif Nat.blt w 2 && Nat.beq j 0 && Nat.blt s (g 0 w) then some (28, w, s) else none) else none)) else (bif Nat.blt r 12 then (bif Nat.beq r 11 then (bif Nat.blt w 2 && Nat.beq j 0 && Nat.blt s (g 1 w) then some (29, w, s) else none) else none) else (bif Nat.beq r 12 then (bif Nat.blt w 2 && Nat.beq j 0 && Nat.blt s (g 2 w) then some (35, w, s) else none) else none)))) else (bif Nat.blt r 29 then (bif Nat.blt r 16 then (bif Nat.blt r 14 then (bif Nat.beq r 13 then (bif Nat.blt w 2 && Nat.beq j 0 && Nat.blt s (g 3 w) then some (38, w, s) else none) else none) else (bif Nat.beq r 14 then (bif Nat.beq w 0 && Nat.beq j 0 && Nat.blt s (g 4 0) then some (39, 0, s) else none) else none)) else (bif Nat.blt r 17 then (bif Nat.beq r 16 then (bif Nat.blt w 2 && Nat.beq j 0 then (bif Nat.blt s 2 then (bif Nat.blt s 1 then (bif Nat.beq s 0 then some (20, w, 0) else none) else (bif Nat.beq s 1 then some (21, w, 0) else none)) else (bif Nat.blt s 3 then (bif Nat.beq s 2 then some (22, w, 0) else none) else (bif Nat.blt s 4 then (bif Nat.beq s 3 then some (23, w, 0) else none) else (bif Nat.beq s 4 then some (24, w, 0) else none)))) else none) else none) else (bif Nat.beq r 17 then (bif Nat.blt w 2 && Nat.beq j 0 then (bif Nat.blt s 1 then (bif Nat.beq s 0 then some (25, w, 0) else none) else (bif Nat.blt s 2 then (bif Nat.beq s 1 then some (26, w, 0) else none) else (bif Nat.beq s 2 then some (27, w, 0) else none))) else none) else none))) else (bif Nat.blt r 39 then (bif Nat.blt r 35 then (bif Nat.beq r 29 then (bif Nat.blt w 2 && Nat.blt j (g 1 w) then (bif Nat.blt s 6 then (bif Nat.blt s 5 then (bif Nat.beq s 3 then some (30, w, j) else none) else (bif Nat.beq s 5 then some (31, w, j) else none)) else (bif Nat.blt s 7 then (bif Nat.beq s 6 then some (32, w, j) else none) else (bif Nat.beq s 7 then (bif Nat.beq w 0 && Nat.beq (g 7 j) 1 then some (34, 0, j) else some (33, w, j)) else none))) else none) else none) else (bif Nat.beq r 35 then (bif Nat.blt w 2 && Nat.blt j (g 2 w) then (bif Nat.blt s 6 then (bif Nat.beq s 5 then some (36, w, j) else none) else (bif Nat.beq s 6 then some (37, w, j) else none)) else none) else none)) else (bif Nat.blt r 199 then (bif Nat.beq r 39 then (bif Nat.beq w 0 && Nat.blt j (g 4 0) then (bif Nat.blt s 1 then (bif Nat.beq s 0 then some (40, 0, j) else none) else (bif Nat.beq s 1 then some (41, 0, j) else none)) else none) else none) else (bif Nat.beq r 199 then (bif Nat.beq w 0 && Nat.beq j 0 then (bif Nat.blt s 32 then (bif Nat.blt s 16 then (bif Nat.blt s 8 then (bif Nat.blt s 5 then (bif Nat.blt s 3 then (bif Nat.beq s 1 then some (201, 0, 0) else none) else (bif Nat.blt s 4 then (bif Nat.beq s 3 then some (203, 0, 0) else none) else (bif Nat.beq s 4 then some (204, 0, 0) else none))) else (bif Nat.blt s 6 then (bif Nat.beq s 5 then some (205, 0, 0) else none) else (bif Nat.blt s 7 then (bif Nat.beq s 6 then some (206, 0, 0) else none) else (bif Nat.beq s 7 then some (207, 0, 0) else none)))) else (bif Nat.blt s 11 then (bif Nat.blt s 9 then (bif Nat.beq s 8 then some (208, 0, 0) else none) else (bif Nat.blt s 10 then (bif Nat.beq s 9 then some (209, 0, 0) else none) else (bif Nat.beq s 10 then some (210, 0, 0) else none))) else (bif Nat.blt s 14 then (bif Nat.blt s 13 then (bif Nat.beq s 11 then some (211, 0, 0) else none) else (bif Nat.beq s 13 then some (213, 0, 0) else none)) else (bif Nat.blt s 15 then (bif Nat.beq s 14 then some (214, 0, 0) else none) else (bif Nat.beq s 15 then some (215, 0, 0) else none))))) else (bif Nat.blt s 24 then (bif Nat.blt s 20 then (bif Nat.blt s 17 then (bif Nat.beq s 16 then some (216, 0, 0) else none) else (bif Nat.blt s 19 then (bif Nat.beq s 17 then some (217, 0, 0) else none) else (bif Nat.beq s 19 then some (219, 0, 0) else none))) else (bif Nat.blt s 22 then (bif Nat.blt s 21 then (bif Nat.beq s 20 then some (220, 0, 0) else none) else (bif Nat.beq s 21 then some (221, 0, 0) else none)) else (bif Nat.blt s 23 then (bif Nat.beq s 22 then some (222, 0, 0) else none) else (bif Nat.beq s 23 then some (223, 0, 0) else none)))) else (bif Nat.blt s 27 then (bif Nat.blt s 25 then (bif Nat.beq s 24 then some (224, 0, 0) else none) else (bif Nat.blt s 26 then (bif Nat.beq s 25 then some (225, 0, 0) else none) else (bif Nat.beq s 26 then some (226, 0, 0) else none))) else (bif Nat.blt s 30 then (bif Nat.blt s 28 then (bif Nat.beq s 27 then some (227, 0, 0) else none) else (bif Nat.beq s 28 then some (228, 0, 0) else none)) else (bif Nat.blt s 31 then (bif Nat.beq s 30 then some (230, 0, 0) else none) else (bif Nat.beq s 31 then some (231, 0, 0) else none)))))) else (bif Nat.blt s 51 then (bif Nat.blt s 43 then (bif Nat.blt s 35 then (bif Nat.blt s 33 then (bif Nat.beq s 32 then some (232, 0, 0) else none) else (bif Nat.blt s 34 then (bif Nat.beq s 33 then some (233, 0, 0) else none) else (bif Nat.beq s 34 then some (234, 0, 0) else none))) else (bif Nat.blt s 39 then (bif Nat.beq s 35 then some (235, 0, 0) else none) else (bif Nat.blt s 42 then (bif Nat.beq s 39 then some (239, 0, 0) else none) else (bif Nat.beq s 42 then some (242, 0, 0) else none)))) else (bif Nat.blt s 46 then (bif Nat.blt s 44 then (bif Nat.beq s 43 then some (243, 0, 0) else none) else (bif Nat.blt s 45 then (bif Nat.beq s 44 then some (244, 0, 0) else none) else (bif Nat.beq s 45 then some (245, 0, 0) else none))) else (bif Nat.blt s 48 then (bif Nat.blt s 47 then (bif Nat.beq s 46 then some (246, 0, 0) else none) else (bif Nat.beq s 47 then some (247, 0, 0) else none)) else (bif Nat.blt s 49 then (bif Nat.beq s 48 then some (248, 0, 0) else none) else (bif Nat.beq s 49 then some (249, 0, 0) else none))))) else (bif Nat.blt s 61 then (bif Nat.blt s 54 then (bif Nat.blt s 52 then (bif Nat.beq s 51 then some (251, 0, 0) else none) else (bif Nat.blt s 53 then (bif Nat.beq s 52 then some (252, 0, 0) else none) else (bif Nat.beq s 53 then some (253, 0, 0) else none))) else (bif Nat.blt s 57 then (bif Nat.blt s 56 then (bif Nat.beq s 54 then some (254, 0, 0) else none) else (bif Nat.beq s 56 then some (256, 0, 0) else none)) else (bif Nat.blt s 58 then (bif Nat.beq s 57 then some (257, 0, 0) else none) else (bif Nat.beq s 58 then some (258, 0, 0) else none)))) else (bif Nat.blt s 64 then (bif Nat.blt s 62 then (bif Nat.beq s 61 then some (261, 0, 0) else none) else (bif Nat.blt s 63 then (bif Nat.beq s 62 then some (262, 0, 0) else none) else (bif Nat.beq s 63 then some (263, 0, 0) else none))) else (bif Nat.blt s 66 then (bif Nat.blt s 65 then (bif Nat.beq s 64 then some (264, 0, 0) else none) else (bif Nat.beq s 65 then some (265, 0, 0) else none)) else (bif Nat.blt s 72 then (bif Nat.beq s 66 then some (266, 0, 0) else none) else (bif Nat.beq s 72 then some (272, 0, 0) else none))))))) else none) else none)))))
def ss_N (g : Nat → Nat → Nat) : am_N := fun r w j => (bif Nat.blt r 207 then (bif Nat.blt r 27 then (bif Nat.blt r 13 then (bif Nat.blt r 6 then (bif Nat.blt r 3 then (bif Nat.blt r 1 then (bif Nat.beq r 0 then (bif Nat.beq w 0 && Nat.beq j 0 then some 18 else none) else none) else (bif Nat.blt r 2 then (bif Nat.beq r 1 then (bif Nat.blt w 2 && Nat.beq j 0 then some 20 else none) else none) else (bif Nat.beq r 2 then (bif Nat.beq w 0 && Nat.beq j 0 then some 9 else none) else none))) else (bif Nat.blt r 4 then (bif Nat.beq r 3 then (bif Nat.beq w 0 && Nat.beq j 0 then some 5 else none) else none) else (bif Nat.blt r 5 then (bif Nat.beq r 4 then (bif Nat.beq w 0 && Nat.beq j 0 then some 7 else none) else none) else (bif Nat.beq r 5 then (bif Nat.beq w 0 && Nat.beq j 0 then some 4 else none) else none)))) else (bif Nat.blt r 9 then (bif Nat.blt r 7 then (bif Nat.beq r 6 then (bif Nat.beq w 0 && Nat.beq j 0 then some 4 else none) else none) else (bif Nat.blt r 8 then (bif Nat.beq r 7 then (bif Nat.beq w 0 && Nat.beq j 0 then some 4 else none) else none) else (bif Nat.beq r 8 then (bif Nat.beq w 0 && Nat.beq j 0 then some 124 else none) else none))) else (bif Nat.blt r 11 then (bif Nat.blt r 10 then (bif Nat.beq r 9 then (bif Nat.beq w 0 && Nat.beq j 0 then some 31 else none) else none) else (bif Nat.beq r 10 then (bif Nat.blt w 2 && Nat.beq j 0 then some 20 else none) else none)) else (bif Nat.blt r 12 then (bif Nat.beq r 11 then (bif Nat.blt w 2 && Nat.beq j 0 then some 30 else none) else none) else (bif Nat.beq r 12 then (bif Nat.blt w 2 && Nat.beq j 0 then some 24 else none) else none))))) else (bif Nat.blt r 20 then (bif Nat.blt r 16 then (bif Nat.blt r 14 then (bif Nat.beq r 13 then (bif Nat.blt w 2 && Nat.beq j 0 then some 8 else none) else none) else (bif Nat.blt r 15 then (bif Nat.beq r 14 then (bif Nat.blt w 2 && Nat.beq j 0 then some 12 else none) else none) else (bif Nat.beq r 15 then (bif Nat.blt w 2 && Nat.beq j 0 then some 12 else none) else none))) else (bif Nat.blt r 18 then (bif Nat.blt r 17 then (bif Nat.beq r 16 then (bif Nat.blt w 2 && Nat.beq j 0 then some 7 else none) else none) else (bif Nat.beq r 17 then (bif Nat.blt w 2 && Nat.beq j 0 then some 4 else none) else none)) else (bif Nat.blt r 19 then (bif Nat.beq r 18 then (bif Nat.blt w 2 && Nat.beq j 0 then some 3 else none) else none) else (bif Nat.beq r 19 then (bif Nat.blt w 2 && Nat.beq j 0 then some 120 else none) else none)))) else (bif Nat.blt r 23 then (bif Nat.blt r 21 then (bif Nat.beq r 20 then (bif Nat.blt w 2 && Nat.beq j 0 then some 200 else none) else none) else (bif Nat.blt r 22 then (bif Nat.beq r 21 then (bif Nat.blt w 2 && Nat.beq j 0 then some 200 else none) else none) else (bif Nat.beq r 22 then (bif Nat.blt w 2 && Nat.beq j 0 then some 200 else none) else none))) else (bif Nat.blt r 25 then (bif Nat.blt r 24 then (bif Nat.beq r 23 then (bif Nat.blt w 2 && Nat.beq j 0 then some 200 else none) else none) else (bif Nat.beq r 24 then (bif Nat.blt w 2 && Nat.beq j 0 then some 200 else none) else none)) else (bif Nat.blt r 26 then (bif Nat.beq r 25 then (bif Nat.blt w 2 && Nat.beq j 0 then some 800 else none) else none) else (bif Nat.beq r 26 then (bif Nat.blt w 2 && Nat.beq j 0 then some 800 else none) else none)))))) else (bif Nat.blt r 41 then (bif Nat.blt r 34 then (bif Nat.blt r 30 then (bif Nat.blt r 28 then (bif Nat.beq r 27 then (bif Nat.blt w 2 && Nat.beq j 0 then some 40 else none) else none) else (bif Nat.blt r 29 then (bif Nat.beq r 28 then (bif Nat.blt w 2 && Nat.blt j (g 0 w) then some 10 else none) else none) else (bif Nat.beq r 29 then (bif Nat.blt w 2 && Nat.blt j (g 1 w) then some 8 else none) else none))) else (bif Nat.blt r 32 then (bif Nat.blt r 31 then (bif Nat.beq r 30 then (bif Nat.blt w 2 && Nat.blt j (g 1 w) then some 5 else none) else none) else (bif Nat.beq r 31 then (bif Nat.blt w 2 && Nat.blt j (g 1 w) then some (48 * g 6 j) else none) else none)) else (bif Nat.blt r 33 then (bif Nat.beq r 32 then (bif Nat.blt w 2 && Nat.blt j (g 1 w) then some (2 * g 6 j) else none) else none) else (bif Nat.beq r 33 then (bif Nat.blt w 2 && Nat.blt j (g 1 w) then some 0 else none) else none)))) else (bif Nat.blt r 37 then (bif Nat.blt r 35 then (bif Nat.beq r 34 then (bif Nat.beq w 0 && Nat.blt j (g 1 0) && Nat.beq (g 7 j) 1 then some 1000 else none) else none) else (bif Nat.blt r 36 then (bif Nat.beq r 35 then (bif Nat.blt w 2 && Nat.blt j (g 2 w) then some 10 else none) else none) else (bif Nat.beq r 36 then (bif Nat.blt w 2 && Nat.blt j (g 2 w) then some 20 else none) else none))) else (bif Nat.blt r 39 then (bif Nat.blt r 38 then (bif Nat.beq r 37 then (bif Nat.blt w 2 && Nat.blt j (g 2 w) then some 20 else none) else none) else (bif Nat.beq r 38 then (bif Nat.blt w 2 && Nat.blt j (g 3 w) then some 6 else none) else none)) else (bif Nat.blt r 40 then (bif Nat.beq r 39 then (bif Nat.beq w 0 && Nat.blt j (g 4 0) then some 3 else none) else none) else (bif Nat.beq r 40 then (bif Nat.beq w 0 && Nat.blt j (g 4 0) then some (g 8 j) else none) else none))))) else (bif Nat.blt r 48 then (bif Nat.blt r 44 then (bif Nat.blt r 42 then (bif Nat.beq r 41 then (bif Nat.beq w 0 && Nat.blt j (g 4 0) then some (g 9 j) else none) else none) else (bif Nat.blt r 43 then (bif Nat.beq r 42 then (bif Nat.beq w 0 && Nat.beq j 0 then some 120 else none) else none) else (bif Nat.beq r 43 then (bif Nat.beq w 0 && Nat.beq j 0 then some 120 else none) else none))) else (bif Nat.blt r 46 then (bif Nat.blt r 45 then (bif Nat.beq r 44 then (bif Nat.beq w 0 && Nat.beq j 0 then some 120 else none) else none) else (bif Nat.beq r 45 then (bif Nat.beq w 0 && Nat.beq j 0 then some 60 else none) else none)) else (bif Nat.blt r 47 then (bif Nat.beq r 46 then (bif Nat.beq w 0 && Nat.beq j 0 then some 60 else none) else none) else (bif Nat.beq r 47 then (bif Nat.beq w 0 && Nat.beq j 0 then some 60 else none) else none)))) else (bif Nat.blt r 203 then (bif Nat.blt r 199 then (bif Nat.beq r 48 then (bif Nat.beq w 0 && Nat.beq j 0 then some 60 else none) else none) else (bif Nat.blt r 201 then (bif Nat.beq r 199 then (bif Nat.beq w 0 && Nat.beq j 0 then some 75 else none) else none) else (bif Nat.beq r 201 then (bif Nat.beq w 0 && Nat.beq j 0 then some 2 else none) else none))) else (bif Nat.blt r 205 then (bif Nat.blt r 204 then (bif Nat.beq r 203 then (bif Nat.beq w 0 && Nat.beq j 0 then some 20 else none) else none) else (bif Nat.beq r 204 then (bif Nat.beq w 0 && Nat.beq j 0 then some 20 else none) else none)) else (bif Nat.blt r 206 then (bif Nat.beq r 205 then (bif Nat.beq w 0 && Nat.beq j 0 then some 40 else none) else none) else (bif Nat.beq r 206 then (bif Nat.beq w 0 && Nat.beq j 0 then some 40 else none) else none))))))) else (bif Nat.blt r 243 then (bif Nat.blt r 223 then (bif Nat.blt r 215 then (bif Nat.blt r 210 then (bif Nat.blt r 208 then (bif Nat.beq r 207 then (bif Nat.beq w 0 && Nat.beq j 0 then some 40 else none) else none) else (bif Nat.blt r 209 then (bif Nat.beq r 208 then (bif Nat.beq w 0 && Nat.beq j 0 then some 40 else none) else none) else (bif Nat.beq r 209 then (bif Nat.beq w 0 && Nat.beq j 0 then some 40 else none) else none))) else (bif Nat.blt r 213 then (bif Nat.blt r 211 then (bif Nat.beq r 210 then (bif Nat.beq w 0 && Nat.beq j 0 then some 40 else none) else none) else (bif Nat.beq r 211 then (bif Nat.beq w 0 && Nat.beq j 0 then some 40 else none) else none)) else (bif Nat.blt r 214 then (bif Nat.beq r 213 then (bif Nat.beq w 0 && Nat.beq j 0 then some 30 else none) else none) else (bif Nat.beq r 214 then (bif Nat.beq w 0 && Nat.beq j 0 then some 30 else none) else none)))) else (bif Nat.blt r 219 then (bif Nat.blt r 216 then (bif Nat.beq r 215 then (bif Nat.beq w 0 && Nat.beq j 0 then some 30 else none) else none) else (bif Nat.blt r 217 then (bif Nat.beq r 216 then (bif Nat.beq w 0 && Nat.beq j 0 then some 300 else none) else none) else (bif Nat.beq r 217 then (bif Nat.beq w 0 && Nat.beq j 0 then some 60 else none) else none))) else (bif Nat.blt r 221 then (bif Nat.blt r 220 then (bif Nat.beq r 219 then (bif Nat.beq w 0 && Nat.beq j 0 then some 24 else none) else none) else (bif Nat.beq r 220 then (bif Nat.beq w 0 && Nat.beq j 0 then some 24 else none) else none)) else (bif Nat.blt r 222 then (bif Nat.beq r 221 then (bif Nat.beq w 0 && Nat.beq j 0 then some 24 else none) else none) else (bif Nat.beq r 222 then (bif Nat.beq w 0 && Nat.beq j 0 then some 24 else none) else none))))) else (bif Nat.blt r 231 then (bif Nat.blt r 226 then (bif Nat.blt r 224 then (bif Nat.beq r 223 then (bif Nat.beq w 0 && Nat.beq j 0 then some 48 else none) else none) else (bif Nat.blt r 225 then (bif Nat.beq r 224 then (bif Nat.beq w 0 && Nat.beq j 0 then some 48 else none) else none) else (bif Nat.beq r 225 then (bif Nat.beq w 0 && Nat.beq j 0 then some 48 else none) else none))) else (bif Nat.blt r 228 then (bif Nat.blt r 227 then (bif Nat.beq r 226 then (bif Nat.beq w 0 && Nat.beq j 0 then some 960 else none) else none) else (bif Nat.beq r 227 then (bif Nat.beq w 0 && Nat.beq j 0 then some 480 else none) else none)) else (bif Nat.blt r 230 then (bif Nat.beq r 228 then (bif Nat.beq w 0 && Nat.beq j 0 then some 25920 else none) else none) else (bif Nat.beq r 230 then (bif Nat.beq w 0 && Nat.beq j 0 then some 8 else none) else none)))) else (bif Nat.blt r 234 then (bif Nat.blt r 232 then (bif Nat.beq r 231 then (bif Nat.beq w 0 && Nat.beq j 0 then some 8 else none) else none) else (bif Nat.blt r 233 then (bif Nat.beq r 232 then (bif Nat.beq w 0 && Nat.beq j 0 then some 8 else none) else none) else (bif Nat.beq r 233 then (bif Nat.beq w 0 && Nat.beq j 0 then some 8 else none) else none))) else (bif Nat.blt r 239 then (bif Nat.blt r 235 then (bif Nat.beq r 234 then (bif Nat.beq w 0 && Nat.beq j 0 then some 16 else none) else none) else (bif Nat.beq r 235 then (bif Nat.beq w 0 && Nat.beq j 0 then some 2 else none) else none)) else (bif Nat.blt r 242 then (bif Nat.beq r 239 then (bif Nat.beq w 0 && Nat.beq j 0 then some 120 else none) else none) else (bif Nat.beq r 242 then (bif Nat.beq w 0 && Nat.beq j 0 then some 1440 else none) else none)))))) else (bif Nat.blt r 261 then (bif Nat.blt r 251 then (bif Nat.blt r 246 then (bif Nat.blt r 244 then (bif Nat.beq r 243 then (bif Nat.beq w 0 && Nat.beq j 0 then some 12 else none) else none) else (bif Nat.blt r 245 then (bif Nat.beq r 244 then (bif Nat.beq w 0 && Nat.beq j 0 then some 12 else none) else none) else (bif Nat.beq r 245 then (bif Nat.beq w 0 && Nat.beq j 0 then some 24 else none) else none))) else (bif Nat.blt r 248 then (bif Nat.blt r 247 then (bif Nat.beq r 246 then (bif Nat.beq w 0 && Nat.beq j 0 then some 24 else none) else none) else (bif Nat.beq r 247 then (bif Nat.beq w 0 && Nat.beq j 0 then some 2000 else none) else none)) else (bif Nat.blt r 249 then (bif Nat.beq r 248 then (bif Nat.beq w 0 && Nat.beq j 0 then some 2 else none) else none) else (bif Nat.beq r 249 then (bif Nat.beq w 0 && Nat.beq j 0 then some 30000 else none) else none)))) else (bif Nat.blt r 254 then (bif Nat.blt r 252 then (bif Nat.beq r 251 then (bif Nat.beq w 0 && Nat.beq j 0 then some 60 else none) else none) else (bif Nat.blt r 253 then (bif Nat.beq r 252 then (bif Nat.beq w 0 && Nat.beq j 0 then some 60 else none) else none) else (bif Nat.beq r 253 then (bif Nat.beq w 0 && Nat.beq j 0 then some 60 else none) else none))) else (bif Nat.blt r 257 then (bif Nat.blt r 256 then (bif Nat.beq r 254 then (bif Nat.beq w 0 && Nat.beq j 0 then some 60 else none) else none) else (bif Nat.beq r 256 then (bif Nat.beq w 0 && Nat.beq j 0 then some 4 else none) else none)) else (bif Nat.blt r 258 then (bif Nat.beq r 257 then (bif Nat.beq w 0 && Nat.beq j 0 then some 4 else none) else none) else (bif Nat.beq r 258 then (bif Nat.beq w 0 && Nat.beq j 0 then some 4 else none) else none))))) else (bif Nat.blt r 300 then (bif Nat.blt r 264 then (bif Nat.blt r 262 then (bif Nat.beq r 261 then (bif Nat.beq w 0 && Nat.beq j 0 then some 40 else none) else none) else (bif Nat.blt r 263 then (bif Nat.beq r 262 then (bif Nat.beq w 0 && Nat.beq j 0 then some 800 else none) else none) else (bif Nat.beq r 263 then (bif Nat.beq w 0 && Nat.beq j 0 then some 6 else none) else none))) else (bif Nat.blt r 266 then (bif Nat.blt r 265 then (bif Nat.beq r 264 then (bif Nat.beq w 0 && Nat.beq j 0 then some 6 else none) else none) else (bif Nat.beq r 265 then (bif Nat.beq w 0 && Nat.beq j 0 then some 6 else none) else none)) else (bif Nat.blt r 272 then (bif Nat.beq r 266 then (bif Nat.beq w 0 && Nat.beq j 0 then some 6 else none) else none) else (bif Nat.beq r 272 then (bif Nat.beq w 0 && Nat.beq j 0 then some 7 else none) else none)))) else (bif Nat.blt r 303 then (bif Nat.blt r 301 then (bif Nat.beq r 300 then (bif Nat.beq w 0 && Nat.beq j 0 then some (g 11 0) else none) else none) else (bif Nat.blt r 302 then (bif Nat.beq r 301 then (bif Nat.beq w 0 && Nat.beq j 0 then some 5 else none) else none) else (bif Nat.beq r 302 then (bif Nat.beq w 0 && Nat.beq j 0 then some 5 else none) else none))) else (bif Nat.blt r 305 then (bif Nat.blt r 304 then (bif Nat.beq r 303 then (bif Nat.beq w 0 && Nat.beq j 0 then some 3 else none) else none) else (bif Nat.beq r 304 then (bif Nat.beq w 0 && Nat.beq j 0 then some 3 else none) else none)) else (bif Nat.blt r 306 then (bif Nat.beq r 305 then (bif Nat.beq w 0 && Nat.beq j 0 then some 3 else none) else none) else (bif Nat.beq r 306 then (bif Nat.beq w 0 && Nat.beq j 0 then some 16 else none) else none))))))))
def ss_ (g : Nat → Nat → Nat) (c n : Nat) : am_S := (ss_R g, ss_N g, c, n)
end
section
/-- a method's contract from a walk of its body: calls are a variable 'call' that takes every contract of one level less, 'K' takes the states at the cuts -/
theorem am_in {d y : Nat} {as : List am_V} {h : am_H} {q : am_Q} {cd : Nat → am_X} {m : Nat} (cut : Nat → Bool) (n : Nat) (hP : am_P y = (cd, m)) (hc : Nat.ble (am_cat as) m = true)
    (hv : ∀ (call : am_C) (K : Nat → am_L → List am_V → am_H → Prop), am_good call → (∀ {y as h q}, cl_ d y as h q → call y as h q) → (∀ {pc ls st h}, am_W am_rt call cd pc ls st h q → K pc ls st h) → am_seq (am_loc as m) (fun ls => am_vc am_rt call cd cut K q n 0 ls [] h)) : cl_ (d + 1) y as h q := by
  show (match am_P y with | (cd, m) => Nat.ble (am_cat as) m = true ∧ am_W am_rt (cl_ d) cd 0 (am_loc as m) [] h q)
  rw [hP]
  have h1 := hv (cl_ d) (fun pc ls st h => am_W am_rt (cl_ d) cd pc ls st h q) (am_call_good _ _ _) (fun h => h) (fun h => h)
  rw [am_seq_eq] at h1
  exact ⟨hc, am_W_vc (am_call_good _ _ _) cut n h1⟩
/-- from a place of the body on -/
theorem am_go {call : am_C} {cd : Nat → am_X} {q : am_Q} {pc : Nat} {ls : am_L} {st : List am_V} {h : am_H} (hg : am_good call) (cut : Nat → Bool) (n : Nat)
    (hv : ∀ (K : Nat → am_L → List am_V → am_H → Prop), (∀ {pc ls st h}, am_W am_rt call cd pc ls st h q → K pc ls st h) → am_vc am_rt call cd cut K q n pc ls st h) : am_W am_rt call cd pc ls st h q :=
  am_W_vc hg cut n (hv _ (fun h => h))
def am_no : Nat → Bool := fun _ => false
abbrev am_m : am_V := .inr (.inr (199, 0, 0))
end
section
-- ===== PART A: goes FIRST, ahead of the names: the tables' words, and 'selects' of the private methods out of them =====
/-- a private method of a class that the tables say can be made, by its rows of tables_1 -/
def lw_okq (q : MethodName × Nat) : Prop := (q.1.cls ≠ "java/lang/invoke/MethodHandle" ∧ q.1.cls ≠ "java/lang/invoke/VarHandle") ∧ Cond.instantiable q.1.cls q.2 ∈ tables_1 ∧ Cond.privateMethod q.1 ∈ tables_1 ∧ Cond.instanceMethod q.1 ∈ tables_1
theorem lw_p0 : lw_okq (⟨"CrowdOut", "refuse", "(I)I"⟩, 18) := ⟨⟨by decide +kernel, by decide +kernel⟩, List.mem_of_getElem? (i := 18) (by decide +kernel), List.mem_of_getElem? (i := 318) (by decide +kernel), List.mem_of_getElem? (i := 319) (by decide +kernel)⟩
theorem lw_p1 : lw_okq (⟨"CrowdOut", "linkRefusal", "(III)I"⟩, 18) := ⟨⟨by decide +kernel, by decide +kernel⟩, List.mem_of_getElem? (i := 18) (by decide +kernel), List.mem_of_getElem? (i := 444) (by decide +kernel), List.mem_of_getElem? (i := 445) (by decide +kernel)⟩
theorem lw_p2 : lw_okq (⟨"CrowdOut$World", "hear", "()V"⟩, 20) := ⟨⟨by decide +kernel, by decide +kernel⟩, List.mem_of_getElem? (i := 26) (by decide +kernel), List.mem_of_getElem? (i := 595) (by decide +kernel), List.mem_of_getElem? (i := 596) (by decide +kernel)⟩
theorem lw_p3 : lw_okq (⟨"CrowdOut$World", "perform", "(II)V"⟩, 20) := ⟨⟨by decide +kernel, by decide +kernel⟩, List.mem_of_getElem? (i := 26) (by decide +kernel), List.mem_of_getElem? (i := 599) (by decide +kernel), List.mem_of_getElem? (i := 600) (by decide +kernel)⟩
theorem lw_p4 : lw_okq (⟨"CrowdOut$World", "comeIn", "()V"⟩, 20) := ⟨⟨by decide +kernel, by decide +kernel⟩, List.mem_of_getElem? (i := 26) (by decide +kernel), List.mem_of_getElem? (i := 614) (by decide +kernel), List.mem_of_getElem? (i := 615) (by decide +kernel)⟩
theorem lw_p5 : lw_okq (⟨"CrowdOut$World", "arrive", "(LCrowdOut$Link;II)V"⟩, 20) := ⟨⟨by decide +kernel, by decide +kernel⟩, List.mem_of_getElem? (i := 26) (by decide +kernel), List.mem_of_getElem? (i := 622) (by decide +kernel), List.mem_of_getElem? (i := 623) (by decide +kernel)⟩
theorem lw_p6 : lw_okq (⟨"CrowdOut$World", "goOn", "()V"⟩, 20) := ⟨⟨by decide +kernel, by decide +kernel⟩, List.mem_of_getElem? (i := 26) (by decide +kernel), List.mem_of_getElem? (i := 627) (by decide +kernel), List.mem_of_getElem? (i := 628) (by decide +kernel)⟩
theorem lw_p7 : lw_okq (⟨"CrowdOut$World", "leave", "(III)V"⟩, 20) := ⟨⟨by decide +kernel, by decide +kernel⟩, List.mem_of_getElem? (i := 26) (by decide +kernel), List.mem_of_getElem? (i := 635) (by decide +kernel), List.mem_of_getElem? (i := 636) (by decide +kernel)⟩
theorem lw_p8 : lw_okq (⟨"CrowdOut$Ways", "shorten", "(LCrowdOut$World;IZ)Z"⟩, 4) := ⟨⟨by decide +kernel, by decide +kernel⟩, List.mem_of_getElem? (i := 85) (by decide +kernel), List.mem_of_getElem? (i := 649) (by decide +kernel), List.mem_of_getElem? (i := 650) (by decide +kernel)⟩
theorem lw_p9 : lw_okq (⟨"CrowdOut$World", "pressOn", "()V"⟩, 20) := ⟨⟨by decide +kernel, by decide +kernel⟩, List.mem_of_getElem? (i := 26) (by decide +kernel), List.mem_of_getElem? (i := 662) (by decide +kernel), List.mem_of_getElem? (i := 663) (by decide +kernel)⟩
theorem lw_p10 : lw_okq (⟨"CrowdOut$World", "board", "()V"⟩, 20) := ⟨⟨by decide +kernel, by decide +kernel⟩, List.mem_of_getElem? (i := 26) (by decide +kernel), List.mem_of_getElem? (i := 675) (by decide +kernel), List.mem_of_getElem? (i := 676) (by decide +kernel)⟩
theorem lw_p11 : lw_okq (⟨"CrowdOut$World", "ask", "()V"⟩, 20) := ⟨⟨by decide +kernel, by decide +kernel⟩, List.mem_of_getElem? (i := 26) (by decide +kernel), List.mem_of_getElem? (i := 683) (by decide +kernel), List.mem_of_getElem? (i := 684) (by decide +kernel)⟩
theorem lw_p12 : lw_okq (⟨"CrowdOut$World", "worth", "(II)I"⟩, 20) := ⟨⟨by decide +kernel, by decide +kernel⟩, List.mem_of_getElem? (i := 26) (by decide +kernel), List.mem_of_getElem? (i := 692) (by decide +kernel), List.mem_of_getElem? (i := 693) (by decide +kernel)⟩
theorem lw_p13 : lw_okq (⟨"CrowdOut$World", "give", "(I)V"⟩, 20) := ⟨⟨by decide +kernel, by decide +kernel⟩, List.mem_of_getElem? (i := 26) (by decide +kernel), List.mem_of_getElem? (i := 699) (by decide +kernel), List.mem_of_getElem? (i := 700) (by decide +kernel)⟩
theorem lw_p14 : lw_okq (⟨"CrowdOut$Reader", "readAnds", "(I)V"⟩, 9) := ⟨⟨by decide +kernel, by decide +kernel⟩, List.mem_of_getElem? (i := 199) (by decide +kernel), List.mem_of_getElem? (i := 750) (by decide +kernel), List.mem_of_getElem? (i := 751) (by decide +kernel)⟩
theorem lw_p15 : lw_okq (⟨"CrowdOut$Reader", "readTest", "(I)V"⟩, 9) := ⟨⟨by decide +kernel, by decide +kernel⟩, List.mem_of_getElem? (i := 199) (by decide +kernel), List.mem_of_getElem? (i := 754) (by decide +kernel), List.mem_of_getElem? (i := 755) (by decide +kernel)⟩
def lw_privs_1 : List (MethodName × Nat) := [(⟨"CrowdOut", "refuse", "(I)I"⟩, 18), (⟨"CrowdOut", "linkRefusal", "(III)I"⟩, 18), (⟨"CrowdOut$World", "hear", "()V"⟩, 20), (⟨"CrowdOut$World", "perform", "(II)V"⟩, 20), (⟨"CrowdOut$World", "comeIn", "()V"⟩, 20), (⟨"CrowdOut$World", "arrive", "(LCrowdOut$Link;II)V"⟩, 20), (⟨"CrowdOut$World", "goOn", "()V"⟩, 20), (⟨"CrowdOut$World", "leave", "(III)V"⟩, 20), (⟨"CrowdOut$Ways", "shorten", "(LCrowdOut$World;IZ)Z"⟩, 4), (⟨"CrowdOut$World", "pressOn", "()V"⟩, 20), (⟨"CrowdOut$World", "board", "()V"⟩, 20), (⟨"CrowdOut$World", "ask", "()V"⟩, 20), (⟨"CrowdOut$World", "worth", "(II)I"⟩, 20), (⟨"CrowdOut$World", "give", "(I)V"⟩, 20), (⟨"CrowdOut$Reader", "readAnds", "(I)V"⟩, 9), (⟨"CrowdOut$Reader", "readTest", "(I)V"⟩, 9)]
theorem lw_r1 : ∀ q ∈ lw_privs_1, lw_okq q := List.forall_mem_cons.mpr ⟨lw_p0, List.forall_mem_cons.mpr ⟨lw_p1, List.forall_mem_cons.mpr ⟨lw_p2, List.forall_mem_cons.mpr ⟨lw_p3, List.forall_mem_cons.mpr ⟨lw_p4, List.forall_mem_cons.mpr ⟨lw_p5, List.forall_mem_cons.mpr ⟨lw_p6, List.forall_mem_cons.mpr ⟨lw_p7, List.forall_mem_cons.mpr ⟨lw_p8, List.forall_mem_cons.mpr ⟨lw_p9, List.forall_mem_cons.mpr ⟨lw_p10, List.forall_mem_cons.mpr ⟨lw_p11, List.forall_mem_cons.mpr ⟨lw_p12, List.forall_mem_cons.mpr ⟨lw_p13, List.forall_mem_cons.mpr ⟨lw_p14, List.forall_mem_cons.mpr ⟨lw_p15, fun _ h => absurd h List.not_mem_nil⟩⟩⟩⟩⟩⟩⟩⟩⟩⟩⟩⟩⟩⟩⟩⟩
theorem lw_p16 : lw_okq (⟨"CrowdOut$Reader", "fail", "()V"⟩, 9) := ⟨⟨by decide +kernel, by decide +kernel⟩, List.mem_of_getElem? (i := 199) (by decide +kernel), List.mem_of_getElem? (i := 758) (by decide +kernel), List.mem_of_getElem? (i := 759) (by decide +kernel)⟩
theorem lw_p17 : lw_okq (⟨"CrowdOut$Reader", "step", "()V"⟩, 9) := ⟨⟨by decide +kernel, by decide +kernel⟩, List.mem_of_getElem? (i := 199) (by decide +kernel), List.mem_of_getElem? (i := 762) (by decide +kernel), List.mem_of_getElem? (i := 763) (by decide +kernel)⟩
theorem lw_p18 : lw_okq (⟨"CrowdOut$Reader", "put", "(II)V"⟩, 9) := ⟨⟨by decide +kernel, by decide +kernel⟩, List.mem_of_getElem? (i := 199) (by decide +kernel), List.mem_of_getElem? (i := 766) (by decide +kernel), List.mem_of_getElem? (i := 767) (by decide +kernel)⟩
theorem lw_p19 : lw_okq (⟨"CrowdOut$Reader", "stepOver", "(I)V"⟩, 9) := ⟨⟨by decide +kernel, by decide +kernel⟩, List.mem_of_getElem? (i := 199) (by decide +kernel), List.mem_of_getElem? (i := 771) (by decide +kernel), List.mem_of_getElem? (i := 772) (by decide +kernel)⟩
theorem lw_p20 : lw_okq (⟨"CrowdOut$Reader", "readSum", "()V"⟩, 9) := ⟨⟨by decide +kernel, by decide +kernel⟩, List.mem_of_getElem? (i := 199) (by decide +kernel), List.mem_of_getElem? (i := 775) (by decide +kernel), List.mem_of_getElem? (i := 776) (by decide +kernel)⟩
theorem lw_p21 : lw_okq (⟨"CrowdOut$Reader", "readUnit", "()V"⟩, 9) := ⟨⟨by decide +kernel, by decide +kernel⟩, List.mem_of_getElem? (i := 199) (by decide +kernel), List.mem_of_getElem? (i := 779) (by decide +kernel), List.mem_of_getElem? (i := 780) (by decide +kernel)⟩
theorem lw_p22 : lw_okq (⟨"CrowdOut$Reader", "readDigits", "(II)I"⟩, 9) := ⟨⟨by decide +kernel, by decide +kernel⟩, List.mem_of_getElem? (i := 199) (by decide +kernel), List.mem_of_getElem? (i := 786) (by decide +kernel), List.mem_of_getElem? (i := 787) (by decide +kernel)⟩
theorem lw_p23 : lw_okq (⟨"CrowdOut$Reader", "readAct", "()V"⟩, 9) := ⟨⟨by decide +kernel, by decide +kernel⟩, List.mem_of_getElem? (i := 199) (by decide +kernel), List.mem_of_getElem? (i := 794) (by decide +kernel), List.mem_of_getElem? (i := 795) (by decide +kernel)⟩
theorem lw_p24 : lw_okq (⟨"CrowdOut", "emptiedRow", "(II)I"⟩, 18) := ⟨⟨by decide +kernel, by decide +kernel⟩, List.mem_of_getElem? (i := 18) (by decide +kernel), List.mem_of_getElem? (i := 889) (by decide +kernel), List.mem_of_getElem? (i := 890) (by decide +kernel)⟩
theorem lw_p25 : lw_okq (⟨"CrowdOut$World", "copyGround", "(LCrowdOut$World;)V"⟩, 20) := ⟨⟨by decide +kernel, by decide +kernel⟩, List.mem_of_getElem? (i := 26) (by decide +kernel), List.mem_of_getElem? (i := 897) (by decide +kernel), List.mem_of_getElem? (i := 898) (by decide +kernel)⟩
theorem lw_p26 : lw_okq (⟨"CrowdOut$World", "isOver", "()Z"⟩, 20) := ⟨⟨by decide +kernel, by decide +kernel⟩, List.mem_of_getElem? (i := 26) (by decide +kernel), List.mem_of_getElem? (i := 930) (by decide +kernel), List.mem_of_getElem? (i := 931) (by decide +kernel)⟩
theorem lw_p27 : lw_okq (⟨"CrowdOut$World", "isStuck", "()Z"⟩, 20) := ⟨⟨by decide +kernel, by decide +kernel⟩, List.mem_of_getElem? (i := 26) (by decide +kernel), List.mem_of_getElem? (i := 939) (by decide +kernel), List.mem_of_getElem? (i := 940) (by decide +kernel)⟩
theorem lw_p28 : lw_okq (⟨"CrowdOut$World", "allOnWay", "()I"⟩, 20) := ⟨⟨by decide +kernel, by decide +kernel⟩, List.mem_of_getElem? (i := 26) (by decide +kernel), List.mem_of_getElem? (i := 943) (by decide +kernel), List.mem_of_getElem? (i := 944) (by decide +kernel)⟩
theorem lw_p29 : lw_okq (⟨"CrowdOut", "isEnough", "(III)Z"⟩, 18) := ⟨⟨by decide +kernel, by decide +kernel⟩, List.mem_of_getElem? (i := 18) (by decide +kernel), List.mem_of_getElem? (i := 970) (by decide +kernel), List.mem_of_getElem? (i := 971) (by decide +kernel)⟩
theorem lw_p30 : lw_okq (⟨"CrowdOutModel", "no", "(I)I"⟩, 75) := ⟨⟨by decide +kernel, by decide +kernel⟩, List.mem_of_getElem? (i := 998) (by decide +kernel), List.mem_of_getElem? (i := 1236) (by decide +kernel), List.mem_of_getElem? (i := 1237) (by decide +kernel)⟩
theorem lw_p31 : lw_okq (⟨"CrowdOutModel", "isArea", "(I)Z"⟩, 75) := ⟨⟨by decide +kernel, by decide +kernel⟩, List.mem_of_getElem? (i := 998) (by decide +kernel), List.mem_of_getElem? (i := 1244) (by decide +kernel), List.mem_of_getElem? (i := 1245) (by decide +kernel)⟩
def lw_privs_2 : List (MethodName × Nat) := [(⟨"CrowdOut$Reader", "fail", "()V"⟩, 9), (⟨"CrowdOut$Reader", "step", "()V"⟩, 9), (⟨"CrowdOut$Reader", "put", "(II)V"⟩, 9), (⟨"CrowdOut$Reader", "stepOver", "(I)V"⟩, 9), (⟨"CrowdOut$Reader", "readSum", "()V"⟩, 9), (⟨"CrowdOut$Reader", "readUnit", "()V"⟩, 9), (⟨"CrowdOut$Reader", "readDigits", "(II)I"⟩, 9), (⟨"CrowdOut$Reader", "readAct", "()V"⟩, 9), (⟨"CrowdOut", "emptiedRow", "(II)I"⟩, 18), (⟨"CrowdOut$World", "copyGround", "(LCrowdOut$World;)V"⟩, 20), (⟨"CrowdOut$World", "isOver", "()Z"⟩, 20), (⟨"CrowdOut$World", "isStuck", "()Z"⟩, 20), (⟨"CrowdOut$World", "allOnWay", "()I"⟩, 20), (⟨"CrowdOut", "isEnough", "(III)Z"⟩, 18), (⟨"CrowdOutModel", "no", "(I)I"⟩, 75), (⟨"CrowdOutModel", "isArea", "(I)Z"⟩, 75)]
theorem lw_r2 : ∀ q ∈ lw_privs_2, lw_okq q := List.forall_mem_cons.mpr ⟨lw_p16, List.forall_mem_cons.mpr ⟨lw_p17, List.forall_mem_cons.mpr ⟨lw_p18, List.forall_mem_cons.mpr ⟨lw_p19, List.forall_mem_cons.mpr ⟨lw_p20, List.forall_mem_cons.mpr ⟨lw_p21, List.forall_mem_cons.mpr ⟨lw_p22, List.forall_mem_cons.mpr ⟨lw_p23, List.forall_mem_cons.mpr ⟨lw_p24, List.forall_mem_cons.mpr ⟨lw_p25, List.forall_mem_cons.mpr ⟨lw_p26, List.forall_mem_cons.mpr ⟨lw_p27, List.forall_mem_cons.mpr ⟨lw_p28, List.forall_mem_cons.mpr ⟨lw_p29, List.forall_mem_cons.mpr ⟨lw_p30, List.forall_mem_cons.mpr ⟨lw_p31, fun _ h => absurd h List.not_mem_nil⟩⟩⟩⟩⟩⟩⟩⟩⟩⟩⟩⟩⟩⟩⟩⟩
theorem lw_p32 : lw_okq (⟨"CrowdOutModel", "barred", "(III)I"⟩, 75) := ⟨⟨by decide +kernel, by decide +kernel⟩, List.mem_of_getElem? (i := 998) (by decide +kernel), List.mem_of_getElem? (i := 1252) (by decide +kernel), List.mem_of_getElem? (i := 1253) (by decide +kernel)⟩
theorem lw_p33 : lw_okq (⟨"CrowdOutModel", "isLink", "(I)Z"⟩, 75) := ⟨⟨by decide +kernel, by decide +kernel⟩, List.mem_of_getElem? (i := 998) (by decide +kernel), List.mem_of_getElem? (i := 1256) (by decide +kernel), List.mem_of_getElem? (i := 1257) (by decide +kernel)⟩
theorem lw_p34 : lw_okq (⟨"CrowdOutModel", "addHeads", "(II)V"⟩, 75) := ⟨⟨by decide +kernel, by decide +kernel⟩, List.mem_of_getElem? (i := 998) (by decide +kernel), List.mem_of_getElem? (i := 1264) (by decide +kernel), List.mem_of_getElem? (i := 1265) (by decide +kernel)⟩
theorem lw_p35 : lw_okq (⟨"CrowdOutModel", "pressOf", "(I)I"⟩, 75) := ⟨⟨by decide +kernel, by decide +kernel⟩, List.mem_of_getElem? (i := 998) (by decide +kernel), List.mem_of_getElem? (i := 1268) (by decide +kernel), List.mem_of_getElem? (i := 1269) (by decide +kernel)⟩
theorem lw_p36 : lw_okq (⟨"CrowdOutModel", "isTrain", "(I)Z"⟩, 75) := ⟨⟨by decide +kernel, by decide +kernel⟩, List.mem_of_getElem? (i := 998) (by decide +kernel), List.mem_of_getElem? (i := 1280) (by decide +kernel), List.mem_of_getElem? (i := 1281) (by decide +kernel)⟩
theorem lw_p37 : lw_okq (⟨"CrowdOutModel", "wayOn", "(IIZ)I"⟩, 75) := ⟨⟨by decide +kernel, by decide +kernel⟩, List.mem_of_getElem? (i := 998) (by decide +kernel), List.mem_of_getElem? (i := 1292) (by decide +kernel), List.mem_of_getElem? (i := 1293) (by decide +kernel)⟩
theorem lw_p38 : lw_okq (⟨"CrowdOutModel", "far", "(IZ)I"⟩, 75) := ⟨⟨by decide +kernel, by decide +kernel⟩, List.mem_of_getElem? (i := 998) (by decide +kernel), List.mem_of_getElem? (i := 1296) (by decide +kernel), List.mem_of_getElem? (i := 1297) (by decide +kernel)⟩
theorem lw_p39 : lw_okq (⟨"CrowdOutModel", "lower", "(IIIZ)Z"⟩, 75) := ⟨⟨by decide +kernel, by decide +kernel⟩, List.mem_of_getElem? (i := 998) (by decide +kernel), List.mem_of_getElem? (i := 1300) (by decide +kernel), List.mem_of_getElem? (i := 1301) (by decide +kernel)⟩
theorem lw_p40 : lw_okq (⟨"CrowdOutModel", "endOf", "(II)I"⟩, 75) := ⟨⟨by decide +kernel, by decide +kernel⟩, List.mem_of_getElem? (i := 998) (by decide +kernel), List.mem_of_getElem? (i := 1304) (by decide +kernel), List.mem_of_getElem? (i := 1305) (by decide +kernel)⟩
theorem lw_p41 : lw_okq (⟨"CrowdOutModel", "goes", "(IIZ)Z"⟩, 75) := ⟨⟨by decide +kernel, by decide +kernel⟩, List.mem_of_getElem? (i := 998) (by decide +kernel), List.mem_of_getElem? (i := 1308) (by decide +kernel), List.mem_of_getElem? (i := 1309) (by decide +kernel)⟩
theorem lw_p42 : lw_okq (⟨"CrowdOutModel", "timeOf", "(II)I"⟩, 75) := ⟨⟨by decide +kernel, by decide +kernel⟩, List.mem_of_getElem? (i := 998) (by decide +kernel), List.mem_of_getElem? (i := 1312) (by decide +kernel), List.mem_of_getElem? (i := 1313) (by decide +kernel)⟩
theorem lw_p43 : lw_okq (⟨"CrowdOutModel", "pass", "()I"⟩, 75) := ⟨⟨by decide +kernel, by decide +kernel⟩, List.mem_of_getElem? (i := 998) (by decide +kernel), List.mem_of_getElem? (i := 1324) (by decide +kernel), List.mem_of_getElem? (i := 1325) (by decide +kernel)⟩
theorem lw_p44 : lw_okq (⟨"CrowdOutModel", "hear", "()V"⟩, 75) := ⟨⟨by decide +kernel, by decide +kernel⟩, List.mem_of_getElem? (i := 998) (by decide +kernel), List.mem_of_getElem? (i := 1328) (by decide +kernel), List.mem_of_getElem? (i := 1329) (by decide +kernel)⟩
theorem lw_p45 : lw_okq (⟨"CrowdOutModel", "isFolk", "(I)Z"⟩, 75) := ⟨⟨by decide +kernel, by decide +kernel⟩, List.mem_of_getElem? (i := 998) (by decide +kernel), List.mem_of_getElem? (i := 1332) (by decide +kernel), List.mem_of_getElem? (i := 1333) (by decide +kernel)⟩
theorem lw_p46 : lw_okq (⟨"CrowdOutModel", "arrive", "()I"⟩, 75) := ⟨⟨by decide +kernel, by decide +kernel⟩, List.mem_of_getElem? (i := 998) (by decide +kernel), List.mem_of_getElem? (i := 1336) (by decide +kernel), List.mem_of_getElem? (i := 1337) (by decide +kernel)⟩
theorem lw_p47 : lw_okq (⟨"CrowdOutModel", "comeIn", "(III)I"⟩, 75) := ⟨⟨by decide +kernel, by decide +kernel⟩, List.mem_of_getElem? (i := 998) (by decide +kernel), List.mem_of_getElem? (i := 1340) (by decide +kernel), List.mem_of_getElem? (i := 1341) (by decide +kernel)⟩
def lw_privs_3 : List (MethodName × Nat) := [(⟨"CrowdOutModel", "barred", "(III)I"⟩, 75), (⟨"CrowdOutModel", "isLink", "(I)Z"⟩, 75), (⟨"CrowdOutModel", "addHeads", "(II)V"⟩, 75), (⟨"CrowdOutModel", "pressOf", "(I)I"⟩, 75), (⟨"CrowdOutModel", "isTrain", "(I)Z"⟩, 75), (⟨"CrowdOutModel", "wayOn", "(IIZ)I"⟩, 75), (⟨"CrowdOutModel", "far", "(IZ)I"⟩, 75), (⟨"CrowdOutModel", "lower", "(IIIZ)Z"⟩, 75), (⟨"CrowdOutModel", "endOf", "(II)I"⟩, 75), (⟨"CrowdOutModel", "goes", "(IIZ)Z"⟩, 75), (⟨"CrowdOutModel", "timeOf", "(II)I"⟩, 75), (⟨"CrowdOutModel", "pass", "()I"⟩, 75), (⟨"CrowdOutModel", "hear", "()V"⟩, 75), (⟨"CrowdOutModel", "isFolk", "(I)Z"⟩, 75), (⟨"CrowdOutModel", "arrive", "()I"⟩, 75), (⟨"CrowdOutModel", "comeIn", "(III)I"⟩, 75)]
theorem lw_r3 : ∀ q ∈ lw_privs_3, lw_okq q := List.forall_mem_cons.mpr ⟨lw_p32, List.forall_mem_cons.mpr ⟨lw_p33, List.forall_mem_cons.mpr ⟨lw_p34, List.forall_mem_cons.mpr ⟨lw_p35, List.forall_mem_cons.mpr ⟨lw_p36, List.forall_mem_cons.mpr ⟨lw_p37, List.forall_mem_cons.mpr ⟨lw_p38, List.forall_mem_cons.mpr ⟨lw_p39, List.forall_mem_cons.mpr ⟨lw_p40, List.forall_mem_cons.mpr ⟨lw_p41, List.forall_mem_cons.mpr ⟨lw_p42, List.forall_mem_cons.mpr ⟨lw_p43, List.forall_mem_cons.mpr ⟨lw_p44, List.forall_mem_cons.mpr ⟨lw_p45, List.forall_mem_cons.mpr ⟨lw_p46, List.forall_mem_cons.mpr ⟨lw_p47, fun _ h => absurd h List.not_mem_nil⟩⟩⟩⟩⟩⟩⟩⟩⟩⟩⟩⟩⟩⟩⟩⟩
theorem lw_p48 : lw_okq (⟨"CrowdOutModel", "wayAt", "(IIII)I"⟩, 75) := ⟨⟨by decide +kernel, by decide +kernel⟩, List.mem_of_getElem? (i := 998) (by decide +kernel), List.mem_of_getElem? (i := 1344) (by decide +kernel), List.mem_of_getElem? (i := 1345) (by decide +kernel)⟩
theorem lw_p49 : lw_okq (⟨"CrowdOutModel", "goOn", "(II)V"⟩, 75) := ⟨⟨by decide +kernel, by decide +kernel⟩, List.mem_of_getElem? (i := 998) (by decide +kernel), List.mem_of_getElem? (i := 1348) (by decide +kernel), List.mem_of_getElem? (i := 1349) (by decide +kernel)⟩
theorem lw_p50 : lw_okq (⟨"CrowdOutModel", "pushes", "()V"⟩, 75) := ⟨⟨by decide +kernel, by decide +kernel⟩, List.mem_of_getElem? (i := 998) (by decide +kernel), List.mem_of_getElem? (i := 1353) (by decide +kernel), List.mem_of_getElem? (i := 1354) (by decide +kernel)⟩
theorem lw_p51 : lw_okq (⟨"CrowdOutModel", "carry", "()V"⟩, 75) := ⟨⟨by decide +kernel, by decide +kernel⟩, List.mem_of_getElem? (i := 998) (by decide +kernel), List.mem_of_getElem? (i := 1357) (by decide +kernel), List.mem_of_getElem? (i := 1358) (by decide +kernel)⟩
theorem lw_p52 : lw_okq (⟨"CrowdOutModel", "ask", "()V"⟩, 75) := ⟨⟨by decide +kernel, by decide +kernel⟩, List.mem_of_getElem? (i := 998) (by decide +kernel), List.mem_of_getElem? (i := 1361) (by decide +kernel), List.mem_of_getElem? (i := 1362) (by decide +kernel)⟩
theorem lw_p53 : lw_okq (⟨"CrowdOutModel", "wordsHold", "(I)Z"⟩, 75) := ⟨⟨by decide +kernel, by decide +kernel⟩, List.mem_of_getElem? (i := 998) (by decide +kernel), List.mem_of_getElem? (i := 1365) (by decide +kernel), List.mem_of_getElem? (i := 1366) (by decide +kernel)⟩
theorem lw_p54 : lw_okq (⟨"CrowdOutModel", "test", "(IZ)V"⟩, 75) := ⟨⟨by decide +kernel, by decide +kernel⟩, List.mem_of_getElem? (i := 998) (by decide +kernel), List.mem_of_getElem? (i := 1369) (by decide +kernel), List.mem_of_getElem? (i := 1370) (by decide +kernel)⟩
theorem lw_p55 : lw_okq (⟨"CrowdOutModel", "sum", "(I)I"⟩, 75) := ⟨⟨by decide +kernel, by decide +kernel⟩, List.mem_of_getElem? (i := 998) (by decide +kernel), List.mem_of_getElem? (i := 1373) (by decide +kernel), List.mem_of_getElem? (i := 1374) (by decide +kernel)⟩
theorem lw_p56 : lw_okq (⟨"CrowdOutModel", "unit", "(I)I"⟩, 75) := ⟨⟨by decide +kernel, by decide +kernel⟩, List.mem_of_getElem? (i := 998) (by decide +kernel), List.mem_of_getElem? (i := 1377) (by decide +kernel), List.mem_of_getElem? (i := 1378) (by decide +kernel)⟩
theorem lw_p57 : lw_okq (⟨"CrowdOutModel", "isOf", "(I)Z"⟩, 75) := ⟨⟨by decide +kernel, by decide +kernel⟩, List.mem_of_getElem? (i := 998) (by decide +kernel), List.mem_of_getElem? (i := 1381) (by decide +kernel), List.mem_of_getElem? (i := 1382) (by decide +kernel)⟩
theorem lw_p58 : lw_okq (⟨"CrowdOutModel", "twoDigits", "(I)I"⟩, 75) := ⟨⟨by decide +kernel, by decide +kernel⟩, List.mem_of_getElem? (i := 998) (by decide +kernel), List.mem_of_getElem? (i := 1385) (by decide +kernel), List.mem_of_getElem? (i := 1386) (by decide +kernel)⟩
theorem lw_p59 : lw_okq (⟨"CrowdOutModel", "give", "(I)V"⟩, 75) := ⟨⟨by decide +kernel, by decide +kernel⟩, List.mem_of_getElem? (i := 998) (by decide +kernel), List.mem_of_getElem? (i := 1389) (by decide +kernel), List.mem_of_getElem? (i := 1390) (by decide +kernel)⟩
theorem lw_p60 : lw_okq (⟨"CrowdOutModel", "onLink", "(II)I"⟩, 75) := ⟨⟨by decide +kernel, by decide +kernel⟩, List.mem_of_getElem? (i := 998) (by decide +kernel), List.mem_of_getElem? (i := 1401) (by decide +kernel), List.mem_of_getElem? (i := 1402) (by decide +kernel)⟩
theorem lw_p61 : lw_okq (⟨"CrowdOutModel", "fault", "()I"⟩, 75) := ⟨⟨by decide +kernel, by decide +kernel⟩, List.mem_of_getElem? (i := 998) (by decide +kernel), List.mem_of_getElem? (i := 1417) (by decide +kernel), List.mem_of_getElem? (i := 1418) (by decide +kernel)⟩
theorem lw_p62 : lw_okq (⟨"CrowdOutModel", "byteOf", "(I)I"⟩, 75) := ⟨⟨by decide +kernel, by decide +kernel⟩, List.mem_of_getElem? (i := 998) (by decide +kernel), List.mem_of_getElem? (i := 1421) (by decide +kernel), List.mem_of_getElem? (i := 1422) (by decide +kernel)⟩
theorem lw_p63 : lw_okq (⟨"CrowdOutModel", "behind", "(I)I"⟩, 75) := ⟨⟨by decide +kernel, by decide +kernel⟩, List.mem_of_getElem? (i := 998) (by decide +kernel), List.mem_of_getElem? (i := 1425) (by decide +kernel), List.mem_of_getElem? (i := 1426) (by decide +kernel)⟩
def lw_privs_4 : List (MethodName × Nat) := [(⟨"CrowdOutModel", "wayAt", "(IIII)I"⟩, 75), (⟨"CrowdOutModel", "goOn", "(II)V"⟩, 75), (⟨"CrowdOutModel", "pushes", "()V"⟩, 75), (⟨"CrowdOutModel", "carry", "()V"⟩, 75), (⟨"CrowdOutModel", "ask", "()V"⟩, 75), (⟨"CrowdOutModel", "wordsHold", "(I)Z"⟩, 75), (⟨"CrowdOutModel", "test", "(IZ)V"⟩, 75), (⟨"CrowdOutModel", "sum", "(I)I"⟩, 75), (⟨"CrowdOutModel", "unit", "(I)I"⟩, 75), (⟨"CrowdOutModel", "isOf", "(I)Z"⟩, 75), (⟨"CrowdOutModel", "twoDigits", "(I)I"⟩, 75), (⟨"CrowdOutModel", "give", "(I)V"⟩, 75), (⟨"CrowdOutModel", "onLink", "(II)I"⟩, 75), (⟨"CrowdOutModel", "fault", "()I"⟩, 75), (⟨"CrowdOutModel", "byteOf", "(I)I"⟩, 75), (⟨"CrowdOutModel", "behind", "(I)I"⟩, 75)]
theorem lw_r4 : ∀ q ∈ lw_privs_4, lw_okq q := List.forall_mem_cons.mpr ⟨lw_p48, List.forall_mem_cons.mpr ⟨lw_p49, List.forall_mem_cons.mpr ⟨lw_p50, List.forall_mem_cons.mpr ⟨lw_p51, List.forall_mem_cons.mpr ⟨lw_p52, List.forall_mem_cons.mpr ⟨lw_p53, List.forall_mem_cons.mpr ⟨lw_p54, List.forall_mem_cons.mpr ⟨lw_p55, List.forall_mem_cons.mpr ⟨lw_p56, List.forall_mem_cons.mpr ⟨lw_p57, List.forall_mem_cons.mpr ⟨lw_p58, List.forall_mem_cons.mpr ⟨lw_p59, List.forall_mem_cons.mpr ⟨lw_p60, List.forall_mem_cons.mpr ⟨lw_p61, List.forall_mem_cons.mpr ⟨lw_p62, List.forall_mem_cons.mpr ⟨lw_p63, fun _ h => absurd h List.not_mem_nil⟩⟩⟩⟩⟩⟩⟩⟩⟩⟩⟩⟩⟩⟩⟩⟩
theorem lw_p64 : lw_okq (⟨"CrowdOutModel", "isDigit", "(I)Z"⟩, 75) := ⟨⟨by decide +kernel, by decide +kernel⟩, List.mem_of_getElem? (i := 998) (by decide +kernel), List.mem_of_getElem? (i := 1429) (by decide +kernel), List.mem_of_getElem? (i := 1430) (by decide +kernel)⟩
theorem lw_p65 : lw_okq (⟨"CrowdOutModel", "isAct", "(I)Z"⟩, 75) := ⟨⟨by decide +kernel, by decide +kernel⟩, List.mem_of_getElem? (i := 998) (by decide +kernel), List.mem_of_getElem? (i := 1433) (by decide +kernel), List.mem_of_getElem? (i := 1434) (by decide +kernel)⟩
theorem lw_p66 : lw_okq (⟨"CrowdOutModel", "isOrder", "(I)Z"⟩, 75) := ⟨⟨by decide +kernel, by decide +kernel⟩, List.mem_of_getElem? (i := 998) (by decide +kernel), List.mem_of_getElem? (i := 1441) (by decide +kernel), List.mem_of_getElem? (i := 1442) (by decide +kernel)⟩
theorem lw_p67 : lw_okq (⟨"CrowdOutModel", "countOf", "(III)I"⟩, 75) := ⟨⟨by decide +kernel, by decide +kernel⟩, List.mem_of_getElem? (i := 998) (by decide +kernel), List.mem_of_getElem? (i := 1462) (by decide +kernel), List.mem_of_getElem? (i := 1463) (by decide +kernel)⟩
theorem lw_p68 : lw_okq (⟨"CrowdOutModel", "empty", "(II)V"⟩, 75) := ⟨⟨by decide +kernel, by decide +kernel⟩, List.mem_of_getElem? (i := 998) (by decide +kernel), List.mem_of_getElem? (i := 1474) (by decide +kernel), List.mem_of_getElem? (i := 1475) (by decide +kernel)⟩
theorem lw_p69 : lw_okq (⟨"CrowdOutModel", "copyGround", "()V"⟩, 75) := ⟨⟨by decide +kernel, by decide +kernel⟩, List.mem_of_getElem? (i := 998) (by decide +kernel), List.mem_of_getElem? (i := 1478) (by decide +kernel), List.mem_of_getElem? (i := 1479) (by decide +kernel)⟩
theorem lw_p70 : lw_okq (⟨"CrowdOutModel", "isOver", "()Z"⟩, 75) := ⟨⟨by decide +kernel, by decide +kernel⟩, List.mem_of_getElem? (i := 998) (by decide +kernel), List.mem_of_getElem? (i := 1482) (by decide +kernel), List.mem_of_getElem? (i := 1483) (by decide +kernel)⟩
theorem lw_p71 : lw_okq (⟨"CrowdOutModel", "sizeOf", "(I)I"⟩, 75) := ⟨⟨by decide +kernel, by decide +kernel⟩, List.mem_of_getElem? (i := 998) (by decide +kernel), List.mem_of_getElem? (i := 1498) (by decide +kernel), List.mem_of_getElem? (i := 1499) (by decide +kernel)⟩
theorem lw_p72 : lw_okq (⟨"CrowdOutModel", "bears", "(III)Z"⟩, 75) := ⟨⟨by decide +kernel, by decide +kernel⟩, List.mem_of_getElem? (i := 998) (by decide +kernel), List.mem_of_getElem? (i := 1502) (by decide +kernel), List.mem_of_getElem? (i := 1503) (by decide +kernel)⟩
theorem lw_p73 : lw_okq (⟨"CrowdOutModel", "sumOf", "(I)I"⟩, 75) := ⟨⟨by decide +kernel, by decide +kernel⟩, List.mem_of_getElem? (i := 998) (by decide +kernel), List.mem_of_getElem? (i := 1510) (by decide +kernel), List.mem_of_getElem? (i := 1511) (by decide +kernel)⟩
def lw_privs_5 : List (MethodName × Nat) := [(⟨"CrowdOutModel", "isDigit", "(I)Z"⟩, 75), (⟨"CrowdOutModel", "isAct", "(I)Z"⟩, 75), (⟨"CrowdOutModel", "isOrder", "(I)Z"⟩, 75), (⟨"CrowdOutModel", "countOf", "(III)I"⟩, 75), (⟨"CrowdOutModel", "empty", "(II)V"⟩, 75), (⟨"CrowdOutModel", "copyGround", "()V"⟩, 75), (⟨"CrowdOutModel", "isOver", "()Z"⟩, 75), (⟨"CrowdOutModel", "sizeOf", "(I)I"⟩, 75), (⟨"CrowdOutModel", "bears", "(III)Z"⟩, 75), (⟨"CrowdOutModel", "sumOf", "(I)I"⟩, 75)]
theorem lw_r5 : ∀ q ∈ lw_privs_5, lw_okq q := List.forall_mem_cons.mpr ⟨lw_p64, List.forall_mem_cons.mpr ⟨lw_p65, List.forall_mem_cons.mpr ⟨lw_p66, List.forall_mem_cons.mpr ⟨lw_p67, List.forall_mem_cons.mpr ⟨lw_p68, List.forall_mem_cons.mpr ⟨lw_p69, List.forall_mem_cons.mpr ⟨lw_p70, List.forall_mem_cons.mpr ⟨lw_p71, List.forall_mem_cons.mpr ⟨lw_p72, List.forall_mem_cons.mpr ⟨lw_p73, fun _ h => absurd h List.not_mem_nil⟩⟩⟩⟩⟩⟩⟩⟩⟩⟩
def lw_privs : List (MethodName × Nat) := lw_privs_1 ++ (lw_privs_2 ++ (lw_privs_3 ++ (lw_privs_4 ++ (lw_privs_5))))
def lw_tbl : List Cond := k2_sels lw_privs ++ tables_1
theorem lw_privs_ok : ∀ q ∈ lw_privs, lw_okq q := by
  show ∀ q ∈ lw_privs_1 ++ (lw_privs_2 ++ (lw_privs_3 ++ (lw_privs_4 ++ (lw_privs_5)))), lw_okq q
  exact List.forall_mem_append.mpr ⟨lw_r1, List.forall_mem_append.mpr ⟨lw_r2, List.forall_mem_append.mpr ⟨lw_r3, List.forall_mem_append.mpr ⟨lw_r4, lw_r5⟩⟩⟩⟩
def RX0 : String := "CrowdOut$Area"
def TX0 : u_T := fun k => match k with
  | 0 => ("CrowdOut$Area", "kind", "I", true)
  | 1 => ("CrowdOut$Area", "room", "I", true)
  | 2 => ("CrowdOut$Area", "heads", "I", false)
  | 3 => ("CrowdOut$Area", "coming", "I", false)
  | 4 => ("CrowdOut$Area", "waits", "I", false)
  | 5 => ("CrowdOut$Area", "push", "I", false)
  | 6 => ("CrowdOut$Area", "fell", "I", false)
  | 7 => ("CrowdOut$Area", "peak", "I", false)
  | 8 => ("CrowdOut$Area", "firstFell", "I", false)
  | _ => ("CrowdOut$Area", "tight", "Z", false)
def tyX0 : Nat → FieldType := fun k => match k with
  | 0 => .int
  | 1 => .int
  | 2 => .int
  | 3 => .int
  | 4 => .int
  | 5 => .int
  | 6 => .int
  | 7 => .int
  | 8 => .int
  | _ => .boolean
theorem nmX0 : ∀ a, a < 10 → ∀ b, b < 10 → a ≠ b → (TX0 a).2.1 ≠ (TX0 b).2.1 := by decide +kernel
theorem tyX0_ok : ∀ k, k < 10 → parseFieldDescriptor (TX0 k).2.2.1 = some (tyX0 k) := by decide +kernel
def RX1 : String := "CrowdOut$Folk"
def TX1 : u_T := fun k => match k with
  | 0 => ("CrowdOut$Folk", "home", "I", true)
  | 1 => ("CrowdOut$Folk", "heads", "I", true)
  | 2 => ("CrowdOut$Folk", "goal", "I", true)
  | 3 => ("CrowdOut$Folk", "kind", "I", true)
  | 4 => ("CrowdOut$Folk", "turned", "Z", false)
  | 5 => ("CrowdOut$Folk", "in", "[I", true)
  | 6 => ("CrowdOut$Folk", "came", "[I", true)
  | 7 => ("CrowdOut$Folk", "inAreas", "I", false)
  | 8 => ("CrowdOut$Folk", "outs", "I", false)
  | _ => ("CrowdOut$Folk", "lastOut", "I", false)
def tyX1 : Nat → FieldType := fun k => match k with
  | 0 => .int
  | 1 => .int
  | 2 => .int
  | 3 => .int
  | 4 => .boolean
  | 5 => .array .int
  | 6 => .array .int
  | 7 => .int
  | 8 => .int
  | _ => .int
theorem nmX1 : ∀ a, a < 10 → ∀ b, b < 10 → a ≠ b → (TX1 a).2.1 ≠ (TX1 b).2.1 := by decide +kernel
theorem tyX1_ok : ∀ k, k < 10 → parseFieldDescriptor (TX1 k).2.2.1 = some (tyX1 k) := by decide +kernel
def RX2 : String := "CrowdOut$Given"
def TX2 : u_T := fun k => match k with
  | 0 => ("CrowdOut$Given", "order", "[I", true)
  | 1 => ("CrowdOut$Given", "tick", "[I", true)
  | 2 => ("CrowdOut$Given", "act", "[I", true)
  | 3 => ("CrowdOut$Given", "number", "[I", true)
  | 4 => ("CrowdOut$Given", "heard", "[I", true)
  | 5 => ("CrowdOut$Given", "length", "I", false)
  | _ => ("CrowdOut$Given", "firstUnheard", "I", false)
def tyX2 : Nat → FieldType := fun k => match k with
  | 0 => .array .int
  | 1 => .array .int
  | 2 => .array .int
  | 3 => .array .int
  | 4 => .array .int
  | 5 => .int
  | _ => .int
theorem nmX2 : ∀ a, a < 7 → ∀ b, b < 7 → a ≠ b → (TX2 a).2.1 ≠ (TX2 b).2.1 := by decide +kernel
theorem tyX2_ok : ∀ k, k < 7 → parseFieldDescriptor (TX2 k).2.2.1 = some (tyX2 k) := by decide +kernel
def RX3 : String := "CrowdOut$Link"
def TX3 : u_T := fun k => match k with
  | 0 => ("CrowdOut$Link", "a", "I", true)
  | 1 => ("CrowdOut$Link", "b", "I", true)
  | 2 => ("CrowdOut$Link", "far", "I", true)
  | 3 => ("CrowdOut$Link", "setting", "[I", true)
  | 4 => ("CrowdOut$Link", "went", "I", false)
  | 5 => ("CrowdOut$Link", "way", "[I", true)
  | 6 => ("CrowdOut$Link", "wayAll", "[I", true)
  | _ => ("CrowdOut$Link", "history", "[I", false)
def tyX3 : Nat → FieldType := fun k => match k with
  | 0 => .int
  | 1 => .int
  | 2 => .int
  | 3 => .array .int
  | 4 => .int
  | 5 => .array .int
  | 6 => .array .int
  | _ => .array .int
theorem nmX3 : ∀ a, a < 8 → ∀ b, b < 8 → a ≠ b → (TX3 a).2.1 ≠ (TX3 b).2.1 := by decide +kernel
theorem tyX3_ok : ∀ k, k < 8 → parseFieldDescriptor (TX3 k).2.2.1 = some (tyX3 k) := by decide +kernel
def RX4 : String := "CrowdOut$Order"
def TX4 : u_T := fun k => match k with
  | 0 => ("CrowdOut$Order", "tests", "[I", true)
  | 1 => ("CrowdOut$Order", "acts", "[I", true)
  | _ => ("CrowdOut$Order", "stands", "Z", false)
def tyX4 : Nat → FieldType := fun k => match k with
  | 0 => .array .int
  | 1 => .array .int
  | _ => .boolean
theorem nmX4 : ∀ a, a < 3 → ∀ b, b < 3 → a ≠ b → (TX4 a).2.1 ≠ (TX4 b).2.1 := by decide +kernel
theorem tyX4_ok : ∀ k, k < 3 → parseFieldDescriptor (TX4 k).2.2.1 = some (tyX4 k) := by decide +kernel
def RX5 : String := "CrowdOut$Reader"
def TX5 : u_T := fun k => match k with
  | 0 => ("CrowdOut$Reader", "tape", "[I", true)
  | 1 => ("CrowdOut$Reader", "length", "I", false)
  | 2 => ("CrowdOut$Reader", "fault", "I", false)
  | 3 => ("CrowdOut$Reader", "at", "I", false)
  | 4 => ("CrowdOut$Reader", "sign", "I", false)
  | 5 => ("CrowdOut$Reader", "tests", "[I", true)
  | 6 => ("CrowdOut$Reader", "testCount", "I", false)
  | 7 => ("CrowdOut$Reader", "acts", "[I", true)
  | _ => ("CrowdOut$Reader", "actCount", "I", false)
def tyX5 : Nat → FieldType := fun k => match k with
  | 0 => .array .int
  | 1 => .int
  | 2 => .int
  | 3 => .int
  | 4 => .int
  | 5 => .array .int
  | 6 => .int
  | 7 => .array .int
  | _ => .int
theorem nmX5 : ∀ a, a < 9 → ∀ b, b < 9 → a ≠ b → (TX5 a).2.1 ≠ (TX5 b).2.1 := by decide +kernel
theorem tyX5_ok : ∀ k, k < 9 → parseFieldDescriptor (TX5 k).2.2.1 = some (tyX5 k) := by decide +kernel
def RX6 : String := "CrowdOut$Tellings"
def TX6 : u_T := fun k => match k with
  | 0 => ("CrowdOut$Tellings", "link", "[I", true)
  | 1 => ("CrowdOut$Tellings", "tick", "[I", true)
  | 2 => ("CrowdOut$Tellings", "told", "[I", true)
  | 3 => ("CrowdOut$Tellings", "heads", "[I", true)
  | _ => ("CrowdOut$Tellings", "length", "I", false)
def tyX6 : Nat → FieldType := fun k => match k with
  | 0 => .array .int
  | 1 => .array .int
  | 2 => .array .int
  | 3 => .array .int
  | _ => .int
theorem nmX6 : ∀ a, a < 5 → ∀ b, b < 5 → a ≠ b → (TX6 a).2.1 ≠ (TX6 b).2.1 := by decide +kernel
theorem tyX6_ok : ∀ k, k < 5 → parseFieldDescriptor (TX6 k).2.2.1 = some (tyX6 k) := by decide +kernel
def RX7 : String := "CrowdOut$Train"
def TX7 : u_T := fun k => match k with
  | 0 => ("CrowdOut$Train", "area", "I", true)
  | 1 => ("CrowdOut$Train", "first", "I", true)
  | 2 => ("CrowdOut$Train", "every", "I", true)
  | 3 => ("CrowdOut$Train", "takes", "I", true)
  | 4 => ("CrowdOut$Train", "taken", "I", false)
  | _ => ("CrowdOut$Train", "held", "Z", false)
def tyX7 : Nat → FieldType := fun k => match k with
  | 0 => .int
  | 1 => .int
  | 2 => .int
  | 3 => .int
  | 4 => .int
  | _ => .boolean
theorem nmX7 : ∀ a, a < 6 → ∀ b, b < 6 → a ≠ b → (TX7 a).2.1 ≠ (TX7 b).2.1 := by decide +kernel
theorem tyX7_ok : ∀ k, k < 6 → parseFieldDescriptor (TX7 k).2.2.1 = some (tyX7 k) := by decide +kernel
def RX8 : String := "CrowdOut$Ways"
def TX8 : u_T := fun k => match k with
  | 0 => ("CrowdOut$Ways", "time", "[I", true)
  | 1 => ("CrowdOut$Ways", "first", "[I", true)
  | 2 => ("CrowdOut$Ways", "filled", "[I", true)
  | _ => ("CrowdOut$Ways", "filling", "I", false)
def tyX8 : Nat → FieldType := fun k => match k with
  | 0 => .array .int
  | 1 => .array .int
  | 2 => .array .int
  | _ => .int
theorem nmX8 : ∀ a, a < 4 → ∀ b, b < 4 → a ≠ b → (TX8 a).2.1 ≠ (TX8 b).2.1 := by decide +kernel
theorem tyX8_ok : ∀ k, k < 4 → parseFieldDescriptor (TX8 k).2.2.1 = some (tyX8 k) := by decide +kernel
def RX9 : String := "CrowdOut$World"
def TX9 : u_T := fun k => match k with
  | 0 => ("CrowdOut$World", "areas", "[LCrowdOut$Area;", true)
  | 1 => ("CrowdOut$World", "areaCount", "I", false)
  | 2 => ("CrowdOut$World", "links", "[LCrowdOut$Link;", true)
  | 3 => ("CrowdOut$World", "linkCount", "I", false)
  | 4 => ("CrowdOut$World", "folks", "[LCrowdOut$Folk;", true)
  | 5 => ("CrowdOut$World", "folkCount", "I", false)
  | 6 => ("CrowdOut$World", "trains", "[LCrowdOut$Train;", true)
  | 7 => ("CrowdOut$World", "trainCount", "I", false)
  | 8 => ("CrowdOut$World", "orders", "[LCrowdOut$Order;", false)
  | 9 => ("CrowdOut$World", "orderCount", "I", false)
  | 10 => ("CrowdOut$World", "held", "[Z", true)
  | 11 => ("CrowdOut$World", "given", "LCrowdOut$Given;", true)
  | 12 => ("CrowdOut$World", "ways", "LCrowdOut$Ways;", true)
  | 13 => ("CrowdOut$World", "rule", "[I", true)
  | 14 => ("CrowdOut$World", "tick", "I", false)
  | 15 => ("CrowdOut$World", "block", "I", false)
  | 16 => ("CrowdOut$World", "topPress", "I", false)
  | 17 => ("CrowdOut$World", "topArea", "I", false)
  | 18 => ("CrowdOut$World", "arrived", "Z", false)
  | _ => ("CrowdOut$World", "stack", "[I", true)
def tyX9 : Nat → FieldType := fun k => match k with
  | 0 => .array (.object "CrowdOut$Area")
  | 1 => .int
  | 2 => .array (.object "CrowdOut$Link")
  | 3 => .int
  | 4 => .array (.object "CrowdOut$Folk")
  | 5 => .int
  | 6 => .array (.object "CrowdOut$Train")
  | 7 => .int
  | 8 => .array (.object "CrowdOut$Order")
  | 9 => .int
  | 10 => .array .boolean
  | 11 => .object "CrowdOut$Given"
  | 12 => .object "CrowdOut$Ways"
  | 13 => .array .int
  | 14 => .int
  | 15 => .int
  | 16 => .int
  | 17 => .int
  | 18 => .boolean
  | _ => .array .int
theorem nmX9 : ∀ a, a < 20 → ∀ b, b < 20 → a ≠ b → (TX9 a).2.1 ≠ (TX9 b).2.1 := by decide +kernel
theorem tyX9_ok : ∀ k, k < 20 → parseFieldDescriptor (TX9 k).2.2.1 = some (tyX9 k) := by decide +kernel
def RX10 : String := "CrowdOut"
def TX10 : u_T := fun k => match k with
  | 0 => ("CrowdOut", "world", "LCrowdOut$World;", true)
  | 1 => ("CrowdOut", "trial", "LCrowdOut$World;", true)
  | 2 => ("CrowdOut", "reader", "LCrowdOut$Reader;", true)
  | 3 => ("CrowdOut", "tellings", "LCrowdOut$Tellings;", true)
  | 4 => ("CrowdOut", "refusals", "[I", true)
  | 5 => ("CrowdOut", "optionLink", "[I", true)
  | 6 => ("CrowdOut", "optionWhat", "[I", true)
  | 7 => ("CrowdOut", "optionValue", "[I", true)
  | 8 => ("CrowdOut", "options", "I", false)
  | 9 => ("CrowdOut", "stamp", "I", false)
  | 10 => ("CrowdOut", "emptied", "[I", true)
  | 11 => ("CrowdOut", "emptiedStamp", "[I", true)
  | 12 => ("CrowdOut", "designStamp", "I", false)
  | 13 => ("CrowdOut", "designTicks", "I", false)
  | 14 => ("CrowdOut", "designPress", "I", false)
  | 15 => ("CrowdOut", "designBits", "I", false)
  | 16 => ("CrowdOut", "designWorstTicks", "I", false)
  | _ => ("CrowdOut", "designWorstPress", "I", false)
def tyX10 : Nat → FieldType := fun k => match k with
  | 0 => .object "CrowdOut$World"
  | 1 => .object "CrowdOut$World"
  | 2 => .object "CrowdOut$Reader"
  | 3 => .object "CrowdOut$Tellings"
  | 4 => .array .int
  | 5 => .array .int
  | 6 => .array .int
  | 7 => .array .int
  | 8 => .int
  | 9 => .int
  | 10 => .array .int
  | 11 => .array .int
  | 12 => .int
  | 13 => .int
  | 14 => .int
  | 15 => .int
  | 16 => .int
  | _ => .int
theorem nmX10 : ∀ a, a < 18 → ∀ b, b < 18 → a ≠ b → (TX10 a).2.1 ≠ (TX10 b).2.1 := by decide +kernel
theorem tyX10_ok : ∀ k, k < 18 → parseFieldDescriptor (TX10 k).2.2.1 = some (tyX10 k) := by decide +kernel
def RX11 : String := "CrowdOutModel"
def TX11 : u_T := fun k => match k with
  | 0 => ("CrowdOutModel", "z", "I", false)
  | 1 => ("CrowdOutModel", "tickNow", "[I", true)
  | 2 => ("CrowdOutModel", "areas", "I", false)
  | 3 => ("CrowdOutModel", "arKind", "[I", true)
  | 4 => ("CrowdOutModel", "arRoom", "[I", true)
  | 5 => ("CrowdOutModel", "headsIn", "[I", true)
  | 6 => ("CrowdOutModel", "toward", "[I", true)
  | 7 => ("CrowdOutModel", "waits", "[I", true)
  | 8 => ("CrowdOutModel", "push", "[I", true)
  | 9 => ("CrowdOutModel", "fell", "[I", true)
  | 10 => ("CrowdOutModel", "topPress", "[I", true)
  | 11 => ("CrowdOutModel", "firstFell", "[I", true)
  | 12 => ("CrowdOutModel", "links", "I", false)
  | 13 => ("CrowdOutModel", "liA", "[I", true)
  | 14 => ("CrowdOutModel", "liB", "[I", true)
  | 15 => ("CrowdOutModel", "liFar", "[I", true)
  | 16 => ("CrowdOutModel", "liSet", "[I", true)
  | 17 => ("CrowdOutModel", "took", "[I", true)
  | 18 => ("CrowdOutModel", "folks", "I", false)
  | 19 => ("CrowdOutModel", "foHome", "[I", true)
  | 20 => ("CrowdOutModel", "foHeads", "[I", true)
  | 21 => ("CrowdOutModel", "foGoal", "[I", true)
  | 22 => ("CrowdOutModel", "foKind", "[I", true)
  | 23 => ("CrowdOutModel", "turned", "[Z", true)
  | 24 => ("CrowdOutModel", "outOf", "[I", true)
  | 25 => ("CrowdOutModel", "lastOut", "[I", true)
  | 26 => ("CrowdOutModel", "inArea", "[I", true)
  | 27 => ("CrowdOutModel", "came", "[I", true)
  | 28 => ("CrowdOutModel", "onWay", "[I", true)
  | 29 => ("CrowdOutModel", "trains", "I", false)
  | 30 => ("CrowdOutModel", "trArea", "[I", true)
  | 31 => ("CrowdOutModel", "trFirst", "[I", true)
  | 32 => ("CrowdOutModel", "trEvery", "[I", true)
  | 33 => ("CrowdOutModel", "trTakes", "[I", true)
  | 34 => ("CrowdOutModel", "held", "[Z", true)
  | 35 => ("CrowdOutModel", "taken", "[I", true)
  | 36 => ("CrowdOutModel", "pace", "I", false)
  | 37 => ("CrowdOutModel", "tight", "I", false)
  | 38 => ("CrowdOutModel", "longer", "I", false)
  | 39 => ("CrowdOutModel", "tape", "[B", true)
  | 40 => ("CrowdOutModel", "taped", "I", false)
  | 41 => ("CrowdOutModel", "orders", "I", false)
  | 42 => ("CrowdOutModel", "text", "[B", true)
  | 43 => ("CrowdOutModel", "length", "[I", true)
  | 44 => ("CrowdOutModel", "stands", "[Z", true)
  | 45 => ("CrowdOutModel", "asked", "[I", true)
  | 46 => ("CrowdOutModel", "held1", "[Z", true)
  | 47 => ("CrowdOutModel", "givenOf", "[I", true)
  | 48 => ("CrowdOutModel", "givens", "[I", true)
  | 49 => ("CrowdOutModel", "went", "[S", true)
  | 50 => ("CrowdOutModel", "tellings", "I", false)
  | 51 => ("CrowdOutModel", "teLink", "[I", true)
  | 52 => ("CrowdOutModel", "teTick", "[I", true)
  | 53 => ("CrowdOutModel", "teHeads", "[I", true)
  | 54 => ("CrowdOutModel", "teKnown", "[I", true)
  | 55 => ("CrowdOutModel", "options", "I", false)
  | 56 => ("CrowdOutModel", "opLink", "[I", true)
  | 57 => ("CrowdOutModel", "opWhat", "[I", true)
  | 58 => ("CrowdOutModel", "opTo", "[I", true)
  | 59 => ("CrowdOutModel", "blocked", "I", false)
  | 60 => ("CrowdOutModel", "roads", "I", false)
  | 61 => ("CrowdOutModel", "roadsAt", "[I", true)
  | 62 => ("CrowdOutModel", "dist", "[I", true)
  | 63 => ("CrowdOutModel", "nots", "[I", true)
  | 64 => ("CrowdOutModel", "anyOf", "[Z", true)
  | 65 => ("CrowdOutModel", "allOf", "[Z", true)
  | 66 => ("CrowdOutModel", "not", "[Z", true)
  | 67 => ("CrowdOutModel", "at", "I", false)
  | 68 => ("CrowdOutModel", "emptyTicks", "I", false)
  | 69 => ("CrowdOutModel", "emptyPress", "I", false)
  | 70 => ("CrowdOutModel", "emptyArea", "I", false)
  | 71 => ("CrowdOutModel", "emptyFell", "I", false)
  | 72 => ("CrowdOutModel", "refusals", "[I", true)
  | 73 => ("CrowdOutModel", "worstTicks", "I", false)
  | _ => ("CrowdOutModel", "worstPress", "I", false)
def tyX11 : Nat → FieldType := fun k => match k with
  | 0 => .int
  | 1 => .array .int
  | 2 => .int
  | 3 => .array .int
  | 4 => .array .int
  | 5 => .array .int
  | 6 => .array .int
  | 7 => .array .int
  | 8 => .array .int
  | 9 => .array .int
  | 10 => .array .int
  | 11 => .array .int
  | 12 => .int
  | 13 => .array .int
  | 14 => .array .int
  | 15 => .array .int
  | 16 => .array .int
  | 17 => .array .int
  | 18 => .int
  | 19 => .array .int
  | 20 => .array .int
  | 21 => .array .int
  | 22 => .array .int
  | 23 => .array .boolean
  | 24 => .array .int
  | 25 => .array .int
  | 26 => .array .int
  | 27 => .array .int
  | 28 => .array .int
  | 29 => .int
  | 30 => .array .int
  | 31 => .array .int
  | 32 => .array .int
  | 33 => .array .int
  | 34 => .array .boolean
  | 35 => .array .int
  | 36 => .int
  | 37 => .int
  | 38 => .int
  | 39 => .array .byte
  | 40 => .int
  | 41 => .int
  | 42 => .array .byte
  | 43 => .array .int
  | 44 => .array .boolean
  | 45 => .array .int
  | 46 => .array .boolean
  | 47 => .array .int
  | 48 => .array .int
  | 49 => .array .short
  | 50 => .int
  | 51 => .array .int
  | 52 => .array .int
  | 53 => .array .int
  | 54 => .array .int
  | 55 => .int
  | 56 => .array .int
  | 57 => .array .int
  | 58 => .array .int
  | 59 => .int
  | 60 => .int
  | 61 => .array .int
  | 62 => .array .int
  | 63 => .array .int
  | 64 => .array .boolean
  | 65 => .array .boolean
  | 66 => .array .boolean
  | 67 => .int
  | 68 => .int
  | 69 => .int
  | 70 => .int
  | 71 => .int
  | 72 => .array .int
  | 73 => .int
  | _ => .int
theorem nmX11 : ∀ a, a < 75 → ∀ b, b < 75 → a ≠ b → (TX11 a).2.1 ≠ (TX11 b).2.1 := by decide +kernel
theorem tyX11_ok : ∀ k, k < 75 → parseFieldDescriptor (TX11 k).2.2.1 = some (tyX11 k) := by decide +kernel
abbrev am_cls : List vw_C := [(RX0, TX0, 10), (RX1, TX1, 10), (RX2, TX2, 7), (RX3, TX3, 8), (RX4, TX4, 3), (RX5, TX5, 9), (RX6, TX6, 5), (RX7, TX7, 6), (RX8, TX8, 4), (RX9, TX9, 20), (RX10, TX10, 18), (RX11, TX11, 75)]
theorem inX0 : ∀ w ∈ u_ws RX0 TX0 10, w ∈ lw_tbl := by decide +kernel
theorem inX1 : ∀ w ∈ u_ws RX1 TX1 10, w ∈ lw_tbl := by decide +kernel
theorem inX2 : ∀ w ∈ u_ws RX2 TX2 7, w ∈ lw_tbl := by decide +kernel
theorem inX3 : ∀ w ∈ u_ws RX3 TX3 8, w ∈ lw_tbl := by decide +kernel
theorem inX4 : ∀ w ∈ u_ws RX4 TX4 3, w ∈ lw_tbl := by decide +kernel
theorem inX5 : ∀ w ∈ u_ws RX5 TX5 9, w ∈ lw_tbl := by decide +kernel
theorem inX6 : ∀ w ∈ u_ws RX6 TX6 5, w ∈ lw_tbl := by decide +kernel
theorem inX7 : ∀ w ∈ u_ws RX7 TX7 6, w ∈ lw_tbl := by decide +kernel
theorem inX8 : ∀ w ∈ u_ws RX8 TX8 4, w ∈ lw_tbl := by decide +kernel
theorem inX9 : ∀ w ∈ u_ws RX9 TX9 20, w ∈ lw_tbl := by decide +kernel
theorem inX10 : ∀ w ∈ u_ws RX10 TX10 18, w ∈ lw_tbl := by decide +kernel
theorem inX11 : ∀ w ∈ u_ws RX11 TX11 75, w ∈ lw_tbl := by decide +kernel
/-- the words that a callee may take over -/
def so_G : List Cond := lw_tbl.filter goodWord
theorem igX0 : ∀ w ∈ u_ws RX0 TX0 10, w ∈ so_G := fun w h => List.mem_filter.mpr ⟨inX0 w h, (by decide +kernel : ∀ w ∈ u_ws RX0 TX0 10, goodWord w = true) w h⟩
theorem igX1 : ∀ w ∈ u_ws RX1 TX1 10, w ∈ so_G := fun w h => List.mem_filter.mpr ⟨inX1 w h, (by decide +kernel : ∀ w ∈ u_ws RX1 TX1 10, goodWord w = true) w h⟩
theorem igX2 : ∀ w ∈ u_ws RX2 TX2 7, w ∈ so_G := fun w h => List.mem_filter.mpr ⟨inX2 w h, (by decide +kernel : ∀ w ∈ u_ws RX2 TX2 7, goodWord w = true) w h⟩
theorem igX3 : ∀ w ∈ u_ws RX3 TX3 8, w ∈ so_G := fun w h => List.mem_filter.mpr ⟨inX3 w h, (by decide +kernel : ∀ w ∈ u_ws RX3 TX3 8, goodWord w = true) w h⟩
theorem igX4 : ∀ w ∈ u_ws RX4 TX4 3, w ∈ so_G := fun w h => List.mem_filter.mpr ⟨inX4 w h, (by decide +kernel : ∀ w ∈ u_ws RX4 TX4 3, goodWord w = true) w h⟩
theorem igX5 : ∀ w ∈ u_ws RX5 TX5 9, w ∈ so_G := fun w h => List.mem_filter.mpr ⟨inX5 w h, (by decide +kernel : ∀ w ∈ u_ws RX5 TX5 9, goodWord w = true) w h⟩
theorem igX6 : ∀ w ∈ u_ws RX6 TX6 5, w ∈ so_G := fun w h => List.mem_filter.mpr ⟨inX6 w h, (by decide +kernel : ∀ w ∈ u_ws RX6 TX6 5, goodWord w = true) w h⟩
theorem igX7 : ∀ w ∈ u_ws RX7 TX7 6, w ∈ so_G := fun w h => List.mem_filter.mpr ⟨inX7 w h, (by decide +kernel : ∀ w ∈ u_ws RX7 TX7 6, goodWord w = true) w h⟩
theorem igX8 : ∀ w ∈ u_ws RX8 TX8 4, w ∈ so_G := fun w h => List.mem_filter.mpr ⟨inX8 w h, (by decide +kernel : ∀ w ∈ u_ws RX8 TX8 4, goodWord w = true) w h⟩
theorem igX9 : ∀ w ∈ u_ws RX9 TX9 20, w ∈ so_G := fun w h => List.mem_filter.mpr ⟨inX9 w h, (by decide +kernel : ∀ w ∈ u_ws RX9 TX9 20, goodWord w = true) w h⟩
theorem igX10 : ∀ w ∈ u_ws RX10 TX10 18, w ∈ so_G := fun w h => List.mem_filter.mpr ⟨inX10 w h, (by decide +kernel : ∀ w ∈ u_ws RX10 TX10 18, goodWord w = true) w h⟩
theorem igX11 : ∀ w ∈ u_ws RX11 TX11 75, w ∈ so_G := fun w h => List.mem_filter.mpr ⟨inX11 w h, (by decide +kernel : ∀ w ∈ u_ws RX11 TX11 75, goodWord w = true) w h⟩
def so_cl (q : vw_C) : Prop := (∀ w ∈ u_ws q.1 q.2.1 q.2.2, w ∈ so_G) ∧ ∃ ty : Nat → FieldType, (∀ k, k < q.2.2 → parseFieldDescriptor (q.2.1 k).2.2.1 = some (ty k)) ∧ ∀ a, a < q.2.2 → ∀ b, b < q.2.2 → a ≠ b → (q.2.1 a).2.1 ≠ (q.2.1 b).2.1
theorem so_cls : ∀ (ci : Nat) (q : vw_C), am_cls[ci]? = some q → so_cl q := by
  intro ci q h
  match ci, h with
  | 0, h => cases h; exact ⟨igX0, tyX0, tyX0_ok, nmX0⟩
  | 1, h => cases h; exact ⟨igX1, tyX1, tyX1_ok, nmX1⟩
  | 2, h => cases h; exact ⟨igX2, tyX2, tyX2_ok, nmX2⟩
  | 3, h => cases h; exact ⟨igX3, tyX3, tyX3_ok, nmX3⟩
  | 4, h => cases h; exact ⟨igX4, tyX4, tyX4_ok, nmX4⟩
  | 5, h => cases h; exact ⟨igX5, tyX5, tyX5_ok, nmX5⟩
  | 6, h => cases h; exact ⟨igX6, tyX6, tyX6_ok, nmX6⟩
  | 7, h => cases h; exact ⟨igX7, tyX7, tyX7_ok, nmX7⟩
  | 8, h => cases h; exact ⟨igX8, tyX8, tyX8_ok, nmX8⟩
  | 9, h => cases h; exact ⟨igX9, tyX9, tyX9_ok, nmX9⟩
  | 10, h => cases h; exact ⟨igX10, tyX10, tyX10_ok, nmX10⟩
  | 11, h => cases h; exact ⟨igX11, tyX11, tyX11_ok, nmX11⟩
  | k + 12, h => simp [am_cls] at h
end
section
/-! THE SMALL MACHINE IS SOUND, part 1: how its values, locals and cells stand for the machine's -/
def so_v (ad : am_K → Nat) : am_V → Value
  | .inl x => .int x
  | .inr (.inl x) => .long x
  | .inr (.inr k) => .ref (ad k)
def so_lv (ad : am_K → Nat) : Nat → am_L → List (Nat × Value)
  | _, [] => []
  | i, none :: l => so_lv ad (i + 1) l
  | i, some v :: l => (i, so_v ad v) :: so_lv ad (i + 1) l
theorem so_lv_ld (ad : am_K → Nat) : ∀ (ls : am_L) (i a : Nat) (v : am_V), am_ld ls a = some v → (i + a, so_v ad v) ∈ so_lv ad i ls := by
  intro ls
  induction ls with
  | nil => intro i a v h; cases h
  | cons x ls ih =>
    intro i a v h
    cases a with
    | zero =>
      have h : x = some v := h
      subst h
      exact List.mem_cons_self
    | succ a =>
      have h : am_ld ls a = some v := h
      have h1 := ih (i + 1) a v h
      rw [show i + 1 + a = i + (a + 1) by omega] at h1
      cases x with
      | none => exact h1
      | some w => exact List.mem_cons_of_mem _ h1
theorem so_lv_ge (ad : am_K → Nat) : ∀ (ls : am_L) (i : Nat) (q : Nat × Value), q ∈ so_lv ad i ls → i ≤ q.1 := by
  intro ls
  induction ls with
  | nil => intro i q h; cases h
  | cons x ls ih =>
    intro i q h
    cases x with
    | none => have h1 := ih (i + 1) q h; omega
    | some w =>
      rcases List.mem_cons.mp h with rfl | h
      · exact Nat.le_refl _
      · have h1 := ih (i + 1) q h; omega
theorem so_lv_sto (ad : am_K → Nat) : ∀ (ls : am_L) (i a : Nat) (v : am_V) (q : Nat × Value), q ∈ so_lv ad i (am_sto ls a v) → q = (i + a, so_v ad v) ∨ (q ∈ so_lv ad i ls ∧ q.1 ≠ i + a ∧ ¬ (q.1 + 1 = i + a ∧ q.2.category = 2)) := by
  intro ls
  induction ls with
  | nil => intro i a v q h; cases h
  | cons x ls ih =>
    intro i a v q h
    match a, h with
    | 0, h =>
      rcases List.mem_cons.mp h with rfl | h9
      · exact Or.inl rfl
      · clear h
        have h1 := so_lv_ge ad ls (i + 1) q h9
        refine Or.inr ⟨?_, by omega, by omega⟩
        cases x with
        | none => exact h9
        | some w => exact List.mem_cons_of_mem _ h9
    | 1, h =>
      have h : q ∈ so_lv ad i (am_nol x :: am_sto ls 0 v) := h
      have key : ∀ q, q ∈ so_lv ad (i + 1) (am_sto ls 0 v) → q = (i + 1, so_v ad v) ∨ (q ∈ so_lv ad (i + 1) ls ∧ q.1 ≠ i + 1 ∧ ¬ (q.1 + 1 = i + 1 ∧ q.2.category = 2)) := fun q h => ih (i + 1) 0 v q h
      have up : ∀ q, q ∈ so_lv ad (i + 1) ls → q ∈ so_lv ad i (x :: ls) := fun q h9 => by
        clear h
        cases x with
        | none => exact h9
        | some w => exact List.mem_cons_of_mem _ h9
      rcases x with _ | (w | (w | w))
      · rcases key q h with h | ⟨h1, h2⟩
        · exact Or.inl h
        · exact Or.inr ⟨up q h1, h2⟩
      · rcases List.mem_cons.mp h with rfl | h
        · exact Or.inr ⟨List.mem_cons_self, by show i ≠ i + 1; omega, by intro hh; exact absurd hh.2 (by show ¬ (1 = 2); decide)⟩
        · rcases key q h with h | ⟨h1, h2⟩
          · exact Or.inl h
          · exact Or.inr ⟨up q h1, h2⟩
      · rcases key q h with h | ⟨h1, h2⟩
        · exact Or.inl h
        · exact Or.inr ⟨up q h1, h2⟩
      · rcases List.mem_cons.mp h with rfl | h
        · exact Or.inr ⟨List.mem_cons_self, by show i ≠ i + 1; omega, by intro hh; exact absurd hh.2 (by show ¬ (1 = 2); decide)⟩
        · rcases key q h with h | ⟨h1, h2⟩
          · exact Or.inl h
          · exact Or.inr ⟨up q h1, h2⟩
    | a + 2, h =>
      have h : q ∈ so_lv ad i (x :: am_sto ls (a + 1) v) := h
      have key : ∀ q, q ∈ so_lv ad (i + 1) (am_sto ls (a + 1) v) → q = (i + (a + 2), so_v ad v) ∨ (q ∈ so_lv ad (i + 1) ls ∧ q.1 ≠ i + (a + 2) ∧ ¬ (q.1 + 1 = i + (a + 2) ∧ q.2.category = 2)) := fun q h => by
        have h1 := ih (i + 1) (a + 1) v q h
        rw [show i + 1 + (a + 1) = i + (a + 2) by omega] at h1
        exact h1
      cases x with
      | none => exact key q h
      | some w =>
        rcases List.mem_cons.mp h with rfl | h
        · exact Or.inr ⟨List.mem_cons_self, by show i ≠ _; omega, by intro hh; have h3 : i + 1 = i + (a + 2) := hh.1; omega⟩
        · rcases key q h with h | ⟨h1, h2⟩
          · exact Or.inl h
          · exact Or.inr ⟨List.mem_cons_of_mem _ h1, h2⟩
/-- locals behind a store -/
theorem so_has_sto {ad : am_K → Nat} {ls : am_L} {a nL : Nat} {v : am_V} {lc : Array Slot} (h : lv_has lc nL ((a, so_v ad v) :: (so_lv ad 0 ls).filter (fun q => !(q.1 == a) && !(q.1 + 1 == a && q.2.category == 2)))) : lv_has lc nL (so_lv ad 0 (am_sto ls a v)) := by
  refine ⟨h.1, h.2.1, fun q hq => h.2.2 q ?_⟩
  rcases so_lv_sto ad ls 0 a v q hq with h1 | ⟨h1, h2, h3⟩
  · rw [h1, Nat.zero_add]
    exact List.mem_cons_self
  · rw [Nat.zero_add] at h2 h3
    refine List.mem_cons_of_mem _ (List.mem_filter.mpr ⟨h1, ?_⟩)
    simp only [Bool.and_eq_true, Bool.not_eq_true', beq_eq_false_iff_ne, Bool.and_eq_false_iff, ne_eq]
    refine ⟨h2, ?_⟩
    by_cases h4 : q.1 + 1 = a
    · exact Or.inr (fun h5 => h3 ⟨h4, h5⟩)
    · exact Or.inl h4
end
section
/-! THE SMALL MACHINE IS SOUND, part 2: cells -/
def so_isI (q : vw_C) (s : Nat) : Bool := (q.2.1 s).2.2.1 == "I" || (q.2.1 s).2.2.1 == "Z"
def so_f (ad : am_K → Nat) (q : vw_C) (I : Nat → Int32) (R : Nat → Option am_K) (s : Nat) : Value := bif so_isI q s then .int (I s) else va_rf ((R s).map ad)
def so_cell (cA : Nat → ClassId) (ad : am_K → Nat) (k n : Nat) (I : Nat → Int32) (R : Nat → Option am_K) : va_E :=
  if k < 100 then (match am_cls[k]? with | some q => .inr (k, (List.range q.2.2).map (so_f ad q I R)) | none => .inr (k, []))
  else if k < 110 then .inl (cA k, n, .inl I)
  else .inl (cA k, n, .inr (.inr (.inr (.inr (fun s => (R s).map ad)))))
def so_c (cA : Nat → ClassId) (ad : am_K → Nat) (h : am_H) (k : am_K) : va_E := so_cell cA ad (am_rt k.1) ((h.2.2.1 k.1 k.2.1 k.2.2).getD 0) (h.1 k.1 k.2.1 k.2.2) (h.2.1 k.1 k.2.1 k.2.2)
def so_ws (cA : Nat → ClassId) (ad : am_K → Nat) (h : am_H) (L : List am_K) : va_W := L.map (fun k => (ad k, so_c cA ad h k))
def so_al (h : am_H) (k : am_K) : Prop := k.1 < 300 ∧ ∃ n, h.2.2.1 k.1 k.2.1 k.2.2 = some n
def so_okv (h : am_H) (v : am_V) : Prop := ∀ k, v = .inr (.inr k) → ∃ n, h.2.2.1 k.1 k.2.1 k.2.2 = some n
/-- the kinds of cells that there are -/
def so_vk (k : Nat) : Bool := [0, 1, 2, 3, 4, 5, 6, 7, 8, 9, 10, 11, 100, 101, 102, 103, 110, 111, 113, 114, 117].contains k
def so_H (dC : Nat → ClassId) (dI : Nat → Nat → Nat) (cA : Nat → ClassId) (A : Nat → Prop) (ad : am_K → Nat) (h : am_H) (H : Heap) : Prop :=
  ∃ L : List am_K, (∀ k, k ∈ L ↔ so_al h k) ∧ va_P (dC, dI) am_cls (so_ws cA ad h L) H ∧ va_D A (so_ws cA ad h L)
    ∧ (∀ k, so_al h k → ∀ s k', h.2.1 k.1 k.2.1 k.2.2 s = some k' → so_al h k')
    ∧ (∀ k, so_al h k → am_rt k.1 = 101 → ∀ s, h.1 k.1 k.2.1 k.2.2 s = 0 ∨ h.1 k.1 k.2.1 k.2.2 s = 1)
    ∧ (∀ k, so_al h k → so_vk (am_rt k.1) = true)
def so_X (A : Nat → Prop) (ad : am_K → Nat) (U : State) (h : am_H) (H : Heap) : Prop :=
  ∀ k : am_K, 300 ≤ k.1 → ∀ n, h.2.2.1 k.1 k.2.1 k.2.2 = some n → va_T .int (ad k) n (fun j => .int (h.1 k.1 k.2.1 k.2.2 j)) A U H
theorem so_ws_get {cA : Nat → ClassId} {ad : am_K → Nat} {h : am_H} {L : List am_K} {k : am_K} (hk : k ∈ L) : ∃ q0 : Nat, L[q0]? = some k ∧ (so_ws cA ad h L)[q0]? = some (ad k, so_c cA ad h k) := by
  obtain ⟨q0, hq⟩ := List.getElem?_of_mem hk
  exact ⟨q0, hq, by rw [so_ws, List.getElem?_map, hq]; rfl⟩
theorem so_ws_inj {cA : Nat → ClassId} {A : Nat → Prop} {ad : am_K → Nat} {h : am_H} {L : List am_K} (hD : va_D A (so_ws cA ad h L)) {i j : Nat} {k k' : am_K} (hi : L[i]? = some k) (hj : L[j]? = some k') (he : ad k = ad k') : i = j := by
  refine hD.1 i j (ad k, so_c cA ad h k) (ad k', so_c cA ad h k') ?_ ?_ he
  · rw [so_ws, List.getElem?_map, hi]; rfl
  · rw [so_ws, List.getElem?_map, hj]; rfl
/-- one cell of the world is another -/
theorem so_ws_set {cA : Nat → ClassId} {A : Nat → Prop} {ad : am_K → Nat} {h h' : am_H} {L : List am_K} {q0 : Nat} {k : am_K} {e : va_E} (hD : va_D A (so_ws cA ad h L)) (hq : L[q0]? = some k) (he : so_c cA ad h' k = e) (ho : ∀ k', k' ∈ L → k' ≠ k → so_c cA ad h' k' = so_c cA ad h k') : (so_ws cA ad h L).set q0 (ad k, e) = so_ws cA ad h' L := by
  apply List.ext_getElem?
  intro i
  rw [List.getElem?_set]
  by_cases hi : q0 = i
  · subst hi
    have hl : q0 < L.length := (List.getElem?_eq_some_iff.mp hq).1
    rw [if_pos rfl, if_pos (by rw [so_ws, List.length_map]; exact hl), so_ws, List.getElem?_map, hq, ← he]
    rfl
  · rw [if_neg hi, so_ws, so_ws, List.getElem?_map, List.getElem?_map]
    cases hk' : L[i]? with
    | none => rfl
    | some k' =>
      have hne : k' ≠ k := fun e => hi (so_ws_inj hD hq hk' (by rw [e]))
      show some (ad k', so_c cA ad h k') = some (ad k', so_c cA ad h' k')
      rw [ho k' (List.mem_of_getElem? hk') hne]
theorem so_range_set (n s : Nat) (f g : Nat → Value) (v : Value) (hs : g s = v) (ho : ∀ i, i ≠ s → g i = f i) : ((List.range n).map f).set s v = (List.range n).map g := by
  apply List.ext_getElem?
  intro i
  rw [List.getElem?_set, List.getElem?_map, List.length_map, List.length_range]
  by_cases hi : s = i
  · subst hi
    rw [if_pos rfl]
    by_cases hl : s < n
    · rw [if_pos hl, List.getElem?_map, List.getElem?_range hl]
      show _ = some (g s)
      rw [hs]
    · rw [if_neg hl, List.getElem?_map, List.getElem?_eq_none (by rw [List.length_range]; omega)]
      rfl
  · rw [if_neg hi, List.getElem?_map]
    cases hr : (List.range n)[i]? with
    | none => rfl
    | some j =>
      have : j = i := by
        obtain ⟨h1, h2⟩ := List.getElem?_eq_some_iff.mp hr
        rw [List.getElem_range] at h2
        exact h2.symm
      subst this
      show some _ = some _
      rw [ho j (fun e => hi e.symm)]
theorem am_set_at (I : am_I) (r w j s : Nat) (v : Int32) : am_set I r w j s v r w j = upd (I r w j) s v := by
  funext s'
  simp [am_set, upd]
theorem am_set_off (I : am_I) (r w j s : Nat) (v : Int32) {k : am_K} (h : k ≠ (r, w, j)) : am_set I r w j s v k.1 k.2.1 k.2.2 = I k.1 k.2.1 k.2.2 := by
  funext s'
  obtain ⟨r', w', j'⟩ := k
  simp only [am_set]
  by_cases h1 : r' = r
  · rw [if_pos h1]
    by_cases h2 : w' = w ∧ j' = j ∧ s' = s
    · exact absurd (by rw [h1, h2.1, h2.2.1]) h
    · rw [if_neg h2]
  · rw [if_neg h1]
theorem am_setR_at (R : am_R) (r w j s : Nat) (v : am_K) : am_setR R r w j s v r w j = va_up (R r w j) s (some v) := by
  funext s'
  simp [am_setR, va_up]
theorem am_setR_off (R : am_R) (r w j s : Nat) (v : am_K) {k : am_K} (h : k ≠ (r, w, j)) : am_setR R r w j s v k.1 k.2.1 k.2.2 = R k.1 k.2.1 k.2.2 := by
  funext s'
  obtain ⟨r', w', j'⟩ := k
  simp only [am_setR]
  by_cases h1 : r' = r
  · rw [if_pos h1]
    by_cases h2 : w' = w ∧ j' = j ∧ s' = s
    · exact absurd (by rw [h1, h2.1, h2.2.1]) h
    · rw [if_neg h2]
  · rw [if_neg h1]
/-- the world behind a store into one cell -/
theorem so_H_set {dC : Nat → ClassId} {dI : Nat → Nat → Nat} {cA : Nat → ClassId} {A : Nat → Prop} {ad : am_K → Nat} {h h' : am_H} {H1 : Heap} {L : List am_K} {q0 : Nat} {k : am_K}
    (hL : ∀ k, k ∈ L ↔ so_al h k) (hD : va_D A (so_ws cA ad h L)) (hv : ∀ k, so_al h k → so_vk (am_rt k.1) = true) (hq : L[q0]? = some k) (hN : h'.2.2.1 = h.2.2.1)
    (ho : ∀ k' : am_K, k' ≠ k → h'.1 k'.1 k'.2.1 k'.2.2 = h.1 k'.1 k'.2.1 k'.2.2 ∧ h'.2.1 k'.1 k'.2.1 k'.2.2 = h.2.1 k'.1 k'.2.1 k'.2.2)
    (hc : ∀ k, so_al h k → ∀ s k', h'.2.1 k.1 k.2.1 k.2.2 s = some k' → so_al h k') (hb : ∀ k, so_al h k → am_rt k.1 = 101 → ∀ s, h'.1 k.1 k.2.1 k.2.2 s = 0 ∨ h'.1 k.1 k.2.1 k.2.2 s = 1)
    (hP1 : va_P (dC, dI) am_cls ((so_ws cA ad h L).set q0 (ad k, so_c cA ad h' k)) H1) (hD1 : va_D A ((so_ws cA ad h L).set q0 (ad k, so_c cA ad h' k))) : so_H dC dI cA A ad h' H1 := by
  have hal : ∀ k, so_al h' k ↔ so_al h k := fun k => by unfold so_al; rw [hN]
  have e : (so_ws cA ad h L).set q0 (ad k, so_c cA ad h' k) = so_ws cA ad h' L := so_ws_set hD hq rfl (fun k' _ hne => by
    unfold so_c
    rw [(ho k' hne).1, (ho k' hne).2, hN])
  rw [e] at hP1 hD1
  exact ⟨L, fun k => (hL k).trans (hal k).symm, hP1, hD1, fun k hk s k' hs => (hal k').mpr (hc k ((hal k).mp hk) s k' hs), fun k hk => hb k ((hal k).mp hk), fun k hk => hv k ((hal k).mp hk)⟩
theorem so_cell_ad {cA : Nat → ClassId} {ad ad' : am_K → Nat} {k n : Nat} {I : Nat → Int32} {R : Nat → Option am_K} (h : ∀ s k', R s = some k' → ad' k' = ad k') : so_cell cA ad' k n I R = so_cell cA ad k n I R := by
  have e : ∀ s, (R s).map ad' = (R s).map ad := fun s => by
    cases hR : R s with
    | none => rfl
    | some k' => show some _ = some _; rw [h s k' hR]
  have e2 : ∀ q : vw_C, so_f ad' q I R = so_f ad q I R := fun q => by
    funext s
    unfold so_f
    rw [e s]
  unfold so_cell
  simp only [e, e2]
def so_ext (ad : am_K → Nat) (kn : am_K) (q : Nat) : am_K → Nat := fun k => if k = kn then q else ad k
theorem so_ext_ne {ad : am_K → Nat} {kn k : am_K} {q : Nat} (h : k ≠ kn) : so_ext ad kn q k = ad k := if_neg h
theorem so_ext_eq {ad : am_K → Nat} {kn : am_K} {q : Nat} : so_ext ad kn q kn = q := if_pos rfl
theorem am_newI_off (I : am_I) (r w j : Nat) {k : am_K} (h : k ≠ (r, w, j)) : am_newI I r w j k.1 k.2.1 k.2.2 = I k.1 k.2.1 k.2.2 := by
  funext s'
  obtain ⟨r', w', j'⟩ := k
  simp only [am_newI]
  by_cases h1 : r' = r
  · rw [if_pos h1]
    by_cases h2 : w' = w ∧ j' = j
    · exact absurd (by rw [h1, h2.1, h2.2]) h
    · rw [if_neg h2]
  · rw [if_neg h1]
theorem am_newR_off (R : am_R) (r w j : Nat) {k : am_K} (h : k ≠ (r, w, j)) : am_newR R r w j k.1 k.2.1 k.2.2 = R k.1 k.2.1 k.2.2 := by
  funext s'
  obtain ⟨r', w', j'⟩ := k
  simp only [am_newR]
  by_cases h1 : r' = r
  · rw [if_pos h1]
    by_cases h2 : w' = w ∧ j' = j
    · exact absurd (by rw [h1, h2.1, h2.2]) h
    · rw [if_neg h2]
  · rw [if_neg h1]
theorem am_newN_off (N : am_N) (r w j n : Nat) {k : am_K} (h : k ≠ (r, w, j)) : am_newN N r w j n k.1 k.2.1 k.2.2 = N k.1 k.2.1 k.2.2 := by
  obtain ⟨r', w', j'⟩ := k
  simp only [am_newN]
  by_cases h1 : r' = r
  · rw [if_pos h1]
    by_cases h2 : w' = w ∧ j' = j
    · exact absurd (by rw [h1, h2.1, h2.2]) h
    · rw [if_neg h2]
  · rw [if_neg h1]
theorem am_newI_at (I : am_I) (r w j : Nat) : am_newI I r w j r w j = fun _ => 0 := by
  funext s; simp [am_newI]
theorem am_newR_at (R : am_R) (r w j : Nat) : am_newR R r w j r w j = fun _ => none := by
  funext s; simp [am_newR]
theorem am_newN_at (N : am_N) (r w j n : Nat) : am_newN N r w j n r w j = some n := by simp [am_newN]
/-- the world behind a making: h' is h with the cell kn beside it -/
theorem so_H_new {dC : Nat → ClassId} {dI : Nat → Nat → Nat} {cA : Nat → ClassId} {A : Nat → Prop} {ad : am_K → Nat} {h h' : am_H} {H1 : Heap} {L : List am_K} {q n : Nat} {kn : am_K}
    (hL : ∀ k, k ∈ L ↔ so_al h k) (hcl : ∀ k, so_al h k → ∀ s k', h.2.1 k.1 k.2.1 k.2.2 s = some k' → so_al h k') (hbo : ∀ k, so_al h k → am_rt k.1 = 101 → ∀ s, h.1 k.1 k.2.1 k.2.2 s = 0 ∨ h.1 k.1 k.2.1 k.2.2 s = 1) (hv : ∀ k, so_al h k → so_vk (am_rt k.1) = true)
    (hr : kn.1 < 300) (hkv : so_vk (am_rt kn.1) = true) (hno : h.2.2.1 kn.1 kn.2.1 kn.2.2 = none) (hat : h'.2.2.1 kn.1 kn.2.1 kn.2.2 = some n)
    (ho : ∀ k' : am_K, k' ≠ kn → h'.1 k'.1 k'.2.1 k'.2.2 = h.1 k'.1 k'.2.1 k'.2.2 ∧ h'.2.1 k'.1 k'.2.1 k'.2.2 = h.2.1 k'.1 k'.2.1 k'.2.2 ∧ h'.2.2.1 k'.1 k'.2.1 k'.2.2 = h.2.2.1 k'.1 k'.2.1 k'.2.2)
    (hR0 : ∀ s, h'.2.1 kn.1 kn.2.1 kn.2.2 s = none) (hb0 : am_rt kn.1 = 101 → ∀ s, h'.1 kn.1 kn.2.1 kn.2.2 s = 0 ∨ h'.1 kn.1 kn.2.1 kn.2.2 s = 1)
    (hP1 : va_P (dC, dI) am_cls (so_ws cA ad h L ++ [(q, so_c cA (so_ext ad kn q) h' kn)]) H1) (hD1 : va_D A (so_ws cA ad h L ++ [(q, so_c cA (so_ext ad kn q) h' kn)])) : so_H dC dI cA A (so_ext ad kn q) h' H1 := by
  have hne : ∀ k, so_al h k → k ≠ kn := fun k hk e => by
    obtain ⟨-, n0, h0⟩ := hk
    rw [e, hno] at h0
    cases h0
  have hal : ∀ k, k ≠ kn → (so_al h' k ↔ so_al h k) := fun k hk => by unfold so_al; rw [(ho k hk).2.2]
  have hnew : so_al h' kn := ⟨hr, n, hat⟩
  have e : so_ws cA ad h L ++ [(q, so_c cA (so_ext ad kn q) h' kn)] = so_ws cA (so_ext ad kn q) h' (L ++ [kn]) := by
    unfold so_ws
    rw [List.map_append]
    congr 1
    · apply List.map_congr_left
      intro k hk
      have hka := (hL k).mp hk
      have hkn := hne k hka
      show (ad k, so_c cA ad h k) = (so_ext ad kn q k, so_c cA (so_ext ad kn q) h' k)
      rw [so_ext_ne hkn]
      congr 1
      unfold so_c
      rw [(ho k hkn).1, (ho k hkn).2.1, (ho k hkn).2.2]
      exact (so_cell_ad (fun s k' hs => so_ext_ne (hne k' (hcl k hka s k' hs)))).symm
    · show [(q, so_c cA (so_ext ad kn q) h' kn)] = [(so_ext ad kn q kn, so_c cA (so_ext ad kn q) h' kn)]
      rw [so_ext_eq]
  rw [e] at hP1 hD1
  refine ⟨L ++ [kn], fun k => ?_, hP1, hD1, fun k hk s k' hs => ?_, fun k hk h101 s => ?_, fun k hk => ?_⟩
  · rw [List.mem_append, List.mem_singleton, hL k]
    by_cases hk : k = kn
    · rw [hk]; exact ⟨fun _ => hnew, fun _ => Or.inr rfl⟩
    · rw [hal k hk]; exact ⟨fun h => h.elim id (fun h => absurd h hk), Or.inl⟩
  · by_cases hkn : k = kn
    · rw [hkn, hR0 s] at hs; cases hs
    · rw [(ho k hkn).2.1] at hs
      have h1 := hcl k ((hal k hkn).mp hk) s k' hs
      exact (hal k' (hne k' h1)).mpr h1
  · by_cases hkn : k = kn
    · subst hkn; exact hb0 h101 s
    · rw [(ho k hkn).1]; exact hbo k ((hal k hkn).mp hk) h101 s
  · by_cases hkn : k = kn
    · rw [hkn]; exact hkv
    · exact hv k ((hal k hkn).mp hk)
end
section
/-! THE SMALL MACHINE IS SOUND, part 3: what a table's row must say of the bytes; the instructions that leave the heap alone -/
def so_len : Instr → Nat
  | .bipush _ | .ldc _ | .iload _ | .lload _ | .aload _ | .istore _ | .astore _ | .newarray _ => 2
  | .sipush _ | .ldc_w _ | .ldc2_w _ | .iinc _ _ | .ifCond _ _ | .if_icmp _ _ | .goto _ | .getfield _ | .putfield _ | .getstatic _ | .new _ | .anewarray _ | .checkcast _ | .invokespecial _ | .invokevirtual _ | .invokestatic _ => 3
  | _ => 1
def so_lk : List (Int32 × Nat) → Int32 → Nat → Nat
  | [], _, d => d
  | (v, t) :: l, x, d => if x = v then t else so_lk l x d
theorem so_lk_of (f : Nat → Prop) (x : Int32) (d : Nat) : ∀ l : List (Int32 × Nat), am_sw l x d f → f (so_lk l x d) := by
  intro l
  induction l with
  | nil => intro h; exact h
  | cons q l ih =>
    obtain ⟨v, t⟩ := q
    intro h
    by_cases hx : x = v
    · simp only [so_lk, if_pos hx]; exact h.1 hx
    · simp only [so_lk, if_neg hx]; exact ih (h.2 hx)
/-- a table of jumps, place by place -/
def so_tab (pc : Nat) (sw : List (Int32 × Nat)) (d : Nat) : List Int → Int → Bool
  | [], _ => true
  | o :: l, v => decide ((pc : Int) + o = (so_lk sw (Int32.ofInt v) d : Int)) && so_tab pc sw d l (v + 1)
theorem so_tab_at {pc : Nat} {sw : List (Int32 × Nat)} {d : Nat} : ∀ (l : List Int) (v : Int) (i : Nat) (o : Int), so_tab pc sw d l v = true → l[i]? = some o → (pc : Int) + o = (so_lk sw (Int32.ofInt (v + i)) d : Int) := by
  intro l
  induction l with
  | nil => intro v i o _ h; cases h
  | cons a l ih =>
    intro v i o ht h
    simp only [so_tab, Bool.and_eq_true, decide_eq_true_eq] at ht
    cases i with
    | zero =>
      cases h
      rw [ht.1]; simp
    | succ i =>
      have h1 := ih (v + 1) i o ht.2 h
      rw [h1, show v + 1 + (i : Int) = v + ((i + 1 : Nat) : Int) by push_cast; omega]
theorem so_lk_out {sw : List (Int32 × Nat)} {x : Int32} {d : Nat} (h : sw.all (fun q => decide (q.1 ≠ x)) = true) : so_lk sw x d = d := by
  induction sw with
  | nil => rfl
  | cons q l ih =>
    obtain ⟨v, t⟩ := q
    simp only [List.all_cons, Bool.and_eq_true, decide_eq_true_eq] at h
    simp only [so_lk, if_neg (Ne.symm h.1)]
    exact ih h.2
/-- what a row of a table must say of the bytes -/
def so_ck1 (cc : ByteArray) (nL : Nat) (pc : Nat) (x : am_X) : Bool :=
  match x with
  | (ins, nx, im, a, _, _, sw) =>
    (match decode cc pc with
      | .ok (i, len) => decide (i = ins) && (match ins with
        | .tableswitch d lo hi offs => decide ((pc : Int) + d = (a : Int)) && sw.all (fun q => decide (lo ≤ q.1.toInt) && decide (q.1.toInt ≤ hi)) && so_tab pc sw a offs.toList lo && decide ((offs.size : Int) = hi - lo + 1)
        | .lookupswitch d ps => decide ((pc : Int) + d = (a : Int)) && (ps.toList.zip (ps.toList.drop 1)).all (fun (a, next) => a.1 < next.1) && decide (sw = ps.toList.map (fun q => (Int32.ofInt q.1, ((pc : Int) + q.2).toNat))) && ps.toList.all (fun q => decide ((Int32.ofInt q.1).toInt = q.1) && decide (0 ≤ (pc : Int) + q.2))
        | _ => decide (len = so_len ins) && decide (nx = pc + so_len ins))
      | .error _ => false) &&
    (match ins with
      | .iconst n => decide (Int32.ofInt n = im)
      | .bipush n => decide ((Int8.ofInt n).toInt32 = im)
      | .sipush n => decide ((Int16.ofInt n).toInt32 = im)
      | .iload i => decide (i = a)
      | .iload_n i => decide (i.1 = a)
      | .lload_n i => decide (i.1 = a)
      | .aload i => decide (i = a)
      | .aload_n i => decide (i.1 = a)
      | .istore i => decide (i = a) && decide (a < nL)
      | .istore_n i => decide (i.1 = a) && decide (a < nL)
      | .astore i => decide (i = a) && decide (a < nL)
      | .astore_n i => decide (i.1 = a) && decide (a < nL)
      | .iinc i n => decide (i = a) && decide (a < nL) && decide (Int32.ofInt n = im)
      | .ifCond _ off => decide ((pc : Int) + off = (a : Int))
      | .if_icmp _ off => decide ((pc : Int) + off = (a : Int))
      | .goto off => decide ((pc : Int) + off = (a : Int))
      | _ => true)
def so_is1 : Instr → Bool
  | .iconst _ | .bipush _ | .sipush _ | .iload _ | .iload_n _ | .lload_n _ | .aload _ | .aload_n _ | .istore _ | .istore_n _ | .astore _ | .astore_n _ | .iinc _ _ | .pop | .dup | .dup_x1 | .dup2 | .iadd | .isub | .imul | .idiv | .irem | .ineg | .iand | .ior | .ishl | .ishr | .iushr
  | .i2l | .l2i | .i2b | .i2s | .land | .lor | .lshl | .lshr | .lushr | .ifCond _ _ | .if_icmp _ _ | .goto _ | .tableswitch _ _ _ _ | .lookupswitch _ _ => true
  | _ => false
theorem so_lk_pairs {pc a : Nat} {d0 : Int} (hdf : (pc : Int) + d0 = (a : Int)) (z : Int32) : ∀ l : List (Int × Int), l.all (fun q => decide ((Int32.ofInt q.1).toInt = q.1) && decide (0 ≤ (pc : Int) + q.2)) = true → (pc : Int) + Op.lookupswitch.offset l d0 z.toInt = (so_lk (l.map (fun q => (Int32.ofInt q.1, ((pc : Int) + q.2).toNat))) z a : Int) := by
  intro l
  induction l with
  | nil => intro _; simpa [so_lk, Op.lookupswitch.offset] using hdf
  | cons q l ih =>
    intro h
    simp only [List.all_cons, Bool.and_eq_true, decide_eq_true_eq] at h
    have h2 := ih h.2
    simp only [List.map_cons, so_lk]
    by_cases hz : z = Int32.ofInt q.1
    · rw [if_pos hz]
      have h3 : q.1 = z.toInt := by rw [hz]; exact h.1.1.symm
      obtain ⟨q1, q2⟩ := q
      rw [Op.lookupswitch.offset_cons, if_pos h3]
      exact (Int.toNat_of_nonneg h.1.2).symm
    · rw [if_neg hz]
      have h3 : ¬ q.1 = z.toInt := fun e => hz (by rw [e, Int32.ofInt_toInt])
      obtain ⟨q1, q2⟩ := q
      rw [Op.lookupswitch.offset_cons, if_neg h3]
      exact h2
def so_pm (st : List am_V) (ls : am_L) (v : am_V) : Prop := v ∈ st ∨ some v ∈ ls ∨ ∀ r, v ≠ .inr (.inr r)
theorem so_pm_i {st : List am_V} {ls : am_L} (x : Int32) : so_pm st ls (.inl x) := Or.inr (Or.inr (fun r h => by cases h))
theorem so_pm_l {st : List am_V} {ls : am_L} (x : Int64) : so_pm st ls (.inr (.inl x)) := Or.inr (Or.inr (fun r h => by cases h))
theorem so_pm_c {st st0 : List am_V} {ls : am_L} {v : am_V} (h1 : so_pm st ls v) (h2 : ∀ v, v ∈ st0 → so_pm st ls v) : ∀ v', v' ∈ v :: st0 → so_pm st ls v' := fun v' h => by
  rcases List.mem_cons.mp h with rfl | h
  · exact h1
  · exact h2 v' h
theorem so_pm_0 {st : List am_V} {ls : am_L} : ∀ v, v ∈ st → so_pm st ls v := fun v h => Or.inl h
theorem so_pm_1 {st : List am_V} {ls : am_L} {a : am_V} : ∀ v, v ∈ st → so_pm (a :: st) ls v := fun v h => Or.inl (List.mem_cons_of_mem _ h)
theorem so_pm_2 {st : List am_V} {ls : am_L} {a b : am_V} : ∀ v, v ∈ st → so_pm (a :: b :: st) ls v := fun v h => Or.inl (List.mem_cons_of_mem _ (List.mem_cons_of_mem _ h))
theorem so_pm_L {st : List am_V} {ls : am_L} : ∀ v, some v ∈ ls → so_pm st ls v := fun v h => Or.inr (Or.inl h)
theorem so_ld_mem : ∀ (ls : am_L) (a : Nat) (v : am_V), am_ld ls a = some v → some v ∈ ls := by
  intro ls
  induction ls with
  | nil => intro a v h; cases h
  | cons x ls ih =>
    intro a v h
    cases a with
    | zero => have h : x = some v := h; rw [h]; exact List.mem_cons_self
    | succ a => exact List.mem_cons_of_mem _ (ih a v h)
theorem so_sto_mem : ∀ (ls : am_L) (a : Nat) (u v : am_V), some v ∈ am_sto ls a u → v = u ∨ some v ∈ ls := by
  intro ls
  induction ls with
  | nil => intro a u v h; cases h
  | cons x ls ih =>
    intro a u v h
    match a, h with
    | 0, h =>
      rcases List.mem_cons.mp h with h | h
      · exact Or.inl (Option.some.inj h)
      · exact Or.inr (List.mem_cons_of_mem _ h)
    | 1, h =>
      rcases List.mem_cons.mp h with h | h
      · refine Or.inr ?_
        rcases x with _ | (w | (w | w))
        · cases h
        · rw [h]; exact List.mem_cons_self
        · cases h
        · rw [h]; exact List.mem_cons_self
      · rcases ih 0 u v h with h | h
        · exact Or.inl h
        · exact Or.inr (List.mem_cons_of_mem _ h)
    | a + 2, h =>
      rcases List.mem_cons.mp h with h | h
      · rw [h]; exact Or.inr List.mem_cons_self
      · rcases ih (a + 1) u v h with h | h
        · exact Or.inl h
        · exact Or.inr (List.mem_cons_of_mem _ h)
theorem so_dec {cc : ByteArray} {pc nx : Nat} {ins : Instr} (h : (match decode cc pc with | .ok (i, len) => decide (i = ins) && (decide (len = so_len ins) && decide (nx = pc + so_len ins)) | .error _ => false) = true) : decode cc pc = .ok (ins, so_len ins) ∧ nx = pc + so_len ins := by
  split at h
  · rename_i i len heq
    simp only [Bool.and_eq_true, decide_eq_true_eq] at h
    rw [heq, h.1, h.2.1]
    exact ⟨rfl, h.2.2⟩
  · cases h
section so1
variable {p : Program} {l : Launch} {e : Env} {R : Room} {s : State} {m : MethodId} {args : Array Value} {below : List Frame} {meth : Method} {c : Code} {H : Heap} {locs : List Loc} {cells slots : Nat} {Q : State → Prop}
theorem so_simple {cc : ByteArray} {nL pc : Nat} {x : am_X} {call : am_C} {ad : am_K → Nat} {ls : am_L} {st : List am_V} {h : am_H} {lc : Array Slot} {k : Nat → am_L → List am_V → am_H → Prop} {q : am_Q}
    (hx : p.tables.exec = Jvm.exec) (hb : c.code = cc) (hck : so_ck1 cc nL pc x = true) (h1 : so_is1 x.1 = true) (hl : lv_has lc nL (so_lv ad 0 ls)) (hs : am_step am_rt call x ls st h k q)
    (hk : ∀ pc' ls' st' lc', k pc' ls' st' h → lv_has lc' nL (so_lv ad 0 ls') → (∀ v, v ∈ st' → so_pm st ls v) → (∀ v, some v ∈ ls' → so_pm st ls v) → W p l e R s m args below meth c H locs cells slots Q (F0 m pc' lc' (st'.map (so_v ad)))) :
    W p l e R s m args below meth c H locs cells slots Q (F0 m pc lc (st.map (so_v ad))) := by
  obtain ⟨ins, nx, im, a, b, cc', sw⟩ := x
  have hrd : ∀ {v : am_V}, am_ld ls a = some v → lc[a]? = some (.val (so_v ad v)) := fun {v} hv => by
    have h2 := hl.2.2 _ (so_lv_ld ad ls 0 a v hv)
    rw [Nat.zero_add] at h2
    exact h2
  simp only [so_ck1, Bool.and_eq_true] at hck
  obtain ⟨hd, hck⟩ := hck
  cases ins <;> try (cases h1; done)
  case iconst n0 =>
    obtain ⟨hd2, hnx⟩ := so_dec hd
    clear hd
    subst hnx
    dsimp only [am_step] at hs
    simp only [decide_eq_true_eq] at hck
    exact lv_iconst hx hb hd2 hck (hk _ _ _ _ hs hl (so_pm_c (so_pm_i _) so_pm_0) so_pm_L)
  case bipush n0 =>
    obtain ⟨hd2, hnx⟩ := so_dec hd
    clear hd
    subst hnx
    dsimp only [am_step] at hs
    simp only [decide_eq_true_eq] at hck
    exact lv_bipush hx hb hd2 hck (hk _ _ _ _ hs hl (so_pm_c (so_pm_i _) so_pm_0) so_pm_L)
  case sipush n0 =>
    obtain ⟨hd2, hnx⟩ := so_dec hd
    clear hd
    subst hnx
    dsimp only [am_step] at hs
    simp only [decide_eq_true_eq] at hck
    exact lv_sipush hx hb hd2 hck (hk _ _ _ _ hs hl (so_pm_c (so_pm_i _) so_pm_0) so_pm_L)
  case iload n0 =>
    obtain ⟨hd2, hnx⟩ := so_dec hd
    clear hd
    subst hnx
    dsimp only [am_step] at hs
    simp only [decide_eq_true_eq] at hck
    subst hck
    split at hs
    · rename_i heq
      exact lv_iload hx hb hd2 (hrd heq) (hk _ _ _ _ hs hl (so_pm_c (so_pm_i _) so_pm_0) so_pm_L)
    · exact hs.elim
  case iload_n n0 =>
    obtain ⟨hd2, hnx⟩ := so_dec hd
    clear hd
    subst hnx
    dsimp only [am_step] at hs
    simp only [decide_eq_true_eq] at hck
    split at hs
    · rename_i heq
      exact lv_iload_n hx hb hd2 hck (hrd heq) (hk _ _ _ _ hs hl (so_pm_c (so_pm_i _) so_pm_0) so_pm_L)
    · exact hs.elim
  case aload n0 =>
    obtain ⟨hd2, hnx⟩ := so_dec hd
    clear hd
    subst hnx
    dsimp only [am_step] at hs
    simp only [decide_eq_true_eq] at hck
    subst hck
    split at hs
    · rename_i heq
      exact lv_aload hx hb hd2 (hrd heq) (hk _ _ _ _ hs hl (so_pm_c (Or.inr (Or.inl (so_ld_mem _ _ _ heq))) so_pm_0) so_pm_L)
    · exact hs.elim
  case aload_n n0 =>
    obtain ⟨hd2, hnx⟩ := so_dec hd
    clear hd
    subst hnx
    dsimp only [am_step] at hs
    simp only [decide_eq_true_eq] at hck
    split at hs
    · rename_i heq
      exact lv_aload_n hx hb hd2 hck (hrd heq) (hk _ _ _ _ hs hl (so_pm_c (Or.inr (Or.inl (so_ld_mem _ _ _ heq))) so_pm_0) so_pm_L)
    · exact hs.elim
  case lload_n n0 =>
    obtain ⟨hd2, hnx⟩ := so_dec hd
    clear hd
    subst hnx
    dsimp only [am_step] at hs
    simp only [decide_eq_true_eq] at hck
    split at hs
    · rename_i heq
      exact lv_lload_n hx hb hd2 hck (hrd heq) (hk _ _ _ _ hs hl (so_pm_c (so_pm_l _) so_pm_0) so_pm_L)
    · exact hs.elim
  case istore n0 =>
    obtain ⟨hd2, hnx⟩ := so_dec hd
    clear hd
    subst hnx
    dsimp only [am_step] at hs
    simp only [Bool.and_eq_true, decide_eq_true_eq] at hck
    simp only [am_seq_eq] at hs
    obtain ⟨rfl, hck⟩ := hck
    split at hs
    · refine lv_istore hx hb hd2 hl hck rfl (fun lc2 hl2 => hk _ _ _ _ hs (so_has_sto (v := _) hl2) so_pm_1 (fun v hv => ?_))
      rcases so_sto_mem _ _ _ _ hv with rfl | hv
      · exact so_pm_i _
      · exact so_pm_L v hv
    · exact hs.elim
  case istore_n n0 =>
    obtain ⟨hd2, hnx⟩ := so_dec hd
    clear hd
    subst hnx
    dsimp only [am_step] at hs
    simp only [Bool.and_eq_true, decide_eq_true_eq] at hck
    simp only [am_seq_eq] at hs
    split at hs
    · refine lv_istore_n hx hb hd2 hck.1 hl hck.2 rfl (fun lc2 hl2 => hk _ _ _ _ hs (so_has_sto (v := _) hl2) so_pm_1 (fun v hv => ?_))
      rcases so_sto_mem _ _ _ _ hv with rfl | hv
      · exact so_pm_i _
      · exact so_pm_L v hv
    · exact hs.elim
  case astore n0 =>
    obtain ⟨hd2, hnx⟩ := so_dec hd
    clear hd
    subst hnx
    dsimp only [am_step] at hs
    simp only [Bool.and_eq_true, decide_eq_true_eq] at hck
    simp only [am_seq_eq] at hs
    obtain ⟨rfl, hck⟩ := hck
    split at hs
    · refine lv_astore hx hb hd2 hl hck rfl (fun lc2 hl2 => hk _ _ _ _ hs (so_has_sto (v := _) hl2) so_pm_1 (fun v hv => ?_))
      rcases so_sto_mem _ _ _ _ hv with rfl | hv
      · exact Or.inl List.mem_cons_self
      · exact so_pm_L v hv
    · exact hs.elim
  case astore_n n0 =>
    obtain ⟨hd2, hnx⟩ := so_dec hd
    clear hd
    subst hnx
    dsimp only [am_step] at hs
    simp only [Bool.and_eq_true, decide_eq_true_eq] at hck
    simp only [am_seq_eq] at hs
    split at hs
    · refine lv_astore_n hx hb hd2 hck.1 hl hck.2 rfl (fun lc2 hl2 => hk _ _ _ _ hs (so_has_sto (v := _) hl2) so_pm_1 (fun v hv => ?_))
      rcases so_sto_mem _ _ _ _ hv with rfl | hv
      · exact Or.inl List.mem_cons_self
      · exact so_pm_L v hv
    · exact hs.elim
  case iinc n0 n1 =>
    obtain ⟨hd2, hnx⟩ := so_dec hd
    clear hd
    subst hnx
    dsimp only [am_step] at hs
    simp only [Bool.and_eq_true, decide_eq_true_eq] at hck
    simp only [am_seq_eq] at hs
    obtain ⟨⟨rfl, hck⟩, hv⟩ := hck
    split at hs
    · rename_i x0 heq
      obtain ⟨k0, hk0⟩ := List.getElem?_of_mem (so_lv_ld ad ls 0 n0 _ heq)
      rw [Nat.zero_add] at hk0
      refine lv_iinc hx hb hd2 hl hk0 (by rw [hv]) hck rfl (fun lc2 hl2 => hk _ _ _ _ hs (so_has_sto (v := .inl (x0 + im)) hl2) so_pm_0 (fun v hv => ?_))
      rcases so_sto_mem _ _ _ _ hv with rfl | hv
      · exact so_pm_i _
      · exact so_pm_L v hv
    · exact hs.elim
  case pop =>
    obtain ⟨hd2, hnx⟩ := so_dec hd
    clear hd
    subst hnx
    dsimp only [am_step] at hs
    split at hs
    · exact lv_pop hx hb hd2 rfl (hk _ _ _ _ hs hl so_pm_1 so_pm_L)
    · exact lv_pop hx hb hd2 rfl (hk _ _ _ _ hs hl so_pm_1 so_pm_L)
    · exact hs.elim
  case dup =>
    obtain ⟨hd2, hnx⟩ := so_dec hd
    clear hd
    subst hnx
    dsimp only [am_step] at hs
    split at hs
    · exact lv_dup hx hb hd2 rfl (hk _ _ _ _ hs hl (so_pm_c (so_pm_i _) so_pm_0) so_pm_L)
    · exact lv_dup hx hb hd2 rfl (hk _ _ _ _ hs hl (so_pm_c (Or.inl List.mem_cons_self) so_pm_0) so_pm_L)
    · exact hs.elim
  case dup_x1 =>
    obtain ⟨hd2, hnx⟩ := so_dec hd
    clear hd
    subst hnx
    dsimp only [am_step] at hs
    split at hs
    · exact lv_dup_x1 hx hb hd2 rfl rfl (hk _ _ _ _ hs hl (so_pm_c (so_pm_i _) (so_pm_c (Or.inl (List.mem_cons_of_mem _ List.mem_cons_self)) (so_pm_c (so_pm_i _) so_pm_2))) so_pm_L)
    · exact lv_dup_x1 hx hb hd2 rfl rfl (hk _ _ _ _ hs hl (so_pm_c (so_pm_i _) (so_pm_c (so_pm_i _) (so_pm_c (so_pm_i _) so_pm_2))) so_pm_L)
    · exact hs.elim
  case dup2 =>
    obtain ⟨hd2, hnx⟩ := so_dec hd
    clear hd
    subst hnx
    dsimp only [am_step] at hs
    split at hs
    · exact lv_dup2_11 hx hb hd2 rfl rfl (hk _ _ _ _ hs hl (so_pm_c (so_pm_i _) (so_pm_c (Or.inl (List.mem_cons_of_mem _ List.mem_cons_self)) so_pm_0)) so_pm_L)
    · exact hs.elim
  case iadd =>
    obtain ⟨hd2, hnx⟩ := so_dec hd
    clear hd
    subst hnx
    dsimp only [am_step] at hs
    split at hs
    · exact lv_iadd hx hb hd2 (hk _ _ _ _ hs hl (so_pm_c (so_pm_i _) so_pm_2) so_pm_L)
    · exact hs.elim
  case isub =>
    obtain ⟨hd2, hnx⟩ := so_dec hd
    clear hd
    subst hnx
    dsimp only [am_step] at hs
    split at hs
    · exact lv_isub hx hb hd2 (hk _ _ _ _ hs hl (so_pm_c (so_pm_i _) so_pm_2) so_pm_L)
    · exact hs.elim
  case imul =>
    obtain ⟨hd2, hnx⟩ := so_dec hd
    clear hd
    subst hnx
    dsimp only [am_step] at hs
    split at hs
    · exact lv_imul hx hb hd2 (hk _ _ _ _ hs hl (so_pm_c (so_pm_i _) so_pm_2) so_pm_L)
    · exact hs.elim
  case iand =>
    obtain ⟨hd2, hnx⟩ := so_dec hd
    clear hd
    subst hnx
    dsimp only [am_step] at hs
    split at hs
    · exact lv_iand hx hb hd2 (hk _ _ _ _ hs hl (so_pm_c (so_pm_i _) so_pm_2) so_pm_L)
    · exact hs.elim
  case ior =>
    obtain ⟨hd2, hnx⟩ := so_dec hd
    clear hd
    subst hnx
    dsimp only [am_step] at hs
    split at hs
    · exact lv_ior hx hb hd2 (hk _ _ _ _ hs hl (so_pm_c (so_pm_i _) so_pm_2) so_pm_L)
    · exact hs.elim
  case ishl =>
    obtain ⟨hd2, hnx⟩ := so_dec hd
    clear hd
    subst hnx
    dsimp only [am_step] at hs
    split at hs
    · exact lv_ishl hx hb hd2 (hk _ _ _ _ hs hl (so_pm_c (so_pm_i _) so_pm_2) so_pm_L)
    · exact hs.elim
  case ishr =>
    obtain ⟨hd2, hnx⟩ := so_dec hd
    clear hd
    subst hnx
    dsimp only [am_step] at hs
    split at hs
    · exact lv_ishr hx hb hd2 (hk _ _ _ _ hs hl (so_pm_c (so_pm_i _) so_pm_2) so_pm_L)
    · exact hs.elim
  case idiv =>
    obtain ⟨hd2, hnx⟩ := so_dec hd
    clear hd
    subst hnx
    dsimp only [am_step] at hs
    split at hs
    · exact lv_idiv hx hb hd2 hs.1 (hk _ _ _ _ hs.2 hl (so_pm_c (so_pm_i _) so_pm_2) so_pm_L)
    · exact hs.elim
  case irem =>
    obtain ⟨hd2, hnx⟩ := so_dec hd
    clear hd
    subst hnx
    dsimp only [am_step] at hs
    split at hs
    · exact lv_irem hx hb hd2 hs.1 (hk _ _ _ _ hs.2 hl (so_pm_c (so_pm_i _) so_pm_2) so_pm_L)
    · exact hs.elim
  case iushr =>
    obtain ⟨hd2, hnx⟩ := so_dec hd
    clear hd
    subst hnx
    dsimp only [am_step] at hs
    split at hs
    · exact lv_iushr hx hb hd2 rfl (hk _ _ _ _ hs hl (so_pm_c (so_pm_i _) so_pm_2) so_pm_L)
    · exact hs.elim
  case ineg =>
    obtain ⟨hd2, hnx⟩ := so_dec hd
    clear hd
    subst hnx
    dsimp only [am_step] at hs
    split at hs
    · exact lv_ineg hx hb hd2 (hk _ _ _ _ hs hl (so_pm_c (so_pm_i _) so_pm_1) so_pm_L)
    · exact hs.elim
  case i2l =>
    obtain ⟨hd2, hnx⟩ := so_dec hd
    clear hd
    subst hnx
    dsimp only [am_step] at hs
    split at hs
    · exact lv_i2l hx hb hd2 rfl (hk _ _ _ _ hs hl (so_pm_c (so_pm_l _) so_pm_1) so_pm_L)
    · exact hs.elim
  case l2i =>
    obtain ⟨hd2, hnx⟩ := so_dec hd
    clear hd
    subst hnx
    dsimp only [am_step] at hs
    split at hs
    · exact lv_l2i hx hb hd2 rfl (hk _ _ _ _ hs hl (so_pm_c (so_pm_i _) so_pm_1) so_pm_L)
    · exact hs.elim
  case i2b =>
    obtain ⟨hd2, hnx⟩ := so_dec hd
    clear hd
    subst hnx
    dsimp only [am_step] at hs
    split at hs
    · exact lv_i2b hx hb hd2 rfl (hk _ _ _ _ hs hl (so_pm_c (so_pm_i _) so_pm_1) so_pm_L)
    · exact hs.elim
  case i2s =>
    obtain ⟨hd2, hnx⟩ := so_dec hd
    clear hd
    subst hnx
    dsimp only [am_step] at hs
    split at hs
    · exact lv_i2s hx hb hd2 rfl (hk _ _ _ _ hs hl (so_pm_c (so_pm_i _) so_pm_1) so_pm_L)
    · exact hs.elim
  case land =>
    obtain ⟨hd2, hnx⟩ := so_dec hd
    clear hd
    subst hnx
    dsimp only [am_step] at hs
    split at hs
    · exact lv_land hx hb hd2 (hk _ _ _ _ hs hl (so_pm_c (so_pm_l _) so_pm_2) so_pm_L)
    · exact hs.elim
  case lor =>
    obtain ⟨hd2, hnx⟩ := so_dec hd
    clear hd
    subst hnx
    dsimp only [am_step] at hs
    split at hs
    · exact lv_lor hx hb hd2 (hk _ _ _ _ hs hl (so_pm_c (so_pm_l _) so_pm_2) so_pm_L)
    · exact hs.elim
  case lshl =>
    obtain ⟨hd2, hnx⟩ := so_dec hd
    clear hd
    subst hnx
    dsimp only [am_step] at hs
    split at hs
    · exact lv_lshl hx hb hd2 rfl (hk _ _ _ _ hs hl (so_pm_c (so_pm_l _) so_pm_2) so_pm_L)
    · exact hs.elim
  case lshr =>
    obtain ⟨hd2, hnx⟩ := so_dec hd
    clear hd
    subst hnx
    dsimp only [am_step] at hs
    split at hs
    · exact lv_lshr hx hb hd2 rfl (hk _ _ _ _ hs hl (so_pm_c (so_pm_l _) so_pm_2) so_pm_L)
    · exact hs.elim
  case lushr =>
    obtain ⟨hd2, hnx⟩ := so_dec hd
    clear hd
    subst hnx
    dsimp only [am_step] at hs
    split at hs
    · exact lv_lushr hx hb hd2 rfl (hk _ _ _ _ hs hl (so_pm_c (so_pm_l _) so_pm_2) so_pm_L)
    · exact hs.elim
  case ifCond d0 o0 =>
    obtain ⟨hd2, hnx⟩ := so_dec hd
    clear hd
    subst hnx
    dsimp only [am_step] at hs
    simp only [decide_eq_true_eq] at hck
    split at hs
    · rename_i z0 st0
      cases d0 <;> dsimp only at hs
      case eq => exact lv_if_eq hx hb hd2 hck (fun hc => hk _ _ _ _ (hs.1 hc) hl so_pm_1 so_pm_L) (fun hc => hk _ _ _ _ (hs.2 hc) hl so_pm_1 so_pm_L)
      case ne => exact lv_if_ne hx hb hd2 hck (fun hc => hk _ _ _ _ (hs.1 hc) hl so_pm_1 so_pm_L) (fun hc => hk _ _ _ _ (hs.2 hc) hl so_pm_1 so_pm_L)
      case lt => exact lv_if_lt hx hb hd2 hck (fun hc => hk _ _ _ _ (hs.1 hc) hl so_pm_1 so_pm_L) (fun hc => hk _ _ _ _ (hs.2 hc) hl so_pm_1 so_pm_L)
      case ge => exact lv_if_ge hx hb hd2 hck (fun hc => hk _ _ _ _ (hs.1 hc) hl so_pm_1 so_pm_L) (fun hc => hk _ _ _ _ (hs.2 hc) hl so_pm_1 so_pm_L)
      case gt => exact lv_if_gt hx hb hd2 hck (fun hc => hk _ _ _ _ (hs.1 hc) hl so_pm_1 so_pm_L) (fun hc => hk _ _ _ _ (hs.2 hc) hl so_pm_1 so_pm_L)
      case le => exact lv_if_le hx hb hd2 hck (fun hc => hk _ _ _ _ (hs.1 hc) hl so_pm_1 so_pm_L) (fun hc => hk _ _ _ _ (hs.2 hc) hl so_pm_1 so_pm_L)
    · exact hs.elim
  case if_icmp d0 o0 =>
    obtain ⟨hd2, hnx⟩ := so_dec hd
    clear hd
    subst hnx
    dsimp only [am_step] at hs
    simp only [decide_eq_true_eq] at hck
    split at hs
    · rename_i y0 z0 st0
      cases d0 <;> dsimp only at hs
      case eq => exact lv_icmp_eq hx hb hd2 hck (fun hc => hk _ _ _ _ (hs.1 hc) hl so_pm_2 so_pm_L) (fun hc => hk _ _ _ _ (hs.2 hc) hl so_pm_2 so_pm_L)
      case ne => exact lv_icmp_ne hx hb hd2 hck (fun hc => hk _ _ _ _ (hs.1 hc) hl so_pm_2 so_pm_L) (fun hc => hk _ _ _ _ (hs.2 hc) hl so_pm_2 so_pm_L)
      case lt => exact lv_icmp_lt hx hb hd2 hck (fun hc => hk _ _ _ _ (hs.1 hc) hl so_pm_2 so_pm_L) (fun hc => hk _ _ _ _ (hs.2 hc) hl so_pm_2 so_pm_L)
      case ge => exact lv_icmp_ge hx hb hd2 hck (fun hc => hk _ _ _ _ (hs.1 hc) hl so_pm_2 so_pm_L) (fun hc => hk _ _ _ _ (hs.2 hc) hl so_pm_2 so_pm_L)
      case gt => exact lv_icmp_gt hx hb hd2 hck (fun hc => hk _ _ _ _ (hs.1 hc) hl so_pm_2 so_pm_L) (fun hc => hk _ _ _ _ (hs.2 hc) hl so_pm_2 so_pm_L)
      case le => exact lv_icmp_le hx hb hd2 hck (fun hc => hk _ _ _ _ (hs.1 hc) hl so_pm_2 so_pm_L) (fun hc => hk _ _ _ _ (hs.2 hc) hl so_pm_2 so_pm_L)
    · exact hs.elim
  case goto o0 =>
    obtain ⟨hd2, hnx⟩ := so_dec hd
    clear hd
    subst hnx
    dsimp only [am_step] at hs
    simp only [decide_eq_true_eq] at hck
    exact lv_goto hx hb hd2 hck (hk _ _ _ _ hs hl so_pm_0 so_pm_L)
  case tableswitch d0 lo hi offs =>
    dsimp only [am_step] at hs
    split at hd
    · rename_i i len heq
      simp only [Bool.and_eq_true, decide_eq_true_eq] at hd
      obtain ⟨rfl, ⟨⟨hdf, hal⟩, htb⟩, hsz⟩ := hd
      split at hs
      · rename_i z0 st0
        have ht := so_lk_of _ _ _ _ hs
        by_cases h2 : z0.toInt < lo ∨ hi < z0.toInt
        · rw [so_lk_out (x := z0) (by
            rw [List.all_eq_true] at hal ⊢
            intro q hq
            have h3 := hal q hq
            simp only [Bool.and_eq_true, decide_eq_true_eq] at h3 ⊢
            intro h4
            rw [h4] at h3
            omega)] at ht
          exact lv_tableOut hx hb heq h2 hdf (hk _ _ _ _ ht hl so_pm_1 so_pm_L)
        · have h3 : ¬ z0.toInt < lo := fun h => h2 (Or.inl h)
          have h4 : ¬ hi < z0.toInt := fun h => h2 (Or.inr h)
          have h5 : (z0.toInt - lo).toNat < offs.size := by omega
          have h6 : offs[(z0.toInt - lo).toNat]? = some offs[(z0.toInt - lo).toNat] := Array.getElem?_eq_getElem h5
          have h7 := so_tab_at offs.toList lo (z0.toInt - lo).toNat _ htb (by rw [Array.getElem?_toList]; exact h6)
          rw [show lo + ((z0.toInt - lo).toNat : Int) = z0.toInt by omega, Int32.ofInt_toInt] at h7
          exact lv_tableIn hx hb heq h3 h4 h6 h7 (hk _ _ _ _ ht hl so_pm_1 so_pm_L)
      · exact hs.elim
    · cases hd
  case lookupswitch d0 ps =>
    dsimp only [am_step] at hs
    split at hd
    · rename_i i len heq
      simp only [Bool.and_eq_true, decide_eq_true_eq] at hd
      obtain ⟨rfl, ⟨⟨hdf, hso⟩, hsw⟩, hal⟩ := hd
      split at hs
      · rename_i z0 st0
        have ht := so_lk_of _ _ _ _ hs
        refine lv_lookup (tgt := so_lk sw z0 a) hx hb heq hso rfl ?_ (hk _ _ _ _ ht hl so_pm_1 so_pm_L)
        rw [hsw]
        exact so_lk_pairs hdf z0 ps.toList hal
      · exact hs.elim
    · cases hd
end so1
end
section
/-! printed by wip/gen_code.py: what the Statement says of each method: its name, bytes, locals, result, how many parameters, whether it is a constructor -/
abbrev so_MI : Type := MethodName × ByteArray × Nat × Option FieldType × Nat × Bool
def so_ml : List (Nat × so_MI) := [
 (0, (⟨"CrowdOut$Area", "<init>", "(II)V"⟩ : MethodName), prog_2_method_1_code, 3, ((Option.none : Option FieldType) : Option FieldType), 2, true),
 (1, (⟨"CrowdOut$Area", "copyFrom", "(LCrowdOut$Area;)V"⟩ : MethodName), prog_2_method_2_code, 2, ((Option.none : Option FieldType) : Option FieldType), 1, false),
 (2, (⟨"CrowdOut$Area", "press", "()I"⟩ : MethodName), prog_2_method_3_code, 1, ((Option.some FieldType.int) : Option FieldType), 0, false),
 (3, (⟨"CrowdOut$Area", "seeTight", "(I)Z"⟩ : MethodName), prog_2_method_4_code, 4, ((Option.some FieldType.boolean) : Option FieldType), 1, false),
 (4, (⟨"CrowdOut$Area", "roomLeft", "(I)I"⟩ : MethodName), prog_2_method_5_code, 2, ((Option.some FieldType.int) : Option FieldType), 1, false),
 (5, (⟨"CrowdOut$Area", "fall", "(II)V"⟩ : MethodName), prog_2_method_6_code, 4, ((Option.none : Option FieldType) : Option FieldType), 2, false),
 (100, (⟨"CrowdOut$Folk", "<init>", "(IIII)V"⟩ : MethodName), prog_3_method_1_code, 5, ((Option.none : Option FieldType) : Option FieldType), 4, true),
 (101, (⟨"CrowdOut$Folk", "copyFrom", "(LCrowdOut$Folk;)V"⟩ : MethodName), prog_3_method_2_code, 2, ((Option.none : Option FieldType) : Option FieldType), 1, false),
 (102, (⟨"CrowdOut$Folk", "target", "()I"⟩ : MethodName), prog_3_method_3_code, 1, ((Option.some FieldType.int) : Option FieldType), 0, false),
 (103, (⟨"CrowdOut$Folk", "isWhereItShould", "()Z"⟩ : MethodName), prog_3_method_4_code, 1, ((Option.some FieldType.boolean) : Option FieldType), 0, false),
 (200, (⟨"CrowdOut$Given", "<init>", "()V"⟩ : MethodName), prog_4_method_1_code, 1, ((Option.none : Option FieldType) : Option FieldType), 0, true),
 (201, (⟨"CrowdOut$Given", "copyFrom", "(LCrowdOut$Given;)V"⟩ : MethodName), prog_4_method_2_code, 2, ((Option.none : Option FieldType) : Option FieldType), 1, false),
 (202, (⟨"CrowdOut$Given", "passOverHeard", "(I)V"⟩ : MethodName), prog_4_method_3_code, 3, ((Option.none : Option FieldType) : Option FieldType), 1, false),
 (300, (⟨"CrowdOut$Link", "<init>", "(III)V"⟩ : MethodName), prog_5_method_1_code, 4, ((Option.none : Option FieldType) : Option FieldType), 3, true),
 (301, (⟨"CrowdOut$Link", "copyFrom", "(LCrowdOut$Link;)V"⟩ : MethodName), prog_5_method_2_code, 2, ((Option.none : Option FieldType) : Option FieldType), 1, false),
 (302, (⟨"CrowdOut$Link", "rowOf", "(II)I"⟩ : MethodName), prog_5_method_3_code, 3, ((Option.some FieldType.int) : Option FieldType), 2, false),
 (303, (⟨"CrowdOut$Link", "note", "(I)V"⟩ : MethodName), prog_5_method_4_code, 2, ((Option.none : Option FieldType) : Option FieldType), 1, false),
 (304, (⟨"CrowdOut$Link", "wentOn", "(I)I"⟩ : MethodName), prog_5_method_5_code, 2, ((Option.some FieldType.int) : Option FieldType), 1, false),
 (305, (⟨"CrowdOut$Link", "headsOf", "(I)I"⟩ : MethodName), prog_5_method_6_code, 4, ((Option.some FieldType.int) : Option FieldType), 1, false),
 (400, (⟨"CrowdOut$Order", "<init>", "([I[IZ)V"⟩ : MethodName), prog_6_method_1_code, 4, ((Option.none : Option FieldType) : Option FieldType), 3, true),
 (500, (⟨"CrowdOut$Reader", "<init>", "()V"⟩ : MethodName), prog_7_method_1_code, 1, ((Option.none : Option FieldType) : Option FieldType), 0, true),
 (501, (⟨"CrowdOut$Reader", "keep", "(I)V"⟩ : MethodName), prog_7_method_2_code, 2, ((Option.none : Option FieldType) : Option FieldType), 1, false),
 (502, (⟨"CrowdOut$Reader", "begin", "()V"⟩ : MethodName), prog_7_method_3_code, 1, ((Option.none : Option FieldType) : Option FieldType), 0, false),
 (503, (⟨"CrowdOut$Reader", "writtenTests", "()[I"⟩ : MethodName), prog_7_method_4_code, 1, ((Option.some (FieldType.array FieldType.int)) : Option FieldType), 0, false),
 (504, (⟨"CrowdOut$Reader", "writtenActs", "()[I"⟩ : MethodName), prog_7_method_5_code, 1, ((Option.some (FieldType.array FieldType.int)) : Option FieldType), 0, false),
 (505, (⟨"CrowdOut$Reader", "readOrs", "(I)V"⟩ : MethodName), prog_7_method_6_code, 3, ((Option.none : Option FieldType) : Option FieldType), 1, false),
 (506, (⟨"CrowdOut$Reader", "readActs", "()V"⟩ : MethodName), prog_7_method_7_code, 2, ((Option.none : Option FieldType) : Option FieldType), 0, false),
 (507, (⟨"CrowdOut$Reader", "readAnds", "(I)V"⟩ : MethodName), prog_7_method_8_code, 3, ((Option.none : Option FieldType) : Option FieldType), 1, false),
 (508, (⟨"CrowdOut$Reader", "readTest", "(I)V"⟩ : MethodName), prog_7_method_9_code, 5, ((Option.none : Option FieldType) : Option FieldType), 1, false),
 (509, (⟨"CrowdOut$Reader", "readSum", "()V"⟩ : MethodName), prog_7_method_10_code, 3, ((Option.none : Option FieldType) : Option FieldType), 0, false),
 (510, (⟨"CrowdOut$Reader", "readUnit", "()V"⟩ : MethodName), prog_7_method_11_code, 2, ((Option.none : Option FieldType) : Option FieldType), 0, false),
 (511, (⟨"CrowdOut$Reader", "unitOf", "(I)I"⟩ : MethodName), prog_7_method_12_code, 1, ((Option.some FieldType.int) : Option FieldType), 1, false),
 (512, (⟨"CrowdOut$Reader", "readAct", "()V"⟩ : MethodName), prog_7_method_13_code, 3, ((Option.none : Option FieldType) : Option FieldType), 0, false),
 (513, (⟨"CrowdOut$Reader", "readDigits", "(II)I"⟩ : MethodName), prog_7_method_14_code, 6, ((Option.some FieldType.int) : Option FieldType), 2, false),
 (514, (⟨"CrowdOut$Reader", "step", "()V"⟩ : MethodName), prog_7_method_15_code, 1, ((Option.none : Option FieldType) : Option FieldType), 0, false),
 (515, (⟨"CrowdOut$Reader", "stepOver", "(I)V"⟩ : MethodName), prog_7_method_16_code, 2, ((Option.none : Option FieldType) : Option FieldType), 1, false),
 (516, (⟨"CrowdOut$Reader", "fail", "()V"⟩ : MethodName), prog_7_method_17_code, 1, ((Option.none : Option FieldType) : Option FieldType), 0, false),
 (517, (⟨"CrowdOut$Reader", "put", "(II)V"⟩ : MethodName), prog_7_method_18_code, 3, ((Option.none : Option FieldType) : Option FieldType), 2, false),
 (600, (⟨"CrowdOut$Tellings", "<init>", "()V"⟩ : MethodName), prog_8_method_1_code, 1, ((Option.none : Option FieldType) : Option FieldType), 0, true),
 (601, (⟨"CrowdOut$Tellings", "add", "(IIII)V"⟩ : MethodName), prog_8_method_2_code, 5, ((Option.none : Option FieldType) : Option FieldType), 4, false),
 (602, (⟨"CrowdOut$Tellings", "latest", "(III)I"⟩ : MethodName), prog_8_method_3_code, 5, ((Option.some FieldType.int) : Option FieldType), 3, false),
 (603, (⟨"CrowdOut$Tellings", "off", "(IILCrowdOut$Link;)I"⟩ : MethodName), prog_8_method_4_code, 6, ((Option.some FieldType.int) : Option FieldType), 3, false),
 (700, (⟨"CrowdOut$Train", "<init>", "(IIII)V"⟩ : MethodName), prog_9_method_1_code, 5, ((Option.none : Option FieldType) : Option FieldType), 4, true),
 (701, (⟨"CrowdOut$Train", "comesOn", "(I)Z"⟩ : MethodName), prog_9_method_2_code, 2, ((Option.some FieldType.boolean) : Option FieldType), 1, false),
 (800, (⟨"CrowdOut$Ways", "<init>", "()V"⟩ : MethodName), prog_10_method_1_code, 1, ((Option.none : Option FieldType) : Option FieldType), 0, true),
 (801, (⟨"CrowdOut$Ways", "forget", "()V"⟩ : MethodName), prog_10_method_2_code, 1, ((Option.none : Option FieldType) : Option FieldType), 0, false),
 (802, (⟨"CrowdOut$Ways", "rowTo", "(LCrowdOut$World;IZ)I"⟩ : MethodName), prog_10_method_3_code, 8, ((Option.some FieldType.int) : Option FieldType), 3, false),
 (803, (⟨"CrowdOut$Ways", "shorten", "(LCrowdOut$World;IZ)Z"⟩ : MethodName), prog_10_method_4_code, 12, ((Option.some FieldType.boolean) : Option FieldType), 3, false),
 (900, (⟨"CrowdOut$World", "<init>", "()V"⟩ : MethodName), prog_11_method_1_code, 1, ((Option.none : Option FieldType) : Option FieldType), 0, true),
 (901, (⟨"CrowdOut$World", "isArea", "(I)Z"⟩ : MethodName), prog_11_method_2_code, 2, ((Option.some FieldType.boolean) : Option FieldType), 1, false),
 (902, (⟨"CrowdOut$World", "isGoal", "(I)Z"⟩ : MethodName), prog_11_method_3_code, 2, ((Option.some FieldType.boolean) : Option FieldType), 1, false),
 (903, (⟨"CrowdOut$World", "isLink", "(I)Z"⟩ : MethodName), prog_11_method_4_code, 2, ((Option.some FieldType.boolean) : Option FieldType), 1, false),
 (904, (⟨"CrowdOut$World", "isFolk", "(I)Z"⟩ : MethodName), prog_11_method_5_code, 2, ((Option.some FieldType.boolean) : Option FieldType), 1, false),
 (905, (⟨"CrowdOut$World", "isTrain", "(I)Z"⟩ : MethodName), prog_11_method_6_code, 2, ((Option.some FieldType.boolean) : Option FieldType), 1, false),
 (906, (⟨"CrowdOut$World", "isOrder", "(I)Z"⟩ : MethodName), prog_11_method_7_code, 2, ((Option.some FieldType.boolean) : Option FieldType), 1, false),
 (907, (⟨"CrowdOut$World", "copyFrom", "(LCrowdOut$World;)V"⟩ : MethodName), prog_11_method_8_code, 4, ((Option.none : Option FieldType) : Option FieldType), 1, false),
 (908, (⟨"CrowdOut$World", "copyGround", "(LCrowdOut$World;)V"⟩ : MethodName), prog_11_method_9_code, 4, ((Option.none : Option FieldType) : Option FieldType), 1, false),
 (909, (⟨"CrowdOut$World", "change", "(III)V"⟩ : MethodName), prog_11_method_10_code, 4, ((Option.none : Option FieldType) : Option FieldType), 3, false),
 (910, (⟨"CrowdOut$World", "shift", "(II)V"⟩ : MethodName), prog_11_method_11_code, 3, ((Option.none : Option FieldType) : Option FieldType), 2, false),
 (911, (⟨"CrowdOut$World", "seeAllTight", "()V"⟩ : MethodName), prog_11_method_12_code, 2, ((Option.none : Option FieldType) : Option FieldType), 0, false),
 (912, (⟨"CrowdOut$World", "allInside", "()I"⟩ : MethodName), prog_11_method_13_code, 3, ((Option.some FieldType.int) : Option FieldType), 0, false),
 (913, (⟨"CrowdOut$World", "allOnWay", "()I"⟩ : MethodName), prog_11_method_14_code, 3, ((Option.some FieldType.int) : Option FieldType), 0, false),
 (914, (⟨"CrowdOut$World", "allOut", "()I"⟩ : MethodName), prog_11_method_15_code, 3, ((Option.some FieldType.int) : Option FieldType), 0, false),
 (915, (⟨"CrowdOut$World", "allFell", "()I"⟩ : MethodName), prog_11_method_16_code, 3, ((Option.some FieldType.int) : Option FieldType), 0, false),
 (916, (⟨"CrowdOut$World", "allTaken", "()I"⟩ : MethodName), prog_11_method_17_code, 3, ((Option.some FieldType.int) : Option FieldType), 0, false),
 (917, (⟨"CrowdOut$World", "ordersThatStand", "()I"⟩ : MethodName), prog_11_method_18_code, 3, ((Option.some FieldType.int) : Option FieldType), 0, false),
 (918, (⟨"CrowdOut$World", "empty", "(II)I"⟩ : MethodName), prog_11_method_19_code, 5, ((Option.some FieldType.int) : Option FieldType), 2, false),
 (919, (⟨"CrowdOut$World", "isOver", "()Z"⟩ : MethodName), prog_11_method_20_code, 2, ((Option.some FieldType.boolean) : Option FieldType), 0, false),
 (920, (⟨"CrowdOut$World", "isStuck", "()Z"⟩ : MethodName), prog_11_method_21_code, 1, ((Option.some FieldType.boolean) : Option FieldType), 0, false),
 (921, (⟨"CrowdOut$World", "pass", "()V"⟩ : MethodName), prog_11_method_22_code, 1, ((Option.none : Option FieldType) : Option FieldType), 0, false),
 (922, (⟨"CrowdOut$World", "hear", "()V"⟩ : MethodName), prog_11_method_23_code, 2, ((Option.none : Option FieldType) : Option FieldType), 0, false),
 (923, (⟨"CrowdOut$World", "perform", "(II)V"⟩ : MethodName), prog_11_method_24_code, 3, ((Option.none : Option FieldType) : Option FieldType), 2, false),
 (924, (⟨"CrowdOut$World", "comeIn", "()V"⟩ : MethodName), prog_11_method_25_code, 5, ((Option.none : Option FieldType) : Option FieldType), 0, false),
 (925, (⟨"CrowdOut$World", "arrive", "(LCrowdOut$Link;II)V"⟩ : MethodName), prog_11_method_26_code, 7, ((Option.none : Option FieldType) : Option FieldType), 3, false),
 (926, (⟨"CrowdOut$World", "goOn", "()V"⟩ : MethodName), prog_11_method_27_code, 6, ((Option.none : Option FieldType) : Option FieldType), 0, false),
 (927, (⟨"CrowdOut$World", "leave", "(III)V"⟩ : MethodName), prog_11_method_28_code, 11, ((Option.none : Option FieldType) : Option FieldType), 3, false),
 (928, (⟨"CrowdOut$World", "fitting", "(IILCrowdOut$Link;I)I"⟩ : MethodName), prog_11_method_29_code, 6, ((Option.some FieldType.int) : Option FieldType), 4, false),
 (929, (⟨"CrowdOut$World", "pressOn", "()V"⟩ : MethodName), prog_11_method_30_code, 3, ((Option.none : Option FieldType) : Option FieldType), 0, false),
 (930, (⟨"CrowdOut$World", "board", "()V"⟩ : MethodName), prog_11_method_31_code, 4, ((Option.none : Option FieldType) : Option FieldType), 0, false),
 (931, (⟨"CrowdOut$World", "ask", "()V"⟩ : MethodName), prog_11_method_32_code, 3, ((Option.none : Option FieldType) : Option FieldType), 0, false),
 (932, (⟨"CrowdOut$World", "give", "(I)V"⟩ : MethodName), prog_11_method_33_code, 6, ((Option.none : Option FieldType) : Option FieldType), 1, false),
 (933, (⟨"CrowdOut$World", "isTrue", "(LCrowdOut$Order;)Z"⟩ : MethodName), prog_11_method_34_code, 5, ((Option.some FieldType.boolean) : Option FieldType), 1, false),
 (934, (⟨"CrowdOut$World", "worth", "(II)I"⟩ : MethodName), prog_11_method_35_code, 3, ((Option.some FieldType.int) : Option FieldType), 2, false),
 (935, (⟨"CrowdOut$World", "joined", "(III)I"⟩ : MethodName), prog_11_method_36_code, 3, ((Option.some FieldType.int) : Option FieldType), 3, false),
 (1000, (⟨"CrowdOut", "<init>", "()V"⟩ : MethodName), prog_1_method_1_code, 1, ((Option.none : Option FieldType) : Option FieldType), 0, true),
 (1001, (⟨"CrowdOut", "area", "(II)I"⟩ : MethodName), prog_1_method_2_code, 3, ((Option.some FieldType.int) : Option FieldType), 2, false),
 (1002, (⟨"CrowdOut", "link", "(IIII)I"⟩ : MethodName), prog_1_method_3_code, 6, ((Option.some FieldType.int) : Option FieldType), 4, false),
 (1003, (⟨"CrowdOut", "linkSet", "(III)I"⟩ : MethodName), prog_1_method_4_code, 6, ((Option.some FieldType.int) : Option FieldType), 3, false),
 (1004, (⟨"CrowdOut", "folk", "(IIII)I"⟩ : MethodName), prog_1_method_5_code, 7, ((Option.some FieldType.int) : Option FieldType), 4, false),
 (1005, (⟨"CrowdOut", "train", "(IIII)I"⟩ : MethodName), prog_1_method_6_code, 5, ((Option.some FieldType.int) : Option FieldType), 4, false),
 (1006, (⟨"CrowdOut", "hold", "(IZ)I"⟩ : MethodName), prog_1_method_7_code, 4, ((Option.some FieldType.int) : Option FieldType), 2, false),
 (1007, (⟨"CrowdOut", "set", "(II)I"⟩ : MethodName), prog_1_method_8_code, 4, ((Option.some FieldType.int) : Option FieldType), 2, false),
 (1008, (⟨"CrowdOut", "ticks", "(I)I"⟩ : MethodName), prog_1_method_9_code, 5, ((Option.some FieldType.int) : Option FieldType), 1, false),
 (1009, (⟨"CrowdOut", "areaOf", "(II)I"⟩ : MethodName), prog_1_method_10_code, 4, ((Option.some FieldType.int) : Option FieldType), 2, false),
 (1010, (⟨"CrowdOut", "folkOf", "(III)I"⟩ : MethodName), prog_1_method_11_code, 5, ((Option.some FieldType.int) : Option FieldType), 3, false),
 (1011, (⟨"CrowdOut", "next", "(IIZ)I"⟩ : MethodName), prog_1_method_12_code, 4, ((Option.some FieldType.int) : Option FieldType), 3, false),
 (1012, (⟨"CrowdOut", "walk", "(IIZ)I"⟩ : MethodName), prog_1_method_13_code, 4, ((Option.some FieldType.int) : Option FieldType), 3, false),
 (1013, (⟨"CrowdOut", "feed", "(IJ)I"⟩ : MethodName), prog_1_method_14_code, 5, ((Option.some FieldType.int) : Option FieldType), 2, false),
 (1014, (⟨"CrowdOut", "order", "(I)I"⟩ : MethodName), prog_1_method_15_code, 3, ((Option.some FieldType.int) : Option FieldType), 1, false),
 (1015, (⟨"CrowdOut", "stand", "(IZ)I"⟩ : MethodName), prog_1_method_16_code, 4, ((Option.some FieldType.int) : Option FieldType), 2, false),
 (1016, (⟨"CrowdOut", "holds", "(I)I"⟩ : MethodName), prog_1_method_17_code, 2, ((Option.some FieldType.int) : Option FieldType), 1, false),
 (1017, (⟨"CrowdOut", "given", "(II)I"⟩ : MethodName), prog_1_method_18_code, 4, ((Option.some FieldType.int) : Option FieldType), 2, false),
 (1018, (⟨"CrowdOut", "counted", "(III)I"⟩ : MethodName), prog_1_method_19_code, 4, ((Option.some FieldType.int) : Option FieldType), 3, false),
 (1019, (⟨"CrowdOut", "count", "(III)I"⟩ : MethodName), prog_1_method_20_code, 5, ((Option.some FieldType.int) : Option FieldType), 3, false),
 (1020, (⟨"CrowdOut", "wrong", "(II)I"⟩ : MethodName), prog_1_method_21_code, 3, ((Option.some FieldType.int) : Option FieldType), 2, false),
 (1021, (⟨"CrowdOut", "out", "(II)I"⟩ : MethodName), prog_1_method_22_code, 3, ((Option.some FieldType.int) : Option FieldType), 2, false),
 (1022, (⟨"CrowdOut", "worst", "(I)I"⟩ : MethodName), prog_1_method_23_code, 9, ((Option.some FieldType.int) : Option FieldType), 1, false),
 (1023, (⟨"CrowdOut", "option", "(III)I"⟩ : MethodName), prog_1_method_24_code, 5, ((Option.some FieldType.int) : Option FieldType), 3, false),
 (1024, (⟨"CrowdOut", "design", "(III)I"⟩ : MethodName), prog_1_method_25_code, 5, ((Option.some FieldType.int) : Option FieldType), 3, false),
 (1025, (⟨"CrowdOut", "kin", "(I)I"⟩ : MethodName), prog_1_method_26_code, 4, ((Option.some FieldType.int) : Option FieldType), 1, false),
 (1026, (⟨"CrowdOut", "total", "(I)I"⟩ : MethodName), prog_1_method_27_code, 2, ((Option.some FieldType.int) : Option FieldType), 1, false),
 (1027, (⟨"CrowdOut", "refuse", "(I)I"⟩ : MethodName), prog_1_method_28_code, 3, ((Option.some FieldType.int) : Option FieldType), 1, false),
 (1028, (⟨"CrowdOut", "linkRefusal", "(III)I"⟩ : MethodName), prog_1_method_29_code, 4, ((Option.some FieldType.int) : Option FieldType), 3, false),
 (1029, (⟨"CrowdOut", "emptiedRow", "(II)I"⟩ : MethodName), prog_1_method_30_code, 5, ((Option.some FieldType.int) : Option FieldType), 2, false),
 (1030, (⟨"CrowdOut", "isEnough", "(III)Z"⟩ : MethodName), prog_1_method_31_code, 7, ((Option.some FieldType.boolean) : Option FieldType), 3, false),
 (1100, (⟨"CrowdOutModel", "<init>", "()V"⟩ : MethodName), prog_13_method_1_code, 2, ((Option.none : Option FieldType) : Option FieldType), 0, true),
 (1101, (⟨"CrowdOutModel", "no", "(I)I"⟩ : MethodName), prog_13_method_2_code, 2, ((Option.some FieldType.int) : Option FieldType), 1, false),
 (1102, (⟨"CrowdOutModel", "isArea", "(I)Z"⟩ : MethodName), prog_13_method_3_code, 2, ((Option.some FieldType.boolean) : Option FieldType), 1, false),
 (1103, (⟨"CrowdOutModel", "isLink", "(I)Z"⟩ : MethodName), prog_13_method_4_code, 2, ((Option.some FieldType.boolean) : Option FieldType), 1, false),
 (1104, (⟨"CrowdOutModel", "isFolk", "(I)Z"⟩ : MethodName), prog_13_method_5_code, 2, ((Option.some FieldType.boolean) : Option FieldType), 1, false),
 (1105, (⟨"CrowdOutModel", "isTrain", "(I)Z"⟩ : MethodName), prog_13_method_6_code, 2, ((Option.some FieldType.boolean) : Option FieldType), 1, false),
 (1106, (⟨"CrowdOutModel", "isOrder", "(I)Z"⟩ : MethodName), prog_13_method_7_code, 2, ((Option.some FieldType.boolean) : Option FieldType), 1, false),
 (1107, (⟨"CrowdOutModel", "area", "(II)I"⟩ : MethodName), prog_13_method_8_code, 3, ((Option.some FieldType.int) : Option FieldType), 2, false),
 (1108, (⟨"CrowdOutModel", "link", "(IIII)I"⟩ : MethodName), prog_13_method_9_code, 5, ((Option.some FieldType.int) : Option FieldType), 4, false),
 (1109, (⟨"CrowdOutModel", "barred", "(III)I"⟩ : MethodName), prog_13_method_10_code, 5, ((Option.some FieldType.int) : Option FieldType), 3, false),
 (1110, (⟨"CrowdOutModel", "linkSet", "(III)I"⟩ : MethodName), prog_13_method_11_code, 6, ((Option.some FieldType.int) : Option FieldType), 3, false),
 (1111, (⟨"CrowdOutModel", "folk", "(IIII)I"⟩ : MethodName), prog_13_method_12_code, 5, ((Option.some FieldType.int) : Option FieldType), 4, false),
 (1112, (⟨"CrowdOutModel", "train", "(IIII)I"⟩ : MethodName), prog_13_method_13_code, 5, ((Option.some FieldType.int) : Option FieldType), 4, false),
 (1113, (⟨"CrowdOutModel", "hold", "(IZ)I"⟩ : MethodName), prog_13_method_14_code, 3, ((Option.some FieldType.int) : Option FieldType), 2, false),
 (1114, (⟨"CrowdOutModel", "set", "(II)I"⟩ : MethodName), prog_13_method_15_code, 4, ((Option.some FieldType.int) : Option FieldType), 2, false),
 (1115, (⟨"CrowdOutModel", "pressOf", "(I)I"⟩ : MethodName), prog_13_method_16_code, 2, ((Option.some FieldType.int) : Option FieldType), 1, false),
 (1116, (⟨"CrowdOutModel", "addHeads", "(II)V"⟩ : MethodName), prog_13_method_17_code, 4, ((Option.none : Option FieldType) : Option FieldType), 2, false),
 (1117, (⟨"CrowdOutModel", "endOf", "(II)I"⟩ : MethodName), prog_13_method_18_code, 3, ((Option.some FieldType.int) : Option FieldType), 2, false),
 (1118, (⟨"CrowdOutModel", "goes", "(IIZ)Z"⟩ : MethodName), prog_13_method_19_code, 5, ((Option.some FieldType.boolean) : Option FieldType), 3, false),
 (1119, (⟨"CrowdOutModel", "timeOf", "(II)I"⟩ : MethodName), prog_13_method_20_code, 3, ((Option.some FieldType.int) : Option FieldType), 2, false),
 (1120, (⟨"CrowdOutModel", "far", "(IZ)I"⟩ : MethodName), prog_13_method_21_code, 8, ((Option.some FieldType.int) : Option FieldType), 2, false),
 (1121, (⟨"CrowdOutModel", "lower", "(IIIZ)Z"⟩ : MethodName), prog_13_method_22_code, 7, ((Option.some FieldType.boolean) : Option FieldType), 4, false),
 (1122, (⟨"CrowdOutModel", "wayOn", "(IIZ)I"⟩ : MethodName), prog_13_method_23_code, 7, ((Option.some FieldType.int) : Option FieldType), 3, false),
 (1123, (⟨"CrowdOutModel", "next", "(IIZ)I"⟩ : MethodName), prog_13_method_24_code, 4, ((Option.some FieldType.int) : Option FieldType), 3, false),
 (1124, (⟨"CrowdOutModel", "walk", "(IIZ)I"⟩ : MethodName), prog_13_method_25_code, 5, ((Option.some FieldType.int) : Option FieldType), 3, false),
 (1125, (⟨"CrowdOutModel", "wayAt", "(IIII)I"⟩ : MethodName), prog_13_method_26_code, 5, ((Option.some FieldType.int) : Option FieldType), 4, false),
 (1126, (⟨"CrowdOutModel", "hear", "()V"⟩ : MethodName), prog_13_method_27_code, 5, ((Option.none : Option FieldType) : Option FieldType), 0, false),
 (1127, (⟨"CrowdOutModel", "arrive", "()I"⟩ : MethodName), prog_13_method_28_code, 5, ((Option.some FieldType.int) : Option FieldType), 0, false),
 (1128, (⟨"CrowdOutModel", "comeIn", "(III)I"⟩ : MethodName), prog_13_method_29_code, 7, ((Option.some FieldType.int) : Option FieldType), 3, false),
 (1129, (⟨"CrowdOutModel", "goOn", "(II)V"⟩ : MethodName), prog_13_method_30_code, 12, ((Option.none : Option FieldType) : Option FieldType), 2, false),
 (1130, (⟨"CrowdOutModel", "pushes", "()V"⟩ : MethodName), prog_13_method_31_code, 5, ((Option.none : Option FieldType) : Option FieldType), 0, false),
 (1131, (⟨"CrowdOutModel", "carry", "()V"⟩ : MethodName), prog_13_method_32_code, 5, ((Option.none : Option FieldType) : Option FieldType), 0, false),
 (1132, (⟨"CrowdOutModel", "pass", "()I"⟩ : MethodName), prog_13_method_33_code, 4, ((Option.some FieldType.int) : Option FieldType), 0, false),
 (1133, (⟨"CrowdOutModel", "ticks", "(I)I"⟩ : MethodName), prog_13_method_34_code, 5, ((Option.some FieldType.int) : Option FieldType), 1, false),
 (1134, (⟨"CrowdOutModel", "areaOf", "(II)I"⟩ : MethodName), prog_13_method_35_code, 3, ((Option.some FieldType.int) : Option FieldType), 2, false),
 (1135, (⟨"CrowdOutModel", "onLink", "(II)I"⟩ : MethodName), prog_13_method_36_code, 5, ((Option.some FieldType.int) : Option FieldType), 2, false),
 (1136, (⟨"CrowdOutModel", "folkOf", "(III)I"⟩ : MethodName), prog_13_method_37_code, 4, ((Option.some FieldType.int) : Option FieldType), 3, false),
 (1137, (⟨"CrowdOutModel", "kin", "(I)I"⟩ : MethodName), prog_13_method_38_code, 4, ((Option.some FieldType.int) : Option FieldType), 1, false),
 (1138, (⟨"CrowdOutModel", "feed", "(IJ)I"⟩ : MethodName), prog_13_method_39_code, 5, ((Option.some FieldType.int) : Option FieldType), 2, false),
 (1139, (⟨"CrowdOutModel", "isDigit", "(I)Z"⟩ : MethodName), prog_13_method_40_code, 2, ((Option.some FieldType.boolean) : Option FieldType), 1, false),
 (1140, (⟨"CrowdOutModel", "byteOf", "(I)I"⟩ : MethodName), prog_13_method_41_code, 2, ((Option.some FieldType.int) : Option FieldType), 1, false),
 (1141, (⟨"CrowdOutModel", "isOf", "(I)Z"⟩ : MethodName), prog_13_method_42_code, 2, ((Option.some FieldType.boolean) : Option FieldType), 1, false),
 (1142, (⟨"CrowdOutModel", "isAct", "(I)Z"⟩ : MethodName), prog_13_method_43_code, 2, ((Option.some FieldType.boolean) : Option FieldType), 1, false),
 (1143, (⟨"CrowdOutModel", "behind", "(I)I"⟩ : MethodName), prog_13_method_44_code, 4, ((Option.some FieldType.int) : Option FieldType), 1, false),
 (1144, (⟨"CrowdOutModel", "fault", "()I"⟩ : MethodName), prog_13_method_45_code, 9, ((Option.some FieldType.int) : Option FieldType), 0, false),
 (1145, (⟨"CrowdOutModel", "order", "(I)I"⟩ : MethodName), prog_13_method_46_code, 5, ((Option.some FieldType.int) : Option FieldType), 1, false),
 (1146, (⟨"CrowdOutModel", "stand", "(IZ)I"⟩ : MethodName), prog_13_method_47_code, 3, ((Option.some FieldType.int) : Option FieldType), 2, false),
 (1147, (⟨"CrowdOutModel", "twoDigits", "(I)I"⟩ : MethodName), prog_13_method_48_code, 3, ((Option.some FieldType.int) : Option FieldType), 1, false),
 (1148, (⟨"CrowdOutModel", "unit", "(I)I"⟩ : MethodName), prog_13_method_49_code, 4, ((Option.some FieldType.int) : Option FieldType), 1, false),
 (1149, (⟨"CrowdOutModel", "sum", "(I)I"⟩ : MethodName), prog_13_method_50_code, 5, ((Option.some FieldType.int) : Option FieldType), 1, false),
 (1150, (⟨"CrowdOutModel", "wordsHold", "(I)Z"⟩ : MethodName), prog_13_method_51_code, 7, ((Option.some FieldType.boolean) : Option FieldType), 1, false),
 (1151, (⟨"CrowdOutModel", "test", "(IZ)V"⟩ : MethodName), prog_13_method_52_code, 3, ((Option.none : Option FieldType) : Option FieldType), 2, false),
 (1152, (⟨"CrowdOutModel", "holds", "(I)I"⟩ : MethodName), prog_13_method_53_code, 2, ((Option.some FieldType.int) : Option FieldType), 1, false),
 (1153, (⟨"CrowdOutModel", "ask", "()V"⟩ : MethodName), prog_13_method_54_code, 5, ((Option.none : Option FieldType) : Option FieldType), 0, false),
 (1154, (⟨"CrowdOutModel", "give", "(I)V"⟩ : MethodName), prog_13_method_55_code, 6, ((Option.none : Option FieldType) : Option FieldType), 1, false),
 (1155, (⟨"CrowdOutModel", "given", "(II)I"⟩ : MethodName), prog_13_method_56_code, 3, ((Option.some FieldType.int) : Option FieldType), 2, false),
 (1156, (⟨"CrowdOutModel", "counted", "(III)I"⟩ : MethodName), prog_13_method_57_code, 4, ((Option.some FieldType.int) : Option FieldType), 3, false),
 (1157, (⟨"CrowdOutModel", "countOf", "(III)I"⟩ : MethodName), prog_13_method_58_code, 6, ((Option.some FieldType.int) : Option FieldType), 3, false),
 (1158, (⟨"CrowdOutModel", "count", "(III)I"⟩ : MethodName), prog_13_method_59_code, 4, ((Option.some FieldType.int) : Option FieldType), 3, false),
 (1159, (⟨"CrowdOutModel", "wrong", "(II)I"⟩ : MethodName), prog_13_method_60_code, 7, ((Option.some FieldType.int) : Option FieldType), 2, false),
 (1160, (⟨"CrowdOutModel", "copyGround", "()V"⟩ : MethodName), prog_13_method_61_code, 2, ((Option.none : Option FieldType) : Option FieldType), 0, false),
 (1161, (⟨"CrowdOutModel", "isOver", "()Z"⟩ : MethodName), prog_13_method_62_code, 3, ((Option.some FieldType.boolean) : Option FieldType), 0, false),
 (1162, (⟨"CrowdOutModel", "empty", "(II)V"⟩ : MethodName), prog_13_method_63_code, 5, ((Option.none : Option FieldType) : Option FieldType), 2, false),
 (1163, (⟨"CrowdOutModel", "out", "(II)I"⟩ : MethodName), prog_13_method_64_code, 3, ((Option.some FieldType.int) : Option FieldType), 2, false),
 (1164, (⟨"CrowdOutModel", "worst", "(I)I"⟩ : MethodName), prog_13_method_65_code, 8, ((Option.some FieldType.int) : Option FieldType), 1, false),
 (1165, (⟨"CrowdOutModel", "option", "(III)I"⟩ : MethodName), prog_13_method_66_code, 5, ((Option.some FieldType.int) : Option FieldType), 3, false),
 (1166, (⟨"CrowdOutModel", "sizeOf", "(I)I"⟩ : MethodName), prog_13_method_67_code, 4, ((Option.some FieldType.int) : Option FieldType), 1, false),
 (1167, (⟨"CrowdOutModel", "bears", "(III)Z"⟩ : MethodName), prog_13_method_68_code, 5, ((Option.some FieldType.boolean) : Option FieldType), 3, false),
 (1168, (⟨"CrowdOutModel", "design", "(III)I"⟩ : MethodName), prog_13_method_69_code, 6, ((Option.some FieldType.int) : Option FieldType), 3, false),
 (1169, (⟨"CrowdOutModel", "sumOf", "(I)I"⟩ : MethodName), prog_13_method_70_code, 4, ((Option.some FieldType.int) : Option FieldType), 1, false),
 (1170, (⟨"CrowdOutModel", "total", "(I)I"⟩ : MethodName), prog_13_method_71_code, 2, ((Option.some FieldType.int) : Option FieldType), 1, false),
 (1203, (⟨"java/lang/Integer", "bitCount", "(I)I"⟩ : MethodName), prog_15_method_49_code, 1, ((Option.some FieldType.int) : Option FieldType), 1, false),
 (1204, (⟨"java/util/Arrays", "copyOf", "([II)[I"⟩ : MethodName), prog_18_method_123_code, 3, ((Option.some (FieldType.array FieldType.int)) : Option FieldType), 2, false),
 (1205, (⟨"java/util/Arrays", "fill", "([IIII)V"⟩ : MethodName), prog_18_method_104_code, 5, ((Option.none : Option FieldType) : Option FieldType), 4, false),
 (1206, (⟨"java/util/Arrays", "rangeCheck", "(III)V"⟩ : MethodName), prog_18_method_30_code, 3, ((Option.none : Option FieldType) : Option FieldType), 3, false)]
end
section
/-! THE SMALL MACHINE IS SOUND, part 4: the surroundings of a method; what a row of a table must say of the links -/
def so_tys (cA : Nat → ClassId) : List (ClassId × FieldType) := [(cA 100, .int), (cA 101, .boolean), (cA 102, .byte), (cA 103, .short), (cA 110, .object RX0), (cA 111, .object RX1), (cA 113, .object RX3), (cA 114, .object RX4), (cA 117, .object RX7)]
/-- the static arrays by their roles -/
def so_sn (r : Nat) : String := bif Nat.beq r 301 then "LINK_LEAST" else bif Nat.beq r 302 then "LINK_MOST" else bif Nat.beq r 303 then "RULE_LEAST" else bif Nat.beq r 304 then "RULE_MOST" else bif Nat.beq r 305 then "RULE_FIRST" else "CHOICES"
/-- what holds of the tables and statics at a method's entry -/
def so_E (dC : Nat → ClassId) (dI : Nat → Nat → Nat) (cA : Nat → ClassId) (A : Nat → Prop) (ad : am_K → Nat) (U : State) : Prop :=
  va_K (dC, dI) am_cls (so_tys cA) U ∧ (∀ C, C ∈ [RX0, RX1, RX3, RX4, RX7] → va_AO C U) ∧ ((∀ own i x host, Cond.methodLinkNest own i x host ∈ lw_tbl → va_Nw (.methodLinkNest own i x host) U) ∧ (∀ own i r n d host, Cond.fieldLinkNest own i r n d host ∈ lw_tbl → va_Nw (.fieldLinkNest own i r n d host) U) ∧ va_Nw (.castable "[I" "java/lang/Cloneable") U) ∧ (∀ r, 301 ≤ r → r ≤ 306 → va_Z "CrowdOut" (so_sn r) "[I" (.ref (ad (r, 0, 0))) A U U.heap)
/-- a place on the way through a method: hE, ad0 are its entry's -/
def so_J (dC : Nat → ClassId) (dI : Nat → Nat → Nat) (cA : Nat → ClassId) (A : Nat → Prop) (s : State) (nL : Nat) (hE : am_H) (ad0 : am_K → Nat) (ad : am_K → Nat) (h : am_H) (ls : am_L) (st : List am_V) (H : Heap) (locs : List Loc) (lc : Array Slot) (cells slots : Nat) : Prop :=
  so_H dC dI cA A ad h H ∧ so_X A ad s h s.heap ∧ lv_has lc nL (so_lv ad 0 ls) ∧ (∀ v, v ∈ st → so_okv h v) ∧ (∀ v, some v ∈ ls → so_okv h v) ∧ va_S A s.heap H locs
    ∧ h.2.2.2.1 = hE.2.2.2.1 + cells ∧ h.2.2.2.2 = hE.2.2.2.2 + slots
    ∧ (∀ k : am_K, ∀ n, hE.2.2.1 k.1 k.2.1 k.2.2 = some n → ad k = ad0 k ∧ h.2.2.1 k.1 k.2.1 k.2.2 = some n) ∧ (∀ k : am_K, 300 ≤ k.1 → ad k = ad0 k ∧ h.2.2.1 k.1 k.2.1 k.2.2 = hE.2.2.1 k.1 k.2.1 k.2.2 ∧ h.1 k.1 k.2.1 k.2.2 = hE.1 k.1 k.2.1 k.2.2) ∧ (∀ r, 301 ≤ r → r ≤ 306 → ∃ n, h.2.2.1 r 0 0 = some n)
def so_wd (pos : Nat) (w : Cond) : Bool := decide (lw_tbl[pos]? = some w) && goodWord w
theorem so_wd_in {pos : Nat} {w : Cond} (h : so_wd pos w = true) : w ∈ so_G := by
  simp only [so_wd, Bool.and_eq_true, decide_eq_true_eq] at h
  exact List.mem_filter.mpr ⟨List.mem_of_getElem? h.1, h.2⟩
def so_kc : ArrayType → Nat
  | .int => 100
  | .boolean => 101
  | .byte => 102
  | .short => 103
  | _ => 999
/-- what a row of a table must say of the links -/
def so_ck2 (own : String) (init : Bool) (x : am_X) : Bool :=
  match x with
  | (ins, _, im, a, b, c, sw) =>
    match ins with
    | .ldc i => match sw with | [(_, p1)] => so_wd p1 (.constant own i im) | _ => false
    | .ldc_w i => match sw with | [(_, p1)] => so_wd p1 (.constant own i im) | _ => false
    | .ldc2_w i => match sw with | [(_, p1)] => so_wd p1 (.constantLong own i (Int64.ofNat a)) | _ => false
    | .getfield i => match am_cls[a]?, sw with
      | some q, [(_, p1)] => decide (b < q.2.2) && so_wd p1 (.fieldLink own i (q.2.1 b).1 (q.2.1 b).2.1 (q.2.1 b).2.2.1) && (so_isI q b == !Nat.beq c 2)
      | _, _ => false
    | .putfield i => match am_cls[a]?, sw with
      | some q, [(_, p1)] => decide (b < q.2.2) && so_wd p1 (.fieldLink own i (q.2.1 b).1 (q.2.1 b).2.1 (q.2.1 b).2.2.1) && (!(q.2.1 b).2.2.2 || (init && decide ((q.2.1 b).1 = own)))
          && (match c with
            | 0 => decide (parseFieldDescriptor (q.2.1 b).2.2.1 = some .int) && so_isI q b
            | 1 => decide (parseFieldDescriptor (q.2.1 b).2.2.1 = some .boolean) && so_isI q b
            | _ => (match parseFieldDescriptor (q.2.1 b).2.2.1 with | some (.object _) => true | some (.array _) => true | _ => false) && !so_isI q b)
      | _, _ => false
    | .getstatic i => match sw with | [(z, p1)] => decide (301 ≤ a) && decide (a ≤ 306) && (bif decide (z = 1) then decide (lw_tbl[p1]? = some (.fieldLinkNest own i "CrowdOut" (so_sn a) "[I" "CrowdOut")) else so_wd p1 (.fieldLink own i "CrowdOut" (so_sn a) "[I")) | _ => false
    | .new i => match am_cls[a]?, sw with
      | some q, [(_, p1), (_, p2), (_, p3)] => so_wd p1 (.classLink own i q.1) && so_wd p2 (.instantiable q.1 q.2.2) && so_wd p3 (.initialized q.1) && decide (b = q.2.2)
      | _, _ => false
    | .newarray t => match sw with | [(_, p1)] => so_wd p1 (.arrayClass (newarray.typeOf t)) && decide (a = so_kc t) && decide (a ≠ 999) | _ => false
    | .anewarray i => match am_cls[a]?, sw with
      | some q, [(_, p1)] => so_wd p1 (.classLink own i q.1) && [RX0, RX1, RX3, RX4, RX7].contains q.1 && [0, 1, 3, 4, 7].contains a
      | _, _ => false
    | .checkcast i => match sw with | [(_, p1)] => so_wd p1 (.classLink own i "[I") | _ => false
    | _ => true
theorem so_dfl : ∀ (ci : Nat) (q : vw_C), am_cls[ci]? = some q → ∀ ty : Nat → FieldType, (∀ k, k < q.2.2 → parseFieldDescriptor (q.2.1 k).2.2.1 = some (ty k)) → ∀ k, k < q.2.2 → defaultValue (ty k) = (bif so_isI q k then .int 0 else .null) := by
  have key : am_cls.all (fun q => (List.range q.2.2).all (fun k => match parseFieldDescriptor (q.2.1 k).2.2.1 with | some t => decide (defaultValue t = (bif so_isI q k then .int 0 else .null)) | none => false)) = true := by decide +kernel
  intro ci q hq ty hty k hk
  have h1 := List.all_eq_true.mp key q (List.mem_of_getElem? hq)
  have h2 := List.all_eq_true.mp h1 k (List.mem_range.mpr hk)
  rw [hty k hk] at h2
  simpa using h2
/-- at another state: the tables are as warm, the heap has moved within A -/
theorem so_E_moved {dC : Nat → ClassId} {dI : Nat → Nat → Nat} {cA : Nat → ClassId} {A : Nat → Prop} {ad ad' : am_K → Nat} {s U : State} {H : Heap} {locs : List Loc} (h : so_E dC dI cA A ad s) (hW : s.WarmedH U.vm) (hS : va_S A s.heap H locs) (hU : U.heap = H) (hst3 : ∀ k : am_K, 300 ≤ k.1 → ad' k = ad k) : so_E dC dI cA A ad' U := by
  obtain ⟨hK, hAO, ⟨hM, hF, hC⟩, hZ⟩ := h
  refine ⟨va_K.moved hW.alike hK, fun C hC' => va_AO.moved hW.alike (hAO C hC'), ⟨fun own i x host hm => va_Nw.warmM hW (hM own i x host hm), fun own i r n d host hm => va_Nw.warmF hW (hF own i r n d host hm), va_Nw.warmC hW hC⟩, fun r h1 h2 => ?_⟩
  rw [hst3 (r, 0, 0) (by show 300 ≤ r; omega), hU]
  exact va_Z.kept (va_Z.moved hW.alike (hZ r h1 h2)) (fun a ha hna => hS.2.1 a ha hna)
theorem so_X_moved {A : Nat → Prop} {ad : am_K → Nat} {s U : State} {h : am_H} {H : Heap} {locs : List Loc} (hX : so_X A ad s h s.heap) (hvm : s.vm.Alike U.vm) (hS : va_S A s.heap H locs) : so_X A ad U h H := by
  intro k hk n hn
  exact va_T.kept (va_T.moved hvm (hX k hk n hn)) (fun a ha hna => hS.2.1 a ha hna)
end
section
/-! THE SMALL MACHINE IS SOUND, part 5: the instructions that read the heap -/
theorem so_rt300 {r : Nat} (h : 300 ≤ r) : am_rt r = 100 ∨ am_rt r = 999 := by
  by_cases h2 : r < 307
  · have h3 : r = 300 ∨ r = 301 ∨ r = 302 ∨ r = 303 ∨ r = 304 ∨ r = 305 ∨ r = 306 := by omega
    rcases h3 with rfl | rfl | rfl | rfl | rfl | rfl | rfl <;> exact Or.inl rfl
  · refine Or.inr ?_
    have e1 : ∀ c, c ≤ 306 → Nat.blt r c = false := fun c hc => by
      have : ¬ (Nat.blt r c = true) := by rw [Nat.blt, Nat.ble_eq]; omega
      rw [Bool.eq_false_iff]; exact this
    have e2 : ∀ c, c ≤ 306 → Nat.beq r c = false := fun c hc => by
      have : ¬ (Nat.beq r c = true) := by rw [Nat.beq_eq]; omega
      rw [Bool.eq_false_iff]; exact this
    unfold am_rt
    simp only [e1 _ (by decide : (199 : Nat) ≤ 306)]
    repeat (first | rw [e1 _ (by decide)] | rw [e2 _ (by decide)] | rw [cond_false])
theorem so_c_obj {cA : Nat → ClassId} {ad : am_K → Nat} {h : am_H} {k : am_K} {a : Nat} {q : vw_C} (hr : am_rt k.1 = a) (hq : am_cls[a]? = some q) : so_c cA ad h k = .inr (a, (List.range q.2.2).map (so_f ad q (h.1 k.1 k.2.1 k.2.2) (h.2.1 k.1 k.2.1 k.2.2))) := by
  have ha : a < 12 := (List.getElem?_eq_some_iff.mp hq).1
  unfold so_c so_cell
  rw [hr, if_pos (by omega), hq]
theorem so_c_int {cA : Nat → ClassId} {ad : am_K → Nat} {h : am_H} {k : am_K} {a n : Nat} (hr : am_rt k.1 = a) (h1 : 100 ≤ a) (h2 : a < 110) (hn : h.2.2.1 k.1 k.2.1 k.2.2 = some n) : so_c cA ad h k = .inl (cA a, n, .inl (h.1 k.1 k.2.1 k.2.2)) := by
  unfold so_c so_cell
  rw [hr, if_neg (by omega), if_pos h2, hn]
  rfl
theorem so_c_refs {cA : Nat → ClassId} {ad : am_K → Nat} {h : am_H} {k : am_K} {a n : Nat} (hr : am_rt k.1 = a) (h1 : 110 ≤ a) (hn : h.2.2.1 k.1 k.2.1 k.2.2 = some n) : so_c cA ad h k = .inl (cA a, n, .inr (.inr (.inr (.inr (fun s => (h.2.1 k.1 k.2.1 k.2.2 s).map ad))))) := by
  unfold so_c so_cell
  rw [hr, if_neg (by omega), if_neg (by omega), hn]
  rfl
theorem so_vk_ref {cA : Nat → ClassId} {k : Nat} (h : so_vk k = true) (h2 : 110 ≤ k) : ∃ (t0 ci : Nat) (q : vw_C), (so_tys cA)[t0]? = some (cA k, .object q.1) ∧ am_cls[ci]? = some q ∧ k = 110 + ci := by
  simp only [so_vk, List.contains_eq_mem, decide_eq_true_eq, List.mem_cons, List.not_mem_nil, or_false] at h
  have h3 : k = 110 ∨ k = 111 ∨ k = 113 ∨ k = 114 ∨ k = 117 := by omega
  rcases h3 with rfl | rfl | rfl | rfl | rfl
  · exact ⟨4, 0, _, rfl, rfl, rfl⟩
  · exact ⟨5, 1, _, rfl, rfl, rfl⟩
  · exact ⟨6, 3, _, rfl, rfl, rfl⟩
  · exact ⟨7, 4, _, rfl, rfl, rfl⟩
  · exact ⟨8, 7, _, rfl, rfl, rfl⟩
theorem so_vk_int {cA : Nat → ClassId} {k : Nat} (h : so_vk k = true) (h1 : 100 ≤ k) (h2 : k < 110) : ∃ (t0 : Nat) (ty : FieldType), (so_tys cA)[t0]? = some (cA k, ty) := by
  simp only [so_vk, List.contains_eq_mem, decide_eq_true_eq, List.mem_cons, List.not_mem_nil, or_false] at h
  have h3 : k = 100 ∨ k = 101 ∨ k = 102 ∨ k = 103 := by omega
  rcases h3 with rfl | rfl | rfl | rfl
  · exact ⟨0, _, rfl⟩
  · exact ⟨1, _, rfl⟩
  · exact ⟨2, _, rfl⟩
  · exact ⟨3, _, rfl⟩
theorem so_beq {a b : Nat} (h : Nat.beq a b = true) : a = b := Nat.eq_of_beq_eq_true h
theorem so_cond {b : Bool} {P : Prop} (h : cond b P False) : b = true ∧ P := by
  cases b
  · exact h.elim
  · exact ⟨rfl, h⟩
def so_is2 : Instr → Bool
  | .ldc _ | .ldc_w _ | .ldc2_w _ | .getfield _ | .getstatic _ | .iaload | .baload | .saload | .aaload | .arraylength | .checkcast _ => true
  | _ => false
section so2
variable {p : Program} {l : Launch} {e : Env} {R : Room} {s : State} {m : MethodId} {args : Array Value} {below : List Frame} {meth : Method} {c : Code} {H : Heap} {locs : List Loc} {cells slots : Nat} {Q : State → Prop}
variable {dC : Nat → ClassId} {dI : Nat → Nat → Nat} {cA : Nat → ClassId} {A : Nat → Prop}
theorem so_read {cc : ByteArray} {nL pc : Nat} {x : am_X} {call : am_C} {own : String} {init : Bool} {hE : am_H} {ad0 ad : am_K → Nat} {ls : am_L} {st : List am_V} {h : am_H} {lc : Array Slot} {k : Nat → am_L → List am_V → am_H → Prop} {q : am_Q}
    (hx : p.tables.exec = Jvm.exec) (hb : c.code = cc) (hown : s.vm.findClass own = some m.cls) (hts : ∀ w ∈ so_G, w.before args s = true) (hEn : so_E dC dI cA A ad0 s)
    (hck : so_ck1 cc nL pc x = true) (hck2 : so_ck2 own init x = true) (h2 : so_is2 x.1 = true) (J : so_J dC dI cA A s nL hE ad0 ad h ls st H locs lc cells slots) (hs : am_step am_rt call x ls st h k q)
    (hk : ∀ pc' st', k pc' ls st' h → (∀ v, v ∈ st' → so_okv h v) → W p l e R s m args below meth c H locs cells slots Q (F0 m pc' lc (st'.map (so_v ad)))) :
    W p l e R s m args below meth c H locs cells slots Q (F0 m pc lc (st.map (so_v ad))) := by
  obtain ⟨ins, nx, im, a, b, c', sw⟩ := x
  obtain ⟨hK, hAO, hNw, hZ⟩ := hEn
  obtain ⟨⟨L, hL, hP, hD, hcl, hbo, hvk⟩, hX, hlv, hst, hls, hS, hc0, hn0, hex, hst3, hsta⟩ := id J
  simp only [so_ck1, Bool.and_eq_true] at hck
  obtain ⟨hd, -⟩ := hck
  have oki : ∀ (v : Int32), so_okv h (.inl v) := fun v k hk => by cases hk
  cases ins <;> try (cases h2; done)
  case ldc i =>
    obtain ⟨hd2, hnx⟩ := so_dec hd
    clear hd; subst hnx
    dsimp only [am_step] at hs
    dsimp only [so_ck2] at hck2
    split at hck2
    · exact lv_ldc hx hb hown (hts _ (so_wd_in hck2)) hd2 (hk _ _ hs (fun v hv => by rcases List.mem_cons.mp hv with rfl | hv; exact oki _; exact hst v hv))
    · cases hck2
  case ldc_w i =>
    obtain ⟨hd2, hnx⟩ := so_dec hd
    clear hd; subst hnx
    dsimp only [am_step] at hs
    dsimp only [so_ck2] at hck2
    split at hck2
    · exact lv_ldcw hx hb hown (hts _ (so_wd_in hck2)) hd2 (hk _ _ hs (fun v hv => by rcases List.mem_cons.mp hv with rfl | hv; exact oki _; exact hst v hv))
    · cases hck2
  case ldc2_w i =>
    obtain ⟨hd2, hnx⟩ := so_dec hd
    clear hd; subst hnx
    dsimp only [am_step] at hs
    dsimp only [so_ck2] at hck2
    split at hck2
    · exact lv_ldc2 hx hb hown (hts _ (so_wd_in hck2)) hd2 (hk _ _ hs (fun v hv => by rcases List.mem_cons.mp hv with rfl | hv; intro k hk; cases hk; exact hst v hv))
    · cases hck2
  case getstatic i =>
    obtain ⟨hd2, hnx⟩ := so_dec hd
    clear hd; subst hnx
    dsimp only [am_step] at hs
    dsimp only [so_ck2] at hck2
    split at hck2
    · simp only [Bool.and_eq_true, decide_eq_true_eq] at hck2
      obtain ⟨⟨h3, h4⟩, h5⟩ := hck2
      have fin : W p l e R s m args below meth c H locs cells slots Q (F0 m (pc + 3) lc (.ref (ad0 (a, 0, 0)) :: st.map (so_v ad))) := by
        rw [← (hst3 (a, 0, 0) (by show 300 ≤ a; omega)).1]
        refine hk _ (.inr (.inr (a, 0, 0)) :: st) hs (fun v hv => ?_)
        rcases List.mem_cons.mp hv with rfl | hv
        · intro k hk
          cases hk
          exact hsta a h3 h4
        · exact hst v hv
      rename_i z0 p1
      cases hz : decide (z0 = (1 : Int32)) <;> rw [hz] at h5
      rotate_left
      · exact va_getsN (v := .ref (ad0 (a, 0, 0))) hx hb (hZ a h3 h4) hS hown (va_Nw.use rfl (hNw.2.1 _ _ _ _ _ _ (List.mem_of_getElem? (of_decide_eq_true (show decide _ = true from h5))))) (fun x hx => hx) hd2 fin
      · exact va_gets (v := .ref (ad0 (a, 0, 0))) hx hb (hZ a h3 h4) hS hown (hts _ (so_wd_in h5)) (fun x hx => hx) hd2 fin
    · cases hck2
  case getfield i =>
    obtain ⟨hd2, hnx⟩ := so_dec hd
    clear hd; subst hnx
    dsimp only [am_step] at hs
    dsimp only [so_ck2] at hck2
    split at hck2
    · rename_i q0 i0 p1 hq0
      simp only [Bool.and_eq_true, decide_eq_true_eq, beq_iff_eq] at hck2
      obtain ⟨⟨hbN, hlk⟩, hii⟩ := hck2
      split at hs
      · rename_i r w j st0
        obtain ⟨hra, hs⟩ := so_cond hs
        have hra := so_beq hra
        have ha12 : a < 12 := (List.getElem?_eq_some_iff.mp hq0).1
        have hr3 : r < 300 := Nat.not_le.mp fun h3 => by rcases so_rt300 h3 with h4 | h4 <;> omega
        obtain ⟨n, hn⟩ := hst _ List.mem_cons_self (r, w, j) rfl
        obtain ⟨q1, hq1, hq2⟩ := so_ws_get (cA := cA) (ad := ad) (h := h) ((hL (r, w, j)).mpr ⟨hr3, n, hn⟩)
        rw [so_c_obj (k := (r, w, j)) hra hq0] at hq2
        obtain ⟨hin, -⟩ := so_cls a q0 hq0
        have hfb : ((List.range q0.2.2).map (so_f ad q0 (h.1 r w j) (h.2.1 r w j)))[b]? = some (so_f ad q0 (h.1 r w j) (h.2.1 r w j) b) := by
          rw [List.getElem?_map, List.getElem?_range hbN]; rfl
        refine va_get (v := so_f ad q0 (h.1 r w j) (h.2.1 r w j) b) hx hb hts hin hown hK hP q1 hq2 hq0 b hbN (hts _ (so_wd_in hlk)) (fun x hx => hx) hfb hd2 ?_
        obtain ⟨I, S⟩ := h
        dsimp only at hs
        cases hc2 : Nat.beq c' 2
        · rw [hc2] at hs hii
          have e7 : so_f ad q0 (I r w j) (S.1 r w j) b = so_v ad (.inl (I r w j b)) := by unfold so_f; rw [hii]; rfl
          show W p l e R s m args below meth c H locs cells slots Q (F0 m (pc + 3) lc (so_f ad q0 (I r w j) (S.1 r w j) b :: st0.map (so_v ad)))
          rw [e7]
          exact hk _ (.inl (I r w j b) :: st0) hs (fun v hv => by rcases List.mem_cons.mp hv with rfl | hv; exact oki _; exact hst v (List.mem_cons_of_mem _ hv))
        · rw [hc2] at hs hii
          dsimp only [cond] at hs
          split at hs
          · rename_i v hv
            have e7 : so_f ad q0 (I r w j) (S.1 r w j) b = so_v ad (.inr (.inr v)) := by unfold so_f; rw [hii, hv]; rfl
            show W p l e R s m args below meth c H locs cells slots Q (F0 m (pc + 3) lc (so_f ad q0 (I r w j) (S.1 r w j) b :: st0.map (so_v ad)))
            rw [e7]
            refine hk _ (.inr (.inr v) :: st0) hs (fun u hu => ?_)
            rcases List.mem_cons.mp hu with rfl | hu
            · intro k hk
              cases hk
              exact (hcl (r, w, j) ⟨hr3, n, hn⟩ b v hv).2
            · exact hst u (List.mem_cons_of_mem _ hu)
          · exact hs.elim
      · exact hs.elim
    · cases hck2
  case arraylength =>
    obtain ⟨hd2, hnx⟩ := so_dec hd
    clear hd; subst hnx
    dsimp only [am_step] at hs
    split at hs
    · rename_i r w j st0
      obtain ⟨hra, hs⟩ := so_cond hs
      have hra : 100 ≤ am_rt r := Nat.le_of_ble_eq_true hra
      obtain ⟨I, S⟩ := h
      dsimp only at hs
      split at hs
      · rename_i n hn
        have fin : W p l e R s m args below meth c H locs cells slots Q (F0 m (pc + 1) lc ((.inl (Int32.ofNat n) :: st0).map (so_v ad))) := hk _ (.inl (Int32.ofNat n) :: st0) hs (fun v hv => by rcases List.mem_cons.mp hv with rfl | hv; exact oki _; exact hst v (List.mem_cons_of_mem _ hv))
        by_cases hr3 : r < 300
        · have hal : so_al (I, S) (r, w, j) := ⟨hr3, n, hn⟩
          obtain ⟨q1, hq1, hq2⟩ := so_ws_get (cA := cA) (ad := ad) (h := (I, S)) ((hL (r, w, j)).mpr hal)
          have hv := hvk _ hal
          by_cases h110 : 110 ≤ am_rt r
          · obtain ⟨t0, ci, q0, ht0, -, -⟩ := so_vk_ref (cA := cA) hv h110
            rw [so_c_refs (k := (r, w, j)) rfl h110 hn] at hq2
            exact va_alen (x := (n, .inr (.inr (.inr (.inr _))))) hx hb hK hP q1 t0 hq2 ht0 rfl hd2 fin
          · obtain ⟨t0, ty, ht0⟩ := so_vk_int (cA := cA) (k := am_rt r) hv hra (by omega)
            rw [so_c_int (k := (r, w, j)) rfl hra (by show am_rt r < 110; omega) hn] at hq2
            exact va_alen (x := (n, .inl _)) hx hb hK hP q1 t0 hq2 ht0 rfl hd2 fin
        · exact va_tlen hx hb (hX (r, w, j) (Nat.not_lt.mp hr3) n hn) hS rfl hd2 fin
      · exact hs.elim
    · exact hs.elim
  case iaload =>
    obtain ⟨hd2, hnx⟩ := so_dec hd
    clear hd; subst hnx
    dsimp only [am_step] at hs
    split at hs
    · rename_i i r w j st0
      obtain ⟨hra, hs⟩ := so_cond hs
      have hra := so_beq hra
      obtain ⟨I, S⟩ := h
      dsimp only at hs
      split at hs
      · rename_i n hn
        have fin : W p l e R s m args below meth c H locs cells slots Q (F0 m (pc + 1) lc ((.inl (I r w j i.toNatClampNeg) :: st0).map (so_v ad))) := hk _ (.inl (I r w j i.toNatClampNeg) :: st0) hs.2 (fun v hv => by rcases List.mem_cons.mp hv with rfl | hv; exact oki _; exact hst v (List.mem_cons_of_mem _ (List.mem_cons_of_mem _ hv)))
        by_cases hr3 : r < 300
        · obtain ⟨q1, hq1, hq2⟩ := so_ws_get (cA := cA) (ad := ad) (h := (I, S)) ((hL (r, w, j)).mpr ⟨hr3, n, hn⟩)
          rw [so_c_int (k := (r, w, j)) hra (by decide) (by decide) hn] at hq2
          exact va_iald hx hb hK hP q1 0 hq2 rfl hs.1 hd2 fin
        · exact va_ti hx hb (hX (r, w, j) (Nat.not_lt.mp hr3) n hn) hS hs.1 rfl hd2 fin
      · exact hs.elim
    · exact hs.elim
  case saload =>
    obtain ⟨hd2, hnx⟩ := so_dec hd
    clear hd; subst hnx
    dsimp only [am_step] at hs
    split at hs
    · rename_i i r w j st0
      obtain ⟨hra, hs⟩ := so_cond hs
      have hra := so_beq hra
      have hr3 : r < 300 := Nat.not_le.mp fun h3 => by rcases so_rt300 h3 with h4 | h4 <;> omega
      obtain ⟨I, S⟩ := h
      dsimp only at hs
      split at hs
      · rename_i n hn
        obtain ⟨q1, hq1, hq2⟩ := so_ws_get (cA := cA) (ad := ad) (h := (I, S)) ((hL (r, w, j)).mpr ⟨hr3, n, hn⟩)
        rw [so_c_int (k := (r, w, j)) hra (by decide) (by decide) hn] at hq2
        exact va_sald hx hb hK hP q1 3 hq2 rfl hs.1 hd2 (hk _ (.inl (I r w j i.toNatClampNeg) :: st0) hs.2 (fun v hv => by rcases List.mem_cons.mp hv with rfl | hv; exact oki _; exact hst v (List.mem_cons_of_mem _ (List.mem_cons_of_mem _ hv))))
      · exact hs.elim
    · exact hs.elim
  case baload =>
    obtain ⟨hd2, hnx⟩ := so_dec hd
    clear hd; subst hnx
    dsimp only [am_step] at hs
    split at hs
    · rename_i i r w j st0
      obtain ⟨hra, hs⟩ := so_cond hs
      have hra : am_rt r = 101 ∨ am_rt r = 102 := by
        rcases Bool.or_eq_true _ _ |>.mp hra with h3 | h3
        · exact Or.inl (so_beq h3)
        · exact Or.inr (so_beq h3)
      have hr3 : r < 300 := Nat.not_le.mp fun h3 => by rcases so_rt300 h3 with h4 | h4 <;> omega
      obtain ⟨I, S⟩ := h
      dsimp only at hs
      split at hs
      · rename_i n hn
        have fin : W p l e R s m args below meth c H locs cells slots Q (F0 m (pc + 1) lc ((.inl (I r w j i.toNatClampNeg) :: st0).map (so_v ad))) := hk _ (.inl (I r w j i.toNatClampNeg) :: st0) hs.2 (fun v hv => by rcases List.mem_cons.mp hv with rfl | hv; exact oki _; exact hst v (List.mem_cons_of_mem _ (List.mem_cons_of_mem _ hv)))
        obtain ⟨q1, hq1, hq2⟩ := so_ws_get (cA := cA) (ad := ad) (h := (I, S)) ((hL (r, w, j)).mpr ⟨hr3, n, hn⟩)
        rcases hra with hra | hra
        · rw [so_c_int (k := (r, w, j)) hra (by decide) (by decide) hn] at hq2
          exact va_zald hx hb hK hP q1 1 hq2 rfl hs.1 hd2 fin
        · rw [so_c_int (k := (r, w, j)) hra (by decide) (by decide) hn] at hq2
          exact va_bald hx hb hK hP q1 2 hq2 rfl hs.1 hd2 fin
      · exact hs.elim
    · exact hs.elim
  case aaload =>
    obtain ⟨hd2, hnx⟩ := so_dec hd
    clear hd; subst hnx
    dsimp only [am_step] at hs
    split at hs
    · rename_i i r w j st0
      obtain ⟨hra, hs⟩ := so_cond hs
      simp only [Bool.and_eq_true] at hra
      have hr3 : r < 300 := Nat.le_of_ble_eq_true hra.2
      have hra : 110 ≤ am_rt r := Nat.le_of_ble_eq_true hra.1
      obtain ⟨I, S⟩ := h
      dsimp only at hs
      split at hs
      · rename_i n hn
        obtain ⟨hin, r', w', j', hR, hs⟩ := hs
        have hal : so_al (I, S) (r, w, j) := ⟨hr3, n, hn⟩
        obtain ⟨q1, hq1, hq2⟩ := so_ws_get (cA := cA) (ad := ad) (h := (I, S)) ((hL (r, w, j)).mpr hal)
        obtain ⟨t0, ci, q0, ht0, -, -⟩ := so_vk_ref (cA := cA) (hvk _ hal) hra
        rw [so_c_refs (k := (r, w, j)) rfl hra hn] at hq2
        refine va_aldq hx hb hK hP q1 t0 hq2 ht0 hin hd2 ?_
        show W p l e R s m args below meth c H locs cells slots Q (F0 m (pc + 1) lc (va_rf ((S.1 r w j i.toNatClampNeg).map ad) :: st0.map (so_v ad)))
        rw [hR]
        refine hk _ (.inr (.inr (r', w', j')) :: st0) hs (fun v hv => ?_)
        rcases List.mem_cons.mp hv with rfl | hv
        · intro k hk
          cases hk
          exact (hcl _ hal _ _ hR).2
        · exact hst v (List.mem_cons_of_mem _ (List.mem_cons_of_mem _ hv))
      · exact hs.elim
    · exact hs.elim
  case checkcast i =>
    obtain ⟨hd2, hnx⟩ := so_dec hd
    clear hd; subst hnx
    dsimp only [am_step] at hs
    dsimp only [so_ck2] at hck2
    split at hck2
    · split at hs
      · rename_i r w j st0
        obtain ⟨hra, hs⟩ := so_cond hs
        simp only [Bool.and_eq_true] at hra
        have hr3 : r < 300 := Nat.le_of_ble_eq_true hra.2
        have hra := so_beq hra.1
        obtain ⟨n, hn⟩ := hst _ List.mem_cons_self (r, w, j) rfl
        obtain ⟨q1, hq1, hq2⟩ := so_ws_get (cA := cA) (ad := ad) (h := h) ((hL (r, w, j)).mpr ⟨hr3, n, hn⟩)
        rw [so_c_int (k := (r, w, j)) hra (by decide) (by decide) hn] at hq2
        exact va_castA hx hb hown (hts _ (so_wd_in hck2)) hP q1 hq2 ((hK.2 0 _ rfl).2) hd2 (hk _ (.inr (.inr (r, w, j)) :: st0) hs hst)
      · exact hs.elim
    · cases hck2
end so2
end
section
/-! THE SMALL MACHINE IS SOUND, part 6: stores -/
def so_is3 : Instr → Bool
  | .putfield _ | .iastore | .bastore | .sastore | .aastore => true
  | _ => false
theorem so_map_ad {ad ad' : am_K → Nat} {st : List am_V} (h : ∀ v, v ∈ st → ∀ k, v = .inr (.inr k) → ad' k = ad k) : st.map (so_v ad') = st.map (so_v ad) := by
  apply List.map_congr_left
  intro v hv
  rcases v with v | (v | k)
  · rfl
  · rfl
  · show Value.ref _ = Value.ref _
    rw [h _ hv k rfl]
theorem so_lv_ad {ad ad' : am_K → Nat} : ∀ (ls : am_L) (i : Nat), (∀ v, some v ∈ ls → ∀ k, v = .inr (.inr k) → ad' k = ad k) → so_lv ad' i ls = so_lv ad i ls := by
  intro ls
  induction ls with
  | nil => intro i _; rfl
  | cons x ls ih =>
    intro i h
    have h1 := ih (i + 1) (fun v hv => h v (List.mem_cons_of_mem _ hv))
    cases x with
    | none => exact h1
    | some v =>
      show (i, so_v ad' v) :: so_lv ad' (i + 1) ls = (i, so_v ad v) :: so_lv ad (i + 1) ls
      rw [h1]
      congr 2
      rcases v with v | (v | k)
      · rfl
      · rfl
      · show Value.ref _ = Value.ref _
        rw [h _ List.mem_cons_self k rfl]
theorem so_c_set {cA : Nat → ClassId} {ad : am_K → Nat} {I : am_I} {S : am_S} {r w j sl n a : Nat} {v : Int32} (hr : am_rt r = a) (h1 : 100 ≤ a) (h2 : a < 110) (hn : S.2.1 r w j = some n) : so_c cA ad (am_set I r w j sl v, S) (r, w, j) = .inl (cA a, n, .inl (upd (I r w j) sl v)) := by
  rw [so_c_int (h := (am_set I r w j sl v, S)) (k := (r, w, j)) hr h1 h2 hn]
  show Sum.inl (cA a, n, Sum.inl (am_set I r w j sl v r w j)) = _
  rw [am_set_at]
theorem so_c_setF {cA : Nat → ClassId} {ad : am_K → Nat} {I : am_I} {S : am_S} {r w j b a : Nat} {v : Int32} {q : vw_C} (hr : am_rt r = a) (hq : am_cls[a]? = some q) (hi : so_isI q b = true) : so_c cA ad (am_set I r w j b v, S) (r, w, j) = .inr (a, ((List.range q.2.2).map (so_f ad q (I r w j) (S.1 r w j))).set b (.int v)) := by
  rw [so_c_obj (h := (am_set I r w j b v, S)) (k := (r, w, j)) hr hq]
  show Sum.inr (a, (List.range q.2.2).map (so_f ad q (am_set I r w j b v r w j) (S.1 r w j))) = _
  rw [am_set_at, so_range_set q.2.2 b (so_f ad q (I r w j) (S.1 r w j)) (so_f ad q (upd (I r w j) b v) (S.1 r w j)) (.int v)]
  · unfold so_f
    rw [hi]
    simp [upd]
  · intro i hi
    unfold so_f
    simp [upd, hi]
theorem so_c_setFR {cA : Nat → ClassId} {ad : am_K → Nat} {I : am_I} {Rr : am_R} {S : am_N × Nat × Nat} {r w j b a : Nat} {v : am_K} {q : vw_C} (hr : am_rt r = a) (hq : am_cls[a]? = some q) (hi : so_isI q b = false) : so_c cA ad (I, am_setR Rr r w j b v, S) (r, w, j) = .inr (a, ((List.range q.2.2).map (so_f ad q (I r w j) (Rr r w j))).set b (.ref (ad v))) := by
  rw [so_c_obj (h := (I, am_setR Rr r w j b v, S)) (k := (r, w, j)) hr hq]
  show Sum.inr (a, (List.range q.2.2).map (so_f ad q (I r w j) (am_setR Rr r w j b v r w j))) = _
  rw [am_setR_at, so_range_set q.2.2 b (so_f ad q (I r w j) (Rr r w j)) (so_f ad q (I r w j) (va_up (Rr r w j) b (some v))) (.ref (ad v))]
  · unfold so_f
    rw [hi, va_up_self]
    rfl
  · intro i hi
    unfold so_f
    rw [va_up_ne _ _ hi]
theorem so_c_setA {cA : Nat → ClassId} {ad : am_K → Nat} {I : am_I} {Rr : am_R} {S : am_N × Nat × Nat} {r w j sl n a : Nat} {v : am_K} (hr : am_rt r = a) (h1 : 110 ≤ a) (hn : S.1 r w j = some n) : so_c cA ad (I, am_setR Rr r w j sl v, S) (r, w, j) = .inl (cA a, n, .inr (.inr (.inr (.inr (va_up (fun s => (Rr r w j s).map ad) sl (some (ad v))))))) := by
  rw [so_c_refs (h := (I, am_setR Rr r w j sl v, S)) (k := (r, w, j)) hr h1 hn]
  show Sum.inl (cA a, n, Sum.inr (Sum.inr (Sum.inr (Sum.inr (fun s => (am_setR Rr r w j sl v r w j s).map ad))))) = _
  have e : (fun s => (am_setR Rr r w j sl v r w j s).map ad) = va_up (fun s => (Rr r w j s).map ad) sl (some (ad v)) := by
    rw [am_setR_at]
    funext s'
    unfold va_up
    split <;> rfl
  rw [e]
section so3
variable {p : Program} {l : Launch} {e : Env} {R : Room} {s : State} {m : MethodId} {args : Array Value} {below : List Frame} {meth : Method} {c : Code} {H : Heap} {locs : List Loc} {cells slots : Nat} {Q : State → Prop}
variable {dC : Nat → ClassId} {dI : Nat → Nat → Nat} {cA : Nat → ClassId} {A : Nat → Prop}
/-- a place behind a store: the cells that there are, and their addresses, are the same -/
theorem so_J_set {nL : Nat} {hE : am_H} {ad0 ad : am_K → Nat} {ls : am_L} {st st' : List am_V} {h h' : am_H} {H1 : Heap} {locs1 : List Loc} {lc : Array Slot} (J : so_J dC dI cA A s nL hE ad0 ad h ls st H locs lc cells slots)
    (hH : so_H dC dI cA A ad h' H1) (hN : h'.2.2 = h.2.2) (hI : ∀ k : am_K, 300 ≤ k.1 → h'.1 k.1 k.2.1 k.2.2 = h.1 k.1 k.2.1 k.2.2) (hst : ∀ v, v ∈ st' → v ∈ st) (hS : va_S A s.heap H1 locs1) : so_J dC dI cA A s nL hE ad0 ad h' ls st' H1 locs1 lc cells slots := by
  obtain ⟨-, hX, hlv, hst0, hls, -, hc0, hn0, hex, hst3, hsta⟩ := J
  refine ⟨hH, fun k hk n hn => ?_, hlv, fun v hv => ?_, fun v hv => ?_, hS, by rw [hN]; exact hc0, by rw [hN]; exact hn0, by rw [hN]; exact hex, fun k hk => ⟨(hst3 k hk).1, by rw [hN]; exact (hst3 k hk).2.1, (hI k hk).trans (hst3 k hk).2.2⟩, by rw [hN]; exact hsta⟩
  · rw [hN] at hn
    rw [hI k hk]
    exact hX k hk n hn
  · unfold so_okv
    rw [hN]
    exact hst0 v (hst v hv)
  · unfold so_okv
    rw [hN]
    exact hls v hv
theorem so_write {cc : ByteArray} {nL pc : Nat} {x : am_X} {call : am_C} {own : String} {init : Bool} {hE : am_H} {ad0 ad : am_K → Nat} {ls : am_L} {st : List am_V} {h : am_H} {lc : Array Slot} {k : Nat → am_L → List am_V → am_H → Prop} {q : am_Q}
    (hx : p.tables.exec = Jvm.exec) (hb : c.code = cc) (hown : s.vm.findClass own = some m.cls) (hts : ∀ w ∈ so_G, w.before args s = true) (hini : init = true → meth.name = "<init>") (hEn : so_E dC dI cA A ad0 s)
    (hck : so_ck1 cc nL pc x = true) (hck2 : so_ck2 own init x = true) (h2 : so_is3 x.1 = true) (J : so_J dC dI cA A s nL hE ad0 ad h ls st H locs lc cells slots) (hs : am_step am_rt call x ls st h k q)
    (hk : ∀ pc' st' h' H' locs', k pc' ls st' h' → so_J dC dI cA A s nL hE ad0 ad h' ls st' H' locs' lc cells slots → W p l e R s m args below meth c H' locs' cells slots Q (F0 m pc' lc (st'.map (so_v ad)))) :
    W p l e R s m args below meth c H locs cells slots Q (F0 m pc lc (st.map (so_v ad))) := by
  obtain ⟨ins, nx, im, a, b, c', sw⟩ := x
  obtain ⟨hK, hAO, hNw, hZ⟩ := hEn
  obtain ⟨⟨L, hL, hP, hD, hcl, hbo, hvk⟩, hX, hlv, hst, hls, hS, hc0, hn0, hex, hst3, hsta⟩ := id J
  simp only [so_ck1, Bool.and_eq_true] at hck
  obtain ⟨hd, -⟩ := hck
  -- an int into a cell
  have fin : ∀ (r w j sl : Nat) (v : Int32) (I : am_I) (S : am_S) (st0 : List am_V) (pc' q1 n : Nat), h = (I, S) → r < 300 → S.2.1 r w j = some n → L[q1]? = some (r, w, j) → (am_rt r = 101 → v = 0 ∨ v = 1) → (∀ v, v ∈ st0 → v ∈ st) → k pc' ls st0 (am_set I r w j sl v, S) →
      ∀ (H1 : Heap) (locs1 : List Loc), va_P (dC, dI) am_cls ((so_ws cA ad h L).set q1 (ad (r, w, j), so_c cA ad (am_set I r w j sl v, S) (r, w, j))) H1 → va_D A ((so_ws cA ad h L).set q1 (ad (r, w, j), so_c cA ad (am_set I r w j sl v, S) (r, w, j))) → va_S A s.heap H1 locs1 → W p l e R s m args below meth c H1 locs1 cells slots Q (F0 m pc' lc (st0.map (so_v ad))) := by
    intro r w j sl v I S st0 pc' q1 n hh hr3 hn hq1 hv hst0 hkk H1 locs1 hP1 hD1 hS1
    subst hh
    refine hk pc' st0 _ H1 locs1 hkk (so_J_set J ?_ rfl ?_ hst0 hS1)
    · refine so_H_set (h' := (am_set I r w j sl v, S)) hL hD hvk hq1 rfl (fun k' hne => ⟨am_set_off I r w j sl v hne, rfl⟩) hcl (fun k' hk' h101 s' => ?_) hP1 hD1
      by_cases hne : k' = (r, w, j)
      · subst hne
        show am_set I r w j sl v r w j s' = 0 ∨ am_set I r w j sl v r w j s' = 1
        rw [am_set_at]
        unfold upd
        split
        · exact hv h101
        · exact hbo _ hk' h101 s'
      · show am_set I r w j sl v k'.1 k'.2.1 k'.2.2 s' = 0 ∨ am_set I r w j sl v k'.1 k'.2.1 k'.2.2 s' = 1
        rw [am_set_off I r w j sl v hne]
        exact hbo _ hk' h101 s'
    · intro k' hk'
      exact am_set_off I r w j sl v (fun e9 => by rw [e9] at hk'; exact absurd hk' (Nat.not_le.mpr hr3))
  -- a reference into a cell
  have finR : ∀ (r w j sl : Nat) (v : am_K) (I : am_I) (Rr : am_R) (S : am_N × Nat × Nat) (st0 : List am_V) (pc' q1 n : Nat), h = (I, Rr, S) → r < 300 → S.1 r w j = some n → L[q1]? = some (r, w, j) → so_al h v → (∀ v, v ∈ st0 → v ∈ st) → k pc' ls st0 (I, am_setR Rr r w j sl v, S) →
      ∀ (H1 : Heap) (locs1 : List Loc), va_P (dC, dI) am_cls ((so_ws cA ad h L).set q1 (ad (r, w, j), so_c cA ad (I, am_setR Rr r w j sl v, S) (r, w, j))) H1 → va_D A ((so_ws cA ad h L).set q1 (ad (r, w, j), so_c cA ad (I, am_setR Rr r w j sl v, S) (r, w, j))) → va_S A s.heap H1 locs1 → W p l e R s m args below meth c H1 locs1 cells slots Q (F0 m pc' lc (st0.map (so_v ad))) := by
    intro r w j sl v I Rr S st0 pc' q1 n hh hr3 hn hq1 hv hst0 hkk H1 locs1 hP1 hD1 hS1
    subst hh
    refine hk pc' st0 _ H1 locs1 hkk (so_J_set J ?_ rfl (fun _ _ => rfl) hst0 hS1)
    refine so_H_set (h' := (I, am_setR Rr r w j sl v, S)) hL hD hvk hq1 rfl (fun k' hne => ⟨rfl, am_setR_off Rr r w j sl v hne⟩) (fun k' hk' s' k9 h9 => ?_) hbo hP1 hD1
    by_cases hne : k' = (r, w, j)
    · subst hne
      have h9 : am_setR Rr r w j sl v r w j s' = some k9 := h9
      rw [am_setR_at] at h9
      unfold va_up at h9
      split at h9
      · cases h9; exact hv
      · exact hcl _ hk' s' k9 h9
    · have h9 : am_setR Rr r w j sl v k'.1 k'.2.1 k'.2.2 s' = some k9 := h9
      rw [am_setR_off Rr r w j sl v hne] at h9
      exact hcl _ hk' s' k9 h9
  cases ins <;> try (cases h2; done)
  case iastore =>
    obtain ⟨hd2, hnx⟩ := so_dec hd
    clear hd; subst hnx
    dsimp only [am_step] at hs
    split at hs
    · rename_i v i r w j st0
      obtain ⟨hra, hs⟩ := so_cond hs
      simp only [Bool.and_eq_true] at hra
      have hr3 : r < 300 := Nat.le_of_ble_eq_true hra.2
      have hra := so_beq hra.1
      obtain ⟨I, S⟩ := h
      dsimp only at hs
      split at hs
      · rename_i n hn
        obtain ⟨q1, hq1, hq2⟩ := so_ws_get (cA := cA) (ad := ad) (h := (I, S)) ((hL (r, w, j)).mpr ⟨hr3, n, hn⟩)
        rw [so_c_int (k := (r, w, j)) hra (by decide) (by decide) hn] at hq2
        have hf := fin r w j i.toNatClampNeg v I S st0 _ q1 n rfl hr3 hn hq1 (fun h9 => by omega) (fun v hv => List.mem_cons_of_mem _ (List.mem_cons_of_mem _ (List.mem_cons_of_mem _ hv))) hs.2
        rw [so_c_set hra (by decide) (by decide) hn] at hf
        exact va_iast hx hb hK hP hD hS q1 0 hq2 rfl hs.1 hd2 hf
      · exact hs.elim
    · exact hs.elim
  case sastore =>
    obtain ⟨hd2, hnx⟩ := so_dec hd
    clear hd; subst hnx
    dsimp only [am_step] at hs
    split at hs
    · rename_i v i r w j st0
      obtain ⟨hra, hs⟩ := so_cond hs
      have hra := so_beq hra
      have hr3 : r < 300 := Nat.not_le.mp fun h3 => by rcases so_rt300 h3 with h4 | h4 <;> omega
      obtain ⟨I, S⟩ := h
      dsimp only at hs
      split at hs
      · rename_i n hn
        obtain ⟨q1, hq1, hq2⟩ := so_ws_get (cA := cA) (ad := ad) (h := (I, S)) ((hL (r, w, j)).mpr ⟨hr3, n, hn⟩)
        rw [so_c_int (k := (r, w, j)) hra (by decide) (by decide) hn] at hq2
        have hf := fin r w j i.toNatClampNeg v.toInt16.toInt32 I S st0 _ q1 n rfl hr3 hn hq1 (fun h9 => by omega) (fun v hv => List.mem_cons_of_mem _ (List.mem_cons_of_mem _ (List.mem_cons_of_mem _ hv))) hs.2
        rw [so_c_set hra (by decide) (by decide) hn] at hf
        exact va_sast hx hb hK hP hD hS q1 3 hq2 rfl hs.1 hd2 (by rw [vp_nar_short]; exact hf)
      · exact hs.elim
    · exact hs.elim
  case bastore =>
    obtain ⟨hd2, hnx⟩ := so_dec hd
    clear hd; subst hnx
    dsimp only [am_step] at hs
    split at hs
    · rename_i v i r w j st0
      obtain ⟨I, S⟩ := h
      dsimp only at hs
      split at hs
      · rename_i n hn
        cases h101 : Nat.beq (am_rt r) 101
        · rw [h101] at hs
          obtain ⟨hra, hs⟩ := so_cond hs
          have hra := so_beq hra
          have hr3 : r < 300 := Nat.not_le.mp fun h3 => by rcases so_rt300 h3 with h4 | h4 <;> omega
          obtain ⟨q1, hq1, hq2⟩ := so_ws_get (cA := cA) (ad := ad) (h := (I, S)) ((hL (r, w, j)).mpr ⟨hr3, n, hn⟩)
          rw [so_c_int (k := (r, w, j)) hra (by decide) (by decide) hn] at hq2
          have hf := fin r w j i.toNatClampNeg v.toInt8.toInt32 I S st0 _ q1 n rfl hr3 hn hq1 (fun h9 => by omega) (fun v hv => List.mem_cons_of_mem _ (List.mem_cons_of_mem _ (List.mem_cons_of_mem _ hv))) hs.2
          rw [so_c_set hra (by decide) (by decide) hn] at hf
          exact va_bast hx hb hK hP hD hS q1 2 hq2 rfl hs.1 hd2 (by rw [vp_nar_byte]; exact hf)
        · rw [h101] at hs
          have hra := so_beq h101
          obtain ⟨hin, hv, hs⟩ := hs
          have hr3 : r < 300 := Nat.not_le.mp fun h3 => by rcases so_rt300 h3 with h4 | h4 <;> omega
          obtain ⟨q1, hq1, hq2⟩ := so_ws_get (cA := cA) (ad := ad) (h := (I, S)) ((hL (r, w, j)).mpr ⟨hr3, n, hn⟩)
          rw [so_c_int (k := (r, w, j)) hra (by decide) (by decide) hn] at hq2
          have hf := fin r w j i.toNatClampNeg v I S st0 _ q1 n rfl hr3 hn hq1 (fun h9 => hv) (fun v hv => List.mem_cons_of_mem _ (List.mem_cons_of_mem _ (List.mem_cons_of_mem _ hv))) hs
          rw [so_c_set hra (by decide) (by decide) hn] at hf
          have hnz : vp_nar .boolean v = v := by rcases hv with rfl | rfl <;> rfl
          exact va_zast hx hb hK hP hD hS q1 1 hq2 rfl hin hd2 (by rw [hnz]; exact hf)
      · exact hs.elim
    · exact hs.elim
  case aastore =>
    obtain ⟨hd2, hnx⟩ := so_dec hd
    clear hd; subst hnx
    dsimp only [am_step] at hs
    split at hs
    · rename_i r' w' j' i r w j st0
      obtain ⟨hra, hs⟩ := so_cond hs
      simp only [Bool.and_eq_true] at hra
      have hr3' : r' < 300 := Nat.le_of_ble_eq_true hra.2
      have hra := so_beq hra.1
      obtain ⟨n', hn'⟩ := hst _ List.mem_cons_self (r', w', j') rfl
      have hal' : so_al h (r', w', j') := ⟨hr3', n', hn'⟩
      have hvk' := hvk _ hal'
      have h12 : am_rt r' < 118 := by
        have hvk' : so_vk (am_rt r') = true := hvk'
        simp only [so_vk, List.contains_eq_mem, decide_eq_true_eq, List.mem_cons, List.not_mem_nil, or_false] at hvk'
        omega
      have hr3 : r < 300 := Nat.not_le.mp fun h3 => by rcases so_rt300 h3 with h4 | h4 <;> omega
      obtain ⟨I, Rr, N, S⟩ := h
      dsimp only at hs
      split at hs
      · rename_i n hn
        have hal : so_al (I, Rr, N, S) (r, w, j) := ⟨hr3, n, hn⟩
        obtain ⟨q1, hq1, hq2⟩ := so_ws_get (cA := cA) (ad := ad) (h := (I, Rr, N, S)) ((hL (r, w, j)).mpr hal)
        obtain ⟨q3, hq3, hq4⟩ := so_ws_get (cA := cA) (ad := ad) (h := (I, Rr, N, S)) ((hL (r', w', j')).mpr hal')
        obtain ⟨t0, ci, q0, ht0, hc0', hci⟩ := so_vk_ref (cA := cA) (k := am_rt r) (hvk _ hal) (by omega)
        have hrt' : am_rt r' = ci := by omega
        rw [so_c_refs (k := (r, w, j)) rfl (by show 110 ≤ am_rt r; omega) hn] at hq2
        rw [so_c_obj (k := (r', w', j')) hrt' hc0'] at hq4
        have hf := finR r w j i.toNatClampNeg (r', w', j') I Rr (N, S) st0 _ q1 n rfl hr3 hn hq1 hal' (fun v hv => List.mem_cons_of_mem _ (List.mem_cons_of_mem _ (List.mem_cons_of_mem _ hv))) hs.2
        rw [so_c_setA (a := am_rt r) rfl (by omega) hn] at hf
        exact va_astq hx hb hK hP hD hS q1 t0 q3 ci hq2 ht0 hq4 hc0' hs.1 hd2 hf
      · exact hs.elim
    · exact hs.elim
  case putfield i =>
    obtain ⟨hd2, hnx⟩ := so_dec hd
    clear hd; subst hnx
    dsimp only [am_step] at hs
    dsimp only [so_ck2] at hck2
    split at hck2
    · rename_i q0 i0 p1 hq0
      simp only [Bool.and_eq_true, decide_eq_true_eq] at hck2
      obtain ⟨⟨⟨hbN, hlk⟩, hfi⟩, hty⟩ := hck2
      have ha12 : a < 12 := (List.getElem?_eq_some_iff.mp hq0).1
      obtain ⟨hin, ty0, hty0, hnm⟩ := so_cls a q0 hq0
      -- the store, final or not
      have put : ∀ (r w j : Nat) (v : Value) (rest : List Value) (q1 : Nat) (fs : List Value) (ty : FieldType), (so_ws cA ad h L)[q1]? = some (ad (r, w, j), .inr (a, fs)) → fs.length = q0.2.2 → parseFieldDescriptor (q0.2.1 b).2.2.1 = some ty → narrow ty v = v → fits ty v = true →
          (∀ (H1 : Heap) (locs1 : List Loc), va_P (dC, dI) am_cls ((so_ws cA ad h L).set q1 (ad (r, w, j), .inr (a, fs.set b v))) H1 → va_D A ((so_ws cA ad h L).set q1 (ad (r, w, j), .inr (a, fs.set b v))) → va_S A s.heap H1 locs1 → W p l e R s m args below meth c H1 locs1 cells slots Q (F0 m (pc + 3) lc rest)) → W p l e R s m args below meth c H locs cells slots Q (F0 m pc lc (v :: .ref (ad (r, w, j)) :: rest)) := by
        intro r w j v rest q1 fs ty hq2 hfl hp hnar hfit kk
        cases hfin : (q0.2.1 b).2.2.2
        · exact va_put hx hb hts hin ty0 hty0 hnm hown hK hP hD hS q1 hq2 hq0 b hbN (hts _ (so_wd_in hlk)) (fun x hx => hx) hfin hp hnar hfit (by rw [hfl]; exact hbN) hd2 kk
        · rw [hfin] at hfi
          simp only [Bool.not_true, Bool.false_or, Bool.and_eq_true, decide_eq_true_eq] at hfi
          exact va_putF hx hb hts hin ty0 hty0 hnm hown hK hP hD hS q1 hq2 hq0 b hbN (hts _ (so_wd_in hlk)) (fun x hx => hx) hfin (hini hfi.1) hfi.2 hp hnar hfit (by rw [hfl]; exact hbN) hd2 kk
      split at hs
      · rename_i v r w j st0
        obtain ⟨hra, hs⟩ := so_cond hs
        have hra := so_beq hra
        have hr3 : r < 300 := Nat.not_le.mp fun h3 => by rcases so_rt300 h3 with h4 | h4 <;> omega
        obtain ⟨n, hn⟩ := hst _ (List.mem_cons_of_mem _ List.mem_cons_self) (r, w, j) rfl
        obtain ⟨q1, hq1, hq2⟩ := so_ws_get (cA := cA) (ad := ad) (h := h) ((hL (r, w, j)).mpr ⟨hr3, n, hn⟩)
        rw [so_c_obj (k := (r, w, j)) hra hq0] at hq2
        obtain ⟨I, S⟩ := h
        dsimp only at hs
        have fl : ((List.range q0.2.2).map (so_f ad q0 (I r w j) (S.1 r w j))).length = q0.2.2 := by rw [List.length_map, List.length_range]
        split at hs
        · simp only [Bool.and_eq_true, decide_eq_true_eq] at hty
          have hf := fin r w j b v I S st0 _ q1 n rfl hr3 hn hq1 (fun h9 => by omega) (fun v hv => List.mem_cons_of_mem _ (List.mem_cons_of_mem _ hv)) hs
          rw [so_c_setF hra hq0 hty.2] at hf
          exact put r w j (.int v) _ q1 _ .int hq2 fl hty.1 rfl rfl hf
        · simp only [Bool.and_eq_true, decide_eq_true_eq] at hty
          have hf := fin r w j b v I S st0 _ q1 n rfl hr3 hn hq1 (fun h9 => by omega) (fun v hv => List.mem_cons_of_mem _ (List.mem_cons_of_mem _ hv)) hs.2
          rw [so_c_setF hra hq0 hty.2] at hf
          exact put r w j (.int v) _ q1 _ .boolean hq2 fl hty.1 (by rcases hs.1 with h9 | h9 <;> rw [h9] <;> rfl) (by rcases hs.1 with h9 | h9 <;> rw [h9] <;> rfl) hf
        · exact hs.elim
      · rename_i v r w j st0
        obtain ⟨hra, hs2⟩ := so_cond hs
        clear hs
        have hs := hs2
        clear hs2
        simp only [Bool.and_eq_true] at hra
        have hv3 : v.1 < 300 := Nat.le_of_ble_eq_true hra.2.2
        have hc2 := so_beq hra.2.1
        have hra9 := so_beq hra.1
        clear hra
        subst hc2
        have hra := hra9
        have hr3 : r < 300 := Nat.not_le.mp fun h3 => by rcases so_rt300 h3 with h4 | h4 <;> omega
        obtain ⟨n, hn⟩ := hst _ (List.mem_cons_of_mem _ List.mem_cons_self) (r, w, j) rfl
        obtain ⟨nv, hnv⟩ := hst _ List.mem_cons_self v rfl
        obtain ⟨q1, hq1, hq2⟩ := so_ws_get (cA := cA) (ad := ad) (h := h) ((hL (r, w, j)).mpr ⟨hr3, n, hn⟩)
        rw [so_c_obj (k := (r, w, j)) hra hq0] at hq2
        obtain ⟨I, Rr, S⟩ := h
        dsimp only at hs
        have fl : ((List.range q0.2.2).map (so_f ad q0 (I r w j) (Rr r w j))).length = q0.2.2 := by rw [List.length_map, List.length_range]
        simp only [Bool.and_eq_true, Bool.not_eq_true'] at hty
        have hf := finR r w j b v I Rr S st0 _ q1 n rfl hr3 hn hq1 ⟨hv3, nv, hnv⟩ (fun v hv => List.mem_cons_of_mem _ (List.mem_cons_of_mem _ hv)) hs
        rw [so_c_setFR hra hq0 hty.2] at hf
        have hty1 := hty.1
        split at hty1
        · rename_i c9 hp; exact put r w j (.ref (ad v)) _ q1 _ _ hq2 fl hp rfl rfl hf
        · rename_i c9 hp; exact put r w j (.ref (ad v)) _ q1 _ _ hq2 fl hp rfl rfl hf
        · cases hty1
      · exact hs.elim
    · cases hck2
end so3
end
section
/-! THE SMALL MACHINE IS SOUND, part 7: makings -/
def so_is4 : Instr → Bool
  | .new _ | .newarray _ | .anewarray _ => true
  | _ => false
theorem so_RAi {cA cB : ClassId} {U : State} {ty : FieldType} (h0 : ∀ C, ty ≠ .object C) (h1 : va_RA U cA ty) (h2 : va_RA U cB ty) : cA = cB := by
  cases ty with
  | object C => exact absurd rfl (h0 C)
  | _ => exact Option.some.inj (h1.symm.trans h2)
theorem so_RAo {cA cB : ClassId} {U : State} {C : String} (h1 : va_RA U cA (.object C)) (h2 : va_RA U cB (.object C)) : cA = cB := by
  obtain ⟨_, _, _, _, _, h1⟩ := h1
  obtain ⟨_, _, _, _, _, h2⟩ := h2
  exact Option.some.inj (h1.symm.trans h2)
section so4
variable {p : Program} {l : Launch} {e : Env} {R : Room} {s : State} {m : MethodId} {args : Array Value} {below : List Frame} {meth : Method} {c : Code} {H : Heap} {locs : List Loc} {cells slots : Nat} {Q : State → Prop}
variable {dC : Nat → ClassId} {dI : Nat → Nat → Nat} {cA : Nat → ClassId} {A : Nat → Prop}
/-- a place behind a making -/
theorem so_J_new {nL : Nat} {hE : am_H} {ad0 ad : am_K → Nat} {ls : am_L} {st : List am_V} {h h' : am_H} {H1 : Heap} {locs1 : List Loc} {lc : Array Slot} {kn : am_K} {q n : Nat} (J : so_J dC dI cA A s nL hE ad0 ad h ls st H locs lc cells slots)
    (hH : so_H dC dI cA A (so_ext ad kn q) h' H1) (hr : kn.1 < 300) (hno : h.2.2.1 kn.1 kn.2.1 kn.2.2 = none) (hat : h'.2.2.1 kn.1 kn.2.1 kn.2.2 = some n)
    (ho : ∀ k' : am_K, k' ≠ kn → h'.1 k'.1 k'.2.1 k'.2.2 = h.1 k'.1 k'.2.1 k'.2.2 ∧ h'.2.1 k'.1 k'.2.1 k'.2.2 = h.2.1 k'.1 k'.2.1 k'.2.2 ∧ h'.2.2.1 k'.1 k'.2.1 k'.2.2 = h.2.2.1 k'.1 k'.2.1 k'.2.2)
    (hc : h'.2.2.2.1 = h.2.2.2.1 + 1) (hn : h'.2.2.2.2 = h.2.2.2.2 + n) (hS : va_S A s.heap H1 locs1) {st0 : List am_V} (hst9 : ∀ v, v ∈ st0 → v ∈ st) :
    so_J dC dI cA A s nL hE ad0 (so_ext ad kn q) h' ls (.inr (.inr kn) :: st0) H1 locs1 lc (cells + 1) (slots + n) ∧ st0.map (so_v (so_ext ad kn q)) = st0.map (so_v ad) := by
  obtain ⟨-, hX, hlv, hst0, hls, -, hc0, hn0, hex, hst3, hsta⟩ := J
  have hne : ∀ (k : am_K) (n0 : Nat), h.2.2.1 k.1 k.2.1 k.2.2 = some n0 → k ≠ kn := fun k n0 h0 e9 => by rw [e9, hno] at h0; cases h0
  have hok : ∀ v, so_okv h v → so_okv h' v := fun v hv k hk => by
    obtain ⟨n1, h1⟩ := hv k hk
    exact ⟨n1, by rw [(ho k (hne k n1 h1)).2.2]; exact h1⟩
  have had : ∀ v, so_okv h v → ∀ k, v = .inr (.inr k) → so_ext ad kn q k = ad k := fun v hv k hk => by
    obtain ⟨n1, h1⟩ := hv k hk
    exact so_ext_ne (hne k n1 h1)
  refine ⟨⟨hH, fun k hk n1 hn1 => ?_, ?_, fun v hv => ?_, fun v hv => hok v (hls v hv), hS, by rw [hc, hc0, Nat.add_assoc], by rw [hn, hn0, Nat.add_assoc], fun k n1 hk => ?_, fun k hk => ?_, fun r h1 h2 => ?_⟩, so_map_ad (fun v hv => had v (hst0 v (hst9 v hv)))⟩
  · have hkn : k ≠ kn := fun e9 => by rw [e9] at hk; exact absurd hk (Nat.not_le.mpr hr)
    rw [(ho k hkn).2.2] at hn1
    rw [so_ext_ne hkn, (ho k hkn).1]
    exact hX k hk n1 hn1
  · rw [so_lv_ad ls 0 (fun v hv => had v (hls v hv))]
    exact hlv
  · rcases List.mem_cons.mp hv with rfl | hv
    · intro k hk
      cases hk
      exact ⟨n, hat⟩
    · exact hok v (hst0 v (hst9 v hv))
  · obtain ⟨h1, h2⟩ := hex k n1 hk
    have hkn := hne k n1 h2
    exact ⟨by rw [so_ext_ne hkn]; exact h1, by rw [(ho k hkn).2.2]; exact h2⟩
  · have hkn : k ≠ kn := fun e9 => by rw [e9] at hk; exact absurd hk (Nat.not_le.mpr hr)
    exact ⟨by rw [so_ext_ne hkn]; exact (hst3 k hk).1, (ho k hkn).2.2.trans (hst3 k hk).2.1, (ho k hkn).1.trans (hst3 k hk).2.2⟩
  · obtain ⟨n1, h3⟩ := hsta r h1 h2
    exact ⟨n1, by rw [(ho (r, 0, 0) (hne (r, 0, 0) n1 h3)).2.2]; exact h3⟩
theorem so_make {cc : ByteArray} {nL pc : Nat} {x : am_X} {call : am_C} {own : String} {init : Bool} {hE : am_H} {ad0 ad : am_K → Nat} {ls : am_L} {st : List am_V} {h : am_H} {lc : Array Slot} {k : Nat → am_L → List am_V → am_H → Prop} {q : am_Q}
    (hx : p.tables.exec = Jvm.exec) (hb : c.code = cc) (hown : s.vm.findClass own = some m.cls) (hts : ∀ w ∈ so_G, w.before args s = true) (hA : ∀ q, s.heap.size ≤ q → A q) (hEn : so_E dC dI cA A ad0 s)
    (hck : so_ck1 cc nL pc x = true) (hck2 : so_ck2 own init x = true) (h2 : so_is4 x.1 = true) (J : so_J dC dI cA A s nL hE ad0 ad h ls st H locs lc cells slots) (hs : am_step am_rt call x ls st h k q)
    (hroom : ∀ pc' ls' st' h', k pc' ls' st' h' → h'.2.2.2.1 ≤ hE.2.2.2.1 + R.cells ∧ h'.2.2.2.2 ≤ hE.2.2.2.2 + R.slots)
    (hk : ∀ pc' st' ad' h' H' locs' cells' slots', k pc' ls st' h' → so_J dC dI cA A s nL hE ad0 ad' h' ls st' H' locs' lc cells' slots' → W p l e R s m args below meth c H' locs' cells' slots' Q (F0 m pc' lc (st'.map (so_v ad')))) :
    W p l e R s m args below meth c H locs cells slots Q (F0 m pc lc (st.map (so_v ad))) := by
  obtain ⟨ins, nx, im, a, b, c', sw⟩ := x
  obtain ⟨hK, hAO, hNw, hZ⟩ := hEn
  obtain ⟨⟨L, hL, hP, hD, hcl, hbo, hvk⟩, hX, hlv, hst, hls, hS, hc0, hn0, hex, hst3, hsta⟩ := id J
  simp only [so_ck1, Bool.and_eq_true] at hck
  obtain ⟨hd, -⟩ := hck
  -- behind any making of the cell (r, w, j)
  have fin : ∀ (r w j n : Nat) (pc' : Nat) (st0 : List am_V) (q9 : Nat) (H1 : Heap), r < 300 → so_vk (am_rt r) = true → h.2.2.1 r w j = none → (∀ v, v ∈ st0 → v ∈ st) → k pc' ls (.inr (.inr (r, w, j)) :: st0) (am_new h r w j n) →
      va_P (dC, dI) am_cls (so_ws cA ad h L ++ [(q9, so_c cA (so_ext ad (r, w, j) q9) (am_new h r w j n) (r, w, j))]) H1 → va_D A (so_ws cA ad h L ++ [(q9, so_c cA (so_ext ad (r, w, j) q9) (am_new h r w j n) (r, w, j))]) → va_S A s.heap H1 locs →
      W p l e R s m args below meth c H1 locs (cells + 1) (slots + n) Q (F0 m pc' lc (.ref q9 :: st0.map (so_v ad))) := by
    intro r w j n pc' st0 q9 H1 hr hv hno hst0 hkk hP1 hD1 hS1
    obtain ⟨I, Rr, N, cc9, nn9⟩ := h
    have ho : ∀ k' : am_K, k' ≠ (r, w, j) → (am_new (I, Rr, N, cc9, nn9) r w j n).1 k'.1 k'.2.1 k'.2.2 = I k'.1 k'.2.1 k'.2.2 ∧ (am_new (I, Rr, N, cc9, nn9) r w j n).2.1 k'.1 k'.2.1 k'.2.2 = Rr k'.1 k'.2.1 k'.2.2 ∧ (am_new (I, Rr, N, cc9, nn9) r w j n).2.2.1 k'.1 k'.2.1 k'.2.2 = N k'.1 k'.2.1 k'.2.2 :=
      fun k' hne => ⟨am_newI_off I r w j hne, am_newR_off Rr r w j hne, am_newN_off N r w j n hne⟩
    have hat : (am_new (I, Rr, N, cc9, nn9) r w j n).2.2.1 r w j = some n := am_newN_at N r w j n
    have hH := so_H_new (kn := (r, w, j)) (h' := am_new (I, Rr, N, cc9, nn9) r w j n) (n := n) hL hcl hbo hvk hr hv hno hat ho (fun s' => congrFun (am_newR_at Rr r w j) s') (fun _ s' => Or.inl (congrFun (am_newI_at I r w j) s')) hP1 hD1
    obtain ⟨J', he⟩ := so_J_new (n := n) J hH hr hno hat ho rfl rfl hS1 hst0
    have h9 := hk _ _ _ _ _ _ _ _ hkk J'
    rw [List.map_cons, he] at h9
    rw [show Value.ref q9 = so_v (so_ext ad (r, w, j) q9) (.inr (.inr (r, w, j))) by show Value.ref q9 = Value.ref (so_ext ad (r, w, j) q9 (r, w, j)); rw [so_ext_eq]]
    exact h9
  cases ins <;> try (cases h2; done)
  case new i =>
    obtain ⟨hd2, hnx⟩ := so_dec hd
    clear hd; subst hnx
    dsimp only [am_step] at hs
    dsimp only [so_ck2] at hck2
    split at hck2
    · rename_i q0 i1 p1 i2 p2 i3 p3 hq0
      simp only [Bool.and_eq_true, decide_eq_true_eq] at hck2
      obtain ⟨⟨⟨hw1, hw2⟩, hw3⟩, hbq⟩ := hck2
      obtain ⟨r, w, j, ⟨hra, hr3⟩, hs⟩ := hs
      have ha12 : a < 12 := (List.getElem?_eq_some_iff.mp hq0).1
      obtain ⟨hin, ty0, hty0, hnm⟩ := so_cls a q0 hq0
      obtain ⟨I, S⟩ := h
      dsimp only at hs
      obtain ⟨hno, hs⟩ := hs
      have hro := hroom _ _ _ _ hs
      have hro1 : S.2.2.1 + 1 ≤ hE.2.2.2.1 + R.cells := hro.1
      have hro2 : S.2.2.2 + b ≤ hE.2.2.2.2 + R.slots := hro.2
      have hc0 : S.2.2.1 = hE.2.2.2.1 + cells := hc0
      have hn0 : S.2.2.2 = hE.2.2.2.2 + slots := hn0
      have hvk9 : so_vk (am_rt r) = true := by
        rw [hra]
        have : ∀ a, a < 12 → so_vk a = true := by decide
        exact this a ha12
      have he : ∀ q9, so_c cA (so_ext ad (r, w, j) q9) (am_new (I, S) r w j b) (r, w, j) = .inr (a, (List.range q0.2.2).map (fun s' => bif so_isI q0 s' then .int 0 else .null)) := fun q9 => by
        rw [so_c_obj (h := am_new (I, S) r w j b) (k := (r, w, j)) hra hq0]
        show Sum.inr (a, (List.range q0.2.2).map (so_f _ q0 (am_newI I r w j r w j) (am_newR S.1 r w j r w j))) = _
        rw [am_newI_at, am_newR_at]
        congr 2
      refine va_new (c0 := c) (ci := a) (fs := (List.range q0.2.2).map (fun s' => bif so_isI q0 s' then .int 0 else .null)) hx hb hts hin ty0 hty0 hown (hts _ (so_wd_in hw1)) (hts _ (so_wd_in hw2)) (hts _ (so_wd_in hw3)) hK hP hD hS hA hq0 (fun j9 hj9 => ?_) (by omega) (by omega) hd2 (fun q9 H1 hP1 hD1 hS1 => ?_)
      · rw [so_dfl a q0 hq0 ty0 hty0 j9 hj9, vp_V, List.getD_eq_getElem?_getD, List.getElem?_map, List.getElem?_range hj9]
        rfl
      · have h9 := fin r w j b _ st q9 H1 hr3 hvk9 hno (fun v hv => hv) hs
        rw [he q9] at h9
        rw [← hbq]
        exact h9 hP1 hD1 hS1
    · cases hck2
  case newarray t =>
    obtain ⟨hd2, hnx⟩ := so_dec hd
    clear hd; subst hnx
    dsimp only [am_step] at hs
    dsimp only [so_ck2] at hck2
    split at hck2
    · rename_i i1 p1
      simp only [Bool.and_eq_true, decide_eq_true_eq] at hck2
      obtain ⟨⟨hw1, hak⟩, ha9⟩ := hck2
      split at hs
      · rename_i i st0
        obtain ⟨r, w, j, n, ⟨hra, hr3⟩, hi, hn6, hs⟩ := hs
        obtain ⟨I, S⟩ := h
        dsimp only at hs
        obtain ⟨hno, hs⟩ := hs
        have hro := hroom _ _ _ _ hs
        have hro1 : S.2.2.1 + 1 ≤ hE.2.2.2.1 + R.cells := hro.1
        have hro2 : S.2.2.2 + n ≤ hE.2.2.2.2 + R.slots := hro.2
        have hc0 : S.2.2.1 = hE.2.2.2.1 + cells := hc0
        have hn0 : S.2.2.2 = hE.2.2.2.2 + slots := hn0
        have hi0 : ¬ i < 0 := by rw [hi]; exact nI_pos (by omega)
        have hiN : i.toNatClampNeg = n := by rw [hi]; exact nI_clamp (by omega)
        have hkind : ∃ t0 : Nat, (so_tys cA)[t0]? = some (cA a, newarray.typeOf t) ∧ (∀ C, newarray.typeOf t ≠ .object C) ∧ (∀ cA' : ClassId, vp_cell cA' (n, .inl (fun _ => 0)) = arrV cA' n (fun _ => defaultValue (newarray.typeOf t))) ∧ componentBytes (newarray.typeOf t) ≤ 8 ∧ 100 ≤ a ∧ a < 110 ∧ so_vk a = true := by
          cases t <;> first
            | (exact absurd hak ha9)
            | (subst hak; exact ⟨0, rfl, (fun C h => by cases h), fun _ => rfl, by decide, by decide, by decide, by decide⟩)
            | (subst hak; exact ⟨1, rfl, (fun C h => by cases h), fun _ => rfl, by decide, by decide, by decide, by decide⟩)
            | (subst hak; exact ⟨2, rfl, (fun C h => by cases h), fun _ => rfl, by decide, by decide, by decide, by decide⟩)
            | (subst hak; exact ⟨3, rfl, (fun C h => by cases h), fun _ => rfl, by decide, by decide, by decide, by decide⟩)
        obtain ⟨t0, ht0, hnobj, hcell, hcb, ha1, ha2, hvka⟩ := hkind
        refine va_newa (N' := n) (a0 := (n, .inl (fun _ => 0))) hx hb (hts _ (so_wd_in hw1)) rfl hK hP hD hS hA hcell hi0 hiN (by have := Nat.mul_le_mul (Nat.le_of_lt hn6) hcb; omega) (by omega) (by omega) hd2 (fun q9 cA' H1 hK1 hP1 hD1 hS1 => ?_)
        have hcA : cA' = cA a := by
          have h8 := hK1.2 (so_tys cA).length (cA', newarray.typeOf t) (by rw [List.getElem?_append_right (Nat.le_refl _)]; simp)
          exact so_RAi hnobj h8.2 (hK.2 t0 _ ht0).2
        subst hcA
        have h9 := fin r w j n _ st0 q9 H1 hr3 (by rw [hra]; exact hvka) hno (fun v hv => List.mem_cons_of_mem _ hv) hs
        have he : so_c cA (so_ext ad (r, w, j) q9) (am_new (I, S) r w j n) (r, w, j) = .inl (cA a, n, .inl (fun _ => 0)) := by
          rw [so_c_int (h := am_new (I, S) r w j n) (k := (r, w, j)) hra ha1 ha2 (am_newN_at S.2.1 r w j n)]
          show Sum.inl (cA a, n, Sum.inl (am_newI I r w j r w j)) = _
          rw [am_newI_at]
        rw [he] at h9
        exact h9 hP1 hD1 hS1
      · exact hs.elim
    · cases hck2
  case anewarray i =>
    obtain ⟨hd2, hnx⟩ := so_dec hd
    clear hd; subst hnx
    dsimp only [am_step] at hs
    dsimp only [so_ck2] at hck2
    split at hck2
    · rename_i q0 i1 p1 hq0
      simp only [Bool.and_eq_true, List.contains_eq_mem, decide_eq_true_eq] at hck2
      obtain ⟨⟨hw1, hcm⟩, hal⟩ := hck2
      split at hs
      · rename_i i st0
        obtain ⟨r, w, j, n, ⟨hra, hr3⟩, hi, hn6, hs⟩ := hs
        obtain ⟨I, S⟩ := h
        dsimp only at hs
        obtain ⟨hno, hs⟩ := hs
        have hro := hroom _ _ _ _ hs
        have hro1 : S.2.2.1 + 1 ≤ hE.2.2.2.1 + R.cells := hro.1
        have hro2 : S.2.2.2 + n ≤ hE.2.2.2.2 + R.slots := hro.2
        have hc0 : S.2.2.1 = hE.2.2.2.1 + cells := hc0
        have hn0 : S.2.2.2 = hE.2.2.2.2 + slots := hn0
        have hi0 : ¬ i < 0 := by rw [hi]; exact nI_pos (by omega)
        have hiN : i.toNatClampNeg = n := by rw [hi]; exact nI_clamp (by omega)
        have hvka : so_vk (110 + a) = true := by
          simp only [List.mem_cons, List.not_mem_nil, or_false] at hal
          rcases hal with rfl | rfl | rfl | rfl | rfl <;> decide
        refine va_newq (N' := n) hx hb hown (hts _ (so_wd_in hw1)) (hAO _ hcm) hK hP hD hS hA hi0 hiN (by omega) (by omega) (by omega) hd2 (fun q9 cA' H1 hK1 hP1 hD1 hS1 => ?_)
        have hcA : cA' = cA (110 + a) := by
          have h8 := hK1.2 (so_tys cA).length (cA', .object q0.1) (by rw [List.getElem?_append_right (Nat.le_refl _)]; simp)
          obtain ⟨t0, ci, q5, ht0, hq5, h15⟩ := so_vk_ref (cA := cA) hvka (by omega)
          have : ci = a := by omega
          subst this
          cases hq0.symm.trans hq5
          exact so_RAo h8.2 (hK.2 t0 _ ht0).2
        subst hcA
        have h9 := fin r w j n _ st0 q9 H1 hr3 (by rw [hra]; exact hvka) hno (fun v hv => List.mem_cons_of_mem _ hv) hs
        have he : so_c cA (so_ext ad (r, w, j) q9) (am_new (I, S) r w j n) (r, w, j) = .inl (cA (110 + a), n, .inr (.inr (.inr (.inr (fun _ => none))))) := by
          rw [so_c_refs (h := am_new (I, S) r w j n) (k := (r, w, j)) hra (by omega) (am_newN_at S.2.1 r w j n)]
          show Sum.inl (cA (110 + a), n, Sum.inr (Sum.inr (Sum.inr (Sum.inr (fun s' => (am_newR S.1 r w j r w j s').map _))))) = _
          rw [am_newR_at]
          rfl
        rw [he] at h9
        exact h9 hP1 hD1 hS1
      · exact hs.elim
    · cases hck2
end so4
end
section
/-! THE SMALL MACHINE IS SOUND, part 8: calls -/
def so_find : List (Nat × so_MI) → Nat → Option so_MI
  | [], _ => none
  | (y, q) :: l, z => bif Nat.beq y z then some q else so_find l z
def so_nmok (nm : MethodName) (np mL : Nat) : Bool := decide (nm.cls ≠ "java/lang/invoke/MethodHandle") && decide (nm.cls ≠ "java/lang/invoke/VarHandle") && decide ((parseMethodDescriptor nm.desc).map (fun d => d.parameters.length) = some np) && decide (mL ≤ 40)
def so_cloneI : MethodName := ⟨"[I", "clone", "()Ljava/lang/Object;"⟩
def so_cloneO : MethodName := ⟨"java/lang/Object", "clone", "()Ljava/lang/Object;"⟩
/-- what a row of a table must say of a call -/
def so_ck3 (own : String) (x : am_X) : Bool :=
  match x with
  | (ins, _, _, a, b, _, sw) =>
    match ins with
    | .invokespecial i => bif Nat.beq a 9999 then (match sw with | [(_, p1), (_, p2), (_, p3)] => so_wd p1 (.methodLink own i objectInit) && so_wd p2 (.instanceMethod objectInit) && so_wd p3 (.code objectInit ⟨#[0xb1]⟩ 1 none) | _ => false)
        else (match so_find so_ml a, sw with
          | some (nm, bs, mL, ret, np, _), [(z, p1), (_, p2), (_, p3), (_, p4)] => (bif decide (z = 1) then decide (lw_tbl[p1]? = some (.methodLinkNest own i nm "CrowdOut")) else so_wd p1 (.methodLink own i nm)) && so_wd p2 (.instanceMethod nm) && so_wd p3 (.initialized nm.cls) && so_wd p4 (.code nm bs mL ret) && decide (b = np + 1) && decide (nm.name = "<init>") && decide (ret = none) && so_nmok nm np mL
          | _, _ => false)
    | .invokevirtual i => bif Nat.beq a 9998 then (match sw with | [(_, p1), (_, p2), (_, p3), (_, p4), (_, p5)] => so_wd p1 (.methodLink own i so_cloneI) && so_wd p2 (.sameMethod "[I" "java/lang/Object" "clone" "()Ljava/lang/Object;") && so_wd p3 (.native so_cloneO) && so_wd p4 (.instanceMethod so_cloneO) && so_wd p5 (.selects "[I" so_cloneI so_cloneO) | _ => false)
        else (match so_find so_ml a, am_cls[a / 100]?, sw with
          | some (nm, bs, mL, ret, np, _), some q, [(_, p1), (_, p2), (_, p3), (_, p4), (_, p5)] => so_wd p1 (.methodLink own i nm) && so_wd p2 (.instanceMethod nm) && so_wd p3 (.selects nm.cls nm nm) && so_wd p4 (.initialized nm.cls) && so_wd p5 (.code nm bs mL ret) && decide (b = np + 1) && decide (q.1 = nm.cls) && so_nmok nm np mL
          | _, _, _ => false)
    | .invokestatic i => bif Nat.beq a 9996 then (match sw with | [(_, p1), (_, p2), (_, p3), (_, p4)] => so_wd p1 (.methodLink own i Lib.Math.max.name) && so_wd p2 (.static Lib.Math.max.name) && so_wd p3 (.initialized "java/lang/Math") && so_wd p4 (.code Lib.Math.max.name Lib.Math.max.code 2 (some .int)) | _ => false)
        else bif Nat.beq a 9995 then (match sw with | [(_, p1), (_, p2), (_, p3), (_, p4)] => so_wd p1 (.methodLink own i Lib.Math.min.name) && so_wd p2 (.static Lib.Math.min.name) && so_wd p3 (.initialized "java/lang/Math") && so_wd p4 (.code Lib.Math.min.name Lib.Math.min.code 2 (some .int)) | _ => false)
        else bif Nat.beq a 9994 then (match sw with | [(_, p1), (_, p2), (_, p3), (_, p4)] => so_wd p1 (.methodLink own i Lib.Math.abs.name) && so_wd p2 (.static Lib.Math.abs.name) && so_wd p3 (.initialized "java/lang/Math") && so_wd p4 (.code Lib.Math.abs.name Lib.Math.abs.code 1 (some .int)) | _ => false)
        else bif Nat.beq a 9997 then (match sw with | [(_, p1), (_, p2), (_, p3), (_, p4)] => so_wd p1 (.methodLink own i arraycopyName) && so_wd p2 (.native arraycopyName) && so_wd p3 (.static arraycopyName) && so_wd p4 (.initialized "java/lang/System") | _ => false)
        else (match so_find so_ml a, sw with
          | some (nm, bs, mL, ret, np, _), [(_, p1), (_, p2), (_, p3), (_, p4)] => so_wd p1 (.methodLink own i nm) && so_wd p2 (.static nm) && so_wd p3 (.initialized nm.cls) && so_wd p4 (.code nm bs mL ret) && decide (b = np) && so_nmok nm np mL
          | _, _ => false)
    | _ => true
theorem so_pop : ∀ (n : Nat) (st acc : List am_V) (f : List am_V → List am_V → Prop), am_pop n st acc f → ∃ ps st', st = ps ++ st' ∧ ps.length = n ∧ f (ps.reverse ++ acc) st' := by
  intro n
  induction n with
  | zero => intro st acc f h; exact ⟨[], st, rfl, rfl, h⟩
  | succ n ih =>
    intro st acc f h
    cases st with
    | nil => exact h.elim
    | cons v st =>
      obtain ⟨ps, st', h1, h2, h3⟩ := ih st (v :: acc) f h
      exact ⟨v :: ps, st', by rw [h1]; rfl, by rw [List.length_cons, h2], by rw [List.reverse_cons, List.append_assoc]; exact h3⟩
theorem so_cat (ad : am_K → Nat) : ∀ st : List am_V, ((st.map (so_v ad)).map (fun v => v.category)).sum = am_cat st := by
  intro st
  induction st with
  | nil => rfl
  | cons v st ih =>
    rcases v with v | (v | v) <;> (rw [List.map_cons, List.map_cons, List.sum_cons, ih]; rfl)
/-- the address book of a later moment: what there was is there still, at the same addresses -/
def so_ex (h h' : am_H) (ad ad' : am_K → Nat) : Prop := (∀ k : am_K, ∀ n, h.2.2.1 k.1 k.2.1 k.2.2 = some n → ad' k = ad k ∧ h'.2.2.1 k.1 k.2.1 k.2.2 = some n) ∧ (∀ k : am_K, 300 ≤ k.1 → ad' k = ad k ∧ h'.2.2.1 k.1 k.2.1 k.2.2 = h.2.2.1 k.1 k.2.1 k.2.2 ∧ h'.1 k.1 k.2.1 k.2.2 = h.1 k.1 k.2.1 k.2.2)
def so_room (d mc ms : Nat) : Room := { frames := d, cells := mc, slots := ms, locals := d * 64 }
def so_Pc (dC : Nat → ClassId) (dI : Nat → Nat → Nat) (cA : Nat → ClassId) (A : Nat → Prop) (ad : am_K → Nat) (h : am_H) (as : List am_V) : Array Value → State → Prop :=
  va_Pc (as.map (so_v ad)) (fun U => so_E dC dI cA A ad U ∧ so_H dC dI cA A ad h U.heap ∧ so_X A ad U h U.heap ∧ (∀ q, U.heap.size ≤ q → A q))
def so_Qc (dC : Nat → ClassId) (dI : Nat → Nat → Nat) (cA : Nat → ClassId) (A : Nat → Prop) (ad : am_K → Nat) (h : am_H) (v : Option am_V) (h' : am_H) : Array Value → State → Outcome → State → Prop := match v with
  | none => va_Qv (fun ad' => so_ex h h' ad ad') (fun ad' t => so_H dC dI cA A ad' h' t.heap) A
  | some (.inl x) => va_Qi (fun r ad' => r = x ∧ so_ex h h' ad ad') (fun ad' t => so_H dC dI cA A ad' h' t.heap) A
  | some (.inr (.inr k)) => va_Qr (fun ad' => so_ex h h' ad ad' ∧ ∃ n, h'.2.2.1 k.1 k.2.1 k.2.2 = some n) (fun ad' a t => a = ad' k ∧ so_H dC dI cA A ad' h' t.heap) A
  | some (.inr (.inl _)) => fun _ _ _ _ => False
def so_Met (l : Launch) (d y : Nat) (as : List am_V) (h : am_H) (v : Option am_V) (h' : am_H) : Prop :=
  ∀ nm bs mL ret np ini, so_find so_ml y = some (nm, bs, mL, ret, np, ini) → ∀ (dC : Nat → ClassId) (dI : Nat → Nat → Nat) (cA : Nat → ClassId) (A : Nat → Prop) (ad : am_K → Nat), (∀ v, v ∈ as → so_okv h v) → (∀ r, 301 ≤ r → r ≤ 306 → ∃ n, h.2.2.1 r 0 0 = some n) →
    Met l nm (.code nm bs mL ret :: so_G) (so_room d (h'.2.2.2.1 - h.2.2.2.1) (h'.2.2.2.2 - h.2.2.2.2)) (so_Pc dC dI cA A ad h as) (so_Qc dC dI cA A ad h v h') (h'.2.2.2.1 - h.2.2.2.1) (h'.2.2.2.2 - h.2.2.2.2) A
theorem so_blind (dC : Nat → ClassId) (dI : Nat → Nat → Nat) (cA : Nat → ClassId) (A : Nat → Prop) (ad : am_K → Nat) (h : am_H) (as : List am_V) : FrameBlind (so_Pc dC dI cA A ad h as) := by
  intro a U g mk hP
  obtain ⟨h0, ⟨hK, hAO, ⟨hM, hF, hC⟩, hZ⟩, hH, hX, hA⟩ := hP
  refine ⟨h0, ⟨va_K.moved (u := U) (Vm.Alike.refl U.vm) hK, fun C hC' => va_AO.moved (u := U) (Vm.Alike.refl U.vm) (hAO C hC'), ⟨fun own i x host hm => va_Nw.same rfl rfl (hM own i x host hm), fun own i r n d host hm => va_Nw.same rfl rfl (hF own i r n d host hm), va_Nw.same rfl rfl hC⟩, fun r h1 h2 => va_Z.moved (u := U) (Vm.Alike.refl U.vm) (hZ r h1 h2)⟩, hH, fun k hk n hn => ?_, hA⟩
  exact va_T.moved (u := U) (Vm.Alike.refl U.vm) (hX k hk n hn)
theorem so_goodIn {nm nm' : MethodName} {bs bs' : ByteArray} {mL mL' : Nat} {ret ret' : Option FieldType} (hc : Cond.code nm bs mL ret ∈ so_G) : GoodIn (.code nm' bs' mL' ret' :: so_G) (.code nm bs mL ret :: so_G) := by
  intro w hw
  have hw : w ∈ so_G := by
    rcases List.mem_cons.mp hw with rfl | hw
    · exact hc
    · exact hw
  exact ⟨List.mem_cons_of_mem _ hw, good_of_word (List.mem_filter.mp hw).2⟩
section so5
variable {p : Program} {l : Launch} {e : Env} {R : Room} {s : State} {m : MethodId} {args : Array Value} {below : List Frame} {meth : Method} {c : Code} {H : Heap} {locs : List Loc} {cells slots : Nat} {Q : State → Prop}
variable {dC : Nat → ClassId} {dI : Nat → Nat → Nat} {cA : Nat → ClassId} {A : Nat → Prop}
/-- a place behind a call -/
theorem so_J_call {nL : Nat} {hE : am_H} {ad0 ad ad' : am_K → Nat} {ls : am_L} {st st' : List am_V} {h h' : am_H} {H1 : Heap} {locs1 : List Loc} {lc : Array Slot} (J : so_J dC dI cA A s nL hE ad0 ad h ls st H locs lc cells slots)
    (hex' : so_ex h h' ad ad') (hle : am_le h h') (hH : so_H dC dI cA A ad' h' H1) (hst' : ∀ v, v ∈ st' → so_okv h v ∨ so_okv h' v) (hS : va_S A s.heap H1 locs1) : so_J dC dI cA A s nL hE ad0 ad' h' ls st' H1 locs1 lc (cells + (h'.2.2.2.1 - h.2.2.2.1)) (slots + (h'.2.2.2.2 - h.2.2.2.2)) := by
  obtain ⟨-, hX, hlv, hst0, hls, -, hc0, hn0, hex, hst3, hsta⟩ := J
  obtain ⟨he1, he2⟩ := hex'
  have hok : ∀ v, so_okv h v → so_okv h' v := fun v hv k hk => by
    obtain ⟨n1, h1⟩ := hv k hk
    exact ⟨n1, (he1 k n1 h1).2⟩
  have h5 := hle.1
  have h6 := hle.2
  refine ⟨hH, fun k hk n hn => ?_, ?_, fun v hv => (hst' v hv).elim (hok v) id, fun v hv => hok v (hls v hv), hS, by omega, by omega, fun k n hk => ?_, fun k hk => ⟨(he2 k hk).1.trans (hst3 k hk).1, (he2 k hk).2.1.trans (hst3 k hk).2.1, (he2 k hk).2.2.trans (hst3 k hk).2.2⟩, fun r h1 h2 => ?_⟩
  · obtain ⟨e1, e2, e3⟩ := he2 k hk
    rw [e2] at hn
    rw [e1, e3]
    exact hX k hk n hn
  · rw [so_lv_ad ls 0 (fun v hv k hk => by obtain ⟨n1, h1⟩ := hls v hv k hk; exact (he1 k n1 h1).1)]
    exact hlv
  · obtain ⟨h1, h2⟩ := hex k n hk
    obtain ⟨h3, h4⟩ := he1 k n h2
    exact ⟨h3.trans h1, h4⟩
  · obtain ⟨n, h3⟩ := hsta r h1 h2
    exact ⟨n, (he1 (r, 0, 0) n h3).2⟩
/-- the callee's start, where the caller stands -/
theorem so_pre {nL : Nat} {hE : am_H} {ad0 ad : am_K → Nat} {ls : am_L} {st : List am_V} {h : am_H} {lc : Array Slot} (hEn : so_E dC dI cA A ad0 s) (hA : ∀ q, s.heap.size ≤ q → A q) (J : so_J dC dI cA A s nL hE ad0 ad h ls st H locs lc cells slots) (as : List am_V) :
    ∀ U : State, U.heap = H → s.WarmedH U.vm → so_Pc dC dI cA A ad h as (as.map (so_v ad)).toArray U := by
  intro U hU hW
  obtain ⟨hH, hX, hlv, hst0, hls, hS, hc0, hn0, hex, hst3, hsta⟩ := J
  refine ⟨rfl, so_E_moved hEn hW hS hU (fun k hk => (hst3 k hk).1), by rw [hU]; exact hH, by rw [hU]; exact so_X_moved hX hW.alike hS, fun q hq => hA q (Nat.le_trans hS.1 (by rw [hU] at hq; exact hq))⟩
end so5
end
section
/-! THE SMALL MACHINE IS SOUND: what a table must say -/
/-- what a row of a table must say of a return -/
def so_ckr (ret : Option FieldType) (x : am_X) : Bool :=
  match x with
  | (ins, _, _, _, _, c, _) =>
    match ins with
    | .ireturn => bif Nat.beq c 1 then decide (ret = some .boolean) else decide (ret = some .int)
    | .areturn => match ret with | some (.object _) => true | some (.array _) => true | _ => false
    | .return_ => decide (ret = none)
    | _ => true
def so_row (own : String) (bs : ByteArray) (mL : Nat) (ret : Option FieldType) (ini : Bool) (q : Nat × am_X) : Bool := so_ck1 bs mL q.1 q.2 && so_ck2 own ini q.2 && so_ck3 own q.2 && so_ckr ret q.2
def so_tbl (own : String) (bs : ByteArray) (mL : Nat) (ret : Option FieldType) (ini : Bool) (tb : List (Nat × List (Nat × am_X))) : Bool := tb.all (fun ch => ch.2.all (so_row own bs mL ret ini))
/-- what must be so of a method of the table -/
def so_mok (y : Nat) (q : so_MI) : Prop := plainName q.1.cls = true ∧ (q.2.2.2.2.2 = true → q.1.name = "<init>") ∧ ∃ tb, am_P y = (am_look tb, q.2.2.1) ∧ so_tbl q.1.cls q.2.1 q.2.2.1 q.2.2.2.1 q.2.2.2.2.2 tb = true
end
section
/-! printed by wip/gen_ok.py: the tables say what the bytes and the words say: CrowdOutModel -/
theorem ok_M_init : so_mok 1100 ((⟨"CrowdOutModel", "<init>", "()V"⟩ : MethodName), prog_13_method_1_code, 2, ((Option.none : Option FieldType) : Option FieldType), 0, true) := ⟨by decide +kernel, by decide +kernel, tb_M_init, rfl, by decide +kernel⟩
theorem ok_M_no : so_mok 1101 ((⟨"CrowdOutModel", "no", "(I)I"⟩ : MethodName), prog_13_method_2_code, 2, ((Option.some FieldType.int) : Option FieldType), 1, false) := ⟨by decide +kernel, by decide +kernel, tb_M_no, rfl, by decide +kernel⟩
theorem ok_M_isArea : so_mok 1102 ((⟨"CrowdOutModel", "isArea", "(I)Z"⟩ : MethodName), prog_13_method_3_code, 2, ((Option.some FieldType.boolean) : Option FieldType), 1, false) := ⟨by decide +kernel, by decide +kernel, tb_M_isArea, rfl, by decide +kernel⟩
theorem ok_M_isLink : so_mok 1103 ((⟨"CrowdOutModel", "isLink", "(I)Z"⟩ : MethodName), prog_13_method_4_code, 2, ((Option.some FieldType.boolean) : Option FieldType), 1, false) := ⟨by decide +kernel, by decide +kernel, tb_M_isLink, rfl, by decide +kernel⟩
theorem ok_M_isFolk : so_mok 1104 ((⟨"CrowdOutModel", "isFolk", "(I)Z"⟩ : MethodName), prog_13_method_5_code, 2, ((Option.some FieldType.boolean) : Option FieldType), 1, false) := ⟨by decide +kernel, by decide +kernel, tb_M_isFolk, rfl, by decide +kernel⟩
theorem ok_M_isTrain : so_mok 1105 ((⟨"CrowdOutModel", "isTrain", "(I)Z"⟩ : MethodName), prog_13_method_6_code, 2, ((Option.some FieldType.boolean) : Option FieldType), 1, false) := ⟨by decide +kernel, by decide +kernel, tb_M_isTrain, rfl, by decide +kernel⟩
theorem ok_M_isOrder : so_mok 1106 ((⟨"CrowdOutModel", "isOrder", "(I)Z"⟩ : MethodName), prog_13_method_7_code, 2, ((Option.some FieldType.boolean) : Option FieldType), 1, false) := ⟨by decide +kernel, by decide +kernel, tb_M_isOrder, rfl, by decide +kernel⟩
theorem ok_M_area : so_mok 1107 ((⟨"CrowdOutModel", "area", "(II)I"⟩ : MethodName), prog_13_method_8_code, 3, ((Option.some FieldType.int) : Option FieldType), 2, false) := ⟨by decide +kernel, by decide +kernel, tb_M_area, rfl, by decide +kernel⟩
theorem ok_M_link : so_mok 1108 ((⟨"CrowdOutModel", "link", "(IIII)I"⟩ : MethodName), prog_13_method_9_code, 5, ((Option.some FieldType.int) : Option FieldType), 4, false) := ⟨by decide +kernel, by decide +kernel, tb_M_link, rfl, by decide +kernel⟩
theorem ok_M_barred : so_mok 1109 ((⟨"CrowdOutModel", "barred", "(III)I"⟩ : MethodName), prog_13_method_10_code, 5, ((Option.some FieldType.int) : Option FieldType), 3, false) := ⟨by decide +kernel, by decide +kernel, tb_M_barred, rfl, by decide +kernel⟩
theorem ok_M_linkSet : so_mok 1110 ((⟨"CrowdOutModel", "linkSet", "(III)I"⟩ : MethodName), prog_13_method_11_code, 6, ((Option.some FieldType.int) : Option FieldType), 3, false) := ⟨by decide +kernel, by decide +kernel, tb_M_linkSet, rfl, by decide +kernel⟩
theorem ok_M_folk : so_mok 1111 ((⟨"CrowdOutModel", "folk", "(IIII)I"⟩ : MethodName), prog_13_method_12_code, 5, ((Option.some FieldType.int) : Option FieldType), 4, false) := ⟨by decide +kernel, by decide +kernel, tb_M_folk, rfl, by decide +kernel⟩
theorem ok_M_train : so_mok 1112 ((⟨"CrowdOutModel", "train", "(IIII)I"⟩ : MethodName), prog_13_method_13_code, 5, ((Option.some FieldType.int) : Option FieldType), 4, false) := ⟨by decide +kernel, by decide +kernel, tb_M_train, rfl, by decide +kernel⟩
theorem ok_M_hold : so_mok 1113 ((⟨"CrowdOutModel", "hold", "(IZ)I"⟩ : MethodName), prog_13_method_14_code, 3, ((Option.some FieldType.int) : Option FieldType), 2, false) := ⟨by decide +kernel, by decide +kernel, tb_M_hold, rfl, by decide +kernel⟩
theorem ok_M_set : so_mok 1114 ((⟨"CrowdOutModel", "set", "(II)I"⟩ : MethodName), prog_13_method_15_code, 4, ((Option.some FieldType.int) : Option FieldType), 2, false) := ⟨by decide +kernel, by decide +kernel, tb_M_set, rfl, by decide +kernel⟩
theorem ok_M_pressOf : so_mok 1115 ((⟨"CrowdOutModel", "pressOf", "(I)I"⟩ : MethodName), prog_13_method_16_code, 2, ((Option.some FieldType.int) : Option FieldType), 1, false) := ⟨by decide +kernel, by decide +kernel, tb_M_pressOf, rfl, by decide +kernel⟩
theorem ok_M_addHeads : so_mok 1116 ((⟨"CrowdOutModel", "addHeads", "(II)V"⟩ : MethodName), prog_13_method_17_code, 4, ((Option.none : Option FieldType) : Option FieldType), 2, false) := ⟨by decide +kernel, by decide +kernel, tb_M_addHeads, rfl, by decide +kernel⟩
theorem ok_M_endOf : so_mok 1117 ((⟨"CrowdOutModel", "endOf", "(II)I"⟩ : MethodName), prog_13_method_18_code, 3, ((Option.some FieldType.int) : Option FieldType), 2, false) := ⟨by decide +kernel, by decide +kernel, tb_M_endOf, rfl, by decide +kernel⟩
theorem ok_M_goes : so_mok 1118 ((⟨"CrowdOutModel", "goes", "(IIZ)Z"⟩ : MethodName), prog_13_method_19_code, 5, ((Option.some FieldType.boolean) : Option FieldType), 3, false) := ⟨by decide +kernel, by decide +kernel, tb_M_goes, rfl, by decide +kernel⟩
theorem ok_M_timeOf : so_mok 1119 ((⟨"CrowdOutModel", "timeOf", "(II)I"⟩ : MethodName), prog_13_method_20_code, 3, ((Option.some FieldType.int) : Option FieldType), 2, false) := ⟨by decide +kernel, by decide +kernel, tb_M_timeOf, rfl, by decide +kernel⟩
theorem ok_M_far : so_mok 1120 ((⟨"CrowdOutModel", "far", "(IZ)I"⟩ : MethodName), prog_13_method_21_code, 8, ((Option.some FieldType.int) : Option FieldType), 2, false) := ⟨by decide +kernel, by decide +kernel, tb_M_far, rfl, by decide +kernel⟩
theorem ok_M_lower : so_mok 1121 ((⟨"CrowdOutModel", "lower", "(IIIZ)Z"⟩ : MethodName), prog_13_method_22_code, 7, ((Option.some FieldType.boolean) : Option FieldType), 4, false) := ⟨by decide +kernel, by decide +kernel, tb_M_lower, rfl, by decide +kernel⟩
theorem ok_M_wayOn : so_mok 1122 ((⟨"CrowdOutModel", "wayOn", "(IIZ)I"⟩ : MethodName), prog_13_method_23_code, 7, ((Option.some FieldType.int) : Option FieldType), 3, false) := ⟨by decide +kernel, by decide +kernel, tb_M_wayOn, rfl, by decide +kernel⟩
theorem ok_M_next : so_mok 1123 ((⟨"CrowdOutModel", "next", "(IIZ)I"⟩ : MethodName), prog_13_method_24_code, 4, ((Option.some FieldType.int) : Option FieldType), 3, false) := ⟨by decide +kernel, by decide +kernel, tb_M_next, rfl, by decide +kernel⟩
theorem ok_M_walk : so_mok 1124 ((⟨"CrowdOutModel", "walk", "(IIZ)I"⟩ : MethodName), prog_13_method_25_code, 5, ((Option.some FieldType.int) : Option FieldType), 3, false) := ⟨by decide +kernel, by decide +kernel, tb_M_walk, rfl, by decide +kernel⟩
theorem ok_M_wayAt : so_mok 1125 ((⟨"CrowdOutModel", "wayAt", "(IIII)I"⟩ : MethodName), prog_13_method_26_code, 5, ((Option.some FieldType.int) : Option FieldType), 4, false) := ⟨by decide +kernel, by decide +kernel, tb_M_wayAt, rfl, by decide +kernel⟩
theorem ok_M_hear : so_mok 1126 ((⟨"CrowdOutModel", "hear", "()V"⟩ : MethodName), prog_13_method_27_code, 5, ((Option.none : Option FieldType) : Option FieldType), 0, false) := ⟨by decide +kernel, by decide +kernel, tb_M_hear, rfl, by decide +kernel⟩
theorem ok_M_arrive : so_mok 1127 ((⟨"CrowdOutModel", "arrive", "()I"⟩ : MethodName), prog_13_method_28_code, 5, ((Option.some FieldType.int) : Option FieldType), 0, false) := ⟨by decide +kernel, by decide +kernel, tb_M_arrive, rfl, by decide +kernel⟩
theorem ok_M_comeIn : so_mok 1128 ((⟨"CrowdOutModel", "comeIn", "(III)I"⟩ : MethodName), prog_13_method_29_code, 7, ((Option.some FieldType.int) : Option FieldType), 3, false) := ⟨by decide +kernel, by decide +kernel, tb_M_comeIn, rfl, by decide +kernel⟩
theorem ok_M_goOn : so_mok 1129 ((⟨"CrowdOutModel", "goOn", "(II)V"⟩ : MethodName), prog_13_method_30_code, 12, ((Option.none : Option FieldType) : Option FieldType), 2, false) := ⟨by decide +kernel, by decide +kernel, tb_M_goOn, rfl, by decide +kernel⟩
theorem ok_M_pushes : so_mok 1130 ((⟨"CrowdOutModel", "pushes", "()V"⟩ : MethodName), prog_13_method_31_code, 5, ((Option.none : Option FieldType) : Option FieldType), 0, false) := ⟨by decide +kernel, by decide +kernel, tb_M_pushes, rfl, by decide +kernel⟩
theorem ok_M_carry : so_mok 1131 ((⟨"CrowdOutModel", "carry", "()V"⟩ : MethodName), prog_13_method_32_code, 5, ((Option.none : Option FieldType) : Option FieldType), 0, false) := ⟨by decide +kernel, by decide +kernel, tb_M_carry, rfl, by decide +kernel⟩
theorem ok_M_pass : so_mok 1132 ((⟨"CrowdOutModel", "pass", "()I"⟩ : MethodName), prog_13_method_33_code, 4, ((Option.some FieldType.int) : Option FieldType), 0, false) := ⟨by decide +kernel, by decide +kernel, tb_M_pass, rfl, by decide +kernel⟩
theorem ok_M_ticks : so_mok 1133 ((⟨"CrowdOutModel", "ticks", "(I)I"⟩ : MethodName), prog_13_method_34_code, 5, ((Option.some FieldType.int) : Option FieldType), 1, false) := ⟨by decide +kernel, by decide +kernel, tb_M_ticks, rfl, by decide +kernel⟩
theorem ok_M_areaOf : so_mok 1134 ((⟨"CrowdOutModel", "areaOf", "(II)I"⟩ : MethodName), prog_13_method_35_code, 3, ((Option.some FieldType.int) : Option FieldType), 2, false) := ⟨by decide +kernel, by decide +kernel, tb_M_areaOf, rfl, by decide +kernel⟩
theorem ok_M_onLink : so_mok 1135 ((⟨"CrowdOutModel", "onLink", "(II)I"⟩ : MethodName), prog_13_method_36_code, 5, ((Option.some FieldType.int) : Option FieldType), 2, false) := ⟨by decide +kernel, by decide +kernel, tb_M_onLink, rfl, by decide +kernel⟩
theorem ok_M_folkOf : so_mok 1136 ((⟨"CrowdOutModel", "folkOf", "(III)I"⟩ : MethodName), prog_13_method_37_code, 4, ((Option.some FieldType.int) : Option FieldType), 3, false) := ⟨by decide +kernel, by decide +kernel, tb_M_folkOf, rfl, by decide +kernel⟩
theorem ok_M_kin : so_mok 1137 ((⟨"CrowdOutModel", "kin", "(I)I"⟩ : MethodName), prog_13_method_38_code, 4, ((Option.some FieldType.int) : Option FieldType), 1, false) := ⟨by decide +kernel, by decide +kernel, tb_M_kin, rfl, by decide +kernel⟩
theorem ok_M_feed : so_mok 1138 ((⟨"CrowdOutModel", "feed", "(IJ)I"⟩ : MethodName), prog_13_method_39_code, 5, ((Option.some FieldType.int) : Option FieldType), 2, false) := ⟨by decide +kernel, by decide +kernel, tb_M_feed, rfl, by decide +kernel⟩
theorem ok_M_isDigit : so_mok 1139 ((⟨"CrowdOutModel", "isDigit", "(I)Z"⟩ : MethodName), prog_13_method_40_code, 2, ((Option.some FieldType.boolean) : Option FieldType), 1, false) := ⟨by decide +kernel, by decide +kernel, tb_M_isDigit, rfl, by decide +kernel⟩
theorem ok_M_byteOf : so_mok 1140 ((⟨"CrowdOutModel", "byteOf", "(I)I"⟩ : MethodName), prog_13_method_41_code, 2, ((Option.some FieldType.int) : Option FieldType), 1, false) := ⟨by decide +kernel, by decide +kernel, tb_M_byteOf, rfl, by decide +kernel⟩
theorem ok_M_isOf : so_mok 1141 ((⟨"CrowdOutModel", "isOf", "(I)Z"⟩ : MethodName), prog_13_method_42_code, 2, ((Option.some FieldType.boolean) : Option FieldType), 1, false) := ⟨by decide +kernel, by decide +kernel, tb_M_isOf, rfl, by decide +kernel⟩
theorem ok_M_isAct : so_mok 1142 ((⟨"CrowdOutModel", "isAct", "(I)Z"⟩ : MethodName), prog_13_method_43_code, 2, ((Option.some FieldType.boolean) : Option FieldType), 1, false) := ⟨by decide +kernel, by decide +kernel, tb_M_isAct, rfl, by decide +kernel⟩
theorem ok_M_behind : so_mok 1143 ((⟨"CrowdOutModel", "behind", "(I)I"⟩ : MethodName), prog_13_method_44_code, 4, ((Option.some FieldType.int) : Option FieldType), 1, false) := ⟨by decide +kernel, by decide +kernel, tb_M_behind, rfl, by decide +kernel⟩
theorem ok_M_fault : so_mok 1144 ((⟨"CrowdOutModel", "fault", "()I"⟩ : MethodName), prog_13_method_45_code, 9, ((Option.some FieldType.int) : Option FieldType), 0, false) := ⟨by decide +kernel, by decide +kernel, tb_M_fault, rfl, by decide +kernel⟩
theorem ok_M_order : so_mok 1145 ((⟨"CrowdOutModel", "order", "(I)I"⟩ : MethodName), prog_13_method_46_code, 5, ((Option.some FieldType.int) : Option FieldType), 1, false) := ⟨by decide +kernel, by decide +kernel, tb_M_order, rfl, by decide +kernel⟩
theorem ok_M_stand : so_mok 1146 ((⟨"CrowdOutModel", "stand", "(IZ)I"⟩ : MethodName), prog_13_method_47_code, 3, ((Option.some FieldType.int) : Option FieldType), 2, false) := ⟨by decide +kernel, by decide +kernel, tb_M_stand, rfl, by decide +kernel⟩
theorem ok_M_twoDigits : so_mok 1147 ((⟨"CrowdOutModel", "twoDigits", "(I)I"⟩ : MethodName), prog_13_method_48_code, 3, ((Option.some FieldType.int) : Option FieldType), 1, false) := ⟨by decide +kernel, by decide +kernel, tb_M_twoDigits, rfl, by decide +kernel⟩
theorem ok_M_unit : so_mok 1148 ((⟨"CrowdOutModel", "unit", "(I)I"⟩ : MethodName), prog_13_method_49_code, 4, ((Option.some FieldType.int) : Option FieldType), 1, false) := ⟨by decide +kernel, by decide +kernel, tb_M_unit, rfl, by decide +kernel⟩
theorem ok_M_sum : so_mok 1149 ((⟨"CrowdOutModel", "sum", "(I)I"⟩ : MethodName), prog_13_method_50_code, 5, ((Option.some FieldType.int) : Option FieldType), 1, false) := ⟨by decide +kernel, by decide +kernel, tb_M_sum, rfl, by decide +kernel⟩
theorem ok_M_wordsHold : so_mok 1150 ((⟨"CrowdOutModel", "wordsHold", "(I)Z"⟩ : MethodName), prog_13_method_51_code, 7, ((Option.some FieldType.boolean) : Option FieldType), 1, false) := ⟨by decide +kernel, by decide +kernel, tb_M_wordsHold, rfl, by decide +kernel⟩
theorem ok_M_test : so_mok 1151 ((⟨"CrowdOutModel", "test", "(IZ)V"⟩ : MethodName), prog_13_method_52_code, 3, ((Option.none : Option FieldType) : Option FieldType), 2, false) := ⟨by decide +kernel, by decide +kernel, tb_M_test, rfl, by decide +kernel⟩
theorem ok_M_holds : so_mok 1152 ((⟨"CrowdOutModel", "holds", "(I)I"⟩ : MethodName), prog_13_method_53_code, 2, ((Option.some FieldType.int) : Option FieldType), 1, false) := ⟨by decide +kernel, by decide +kernel, tb_M_holds, rfl, by decide +kernel⟩
theorem ok_M_ask : so_mok 1153 ((⟨"CrowdOutModel", "ask", "()V"⟩ : MethodName), prog_13_method_54_code, 5, ((Option.none : Option FieldType) : Option FieldType), 0, false) := ⟨by decide +kernel, by decide +kernel, tb_M_ask, rfl, by decide +kernel⟩
theorem ok_M_give : so_mok 1154 ((⟨"CrowdOutModel", "give", "(I)V"⟩ : MethodName), prog_13_method_55_code, 6, ((Option.none : Option FieldType) : Option FieldType), 1, false) := ⟨by decide +kernel, by decide +kernel, tb_M_give, rfl, by decide +kernel⟩
theorem ok_M_given : so_mok 1155 ((⟨"CrowdOutModel", "given", "(II)I"⟩ : MethodName), prog_13_method_56_code, 3, ((Option.some FieldType.int) : Option FieldType), 2, false) := ⟨by decide +kernel, by decide +kernel, tb_M_given, rfl, by decide +kernel⟩
theorem ok_M_counted : so_mok 1156 ((⟨"CrowdOutModel", "counted", "(III)I"⟩ : MethodName), prog_13_method_57_code, 4, ((Option.some FieldType.int) : Option FieldType), 3, false) := ⟨by decide +kernel, by decide +kernel, tb_M_counted, rfl, by decide +kernel⟩
theorem ok_M_countOf : so_mok 1157 ((⟨"CrowdOutModel", "countOf", "(III)I"⟩ : MethodName), prog_13_method_58_code, 6, ((Option.some FieldType.int) : Option FieldType), 3, false) := ⟨by decide +kernel, by decide +kernel, tb_M_countOf, rfl, by decide +kernel⟩
theorem ok_M_count : so_mok 1158 ((⟨"CrowdOutModel", "count", "(III)I"⟩ : MethodName), prog_13_method_59_code, 4, ((Option.some FieldType.int) : Option FieldType), 3, false) := ⟨by decide +kernel, by decide +kernel, tb_M_count, rfl, by decide +kernel⟩
theorem ok_M_wrong : so_mok 1159 ((⟨"CrowdOutModel", "wrong", "(II)I"⟩ : MethodName), prog_13_method_60_code, 7, ((Option.some FieldType.int) : Option FieldType), 2, false) := ⟨by decide +kernel, by decide +kernel, tb_M_wrong, rfl, by decide +kernel⟩
theorem ok_M_copyGround : so_mok 1160 ((⟨"CrowdOutModel", "copyGround", "()V"⟩ : MethodName), prog_13_method_61_code, 2, ((Option.none : Option FieldType) : Option FieldType), 0, false) := ⟨by decide +kernel, by decide +kernel, tb_M_copyGround, rfl, by decide +kernel⟩
theorem ok_M_isOver : so_mok 1161 ((⟨"CrowdOutModel", "isOver", "()Z"⟩ : MethodName), prog_13_method_62_code, 3, ((Option.some FieldType.boolean) : Option FieldType), 0, false) := ⟨by decide +kernel, by decide +kernel, tb_M_isOver, rfl, by decide +kernel⟩
theorem ok_M_empty : so_mok 1162 ((⟨"CrowdOutModel", "empty", "(II)V"⟩ : MethodName), prog_13_method_63_code, 5, ((Option.none : Option FieldType) : Option FieldType), 2, false) := ⟨by decide +kernel, by decide +kernel, tb_M_empty, rfl, by decide +kernel⟩
theorem ok_M_out : so_mok 1163 ((⟨"CrowdOutModel", "out", "(II)I"⟩ : MethodName), prog_13_method_64_code, 3, ((Option.some FieldType.int) : Option FieldType), 2, false) := ⟨by decide +kernel, by decide +kernel, tb_M_out, rfl, by decide +kernel⟩
theorem ok_M_worst : so_mok 1164 ((⟨"CrowdOutModel", "worst", "(I)I"⟩ : MethodName), prog_13_method_65_code, 8, ((Option.some FieldType.int) : Option FieldType), 1, false) := ⟨by decide +kernel, by decide +kernel, tb_M_worst, rfl, by decide +kernel⟩
theorem ok_M_option : so_mok 1165 ((⟨"CrowdOutModel", "option", "(III)I"⟩ : MethodName), prog_13_method_66_code, 5, ((Option.some FieldType.int) : Option FieldType), 3, false) := ⟨by decide +kernel, by decide +kernel, tb_M_option, rfl, by decide +kernel⟩
theorem ok_M_sizeOf : so_mok 1166 ((⟨"CrowdOutModel", "sizeOf", "(I)I"⟩ : MethodName), prog_13_method_67_code, 4, ((Option.some FieldType.int) : Option FieldType), 1, false) := ⟨by decide +kernel, by decide +kernel, tb_M_sizeOf, rfl, by decide +kernel⟩
theorem ok_M_bears : so_mok 1167 ((⟨"CrowdOutModel", "bears", "(III)Z"⟩ : MethodName), prog_13_method_68_code, 5, ((Option.some FieldType.boolean) : Option FieldType), 3, false) := ⟨by decide +kernel, by decide +kernel, tb_M_bears, rfl, by decide +kernel⟩
theorem ok_M_design : so_mok 1168 ((⟨"CrowdOutModel", "design", "(III)I"⟩ : MethodName), prog_13_method_69_code, 6, ((Option.some FieldType.int) : Option FieldType), 3, false) := ⟨by decide +kernel, by decide +kernel, tb_M_design, rfl, by decide +kernel⟩
theorem ok_M_sumOf : so_mok 1169 ((⟨"CrowdOutModel", "sumOf", "(I)I"⟩ : MethodName), prog_13_method_70_code, 4, ((Option.some FieldType.int) : Option FieldType), 1, false) := ⟨by decide +kernel, by decide +kernel, tb_M_sumOf, rfl, by decide +kernel⟩
theorem ok_M_total : so_mok 1170 ((⟨"CrowdOutModel", "total", "(I)I"⟩ : MethodName), prog_13_method_71_code, 2, ((Option.some FieldType.int) : Option FieldType), 1, false) := ⟨by decide +kernel, by decide +kernel, tb_M_total, rfl, by decide +kernel⟩
end
section
/-! printed by wip/gen_ok.py: the same of CrowdOut, what is nested in it, the JDK -/
theorem ok_Area_init : so_mok 0 ((⟨"CrowdOut$Area", "<init>", "(II)V"⟩ : MethodName), prog_2_method_1_code, 3, ((Option.none : Option FieldType) : Option FieldType), 2, true) := ⟨by decide +kernel, by decide +kernel, tb_Area_init, rfl, by decide +kernel⟩
theorem ok_Area_copyFrom : so_mok 1 ((⟨"CrowdOut$Area", "copyFrom", "(LCrowdOut$Area;)V"⟩ : MethodName), prog_2_method_2_code, 2, ((Option.none : Option FieldType) : Option FieldType), 1, false) := ⟨by decide +kernel, by decide +kernel, tb_Area_copyFrom, rfl, by decide +kernel⟩
theorem ok_Area_press : so_mok 2 ((⟨"CrowdOut$Area", "press", "()I"⟩ : MethodName), prog_2_method_3_code, 1, ((Option.some FieldType.int) : Option FieldType), 0, false) := ⟨by decide +kernel, by decide +kernel, tb_Area_press, rfl, by decide +kernel⟩
theorem ok_Area_seeTight : so_mok 3 ((⟨"CrowdOut$Area", "seeTight", "(I)Z"⟩ : MethodName), prog_2_method_4_code, 4, ((Option.some FieldType.boolean) : Option FieldType), 1, false) := ⟨by decide +kernel, by decide +kernel, tb_Area_seeTight, rfl, by decide +kernel⟩
theorem ok_Area_roomLeft : so_mok 4 ((⟨"CrowdOut$Area", "roomLeft", "(I)I"⟩ : MethodName), prog_2_method_5_code, 2, ((Option.some FieldType.int) : Option FieldType), 1, false) := ⟨by decide +kernel, by decide +kernel, tb_Area_roomLeft, rfl, by decide +kernel⟩
theorem ok_Area_fall : so_mok 5 ((⟨"CrowdOut$Area", "fall", "(II)V"⟩ : MethodName), prog_2_method_6_code, 4, ((Option.none : Option FieldType) : Option FieldType), 2, false) := ⟨by decide +kernel, by decide +kernel, tb_Area_fall, rfl, by decide +kernel⟩
theorem ok_Folk_init : so_mok 100 ((⟨"CrowdOut$Folk", "<init>", "(IIII)V"⟩ : MethodName), prog_3_method_1_code, 5, ((Option.none : Option FieldType) : Option FieldType), 4, true) := ⟨by decide +kernel, by decide +kernel, tb_Folk_init, rfl, by decide +kernel⟩
theorem ok_Folk_copyFrom : so_mok 101 ((⟨"CrowdOut$Folk", "copyFrom", "(LCrowdOut$Folk;)V"⟩ : MethodName), prog_3_method_2_code, 2, ((Option.none : Option FieldType) : Option FieldType), 1, false) := ⟨by decide +kernel, by decide +kernel, tb_Folk_copyFrom, rfl, by decide +kernel⟩
theorem ok_Folk_target : so_mok 102 ((⟨"CrowdOut$Folk", "target", "()I"⟩ : MethodName), prog_3_method_3_code, 1, ((Option.some FieldType.int) : Option FieldType), 0, false) := ⟨by decide +kernel, by decide +kernel, tb_Folk_target, rfl, by decide +kernel⟩
theorem ok_Folk_isWhereItShould : so_mok 103 ((⟨"CrowdOut$Folk", "isWhereItShould", "()Z"⟩ : MethodName), prog_3_method_4_code, 1, ((Option.some FieldType.boolean) : Option FieldType), 0, false) := ⟨by decide +kernel, by decide +kernel, tb_Folk_isWhereItShould, rfl, by decide +kernel⟩
theorem ok_Given_init : so_mok 200 ((⟨"CrowdOut$Given", "<init>", "()V"⟩ : MethodName), prog_4_method_1_code, 1, ((Option.none : Option FieldType) : Option FieldType), 0, true) := ⟨by decide +kernel, by decide +kernel, tb_Given_init, rfl, by decide +kernel⟩
theorem ok_Given_copyFrom : so_mok 201 ((⟨"CrowdOut$Given", "copyFrom", "(LCrowdOut$Given;)V"⟩ : MethodName), prog_4_method_2_code, 2, ((Option.none : Option FieldType) : Option FieldType), 1, false) := ⟨by decide +kernel, by decide +kernel, tb_Given_copyFrom, rfl, by decide +kernel⟩
theorem ok_Given_passOverHeard : so_mok 202 ((⟨"CrowdOut$Given", "passOverHeard", "(I)V"⟩ : MethodName), prog_4_method_3_code, 3, ((Option.none : Option FieldType) : Option FieldType), 1, false) := ⟨by decide +kernel, by decide +kernel, tb_Given_passOverHeard, rfl, by decide +kernel⟩
theorem ok_Link_init : so_mok 300 ((⟨"CrowdOut$Link", "<init>", "(III)V"⟩ : MethodName), prog_5_method_1_code, 4, ((Option.none : Option FieldType) : Option FieldType), 3, true) := ⟨by decide +kernel, by decide +kernel, tb_Link_init, rfl, by decide +kernel⟩
theorem ok_Link_copyFrom : so_mok 301 ((⟨"CrowdOut$Link", "copyFrom", "(LCrowdOut$Link;)V"⟩ : MethodName), prog_5_method_2_code, 2, ((Option.none : Option FieldType) : Option FieldType), 1, false) := ⟨by decide +kernel, by decide +kernel, tb_Link_copyFrom, rfl, by decide +kernel⟩
theorem ok_Link_rowOf : so_mok 302 ((⟨"CrowdOut$Link", "rowOf", "(II)I"⟩ : MethodName), prog_5_method_3_code, 3, ((Option.some FieldType.int) : Option FieldType), 2, false) := ⟨by decide +kernel, by decide +kernel, tb_Link_rowOf, rfl, by decide +kernel⟩
theorem ok_Link_note : so_mok 303 ((⟨"CrowdOut$Link", "note", "(I)V"⟩ : MethodName), prog_5_method_4_code, 2, ((Option.none : Option FieldType) : Option FieldType), 1, false) := ⟨by decide +kernel, by decide +kernel, tb_Link_note, rfl, by decide +kernel⟩
theorem ok_Link_wentOn : so_mok 304 ((⟨"CrowdOut$Link", "wentOn", "(I)I"⟩ : MethodName), prog_5_method_5_code, 2, ((Option.some FieldType.int) : Option FieldType), 1, false) := ⟨by decide +kernel, by decide +kernel, tb_Link_wentOn, rfl, by decide +kernel⟩
theorem ok_Link_headsOf : so_mok 305 ((⟨"CrowdOut$Link", "headsOf", "(I)I"⟩ : MethodName), prog_5_method_6_code, 4, ((Option.some FieldType.int) : Option FieldType), 1, false) := ⟨by decide +kernel, by decide +kernel, tb_Link_headsOf, rfl, by decide +kernel⟩
theorem ok_Order_init : so_mok 400 ((⟨"CrowdOut$Order", "<init>", "([I[IZ)V"⟩ : MethodName), prog_6_method_1_code, 4, ((Option.none : Option FieldType) : Option FieldType), 3, true) := ⟨by decide +kernel, by decide +kernel, tb_Order_init, rfl, by decide +kernel⟩
theorem ok_Reader_init : so_mok 500 ((⟨"CrowdOut$Reader", "<init>", "()V"⟩ : MethodName), prog_7_method_1_code, 1, ((Option.none : Option FieldType) : Option FieldType), 0, true) := ⟨by decide +kernel, by decide +kernel, tb_Reader_init, rfl, by decide +kernel⟩
theorem ok_Reader_keep : so_mok 501 ((⟨"CrowdOut$Reader", "keep", "(I)V"⟩ : MethodName), prog_7_method_2_code, 2, ((Option.none : Option FieldType) : Option FieldType), 1, false) := ⟨by decide +kernel, by decide +kernel, tb_Reader_keep, rfl, by decide +kernel⟩
theorem ok_Reader_begin : so_mok 502 ((⟨"CrowdOut$Reader", "begin", "()V"⟩ : MethodName), prog_7_method_3_code, 1, ((Option.none : Option FieldType) : Option FieldType), 0, false) := ⟨by decide +kernel, by decide +kernel, tb_Reader_begin, rfl, by decide +kernel⟩
theorem ok_Reader_writtenTests : so_mok 503 ((⟨"CrowdOut$Reader", "writtenTests", "()[I"⟩ : MethodName), prog_7_method_4_code, 1, ((Option.some (FieldType.array FieldType.int)) : Option FieldType), 0, false) := ⟨by decide +kernel, by decide +kernel, tb_Reader_writtenTests, rfl, by decide +kernel⟩
theorem ok_Reader_writtenActs : so_mok 504 ((⟨"CrowdOut$Reader", "writtenActs", "()[I"⟩ : MethodName), prog_7_method_5_code, 1, ((Option.some (FieldType.array FieldType.int)) : Option FieldType), 0, false) := ⟨by decide +kernel, by decide +kernel, tb_Reader_writtenActs, rfl, by decide +kernel⟩
theorem ok_Reader_readOrs : so_mok 505 ((⟨"CrowdOut$Reader", "readOrs", "(I)V"⟩ : MethodName), prog_7_method_6_code, 3, ((Option.none : Option FieldType) : Option FieldType), 1, false) := ⟨by decide +kernel, by decide +kernel, tb_Reader_readOrs, rfl, by decide +kernel⟩
theorem ok_Reader_readActs : so_mok 506 ((⟨"CrowdOut$Reader", "readActs", "()V"⟩ : MethodName), prog_7_method_7_code, 2, ((Option.none : Option FieldType) : Option FieldType), 0, false) := ⟨by decide +kernel, by decide +kernel, tb_Reader_readActs, rfl, by decide +kernel⟩
theorem ok_Reader_readAnds : so_mok 507 ((⟨"CrowdOut$Reader", "readAnds", "(I)V"⟩ : MethodName), prog_7_method_8_code, 3, ((Option.none : Option FieldType) : Option FieldType), 1, false) := ⟨by decide +kernel, by decide +kernel, tb_Reader_readAnds, rfl, by decide +kernel⟩
theorem ok_Reader_readTest : so_mok 508 ((⟨"CrowdOut$Reader", "readTest", "(I)V"⟩ : MethodName), prog_7_method_9_code, 5, ((Option.none : Option FieldType) : Option FieldType), 1, false) := ⟨by decide +kernel, by decide +kernel, tb_Reader_readTest, rfl, by decide +kernel⟩
theorem ok_Reader_readSum : so_mok 509 ((⟨"CrowdOut$Reader", "readSum", "()V"⟩ : MethodName), prog_7_method_10_code, 3, ((Option.none : Option FieldType) : Option FieldType), 0, false) := ⟨by decide +kernel, by decide +kernel, tb_Reader_readSum, rfl, by decide +kernel⟩
theorem ok_Reader_readUnit : so_mok 510 ((⟨"CrowdOut$Reader", "readUnit", "()V"⟩ : MethodName), prog_7_method_11_code, 2, ((Option.none : Option FieldType) : Option FieldType), 0, false) := ⟨by decide +kernel, by decide +kernel, tb_Reader_readUnit, rfl, by decide +kernel⟩
theorem ok_Reader_unitOf : so_mok 511 ((⟨"CrowdOut$Reader", "unitOf", "(I)I"⟩ : MethodName), prog_7_method_12_code, 1, ((Option.some FieldType.int) : Option FieldType), 1, false) := ⟨by decide +kernel, by decide +kernel, tb_Reader_unitOf, rfl, by decide +kernel⟩
theorem ok_Reader_readAct : so_mok 512 ((⟨"CrowdOut$Reader", "readAct", "()V"⟩ : MethodName), prog_7_method_13_code, 3, ((Option.none : Option FieldType) : Option FieldType), 0, false) := ⟨by decide +kernel, by decide +kernel, tb_Reader_readAct, rfl, by decide +kernel⟩
theorem ok_Reader_readDigits : so_mok 513 ((⟨"CrowdOut$Reader", "readDigits", "(II)I"⟩ : MethodName), prog_7_method_14_code, 6, ((Option.some FieldType.int) : Option FieldType), 2, false) := ⟨by decide +kernel, by decide +kernel, tb_Reader_readDigits, rfl, by decide +kernel⟩
theorem ok_Reader_step : so_mok 514 ((⟨"CrowdOut$Reader", "step", "()V"⟩ : MethodName), prog_7_method_15_code, 1, ((Option.none : Option FieldType) : Option FieldType), 0, false) := ⟨by decide +kernel, by decide +kernel, tb_Reader_step, rfl, by decide +kernel⟩
theorem ok_Reader_stepOver : so_mok 515 ((⟨"CrowdOut$Reader", "stepOver", "(I)V"⟩ : MethodName), prog_7_method_16_code, 2, ((Option.none : Option FieldType) : Option FieldType), 1, false) := ⟨by decide +kernel, by decide +kernel, tb_Reader_stepOver, rfl, by decide +kernel⟩
theorem ok_Reader_fail : so_mok 516 ((⟨"CrowdOut$Reader", "fail", "()V"⟩ : MethodName), prog_7_method_17_code, 1, ((Option.none : Option FieldType) : Option FieldType), 0, false) := ⟨by decide +kernel, by decide +kernel, tb_Reader_fail, rfl, by decide +kernel⟩
theorem ok_Reader_put : so_mok 517 ((⟨"CrowdOut$Reader", "put", "(II)V"⟩ : MethodName), prog_7_method_18_code, 3, ((Option.none : Option FieldType) : Option FieldType), 2, false) := ⟨by decide +kernel, by decide +kernel, tb_Reader_put, rfl, by decide +kernel⟩
theorem ok_Tellings_init : so_mok 600 ((⟨"CrowdOut$Tellings", "<init>", "()V"⟩ : MethodName), prog_8_method_1_code, 1, ((Option.none : Option FieldType) : Option FieldType), 0, true) := ⟨by decide +kernel, by decide +kernel, tb_Tellings_init, rfl, by decide +kernel⟩
theorem ok_Tellings_add : so_mok 601 ((⟨"CrowdOut$Tellings", "add", "(IIII)V"⟩ : MethodName), prog_8_method_2_code, 5, ((Option.none : Option FieldType) : Option FieldType), 4, false) := ⟨by decide +kernel, by decide +kernel, tb_Tellings_add, rfl, by decide +kernel⟩
theorem ok_Tellings_latest : so_mok 602 ((⟨"CrowdOut$Tellings", "latest", "(III)I"⟩ : MethodName), prog_8_method_3_code, 5, ((Option.some FieldType.int) : Option FieldType), 3, false) := ⟨by decide +kernel, by decide +kernel, tb_Tellings_latest, rfl, by decide +kernel⟩
theorem ok_Tellings_off : so_mok 603 ((⟨"CrowdOut$Tellings", "off", "(IILCrowdOut$Link;)I"⟩ : MethodName), prog_8_method_4_code, 6, ((Option.some FieldType.int) : Option FieldType), 3, false) := ⟨by decide +kernel, by decide +kernel, tb_Tellings_off, rfl, by decide +kernel⟩
theorem ok_Train_init : so_mok 700 ((⟨"CrowdOut$Train", "<init>", "(IIII)V"⟩ : MethodName), prog_9_method_1_code, 5, ((Option.none : Option FieldType) : Option FieldType), 4, true) := ⟨by decide +kernel, by decide +kernel, tb_Train_init, rfl, by decide +kernel⟩
theorem ok_Train_comesOn : so_mok 701 ((⟨"CrowdOut$Train", "comesOn", "(I)Z"⟩ : MethodName), prog_9_method_2_code, 2, ((Option.some FieldType.boolean) : Option FieldType), 1, false) := ⟨by decide +kernel, by decide +kernel, tb_Train_comesOn, rfl, by decide +kernel⟩
theorem ok_Ways_init : so_mok 800 ((⟨"CrowdOut$Ways", "<init>", "()V"⟩ : MethodName), prog_10_method_1_code, 1, ((Option.none : Option FieldType) : Option FieldType), 0, true) := ⟨by decide +kernel, by decide +kernel, tb_Ways_init, rfl, by decide +kernel⟩
theorem ok_Ways_forget : so_mok 801 ((⟨"CrowdOut$Ways", "forget", "()V"⟩ : MethodName), prog_10_method_2_code, 1, ((Option.none : Option FieldType) : Option FieldType), 0, false) := ⟨by decide +kernel, by decide +kernel, tb_Ways_forget, rfl, by decide +kernel⟩
theorem ok_Ways_rowTo : so_mok 802 ((⟨"CrowdOut$Ways", "rowTo", "(LCrowdOut$World;IZ)I"⟩ : MethodName), prog_10_method_3_code, 8, ((Option.some FieldType.int) : Option FieldType), 3, false) := ⟨by decide +kernel, by decide +kernel, tb_Ways_rowTo, rfl, by decide +kernel⟩
theorem ok_Ways_shorten : so_mok 803 ((⟨"CrowdOut$Ways", "shorten", "(LCrowdOut$World;IZ)Z"⟩ : MethodName), prog_10_method_4_code, 12, ((Option.some FieldType.boolean) : Option FieldType), 3, false) := ⟨by decide +kernel, by decide +kernel, tb_Ways_shorten, rfl, by decide +kernel⟩
theorem ok_World_init : so_mok 900 ((⟨"CrowdOut$World", "<init>", "()V"⟩ : MethodName), prog_11_method_1_code, 1, ((Option.none : Option FieldType) : Option FieldType), 0, true) := ⟨by decide +kernel, by decide +kernel, tb_World_init, rfl, by decide +kernel⟩
theorem ok_World_isArea : so_mok 901 ((⟨"CrowdOut$World", "isArea", "(I)Z"⟩ : MethodName), prog_11_method_2_code, 2, ((Option.some FieldType.boolean) : Option FieldType), 1, false) := ⟨by decide +kernel, by decide +kernel, tb_World_isArea, rfl, by decide +kernel⟩
theorem ok_World_isGoal : so_mok 902 ((⟨"CrowdOut$World", "isGoal", "(I)Z"⟩ : MethodName), prog_11_method_3_code, 2, ((Option.some FieldType.boolean) : Option FieldType), 1, false) := ⟨by decide +kernel, by decide +kernel, tb_World_isGoal, rfl, by decide +kernel⟩
theorem ok_World_isLink : so_mok 903 ((⟨"CrowdOut$World", "isLink", "(I)Z"⟩ : MethodName), prog_11_method_4_code, 2, ((Option.some FieldType.boolean) : Option FieldType), 1, false) := ⟨by decide +kernel, by decide +kernel, tb_World_isLink, rfl, by decide +kernel⟩
theorem ok_World_isFolk : so_mok 904 ((⟨"CrowdOut$World", "isFolk", "(I)Z"⟩ : MethodName), prog_11_method_5_code, 2, ((Option.some FieldType.boolean) : Option FieldType), 1, false) := ⟨by decide +kernel, by decide +kernel, tb_World_isFolk, rfl, by decide +kernel⟩
theorem ok_World_isTrain : so_mok 905 ((⟨"CrowdOut$World", "isTrain", "(I)Z"⟩ : MethodName), prog_11_method_6_code, 2, ((Option.some FieldType.boolean) : Option FieldType), 1, false) := ⟨by decide +kernel, by decide +kernel, tb_World_isTrain, rfl, by decide +kernel⟩
theorem ok_World_isOrder : so_mok 906 ((⟨"CrowdOut$World", "isOrder", "(I)Z"⟩ : MethodName), prog_11_method_7_code, 2, ((Option.some FieldType.boolean) : Option FieldType), 1, false) := ⟨by decide +kernel, by decide +kernel, tb_World_isOrder, rfl, by decide +kernel⟩
theorem ok_World_copyFrom : so_mok 907 ((⟨"CrowdOut$World", "copyFrom", "(LCrowdOut$World;)V"⟩ : MethodName), prog_11_method_8_code, 4, ((Option.none : Option FieldType) : Option FieldType), 1, false) := ⟨by decide +kernel, by decide +kernel, tb_World_copyFrom, rfl, by decide +kernel⟩
theorem ok_World_copyGround : so_mok 908 ((⟨"CrowdOut$World", "copyGround", "(LCrowdOut$World;)V"⟩ : MethodName), prog_11_method_9_code, 4, ((Option.none : Option FieldType) : Option FieldType), 1, false) := ⟨by decide +kernel, by decide +kernel, tb_World_copyGround, rfl, by decide +kernel⟩
theorem ok_World_change : so_mok 909 ((⟨"CrowdOut$World", "change", "(III)V"⟩ : MethodName), prog_11_method_10_code, 4, ((Option.none : Option FieldType) : Option FieldType), 3, false) := ⟨by decide +kernel, by decide +kernel, tb_World_change, rfl, by decide +kernel⟩
theorem ok_World_shift : so_mok 910 ((⟨"CrowdOut$World", "shift", "(II)V"⟩ : MethodName), prog_11_method_11_code, 3, ((Option.none : Option FieldType) : Option FieldType), 2, false) := ⟨by decide +kernel, by decide +kernel, tb_World_shift, rfl, by decide +kernel⟩
theorem ok_World_seeAllTight : so_mok 911 ((⟨"CrowdOut$World", "seeAllTight", "()V"⟩ : MethodName), prog_11_method_12_code, 2, ((Option.none : Option FieldType) : Option FieldType), 0, false) := ⟨by decide +kernel, by decide +kernel, tb_World_seeAllTight, rfl, by decide +kernel⟩
theorem ok_World_allInside : so_mok 912 ((⟨"CrowdOut$World", "allInside", "()I"⟩ : MethodName), prog_11_method_13_code, 3, ((Option.some FieldType.int) : Option FieldType), 0, false) := ⟨by decide +kernel, by decide +kernel, tb_World_allInside, rfl, by decide +kernel⟩
theorem ok_World_allOnWay : so_mok 913 ((⟨"CrowdOut$World", "allOnWay", "()I"⟩ : MethodName), prog_11_method_14_code, 3, ((Option.some FieldType.int) : Option FieldType), 0, false) := ⟨by decide +kernel, by decide +kernel, tb_World_allOnWay, rfl, by decide +kernel⟩
theorem ok_World_allOut : so_mok 914 ((⟨"CrowdOut$World", "allOut", "()I"⟩ : MethodName), prog_11_method_15_code, 3, ((Option.some FieldType.int) : Option FieldType), 0, false) := ⟨by decide +kernel, by decide +kernel, tb_World_allOut, rfl, by decide +kernel⟩
theorem ok_World_allFell : so_mok 915 ((⟨"CrowdOut$World", "allFell", "()I"⟩ : MethodName), prog_11_method_16_code, 3, ((Option.some FieldType.int) : Option FieldType), 0, false) := ⟨by decide +kernel, by decide +kernel, tb_World_allFell, rfl, by decide +kernel⟩
theorem ok_World_allTaken : so_mok 916 ((⟨"CrowdOut$World", "allTaken", "()I"⟩ : MethodName), prog_11_method_17_code, 3, ((Option.some FieldType.int) : Option FieldType), 0, false) := ⟨by decide +kernel, by decide +kernel, tb_World_allTaken, rfl, by decide +kernel⟩
theorem ok_World_ordersThatStand : so_mok 917 ((⟨"CrowdOut$World", "ordersThatStand", "()I"⟩ : MethodName), prog_11_method_18_code, 3, ((Option.some FieldType.int) : Option FieldType), 0, false) := ⟨by decide +kernel, by decide +kernel, tb_World_ordersThatStand, rfl, by decide +kernel⟩
theorem ok_World_empty : so_mok 918 ((⟨"CrowdOut$World", "empty", "(II)I"⟩ : MethodName), prog_11_method_19_code, 5, ((Option.some FieldType.int) : Option FieldType), 2, false) := ⟨by decide +kernel, by decide +kernel, tb_World_empty, rfl, by decide +kernel⟩
theorem ok_World_isOver : so_mok 919 ((⟨"CrowdOut$World", "isOver", "()Z"⟩ : MethodName), prog_11_method_20_code, 2, ((Option.some FieldType.boolean) : Option FieldType), 0, false) := ⟨by decide +kernel, by decide +kernel, tb_World_isOver, rfl, by decide +kernel⟩
theorem ok_World_isStuck : so_mok 920 ((⟨"CrowdOut$World", "isStuck", "()Z"⟩ : MethodName), prog_11_method_21_code, 1, ((Option.some FieldType.boolean) : Option FieldType), 0, false) := ⟨by decide +kernel, by decide +kernel, tb_World_isStuck, rfl, by decide +kernel⟩
theorem ok_World_pass : so_mok 921 ((⟨"CrowdOut$World", "pass", "()V"⟩ : MethodName), prog_11_method_22_code, 1, ((Option.none : Option FieldType) : Option FieldType), 0, false) := ⟨by decide +kernel, by decide +kernel, tb_World_pass, rfl, by decide +kernel⟩
theorem ok_World_hear : so_mok 922 ((⟨"CrowdOut$World", "hear", "()V"⟩ : MethodName), prog_11_method_23_code, 2, ((Option.none : Option FieldType) : Option FieldType), 0, false) := ⟨by decide +kernel, by decide +kernel, tb_World_hear, rfl, by decide +kernel⟩
theorem ok_World_perform : so_mok 923 ((⟨"CrowdOut$World", "perform", "(II)V"⟩ : MethodName), prog_11_method_24_code, 3, ((Option.none : Option FieldType) : Option FieldType), 2, false) := ⟨by decide +kernel, by decide +kernel, tb_World_perform, rfl, by decide +kernel⟩
theorem ok_World_comeIn : so_mok 924 ((⟨"CrowdOut$World", "comeIn", "()V"⟩ : MethodName), prog_11_method_25_code, 5, ((Option.none : Option FieldType) : Option FieldType), 0, false) := ⟨by decide +kernel, by decide +kernel, tb_World_comeIn, rfl, by decide +kernel⟩
theorem ok_World_arrive : so_mok 925 ((⟨"CrowdOut$World", "arrive", "(LCrowdOut$Link;II)V"⟩ : MethodName), prog_11_method_26_code, 7, ((Option.none : Option FieldType) : Option FieldType), 3, false) := ⟨by decide +kernel, by decide +kernel, tb_World_arrive, rfl, by decide +kernel⟩
theorem ok_World_goOn : so_mok 926 ((⟨"CrowdOut$World", "goOn", "()V"⟩ : MethodName), prog_11_method_27_code, 6, ((Option.none : Option FieldType) : Option FieldType), 0, false) := ⟨by decide +kernel, by decide +kernel, tb_World_goOn, rfl, by decide +kernel⟩
theorem ok_World_leave : so_mok 927 ((⟨"CrowdOut$World", "leave", "(III)V"⟩ : MethodName), prog_11_method_28_code, 11, ((Option.none : Option FieldType) : Option FieldType), 3, false) := ⟨by decide +kernel, by decide +kernel, tb_World_leave, rfl, by decide +kernel⟩
theorem ok_World_fitting : so_mok 928 ((⟨"CrowdOut$World", "fitting", "(IILCrowdOut$Link;I)I"⟩ : MethodName), prog_11_method_29_code, 6, ((Option.some FieldType.int) : Option FieldType), 4, false) := ⟨by decide +kernel, by decide +kernel, tb_World_fitting, rfl, by decide +kernel⟩
theorem ok_World_pressOn : so_mok 929 ((⟨"CrowdOut$World", "pressOn", "()V"⟩ : MethodName), prog_11_method_30_code, 3, ((Option.none : Option FieldType) : Option FieldType), 0, false) := ⟨by decide +kernel, by decide +kernel, tb_World_pressOn, rfl, by decide +kernel⟩
theorem ok_World_board : so_mok 930 ((⟨"CrowdOut$World", "board", "()V"⟩ : MethodName), prog_11_method_31_code, 4, ((Option.none : Option FieldType) : Option FieldType), 0, false) := ⟨by decide +kernel, by decide +kernel, tb_World_board, rfl, by decide +kernel⟩
theorem ok_World_ask : so_mok 931 ((⟨"CrowdOut$World", "ask", "()V"⟩ : MethodName), prog_11_method_32_code, 3, ((Option.none : Option FieldType) : Option FieldType), 0, false) := ⟨by decide +kernel, by decide +kernel, tb_World_ask, rfl, by decide +kernel⟩
theorem ok_World_give : so_mok 932 ((⟨"CrowdOut$World", "give", "(I)V"⟩ : MethodName), prog_11_method_33_code, 6, ((Option.none : Option FieldType) : Option FieldType), 1, false) := ⟨by decide +kernel, by decide +kernel, tb_World_give, rfl, by decide +kernel⟩
theorem ok_World_isTrue : so_mok 933 ((⟨"CrowdOut$World", "isTrue", "(LCrowdOut$Order;)Z"⟩ : MethodName), prog_11_method_34_code, 5, ((Option.some FieldType.boolean) : Option FieldType), 1, false) := ⟨by decide +kernel, by decide +kernel, tb_World_isTrue, rfl, by decide +kernel⟩
theorem ok_World_worth : so_mok 934 ((⟨"CrowdOut$World", "worth", "(II)I"⟩ : MethodName), prog_11_method_35_code, 3, ((Option.some FieldType.int) : Option FieldType), 2, false) := ⟨by decide +kernel, by decide +kernel, tb_World_worth, rfl, by decide +kernel⟩
theorem ok_World_joined : so_mok 935 ((⟨"CrowdOut$World", "joined", "(III)I"⟩ : MethodName), prog_11_method_36_code, 3, ((Option.some FieldType.int) : Option FieldType), 3, false) := ⟨by decide +kernel, by decide +kernel, tb_World_joined, rfl, by decide +kernel⟩
theorem ok_C_init : so_mok 1000 ((⟨"CrowdOut", "<init>", "()V"⟩ : MethodName), prog_1_method_1_code, 1, ((Option.none : Option FieldType) : Option FieldType), 0, true) := ⟨by decide +kernel, by decide +kernel, tb_C_init, rfl, by decide +kernel⟩
theorem ok_C_area : so_mok 1001 ((⟨"CrowdOut", "area", "(II)I"⟩ : MethodName), prog_1_method_2_code, 3, ((Option.some FieldType.int) : Option FieldType), 2, false) := ⟨by decide +kernel, by decide +kernel, tb_C_area, rfl, by decide +kernel⟩
theorem ok_C_link : so_mok 1002 ((⟨"CrowdOut", "link", "(IIII)I"⟩ : MethodName), prog_1_method_3_code, 6, ((Option.some FieldType.int) : Option FieldType), 4, false) := ⟨by decide +kernel, by decide +kernel, tb_C_link, rfl, by decide +kernel⟩
theorem ok_C_linkSet : so_mok 1003 ((⟨"CrowdOut", "linkSet", "(III)I"⟩ : MethodName), prog_1_method_4_code, 6, ((Option.some FieldType.int) : Option FieldType), 3, false) := ⟨by decide +kernel, by decide +kernel, tb_C_linkSet, rfl, by decide +kernel⟩
theorem ok_C_folk : so_mok 1004 ((⟨"CrowdOut", "folk", "(IIII)I"⟩ : MethodName), prog_1_method_5_code, 7, ((Option.some FieldType.int) : Option FieldType), 4, false) := ⟨by decide +kernel, by decide +kernel, tb_C_folk, rfl, by decide +kernel⟩
theorem ok_C_train : so_mok 1005 ((⟨"CrowdOut", "train", "(IIII)I"⟩ : MethodName), prog_1_method_6_code, 5, ((Option.some FieldType.int) : Option FieldType), 4, false) := ⟨by decide +kernel, by decide +kernel, tb_C_train, rfl, by decide +kernel⟩
theorem ok_C_hold : so_mok 1006 ((⟨"CrowdOut", "hold", "(IZ)I"⟩ : MethodName), prog_1_method_7_code, 4, ((Option.some FieldType.int) : Option FieldType), 2, false) := ⟨by decide +kernel, by decide +kernel, tb_C_hold, rfl, by decide +kernel⟩
theorem ok_C_set : so_mok 1007 ((⟨"CrowdOut", "set", "(II)I"⟩ : MethodName), prog_1_method_8_code, 4, ((Option.some FieldType.int) : Option FieldType), 2, false) := ⟨by decide +kernel, by decide +kernel, tb_C_set, rfl, by decide +kernel⟩
theorem ok_C_ticks : so_mok 1008 ((⟨"CrowdOut", "ticks", "(I)I"⟩ : MethodName), prog_1_method_9_code, 5, ((Option.some FieldType.int) : Option FieldType), 1, false) := ⟨by decide +kernel, by decide +kernel, tb_C_ticks, rfl, by decide +kernel⟩
theorem ok_C_areaOf : so_mok 1009 ((⟨"CrowdOut", "areaOf", "(II)I"⟩ : MethodName), prog_1_method_10_code, 4, ((Option.some FieldType.int) : Option FieldType), 2, false) := ⟨by decide +kernel, by decide +kernel, tb_C_areaOf, rfl, by decide +kernel⟩
theorem ok_C_folkOf : so_mok 1010 ((⟨"CrowdOut", "folkOf", "(III)I"⟩ : MethodName), prog_1_method_11_code, 5, ((Option.some FieldType.int) : Option FieldType), 3, false) := ⟨by decide +kernel, by decide +kernel, tb_C_folkOf, rfl, by decide +kernel⟩
theorem ok_C_next : so_mok 1011 ((⟨"CrowdOut", "next", "(IIZ)I"⟩ : MethodName), prog_1_method_12_code, 4, ((Option.some FieldType.int) : Option FieldType), 3, false) := ⟨by decide +kernel, by decide +kernel, tb_C_next, rfl, by decide +kernel⟩
theorem ok_C_walk : so_mok 1012 ((⟨"CrowdOut", "walk", "(IIZ)I"⟩ : MethodName), prog_1_method_13_code, 4, ((Option.some FieldType.int) : Option FieldType), 3, false) := ⟨by decide +kernel, by decide +kernel, tb_C_walk, rfl, by decide +kernel⟩
theorem ok_C_feed : so_mok 1013 ((⟨"CrowdOut", "feed", "(IJ)I"⟩ : MethodName), prog_1_method_14_code, 5, ((Option.some FieldType.int) : Option FieldType), 2, false) := ⟨by decide +kernel, by decide +kernel, tb_C_feed, rfl, by decide +kernel⟩
theorem ok_C_order : so_mok 1014 ((⟨"CrowdOut", "order", "(I)I"⟩ : MethodName), prog_1_method_15_code, 3, ((Option.some FieldType.int) : Option FieldType), 1, false) := ⟨by decide +kernel, by decide +kernel, tb_C_order, rfl, by decide +kernel⟩
theorem ok_C_stand : so_mok 1015 ((⟨"CrowdOut", "stand", "(IZ)I"⟩ : MethodName), prog_1_method_16_code, 4, ((Option.some FieldType.int) : Option FieldType), 2, false) := ⟨by decide +kernel, by decide +kernel, tb_C_stand, rfl, by decide +kernel⟩
theorem ok_C_holds : so_mok 1016 ((⟨"CrowdOut", "holds", "(I)I"⟩ : MethodName), prog_1_method_17_code, 2, ((Option.some FieldType.int) : Option FieldType), 1, false) := ⟨by decide +kernel, by decide +kernel, tb_C_holds, rfl, by decide +kernel⟩
theorem ok_C_given : so_mok 1017 ((⟨"CrowdOut", "given", "(II)I"⟩ : MethodName), prog_1_method_18_code, 4, ((Option.some FieldType.int) : Option FieldType), 2, false) := ⟨by decide +kernel, by decide +kernel, tb_C_given, rfl, by decide +kernel⟩
theorem ok_C_counted : so_mok 1018 ((⟨"CrowdOut", "counted", "(III)I"⟩ : MethodName), prog_1_method_19_code, 4, ((Option.some FieldType.int) : Option FieldType), 3, false) := ⟨by decide +kernel, by decide +kernel, tb_C_counted, rfl, by decide +kernel⟩
theorem ok_C_count : so_mok 1019 ((⟨"CrowdOut", "count", "(III)I"⟩ : MethodName), prog_1_method_20_code, 5, ((Option.some FieldType.int) : Option FieldType), 3, false) := ⟨by decide +kernel, by decide +kernel, tb_C_count, rfl, by decide +kernel⟩
theorem ok_C_wrong : so_mok 1020 ((⟨"CrowdOut", "wrong", "(II)I"⟩ : MethodName), prog_1_method_21_code, 3, ((Option.some FieldType.int) : Option FieldType), 2, false) := ⟨by decide +kernel, by decide +kernel, tb_C_wrong, rfl, by decide +kernel⟩
theorem ok_C_out : so_mok 1021 ((⟨"CrowdOut", "out", "(II)I"⟩ : MethodName), prog_1_method_22_code, 3, ((Option.some FieldType.int) : Option FieldType), 2, false) := ⟨by decide +kernel, by decide +kernel, tb_C_out, rfl, by decide +kernel⟩
theorem ok_C_worst : so_mok 1022 ((⟨"CrowdOut", "worst", "(I)I"⟩ : MethodName), prog_1_method_23_code, 9, ((Option.some FieldType.int) : Option FieldType), 1, false) := ⟨by decide +kernel, by decide +kernel, tb_C_worst, rfl, by decide +kernel⟩
theorem ok_C_option : so_mok 1023 ((⟨"CrowdOut", "option", "(III)I"⟩ : MethodName), prog_1_method_24_code, 5, ((Option.some FieldType.int) : Option FieldType), 3, false) := ⟨by decide +kernel, by decide +kernel, tb_C_option, rfl, by decide +kernel⟩
theorem ok_C_design : so_mok 1024 ((⟨"CrowdOut", "design", "(III)I"⟩ : MethodName), prog_1_method_25_code, 5, ((Option.some FieldType.int) : Option FieldType), 3, false) := ⟨by decide +kernel, by decide +kernel, tb_C_design, rfl, by decide +kernel⟩
theorem ok_C_kin : so_mok 1025 ((⟨"CrowdOut", "kin", "(I)I"⟩ : MethodName), prog_1_method_26_code, 4, ((Option.some FieldType.int) : Option FieldType), 1, false) := ⟨by decide +kernel, by decide +kernel, tb_C_kin, rfl, by decide +kernel⟩
theorem ok_C_total : so_mok 1026 ((⟨"CrowdOut", "total", "(I)I"⟩ : MethodName), prog_1_method_27_code, 2, ((Option.some FieldType.int) : Option FieldType), 1, false) := ⟨by decide +kernel, by decide +kernel, tb_C_total, rfl, by decide +kernel⟩
theorem ok_C_refuse : so_mok 1027 ((⟨"CrowdOut", "refuse", "(I)I"⟩ : MethodName), prog_1_method_28_code, 3, ((Option.some FieldType.int) : Option FieldType), 1, false) := ⟨by decide +kernel, by decide +kernel, tb_C_refuse, rfl, by decide +kernel⟩
theorem ok_C_linkRefusal : so_mok 1028 ((⟨"CrowdOut", "linkRefusal", "(III)I"⟩ : MethodName), prog_1_method_29_code, 4, ((Option.some FieldType.int) : Option FieldType), 3, false) := ⟨by decide +kernel, by decide +kernel, tb_C_linkRefusal, rfl, by decide +kernel⟩
theorem ok_C_emptiedRow : so_mok 1029 ((⟨"CrowdOut", "emptiedRow", "(II)I"⟩ : MethodName), prog_1_method_30_code, 5, ((Option.some FieldType.int) : Option FieldType), 2, false) := ⟨by decide +kernel, by decide +kernel, tb_C_emptiedRow, rfl, by decide +kernel⟩
theorem ok_C_isEnough : so_mok 1030 ((⟨"CrowdOut", "isEnough", "(III)Z"⟩ : MethodName), prog_1_method_31_code, 7, ((Option.some FieldType.boolean) : Option FieldType), 3, false) := ⟨by decide +kernel, by decide +kernel, tb_C_isEnough, rfl, by decide +kernel⟩
theorem ok_J_bitCount : so_mok 1203 ((⟨"java/lang/Integer", "bitCount", "(I)I"⟩ : MethodName), prog_15_method_49_code, 1, ((Option.some FieldType.int) : Option FieldType), 1, false) := ⟨by decide +kernel, by decide +kernel, tb_J_bitCount, rfl, by decide +kernel⟩
theorem ok_J_copyOf : so_mok 1204 ((⟨"java/util/Arrays", "copyOf", "([II)[I"⟩ : MethodName), prog_18_method_123_code, 3, ((Option.some (FieldType.array FieldType.int)) : Option FieldType), 2, false) := ⟨by decide +kernel, by decide +kernel, tb_J_copyOf, rfl, by decide +kernel⟩
theorem ok_J_fill : so_mok 1205 ((⟨"java/util/Arrays", "fill", "([IIII)V"⟩ : MethodName), prog_18_method_104_code, 5, ((Option.none : Option FieldType) : Option FieldType), 4, false) := ⟨by decide +kernel, by decide +kernel, tb_J_fill, rfl, by decide +kernel⟩
theorem ok_J_rangeCheck : so_mok 1206 ((⟨"java/util/Arrays", "rangeCheck", "(III)V"⟩ : MethodName), prog_18_method_30_code, 3, ((Option.none : Option FieldType) : Option FieldType), 3, false) := ⟨by decide +kernel, by decide +kernel, tb_J_rangeCheck, rfl, by decide +kernel⟩
theorem so_fin : ∀ e ∈ so_ml, so_mok e.1 e.2 := by
  unfold so_ml
  refine List.forall_mem_cons.mpr ⟨ok_Area_init, ?_⟩
  refine List.forall_mem_cons.mpr ⟨ok_Area_copyFrom, ?_⟩
  refine List.forall_mem_cons.mpr ⟨ok_Area_press, ?_⟩
  refine List.forall_mem_cons.mpr ⟨ok_Area_seeTight, ?_⟩
  refine List.forall_mem_cons.mpr ⟨ok_Area_roomLeft, ?_⟩
  refine List.forall_mem_cons.mpr ⟨ok_Area_fall, ?_⟩
  refine List.forall_mem_cons.mpr ⟨ok_Folk_init, ?_⟩
  refine List.forall_mem_cons.mpr ⟨ok_Folk_copyFrom, ?_⟩
  refine List.forall_mem_cons.mpr ⟨ok_Folk_target, ?_⟩
  refine List.forall_mem_cons.mpr ⟨ok_Folk_isWhereItShould, ?_⟩
  refine List.forall_mem_cons.mpr ⟨ok_Given_init, ?_⟩
  refine List.forall_mem_cons.mpr ⟨ok_Given_copyFrom, ?_⟩
  refine List.forall_mem_cons.mpr ⟨ok_Given_passOverHeard, ?_⟩
  refine List.forall_mem_cons.mpr ⟨ok_Link_init, ?_⟩
  refine List.forall_mem_cons.mpr ⟨ok_Link_copyFrom, ?_⟩
  refine List.forall_mem_cons.mpr ⟨ok_Link_rowOf, ?_⟩
  refine List.forall_mem_cons.mpr ⟨ok_Link_note, ?_⟩
  refine List.forall_mem_cons.mpr ⟨ok_Link_wentOn, ?_⟩
  refine List.forall_mem_cons.mpr ⟨ok_Link_headsOf, ?_⟩
  refine List.forall_mem_cons.mpr ⟨ok_Order_init, ?_⟩
  refine List.forall_mem_cons.mpr ⟨ok_Reader_init, ?_⟩
  refine List.forall_mem_cons.mpr ⟨ok_Reader_keep, ?_⟩
  refine List.forall_mem_cons.mpr ⟨ok_Reader_begin, ?_⟩
  refine List.forall_mem_cons.mpr ⟨ok_Reader_writtenTests, ?_⟩
  refine List.forall_mem_cons.mpr ⟨ok_Reader_writtenActs, ?_⟩
  refine List.forall_mem_cons.mpr ⟨ok_Reader_readOrs, ?_⟩
  refine List.forall_mem_cons.mpr ⟨ok_Reader_readActs, ?_⟩
  refine List.forall_mem_cons.mpr ⟨ok_Reader_readAnds, ?_⟩
  refine List.forall_mem_cons.mpr ⟨ok_Reader_readTest, ?_⟩
  refine List.forall_mem_cons.mpr ⟨ok_Reader_readSum, ?_⟩
  refine List.forall_mem_cons.mpr ⟨ok_Reader_readUnit, ?_⟩
  refine List.forall_mem_cons.mpr ⟨ok_Reader_unitOf, ?_⟩
  refine List.forall_mem_cons.mpr ⟨ok_Reader_readAct, ?_⟩
  refine List.forall_mem_cons.mpr ⟨ok_Reader_readDigits, ?_⟩
  refine List.forall_mem_cons.mpr ⟨ok_Reader_step, ?_⟩
  refine List.forall_mem_cons.mpr ⟨ok_Reader_stepOver, ?_⟩
  refine List.forall_mem_cons.mpr ⟨ok_Reader_fail, ?_⟩
  refine List.forall_mem_cons.mpr ⟨ok_Reader_put, ?_⟩
  refine List.forall_mem_cons.mpr ⟨ok_Tellings_init, ?_⟩
  refine List.forall_mem_cons.mpr ⟨ok_Tellings_add, ?_⟩
  refine List.forall_mem_cons.mpr ⟨ok_Tellings_latest, ?_⟩
  refine List.forall_mem_cons.mpr ⟨ok_Tellings_off, ?_⟩
  refine List.forall_mem_cons.mpr ⟨ok_Train_init, ?_⟩
  refine List.forall_mem_cons.mpr ⟨ok_Train_comesOn, ?_⟩
  refine List.forall_mem_cons.mpr ⟨ok_Ways_init, ?_⟩
  refine List.forall_mem_cons.mpr ⟨ok_Ways_forget, ?_⟩
  refine List.forall_mem_cons.mpr ⟨ok_Ways_rowTo, ?_⟩
  refine List.forall_mem_cons.mpr ⟨ok_Ways_shorten, ?_⟩
  refine List.forall_mem_cons.mpr ⟨ok_World_init, ?_⟩
  refine List.forall_mem_cons.mpr ⟨ok_World_isArea, ?_⟩
  refine List.forall_mem_cons.mpr ⟨ok_World_isGoal, ?_⟩
  refine List.forall_mem_cons.mpr ⟨ok_World_isLink, ?_⟩
  refine List.forall_mem_cons.mpr ⟨ok_World_isFolk, ?_⟩
  refine List.forall_mem_cons.mpr ⟨ok_World_isTrain, ?_⟩
  refine List.forall_mem_cons.mpr ⟨ok_World_isOrder, ?_⟩
  refine List.forall_mem_cons.mpr ⟨ok_World_copyFrom, ?_⟩
  refine List.forall_mem_cons.mpr ⟨ok_World_copyGround, ?_⟩
  refine List.forall_mem_cons.mpr ⟨ok_World_change, ?_⟩
  refine List.forall_mem_cons.mpr ⟨ok_World_shift, ?_⟩
  refine List.forall_mem_cons.mpr ⟨ok_World_seeAllTight, ?_⟩
  refine List.forall_mem_cons.mpr ⟨ok_World_allInside, ?_⟩
  refine List.forall_mem_cons.mpr ⟨ok_World_allOnWay, ?_⟩
  refine List.forall_mem_cons.mpr ⟨ok_World_allOut, ?_⟩
  refine List.forall_mem_cons.mpr ⟨ok_World_allFell, ?_⟩
  refine List.forall_mem_cons.mpr ⟨ok_World_allTaken, ?_⟩
  refine List.forall_mem_cons.mpr ⟨ok_World_ordersThatStand, ?_⟩
  refine List.forall_mem_cons.mpr ⟨ok_World_empty, ?_⟩
  refine List.forall_mem_cons.mpr ⟨ok_World_isOver, ?_⟩
  refine List.forall_mem_cons.mpr ⟨ok_World_isStuck, ?_⟩
  refine List.forall_mem_cons.mpr ⟨ok_World_pass, ?_⟩
  refine List.forall_mem_cons.mpr ⟨ok_World_hear, ?_⟩
  refine List.forall_mem_cons.mpr ⟨ok_World_perform, ?_⟩
  refine List.forall_mem_cons.mpr ⟨ok_World_comeIn, ?_⟩
  refine List.forall_mem_cons.mpr ⟨ok_World_arrive, ?_⟩
  refine List.forall_mem_cons.mpr ⟨ok_World_goOn, ?_⟩
  refine List.forall_mem_cons.mpr ⟨ok_World_leave, ?_⟩
  refine List.forall_mem_cons.mpr ⟨ok_World_fitting, ?_⟩
  refine List.forall_mem_cons.mpr ⟨ok_World_pressOn, ?_⟩
  refine List.forall_mem_cons.mpr ⟨ok_World_board, ?_⟩
  refine List.forall_mem_cons.mpr ⟨ok_World_ask, ?_⟩
  refine List.forall_mem_cons.mpr ⟨ok_World_give, ?_⟩
  refine List.forall_mem_cons.mpr ⟨ok_World_isTrue, ?_⟩
  refine List.forall_mem_cons.mpr ⟨ok_World_worth, ?_⟩
  refine List.forall_mem_cons.mpr ⟨ok_World_joined, ?_⟩
  refine List.forall_mem_cons.mpr ⟨ok_C_init, ?_⟩
  refine List.forall_mem_cons.mpr ⟨ok_C_area, ?_⟩
  refine List.forall_mem_cons.mpr ⟨ok_C_link, ?_⟩
  refine List.forall_mem_cons.mpr ⟨ok_C_linkSet, ?_⟩
  refine List.forall_mem_cons.mpr ⟨ok_C_folk, ?_⟩
  refine List.forall_mem_cons.mpr ⟨ok_C_train, ?_⟩
  refine List.forall_mem_cons.mpr ⟨ok_C_hold, ?_⟩
  refine List.forall_mem_cons.mpr ⟨ok_C_set, ?_⟩
  refine List.forall_mem_cons.mpr ⟨ok_C_ticks, ?_⟩
  refine List.forall_mem_cons.mpr ⟨ok_C_areaOf, ?_⟩
  refine List.forall_mem_cons.mpr ⟨ok_C_folkOf, ?_⟩
  refine List.forall_mem_cons.mpr ⟨ok_C_next, ?_⟩
  refine List.forall_mem_cons.mpr ⟨ok_C_walk, ?_⟩
  refine List.forall_mem_cons.mpr ⟨ok_C_feed, ?_⟩
  refine List.forall_mem_cons.mpr ⟨ok_C_order, ?_⟩
  refine List.forall_mem_cons.mpr ⟨ok_C_stand, ?_⟩
  refine List.forall_mem_cons.mpr ⟨ok_C_holds, ?_⟩
  refine List.forall_mem_cons.mpr ⟨ok_C_given, ?_⟩
  refine List.forall_mem_cons.mpr ⟨ok_C_counted, ?_⟩
  refine List.forall_mem_cons.mpr ⟨ok_C_count, ?_⟩
  refine List.forall_mem_cons.mpr ⟨ok_C_wrong, ?_⟩
  refine List.forall_mem_cons.mpr ⟨ok_C_out, ?_⟩
  refine List.forall_mem_cons.mpr ⟨ok_C_worst, ?_⟩
  refine List.forall_mem_cons.mpr ⟨ok_C_option, ?_⟩
  refine List.forall_mem_cons.mpr ⟨ok_C_design, ?_⟩
  refine List.forall_mem_cons.mpr ⟨ok_C_kin, ?_⟩
  refine List.forall_mem_cons.mpr ⟨ok_C_total, ?_⟩
  refine List.forall_mem_cons.mpr ⟨ok_C_refuse, ?_⟩
  refine List.forall_mem_cons.mpr ⟨ok_C_linkRefusal, ?_⟩
  refine List.forall_mem_cons.mpr ⟨ok_C_emptiedRow, ?_⟩
  refine List.forall_mem_cons.mpr ⟨ok_C_isEnough, ?_⟩
  refine List.forall_mem_cons.mpr ⟨ok_M_init, ?_⟩
  refine List.forall_mem_cons.mpr ⟨ok_M_no, ?_⟩
  refine List.forall_mem_cons.mpr ⟨ok_M_isArea, ?_⟩
  refine List.forall_mem_cons.mpr ⟨ok_M_isLink, ?_⟩
  refine List.forall_mem_cons.mpr ⟨ok_M_isFolk, ?_⟩
  refine List.forall_mem_cons.mpr ⟨ok_M_isTrain, ?_⟩
  refine List.forall_mem_cons.mpr ⟨ok_M_isOrder, ?_⟩
  refine List.forall_mem_cons.mpr ⟨ok_M_area, ?_⟩
  refine List.forall_mem_cons.mpr ⟨ok_M_link, ?_⟩
  refine List.forall_mem_cons.mpr ⟨ok_M_barred, ?_⟩
  refine List.forall_mem_cons.mpr ⟨ok_M_linkSet, ?_⟩
  refine List.forall_mem_cons.mpr ⟨ok_M_folk, ?_⟩
  refine List.forall_mem_cons.mpr ⟨ok_M_train, ?_⟩
  refine List.forall_mem_cons.mpr ⟨ok_M_hold, ?_⟩
  refine List.forall_mem_cons.mpr ⟨ok_M_set, ?_⟩
  refine List.forall_mem_cons.mpr ⟨ok_M_pressOf, ?_⟩
  refine List.forall_mem_cons.mpr ⟨ok_M_addHeads, ?_⟩
  refine List.forall_mem_cons.mpr ⟨ok_M_endOf, ?_⟩
  refine List.forall_mem_cons.mpr ⟨ok_M_goes, ?_⟩
  refine List.forall_mem_cons.mpr ⟨ok_M_timeOf, ?_⟩
  refine List.forall_mem_cons.mpr ⟨ok_M_far, ?_⟩
  refine List.forall_mem_cons.mpr ⟨ok_M_lower, ?_⟩
  refine List.forall_mem_cons.mpr ⟨ok_M_wayOn, ?_⟩
  refine List.forall_mem_cons.mpr ⟨ok_M_next, ?_⟩
  refine List.forall_mem_cons.mpr ⟨ok_M_walk, ?_⟩
  refine List.forall_mem_cons.mpr ⟨ok_M_wayAt, ?_⟩
  refine List.forall_mem_cons.mpr ⟨ok_M_hear, ?_⟩
  refine List.forall_mem_cons.mpr ⟨ok_M_arrive, ?_⟩
  refine List.forall_mem_cons.mpr ⟨ok_M_comeIn, ?_⟩
  refine List.forall_mem_cons.mpr ⟨ok_M_goOn, ?_⟩
  refine List.forall_mem_cons.mpr ⟨ok_M_pushes, ?_⟩
  refine List.forall_mem_cons.mpr ⟨ok_M_carry, ?_⟩
  refine List.forall_mem_cons.mpr ⟨ok_M_pass, ?_⟩
  refine List.forall_mem_cons.mpr ⟨ok_M_ticks, ?_⟩
  refine List.forall_mem_cons.mpr ⟨ok_M_areaOf, ?_⟩
  refine List.forall_mem_cons.mpr ⟨ok_M_onLink, ?_⟩
  refine List.forall_mem_cons.mpr ⟨ok_M_folkOf, ?_⟩
  refine List.forall_mem_cons.mpr ⟨ok_M_kin, ?_⟩
  refine List.forall_mem_cons.mpr ⟨ok_M_feed, ?_⟩
  refine List.forall_mem_cons.mpr ⟨ok_M_isDigit, ?_⟩
  refine List.forall_mem_cons.mpr ⟨ok_M_byteOf, ?_⟩
  refine List.forall_mem_cons.mpr ⟨ok_M_isOf, ?_⟩
  refine List.forall_mem_cons.mpr ⟨ok_M_isAct, ?_⟩
  refine List.forall_mem_cons.mpr ⟨ok_M_behind, ?_⟩
  refine List.forall_mem_cons.mpr ⟨ok_M_fault, ?_⟩
  refine List.forall_mem_cons.mpr ⟨ok_M_order, ?_⟩
  refine List.forall_mem_cons.mpr ⟨ok_M_stand, ?_⟩
  refine List.forall_mem_cons.mpr ⟨ok_M_twoDigits, ?_⟩
  refine List.forall_mem_cons.mpr ⟨ok_M_unit, ?_⟩
  refine List.forall_mem_cons.mpr ⟨ok_M_sum, ?_⟩
  refine List.forall_mem_cons.mpr ⟨ok_M_wordsHold, ?_⟩
  refine List.forall_mem_cons.mpr ⟨ok_M_test, ?_⟩
  refine List.forall_mem_cons.mpr ⟨ok_M_holds, ?_⟩
  refine List.forall_mem_cons.mpr ⟨ok_M_ask, ?_⟩
  refine List.forall_mem_cons.mpr ⟨ok_M_give, ?_⟩
  refine List.forall_mem_cons.mpr ⟨ok_M_given, ?_⟩
  refine List.forall_mem_cons.mpr ⟨ok_M_counted, ?_⟩
  refine List.forall_mem_cons.mpr ⟨ok_M_countOf, ?_⟩
  refine List.forall_mem_cons.mpr ⟨ok_M_count, ?_⟩
  refine List.forall_mem_cons.mpr ⟨ok_M_wrong, ?_⟩
  refine List.forall_mem_cons.mpr ⟨ok_M_copyGround, ?_⟩
  refine List.forall_mem_cons.mpr ⟨ok_M_isOver, ?_⟩
  refine List.forall_mem_cons.mpr ⟨ok_M_empty, ?_⟩
  refine List.forall_mem_cons.mpr ⟨ok_M_out, ?_⟩
  refine List.forall_mem_cons.mpr ⟨ok_M_worst, ?_⟩
  refine List.forall_mem_cons.mpr ⟨ok_M_option, ?_⟩
  refine List.forall_mem_cons.mpr ⟨ok_M_sizeOf, ?_⟩
  refine List.forall_mem_cons.mpr ⟨ok_M_bears, ?_⟩
  refine List.forall_mem_cons.mpr ⟨ok_M_design, ?_⟩
  refine List.forall_mem_cons.mpr ⟨ok_M_sumOf, ?_⟩
  refine List.forall_mem_cons.mpr ⟨ok_M_total, ?_⟩
  refine List.forall_mem_cons.mpr ⟨ok_J_bitCount, ?_⟩
  refine List.forall_mem_cons.mpr ⟨ok_J_copyOf, ?_⟩
  refine List.forall_mem_cons.mpr ⟨ok_J_fill, ?_⟩
  refine List.forall_mem_cons.mpr ⟨ok_J_rangeCheck, ?_⟩
  exact fun _ h => absurd h List.not_mem_nil
theorem so_find_mem : ∀ (l : List (Nat × so_MI)) (y : Nat) (q : so_MI), so_find l y = some q → (y, q) ∈ l := by
  intro l
  induction l with
  | nil => intro y q h; cases h
  | cons e l ih =>
    obtain ⟨z, r⟩ := e
    intro y q h
    have h : (bif Nat.beq z y then some r else so_find l y) = some q := h
    cases hz : Nat.beq z y
    · rw [hz] at h; exact List.mem_cons_of_mem _ (ih y q h)
    · rw [hz] at h
      cases h
      rw [so_beq hz]
      exact List.mem_cons_self
end
section
/-! THE SMALL MACHINE IS SOUND, part 9: the calls themselves -/
section so6
variable {p : Program} {l : Launch} {e : Env} {R : Room} {s : State} {m : MethodId} {args : Array Value} {below : List Frame} {meth : Method} {c : Code} {H : Heap} {locs : List Loc} {cells slots : Nat} {Q : State → Prop}
variable {dC : Nat → ClassId} {dI : Nat → Nat → Nat} {cA : Nat → ClassId} {A : Nat → Prop}
theorem so_after {nL pc : Nat} {hE : am_H} {ad0 ad : am_K → Nat} {ls : am_L} {st st' : List am_V} {h h1 : am_H} {lc : Array Slot} {k : Nat → am_L → List am_V → am_H → Prop} {v : Option am_V} {a9 : Array Value} {stk : List Value}
    (hr : va_Run p l e R s m args below meth c H locs cells slots (h1.2.2.2.1 - h.2.2.2.1) (h1.2.2.2.2 - h.2.2.2.2) (F0 m pc lc stk) (st'.map (so_v ad)) (so_Qc dC dI cA A ad h v h1 a9) A)
    (J : so_J dC dI cA A s nL hE ad0 ad h ls st H locs lc cells slots) (hle : am_le h h1) (hst' : ∀ u, u ∈ st' → u ∈ st) (hkk : k (pc + 3) ls (v.toList ++ st') h1)
    (hk : ∀ pc' st' ad' h' H' locs' cells' slots', k pc' ls st' h' → so_J dC dI cA A s nL hE ad0 ad' h' ls st' H' locs' lc cells' slots' → W p l e R s m args below meth c H' locs' cells' slots' Q (F0 m pc' lc (st'.map (so_v ad')))) :
    W p l e R s m args below meth c H locs cells slots Q (F0 m pc lc stk) := by
  obtain ⟨-, -, -, hst0, -, hS, -⟩ := id J
  have hmap : ∀ ad', so_ex h h1 ad ad' → st'.map (so_v ad') = st'.map (so_v ad) := fun ad' hex => so_map_ad (fun u hu k9 hk9 => by
    obtain ⟨n1, h9⟩ := hst0 u (hst' u hu) k9 hk9
    exact (hex.1 k9 n1 h9).1)
  rcases v with _ | (x | (x | r))
  · refine va_callv (a := a9) hr hS (fun q _ h => h) (fun q h => h) (fun ad' t H1 locs1 ht hvm hex hB hz hk1 hS1 => ?_)
    have hB : so_H dC dI cA A ad' h1 H1 := by rw [← ht]; exact hB
    have h9 := hk _ _ ad' _ H1 locs1 _ _ hkk (so_J_call (st' := st') J hex hle hB (fun u hu => Or.inl (hst0 u (hst' u hu))) hS1)
    rw [show (none : Option am_V).toList ++ st' = st' from rfl, hmap ad' hex] at h9
    exact h9
  · refine va_calli (a := a9) hr hS (fun q _ h => h) (fun q h => h) (fun r9 ad' t H1 locs1 ht hvm hp hB hz hk1 hS1 => ?_)
    obtain ⟨rfl, hex⟩ := hp
    have hB : so_H dC dI cA A ad' h1 H1 := by rw [← ht]; exact hB
    have h9 := hk _ _ ad' _ H1 locs1 _ _ hkk (so_J_call (st' := .inl r9 :: st') J hex hle hB (fun u hu => by
      rcases List.mem_cons.mp hu with rfl | hu
      · exact Or.inl (fun k hk => by cases hk)
      · exact Or.inl (hst0 u (hst' u hu))) hS1)
    rw [show (some (Sum.inl r9) : Option am_V).toList ++ st' = .inl r9 :: st' from rfl, List.map_cons, hmap ad' hex] at h9
    exact h9
  · intro T hT X
    obtain ⟨v9, st₀, t, T', L, h0, X', hL, e1, e2, hq, st9⟩ := hr T hT X
    exact hq.elim
  · refine va_callr (a := a9) hr hS (fun q _ h => h) (fun q h => h) (fun ad' ra t H1 locs1 ht hvm hp hB hz hk1 hS1 => ?_)
    obtain ⟨hex, hal⟩ := hp
    obtain ⟨rfl, hB⟩ := hB
    have hB : so_H dC dI cA A ad' h1 H1 := by rw [← ht]; exact hB
    have h9 := hk _ _ ad' _ H1 locs1 _ _ hkk (so_J_call (st' := .inr (.inr r) :: st') J hex hle hB (fun u hu => by
      rcases List.mem_cons.mp hu with rfl | hu
      · exact Or.inr (fun k hk => by cases hk; exact hal)
      · exact Or.inl (hst0 u (hst' u hu))) hS1)
    rw [show (some (Sum.inr (Sum.inr r)) : Option am_V).toList ++ st' = .inr (.inr r) :: st' from rfl, List.map_cons, hmap ad' hex] at h9
    exact h9
theorem so_J_st {nL : Nat} {hE : am_H} {ad0 ad : am_K → Nat} {ls : am_L} {st st' : List am_V} {h : am_H} {lc : Array Slot} (J : so_J dC dI cA A s nL hE ad0 ad h ls st H locs lc cells slots) (hst : ∀ v, v ∈ st' → v ∈ st) : so_J dC dI cA A s nL hE ad0 ad h ls st' H locs lc cells slots := by
  obtain ⟨h1, h2, h3, h4, h5⟩ := J
  exact ⟨h1, h2, h3, fun v hv => h4 v (hst v hv), h5⟩
theorem am_cpy_at (I : am_I) (r w j : Nat) (g : Nat → Int32) (sp dp n : Nat) : am_cpy I r w j g sp dp n r w j = va_cpy g (I r w j) sp dp n := by
  funext s'; simp [am_cpy]
theorem am_cpy_off (I : am_I) (r w j : Nat) (g : Nat → Int32) (sp dp n : Nat) {k : am_K} (h : k ≠ (r, w, j)) : am_cpy I r w j g sp dp n k.1 k.2.1 k.2.2 = I k.1 k.2.1 k.2.2 := by
  funext s'
  obtain ⟨r', w', j'⟩ := k
  simp only [am_cpy]
  by_cases h1 : r' = r
  · rw [if_pos h1]
    by_cases h2 : w' = w ∧ j' = j
    · exact absurd (by rw [h1, h2.1, h2.2]) h
    · rw [if_neg h2]
  · rw [if_neg h1]
theorem am_fill_at (I : am_I) (r w j : Nat) (g : Nat → Int32) : am_fill I r w j g r w j = g := by
  funext s'; simp [am_fill]
theorem am_fill_off (I : am_I) (r w j : Nat) (g : Nat → Int32) {k : am_K} (h : k ≠ (r, w, j)) : am_fill I r w j g k.1 k.2.1 k.2.2 = I k.1 k.2.1 k.2.2 := by
  funext s'
  obtain ⟨r', w', j'⟩ := k
  simp only [am_fill]
  by_cases h1 : r' = r
  · rw [if_pos h1]
    by_cases h2 : w' = w ∧ j' = j
    · exact absurd (by rw [h1, h2.1, h2.2]) h
    · rw [if_neg h2]
  · rw [if_neg h1]
def so_is5 : Instr → Bool
  | .invokespecial _ | .invokevirtual _ | .invokestatic _ => true
  | _ => false
theorem so_invoke {d : Nat} (hIH : ∀ y as h v h1, am_call am_rt am_P d y as h (fun v1 h2 => v1 = v ∧ h2 = h1) → so_Met l d y as h v h1)
    {cc : ByteArray} {nL pc : Nat} {x : am_X} {own : String} {hE : am_H} {ad0 ad : am_K → Nat} {ls : am_L} {st : List am_V} {h : am_H} {lc : Array Slot} {k : Nat → am_L → List am_V → am_H → Prop} {q : am_Q} {nm0 : MethodName} {bs0 : ByteArray} {mL0 : Nat} {ret0 : Option FieldType}
    (hx : p.tables.exec = Jvm.exec) (hb : c.code = cc) (hml : c.maxLocals = nL) (hown : s.vm.findClass own = some m.cls) (hts : ∀ w ∈ (Cond.code nm0 bs0 mL0 ret0 :: so_G), w.before args s = true) (hA : ∀ q, s.heap.size ≤ q → A q) (hEn : so_E dC dI cA A ad0 s)
    (hRf : d + 1 ≤ R.frames) (hRl : (d + 1) * 64 ≤ R.locals)
    (hck : so_ck1 cc nL pc x = true) (hck3 : so_ck3 own x = true) (h2 : so_is5 x.1 = true) (J : so_J dC dI cA A s nL hE ad0 ad h ls st H locs lc cells slots) (hs : am_step am_rt (am_call am_rt am_P d) x ls st h k q)
    (hroom : ∀ pc' ls' st' h', k pc' ls' st' h' → h'.2.2.2.1 ≤ hE.2.2.2.1 + R.cells ∧ h'.2.2.2.2 ≤ hE.2.2.2.2 + R.slots)
    (hk : ∀ pc' st' ad' h' H' locs' cells' slots', k pc' ls st' h' → so_J dC dI cA A s nL hE ad0 ad' h' ls st' H' locs' lc cells' slots' → W p l e R s m args below meth c H' locs' cells' slots' Q (F0 m pc' lc (st'.map (so_v ad')))) :
    W p l e R s m args below meth c H locs cells slots Q (F0 m pc lc (st.map (so_v ad))) := by
  obtain ⟨ins, nx, im, a, b, c', sw⟩ := x
  obtain ⟨⟨L, hL, hP, hD, hcl, hbo, hvk⟩, hX, hlv, hst, hls, hS, hc0, hn0, hex, hst3, hsta⟩ := id J
  have hts' : ∀ w ∈ so_G, w.before args s = true := fun w hw => hts w (List.mem_cons_of_mem _ hw)
  simp only [so_ck1, Bool.and_eq_true] at hck
  obtain ⟨hd, -⟩ := hck
  -- what a call of the table gives
  have got : ∀ (as : List am_V) (st' : List am_V) (q' : am_Q), am_call am_rt am_P d a as h q' → (∀ u, u ∈ as → u ∈ st) → ∃ v h1, q' v h1 ∧ am_le h h1 ∧ so_Met l d a as h v h1 ∧ (∀ u, u ∈ as → so_okv h u) := fun as st' q' hc has => by
    obtain ⟨v, h1, ⟨hq, hle⟩, hcall⟩ := am_call_one (am_call_grows am_rt am_P d a as h _ hc)
    exact ⟨v, h1, hq, hle, hIH _ _ _ _ _ hcall, fun u hu => hst u (has u hu)⟩
  have room : ∀ h1, am_le h h1 → (∃ pc' ls' st', k pc' ls' st' h1) → cells + (h1.2.2.2.1 - h.2.2.2.1) ≤ R.cells ∧ slots + (h1.2.2.2.2 - h.2.2.2.2) ≤ R.slots := fun h1 hle hkk => by
    obtain ⟨pc', ls', st', hkk⟩ := hkk
    have := hroom _ _ _ _ hkk
    have h5 := hle.1
    have h6 := hle.2
    omega
  cases ins <;> try (cases h2; done)
  case invokespecial i =>
    obtain ⟨hd2, hnx⟩ := so_dec hd
    clear hd; subst hnx
    dsimp only [am_step] at hs
    dsimp only [so_ck3] at hck3
    cases h99 : Nat.beq a 9999 <;> rw [h99] at hs hck3 <;> dsimp only [cond] at hs hck3
    · split at hck3
      · rename_i nm bs mL ret np ini z p1 z2 p2 z3 p3 z4 p4 hmi
        simp only [Bool.and_eq_true, decide_eq_true_eq, so_nmok] at hck3
        obtain ⟨⟨⟨⟨⟨⟨⟨hw1, hw2⟩, hw3⟩, hw4⟩, hbn⟩, hini⟩, hret⟩, ⟨⟨hn1, hn2⟩, hn3⟩, hn4⟩ := hck3
        obtain ⟨ps, st', hps, hpl, hs⟩ := so_pop _ _ _ _ hs
        obtain ⟨hcat, hs⟩ := so_cond hs
        rw [List.append_nil] at hs hcat
        simp only [Bool.and_eq_true] at hcat
        obtain ⟨hcat, hrf⟩ := hcat
        have hcat : am_cat st' ≤ 8 := Nat.le_of_ble_eq_true hcat
        obtain ⟨v, h1, hq, hle, hM, hok⟩ := got ps.reverse st' _ hs (fun u hu => by rw [hps]; exact List.mem_append_left _ (List.mem_reverse.mp hu))
        cases v with
        | some v => exact hq.elim
        | none =>
          subst hret
          have hM := hM nm bs mL none np ini hmi dC dI cA A ad hok hsta
          -- the receiver and the rest
          cases hrev : ps.reverse with
          | nil =>
            have : ps.length = 0 := by rw [← List.length_reverse, hrev]; rfl
            omega
          | cons r0 As =>
            rw [hrev] at hM hok hrf
            have hAs : As.length = np := by
              have : ps.reverse.length = np + 1 := by rw [List.length_reverse, hpl, hbn]
              rw [hrev] at this
              exact Nat.succ.inj this
            have hst9 : st.map (so_v ad) = (As.map (so_v ad)).reverse ++ so_v ad r0 :: st'.map (so_v ad) := by
              rw [hps, ← List.reverse_reverse ps, hrev, List.reverse_cons, List.append_assoc, List.map_append, List.map_reverse]
              rfl
            have hWc : 2 * (F0 m pc lc (st.map (so_v ad))).monitorRoom + ((st'.map (so_v ad)).map fun v => v.category).sum ≤ 8 := lv_room (by rw [so_cat]; exact hcat)
            have hR2 : (so_room d (h1.2.2.2.1 - h.2.2.2.1) (h1.2.2.2.2 - h.2.2.2.2)).frames + 1 ≤ R.frames ∧ 8 + (mL + 11) + (so_room d (h1.2.2.2.1 - h.2.2.2.1) (h1.2.2.2.2 - h.2.2.2.2)).locals ≤ R.locals := by
              show d + 1 ≤ R.frames ∧ 8 + (mL + 11) + d * 64 ≤ R.locals
              omega
            -- only a reference can be made: its address
            rcases r0 with r0 | (r0 | r0)
            · cases hrf
            · cases hrf
            · have hpre := so_pre hEn hA J (.inr (.inr r0) :: As)
              cases hz : decide (z = (1 : Int32)) <;> rw [hz] at hw1 <;> dsimp only [cond] at hw1
              · exact so_after (va_runI (As := As.map (so_v ad)) (rest := st'.map (so_v ad)) (b := ad r0) ⟨hx, hb, hml, hown, hts⟩ hM (cwI np hts (so_goodIn (so_wd_in hw4)) rfl rfl rfl (hts' _ (so_wd_in hw3)) (hts' _ (so_wd_in hw1)) (hts' _ (so_wd_in hw2)) hini ⟨hn1, hn2, hn3⟩ hR2) ⟨so_blind _ _ _ _ _ _ _, hpre⟩ rfl (by rw [List.length_map]; exact hAs) (by exact hlv.1) hst9 hWc hd2 (room h1 hle ⟨_, _, _, hq⟩)) J hle (fun u hu => by rw [hps]; exact List.mem_append_right _ hu) hq hk
              · have hw1 : Cond.methodLinkNest own i nm "CrowdOut" ∈ lw_tbl := List.mem_of_getElem? (of_decide_eq_true hw1)
                exact so_after (va_runIN (As := As.map (so_v ad)) (rest := st'.map (so_v ad)) (b := ad r0) ⟨hx, hb, hml, hown, hts⟩ hM ⟨va_cnB np hts (so_goodIn (so_wd_in hw4)) rfl rfl rfl (hEn.2.2.1.1 _ _ _ _ hw1) (hts' _ (so_wd_in hw3)) ⟨hn1, hn2, hn3⟩ hR2, hini, hts' _ (so_wd_in hw2)⟩ ⟨so_blind _ _ _ _ _ _ _, hpre⟩ rfl (by rw [List.length_map]; exact hAs) (by exact hlv.1) hst9 hWc hd2 (room h1 hle ⟨_, _, _, hq⟩)) J hle (fun u hu => by rw [hps]; exact List.mem_append_right _ hu) hq hk
      · cases hck3
    · split at hck3
      · simp only [Bool.and_eq_true] at hck3
        split at hs
        · rename_i r0 st0
          obtain ⟨hcat, hs⟩ := so_cond hs
          have hcat : am_cat st0 ≤ 8 := Nat.le_of_ble_eq_true hcat
          refine W.objInit hx hb hown (hts' _ (so_wd_in hck3.1.1)) (hts' _ (so_wd_in hck3.1.2)) (hts' _ (so_wd_in hck3.2)) rfl (by rw [hml]; exact hlv.1) rfl hd2 (by omega) ?_ (hk _ _ _ _ _ _ _ _ hs (so_J_st J (fun v hv => List.mem_cons_of_mem _ hv)))
          have h9 : 2 * (F0 m pc lc ((Sum.inr (Sum.inr r0) :: st0).map (so_v ad))).monitorRoom + ((st0.map (so_v ad)).map fun v => v.category).sum ≤ 8 := lv_room (by rw [so_cat]; exact hcat)
          omega
        · exact hs.elim
      · cases hck3
  case invokevirtual i =>
    obtain ⟨hd2, hnx⟩ := so_dec hd
    clear hd; subst hnx
    dsimp only [am_step] at hs
    dsimp only [so_ck3] at hck3
    cases h99 : Nat.beq a 9998 <;> rw [h99] at hs hck3 <;> dsimp only [cond] at hs hck3
    · split at hck3
      · rename_i nm bs mL ret np ini q0 z p1 z2 p2 z3 p3 z4 p4 z5 p5 hmi hq0
        simp only [Bool.and_eq_true, decide_eq_true_eq, so_nmok] at hck3
        obtain ⟨⟨⟨⟨⟨⟨⟨hw1, hw2⟩, hw3⟩, hw4⟩, hw5⟩, hbn⟩, hqc⟩, ⟨⟨hn1, hn2⟩, hn3⟩, hn4⟩ := hck3
        obtain ⟨ps, st', hps, hpl, hs⟩ := so_pop _ _ _ _ hs
        obtain ⟨hcat, hs⟩ := so_cond hs
        rw [List.append_nil] at hs hcat
        simp only [Bool.and_eq_true] at hcat
        obtain ⟨hcat, hrc⟩ := hcat
        have hcat : am_cat st' ≤ 8 := Nat.le_of_ble_eq_true hcat
        obtain ⟨v, h1, hq, hle, hM, hok⟩ := got ps.reverse st' _ hs (fun u hu => by rw [hps]; exact List.mem_append_left _ (List.mem_reverse.mp hu))
        have hM := hM nm bs mL ret np ini hmi dC dI cA A ad hok hsta
        have hkk : k (pc + 3) ls (v.toList ++ st') h1 := by
          split at hq
          · exact hq
          · exact hq
          · exact hq.elim
        cases hrev : ps.reverse with
        | nil =>
          have : ps.length = 0 := by rw [← List.length_reverse, hrev]; rfl
          omega
        | cons r0 As =>
          rw [hrev] at hM hok hrc
          have hAs : As.length = np := by
            have : ps.reverse.length = np + 1 := by rw [List.length_reverse, hpl, hbn]
            rw [hrev] at this
            exact Nat.succ.inj this
          have hst9 : st.map (so_v ad) = (As.map (so_v ad)).reverse ++ so_v ad r0 :: st'.map (so_v ad) := by
            rw [hps, ← List.reverse_reverse ps, hrev, List.reverse_cons, List.append_assoc, List.map_append, List.map_reverse]
            rfl
          have hWc : 2 * (F0 m pc lc (st.map (so_v ad))).monitorRoom + ((st'.map (so_v ad)).map fun v => v.category).sum ≤ 8 := lv_room (by rw [so_cat]; exact hcat)
          have hR2 : (so_room d (h1.2.2.2.1 - h.2.2.2.1) (h1.2.2.2.2 - h.2.2.2.2)).frames + 1 ≤ R.frames ∧ 8 + (mL + 11) + (so_room d (h1.2.2.2.1 - h.2.2.2.1) (h1.2.2.2.2 - h.2.2.2.2)).locals ≤ R.locals := by
            show d + 1 ≤ R.frames ∧ 8 + (mL + 11) + d * 64 ≤ R.locals
            omega
          rcases r0 with r0 | (r0 | ⟨r, w, j⟩)
          · cases hrc
          · cases hrc
          · have hrt : am_rt r = a / 100 := so_beq hrc
            have ha12 : a / 100 < 12 := (List.getElem?_eq_some_iff.mp hq0).1
            have hr3 : r < 300 := Nat.not_le.mp fun h3 => by rcases so_rt300 h3 with h4 | h4 <;> omega
            obtain ⟨n, hn⟩ := hok _ List.mem_cons_self (r, w, j) rfl
            obtain ⟨q1, hq1, hq2⟩ := so_ws_get (cA := cA) (ad := ad) (h := h) ((hL (r, w, j)).mpr ⟨hr3, n, hn⟩)
            rw [so_c_obj (k := (r, w, j)) hrt hq0] at hq2
            have hpre := so_pre hEn hA J (.inr (.inr (r, w, j)) :: As)
            have hrcv := va_recv hEn.1 hP hq0 hq2
            rw [hqc] at hrcv
            exact so_after (va_runV (C := nm.cls) (As := As.map (so_v ad)) (rest := st'.map (so_v ad)) (b := ad (r, w, j)) ⟨hx, hb, hml, hown, hts⟩ hM ⟨callB_of np hts (so_goodIn (so_wd_in hw5)) rfl rfl rfl (hts' _ (so_wd_in hw4)) (hts' _ (so_wd_in hw1)) ⟨hn1, hn2, hn3⟩ hR2, hts' _ (so_wd_in hw2), hts' _ (so_wd_in hw3)⟩ ⟨so_blind _ _ _ _ _ _ _, hrcv, hpre⟩ rfl (by rw [List.length_map]; exact hAs) (by exact hlv.1) hst9 hWc hd2 (room h1 hle ⟨_, _, _, hkk⟩)) J hle (fun u hu => by rw [hps]; exact List.mem_append_right _ hu) hkk hk
      · cases hck3
    · split at hck3
      · rename_i z p1 z2 p2 z3 p3 z4 p4 z5 p5
        simp only [Bool.and_eq_true] at hck3
        obtain ⟨⟨⟨⟨hw1, hw2⟩, hw3⟩, hw4⟩, hw5⟩ := hck3
        split at hs
        · rename_i r w j st0
          obtain ⟨hra, hs⟩ := so_cond hs
          simp only [Bool.and_eq_true] at hra
          have hr3 : r < 300 := Nat.le_of_ble_eq_true hra.2.1
          have hcat : am_cat st0 ≤ 8 := Nat.le_of_ble_eq_true hra.2.2
          have hra := so_beq hra.1
          obtain ⟨r', w', j', n, ⟨hra', hr3'⟩, hs⟩ := hs
          obtain ⟨I, Rr, N, cc9, nn9⟩ := h
          dsimp only at hs
          obtain ⟨hn, hno, hs⟩ := hs
          have hal : so_al (I, Rr, N, cc9, nn9) (r, w, j) := ⟨hr3, n, hn⟩
          obtain ⟨q1, hq1, hq2⟩ := so_ws_get (cA := cA) (ad := ad) (h := (I, Rr, N, cc9, nn9)) ((hL (r, w, j)).mpr hal)
          rw [so_c_int (k := (r, w, j)) hra (by decide) (by decide) hn] at hq2
          have hro := hroom _ _ _ _ hs
          have hro1 : cc9 + 1 ≤ hE.2.2.2.1 + R.cells := hro.1
          have hro2 : nn9 + n ≤ hE.2.2.2.2 + R.slots := hro.2
          have hc0 : cc9 = hE.2.2.2.1 + cells := hc0
          have hn0 : nn9 = hE.2.2.2.2 + slots := hn0
          refine va_clone (ad := "[I") (x := (n, .inl (I r w j))) (ty := .int) hx hb (by rw [hml]; exact hlv.1.symm) hown (hts' _ (so_wd_in hw1)) (hts' _ (so_wd_in hw2)) (hts' _ (so_wd_in hw3)) (hts' _ (so_wd_in hw4)) (hts' _ (so_wd_in hw5)) hEn.2.2.1.2.2 hEn.1 hP hD hS hA q1 0 hq2 rfl ((hEn.1.2 0 _ rfl).2) (fun i9 v9 hv9 => ?_) (by omega) (by rw [so_cat]; omega) (by omega) (by show slots + n ≤ _; omega) hd2 (fun q9 H1 hK1 hP1 hD1 hS1 => ?_)
          · have h9 : (arrV (cA 100) n (fun j9 => Value.int (I r w j j9))).slots[i9]? = some v9 := hv9
            have hlt : i9 < n := by
              have := (Array.getElem?_eq_some_iff.mp h9).1
              rw [arrV_size] at this
              exact this
            rw [arrV_read _ _ hlt] at h9
            cases h9
            rfl
          · have ho : ∀ k' : am_K, k' ≠ (r', w', j') → (am_fill (am_newI I r' w' j') r' w' j' (I r w j)) k'.1 k'.2.1 k'.2.2 = I k'.1 k'.2.1 k'.2.2 ∧ (am_newR Rr r' w' j') k'.1 k'.2.1 k'.2.2 = Rr k'.1 k'.2.1 k'.2.2 ∧ (am_newN N r' w' j' n) k'.1 k'.2.1 k'.2.2 = N k'.1 k'.2.1 k'.2.2 :=
              fun k' hne => ⟨(am_fill_off _ r' w' j' _ hne).trans (am_newI_off I r' w' j' hne), am_newR_off Rr r' w' j' hne, am_newN_off N r' w' j' n hne⟩
            have he : so_c cA (so_ext ad (r', w', j') q9) (am_fill (am_newI I r' w' j') r' w' j' (I r w j), am_newR Rr r' w' j', am_newN N r' w' j' n, cc9 + 1, nn9 + n) (r', w', j') = .inl (cA 100, n, .inl (I r w j)) := by
              rw [so_c_int (h := (am_fill (am_newI I r' w' j') r' w' j' (I r w j), am_newR Rr r' w' j', am_newN N r' w' j' n, cc9 + 1, nn9 + n)) (k := (r', w', j')) hra' (by decide) (by decide) (am_newN_at N r' w' j' n)]
              show Sum.inl (cA 100, n, Sum.inl (am_fill (am_newI I r' w' j') r' w' j' (I r w j) r' w' j')) = _
              rw [am_fill_at]
            have hH := so_H_new (kn := (r', w', j')) (h' := (am_fill (am_newI I r' w' j') r' w' j' (I r w j), am_newR Rr r' w' j', am_newN N r' w' j' n, cc9 + 1, nn9 + n)) (n := n) (q := q9) hL hcl hbo hvk hr3' (by show so_vk (am_rt r') = true; rw [hra']; decide) hno (am_newN_at N r' w' j' n) ho (fun s' => congrFun (am_newR_at Rr r' w' j') s') (fun h101 => by have h101 : am_rt r' = 101 := h101; omega) (by rw [he]; exact hP1) (by rw [he]; exact hD1)
            obtain ⟨J', he2⟩ := so_J_new (n := n) J hH hr3' hno (am_newN_at N r' w' j' n) ho rfl rfl hS1 (st0 := st0) (fun v hv => List.mem_cons_of_mem _ hv)
            have h9 := hk _ _ _ _ _ _ _ _ hs J'
            rw [List.map_cons, he2] at h9
            rw [show Value.ref q9 = so_v (so_ext ad (r', w', j') q9) (.inr (.inr (r', w', j'))) by show Value.ref q9 = Value.ref (so_ext ad (r', w', j') q9 (r', w', j')); rw [so_ext_eq]]
            exact h9
        · exact hs.elim
      · cases hck3
  case invokestatic i =>
    obtain ⟨hd2, hnx⟩ := so_dec hd
    clear hd; subst hnx
    dsimp only [am_step] at hs
    dsimp only [so_ck3] at hck3
    unfold am_math at hs
    have roomh : ∀ {st9}, k (pc + so_len (Instr.invokestatic i)) ls st9 h → cells ≤ R.cells ∧ slots ≤ R.slots := fun {st9} hkk => by
      have := hroom _ _ _ _ hkk
      omega
    have oki : ∀ (v : Int32), so_okv h (.inl v) := fun v k hk => by cases hk
    cases h96 : Nat.beq a 9996 <;> rw [h96] at hs hck3 <;> dsimp only [cond] at hs hck3
    rotate_left
    · split at hck3
      · simp only [Bool.and_eq_true] at hck3
        split at hs
        · rename_i y0 z0 st0
          obtain ⟨hcat, hs⟩ := so_cond hs
          have hcat : am_cat st0 ≤ 8 := Nat.le_of_ble_eq_true hcat
          have hrm := roomh hs
          refine va_mmax hx hb (by rw [hml]; exact hlv.1.symm) hown (hts' _ (so_wd_in hck3.1.1.1)) (hts' _ (so_wd_in hck3.1.1.2)) (hts' _ (so_wd_in hck3.1.2)) (hts' _ (so_wd_in hck3.2)) (by omega) (by rw [so_cat]; omega) hrm.1 hrm.2 hd2 (hk _ (.inl (if z0 < y0 then y0 else z0) :: st0) _ _ _ _ _ _ hs ?_)
          obtain ⟨j1, j2, j3, j4, j5⟩ := J
          exact ⟨j1, j2, j3, fun v hv => by rcases List.mem_cons.mp hv with rfl | hv; exact oki _; exact j4 v (List.mem_cons_of_mem _ (List.mem_cons_of_mem _ hv)), j5⟩
        · exact hs.elim
      · cases hck3
    cases h95 : Nat.beq a 9995 <;> rw [h95] at hs hck3 <;> dsimp only [cond] at hs hck3
    rotate_left
    · split at hck3
      · simp only [Bool.and_eq_true] at hck3
        split at hs
        · rename_i y0 z0 st0
          obtain ⟨hcat, hs⟩ := so_cond hs
          have hcat : am_cat st0 ≤ 8 := Nat.le_of_ble_eq_true hcat
          have hrm := roomh hs
          refine va_mmin hx hb (by rw [hml]; exact hlv.1.symm) hown (hts' _ (so_wd_in hck3.1.1.1)) (hts' _ (so_wd_in hck3.1.1.2)) (hts' _ (so_wd_in hck3.1.2)) (hts' _ (so_wd_in hck3.2)) (by omega) (by rw [so_cat]; omega) hrm.1 hrm.2 hd2 (hk _ (.inl (if y0 < z0 then y0 else z0) :: st0) _ _ _ _ _ _ hs ?_)
          obtain ⟨j1, j2, j3, j4, j5⟩ := J
          exact ⟨j1, j2, j3, fun v hv => by rcases List.mem_cons.mp hv with rfl | hv; exact oki _; exact j4 v (List.mem_cons_of_mem _ (List.mem_cons_of_mem _ hv)), j5⟩
        · exact hs.elim
      · cases hck3
    cases h94 : Nat.beq a 9994 <;> rw [h94] at hs hck3 <;> dsimp only [cond] at hs hck3
    rotate_left
    · split at hck3
      · simp only [Bool.and_eq_true] at hck3
        split at hs
        · rename_i z0 st0
          obtain ⟨hcat, hs⟩ := so_cond hs
          have hcat : am_cat st0 ≤ 8 := Nat.le_of_ble_eq_true hcat
          have hrm := roomh hs
          refine va_mabs hx hb (by rw [hml]; exact hlv.1.symm) hown (hts' _ (so_wd_in hck3.1.1.1)) (hts' _ (so_wd_in hck3.1.1.2)) (hts' _ (so_wd_in hck3.1.2)) (hts' _ (so_wd_in hck3.2)) (by omega) (by rw [so_cat]; omega) hrm.1 hrm.2 hd2 (hk _ (.inl (if 0 ≤ z0 then z0 else 0 - z0) :: st0) _ _ _ _ _ _ hs ?_)
          obtain ⟨j1, j2, j3, j4, j5⟩ := J
          exact ⟨j1, j2, j3, fun v hv => by rcases List.mem_cons.mp hv with rfl | hv; exact oki _; exact j4 v (List.mem_cons_of_mem _ hv), j5⟩
        · exact hs.elim
      · cases hck3
    cases h99 : Nat.beq a 9997 <;> rw [h99] at hs hck3 <;> dsimp only [cond] at hs hck3
    · split at hck3
      · rename_i nm bs mL ret np ini z p1 z2 p2 z3 p3 z4 p4 hmi
        simp only [Bool.and_eq_true, decide_eq_true_eq, so_nmok] at hck3
        obtain ⟨⟨⟨⟨⟨hw1, hw2⟩, hw3⟩, hw4⟩, hbn⟩, ⟨⟨hn1, hn2⟩, hn3⟩, hn4⟩ := hck3
        obtain ⟨ps, st', hps, hpl, hs⟩ := so_pop _ _ _ _ hs
        obtain ⟨hcat, hs⟩ := so_cond hs
        rw [List.append_nil] at hs
        have hcat : am_cat st' ≤ 8 := Nat.le_of_ble_eq_true hcat
        obtain ⟨v, h1, hq, hle, hM, hok⟩ := got ps.reverse st' _ hs (fun u hu => by rw [hps]; exact List.mem_append_left _ (List.mem_reverse.mp hu))
        have hM := hM nm bs mL ret np ini hmi dC dI cA A ad hok hsta
        have hkk : k (pc + 3) ls (v.toList ++ st') h1 := by
          split at hq
          · exact hq
          · exact hq
          · exact hq.elim
        have hst9 : st.map (so_v ad) = (ps.reverse.map (so_v ad)).reverse ++ st'.map (so_v ad) := by
          rw [hps, List.map_append, List.map_reverse, List.reverse_reverse]
        have hWc : 2 * (F0 m pc lc (st.map (so_v ad))).monitorRoom + ((st'.map (so_v ad)).map fun v => v.category).sum ≤ 8 := lv_room (by rw [so_cat]; exact hcat)
        have hR2 : (so_room d (h1.2.2.2.1 - h.2.2.2.1) (h1.2.2.2.2 - h.2.2.2.2)).frames + 1 ≤ R.frames ∧ 8 + (mL + 11) + (so_room d (h1.2.2.2.1 - h.2.2.2.1) (h1.2.2.2.2 - h.2.2.2.2)).locals ≤ R.locals := by
          show d + 1 ≤ R.frames ∧ 8 + (mL + 11) + d * 64 ≤ R.locals
          omega
        have hpre := so_pre hEn hA J ps.reverse
        exact so_after (va_runS (As := ps.reverse.map (so_v ad)) (rest := st'.map (so_v ad)) ⟨hx, hb, hml, hown, hts⟩ hM ⟨callB_of np hts (so_goodIn (so_wd_in hw4)) rfl rfl rfl (hts' _ (so_wd_in hw3)) (hts' _ (so_wd_in hw1)) ⟨hn1, hn2, hn3⟩ hR2, hts' _ (so_wd_in hw2)⟩ ⟨so_blind _ _ _ _ _ _ _, hpre⟩ rfl (by rw [List.length_map, List.length_reverse, hpl, hbn]) (by exact hlv.1) hst9 hWc hd2 (room h1 hle ⟨_, _, _, hkk⟩)) J hle (fun u hu => by rw [hps]; exact List.mem_append_right _ hu) hkk hk
      · cases hck3
    · split at hck3
      · rename_i z p1 z2 p2 z3 p3 z4 p4
        simp only [Bool.and_eq_true] at hck3
        obtain ⟨⟨⟨hw1, hw2⟩, hw3⟩, hw4⟩ := hck3
        split at hs
        · rename_i n0 dp r w j sp r' w' j' st0
          obtain ⟨hra, hs⟩ := so_cond hs
          simp only [Bool.and_eq_true] at hra
          obtain ⟨⟨hra, hrb⟩, hcat, hr3, hr3'⟩ := hra
          have hr3 : r < 300 := Nat.le_of_ble_eq_true hr3
          have hr3' : r' < 300 := Nat.le_of_ble_eq_true hr3'
          have hcat : am_cat st0 ≤ 8 := Nat.le_of_ble_eq_true hcat
          have hra := so_beq hra
          obtain ⟨I, S⟩ := h
          dsimp only at hs
          split at hs
          · rename_i mm mm' hn hn'
            obtain ⟨h1, h3, h4, h5, h6, hs⟩ := hs
            have hal : so_al (I, S) (r, w, j) := ⟨hr3, mm, hn⟩
            have hal' : so_al (I, S) (r', w', j') := ⟨hr3', mm', hn'⟩
            obtain ⟨q1, hq1, hq2⟩ := so_ws_get (cA := cA) (ad := ad) (h := (I, S)) ((hL (r, w, j)).mpr hal)
            obtain ⟨q3, hq3, hq4⟩ := so_ws_get (cA := cA) (ad := ad) (h := (I, S)) ((hL (r', w', j')).mpr hal')
            have key : ∀ (t0 : Nat) (ty : FieldType) (kd : Nat), am_rt r = kd → 100 ≤ kd → kd < 110 → (so_tys cA)[t0]? = some (cA kd, ty) → refKind ty = false → (∀ i9, i9 < n0.toNatClampNeg → fits ty (.int (I r' w' j' (sp.toNatClampNeg + i9))) = true) → W p l e R s m args below meth c H locs cells slots Q (F0 m pc lc ((Sum.inl n0 :: Sum.inl dp :: Sum.inr (Sum.inr (r, w, j)) :: Sum.inl sp :: Sum.inr (Sum.inr (r', w', j')) :: st0).map (so_v ad))) := by
              intro t0 ty kd hkd hk1 hk2 ht0 hprim hfit
              have hnw : nativeFrameWords "java/lang/System" "arraycopy" 5 ≤ 40 := by decide +kernel
              rw [so_c_int (k := (r, w, j)) hkd hk1 hk2 hn] at hq2
              rw [so_c_int (k := (r', w', j')) (hra.symm.trans hkd) hk1 hk2 hn'] at hq4
              refine va_copyi hx hb (by rw [hml]; exact hlv.1.symm) hown (hts' _ (so_wd_in hw1)) (hts' _ (so_wd_in hw2)) (hts' _ (so_wd_in hw3)) (hts' _ (so_wd_in hw4)) hEn.1 hP hD hS q3 q1 t0 t0 hq4 hq2 ht0 ht0 hprim h1 h3 h4 h5 h6 hfit (by omega) (by rw [so_cat]; omega) hd2 (fun H1 locs1 hP1 hD1 hS1 => ?_)
              have he : so_c cA ad (am_cpy I r w j (I r' w' j') sp.toNatClampNeg dp.toNatClampNeg n0.toNatClampNeg, S) (r, w, j) = .inl (cA kd, mm, .inl (va_cpy (I r' w' j') (I r w j) sp.toNatClampNeg dp.toNatClampNeg n0.toNatClampNeg)) := by
                rw [so_c_int (h := (am_cpy I r w j (I r' w' j') sp.toNatClampNeg dp.toNatClampNeg n0.toNatClampNeg, S)) (k := (r, w, j)) hkd hk1 hk2 hn]
                show Sum.inl (cA kd, mm, Sum.inl (am_cpy I r w j (I r' w' j') sp.toNatClampNeg dp.toNatClampNeg n0.toNatClampNeg r w j)) = _
                rw [am_cpy_at]
              refine hk _ st0 ad _ H1 locs1 _ _ hs (so_J_set J ?_ rfl ?_ (fun v hv => List.mem_cons_of_mem _ (List.mem_cons_of_mem _ (List.mem_cons_of_mem _ (List.mem_cons_of_mem _ (List.mem_cons_of_mem _ hv))))) hS1)
              · refine so_H_set (h' := (am_cpy I r w j (I r' w' j') sp.toNatClampNeg dp.toNatClampNeg n0.toNatClampNeg, S)) hL hD hvk hq1 rfl (fun k' hne => ⟨am_cpy_off I r w j _ _ _ _ hne, rfl⟩) hcl (fun k' hk' h101 s' => ?_) (by rw [he]; exact hP1) (by rw [he]; exact hD1)
                by_cases hne : k' = (r, w, j)
                · subst hne
                  show am_cpy I r w j (I r' w' j') sp.toNatClampNeg dp.toNatClampNeg n0.toNatClampNeg r w j s' = 0 ∨ am_cpy I r w j (I r' w' j') sp.toNatClampNeg dp.toNatClampNeg n0.toNatClampNeg r w j s' = 1
                  rw [am_cpy_at]
                  by_cases hin : dp.toNatClampNeg ≤ s' ∧ s' < dp.toNatClampNeg + n0.toNatClampNeg
                  · rw [pk_cpy_in hin.1 hin.2]
                    exact hbo _ hal' (hra.symm.trans h101) _
                  · rw [pk_cpy_out (by omega)]
                    exact hbo _ hk' h101 s'
                · show am_cpy I r w j (I r' w' j') sp.toNatClampNeg dp.toNatClampNeg n0.toNatClampNeg k'.1 k'.2.1 k'.2.2 s' = 0 ∨ am_cpy I r w j (I r' w' j') sp.toNatClampNeg dp.toNatClampNeg n0.toNatClampNeg k'.1 k'.2.1 k'.2.2 s' = 1
                  rw [am_cpy_off I r w j _ _ _ _ hne]
                  exact hbo _ hk' h101 s'
              · intro k' hk'
                exact am_cpy_off I r w j _ _ _ _ (fun e9 => by rw [e9] at hk'; exact absurd hk' (Nat.not_le.mpr hr3))
            rcases Bool.or_eq_true _ _ |>.mp hrb with hrb | hrb
            · exact key 0 .int 100 (so_beq hrb) (by decide) (by decide) rfl rfl (fun _ _ => rfl)
            · refine key 1 .boolean 101 (so_beq hrb) (by decide) (by decide) rfl rfl (fun i9 _ => ?_)
              rcases hbo _ hal' (hra.symm.trans (so_beq hrb)) (sp.toNatClampNeg + i9) with h9 | h9 <;> (have h9 : I r' w' j' (sp.toNatClampNeg + i9) = _ := h9; rw [h9]; rfl)
          · exact hs.elim
        · exact hs.elim
      · cases hck3
end so6
end
section
/-! THE SMALL MACHINE IS SOUND, part 10: a whole body; every method of the table -/
theorem so_look1 {f : Nat × am_X → Bool} : ∀ (l : List (Nat × am_X)) (pc : Nat), l.all f = true → am_look1 l pc = am_nop ∨ f (pc, am_look1 l pc) = true := by
  intro l
  induction l with
  | nil => intro pc _; exact Or.inl rfl
  | cons q l ih =>
    obtain ⟨p, x⟩ := q
    intro pc h
    simp only [List.all_cons, Bool.and_eq_true] at h
    cases hp : Nat.beq p pc
    · have e : am_look1 ((p, x) :: l) pc = am_look1 l pc := by show (bif Nat.beq p pc then x else am_look1 l pc) = _; rw [hp]; rfl
      rw [e]
      exact ih pc h.2
    · have e : am_look1 ((p, x) :: l) pc = x := by show (bif Nat.beq p pc then x else am_look1 l pc) = _; rw [hp]; rfl
      rw [e, ← so_beq hp]
      exact Or.inr h.1
theorem so_look {f : Nat × am_X → Bool} : ∀ (t : List (Nat × List (Nat × am_X))) (pc : Nat), t.all (fun ch => ch.2.all f) = true → am_look t pc = am_nop ∨ f (pc, am_look t pc) = true := by
  intro t
  induction t with
  | nil => intro pc _; exact Or.inl rfl
  | cons q t ih =>
    obtain ⟨hi, l⟩ := q
    intro pc h
    simp only [List.all_cons, Bool.and_eq_true] at h
    cases hp : Nat.ble pc hi
    · have e : am_look ((hi, l) :: t) pc = am_look t pc := by show (bif Nat.ble pc hi then am_look1 l pc else am_look t pc) = _; rw [hp]; rfl
      rw [e]
      exact ih pc h.2
    · have e : am_look ((hi, l) :: t) pc = am_look1 l pc := by show (bif Nat.ble pc hi then am_look1 l pc else am_look t pc) = _; rw [hp]; rfl
      rw [e]
      exact so_look1 l pc h.1
section so7
variable {p : Program} {l : Launch} {e : Env} {R : Room} {s : State} {m : MethodId} {args : Array Value} {below : List Frame} {meth : Method} {c : Code} {H : Heap} {locs : List Loc} {cells slots : Nat}
variable {dC : Nat → ClassId} {dI : Nat → Nat → Nat} {cA : Nat → ClassId} {A : Nat → Prop}
/-- one step, whatever the instruction; Q: any goal; the returns by hq -/
theorem so_step {Q : State → Prop} {d : Nat} (hIH : ∀ y as h v h1, am_call am_rt am_P d y as h (fun v1 h2 => v1 = v ∧ h2 = h1) → so_Met l d y as h v h1)
    {cc : ByteArray} {nL pc : Nat} {x : am_X} {own : String} {ini : Bool} {hE : am_H} {ad0 ad : am_K → Nat} {ls : am_L} {st : List am_V} {h : am_H} {lc : Array Slot} {k : Nat → am_L → List am_V → am_H → Prop} {q : am_Q} {nm0 : MethodName} {bs0 : ByteArray} {mL0 : Nat} {ret0 ret : Option FieldType}
    (hx : p.tables.exec = Jvm.exec) (hb : c.code = cc) (hml : c.maxLocals = nL) (hown : s.vm.findClass own = some m.cls) (hts : ∀ w ∈ (Cond.code nm0 bs0 mL0 ret0 :: so_G), w.before args s = true) (hini : ini = true → meth.name = "<init>") (hA : ∀ q, s.heap.size ≤ q → A q) (hEn : so_E dC dI cA A ad0 s)
    (hRf : d + 1 ≤ R.frames) (hRl : (d + 1) * 64 ≤ R.locals)
    (hrow : so_row own cc nL ret ini (pc, x) = true) (J : so_J dC dI cA A s nL hE ad0 ad h ls st H locs lc cells slots) (hs : am_step am_rt (am_call am_rt am_P d) x ls st h k q)
    (hroom : ∀ pc' ls' st' h', k pc' ls' st' h' → h'.2.2.2.1 ≤ hE.2.2.2.1 + R.cells ∧ h'.2.2.2.2 ≤ hE.2.2.2.2 + R.slots)
    (hk : ∀ pc' ls' st' ad' h' H' locs' lc' cells' slots', k pc' ls' st' h' → so_J dC dI cA A s nL hE ad0 ad' h' ls' st' H' locs' lc' cells' slots' → W p l e R s m args below meth c H' locs' cells' slots' Q (F0 m pc' lc' (st'.map (so_v ad'))))
    (hqi : ∀ v, st = [.inl v] → q (some (.inl v)) h → ret = some .int → decode cc pc = .ok (.ireturn, 1) → W p l e R s m args below meth c H locs cells slots Q (F0 m pc lc [.int v]))
    (hqz : ∀ v, st = [.inl v] → (v = 0 ∨ v = 1) → q (some (.inl v)) h → ret = some .boolean → decode cc pc = .ok (.ireturn, 1) → W p l e R s m args below meth c H locs cells slots Q (F0 m pc lc [.int v]))
    (hqa : ∀ v, st = [.inr (.inr v)] → q (some (.inr (.inr v))) h → (∃ rt, ret = some rt ∧ ((∃ n, rt = .object n) ∨ ∃ t, rt = .array t)) → decode cc pc = .ok (.areturn, 1) → W p l e R s m args below meth c H locs cells slots Q (F0 m pc lc [.ref (ad v)]))
    (hqv : st = [] → q none h → ret = none → decode cc pc = .ok (.return_, 1) → W p l e R s m args below meth c H locs cells slots Q (F0 m pc lc [])) :
    W p l e R s m args below meth c H locs cells slots Q (F0 m pc lc (st.map (so_v ad))) := by
  simp only [so_row, Bool.and_eq_true] at hrow
  obtain ⟨⟨⟨hck, hck2⟩, hck3⟩, hckr⟩ := hrow
  have hts' : ∀ w ∈ so_G, w.before args s = true := fun w hw => hts w (List.mem_cons_of_mem _ hw)
  cases h1 : so_is1 x.1
  case true =>
    refine so_simple hx hb hck h1 J.2.2.1 hs (fun pc' ls' st' lc' hkk hl' hm1 hm2 => hk _ _ _ _ _ _ _ _ _ _ hkk ?_)
    obtain ⟨hH, hX, hlv, hst, hls, hS, hr⟩ := J
    have ok : ∀ v, so_pm st ls v → so_okv h v := fun v hv => by
      rcases hv with hv | hv | hv
      · exact hst v hv
      · exact hls v hv
      · exact fun k hk => absurd hk (hv k)
    exact ⟨hH, hX, hl', fun v hv => ok v (hm1 v hv), fun v hv => ok v (hm2 v hv), hS, hr⟩
  case false =>
  cases h2 : so_is2 x.1
  case true =>
    refine so_read hx hb hown hts' hEn hck hck2 h2 J hs (fun pc' st' hkk hok => hk _ _ _ _ _ _ _ _ _ _ hkk ?_)
    obtain ⟨hH, hX, hlv, hst, hls, hS, hr⟩ := J
    exact ⟨hH, hX, hlv, hok, hls, hS, hr⟩
  case false =>
  cases h3 : so_is3 x.1
  case true => exact so_write hx hb hown hts' hini hEn hck hck2 h3 J hs (fun pc' st' h' H' locs' hkk J' => hk _ _ _ _ _ _ _ _ _ _ hkk J')
  case false =>
  cases h4 : so_is4 x.1
  case true => exact so_make hx hb hown hts' hA hEn hck hck2 h4 J hs hroom (fun pc' st' ad' h' H' locs' cells' slots' hkk J' => hk _ _ _ _ _ _ _ _ _ _ hkk J')
  case false =>
  cases h5 : so_is5 x.1
  case true => exact so_invoke hIH hx hb hml hown hts hA hEn hRf hRl hck hck3 h5 J hs hroom (fun pc' st' ad' h' H' locs' cells' slots' hkk J' => hk _ _ _ _ _ _ _ _ _ _ hkk J')
  case false =>
  obtain ⟨ins, nx, im, a, b, c', sw⟩ := x
  simp only [so_ck1, Bool.and_eq_true] at hck
  obtain ⟨hd, -⟩ := hck
  cases ins <;> try (first | (cases h1; done) | (cases h2; done) | (cases h3; done) | (cases h4; done) | (cases h5; done) | (exact hs.elim))
  case ireturn =>
    obtain ⟨hd2, hnx⟩ := so_dec hd
    dsimp only [am_step] at hs
    dsimp only [so_ckr] at hckr
    split at hs
    · rename_i v
      cases hc : Nat.beq c' 1 <;> rw [hc] at hs hckr <;> dsimp only [cond] at hs hckr
      · exact hqi v rfl hs (of_decide_eq_true hckr) hd2
      · exact hqz v rfl hs.1 hs.2 (of_decide_eq_true hckr) hd2
    · exact hs.elim
  case areturn =>
    obtain ⟨hd2, hnx⟩ := so_dec hd
    dsimp only [am_step] at hs
    dsimp only [so_ckr] at hckr
    split at hs
    · rename_i v
      refine hqa v rfl hs ?_ hd2
      split at hckr
      · exact ⟨_, rfl, Or.inl ⟨_, rfl⟩⟩
      · exact ⟨_, rfl, Or.inr ⟨_, rfl⟩⟩
      · cases hckr
    · exact hs.elim
  case return_ =>
    obtain ⟨hd2, hnx⟩ := so_dec hd
    dsimp only [am_step] at hs
    dsimp only [so_ckr] at hckr
    split at hs
    · exact hqv rfl hs (of_decide_eq_true hckr) hd2
    · exact hs.elim
/-- a body, from any place to its end -/
theorem so_body {d : Nat} (hIH : ∀ y as h v h1, am_call am_rt am_P d y as h (fun v1 h2 => v1 = v ∧ h2 = h1) → so_Met l d y as h v h1)
    {cc : ByteArray} {nL : Nat} {own : String} {ini : Bool} {hE h0 : am_H} {v0 : Option am_V} {ad0 : am_K → Nat} {nm0 : MethodName} {bs0 : ByteArray} {mL0 : Nat} {ret0 ret : Option FieldType} {tb : List (Nat × List (Nat × am_X))}
    (hx : p.tables.exec = Jvm.exec) (hb : c.code = cc) (hml : c.maxLocals = nL) (hown : s.vm.findClass own = some m.cls) (hts : ∀ w ∈ (Cond.code nm0 bs0 mL0 ret0 :: so_G), w.before args s = true) (hini : ini = true → meth.name = "<init>") (hA : ∀ q, s.heap.size ≤ q → A q) (hEn : so_E dC dI cA A ad0 s) (hr : meth.sig.returnType = ret) (hlocks : meth.locks = false)
    (hRf : d + 1 ≤ R.frames) (hRl : (d + 1) * 64 ≤ R.locals) (hRc : h0.2.2.2.1 = hE.2.2.2.1 + R.cells) (hRs : h0.2.2.2.2 = hE.2.2.2.2 + R.slots)
    (htb : so_tbl own cc nL ret ini tb = true) : ∀ (n pc : Nat) (ad : am_K → Nat) (h : am_H) (ls : am_L) (st : List am_V) (H : Heap) (locs : List Loc) (lc : Array Slot) (cells slots : Nat),
    am_vc am_rt (am_call am_rt am_P d) (am_look tb) (fun _ => false) (fun _ _ _ _ => False) (fun v h1 => v = v0 ∧ h1 = h0) n pc ls st h → so_J dC dI cA A s nL hE ad0 ad h ls st H locs lc cells slots →
    W p l e R s m args below meth c H locs cells slots (MQ below (so_Qc dC dI cA A ad0 hE v0 h0) args s R.cells R.slots A) (F0 m pc lc (st.map (so_v ad))) := by
  intro n
  induction n with
  | zero => intro pc ad h ls st H locs lc cells slots hs; exact hs.elim
  | succ n ih =>
    intro pc ad h ls st H locs lc cells slots hs J
    have hs : am_step am_rt (am_call am_rt am_P d) (am_look tb pc) ls st h (fun pc ls st h => am_vc am_rt (am_call am_rt am_P d) (am_look tb) (fun _ => false) (fun _ _ _ _ => False) (fun v h1 => v = v0 ∧ h1 = h0) n pc ls st h) (fun v h1 => v = v0 ∧ h1 = h0) := hs
    rcases so_look tb pc htb with hl | hl
    · rw [hl] at hs
      exact hs.elim
    · have hend : ∀ v, v = v0 ∧ h = h0 → cells = R.cells ∧ slots = R.slots ∧ so_ex hE h0 ad0 ad := fun v hv => by
        obtain ⟨-, rfl⟩ := hv
        obtain ⟨-, -, -, -, -, -, hc0, hn0, hex, hst3, -⟩ := J
        exact ⟨by omega, by omega, hex, hst3⟩
      refine so_step hIH hx hb hml hown hts hini hA hEn hRf hRl hl J hs (fun pc' ls' st' h' hkk => ?_) (fun pc' ls' st' ad' h' H' locs' lc' cells' slots' hkk J' => ih _ _ _ _ _ _ _ _ _ _ hkk J') (fun v hst hq hret hd => ?_) (fun v hst hv hq hret hd => ?_) (fun v hst hq hret hd => ?_) (fun hst hq hret hd => ?_)
      · have h9 := am_vc_le (am_call_good _ _ _) (am_call_grows _ _ _) hkk
        rw [← hRc, ← hRs]
        exact h9
      · obtain ⟨hc, hn, hex⟩ := hend _ hq
        obtain ⟨rfl, rfl⟩ := hq
        subst hc hn
        exact W.iret hx hb (by rw [hr]; exact hret) (fun t ht hW => ⟨⟨v, ad, rfl, ⟨rfl, hex⟩, by show so_H dC dI cA A ad h t.heap; rw [ht]; exact J.1⟩, J.2.2.2.2.2.1.F ht⟩) J.2.2.2.2.2.1.2.2 hd hlocks
      · obtain ⟨hc, hn, hex⟩ := hend _ hq
        obtain ⟨rfl, rfl⟩ := hq
        subst hc hn
        exact W.zret (ty := .boolean) hx hb (by rw [hr]; exact hret) (by rcases hv with rfl | rfl <;> rfl) (fun t ht hW => ⟨⟨v, ad, rfl, ⟨rfl, hex⟩, by show so_H dC dI cA A ad h t.heap; rw [ht]; exact J.1⟩, J.2.2.2.2.2.1.F ht⟩) J.2.2.2.2.2.1.2.2 hd hlocks
      · obtain ⟨hc, hn, hex⟩ := hend _ hq
        obtain ⟨rfl, rfl⟩ := hq
        subst hc hn
        obtain ⟨rt9, hret, hrt⟩ := hret
        have hal := J.2.2.2.1 (.inr (.inr v)) (by rw [hst]; exact List.mem_cons_self) v rfl
        exact W.aret hx hb (by rw [hr]; exact hret) hrt (Or.inr ⟨_, rfl⟩) (fun t ht hW => ⟨⟨ad, ad v, rfl, ⟨hex, hal⟩, rfl, by rw [ht]; exact J.1⟩, J.2.2.2.2.2.1.F ht⟩) J.2.2.2.2.2.1.2.2 hd hlocks
      · obtain ⟨hc, hn, hex⟩ := hend _ hq
        obtain ⟨rfl, rfl⟩ := hq
        subst hc hn
        exact W.vret hx hb (by rw [hr]; exact hret) (fun t ht hW => ⟨⟨ad, rfl, hex, by show so_H dC dI cA A ad h t.heap; rw [ht]; exact J.1⟩, J.2.2.2.2.2.1.F ht⟩) J.2.2.2.2.2.1.2.2 hd hlocks
end so7
theorem so_loc_mem : ∀ (as : List am_V) (n : Nat) (v : am_V), some v ∈ am_loc as n → v ∈ as := by
  intro as
  induction as with
  | nil =>
    intro n v h
    have h : some v ∈ List.replicate n (none : Option am_V) := h
    cases (List.eq_of_mem_replicate h)
  | cons a as ih =>
    intro n v h
    rcases a with a | (a | a)
    · cases n with
      | zero => cases h
      | succ n =>
        rcases List.mem_cons.mp h with h | h
        · cases h; exact List.mem_cons_self
        · exact List.mem_cons_of_mem _ (ih n v h)
    · match n, h with
      | 0, h => cases h
      | 1, h =>
        have h : some v ∈ some (Sum.inr (Sum.inl a)) :: am_loc as 0 := h
        rcases List.mem_cons.mp h with h | h
        · cases h; exact List.mem_cons_self
        · exact List.mem_cons_of_mem _ (ih 0 v h)
      | n + 2, h =>
        rcases List.mem_cons.mp h with h | h
        · cases h; exact List.mem_cons_self
        · rcases List.mem_cons.mp h with h | h
          · cases h
          · exact List.mem_cons_of_mem _ (ih n v h)
    · cases n with
      | zero => cases h
      | succ n =>
        rcases List.mem_cons.mp h with h | h
        · cases h; exact List.mem_cons_self
        · exact List.mem_cons_of_mem _ (ih n v h)
theorem so_sl_len (ad : am_K → Nat) : ∀ as : List am_V, (lg_sl (as.map (so_v ad))).length = am_cat as := by
  intro as
  induction as with
  | nil => rfl
  | cons a as ih =>
    have e : ∀ v : Value, lg_sl (v :: as.map (so_v ad)) = (if v.category = 2 then [.val v, .second] else [.val v]) ++ lg_sl (as.map (so_v ad)) := fun v => rfl
    rcases a with a | (a | a) <;> (rw [List.map_cons, e, List.length_append, ih]; rfl)
theorem so_lv_none (ad : am_K → Nat) : ∀ (n i : Nat), so_lv ad i (List.replicate n none) = [] := by
  intro n
  induction n with
  | zero => intro i; rfl
  | succ n ih => intro i; exact ih (i + 1)
theorem so_lv_loc (ad : am_K → Nat) : ∀ (as : List am_V) (n i : Nat), am_cat as ≤ n → so_lv ad i (am_loc as n) = lv_args i (as.map (so_v ad)) := by
  intro as
  induction as with
  | nil => intro n i _; exact so_lv_none ad n i
  | cons a as ih =>
    intro n i hn
    rcases a with a | (a | a)
    · cases n with
      | zero => have hn : 1 + am_cat as ≤ 0 := hn; omega
      | succ n =>
        have hn : 1 + am_cat as ≤ n + 1 := hn
        show (i, so_v ad (.inl a)) :: so_lv ad (i + 1) (am_loc as n) = (i, so_v ad (.inl a)) :: lv_args (i + 1) (as.map (so_v ad))
        rw [ih n (i + 1) (by omega)]
    · match n, hn with
      | 0, hn => have hn : 2 + am_cat as ≤ 0 := hn; omega
      | 1, hn => have hn : 2 + am_cat as ≤ 1 := hn; omega
      | n + 2, hn =>
        have hn : 2 + am_cat as ≤ n + 2 := hn
        show (i, so_v ad (.inr (.inl a))) :: so_lv ad (i + 2) (am_loc as n) = (i, so_v ad (.inr (.inl a))) :: lv_args (i + 2) (as.map (so_v ad))
        rw [ih n (i + 2) (by omega)]
    · cases n with
      | zero => have hn : 1 + am_cat as ≤ 0 := hn; omega
      | succ n =>
        have hn : 1 + am_cat as ≤ n + 1 := hn
        show (i, so_v ad (.inr (.inr a))) :: so_lv ad (i + 1) (am_loc as n) = (i, so_v ad (.inr (.inr a))) :: lv_args (i + 1) (as.map (so_v ad))
        rw [ih n (i + 1) (by omega)]
/-- EVERY CALL OF THE SMALL MACHINE IS A CALL OF THE MACHINE -/
theorem so_all (l : Launch) (hok : ∀ y q, so_find so_ml y = some q → so_mok y q) : ∀ d y as h v h1, am_call am_rt am_P d y as h (fun v1 h2 => v1 = v ∧ h2 = h1) → so_Met l d y as h v h1 := by
  intro d
  induction d with
  | zero => intro y as h v h1 hs; exact hs.elim
  | succ d ih =>
    intro y as h v h1 hs nm bs mL ret np ini hmi dC dI cA A ad hoka hsta
    obtain ⟨hpl, hini, tb, hP, htb⟩ := hok y _ hmi
    have hs : (match am_P y with | (cd, m) => Nat.ble (am_cat as) m = true ∧ am_W am_rt (am_call am_rt am_P d) cd 0 (am_loc as m) [] h (fun v1 h2 => v1 = v ∧ h2 = h1)) := hs
    rw [hP] at hs
    obtain ⟨hcat, n, hn⟩ := hs
    have hcat : am_cat as ≤ mL := Nat.le_of_ble_eq_true hcat
    have hle := am_vc_le (am_call_good _ _ _) (am_call_grows _ _ _) hn
    refine Met.ofW (cc := bs) (maxL := mL) (ret := ret) hpl rfl ?_
    intro p e s m args below meth c s₁ B hml hv
    obtain ⟨rfl, hEn, hH, hX, hA⟩ := hv
    have hts := atoms_spec (ws := .code nm bs mL ret :: so_G) B.pre
    have hown : s.vm.findClass nm.cls = some m.cls := findClass_of_methodNamed B.named
    have hin : meth.name = nm.name := (name_of_methodNamed B.named B.method).1
    have hl := lv_entry (as.map (so_v ad)) (n := mL) (by rw [so_sl_len]; exact hcat)
    rw [lg_entry_eq]
    generalize (lg_sl (as.map (so_v ad)) ++ List.replicate (mL - (lg_sl (as.map (so_v ad))).length) Slot.unset).toArray = lc at hl ⊢
    rw [← so_lv_loc ad as mL 0 hcat] at hl
    have h5 := hle.1
    have h6 := hle.2
    exact so_body (R := so_room (d + 1) (h1.2.2.2.1 - h.2.2.2.1) (h1.2.2.2.2 - h.2.2.2.2)) (d := d) ih B.exec B.bytes hml hown hts (fun hi => hin.trans (hini hi)) hA hEn B.returns B.notSynchronized (Nat.le_refl _) (Nat.le_refl _) (by show _ = _ + (_ - _); omega) (by show _ = _ + (_ - _); omega) htb n 0 ad h (am_loc as mL) [] s.heap [] lc 0 0 hn
      ⟨hH, hX, hl, (fun v hv => by cases hv), fun v hv => hoka v (so_loc_mem as mL v hv), va_S.rf, rfl, rfl, fun k n hk => ⟨rfl, hk⟩, fun k hk => ⟨rfl, rfl, rfl⟩, hsta⟩
/-- every call of the small machine, at every depth, is a call of the machine -/
theorem so_met (l : Launch) : ∀ d y as h v h1, am_call am_rt am_P d y as h (fun v1 h2 => v1 = v ∧ h2 = h1) → so_Met l d y as h v h1 := so_all l (fun y q h => so_fin (y, q) (so_find_mem so_ml y q h))
end
section
/-! printed by wip/gen_law.py: the table of the law itself -/
theorem so_split {α : Type} {f : α → Bool} (k : Nat) (l : List α) (h1 : (l.take k).all f = true) (h2 : (l.drop k).all f = true) : l.all f = true := by
  rw [← List.take_append_drop k l, List.all_append, h1, h2]
  rfl
abbrev so_lawrow : Nat × List (Nat × am_X) → Bool := fun ch => ch.2.all (so_row "CrowdOutLaw" code 4 ret false)
theorem ok_law_0 : ((tb_law).take 5).all so_lawrow = true := by decide +kernel
theorem ok_law_1 : (((tb_law).drop 5).take 5).all so_lawrow = true := by decide +kernel
theorem ok_law_2 : ((((tb_law).drop 5).drop 5).take 5).all so_lawrow = true := by decide +kernel
theorem ok_law_3 : (((((tb_law).drop 5).drop 5).drop 5).take 5).all so_lawrow = true := by decide +kernel
theorem ok_law_4 : ((((((tb_law).drop 5).drop 5).drop 5).drop 5).take 5).all so_lawrow = true := by decide +kernel
theorem ok_law_5 : (((((((tb_law).drop 5).drop 5).drop 5).drop 5).drop 5).take 5).all so_lawrow = true := by decide +kernel
theorem ok_law_6 : ((((((((tb_law).drop 5).drop 5).drop 5).drop 5).drop 5).drop 5).take 5).all so_lawrow = true := by decide +kernel
theorem ok_law_7 : (((((((((tb_law).drop 5).drop 5).drop 5).drop 5).drop 5).drop 5).drop 5).take 5).all so_lawrow = true := by decide +kernel
theorem ok_law_8 : ((((((((((tb_law).drop 5).drop 5).drop 5).drop 5).drop 5).drop 5).drop 5).drop 5).take 5).all so_lawrow = true := by decide +kernel
theorem ok_law_9 : (((((((((((tb_law).drop 5).drop 5).drop 5).drop 5).drop 5).drop 5).drop 5).drop 5).drop 5).take 5).all so_lawrow = true := by decide +kernel
theorem ok_law_10 : ((((((((((((tb_law).drop 5).drop 5).drop 5).drop 5).drop 5).drop 5).drop 5).drop 5).drop 5).drop 5).take 5).all so_lawrow = true := by decide +kernel
theorem ok_law_11 : ((((((((((((tb_law).drop 5).drop 5).drop 5).drop 5).drop 5).drop 5).drop 5).drop 5).drop 5).drop 5).drop 5).all so_lawrow = true := by decide +kernel
theorem ok_law : so_tbl "CrowdOutLaw" code 4 ret false tb_law = true := (so_split 5 (tb_law) ok_law_0 (so_split 5 ((tb_law).drop 5) ok_law_1 (so_split 5 (((tb_law).drop 5).drop 5) ok_law_2 (so_split 5 ((((tb_law).drop 5).drop 5).drop 5) ok_law_3 (so_split 5 (((((tb_law).drop 5).drop 5).drop 5).drop 5) ok_law_4 (so_split 5 ((((((tb_law).drop 5).drop 5).drop 5).drop 5).drop 5) ok_law_5 (so_split 5 (((((((tb_law).drop 5).drop 5).drop 5).drop 5).drop 5).drop 5) ok_law_6 (so_split 5 ((((((((tb_law).drop 5).drop 5).drop 5).drop 5).drop 5).drop 5).drop 5) ok_law_7 (so_split 5 (((((((((tb_law).drop 5).drop 5).drop 5).drop 5).drop 5).drop 5).drop 5).drop 5) ok_law_8 (so_split 5 ((((((((((tb_law).drop 5).drop 5).drop 5).drop 5).drop 5).drop 5).drop 5).drop 5).drop 5) ok_law_9 (so_split 5 (((((((((((tb_law).drop 5).drop 5).drop 5).drop 5).drop 5).drop 5).drop 5).drop 5).drop 5).drop 5) ok_law_10 ok_law_11)))))))))))
end
section
/-! THE CLAIM OUT OF ONE WALK OF THE LAW'S BODY. Your part is whole_start (and what it stands on); all else here is the same for every law, but numbers. -/
def R_law : String := "CrowdOutLaw"
def lw_P (b : Addr) (xs : List Int32) (args : Array Value) (s : State) : Prop := args = #[.ref b] ∧ s.IntsAt b xs ∧ xs.length ≤ 2560 ∧ (Jvm.Cond.and given_1 narrow_1).before args s = true
def lw_Q (_ : Array Value) (s : State) (o : Outcome) (t : State) : Prop := o = .returned (some (.int 1)) ∧ Framed s o t [] 600000 7302250
def lw_Z (below : List Frame) (a : Array Value) (s : State) : State → Prop := fun t => ∃ o, t.status = .running ∧ Ended t below o ∧ lw_Q a s o t
/-- the law's own end, with 1 on the stack, nothing written that was there before, its room as the claim has it -/
theorem lw_ret {p : Program} {l : Launch} {e : Env} {s : State} {m : MethodId} {below : List Frame} {meth : Method} {c : Code} {b : Nat} (hx : p.tables.exec = Jvm.exec) (hb : c.code = code) (hr : meth.sig.returnType = ret) (hlocks : meth.locks = false) {pc : Nat} {H : Heap} {ls : Array Slot} (hdg : decode code pc = .ok (.ireturn, 1)) : W p l e room_1 s m #[Value.ref b] below meth c H [] 600000 7302250 (lw_Z below #[Value.ref b] s) (F0 m pc ls [.int 1]) := by
  intro T hT X
  obtain ⟨fs, hret, hrun, hended, hW, hframe⟩ := X.leave (v := some (.int 1)) (hlocks := hlocks) (fun h => by rw [hr] at h; cases h)
  have hmeth' : T.vm.method? m = some meth := X.method'
  refine ⟨T.setFrames fs, ?_, .returned (some (.int 1)), hrun, hended, rfl, ⟨_, rfl⟩, hW, hframe⟩
  jvm_step X.here [X.here.top, hx, hb, hdg, hmeth', hr, ret, narrow_b1]
  (try refine ⟨rfl, ?_⟩); (try refine ⟨rfl, ?_⟩)
  first | (intro acts; rw [hret _ acts rfl rfl rfl]) | rw [hret _ _ rfl rfl rfl]
  exact Steps.refl _
/-- what holds at the law's entry: the machine, the code, the tables' words (any of lw_tbl by 'hts w (by decide +kernel)'), the script of L ints xs at the cell b, what the Statement gives of the start (any of its parts by flat_of_before) -/
def lw_At (p : Program) (s : State) (m : MethodId) (meth : Method) (c : Code) (b L : Nat) (xs : Nat → Int32) : Prop :=
  p.tables.exec = Jvm.exec ∧ c.code = code ∧ meth.sig.returnType = ret ∧ c.maxLocals = 4 ∧ s.vm.findClass R_law = some m.cls ∧ (∀ w ∈ lw_tbl, w.before #[Value.ref b] s = true) ∧ va_X b L xs s s.heap ∧ b < s.heap.size ∧ meth.locks = false ∧ (Jvm.Cond.and given_1 narrow_1).before #[Value.ref b] s = true
/-! what the small machine begins with: the script, the static arrays -/
def ab_st (r : Nat) : List Int32 := bif Nat.beq r 301 then [0, 0, 0, 0, 1] else bif Nat.beq r 302 then [1, 2, 1, 20, 999] else bif Nat.beq r 303 then [100, 10, 0] else bif Nat.beq r 304 then [300, 300, 50] else bif Nat.beq r 305 then [150, 100, 5] else [0, 1, 2, 4, 8, 3, 5, 6, 9, 10, 12, 7, 11, 13, 14, 15]
def ab_I (xs : Nat → Int32) : am_I := fun r _ _ s => bif Nat.beq r 300 then xs s else (ab_st r).getD s 0
def ab_N (L : Nat) : am_N := fun r w j => bif Nat.beq w 0 && Nat.beq j 0 then (bif Nat.beq r 300 then some L else bif Nat.ble 301 r && Nat.ble r 306 then some (ab_st r).length else none) else none
def ab_h (L : Nat) (xs : Nat → Int32) : am_H := (ab_I xs, fun _ _ _ _ => none, ab_N L, 0, 0)
/-- THE CLAIM IN THE SMALL MACHINE: the law comes to its end with 1, within the room -/
def ab_Law : Prop := ∀ (L : Nat) (xs : Nat → Int32), L ≤ 2560 → ∃ h1, am_W am_rt (cl_ 1000) (am_look tb_law) 0 (am_loc [.inr (.inr (300, 0, 0))] 4) [] (ab_h L xs) (fun v h => v = some (.inl 1) ∧ h = h1) ∧ h1.2.2.2.1 ≤ 600000 ∧ h1.2.2.2.2 ≤ 7302250
theorem so_ArrOf {s : State} {cA : ClassId} {k : Class} {comp : ClassId} {ty : FieldType} (h1 : s.vm.classes[cA]? = some k) (h2 : k.kind = .array comp ty) : ArrOfT s cA ty := fun n z => ⟨(fun _ h => by cases h), k, h1, comp, h2⟩
section lawb
variable {p : Program} {l : Launch} {e : Env} {s : State} {m : MethodId} {below : List Frame} {meth : Method} {c : Code}
variable {dC : Nat → ClassId} {dI : Nat → Nat → Nat} {cA : Nat → ClassId}
theorem so_lawbody {b : Nat} {hE h1 : am_H} {ad0 : am_K → Nat} {nm0 : MethodName} {bs0 : ByteArray} {mL0 : Nat} {ret0 : Option FieldType}
    (hx : p.tables.exec = Jvm.exec) (hb : c.code = code) (hml : c.maxLocals = 4) (hown : s.vm.findClass R_law = some m.cls) (hts : ∀ w ∈ (Cond.code nm0 bs0 mL0 ret0 :: so_G), w.before #[Value.ref b] s = true) (hEn : so_E dC dI cA (fun q => s.heap.size ≤ q) ad0 s) (hr : meth.sig.returnType = ret) (hlocks : meth.locks = false)
    (hE0 : hE.2.2.2.1 = 0 ∧ hE.2.2.2.2 = 0) (hc : h1.2.2.2.1 ≤ 600000) (hn : h1.2.2.2.2 ≤ 7302250) : ∀ (n pc : Nat) (ad : am_K → Nat) (h : am_H) (ls : am_L) (st : List am_V) (H : Heap) (locs : List Loc) (lc : Array Slot) (cells slots : Nat),
    am_vc am_rt (cl_ 1000) (am_look tb_law) (fun _ => false) (fun _ _ _ _ => False) (fun v h2 => v = some (.inl 1) ∧ h2 = h1) n pc ls st h → so_J dC dI cA (fun q => s.heap.size ≤ q) s 4 hE ad0 ad h ls st H locs lc cells slots →
    W p l e room_1 s m #[Value.ref b] below meth c H locs cells slots (lw_Z below #[Value.ref b] s) (F0 m pc lc (st.map (so_v ad))) := by
  intro n
  induction n with
  | zero => intro pc ad h ls st H locs lc cells slots hs; exact hs.elim
  | succ n ih =>
    intro pc ad h ls st H locs lc cells slots hs J
    have hs : am_step am_rt (am_call am_rt am_P 1000) (am_look tb_law pc) ls st h (fun pc ls st h => am_vc am_rt (cl_ 1000) (am_look tb_law) (fun _ => false) (fun _ _ _ _ => False) (fun v h2 => v = some (.inl 1) ∧ h2 = h1) n pc ls st h) (fun v h2 => v = some (.inl 1) ∧ h2 = h1) := hs
    rcases so_look tb_law pc ok_law with hl | hl
    · rw [hl] at hs
      exact hs.elim
    · have hret : ret = some .boolean := rfl
      refine so_step (d := 1000) (so_met l 1000) hx hb hml hown hts (fun h => by cases h) (fun _ h => h) hEn (by decide) (by decide) hl J hs (fun pc' ls' st' h' hkk => ?_) (fun pc' ls' st' ad' h' H' locs' lc' cells' slots' hkk J' => ih _ _ _ _ _ _ _ _ _ _ hkk J') (fun v hst hq hr2 hd => by rw [hret] at hr2; cases hr2) (fun v hst hv hq hr2 hd => ?_) (fun v hst hq hr2 hd => by obtain ⟨rt, h8, h9⟩ := hr2; rw [hret] at h8; cases h8; rcases h9 with ⟨_, h9⟩ | ⟨_, h9⟩ <;> cases h9) (fun hst hq hr2 hd => by rw [hret] at hr2; cases hr2)
      · have h9 := am_vc_le (am_call_good _ _ _) (am_call_grows _ _ _) hkk
        have h5 := h9.1
        have h6 := h9.2
        rw [hE0.1, hE0.2]
        show h'.2.2.2.1 ≤ 0 + 600000 ∧ h'.2.2.2.2 ≤ 0 + 7302250
        omega
      · obtain ⟨hq1, rfl⟩ := hq
        cases hq1
        obtain ⟨-, -, -, -, -, hS, hc0, hn0, -⟩ := J
        refine va_forget (fun q hq => hS.2.2 q hq) (W.widen (k := 600000) (n := 7302250) (by omega) (by omega) (lw_ret hx hb hr hlocks hd))
end lawb
/-- the static arrays as the Statement gives them -/
theorem ab_stat {b : Nat} {s : State} (hts : ∀ w ∈ lw_tbl, w.before #[Value.ref b] s = true) (hgv : (Jvm.Cond.and given_1 narrow_1).before #[Value.ref b] s = true) : ∀ r, 301 ≤ r → r ≤ 306 → ∃ t : Nat, va_Z "CrowdOut" (so_sn r) "[I" (.ref t) (fun q => s.heap.size ≤ q) s s.heap ∧ va_T .int t (ab_st r).length (fun j => .int ((ab_st r).getD j 0)) (fun q => s.heap.size ≤ q) s s.heap := by
  have hs := flat_of_before _ hgv
  have hA : ∀ a : Nat, a < s.heap.size → ¬ (fun q => s.heap.size ≤ q) a := fun a ha h => absurd h (Nat.not_le.mpr ha)
  have one : ∀ (nm : String) (vs : List Int32), vs.length < 100 → (Cond.laysStatic "CrowdOut" nm "[I") ∈ lw_tbl → (Cond.arrayOf (.static "CrowdOut" nm "[I") .int) ∈ flatC (Jvm.Cond.and given_1 narrow_1) → (Cond.eq (.length (.static "CrowdOut" nm "[I")) (.int (Int32.ofNat vs.length))) ∈ flatC (Jvm.Cond.and given_1 narrow_1) →
      (∀ j, j < vs.length → (Cond.eq (.elem (.static "CrowdOut" nm "[I") (.int (Int32.ofNat j))) (.int (vs.getD j 0))) ∈ flatC (Jvm.Cond.and given_1 narrow_1)) → ∃ t : Nat, va_Z "CrowdOut" nm "[I" (.ref t) (fun q => s.heap.size ≤ q) s s.heap ∧ va_T .int t vs.length (fun j => .int (vs.getD j 0)) (fun q => s.heap.size ≤ q) s s.heap := by
    intro nm vs hl h1 h2 h3 h4
    obtain ⟨t, ht, hT⟩ := va_Tof (f := fun j => .int (vs.getD j 0)) (N := vs.length) (by omega) (hs _ h2) (va_eqt (hs _ h3)) (fun j hj => va_eqt (hs _ (h4 j hj))) hA
    exact ⟨t, va_Zref (hts _ h1) (hts (.initialized "CrowdOut") (by decide +kernel)) ht hA, hT⟩
  intro r h1 h2
  have h3 : r = 301 ∨ r = 302 ∨ r = 303 ∨ r = 304 ∨ r = 305 ∨ r = 306 := by omega
  rcases h3 with rfl | rfl | rfl | rfl | rfl | rfl
  · exact one "LINK_LEAST" [0, 0, 0, 0, 1] (by decide) (by decide +kernel) (by decide +kernel) (by decide +kernel) (by decide +kernel)
  · exact one "LINK_MOST" [1, 2, 1, 20, 999] (by decide) (by decide +kernel) (by decide +kernel) (by decide +kernel) (by decide +kernel)
  · exact one "RULE_LEAST" [100, 10, 0] (by decide) (by decide +kernel) (by decide +kernel) (by decide +kernel) (by decide +kernel)
  · exact one "RULE_MOST" [300, 300, 50] (by decide) (by decide +kernel) (by decide +kernel) (by decide +kernel) (by decide +kernel)
  · exact one "RULE_FIRST" [150, 100, 5] (by decide) (by decide +kernel) (by decide +kernel) (by decide +kernel) (by decide +kernel)
  · exact one "CHOICES" [0, 1, 2, 4, 8, 3, 5, 6, 9, 10, 12, 7, 11, 13, 14, 15] (by decide) (by decide +kernel) (by decide +kernel) (by decide +kernel) (by decide +kernel)
/-- the classes as the tables have them -/
theorem ab_cls {b : Nat} {s : State} (hts : ∀ w ∈ lw_tbl, w.before #[Value.ref b] s = true) : ∃ (dC : Nat → ClassId) (dI : Nat → Nat → Nat), ∀ (k : Nat) (q : vw_C), am_cls[k]? = some q → u_Kn s q.1 q.2.1 q.2.2 (dC k) (dI k) := by
  have one : ∀ k : Nat, ∃ (c9 : ClassId) (i9 : Nat → Nat), ∀ q : vw_C, am_cls[k]? = some q → u_Kn s q.1 q.2.1 q.2.2 c9 i9 := by
    intro k
    cases hk : am_cls[k]? with
    | none => exact ⟨0, fun _ => 0, fun q h => by cases h⟩
    | some q =>
      have hin : ∀ w ∈ u_ws q.1 q.2.1 q.2.2, w ∈ lw_tbl := fun w hw => (List.mem_filter.mp ((so_cls k q hk).1 w hw)).1
      have hinst : Cond.instantiable q.1 q.2.2 ∈ lw_tbl := by
        have : ∀ q ∈ am_cls, Cond.instantiable q.1 q.2.2 ∈ lw_tbl := by decide +kernel
        exact this q (List.mem_of_getElem? hk)
      obtain ⟨c9, i9, h⟩ := u_known (C := q.1) (T := q.2.1) (N := q.2.2) (n := q.2.2) hts hin (hts _ hinst)
      exact ⟨c9, i9, fun q' h' => by cases h'; exact h⟩
  exact ⟨fun k => Classical.choose (one k), fun k => Classical.choose (Classical.choose_spec (one k)), fun k q hq => Classical.choose_spec (Classical.choose_spec (one k)) q hq⟩
theorem ab_arr {b : Nat} {s : State} (hts : ∀ w ∈ lw_tbl, w.before #[Value.ref b] s = true) : ∃ cA : Nat → ClassId, ∀ (k : Nat) (q : ClassId × FieldType), (so_tys cA)[k]? = some q → ArrOfT s q.1 q.2 ∧ va_RA s q.1 q.2 := by
  have p1 : ∀ ty : FieldType, (∀ C, ty ≠ .object C) → Cond.arrayClass ty ∈ lw_tbl → ∃ c9 : ClassId, ArrOfT s c9 ty ∧ va_RA s c9 ty := fun ty hno hm => by
    obtain ⟨c9, k9, comp, f1, f2, f3⟩ := Cond.arrayClass_spec (show (Cond.arrayClass ty).holds #[Value.ref b] s none s [] = true from hts _ hm)
    refine ⟨c9, so_ArrOf f2 f3, ?_⟩
    cases ty with
    | object C => exact absurd rfl (hno C)
    | _ => exact f1
  have p2 : ∀ C : String, Cond.arrayOver (.object C) ∈ lw_tbl → ∃ c9 : ClassId, ArrOfT s c9 (.object C) ∧ va_RA s c9 (.object C) := fun C hm => by
    obtain ⟨comp, c9, k9, f1, -, f2, f3, f4⟩ := Cond.arrayOver_spec (show (Cond.arrayOver (.object C)).holds #[Value.ref b] s none s [] = true from hts _ hm)
    exact ⟨c9, so_ArrOf f2 f3, k9, comp, f2, f3, f1, f4⟩
  obtain ⟨c0, h0⟩ := p1 .int (fun _ h => by cases h) (by decide +kernel)
  obtain ⟨c1, h1⟩ := p1 .boolean (fun _ h => by cases h) (by decide +kernel)
  obtain ⟨c2, h2⟩ := p1 .byte (fun _ h => by cases h) (by decide +kernel)
  obtain ⟨c3, h3⟩ := p1 .short (fun _ h => by cases h) (by decide +kernel)
  obtain ⟨c4, h4⟩ := p2 RX0 (by decide +kernel)
  obtain ⟨c5, h5⟩ := p2 RX1 (by decide +kernel)
  obtain ⟨c6, h6⟩ := p2 RX3 (by decide +kernel)
  obtain ⟨c7, h7⟩ := p2 RX4 (by decide +kernel)
  obtain ⟨c8, h8⟩ := p2 RX7 (by decide +kernel)
  refine ⟨fun k => if k = 100 then c0 else if k = 101 then c1 else if k = 102 then c2 else if k = 103 then c3 else if k = 110 then c4 else if k = 111 then c5 else if k = 113 then c6 else if k = 114 then c7 else c8, fun k q hq => ?_⟩
  match k, hq with
  | 0, hq => cases hq; exact h0
  | 1, hq => cases hq; exact h1
  | 2, hq => cases hq; exact h2
  | 3, hq => cases hq; exact h3
  | 4, hq => cases hq; exact h4
  | 5, hq => cases hq; exact h5
  | 6, hq => cases hq; exact h6
  | 7, hq => cases hq; exact h7
  | 8, hq => cases hq; exact h8
  | k + 9, hq => simp [so_tys] at hq
/-- from the entry, for every script of at most 2560 ints, the law comes to its end with true: out of ab_Law -/
theorem whole_start (hab : ab_Law) {p : Program} {e : Env} {s : State} {m : MethodId} {below : List Frame} {meth : Method} {c : Code} (l : Launch) {b L : Nat} {xs : Nat → Int32} (hL : L ≤ 2560) (C0 : lw_At p s m meth c b L xs) : W p l e room_1 s m #[Value.ref b] below meth c s.heap [] 0 0 (lw_Z below #[Value.ref b] s) (entryFrame m ([Value.ref b] : List Value).toArray 4) := by
  obtain ⟨hx, hb, hr, hml, hown, hts, hX, hbl, hlocks, hgv⟩ := id C0
  obtain ⟨dC, dI, hKc⟩ := ab_cls hts
  obtain ⟨cA, hKa⟩ := ab_arr hts
  have hsts := ab_stat hts hgv
  obtain ⟨h1, ⟨n, hn⟩, hc1, hn1⟩ := hab L xs hL
  have hch : ∃ adS : Nat → Nat, ∀ r, 301 ≤ r → r ≤ 306 → va_Z "CrowdOut" (so_sn r) "[I" (.ref (adS r)) (fun q => s.heap.size ≤ q) s s.heap ∧ va_T .int (adS r) (ab_st r).length (fun j => .int ((ab_st r).getD j 0)) (fun q => s.heap.size ≤ q) s s.heap := by
    have h9 : ∀ r, ∃ t, 301 ≤ r → r ≤ 306 → va_Z "CrowdOut" (so_sn r) "[I" (.ref t) (fun q => s.heap.size ≤ q) s s.heap ∧ va_T .int t (ab_st r).length (fun j => .int ((ab_st r).getD j 0)) (fun q => s.heap.size ≤ q) s s.heap := fun r => by
      by_cases h1 : 301 ≤ r ∧ r ≤ 306
      · obtain ⟨t, ht⟩ := hsts r h1.1 h1.2
        exact ⟨t, fun _ _ => ht⟩
      · exact ⟨0, fun a b => absurd ⟨a, b⟩ h1⟩
    exact ⟨fun r => Classical.choose (h9 r), fun r => Classical.choose_spec (h9 r)⟩
  obtain ⟨adS, hadS⟩ := hch
  obtain ⟨ad, had⟩ : ∃ ad : am_K → Nat, ∀ k : am_K, ad k = if k.1 = 300 then b else adS k.1 := ⟨_, fun _ => rfl⟩
  have hG : ∀ w ∈ so_G, w.before #[Value.ref b] s = true := fun w hw => hts w (List.mem_filter.mp hw).1
  have hEn : so_E dC dI cA (fun q => s.heap.size ≤ q) ad s := by
    refine ⟨⟨hKc, hKa⟩, fun C hC => ?_, ⟨fun own i x host hm => va_Nw.of rfl (hts _ hm), fun own i r n d host hm => va_Nw.of rfl (hts _ hm), va_Nw.of rfl (hts (.castable "[I" "java/lang/Cloneable") (by decide +kernel))⟩, fun r h1 h2 => ?_⟩
    · have : ∀ C ∈ [RX0, RX1, RX3, RX4, RX7], Cond.arrayOver (.object C) ∈ lw_tbl := by decide +kernel
      exact va_AO.of (hts _ (this C hC))
    · rw [had, if_neg (by show ¬ r = 300; omega)]
      exact (hadS r h1 h2).1
  have hNn : ∀ (r w j n : Nat), ab_N L r w j = some n → w = 0 ∧ j = 0 ∧ ((r = 300 ∧ n = L) ∨ (301 ≤ r ∧ r ≤ 306 ∧ n = (ab_st r).length)) := by
    intro r w j n hn
    unfold ab_N at hn
    cases hwj : (Nat.beq w 0 && Nat.beq j 0) <;> rw [hwj] at hn
    · cases hn
    · simp only [Bool.and_eq_true] at hwj
      refine ⟨so_beq hwj.1, so_beq hwj.2, ?_⟩
      dsimp only [cond] at hn
      cases h3 : Nat.beq r 300 <;> rw [h3] at hn <;> dsimp only at hn
      · cases h4 : (Nat.ble 301 r && Nat.ble r 306) <;> rw [h4] at hn
        · cases hn
        · cases hn
          simp only [Bool.and_eq_true] at h4
          exact Or.inr ⟨Nat.le_of_ble_eq_true h4.1, Nat.le_of_ble_eq_true h4.2, rfl⟩
      · cases hn
        exact Or.inl ⟨so_beq h3, rfl⟩
  have hno : ∀ k, ¬ so_al (ab_h L xs) k := fun k hk => by
    obtain ⟨h3, n, hn⟩ := hk
    obtain ⟨-, -, h4⟩ := hNn _ _ _ _ hn
    omega
  have hl := lv_entry ([.ref b]) (n := 4) (Nat.le_of_ble_eq_true rfl)
  rw [lg_entry_eq]
  generalize (lg_sl ([.ref b]) ++ List.replicate (4 - (lg_sl ([.ref b])).length) Slot.unset).toArray = lc at hl ⊢
  have hl : lv_has lc 4 (so_lv ad 0 (am_loc [.inr (.inr (300, 0, 0))] 4)) := by
    have e9 : so_lv ad 0 (am_loc [.inr (.inr (300, 0, 0))] 4) = [(0, .ref b)] := by
      show [(0, Value.ref (ad (300, 0, 0)))] = _
      rw [had]; rfl
    rw [e9]
    exact hl
  have hcw : Cond.code ⟨"CrowdOutModel", "isArea", "(I)Z"⟩ prog_13_method_3_code 2 (some .boolean) ∈ so_G := by decide +kernel
  refine so_lawbody (h1 := h1) (hE := ab_h L xs) (ad0 := ad) hx hb hml hown (fun w hw => by rcases List.mem_cons.mp hw with rfl | hw; exact hG _ hcw; exact hG w hw) hEn hr hlocks ⟨rfl, rfl⟩ hc1 hn1 n 0 ad (ab_h L xs) (am_loc [.inr (.inr (300, 0, 0))] 4) [] s.heap [] lc 0 0 hn ?_
  refine ⟨⟨[], fun k => ⟨(fun h => by cases h), fun h => absurd h (hno k)⟩, fun k q h => by simp [so_ws] at h, ⟨fun i j p q h => by simp [so_ws] at h, fun k q h => by simp [so_ws] at h⟩, fun k hk => absurd hk (hno k), fun k hk => absurd hk (hno k), fun k hk => absurd hk (hno k)⟩, fun k hk n9 hn9 => ?_, hl, (fun v hv => by cases hv), fun v hv => ?_, va_S.rf, rfl, rfl, fun k n hk => ⟨rfl, hk⟩, fun k hk => ⟨rfl, rfl, rfl⟩, fun r h1 h2 => ?_⟩
  · obtain ⟨r, w, j⟩ := k
    obtain ⟨rfl, rfl, h4⟩ := hNn _ _ _ _ hn9
    rcases h4 with ⟨h4, h5⟩ | ⟨h4, h5, h6⟩
    · have h4 : r = 300 := h4
      subst h4 h5
      rw [had, if_pos rfl]
      obtain ⟨scr, f1, f2, f3, f4, f5⟩ := hX
      exact ⟨scr, f1, f2, f3, Nat.le_of_eq f4.symm, (congrArg Nat.toInt32 f4 : _ = _), fun j hj => f5 j hj, fun h => absurd h (Nat.not_le.mpr hbl)⟩
    · have h4 : 301 ≤ r := h4
      have h5 : r ≤ 306 := h5
      subst h6
      rw [had, if_neg (by show ¬ r = 300; omega)]
      have h7 : Nat.beq r 300 = false := by rw [Bool.eq_false_iff]; intro h8; have := so_beq h8; omega
      have e9 : (ab_h L xs).1 r 0 0 = fun j => (ab_st r).getD j 0 := by
        funext j
        show (bif Nat.beq r 300 then xs j else (ab_st r).getD j 0) = _
        rw [h7]; rfl
      show va_T .int (adS r) (ab_st r).length (fun j => .int ((ab_h L xs).1 r 0 0 j)) _ s s.heap
      rw [e9]
      exact (hadS r h4 h5).2
  · have hv := so_loc_mem _ _ _ hv
    rcases List.mem_cons.mp hv with rfl | hv
    · intro k hk
      cases hk
      exact ⟨L, rfl⟩
    · cases hv
  · have h3 : r = 301 ∨ r = 302 ∨ r = 303 ∨ r = 304 ∨ r = 305 ∨ r = 306 := by omega
    rcases h3 with rfl | rfl | rfl | rfl | rfl | rfl <;> exact ⟨_, rfl⟩
-- ===== YOUR PART ENDS =====
set_option maxHeartbeats 4000000 in
theorem lw_walk (hab : ab_Law) (l : Launch) (b : Addr) (xs : List Int32) : MetFree l x (headSpec (Jvm.Cond.code x code maxLocals ret :: tables_1) room_1) (lw_P b xs) (fun _ _ _ _ _ => True) lw_Q := by
  refine MetFree.of_bodyS (code := code) (maxLocals := maxLocals) (ret := ret) (by decide) ?_ ?_
  · intro args s m h hn
    obtain ⟨meth, c, h1, h2, h3, h4, h5, h6, -, -⟩ := Cond.code_spec hn (atoms_spec (ws := Jvm.Cond.code x code maxLocals ret :: tables_1) h _ List.mem_cons_self)
    exact ⟨meth, c, h1, h2, h3, h4, h5, h6⟩
  · intro p e s m args below meth c s₁ B hml0 hP _
    obtain ⟨rfl, hx, hbd, hgv⟩ := hP
    obtain ⟨scr, harrAt, hlist, hof, hsmall⟩ := hx
    obtain ⟨hcb, hkn, -, -⟩ := State.arrayAt?_spec harrAt
    have hown : s.vm.findClass R_law = some m.cls := findClass_of_methodNamed B.named
    have hts0 : ∀ c ∈ (Jvm.Cond.code x code maxLocals ret :: tables_1), c.before #[Value.ref b] s = true := atoms_spec (ws := Jvm.Cond.code x code maxLocals ret :: tables_1) B.pre
    have hts : ∀ w ∈ lw_tbl, w.before #[Value.ref b] s = true := k2_hts_sels lw_privs (fun w hw => hts0 w (List.mem_cons_of_mem _ hw)) lw_privs_ok
    have hml : c.maxLocals = 4 := B.maxLocals_eq (hts0 _ List.mem_cons_self)
    have X₀ : Stand p l e room_1 s m #[Value.ref b] below meth c s₁ [] 0 0 := Stand.of_body B
    have hh0 : s₁.heap = s.heap := by rw [B.state]; rfl
    have hsz : scr.slots.size = xs.length := by rw [← Array.length_toList, hlist, List.length_map]
    have hval : ∀ j : Nat, j < xs.length → scr.slots[j]? = some (.int (xs.getD j 0)) := fun j hj => by
      rw [← Array.getElem?_toList, hlist]
      simp [hj]
    have hbl : b < s.heap.size := (Array.getElem?_eq_some_iff.mp hcb).1
    have hX : va_X b xs.length (fun j => xs.getD j 0) s s.heap := ⟨scr, hcb, hof, hkn, hsz, hval⟩
    have K : W p l e room_1 s m #[Value.ref b] below meth c s₁.heap [] 0 0 (lw_Z below #[Value.ref b] s) (entryFrame m ([Value.ref b] : List Value).toArray 4) := by
      rw [hh0]
      exact whole_start hab l hbd ⟨B.exec, B.bytes, B.returns, hml, hown, hts, hX, hbl, B.notSynchronized, hgv⟩
    obtain ⟨t, a1, o, b1, b2, b3⟩ := K s₁ rfl X₀
    exact ⟨t, o, a1, b1, b2, b3⟩
theorem lw_pre_spec {args : Array Value} {s : State} (h : (Jvm.Cond.and given_1 narrow_1).before args s = true) (hr : rest_1_c.before args s = true) : ∃ (b : Addr) (xs : List Int32), lw_P b xs args s := by
  have hs := flat_of_before _ h
  have hq := flat_of_before _ hr
  have hc : (Cond.count 1).before args s = true := hs _ (by decide +kernel)
  have harr : (Cond.arrayOf (.arg 0) .int).before args s = true := hs _ (by decide +kernel)
  have hle : (Cond.le (.length (.arg 0)) (.int 2560)).before args s = true := hs _ (by decide +kernel)
  have hlen : (Cond.isInt (.length (.arg 0))).before args s = true := hq _ (by decide +kernel)
  have hall : (Cond.all (.arg 0) (.isInt (.elem (.arg 0) (.index 0)))).before args s = true := hq _ (by decide +kernel)
  obtain ⟨b, xs, hb, hx⟩ := State.ints_of_pre rfl harr hlen hall
  have hsm : xs.length < 2 ^ 31 := hx.choose_spec.2.2.2
  have hev : (Term.length (.arg 0)).eval args s none [] s = some (.int xs.length.toInt32) := hx.length_eval hb
  have hv := Cond.le_ints hev (show (Term.int 2560).eval args s none [] s = some (.int 2560) from rfl)
  have hd : xs.length.toInt32 ≤ 2560 := by
    simpa [Cond.before, Cond.holds, hv] using hle
  have hN : xs.length ≤ 2560 := (Int32.ofNat_le_ofNat hsm (by decide)).mp (show Int32.ofNat xs.length ≤ Int32.ofNat 2560 from hd)
  exact ⟨b, xs, Cond.one_arg hc (show args[0]? = some (.ref b) from hb), hx, hN, h⟩
theorem lw_comes (hab : ab_Law) (l : Launch) : Comes l x (Jvm.Cond.code x code maxLocals ret :: tables_1) room_1 (fun tb e args s => Calls_1 tb e args s ∧ rest_1 tb e args s ∧ Pre_1 tb e args s)
    (fun _ _ args s o t => lw_Q args s o t) := by
  intro p e ha hc hk s m args below hf hfit hheap happ hpre
  obtain ⟨b, xs, hP⟩ := lw_pre_spec hpre.2.2 hpre.2.1
  obtain ⟨k, o, h1, h2, h3, hQ⟩ := lw_walk hab l b xs p e ha hc hk s m args below hf ((Spec.applies_iff_loose hf).mp happ).1 hP trivial
  exact ⟨k, o, h1, h2, h3, hQ⟩
theorem lw_frame {s t : State} {o : Outcome} {args : Array Value} (h : Framed s o t [] 600000 7302250) :
    Framed s o t (fieldLocs frame_1_writes args s ++ arrayLocs frame_1_arrays args s ++ staticLocs frame_1_statics s) 600000 7302250 := h
theorem lw_limb (hab : ab_Law) (L : Cond) (hL : ∀ (args : Array Value) (s t : State), L.after args s (.returned (some (.int 1))) t = true) :
    ArmFor flags0 classFile x code maxLocals ret World_1 tables_1 room_1 Calls_1 rest_1 Pre_1
      (fun tb e a s o t => postC L tb e a s o t ∧ Framed s o t (fieldLocs frame_1_writes a s ++ arrayLocs frame_1_arrays a s ++ staticLocs frame_1_statics s) 600000 7302250) := by
  intro l _ _ _ p e ha hc hk s m args below hf hfit hheap happ hpre
  obtain ⟨k, o, h1, h2, h3, rfl, hF⟩ := lw_comes hab l p e ha hc hk s m args below hf hfit hheap happ hpre
  exact ⟨k, _, h1, h2, h3, hL args s _, lw_frame hF⟩
theorem i_vc_of (hab : ab_Law) : Claimed_1_1 ∧ Claimed_1_2 := ⟨lw_limb hab limb_1_1 (fun args s t => by simp [limb_1_1, Cond.after, Cond.holds, Cond.value]), lw_limb hab limb_1_2 (fun args s t => Cond.after_iff.mpr (by
  first | (rw [show limb_1_2 = Cond.eq .result (.int 1) from rfl, Cond.eq_ints (x := 1) (y := 1) rfl rfl]; simp; done) | (simp [limb_1_2, Cond.value, Term.eval]; done)))⟩
end
section
/-! CONTRACTS OF CrowdOutModel, part 1: leaves -/
theorem c_M_isArea {d : Nat} {a : Int32} {I : am_I} {g : Nat → Nat → Nat} {c n : Nat} {q : am_Q} (hq : q (some (.inl (if 0 ≤ a ∧ a < I 199 0 0 2 then 1 else 0))) (I, ss_ g c n)) : cl_ (d + 1) 1102 [am_m, .inl a] (I, ss_ g c n) q := by
  refine am_in am_no 30 rfl rfl fun call K hg hc hK => ?_
  refine And.intro (fun c1 => ?_) (fun c1 => ?_)
  · refine And.intro (Or.inl rfl) ?_
    rw [if_neg (by intro h; exact absurd c1 (Int32.not_lt.mpr h.1))] at hq
    exact hq
  · refine And.intro (fun c2 => ?_) (fun c2 => ?_)
    · refine And.intro (Or.inl rfl) ?_
      rw [if_neg (by intro h; exact absurd h.2 (Int32.not_lt.mpr c2))] at hq
      exact hq
    · refine And.intro (Or.inr rfl) ?_
      rw [if_pos ⟨Int32.not_lt.mp c1, Int32.not_le.mp c2⟩] at hq
      exact hq
/-- a refusal is counted -/
def m_no (I : am_I) (j : Nat) : am_I := am_set I 272 0 0 j (I 272 0 0 j + 1)
theorem c_M_no {d : Nat} {k : Int32} {j : Nat} {I : am_I} {g : Nat → Nat → Nat} {c n : Nat} {q : am_Q} (hk : -k = nI j) (hj : j < 7) (hq : q (some (.inl k)) (m_no I j, ss_ g c n)) : cl_ (d + 1) 1101 [am_m, .inl k] (I, ss_ g c n) q := by
  refine am_in am_no 30 rfl rfl fun call K hg hc hK => ?_
  have hi : vp_in (-k) 7 := by rw [hk]; exact vp_in_nI hj (by decide)
  have hc : (-k).toNatClampNeg = j := by rw [hk]; exact nI_clamp (by omega)
  refine And.intro hi ?_
  refine And.intro hi ?_
  (conv => whnf)
  rw [hc]
  exact hq
/-- PRESS of an area in the world z -/
def m_press (I : am_I) (z a : Nat) : Int32 := if I 203 0 0 a = 3 then 0 else 100 * I 205 0 0 (z * 20 + a) / I 204 0 0 a
theorem c_M_pressOf {d : Nat} {z a : Nat} {I : am_I} {g : Nat → Nat → Nat} {c n : Nat} {q : am_Q} (ha : a < 20) (hz : I 199 0 0 0 = nI z) (hz2 : z < 2) (hr : ¬ I 204 0 0 a = 0) (hq : q (some (.inl (m_press I z a))) (I, ss_ g c n)) : cl_ (d + 1) 1115 [am_m, .inl (nI a)] (I, ss_ g c n) q := by
  refine am_in am_no 40 rfl rfl fun call K hg hc hK => ?_
  have hca : (nI a).toNatClampNeg = a := nI_clamp (by omega)
  have hidx : I 199 0 0 0 * 20 + nI a = nI (z * 20 + a) := by
    rw [hz, show (20 : Int32) = nI 20 from rfl, pk_mul, nI_add]
  refine And.intro (vp_in_nI ha (by decide)) ?_
  refine And.intro (fun c1 => ?_) (fun c1 => ?_)
  · refine And.intro (by rw [hidx]; exact vp_in_nI (by omega) (by decide)) ?_
    refine And.intro (vp_in_nI ha (by decide)) ?_
    refine And.intro (by rw [hca]; exact hr) ?_
    (conv => whnf)
    rw [hca] at c1
    rw [m_press, if_neg c1] at hq
    rw [hidx, hca, nI_clamp (by omega)]
    exact hq
  · (conv => whnf)
    rw [hca] at c1
    rw [m_press, if_pos c1] at hq
    exact hq
theorem c_M_endOf {d : Nat} {l a : Nat} {I : am_I} {g : Nat → Nat → Nat} {c n : Nat} {q : am_Q} (hl : l < 30) (hq : q (some (.inl (if I 213 0 0 l = nI a then I 214 0 0 l else I 213 0 0 l))) (I, ss_ g c n)) : cl_ (d + 1) 1117 [am_m, .inl (nI l), .inl (nI a)] (I, ss_ g c n) q := by
  refine am_in am_no 40 rfl rfl fun call K hg hc hK => ?_
  have hcl : (nI l).toNatClampNeg = l := nI_clamp (by omega)
  refine And.intro (vp_in_nI hl (by decide)) ?_
  refine And.intro (fun c1 => ?_) (fun c1 => ?_)
  · refine And.intro (vp_in_nI hl (by decide)) ?_
    (conv => whnf)
    rw [hcl] at c1 ⊢
    rw [if_neg c1] at hq
    exact hq
  · refine And.intro (vp_in_nI hl (by decide)) ?_
    (conv => whnf)
    rw [hcl] at c1 ⊢
    rw [if_pos c1] at hq
    exact hq
end
section
/-! CONTRACTS OF CrowdOutModel, part 2: a first loop -/
/-- the heads of folk f on link l: the sum of k of its 18 places -/
def m_onl (I : am_I) (b : Nat) : Nat → Int32
  | 0 => 0
  | k + 1 => m_onl I b k + I 228 0 0 (b + k)
theorem c_M_onLink {d : Nat} {f l : Nat} {I : am_I} {g : Nat → Nat → Nat} {c n : Nat} {q : am_Q} (hf : f < 24) (hl : l < 30) (hq : q (some (.inl (m_onl I ((f * 30 + l) * 18) 18))) (I, ss_ g c n)) : cl_ (d + 1) 1135 [am_m, .inl (nI f), .inl (nI l)] (I, ss_ g c n) q := by
  refine am_in (fun pc => Nat.beq pc 5) 40 rfl rfl fun call K hg hc hK => ?_
  (conv => whnf)
  refine hK ?_
  have loop : ∀ (m k : Nat), k + m = 18 → am_W am_rt call (am_look tb_M_onLink) 5 [some am_m, some (.inl (nI f)), some (.inl (nI l)), some (.inl (m_onl I ((f * 30 + l) * 18) k)), some (.inl (nI k))] [] (I, ss_ g c n) q := by
    intro m
    induction m with
    | zero =>
      intro k hk
      have hk : k = 18 := by omega
      subst hk
      refine am_go hg (fun pc => Nat.beq pc 5) 40 fun K hK => ?_
      refine And.intro (fun c1 => ?_) (fun c1 => ?_)
      · exact hq
      · exact absurd (show (18 : Int32) ≤ nI 18 by decide) c1
    | succ m ih =>
      intro k hk
      refine am_go hg (fun pc => Nat.beq pc 5) 40 fun K hK => ?_
      have hidx : (nI f * 30 + nI l) * 18 + nI k = nI ((f * 30 + l) * 18 + k) := by
        rw [show (30 : Int32) = nI 30 from rfl, show (18 : Int32) = nI 18 from rfl, pk_mul, nI_add, pk_mul, nI_add]
      refine And.intro (fun c1 => ?_) (fun c1 => ?_)
      · exact absurd c1 (nI_ge (show k < 18 by omega) (by decide))
      · refine And.intro (by rw [hidx]; exact vp_in_nI (by omega) (by decide)) ?_
        (conv => whnf)
        refine hK ?_
        rw [hidx, nI_clamp (by omega), show nI k + 1 = nI (k + 1) from nI_1 k]
        exact ih (k + 1) (by omega)
  exact loop 18 0 rfl
end
