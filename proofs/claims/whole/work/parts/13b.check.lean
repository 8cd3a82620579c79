/-! THE SMALL MACHINE IS SOUND: what a table must say -/
/-- what a row of a table must say of a return -/
def so_ckr (ret : Option FieldType) (x : am_X) : Bool :=
  match x with
  | (ins, _, _, _, _, c, _) =>
    match ins with
    | .ireturn => bif Nat.beq c 1 then decide (ret = some .boolean) else decide (ret = some .int)
    | .areturn => match ret with | some (.object _) => true | some (.array _) => true | _ => false
    | .return_ => decide (ret = none)
    | _ => true
def so_row (own : String) (bs : ByteArray) (mL : Nat) (ret : Option FieldType) (ini : Bool) (q : Nat × am_X) : Bool := so_ck1 bs mL q.1 q.2 && so_ck2 own ini q.2 && so_ck3 own q.2 && so_ckr ret q.2
def so_tbl (own : String) (bs : ByteArray) (mL : Nat) (ret : Option FieldType) (ini : Bool) (tb : List (Nat × List (Nat × am_X))) : Bool := tb.all (fun ch => ch.2.all (so_row own bs mL ret ini))
/-- what must be so of a method of the table -/
def so_mok (y : Nat) (q : so_MI) : Prop := plainName q.1.cls = true ∧ (q.2.2.2.2.2 = true → q.1.name = "<init>") ∧ ∃ tb, am_P y = (am_look tb, q.2.2.1) ∧ so_tbl q.1.cls q.2.1 q.2.2.1 q.2.2.2.1 q.2.2.2.2.2 tb = true
