/-! THE SMALL MACHINE IS SOUND, part 4: the surroundings of a method; what a row of a table must say of the links -/
def so_tys (cA : Nat → ClassId) : List (ClassId × FieldType) := [(cA 100, .int), (cA 101, .boolean), (cA 102, .byte), (cA 103, .short), (cA 110, .object RX0), (cA 111, .object RX1), (cA 113, .object RX3), (cA 114, .object RX4), (cA 117, .object RX7)]
/-- the static arrays by their roles -/
def so_sn (r : Nat) : String := bif Nat.beq r 301 then "LINK_LEAST" else bif Nat.beq r 302 then "LINK_MOST" else bif Nat.beq r 303 then "RULE_LEAST" else bif Nat.beq r 304 then "RULE_MOST" else bif Nat.beq r 305 then "RULE_FIRST" else "CHOICES"
/-- what holds of the tables and statics at a method's entry -/
def so_E (dC : Nat → ClassId) (dI : Nat → Nat → Nat) (cA : Nat → ClassId) (A : Nat → Prop) (ad : am_K → Nat) (U : State) : Prop :=
  va_K (dC, dI) am_cls (so_tys cA) U ∧ (∀ C, C ∈ [RX0, RX1, RX3, RX4, RX7] → va_AO C U) ∧ ((∀ own i x host, Cond.methodLinkNest own i x host ∈ lw_tbl → va_Nw (.methodLinkNest own i x host) U) ∧ (∀ own i r n d host, Cond.fieldLinkNest own i r n d host ∈ lw_tbl → va_Nw (.fieldLinkNest own i r n d host) U) ∧ va_Nw (.castable "[I" "java/lang/Cloneable") U) ∧ (∀ r, 301 ≤ r → r ≤ 306 → va_Z "CrowdOut" (so_sn r) "[I" (.ref (ad (r, 0, 0))) A U U.heap)
/-- a place on the way through a method: hE, ad0 are its entry's -/
def so_J (dC : Nat → ClassId) (dI : Nat → Nat → Nat) (cA : Nat → ClassId) (A : Nat → Prop) (s : State) (nL : Nat) (hE : am_H) (ad0 : am_K → Nat) (ad : am_K → Nat) (h : am_H) (ls : am_L) (st : List am_V) (H : Heap) (locs : List Loc) (lc : Array Slot) (cells slots : Nat) : Prop :=
  so_H dC dI cA A ad h H ∧ so_X A ad s h s.heap ∧ lv_has lc nL (so_lv ad 0 ls) ∧ (∀ v, v ∈ st → so_okv h v) ∧ (∀ v, some v ∈ ls → so_okv h v) ∧ va_S A s.heap H locs
    ∧ h.2.2.2.1 = hE.2.2.2.1 + cells ∧ h.2.2.2.2 = hE.2.2.2.2 + slots
    ∧ (∀ k : am_K, ∀ n, hE.2.2.1 k.1 k.2.1 k.2.2 = some n → ad k = ad0 k ∧ h.2.2.1 k.1 k.2.1 k.2.2 = some n) ∧ (∀ k : am_K, 300 ≤ k.1 → ad k = ad0 k ∧ h.2.2.1 k.1 k.2.1 k.2.2 = hE.2.2.1 k.1 k.2.1 k.2.2 ∧ h.1 k.1 k.2.1 k.2.2 = hE.1 k.1 k.2.1 k.2.2) ∧ (∀ r, 301 ≤ r → r ≤ 306 → ∃ n, h.2.2.1 r 0 0 = some n)
def so_wd (pos : Nat) (w : Cond) : Bool := decide (lw_tbl[pos]? = some w) && goodWord w
theorem so_wd_in {pos : Nat} {w : Cond} (h : so_wd pos w = true) : w ∈ so_G := by
  simp only [so_wd, Bool.and_eq_true, decide_eq_true_eq] at h
  exact List.mem_filter.mpr ⟨List.mem_of_getElem? h.1, h.2⟩
def so_kc : ArrayType → Nat
  | .int => 100
  | .boolean => 101
  | .byte => 102
  | .short => 103
  | _ => 999
/-- what a row of a table must say of the links -/
def so_ck2 (own : String) (init : Bool) (x : am_X) : Bool :=
  match x with
  | (ins, _, im, a, b, c, sw) =>
    match ins with
    | .ldc i => match sw with | [(_, p1)] => so_wd p1 (.constant own i im) | _ => false
    | .ldc_w i => match sw with | [(_, p1)] => so_wd p1 (.constant own i im) | _ => false
    | .ldc2_w i => match sw with | [(_, p1)] => so_wd p1 (.constantLong own i (Int64.ofNat a)) | _ => false
    | .getfield i => match am_cls[a]?, sw with
      | some q, [(_, p1)] => decide (b < q.2.2) && so_wd p1 (.fieldLink own i (q.2.1 b).1 (q.2.1 b).2.1 (q.2.1 b).2.2.1) && (so_isI q b == !Nat.beq c 2)
      | _, _ => false
    | .putfield i => match am_cls[a]?, sw with
      | some q, [(_, p1)] => decide (b < q.2.2) && so_wd p1 (.fieldLink own i (q.2.1 b).1 (q.2.1 b).2.1 (q.2.1 b).2.2.1) && (!(q.2.1 b).2.2.2 || (init && decide ((q.2.1 b).1 = own)))
          && (match c with
            | 0 => decide (parseFieldDescriptor (q.2.1 b).2.2.1 = some .int) && so_isI q b
            | 1 => decide (parseFieldDescriptor (q.2.1 b).2.2.1 = some .boolean) && so_isI q b
            | _ => (match parseFieldDescriptor (q.2.1 b).2.2.1 with | some (.object _) => true | some (.array _) => true | _ => false) && !so_isI q b)
      | _, _ => false
    | .getstatic i => match sw with | [(z, p1)] => decide (301 ≤ a) && decide (a ≤ 306) && (bif decide (z = 1) then decide (lw_tbl[p1]? = some (.fieldLinkNest own i "CrowdOut" (so_sn a) "[I" "CrowdOut")) else so_wd p1 (.fieldLink own i "CrowdOut" (so_sn a) "[I")) | _ => false
    | .new i => match am_cls[a]?, sw with
      | some q, [(_, p1), (_, p2), (_, p3)] => so_wd p1 (.classLink own i q.1) && so_wd p2 (.instantiable q.1 q.2.2) && so_wd p3 (.initialized q.1) && decide (b = q.2.2)
      | _, _ => false
    | .newarray t => match sw with | [(_, p1)] => so_wd p1 (.arrayClass (newarray.typeOf t)) && decide (a = so_kc t) && decide (a ≠ 999) | _ => false
    | .anewarray i => match am_cls[a]?, sw with
      | some q, [(_, p1)] => so_wd p1 (.classLink own i q.1) && [RX0, RX1, RX3, RX4, RX7].contains q.1 && [0, 1, 3, 4, 7].contains a
      | _, _ => false
    | .checkcast i => match sw with | [(_, p1)] => so_wd p1 (.classLink own i "[I") | _ => false
    | _ => true
theorem so_dfl : ∀ (ci : Nat) (q : vw_C), am_cls[ci]? = some q → ∀ ty : Nat → FieldType, (∀ k, k < q.2.2 → parseFieldDescriptor (q.2.1 k).2.2.1 = some (ty k)) → ∀ k, k < q.2.2 → defaultValue (ty k) = (bif so_isI q k then .int 0 else .null) := by
  have key : am_cls.all (fun q => (List.range q.2.2).all (fun k => match parseFieldDescriptor (q.2.1 k).2.2.1 with | some t => decide (defaultValue t = (bif so_isI q k then .int 0 else .null)) | none => false)) = true := by decide +kernel
  intro ci q hq ty hty k hk
  have h1 := List.all_eq_true.mp key q (List.mem_of_getElem? hq)
  have h2 := List.all_eq_true.mp h1 k (List.mem_range.mpr hk)
  rw [hty k hk] at h2
  simpa using h2
/-- at another state: the tables are as warm, the heap has moved within A -/
theorem so_E_moved {dC : Nat → ClassId} {dI : Nat → Nat → Nat} {cA : Nat → ClassId} {A : Nat → Prop} {ad ad' : am_K → Nat} {s U : State} {H : Heap} {locs : List Loc} (h : so_E dC dI cA A ad s) (hW : s.WarmedH U.vm) (hS : va_S A s.heap H locs) (hU : U.heap = H) (hst3 : ∀ k : am_K, 300 ≤ k.1 → ad' k = ad k) : so_E dC dI cA A ad' U := by
  obtain ⟨hK, hAO, ⟨hM, hF, hC⟩, hZ⟩ := h
  refine ⟨va_K.moved hW.alike hK, fun C hC' => va_AO.moved hW.alike (hAO C hC'), ⟨fun own i x host hm => va_Nw.warmM hW (hM own i x host hm), fun own i r n d host hm => va_Nw.warmF hW (hF own i r n d host hm), va_Nw.warmC hW hC⟩, fun r h1 h2 => ?_⟩
  rw [hst3 (r, 0, 0) (by show 300 ≤ r; omega), hU]
  exact va_Z.kept (va_Z.moved hW.alike (hZ r h1 h2)) (fun a ha hna => hS.2.1 a ha hna)
theorem so_X_moved {A : Nat → Prop} {ad : am_K → Nat} {s U : State} {h : am_H} {H : Heap} {locs : List Loc} (hX : so_X A ad s h s.heap) (hvm : s.vm.Alike U.vm) (hS : va_S A s.heap H locs) : so_X A ad U h H := by
  intro k hk n hn
  exact va_T.kept (va_T.moved hvm (hX k hk n hn)) (fun a ha hna => hS.2.1 a ha hna)
