/-! THE SMALL MACHINE IS SOUND, part 8: calls -/
def so_find : List (Nat × so_MI) → Nat → Option so_MI
  | [], _ => none
  | (y, q) :: l, z => bif Nat.beq y z then some q else so_find l z
def so_nmok (nm : MethodName) (np mL : Nat) : Bool := decide (nm.cls ≠ "java/lang/invoke/MethodHandle") && decide (nm.cls ≠ "java/lang/invoke/VarHandle") && decide ((parseMethodDescriptor nm.desc).map (fun d => d.parameters.length) = some np) && decide (mL ≤ 40)
def so_cloneI : MethodName := ⟨"[I", "clone", "()Ljava/lang/Object;"⟩
def so_cloneO : MethodName := ⟨"java/lang/Object", "clone", "()Ljava/lang/Object;"⟩
/-- what a row of a table must say of a call -/
def so_ck3 (own : String) (x : am_X) : Bool :=
  match x with
  | (ins, _, _, a, b, _, sw) =>
    match ins with
    | .invokespecial i => bif Nat.beq a 9999 then (match sw with | [(_, p1), (_, p2), (_, p3)] => so_wd p1 (.methodLink own i objectInit) && so_wd p2 (.instanceMethod objectInit) && so_wd p3 (.code objectInit ⟨#[0xb1]⟩ 1 none) | _ => false)
        else (match so_find so_ml a, sw with
          | some (nm, bs, mL, ret, np, _), [(z, p1), (_, p2), (_, p3), (_, p4)] => (bif decide (z = 1) then decide (lw_tbl[p1]? = some (.methodLinkNest own i nm "CrowdOut")) else so_wd p1 (.methodLink own i nm)) && so_wd p2 (.instanceMethod nm) && so_wd p3 (.initialized nm.cls) && so_wd p4 (.code nm bs mL ret) && decide (b = np + 1) && decide (nm.name = "<init>") && decide (ret = none) && so_nmok nm np mL
          | _, _ => false)
    | .invokevirtual i => bif Nat.beq a 9998 then (match sw with | [(_, p1), (_, p2), (_, p3), (_, p4), (_, p5)] => so_wd p1 (.methodLink own i so_cloneI) && so_wd p2 (.sameMethod "[I" "java/lang/Object" "clone" "()Ljava/lang/Object;") && so_wd p3 (.native so_cloneO) && so_wd p4 (.instanceMethod so_cloneO) && so_wd p5 (.selects "[I" so_cloneI so_cloneO) | _ => false)
        else (match so_find so_ml a, am_cls[a / 100]?, sw with
          | some (nm, bs, mL, ret, np, _), some q, [(_, p1), (_, p2), (_, p3), (_, p4), (_, p5)] => so_wd p1 (.methodLink own i nm) && so_wd p2 (.instanceMethod nm) && so_wd p3 (.selects nm.cls nm nm) && so_wd p4 (.initialized nm.cls) && so_wd p5 (.code nm bs mL ret) && decide (b = np + 1) && decide (q.1 = nm.cls) && so_nmok nm np mL
          | _, _, _ => false)
    | .invokestatic i => bif Nat.beq a 9996 then (match sw with | [(_, p1), (_, p2), (_, p3), (_, p4)] => so_wd p1 (.methodLink own i Lib.Math.max.name) && so_wd p2 (.static Lib.Math.max.name) && so_wd p3 (.initialized "java/lang/Math") && so_wd p4 (.code Lib.Math.max.name Lib.Math.max.code 2 (some .int)) | _ => false)
        else bif Nat.beq a 9995 then (match sw with | [(_, p1), (_, p2), (_, p3), (_, p4)] => so_wd p1 (.methodLink own i Lib.Math.min.name) && so_wd p2 (.static Lib.Math.min.name) && so_wd p3 (.initialized "java/lang/Math") && so_wd p4 (.code Lib.Math.min.name Lib.Math.min.code 2 (some .int)) | _ => false)
        else bif Nat.beq a 9994 then (match sw with | [(_, p1), (_, p2), (_, p3), (_, p4)] => so_wd p1 (.methodLink own i Lib.Math.abs.name) && so_wd p2 (.static Lib.Math.abs.name) && so_wd p3 (.initialized "java/lang/Math") && so_wd p4 (.code Lib.Math.abs.name Lib.Math.abs.code 1 (some .int)) | _ => false)
        else bif Nat.beq a 9997 then (match sw with | [(_, p1), (_, p2), (_, p3), (_, p4)] => so_wd p1 (.methodLink own i arraycopyName) && so_wd p2 (.native arraycopyName) && so_wd p3 (.static arraycopyName) && so_wd p4 (.initialized "java/lang/System") | _ => false)
        else (match so_find so_ml a, sw with
          | some (nm, bs, mL, ret, np, _), [(_, p1), (_, p2), (_, p3), (_, p4)] => so_wd p1 (.methodLink own i nm) && so_wd p2 (.static nm) && so_wd p3 (.initialized nm.cls) && so_wd p4 (.code nm bs mL ret) && decide (b = np) && so_nmok nm np mL
          | _, _ => false)
    | _ => true
theorem so_pop : ∀ (n : Nat) (st acc : List am_V) (f : List am_V → List am_V → Prop), am_pop n st acc f → ∃ ps st', st = ps ++ st' ∧ ps.length = n ∧ f (ps.reverse ++ acc) st' := by
  intro n
  induction n with
  | zero => intro st acc f h; exact ⟨[], st, rfl, rfl, h⟩
  | succ n ih =>
    intro st acc f h
    cases st with
    | nil => exact h.elim
    | cons v st =>
      obtain ⟨ps, st', h1, h2, h3⟩ := ih st (v :: acc) f h
      exact ⟨v :: ps, st', by rw [h1]; rfl, by rw [List.length_cons, h2], by rw [List.reverse_cons, List.append_assoc]; exact h3⟩
theorem so_cat (ad : am_K → Nat) : ∀ st : List am_V, ((st.map (so_v ad)).map (fun v => v.category)).sum = am_cat st := by
  intro st
  induction st with
  | nil => rfl
  | cons v st ih =>
    rcases v with v | (v | v) <;> (rw [List.map_cons, List.map_cons, List.sum_cons, ih]; rfl)
/-- the address book of a later moment: what there was is there still, at the same addresses -/
def so_ex (h h' : am_H) (ad ad' : am_K → Nat) : Prop := (∀ k : am_K, ∀ n, h.2.2.1 k.1 k.2.1 k.2.2 = some n → ad' k = ad k ∧ h'.2.2.1 k.1 k.2.1 k.2.2 = some n) ∧ (∀ k : am_K, 300 ≤ k.1 → ad' k = ad k ∧ h'.2.2.1 k.1 k.2.1 k.2.2 = h.2.2.1 k.1 k.2.1 k.2.2 ∧ h'.1 k.1 k.2.1 k.2.2 = h.1 k.1 k.2.1 k.2.2)
def so_room (d mc ms : Nat) : Room := { frames := d, cells := mc, slots := ms, locals := d * 64 }
def so_Pc (dC : Nat → ClassId) (dI : Nat → Nat → Nat) (cA : Nat → ClassId) (A : Nat → Prop) (ad : am_K → Nat) (h : am_H) (as : List am_V) : Array Value → State → Prop :=
  va_Pc (as.map (so_v ad)) (fun U => so_E dC dI cA A ad U ∧ so_H dC dI cA A ad h U.heap ∧ so_X A ad U h U.heap ∧ (∀ q, U.heap.size ≤ q → A q))
def so_Qc (dC : Nat → ClassId) (dI : Nat → Nat → Nat) (cA : Nat → ClassId) (A : Nat → Prop) (ad : am_K → Nat) (h : am_H) (v : Option am_V) (h' : am_H) : Array Value → State → Outcome → State → Prop := match v with
  | none => va_Qv (fun ad' => so_ex h h' ad ad') (fun ad' t => so_H dC dI cA A ad' h' t.heap) A
  | some (.inl x) => va_Qi (fun r ad' => r = x ∧ so_ex h h' ad ad') (fun ad' t => so_H dC dI cA A ad' h' t.heap) A
  | some (.inr (.inr k)) => va_Qr (fun ad' => so_ex h h' ad ad' ∧ ∃ n, h'.2.2.1 k.1 k.2.1 k.2.2 = some n) (fun ad' a t => a = ad' k ∧ so_H dC dI cA A ad' h' t.heap) A
  | some (.inr (.inl _)) => fun _ _ _ _ => False
def so_Met (l : Launch) (d y : Nat) (as : List am_V) (h : am_H) (v : Option am_V) (h' : am_H) : Prop :=
  ∀ nm bs mL ret np ini, so_find so_ml y = some (nm, bs, mL, ret, np, ini) → ∀ (dC : Nat → ClassId) (dI : Nat → Nat → Nat) (cA : Nat → ClassId) (A : Nat → Prop) (ad : am_K → Nat), (∀ v, v ∈ as → so_okv h v) → (∀ r, 301 ≤ r → r ≤ 306 → ∃ n, h.2.2.1 r 0 0 = some n) →
    Met l nm (.code nm bs mL ret :: so_G) (so_room d (h'.2.2.2.1 - h.2.2.2.1) (h'.2.2.2.2 - h.2.2.2.2)) (so_Pc dC dI cA A ad h as) (so_Qc dC dI cA A ad h v h') (h'.2.2.2.1 - h.2.2.2.1) (h'.2.2.2.2 - h.2.2.2.2) A
theorem so_blind (dC : Nat → ClassId) (dI : Nat → Nat → Nat) (cA : Nat → ClassId) (A : Nat → Prop) (ad : am_K → Nat) (h : am_H) (as : List am_V) : FrameBlind (so_Pc dC dI cA A ad h as) := by
  intro a U g mk hP
  obtain ⟨h0, ⟨hK, hAO, ⟨hM, hF, hC⟩, hZ⟩, hH, hX, hA⟩ := hP
  refine ⟨h0, ⟨va_K.moved (u := U) (Vm.Alike.refl U.vm) hK, fun C hC' => va_AO.moved (u := U) (Vm.Alike.refl U.vm) (hAO C hC'), ⟨fun own i x host hm => va_Nw.same rfl rfl (hM own i x host hm), fun own i r n d host hm => va_Nw.same rfl rfl (hF own i r n d host hm), va_Nw.same rfl rfl hC⟩, fun r h1 h2 => va_Z.moved (u := U) (Vm.Alike.refl U.vm) (hZ r h1 h2)⟩, hH, fun k hk n hn => ?_, hA⟩
  exact va_T.moved (u := U) (Vm.Alike.refl U.vm) (hX k hk n hn)
theorem so_goodIn {nm nm' : MethodName} {bs bs' : ByteArray} {mL mL' : Nat} {ret ret' : Option FieldType} (hc : Cond.code nm bs mL ret ∈ so_G) : GoodIn (.code nm' bs' mL' ret' :: so_G) (.code nm bs mL ret :: so_G) := by
  intro w hw
  have hw : w ∈ so_G := by
    rcases List.mem_cons.mp hw with rfl | hw
    · exact hc
    · exact hw
  exact ⟨List.mem_cons_of_mem _ hw, good_of_word (List.mem_filter.mp hw).2⟩
section so5
variable {p : Program} {l : Launch} {e : Env} {R : Room} {s : State} {m : MethodId} {args : Array Value} {below : List Frame} {meth : Method} {c : Code} {H : Heap} {locs : List Loc} {cells slots : Nat} {Q : State → Prop}
variable {dC : Nat → ClassId} {dI : Nat → Nat → Nat} {cA : Nat → ClassId} {A : Nat → Prop}
/-- a place behind a call -/
theorem so_J_call {nL : Nat} {hE : am_H} {ad0 ad ad' : am_K → Nat} {ls : am_L} {st st' : List am_V} {h h' : am_H} {H1 : Heap} {locs1 : List Loc} {lc : Array Slot} (J : so_J dC dI cA A s nL hE ad0 ad h ls st H locs lc cells slots)
    (hex' : so_ex h h' ad ad') (hle : am_le h h') (hH : so_H dC dI cA A ad' h' H1) (hst' : ∀ v, v ∈ st' → so_okv h v ∨ so_okv h' v) (hS : va_S A s.heap H1 locs1) : so_J dC dI cA A s nL hE ad0 ad' h' ls st' H1 locs1 lc (cells + (h'.2.2.2.1 - h.2.2.2.1)) (slots + (h'.2.2.2.2 - h.2.2.2.2)) := by
  obtain ⟨-, hX, hlv, hst0, hls, -, hc0, hn0, hex, hst3, hsta⟩ := J
  obtain ⟨he1, he2⟩ := hex'
  have hok : ∀ v, so_okv h v → so_okv h' v := fun v hv k hk => by
    obtain ⟨n1, h1⟩ := hv k hk
    exact ⟨n1, (he1 k n1 h1).2⟩
  have h5 := hle.1
  have h6 := hle.2
  refine ⟨hH, fun k hk n hn => ?_, ?_, fun v hv => (hst' v hv).elim (hok v) id, fun v hv => hok v (hls v hv), hS, by omega, by omega, fun k n hk => ?_, fun k hk => ⟨(he2 k hk).1.trans (hst3 k hk).1, (he2 k hk).2.1.trans (hst3 k hk).2.1, (he2 k hk).2.2.trans (hst3 k hk).2.2⟩, fun r h1 h2 => ?_⟩
  · obtain ⟨e1, e2, e3⟩ := he2 k hk
    rw [e2] at hn
    rw [e1, e3]
    exact hX k hk n hn
  · rw [so_lv_ad ls 0 (fun v hv k hk => by obtain ⟨n1, h1⟩ := hls v hv k hk; exact (he1 k n1 h1).1)]
    exact hlv
  · obtain ⟨h1, h2⟩ := hex k n hk
    obtain ⟨h3, h4⟩ := he1 k n h2
    exact ⟨h3.trans h1, h4⟩
  · obtain ⟨n, h3⟩ := hsta r h1 h2
    exact ⟨n, (he1 (r, 0, 0) n h3).2⟩
/-- the callee's start, where the caller stands -/
theorem so_pre {nL : Nat} {hE : am_H} {ad0 ad : am_K → Nat} {ls : am_L} {st : List am_V} {h : am_H} {lc : Array Slot} (hEn : so_E dC dI cA A ad0 s) (hA : ∀ q, s.heap.size ≤ q → A q) (J : so_J dC dI cA A s nL hE ad0 ad h ls st H locs lc cells slots) (as : List am_V) :
    ∀ U : State, U.heap = H → s.WarmedH U.vm → so_Pc dC dI cA A ad h as (as.map (so_v ad)).toArray U := by
  intro U hU hW
  obtain ⟨hH, hX, hlv, hst0, hls, hS, hc0, hn0, hex, hst3, hsta⟩ := J
  refine ⟨rfl, so_E_moved hEn hW hS hU (fun k hk => (hst3 k hk).1), by rw [hU]; exact hH, by rw [hU]; exact so_X_moved hX hW.alike hS, fun q hq => hA q (Nat.le_trans hS.1 (by rw [hU] at hq; exact hq))⟩
end so5
