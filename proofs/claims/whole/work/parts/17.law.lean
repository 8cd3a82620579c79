/-! THE CLAIM OUT OF ONE WALK OF THE LAW'S BODY. Your part is whole_start (and what it stands on); all else here is the same for every law, but numbers. -/
def R_law : String := "CrowdOutLaw"
def lw_P (b : Addr) (xs : List Int32) (args : Array Value) (s : State) : Prop := args = #[.ref b] ∧ s.IntsAt b xs ∧ xs.length ≤ 2560 ∧ (Jvm.Cond.and given_1 narrow_1).before args s = true
def lw_Q (_ : Array Value) (s : State) (o : Outcome) (t : State) : Prop := o = .returned (some (.int 1)) ∧ Framed s o t [] 600000 7302250
def lw_Z (below : List Frame) (a : Array Value) (s : State) : State → Prop := fun t => ∃ o, t.status = .running ∧ Ended t below o ∧ lw_Q a s o t
/-- the law's own end, with 1 on the stack, nothing written that was there before, its room as the claim has it -/
theorem lw_ret {p : Program} {l : Launch} {e : Env} {s : State} {m : MethodId} {below : List Frame} {meth : Method} {c : Code} {b : Nat} (hx : p.tables.exec = Jvm.exec) (hb : c.code = code) (hr : meth.sig.returnType = ret) (hlocks : meth.locks = false) {pc : Nat} {H : Heap} {ls : Array Slot} (hdg : decode code pc = .ok (.ireturn, 1)) : W p l e room_1 s m #[Value.ref b] below meth c H [] 600000 7302250 (lw_Z below #[Value.ref b] s) (F0 m pc ls [.int 1]) := by
  intro T hT X
  obtain ⟨fs, hret, hrun, hended, hW, hframe⟩ := X.leave (v := some (.int 1)) (hlocks := hlocks) (fun h => by rw [hr] at h; cases h)
  have hmeth' : T.vm.method? m = some meth := X.method'
  refine ⟨T.setFrames fs, ?_, .returned (some (.int 1)), hrun, hended, rfl, ⟨_, rfl⟩, hW, hframe⟩
  jvm_step X.here [X.here.top, hx, hb, hdg, hmeth', hr, ret, narrow_b1]
  (try refine ⟨rfl, ?_⟩); (try refine ⟨rfl, ?_⟩)
  first | (intro acts; rw [hret _ acts rfl rfl rfl]) | rw [hret _ _ rfl rfl rfl]
  exact Steps.refl _
/-- what holds at the law's entry: the machine, the code, the tables' words (any of lw_tbl by 'hts w (by decide +kernel)'), the script of L ints xs at the cell b, what the Statement gives of the start (any of its parts by flat_of_before) -/
def lw_At (p : Program) (s : State) (m : MethodId) (meth : Method) (c : Code) (b L : Nat) (xs : Nat → Int32) : Prop :=
  p.tables.exec = Jvm.exec ∧ c.code = code ∧ meth.sig.returnType = ret ∧ c.maxLocals = 4 ∧ s.vm.findClass R_law = some m.cls ∧ (∀ w ∈ lw_tbl, w.before #[Value.ref b] s = true) ∧ va_X b L xs s s.heap ∧ b < s.heap.size ∧ meth.locks = false ∧ (Jvm.Cond.and given_1 narrow_1).before #[Value.ref b] s = true
/-! what the small machine begins with: the script, the static arrays -/
def ab_st (r : Nat) : List Int32 := bif Nat.beq r 301 then [0, 0, 0, 0, 1] else bif Nat.beq r 302 then [1, 2, 1, 20, 999] else bif Nat.beq r 303 then [100, 10, 0] else bif Nat.beq r 304 then [300, 300, 50] else bif Nat.beq r 305 then [150, 100, 5] else [0, 1, 2, 4, 8, 3, 5, 6, 9, 10, 12, 7, 11, 13, 14, 15]
def ab_I (xs : Nat → Int32) : am_I := fun r _ _ s => bif Nat.beq r 300 then xs s else (ab_st r).getD s 0
def ab_N (L : Nat) : am_N := fun r w j => bif Nat.beq w 0 && Nat.beq j 0 then (bif Nat.beq r 300 then some L else bif Nat.ble 301 r && Nat.ble r 306 then some (ab_st r).length else none) else none
def ab_h (L : Nat) (xs : Nat → Int32) : am_H := (ab_I xs, fun _ _ _ _ => none, ab_N L, 0, 0)
/-- THE CLAIM IN THE SMALL MACHINE: the law comes to its end with 1, within the room -/
def ab_Law : Prop := ∀ (L : Nat) (xs : Nat → Int32), L ≤ 2560 → ∃ h1, am_W am_rt (cl_ 1000) (am_look tb_law) 0 (am_loc [.inr (.inr (300, 0, 0))] 4) [] (ab_h L xs) (fun v h => v = some (.inl 1) ∧ h = h1) ∧ h1.2.2.2.1 ≤ 600000 ∧ h1.2.2.2.2 ≤ 7302250
theorem so_ArrOf {s : State} {cA : ClassId} {k : Class} {comp : ClassId} {ty : FieldType} (h1 : s.vm.classes[cA]? = some k) (h2 : k.kind = .array comp ty) : ArrOfT s cA ty := fun n z => ⟨(fun _ h => by cases h), k, h1, comp, h2⟩
section lawb
variable {p : Program} {l : Launch} {e : Env} {s : State} {m : MethodId} {below : List Frame} {meth : Method} {c : Code}
variable {dC : Nat → ClassId} {dI : Nat → Nat → Nat} {cA : Nat → ClassId}
theorem so_lawbody {b : Nat} {hE h1 : am_H} {ad0 : am_K → Nat} {nm0 : MethodName} {bs0 : ByteArray} {mL0 : Nat} {ret0 : Option FieldType}
    (hx : p.tables.exec = Jvm.exec) (hb : c.code = code) (hml : c.maxLocals = 4) (hown : s.vm.findClass R_law = some m.cls) (hts : ∀ w ∈ (Cond.code nm0 bs0 mL0 ret0 :: so_G), w.before #[Value.ref b] s = true) (hEn : so_E dC dI cA (fun q => s.heap.size ≤ q) ad0 s) (hr : meth.sig.returnType = ret) (hlocks : meth.locks = false)
    (hE0 : hE.2.2.2.1 = 0 ∧ hE.2.2.2.2 = 0) (hc : h1.2.2.2.1 ≤ 600000) (hn : h1.2.2.2.2 ≤ 7302250) : ∀ (n pc : Nat) (ad : am_K → Nat) (h : am_H) (ls : am_L) (st : List am_V) (H : Heap) (locs : List Loc) (lc : Array Slot) (cells slots : Nat),
    am_vc am_rt (cl_ 1000) (am_look tb_law) (fun _ => false) (fun _ _ _ _ => False) (fun v h2 => v = some (.inl 1) ∧ h2 = h1) n pc ls st h → so_J dC dI cA (fun q => s.heap.size ≤ q) s 4 hE ad0 ad h ls st H locs lc cells slots →
    W p l e room_1 s m #[Value.ref b] below meth c H locs cells slots (lw_Z below #[Value.ref b] s) (F0 m pc lc (st.map (so_v ad))) := by
  intro n
  induction n with
  | zero => intro pc ad h ls st H locs lc cells slots hs; exact hs.elim
  | succ n ih =>
    intro pc ad h ls st H locs lc cells slots hs J
    have hs : am_step am_rt (am_call am_rt am_P 1000) (am_look tb_law pc) ls st h (fun pc ls st h => am_vc am_rt (cl_ 1000) (am_look tb_law) (fun _ => false) (fun _ _ _ _ => False) (fun v h2 => v = some (.inl 1) ∧ h2 = h1) n pc ls st h) (fun v h2 => v = some (.inl 1) ∧ h2 = h1) := hs
    rcases so_look tb_law pc ok_law with hl | hl
    · rw [hl] at hs
      exact hs.elim
    · have hret : ret = some .boolean := rfl
      refine so_step (d := 1000) (so_met l 1000) hx hb hml hown hts (fun h => by cases h) (fun _ h => h) hEn (by decide) (by decide) hl J hs (fun pc' ls' st' h' hkk => ?_) (fun pc' ls' st' ad' h' H' locs' lc' cells' slots' hkk J' => ih _ _ _ _ _ _ _ _ _ _ hkk J') (fun v hst hq hr2 hd => by rw [hret] at hr2; cases hr2) (fun v hst hv hq hr2 hd => ?_) (fun v hst hq hr2 hd => by obtain ⟨rt, h8, h9⟩ := hr2; rw [hret] at h8; cases h8; rcases h9 with ⟨_, h9⟩ | ⟨_, h9⟩ <;> cases h9) (fun hst hq hr2 hd => by rw [hret] at hr2; cases hr2)
      · have h9 := am_vc_le (am_call_good _ _ _) (am_call_grows _ _ _) hkk
        have h5 := h9.1
        have h6 := h9.2
        rw [hE0.1, hE0.2]
        show h'.2.2.2.1 ≤ 0 + 600000 ∧ h'.2.2.2.2 ≤ 0 + 7302250
        omega
      · obtain ⟨hq1, rfl⟩ := hq
        cases hq1
        obtain ⟨-, -, -, -, -, hS, hc0, hn0, -⟩ := J
        refine va_forget (fun q hq => hS.2.2 q hq) (W.widen (k := 600000) (n := 7302250) (by omega) (by omega) (lw_ret hx hb hr hlocks hd))
end lawb
/-- the static arrays as the Statement gives them -/
theorem ab_stat {b : Nat} {s : State} (hts : ∀ w ∈ lw_tbl, w.before #[Value.ref b] s = true) (hgv : (Jvm.Cond.and given_1 narrow_1).before #[Value.ref b] s = true) : ∀ r, 301 ≤ r → r ≤ 306 → ∃ t : Nat, va_Z "CrowdOut" (so_sn r) "[I" (.ref t) (fun q => s.heap.size ≤ q) s s.heap ∧ va_T .int t (ab_st r).length (fun j => .int ((ab_st r).getD j 0)) (fun q => s.heap.size ≤ q) s s.heap := by
  have hs := flat_of_before _ hgv
  have hA : ∀ a : Nat, a < s.heap.size → ¬ (fun q => s.heap.size ≤ q) a := fun a ha h => absurd h (Nat.not_le.mpr ha)
  have one : ∀ (nm : String) (vs : List Int32), vs.length < 100 → (Cond.laysStatic "CrowdOut" nm "[I") ∈ lw_tbl → (Cond.arrayOf (.static "CrowdOut" nm "[I") .int) ∈ flatC (Jvm.Cond.and given_1 narrow_1) → (Cond.eq (.length (.static "CrowdOut" nm "[I")) (.int (Int32.ofNat vs.length))) ∈ flatC (Jvm.Cond.and given_1 narrow_1) →
      (∀ j, j < vs.length → (Cond.eq (.elem (.static "CrowdOut" nm "[I") (.int (Int32.ofNat j))) (.int (vs.getD j 0))) ∈ flatC (Jvm.Cond.and given_1 narrow_1)) → ∃ t : Nat, va_Z "CrowdOut" nm "[I" (.ref t) (fun q => s.heap.size ≤ q) s s.heap ∧ va_T .int t vs.length (fun j => .int (vs.getD j 0)) (fun q => s.heap.size ≤ q) s s.heap := by
    intro nm vs hl h1 h2 h3 h4
    obtain ⟨t, ht, hT⟩ := va_Tof (f := fun j => .int (vs.getD j 0)) (N := vs.length) (by omega) (hs _ h2) (va_eqt (hs _ h3)) (fun j hj => va_eqt (hs _ (h4 j hj))) hA
    exact ⟨t, va_Zref (hts _ h1) (hts (.initialized "CrowdOut") (by decide +kernel)) ht hA, hT⟩
  intro r h1 h2
  have h3 : r = 301 ∨ r = 302 ∨ r = 303 ∨ r = 304 ∨ r = 305 ∨ r = 306 := by omega
  rcases h3 with rfl | rfl | rfl | rfl | rfl | rfl
  · exact one "LINK_LEAST" [0, 0, 0, 0, 1] (by decide) (by decide +kernel) (by decide +kernel) (by decide +kernel) (by decide +kernel)
  · exact one "LINK_MOST" [1, 2, 1, 20, 999] (by decide) (by decide +kernel) (by decide +kernel) (by decide +kernel) (by decide +kernel)
  · exact one "RULE_LEAST" [100, 10, 0] (by decide) (by decide +kernel) (by decide +kernel) (by decide +kernel) (by decide +kernel)
  · exact one "RULE_MOST" [300, 300, 50] (by decide) (by decide +kernel) (by decide +kernel) (by decide +kernel) (by decide +kernel)
  · exact one "RULE_FIRST" [150, 100, 5] (by decide) (by decide +kernel) (by decide +kernel) (by decide +kernel) (by decide +kernel)
  · exact one "CHOICES" [0, 1, 2, 4, 8, 3, 5, 6, 9, 10, 12, 7, 11, 13, 14, 15] (by decide) (by decide +kernel) (by decide +kernel) (by decide +kernel) (by decide +kernel)
/-- the classes as the tables have them -/
theorem ab_cls {b : Nat} {s : State} (hts : ∀ w ∈ lw_tbl, w.before #[Value.ref b] s = true) : ∃ (dC : Nat → ClassId) (dI : Nat → Nat → Nat), ∀ (k : Nat) (q : vw_C), am_cls[k]? = some q → u_Kn s q.1 q.2.1 q.2.2 (dC k) (dI k) := by
  have one : ∀ k : Nat, ∃ (c9 : ClassId) (i9 : Nat → Nat), ∀ q : vw_C, am_cls[k]? = some q → u_Kn s q.1 q.2.1 q.2.2 c9 i9 := by
    intro k
    cases hk : am_cls[k]? with
    | none => exact ⟨0, fun _ => 0, fun q h => by cases h⟩
    | some q =>
      have hin : ∀ w ∈ u_ws q.1 q.2.1 q.2.2, w ∈ lw_tbl := fun w hw => (List.mem_filter.mp ((so_cls k q hk).1 w hw)).1
      have hinst : Cond.instantiable q.1 q.2.2 ∈ lw_tbl := by
        have : ∀ q ∈ am_cls, Cond.instantiable q.1 q.2.2 ∈ lw_tbl := by decide +kernel
        exact this q (List.mem_of_getElem? hk)
      obtain ⟨c9, i9, h⟩ := u_known (C := q.1) (T := q.2.1) (N := q.2.2) (n := q.2.2) hts hin (hts _ hinst)
      exact ⟨c9, i9, fun q' h' => by cases h'; exact h⟩
  exact ⟨fun k => Classical.choose (one k), fun k => Classical.choose (Classical.choose_spec (one k)), fun k q hq => Classical.choose_spec (Classical.choose_spec (one k)) q hq⟩
theorem ab_arr {b : Nat} {s : State} (hts : ∀ w ∈ lw_tbl, w.before #[Value.ref b] s = true) : ∃ cA : Nat → ClassId, ∀ (k : Nat) (q : ClassId × FieldType), (so_tys cA)[k]? = some q → ArrOfT s q.1 q.2 ∧ va_RA s q.1 q.2 := by
  have p1 : ∀ ty : FieldType, (∀ C, ty ≠ .object C) → Cond.arrayClass ty ∈ lw_tbl → ∃ c9 : ClassId, ArrOfT s c9 ty ∧ va_RA s c9 ty := fun ty hno hm => by
    obtain ⟨c9, k9, comp, f1, f2, f3⟩ := Cond.arrayClass_spec (show (Cond.arrayClass ty).holds #[Value.ref b] s none s [] = true from hts _ hm)
    refine ⟨c9, so_ArrOf f2 f3, ?_⟩
    cases ty with
    | object C => exact absurd rfl (hno C)
    | _ => exact f1
  have p2 : ∀ C : String, Cond.arrayOver (.object C) ∈ lw_tbl → ∃ c9 : ClassId, ArrOfT s c9 (.object C) ∧ va_RA s c9 (.object C) := fun C hm => by
    obtain ⟨comp, c9, k9, f1, -, f2, f3, f4⟩ := Cond.arrayOver_spec (show (Cond.arrayOver (.object C)).holds #[Value.ref b] s none s [] = true from hts _ hm)
    exact ⟨c9, so_ArrOf f2 f3, k9, comp, f2, f3, f1, f4⟩
  obtain ⟨c0, h0⟩ := p1 .int (fun _ h => by cases h) (by decide +kernel)
  obtain ⟨c1, h1⟩ := p1 .boolean (fun _ h => by cases h) (by decide +kernel)
  obtain ⟨c2, h2⟩ := p1 .byte (fun _ h => by cases h) (by decide +kernel)
  obtain ⟨c3, h3⟩ := p1 .short (fun _ h => by cases h) (by decide +kernel)
  obtain ⟨c4, h4⟩ := p2 RX0 (by decide +kernel)
  obtain ⟨c5, h5⟩ := p2 RX1 (by decide +kernel)
  obtain ⟨c6, h6⟩ := p2 RX3 (by decide +kernel)
  obtain ⟨c7, h7⟩ := p2 RX4 (by decide +kernel)
  obtain ⟨c8, h8⟩ := p2 RX7 (by decide +kernel)
  refine ⟨fun k => if k = 100 then c0 else if k = 101 then c1 else if k = 102 then c2 else if k = 103 then c3 else if k = 110 then c4 else if k = 111 then c5 else if k = 113 then c6 else if k = 114 then c7 else c8, fun k q hq => ?_⟩
  match k, hq with
  | 0, hq => cases hq; exact h0
  | 1, hq => cases hq; exact h1
  | 2, hq => cases hq; exact h2
  | 3, hq => cases hq; exact h3
  | 4, hq => cases hq; exact h4
  | 5, hq => cases hq; exact h5
  | 6, hq => cases hq; exact h6
  | 7, hq => cases hq; exact h7
  | 8, hq => cases hq; exact h8
  | k + 9, hq => simp [so_tys] at hq
/-- from the entry, for every script of at most 2560 ints, the law comes to its end with true: out of ab_Law -/
theorem whole_start (hab : ab_Law) {p : Program} {e : Env} {s : State} {m : MethodId} {below : List Frame} {meth : Method} {c : Code} (l : Launch) {b L : Nat} {xs : Nat → Int32} (hL : L ≤ 2560) (C0 : lw_At p s m meth c b L xs) : W p l e room_1 s m #[Value.ref b] below meth c s.heap [] 0 0 (lw_Z below #[Value.ref b] s) (entryFrame m ([Value.ref b] : List Value).toArray 4) := by
  obtain ⟨hx, hb, hr, hml, hown, hts, hX, hbl, hlocks, hgv⟩ := id C0
  obtain ⟨dC, dI, hKc⟩ := ab_cls hts
  obtain ⟨cA, hKa⟩ := ab_arr hts
  have hsts := ab_stat hts hgv
  obtain ⟨h1, ⟨n, hn⟩, hc1, hn1⟩ := hab L xs hL
  have hch : ∃ adS : Nat → Nat, ∀ r, 301 ≤ r → r ≤ 306 → va_Z "CrowdOut" (so_sn r) "[I" (.ref (adS r)) (fun q => s.heap.size ≤ q) s s.heap ∧ va_T .int (adS r) (ab_st r).length (fun j => .int ((ab_st r).getD j 0)) (fun q => s.heap.size ≤ q) s s.heap := by
    have h9 : ∀ r, ∃ t, 301 ≤ r → r ≤ 306 → va_Z "CrowdOut" (so_sn r) "[I" (.ref t) (fun q => s.heap.size ≤ q) s s.heap ∧ va_T .int t (ab_st r).length (fun j => .int ((ab_st r).getD j 0)) (fun q => s.heap.size ≤ q) s s.heap := fun r => by
      by_cases h1 : 301 ≤ r ∧ r ≤ 306
      · obtain ⟨t, ht⟩ := hsts r h1.1 h1.2
        exact ⟨t, fun _ _ => ht⟩
      · exact ⟨0, fun a b => absurd ⟨a, b⟩ h1⟩
    exact ⟨fun r => Classical.choose (h9 r), fun r => Classical.choose_spec (h9 r)⟩
  obtain ⟨adS, hadS⟩ := hch
  obtain ⟨ad, had⟩ : ∃ ad : am_K → Nat, ∀ k : am_K, ad k = if k.1 = 300 then b else adS k.1 := ⟨_, fun _ => rfl⟩
  have hG : ∀ w ∈ so_G, w.before #[Value.ref b] s = true := fun w hw => hts w (List.mem_filter.mp hw).1
  have hEn : so_E dC dI cA (fun q => s.heap.size ≤ q) ad s := by
    refine ⟨⟨hKc, hKa⟩, fun C hC => ?_, ⟨fun own i x host hm => va_Nw.of rfl (hts _ hm), fun own i r n d host hm => va_Nw.of rfl (hts _ hm), va_Nw.of rfl (hts (.castable "[I" "java/lang/Cloneable") (by decide +kernel))⟩, fun r h1 h2 => ?_⟩
    · have : ∀ C ∈ [RX0, RX1, RX3, RX4, RX7], Cond.arrayOver (.object C) ∈ lw_tbl := by decide +kernel
      exact va_AO.of (hts _ (this C hC))
    · rw [had, if_neg (by show ¬ r = 300; omega)]
      exact (hadS r h1 h2).1
  have hNn : ∀ (r w j n : Nat), ab_N L r w j = some n → w = 0 ∧ j = 0 ∧ ((r = 300 ∧ n = L) ∨ (301 ≤ r ∧ r ≤ 306 ∧ n = (ab_st r).length)) := by
    intro r w j n hn
    unfold ab_N at hn
    cases hwj : (Nat.beq w 0 && Nat.beq j 0) <;> rw [hwj] at hn
    · cases hn
    · simp only [Bool.and_eq_true] at hwj
      refine ⟨so_beq hwj.1, so_beq hwj.2, ?_⟩
      dsimp only [cond] at hn
      cases h3 : Nat.beq r 300 <;> rw [h3] at hn <;> dsimp only at hn
      · cases h4 : (Nat.ble 301 r && Nat.ble r 306) <;> rw [h4] at hn
        · cases hn
        · cases hn
          simp only [Bool.and_eq_true] at h4
          exact Or.inr ⟨Nat.le_of_ble_eq_true h4.1, Nat.le_of_ble_eq_true h4.2, rfl⟩
      · cases hn
        exact Or.inl ⟨so_beq h3, rfl⟩
  have hno : ∀ k, ¬ so_al (ab_h L xs) k := fun k hk => by
    obtain ⟨h3, n, hn⟩ := hk
    obtain ⟨-, -, h4⟩ := hNn _ _ _ _ hn
    omega
  have hl := lv_entry ([.ref b]) (n := 4) (Nat.le_of_ble_eq_true rfl)
  rw [lg_entry_eq]
  generalize (lg_sl ([.ref b]) ++ List.replicate (4 - (lg_sl ([.ref b])).length) Slot.unset).toArray = lc at hl ⊢
  have hl : lv_has lc 4 (so_lv ad 0 (am_loc [.inr (.inr (300, 0, 0))] 4)) := by
    have e9 : so_lv ad 0 (am_loc [.inr (.inr (300, 0, 0))] 4) = [(0, .ref b)] := by
      show [(0, Value.ref (ad (300, 0, 0)))] = _
      rw [had]; rfl
    rw [e9]
    exact hl
  have hcw : Cond.code ⟨"CrowdOutModel", "isArea", "(I)Z"⟩ prog_13_method_3_code 2 (some .boolean) ∈ so_G := by decide +kernel
  refine so_lawbody (h1 := h1) (hE := ab_h L xs) (ad0 := ad) hx hb hml hown (fun w hw => by rcases List.mem_cons.mp hw with rfl | hw; exact hG _ hcw; exact hG w hw) hEn hr hlocks ⟨rfl, rfl⟩ hc1 hn1 n 0 ad (ab_h L xs) (am_loc [.inr (.inr (300, 0, 0))] 4) [] s.heap [] lc 0 0 hn ?_
  refine ⟨⟨[], fun k => ⟨(fun h => by cases h), fun h => absurd h (hno k)⟩, fun k q h => by simp [so_ws] at h, ⟨fun i j p q h => by simp [so_ws] at h, fun k q h => by simp [so_ws] at h⟩, fun k hk => absurd hk (hno k), fun k hk => absurd hk (hno k), fun k hk => absurd hk (hno k)⟩, fun k hk n9 hn9 => ?_, hl, (fun v hv => by cases hv), fun v hv => ?_, va_S.rf, rfl, rfl, fun k n hk => ⟨rfl, hk⟩, fun k hk => ⟨rfl, rfl, rfl⟩, fun r h1 h2 => ?_⟩
  · obtain ⟨r, w, j⟩ := k
    obtain ⟨rfl, rfl, h4⟩ := hNn _ _ _ _ hn9
    rcases h4 with ⟨h4, h5⟩ | ⟨h4, h5, h6⟩
    · have h4 : r = 300 := h4
      subst h4 h5
      rw [had, if_pos rfl]
      obtain ⟨scr, f1, f2, f3, f4, f5⟩ := hX
      exact ⟨scr, f1, f2, f3, Nat.le_of_eq f4.symm, (congrArg Nat.toInt32 f4 : _ = _), fun j hj => f5 j hj, fun h => absurd h (Nat.not_le.mpr hbl)⟩
    · have h4 : 301 ≤ r := h4
      have h5 : r ≤ 306 := h5
      subst h6
      rw [had, if_neg (by show ¬ r = 300; omega)]
      have h7 : Nat.beq r 300 = false := by rw [Bool.eq_false_iff]; intro h8; have := so_beq h8; omega
      have e9 : (ab_h L xs).1 r 0 0 = fun j => (ab_st r).getD j 0 := by
        funext j
        show (bif Nat.beq r 300 then xs j else (ab_st r).getD j 0) = _
        rw [h7]; rfl
      show va_T .int (adS r) (ab_st r).length (fun j => .int ((ab_h L xs).1 r 0 0 j)) _ s s.heap
      rw [e9]
      exact (hadS r h4 h5).2
  · have hv := so_loc_mem _ _ _ hv
    rcases List.mem_cons.mp hv with rfl | hv
    · intro k hk
      cases hk
      exact ⟨L, rfl⟩
    · cases hv
  · have h3 : r = 301 ∨ r = 302 ∨ r = 303 ∨ r = 304 ∨ r = 305 ∨ r = 306 := by omega
    rcases h3 with rfl | rfl | rfl | rfl | rfl | rfl <;> exact ⟨_, rfl⟩
-- ===== YOUR PART ENDS =====
set_option maxHeartbeats 4000000 in
theorem lw_walk (hab : ab_Law) (l : Launch) (b : Addr) (xs : List Int32) : MetFree l x (headSpec (Jvm.Cond.code x code maxLocals ret :: tables_1) room_1) (lw_P b xs) (fun _ _ _ _ _ => True) lw_Q := by
  refine MetFree.of_bodyS (code := code) (maxLocals := maxLocals) (ret := ret) (by decide) ?_ ?_
  · intro args s m h hn
    obtain ⟨meth, c, h1, h2, h3, h4, h5, h6, -, -⟩ := Cond.code_spec hn (atoms_spec (ws := Jvm.Cond.code x code maxLocals ret :: tables_1) h _ List.mem_cons_self)
    exact ⟨meth, c, h1, h2, h3, h4, h5, h6⟩
  · intro p e s m args below meth c s₁ B hml0 hP _
    obtain ⟨rfl, hx, hbd, hgv⟩ := hP
    obtain ⟨scr, harrAt, hlist, hof, hsmall⟩ := hx
    obtain ⟨hcb, hkn, -, -⟩ := State.arrayAt?_spec harrAt
    have hown : s.vm.findClass R_law = some m.cls := findClass_of_methodNamed B.named
    have hts0 : ∀ c ∈ (Jvm.Cond.code x code maxLocals ret :: tables_1), c.before #[Value.ref b] s = true := atoms_spec (ws := Jvm.Cond.code x code maxLocals ret :: tables_1) B.pre
    have hts : ∀ w ∈ lw_tbl, w.before #[Value.ref b] s = true := k2_hts_sels lw_privs (fun w hw => hts0 w (List.mem_cons_of_mem _ hw)) lw_privs_ok
    have hml : c.maxLocals = 4 := B.maxLocals_eq (hts0 _ List.mem_cons_self)
    have X₀ : Stand p l e room_1 s m #[Value.ref b] below meth c s₁ [] 0 0 := Stand.of_body B
    have hh0 : s₁.heap = s.heap := by rw [B.state]; rfl
    have hsz : scr.slots.size = xs.length := by rw [← Array.length_toList, hlist, List.length_map]
    have hval : ∀ j : Nat, j < xs.length → scr.slots[j]? = some (.int (xs.getD j 0)) := fun j hj => by
      rw [← Array.getElem?_toList, hlist]
      simp [hj]
    have hbl : b < s.heap.size := (Array.getElem?_eq_some_iff.mp hcb).1
    have hX : va_X b xs.length (fun j => xs.getD j 0) s s.heap := ⟨scr, hcb, hof, hkn, hsz, hval⟩
    have K : W p l e room_1 s m #[Value.ref b] below meth c s₁.heap [] 0 0 (lw_Z below #[Value.ref b] s) (entryFrame m ([Value.ref b] : List Value).toArray 4) := by
      rw [hh0]
      exact whole_start hab l hbd ⟨B.exec, B.bytes, B.returns, hml, hown, hts, hX, hbl, B.notSynchronized, hgv⟩
    obtain ⟨t, a1, o, b1, b2, b3⟩ := K s₁ rfl X₀
    exact ⟨t, o, a1, b1, b2, b3⟩
theorem lw_pre_spec {args : Array Value} {s : State} (h : (Jvm.Cond.and given_1 narrow_1).before args s = true) (hr : rest_1_c.before args s = true) : ∃ (b : Addr) (xs : List Int32), lw_P b xs args s := by
  have hs := flat_of_before _ h
  have hq := flat_of_before _ hr
  have hc : (Cond.count 1).before args s = true := hs _ (by decide +kernel)
  have harr : (Cond.arrayOf (.arg 0) .int).before args s = true := hs _ (by decide +kernel)
  have hle : (Cond.le (.length (.arg 0)) (.int 2560)).before args s = true := hs _ (by decide +kernel)
  have hlen : (Cond.isInt (.length (.arg 0))).before args s = true := hq _ (by decide +kernel)
  have hall : (Cond.all (.arg 0) (.isInt (.elem (.arg 0) (.index 0)))).before args s = true := hq _ (by decide +kernel)
  obtain ⟨b, xs, hb, hx⟩ := State.ints_of_pre rfl harr hlen hall
  have hsm : xs.length < 2 ^ 31 := hx.choose_spec.2.2.2
  have hev : (Term.length (.arg 0)).eval args s none [] s = some (.int xs.length.toInt32) := hx.length_eval hb
  have hv := Cond.le_ints hev (show (Term.int 2560).eval args s none [] s = some (.int 2560) from rfl)
  have hd : xs.length.toInt32 ≤ 2560 := by
    simpa [Cond.before, Cond.holds, hv] using hle
  have hN : xs.length ≤ 2560 := (Int32.ofNat_le_ofNat hsm (by decide)).mp (show Int32.ofNat xs.length ≤ Int32.ofNat 2560 from hd)
  exact ⟨b, xs, Cond.one_arg hc (show args[0]? = some (.ref b) from hb), hx, hN, h⟩
theorem lw_comes (hab : ab_Law) (l : Launch) : Comes l x (Jvm.Cond.code x code maxLocals ret :: tables_1) room_1 (fun tb e args s => Calls_1 tb e args s ∧ rest_1 tb e args s ∧ Pre_1 tb e args s)
    (fun _ _ args s o t => lw_Q args s o t) := by
  intro p e ha hc hk s m args below hf hfit hheap happ hpre
  obtain ⟨b, xs, hP⟩ := lw_pre_spec hpre.2.2 hpre.2.1
  obtain ⟨k, o, h1, h2, h3, hQ⟩ := lw_walk hab l b xs p e ha hc hk s m args below hf ((Spec.applies_iff_loose hf).mp happ).1 hP trivial
  exact ⟨k, o, h1, h2, h3, hQ⟩
theorem lw_frame {s t : State} {o : Outcome} {args : Array Value} (h : Framed s o t [] 600000 7302250) :
    Framed s o t (fieldLocs frame_1_writes args s ++ arrayLocs frame_1_arrays args s ++ staticLocs frame_1_statics s) 600000 7302250 := h
theorem lw_limb (hab : ab_Law) (L : Cond) (hL : ∀ (args : Array Value) (s t : State), L.after args s (.returned (some (.int 1))) t = true) :
    ArmFor flags0 classFile x code maxLocals ret World_1 tables_1 room_1 Calls_1 rest_1 Pre_1
      (fun tb e a s o t => postC L tb e a s o t ∧ Framed s o t (fieldLocs frame_1_writes a s ++ arrayLocs frame_1_arrays a s ++ staticLocs frame_1_statics s) 600000 7302250) := by
  intro l _ _ _ p e ha hc hk s m args below hf hfit hheap happ hpre
  obtain ⟨k, o, h1, h2, h3, rfl, hF⟩ := lw_comes hab l p e ha hc hk s m args below hf hfit hheap happ hpre
  exact ⟨k, _, h1, h2, h3, hL args s _, lw_frame hF⟩
theorem i_vc_of (hab : ab_Law) : Claimed_1_1 ∧ Claimed_1_2 := ⟨lw_limb hab limb_1_1 (fun args s t => by simp [limb_1_1, Cond.after, Cond.holds, Cond.value]), lw_limb hab limb_1_2 (fun args s t => Cond.after_iff.mpr (by
  first | (rw [show limb_1_2 = Cond.eq .result (.int 1) from rfl, Cond.eq_ints (x := 1) (y := 1) rfl rfl]; simp; done) | (simp [limb_1_2, Cond.value, Term.eval]; done)))⟩
