/-! THE SMALL MACHINE IS SOUND, part 3: what a table's row must say of the bytes; the instructions that leave the heap alone -/
def so_len : Instr → Nat
  | .bipush _ | .ldc _ | .iload _ | .lload _ | .aload _ | .istore _ | .astore _ | .newarray _ => 2
  | .sipush _ | .ldc_w _ | .ldc2_w _ | .iinc _ _ | .ifCond _ _ | .if_icmp _ _ | .goto _ | .getfield _ | .putfield _ | .getstatic _ | .new _ | .anewarray _ | .checkcast _ | .invokespecial _ | .invokevirtual _ | .invokestatic _ => 3
  | _ => 1
def so_lk : List (Int32 × Nat) → Int32 → Nat → Nat
  | [], _, d => d
  | (v, t) :: l, x, d => if x = v then t else so_lk l x d
theorem so_lk_of (f : Nat → Prop) (x : Int32) (d : Nat) : ∀ l : List (Int32 × Nat), am_sw l x d f → f (so_lk l x d) := by
  intro l
  induction l with
  | nil => intro h; exact h
  | cons q l ih =>
    obtain ⟨v, t⟩ := q
    intro h
    by_cases hx : x = v
    · simp only [so_lk, if_pos hx]; exact h.1 hx
    · simp only [so_lk, if_neg hx]; exact ih (h.2 hx)
/-- a table of jumps, place by place -/
def so_tab (pc : Nat) (sw : List (Int32 × Nat)) (d : Nat) : List Int → Int → Bool
  | [], _ => true
  | o :: l, v => decide ((pc : Int) + o = (so_lk sw (Int32.ofInt v) d : Int)) && so_tab pc sw d l (v + 1)
theorem so_tab_at {pc : Nat} {sw : List (Int32 × Nat)} {d : Nat} : ∀ (l : List Int) (v : Int) (i : Nat) (o : Int), so_tab pc sw d l v = true → l[i]? = some o → (pc : Int) + o = (so_lk sw (Int32.ofInt (v + i)) d : Int) := by
  intro l
  induction l with
  | nil => intro v i o _ h; cases h
  | cons a l ih =>
    intro v i o ht h
    simp only [so_tab, Bool.and_eq_true, decide_eq_true_eq] at ht
    cases i with
    | zero =>
      cases h
      rw [ht.1]; simp
    | succ i =>
      have h1 := ih (v + 1) i o ht.2 h
      rw [h1, show v + 1 + (i : Int) = v + ((i + 1 : Nat) : Int) by push_cast; omega]
theorem so_lk_out {sw : List (Int32 × Nat)} {x : Int32} {d : Nat} (h : sw.all (fun q => decide (q.1 ≠ x)) = true) : so_lk sw x d = d := by
  induction sw with
  | nil => rfl
  | cons q l ih =>
    obtain ⟨v, t⟩ := q
    simp only [List.all_cons, Bool.and_eq_true, decide_eq_true_eq] at h
    simp only [so_lk, if_neg (Ne.symm h.1)]
    exact ih h.2
/-- what a row of a table must say of the bytes -/
def so_ck1 (cc : ByteArray) (nL : Nat) (pc : Nat) (x : am_X) : Bool :=
  match x with
  | (ins, nx, im, a, _, _, sw) =>
    (match decode cc pc with
      | .ok (i, len) => decide (i = ins) && (match ins with
        | .tableswitch d lo hi offs => decide ((pc : Int) + d = (a : Int)) && sw.all (fun q => decide (lo ≤ q.1.toInt) && decide (q.1.toInt ≤ hi)) && so_tab pc sw a offs.toList lo && decide ((offs.size : Int) = hi - lo + 1)
        | .lookupswitch d ps => decide ((pc : Int) + d = (a : Int)) && (ps.toList.zip (ps.toList.drop 1)).all (fun (a, next) => a.1 < next.1) && decide (sw = ps.toList.map (fun q => (Int32.ofInt q.1, ((pc : Int) + q.2).toNat))) && ps.toList.all (fun q => decide ((Int32.ofInt q.1).toInt = q.1) && decide (0 ≤ (pc : Int) + q.2))
        | _ => decide (len = so_len ins) && decide (nx = pc + so_len ins))
      | .error _ => false) &&
    (match ins with
      | .iconst n => decide (Int32.ofInt n = im)
      | .bipush n => decide ((Int8.ofInt n).toInt32 = im)
      | .sipush n => decide ((Int16.ofInt n).toInt32 = im)
      | .iload i => decide (i = a)
      | .iload_n i => decide (i.1 = a)
      | .lload_n i => decide (i.1 = a)
      | .aload i => decide (i = a)
      | .aload_n i => decide (i.1 = a)
      | .istore i => decide (i = a) && decide (a < nL)
      | .istore_n i => decide (i.1 = a) && decide (a < nL)
      | .astore i => decide (i = a) && decide (a < nL)
      | .astore_n i => decide (i.1 = a) && decide (a < nL)
      | .iinc i n => decide (i = a) && decide (a < nL) && decide (Int32.ofInt n = im)
      | .ifCond _ off => decide ((pc : Int) + off = (a : Int))
      | .if_icmp _ off => decide ((pc : Int) + off = (a : Int))
      | .goto off => decide ((pc : Int) + off = (a : Int))
      | _ => true)
def so_is1 : Instr → Bool
  | .iconst _ | .bipush _ | .sipush _ | .iload _ | .iload_n _ | .lload_n _ | .aload _ | .aload_n _ | .istore _ | .istore_n _ | .astore _ | .astore_n _ | .iinc _ _ | .pop | .dup | .dup_x1 | .dup2 | .iadd | .isub | .imul | .idiv | .irem | .ineg | .iand | .ior | .ishl | .ishr | .iushr
  | .i2l | .l2i | .i2b | .i2s | .land | .lor | .lshl | .lshr | .lushr | .ifCond _ _ | .if_icmp _ _ | .goto _ | .tableswitch _ _ _ _ | .lookupswitch _ _ => true
  | _ => false
theorem so_lk_pairs {pc a : Nat} {d0 : Int} (hdf : (pc : Int) + d0 = (a : Int)) (z : Int32) : ∀ l : List (Int × Int), l.all (fun q => decide ((Int32.ofInt q.1).toInt = q.1) && decide (0 ≤ (pc : Int) + q.2)) = true → (pc : Int) + Op.lookupswitch.offset l d0 z.toInt = (so_lk (l.map (fun q => (Int32.ofInt q.1, ((pc : Int) + q.2).toNat))) z a : Int) := by
  intro l
  induction l with
  | nil => intro _; simpa [so_lk, Op.lookupswitch.offset] using hdf
  | cons q l ih =>
    intro h
    simp only [List.all_cons, Bool.and_eq_true, decide_eq_true_eq] at h
    have h2 := ih h.2
    simp only [List.map_cons, so_lk]
    by_cases hz : z = Int32.ofInt q.1
    · rw [if_pos hz]
      have h3 : q.1 = z.toInt := by rw [hz]; exact h.1.1.symm
      obtain ⟨q1, q2⟩ := q
      rw [Op.lookupswitch.offset_cons, if_pos h3]
      exact (Int.toNat_of_nonneg h.1.2).symm
    · rw [if_neg hz]
      have h3 : ¬ q.1 = z.toInt := fun e => hz (by rw [e, Int32.ofInt_toInt])
      obtain ⟨q1, q2⟩ := q
      rw [Op.lookupswitch.offset_cons, if_neg h3]
      exact h2
def so_pm (st : List am_V) (ls : am_L) (v : am_V) : Prop := v ∈ st ∨ some v ∈ ls ∨ ∀ r, v ≠ .inr (.inr r)
theorem so_pm_i {st : List am_V} {ls : am_L} (x : Int32) : so_pm st ls (.inl x) := Or.inr (Or.inr (fun r h => by cases h))
theorem so_pm_l {st : List am_V} {ls : am_L} (x : Int64) : so_pm st ls (.inr (.inl x)) := Or.inr (Or.inr (fun r h => by cases h))
theorem so_pm_c {st st0 : List am_V} {ls : am_L} {v : am_V} (h1 : so_pm st ls v) (h2 : ∀ v, v ∈ st0 → so_pm st ls v) : ∀ v', v' ∈ v :: st0 → so_pm st ls v' := fun v' h => by
  rcases List.mem_cons.mp h with rfl | h
  · exact h1
  · exact h2 v' h
theorem so_pm_0 {st : List am_V} {ls : am_L} : ∀ v, v ∈ st → so_pm st ls v := fun v h => Or.inl h
theorem so_pm_1 {st : List am_V} {ls : am_L} {a : am_V} : ∀ v, v ∈ st → so_pm (a :: st) ls v := fun v h => Or.inl (List.mem_cons_of_mem _ h)
theorem so_pm_2 {st : List am_V} {ls : am_L} {a b : am_V} : ∀ v, v ∈ st → so_pm (a :: b :: st) ls v := fun v h => Or.inl (List.mem_cons_of_mem _ (List.mem_cons_of_mem _ h))
theorem so_pm_L {st : List am_V} {ls : am_L} : ∀ v, some v ∈ ls → so_pm st ls v := fun v h => Or.inr (Or.inl h)
theorem so_ld_mem : ∀ (ls : am_L) (a : Nat) (v : am_V), am_ld ls a = some v → some v ∈ ls := by
  intro ls
  induction ls with
  | nil => intro a v h; cases h
  | cons x ls ih =>
    intro a v h
    cases a with
    | zero => have h : x = some v := h; rw [h]; exact List.mem_cons_self
    | succ a => exact List.mem_cons_of_mem _ (ih a v h)
theorem so_sto_mem : ∀ (ls : am_L) (a : Nat) (u v : am_V), some v ∈ am_sto ls a u → v = u ∨ some v ∈ ls := by
  intro ls
  induction ls with
  | nil => intro a u v h; cases h
  | cons x ls ih =>
    intro a u v h
    match a, h with
    | 0, h =>
      rcases List.mem_cons.mp h with h | h
      · exact Or.inl (Option.some.inj h)
      · exact Or.inr (List.mem_cons_of_mem _ h)
    | 1, h =>
      rcases List.mem_cons.mp h with h | h
      · refine Or.inr ?_
        rcases x with _ | (w | (w | w))
        · cases h
        · rw [h]; exact List.mem_cons_self
        · cases h
        · rw [h]; exact List.mem_cons_self
      · rcases ih 0 u v h with h | h
        · exact Or.inl h
        · exact Or.inr (List.mem_cons_of_mem _ h)
    | a + 2, h =>
      rcases List.mem_cons.mp h with h | h
      · rw [h]; exact Or.inr List.mem_cons_self
      · rcases ih (a + 1) u v h with h | h
        · exact Or.inl h
        · exact Or.inr (List.mem_cons_of_mem _ h)
theorem so_dec {cc : ByteArray} {pc nx : Nat} {ins : Instr} (h : (match decode cc pc with | .ok (i, len) => decide (i = ins) && (decide (len = so_len ins) && decide (nx = pc + so_len ins)) | .error _ => false) = true) : decode cc pc = .ok (ins, so_len ins) ∧ nx = pc + so_len ins := by
  split at h
  · rename_i i len heq
    simp only [Bool.and_eq_true, decide_eq_true_eq] at h
    rw [heq, h.1, h.2.1]
    exact ⟨rfl, h.2.2⟩
  · cases h
section so1
variable {p : Program} {l : Launch} {e : Env} {R : Room} {s : State} {m : MethodId} {args : Array Value} {below : List Frame} {meth : Method} {c : Code} {H : Heap} {locs : List Loc} {cells slots : Nat} {Q : State → Prop}
theorem so_simple {cc : ByteArray} {nL pc : Nat} {x : am_X} {call : am_C} {ad : am_K → Nat} {ls : am_L} {st : List am_V} {h : am_H} {lc : Array Slot} {k : Nat → am_L → List am_V → am_H → Prop} {q : am_Q}
    (hx : p.tables.exec = Jvm.exec) (hb : c.code = cc) (hck : so_ck1 cc nL pc x = true) (h1 : so_is1 x.1 = true) (hl : lv_has lc nL (so_lv ad 0 ls)) (hs : am_step am_rt call x ls st h k q)
    (hk : ∀ pc' ls' st' lc', k pc' ls' st' h → lv_has lc' nL (so_lv ad 0 ls') → (∀ v, v ∈ st' → so_pm st ls v) → (∀ v, some v ∈ ls' → so_pm st ls v) → W p l e R s m args below meth c H locs cells slots Q (F0 m pc' lc' (st'.map (so_v ad)))) :
    W p l e R s m args below meth c H locs cells slots Q (F0 m pc lc (st.map (so_v ad))) := by
  obtain ⟨ins, nx, im, a, b, cc', sw⟩ := x
  have hrd : ∀ {v : am_V}, am_ld ls a = some v → lc[a]? = some (.val (so_v ad v)) := fun {v} hv => by
    have h2 := hl.2.2 _ (so_lv_ld ad ls 0 a v hv)
    rw [Nat.zero_add] at h2
    exact h2
  simp only [so_ck1, Bool.and_eq_true] at hck
  obtain ⟨hd, hck⟩ := hck
  cases ins <;> try (cases h1; done)
  case iconst n0 =>
    obtain ⟨hd2, hnx⟩ := so_dec hd
    clear hd
    subst hnx
    dsimp only [am_step] at hs
    simp only [decide_eq_true_eq] at hck
    exact lv_iconst hx hb hd2 hck (hk _ _ _ _ hs hl (so_pm_c (so_pm_i _) so_pm_0) so_pm_L)
  case bipush n0 =>
    obtain ⟨hd2, hnx⟩ := so_dec hd
    clear hd
    subst hnx
    dsimp only [am_step] at hs
    simp only [decide_eq_true_eq] at hck
    exact lv_bipush hx hb hd2 hck (hk _ _ _ _ hs hl (so_pm_c (so_pm_i _) so_pm_0) so_pm_L)
  case sipush n0 =>
    obtain ⟨hd2, hnx⟩ := so_dec hd
    clear hd
    subst hnx
    dsimp only [am_step] at hs
    simp only [decide_eq_true_eq] at hck
    exact lv_sipush hx hb hd2 hck (hk _ _ _ _ hs hl (so_pm_c (so_pm_i _) so_pm_0) so_pm_L)
  case iload n0 =>
    obtain ⟨hd2, hnx⟩ := so_dec hd
    clear hd
    subst hnx
    dsimp only [am_step] at hs
    simp only [decide_eq_true_eq] at hck
    subst hck
    split at hs
    · rename_i heq
      exact lv_iload hx hb hd2 (hrd heq) (hk _ _ _ _ hs hl (so_pm_c (so_pm_i _) so_pm_0) so_pm_L)
    · exact hs.elim
  case iload_n n0 =>
    obtain ⟨hd2, hnx⟩ := so_dec hd
    clear hd
    subst hnx
    dsimp only [am_step] at hs
    simp only [decide_eq_true_eq] at hck
    split at hs
    · rename_i heq
      exact lv_iload_n hx hb hd2 hck (hrd heq) (hk _ _ _ _ hs hl (so_pm_c (so_pm_i _) so_pm_0) so_pm_L)
    · exact hs.elim
  case aload n0 =>
    obtain ⟨hd2, hnx⟩ := so_dec hd
    clear hd
    subst hnx
    dsimp only [am_step] at hs
    simp only [decide_eq_true_eq] at hck
    subst hck
    split at hs
    · rename_i heq
      exact lv_aload hx hb hd2 (hrd heq) (hk _ _ _ _ hs hl (so_pm_c (Or.inr (Or.inl (so_ld_mem _ _ _ heq))) so_pm_0) so_pm_L)
    · exact hs.elim
  case aload_n n0 =>
    obtain ⟨hd2, hnx⟩ := so_dec hd
    clear hd
    subst hnx
    dsimp only [am_step] at hs
    simp only [decide_eq_true_eq] at hck
    split at hs
    · rename_i heq
      exact lv_aload_n hx hb hd2 hck (hrd heq) (hk _ _ _ _ hs hl (so_pm_c (Or.inr (Or.inl (so_ld_mem _ _ _ heq))) so_pm_0) so_pm_L)
    · exact hs.elim
  case lload_n n0 =>
    obtain ⟨hd2, hnx⟩ := so_dec hd
    clear hd
    subst hnx
    dsimp only [am_step] at hs
    simp only [decide_eq_true_eq] at hck
    split at hs
    · rename_i heq
      exact lv_lload_n hx hb hd2 hck (hrd heq) (hk _ _ _ _ hs hl (so_pm_c (so_pm_l _) so_pm_0) so_pm_L)
    · exact hs.elim
  case istore n0 =>
    obtain ⟨hd2, hnx⟩ := so_dec hd
    clear hd
    subst hnx
    dsimp only [am_step] at hs
    simp only [Bool.and_eq_true, decide_eq_true_eq] at hck
    simp only [am_seq_eq] at hs
    obtain ⟨rfl, hck⟩ := hck
    split at hs
    · refine lv_istore hx hb hd2 hl hck rfl (fun lc2 hl2 => hk _ _ _ _ hs (so_has_sto (v := _) hl2) so_pm_1 (fun v hv => ?_))
      rcases so_sto_mem _ _ _ _ hv with rfl | hv
      · exact so_pm_i _
      · exact so_pm_L v hv
    · exact hs.elim
  case istore_n n0 =>
    obtain ⟨hd2, hnx⟩ := so_dec hd
    clear hd
    subst hnx
    dsimp only [am_step] at hs
    simp only [Bool.and_eq_true, decide_eq_true_eq] at hck
    simp only [am_seq_eq] at hs
    split at hs
    · refine lv_istore_n hx hb hd2 hck.1 hl hck.2 rfl (fun lc2 hl2 => hk _ _ _ _ hs (so_has_sto (v := _) hl2) so_pm_1 (fun v hv => ?_))
      rcases so_sto_mem _ _ _ _ hv with rfl | hv
      · exact so_pm_i _
      · exact so_pm_L v hv
    · exact hs.elim
  case astore n0 =>
    obtain ⟨hd2, hnx⟩ := so_dec hd
    clear hd
    subst hnx
    dsimp only [am_step] at hs
    simp only [Bool.and_eq_true, decide_eq_true_eq] at hck
    simp only [am_seq_eq] at hs
    obtain ⟨rfl, hck⟩ := hck
    split at hs
    · refine lv_astore hx hb hd2 hl hck rfl (fun lc2 hl2 => hk _ _ _ _ hs (so_has_sto (v := _) hl2) so_pm_1 (fun v hv => ?_))
      rcases so_sto_mem _ _ _ _ hv with rfl | hv
      · exact Or.inl List.mem_cons_self
      · exact so_pm_L v hv
    · exact hs.elim
  case astore_n n0 =>
    obtain ⟨hd2, hnx⟩ := so_dec hd
    clear hd
    subst hnx
    dsimp only [am_step] at hs
    simp only [Bool.and_eq_true, decide_eq_true_eq] at hck
    simp only [am_seq_eq] at hs
    split at hs
    · refine lv_astore_n hx hb hd2 hck.1 hl hck.2 rfl (fun lc2 hl2 => hk _ _ _ _ hs (so_has_sto (v := _) hl2) so_pm_1 (fun v hv => ?_))
      rcases so_sto_mem _ _ _ _ hv with rfl | hv
      · exact Or.inl List.mem_cons_self
      · exact so_pm_L v hv
    · exact hs.elim
  case iinc n0 n1 =>
    obtain ⟨hd2, hnx⟩ := so_dec hd
    clear hd
    subst hnx
    dsimp only [am_step] at hs
    simp only [Bool.and_eq_true, decide_eq_true_eq] at hck
    simp only [am_seq_eq] at hs
    obtain ⟨⟨rfl, hck⟩, hv⟩ := hck
    split at hs
    · rename_i x0 heq
      obtain ⟨k0, hk0⟩ := List.getElem?_of_mem (so_lv_ld ad ls 0 n0 _ heq)
      rw [Nat.zero_add] at hk0
      refine lv_iinc hx hb hd2 hl hk0 (by rw [hv]) hck rfl (fun lc2 hl2 => hk _ _ _ _ hs (so_has_sto (v := .inl (x0 + im)) hl2) so_pm_0 (fun v hv => ?_))
      rcases so_sto_mem _ _ _ _ hv with rfl | hv
      · exact so_pm_i _
      · exact so_pm_L v hv
    · exact hs.elim
  case pop =>
    obtain ⟨hd2, hnx⟩ := so_dec hd
    clear hd
    subst hnx
    dsimp only [am_step] at hs
    split at hs
    · exact lv_pop hx hb hd2 rfl (hk _ _ _ _ hs hl so_pm_1 so_pm_L)
    · exact lv_pop hx hb hd2 rfl (hk _ _ _ _ hs hl so_pm_1 so_pm_L)
    · exact hs.elim
  case dup =>
    obtain ⟨hd2, hnx⟩ := so_dec hd
    clear hd
    subst hnx
    dsimp only [am_step] at hs
    split at hs
    · exact lv_dup hx hb hd2 rfl (hk _ _ _ _ hs hl (so_pm_c (so_pm_i _) so_pm_0) so_pm_L)
    · exact lv_dup hx hb hd2 rfl (hk _ _ _ _ hs hl (so_pm_c (Or.inl List.mem_cons_self) so_pm_0) so_pm_L)
    · exact hs.elim
  case dup_x1 =>
    obtain ⟨hd2, hnx⟩ := so_dec hd
    clear hd
    subst hnx
    dsimp only [am_step] at hs
    split at hs
    · exact lv_dup_x1 hx hb hd2 rfl rfl (hk _ _ _ _ hs hl (so_pm_c (so_pm_i _) (so_pm_c (Or.inl (List.mem_cons_of_mem _ List.mem_cons_self)) (so_pm_c (so_pm_i _) so_pm_2))) so_pm_L)
    · exact lv_dup_x1 hx hb hd2 rfl rfl (hk _ _ _ _ hs hl (so_pm_c (so_pm_i _) (so_pm_c (so_pm_i _) (so_pm_c (so_pm_i _) so_pm_2))) so_pm_L)
    · exact hs.elim
  case dup2 =>
    obtain ⟨hd2, hnx⟩ := so_dec hd
    clear hd
    subst hnx
    dsimp only [am_step] at hs
    split at hs
    · exact lv_dup2_11 hx hb hd2 rfl rfl (hk _ _ _ _ hs hl (so_pm_c (so_pm_i _) (so_pm_c (Or.inl (List.mem_cons_of_mem _ List.mem_cons_self)) so_pm_0)) so_pm_L)
    · exact hs.elim
  case iadd =>
    obtain ⟨hd2, hnx⟩ := so_dec hd
    clear hd
    subst hnx
    dsimp only [am_step] at hs
    split at hs
    · exact lv_iadd hx hb hd2 (hk _ _ _ _ hs hl (so_pm_c (so_pm_i _) so_pm_2) so_pm_L)
    · exact hs.elim
  case isub =>
    obtain ⟨hd2, hnx⟩ := so_dec hd
    clear hd
    subst hnx
    dsimp only [am_step] at hs
    split at hs
    · exact lv_isub hx hb hd2 (hk _ _ _ _ hs hl (so_pm_c (so_pm_i _) so_pm_2) so_pm_L)
    · exact hs.elim
  case imul =>
    obtain ⟨hd2, hnx⟩ := so_dec hd
    clear hd
    subst hnx
    dsimp only [am_step] at hs
    split at hs
    · exact lv_imul hx hb hd2 (hk _ _ _ _ hs hl (so_pm_c (so_pm_i _) so_pm_2) so_pm_L)
    · exact hs.elim
  case iand =>
    obtain ⟨hd2, hnx⟩ := so_dec hd
    clear hd
    subst hnx
    dsimp only [am_step] at hs
    split at hs
    · exact lv_iand hx hb hd2 (hk _ _ _ _ hs hl (so_pm_c (so_pm_i _) so_pm_2) so_pm_L)
    · exact hs.elim
  case ior =>
    obtain ⟨hd2, hnx⟩ := so_dec hd
    clear hd
    subst hnx
    dsimp only [am_step] at hs
    split at hs
    · exact lv_ior hx hb hd2 (hk _ _ _ _ hs hl (so_pm_c (so_pm_i _) so_pm_2) so_pm_L)
    · exact hs.elim
  case ishl =>
    obtain ⟨hd2, hnx⟩ := so_dec hd
    clear hd
    subst hnx
    dsimp only [am_step] at hs
    split at hs
    · exact lv_ishl hx hb hd2 (hk _ _ _ _ hs hl (so_pm_c (so_pm_i _) so_pm_2) so_pm_L)
    · exact hs.elim
  case ishr =>
    obtain ⟨hd2, hnx⟩ := so_dec hd
    clear hd
    subst hnx
    dsimp only [am_step] at hs
    split at hs
    · exact lv_ishr hx hb hd2 (hk _ _ _ _ hs hl (so_pm_c (so_pm_i _) so_pm_2) so_pm_L)
    · exact hs.elim
  case idiv =>
    obtain ⟨hd2, hnx⟩ := so_dec hd
    clear hd
    subst hnx
    dsimp only [am_step] at hs
    split at hs
    · exact lv_idiv hx hb hd2 hs.1 (hk _ _ _ _ hs.2 hl (so_pm_c (so_pm_i _) so_pm_2) so_pm_L)
    · exact hs.elim
  case irem =>
    obtain ⟨hd2, hnx⟩ := so_dec hd
    clear hd
    subst hnx
    dsimp only [am_step] at hs
    split at hs
    · exact lv_irem hx hb hd2 hs.1 (hk _ _ _ _ hs.2 hl (so_pm_c (so_pm_i _) so_pm_2) so_pm_L)
    · exact hs.elim
  case iushr =>
    obtain ⟨hd2, hnx⟩ := so_dec hd
    clear hd
    subst hnx
    dsimp only [am_step] at hs
    split at hs
    · exact lv_iushr hx hb hd2 rfl (hk _ _ _ _ hs hl (so_pm_c (so_pm_i _) so_pm_2) so_pm_L)
    · exact hs.elim
  case ineg =>
    obtain ⟨hd2, hnx⟩ := so_dec hd
    clear hd
    subst hnx
    dsimp only [am_step] at hs
    split at hs
    · exact lv_ineg hx hb hd2 (hk _ _ _ _ hs hl (so_pm_c (so_pm_i _) so_pm_1) so_pm_L)
    · exact hs.elim
  case i2l =>
    obtain ⟨hd2, hnx⟩ := so_dec hd
    clear hd
    subst hnx
    dsimp only [am_step] at hs
    split at hs
    · exact lv_i2l hx hb hd2 rfl (hk _ _ _ _ hs hl (so_pm_c (so_pm_l _) so_pm_1) so_pm_L)
    · exact hs.elim
  case l2i =>
    obtain ⟨hd2, hnx⟩ := so_dec hd
    clear hd
    subst hnx
    dsimp only [am_step] at hs
    split at hs
    · exact lv_l2i hx hb hd2 rfl (hk _ _ _ _ hs hl (so_pm_c (so_pm_i _) so_pm_1) so_pm_L)
    · exact hs.elim
  case i2b =>
    obtain ⟨hd2, hnx⟩ := so_dec hd
    clear hd
    subst hnx
    dsimp only [am_step] at hs
    split at hs
    · exact lv_i2b hx hb hd2 rfl (hk _ _ _ _ hs hl (so_pm_c (so_pm_i _) so_pm_1) so_pm_L)
    · exact hs.elim
  case i2s =>
    obtain ⟨hd2, hnx⟩ := so_dec hd
    clear hd
    subst hnx
    dsimp only [am_step] at hs
    split at hs
    · exact lv_i2s hx hb hd2 rfl (hk _ _ _ _ hs hl (so_pm_c (so_pm_i _) so_pm_1) so_pm_L)
    · exact hs.elim
  case land =>
    obtain ⟨hd2, hnx⟩ := so_dec hd
    clear hd
    subst hnx
    dsimp only [am_step] at hs
    split at hs
    · exact lv_land hx hb hd2 (hk _ _ _ _ hs hl (so_pm_c (so_pm_l _) so_pm_2) so_pm_L)
    · exact hs.elim
  case lor =>
    obtain ⟨hd2, hnx⟩ := so_dec hd
    clear hd
    subst hnx
    dsimp only [am_step] at hs
    split at hs
    · exact lv_lor hx hb hd2 (hk _ _ _ _ hs hl (so_pm_c (so_pm_l _) so_pm_2) so_pm_L)
    · exact hs.elim
  case lshl =>
    obtain ⟨hd2, hnx⟩ := so_dec hd
    clear hd
    subst hnx
    dsimp only [am_step] at hs
    split at hs
    · exact lv_lshl hx hb hd2 rfl (hk _ _ _ _ hs hl (so_pm_c (so_pm_l _) so_pm_2) so_pm_L)
    · exact hs.elim
  case lshr =>
    obtain ⟨hd2, hnx⟩ := so_dec hd
    clear hd
    subst hnx
    dsimp only [am_step] at hs
    split at hs
    · exact lv_lshr hx hb hd2 rfl (hk _ _ _ _ hs hl (so_pm_c (so_pm_l _) so_pm_2) so_pm_L)
    · exact hs.elim
  case lushr =>
    obtain ⟨hd2, hnx⟩ := so_dec hd
    clear hd
    subst hnx
    dsimp only [am_step] at hs
    split at hs
    · exact lv_lushr hx hb hd2 rfl (hk _ _ _ _ hs hl (so_pm_c (so_pm_l _) so_pm_2) so_pm_L)
    · exact hs.elim
  case ifCond d0 o0 =>
    obtain ⟨hd2, hnx⟩ := so_dec hd
    clear hd
    subst hnx
    dsimp only [am_step] at hs
    simp only [decide_eq_true_eq] at hck
    split at hs
    · rename_i z0 st0
      cases d0 <;> dsimp only at hs
      case eq => exact lv_if_eq hx hb hd2 hck (fun hc => hk _ _ _ _ (hs.1 hc) hl so_pm_1 so_pm_L) (fun hc => hk _ _ _ _ (hs.2 hc) hl so_pm_1 so_pm_L)
      case ne => exact lv_if_ne hx hb hd2 hck (fun hc => hk _ _ _ _ (hs.1 hc) hl so_pm_1 so_pm_L) (fun hc => hk _ _ _ _ (hs.2 hc) hl so_pm_1 so_pm_L)
      case lt => exact lv_if_lt hx hb hd2 hck (fun hc => hk _ _ _ _ (hs.1 hc) hl so_pm_1 so_pm_L) (fun hc => hk _ _ _ _ (hs.2 hc) hl so_pm_1 so_pm_L)
      case ge => exact lv_if_ge hx hb hd2 hck (fun hc => hk _ _ _ _ (hs.1 hc) hl so_pm_1 so_pm_L) (fun hc => hk _ _ _ _ (hs.2 hc) hl so_pm_1 so_pm_L)
      case gt => exact lv_if_gt hx hb hd2 hck (fun hc => hk _ _ _ _ (hs.1 hc) hl so_pm_1 so_pm_L) (fun hc => hk _ _ _ _ (hs.2 hc) hl so_pm_1 so_pm_L)
      case le => exact lv_if_le hx hb hd2 hck (fun hc => hk _ _ _ _ (hs.1 hc) hl so_pm_1 so_pm_L) (fun hc => hk _ _ _ _ (hs.2 hc) hl so_pm_1 so_pm_L)
    · exact hs.elim
  case if_icmp d0 o0 =>
    obtain ⟨hd2, hnx⟩ := so_dec hd
    clear hd
    subst hnx
    dsimp only [am_step] at hs
    simp only [decide_eq_true_eq] at hck
    split at hs
    · rename_i y0 z0 st0
      cases d0 <;> dsimp only at hs
      case eq => exact lv_icmp_eq hx hb hd2 hck (fun hc => hk _ _ _ _ (hs.1 hc) hl so_pm_2 so_pm_L) (fun hc => hk _ _ _ _ (hs.2 hc) hl so_pm_2 so_pm_L)
      case ne => exact lv_icmp_ne hx hb hd2 hck (fun hc => hk _ _ _ _ (hs.1 hc) hl so_pm_2 so_pm_L) (fun hc => hk _ _ _ _ (hs.2 hc) hl so_pm_2 so_pm_L)
      case lt => exact lv_icmp_lt hx hb hd2 hck (fun hc => hk _ _ _ _ (hs.1 hc) hl so_pm_2 so_pm_L) (fun hc => hk _ _ _ _ (hs.2 hc) hl so_pm_2 so_pm_L)
      case ge => exact lv_icmp_ge hx hb hd2 hck (fun hc => hk _ _ _ _ (hs.1 hc) hl so_pm_2 so_pm_L) (fun hc => hk _ _ _ _ (hs.2 hc) hl so_pm_2 so_pm_L)
      case gt => exact lv_icmp_gt hx hb hd2 hck (fun hc => hk _ _ _ _ (hs.1 hc) hl so_pm_2 so_pm_L) (fun hc => hk _ _ _ _ (hs.2 hc) hl so_pm_2 so_pm_L)
      case le => exact lv_icmp_le hx hb hd2 hck (fun hc => hk _ _ _ _ (hs.1 hc) hl so_pm_2 so_pm_L) (fun hc => hk _ _ _ _ (hs.2 hc) hl so_pm_2 so_pm_L)
    · exact hs.elim
  case goto o0 =>
    obtain ⟨hd2, hnx⟩ := so_dec hd
    clear hd
    subst hnx
    dsimp only [am_step] at hs
    simp only [decide_eq_true_eq] at hck
    exact lv_goto hx hb hd2 hck (hk _ _ _ _ hs hl so_pm_0 so_pm_L)
  case tableswitch d0 lo hi offs =>
    dsimp only [am_step] at hs
    split at hd
    · rename_i i len heq
      simp only [Bool.and_eq_true, decide_eq_true_eq] at hd
      obtain ⟨rfl, ⟨⟨hdf, hal⟩, htb⟩, hsz⟩ := hd
      split at hs
      · rename_i z0 st0
        have ht := so_lk_of _ _ _ _ hs
        by_cases h2 : z0.toInt < lo ∨ hi < z0.toInt
        · rw [so_lk_out (x := z0) (by
            rw [List.all_eq_true] at hal ⊢
            intro q hq
            have h3 := hal q hq
            simp only [Bool.and_eq_true, decide_eq_true_eq] at h3 ⊢
            intro h4
            rw [h4] at h3
            omega)] at ht
          exact lv_tableOut hx hb heq h2 hdf (hk _ _ _ _ ht hl so_pm_1 so_pm_L)
        · have h3 : ¬ z0.toInt < lo := fun h => h2 (Or.inl h)
          have h4 : ¬ hi < z0.toInt := fun h => h2 (Or.inr h)
          have h5 : (z0.toInt - lo).toNat < offs.size := by omega
          have h6 : offs[(z0.toInt - lo).toNat]? = some offs[(z0.toInt - lo).toNat] := Array.getElem?_eq_getElem h5
          have h7 := so_tab_at offs.toList lo (z0.toInt - lo).toNat _ htb (by rw [Array.getElem?_toList]; exact h6)
          rw [show lo + ((z0.toInt - lo).toNat : Int) = z0.toInt by omega, Int32.ofInt_toInt] at h7
          exact lv_tableIn hx hb heq h3 h4 h6 h7 (hk _ _ _ _ ht hl so_pm_1 so_pm_L)
      · exact hs.elim
    · cases hd
  case lookupswitch d0 ps =>
    dsimp only [am_step] at hs
    split at hd
    · rename_i i len heq
      simp only [Bool.and_eq_true, decide_eq_true_eq] at hd
      obtain ⟨rfl, ⟨⟨hdf, hso⟩, hsw⟩, hal⟩ := hd
      split at hs
      · rename_i z0 st0
        have ht := so_lk_of _ _ _ _ hs
        refine lv_lookup (tgt := so_lk sw z0 a) hx hb heq hso rfl ?_ (hk _ _ _ _ ht hl so_pm_1 so_pm_L)
        rw [hsw]
        exact so_lk_pairs hdf z0 ps.toList hal
      · exact hs.elim
    · cases hd
end so1
