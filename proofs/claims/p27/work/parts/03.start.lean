/-! the words of the tables hold there too -/
theorem rf_find {vm : Vm} {k : Class} {n : String} {c : ClassId} (h : vm.findClass n = some c) : ({ vm with classes := vm.classes.push k } : Vm).findClass n = some c := by
  unfold Vm.findClass at h ⊢
  show (vm.classes.push k).findIdx? _ = some c
  rw [Array.findIdx?_push, h]
  rfl
theorem rf_at {vm : Vm} {k k' : Class} {c : ClassId} (h : vm.classes[c]? = some k') : ({ vm with classes := vm.classes.push k } : Vm).classes[c]? = some k' := by
  have hlt := (Array.getElem?_eq_some_iff.mp h).1
  show (vm.classes.push k)[c]? = some k'
  rw [Array.getElem?_push, if_neg (Nat.ne_of_lt hlt)]
  exact h
theorem rf_vm0 : start1.about.vm = rf_s0.vm := rfl
theorem rf_isCode {c : Jvm.Cond} (hc : su_isCode c = true) : ∃ x bytes maxL ret, c = Jvm.Cond.code x bytes maxL ret := by
  cases c <;> first | exact ⟨_, _, _, _, rfl⟩ | exact Bool.noConfusion hc
theorem rf_code (c : Jvm.Cond) (hc : su_isCode c = true) (h : c.before start1.args0 start1.about = true) : c.before start1.args0 rf_s = true := by
  obtain ⟨x, bytes, maxL, ret, rfl⟩ := rf_isCode hc
  simp only [Cond.before, Cond.holds, Cond.value] at h ⊢
  cases hn : start1.about.methodNamed? x with
  | none => rw [hn] at h; simp at h
  | some m =>
    rw [hn] at h
    have hm : rf_s.methodNamed? x = some m := by
      unfold State.methodNamed? at hn ⊢
      simp only [bind, Option.bind_eq_some_iff] at hn ⊢
      obtain ⟨c, h1, k, h2, h3⟩ := hn
      rw [rf_vm0] at h1 h2
      exact ⟨c, rf_find h1, k, rf_at h2, h3⟩
    rw [hm]
    simp only [Option.bind_some] at h ⊢
    cases hk : start1.about.vm.method? m with
    | none => rw [hk] at h; simp at h
    | some meth =>
      rw [hk] at h
      have hk' : rf_s.vm.method? m = some meth := by
        unfold Vm.method? at hk ⊢
        simp only [bind, Option.bind_eq_some_iff] at hk ⊢
        obtain ⟨k, h1, h2⟩ := hk
        rw [rf_vm0] at h1
        exact ⟨k, rf_at h1, h2⟩
      rw [hk']
      exact h
theorem rf_all : tables_1.all (fun c => su_isCode c || c.before start1.args0 rf_s) = true := by
  show (tables_1_1 ++ (tables_1_2 ++ (tables_1_3 ++ (tables_1_4 ++ (tables_1_5 ++ (tables_1_6 ++ tables_1_7)))))).all _ = true
  simp only [List.all_append, rf_all_1, rf_all_2, rf_all_3, rf_all_4, rf_all_5, rf_all_6, rf_all_7, Bool.and_self]
theorem rf_words : ∀ c ∈ (Cond.code x code maxLocals ret :: tables_1), c.before start1.args0 rf_s = true := by
  intro c hc
  cases hq : su_isCode c with
  | true => exact rf_code c hq (start1.words c hc)
  | false =>
    rcases List.mem_cons.mp hc with h | h
    · rw [h] at hq; cases hq
    · have h' := List.all_eq_true.mp rf_all c h
      rw [hq, Bool.false_or] at h'
      exact h'
set_option maxRecDepth 16384 in
theorem rf_start : AtStart classFile x code maxLocals ret World_1 tables_1 room_1 Calls_1 rest_1 Pre_1 launch0 start1.p0 start1.e0 rf_s ⟨0, 0⟩ start1.args0 Lib.HandBits.below0 :=
  ⟨lists_1, trivial, launch0.admits_env _ _ _, launch0.least_env, fairChoices_fair.cas, fairChoices_fair.clock, rfl, by decide +kernel, by decide +kernel,
    (Spec.applies_iff rfl).mpr ⟨rfl, rfl, rfl, by decide +kernel, by decide +kernel, by decide +kernel, launch0.hasRoom_least _ room_1 (by decide +kernel) (by decide +kernel) (by decide +kernel) (by decide +kernel) (by decide +kernel) (by decide +kernel), atoms_intro rf_words⟩,
    trivial, (show rest_1_c.before start1.args0 rf_s = true by decide +kernel), (show (Cond.and given_1 narrow_1).before start1.args0 rf_s = true by decide +kernel)⟩
