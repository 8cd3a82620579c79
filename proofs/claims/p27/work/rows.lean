section
/-! A start that meets every premise of the Statement and from which the law throws: the cell that CrowdOut.RULE_FIRST holds is of a second class of the kind 'array of int' -/
def rf_cls : Class := { start1.cArr "[I'" 19 .int with methods := #[Lib.HandJ.method "clone" "()Ljava/lang/Object;" [] (some (.object "java/lang/Object")) 0x1 1 ⟨#[0x2a, 0xbf]⟩] }
def rf_s0 : State := start1.aboutOf #[]
def rf_s : State := { rf_s0 with vm := { rf_s0.vm with classes := rf_s0.vm.classes.push rf_cls }, heap := rf_s0.heap.setIfInBounds 2 { cls := 32, slots := #[.int (150), .int (100), .int (5)], vm := .none } }
end
section
/-! the words of the tables hold there too: all but those on code -/
set_option maxRecDepth 16384 in
theorem rf_w_1_0 : (tables_1_1.take 40).all (fun c => su_isCode c || c.before start1.args0 rf_s) = true := by decide +kernel
set_option maxRecDepth 16384 in
theorem rf_w_1_1 : ((tables_1_1.drop 40).take 40).all (fun c => su_isCode c || c.before start1.args0 rf_s) = true := by decide +kernel
set_option maxRecDepth 16384 in
theorem rf_w_1_2 : (((tables_1_1.drop 40).drop 40).take 40).all (fun c => su_isCode c || c.before start1.args0 rf_s) = true := by decide +kernel
set_option maxRecDepth 16384 in
theorem rf_w_1_3 : ((((tables_1_1.drop 40).drop 40).drop 40).take 34).all (fun c => su_isCode c || c.before start1.args0 rf_s) = true := by decide +kernel
set_option maxRecDepth 16384 in
theorem rf_w_1_4 : (((((tables_1_1.drop 40).drop 40).drop 40).drop 34).take 40).all (fun c => su_isCode c || c.before start1.args0 rf_s) = true := by decide +kernel
set_option maxRecDepth 16384 in
theorem rf_w_1_5 : ((((((tables_1_1.drop 40).drop 40).drop 40).drop 34).drop 40).take 40).all (fun c => su_isCode c || c.before start1.args0 rf_s) = true := by decide +kernel
set_option maxRecDepth 16384 in
theorem rf_w_1_6 : ((((((tables_1_1.drop 40).drop 40).drop 40).drop 34).drop 40).drop 40).all (fun c => su_isCode c || c.before start1.args0 rf_s) = true := by decide +kernel
theorem rf_all_1 : tables_1_1.all (fun c => su_isCode c || c.before start1.args0 rf_s) = true := start1.su_all_split _ 40 tables_1_1 rf_w_1_0 (start1.su_all_split _ 40 (tables_1_1.drop 40) rf_w_1_1 (start1.su_all_split _ 40 ((tables_1_1.drop 40).drop 40) rf_w_1_2 (start1.su_all_split _ 34 (((tables_1_1.drop 40).drop 40).drop 40) rf_w_1_3 (start1.su_all_split _ 40 ((((tables_1_1.drop 40).drop 40).drop 40).drop 34) rf_w_1_4 (start1.su_all_split _ 40 (((((tables_1_1.drop 40).drop 40).drop 40).drop 34).drop 40) rf_w_1_5 (rf_w_1_6))))))
set_option maxRecDepth 16384 in
theorem rf_w_2_0 : (tables_1_2.take 40).all (fun c => su_isCode c || c.before start1.args0 rf_s) = true := by decide +kernel
set_option maxRecDepth 16384 in
theorem rf_w_2_1 : ((tables_1_2.drop 40).take 40).all (fun c => su_isCode c || c.before start1.args0 rf_s) = true := by decide +kernel
set_option maxRecDepth 16384 in
theorem rf_w_2_2 : (((tables_1_2.drop 40).drop 40).take 40).all (fun c => su_isCode c || c.before start1.args0 rf_s) = true := by decide +kernel
set_option maxRecDepth 16384 in
theorem rf_w_2_3 : ((((tables_1_2.drop 40).drop 40).drop 40).take 40).all (fun c => su_isCode c || c.before start1.args0 rf_s) = true := by decide +kernel
set_option maxRecDepth 16384 in
theorem rf_w_2_4 : (((((tables_1_2.drop 40).drop 40).drop 40).drop 40).take 40).all (fun c => su_isCode c || c.before start1.args0 rf_s) = true := by decide +kernel
set_option maxRecDepth 16384 in
theorem rf_w_2_5 : (((((tables_1_2.drop 40).drop 40).drop 40).drop 40).drop 40).all (fun c => su_isCode c || c.before start1.args0 rf_s) = true := by decide +kernel
theorem rf_all_2 : tables_1_2.all (fun c => su_isCode c || c.before start1.args0 rf_s) = true := start1.su_all_split _ 40 tables_1_2 rf_w_2_0 (start1.su_all_split _ 40 (tables_1_2.drop 40) rf_w_2_1 (start1.su_all_split _ 40 ((tables_1_2.drop 40).drop 40) rf_w_2_2 (start1.su_all_split _ 40 (((tables_1_2.drop 40).drop 40).drop 40) rf_w_2_3 (start1.su_all_split _ 40 ((((tables_1_2.drop 40).drop 40).drop 40).drop 40) rf_w_2_4 (rf_w_2_5)))))
set_option maxRecDepth 16384 in
theorem rf_w_3_0 : (tables_1_3.take 40).all (fun c => su_isCode c || c.before start1.args0 rf_s) = true := by decide +kernel
set_option maxRecDepth 16384 in
theorem rf_w_3_1 : ((tables_1_3.drop 40).take 40).all (fun c => su_isCode c || c.before start1.args0 rf_s) = true := by decide +kernel
set_option maxRecDepth 16384 in
theorem rf_w_3_2 : (((tables_1_3.drop 40).drop 40).take 40).all (fun c => su_isCode c || c.before start1.args0 rf_s) = true := by decide +kernel
set_option maxRecDepth 16384 in
theorem rf_w_3_3 : ((((tables_1_3.drop 40).drop 40).drop 40).take 40).all (fun c => su_isCode c || c.before start1.args0 rf_s) = true := by decide +kernel
set_option maxRecDepth 16384 in
theorem rf_w_3_4 : (((((tables_1_3.drop 40).drop 40).drop 40).drop 40).take 40).all (fun c => su_isCode c || c.before start1.args0 rf_s) = true := by decide +kernel
set_option maxRecDepth 16384 in
theorem rf_w_3_5 : (((((tables_1_3.drop 40).drop 40).drop 40).drop 40).drop 40).all (fun c => su_isCode c || c.before start1.args0 rf_s) = true := by decide +kernel
theorem rf_all_3 : tables_1_3.all (fun c => su_isCode c || c.before start1.args0 rf_s) = true := start1.su_all_split _ 40 tables_1_3 rf_w_3_0 (start1.su_all_split _ 40 (tables_1_3.drop 40) rf_w_3_1 (start1.su_all_split _ 40 ((tables_1_3.drop 40).drop 40) rf_w_3_2 (start1.su_all_split _ 40 (((tables_1_3.drop 40).drop 40).drop 40) rf_w_3_3 (start1.su_all_split _ 40 ((((tables_1_3.drop 40).drop 40).drop 40).drop 40) rf_w_3_4 (rf_w_3_5)))))
set_option maxRecDepth 16384 in
theorem rf_w_4_0 : (tables_1_4.take 40).all (fun c => su_isCode c || c.before start1.args0 rf_s) = true := by decide +kernel
set_option maxRecDepth 16384 in
theorem rf_w_4_1 : ((tables_1_4.drop 40).take 40).all (fun c => su_isCode c || c.before start1.args0 rf_s) = true := by decide +kernel
set_option maxRecDepth 16384 in
theorem rf_w_4_2 : (((tables_1_4.drop 40).drop 40).take 38).all (fun c => su_isCode c || c.before start1.args0 rf_s) = true := by decide +kernel
set_option maxRecDepth 16384 in
theorem rf_w_4_3 : ((((tables_1_4.drop 40).drop 40).drop 38).take 40).all (fun c => su_isCode c || c.before start1.args0 rf_s) = true := by decide +kernel
set_option maxRecDepth 16384 in
theorem rf_w_4_4 : (((((tables_1_4.drop 40).drop 40).drop 38).drop 40).take 40).all (fun c => su_isCode c || c.before start1.args0 rf_s) = true := by decide +kernel
set_option maxRecDepth 16384 in
theorem rf_w_4_5 : ((((((tables_1_4.drop 40).drop 40).drop 38).drop 40).drop 40).take 40).all (fun c => su_isCode c || c.before start1.args0 rf_s) = true := by decide +kernel
set_option maxRecDepth 16384 in
theorem rf_w_4_6 : ((((((tables_1_4.drop 40).drop 40).drop 38).drop 40).drop 40).drop 40).all (fun c => su_isCode c || c.before start1.args0 rf_s) = true := by decide +kernel
theorem rf_all_4 : tables_1_4.all (fun c => su_isCode c || c.before start1.args0 rf_s) = true := start1.su_all_split _ 40 tables_1_4 rf_w_4_0 (start1.su_all_split _ 40 (tables_1_4.drop 40) rf_w_4_1 (start1.su_all_split _ 38 ((tables_1_4.drop 40).drop 40) rf_w_4_2 (start1.su_all_split _ 40 (((tables_1_4.drop 40).drop 40).drop 38) rf_w_4_3 (start1.su_all_split _ 40 ((((tables_1_4.drop 40).drop 40).drop 38).drop 40) rf_w_4_4 (start1.su_all_split _ 40 (((((tables_1_4.drop 40).drop 40).drop 38).drop 40).drop 40) rf_w_4_5 (rf_w_4_6))))))
set_option maxRecDepth 16384 in
theorem rf_w_5_0 : (tables_1_5.take 40).all (fun c => su_isCode c || c.before start1.args0 rf_s) = true := by decide +kernel
set_option maxRecDepth 16384 in
theorem rf_w_5_1 : ((tables_1_5.drop 40).take 40).all (fun c => su_isCode c || c.before start1.args0 rf_s) = true := by decide +kernel
set_option maxRecDepth 16384 in
theorem rf_w_5_2 : (((tables_1_5.drop 40).drop 40).take 24).all (fun c => su_isCode c || c.before start1.args0 rf_s) = true := by decide +kernel
set_option maxRecDepth 16384 in
theorem rf_w_5_3 : ((((tables_1_5.drop 40).drop 40).drop 24).take 40).all (fun c => su_isCode c || c.before start1.args0 rf_s) = true := by decide +kernel
set_option maxRecDepth 16384 in
theorem rf_w_5_4 : (((((tables_1_5.drop 40).drop 40).drop 24).drop 40).take 40).all (fun c => su_isCode c || c.before start1.args0 rf_s) = true := by decide +kernel
set_option maxRecDepth 16384 in
theorem rf_w_5_5 : ((((((tables_1_5.drop 40).drop 40).drop 24).drop 40).drop 40).take 40).all (fun c => su_isCode c || c.before start1.args0 rf_s) = true := by decide +kernel
set_option maxRecDepth 16384 in
theorem rf_w_5_6 : ((((((tables_1_5.drop 40).drop 40).drop 24).drop 40).drop 40).drop 40).all (fun c => su_isCode c || c.before start1.args0 rf_s) = true := by decide +kernel
theorem rf_all_5 : tables_1_5.all (fun c => su_isCode c || c.before start1.args0 rf_s) = true := start1.su_all_split _ 40 tables_1_5 rf_w_5_0 (start1.su_all_split _ 40 (tables_1_5.drop 40) rf_w_5_1 (start1.su_all_split _ 24 ((tables_1_5.drop 40).drop 40) rf_w_5_2 (start1.su_all_split _ 40 (((tables_1_5.drop 40).drop 40).drop 24) rf_w_5_3 (start1.su_all_split _ 40 ((((tables_1_5.drop 40).drop 40).drop 24).drop 40) rf_w_5_4 (start1.su_all_split _ 40 (((((tables_1_5.drop 40).drop 40).drop 24).drop 40).drop 40) rf_w_5_5 (rf_w_5_6))))))
set_option maxRecDepth 16384 in
theorem rf_w_6_0 : (tables_1_6.take 33).all (fun c => su_isCode c || c.before start1.args0 rf_s) = true := by decide +kernel
set_option maxRecDepth 16384 in
theorem rf_w_6_1 : ((tables_1_6.drop 33).take 31).all (fun c => su_isCode c || c.before start1.args0 rf_s) = true := by decide +kernel
set_option maxRecDepth 16384 in
theorem rf_w_6_2 : (((tables_1_6.drop 33).drop 31).take 31).all (fun c => su_isCode c || c.before start1.args0 rf_s) = true := by decide +kernel
set_option maxRecDepth 16384 in
theorem rf_w_6_3 : ((((tables_1_6.drop 33).drop 31).drop 31).take 31).all (fun c => su_isCode c || c.before start1.args0 rf_s) = true := by decide +kernel
set_option maxRecDepth 16384 in
theorem rf_w_6_4 : (((((tables_1_6.drop 33).drop 31).drop 31).drop 31).take 31).all (fun c => su_isCode c || c.before start1.args0 rf_s) = true := by decide +kernel
set_option maxRecDepth 16384 in
theorem rf_w_6_5 : ((((((tables_1_6.drop 33).drop 31).drop 31).drop 31).drop 31).take 31).all (fun c => su_isCode c || c.before start1.args0 rf_s) = true := by decide +kernel
set_option maxRecDepth 16384 in
theorem rf_w_6_6 : (((((((tables_1_6.drop 33).drop 31).drop 31).drop 31).drop 31).drop 31).take 31).all (fun c => su_isCode c || c.before start1.args0 rf_s) = true := by decide +kernel
set_option maxRecDepth 16384 in
theorem rf_w_6_7 : (((((((tables_1_6.drop 33).drop 31).drop 31).drop 31).drop 31).drop 31).drop 31).all (fun c => su_isCode c || c.before start1.args0 rf_s) = true := by decide +kernel
theorem rf_all_6 : tables_1_6.all (fun c => su_isCode c || c.before start1.args0 rf_s) = true := start1.su_all_split _ 33 tables_1_6 rf_w_6_0 (start1.su_all_split _ 31 (tables_1_6.drop 33) rf_w_6_1 (start1.su_all_split _ 31 ((tables_1_6.drop 33).drop 31) rf_w_6_2 (start1.su_all_split _ 31 (((tables_1_6.drop 33).drop 31).drop 31) rf_w_6_3 (start1.su_all_split _ 31 ((((tables_1_6.drop 33).drop 31).drop 31).drop 31) rf_w_6_4 (start1.su_all_split _ 31 (((((tables_1_6.drop 33).drop 31).drop 31).drop 31).drop 31) rf_w_6_5 (start1.su_all_split _ 31 ((((((tables_1_6.drop 33).drop 31).drop 31).drop 31).drop 31).drop 31) rf_w_6_6 (rf_w_6_7)))))))
set_option maxRecDepth 16384 in
theorem rf_w_7_0 : (tables_1_7.take 31).all (fun c => su_isCode c || c.before start1.args0 rf_s) = true := by decide +kernel
set_option maxRecDepth 16384 in
theorem rf_w_7_1 : ((tables_1_7.drop 31).take 31).all (fun c => su_isCode c || c.before start1.args0 rf_s) = true := by decide +kernel
set_option maxRecDepth 16384 in
theorem rf_w_7_2 : ((tables_1_7.drop 31).drop 31).all (fun c => su_isCode c || c.before start1.args0 rf_s) = true := by decide +kernel
theorem rf_all_7 : tables_1_7.all (fun c => su_isCode c || c.before start1.args0 rf_s) = true := start1.su_all_split _ 31 tables_1_7 rf_w_7_0 (start1.su_all_split _ 31 (tables_1_7.drop 31) rf_w_7_1 (rf_w_7_2))
end
section
/-! the words of the tables hold there too -/
theorem rf_find {vm : Vm} {k : Class} {n : String} {c : ClassId} (h : vm.findClass n = some c) : ({ vm with classes := vm.classes.push k } : Vm).findClass n = some c := by
  unfold Vm.findClass at h ⊢
  show (vm.classes.push k).findIdx? _ = some c
  rw [Array.findIdx?_push, h]
  rfl
theorem rf_at {vm : Vm} {k k' : Class} {c : ClassId} (h : vm.classes[c]? = some k') : ({ vm with classes := vm.classes.push k } : Vm).classes[c]? = some k' := by
  have hlt := (Array.getElem?_eq_some_iff.mp h).1
  show (vm.classes.push k)[c]? = some k'
  rw [Array.getElem?_push, if_neg (Nat.ne_of_lt hlt)]
  exact h
theorem rf_vm0 : start1.about.vm = rf_s0.vm := rfl
theorem rf_isCode {c : Jvm.Cond} (hc : su_isCode c = true) : ∃ x bytes maxL ret, c = Jvm.Cond.code x bytes maxL ret := by
  cases c <;> first | exact ⟨_, _, _, _, rfl⟩ | exact Bool.noConfusion hc
theorem rf_code (c : Jvm.Cond) (hc : su_isCode c = true) (h : c.before start1.args0 start1.about = true) : c.before start1.args0 rf_s = true := by
  obtain ⟨x, bytes, maxL, ret, rfl⟩ := rf_isCode hc
  simp only [Cond.before, Cond.holds, Cond.value] at h ⊢
  cases hn : start1.about.methodNamed? x with
  | none => rw [hn] at h; simp at h
  | some m =>
    rw [hn] at h
    have hm : rf_s.methodNamed? x = some m := by
      unfold State.methodNamed? at hn ⊢
      simp only [bind, Option.bind_eq_some_iff] at hn ⊢
      obtain ⟨c, h1, k, h2, h3⟩ := hn
      rw [rf_vm0] at h1 h2
      exact ⟨c, rf_find h1, k, rf_at h2, h3⟩
    rw [hm]
    simp only [Option.bind_some] at h ⊢
    cases hk : start1.about.vm.method? m with
    | none => rw [hk] at h; simp at h
    | some meth =>
      rw [hk] at h
      have hk' : rf_s.vm.method? m = some meth := by
        unfold Vm.method? at hk ⊢
        simp only [bind, Option.bind_eq_some_iff] at hk ⊢
        obtain ⟨k, h1, h2⟩ := hk
        rw [rf_vm0] at h1
        exact ⟨k, rf_at h1, h2⟩
      rw [hk']
      exact h
theorem rf_all : tables_1.all (fun c => su_isCode c || c.before start1.args0 rf_s) = true := by
  show (tables_1_1 ++ (tables_1_2 ++ (tables_1_3 ++ (tables_1_4 ++ (tables_1_5 ++ (tables_1_6 ++ tables_1_7)))))).all _ = true
  simp only [List.all_append, rf_all_1, rf_all_2, rf_all_3, rf_all_4, rf_all_5, rf_all_6, rf_all_7, Bool.and_self]
theorem rf_words : ∀ c ∈ (Cond.code x code maxLocals ret :: tables_1), c.before start1.args0 rf_s = true := by
  intro c hc
  cases hq : su_isCode c with
  | true => exact rf_code c hq (start1.words c hc)
  | false =>
    rcases List.mem_cons.mp hc with h | h
    · rw [h] at hq; cases hq
    · have h' := List.all_eq_true.mp rf_all c h
      rw [hq, Bool.false_or] at h'
      exact h'
set_option maxRecDepth 16384 in
theorem rf_start : AtStart classFile x code maxLocals ret World_1 tables_1 room_1 Calls_1 rest_1 Pre_1 launch0 start1.p0 start1.e0 rf_s ⟨0, 0⟩ start1.args0 Lib.HandBits.below0 :=
  ⟨lists_1, trivial, launch0.admits_env _ _ _, launch0.least_env, fairChoices_fair.cas, fairChoices_fair.clock, rfl, by decide +kernel, by decide +kernel,
    (Spec.applies_iff rfl).mpr ⟨rfl, rfl, rfl, by decide +kernel, by decide +kernel, by decide +kernel, launch0.hasRoom_least _ room_1 (by decide +kernel) (by decide +kernel) (by decide +kernel) (by decide +kernel) (by decide +kernel) (by decide +kernel), atoms_intro rf_words⟩,
    trivial, (show rest_1_c.before start1.args0 rf_s = true by decide +kernel), (show (Cond.and given_1 narrow_1).before start1.args0 rf_s = true by decide +kernel)⟩
end
section
def rf_nf (f : NFrame) : Bool := match f with
  | ⟨m, a, st, sv, aw, an, lo, wo⟩ => decide (m = ⟨0, 0⟩) && decide (a = #[]) && decide (st = 0) && decide (sv = #[]) && !aw && decide (an = none) && decide (lo = none) && decide (wo = 0)
theorem rf_nf_spec {f : NFrame} (h : rf_nf f = true) : f = { method := ⟨0, 0⟩, args := #[] } := by
  cases f
  simp only [rf_nf, Bool.and_eq_true, decide_eq_true_eq, Bool.not_eq_true'] at h
  obtain ⟨⟨⟨⟨⟨⟨⟨h1, h2⟩, h3⟩, h4⟩, h5⟩, h6⟩, h7⟩, h8⟩ := h
  subst h1 h2 h3 h4 h5 h6 h7 h8
  rfl
/-! the invocation is under way: something lies above the caller's frame, and not a throw alone -/
def rf_tl : List Frame → Bool
  | [] => false
  | [.native f] => rf_nf f
  | _ :: r => rf_tl r
theorem rf_tl_spec : ∀ {fs : List Frame}, rf_tl fs = true → ∃ above, fs = above ++ Lib.HandBits.below0
  | [], h => by cases h
  | [f], h => by
    cases f <;> first | exact ⟨[], by rw [rf_nf_spec (show rf_nf _ = true from h)]; rfl⟩ | (exact Bool.noConfusion h)
  | f :: g :: r, h => by
    have h' : rf_tl (g :: r) = true := by
      cases f <;> exact h
    obtain ⟨above, he⟩ := rf_tl_spec h'
    exact ⟨f :: above, by rw [he]; rfl⟩
def rf_fr : List Frame → Bool
  | [] => false
  | [_] => false
  | [.throwing _, _] => false
  | f :: r => rf_tl (f :: r)
theorem rf_fr_spec {s : State} (h : rf_fr s.frames = true) : Within s Lib.HandBits.below0 := by
  unfold rf_fr at h
  split at h
  · cases h
  · cases h
  · cases h
  · rename_i f r h1 h2 he
    obtain ⟨above, ha⟩ := rf_tl_spec h
    refine ⟨above, he.trans ha, ?_, ?_⟩
    · rintro rfl
      simp only [Lib.HandBits.below0, List.nil_append, List.cons.injEq] at ha
      exact h1 ha.2
    · rintro a rfl
      simp only [Lib.HandBits.below0, List.cons_append, List.nil_append, List.cons.injEq] at ha
      exact h2 _ _ ha.1 ha.2
/-! the same value, laid open (so that the kernel does not carry what is not reckoned yet) -/
def rf_N (n : Nat) (k : Nat → Bool) : Bool := match n with
  | 0 => k 0
  | m + 1 => k (m + 1)
theorem rf_N_eq (n : Nat) (k : Nat → Bool) : rf_N n k = k n := by cases n <;> rfl
def rf_L {α : Type} (f : α → (α → Bool) → Bool) : List α → (List α → Bool) → Bool
  | [], k => k []
  | a :: r, k => f a fun b => rf_L f r fun q => k (b :: q)
theorem rf_L_eq {α : Type} {f : α → (α → Bool) → Bool} (hf : ∀ a k, f a k = k a) : ∀ (l : List α) (k : List α → Bool), rf_L f l k = k l
  | [], _ => rfl
  | a :: r, k => by rw [rf_L, hf, rf_L_eq hf r]
def rf_A {α : Type} (f : α → (α → Bool) → Bool) (a : Array α) (k : Array α → Bool) : Bool := rf_L f a.toList fun l => k ⟨l⟩
theorem rf_A_eq {α : Type} {f : α → (α → Bool) → Bool} (hf : ∀ a k, f a k = k a) (a : Array α) (k : Array α → Bool) : rf_A f a k = k a := by rw [rf_A, rf_L_eq hf]
def rf_V (v : Value) (k : Value → Bool) : Bool := match v with
  | .int n => k (.int n)
  | .long n => k (.long n)
  | .float n => k (.float n)
  | .double n => k (.double n)
  | .null => k .null
  | .ref a => rf_N a fun b => k (.ref b)
  | .retAddr a => k (.retAddr a)
theorem rf_V_eq (v : Value) (k : Value → Bool) : rf_V v k = k v := by cases v <;> first | rfl | (rw [rf_V, rf_N_eq])
def rf_O (v : Slot) (k : Slot → Bool) : Bool := match v with
  | .unset => k .unset
  | .second => k .second
  | .val v => rf_V v fun w => k (.val w)
theorem rf_O_eq (v : Slot) (k : Slot → Bool) : rf_O v k = k v := by cases v <;> first | rfl | (rw [rf_O, rf_V_eq])
def rf_M (m : MethodId) (k : MethodId → Bool) : Bool := match m with
  | ⟨c, i⟩ => rf_N c fun c' => rf_N i fun i' => k ⟨c', i'⟩
theorem rf_M_eq (m : MethodId) (k : MethodId → Bool) : rf_M m k = k m := by cases m; rw [rf_M, rf_N_eq, rf_N_eq]
def rf_F (f : Frame) (k : Frame → Bool) : Bool := match f with
  | .java ⟨m, pc, ls, st, lo, en, ro⟩ => rf_M m fun m' => rf_N pc fun pc' => rf_A rf_O ls fun ls' => rf_L rf_V st fun st' => rf_N ro fun ro' => k (.java ⟨m', pc', ls', st', lo, en, ro'⟩)
  | .invoking m args => rf_M m fun m' => rf_A rf_V args fun a' => k (.invoking m' a')
  | g => k g
theorem rf_F_eq (f : Frame) (k : Frame → Bool) : rf_F f k = k f := by
  unfold rf_F
  split
  · rw [rf_M_eq, rf_N_eq, rf_A_eq rf_O_eq, rf_L_eq rf_V_eq, rf_N_eq]
  · rw [rf_M_eq, rf_A_eq rf_V_eq]
  · rfl
def rf_T (t : Thread) (k : Thread → Bool) : Bool := match t with
  | ⟨fs, a, b, c, d, e, f, g, h⟩ => rf_L rf_F fs fun fs' => k ⟨fs', a, b, c, d, e, f, g, h⟩
theorem rf_T_eq (t : Thread) (k : Thread → Bool) : rf_T t k = k t := by cases t; rw [rf_T, rf_L_eq rf_F_eq]
def rf_C (c : Cell) (k : Cell → Bool) : Bool := match c with
  | ⟨c, s, m, h, v⟩ => rf_N c fun c' => k ⟨c', s, m, h, v⟩
theorem rf_C_eq (c : Cell) (k : Cell → Bool) : rf_C c k = k c := by cases c; rw [rf_C, rf_N_eq]
def rf_Vm (v : Vm) (k : Vm → Bool) : Bool := match v with
  | ⟨a1, a2, a3, a4, a5, a6, a7, a8, a9, b1, b2, b3, b4, b5, b6, b7, b8, b9, c1⟩ => k ⟨a1, a2, a3, a4, a5, a6, a7, a8, a9, b1, b2, b3, b4, b5, b6, b7, b8, b9, c1⟩
theorem rf_Vm_eq (v : Vm) (k : Vm → Bool) : rf_Vm v k = k v := by cases v; rfl
def rf_St (v : Status) (k : Status → Bool) : Bool := match v with
  | .running => k .running
  | .exited c => k (.exited c)
  | .uncaught a => k (.uncaught a)
  | .deadlock => k .deadlock
  | .stopped s => k (.stopped s)
theorem rf_St_eq (v : Status) (k : Status → Bool) : rf_St v k = k v := by cases v <;> rfl
def rf_S (s : State) (k : State → Bool) : Bool := match s with
  | ⟨h, v, t, c, w, d, n, u, st⟩ => rf_A rf_C h fun h' => rf_Vm v fun v' => rf_A rf_T t fun t' => rf_N c fun c' => rf_N n fun n' => rf_N u fun u' => rf_St st fun st' => k ⟨h', v', t', c', w, d, n', u', st'⟩
theorem rf_S_eq (s : State) (k : State → Bool) : rf_S s k = k s := by
  cases s
  rw [rf_S, rf_A_eq rf_C_eq, rf_Vm_eq, rf_A_eq rf_T_eq, rf_N_eq, rf_N_eq, rf_N_eq, rf_St_eq]
/-! newarray of ints, in one reckoning (the machine looks at every element of the new row: too dear for the kernel at 800) -/
def rf_isNew (d : Except DecodeError (Instr × Nat)) : Bool := match d with
  | .ok (.newarray .int, 2) => true
  | _ => false
theorem rf_isNew_spec {d : Except DecodeError (Instr × Nat)} (h : rf_isNew d = true) : d = .ok (.newarray .int, 2) := by
  unfold rf_isNew at h
  split at h
  · rfl
  · cases h
def rf_kind (k : Option Class) : Bool := match k with
  | some k => (match k.kind with
    | .array _ .int => true
    | _ => false)
  | none => false
theorem rf_kind_spec {k : Option Class} (h : rf_kind k = true) : ∃ c comp, k = some c ∧ c.kind = .array comp .int := by
  unfold rf_kind at h
  split at h
  · rename_i c
    split at h
    · rename_i comp hk
      exact ⟨c, comp, rfl, hk⟩
    · cases h
  · cases h
def rf_plain (k : Option Class) : Bool := match k with
  | some k => plainName k.name
  | none => false
def rf_cond (e : Env) (s : State) (g : JFrame) (n : Int32) : Bool :=
  decide (s.vm.findClass "[I" = some 20) && rf_kind s.vm.classes[20]? && decide (¬ n < 0) && decide (n.toNatClampNeg ≤ 1000) && rf_plain s.vm.classes[g.method.cls]? &&
    decide (1000 ≤ e.platform.arrayLengthLimit) && decide (4000 ≤ e.platform.maxHeapBytes) && decide (s.heap.size < e.platform.maxCells) && decide (s.slotsUsed + n.toNatClampNeg ≤ e.platform.maxSlots)
def rf_made (s : State) (g : JFrame) (n : Int32) (rest : List Value) : State :=
  (s.pushCell { cls := 20, slots := Array.replicate n.toNatClampNeg (defaultValue .int), vm := .none }).setTop { g with pc := g.pc + 2, stack := .ref s.heap.size :: rest }
def rf_fast (e : Env) (s : State) : Option State := match s.topJava? with
  | some g => (match s.code? g.method with
    | some c => (match g.stack with
      | .int n :: rest => if rf_isNew (decode c.code g.pc) && rf_cond e s g n then some (rf_made s g n rest) else none
      | _ => none)
    | none => none)
  | none => none
theorem rf_fast_spec {p : Program} (hexec : p.tables.exec = Jvm.exec) {e : Env} {s t : State} (h : rf_fast e s = some t) : (stepThread p.tables e s).1 = t := by
  unfold rf_fast at h
  split at h
  · rename_i g hg
    split at h
    · rename_i c hc
      split at h
      · rename_i n rest hst
        split at h
        · rename_i hcond
          cases h
          rw [Bool.and_eq_true] at hcond
          obtain ⟨hd, hcond⟩ := hcond
          have hd := rf_isNew_spec hd
          simp only [rf_cond, Bool.and_eq_true, decide_eq_true_eq] at hcond
          obtain ⟨⟨⟨⟨⟨⟨⟨⟨h1, h2⟩, h3⟩, h4⟩, h5⟩, h6⟩, h7⟩, h8⟩, h9⟩ := hcond
          obtain ⟨k, comp, hk, hkind⟩ := rf_kind_spec h2
          have htop : s.topJava?.isSome := by rw [hg]; rfl
          have hfr : s.frames = .java g :: s.frames.tail := by
            have hq := State.frames_setTop' g htop
            rwa [State.setTop_self hg] at hq
          have hpl : s.plainMethod g.method := by
            intro k' hk'
            rw [hk'] at h5
            exact plain_of_name h5
          have hrun : wpRun (p.tables.exec (.newarray .int)) (fun _ s₁ _ => s₁ = (s.pushCell { cls := 20, slots := Array.replicate n.toNatClampNeg (defaultValue .int), vm := .none }).setTop { g with stack := .ref s.heap.size :: rest }) (fun _ _ _ => False) e s := by
            rw [hexec]
            have hq := (newarray.wp_ready (Q := fun _ _ _ s₁ => s₁ = (s.pushCell { cls := 20, slots := Array.replicate n.toNatClampNeg (defaultValue .int), vm := .none }).setTop { g with stack := .ref s.heap.size :: rest }) (E := fun _ _ _ => False) (d := false) (acts := []) (atype := .int) (e := e) (s := s) (f := g) (c := 20) (k := k) (comp := comp) htop h1 hk hkind hst h3 (by omega) (by show ¬ n.toNatClampNeg * 4 > _; omega)).mpr ⟨h8, h9, rfl⟩
            rw [State.setTop_self hg] at hq
            exact hq
          rw [stepThread_java hfr hpl hc hd]
          have hw := (wpRun_iff_run _ _ _ _ _).mp hrun
          cases hr : (p.tables.exec (.newarray .int)).run e s with
          | ok a s₁ acts =>
            rw [hr] at hw
            have hw' : s₁ = _ := hw
            rw [hw']
            exact afterInstr_ok e 2 _ _ acts
          | ctl x s₁ acts =>
            rw [hr] at hw
            cases x <;> exact hw.elim
        · cases h
      · cases h
    · cases h
  · cases h
/-! n steps, each laid open; 'q' at each of them, 'q' at the end -/
def rf_step (tb : Tables) (e : Env) (s : State) (k : State → Bool) : Bool := match rf_fast e s with
  | some t => rf_S t k
  | none => rf_S (stepThread tb e s).1 k
def rf_go (tb : Tables) (e : Env) (p : State → Bool) : Nat → State → Bool
  | 0, s => p s
  | n + 1, s => rf_fr s.frames && (match s.status, s.curStatus?, s.alone with
    | .running, some .runnable, true => rf_step tb e s (rf_go tb e p n)
    | _, _, _ => false)
theorem rf_step_eq {p : Program} (hexec : p.tables.exec = Jvm.exec) (e : Env) (s : State) (k : State → Bool) : rf_step p.tables e s k = k (stepThread p.tables e s).1 := by
  unfold rf_step
  split
  · rename_i t ht
    rw [rf_S_eq, rf_fast_spec hexec ht]
  · rw [rf_S_eq]
theorem rf_go_spec {p : Program} (hexec : p.tables.exec = Jvm.exec) (e : Env) (q : State → Bool) : ∀ (n : Nat) (s : State), rf_go p.tables e q n s = true →
    q (stepsAlone p.tables e n s) = true ∧ ∀ k, k < n → rf_fr (stepsAlone p.tables e k s).frames = true
  | 0, s, h => ⟨h, fun k hk => absurd hk (Nat.not_lt_zero k)⟩
  | n + 1, s, h => by
    rw [rf_go, Bool.and_eq_true] at h
    obtain ⟨h1, h2⟩ := h
    split at h2
    · rename_i a b c
      rw [rf_step_eq hexec] at h2
      obtain ⟨h3, h4⟩ := rf_go_spec hexec e q n _ h2
      have hg : s.goesOn := ⟨a, b, c⟩
      refine ⟨by rw [stepsAlone_succ _ hg]; exact h3, fun k hk => ?_⟩
      cases k with
      | zero => exact h1
      | succ j => rw [stepsAlone_succ _ hg]; exact h4 j (by omega)
    · cases h2
def rf_last (fs : List Frame) : Bool := match fs with
  | [.throwing a, .native f] => decide (a = 2) && rf_nf f
  | _ => false
theorem rf_last_spec {fs : List Frame} (h : rf_last fs = true) : fs = .throwing 2 :: Lib.HandBits.below0 := by
  unfold rf_last at h
  split at h
  · rename_i a f
    rw [Bool.and_eq_true, decide_eq_true_eq] at h
    rw [h.1, rf_nf_spec h.2]
    rfl
  · cases h
def rf_end (s : State) : Bool := decide (s.status = .running) && rf_last s.frames
set_option maxRecDepth 16384 in
theorem rf_goes : rf_go start1.p0.tables start1.e0 rf_end 100 rf_s = true := by decide +kernel
end
section
theorem rf_exec : start1.p0.tables.exec = Jvm.exec := rfl
theorem rf_run : (stepsAlone start1.p0.tables start1.e0 100 rf_s).status = .running ∧ (stepsAlone start1.p0.tables start1.e0 100 rf_s).frames = .throwing 2 :: Lib.HandBits.below0 ∧
    ∀ k, k < 100 → rf_fr (stepsAlone start1.p0.tables start1.e0 k rf_s).frames = true := by
  obtain ⟨h1, h2⟩ := rf_go_spec rf_exec start1.e0 rf_end 100 rf_s rf_goes
  unfold rf_end at h1
  rw [Bool.and_eq_true, decide_eq_true_eq] at h1
  exact ⟨h1.1, rf_last_spec h1.2, h2⟩
/-! THE STATEMENT AS PRINTED IS FALSE OF THIS START: the law ends there with a throw -/
theorem rf_refuted_1 : RefutedClaimed_1_1 :=
  ⟨launch0, start1.p0, start1.e0, rf_s, ⟨0, 0⟩, start1.args0, Lib.HandBits.below0, rfl, rf_start, 100, .threw 2, fun k hk => rf_fr_spec (rf_run.2.2 k hk), rf_run.1, rf_run.2.1, fun h => by obtain ⟨_, ⟨v, hv⟩, _⟩ := h; cases hv⟩
theorem rf_refuted_2 : RefutedClaimed_1_2 :=
  ⟨launch0, start1.p0, start1.e0, rf_s, ⟨0, 0⟩, start1.args0, Lib.HandBits.below0, rfl, rf_start, 100, .threw 2, fun k hk => rf_fr_spec (rf_run.2.2 k hk), rf_run.1, rf_run.2.1, fun h => by obtain ⟨_, ⟨v, hv⟩, _⟩ := h; cases hv⟩
theorem rf_not {Post : Tables → Env → Array Value → State → Outcome → State → Prop} (hPost : ∀ tb e a s o t, Post tb e a s o t → ∃ v, o = Outcome.returned v) :
    ¬ ArmFor flags0 classFile x code maxLocals ret World_1 tables_1 room_1 Calls_1 rest_1 Pre_1 Post := by
  intro h
  obtain ⟨a1, a2, a3, _, a5, a6, a7, a8, a9, a10, a11, a12, a13⟩ := rf_start
  obtain ⟨n, o, hw, hr, he, hp⟩ := h launch0 rfl a1 a2 start1.p0 start1.e0 a3 a5 a6 rf_s ⟨0, 0⟩ start1.args0 Lib.HandBits.below0 a7 a8 a9 a10 ⟨a11, a12, a13⟩
  obtain ⟨v, hv⟩ := hPost _ _ _ _ _ _ hp
  subst hv
  obtain ⟨h1, h2, h3⟩ := rf_run
  have hE : Ended (stepsAlone start1.p0.tables start1.e0 100 rf_s) Lib.HandBits.below0 (.threw 2) := h2
  rcases Nat.lt_trichotomy n 100 with hn | hn | hn
  · exact he.not_within (rf_fr_spec (h3 n hn))
  · subst hn
    have hu := he.outcome_unique hE
    cases hu
  · exact hE.not_within (hw 100 hn)
theorem rf_not_1 : ¬ Claimed_1_1 := rf_not fun _ _ _ _ _ _ h => h.2.1
theorem rf_not_2 : ¬ Claimed_1_2 := rf_not fun _ _ _ _ _ _ h => h.2.1
/-! so what is owed cannot be proved -/
theorem rf_not_owed : ¬ (Claimed_1_1 ∧ Claimed_1_2) := fun h => rf_not_1 h.1
end
section
/-! CONTROL: the same start, the second class still in the table, but RULE_FIRST's cell of the class that is found as "[I": after as many steps the law is under way, and no throw is on its stack: the throw above comes of that cell's class alone -/
def rf_c : State := { rf_s with heap := rf_s0.heap }
def rf_calm (fs : List Frame) : Bool := fs.all fun
  | .throwing _ => false
  | .thenThrow _ => false
  | .throwNew .. => false
  | _ => true
set_option maxRecDepth 16384 in
theorem rf_control : rf_go start1.p0.tables start1.e0 (fun s => decide (s.status = .running) && rf_calm s.frames && rf_fr s.frames) 100 rf_c = true := by decide +kernel
end
