theorem rf_exec : start1.p0.tables.exec = Jvm.exec := rfl
theorem rf_run : (stepsAlone start1.p0.tables start1.e0 100 rf_s).status = .running ∧ (stepsAlone start1.p0.tables start1.e0 100 rf_s).frames = .throwing 2 :: Lib.HandBits.below0 ∧
    ∀ k, k < 100 → rf_fr (stepsAlone start1.p0.tables start1.e0 k rf_s).frames = true := by
  obtain ⟨h1, h2⟩ := rf_go_spec rf_exec start1.e0 rf_end 100 rf_s rf_goes
  unfold rf_end at h1
  rw [Bool.and_eq_true, decide_eq_true_eq] at h1
  exact ⟨h1.1, rf_last_spec h1.2, h2⟩
/-! THE STATEMENT AS PRINTED IS FALSE OF THIS START: the law ends there with a throw -/
theorem rf_refuted_1 : RefutedClaimed_1_1 :=
  ⟨launch0, start1.p0, start1.e0, rf_s, ⟨0, 0⟩, start1.args0, Lib.HandBits.below0, rfl, rf_start, 100, .threw 2, fun k hk => rf_fr_spec (rf_run.2.2 k hk), rf_run.1, rf_run.2.1, fun h => by obtain ⟨_, ⟨v, hv⟩, _⟩ := h; cases hv⟩
theorem rf_refuted_2 : RefutedClaimed_1_2 :=
  ⟨launch0, start1.p0, start1.e0, rf_s, ⟨0, 0⟩, start1.args0, Lib.HandBits.below0, rfl, rf_start, 100, .threw 2, fun k hk => rf_fr_spec (rf_run.2.2 k hk), rf_run.1, rf_run.2.1, fun h => by obtain ⟨_, ⟨v, hv⟩, _⟩ := h; cases hv⟩
theorem rf_not {Post : Tables → Env → Array Value → State → Outcome → State → Prop} (hPost : ∀ tb e a s o t, Post tb e a s o t → ∃ v, o = Outcome.returned v) :
    ¬ ArmFor flags0 classFile x code maxLocals ret World_1 tables_1 room_1 Calls_1 rest_1 Pre_1 Post := by
  intro h
  obtain ⟨a1, a2, a3, _, a5, a6, a7, a8, a9, a10, a11, a12, a13⟩ := rf_start
  obtain ⟨n, o, hw, hr, he, hp⟩ := h launch0 rfl a1 a2 start1.p0 start1.e0 a3 a5 a6 rf_s ⟨0, 0⟩ start1.args0 Lib.HandBits.below0 a7 a8 a9 a10 ⟨a11, a12, a13⟩
  obtain ⟨v, hv⟩ := hPost _ _ _ _ _ _ hp
  subst hv
  obtain ⟨h1, h2, h3⟩ := rf_run
  have hE : Ended (stepsAlone start1.p0.tables start1.e0 100 rf_s) Lib.HandBits.below0 (.threw 2) := h2
  rcases Nat.lt_trichotomy n 100 with hn | hn | hn
  · exact he.not_within (rf_fr_spec (h3 n hn))
  · subst hn
    have hu := he.outcome_unique hE
    cases hu
  · exact hE.not_within (hw 100 hn)
theorem rf_not_1 : ¬ Claimed_1_1 := rf_not fun _ _ _ _ _ _ h => h.2.1
theorem rf_not_2 : ¬ Claimed_1_2 := rf_not fun _ _ _ _ _ _ h => h.2.1
/-! so what is owed cannot be proved -/
theorem rf_not_owed : ¬ (Claimed_1_1 ∧ Claimed_1_2) := fun h => rf_not_1 h.1
