/-! THE SMALL MACHINE IS SOUND, part 1: how its values, locals and cells stand for the machine's -/
def so_v (ad : am_K → Nat) : am_V → Value
  | .inl x => .int x
  | .inr (.inl x) => .long x
  | .inr (.inr k) => .ref (ad k)
def so_lv (ad : am_K → Nat) : Nat → am_L → List (Nat × Value)
  | _, [] => []
  | i, none :: l => so_lv ad (i + 1) l
  | i, some v :: l => (i, so_v ad v) :: so_lv ad (i + 1) l
theorem so_lv_ld (ad : am_K → Nat) : ∀ (ls : am_L) (i a : Nat) (v : am_V), am_ld ls a = some v → (i + a, so_v ad v) ∈ so_lv ad i ls := by
  intro ls
  induction ls with
  | nil => intro i a v h; cases h
  | cons x ls ih =>
    intro i a v h
    cases a with
    | zero =>
      have h : x = some v := h
      subst h
      exact List.mem_cons_self
    | succ a =>
      have h : am_ld ls a = some v := h
      have h1 := ih (i + 1) a v h
      rw [show i + 1 + a = i + (a + 1) by omega] at h1
      cases x with
      | none => exact h1
      | some w => exact List.mem_cons_of_mem _ h1
theorem so_lv_ge (ad : am_K → Nat) : ∀ (ls : am_L) (i : Nat) (q : Nat × Value), q ∈ so_lv ad i ls → i ≤ q.1 := by
  intro ls
  induction ls with
  | nil => intro i q h; cases h
  | cons x ls ih =>
    intro i q h
    cases x with
    | none => have h1 := ih (i + 1) q h; omega
    | some w =>
      rcases List.mem_cons.mp h with rfl | h
      · exact Nat.le_refl _
      · have h1 := ih (i + 1) q h; omega
theorem so_lv_sto (ad : am_K → Nat) : ∀ (ls : am_L) (i a : Nat) (v : am_V) (q : Nat × Value), q ∈ so_lv ad i (am_sto ls a v) → q = (i + a, so_v ad v) ∨ (q ∈ so_lv ad i ls ∧ q.1 ≠ i + a ∧ ¬ (q.1 + 1 = i + a ∧ q.2.category = 2)) := by
  intro ls
  induction ls with
  | nil => intro i a v q h; cases h
  | cons x ls ih =>
    intro i a v q h
    match a, h with
    | 0, h =>
      rcases List.mem_cons.mp h with rfl | h9
      · exact Or.inl rfl
      · clear h
        have h1 := so_lv_ge ad ls (i + 1) q h9
        refine Or.inr ⟨?_, by omega, by omega⟩
        cases x with
        | none => exact h9
        | some w => exact List.mem_cons_of_mem _ h9
    | 1, h =>
      have h : q ∈ so_lv ad i (am_nol x :: am_sto ls 0 v) := h
      have key : ∀ q, q ∈ so_lv ad (i + 1) (am_sto ls 0 v) → q = (i + 1, so_v ad v) ∨ (q ∈ so_lv ad (i + 1) ls ∧ q.1 ≠ i + 1 ∧ ¬ (q.1 + 1 = i + 1 ∧ q.2.category = 2)) := fun q h => ih (i + 1) 0 v q h
      have up : ∀ q, q ∈ so_lv ad (i + 1) ls → q ∈ so_lv ad i (x :: ls) := fun q h9 => by
        clear h
        cases x with
        | none => exact h9
        | some w => exact List.mem_cons_of_mem _ h9
      rcases x with _ | (w | (w | w))
      · rcases key q h with h | ⟨h1, h2⟩
        · exact Or.inl h
        · exact Or.inr ⟨up q h1, h2⟩
      · rcases List.mem_cons.mp h with rfl | h
        · exact Or.inr ⟨List.mem_cons_self, by show i ≠ i + 1; omega, by intro hh; exact absurd hh.2 (by show ¬ (1 = 2); decide)⟩
        · rcases key q h with h | ⟨h1, h2⟩
          · exact Or.inl h
          · exact Or.inr ⟨up q h1, h2⟩
      · rcases key q h with h | ⟨h1, h2⟩
        · exact Or.inl h
        · exact Or.inr ⟨up q h1, h2⟩
      · rcases List.mem_cons.mp h with rfl | h
        · exact Or.inr ⟨List.mem_cons_self, by show i ≠ i + 1; omega, by intro hh; exact absurd hh.2 (by show ¬ (1 = 2); decide)⟩
        · rcases key q h with h | ⟨h1, h2⟩
          · exact Or.inl h
          · exact Or.inr ⟨up q h1, h2⟩
    | a + 2, h =>
      have h : q ∈ so_lv ad i (x :: am_sto ls (a + 1) v) := h
      have key : ∀ q, q ∈ so_lv ad (i + 1) (am_sto ls (a + 1) v) → q = (i + (a + 2), so_v ad v) ∨ (q ∈ so_lv ad (i + 1) ls ∧ q.1 ≠ i + (a + 2) ∧ ¬ (q.1 + 1 = i + (a + 2) ∧ q.2.category = 2)) := fun q h => by
        have h1 := ih (i + 1) (a + 1) v q h
        rw [show i + 1 + (a + 1) = i + (a + 2) by omega] at h1
        exact h1
      cases x with
      | none => exact key q h
      | some w =>
        rcases List.mem_cons.mp h with rfl | h
        · exact Or.inr ⟨List.mem_cons_self, by show i ≠ _; omega, by intro hh; have h3 : i + 1 = i + (a + 2) := hh.1; omega⟩
        · rcases key q h with h | ⟨h1, h2⟩
          · exact Or.inl h
          · exact Or.inr ⟨List.mem_cons_of_mem _ h1, h2⟩
/-- locals behind a store -/
theorem so_has_sto {ad : am_K → Nat} {ls : am_L} {a nL : Nat} {v : am_V} {lc : Array Slot} (h : lv_has lc nL ((a, so_v ad v) :: (so_lv ad 0 ls).filter (fun q => !(q.1 == a) && !(q.1 + 1 == a && q.2.category == 2)))) : lv_has lc nL (so_lv ad 0 (am_sto ls a v)) := by
  refine ⟨h.1, h.2.1, fun q hq => h.2.2 q ?_⟩
  rcases so_lv_sto ad ls 0 a v q hq with h1 | ⟨h1, h2, h3⟩
  · rw [h1, Nat.zero_add]
    exact List.mem_cons_self
  · rw [Nat.zero_add] at h2 h3
    refine List.mem_cons_of_mem _ (List.mem_filter.mpr ⟨h1, ?_⟩)
    simp only [Bool.and_eq_true, Bool.not_eq_true', beq_eq_false_iff_ne, Bool.and_eq_false_iff, ne_eq]
    refine ⟨h2, ?_⟩
    by_cases h4 : q.1 + 1 = a
    · exact Or.inr (fun h5 => h3 ⟨h4, h5⟩)
    · exact Or.inl h4
