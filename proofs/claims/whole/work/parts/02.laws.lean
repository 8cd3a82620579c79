theorem am_seq_eq {α : Type} (l : List α) (f : List α → Prop) : am_seq l f = f l := by
  induction l generalizing f with
  | nil => rfl
  | cons a l ih => exact ih _
theorem am_pop_ex {Z : Type} {f : List am_V → List am_V → Prop} {X : Z → List am_V → List am_V → Prop} (hf : ∀ a s, f a s → ∃ z, X z a s) : ∀ (n : Nat) (st as : List am_V), am_pop n st as f → ∃ z, am_pop n st as (X z) := by
  intro n
  induction n with
  | zero => intro st as h; exact hf _ _ h
  | succ n ih =>
    intro st as h
    cases st with
    | nil => exact h.elim
    | cons v st => exact ih _ _ h
theorem am_sw_ex {Z : Type} {f : Nat → Prop} {X : Z → Nat → Prop} (hf : ∀ t, f t → ∃ z, X z t) (x : Int32) (d : Nat) : ∀ l : List (Int32 × Nat), am_sw l x d f → ∃ z, am_sw l x d (X z) := by
  intro l
  induction l with
  | nil => intro h; exact hf _ h
  | cons q l ih =>
    obtain ⟨v, t⟩ := q
    intro h
    by_cases hx : x = v
    · obtain ⟨z, hz⟩ := hf _ (h.1 hx)
      exact ⟨z, fun _ => hz, fun h => absurd hx h⟩
    · obtain ⟨z, hz⟩ := ih (h.2 hx)
      exact ⟨z, fun h => absurd h hx, fun _ => hz⟩
/-- a call's promise may be weakened, and what it gives may be chosen ahead -/
def am_good (call : am_C) : Prop := ∀ (Z : Type) (y : Nat) (as : List am_V) (h : am_H) (q : am_Q) (X : Z → am_Q), (∀ v h, q v h → ∃ z, X z v h) → call y as h q → ∃ z, call y as h (X z)
theorem am_br {Z : Type} {c A B : Prop} {A' B' : Z → Prop} (ha : A → ∃ z, A' z) (hb : B → ∃ z, B' z) (h : (c → A) ∧ (¬ c → B)) : ∃ z, (c → A' z) ∧ (¬ c → B' z) := by
  by_cases hc : c
  · obtain ⟨z, hz⟩ := ha (h.1 hc)
    exact ⟨z, fun _ => hz, fun h => absurd hc h⟩
  · obtain ⟨z, hz⟩ := hb (h.2 hc)
    exact ⟨z, fun h => absurd h hc, fun _ => hz⟩
theorem am_br' {Z : Type} {c A B : Prop} {A' B' : Z → Prop} (ha : A → ∃ z, A' z) (hb : B → ∃ z, B' z) (h : (¬ c → A) ∧ (c → B)) : ∃ z, (¬ c → A' z) ∧ (c → B' z) := by
  by_cases hc : c
  · obtain ⟨z, hz⟩ := hb (h.2 hc)
    exact ⟨z, fun h => absurd hc h, fun _ => hz⟩
  · obtain ⟨z, hz⟩ := ha (h.1 hc)
    exact ⟨z, fun _ => hz, fun h => absurd h hc⟩
theorem am_cond_ex {Z : Type} {b : Bool} {A B : Prop} {A' B' : Z → Prop} (ha : A → ∃ z, A' z) (hb : B → ∃ z, B' z) (h : cond b A B) : ∃ z, cond b (A' z) (B' z) := by
  cases b
  · exact hb h
  · exact ha h
theorem am_and_ex {Z : Type} {c A : Prop} {A' : Z → Prop} (ha : A → ∃ z, A' z) (h : c ∧ A) : ∃ z, c ∧ A' z := by
  obtain ⟨z, hz⟩ := ha h.2
  exact ⟨z, h.1, hz⟩
theorem am_math_ex {Z : Type} {a : Nat} {st : List am_V} {f : List am_V → Prop} {F : Z → List am_V → Prop} {g : Prop} {G : Z → Prop} (hf : ∀ st, f st → ∃ z, F z st) (hg : g → ∃ z, G z) (h : am_math a st f g) : ∃ z, am_math a st (F z) (G z) := by
  have nofalse : False → ∃ z : Z, False := fun h => h.elim
  unfold am_math at h ⊢
  refine am_cond_ex (fun h => ?_) (am_cond_ex (fun h => ?_) (am_cond_ex (fun h => ?_) hg)) h <;> (split at h <;> first | exact am_cond_ex (hf _) nofalse h | exact h.elim)
theorem am_exi {Z α : Type} {A : α → Prop} {A' : Z → α → Prop} (ha : ∀ r, A r → ∃ z, A' z r) (h : ∃ r, A r) : ∃ z, ∃ r, A' z r := by
  obtain ⟨r, hr⟩ := h
  obtain ⟨z, hz⟩ := ha r hr
  exact ⟨z, r, hz⟩
theorem am_step_ex {rt : Nat → Nat} {call : am_C} (hc : am_good call) {Z : Type} (x : am_X) (ls : am_L) (st : List am_V) (h : am_H) (k : Nat → am_L → List am_V → am_H → Prop) (q : am_Q) (K : Z → Nat → am_L → List am_V → am_H → Prop) (Q : Z → am_Q)
    (hk : ∀ pc ls st h, k pc ls st h → ∃ z, K z pc ls st h) (hq : ∀ v h, q v h → ∃ z, Q z v h) (hs : am_step rt call x ls st h k q) : ∃ z, am_step rt call x ls st h (K z) (Q z) := by
  obtain ⟨ins, nx, im, a, b, c, sw⟩ := x
  obtain ⟨I, R, N, cN, sN⟩ := h
  have nofalse : False → ∃ z : Z, False := fun h => h.elim
  cases ins <;> dsimp only [am_step] at hs ⊢ <;> try exact hs.elim
  all_goals (try simp only [am_seq_eq] at hs ⊢)
  all_goals (repeat' split at hs)
  all_goals (try exact hs.elim)
  all_goals (try (rename_i heq; simp only [heq] at hs ⊢))
  all_goals (try (exact hk _ _ _ _ hs))
  all_goals (try (exact hq _ _ hs))
  all_goals (try (exact am_and_ex (hk _ _ _ _) hs))
  all_goals (try (exact am_br (hk _ _ _ _) (hk _ _ _ _) hs))
  all_goals (try (exact am_br' (hk _ _ _ _) (hk _ _ _ _) hs))
  all_goals (try (exact am_sw_ex (fun t => hk _ _ _ _) _ _ _ hs))
  all_goals (try (exact am_cond_ex (am_and_ex (hq _ _)) (hq _ _) hs))
  all_goals (try (exact am_cond_ex (hk _ _ _ _) nofalse hs))
  all_goals (try (exact am_cond_ex (am_and_ex (hk _ _ _ _)) nofalse hs))
  all_goals (try (exact am_cond_ex nofalse nofalse hs))
  all_goals (try (exact am_cond_ex (am_and_ex (am_exi fun _ => am_exi fun _ => am_exi fun _ => am_and_ex (hk _ _ _ _))) nofalse hs))
  all_goals (try (exact (am_exi fun _ => am_exi fun _ => am_exi fun _ => am_and_ex (am_and_ex (hk _ _ _ _))) hs))
  all_goals (try (exact (am_exi fun _ => am_exi fun _ => am_exi fun _ => am_exi fun _ => am_and_ex (am_and_ex (am_and_ex (am_and_ex (hk _ _ _ _))))) hs))
  all_goals (try (exact am_cond_ex (am_and_ex (am_and_ex (hk _ _ _ _))) (am_cond_ex (am_and_ex (hk _ _ _ _)) nofalse) hs))
  all_goals (try (exact am_cond_ex (am_cond_ex (hk _ _ _ _) (hk _ _ _ _)) nofalse hs))
  all_goals (try (exact am_cond_ex (am_cond_ex nofalse (hk _ _ _ _)) nofalse hs))
  all_goals (try (exact am_cond_ex (am_cond_ex nofalse nofalse) nofalse hs))
  all_goals (try (exact am_cond_ex nofalse (am_cond_ex nofalse nofalse) hs))
  all_goals (try (exact am_cond_ex (am_cond_ex (am_exi fun _ => am_exi fun _ => am_exi fun _ => am_exi fun _ => am_and_ex (am_and_ex (am_and_ex (hk _ _ _ _)))) nofalse) (am_pop_ex (fun as st => am_cond_ex (hc Z _ _ _ _ _ (fun v h hv => by split at hv <;> first | exact hk _ _ _ _ hv | exact hv.elim)) nofalse) _ _ _) hs))
  all_goals (try (exact am_math_ex (fun st => hk _ _ _ _) (am_cond_ex (am_cond_ex (am_exi fun _ => am_exi fun _ => am_exi fun _ => am_exi fun _ => am_and_ex (am_and_ex (am_and_ex (hk _ _ _ _)))) nofalse) (am_pop_ex (fun as st => am_cond_ex (hc Z _ _ _ _ _ (fun v h hv => by split at hv <;> first | exact hk _ _ _ _ hv | exact hv.elim)) nofalse) _ _ _)) hs))
  all_goals (try (exact am_cond_ex (am_cond_ex (am_and_ex (am_and_ex (am_and_ex (am_and_ex (am_and_ex (hk _ _ _ _)))))) nofalse) (am_pop_ex (fun as st => am_cond_ex (hc Z _ _ _ _ _ (fun v h hv => by split at hv <;> first | exact hk _ _ _ _ hv | exact hv.elim)) nofalse) _ _ _) hs))
  all_goals (try (exact am_math_ex (fun st => hk _ _ _ _) (am_cond_ex (am_cond_ex (am_and_ex (am_and_ex (am_and_ex (am_and_ex (am_and_ex (hk _ _ _ _)))))) nofalse) (am_pop_ex (fun as st => am_cond_ex (hc Z _ _ _ _ _ (fun v h hv => by split at hv <;> first | exact hk _ _ _ _ hv | exact hv.elim)) nofalse) _ _ _)) hs))
  all_goals (try (exact am_cond_ex (am_cond_ex nofalse nofalse) (am_pop_ex (fun as st => am_cond_ex (hc Z _ _ _ _ _ (fun v h hv => by split at hv <;> first | exact hk _ _ _ _ hv | exact hv.elim)) nofalse) _ _ _) hs))
  all_goals (try (exact am_math_ex (fun st => hk _ _ _ _) (am_cond_ex (am_cond_ex nofalse nofalse) (am_pop_ex (fun as st => am_cond_ex (hc Z _ _ _ _ _ (fun v h hv => by split at hv <;> first | exact hk _ _ _ _ hv | exact hv.elim)) nofalse) _ _ _)) hs))
  all_goals (try (exact am_cond_ex (am_cond_ex (hk _ _ _ _) nofalse) (am_pop_ex (fun as st => am_cond_ex (hc Z _ _ _ _ _ (fun v h hv => by split at hv <;> first | exact hk _ _ _ _ hv | exact hv.elim)) nofalse) _ _ _) hs))
  all_goals (try (exact am_math_ex (fun st => hk _ _ _ _) (am_cond_ex (am_cond_ex (hk _ _ _ _) nofalse) (am_pop_ex (fun as st => am_cond_ex (hc Z _ _ _ _ _ (fun v h hv => by split at hv <;> first | exact hk _ _ _ _ hv | exact hv.elim)) nofalse) _ _ _)) hs))
  all_goals (try (exact am_cond_ex nofalse (am_pop_ex (fun as st => am_cond_ex (hc Z _ _ _ _ _ (fun v h hv => by split at hv <;> first | exact hk _ _ _ _ hv | exact hv.elim)) nofalse) _ _ _) hs))
  all_goals (try (exact am_math_ex (fun st => hk _ _ _ _) (am_cond_ex nofalse (am_pop_ex (fun as st => am_cond_ex (hc Z _ _ _ _ _ (fun v h hv => by split at hv <;> first | exact hk _ _ _ _ hv | exact hv.elim)) nofalse) _ _ _)) hs))
theorem am_step_mono {rt : Nat → Nat} {call : am_C} (hc : am_good call) {x : am_X} {ls : am_L} {st : List am_V} {h : am_H} {k K : Nat → am_L → List am_V → am_H → Prop} {q Q : am_Q}
    (hs : am_step rt call x ls st h k q) (hk : ∀ pc ls st h, k pc ls st h → K pc ls st h) (hq : ∀ v h, q v h → Q v h) : am_step rt call x ls st h K Q := by
  obtain ⟨_, h⟩ := am_step_ex hc (Z := Unit) x ls st h k q (fun _ => K) (fun _ => Q) (fun a b c d e => ⟨(), hk a b c d e⟩) (fun a b c => ⟨(), hq a b c⟩) hs
  exact h
theorem am_vc_ex {rt : Nat → Nat} {call : am_C} (hc : am_good call) {Z : Type} (cd : Nat → am_X) (cut : Nat → Bool) (k : Nat → am_L → List am_V → am_H → Prop) (q : am_Q) (K : Z → Nat → am_L → List am_V → am_H → Prop) (Q : Z → am_Q)
    (hk : ∀ pc ls st h, k pc ls st h → ∃ z, K z pc ls st h) (hq : ∀ v h, q v h → ∃ z, Q z v h) : ∀ n pc ls st h, am_vc rt call cd cut k q n pc ls st h → ∃ z, am_vc rt call cd cut (K z) (Q z) n pc ls st h := by
  intro n
  induction n with
  | zero => intro _ _ _ _ h; exact h.elim
  | succ n ih =>
    intro pc ls st h hs
    exact am_step_ex hc _ _ _ _ _ _ (fun z pc ls st h => cond (cut pc) (K z pc ls st h) (am_vc rt call cd cut (K z) (Q z) n pc ls st h)) Q (fun pc ls st h => am_cond_ex (hk pc ls st h) (ih pc ls st h)) hq hs
theorem am_vc_mono {rt : Nat → Nat} {call : am_C} (hc : am_good call) {cd : Nat → am_X} {cut : Nat → Bool} {k K : Nat → am_L → List am_V → am_H → Prop} {q Q : am_Q} {n pc : Nat} {ls : am_L} {st : List am_V} {h : am_H}
    (hs : am_vc rt call cd cut k q n pc ls st h) (hk : ∀ pc ls st h, k pc ls st h → K pc ls st h) (hq : ∀ v h, q v h → Q v h) : am_vc rt call cd cut K Q n pc ls st h := by
  obtain ⟨_, h⟩ := am_vc_ex hc (Z := Unit) cd cut k q (fun _ => K) (fun _ => Q) (fun a b c d e => ⟨(), hk a b c d e⟩) (fun a b c => ⟨(), hq a b c⟩) n pc ls st h hs
  exact h
theorem am_W_step {rt : Nat → Nat} {call : am_C} (hc : am_good call) {cd : Nat → am_X} {pc : Nat} {ls : am_L} {st : List am_V} {h : am_H} {q : am_Q}
    (hs : am_step rt call (cd pc) ls st h (fun pc ls st h => am_W rt call cd pc ls st h q) q) : am_W rt call cd pc ls st h q := by
  obtain ⟨n, hn⟩ := am_step_ex hc (Z := Nat) _ _ _ _ _ _ (fun n pc ls st h => am_vc rt call cd (fun _ => false) (fun _ _ _ _ => False) q n pc ls st h) (fun _ => q) (fun _ _ _ _ h => h) (fun _ _ h => ⟨0, h⟩) hs
  exact ⟨n + 1, hn⟩
/-- up to the cuts, and from there on -/
theorem am_W_vc {rt : Nat → Nat} {call : am_C} (hc : am_good call) {cd : Nat → am_X} {q : am_Q} (cut : Nat → Bool) : ∀ (n : Nat) {pc : Nat} {ls : am_L} {st : List am_V} {h : am_H},
    am_vc rt call cd cut (fun pc ls st h => am_W rt call cd pc ls st h q) q n pc ls st h → am_W rt call cd pc ls st h q := by
  intro n
  induction n with
  | zero => intro _ _ _ _ h; exact h.elim
  | succ n ih =>
    intro pc ls st h hs
    refine am_W_step hc (am_step_mono hc hs (fun pc ls st h hh => ?_) (fun _ _ h => h))
    cases hb : cut pc
    · rw [hb] at hh; exact ih hh
    · rw [hb] at hh; exact hh
theorem am_W_ex {rt : Nat → Nat} {call : am_C} (hc : am_good call) {Z : Type} {cd : Nat → am_X} {pc : Nat} {ls : am_L} {st : List am_V} {h : am_H} {q : am_Q} {Q : Z → am_Q} (hq : ∀ v h, q v h → ∃ z, Q z v h)
    (hs : am_W rt call cd pc ls st h q) : ∃ z, am_W rt call cd pc ls st h (Q z) := by
  obtain ⟨n, hn⟩ := hs
  obtain ⟨z, hz⟩ := am_vc_ex hc cd (fun _ => false) _ q (fun _ _ _ _ _ => False) Q (fun _ _ _ _ h => h.elim) hq n pc ls st h hn
  exact ⟨z, n, hz⟩
theorem am_call_good (rt : Nat → Nat) (P : Nat → (Nat → am_X) × Nat) : ∀ d, am_good (am_call rt P d) := by
  intro d
  induction d with
  | zero => intro Z y as h q X _ hs; exact hs.elim
  | succ d ih =>
    intro Z y as h q X hq hs
    obtain ⟨z, hz⟩ := am_W_ex ih hq hs.2
    exact ⟨z, hs.1, hz⟩
theorem am_call_mono {rt : Nat → Nat} {P : Nat → (Nat → am_X) × Nat} {d y : Nat} {as : List am_V} {h : am_H} {q Q : am_Q} (hs : am_call rt P d y as h q) (hq : ∀ v h, q v h → Q v h) : am_call rt P d y as h Q := by
  obtain ⟨_, h⟩ := am_call_good rt P d Unit y as h q (fun _ => Q) (fun v h e => ⟨(), hq v h e⟩) hs
  exact h
/-- what a call gives is one thing -/
theorem am_call_one {rt : Nat → Nat} {P : Nat → (Nat → am_X) × Nat} {d y : Nat} {as : List am_V} {h : am_H} {q : am_Q} (hs : am_call rt P d y as h q) : ∃ v h', q v h' ∧ am_call rt P d y as h (fun v1 h1 => v1 = v ∧ h1 = h') := by
  obtain ⟨⟨⟨v, h'⟩, hz⟩, h1⟩ := am_call_good rt P d {z : Option am_V × am_H // q z.1 z.2} y as h q (fun z v1 h1 => v1 = z.1.1 ∧ h1 = z.1.2) (fun v h e => ⟨⟨(v, h), e⟩, rfl, rfl⟩) hs
  exact ⟨v, h', hz, h1⟩
