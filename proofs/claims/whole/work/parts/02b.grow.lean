/-- the cells and slots made only grow -/
def am_le (h h' : am_H) : Prop := h.2.2.2.1 ≤ h'.2.2.2.1 ∧ h.2.2.2.2 ≤ h'.2.2.2.2
theorem am_le_rfl (h : am_H) : am_le h h := ⟨Nat.le_refl _, Nat.le_refl _⟩
theorem am_le_trans {a b c : am_H} (h : am_le a b) (h' : am_le b c) : am_le a c := ⟨Nat.le_trans h.1 h'.1, Nat.le_trans h.2 h'.2⟩
theorem am_cond_map {b : Bool} {A B A' B' : Prop} (ha : A → A') (hb : B → B') (h : cond b A B) : cond b A' B' := by
  cases b
  · exact hb h
  · exact ha h
theorem am_and_map {c A A' : Prop} (ha : A → A') (h : c ∧ A) : c ∧ A' := ⟨h.1, ha h.2⟩
theorem am_br_map {c c' A B A' B' : Prop} (ha : A → A') (hb : B → B') (h : (c → A) ∧ (c' → B)) : (c → A') ∧ (c' → B') := ⟨fun x => ha (h.1 x), fun x => hb (h.2 x)⟩
theorem am_ex_map {α : Type} {A A' : α → Prop} (ha : ∀ r, A r → A' r) (h : ∃ r, A r) : ∃ r, A' r := by
  obtain ⟨r, hr⟩ := h
  exact ⟨r, ha r hr⟩
theorem am_pop_map {f f' : List am_V → List am_V → Prop} (hf : ∀ a s, f a s → f' a s) (n : Nat) (st as : List am_V) (h : am_pop n st as f) : am_pop n st as f' := by
  obtain ⟨_, h⟩ := am_pop_ex (Z := Unit) (X := fun _ => f') (fun a s x => ⟨(), hf a s x⟩) n st as h
  exact h
theorem am_sw_map {f f' : Nat → Prop} (hf : ∀ t, f t → f' t) (x : Int32) (d : Nat) (l : List (Int32 × Nat)) (h : am_sw l x d f) : am_sw l x d f' := by
  obtain ⟨_, h⟩ := am_sw_ex (Z := Unit) (X := fun _ => f') (fun a x => ⟨(), hf a x⟩) x d l h
  exact h
theorem am_math_map {a : Nat} {st : List am_V} {f f' : List am_V → Prop} {g g' : Prop} (hf : ∀ st, f st → f' st) (hg : g → g') (h : am_math a st f g) : am_math a st f' g' := by
  obtain ⟨_, h⟩ := am_math_ex (Z := Unit) (F := fun _ => f') (G := fun _ => g') (fun st x => ⟨(), hf st x⟩) (fun x => ⟨(), hg x⟩) h
  exact h
def am_grows (call : am_C) : Prop := ∀ (y : Nat) (as : List am_V) (h : am_H) (q : am_Q), call y as h q → call y as h (fun v h1 => q v h1 ∧ am_le h h1)
theorem am_step_grow {rt : Nat → Nat} {call : am_C} (hg : am_good call) (hc : am_grows call) (x : am_X) (ls : am_L) (st : List am_V) (h : am_H) (k : Nat → am_L → List am_V → am_H → Prop) (q : am_Q)
    (hs : am_step rt call x ls st h k q) : am_step rt call x ls st h (fun pc ls st h1 => k pc ls st h1 ∧ am_le h h1) (fun v h1 => q v h1 ∧ am_le h h1) := by
  obtain ⟨ins, nx, im, a, b, c, sw⟩ := x
  obtain ⟨I, R, N, cN, sN⟩ := h
  have hk : ∀ {pc ls st} {I' : am_I} {R' : am_R} {N' : am_N} {c' n' : Nat}, cN ≤ c' → sN ≤ n' → k pc ls st (I', R', N', c', n') → (k pc ls st (I', R', N', c', n') ∧ am_le (I, R, N, cN, sN) (I', R', N', c', n')) := fun h1 h2 h3 => ⟨h3, h1, h2⟩
  have hq : ∀ {v} , q v (I, R, N, cN, sN) → (q v (I, R, N, cN, sN) ∧ am_le (I, R, N, cN, sN) (I, R, N, cN, sN)) := fun h3 => ⟨h3, am_le_rfl _⟩
  have nf : False → False := fun h => h
  have hcall : ∀ (y : Nat) (as : List am_V) (f : am_Q) (g : am_Q), (∀ v h1, f v h1 → am_le (I, R, N, cN, sN) h1 → g v h1) → call y as (I, R, N, cN, sN) f → call y as (I, R, N, cN, sN) g := by
    intro y as f g hfg hcl
    obtain ⟨_, h2⟩ := hg Unit y as (I, R, N, cN, sN) _ (fun _ => g) (fun v h1 hv => ⟨(), hfg v h1 hv.1 hv.2⟩) (hc y as _ f hcl)
    exact h2
  cases ins <;> dsimp only [am_step] at hs ⊢ <;> try exact hs.elim
  all_goals (try simp only [am_seq_eq] at hs ⊢)
  all_goals (repeat' split at hs)
  all_goals (try exact hs.elim)
  all_goals (try (rename_i heq; simp only [heq] at hs ⊢))
  all_goals (try (exact hk (Nat.le_refl _) (Nat.le_refl _) hs))
  all_goals (try (exact hq hs))
  all_goals (try (exact am_and_map (hk (Nat.le_refl _) (Nat.le_refl _)) hs))
  all_goals (try (exact am_br_map (hk (Nat.le_refl _) (Nat.le_refl _)) (hk (Nat.le_refl _) (Nat.le_refl _)) hs))
  all_goals (try (exact am_sw_map (fun t => hk (Nat.le_refl _) (Nat.le_refl _)) _ _ _ hs))
  all_goals (try (exact am_cond_map (am_and_map hq) hq hs))
  all_goals (try (exact am_cond_map (hk (Nat.le_refl _) (Nat.le_refl _)) nf hs))
  all_goals (try (exact am_cond_map (am_and_map (hk (Nat.le_refl _) (Nat.le_refl _))) nf hs))
  all_goals (try (exact am_cond_map nf nf hs))
  all_goals (try (exact am_cond_map (am_and_map (am_ex_map fun _ => am_ex_map fun _ => am_ex_map fun _ => am_and_map (hk (Nat.le_refl _) (Nat.le_refl _)))) nf hs))
  all_goals (try (exact (am_ex_map fun _ => am_ex_map fun _ => am_ex_map fun _ => am_and_map (am_and_map (hk (Nat.le_succ _) (Nat.le_add_right _ _)))) hs))
  all_goals (try (exact (am_ex_map fun _ => am_ex_map fun _ => am_ex_map fun _ => am_ex_map fun _ => am_and_map (am_and_map (am_and_map (am_and_map (hk (Nat.le_succ _) (Nat.le_add_right _ _)))))) hs))
  all_goals (try (exact am_cond_map (am_and_map (am_and_map (hk (Nat.le_refl _) (Nat.le_refl _)))) (am_cond_map (am_and_map (hk (Nat.le_refl _) (Nat.le_refl _))) nf) hs))
  all_goals (try (exact am_cond_map (am_cond_map (hk (Nat.le_refl _) (Nat.le_refl _)) (hk (Nat.le_refl _) (Nat.le_refl _))) nf hs))
  all_goals (try (exact am_cond_map (am_cond_map nf (hk (Nat.le_refl _) (Nat.le_refl _))) nf hs))
  all_goals (try (exact am_cond_map (am_cond_map nf nf) nf hs))
  all_goals (try (exact am_cond_map nf (am_cond_map nf nf) hs))
  all_goals (try (exact am_cond_map (am_cond_map (am_ex_map fun _ => am_ex_map fun _ => am_ex_map fun _ => am_ex_map fun _ => am_and_map (am_and_map (am_and_map (hk (Nat.le_succ _) (Nat.le_add_right _ _))))) nf) (am_pop_map (fun as st => am_cond_map (hcall _ _ _ _ (fun v h1 hv hle => by split at hv <;> first | exact ⟨hv, hle⟩ | exact hv.elim)) nf) _ _ _) hs))
  all_goals (try (exact am_math_map (fun st => hk (Nat.le_refl _) (Nat.le_refl _)) (am_cond_map (am_cond_map (am_ex_map fun _ => am_ex_map fun _ => am_ex_map fun _ => am_ex_map fun _ => am_and_map (am_and_map (am_and_map (hk (Nat.le_succ _) (Nat.le_add_right _ _))))) nf) (am_pop_map (fun as st => am_cond_map (hcall _ _ _ _ (fun v h1 hv hle => by split at hv <;> first | exact ⟨hv, hle⟩ | exact hv.elim)) nf) _ _ _)) hs))
  all_goals (try (exact am_cond_map (am_cond_map (am_and_map (am_and_map (am_and_map (am_and_map (am_and_map (hk (Nat.le_refl _) (Nat.le_refl _))))))) nf) (am_pop_map (fun as st => am_cond_map (hcall _ _ _ _ (fun v h1 hv hle => by split at hv <;> first | exact ⟨hv, hle⟩ | exact hv.elim)) nf) _ _ _) hs))
  all_goals (try (exact am_math_map (fun st => hk (Nat.le_refl _) (Nat.le_refl _)) (am_cond_map (am_cond_map (am_and_map (am_and_map (am_and_map (am_and_map (am_and_map (hk (Nat.le_refl _) (Nat.le_refl _))))))) nf) (am_pop_map (fun as st => am_cond_map (hcall _ _ _ _ (fun v h1 hv hle => by split at hv <;> first | exact ⟨hv, hle⟩ | exact hv.elim)) nf) _ _ _)) hs))
  all_goals (try (exact am_cond_map (am_cond_map nf nf) (am_pop_map (fun as st => am_cond_map (hcall _ _ _ _ (fun v h1 hv hle => by split at hv <;> first | exact ⟨hv, hle⟩ | exact hv.elim)) nf) _ _ _) hs))
  all_goals (try (exact am_math_map (fun st => hk (Nat.le_refl _) (Nat.le_refl _)) (am_cond_map (am_cond_map nf nf) (am_pop_map (fun as st => am_cond_map (hcall _ _ _ _ (fun v h1 hv hle => by split at hv <;> first | exact ⟨hv, hle⟩ | exact hv.elim)) nf) _ _ _)) hs))
  all_goals (try (exact am_cond_map (am_cond_map (hk (Nat.le_refl _) (Nat.le_refl _)) nf) (am_pop_map (fun as st => am_cond_map (hcall _ _ _ _ (fun v h1 hv hle => by split at hv <;> first | exact ⟨hv, hle⟩ | exact hv.elim)) nf) _ _ _) hs))
  all_goals (try (exact am_math_map (fun st => hk (Nat.le_refl _) (Nat.le_refl _)) (am_cond_map (am_cond_map (hk (Nat.le_refl _) (Nat.le_refl _)) nf) (am_pop_map (fun as st => am_cond_map (hcall _ _ _ _ (fun v h1 hv hle => by split at hv <;> first | exact ⟨hv, hle⟩ | exact hv.elim)) nf) _ _ _)) hs))
  all_goals (try (exact am_cond_map nf (am_pop_map (fun as st => am_cond_map (hcall _ _ _ _ (fun v h1 hv hle => by split at hv <;> first | exact ⟨hv, hle⟩ | exact hv.elim)) nf) _ _ _) hs))
  all_goals (try (exact am_math_map (fun st => hk (Nat.le_refl _) (Nat.le_refl _)) (am_cond_map nf (am_pop_map (fun as st => am_cond_map (hcall _ _ _ _ (fun v h1 hv hle => by split at hv <;> first | exact ⟨hv, hle⟩ | exact hv.elim)) nf) _ _ _)) hs))
theorem am_vc_grow {rt : Nat → Nat} {call : am_C} (hg : am_good call) (hc : am_grows call) (cd : Nat → am_X) (q : am_Q) : ∀ n pc ls st h, am_vc rt call cd (fun _ => false) (fun _ _ _ _ => False) q n pc ls st h → am_vc rt call cd (fun _ => false) (fun _ _ _ _ => False) (fun v h1 => q v h1 ∧ am_le h h1) n pc ls st h := by
  intro n
  induction n with
  | zero => intro _ _ _ _ h; exact h.elim
  | succ n ih =>
    intro pc ls st h hs
    refine am_step_mono hg (am_step_grow hg hc _ _ _ _ _ _ hs) (fun pc ls st h1 hh => ?_) (fun _ _ h => h)
    exact am_vc_mono hg (ih _ _ _ _ hh.1) (fun _ _ _ _ h => h) (fun v h2 hq => ⟨hq.1, am_le_trans hh.2 hq.2⟩)
theorem am_call_grows (rt : Nat → Nat) (P : Nat → (Nat → am_X) × Nat) : ∀ d, am_grows (am_call rt P d) := by
  intro d
  induction d with
  | zero => intro y as h q hs; exact hs.elim
  | succ d ih =>
    intro y as h q hs
    obtain ⟨hc, n, hn⟩ := hs
    exact ⟨hc, n, am_vc_grow (am_call_good rt P d) ih _ q n _ _ _ _ hn⟩
/-- the end is behind every place on the way -/
theorem am_vc_le {rt : Nat → Nat} {call : am_C} (hg : am_good call) (hc : am_grows call) {cd : Nat → am_X} {v0 : Option am_V} {h0 : am_H} {n pc : Nat} {ls : am_L} {st : List am_V} {h : am_H} (hs : am_vc rt call cd (fun _ => false) (fun _ _ _ _ => False) (fun v h1 => v = v0 ∧ h1 = h0) n pc ls st h) : am_le h h0 := by
  have h1 := am_vc_grow hg hc cd _ n pc ls st h hs
  obtain ⟨⟨⟨v, h2⟩, hz⟩, -⟩ := am_vc_ex hg (Z := {z : Option am_V × am_H // (z.1 = v0 ∧ z.2 = h0) ∧ am_le h z.2}) cd (fun _ => false) _ _ (fun _ _ _ _ _ => False) (fun z v h => v = z.1.1 ∧ h = z.1.2) (fun _ _ _ _ h => h.elim) (fun v h e => ⟨⟨(v, h), e⟩, rfl, rfl⟩) n pc ls st h h1
  exact hz.1.2 ▸ hz.2
