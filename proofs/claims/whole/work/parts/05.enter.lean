/-- a method's contract from a walk of its body: calls are a variable 'call' that takes every contract of one level less, 'K' takes the states at the cuts -/
theorem am_in {d y : Nat} {as : List am_V} {h : am_H} {q : am_Q} {cd : Nat → am_X} {m : Nat} (cut : Nat → Bool) (n : Nat) (hP : am_P y = (cd, m)) (hc : Nat.ble (am_cat as) m = true)
    (hv : ∀ (call : am_C) (K : Nat → am_L → List am_V → am_H → Prop), am_good call → (∀ {y as h q}, cl_ d y as h q → call y as h q) → (∀ {pc ls st h}, am_W am_rt call cd pc ls st h q → K pc ls st h) → am_seq (am_loc as m) (fun ls => am_vc am_rt call cd cut K q n 0 ls [] h)) : cl_ (d + 1) y as h q := by
  show (match am_P y with | (cd, m) => Nat.ble (am_cat as) m = true ∧ am_W am_rt (cl_ d) cd 0 (am_loc as m) [] h q)
  rw [hP]
  have h1 := hv (cl_ d) (fun pc ls st h => am_W am_rt (cl_ d) cd pc ls st h q) (am_call_good _ _ _) (fun h => h) (fun h => h)
  rw [am_seq_eq] at h1
  exact ⟨hc, am_W_vc (am_call_good _ _ _) cut n h1⟩
/-- from a place of the body on -/
theorem am_go {call : am_C} {cd : Nat → am_X} {q : am_Q} {pc : Nat} {ls : am_L} {st : List am_V} {h : am_H} (hg : am_good call) (cut : Nat → Bool) (n : Nat)
    (hv : ∀ (K : Nat → am_L → List am_V → am_H → Prop), (∀ {pc ls st h}, am_W am_rt call cd pc ls st h q → K pc ls st h) → am_vc am_rt call cd cut K q n pc ls st h) : am_W am_rt call cd pc ls st h q :=
  am_W_vc hg cut n (hv _ (fun h => h))
def am_no : Nat → Bool := fun _ => false
abbrev am_m : am_V := .inr (.inr (199, 0, 0))
