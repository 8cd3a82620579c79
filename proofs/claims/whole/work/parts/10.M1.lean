theorem c_M_isArea {d : Nat} {a : Int32} {I : am_I} {g : Nat → Nat → Nat} {c n : Nat} {q : am_Q} (hq : q (some (.inl (if 0 ≤ a ∧ a < I 199 0 0 2 then 1 else 0))) (I, ss_ g c n)) : cl_ (d + 1) 1102 [am_m, .inl a] (I, ss_ g c n) q := by
  refine am_in am_no 30 rfl fun call K hg hc hK => ?_
  refine And.intro (fun c1 => ?_) (fun c1 => ?_)
  · refine And.intro (Or.inl rfl) ?_
    rw [if_neg (by intro h; exact absurd c1 (Int32.not_lt.mpr h.1))] at hq
    exact hq
  · refine And.intro (fun c2 => ?_) (fun c2 => ?_)
    · refine And.intro (Or.inl rfl) ?_
      rw [if_neg (by intro h; exact absurd h.2 (Int32.not_lt.mpr c2))] at hq
      exact hq
    · refine And.intro (Or.inr rfl) ?_
      rw [if_pos ⟨Int32.not_lt.mp c1, Int32.not_le.mp c2⟩] at hq
      exact hq
def m_press (I : am_I) (a : Nat) : Int32 := if I 203 0 0 a = 3 then 0 else 100 * I 205 0 0 ((I 199 0 0 0).toNatClampNeg * 20 + a) / I 204 0 0 a
theorem c_M_pressOf {d : Nat} {a : Nat} {I : am_I} {g : Nat → Nat → Nat} {c n : Nat} {q : am_Q} (ha : a < 20) (hz : I 199 0 0 0 = 0 ∨ I 199 0 0 0 = 1) (hr : ¬ I 204 0 0 a = 0) (hq : q (some (.inl (m_press I a))) (I, ss_ g c n)) : cl_ (d + 1) 1115 [am_m, .inl (nI a)] (I, ss_ g c n) q := by
  refine am_in am_no 30 rfl fun call K hg hc hK => ?_
  refine And.intro (vp_in_nI ha (by decide)) ?_
  refine And.intro (fun c1 => ?_) (fun c1 => ?_)
  · (conv => whnf)
    trace_state
    sorry
  · (conv => whnf)
    trace_state
    sorry
