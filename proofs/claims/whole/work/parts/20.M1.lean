/-! CONTRACTS OF CrowdOutModel, part 1: leaves -/
theorem c_M_isArea {d : Nat} {a : Int32} {I : am_I} {g : Nat → Nat → Nat} {c n : Nat} {q : am_Q} (hq : q (some (.inl (if 0 ≤ a ∧ a < I 199 0 0 2 then 1 else 0))) (I, ss_ g c n)) : cl_ (d + 1) 1102 [am_m, .inl a] (I, ss_ g c n) q := by
  refine am_in am_no 30 rfl rfl fun call K hg hc hK => ?_
  refine And.intro (fun c1 => ?_) (fun c1 => ?_)
  · refine And.intro (Or.inl rfl) ?_
    rw [if_neg (by intro h; exact absurd c1 (Int32.not_lt.mpr h.1))] at hq
    exact hq
  · refine And.intro (fun c2 => ?_) (fun c2 => ?_)
    · refine And.intro (Or.inl rfl) ?_
      rw [if_neg (by intro h; exact absurd h.2 (Int32.not_lt.mpr c2))] at hq
      exact hq
    · refine And.intro (Or.inr rfl) ?_
      rw [if_pos ⟨Int32.not_lt.mp c1, Int32.not_le.mp c2⟩] at hq
      exact hq
/-- a refusal is counted -/
def m_no (I : am_I) (j : Nat) : am_I := am_set I 272 0 0 j (I 272 0 0 j + 1)
theorem c_M_no {d : Nat} {k : Int32} {j : Nat} {I : am_I} {g : Nat → Nat → Nat} {c n : Nat} {q : am_Q} (hk : -k = nI j) (hj : j < 7) (hq : q (some (.inl k)) (m_no I j, ss_ g c n)) : cl_ (d + 1) 1101 [am_m, .inl k] (I, ss_ g c n) q := by
  refine am_in am_no 30 rfl rfl fun call K hg hc hK => ?_
  have hi : vp_in (-k) 7 := by rw [hk]; exact vp_in_nI hj (by decide)
  have hc : (-k).toNatClampNeg = j := by rw [hk]; exact nI_clamp (by omega)
  refine And.intro hi ?_
  refine And.intro hi ?_
  (conv => whnf)
  rw [hc]
  exact hq
/-- PRESS of an area in the world z -/
def m_press (I : am_I) (z a : Nat) : Int32 := if I 203 0 0 a = 3 then 0 else 100 * I 205 0 0 (z * 20 + a) / I 204 0 0 a
theorem c_M_pressOf {d : Nat} {z a : Nat} {I : am_I} {g : Nat → Nat → Nat} {c n : Nat} {q : am_Q} (ha : a < 20) (hz : I 199 0 0 0 = nI z) (hz2 : z < 2) (hr : ¬ I 204 0 0 a = 0) (hq : q (some (.inl (m_press I z a))) (I, ss_ g c n)) : cl_ (d + 1) 1115 [am_m, .inl (nI a)] (I, ss_ g c n) q := by
  refine am_in am_no 40 rfl rfl fun call K hg hc hK => ?_
  have hca : (nI a).toNatClampNeg = a := nI_clamp (by omega)
  have hidx : I 199 0 0 0 * 20 + nI a = nI (z * 20 + a) := by
    rw [hz, show (20 : Int32) = nI 20 from rfl, pk_mul, nI_add]
  refine And.intro (vp_in_nI ha (by decide)) ?_
  refine And.intro (fun c1 => ?_) (fun c1 => ?_)
  · refine And.intro (by rw [hidx]; exact vp_in_nI (by omega) (by decide)) ?_
    refine And.intro (vp_in_nI ha (by decide)) ?_
    refine And.intro (by rw [hca]; exact hr) ?_
    (conv => whnf)
    rw [hca] at c1
    rw [m_press, if_neg c1] at hq
    rw [hidx, hca, nI_clamp (by omega)]
    exact hq
  · (conv => whnf)
    rw [hca] at c1
    rw [m_press, if_pos c1] at hq
    exact hq
theorem c_M_endOf {d : Nat} {l a : Nat} {I : am_I} {g : Nat → Nat → Nat} {c n : Nat} {q : am_Q} (hl : l < 30) (hq : q (some (.inl (if I 213 0 0 l = nI a then I 214 0 0 l else I 213 0 0 l))) (I, ss_ g c n)) : cl_ (d + 1) 1117 [am_m, .inl (nI l), .inl (nI a)] (I, ss_ g c n) q := by
  refine am_in am_no 40 rfl rfl fun call K hg hc hK => ?_
  have hcl : (nI l).toNatClampNeg = l := nI_clamp (by omega)
  refine And.intro (vp_in_nI hl (by decide)) ?_
  refine And.intro (fun c1 => ?_) (fun c1 => ?_)
  · refine And.intro (vp_in_nI hl (by decide)) ?_
    (conv => whnf)
    rw [hcl] at c1 ⊢
    rw [if_neg c1] at hq
    exact hq
  · refine And.intro (vp_in_nI hl (by decide)) ?_
    (conv => whnf)
    rw [hcl] at c1 ⊢
    rw [if_pos c1] at hq
    exact hq
