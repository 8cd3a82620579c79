/-! CONTRACTS OF CrowdOutModel, part 2: a first loop -/
/-- the heads of folk f on link l: the sum of k of its 18 places -/
def m_onl (I : am_I) (b : Nat) : Nat → Int32
  | 0 => 0
  | k + 1 => m_onl I b k + I 228 0 0 (b + k)
theorem c_M_onLink {d : Nat} {f l : Nat} {I : am_I} {g : Nat → Nat → Nat} {c n : Nat} {q : am_Q} (hf : f < 24) (hl : l < 30) (hq : q (some (.inl (m_onl I ((f * 30 + l) * 18) 18))) (I, ss_ g c n)) : cl_ (d + 1) 1135 [am_m, .inl (nI f), .inl (nI l)] (I, ss_ g c n) q := by
  refine am_in (fun pc => Nat.beq pc 5) 40 rfl rfl fun call K hg hc hK => ?_
  (conv => whnf)
  refine hK ?_
  have loop : ∀ (m k : Nat), k + m = 18 → am_W am_rt call (am_look tb_M_onLink) 5 [some am_m, some (.inl (nI f)), some (.inl (nI l)), some (.inl (m_onl I ((f * 30 + l) * 18) k)), some (.inl (nI k))] [] (I, ss_ g c n) q := by
    intro m
    induction m with
    | zero =>
      intro k hk
      have hk : k = 18 := by omega
      subst hk
      refine am_go hg (fun pc => Nat.beq pc 5) 40 fun K hK => ?_
      refine And.intro (fun c1 => ?_) (fun c1 => ?_)
      · exact hq
      · exact absurd (show (18 : Int32) ≤ nI 18 by decide) c1
    | succ m ih =>
      intro k hk
      refine am_go hg (fun pc => Nat.beq pc 5) 40 fun K hK => ?_
      have hidx : (nI f * 30 + nI l) * 18 + nI k = nI ((f * 30 + l) * 18 + k) := by
        rw [show (30 : Int32) = nI 30 from rfl, show (18 : Int32) = nI 18 from rfl, pk_mul, nI_add, pk_mul, nI_add]
      refine And.intro (fun c1 => ?_) (fun c1 => ?_)
      · exact absurd c1 (nI_ge (show k < 18 by omega) (by decide))
      · refine And.intro (by rw [hidx]; exact vp_in_nI (by omega) (by decide)) ?_
        (conv => whnf)
        refine hK ?_
        rw [hidx, nI_clamp (by omega), show nI k + 1 = nI (k + 1) from nI_1 k]
        exact ih (k + 1) (by omega)
  exact loop 18 0 rfl
