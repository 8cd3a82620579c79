/-! THE SMALL MACHINE IS SOUND, part 7: makings -/
def so_is4 : Instr → Bool
  | .new _ | .newarray _ | .anewarray _ => true
  | _ => false
theorem so_RAi {cA cB : ClassId} {U : State} {ty : FieldType} (h0 : ∀ C, ty ≠ .object C) (h1 : va_RA U cA ty) (h2 : va_RA U cB ty) : cA = cB := by
  cases ty with
  | object C => exact absurd rfl (h0 C)
  | _ => exact Option.some.inj (h1.symm.trans h2)
theorem so_RAo {cA cB : ClassId} {U : State} {C : String} (h1 : va_RA U cA (.object C)) (h2 : va_RA U cB (.object C)) : cA = cB := by
  obtain ⟨_, _, _, _, _, h1⟩ := h1
  obtain ⟨_, _, _, _, _, h2⟩ := h2
  exact Option.some.inj (h1.symm.trans h2)
section so4
variable {p : Program} {l : Launch} {e : Env} {R : Room} {s : State} {m : MethodId} {args : Array Value} {below : List Frame} {meth : Method} {c : Code} {H : Heap} {locs : List Loc} {cells slots : Nat} {Q : State → Prop}
variable {dC : Nat → ClassId} {dI : Nat → Nat → Nat} {cA : Nat → ClassId} {A : Nat → Prop}
/-- a place behind a making -/
theorem so_J_new {nL : Nat} {hE : am_H} {ad0 ad : am_K → Nat} {ls : am_L} {st : List am_V} {h h' : am_H} {H1 : Heap} {locs1 : List Loc} {lc : Array Slot} {kn : am_K} {q n : Nat} (J : so_J dC dI cA A s nL hE ad0 ad h ls st H locs lc cells slots)
    (hH : so_H dC dI cA A (so_ext ad kn q) h' H1) (hr : kn.1 < 300) (hno : h.2.2.1 kn.1 kn.2.1 kn.2.2 = none) (hat : h'.2.2.1 kn.1 kn.2.1 kn.2.2 = some n)
    (ho : ∀ k' : am_K, k' ≠ kn → h'.1 k'.1 k'.2.1 k'.2.2 = h.1 k'.1 k'.2.1 k'.2.2 ∧ h'.2.1 k'.1 k'.2.1 k'.2.2 = h.2.1 k'.1 k'.2.1 k'.2.2 ∧ h'.2.2.1 k'.1 k'.2.1 k'.2.2 = h.2.2.1 k'.1 k'.2.1 k'.2.2)
    (hc : h'.2.2.2.1 = h.2.2.2.1 + 1) (hn : h'.2.2.2.2 = h.2.2.2.2 + n) (hS : va_S A s.heap H1 locs1) {st0 : List am_V} (hst9 : ∀ v, v ∈ st0 → v ∈ st) :
    so_J dC dI cA A s nL hE ad0 (so_ext ad kn q) h' ls (.inr (.inr kn) :: st0) H1 locs1 lc (cells + 1) (slots + n) ∧ st0.map (so_v (so_ext ad kn q)) = st0.map (so_v ad) := by
  obtain ⟨-, hX, hlv, hst0, hls, -, hc0, hn0, hex, hst3, hsta⟩ := J
  have hne : ∀ (k : am_K) (n0 : Nat), h.2.2.1 k.1 k.2.1 k.2.2 = some n0 → k ≠ kn := fun k n0 h0 e9 => by rw [e9, hno] at h0; cases h0
  have hok : ∀ v, so_okv h v → so_okv h' v := fun v hv k hk => by
    obtain ⟨n1, h1⟩ := hv k hk
    exact ⟨n1, by rw [(ho k (hne k n1 h1)).2.2]; exact h1⟩
  have had : ∀ v, so_okv h v → ∀ k, v = .inr (.inr k) → so_ext ad kn q k = ad k := fun v hv k hk => by
    obtain ⟨n1, h1⟩ := hv k hk
    exact so_ext_ne (hne k n1 h1)
  refine ⟨⟨hH, fun k hk n1 hn1 => ?_, ?_, fun v hv => ?_, fun v hv => hok v (hls v hv), hS, by rw [hc, hc0, Nat.add_assoc], by rw [hn, hn0, Nat.add_assoc], fun k n1 hk => ?_, fun k hk => ?_, fun r h1 h2 => ?_⟩, so_map_ad (fun v hv => had v (hst0 v (hst9 v hv)))⟩
  · have hkn : k ≠ kn := fun e9 => by rw [e9] at hk; exact absurd hk (Nat.not_le.mpr hr)
    rw [(ho k hkn).2.2] at hn1
    rw [so_ext_ne hkn, (ho k hkn).1]
    exact hX k hk n1 hn1
  · rw [so_lv_ad ls 0 (fun v hv => had v (hls v hv))]
    exact hlv
  · rcases List.mem_cons.mp hv with rfl | hv
    · intro k hk
      cases hk
      exact ⟨n, hat⟩
    · exact hok v (hst0 v (hst9 v hv))
  · obtain ⟨h1, h2⟩ := hex k n1 hk
    have hkn := hne k n1 h2
    exact ⟨by rw [so_ext_ne hkn]; exact h1, by rw [(ho k hkn).2.2]; exact h2⟩
  · have hkn : k ≠ kn := fun e9 => by rw [e9] at hk; exact absurd hk (Nat.not_le.mpr hr)
    exact ⟨by rw [so_ext_ne hkn]; exact (hst3 k hk).1, (ho k hkn).2.2.trans (hst3 k hk).2.1, (ho k hkn).1.trans (hst3 k hk).2.2⟩
  · obtain ⟨n1, h3⟩ := hsta r h1 h2
    exact ⟨n1, by rw [(ho (r, 0, 0) (hne (r, 0, 0) n1 h3)).2.2]; exact h3⟩
theorem so_make {cc : ByteArray} {nL pc : Nat} {x : am_X} {call : am_C} {own : String} {init : Bool} {hE : am_H} {ad0 ad : am_K → Nat} {ls : am_L} {st : List am_V} {h : am_H} {lc : Array Slot} {k : Nat → am_L → List am_V → am_H → Prop} {q : am_Q}
    (hx : p.tables.exec = Jvm.exec) (hb : c.code = cc) (hown : s.vm.findClass own = some m.cls) (hts : ∀ w ∈ so_G, w.before args s = true) (hA : ∀ q, s.heap.size ≤ q → A q) (hEn : so_E dC dI cA A ad0 s)
    (hck : so_ck1 cc nL pc x = true) (hck2 : so_ck2 own init x = true) (h2 : so_is4 x.1 = true) (J : so_J dC dI cA A s nL hE ad0 ad h ls st H locs lc cells slots) (hs : am_step am_rt call x ls st h k q)
    (hroom : ∀ pc' ls' st' h', k pc' ls' st' h' → h'.2.2.2.1 ≤ hE.2.2.2.1 + R.cells ∧ h'.2.2.2.2 ≤ hE.2.2.2.2 + R.slots)
    (hk : ∀ pc' st' ad' h' H' locs' cells' slots', k pc' ls st' h' → so_J dC dI cA A s nL hE ad0 ad' h' ls st' H' locs' lc cells' slots' → W p l e R s m args below meth c H' locs' cells' slots' Q (F0 m pc' lc (st'.map (so_v ad')))) :
    W p l e R s m args below meth c H locs cells slots Q (F0 m pc lc (st.map (so_v ad))) := by
  obtain ⟨ins, nx, im, a, b, c', sw⟩ := x
  obtain ⟨hK, hAO, hNw, hZ⟩ := hEn
  obtain ⟨⟨L, hL, hP, hD, hcl, hbo, hvk⟩, hX, hlv, hst, hls, hS, hc0, hn0, hex, hst3, hsta⟩ := id J
  simp only [so_ck1, Bool.and_eq_true] at hck
  obtain ⟨hd, -⟩ := hck
  -- behind any making of the cell (r, w, j)
  have fin : ∀ (r w j n : Nat) (pc' : Nat) (st0 : List am_V) (q9 : Nat) (H1 : Heap), r < 300 → so_vk (am_rt r) = true → h.2.2.1 r w j = none → (∀ v, v ∈ st0 → v ∈ st) → k pc' ls (.inr (.inr (r, w, j)) :: st0) (am_new h r w j n) →
      va_P (dC, dI) am_cls (so_ws cA ad h L ++ [(q9, so_c cA (so_ext ad (r, w, j) q9) (am_new h r w j n) (r, w, j))]) H1 → va_D A (so_ws cA ad h L ++ [(q9, so_c cA (so_ext ad (r, w, j) q9) (am_new h r w j n) (r, w, j))]) → va_S A s.heap H1 locs →
      W p l e R s m args below meth c H1 locs (cells + 1) (slots + n) Q (F0 m pc' lc (.ref q9 :: st0.map (so_v ad))) := by
    intro r w j n pc' st0 q9 H1 hr hv hno hst0 hkk hP1 hD1 hS1
    obtain ⟨I, Rr, N, cc9, nn9⟩ := h
    have ho : ∀ k' : am_K, k' ≠ (r, w, j) → (am_new (I, Rr, N, cc9, nn9) r w j n).1 k'.1 k'.2.1 k'.2.2 = I k'.1 k'.2.1 k'.2.2 ∧ (am_new (I, Rr, N, cc9, nn9) r w j n).2.1 k'.1 k'.2.1 k'.2.2 = Rr k'.1 k'.2.1 k'.2.2 ∧ (am_new (I, Rr, N, cc9, nn9) r w j n).2.2.1 k'.1 k'.2.1 k'.2.2 = N k'.1 k'.2.1 k'.2.2 :=
      fun k' hne => ⟨am_newI_off I r w j hne, am_newR_off Rr r w j hne, am_newN_off N r w j n hne⟩
    have hat : (am_new (I, Rr, N, cc9, nn9) r w j n).2.2.1 r w j = some n := am_newN_at N r w j n
    have hH := so_H_new (kn := (r, w, j)) (h' := am_new (I, Rr, N, cc9, nn9) r w j n) (n := n) hL hcl hbo hvk hr hv hno hat ho (fun s' => congrFun (am_newR_at Rr r w j) s') (fun _ s' => Or.inl (congrFun (am_newI_at I r w j) s')) hP1 hD1
    obtain ⟨J', he⟩ := so_J_new (n := n) J hH hr hno hat ho rfl rfl hS1 hst0
    have h9 := hk _ _ _ _ _ _ _ _ hkk J'
    rw [List.map_cons, he] at h9
    rw [show Value.ref q9 = so_v (so_ext ad (r, w, j) q9) (.inr (.inr (r, w, j))) by show Value.ref q9 = Value.ref (so_ext ad (r, w, j) q9 (r, w, j)); rw [so_ext_eq]]
    exact h9
  cases ins <;> try (cases h2; done)
  case new i =>
    obtain ⟨hd2, hnx⟩ := so_dec hd
    clear hd; subst hnx
    dsimp only [am_step] at hs
    dsimp only [so_ck2] at hck2
    split at hck2
    · rename_i q0 i1 p1 i2 p2 i3 p3 hq0
      simp only [Bool.and_eq_true, decide_eq_true_eq] at hck2
      obtain ⟨⟨⟨hw1, hw2⟩, hw3⟩, hbq⟩ := hck2
      obtain ⟨r, w, j, ⟨hra, hr3⟩, hs⟩ := hs
      have ha12 : a < 12 := (List.getElem?_eq_some_iff.mp hq0).1
      obtain ⟨hin, ty0, hty0, hnm⟩ := so_cls a q0 hq0
      obtain ⟨I, S⟩ := h
      dsimp only at hs
      obtain ⟨hno, hs⟩ := hs
      have hro := hroom _ _ _ _ hs
      have hro1 : S.2.2.1 + 1 ≤ hE.2.2.2.1 + R.cells := hro.1
      have hro2 : S.2.2.2 + b ≤ hE.2.2.2.2 + R.slots := hro.2
      have hc0 : S.2.2.1 = hE.2.2.2.1 + cells := hc0
      have hn0 : S.2.2.2 = hE.2.2.2.2 + slots := hn0
      have hvk9 : so_vk (am_rt r) = true := by
        rw [hra]
        have : ∀ a, a < 12 → so_vk a = true := by decide
        exact this a ha12
      have he : ∀ q9, so_c cA (so_ext ad (r, w, j) q9) (am_new (I, S) r w j b) (r, w, j) = .inr (a, (List.range q0.2.2).map (fun s' => bif so_isI q0 s' then .int 0 else .null)) := fun q9 => by
        rw [so_c_obj (h := am_new (I, S) r w j b) (k := (r, w, j)) hra hq0]
        show Sum.inr (a, (List.range q0.2.2).map (so_f _ q0 (am_newI I r w j r w j) (am_newR S.1 r w j r w j))) = _
        rw [am_newI_at, am_newR_at]
        congr 2
      refine va_new (c0 := c) (ci := a) (fs := (List.range q0.2.2).map (fun s' => bif so_isI q0 s' then .int 0 else .null)) hx hb hts hin ty0 hty0 hown (hts _ (so_wd_in hw1)) (hts _ (so_wd_in hw2)) (hts _ (so_wd_in hw3)) hK hP hD hS hA hq0 (fun j9 hj9 => ?_) (by omega) (by omega) hd2 (fun q9 H1 hP1 hD1 hS1 => ?_)
      · rw [so_dfl a q0 hq0 ty0 hty0 j9 hj9, vp_V, List.getD_eq_getElem?_getD, List.getElem?_map, List.getElem?_range hj9]
        rfl
      · have h9 := fin r w j b _ st q9 H1 hr3 hvk9 hno (fun v hv => hv) hs
        rw [he q9] at h9
        rw [← hbq]
        exact h9 hP1 hD1 hS1
    · cases hck2
  case newarray t =>
    obtain ⟨hd2, hnx⟩ := so_dec hd
    clear hd; subst hnx
    dsimp only [am_step] at hs
    dsimp only [so_ck2] at hck2
    split at hck2
    · rename_i i1 p1
      simp only [Bool.and_eq_true, decide_eq_true_eq] at hck2
      obtain ⟨⟨hw1, hak⟩, ha9⟩ := hck2
      split at hs
      · rename_i i st0
        obtain ⟨r, w, j, n, ⟨hra, hr3⟩, hi, hn6, hs⟩ := hs
        obtain ⟨I, S⟩ := h
        dsimp only at hs
        obtain ⟨hno, hs⟩ := hs
        have hro := hroom _ _ _ _ hs
        have hro1 : S.2.2.1 + 1 ≤ hE.2.2.2.1 + R.cells := hro.1
        have hro2 : S.2.2.2 + n ≤ hE.2.2.2.2 + R.slots := hro.2
        have hc0 : S.2.2.1 = hE.2.2.2.1 + cells := hc0
        have hn0 : S.2.2.2 = hE.2.2.2.2 + slots := hn0
        have hi0 : ¬ i < 0 := by rw [hi]; exact nI_pos (by omega)
        have hiN : i.toNatClampNeg = n := by rw [hi]; exact nI_clamp (by omega)
        have hkind : ∃ t0 : Nat, (so_tys cA)[t0]? = some (cA a, newarray.typeOf t) ∧ (∀ C, newarray.typeOf t ≠ .object C) ∧ (∀ cA' : ClassId, vp_cell cA' (n, .inl (fun _ => 0)) = arrV cA' n (fun _ => defaultValue (newarray.typeOf t))) ∧ componentBytes (newarray.typeOf t) ≤ 8 ∧ 100 ≤ a ∧ a < 110 ∧ so_vk a = true := by
          cases t <;> first
            | (exact absurd hak ha9)
            | (subst hak; exact ⟨0, rfl, (fun C h => by cases h), fun _ => rfl, by decide, by decide, by decide, by decide⟩)
            | (subst hak; exact ⟨1, rfl, (fun C h => by cases h), fun _ => rfl, by decide, by decide, by decide, by decide⟩)
            | (subst hak; exact ⟨2, rfl, (fun C h => by cases h), fun _ => rfl, by decide, by decide, by decide, by decide⟩)
            | (subst hak; exact ⟨3, rfl, (fun C h => by cases h), fun _ => rfl, by decide, by decide, by decide, by decide⟩)
        obtain ⟨t0, ht0, hnobj, hcell, hcb, ha1, ha2, hvka⟩ := hkind
        refine va_newa (N' := n) (a0 := (n, .inl (fun _ => 0))) hx hb (hts _ (so_wd_in hw1)) rfl hK hP hD hS hA hcell hi0 hiN (by have := Nat.mul_le_mul (Nat.le_of_lt hn6) hcb; omega) (by omega) (by omega) hd2 (fun q9 cA' H1 hK1 hP1 hD1 hS1 => ?_)
        have hcA : cA' = cA a := by
          have h8 := hK1.2 (so_tys cA).length (cA', newarray.typeOf t) (by rw [List.getElem?_append_right (Nat.le_refl _)]; simp)
          exact so_RAi hnobj h8.2 (hK.2 t0 _ ht0).2
        subst hcA
        have h9 := fin r w j n _ st0 q9 H1 hr3 (by rw [hra]; exact hvka) hno (fun v hv => List.mem_cons_of_mem _ hv) hs
        have he : so_c cA (so_ext ad (r, w, j) q9) (am_new (I, S) r w j n) (r, w, j) = .inl (cA a, n, .inl (fun _ => 0)) := by
          rw [so_c_int (h := am_new (I, S) r w j n) (k := (r, w, j)) hra ha1 ha2 (am_newN_at S.2.1 r w j n)]
          show Sum.inl (cA a, n, Sum.inl (am_newI I r w j r w j)) = _
          rw [am_newI_at]
        rw [he] at h9
        exact h9 hP1 hD1 hS1
      · exact hs.elim
    · cases hck2
  case anewarray i =>
    obtain ⟨hd2, hnx⟩ := so_dec hd
    clear hd; subst hnx
    dsimp only [am_step] at hs
    dsimp only [so_ck2] at hck2
    split at hck2
    · rename_i q0 i1 p1 hq0
      simp only [Bool.and_eq_true, List.contains_eq_mem, decide_eq_true_eq] at hck2
      obtain ⟨⟨hw1, hcm⟩, hal⟩ := hck2
      split at hs
      · rename_i i st0
        obtain ⟨r, w, j, n, ⟨hra, hr3⟩, hi, hn6, hs⟩ := hs
        obtain ⟨I, S⟩ := h
        dsimp only at hs
        obtain ⟨hno, hs⟩ := hs
        have hro := hroom _ _ _ _ hs
        have hro1 : S.2.2.1 + 1 ≤ hE.2.2.2.1 + R.cells := hro.1
        have hro2 : S.2.2.2 + n ≤ hE.2.2.2.2 + R.slots := hro.2
        have hc0 : S.2.2.1 = hE.2.2.2.1 + cells := hc0
        have hn0 : S.2.2.2 = hE.2.2.2.2 + slots := hn0
        have hi0 : ¬ i < 0 := by rw [hi]; exact nI_pos (by omega)
        have hiN : i.toNatClampNeg = n := by rw [hi]; exact nI_clamp (by omega)
        have hvka : so_vk (110 + a) = true := by
          simp only [List.mem_cons, List.not_mem_nil, or_false] at hal
          rcases hal with rfl | rfl | rfl | rfl | rfl <;> decide
        refine va_newq (N' := n) hx hb hown (hts _ (so_wd_in hw1)) (hAO _ hcm) hK hP hD hS hA hi0 hiN (by omega) (by omega) (by omega) hd2 (fun q9 cA' H1 hK1 hP1 hD1 hS1 => ?_)
        have hcA : cA' = cA (110 + a) := by
          have h8 := hK1.2 (so_tys cA).length (cA', .object q0.1) (by rw [List.getElem?_append_right (Nat.le_refl _)]; simp)
          obtain ⟨t0, ci, q5, ht0, hq5, h15⟩ := so_vk_ref (cA := cA) hvka (by omega)
          have : ci = a := by omega
          subst this
          cases hq0.symm.trans hq5
          exact so_RAo h8.2 (hK.2 t0 _ ht0).2
        subst hcA
        have h9 := fin r w j n _ st0 q9 H1 hr3 (by rw [hra]; exact hvka) hno (fun v hv => List.mem_cons_of_mem _ hv) hs
        have he : so_c cA (so_ext ad (r, w, j) q9) (am_new (I, S) r w j n) (r, w, j) = .inl (cA (110 + a), n, .inr (.inr (.inr (.inr (fun _ => none))))) := by
          rw [so_c_refs (h := am_new (I, S) r w j n) (k := (r, w, j)) hra (by omega) (am_newN_at S.2.1 r w j n)]
          show Sum.inl (cA (110 + a), n, Sum.inr (Sum.inr (Sum.inr (Sum.inr (fun s' => (am_newR S.1 r w j r w j s').map _))))) = _
          rw [am_newR_at]
          rfl
        rw [he] at h9
        exact h9 hP1 hD1 hS1
      · exact hs.elim
    · cases hck2
end so4
