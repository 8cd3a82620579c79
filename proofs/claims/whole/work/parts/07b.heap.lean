/-! THE SMALL MACHINE IS SOUND, part 2: cells -/
def so_isI (q : vw_C) (s : Nat) : Bool := (q.2.1 s).2.2.1 == "I" || (q.2.1 s).2.2.1 == "Z"
def so_f (ad : am_K → Nat) (q : vw_C) (I : Nat → Int32) (R : Nat → Option am_K) (s : Nat) : Value := bif so_isI q s then .int (I s) else va_rf ((R s).map ad)
def so_cell (cA : Nat → ClassId) (ad : am_K → Nat) (k n : Nat) (I : Nat → Int32) (R : Nat → Option am_K) : va_E :=
  if k < 100 then (match am_cls[k]? with | some q => .inr (k, (List.range q.2.2).map (so_f ad q I R)) | none => .inr (k, []))
  else if k < 110 then .inl (cA k, n, .inl I)
  else .inl (cA k, n, .inr (.inr (.inr (.inr (fun s => (R s).map ad)))))
def so_c (cA : Nat → ClassId) (ad : am_K → Nat) (h : am_H) (k : am_K) : va_E := so_cell cA ad (am_rt k.1) ((h.2.2.1 k.1 k.2.1 k.2.2).getD 0) (h.1 k.1 k.2.1 k.2.2) (h.2.1 k.1 k.2.1 k.2.2)
def so_ws (cA : Nat → ClassId) (ad : am_K → Nat) (h : am_H) (L : List am_K) : va_W := L.map (fun k => (ad k, so_c cA ad h k))
def so_al (h : am_H) (k : am_K) : Prop := k.1 < 300 ∧ ∃ n, h.2.2.1 k.1 k.2.1 k.2.2 = some n
def so_okv (h : am_H) (v : am_V) : Prop := ∀ k, v = .inr (.inr k) → ∃ n, h.2.2.1 k.1 k.2.1 k.2.2 = some n
/-- the kinds of cells that there are -/
def so_vk (k : Nat) : Bool := [0, 1, 2, 3, 4, 5, 6, 7, 8, 9, 10, 11, 100, 101, 102, 103, 110, 111, 113, 114, 117].contains k
def so_H (dC : Nat → ClassId) (dI : Nat → Nat → Nat) (cA : Nat → ClassId) (A : Nat → Prop) (ad : am_K → Nat) (h : am_H) (H : Heap) : Prop :=
  ∃ L : List am_K, (∀ k, k ∈ L ↔ so_al h k) ∧ va_P (dC, dI) am_cls (so_ws cA ad h L) H ∧ va_D A (so_ws cA ad h L)
    ∧ (∀ k, so_al h k → ∀ s k', h.2.1 k.1 k.2.1 k.2.2 s = some k' → so_al h k')
    ∧ (∀ k, so_al h k → am_rt k.1 = 101 → ∀ s, h.1 k.1 k.2.1 k.2.2 s = 0 ∨ h.1 k.1 k.2.1 k.2.2 s = 1)
    ∧ (∀ k, so_al h k → so_vk (am_rt k.1) = true)
def so_X (A : Nat → Prop) (ad : am_K → Nat) (U : State) (h : am_H) (H : Heap) : Prop :=
  ∀ k : am_K, 300 ≤ k.1 → ∀ n, h.2.2.1 k.1 k.2.1 k.2.2 = some n → va_T .int (ad k) n (fun j => .int (h.1 k.1 k.2.1 k.2.2 j)) A U H
theorem so_ws_get {cA : Nat → ClassId} {ad : am_K → Nat} {h : am_H} {L : List am_K} {k : am_K} (hk : k ∈ L) : ∃ q0 : Nat, L[q0]? = some k ∧ (so_ws cA ad h L)[q0]? = some (ad k, so_c cA ad h k) := by
  obtain ⟨q0, hq⟩ := List.getElem?_of_mem hk
  exact ⟨q0, hq, by rw [so_ws, List.getElem?_map, hq]; rfl⟩
theorem so_ws_inj {cA : Nat → ClassId} {A : Nat → Prop} {ad : am_K → Nat} {h : am_H} {L : List am_K} (hD : va_D A (so_ws cA ad h L)) {i j : Nat} {k k' : am_K} (hi : L[i]? = some k) (hj : L[j]? = some k') (he : ad k = ad k') : i = j := by
  refine hD.1 i j (ad k, so_c cA ad h k) (ad k', so_c cA ad h k') ?_ ?_ he
  · rw [so_ws, List.getElem?_map, hi]; rfl
  · rw [so_ws, List.getElem?_map, hj]; rfl
/-- one cell of the world is another -/
theorem so_ws_set {cA : Nat → ClassId} {A : Nat → Prop} {ad : am_K → Nat} {h h' : am_H} {L : List am_K} {q0 : Nat} {k : am_K} {e : va_E} (hD : va_D A (so_ws cA ad h L)) (hq : L[q0]? = some k) (he : so_c cA ad h' k = e) (ho : ∀ k', k' ∈ L → k' ≠ k → so_c cA ad h' k' = so_c cA ad h k') : (so_ws cA ad h L).set q0 (ad k, e) = so_ws cA ad h' L := by
  apply List.ext_getElem?
  intro i
  rw [List.getElem?_set]
  by_cases hi : q0 = i
  · subst hi
    have hl : q0 < L.length := (List.getElem?_eq_some_iff.mp hq).1
    rw [if_pos rfl, if_pos (by rw [so_ws, List.length_map]; exact hl), so_ws, List.getElem?_map, hq, ← he]
    rfl
  · rw [if_neg hi, so_ws, so_ws, List.getElem?_map, List.getElem?_map]
    cases hk' : L[i]? with
    | none => rfl
    | some k' =>
      have hne : k' ≠ k := fun e => hi (so_ws_inj hD hq hk' (by rw [e]))
      show some (ad k', so_c cA ad h k') = some (ad k', so_c cA ad h' k')
      rw [ho k' (List.mem_of_getElem? hk') hne]
theorem so_range_set (n s : Nat) (f g : Nat → Value) (v : Value) (hs : g s = v) (ho : ∀ i, i ≠ s → g i = f i) : ((List.range n).map f).set s v = (List.range n).map g := by
  apply List.ext_getElem?
  intro i
  rw [List.getElem?_set, List.getElem?_map, List.length_map, List.length_range]
  by_cases hi : s = i
  · subst hi
    rw [if_pos rfl]
    by_cases hl : s < n
    · rw [if_pos hl, List.getElem?_map, List.getElem?_range hl]
      show _ = some (g s)
      rw [hs]
    · rw [if_neg hl, List.getElem?_map, List.getElem?_eq_none (by rw [List.length_range]; omega)]
      rfl
  · rw [if_neg hi, List.getElem?_map]
    cases hr : (List.range n)[i]? with
    | none => rfl
    | some j =>
      have : j = i := by
        obtain ⟨h1, h2⟩ := List.getElem?_eq_some_iff.mp hr
        rw [List.getElem_range] at h2
        exact h2.symm
      subst this
      show some _ = some _
      rw [ho j (fun e => hi e.symm)]
theorem am_set_at (I : am_I) (r w j s : Nat) (v : Int32) : am_set I r w j s v r w j = upd (I r w j) s v := by
  funext s'
  simp [am_set, upd]
theorem am_set_off (I : am_I) (r w j s : Nat) (v : Int32) {k : am_K} (h : k ≠ (r, w, j)) : am_set I r w j s v k.1 k.2.1 k.2.2 = I k.1 k.2.1 k.2.2 := by
  funext s'
  obtain ⟨r', w', j'⟩ := k
  simp only [am_set]
  by_cases h1 : r' = r
  · rw [if_pos h1]
    by_cases h2 : w' = w ∧ j' = j ∧ s' = s
    · exact absurd (by rw [h1, h2.1, h2.2.1]) h
    · rw [if_neg h2]
  · rw [if_neg h1]
theorem am_setR_at (R : am_R) (r w j s : Nat) (v : am_K) : am_setR R r w j s v r w j = va_up (R r w j) s (some v) := by
  funext s'
  simp [am_setR, va_up]
theorem am_setR_off (R : am_R) (r w j s : Nat) (v : am_K) {k : am_K} (h : k ≠ (r, w, j)) : am_setR R r w j s v k.1 k.2.1 k.2.2 = R k.1 k.2.1 k.2.2 := by
  funext s'
  obtain ⟨r', w', j'⟩ := k
  simp only [am_setR]
  by_cases h1 : r' = r
  · rw [if_pos h1]
    by_cases h2 : w' = w ∧ j' = j ∧ s' = s
    · exact absurd (by rw [h1, h2.1, h2.2.1]) h
    · rw [if_neg h2]
  · rw [if_neg h1]
/-- the world behind a store into one cell -/
theorem so_H_set {dC : Nat → ClassId} {dI : Nat → Nat → Nat} {cA : Nat → ClassId} {A : Nat → Prop} {ad : am_K → Nat} {h h' : am_H} {H1 : Heap} {L : List am_K} {q0 : Nat} {k : am_K}
    (hL : ∀ k, k ∈ L ↔ so_al h k) (hD : va_D A (so_ws cA ad h L)) (hv : ∀ k, so_al h k → so_vk (am_rt k.1) = true) (hq : L[q0]? = some k) (hN : h'.2.2.1 = h.2.2.1)
    (ho : ∀ k' : am_K, k' ≠ k → h'.1 k'.1 k'.2.1 k'.2.2 = h.1 k'.1 k'.2.1 k'.2.2 ∧ h'.2.1 k'.1 k'.2.1 k'.2.2 = h.2.1 k'.1 k'.2.1 k'.2.2)
    (hc : ∀ k, so_al h k → ∀ s k', h'.2.1 k.1 k.2.1 k.2.2 s = some k' → so_al h k') (hb : ∀ k, so_al h k → am_rt k.1 = 101 → ∀ s, h'.1 k.1 k.2.1 k.2.2 s = 0 ∨ h'.1 k.1 k.2.1 k.2.2 s = 1)
    (hP1 : va_P (dC, dI) am_cls ((so_ws cA ad h L).set q0 (ad k, so_c cA ad h' k)) H1) (hD1 : va_D A ((so_ws cA ad h L).set q0 (ad k, so_c cA ad h' k))) : so_H dC dI cA A ad h' H1 := by
  have hal : ∀ k, so_al h' k ↔ so_al h k := fun k => by unfold so_al; rw [hN]
  have e : (so_ws cA ad h L).set q0 (ad k, so_c cA ad h' k) = so_ws cA ad h' L := so_ws_set hD hq rfl (fun k' _ hne => by
    unfold so_c
    rw [(ho k' hne).1, (ho k' hne).2, hN])
  rw [e] at hP1 hD1
  exact ⟨L, fun k => (hL k).trans (hal k).symm, hP1, hD1, fun k hk s k' hs => (hal k').mpr (hc k ((hal k).mp hk) s k' hs), fun k hk => hb k ((hal k).mp hk), fun k hk => hv k ((hal k).mp hk)⟩
theorem so_cell_ad {cA : Nat → ClassId} {ad ad' : am_K → Nat} {k n : Nat} {I : Nat → Int32} {R : Nat → Option am_K} (h : ∀ s k', R s = some k' → ad' k' = ad k') : so_cell cA ad' k n I R = so_cell cA ad k n I R := by
  have e : ∀ s, (R s).map ad' = (R s).map ad := fun s => by
    cases hR : R s with
    | none => rfl
    | some k' => show some _ = some _; rw [h s k' hR]
  have e2 : ∀ q : vw_C, so_f ad' q I R = so_f ad q I R := fun q => by
    funext s
    unfold so_f
    rw [e s]
  unfold so_cell
  simp only [e, e2]
def so_ext (ad : am_K → Nat) (kn : am_K) (q : Nat) : am_K → Nat := fun k => if k = kn then q else ad k
theorem so_ext_ne {ad : am_K → Nat} {kn k : am_K} {q : Nat} (h : k ≠ kn) : so_ext ad kn q k = ad k := if_neg h
theorem so_ext_eq {ad : am_K → Nat} {kn : am_K} {q : Nat} : so_ext ad kn q kn = q := if_pos rfl
theorem am_newI_off (I : am_I) (r w j : Nat) {k : am_K} (h : k ≠ (r, w, j)) : am_newI I r w j k.1 k.2.1 k.2.2 = I k.1 k.2.1 k.2.2 := by
  funext s'
  obtain ⟨r', w', j'⟩ := k
  simp only [am_newI]
  by_cases h1 : r' = r
  · rw [if_pos h1]
    by_cases h2 : w' = w ∧ j' = j
    · exact absurd (by rw [h1, h2.1, h2.2]) h
    · rw [if_neg h2]
  · rw [if_neg h1]
theorem am_newR_off (R : am_R) (r w j : Nat) {k : am_K} (h : k ≠ (r, w, j)) : am_newR R r w j k.1 k.2.1 k.2.2 = R k.1 k.2.1 k.2.2 := by
  funext s'
  obtain ⟨r', w', j'⟩ := k
  simp only [am_newR]
  by_cases h1 : r' = r
  · rw [if_pos h1]
    by_cases h2 : w' = w ∧ j' = j
    · exact absurd (by rw [h1, h2.1, h2.2]) h
    · rw [if_neg h2]
  · rw [if_neg h1]
theorem am_newN_off (N : am_N) (r w j n : Nat) {k : am_K} (h : k ≠ (r, w, j)) : am_newN N r w j n k.1 k.2.1 k.2.2 = N k.1 k.2.1 k.2.2 := by
  obtain ⟨r', w', j'⟩ := k
  simp only [am_newN]
  by_cases h1 : r' = r
  · rw [if_pos h1]
    by_cases h2 : w' = w ∧ j' = j
    · exact absurd (by rw [h1, h2.1, h2.2]) h
    · rw [if_neg h2]
  · rw [if_neg h1]
theorem am_newI_at (I : am_I) (r w j : Nat) : am_newI I r w j r w j = fun _ => 0 := by
  funext s; simp [am_newI]
theorem am_newR_at (R : am_R) (r w j : Nat) : am_newR R r w j r w j = fun _ => none := by
  funext s; simp [am_newR]
theorem am_newN_at (N : am_N) (r w j n : Nat) : am_newN N r w j n r w j = some n := by simp [am_newN]
/-- the world behind a making: h' is h with the cell kn beside it -/
theorem so_H_new {dC : Nat → ClassId} {dI : Nat → Nat → Nat} {cA : Nat → ClassId} {A : Nat → Prop} {ad : am_K → Nat} {h h' : am_H} {H1 : Heap} {L : List am_K} {q n : Nat} {kn : am_K}
    (hL : ∀ k, k ∈ L ↔ so_al h k) (hcl : ∀ k, so_al h k → ∀ s k', h.2.1 k.1 k.2.1 k.2.2 s = some k' → so_al h k') (hbo : ∀ k, so_al h k → am_rt k.1 = 101 → ∀ s, h.1 k.1 k.2.1 k.2.2 s = 0 ∨ h.1 k.1 k.2.1 k.2.2 s = 1) (hv : ∀ k, so_al h k → so_vk (am_rt k.1) = true)
    (hr : kn.1 < 300) (hkv : so_vk (am_rt kn.1) = true) (hno : h.2.2.1 kn.1 kn.2.1 kn.2.2 = none) (hat : h'.2.2.1 kn.1 kn.2.1 kn.2.2 = some n)
    (ho : ∀ k' : am_K, k' ≠ kn → h'.1 k'.1 k'.2.1 k'.2.2 = h.1 k'.1 k'.2.1 k'.2.2 ∧ h'.2.1 k'.1 k'.2.1 k'.2.2 = h.2.1 k'.1 k'.2.1 k'.2.2 ∧ h'.2.2.1 k'.1 k'.2.1 k'.2.2 = h.2.2.1 k'.1 k'.2.1 k'.2.2)
    (hR0 : ∀ s, h'.2.1 kn.1 kn.2.1 kn.2.2 s = none) (hb0 : am_rt kn.1 = 101 → ∀ s, h'.1 kn.1 kn.2.1 kn.2.2 s = 0 ∨ h'.1 kn.1 kn.2.1 kn.2.2 s = 1)
    (hP1 : va_P (dC, dI) am_cls (so_ws cA ad h L ++ [(q, so_c cA (so_ext ad kn q) h' kn)]) H1) (hD1 : va_D A (so_ws cA ad h L ++ [(q, so_c cA (so_ext ad kn q) h' kn)])) : so_H dC dI cA A (so_ext ad kn q) h' H1 := by
  have hne : ∀ k, so_al h k → k ≠ kn := fun k hk e => by
    obtain ⟨-, n0, h0⟩ := hk
    rw [e, hno] at h0
    cases h0
  have hal : ∀ k, k ≠ kn → (so_al h' k ↔ so_al h k) := fun k hk => by unfold so_al; rw [(ho k hk).2.2]
  have hnew : so_al h' kn := ⟨hr, n, hat⟩
  have e : so_ws cA ad h L ++ [(q, so_c cA (so_ext ad kn q) h' kn)] = so_ws cA (so_ext ad kn q) h' (L ++ [kn]) := by
    unfold so_ws
    rw [List.map_append]
    congr 1
    · apply List.map_congr_left
      intro k hk
      have hka := (hL k).mp hk
      have hkn := hne k hka
      show (ad k, so_c cA ad h k) = (so_ext ad kn q k, so_c cA (so_ext ad kn q) h' k)
      rw [so_ext_ne hkn]
      congr 1
      unfold so_c
      rw [(ho k hkn).1, (ho k hkn).2.1, (ho k hkn).2.2]
      exact (so_cell_ad (fun s k' hs => so_ext_ne (hne k' (hcl k hka s k' hs)))).symm
    · show [(q, so_c cA (so_ext ad kn q) h' kn)] = [(so_ext ad kn q kn, so_c cA (so_ext ad kn q) h' kn)]
      rw [so_ext_eq]
  rw [e] at hP1 hD1
  refine ⟨L ++ [kn], fun k => ?_, hP1, hD1, fun k hk s k' hs => ?_, fun k hk h101 s => ?_, fun k hk => ?_⟩
  · rw [List.mem_append, List.mem_singleton, hL k]
    by_cases hk : k = kn
    · rw [hk]; exact ⟨fun _ => hnew, fun _ => Or.inr rfl⟩
    · rw [hal k hk]; exact ⟨fun h => h.elim id (fun h => absurd h hk), Or.inl⟩
  · by_cases hkn : k = kn
    · rw [hkn, hR0 s] at hs; cases hs
    · rw [(ho k hkn).2.1] at hs
      have h1 := hcl k ((hal k hkn).mp hk) s k' hs
      exact (hal k' (hne k' h1)).mpr h1
  · by_cases hkn : k = kn
    · subst hkn; exact hb0 h101 s
    · rw [(ho k hkn).1]; exact hbo k ((hal k hkn).mp hk) h101 s
  · by_cases hkn : k = kn
    · rw [hkn]; exact hkv
    · exact hv k ((hal k hkn).mp hk)
