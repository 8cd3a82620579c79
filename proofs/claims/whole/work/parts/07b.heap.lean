/-! THE SMALL MACHINE IS SOUND, part 2: cells -/
def so_isI (q : vw_C) (s : Nat) : Bool := (q.2.1 s).2.2.1 == "I" || (q.2.1 s).2.2.1 == "Z"
def so_f (ad : am_K → Nat) (q : vw_C) (I : Nat → Int32) (R : Nat → Option am_K) (s : Nat) : Value := bif so_isI q s then .int (I s) else va_rf ((R s).map ad)
def so_cell (cA : Nat → ClassId) (ad : am_K → Nat) (k n : Nat) (I : Nat → Int32) (R : Nat → Option am_K) : va_E :=
  if k < 100 then (match am_cls[k]? with | some q => .inr (k, (List.range q.2.2).map (so_f ad q I R)) | none => .inr (k, []))
  else if k < 110 then .inl (cA k, n, .inl I)
  else .inl (cA k, n, .inr (.inr (.inr (.inr (fun s => (R s).map ad)))))
def so_c (cA : Nat → ClassId) (ad : am_K → Nat) (h : am_H) (k : am_K) : va_E := so_cell cA ad (am_rt k.1) ((h.2.2.1 k.1 k.2.1 k.2.2).getD 0) (h.1 k.1 k.2.1 k.2.2) (h.2.1 k.1 k.2.1 k.2.2)
def so_ws (cA : Nat → ClassId) (ad : am_K → Nat) (h : am_H) (L : List am_K) : va_W := L.map (fun k => (ad k, so_c cA ad h k))
def so_al (h : am_H) (k : am_K) : Prop := k.1 < 300 ∧ ∃ n, h.2.2.1 k.1 k.2.1 k.2.2 = some n
def so_okv (h : am_H) (v : am_V) : Prop := ∀ k, v = .inr (.inr k) → ∃ n, h.2.2.1 k.1 k.2.1 k.2.2 = some n
def so_H (dC : Nat → ClassId) (dI : Nat → Nat → Nat) (cA : Nat → ClassId) (A : Nat → Prop) (ad : am_K → Nat) (h : am_H) (H : Heap) : Prop :=
  ∃ L : List am_K, (∀ k, k ∈ L ↔ so_al h k) ∧ va_P (dC, dI) am_cls (so_ws cA ad h L) H ∧ va_D A (so_ws cA ad h L)
    ∧ (∀ k, so_al h k → ∀ s k', h.2.1 k.1 k.2.1 k.2.2 s = some k' → so_al h k')
    ∧ (∀ k, so_al h k → am_rt k.1 = 101 → ∀ s, h.1 k.1 k.2.1 k.2.2 s = 0 ∨ h.1 k.1 k.2.1 k.2.2 s = 1)
def so_X (A : Nat → Prop) (ad : am_K → Nat) (U : State) (h : am_H) (H : Heap) : Prop :=
  ∀ k : am_K, 300 ≤ k.1 → ∀ n, h.2.2.1 k.1 k.2.1 k.2.2 = some n → va_X (ad k) n (h.1 k.1 k.2.1 k.2.2) U H ∧ ad k < H.size ∧ ¬ A (ad k)
theorem so_ws_get {cA : Nat → ClassId} {ad : am_K → Nat} {h : am_H} {L : List am_K} {k : am_K} (hk : k ∈ L) : ∃ q0 : Nat, L[q0]? = some k ∧ (so_ws cA ad h L)[q0]? = some (ad k, so_c cA ad h k) := by
  obtain ⟨q0, hq⟩ := List.getElem?_of_mem hk
  exact ⟨q0, hq, by rw [so_ws, List.getElem?_map, hq]; rfl⟩
theorem so_ws_inj {cA : Nat → ClassId} {A : Nat → Prop} {ad : am_K → Nat} {h : am_H} {L : List am_K} (hD : va_D A (so_ws cA ad h L)) {i j : Nat} {k k' : am_K} (hi : L[i]? = some k) (hj : L[j]? = some k') (he : ad k = ad k') : i = j := by
  refine hD.1 i j (ad k, so_c cA ad h k) (ad k', so_c cA ad h k') ?_ ?_ he
  · rw [so_ws, List.getElem?_map, hi]; rfl
  · rw [so_ws, List.getElem?_map, hj]; rfl
/-- one cell of the world is another -/
theorem so_ws_set {cA : Nat → ClassId} {A : Nat → Prop} {ad : am_K → Nat} {h h' : am_H} {L : List am_K} {q0 : Nat} {k : am_K} {e : va_E} (hD : va_D A (so_ws cA ad h L)) (hq : L[q0]? = some k) (he : so_c cA ad h' k = e) (ho : ∀ k', k' ∈ L → k' ≠ k → so_c cA ad h' k' = so_c cA ad h k') : (so_ws cA ad h L).set q0 (ad k, e) = so_ws cA ad h' L := by
  apply List.ext_getElem?
  intro i
  rw [List.getElem?_set]
  by_cases hi : q0 = i
  · subst hi
    have hl : q0 < L.length := (List.getElem?_eq_some_iff.mp hq).1
    rw [if_pos rfl, if_pos (by rw [so_ws, List.length_map]; exact hl), so_ws, List.getElem?_map, hq, ← he]
    rfl
  · rw [if_neg hi, so_ws, so_ws, List.getElem?_map, List.getElem?_map]
    cases hk' : L[i]? with
    | none => rfl
    | some k' =>
      have hne : k' ≠ k := fun e => hi (so_ws_inj hD hq hk' (by rw [e]))
      show some (ad k', so_c cA ad h k') = some (ad k', so_c cA ad h' k')
      rw [ho k' (List.mem_of_getElem? hk') hne]
theorem so_range_set (n s : Nat) (f g : Nat → Value) (v : Value) (hs : g s = v) (ho : ∀ i, i ≠ s → g i = f i) : ((List.range n).map f).set s v = (List.range n).map g := by
  apply List.ext_getElem?
  intro i
  rw [List.getElem?_set, List.getElem?_map, List.length_map, List.length_range]
  by_cases hi : s = i
  · subst hi
    rw [if_pos rfl]
    by_cases hl : s < n
    · rw [if_pos hl, List.getElem?_map, List.getElem?_range hl]
      show _ = some (g s)
      rw [hs]
    · rw [if_neg hl, List.getElem?_map, List.getElem?_eq_none (by rw [List.length_range]; omega)]
      rfl
  · rw [if_neg hi, List.getElem?_map]
    cases hr : (List.range n)[i]? with
    | none => rfl
    | some j =>
      have : j = i := by
        obtain ⟨h1, h2⟩ := List.getElem?_eq_some_iff.mp hr
        rw [List.getElem_range] at h2
        exact h2.symm
      subst this
      show some _ = some _
      rw [ho j (fun e => hi e.symm)]
theorem am_set_at (I : am_I) (r w j s : Nat) (v : Int32) : am_set I r w j s v r w j = upd (I r w j) s v := by
  funext s'
  simp [am_set, upd]
theorem am_set_off (I : am_I) (r w j s : Nat) (v : Int32) {k : am_K} (h : k ≠ (r, w, j)) : am_set I r w j s v k.1 k.2.1 k.2.2 = I k.1 k.2.1 k.2.2 := by
  funext s'
  obtain ⟨r', w', j'⟩ := k
  simp only [am_set]
  by_cases h1 : r' = r
  · rw [if_pos h1]
    by_cases h2 : w' = w ∧ j' = j ∧ s' = s
    · exact absurd (by rw [h1, h2.1, h2.2.1]) h
    · rw [if_neg h2]
  · rw [if_neg h1]
theorem am_setR_at (R : am_R) (r w j s : Nat) (v : am_K) : am_setR R r w j s v r w j = va_up (R r w j) s (some v) := by
  funext s'
  simp [am_setR, va_up]
theorem am_setR_off (R : am_R) (r w j s : Nat) (v : am_K) {k : am_K} (h : k ≠ (r, w, j)) : am_setR R r w j s v k.1 k.2.1 k.2.2 = R k.1 k.2.1 k.2.2 := by
  funext s'
  obtain ⟨r', w', j'⟩ := k
  simp only [am_setR]
  by_cases h1 : r' = r
  · rw [if_pos h1]
    by_cases h2 : w' = w ∧ j' = j ∧ s' = s
    · exact absurd (by rw [h1, h2.1, h2.2.1]) h
    · rw [if_neg h2]
  · rw [if_neg h1]
