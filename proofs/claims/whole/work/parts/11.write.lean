/-! THE SMALL MACHINE IS SOUND, part 6: stores -/
def so_is3 : Instr → Bool
  | .putfield _ | .iastore | .bastore | .sastore | .aastore => true
  | _ => false
theorem so_map_ad {ad ad' : am_K → Nat} {st : List am_V} (h : ∀ v, v ∈ st → ∀ k, v = .inr (.inr k) → ad' k = ad k) : st.map (so_v ad') = st.map (so_v ad) := by
  apply List.map_congr_left
  intro v hv
  rcases v with v | (v | k)
  · rfl
  · rfl
  · show Value.ref _ = Value.ref _
    rw [h _ hv k rfl]
theorem so_lv_ad {ad ad' : am_K → Nat} : ∀ (ls : am_L) (i : Nat), (∀ v, some v ∈ ls → ∀ k, v = .inr (.inr k) → ad' k = ad k) → so_lv ad' i ls = so_lv ad i ls := by
  intro ls
  induction ls with
  | nil => intro i _; rfl
  | cons x ls ih =>
    intro i h
    have h1 := ih (i + 1) (fun v hv => h v (List.mem_cons_of_mem _ hv))
    cases x with
    | none => exact h1
    | some v =>
      show (i, so_v ad' v) :: so_lv ad' (i + 1) ls = (i, so_v ad v) :: so_lv ad (i + 1) ls
      rw [h1]
      congr 2
      rcases v with v | (v | k)
      · rfl
      · rfl
      · show Value.ref _ = Value.ref _
        rw [h _ List.mem_cons_self k rfl]
theorem so_c_set {cA : Nat → ClassId} {ad : am_K → Nat} {I : am_I} {S : am_S} {r w j sl n a : Nat} {v : Int32} (hr : am_rt r = a) (h1 : 100 ≤ a) (h2 : a < 110) (hn : S.2.1 r w j = some n) : so_c cA ad (am_set I r w j sl v, S) (r, w, j) = .inl (cA a, n, .inl (upd (I r w j) sl v)) := by
  rw [so_c_int (h := (am_set I r w j sl v, S)) (k := (r, w, j)) hr h1 h2 hn]
  show Sum.inl (cA a, n, Sum.inl (am_set I r w j sl v r w j)) = _
  rw [am_set_at]
theorem so_c_setF {cA : Nat → ClassId} {ad : am_K → Nat} {I : am_I} {S : am_S} {r w j b a : Nat} {v : Int32} {q : vw_C} (hr : am_rt r = a) (hq : am_cls[a]? = some q) (hi : so_isI q b = true) : so_c cA ad (am_set I r w j b v, S) (r, w, j) = .inr (a, ((List.range q.2.2).map (so_f ad q (I r w j) (S.1 r w j))).set b (.int v)) := by
  rw [so_c_obj (h := (am_set I r w j b v, S)) (k := (r, w, j)) hr hq]
  show Sum.inr (a, (List.range q.2.2).map (so_f ad q (am_set I r w j b v r w j) (S.1 r w j))) = _
  rw [am_set_at, so_range_set q.2.2 b (so_f ad q (I r w j) (S.1 r w j)) (so_f ad q (upd (I r w j) b v) (S.1 r w j)) (.int v)]
  · unfold so_f
    rw [hi]
    simp [upd]
  · intro i hi
    unfold so_f
    simp [upd, hi]
theorem so_c_setFR {cA : Nat → ClassId} {ad : am_K → Nat} {I : am_I} {Rr : am_R} {S : am_N × Nat × Nat} {r w j b a : Nat} {v : am_K} {q : vw_C} (hr : am_rt r = a) (hq : am_cls[a]? = some q) (hi : so_isI q b = false) : so_c cA ad (I, am_setR Rr r w j b v, S) (r, w, j) = .inr (a, ((List.range q.2.2).map (so_f ad q (I r w j) (Rr r w j))).set b (.ref (ad v))) := by
  rw [so_c_obj (h := (I, am_setR Rr r w j b v, S)) (k := (r, w, j)) hr hq]
  show Sum.inr (a, (List.range q.2.2).map (so_f ad q (I r w j) (am_setR Rr r w j b v r w j))) = _
  rw [am_setR_at, so_range_set q.2.2 b (so_f ad q (I r w j) (Rr r w j)) (so_f ad q (I r w j) (va_up (Rr r w j) b (some v))) (.ref (ad v))]
  · unfold so_f
    rw [hi, va_up_self]
    rfl
  · intro i hi
    unfold so_f
    rw [va_up_ne _ _ hi]
theorem so_c_setA {cA : Nat → ClassId} {ad : am_K → Nat} {I : am_I} {Rr : am_R} {S : am_N × Nat × Nat} {r w j sl n a : Nat} {v : am_K} (hr : am_rt r = a) (h1 : 110 ≤ a) (hn : S.1 r w j = some n) : so_c cA ad (I, am_setR Rr r w j sl v, S) (r, w, j) = .inl (cA a, n, .inr (.inr (.inr (.inr (va_up (fun s => (Rr r w j s).map ad) sl (some (ad v))))))) := by
  rw [so_c_refs (h := (I, am_setR Rr r w j sl v, S)) (k := (r, w, j)) hr h1 hn]
  show Sum.inl (cA a, n, Sum.inr (Sum.inr (Sum.inr (Sum.inr (fun s => (am_setR Rr r w j sl v r w j s).map ad))))) = _
  have e : (fun s => (am_setR Rr r w j sl v r w j s).map ad) = va_up (fun s => (Rr r w j s).map ad) sl (some (ad v)) := by
    rw [am_setR_at]
    funext s'
    unfold va_up
    split <;> rfl
  rw [e]
section so3
variable {p : Program} {l : Launch} {e : Env} {R : Room} {s : State} {m : MethodId} {args : Array Value} {below : List Frame} {meth : Method} {c : Code} {H : Heap} {locs : List Loc} {cells slots : Nat} {Q : State → Prop}
variable {dC : Nat → ClassId} {dI : Nat → Nat → Nat} {cA : Nat → ClassId} {A : Nat → Prop}
/-- a place behind a store: the cells that there are, and their addresses, are the same -/
theorem so_J_set {nL : Nat} {hE : am_H} {ad0 ad : am_K → Nat} {ls : am_L} {st st' : List am_V} {h h' : am_H} {H1 : Heap} {locs1 : List Loc} {lc : Array Slot} (J : so_J dC dI cA A s nL hE ad0 ad h ls st H locs lc cells slots)
    (hH : so_H dC dI cA A ad h' H1) (hN : h'.2.2 = h.2.2) (hI : ∀ k : am_K, 300 ≤ k.1 → h'.1 k.1 k.2.1 k.2.2 = h.1 k.1 k.2.1 k.2.2) (hst : ∀ v, v ∈ st' → v ∈ st) (hS : va_S A s.heap H1 locs1) : so_J dC dI cA A s nL hE ad0 ad h' ls st' H1 locs1 lc cells slots := by
  obtain ⟨-, hX, hlv, hst0, hls, -, hc0, hn0, hex, hst3, hsta⟩ := J
  refine ⟨hH, fun k hk n hn => ?_, hlv, fun v hv => ?_, fun v hv => ?_, hS, by rw [hN]; exact hc0, by rw [hN]; exact hn0, by rw [hN]; exact hex, fun k hk => ⟨(hst3 k hk).1, by rw [hN]; exact (hst3 k hk).2.1, (hI k hk).trans (hst3 k hk).2.2⟩, by rw [hN]; exact hsta⟩
  · rw [hN] at hn
    rw [hI k hk]
    exact hX k hk n hn
  · unfold so_okv
    rw [hN]
    exact hst0 v (hst v hv)
  · unfold so_okv
    rw [hN]
    exact hls v hv
theorem so_write {cc : ByteArray} {nL pc : Nat} {x : am_X} {call : am_C} {own : String} {init : Bool} {hE : am_H} {ad0 ad : am_K → Nat} {ls : am_L} {st : List am_V} {h : am_H} {lc : Array Slot} {k : Nat → am_L → List am_V → am_H → Prop} {q : am_Q}
    (hx : p.tables.exec = Jvm.exec) (hb : c.code = cc) (hown : s.vm.findClass own = some m.cls) (hts : ∀ w ∈ so_G, w.before args s = true) (hini : init = true → meth.name = "<init>") (hEn : so_E dC dI cA A ad0 s)
    (hck : so_ck1 cc nL pc x = true) (hck2 : so_ck2 own init x = true) (h2 : so_is3 x.1 = true) (J : so_J dC dI cA A s nL hE ad0 ad h ls st H locs lc cells slots) (hs : am_step am_rt call x ls st h k q)
    (hk : ∀ pc' st' h' H' locs', k pc' ls st' h' → so_J dC dI cA A s nL hE ad0 ad h' ls st' H' locs' lc cells slots → W p l e R s m args below meth c H' locs' cells slots Q (F0 m pc' lc (st'.map (so_v ad)))) :
    W p l e R s m args below meth c H locs cells slots Q (F0 m pc lc (st.map (so_v ad))) := by
  obtain ⟨ins, nx, im, a, b, c', sw⟩ := x
  obtain ⟨hK, hAO, hNw, hZ⟩ := hEn
  obtain ⟨⟨L, hL, hP, hD, hcl, hbo, hvk⟩, hX, hlv, hst, hls, hS, hc0, hn0, hex, hst3, hsta⟩ := id J
  simp only [so_ck1, Bool.and_eq_true] at hck
  obtain ⟨hd, -⟩ := hck
  -- an int into a cell
  have fin : ∀ (r w j sl : Nat) (v : Int32) (I : am_I) (S : am_S) (st0 : List am_V) (pc' q1 n : Nat), h = (I, S) → r < 300 → S.2.1 r w j = some n → L[q1]? = some (r, w, j) → (am_rt r = 101 → v = 0 ∨ v = 1) → (∀ v, v ∈ st0 → v ∈ st) → k pc' ls st0 (am_set I r w j sl v, S) →
      ∀ (H1 : Heap) (locs1 : List Loc), va_P (dC, dI) am_cls ((so_ws cA ad h L).set q1 (ad (r, w, j), so_c cA ad (am_set I r w j sl v, S) (r, w, j))) H1 → va_D A ((so_ws cA ad h L).set q1 (ad (r, w, j), so_c cA ad (am_set I r w j sl v, S) (r, w, j))) → va_S A s.heap H1 locs1 → W p l e R s m args below meth c H1 locs1 cells slots Q (F0 m pc' lc (st0.map (so_v ad))) := by
    intro r w j sl v I S st0 pc' q1 n hh hr3 hn hq1 hv hst0 hkk H1 locs1 hP1 hD1 hS1
    subst hh
    refine hk pc' st0 _ H1 locs1 hkk (so_J_set J ?_ rfl ?_ hst0 hS1)
    · refine so_H_set (h' := (am_set I r w j sl v, S)) hL hD hvk hq1 rfl (fun k' hne => ⟨am_set_off I r w j sl v hne, rfl⟩) hcl (fun k' hk' h101 s' => ?_) hP1 hD1
      by_cases hne : k' = (r, w, j)
      · subst hne
        show am_set I r w j sl v r w j s' = 0 ∨ am_set I r w j sl v r w j s' = 1
        rw [am_set_at]
        unfold upd
        split
        · exact hv h101
        · exact hbo _ hk' h101 s'
      · show am_set I r w j sl v k'.1 k'.2.1 k'.2.2 s' = 0 ∨ am_set I r w j sl v k'.1 k'.2.1 k'.2.2 s' = 1
        rw [am_set_off I r w j sl v hne]
        exact hbo _ hk' h101 s'
    · intro k' hk'
      exact am_set_off I r w j sl v (fun e9 => by rw [e9] at hk'; exact absurd hk' (Nat.not_le.mpr hr3))
  -- a reference into a cell
  have finR : ∀ (r w j sl : Nat) (v : am_K) (I : am_I) (Rr : am_R) (S : am_N × Nat × Nat) (st0 : List am_V) (pc' q1 n : Nat), h = (I, Rr, S) → r < 300 → S.1 r w j = some n → L[q1]? = some (r, w, j) → so_al h v → (∀ v, v ∈ st0 → v ∈ st) → k pc' ls st0 (I, am_setR Rr r w j sl v, S) →
      ∀ (H1 : Heap) (locs1 : List Loc), va_P (dC, dI) am_cls ((so_ws cA ad h L).set q1 (ad (r, w, j), so_c cA ad (I, am_setR Rr r w j sl v, S) (r, w, j))) H1 → va_D A ((so_ws cA ad h L).set q1 (ad (r, w, j), so_c cA ad (I, am_setR Rr r w j sl v, S) (r, w, j))) → va_S A s.heap H1 locs1 → W p l e R s m args below meth c H1 locs1 cells slots Q (F0 m pc' lc (st0.map (so_v ad))) := by
    intro r w j sl v I Rr S st0 pc' q1 n hh hr3 hn hq1 hv hst0 hkk H1 locs1 hP1 hD1 hS1
    subst hh
    refine hk pc' st0 _ H1 locs1 hkk (so_J_set J ?_ rfl (fun _ _ => rfl) hst0 hS1)
    refine so_H_set (h' := (I, am_setR Rr r w j sl v, S)) hL hD hvk hq1 rfl (fun k' hne => ⟨rfl, am_setR_off Rr r w j sl v hne⟩) (fun k' hk' s' k9 h9 => ?_) hbo hP1 hD1
    by_cases hne : k' = (r, w, j)
    · subst hne
      have h9 : am_setR Rr r w j sl v r w j s' = some k9 := h9
      rw [am_setR_at] at h9
      unfold va_up at h9
      split at h9
      · cases h9; exact hv
      · exact hcl _ hk' s' k9 h9
    · have h9 : am_setR Rr r w j sl v k'.1 k'.2.1 k'.2.2 s' = some k9 := h9
      rw [am_setR_off Rr r w j sl v hne] at h9
      exact hcl _ hk' s' k9 h9
  cases ins <;> try (cases h2; done)
  case iastore =>
    obtain ⟨hd2, hnx⟩ := so_dec hd
    clear hd; subst hnx
    dsimp only [am_step] at hs
    split at hs
    · rename_i v i r w j st0
      obtain ⟨hra, hs⟩ := so_cond hs
      simp only [Bool.and_eq_true] at hra
      have hr3 : r < 300 := Nat.le_of_ble_eq_true hra.2
      have hra := so_beq hra.1
      obtain ⟨I, S⟩ := h
      dsimp only at hs
      split at hs
      · rename_i n hn
        obtain ⟨q1, hq1, hq2⟩ := so_ws_get (cA := cA) (ad := ad) (h := (I, S)) ((hL (r, w, j)).mpr ⟨hr3, n, hn⟩)
        rw [so_c_int (k := (r, w, j)) hra (by decide) (by decide) hn] at hq2
        have hf := fin r w j i.toNatClampNeg v I S st0 _ q1 n rfl hr3 hn hq1 (fun h9 => by omega) (fun v hv => List.mem_cons_of_mem _ (List.mem_cons_of_mem _ (List.mem_cons_of_mem _ hv))) hs.2
        rw [so_c_set hra (by decide) (by decide) hn] at hf
        exact va_iast hx hb hK hP hD hS q1 0 hq2 rfl hs.1 hd2 hf
      · exact hs.elim
    · exact hs.elim
  case sastore =>
    obtain ⟨hd2, hnx⟩ := so_dec hd
    clear hd; subst hnx
    dsimp only [am_step] at hs
    split at hs
    · rename_i v i r w j st0
      obtain ⟨hra, hs⟩ := so_cond hs
      have hra := so_beq hra
      have hr3 : r < 300 := Nat.not_le.mp fun h3 => by rcases so_rt300 h3 with h4 | h4 <;> omega
      obtain ⟨I, S⟩ := h
      dsimp only at hs
      split at hs
      · rename_i n hn
        obtain ⟨q1, hq1, hq2⟩ := so_ws_get (cA := cA) (ad := ad) (h := (I, S)) ((hL (r, w, j)).mpr ⟨hr3, n, hn⟩)
        rw [so_c_int (k := (r, w, j)) hra (by decide) (by decide) hn] at hq2
        have hf := fin r w j i.toNatClampNeg v.toInt16.toInt32 I S st0 _ q1 n rfl hr3 hn hq1 (fun h9 => by omega) (fun v hv => List.mem_cons_of_mem _ (List.mem_cons_of_mem _ (List.mem_cons_of_mem _ hv))) hs.2
        rw [so_c_set hra (by decide) (by decide) hn] at hf
        exact va_sast hx hb hK hP hD hS q1 3 hq2 rfl hs.1 hd2 (by rw [vp_nar_short]; exact hf)
      · exact hs.elim
    · exact hs.elim
  case bastore =>
    obtain ⟨hd2, hnx⟩ := so_dec hd
    clear hd; subst hnx
    dsimp only [am_step] at hs
    split at hs
    · rename_i v i r w j st0
      obtain ⟨I, S⟩ := h
      dsimp only at hs
      split at hs
      · rename_i n hn
        cases h101 : Nat.beq (am_rt r) 101
        · rw [h101] at hs
          obtain ⟨hra, hs⟩ := so_cond hs
          have hra := so_beq hra
          have hr3 : r < 300 := Nat.not_le.mp fun h3 => by rcases so_rt300 h3 with h4 | h4 <;> omega
          obtain ⟨q1, hq1, hq2⟩ := so_ws_get (cA := cA) (ad := ad) (h := (I, S)) ((hL (r, w, j)).mpr ⟨hr3, n, hn⟩)
          rw [so_c_int (k := (r, w, j)) hra (by decide) (by decide) hn] at hq2
          have hf := fin r w j i.toNatClampNeg v.toInt8.toInt32 I S st0 _ q1 n rfl hr3 hn hq1 (fun h9 => by omega) (fun v hv => List.mem_cons_of_mem _ (List.mem_cons_of_mem _ (List.mem_cons_of_mem _ hv))) hs.2
          rw [so_c_set hra (by decide) (by decide) hn] at hf
          exact va_bast hx hb hK hP hD hS q1 2 hq2 rfl hs.1 hd2 (by rw [vp_nar_byte]; exact hf)
        · rw [h101] at hs
          have hra := so_beq h101
          obtain ⟨hin, hv, hs⟩ := hs
          have hr3 : r < 300 := Nat.not_le.mp fun h3 => by rcases so_rt300 h3 with h4 | h4 <;> omega
          obtain ⟨q1, hq1, hq2⟩ := so_ws_get (cA := cA) (ad := ad) (h := (I, S)) ((hL (r, w, j)).mpr ⟨hr3, n, hn⟩)
          rw [so_c_int (k := (r, w, j)) hra (by decide) (by decide) hn] at hq2
          have hf := fin r w j i.toNatClampNeg v I S st0 _ q1 n rfl hr3 hn hq1 (fun h9 => hv) (fun v hv => List.mem_cons_of_mem _ (List.mem_cons_of_mem _ (List.mem_cons_of_mem _ hv))) hs
          rw [so_c_set hra (by decide) (by decide) hn] at hf
          have hnz : vp_nar .boolean v = v := by rcases hv with rfl | rfl <;> rfl
          exact va_zast hx hb hK hP hD hS q1 1 hq2 rfl hin hd2 (by rw [hnz]; exact hf)
      · exact hs.elim
    · exact hs.elim
  case aastore =>
    obtain ⟨hd2, hnx⟩ := so_dec hd
    clear hd; subst hnx
    dsimp only [am_step] at hs
    split at hs
    · rename_i r' w' j' i r w j st0
      obtain ⟨hra, hs⟩ := so_cond hs
      simp only [Bool.and_eq_true] at hra
      have hr3' : r' < 300 := Nat.le_of_ble_eq_true hra.2
      have hra := so_beq hra.1
      obtain ⟨n', hn'⟩ := hst _ List.mem_cons_self (r', w', j') rfl
      have hal' : so_al h (r', w', j') := ⟨hr3', n', hn'⟩
      have hvk' := hvk _ hal'
      have h12 : am_rt r' < 118 := by
        have hvk' : so_vk (am_rt r') = true := hvk'
        simp only [so_vk, List.contains_eq_mem, decide_eq_true_eq, List.mem_cons, List.not_mem_nil, or_false] at hvk'
        omega
      have hr3 : r < 300 := Nat.not_le.mp fun h3 => by rcases so_rt300 h3 with h4 | h4 <;> omega
      obtain ⟨I, Rr, N, S⟩ := h
      dsimp only at hs
      split at hs
      · rename_i n hn
        have hal : so_al (I, Rr, N, S) (r, w, j) := ⟨hr3, n, hn⟩
        obtain ⟨q1, hq1, hq2⟩ := so_ws_get (cA := cA) (ad := ad) (h := (I, Rr, N, S)) ((hL (r, w, j)).mpr hal)
        obtain ⟨q3, hq3, hq4⟩ := so_ws_get (cA := cA) (ad := ad) (h := (I, Rr, N, S)) ((hL (r', w', j')).mpr hal')
        obtain ⟨t0, ci, q0, ht0, hc0', hci⟩ := so_vk_ref (cA := cA) (k := am_rt r) (hvk _ hal) (by omega)
        have hrt' : am_rt r' = ci := by omega
        rw [so_c_refs (k := (r, w, j)) rfl (by show 110 ≤ am_rt r; omega) hn] at hq2
        rw [so_c_obj (k := (r', w', j')) hrt' hc0'] at hq4
        have hf := finR r w j i.toNatClampNeg (r', w', j') I Rr (N, S) st0 _ q1 n rfl hr3 hn hq1 hal' (fun v hv => List.mem_cons_of_mem _ (List.mem_cons_of_mem _ (List.mem_cons_of_mem _ hv))) hs.2
        rw [so_c_setA (a := am_rt r) rfl (by omega) hn] at hf
        exact va_astq hx hb hK hP hD hS q1 t0 q3 ci hq2 ht0 hq4 hc0' hs.1 hd2 hf
      · exact hs.elim
    · exact hs.elim
  case putfield i =>
    obtain ⟨hd2, hnx⟩ := so_dec hd
    clear hd; subst hnx
    dsimp only [am_step] at hs
    dsimp only [so_ck2] at hck2
    split at hck2
    · rename_i q0 i0 p1 hq0
      simp only [Bool.and_eq_true, decide_eq_true_eq] at hck2
      obtain ⟨⟨⟨hbN, hlk⟩, hfi⟩, hty⟩ := hck2
      have ha12 : a < 12 := (List.getElem?_eq_some_iff.mp hq0).1
      obtain ⟨hin, ty0, hty0, hnm⟩ := so_cls a q0 hq0
      -- the store, final or not
      have put : ∀ (r w j : Nat) (v : Value) (rest : List Value) (q1 : Nat) (fs : List Value) (ty : FieldType), (so_ws cA ad h L)[q1]? = some (ad (r, w, j), .inr (a, fs)) → fs.length = q0.2.2 → parseFieldDescriptor (q0.2.1 b).2.2.1 = some ty → narrow ty v = v → fits ty v = true →
          (∀ (H1 : Heap) (locs1 : List Loc), va_P (dC, dI) am_cls ((so_ws cA ad h L).set q1 (ad (r, w, j), .inr (a, fs.set b v))) H1 → va_D A ((so_ws cA ad h L).set q1 (ad (r, w, j), .inr (a, fs.set b v))) → va_S A s.heap H1 locs1 → W p l e R s m args below meth c H1 locs1 cells slots Q (F0 m (pc + 3) lc rest)) → W p l e R s m args below meth c H locs cells slots Q (F0 m pc lc (v :: .ref (ad (r, w, j)) :: rest)) := by
        intro r w j v rest q1 fs ty hq2 hfl hp hnar hfit kk
        cases hfin : (q0.2.1 b).2.2.2
        · exact va_put hx hb hts hin ty0 hty0 hnm hown hK hP hD hS q1 hq2 hq0 b hbN (hts _ (so_wd_in hlk)) (fun x hx => hx) hfin hp hnar hfit (by rw [hfl]; exact hbN) hd2 kk
        · rw [hfin] at hfi
          simp only [Bool.not_true, Bool.false_or, Bool.and_eq_true, decide_eq_true_eq] at hfi
          exact va_putF hx hb hts hin ty0 hty0 hnm hown hK hP hD hS q1 hq2 hq0 b hbN (hts _ (so_wd_in hlk)) (fun x hx => hx) hfin (hini hfi.1) hfi.2 hp hnar hfit (by rw [hfl]; exact hbN) hd2 kk
      split at hs
      · rename_i v r w j st0
        obtain ⟨hra, hs⟩ := so_cond hs
        have hra := so_beq hra
        have hr3 : r < 300 := Nat.not_le.mp fun h3 => by rcases so_rt300 h3 with h4 | h4 <;> omega
        obtain ⟨n, hn⟩ := hst _ (List.mem_cons_of_mem _ List.mem_cons_self) (r, w, j) rfl
        obtain ⟨q1, hq1, hq2⟩ := so_ws_get (cA := cA) (ad := ad) (h := h) ((hL (r, w, j)).mpr ⟨hr3, n, hn⟩)
        rw [so_c_obj (k := (r, w, j)) hra hq0] at hq2
        obtain ⟨I, S⟩ := h
        dsimp only at hs
        have fl : ((List.range q0.2.2).map (so_f ad q0 (I r w j) (S.1 r w j))).length = q0.2.2 := by rw [List.length_map, List.length_range]
        split at hs
        · simp only [Bool.and_eq_true, decide_eq_true_eq] at hty
          have hf := fin r w j b v I S st0 _ q1 n rfl hr3 hn hq1 (fun h9 => by omega) (fun v hv => List.mem_cons_of_mem _ (List.mem_cons_of_mem _ hv)) hs
          rw [so_c_setF hra hq0 hty.2] at hf
          exact put r w j (.int v) _ q1 _ .int hq2 fl hty.1 rfl rfl hf
        · simp only [Bool.and_eq_true, decide_eq_true_eq] at hty
          have hf := fin r w j b v I S st0 _ q1 n rfl hr3 hn hq1 (fun h9 => by omega) (fun v hv => List.mem_cons_of_mem _ (List.mem_cons_of_mem _ hv)) hs.2
          rw [so_c_setF hra hq0 hty.2] at hf
          exact put r w j (.int v) _ q1 _ .boolean hq2 fl hty.1 (by rcases hs.1 with h9 | h9 <;> rw [h9] <;> rfl) (by rcases hs.1 with h9 | h9 <;> rw [h9] <;> rfl) hf
        · exact hs.elim
      · rename_i v r w j st0
        obtain ⟨hra, hs2⟩ := so_cond hs
        clear hs
        have hs := hs2
        clear hs2
        simp only [Bool.and_eq_true] at hra
        have hv3 : v.1 < 300 := Nat.le_of_ble_eq_true hra.2.2
        have hc2 := so_beq hra.2.1
        have hra9 := so_beq hra.1
        clear hra
        subst hc2
        have hra := hra9
        have hr3 : r < 300 := Nat.not_le.mp fun h3 => by rcases so_rt300 h3 with h4 | h4 <;> omega
        obtain ⟨n, hn⟩ := hst _ (List.mem_cons_of_mem _ List.mem_cons_self) (r, w, j) rfl
        obtain ⟨nv, hnv⟩ := hst _ List.mem_cons_self v rfl
        obtain ⟨q1, hq1, hq2⟩ := so_ws_get (cA := cA) (ad := ad) (h := h) ((hL (r, w, j)).mpr ⟨hr3, n, hn⟩)
        rw [so_c_obj (k := (r, w, j)) hra hq0] at hq2
        obtain ⟨I, Rr, S⟩ := h
        dsimp only at hs
        have fl : ((List.range q0.2.2).map (so_f ad q0 (I r w j) (Rr r w j))).length = q0.2.2 := by rw [List.length_map, List.length_range]
        simp only [Bool.and_eq_true, Bool.not_eq_true'] at hty
        have hf := finR r w j b v I Rr S st0 _ q1 n rfl hr3 hn hq1 ⟨hv3, nv, hnv⟩ (fun v hv => List.mem_cons_of_mem _ (List.mem_cons_of_mem _ hv)) hs
        rw [so_c_setFR hra hq0 hty.2] at hf
        have hty1 := hty.1
        split at hty1
        · rename_i c9 hp; exact put r w j (.ref (ad v)) _ q1 _ _ hq2 fl hp rfl rfl hf
        · rename_i c9 hp; exact put r w j (.ref (ad v)) _ q1 _ _ hq2 fl hp rfl rfl hf
        · cases hty1
      · exact hs.elim
    · cases hck2
end so3
