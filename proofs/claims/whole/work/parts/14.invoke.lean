/-! THE SMALL MACHINE IS SOUND, part 9: the calls themselves -/
section so6
variable {p : Program} {l : Launch} {e : Env} {R : Room} {s : State} {m : MethodId} {args : Array Value} {below : List Frame} {meth : Method} {c : Code} {H : Heap} {locs : List Loc} {cells slots : Nat} {Q : State → Prop}
variable {dC : Nat → ClassId} {dI : Nat → Nat → Nat} {cA : Nat → ClassId} {A : Nat → Prop}
theorem so_after {nL pc : Nat} {hE : am_H} {ad0 ad : am_K → Nat} {ls : am_L} {st st' : List am_V} {h h1 : am_H} {lc : Array Slot} {k : Nat → am_L → List am_V → am_H → Prop} {v : Option am_V} {a9 : Array Value} {stk : List Value}
    (hr : va_Run p l e R s m args below meth c H locs cells slots (h1.2.2.2.1 - h.2.2.2.1) (h1.2.2.2.2 - h.2.2.2.2) (F0 m pc lc stk) (st'.map (so_v ad)) (so_Qc dC dI cA A ad h v h1 a9) A)
    (J : so_J dC dI cA A s nL hE ad0 ad h ls st H locs lc cells slots) (hle : am_le h h1) (hst' : ∀ u, u ∈ st' → u ∈ st) (hkk : k (pc + 3) ls (v.toList ++ st') h1)
    (hk : ∀ pc' st' ad' h' H' locs' cells' slots', k pc' ls st' h' → so_J dC dI cA A s nL hE ad0 ad' h' ls st' H' locs' lc cells' slots' → W p l e R s m args below meth c H' locs' cells' slots' Q (F0 m pc' lc (st'.map (so_v ad')))) :
    W p l e R s m args below meth c H locs cells slots Q (F0 m pc lc stk) := by
  obtain ⟨-, -, -, hst0, -, hS, -⟩ := id J
  have hmap : ∀ ad', so_ex h h1 ad ad' → st'.map (so_v ad') = st'.map (so_v ad) := fun ad' hex => so_map_ad (fun u hu k9 hk9 => by
    obtain ⟨n1, h9⟩ := hst0 u (hst' u hu) k9 hk9
    exact (hex.1 k9 n1 h9).1)
  rcases v with _ | (x | (x | r))
  · refine va_callv (a := a9) hr hS (fun q _ h => h) (fun q h => h) (fun ad' t H1 locs1 ht hvm hex hB hz hk1 hS1 => ?_)
    have hB : so_H dC dI cA A ad' h1 H1 := by rw [← ht]; exact hB
    have h9 := hk _ _ ad' _ H1 locs1 _ _ hkk (so_J_call (st' := st') J hex hle hB (fun u hu => Or.inl (hst0 u (hst' u hu))) hS1)
    rw [show (none : Option am_V).toList ++ st' = st' from rfl, hmap ad' hex] at h9
    exact h9
  · refine va_calli (a := a9) hr hS (fun q _ h => h) (fun q h => h) (fun r9 ad' t H1 locs1 ht hvm hp hB hz hk1 hS1 => ?_)
    obtain ⟨rfl, hex⟩ := hp
    have hB : so_H dC dI cA A ad' h1 H1 := by rw [← ht]; exact hB
    have h9 := hk _ _ ad' _ H1 locs1 _ _ hkk (so_J_call (st' := .inl r9 :: st') J hex hle hB (fun u hu => by
      rcases List.mem_cons.mp hu with rfl | hu
      · exact Or.inl (fun k hk => by cases hk)
      · exact Or.inl (hst0 u (hst' u hu))) hS1)
    rw [show (some (Sum.inl r9) : Option am_V).toList ++ st' = .inl r9 :: st' from rfl, List.map_cons, hmap ad' hex] at h9
    exact h9
  · intro T hT X
    obtain ⟨v9, st₀, t, T', L, h0, X', hL, e1, e2, hq, st9⟩ := hr T hT X
    exact hq.elim
  · refine va_callr (a := a9) hr hS (fun q _ h => h) (fun q h => h) (fun ad' ra t H1 locs1 ht hvm hp hB hz hk1 hS1 => ?_)
    obtain ⟨hex, hal⟩ := hp
    obtain ⟨rfl, hB⟩ := hB
    have hB : so_H dC dI cA A ad' h1 H1 := by rw [← ht]; exact hB
    have h9 := hk _ _ ad' _ H1 locs1 _ _ hkk (so_J_call (st' := .inr (.inr r) :: st') J hex hle hB (fun u hu => by
      rcases List.mem_cons.mp hu with rfl | hu
      · exact Or.inr (fun k hk => by cases hk; exact hal)
      · exact Or.inl (hst0 u (hst' u hu))) hS1)
    rw [show (some (Sum.inr (Sum.inr r)) : Option am_V).toList ++ st' = .inr (.inr r) :: st' from rfl, List.map_cons, hmap ad' hex] at h9
    exact h9
theorem so_J_st {nL : Nat} {hE : am_H} {ad0 ad : am_K → Nat} {ls : am_L} {st st' : List am_V} {h : am_H} {lc : Array Slot} (J : so_J dC dI cA A s nL hE ad0 ad h ls st H locs lc cells slots) (hst : ∀ v, v ∈ st' → v ∈ st) : so_J dC dI cA A s nL hE ad0 ad h ls st' H locs lc cells slots := by
  obtain ⟨h1, h2, h3, h4, h5⟩ := J
  exact ⟨h1, h2, h3, fun v hv => h4 v (hst v hv), h5⟩
theorem am_cpy_at (I : am_I) (r w j : Nat) (g : Nat → Int32) (sp dp n : Nat) : am_cpy I r w j g sp dp n r w j = va_cpy g (I r w j) sp dp n := by
  funext s'; simp [am_cpy]
theorem am_cpy_off (I : am_I) (r w j : Nat) (g : Nat → Int32) (sp dp n : Nat) {k : am_K} (h : k ≠ (r, w, j)) : am_cpy I r w j g sp dp n k.1 k.2.1 k.2.2 = I k.1 k.2.1 k.2.2 := by
  funext s'
  obtain ⟨r', w', j'⟩ := k
  simp only [am_cpy]
  by_cases h1 : r' = r
  · rw [if_pos h1]
    by_cases h2 : w' = w ∧ j' = j
    · exact absurd (by rw [h1, h2.1, h2.2]) h
    · rw [if_neg h2]
  · rw [if_neg h1]
theorem am_fill_at (I : am_I) (r w j : Nat) (g : Nat → Int32) : am_fill I r w j g r w j = g := by
  funext s'; simp [am_fill]
theorem am_fill_off (I : am_I) (r w j : Nat) (g : Nat → Int32) {k : am_K} (h : k ≠ (r, w, j)) : am_fill I r w j g k.1 k.2.1 k.2.2 = I k.1 k.2.1 k.2.2 := by
  funext s'
  obtain ⟨r', w', j'⟩ := k
  simp only [am_fill]
  by_cases h1 : r' = r
  · rw [if_pos h1]
    by_cases h2 : w' = w ∧ j' = j
    · exact absurd (by rw [h1, h2.1, h2.2]) h
    · rw [if_neg h2]
  · rw [if_neg h1]
def so_is5 : Instr → Bool
  | .invokespecial _ | .invokevirtual _ | .invokestatic _ => true
  | _ => false
theorem so_invoke {d : Nat} (hIH : ∀ y as h v h1, am_call am_rt am_P d y as h (fun v1 h2 => v1 = v ∧ h2 = h1) → so_Met l d y as h v h1)
    {cc : ByteArray} {nL pc : Nat} {x : am_X} {own : String} {hE : am_H} {ad0 ad : am_K → Nat} {ls : am_L} {st : List am_V} {h : am_H} {lc : Array Slot} {k : Nat → am_L → List am_V → am_H → Prop} {q : am_Q} {nm0 : MethodName} {bs0 : ByteArray} {mL0 : Nat} {ret0 : Option FieldType}
    (hx : p.tables.exec = Jvm.exec) (hb : c.code = cc) (hml : c.maxLocals = nL) (hown : s.vm.findClass own = some m.cls) (hts : ∀ w ∈ (Cond.code nm0 bs0 mL0 ret0 :: so_G), w.before args s = true) (hA : ∀ q, s.heap.size ≤ q → A q) (hEn : so_E dC dI cA A ad0 s)
    (hRf : d + 1 ≤ R.frames) (hRl : (d + 1) * 64 ≤ R.locals)
    (hck : so_ck1 cc nL pc x = true) (hck3 : so_ck3 own x = true) (h2 : so_is5 x.1 = true) (J : so_J dC dI cA A s nL hE ad0 ad h ls st H locs lc cells slots) (hs : am_step am_rt (am_call am_rt am_P d) x ls st h k q)
    (hroom : ∀ pc' ls' st' h', k pc' ls' st' h' → h'.2.2.2.1 ≤ hE.2.2.2.1 + R.cells ∧ h'.2.2.2.2 ≤ hE.2.2.2.2 + R.slots)
    (hk : ∀ pc' st' ad' h' H' locs' cells' slots', k pc' ls st' h' → so_J dC dI cA A s nL hE ad0 ad' h' ls st' H' locs' lc cells' slots' → W p l e R s m args below meth c H' locs' cells' slots' Q (F0 m pc' lc (st'.map (so_v ad')))) :
    W p l e R s m args below meth c H locs cells slots Q (F0 m pc lc (st.map (so_v ad))) := by
  obtain ⟨ins, nx, im, a, b, c', sw⟩ := x
  obtain ⟨⟨L, hL, hP, hD, hcl, hbo, hvk⟩, hX, hlv, hst, hls, hS, hc0, hn0, hex, hst3, hsta⟩ := id J
  have hts' : ∀ w ∈ so_G, w.before args s = true := fun w hw => hts w (List.mem_cons_of_mem _ hw)
  simp only [so_ck1, Bool.and_eq_true] at hck
  obtain ⟨hd, -⟩ := hck
  -- what a call of the table gives
  have got : ∀ (as : List am_V) (st' : List am_V) (q' : am_Q), am_call am_rt am_P d a as h q' → (∀ u, u ∈ as → u ∈ st) → ∃ v h1, q' v h1 ∧ am_le h h1 ∧ so_Met l d a as h v h1 ∧ (∀ u, u ∈ as → so_okv h u) := fun as st' q' hc has => by
    obtain ⟨v, h1, ⟨hq, hle⟩, hcall⟩ := am_call_one (am_call_grows am_rt am_P d a as h _ hc)
    exact ⟨v, h1, hq, hle, hIH _ _ _ _ _ hcall, fun u hu => hst u (has u hu)⟩
  have room : ∀ h1, am_le h h1 → (∃ pc' ls' st', k pc' ls' st' h1) → cells + (h1.2.2.2.1 - h.2.2.2.1) ≤ R.cells ∧ slots + (h1.2.2.2.2 - h.2.2.2.2) ≤ R.slots := fun h1 hle hkk => by
    obtain ⟨pc', ls', st', hkk⟩ := hkk
    have := hroom _ _ _ _ hkk
    have h5 := hle.1
    have h6 := hle.2
    omega
  cases ins <;> try (cases h2; done)
  case invokespecial i =>
    obtain ⟨hd2, hnx⟩ := so_dec hd
    clear hd; subst hnx
    dsimp only [am_step] at hs
    dsimp only [so_ck3] at hck3
    cases h99 : Nat.beq a 9999 <;> rw [h99] at hs hck3 <;> dsimp only [cond] at hs hck3
    · split at hck3
      · rename_i nm bs mL ret np ini z p1 z2 p2 z3 p3 z4 p4 hmi
        simp only [Bool.and_eq_true, decide_eq_true_eq, so_nmok] at hck3
        obtain ⟨⟨⟨⟨⟨⟨⟨hw1, hw2⟩, hw3⟩, hw4⟩, hbn⟩, hini⟩, hret⟩, ⟨⟨hn1, hn2⟩, hn3⟩, hn4⟩ := hck3
        obtain ⟨ps, st', hps, hpl, hs⟩ := so_pop _ _ _ _ hs
        obtain ⟨hcat, hs⟩ := so_cond hs
        rw [List.append_nil] at hs hcat
        simp only [Bool.and_eq_true] at hcat
        obtain ⟨hcat, hrf⟩ := hcat
        have hcat : am_cat st' ≤ 8 := Nat.le_of_ble_eq_true hcat
        obtain ⟨v, h1, hq, hle, hM, hok⟩ := got ps.reverse st' _ hs (fun u hu => by rw [hps]; exact List.mem_append_left _ (List.mem_reverse.mp hu))
        cases v with
        | some v => exact hq.elim
        | none =>
          subst hret
          have hM := hM nm bs mL none np ini hmi dC dI cA A ad hok hsta
          -- the receiver and the rest
          cases hrev : ps.reverse with
          | nil =>
            have : ps.length = 0 := by rw [← List.length_reverse, hrev]; rfl
            omega
          | cons r0 As =>
            rw [hrev] at hM hok hrf
            have hAs : As.length = np := by
              have : ps.reverse.length = np + 1 := by rw [List.length_reverse, hpl, hbn]
              rw [hrev] at this
              exact Nat.succ.inj this
            have hst9 : st.map (so_v ad) = (As.map (so_v ad)).reverse ++ so_v ad r0 :: st'.map (so_v ad) := by
              rw [hps, ← List.reverse_reverse ps, hrev, List.reverse_cons, List.append_assoc, List.map_append, List.map_reverse]
              rfl
            have hWc : 2 * (F0 m pc lc (st.map (so_v ad))).monitorRoom + ((st'.map (so_v ad)).map fun v => v.category).sum ≤ 8 := lv_room (by rw [so_cat]; exact hcat)
            have hR2 : (so_room d (h1.2.2.2.1 - h.2.2.2.1) (h1.2.2.2.2 - h.2.2.2.2)).frames + 1 ≤ R.frames ∧ 8 + (mL + 11) + (so_room d (h1.2.2.2.1 - h.2.2.2.1) (h1.2.2.2.2 - h.2.2.2.2)).locals ≤ R.locals := by
              show d + 1 ≤ R.frames ∧ 8 + (mL + 11) + d * 64 ≤ R.locals
              omega
            -- only a reference can be made: its address
            rcases r0 with r0 | (r0 | r0)
            · cases hrf
            · cases hrf
            · have hpre := so_pre hEn hA J (.inr (.inr r0) :: As)
              cases hz : decide (z = (1 : Int32)) <;> rw [hz] at hw1 <;> dsimp only [cond] at hw1
              · exact so_after (va_runI (As := As.map (so_v ad)) (rest := st'.map (so_v ad)) (b := ad r0) ⟨hx, hb, hml, hown, hts⟩ hM (cwI np hts (so_goodIn (so_wd_in hw4)) rfl rfl rfl (hts' _ (so_wd_in hw3)) (hts' _ (so_wd_in hw1)) (hts' _ (so_wd_in hw2)) hini ⟨hn1, hn2, hn3⟩ hR2) ⟨so_blind _ _ _ _ _ _ _, hpre⟩ rfl (by rw [List.length_map]; exact hAs) (by exact hlv.1) hst9 hWc hd2 (room h1 hle ⟨_, _, _, hq⟩)) J hle (fun u hu => by rw [hps]; exact List.mem_append_right _ hu) hq hk
              · have hw1 : Cond.methodLinkNest own i nm "CrowdOut" ∈ lw_tbl := List.mem_of_getElem? (of_decide_eq_true hw1)
                exact so_after (va_runIN (As := As.map (so_v ad)) (rest := st'.map (so_v ad)) (b := ad r0) ⟨hx, hb, hml, hown, hts⟩ hM ⟨va_cnB np hts (so_goodIn (so_wd_in hw4)) rfl rfl rfl (hEn.2.2.1.1 _ _ _ _ hw1) (hts' _ (so_wd_in hw3)) ⟨hn1, hn2, hn3⟩ hR2, hini, hts' _ (so_wd_in hw2)⟩ ⟨so_blind _ _ _ _ _ _ _, hpre⟩ rfl (by rw [List.length_map]; exact hAs) (by exact hlv.1) hst9 hWc hd2 (room h1 hle ⟨_, _, _, hq⟩)) J hle (fun u hu => by rw [hps]; exact List.mem_append_right _ hu) hq hk
      · cases hck3
    · split at hck3
      · simp only [Bool.and_eq_true] at hck3
        split at hs
        · rename_i r0 st0
          obtain ⟨hcat, hs⟩ := so_cond hs
          have hcat : am_cat st0 ≤ 8 := Nat.le_of_ble_eq_true hcat
          refine W.objInit hx hb hown (hts' _ (so_wd_in hck3.1.1)) (hts' _ (so_wd_in hck3.1.2)) (hts' _ (so_wd_in hck3.2)) rfl (by rw [hml]; exact hlv.1) rfl hd2 (by omega) ?_ (hk _ _ _ _ _ _ _ _ hs (so_J_st J (fun v hv => List.mem_cons_of_mem _ hv)))
          have h9 : 2 * (F0 m pc lc ((Sum.inr (Sum.inr r0) :: st0).map (so_v ad))).monitorRoom + ((st0.map (so_v ad)).map fun v => v.category).sum ≤ 8 := lv_room (by rw [so_cat]; exact hcat)
          omega
        · exact hs.elim
      · cases hck3
  case invokevirtual i =>
    obtain ⟨hd2, hnx⟩ := so_dec hd
    clear hd; subst hnx
    dsimp only [am_step] at hs
    dsimp only [so_ck3] at hck3
    cases h99 : Nat.beq a 9998 <;> rw [h99] at hs hck3 <;> dsimp only [cond] at hs hck3
    · split at hck3
      · rename_i nm bs mL ret np ini q0 z p1 z2 p2 z3 p3 z4 p4 z5 p5 hmi hq0
        simp only [Bool.and_eq_true, decide_eq_true_eq, so_nmok] at hck3
        obtain ⟨⟨⟨⟨⟨⟨⟨hw1, hw2⟩, hw3⟩, hw4⟩, hw5⟩, hbn⟩, hqc⟩, ⟨⟨hn1, hn2⟩, hn3⟩, hn4⟩ := hck3
        obtain ⟨ps, st', hps, hpl, hs⟩ := so_pop _ _ _ _ hs
        obtain ⟨hcat, hs⟩ := so_cond hs
        rw [List.append_nil] at hs hcat
        simp only [Bool.and_eq_true] at hcat
        obtain ⟨hcat, hrc⟩ := hcat
        have hcat : am_cat st' ≤ 8 := Nat.le_of_ble_eq_true hcat
        obtain ⟨v, h1, hq, hle, hM, hok⟩ := got ps.reverse st' _ hs (fun u hu => by rw [hps]; exact List.mem_append_left _ (List.mem_reverse.mp hu))
        have hM := hM nm bs mL ret np ini hmi dC dI cA A ad hok hsta
        have hkk : k (pc + 3) ls (v.toList ++ st') h1 := by
          split at hq
          · exact hq
          · exact hq
          · exact hq.elim
        cases hrev : ps.reverse with
        | nil =>
          have : ps.length = 0 := by rw [← List.length_reverse, hrev]; rfl
          omega
        | cons r0 As =>
          rw [hrev] at hM hok hrc
          have hAs : As.length = np := by
            have : ps.reverse.length = np + 1 := by rw [List.length_reverse, hpl, hbn]
            rw [hrev] at this
            exact Nat.succ.inj this
          have hst9 : st.map (so_v ad) = (As.map (so_v ad)).reverse ++ so_v ad r0 :: st'.map (so_v ad) := by
            rw [hps, ← List.reverse_reverse ps, hrev, List.reverse_cons, List.append_assoc, List.map_append, List.map_reverse]
            rfl
          have hWc : 2 * (F0 m pc lc (st.map (so_v ad))).monitorRoom + ((st'.map (so_v ad)).map fun v => v.category).sum ≤ 8 := lv_room (by rw [so_cat]; exact hcat)
          have hR2 : (so_room d (h1.2.2.2.1 - h.2.2.2.1) (h1.2.2.2.2 - h.2.2.2.2)).frames + 1 ≤ R.frames ∧ 8 + (mL + 11) + (so_room d (h1.2.2.2.1 - h.2.2.2.1) (h1.2.2.2.2 - h.2.2.2.2)).locals ≤ R.locals := by
            show d + 1 ≤ R.frames ∧ 8 + (mL + 11) + d * 64 ≤ R.locals
            omega
          rcases r0 with r0 | (r0 | ⟨r, w, j⟩)
          · cases hrc
          · cases hrc
          · have hrt : am_rt r = a / 100 := so_beq hrc
            have ha12 : a / 100 < 12 := (List.getElem?_eq_some_iff.mp hq0).1
            have hr3 : r < 300 := Nat.not_le.mp fun h3 => by rcases so_rt300 h3 with h4 | h4 <;> omega
            obtain ⟨n, hn⟩ := hok _ List.mem_cons_self (r, w, j) rfl
            obtain ⟨q1, hq1, hq2⟩ := so_ws_get (cA := cA) (ad := ad) (h := h) ((hL (r, w, j)).mpr ⟨hr3, n, hn⟩)
            rw [so_c_obj (k := (r, w, j)) hrt hq0] at hq2
            have hpre := so_pre hEn hA J (.inr (.inr (r, w, j)) :: As)
            have hrcv := va_recv hEn.1 hP hq0 hq2
            rw [hqc] at hrcv
            exact so_after (va_runV (C := nm.cls) (As := As.map (so_v ad)) (rest := st'.map (so_v ad)) (b := ad (r, w, j)) ⟨hx, hb, hml, hown, hts⟩ hM ⟨callB_of np hts (so_goodIn (so_wd_in hw5)) rfl rfl rfl (hts' _ (so_wd_in hw4)) (hts' _ (so_wd_in hw1)) ⟨hn1, hn2, hn3⟩ hR2, hts' _ (so_wd_in hw2), hts' _ (so_wd_in hw3)⟩ ⟨so_blind _ _ _ _ _ _ _, hrcv, hpre⟩ rfl (by rw [List.length_map]; exact hAs) (by exact hlv.1) hst9 hWc hd2 (room h1 hle ⟨_, _, _, hkk⟩)) J hle (fun u hu => by rw [hps]; exact List.mem_append_right _ hu) hkk hk
      · cases hck3
    · split at hck3
      · rename_i z p1 z2 p2 z3 p3 z4 p4 z5 p5
        simp only [Bool.and_eq_true] at hck3
        obtain ⟨⟨⟨⟨hw1, hw2⟩, hw3⟩, hw4⟩, hw5⟩ := hck3
        split at hs
        · rename_i r w j st0
          obtain ⟨hra, hs⟩ := so_cond hs
          simp only [Bool.and_eq_true] at hra
          have hr3 : r < 300 := Nat.le_of_ble_eq_true hra.2.1
          have hcat : am_cat st0 ≤ 8 := Nat.le_of_ble_eq_true hra.2.2
          have hra := so_beq hra.1
          obtain ⟨r', w', j', n, ⟨hra', hr3'⟩, hs⟩ := hs
          obtain ⟨I, Rr, N, cc9, nn9⟩ := h
          dsimp only at hs
          obtain ⟨hn, hno, hs⟩ := hs
          have hal : so_al (I, Rr, N, cc9, nn9) (r, w, j) := ⟨hr3, n, hn⟩
          obtain ⟨q1, hq1, hq2⟩ := so_ws_get (cA := cA) (ad := ad) (h := (I, Rr, N, cc9, nn9)) ((hL (r, w, j)).mpr hal)
          rw [so_c_int (k := (r, w, j)) hra (by decide) (by decide) hn] at hq2
          have hro := hroom _ _ _ _ hs
          have hro1 : cc9 + 1 ≤ hE.2.2.2.1 + R.cells := hro.1
          have hro2 : nn9 + n ≤ hE.2.2.2.2 + R.slots := hro.2
          have hc0 : cc9 = hE.2.2.2.1 + cells := hc0
          have hn0 : nn9 = hE.2.2.2.2 + slots := hn0
          refine va_clone (ad := "[I") (x := (n, .inl (I r w j))) (ty := .int) hx hb (by rw [hml]; exact hlv.1.symm) hown (hts' _ (so_wd_in hw1)) (hts' _ (so_wd_in hw2)) (hts' _ (so_wd_in hw3)) (hts' _ (so_wd_in hw4)) (hts' _ (so_wd_in hw5)) hEn.2.2.1.2.2 hEn.1 hP hD hS hA q1 0 hq2 rfl ((hEn.1.2 0 _ rfl).2) (fun i9 v9 hv9 => ?_) (by omega) (by rw [so_cat]; omega) (by omega) (by show slots + n ≤ _; omega) hd2 (fun q9 H1 hK1 hP1 hD1 hS1 => ?_)
          · have h9 : (arrV (cA 100) n (fun j9 => Value.int (I r w j j9))).slots[i9]? = some v9 := hv9
            have hlt : i9 < n := by
              have := (Array.getElem?_eq_some_iff.mp h9).1
              rw [arrV_size] at this
              exact this
            rw [arrV_read _ _ hlt] at h9
            cases h9
            rfl
          · have ho : ∀ k' : am_K, k' ≠ (r', w', j') → (am_fill (am_newI I r' w' j') r' w' j' (I r w j)) k'.1 k'.2.1 k'.2.2 = I k'.1 k'.2.1 k'.2.2 ∧ (am_newR Rr r' w' j') k'.1 k'.2.1 k'.2.2 = Rr k'.1 k'.2.1 k'.2.2 ∧ (am_newN N r' w' j' n) k'.1 k'.2.1 k'.2.2 = N k'.1 k'.2.1 k'.2.2 :=
              fun k' hne => ⟨(am_fill_off _ r' w' j' _ hne).trans (am_newI_off I r' w' j' hne), am_newR_off Rr r' w' j' hne, am_newN_off N r' w' j' n hne⟩
            have he : so_c cA (so_ext ad (r', w', j') q9) (am_fill (am_newI I r' w' j') r' w' j' (I r w j), am_newR Rr r' w' j', am_newN N r' w' j' n, cc9 + 1, nn9 + n) (r', w', j') = .inl (cA 100, n, .inl (I r w j)) := by
              rw [so_c_int (h := (am_fill (am_newI I r' w' j') r' w' j' (I r w j), am_newR Rr r' w' j', am_newN N r' w' j' n, cc9 + 1, nn9 + n)) (k := (r', w', j')) hra' (by decide) (by decide) (am_newN_at N r' w' j' n)]
              show Sum.inl (cA 100, n, Sum.inl (am_fill (am_newI I r' w' j') r' w' j' (I r w j) r' w' j')) = _
              rw [am_fill_at]
            have hH := so_H_new (kn := (r', w', j')) (h' := (am_fill (am_newI I r' w' j') r' w' j' (I r w j), am_newR Rr r' w' j', am_newN N r' w' j' n, cc9 + 1, nn9 + n)) (n := n) (q := q9) hL hcl hbo hvk hr3' (by show so_vk (am_rt r') = true; rw [hra']; decide) hno (am_newN_at N r' w' j' n) ho (fun s' => congrFun (am_newR_at Rr r' w' j') s') (fun h101 => by have h101 : am_rt r' = 101 := h101; omega) (by rw [he]; exact hP1) (by rw [he]; exact hD1)
            obtain ⟨J', he2⟩ := so_J_new (n := n) J hH hr3' hno (am_newN_at N r' w' j' n) ho rfl rfl hS1 (st0 := st0) (fun v hv => List.mem_cons_of_mem _ hv)
            have h9 := hk _ _ _ _ _ _ _ _ hs J'
            rw [List.map_cons, he2] at h9
            rw [show Value.ref q9 = so_v (so_ext ad (r', w', j') q9) (.inr (.inr (r', w', j'))) by show Value.ref q9 = Value.ref (so_ext ad (r', w', j') q9 (r', w', j')); rw [so_ext_eq]]
            exact h9
        · exact hs.elim
      · cases hck3
  case invokestatic i =>
    obtain ⟨hd2, hnx⟩ := so_dec hd
    clear hd; subst hnx
    dsimp only [am_step] at hs
    dsimp only [so_ck3] at hck3
    unfold am_math at hs
    have roomh : ∀ {st9}, k (pc + so_len (Instr.invokestatic i)) ls st9 h → cells ≤ R.cells ∧ slots ≤ R.slots := fun {st9} hkk => by
      have := hroom _ _ _ _ hkk
      omega
    have oki : ∀ (v : Int32), so_okv h (.inl v) := fun v k hk => by cases hk
    cases h96 : Nat.beq a 9996 <;> rw [h96] at hs hck3 <;> dsimp only [cond] at hs hck3
    rotate_left
    · split at hck3
      · simp only [Bool.and_eq_true] at hck3
        split at hs
        · rename_i y0 z0 st0
          obtain ⟨hcat, hs⟩ := so_cond hs
          have hcat : am_cat st0 ≤ 8 := Nat.le_of_ble_eq_true hcat
          have hrm := roomh hs
          refine va_mmax hx hb (by rw [hml]; exact hlv.1.symm) hown (hts' _ (so_wd_in hck3.1.1.1)) (hts' _ (so_wd_in hck3.1.1.2)) (hts' _ (so_wd_in hck3.1.2)) (hts' _ (so_wd_in hck3.2)) (by omega) (by rw [so_cat]; omega) hrm.1 hrm.2 hd2 (hk _ (.inl (if z0 < y0 then y0 else z0) :: st0) _ _ _ _ _ _ hs ?_)
          obtain ⟨j1, j2, j3, j4, j5⟩ := J
          exact ⟨j1, j2, j3, fun v hv => by rcases List.mem_cons.mp hv with rfl | hv; exact oki _; exact j4 v (List.mem_cons_of_mem _ (List.mem_cons_of_mem _ hv)), j5⟩
        · exact hs.elim
      · cases hck3
    cases h95 : Nat.beq a 9995 <;> rw [h95] at hs hck3 <;> dsimp only [cond] at hs hck3
    rotate_left
    · split at hck3
      · simp only [Bool.and_eq_true] at hck3
        split at hs
        · rename_i y0 z0 st0
          obtain ⟨hcat, hs⟩ := so_cond hs
          have hcat : am_cat st0 ≤ 8 := Nat.le_of_ble_eq_true hcat
          have hrm := roomh hs
          refine va_mmin hx hb (by rw [hml]; exact hlv.1.symm) hown (hts' _ (so_wd_in hck3.1.1.1)) (hts' _ (so_wd_in hck3.1.1.2)) (hts' _ (so_wd_in hck3.1.2)) (hts' _ (so_wd_in hck3.2)) (by omega) (by rw [so_cat]; omega) hrm.1 hrm.2 hd2 (hk _ (.inl (if y0 < z0 then y0 else z0) :: st0) _ _ _ _ _ _ hs ?_)
          obtain ⟨j1, j2, j3, j4, j5⟩ := J
          exact ⟨j1, j2, j3, fun v hv => by rcases List.mem_cons.mp hv with rfl | hv; exact oki _; exact j4 v (List.mem_cons_of_mem _ (List.mem_cons_of_mem _ hv)), j5⟩
        · exact hs.elim
      · cases hck3
    cases h94 : Nat.beq a 9994 <;> rw [h94] at hs hck3 <;> dsimp only [cond] at hs hck3
    rotate_left
    · split at hck3
      · simp only [Bool.and_eq_true] at hck3
        split at hs
        · rename_i z0 st0
          obtain ⟨hcat, hs⟩ := so_cond hs
          have hcat : am_cat st0 ≤ 8 := Nat.le_of_ble_eq_true hcat
          have hrm := roomh hs
          refine va_mabs hx hb (by rw [hml]; exact hlv.1.symm) hown (hts' _ (so_wd_in hck3.1.1.1)) (hts' _ (so_wd_in hck3.1.1.2)) (hts' _ (so_wd_in hck3.1.2)) (hts' _ (so_wd_in hck3.2)) (by omega) (by rw [so_cat]; omega) hrm.1 hrm.2 hd2 (hk _ (.inl (if 0 ≤ z0 then z0 else 0 - z0) :: st0) _ _ _ _ _ _ hs ?_)
          obtain ⟨j1, j2, j3, j4, j5⟩ := J
          exact ⟨j1, j2, j3, fun v hv => by rcases List.mem_cons.mp hv with rfl | hv; exact oki _; exact j4 v (List.mem_cons_of_mem _ hv), j5⟩
        · exact hs.elim
      · cases hck3
    cases h99 : Nat.beq a 9997 <;> rw [h99] at hs hck3 <;> dsimp only [cond] at hs hck3
    · split at hck3
      · rename_i nm bs mL ret np ini z p1 z2 p2 z3 p3 z4 p4 hmi
        simp only [Bool.and_eq_true, decide_eq_true_eq, so_nmok] at hck3
        obtain ⟨⟨⟨⟨⟨hw1, hw2⟩, hw3⟩, hw4⟩, hbn⟩, ⟨⟨hn1, hn2⟩, hn3⟩, hn4⟩ := hck3
        obtain ⟨ps, st', hps, hpl, hs⟩ := so_pop _ _ _ _ hs
        obtain ⟨hcat, hs⟩ := so_cond hs
        rw [List.append_nil] at hs
        have hcat : am_cat st' ≤ 8 := Nat.le_of_ble_eq_true hcat
        obtain ⟨v, h1, hq, hle, hM, hok⟩ := got ps.reverse st' _ hs (fun u hu => by rw [hps]; exact List.mem_append_left _ (List.mem_reverse.mp hu))
        have hM := hM nm bs mL ret np ini hmi dC dI cA A ad hok hsta
        have hkk : k (pc + 3) ls (v.toList ++ st') h1 := by
          split at hq
          · exact hq
          · exact hq
          · exact hq.elim
        have hst9 : st.map (so_v ad) = (ps.reverse.map (so_v ad)).reverse ++ st'.map (so_v ad) := by
          rw [hps, List.map_append, List.map_reverse, List.reverse_reverse]
        have hWc : 2 * (F0 m pc lc (st.map (so_v ad))).monitorRoom + ((st'.map (so_v ad)).map fun v => v.category).sum ≤ 8 := lv_room (by rw [so_cat]; exact hcat)
        have hR2 : (so_room d (h1.2.2.2.1 - h.2.2.2.1) (h1.2.2.2.2 - h.2.2.2.2)).frames + 1 ≤ R.frames ∧ 8 + (mL + 11) + (so_room d (h1.2.2.2.1 - h.2.2.2.1) (h1.2.2.2.2 - h.2.2.2.2)).locals ≤ R.locals := by
          show d + 1 ≤ R.frames ∧ 8 + (mL + 11) + d * 64 ≤ R.locals
          omega
        have hpre := so_pre hEn hA J ps.reverse
        exact so_after (va_runS (As := ps.reverse.map (so_v ad)) (rest := st'.map (so_v ad)) ⟨hx, hb, hml, hown, hts⟩ hM ⟨callB_of np hts (so_goodIn (so_wd_in hw4)) rfl rfl rfl (hts' _ (so_wd_in hw3)) (hts' _ (so_wd_in hw1)) ⟨hn1, hn2, hn3⟩ hR2, hts' _ (so_wd_in hw2)⟩ ⟨so_blind _ _ _ _ _ _ _, hpre⟩ rfl (by rw [List.length_map, List.length_reverse, hpl, hbn]) (by exact hlv.1) hst9 hWc hd2 (room h1 hle ⟨_, _, _, hkk⟩)) J hle (fun u hu => by rw [hps]; exact List.mem_append_right _ hu) hkk hk
      · cases hck3
    · split at hck3
      · rename_i z p1 z2 p2 z3 p3 z4 p4
        simp only [Bool.and_eq_true] at hck3
        obtain ⟨⟨⟨hw1, hw2⟩, hw3⟩, hw4⟩ := hck3
        split at hs
        · rename_i n0 dp r w j sp r' w' j' st0
          obtain ⟨hra, hs⟩ := so_cond hs
          simp only [Bool.and_eq_true] at hra
          obtain ⟨⟨hra, hrb⟩, hcat, hr3, hr3'⟩ := hra
          have hr3 : r < 300 := Nat.le_of_ble_eq_true hr3
          have hr3' : r' < 300 := Nat.le_of_ble_eq_true hr3'
          have hcat : am_cat st0 ≤ 8 := Nat.le_of_ble_eq_true hcat
          have hra := so_beq hra
          obtain ⟨I, S⟩ := h
          dsimp only at hs
          split at hs
          · rename_i mm mm' hn hn'
            obtain ⟨h1, h3, h4, h5, h6, hs⟩ := hs
            have hal : so_al (I, S) (r, w, j) := ⟨hr3, mm, hn⟩
            have hal' : so_al (I, S) (r', w', j') := ⟨hr3', mm', hn'⟩
            obtain ⟨q1, hq1, hq2⟩ := so_ws_get (cA := cA) (ad := ad) (h := (I, S)) ((hL (r, w, j)).mpr hal)
            obtain ⟨q3, hq3, hq4⟩ := so_ws_get (cA := cA) (ad := ad) (h := (I, S)) ((hL (r', w', j')).mpr hal')
            have key : ∀ (t0 : Nat) (ty : FieldType) (kd : Nat), am_rt r = kd → 100 ≤ kd → kd < 110 → (so_tys cA)[t0]? = some (cA kd, ty) → refKind ty = false → (∀ i9, i9 < n0.toNatClampNeg → fits ty (.int (I r' w' j' (sp.toNatClampNeg + i9))) = true) → W p l e R s m args below meth c H locs cells slots Q (F0 m pc lc ((Sum.inl n0 :: Sum.inl dp :: Sum.inr (Sum.inr (r, w, j)) :: Sum.inl sp :: Sum.inr (Sum.inr (r', w', j')) :: st0).map (so_v ad))) := by
              intro t0 ty kd hkd hk1 hk2 ht0 hprim hfit
              have hnw : nativeFrameWords "java/lang/System" "arraycopy" 5 ≤ 40 := by decide +kernel
              rw [so_c_int (k := (r, w, j)) hkd hk1 hk2 hn] at hq2
              rw [so_c_int (k := (r', w', j')) (hra.symm.trans hkd) hk1 hk2 hn'] at hq4
              refine va_copyi hx hb (by rw [hml]; exact hlv.1.symm) hown (hts' _ (so_wd_in hw1)) (hts' _ (so_wd_in hw2)) (hts' _ (so_wd_in hw3)) (hts' _ (so_wd_in hw4)) hEn.1 hP hD hS q3 q1 t0 t0 hq4 hq2 ht0 ht0 hprim h1 h3 h4 h5 h6 hfit (by omega) (by rw [so_cat]; omega) hd2 (fun H1 locs1 hP1 hD1 hS1 => ?_)
              have he : so_c cA ad (am_cpy I r w j (I r' w' j') sp.toNatClampNeg dp.toNatClampNeg n0.toNatClampNeg, S) (r, w, j) = .inl (cA kd, mm, .inl (va_cpy (I r' w' j') (I r w j) sp.toNatClampNeg dp.toNatClampNeg n0.toNatClampNeg)) := by
                rw [so_c_int (h := (am_cpy I r w j (I r' w' j') sp.toNatClampNeg dp.toNatClampNeg n0.toNatClampNeg, S)) (k := (r, w, j)) hkd hk1 hk2 hn]
                show Sum.inl (cA kd, mm, Sum.inl (am_cpy I r w j (I r' w' j') sp.toNatClampNeg dp.toNatClampNeg n0.toNatClampNeg r w j)) = _
                rw [am_cpy_at]
              refine hk _ st0 ad _ H1 locs1 _ _ hs (so_J_set J ?_ rfl ?_ (fun v hv => List.mem_cons_of_mem _ (List.mem_cons_of_mem _ (List.mem_cons_of_mem _ (List.mem_cons_of_mem _ (List.mem_cons_of_mem _ hv))))) hS1)
              · refine so_H_set (h' := (am_cpy I r w j (I r' w' j') sp.toNatClampNeg dp.toNatClampNeg n0.toNatClampNeg, S)) hL hD hvk hq1 rfl (fun k' hne => ⟨am_cpy_off I r w j _ _ _ _ hne, rfl⟩) hcl (fun k' hk' h101 s' => ?_) (by rw [he]; exact hP1) (by rw [he]; exact hD1)
                by_cases hne : k' = (r, w, j)
                · subst hne
                  show am_cpy I r w j (I r' w' j') sp.toNatClampNeg dp.toNatClampNeg n0.toNatClampNeg r w j s' = 0 ∨ am_cpy I r w j (I r' w' j') sp.toNatClampNeg dp.toNatClampNeg n0.toNatClampNeg r w j s' = 1
                  rw [am_cpy_at]
                  by_cases hin : dp.toNatClampNeg ≤ s' ∧ s' < dp.toNatClampNeg + n0.toNatClampNeg
                  · rw [pk_cpy_in hin.1 hin.2]
                    exact hbo _ hal' (hra.symm.trans h101) _
                  · rw [pk_cpy_out (by omega)]
                    exact hbo _ hk' h101 s'
                · show am_cpy I r w j (I r' w' j') sp.toNatClampNeg dp.toNatClampNeg n0.toNatClampNeg k'.1 k'.2.1 k'.2.2 s' = 0 ∨ am_cpy I r w j (I r' w' j') sp.toNatClampNeg dp.toNatClampNeg n0.toNatClampNeg k'.1 k'.2.1 k'.2.2 s' = 1
                  rw [am_cpy_off I r w j _ _ _ _ hne]
                  exact hbo _ hk' h101 s'
              · intro k' hk'
                exact am_cpy_off I r w j _ _ _ _ (fun e9 => by rw [e9] at hk'; exact absurd hk' (Nat.not_le.mpr hr3))
            rcases Bool.or_eq_true _ _ |>.mp hrb with hrb | hrb
            · exact key 0 .int 100 (so_beq hrb) (by decide) (by decide) rfl rfl (fun _ _ => rfl)
            · refine key 1 .boolean 101 (so_beq hrb) (by decide) (by decide) rfl rfl (fun i9 _ => ?_)
              rcases hbo _ hal' (hra.symm.trans (so_beq hrb)) (sp.toNatClampNeg + i9) with h9 | h9 <;> (have h9 : I r' w' j' (sp.toNatClampNeg + i9) = _ := h9; rw [h9]; rfl)
          · exact hs.elim
        · exact hs.elim
      · cases hck3
end so6
