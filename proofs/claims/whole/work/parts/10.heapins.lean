/-! THE SMALL MACHINE IS SOUND, part 5: the instructions that read the heap -/
theorem so_rt300 {r : Nat} (h : 300 ≤ r) : am_rt r = 100 ∨ am_rt r = 999 := by
  by_cases h2 : r < 307
  · have h3 : r = 300 ∨ r = 301 ∨ r = 302 ∨ r = 303 ∨ r = 304 ∨ r = 305 ∨ r = 306 := by omega
    rcases h3 with rfl | rfl | rfl | rfl | rfl | rfl | rfl <;> exact Or.inl rfl
  · refine Or.inr ?_
    have e1 : ∀ c, c ≤ 306 → Nat.blt r c = false := fun c hc => by
      have : ¬ (Nat.blt r c = true) := by rw [Nat.blt, Nat.ble_eq]; omega
      rw [Bool.eq_false_iff]; exact this
    have e2 : ∀ c, c ≤ 306 → Nat.beq r c = false := fun c hc => by
      have : ¬ (Nat.beq r c = true) := by rw [Nat.beq_eq]; omega
      rw [Bool.eq_false_iff]; exact this
    unfold am_rt
    simp only [e1 _ (by decide : (199 : Nat) ≤ 306)]
    repeat (first | rw [e1 _ (by decide)] | rw [e2 _ (by decide)] | rw [cond_false])
theorem so_c_obj {cA : Nat → ClassId} {ad : am_K → Nat} {h : am_H} {k : am_K} {a : Nat} {q : vw_C} (hr : am_rt k.1 = a) (hq : am_cls[a]? = some q) : so_c cA ad h k = .inr (a, (List.range q.2.2).map (so_f ad q (h.1 k.1 k.2.1 k.2.2) (h.2.1 k.1 k.2.1 k.2.2))) := by
  have ha : a < 12 := (List.getElem?_eq_some_iff.mp hq).1
  unfold so_c so_cell
  rw [hr, if_pos (by omega), hq]
theorem so_c_int {cA : Nat → ClassId} {ad : am_K → Nat} {h : am_H} {k : am_K} {a n : Nat} (hr : am_rt k.1 = a) (h1 : 100 ≤ a) (h2 : a < 110) (hn : h.2.2.1 k.1 k.2.1 k.2.2 = some n) : so_c cA ad h k = .inl (cA a, n, .inl (h.1 k.1 k.2.1 k.2.2)) := by
  unfold so_c so_cell
  rw [hr, if_neg (by omega), if_pos h2, hn]
  rfl
theorem so_c_refs {cA : Nat → ClassId} {ad : am_K → Nat} {h : am_H} {k : am_K} {a n : Nat} (hr : am_rt k.1 = a) (h1 : 110 ≤ a) (hn : h.2.2.1 k.1 k.2.1 k.2.2 = some n) : so_c cA ad h k = .inl (cA a, n, .inr (.inr (.inr (.inr (fun s => (h.2.1 k.1 k.2.1 k.2.2 s).map ad))))) := by
  unfold so_c so_cell
  rw [hr, if_neg (by omega), if_neg (by omega), hn]
  rfl
theorem so_vk_ref {cA : Nat → ClassId} {k : Nat} (h : so_vk k = true) (h2 : 110 ≤ k) : ∃ (t0 ci : Nat) (q : vw_C), (so_tys cA)[t0]? = some (cA k, .object q.1) ∧ am_cls[ci]? = some q ∧ k = 110 + ci := by
  simp only [so_vk, List.contains_eq_mem, decide_eq_true_eq, List.mem_cons, List.not_mem_nil, or_false] at h
  have h3 : k = 110 ∨ k = 111 ∨ k = 113 ∨ k = 114 ∨ k = 117 := by omega
  rcases h3 with rfl | rfl | rfl | rfl | rfl
  · exact ⟨4, 0, _, rfl, rfl, rfl⟩
  · exact ⟨5, 1, _, rfl, rfl, rfl⟩
  · exact ⟨6, 3, _, rfl, rfl, rfl⟩
  · exact ⟨7, 4, _, rfl, rfl, rfl⟩
  · exact ⟨8, 7, _, rfl, rfl, rfl⟩
theorem so_vk_int {cA : Nat → ClassId} {k : Nat} (h : so_vk k = true) (h1 : 100 ≤ k) (h2 : k < 110) : ∃ (t0 : Nat) (ty : FieldType), (so_tys cA)[t0]? = some (cA k, ty) := by
  simp only [so_vk, List.contains_eq_mem, decide_eq_true_eq, List.mem_cons, List.not_mem_nil, or_false] at h
  have h3 : k = 100 ∨ k = 101 ∨ k = 102 ∨ k = 103 := by omega
  rcases h3 with rfl | rfl | rfl | rfl
  · exact ⟨0, _, rfl⟩
  · exact ⟨1, _, rfl⟩
  · exact ⟨2, _, rfl⟩
  · exact ⟨3, _, rfl⟩
theorem so_beq {a b : Nat} (h : Nat.beq a b = true) : a = b := Nat.eq_of_beq_eq_true h
theorem so_cond {b : Bool} {P : Prop} (h : cond b P False) : b = true ∧ P := by
  cases b
  · exact h.elim
  · exact ⟨rfl, h⟩
def so_is2 : Instr → Bool
  | .ldc _ | .ldc_w _ | .ldc2_w _ | .getfield _ | .getstatic _ | .iaload | .baload | .saload | .aaload | .arraylength | .checkcast _ => true
  | _ => false
section so2
variable {p : Program} {l : Launch} {e : Env} {R : Room} {s : State} {m : MethodId} {args : Array Value} {below : List Frame} {meth : Method} {c : Code} {H : Heap} {locs : List Loc} {cells slots : Nat} {Q : State → Prop}
variable {dC : Nat → ClassId} {dI : Nat → Nat → Nat} {cA : Nat → ClassId} {A : Nat → Prop}
theorem so_read {cc : ByteArray} {nL pc : Nat} {x : am_X} {call : am_C} {own : String} {init : Bool} {hE : am_H} {ad0 ad : am_K → Nat} {ls : am_L} {st : List am_V} {h : am_H} {lc : Array Slot} {k : Nat → am_L → List am_V → am_H → Prop} {q : am_Q}
    (hx : p.tables.exec = Jvm.exec) (hb : c.code = cc) (hown : s.vm.findClass own = some m.cls) (hts : ∀ w ∈ so_G, w.before args s = true) (hEn : so_E dC dI cA A ad0 s)
    (hck : so_ck1 cc nL pc x = true) (hck2 : so_ck2 own init x = true) (h2 : so_is2 x.1 = true) (J : so_J dC dI cA A s nL hE ad0 ad h ls st H locs lc cells slots) (hs : am_step am_rt call x ls st h k q)
    (hk : ∀ pc' st', k pc' ls st' h → (∀ v, v ∈ st' → so_okv h v) → W p l e R s m args below meth c H locs cells slots Q (F0 m pc' lc (st'.map (so_v ad)))) :
    W p l e R s m args below meth c H locs cells slots Q (F0 m pc lc (st.map (so_v ad))) := by
  obtain ⟨ins, nx, im, a, b, c', sw⟩ := x
  obtain ⟨hK, hAO, hNw, hZ⟩ := hEn
  obtain ⟨⟨L, hL, hP, hD, hcl, hbo, hvk⟩, hX, hlv, hst, hls, hS, hc0, hn0, hex, hst3, hsta⟩ := id J
  simp only [so_ck1, Bool.and_eq_true] at hck
  obtain ⟨hd, -⟩ := hck
  have oki : ∀ (v : Int32), so_okv h (.inl v) := fun v k hk => by cases hk
  cases ins <;> try (cases h2; done)
  case ldc i =>
    obtain ⟨hd2, hnx⟩ := so_dec hd
    clear hd; subst hnx
    dsimp only [am_step] at hs
    dsimp only [so_ck2] at hck2
    split at hck2
    · exact lv_ldc hx hb hown (hts _ (so_wd_in hck2)) hd2 (hk _ _ hs (fun v hv => by rcases List.mem_cons.mp hv with rfl | hv; exact oki _; exact hst v hv))
    · cases hck2
  case ldc_w i =>
    obtain ⟨hd2, hnx⟩ := so_dec hd
    clear hd; subst hnx
    dsimp only [am_step] at hs
    dsimp only [so_ck2] at hck2
    split at hck2
    · exact lv_ldcw hx hb hown (hts _ (so_wd_in hck2)) hd2 (hk _ _ hs (fun v hv => by rcases List.mem_cons.mp hv with rfl | hv; exact oki _; exact hst v hv))
    · cases hck2
  case ldc2_w i =>
    obtain ⟨hd2, hnx⟩ := so_dec hd
    clear hd; subst hnx
    dsimp only [am_step] at hs
    dsimp only [so_ck2] at hck2
    split at hck2
    · exact lv_ldc2 hx hb hown (hts _ (so_wd_in hck2)) hd2 (hk _ _ hs (fun v hv => by rcases List.mem_cons.mp hv with rfl | hv; intro k hk; cases hk; exact hst v hv))
    · cases hck2
  case getstatic i =>
    obtain ⟨hd2, hnx⟩ := so_dec hd
    clear hd; subst hnx
    dsimp only [am_step] at hs
    dsimp only [so_ck2] at hck2
    split at hck2
    · simp only [Bool.and_eq_true, decide_eq_true_eq] at hck2
      obtain ⟨⟨h3, h4⟩, h5⟩ := hck2
      have fin : W p l e R s m args below meth c H locs cells slots Q (F0 m (pc + 3) lc (.ref (ad0 (a, 0, 0)) :: st.map (so_v ad))) := by
        rw [← (hst3 (a, 0, 0) (by show 300 ≤ a; omega)).1]
        refine hk _ (.inr (.inr (a, 0, 0)) :: st) hs (fun v hv => ?_)
        rcases List.mem_cons.mp hv with rfl | hv
        · intro k hk
          cases hk
          exact hsta a h3 h4
        · exact hst v hv
      rename_i z0 p1
      cases hz : decide (z0 = (1 : Int32)) <;> rw [hz] at h5
      rotate_left
      · exact va_getsN (v := .ref (ad0 (a, 0, 0))) hx hb (hZ a h3 h4) hS hown (va_Nw.use rfl (hNw.2.1 _ _ _ _ _ _ (List.mem_of_getElem? (of_decide_eq_true (show decide _ = true from h5))))) (fun x hx => hx) hd2 fin
      · exact va_gets (v := .ref (ad0 (a, 0, 0))) hx hb (hZ a h3 h4) hS hown (hts _ (so_wd_in h5)) (fun x hx => hx) hd2 fin
    · cases hck2
  case getfield i =>
    obtain ⟨hd2, hnx⟩ := so_dec hd
    clear hd; subst hnx
    dsimp only [am_step] at hs
    dsimp only [so_ck2] at hck2
    split at hck2
    · rename_i q0 i0 p1 hq0
      simp only [Bool.and_eq_true, decide_eq_true_eq, beq_iff_eq] at hck2
      obtain ⟨⟨hbN, hlk⟩, hii⟩ := hck2
      split at hs
      · rename_i r w j st0
        obtain ⟨hra, hs⟩ := so_cond hs
        have hra := so_beq hra
        have ha12 : a < 12 := (List.getElem?_eq_some_iff.mp hq0).1
        have hr3 : r < 300 := Nat.not_le.mp fun h3 => by rcases so_rt300 h3 with h4 | h4 <;> omega
        obtain ⟨n, hn⟩ := hst _ List.mem_cons_self (r, w, j) rfl
        obtain ⟨q1, hq1, hq2⟩ := so_ws_get (cA := cA) (ad := ad) (h := h) ((hL (r, w, j)).mpr ⟨hr3, n, hn⟩)
        rw [so_c_obj (k := (r, w, j)) hra hq0] at hq2
        obtain ⟨hin, -⟩ := so_cls a q0 hq0
        have hfb : ((List.range q0.2.2).map (so_f ad q0 (h.1 r w j) (h.2.1 r w j)))[b]? = some (so_f ad q0 (h.1 r w j) (h.2.1 r w j) b) := by
          rw [List.getElem?_map, List.getElem?_range hbN]; rfl
        refine va_get (v := so_f ad q0 (h.1 r w j) (h.2.1 r w j) b) hx hb hts hin hown hK hP q1 hq2 hq0 b hbN (hts _ (so_wd_in hlk)) (fun x hx => hx) hfb hd2 ?_
        obtain ⟨I, S⟩ := h
        dsimp only at hs
        cases hc2 : Nat.beq c' 2
        · rw [hc2] at hs hii
          have e7 : so_f ad q0 (I r w j) (S.1 r w j) b = so_v ad (.inl (I r w j b)) := by unfold so_f; rw [hii]; rfl
          show W p l e R s m args below meth c H locs cells slots Q (F0 m (pc + 3) lc (so_f ad q0 (I r w j) (S.1 r w j) b :: st0.map (so_v ad)))
          rw [e7]
          exact hk _ (.inl (I r w j b) :: st0) hs (fun v hv => by rcases List.mem_cons.mp hv with rfl | hv; exact oki _; exact hst v (List.mem_cons_of_mem _ hv))
        · rw [hc2] at hs hii
          dsimp only [cond] at hs
          split at hs
          · rename_i v hv
            have e7 : so_f ad q0 (I r w j) (S.1 r w j) b = so_v ad (.inr (.inr v)) := by unfold so_f; rw [hii, hv]; rfl
            show W p l e R s m args below meth c H locs cells slots Q (F0 m (pc + 3) lc (so_f ad q0 (I r w j) (S.1 r w j) b :: st0.map (so_v ad)))
            rw [e7]
            refine hk _ (.inr (.inr v) :: st0) hs (fun u hu => ?_)
            rcases List.mem_cons.mp hu with rfl | hu
            · intro k hk
              cases hk
              exact (hcl (r, w, j) ⟨hr3, n, hn⟩ b v hv).2
            · exact hst u (List.mem_cons_of_mem _ hu)
          · exact hs.elim
      · exact hs.elim
    · cases hck2
  case arraylength =>
    obtain ⟨hd2, hnx⟩ := so_dec hd
    clear hd; subst hnx
    dsimp only [am_step] at hs
    split at hs
    · rename_i r w j st0
      obtain ⟨hra, hs⟩ := so_cond hs
      have hra : 100 ≤ am_rt r := Nat.le_of_ble_eq_true hra
      obtain ⟨I, S⟩ := h
      dsimp only at hs
      split at hs
      · rename_i n hn
        have fin : W p l e R s m args below meth c H locs cells slots Q (F0 m (pc + 1) lc ((.inl (Int32.ofNat n) :: st0).map (so_v ad))) := hk _ (.inl (Int32.ofNat n) :: st0) hs (fun v hv => by rcases List.mem_cons.mp hv with rfl | hv; exact oki _; exact hst v (List.mem_cons_of_mem _ hv))
        by_cases hr3 : r < 300
        · have hal : so_al (I, S) (r, w, j) := ⟨hr3, n, hn⟩
          obtain ⟨q1, hq1, hq2⟩ := so_ws_get (cA := cA) (ad := ad) (h := (I, S)) ((hL (r, w, j)).mpr hal)
          have hv := hvk _ hal
          by_cases h110 : 110 ≤ am_rt r
          · obtain ⟨t0, ci, q0, ht0, -, -⟩ := so_vk_ref (cA := cA) hv h110
            rw [so_c_refs (k := (r, w, j)) rfl h110 hn] at hq2
            exact va_alen (x := (n, .inr (.inr (.inr (.inr _))))) hx hb hK hP q1 t0 hq2 ht0 rfl hd2 fin
          · obtain ⟨t0, ty, ht0⟩ := so_vk_int (cA := cA) (k := am_rt r) hv hra (by omega)
            rw [so_c_int (k := (r, w, j)) rfl hra (by show am_rt r < 110; omega) hn] at hq2
            exact va_alen (x := (n, .inl _)) hx hb hK hP q1 t0 hq2 ht0 rfl hd2 fin
        · exact va_tlen hx hb (hX (r, w, j) (Nat.not_lt.mp hr3) n hn) hS rfl hd2 fin
      · exact hs.elim
    · exact hs.elim
  case iaload =>
    obtain ⟨hd2, hnx⟩ := so_dec hd
    clear hd; subst hnx
    dsimp only [am_step] at hs
    split at hs
    · rename_i i r w j st0
      obtain ⟨hra, hs⟩ := so_cond hs
      have hra := so_beq hra
      obtain ⟨I, S⟩ := h
      dsimp only at hs
      split at hs
      · rename_i n hn
        have fin : W p l e R s m args below meth c H locs cells slots Q (F0 m (pc + 1) lc ((.inl (I r w j i.toNatClampNeg) :: st0).map (so_v ad))) := hk _ (.inl (I r w j i.toNatClampNeg) :: st0) hs.2 (fun v hv => by rcases List.mem_cons.mp hv with rfl | hv; exact oki _; exact hst v (List.mem_cons_of_mem _ (List.mem_cons_of_mem _ hv)))
        by_cases hr3 : r < 300
        · obtain ⟨q1, hq1, hq2⟩ := so_ws_get (cA := cA) (ad := ad) (h := (I, S)) ((hL (r, w, j)).mpr ⟨hr3, n, hn⟩)
          rw [so_c_int (k := (r, w, j)) hra (by decide) (by decide) hn] at hq2
          exact va_iald hx hb hK hP q1 0 hq2 rfl hs.1 hd2 fin
        · exact va_ti hx hb (hX (r, w, j) (Nat.not_lt.mp hr3) n hn) hS hs.1 rfl hd2 fin
      · exact hs.elim
    · exact hs.elim
  case saload =>
    obtain ⟨hd2, hnx⟩ := so_dec hd
    clear hd; subst hnx
    dsimp only [am_step] at hs
    split at hs
    · rename_i i r w j st0
      obtain ⟨hra, hs⟩ := so_cond hs
      have hra := so_beq hra
      have hr3 : r < 300 := Nat.not_le.mp fun h3 => by rcases so_rt300 h3 with h4 | h4 <;> omega
      obtain ⟨I, S⟩ := h
      dsimp only at hs
      split at hs
      · rename_i n hn
        obtain ⟨q1, hq1, hq2⟩ := so_ws_get (cA := cA) (ad := ad) (h := (I, S)) ((hL (r, w, j)).mpr ⟨hr3, n, hn⟩)
        rw [so_c_int (k := (r, w, j)) hra (by decide) (by decide) hn] at hq2
        exact va_sald hx hb hK hP q1 3 hq2 rfl hs.1 hd2 (hk _ (.inl (I r w j i.toNatClampNeg) :: st0) hs.2 (fun v hv => by rcases List.mem_cons.mp hv with rfl | hv; exact oki _; exact hst v (List.mem_cons_of_mem _ (List.mem_cons_of_mem _ hv))))
      · exact hs.elim
    · exact hs.elim
  case baload =>
    obtain ⟨hd2, hnx⟩ := so_dec hd
    clear hd; subst hnx
    dsimp only [am_step] at hs
    split at hs
    · rename_i i r w j st0
      obtain ⟨hra, hs⟩ := so_cond hs
      have hra : am_rt r = 101 ∨ am_rt r = 102 := by
        rcases Bool.or_eq_true _ _ |>.mp hra with h3 | h3
        · exact Or.inl (so_beq h3)
        · exact Or.inr (so_beq h3)
      have hr3 : r < 300 := Nat.not_le.mp fun h3 => by rcases so_rt300 h3 with h4 | h4 <;> omega
      obtain ⟨I, S⟩ := h
      dsimp only at hs
      split at hs
      · rename_i n hn
        have fin : W p l e R s m args below meth c H locs cells slots Q (F0 m (pc + 1) lc ((.inl (I r w j i.toNatClampNeg) :: st0).map (so_v ad))) := hk _ (.inl (I r w j i.toNatClampNeg) :: st0) hs.2 (fun v hv => by rcases List.mem_cons.mp hv with rfl | hv; exact oki _; exact hst v (List.mem_cons_of_mem _ (List.mem_cons_of_mem _ hv)))
        obtain ⟨q1, hq1, hq2⟩ := so_ws_get (cA := cA) (ad := ad) (h := (I, S)) ((hL (r, w, j)).mpr ⟨hr3, n, hn⟩)
        rcases hra with hra | hra
        · rw [so_c_int (k := (r, w, j)) hra (by decide) (by decide) hn] at hq2
          exact va_zald hx hb hK hP q1 1 hq2 rfl hs.1 hd2 fin
        · rw [so_c_int (k := (r, w, j)) hra (by decide) (by decide) hn] at hq2
          exact va_bald hx hb hK hP q1 2 hq2 rfl hs.1 hd2 fin
      · exact hs.elim
    · exact hs.elim
  case aaload =>
    obtain ⟨hd2, hnx⟩ := so_dec hd
    clear hd; subst hnx
    dsimp only [am_step] at hs
    split at hs
    · rename_i i r w j st0
      obtain ⟨hra, hs⟩ := so_cond hs
      simp only [Bool.and_eq_true] at hra
      have hr3 : r < 300 := Nat.le_of_ble_eq_true hra.2
      have hra : 110 ≤ am_rt r := Nat.le_of_ble_eq_true hra.1
      obtain ⟨I, S⟩ := h
      dsimp only at hs
      split at hs
      · rename_i n hn
        obtain ⟨hin, r', w', j', hR, hs⟩ := hs
        have hal : so_al (I, S) (r, w, j) := ⟨hr3, n, hn⟩
        obtain ⟨q1, hq1, hq2⟩ := so_ws_get (cA := cA) (ad := ad) (h := (I, S)) ((hL (r, w, j)).mpr hal)
        obtain ⟨t0, ci, q0, ht0, -, -⟩ := so_vk_ref (cA := cA) (hvk _ hal) hra
        rw [so_c_refs (k := (r, w, j)) rfl hra hn] at hq2
        refine va_aldq hx hb hK hP q1 t0 hq2 ht0 hin hd2 ?_
        show W p l e R s m args below meth c H locs cells slots Q (F0 m (pc + 1) lc (va_rf ((S.1 r w j i.toNatClampNeg).map ad) :: st0.map (so_v ad)))
        rw [hR]
        refine hk _ (.inr (.inr (r', w', j')) :: st0) hs (fun v hv => ?_)
        rcases List.mem_cons.mp hv with rfl | hv
        · intro k hk
          cases hk
          exact (hcl _ hal _ _ hR).2
        · exact hst v (List.mem_cons_of_mem _ (List.mem_cons_of_mem _ hv))
      · exact hs.elim
    · exact hs.elim
  case checkcast i =>
    obtain ⟨hd2, hnx⟩ := so_dec hd
    clear hd; subst hnx
    dsimp only [am_step] at hs
    dsimp only [so_ck2] at hck2
    split at hck2
    · split at hs
      · rename_i r w j st0
        obtain ⟨hra, hs⟩ := so_cond hs
        simp only [Bool.and_eq_true] at hra
        have hr3 : r < 300 := Nat.le_of_ble_eq_true hra.2
        have hra := so_beq hra.1
        obtain ⟨n, hn⟩ := hst _ List.mem_cons_self (r, w, j) rfl
        obtain ⟨q1, hq1, hq2⟩ := so_ws_get (cA := cA) (ad := ad) (h := h) ((hL (r, w, j)).mpr ⟨hr3, n, hn⟩)
        rw [so_c_int (k := (r, w, j)) hra (by decide) (by decide) hn] at hq2
        exact va_castA hx hb hown (hts _ (so_wd_in hck2)) hP q1 hq2 ((hK.2 0 _ rfl).2) hd2 (hk _ (.inr (.inr (r, w, j)) :: st0) hs hst)
      · exact hs.elim
    · cases hck2
end so2
