/-! THE SMALL MACHINE IS SOUND, part 10: a whole body; every method of the table -/
theorem so_look1 {f : Nat × am_X → Bool} : ∀ (l : List (Nat × am_X)) (pc : Nat), l.all f = true → am_look1 l pc = am_nop ∨ f (pc, am_look1 l pc) = true := by
  intro l
  induction l with
  | nil => intro pc _; exact Or.inl rfl
  | cons q l ih =>
    obtain ⟨p, x⟩ := q
    intro pc h
    simp only [List.all_cons, Bool.and_eq_true] at h
    cases hp : Nat.beq p pc
    · have e : am_look1 ((p, x) :: l) pc = am_look1 l pc := by show (bif Nat.beq p pc then x else am_look1 l pc) = _; rw [hp]; rfl
      rw [e]
      exact ih pc h.2
    · have e : am_look1 ((p, x) :: l) pc = x := by show (bif Nat.beq p pc then x else am_look1 l pc) = _; rw [hp]; rfl
      rw [e, ← so_beq hp]
      exact Or.inr h.1
theorem so_look {f : Nat × am_X → Bool} : ∀ (t : List (Nat × List (Nat × am_X))) (pc : Nat), t.all (fun ch => ch.2.all f) = true → am_look t pc = am_nop ∨ f (pc, am_look t pc) = true := by
  intro t
  induction t with
  | nil => intro pc _; exact Or.inl rfl
  | cons q t ih =>
    obtain ⟨hi, l⟩ := q
    intro pc h
    simp only [List.all_cons, Bool.and_eq_true] at h
    cases hp : Nat.ble pc hi
    · have e : am_look ((hi, l) :: t) pc = am_look t pc := by show (bif Nat.ble pc hi then am_look1 l pc else am_look t pc) = _; rw [hp]; rfl
      rw [e]
      exact ih pc h.2
    · have e : am_look ((hi, l) :: t) pc = am_look1 l pc := by show (bif Nat.ble pc hi then am_look1 l pc else am_look t pc) = _; rw [hp]; rfl
      rw [e]
      exact so_look1 l pc h.1
section so7
variable {p : Program} {l : Launch} {e : Env} {R : Room} {s : State} {m : MethodId} {args : Array Value} {below : List Frame} {meth : Method} {c : Code} {H : Heap} {locs : List Loc} {cells slots : Nat}
variable {dC : Nat → ClassId} {dI : Nat → Nat → Nat} {cA : Nat → ClassId} {A : Nat → Prop}
/-- one step, whatever the instruction; Q: any goal; the returns by hq -/
theorem so_step {Q : State → Prop} {d : Nat} (hIH : ∀ y as h v h1, am_call am_rt am_P d y as h (fun v1 h2 => v1 = v ∧ h2 = h1) → so_Met l d y as h v h1)
    {cc : ByteArray} {nL pc : Nat} {x : am_X} {own : String} {ini : Bool} {hE : am_H} {ad0 ad : am_K → Nat} {ls : am_L} {st : List am_V} {h : am_H} {lc : Array Slot} {k : Nat → am_L → List am_V → am_H → Prop} {q : am_Q} {nm0 : MethodName} {bs0 : ByteArray} {mL0 : Nat} {ret0 ret : Option FieldType}
    (hx : p.tables.exec = Jvm.exec) (hb : c.code = cc) (hml : c.maxLocals = nL) (hown : s.vm.findClass own = some m.cls) (hts : ∀ w ∈ (Cond.code nm0 bs0 mL0 ret0 :: so_G), w.before args s = true) (hini : ini = true → meth.name = "<init>") (hA : ∀ q, s.heap.size ≤ q → A q) (hEn : so_E dC dI cA A ad0 s)
    (hRf : d + 1 ≤ R.frames) (hRl : (d + 1) * 64 ≤ R.locals)
    (hrow : so_row own cc nL ret ini (pc, x) = true) (J : so_J dC dI cA A s nL hE ad0 ad h ls st H locs lc cells slots) (hs : am_step am_rt (am_call am_rt am_P d) x ls st h k q)
    (hroom : ∀ pc' ls' st' h', k pc' ls' st' h' → h'.2.2.2.1 ≤ hE.2.2.2.1 + R.cells ∧ h'.2.2.2.2 ≤ hE.2.2.2.2 + R.slots)
    (hk : ∀ pc' ls' st' ad' h' H' locs' lc' cells' slots', k pc' ls' st' h' → so_J dC dI cA A s nL hE ad0 ad' h' ls' st' H' locs' lc' cells' slots' → W p l e R s m args below meth c H' locs' cells' slots' Q (F0 m pc' lc' (st'.map (so_v ad'))))
    (hqi : ∀ v, st = [.inl v] → q (some (.inl v)) h → ret = some .int → decode cc pc = .ok (.ireturn, 1) → W p l e R s m args below meth c H locs cells slots Q (F0 m pc lc [.int v]))
    (hqz : ∀ v, st = [.inl v] → (v = 0 ∨ v = 1) → q (some (.inl v)) h → ret = some .boolean → decode cc pc = .ok (.ireturn, 1) → W p l e R s m args below meth c H locs cells slots Q (F0 m pc lc [.int v]))
    (hqa : ∀ v, st = [.inr (.inr v)] → q (some (.inr (.inr v))) h → (∃ rt, ret = some rt ∧ ((∃ n, rt = .object n) ∨ ∃ t, rt = .array t)) → decode cc pc = .ok (.areturn, 1) → W p l e R s m args below meth c H locs cells slots Q (F0 m pc lc [.ref (ad v)]))
    (hqv : st = [] → q none h → ret = none → decode cc pc = .ok (.return_, 1) → W p l e R s m args below meth c H locs cells slots Q (F0 m pc lc [])) :
    W p l e R s m args below meth c H locs cells slots Q (F0 m pc lc (st.map (so_v ad))) := by
  simp only [so_row, Bool.and_eq_true] at hrow
  obtain ⟨⟨⟨hck, hck2⟩, hck3⟩, hckr⟩ := hrow
  have hts' : ∀ w ∈ so_G, w.before args s = true := fun w hw => hts w (List.mem_cons_of_mem _ hw)
  cases h1 : so_is1 x.1
  case true =>
    refine so_simple hx hb hck h1 J.2.2.1 hs (fun pc' ls' st' lc' hkk hl' hm1 hm2 => hk _ _ _ _ _ _ _ _ _ _ hkk ?_)
    obtain ⟨hH, hX, hlv, hst, hls, hS, hr⟩ := J
    have ok : ∀ v, so_pm st ls v → so_okv h v := fun v hv => by
      rcases hv with hv | hv | hv
      · exact hst v hv
      · exact hls v hv
      · exact fun k hk => absurd hk (hv k)
    exact ⟨hH, hX, hl', fun v hv => ok v (hm1 v hv), fun v hv => ok v (hm2 v hv), hS, hr⟩
  case false =>
  cases h2 : so_is2 x.1
  case true =>
    refine so_read hx hb hown hts' hEn hck hck2 h2 J hs (fun pc' st' hkk hok => hk _ _ _ _ _ _ _ _ _ _ hkk ?_)
    obtain ⟨hH, hX, hlv, hst, hls, hS, hr⟩ := J
    exact ⟨hH, hX, hlv, hok, hls, hS, hr⟩
  case false =>
  cases h3 : so_is3 x.1
  case true => exact so_write hx hb hown hts' hini hEn hck hck2 h3 J hs (fun pc' st' h' H' locs' hkk J' => hk _ _ _ _ _ _ _ _ _ _ hkk J')
  case false =>
  cases h4 : so_is4 x.1
  case true => exact so_make hx hb hown hts' hA hEn hck hck2 h4 J hs hroom (fun pc' st' ad' h' H' locs' cells' slots' hkk J' => hk _ _ _ _ _ _ _ _ _ _ hkk J')
  case false =>
  cases h5 : so_is5 x.1
  case true => exact so_invoke hIH hx hb hml hown hts hA hEn hRf hRl hck hck3 h5 J hs hroom (fun pc' st' ad' h' H' locs' cells' slots' hkk J' => hk _ _ _ _ _ _ _ _ _ _ hkk J')
  case false =>
  obtain ⟨ins, nx, im, a, b, c', sw⟩ := x
  simp only [so_ck1, Bool.and_eq_true] at hck
  obtain ⟨hd, -⟩ := hck
  cases ins <;> try (first | (cases h1; done) | (cases h2; done) | (cases h3; done) | (cases h4; done) | (cases h5; done) | (exact hs.elim))
  case ireturn =>
    obtain ⟨hd2, hnx⟩ := so_dec hd
    dsimp only [am_step] at hs
    dsimp only [so_ckr] at hckr
    split at hs
    · rename_i v
      cases hc : Nat.beq c' 1 <;> rw [hc] at hs hckr <;> dsimp only [cond] at hs hckr
      · exact hqi v rfl hs (of_decide_eq_true hckr) hd2
      · exact hqz v rfl hs.1 hs.2 (of_decide_eq_true hckr) hd2
    · exact hs.elim
  case areturn =>
    obtain ⟨hd2, hnx⟩ := so_dec hd
    dsimp only [am_step] at hs
    dsimp only [so_ckr] at hckr
    split at hs
    · rename_i v
      refine hqa v rfl hs ?_ hd2
      split at hckr
      · exact ⟨_, rfl, Or.inl ⟨_, rfl⟩⟩
      · exact ⟨_, rfl, Or.inr ⟨_, rfl⟩⟩
      · cases hckr
    · exact hs.elim
  case return_ =>
    obtain ⟨hd2, hnx⟩ := so_dec hd
    dsimp only [am_step] at hs
    dsimp only [so_ckr] at hckr
    split at hs
    · exact hqv rfl hs (of_decide_eq_true hckr) hd2
    · exact hs.elim
/-- a body, from any place to its end -/
theorem so_body {d : Nat} (hIH : ∀ y as h v h1, am_call am_rt am_P d y as h (fun v1 h2 => v1 = v ∧ h2 = h1) → so_Met l d y as h v h1)
    {cc : ByteArray} {nL : Nat} {own : String} {ini : Bool} {hE h0 : am_H} {v0 : Option am_V} {ad0 : am_K → Nat} {nm0 : MethodName} {bs0 : ByteArray} {mL0 : Nat} {ret0 ret : Option FieldType} {tb : List (Nat × List (Nat × am_X))}
    (hx : p.tables.exec = Jvm.exec) (hb : c.code = cc) (hml : c.maxLocals = nL) (hown : s.vm.findClass own = some m.cls) (hts : ∀ w ∈ (Cond.code nm0 bs0 mL0 ret0 :: so_G), w.before args s = true) (hini : ini = true → meth.name = "<init>") (hA : ∀ q, s.heap.size ≤ q → A q) (hEn : so_E dC dI cA A ad0 s) (hr : meth.sig.returnType = ret) (hlocks : meth.locks = false)
    (hRf : d + 1 ≤ R.frames) (hRl : (d + 1) * 64 ≤ R.locals) (hRc : h0.2.2.2.1 = hE.2.2.2.1 + R.cells) (hRs : h0.2.2.2.2 = hE.2.2.2.2 + R.slots)
    (htb : so_tbl own cc nL ret ini tb = true) : ∀ (n pc : Nat) (ad : am_K → Nat) (h : am_H) (ls : am_L) (st : List am_V) (H : Heap) (locs : List Loc) (lc : Array Slot) (cells slots : Nat),
    am_vc am_rt (am_call am_rt am_P d) (am_look tb) (fun _ => false) (fun _ _ _ _ => False) (fun v h1 => v = v0 ∧ h1 = h0) n pc ls st h → so_J dC dI cA A s nL hE ad0 ad h ls st H locs lc cells slots →
    W p l e R s m args below meth c H locs cells slots (MQ below (so_Qc dC dI cA A ad0 hE v0 h0) args s R.cells R.slots A) (F0 m pc lc (st.map (so_v ad))) := by
  intro n
  induction n with
  | zero => intro pc ad h ls st H locs lc cells slots hs; exact hs.elim
  | succ n ih =>
    intro pc ad h ls st H locs lc cells slots hs J
    have hs : am_step am_rt (am_call am_rt am_P d) (am_look tb pc) ls st h (fun pc ls st h => am_vc am_rt (am_call am_rt am_P d) (am_look tb) (fun _ => false) (fun _ _ _ _ => False) (fun v h1 => v = v0 ∧ h1 = h0) n pc ls st h) (fun v h1 => v = v0 ∧ h1 = h0) := hs
    rcases so_look tb pc htb with hl | hl
    · rw [hl] at hs
      exact hs.elim
    · have hend : ∀ v, v = v0 ∧ h = h0 → cells = R.cells ∧ slots = R.slots ∧ so_ex hE h0 ad0 ad := fun v hv => by
        obtain ⟨-, rfl⟩ := hv
        obtain ⟨-, -, -, -, -, -, hc0, hn0, hex, hst3, -⟩ := J
        exact ⟨by omega, by omega, hex, hst3⟩
      refine so_step hIH hx hb hml hown hts hini hA hEn hRf hRl hl J hs (fun pc' ls' st' h' hkk => ?_) (fun pc' ls' st' ad' h' H' locs' lc' cells' slots' hkk J' => ih _ _ _ _ _ _ _ _ _ _ hkk J') (fun v hst hq hret hd => ?_) (fun v hst hv hq hret hd => ?_) (fun v hst hq hret hd => ?_) (fun hst hq hret hd => ?_)
      · have h9 := am_vc_le (am_call_good _ _ _) (am_call_grows _ _ _) hkk
        rw [← hRc, ← hRs]
        exact h9
      · obtain ⟨hc, hn, hex⟩ := hend _ hq
        obtain ⟨rfl, rfl⟩ := hq
        subst hc hn
        exact W.iret hx hb (by rw [hr]; exact hret) (fun t ht hW => ⟨⟨v, ad, rfl, ⟨rfl, hex⟩, by show so_H dC dI cA A ad h t.heap; rw [ht]; exact J.1⟩, J.2.2.2.2.2.1.F ht⟩) J.2.2.2.2.2.1.2.2 hd hlocks
      · obtain ⟨hc, hn, hex⟩ := hend _ hq
        obtain ⟨rfl, rfl⟩ := hq
        subst hc hn
        exact W.zret (ty := .boolean) hx hb (by rw [hr]; exact hret) (by rcases hv with rfl | rfl <;> rfl) (fun t ht hW => ⟨⟨v, ad, rfl, ⟨rfl, hex⟩, by show so_H dC dI cA A ad h t.heap; rw [ht]; exact J.1⟩, J.2.2.2.2.2.1.F ht⟩) J.2.2.2.2.2.1.2.2 hd hlocks
      · obtain ⟨hc, hn, hex⟩ := hend _ hq
        obtain ⟨rfl, rfl⟩ := hq
        subst hc hn
        obtain ⟨rt9, hret, hrt⟩ := hret
        have hal := J.2.2.2.1 (.inr (.inr v)) (by rw [hst]; exact List.mem_cons_self) v rfl
        exact W.aret hx hb (by rw [hr]; exact hret) hrt (Or.inr ⟨_, rfl⟩) (fun t ht hW => ⟨⟨ad, ad v, rfl, ⟨hex, hal⟩, rfl, by rw [ht]; exact J.1⟩, J.2.2.2.2.2.1.F ht⟩) J.2.2.2.2.2.1.2.2 hd hlocks
      · obtain ⟨hc, hn, hex⟩ := hend _ hq
        obtain ⟨rfl, rfl⟩ := hq
        subst hc hn
        exact W.vret hx hb (by rw [hr]; exact hret) (fun t ht hW => ⟨⟨ad, rfl, hex, by show so_H dC dI cA A ad h t.heap; rw [ht]; exact J.1⟩, J.2.2.2.2.2.1.F ht⟩) J.2.2.2.2.2.1.2.2 hd hlocks
end so7
theorem so_loc_mem : ∀ (as : List am_V) (n : Nat) (v : am_V), some v ∈ am_loc as n → v ∈ as := by
  intro as
  induction as with
  | nil =>
    intro n v h
    have h : some v ∈ List.replicate n (none : Option am_V) := h
    cases (List.eq_of_mem_replicate h)
  | cons a as ih =>
    intro n v h
    rcases a with a | (a | a)
    · cases n with
      | zero => cases h
      | succ n =>
        rcases List.mem_cons.mp h with h | h
        · cases h; exact List.mem_cons_self
        · exact List.mem_cons_of_mem _ (ih n v h)
    · match n, h with
      | 0, h => cases h
      | 1, h =>
        have h : some v ∈ some (Sum.inr (Sum.inl a)) :: am_loc as 0 := h
        rcases List.mem_cons.mp h with h | h
        · cases h; exact List.mem_cons_self
        · exact List.mem_cons_of_mem _ (ih 0 v h)
      | n + 2, h =>
        rcases List.mem_cons.mp h with h | h
        · cases h; exact List.mem_cons_self
        · rcases List.mem_cons.mp h with h | h
          · cases h
          · exact List.mem_cons_of_mem _ (ih n v h)
    · cases n with
      | zero => cases h
      | succ n =>
        rcases List.mem_cons.mp h with h | h
        · cases h; exact List.mem_cons_self
        · exact List.mem_cons_of_mem _ (ih n v h)
theorem so_sl_len (ad : am_K → Nat) : ∀ as : List am_V, (lg_sl (as.map (so_v ad))).length = am_cat as := by
  intro as
  induction as with
  | nil => rfl
  | cons a as ih =>
    have e : ∀ v : Value, lg_sl (v :: as.map (so_v ad)) = (if v.category = 2 then [.val v, .second] else [.val v]) ++ lg_sl (as.map (so_v ad)) := fun v => rfl
    rcases a with a | (a | a) <;> (rw [List.map_cons, e, List.length_append, ih]; rfl)
theorem so_lv_none (ad : am_K → Nat) : ∀ (n i : Nat), so_lv ad i (List.replicate n none) = [] := by
  intro n
  induction n with
  | zero => intro i; rfl
  | succ n ih => intro i; exact ih (i + 1)
theorem so_lv_loc (ad : am_K → Nat) : ∀ (as : List am_V) (n i : Nat), am_cat as ≤ n → so_lv ad i (am_loc as n) = lv_args i (as.map (so_v ad)) := by
  intro as
  induction as with
  | nil => intro n i _; exact so_lv_none ad n i
  | cons a as ih =>
    intro n i hn
    rcases a with a | (a | a)
    · cases n with
      | zero => have hn : 1 + am_cat as ≤ 0 := hn; omega
      | succ n =>
        have hn : 1 + am_cat as ≤ n + 1 := hn
        show (i, so_v ad (.inl a)) :: so_lv ad (i + 1) (am_loc as n) = (i, so_v ad (.inl a)) :: lv_args (i + 1) (as.map (so_v ad))
        rw [ih n (i + 1) (by omega)]
    · match n, hn with
      | 0, hn => have hn : 2 + am_cat as ≤ 0 := hn; omega
      | 1, hn => have hn : 2 + am_cat as ≤ 1 := hn; omega
      | n + 2, hn =>
        have hn : 2 + am_cat as ≤ n + 2 := hn
        show (i, so_v ad (.inr (.inl a))) :: so_lv ad (i + 2) (am_loc as n) = (i, so_v ad (.inr (.inl a))) :: lv_args (i + 2) (as.map (so_v ad))
        rw [ih n (i + 2) (by omega)]
    · cases n with
      | zero => have hn : 1 + am_cat as ≤ 0 := hn; omega
      | succ n =>
        have hn : 1 + am_cat as ≤ n + 1 := hn
        show (i, so_v ad (.inr (.inr a))) :: so_lv ad (i + 1) (am_loc as n) = (i, so_v ad (.inr (.inr a))) :: lv_args (i + 1) (as.map (so_v ad))
        rw [ih n (i + 1) (by omega)]
/-- EVERY CALL OF THE SMALL MACHINE IS A CALL OF THE MACHINE -/
theorem so_all (l : Launch) (hok : ∀ y q, so_find so_ml y = some q → so_mok y q) : ∀ d y as h v h1, am_call am_rt am_P d y as h (fun v1 h2 => v1 = v ∧ h2 = h1) → so_Met l d y as h v h1 := by
  intro d
  induction d with
  | zero => intro y as h v h1 hs; exact hs.elim
  | succ d ih =>
    intro y as h v h1 hs nm bs mL ret np ini hmi dC dI cA A ad hoka hsta
    obtain ⟨hpl, hini, tb, hP, htb⟩ := hok y _ hmi
    have hs : (match am_P y with | (cd, m) => Nat.ble (am_cat as) m = true ∧ am_W am_rt (am_call am_rt am_P d) cd 0 (am_loc as m) [] h (fun v1 h2 => v1 = v ∧ h2 = h1)) := hs
    rw [hP] at hs
    obtain ⟨hcat, n, hn⟩ := hs
    have hcat : am_cat as ≤ mL := Nat.le_of_ble_eq_true hcat
    have hle := am_vc_le (am_call_good _ _ _) (am_call_grows _ _ _) hn
    refine Met.ofW (cc := bs) (maxL := mL) (ret := ret) hpl rfl ?_
    intro p e s m args below meth c s₁ B hml hv
    obtain ⟨rfl, hEn, hH, hX, hA⟩ := hv
    have hts := atoms_spec (ws := .code nm bs mL ret :: so_G) B.pre
    have hown : s.vm.findClass nm.cls = some m.cls := findClass_of_methodNamed B.named
    have hin : meth.name = nm.name := (name_of_methodNamed B.named B.method).1
    have hl := lv_entry (as.map (so_v ad)) (n := mL) (by rw [so_sl_len]; exact hcat)
    rw [lg_entry_eq]
    generalize (lg_sl (as.map (so_v ad)) ++ List.replicate (mL - (lg_sl (as.map (so_v ad))).length) Slot.unset).toArray = lc at hl ⊢
    rw [← so_lv_loc ad as mL 0 hcat] at hl
    have h5 := hle.1
    have h6 := hle.2
    exact so_body (R := so_room (d + 1) (h1.2.2.2.1 - h.2.2.2.1) (h1.2.2.2.2 - h.2.2.2.2)) (d := d) ih B.exec B.bytes hml hown hts (fun hi => hin.trans (hini hi)) hA hEn B.returns B.notSynchronized (Nat.le_refl _) (Nat.le_refl _) (by show _ = _ + (_ - _); omega) (by show _ = _ + (_ - _); omega) htb n 0 ad h (am_loc as mL) [] s.heap [] lc 0 0 hn
      ⟨hH, hX, hl, (fun v hv => by cases hv), fun v hv => hoka v (so_loc_mem as mL v hv), va_S.rf, rfl, rfl, fun k n hk => ⟨rfl, hk⟩, fun k hk => ⟨rfl, rfl, rfl⟩, hsta⟩
/-- every call of the small machine, at every depth, is a call of the machine -/
theorem so_met (l : Launch) : ∀ d y as h v h1, am_call am_rt am_P d y as h (fun v1 h2 => v1 = v ∧ h2 = h1) → so_Met l d y as h v h1 := so_all l (fun y q h => so_fin (y, q) (so_find_mem so_ml y q h))
