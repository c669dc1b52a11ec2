section SOUND
variable {X : XT} {p : Program} {l : Launch} {e : Env} {R : Room} {s : State} {m : MethodId} {args : Array Value} {below : List Frame} {meth : Method} {c : Code} {A : Nat → Prop} {SC : Prop} {own nL d cells slots : Nat} {cc : ByteArray} {Qf : State → Prop}
variable {pc : Nat} {al : LV} {as : List AV} {σ : ST}
theorem callB_mk (C : Cx X p R s m args c A SC own nL d cells slots cc) {id idx cl o j pl : Nat} (hid : id < mN) (hlk : lnkM[cl]? = some (o, j, id, pl)) (ho : o = own) (hj : j = idx) :
    CallB R s args (oName own) idx (mG id).1 (mG id).2.1 (mG id).2.2.1 (mG id).2.2.2.1 (mW id) (rmD d) 0 0 (mG id).2.2.2.2.2.2 := by
  obtain ⟨hx, hb, hml, hown, hts, hWk, hAx, hR, -⟩ := C
  obtain ⟨h1, h2, h3, h4, h5, h6, h7⟩ := m_ok hid
  subst ho; subst hj
  exact callB_of (mG id).2.2.2.2.2.2 hts (good_mW hid) rfl rfl rfl (hts _ h2) (hts _ (lkM_ok cl o j id pl hlk)) h4 ⟨hR.1, by show 8 + ((mG id).2.2.1 + 11) + 40 * d ≤ R.locals; omega⟩
theorem r_calls (C : Cx X p R s m args c A SC own nL d cells slots cc) {id idx cl o j pl : Nat} {vs : List AV} {Q : Option AV → ST → Prop} (hid : id < mN) (hlk : lnkM[cl]? = some (o, j, id, pl)) (ho : o = own) (hj : j = idx) (hst : ¬ (mG id).2.2.2.2.2.1 = 1) (hn : vs.length = (mG id).2.2.2.2.2.2) (hr : short as = true)
    (hM : MT l X d id vs σ Q) (hd : decode cc pc = .ok (.invokestatic idx, 3))
    (kk : ∀ (r : Option AV) (σ' : ST), Q r σ' → Gs X p l e R s m args below meth c A nL cells slots Qf (pc + 3) al (r.toList ++ as) σ') : Gs X p l e R s m args below meth c A nL cells slots Qf pc al (vs.reverse ++ as) σ := by
  intro ls H locs hl hs hP hS
  have hCB := callB_mk C hid hlk ho hj
  obtain ⟨hx, hb, hml, hown, hts, hWk, hAx, hR, hcs, -⟩ := C
  obtain ⟨h1, h2, h3, h4, h5, h6, h7⟩ := m_ok hid
  rw [if_neg hst] at h3
  have h8 := short_le hr
  have hvs : ∀ v ∈ vs, VOK v := fun v hv => hs v (List.mem_append_left _ (List.mem_reverse.mpr hv))
  have has : ∀ v ∈ as, VOK v := fun v hv => hs v (List.mem_append_right _ hv)
  refine r_back hAx (Q := Q) (va_runS (As := vs.map (gv X)) (rest := as.map (gv X)) ⟨hx, hb, hml, hown, hts⟩ hM ⟨hCB, hts _ h3⟩ ⟨mPc_blind X vs σ, fun U hU hW => ⟨rfl, by rw [hU]; exact hP, ?_, hvs⟩⟩ rfl (by rw [List.length_map]; exact hn) hl.1.1 (by rw [List.map_append, List.map_reverse]) (lv_room (by rw [catsum hWk.2.2.2.2.2.1]; exact h8)) hd ⟨hcs.1, hcs.2⟩) hS (fun r σ' H1 locs1 hq hP1 hok hS1 => ?_)
  · exact (Wk.moved hWk hW (fun a ha hn => by rw [hU]; exact hS.2.1 a ha hn)).narrow hAx
  · have := kk r σ' hq ls H1 locs1 hl (fun v hv => (List.mem_append.mp hv).elim (fun h => hok v (by cases r with | none => cases h | some w => simp at h; rw [h])) (has v)) hP1 hS1
    cases r with
    | none => exact this
    | some w => exact this
theorem hbad : ∀ i, i < mN → (mG i).2.2.2.2.2.1 = 1 → ¬ kOf (mG i).2.2.2.2.1 = 99 := by decide +kernel
theorem r_callv (C : Cx X p R s m args c A SC own nL d cells slots cc) {id idx cl o j pl : Nat} {v0 : AV} {vs : List AV} {Q : Option AV → ST → Prop} (hid : id < mN) (hlk : lnkM[cl]? = some (o, j, id, pl)) (ho : o = own) (hj : j = idx) (hst : (mG id).2.2.2.2.2.1 = 1) (hn : vs.length = (mG id).2.2.2.2.2.2) (hr : short as = true)
    (hrc : rcv (kOf (mG id).2.2.2.2.1) v0 = true) (hM : MT l X d id (v0 :: vs) σ Q) (hd : decode cc pc = .ok (.invokevirtual idx, 3))
    (kk : ∀ (r : Option AV) (σ' : ST), Q r σ' → Gs X p l e R s m args below meth c A nL cells slots Qf (pc + 3) al (r.toList ++ as) σ') : Gs X p l e R s m args below meth c A nL cells slots Qf pc al (vs.reverse ++ v0 :: as) σ := by
  intro ls H locs hl hs hP hS
  have hCB := callB_mk C hid hlk ho hj
  obtain ⟨hx, hb, hml, hown, hts, hWk, hAx, hR, hcs, -⟩ := C
  obtain ⟨h1, h2, h3, h4, h5, h6, h7⟩ := m_ok hid
  rw [if_pos hst] at h3
  have h8 := short_le hr
  have hvs : ∀ v ∈ v0 :: vs, VOK v := fun v hv => hs v ((List.mem_cons.mp hv).elim (fun h => by rw [h]; exact List.mem_append_right _ List.mem_cons_self) (fun h => List.mem_append_left _ (List.mem_reverse.mpr h)))
  have has : ∀ v ∈ as, VOK v := fun v hv => hs v (List.mem_append_right _ (List.mem_cons_of_mem _ hv))
  have hrcv : ∃ b, gv X v0 = .ref b ∧ ∃ cellB : Cell, H[b]? = some cellB ∧ cellB.vm.isStatics = false ∧ s.vm.findClass (mG id).1.cls = some cellB.cls := by
    cases v0 with
    | inl x => cases hrc
    | inr v =>
      obtain ⟨q, k⟩ := v
      have hq : q = kOf (mG id).2.2.2.2.1 := Nat.eq_of_beq_eq_true hrc
      have hko : ∀ o, o < 20 → kOf o < 20 → ∃ T N, cls[kOf o]? = some (oName o, T, N) := by
        intro o ho hk
        match o, ho, hk with
        | 0, _, _ => exact ⟨_, _, rfl⟩
        | 1, _, _ => exact ⟨_, _, rfl⟩
        | 2, _, _ => exact ⟨_, _, rfl⟩
        | 3, _, hk => exact absurd hk (by decide)
        | 4, _, _ => exact ⟨_, _, rfl⟩
        | 5, _, _ => exact ⟨_, _, rfl⟩
        | 6, _, _ => exact ⟨_, _, rfl⟩
        | 7, _, _ => exact ⟨_, _, rfl⟩
        | 8, _, _ => exact ⟨_, _, rfl⟩
        | 9, _, _ => exact ⟨_, _, rfl⟩
        | 10, _, _ => exact ⟨_, _, rfl⟩
        | 11, _, hk => exact absurd hk (by decide)
        | 12, _, hk => exact absurd hk (by decide)
        | 13, _, hk => exact absurd hk (by decide)
        | 14, _, hk => exact absurd hk (by decide)
        | 15, _, hk => exact absurd hk (by decide)
        | 16, _, hk => exact absurd hk (by decide)
        | 17, _, hk => exact absurd hk (by decide)
        | 18, _, hk => exact absurd hk (by decide)
        | 19, _, hk => exact absurd hk (by decide)
        | n + 20, ho, _ => exact absurd ho (by omega)
      have hall : ∀ i, i < mN → (mG i).2.2.2.2.1 < 20 := by decide +kernel
      have hall2 : ∀ o, o < 20 → kOf o < 20 ∨ (kOf o = 70 ∧ o = 12) ∨ kOf o = 99 := by decide +kernel
      have ho20 := hall id hid
      rcases hall2 _ ho20 with h9 | h9 | h9
      · rw [← hq] at h9
        obtain ⟨T, N, hcl⟩ := hko _ ho20 (by rw [← hq]; exact h9)
        rw [← hq] at hcl
        obtain ⟨hk, hlay⟩ := vok_cell (show q < 60 by omega) (hvs _ List.mem_cons_self)
        have hc := wsO_get (X := X) (σ := σ) hk
        rw [cell_obj (by omega)] at hc
        refine ⟨_, gv_cell (by omega), ?_⟩
        have := va_recv hWk.1 hP (ci := lay k) (q0 := k) (by rw [hlay]; exact hcl) hc
        rw [← h7]
        exact this
      · have hq70 : q = 70 := hq.trans h9.1
        subst hq70
        have hk : k < 9 := hvs (.inr (70, k)) List.mem_cons_self
        refine ⟨_, rfl, ?_⟩
        have hcn : (mG id).1.cls = "java/lang/String" := by rw [← h7, h9.2]; rfl
        rw [hcn]
        exact vk_recv hWk.2.2.2.2.2.2.1 hk hS
      · exact absurd h9 (hbad id hid hst)
  obtain ⟨b, hgb, hcell⟩ := hrcv
  refine r_back hAx (Q := Q) (va_runV (C := (mG id).1.cls) (b := b) (As := vs.map (gv X)) (rest := as.map (gv X)) ⟨hx, hb, hml, hown, hts⟩ hM ⟨hCB, hts _ h3.1, hts _ h3.2⟩ ⟨mPc_blind X (v0 :: vs) σ, hcell, fun U hU hW => ⟨by rw [List.map_cons, hgb], by rw [hU]; exact hP, ?_, hvs⟩⟩ rfl (by rw [List.length_map]; exact hn) hl.1.1 (by rw [List.map_append, List.map_reverse, List.map_cons, hgb]) (lv_room (by rw [catsum hWk.2.2.2.2.2.1]; exact h8)) hd ⟨hcs.1, hcs.2⟩) hS (fun r σ' H1 locs1 hq hP1 hok hS1 => ?_)
  · exact (Wk.moved hWk hW (fun a ha hn => by rw [hU]; exact hS.2.1 a ha hn)).narrow hAx
  · have := kk r σ' hq ls H1 locs1 hl (fun v hv => (List.mem_append.mp hv).elim (fun h => hok v (by cases r with | none => cases h | some w => simp at h; rw [h])) (has v)) hP1 hS1
    cases r with
    | none => exact this
    | some w => exact this
end SOUND
