section ROWS2
variable {X : XT} {p : Program} {l : Launch} {e : Env} {R : Room} {s : State} {m : MethodId} {args : Array Value} {below : List Frame} {meth : Method} {c : Code} {A : Nat → Prop} {SC : Prop} {own nL d cells slots : Nat} {cc : ByteArray} {Qf : State → Prop}
variable {pc : Nat} {al : LV} {as : List AV} {σ : ST}
theorem r_alen (C : Cx X p R s m args c A SC own nL d cells slots cc) {q k : Nat} (hq : isIA q = true) (hd : decode cc pc = .ok (.arraylength, 1))
    (kk : Gs X p l e R s m args below meth c A nL cells slots Qf (pc + 1) al (.inl (Int32.ofNat (alen q)) :: as) σ) : Gs X p l e R s m args below meth c A nL cells slots Qf pc al (.inr (q, k) :: as) σ := by
  intro ls H locs hl hs hP hS
  obtain ⟨hx, hb, -, -, -, hWk, -⟩ := C
  have hq60 : q < 60 := by unfold isIA at hq; rw [Bool.and_eq_true, Nat.ble_eq, Nat.ble_eq] at hq; omega
  obtain ⟨hk, rfl⟩ := vok_cell hq60 (hs _ List.mem_cons_self)
  have hc := wsO_get (X := X) (σ := σ) hk
  rw [cell_int hq] at hc
  simp only [List.map_cons, gv_cell hq60]
  refine va_alen hx hb hWk.1 hP k 0 hc rfl rfl hd ?_
  exact kk ls H locs hl (vok_cons trivial (vok_tl hs)) hP hS
theorem r_slen (C : Cx X p R s m args c A SC own nL d cells slots cc) {k : Nat} (hsc : SC) (hd : decode cc pc = .ok (.arraylength, 1))
    (kk : Gs X p l e R s m args below meth c A nL cells slots Qf (pc + 1) al (.inl (Int32.ofNat (x_L X)) :: as) σ) : Gs X p l e R s m args below meth c A nL cells slots Qf pc al (.inr (60, k) :: as) σ := by
  intro ls H locs hl hs hP hS
  obtain ⟨hx, hb, -, -, -, hWk, -, -, -, hX, -⟩ := C
  obtain ⟨h1, h2, h3⟩ := hX hsc
  refine va_slen hx hb h1 h2 h3 hS hd ?_
  exact kk ls H locs hl (vok_cons trivial (vok_tl hs)) hP hS
theorem r_sld (C : Cx X p R s m args c A SC own nL d cells slots cc) {k : Nat} {i : Int32} (hsc : SC) (hin : vp_in i (x_L X)) (hd : decode cc pc = .ok (.iaload, 1))
    (kk : Gs X p l e R s m args below meth c A nL cells slots Qf (pc + 1) al (.inl (x_xs X i.toNatClampNeg) :: as) σ) : Gs X p l e R s m args below meth c A nL cells slots Qf pc al (.inl i :: .inr (60, k) :: as) σ := by
  intro ls H locs hl hs hP hS
  obtain ⟨hx, hb, -, -, -, hWk, -, -, -, hX, -⟩ := C
  obtain ⟨h1, h2, h3⟩ := hX hsc
  refine va_sld hx hb h1 h2 h3 hS hin hd ?_
  exact kk ls H locs hl (vok_cons trivial (vok_tl (vok_tl hs))) hP hS
theorem r_tld (C : Cx X p R s m args c A SC own nL d cells slots cc) {k : Nat} {i : Int32} (hin : vp_in i 5) (hd : decode cc pc = .ok (.iaload, 1))
    (kk : Gs X p l e R s m args below meth c A nL cells slots Qf (pc + 1) al (.inl (stT k i.toNatClampNeg) :: as) σ) : Gs X p l e R s m args below meth c A nL cells slots Qf pc al (.inl i :: .inr (61, k) :: as) σ := by
  intro ls H locs hl hs hP hS
  obtain ⟨hx, hb, -, -, -, hWk, -⟩ := C
  have hk : k < 5 := hs (.inr (61, k)) (List.mem_cons_of_mem _ List.mem_cons_self)
  refine va_ti hx hb (hWk.2.2.1 k hk).2 hS hin rfl hd ?_
  exact kk ls H locs hl (vok_cons trivial (vok_tl (vok_tl hs))) hP hS
theorem r_sbld (C : Cx X p R s m args c A SC own nL d cells slots cc) {k : Nat} {i : Int32} (hin : vp_in i (sLen.getD k 0)) (hd : decode cc pc = .ok (.baload, 1))
    (kk : Gs X p l e R s m args below meth c A nL cells slots Qf (pc + 1) al (.inl ((sByt.getD k []).getD i.toNatClampNeg 0) :: as) σ) : Gs X p l e R s m args below meth c A nL cells slots Qf pc al (.inl i :: .inr (71, k) :: as) σ := by
  intro ls H locs hl hs hP hS
  obtain ⟨hx, hb, -, -, -, hWk, -⟩ := C
  have hk : k < 9 := hs (.inr (71, k)) (List.mem_cons_of_mem _ List.mem_cons_self)
  refine va_tb hx hb (hWk.2.2.2.2.2.2.1.1 k hk).2.2.2 hS hin rfl hd ?_
  exact kk ls H locs hl (vok_cons trivial (vok_tl (vok_tl hs))) hP hS
theorem r_sblen (C : Cx X p R s m args c A SC own nL d cells slots cc) {k : Nat} (hd : decode cc pc = .ok (.arraylength, 1))
    (kk : Gs X p l e R s m args below meth c A nL cells slots Qf (pc + 1) al (.inl (Int32.ofNat (sLen.getD k 0)) :: as) σ) : Gs X p l e R s m args below meth c A nL cells slots Qf pc al (.inr (71, k) :: as) σ := by
  intro ls H locs hl hs hP hS
  obtain ⟨hx, hb, -, -, -, hWk, -⟩ := C
  have hk : k < 9 := hs (.inr (71, k)) List.mem_cons_self
  refine va_tlen hx hb (hWk.2.2.2.2.2.2.1.1 k hk).2.2.2 hS rfl hd ?_
  exact kk ls H locs hl (vok_cons trivial (vok_tl hs)) hP hS
theorem r_sgetV (C : Cx X p R s m args c A SC own nL d cells slots cc) {k : Nat} (ho : own = sVal.1) (hd : decode cc pc = .ok (.getfield sVal.2.1, 3))
    (kk : Gs X p l e R s m args below meth c A nL cells slots Qf (pc + 3) al (.inr (71, k) :: as) σ) : Gs X p l e R s m args below meth c A nL cells slots Qf pc al (.inr (70, k) :: as) σ := by
  intro ls H locs hl hs hP hS
  obtain ⟨hx, hb, -, hown, hts, hWk, -⟩ := C
  have hk : k < 9 := hs (.inr (70, k)) List.mem_cons_self
  refine vk_getf hx hb (hWk.2.2.2.2.2.2.1.1 k hk).2.2.1 hS hown (by rw [ho]; exact hts _ lkS_ok.1) (fun _ h => h) hd ?_
  exact kk ls H locs hl (vok_cons hk (vok_tl hs)) hP hS
theorem r_sgetC (C : Cx X p R s m args c A SC own nL d cells slots cc) {k : Nat} (ho : own = sCod.1) (hd : decode cc pc = .ok (.getfield sCod.2.1, 3))
    (kk : Gs X p l e R s m args below meth c A nL cells slots Qf (pc + 3) al (.inl 0 :: as) σ) : Gs X p l e R s m args below meth c A nL cells slots Qf pc al (.inr (70, k) :: as) σ := by
  intro ls H locs hl hs hP hS
  obtain ⟨hx, hb, -, hown, hts, hWk, -⟩ := C
  have hk : k < 9 := hs (.inr (70, k)) List.mem_cons_self
  refine vk_getf hx hb (hWk.2.2.2.2.2.2.1.1 k hk).2.1 hS hown (by rw [ho]; exact hts _ lkS_ok.2) (fun _ h => h) hd ?_
  exact kk ls H locs hl (vok_cons trivial (vok_tl hs)) hP hS
theorem r_ldcS (C : Cx X p R s m args c A SC own nL d cells slots cc) {k : Nat} (hk : k < 9) (ho : own = 7) (hd : decode cc pc = .ok (.ldc (sIx k), 2))
    (kk : Gs X p l e R s m args below meth c A nL cells slots Qf (pc + 2) al (.inr (70, k) :: as) σ) : Gs X p l e R s m args below meth c A nL cells slots Qf pc al as σ := by
  intro ls H locs hl hs hP hS
  obtain ⟨hx, hb, -, hown, hts, hWk, -⟩ := C
  subst ho
  refine va_ldcS hx hb hown (hWk.2.2.2.2.2.2.2 k hk) hd ?_
  exact kk ls H locs hl (vok_cons hk hs) hP hS
theorem r_gets (C : Cx X p R s m args c A SC own nL d cells slots cc) {a idx o j pl : Nat} (hlk : lnkG[a]? = some (o, j, pl)) (ho : o = own) (hj : j = idx) (hd : decode cc pc = .ok (.getstatic idx, 3))
    (kk : Gs X p l e R s m args below meth c A nL cells slots Qf (pc + 3) al (gsV a :: as) σ) : Gs X p l e R s m args below meth c A nL cells slots Qf pc al as σ := by
  intro ls H locs hl hs hP hS
  obtain ⟨hx, hb, -, hown, hts, hWk, -⟩ := C
  subst ho; subst hj
  have ha : a < 7 := (List.getElem?_eq_some_iff.mp hlk).1
  have hw := hts _ (lkG_ok a o j pl hlk)
  clear hlk
  match a, ha, hw, kk with
  | 0, _, hw, kk => exact va_gets hx hb (hWk.2.2.1 0 (by omega)).1 hS hown hw (fun _ h => h) hd (kk ls H locs hl (vok_cons (show (0 : Nat) < 5 by omega) hs) hP hS)
  | 1, _, hw, kk => exact va_gets hx hb (hWk.2.2.1 1 (by omega)).1 hS hown hw (fun _ h => h) hd (kk ls H locs hl (vok_cons (show (1 : Nat) < 5 by omega) hs) hP hS)
  | 2, _, hw, kk => exact va_gets hx hb (hWk.2.2.1 2 (by omega)).1 hS hown hw (fun _ h => h) hd (kk ls H locs hl (vok_cons (show (2 : Nat) < 5 by omega) hs) hP hS)
  | 3, _, hw, kk => exact va_gets hx hb (hWk.2.2.1 3 (by omega)).1 hS hown hw (fun _ h => h) hd (kk ls H locs hl (vok_cons (show (3 : Nat) < 5 by omega) hs) hP hS)
  | 4, _, hw, kk => exact va_gets hx hb (hWk.2.2.1 4 (by omega)).1 hS hown hw (fun _ h => h) hd (kk ls H locs hl (vok_cons (show (4 : Nat) < 5 by omega) hs) hP hS)
  | 5, _, hw, kk => exact va_gets hx hb hWk.2.2.2.1 hS hown hw (fun _ h => h) hd (kk ls H locs hl (vok_cons trivial hs) hP hS)
  | 6, _, hw, kk => exact va_gets hx hb hWk.2.2.2.2.1 hS hown hw (fun _ h => h) hd (kk ls H locs hl (vok_cons trivial hs) hP hS)
theorem catsum (hf : x_fm X = .null ∨ ∃ a, x_fm X = .ref a) : ∀ r : List AV, ((r.map (gv X)).map fun v => v.category).sum = r.length
  | [] => rfl
  | v :: r => by
    rw [List.map_cons, List.map_cons, List.sum_cons, catsum hf r, gv_cat hf, List.length_cons]
    omega
theorem short_le {r : List AV} (h : short r = true) : r.length ≤ 8 := by
  unfold short at h
  split at h
  · cases h
  · rename_i h9
    match r, h9 with
    | [], _ => simp
    | [_], _ => simp
    | [_, _], _ => simp
    | [_, _, _], _ => simp
    | [_, _, _, _], _ => simp
    | [_, _, _, _, _], _ => simp
    | [_, _, _, _, _, _], _ => simp
    | [_, _, _, _, _, _, _], _ => simp
    | [_, _, _, _, _, _, _, _], _ => simp
    | _ :: _ :: _ :: _ :: _ :: _ :: _ :: _ :: _ :: _, h9 => exact absurd rfl (h9 _ _ _ _ _ _ _ _ _ _)
theorem r_copy (C : Cx X p R s m args c A SC own nL d cells slots cc) {q0 k0 q1 k1 idx cl o j pl : Nat} {sp dp n : Int32} (h0 : isIA q0 = true) (h1 : isIA q1 = true) (hr : short as = true) (hc : ¬ sp < 0 ∧ ¬ dp < 0 ∧ ¬ n < 0 ∧ sp.toNatClampNeg + n.toNatClampNeg ≤ alen q0 ∧ dp.toNatClampNeg + n.toNatClampNeg ≤ alen q1)
    (hlk : lnkA[cl]? = some (o, j, pl)) (ho : o = own) (hj : j = idx) (hd : decode cc pc = .ok (.invokestatic idx, 3))
    (kk : Gs X p l e R s m args below meth c A nL cells slots Qf (pc + 3) al as (upc σ k0 k1 sp.toNatClampNeg dp.toNatClampNeg n.toNatClampNeg)) : Gs X p l e R s m args below meth c A nL cells slots Qf pc al (.inl n :: .inl dp :: .inr (q1, k1) :: .inl sp :: .inr (q0, k0) :: as) σ := by
  intro ls H locs hl hs hP hS
  obtain ⟨hx, hb, hml, hown, hts, hWk, hAx, hR, -, -, hn1, hn2, hn3⟩ := C
  subst ho; subst hj
  have q060 : q0 < 60 := by unfold isIA at h0; rw [Bool.and_eq_true, Nat.ble_eq, Nat.ble_eq] at h0; omega
  have q160 : q1 < 60 := by unfold isIA at h1; rw [Bool.and_eq_true, Nat.ble_eq, Nat.ble_eq] at h1; omega
  obtain ⟨hk1, rfl⟩ := vok_cell q160 (hs _ (List.mem_cons_of_mem _ (List.mem_cons_of_mem _ List.mem_cons_self)))
  obtain ⟨hk0, rfl⟩ := vok_cell q060 (hs _ (List.mem_cons_of_mem _ (List.mem_cons_of_mem _ (List.mem_cons_of_mem _ (List.mem_cons_of_mem _ List.mem_cons_self)))))
  have hc0 := wsO_get (X := X) (σ := σ) hk0
  rw [cell_int h0] at hc0
  have hc1 := wsO_get (X := X) (σ := σ) hk1
  rw [cell_int h1] at hc1
  simp only [List.map_cons, gv_cell q060, gv_cell q160, gv_int]
  have hsz : ls.size = nL := hl.1.1
  have h8 := short_le hr
  have hnw : nativeFrameWords "java/lang/System" "arraycopy" 5 + 11 ≤ 32 := by decide +kernel
  refine va_copyi hx hb (hml.trans hsz.symm) hown (hts _ (lkA_ok cl o j pl hlk)) hn1 hn2 hn3 hWk.1 hP (wsO_D hWk.2.1 hAx) hS k0 k1 0 0 hc0 hc1 rfl rfl rfl hc.1 hc.2.1 hc.2.2.1 hc.2.2.2.1 hc.2.2.2.2 (fun _ _ => rfl) (by omega) (by rw [catsum hWk.2.2.2.2.2.1]; omega) hd (fun H1 locs1 hP1 hD1 hS1 => ?_)
  rw [wsO_set (σ' := upc σ k0 k1 sp.toNatClampNeg dp.toNatClampNeg n.toNatClampNeg) hk1 (fun a ha => by funext b; unfold upc; rw [if_neg ha]) (by rw [cell_int h1]; congr 3; congr 1; funext b; unfold upc; rw [if_pos rfl])] at hP1
  exact kk ls H1 locs1 hl (vok_tl (vok_tl (vok_tl (vok_tl (vok_tl hs))))) hP1 hS1
/-- behind a call -/
theorem r_back (hAx : ∀ q, Ax X q → A q) {ls : Array Slot} {H : Heap} {locs : List Loc} {st0 rest : List Value} {Q : Option AV → ST → Prop} {a9 : Array Value}
    (hr : va_Run p l e R s m args below meth c H locs cells slots 0 0 (F0 m pc ls st0) rest (mQc X Q a9) (Ax X)) (hS : va_S A s.heap H locs)
    (kk : ∀ (r : Option AV) (σ' : ST) (H1 : Heap) (locs1 : List Loc), Q r σ' → va_P (x_D X) cls (wsO X σ') H1 → (∀ v, r = some v → VOK v) → va_S A s.heap H1 locs1 → W p l e R s m args below meth c H1 locs1 cells slots Qf (F0 m (pc + 3) ls ((r.map (gv X)).toList ++ rest))) : W p l e R s m args below meth c H locs cells slots Qf (F0 m pc ls st0) := by
  intro T hT X0
  obtain ⟨v, st₀, t, T', L, h0, X', hL, e1, e2, ⟨⟨r, σ', hv, hp, hb, hok⟩, hz, hk⟩, st⟩ := hr T hT X0
  cases hv
  rw [h0] at hz hk
  obtain ⟨t2, a1, b1⟩ := kk r σ' T'.heap (locs ++ L) hp (by rw [e1]; exact hb) hok
    ⟨Nat.le_trans hS.1 (by rw [e1]; exact hz), fun q h1 h2 => by rw [e1, hk q (Nat.lt_of_lt_of_le h1 hS.1) (fun z => h2 (hAx q z))]; exact hS.2.1 q h1 h2, fun q hq => by
      rcases List.mem_append.mp hq with h | h
      · exact hS.2.2 q h
      · exact hAx _ (hL q h)⟩ T' rfl X'
  exact ⟨t2, st t2 a1, b1⟩
theorem mPc_blind (X : XT) (as : List AV) (σ : ST) : FrameBlind (mPc X as σ) := by
  intro a U g mk h
  obtain ⟨h1, h2, h3, h4⟩ := h
  exact ⟨h1, h2, Wk.moved h3 (s := U) (U := U.calling g mk a) (State.WarmedH.refl U) (fun _ _ _ => rfl), h4⟩
end ROWS2
set_option maxRecDepth 100000 in
theorem lkX_ok : ∀ (c o j p : Nat), lnkX[c]? = some (o, j, p) → Cond.methodLink (oName o) j Lib.Math.max.name ∈ TS := by
  have h : (lnkX.all fun q => decide (lw_tbl[q.2.2]? = some (Cond.methodLink (oName q.1) q.2.1 Lib.Math.max.name))) = true := by decide +kernel
  intro c o j p e
  have h1 := List.all_eq_true.mp h _ (List.mem_of_getElem? e)
  exact TS_at (of_decide_eq_true h1) rfl
set_option maxRecDepth 100000 in
theorem lkN_ok : ∀ (c o j p : Nat), lnkN[c]? = some (o, j, p) → Cond.methodLink (oName o) j Lib.Math.min.name ∈ TS := by
  have h : (lnkN.all fun q => decide (lw_tbl[q.2.2]? = some (Cond.methodLink (oName q.1) q.2.1 Lib.Math.min.name))) = true := by decide +kernel
  intro c o j p e
  have h1 := List.all_eq_true.mp h _ (List.mem_of_getElem? e)
  exact TS_at (of_decide_eq_true h1) rfl
set_option maxRecDepth 100000 in
theorem math_ok : Cond.code Lib.Math.max.name Lib.Math.max.code 2 (some .int) ∈ TS ∧ Cond.code Lib.Math.min.name Lib.Math.min.code 2 (some .int) ∈ TS ∧ Cond.static Lib.Math.max.name ∈ TS ∧ Cond.static Lib.Math.min.name ∈ TS ∧ Cond.initialized "java/lang/Math" ∈ TS :=
  ⟨TS_at (i := (mP i_J_Math_max).1) (by decide +kernel) rfl, TS_at (i := (mP i_J_Math_min).1) (by decide +kernel) rfl, TS_at (i := (mP i_J_Math_max).2.1) (by decide +kernel) rfl, TS_at (i := (mP i_J_Math_min).2.1) (by decide +kernel) rfl, TS_at (i := (mP i_J_Math_max).2.2.2) (by decide +kernel) rfl⟩
set_option maxRecDepth 100000 in
theorem sys_ok : lw_tbl[arrPl.1]? = some (Cond.native arraycopyName) ∧ lw_tbl[arrPl.2.1]? = some (Cond.static arraycopyName) ∧ lw_tbl[arrPl.2.2]? = some (Cond.initialized "java/lang/System") := by decide +kernel
theorem sys_in : Cond.native arraycopyName ∈ TS ∧ Cond.static arraycopyName ∈ TS ∧ Cond.initialized "java/lang/System" ∈ TS := ⟨TS_at sys_ok.1 rfl, TS_at sys_ok.2.1 rfl, TS_at sys_ok.2.2 rfl⟩
