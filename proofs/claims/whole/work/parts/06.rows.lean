/-- fields: types, names apart, and those without a reference aren't final -/
theorem fld_ok : ∀ (q : Nat) (C : String) (T : u_T) (N : Nat), cls[q]? = some (C, T, N) → ∃ ty0 : Nat → FieldType, (∀ k, k < N → parseFieldDescriptor (T k).2.2.1 = some (ty0 k)) ∧ (∀ a, a < N → ∀ b, b < N → a ≠ b → (T a).2.1 ≠ (T b).2.1) ∧
    ∀ b, b < N → fT q b = none → (T b).2.2.2 = false ∧ parseFieldDescriptor (T b).2.2.1 = some (if isB q b = true then FieldType.boolean else .int) := by
  intro q C T N e
  have hq : q < 10 := (List.getElem?_eq_some_iff.mp e).1
  match q, hq, e with
  | 0, _, e => cases e; exact ⟨tyX0, tyX0_ok, nmX0, by decide +kernel⟩
  | 1, _, e => cases e; exact ⟨tyX1, tyX1_ok, nmX1, by decide +kernel⟩
  | 2, _, e => cases e; exact ⟨tyX2, tyX2_ok, nmX2, by decide +kernel⟩
  | 3, _, e => cases e; exact ⟨tyX4, tyX4_ok, nmX4, by decide +kernel⟩
  | 4, _, e => cases e; exact ⟨tyX5, tyX5_ok, nmX5, by decide +kernel⟩
  | 5, _, e => cases e; exact ⟨tyX6, tyX6_ok, nmX6, by decide +kernel⟩
  | 6, _, e => cases e; exact ⟨tyX7, tyX7_ok, nmX7, by decide +kernel⟩
  | 7, _, e => cases e; exact ⟨tyX8, tyX8_ok, nmX8, by decide +kernel⟩
  | 8, _, e => cases e; exact ⟨tyX9, tyX9_ok, nmX9, by decide +kernel⟩
  | 9, _, e => cases e; exact ⟨tyX10, tyX10_ok, nmX10, by decide +kernel⟩
/-! ===== rows: an instruction of the machine, over the world ===== -/
section ROWS
variable {X : XT} {p : Program} {l : Launch} {e : Env} {R : Room} {s : State} {m : MethodId} {args : Array Value} {below : List Frame} {meth : Method} {c : Code} {A : Nat → Prop} {SC : Prop} {own nL d cells slots : Nat} {cc : ByteArray} {Qf : State → Prop}
variable {pc : Nat} {al : LV} {as : List AV} {σ : ST}
theorem vok_tl {v : AV} {as : List AV} (h : ∀ w ∈ v :: as, VOK w) : ∀ w ∈ as, VOK w := fun w hw => h w (List.mem_cons_of_mem _ hw)
theorem vok_cons {v : AV} {as : List AV} (h1 : VOK v) (h : ∀ w ∈ as, VOK w) : ∀ w ∈ v :: as, VOK w := fun w hw => (List.mem_cons.mp hw).elim (fun e => by rw [e]; exact h1) (h w)
theorem gv_rf {v : Nat × Nat} (h : isRf v.1 = true) : ∃ a, gv X (.inr v) = .ref a := by
  obtain ⟨q, k⟩ := v
  have h : (Nat.blt q 62 || Nat.beq q 70 || Nat.beq q 71) = true := h
  rw [Bool.or_eq_true, Bool.or_eq_true, Nat.beq_eq, Nat.beq_eq] at h
  by_cases h1 : q < 60
  · exact ⟨x_ad X k, by simp only [gv, h1, if_true]⟩
  · by_cases h2 : q = 60
    · exact ⟨_, by subst h2; rfl⟩
    · by_cases h3 : q = 61
      · exact ⟨_, by subst h3; rfl⟩
      · rcases h with (h | h) | h
        · have : q ≤ 61 := by simpa [Nat.blt] using h
          omega
        · exact ⟨_, by subst h; rfl⟩
        · exact ⟨_, by subst h; rfl⟩
theorem r_push (C : Cx X p R s m args c A SC own nL d cells slots cc) {v : AV} {n : Nat} (hv : VOK v) (hw : ∀ (ls : Array Slot) (H : Heap) (locs : List Loc) (rest : List Value), LOK X nL ls al → va_P (x_D X) cls (wsO X σ) H → va_S A s.heap H locs → W p l e R s m args below meth c H locs cells slots Qf (F0 m (pc + n) ls (gv X v :: rest)) → W p l e R s m args below meth c H locs cells slots Qf (F0 m pc ls rest))
    (k : Gs X p l e R s m args below meth c A nL cells slots Qf (pc + n) al (v :: as) σ) : Gs X p l e R s m args below meth c A nL cells slots Qf pc al as σ := by
  intro ls H locs hl hs hP hS
  exact hw ls H locs _ hl hP hS (k ls H locs hl (vok_cons hv hs) hP hS)
theorem r_bin (C : Cx X p R s m args c A SC own nL d cells slots cc) {x y z : Int32} {n : Nat} (hw : ∀ (ls : Array Slot) (H : Heap) (locs : List Loc) (rest : List Value), W p l e R s m args below meth c H locs cells slots Qf (F0 m (pc + n) ls (.int z :: rest)) → W p l e R s m args below meth c H locs cells slots Qf (F0 m pc ls (.int y :: .int x :: rest)))
    (k : Gs X p l e R s m args below meth c A nL cells slots Qf (pc + n) al (.inl z :: as) σ) : Gs X p l e R s m args below meth c A nL cells slots Qf pc al (.inl y :: .inl x :: as) σ := by
  intro ls H locs hl hs hP hS
  exact hw ls H locs _ (k ls H locs hl (vok_cons trivial (vok_tl (vok_tl hs))) hP hS)
theorem r_un (C : Cx X p R s m args c A SC own nL d cells slots cc) {x z : Int32} {n : Nat} (hw : ∀ (ls : Array Slot) (H : Heap) (locs : List Loc) (rest : List Value), W p l e R s m args below meth c H locs cells slots Qf (F0 m (pc + n) ls (.int z :: rest)) → W p l e R s m args below meth c H locs cells slots Qf (F0 m pc ls (.int x :: rest)))
    (k : Gs X p l e R s m args below meth c A nL cells slots Qf (pc + n) al (.inl z :: as) σ) : Gs X p l e R s m args below meth c A nL cells slots Qf pc al (.inl x :: as) σ := by
  intro ls H locs hl hs hP hS
  exact hw ls H locs _ (k ls H locs hl (vok_cons trivial (vok_tl hs)) hP hS)
theorem r_br1 (C : Cx X p R s m args c A SC own nL d cells slots cc) {x : Int32} {cnd : Prop} {t : Nat} (hw : ∀ (ls : Array Slot) (H : Heap) (locs : List Loc) (rest : List Value), (cnd → W p l e R s m args below meth c H locs cells slots Qf (F0 m t ls rest)) → (¬ cnd → W p l e R s m args below meth c H locs cells slots Qf (F0 m (pc + 3) ls rest)) → W p l e R s m args below meth c H locs cells slots Qf (F0 m pc ls (.int x :: rest)))
    (k1 : cnd → Gs X p l e R s m args below meth c A nL cells slots Qf t al as σ) (k2 : ¬ cnd → Gs X p l e R s m args below meth c A nL cells slots Qf (pc + 3) al as σ) : Gs X p l e R s m args below meth c A nL cells slots Qf pc al (.inl x :: as) σ := by
  intro ls H locs hl hs hP hS
  exact hw ls H locs _ (fun h => k1 h ls H locs hl (vok_tl hs) hP hS) (fun h => k2 h ls H locs hl (vok_tl hs) hP hS)
theorem r_br2 (C : Cx X p R s m args c A SC own nL d cells slots cc) {x y : Int32} {cnd : Prop} {t : Nat} (hw : ∀ (ls : Array Slot) (H : Heap) (locs : List Loc) (rest : List Value), (cnd → W p l e R s m args below meth c H locs cells slots Qf (F0 m t ls rest)) → (¬ cnd → W p l e R s m args below meth c H locs cells slots Qf (F0 m (pc + 3) ls rest)) → W p l e R s m args below meth c H locs cells slots Qf (F0 m pc ls (.int y :: .int x :: rest)))
    (k1 : cnd → Gs X p l e R s m args below meth c A nL cells slots Qf t al as σ) (k2 : ¬ cnd → Gs X p l e R s m args below meth c A nL cells slots Qf (pc + 3) al as σ) : Gs X p l e R s m args below meth c A nL cells slots Qf pc al (.inl y :: .inl x :: as) σ := by
  intro ls H locs hl hs hP hS
  exact hw ls H locs _ (fun h => k1 h ls H locs hl (vok_tl (vok_tl hs)) hP hS) (fun h => k2 h ls H locs hl (vok_tl (vok_tl hs)) hP hS)
theorem r_jmp {t : Nat} (hw : ∀ (ls : Array Slot) (H : Heap) (locs : List Loc) (rest : List Value), W p l e R s m args below meth c H locs cells slots Qf (F0 m t ls rest) → W p l e R s m args below meth c H locs cells slots Qf (F0 m pc ls rest))
    (k : Gs X p l e R s m args below meth c A nL cells slots Qf t al as σ) : Gs X p l e R s m args below meth c A nL cells slots Qf pc al as σ := by
  intro ls H locs hl hs hP hS
  exact hw ls H locs _ (k ls H locs hl hs hP hS)
theorem r_sto (C : Cx X p R s m args c A SC own nL d cells slots cc) {v : AV} {a n : Nat} (hw : ∀ (ls : Array Slot) (H : Heap) (locs : List Loc) (rest : List Value), LOK X nL ls al → a < nL → VOK v → (∀ ls', LOK X nL ls' (lst al a v) → W p l e R s m args below meth c H locs cells slots Qf (F0 m (pc + n) ls' rest)) → W p l e R s m args below meth c H locs cells slots Qf (F0 m pc ls (gv X v :: rest)))
    (ha : a < nL) (k : Gs X p l e R s m args below meth c A nL cells slots Qf (pc + n) (lst al a v) as σ) : Gs X p l e R s m args below meth c A nL cells slots Qf pc al (v :: as) σ := by
  intro ls H locs hl hs hP hS
  exact hw ls H locs _ hl ha (hs v List.mem_cons_self) (fun ls' hl' => k ls' H locs hl' (vok_tl hs) hP hS)
/-- a cell of the layout, read -/
theorem w_cell (C : Cx X p R s m args c A SC own nL d cells slots cc) {k : Nat} (hk : k < kN) {σ : ST} : (wsO X σ)[k]? = some (x_ad X k, cellE X σ k) := wsO_get hk
theorem cell_obj {X : XT} {σ : ST} {k : Nat} (h : lay k < 20) : cellE X σ k = .inr (lay k, (List.range (nF (lay k))).map (fVal X σ k (lay k))) := by unfold cellE; rw [if_pos h]
theorem cell_int {X : XT} {σ : ST} {k : Nat} (h : isIA (lay k) = true) : cellE X σ k = .inl (x_cA X 0, alen (lay k), .inl (σ k)) := by
  unfold isIA at h
  rw [Bool.and_eq_true, Nat.ble_eq, Nat.ble_eq] at h
  unfold cellE
  rw [if_neg (by omega), if_pos (by omega)]
theorem cell_bool {X : XT} {σ : ST} {k : Nat} (h : isZA (lay k) = true) : cellE X σ k = .inl (x_cA X 1, alen (lay k), .inl (σ k)) := by
  unfold isZA at h
  rw [Bool.and_eq_true, Nat.ble_eq, Nat.ble_eq] at h
  unfold cellE
  rw [if_neg (by omega), if_neg (by omega), if_pos (by omega)]
theorem cell_ref {X : XT} {σ : ST} {k : Nat} (h : isRA (lay k) = true) : cellE X σ k = .inl (x_cA X (rC (lay k)), alen (lay k), .inr (.inr (.inr (.inr (fun i => some (x_ad X (rF (lay k) + rS (lay k) * i))))))) := by
  unfold isRA at h
  rw [Bool.and_eq_true, Nat.ble_eq, Nat.ble_eq] at h
  unfold cellE
  rw [if_neg (by omega), if_neg (by omega), if_neg (by omega)]
theorem vok_cell {q k : Nat} (hq : q < 60) (h : VOK (.inr (q, k))) : k < kN ∧ lay k = q := by
  unfold VOK at h
  dsimp only at h
  rw [if_pos hq] at h
  exact h
theorem up_other {σ : ST} {k j : Nat} {x : Int32} : ∀ a, a ≠ k → up σ k j x a = σ a := by
  intro a ha
  funext b
  unfold up
  rw [if_neg (fun h => ha h.1)]
theorem up_self {σ : ST} {k j : Nat} {x : Int32} : up σ k j x k = upd (σ k) j x := by
  funext b
  unfold up upd
  by_cases h : b = j
  · rw [if_pos ⟨rfl, h⟩, if_pos h]
  · rw [if_neg (fun q => h q.2), if_neg h]
theorem r_iald (C : Cx X p R s m args c A SC own nL d cells slots cc) {i : Int32} {q k : Nat} (hq : isIA q = true) (hin : vp_in i (alen q)) (hd : decode cc pc = .ok (.iaload, 1))
    (kk : Gs X p l e R s m args below meth c A nL cells slots Qf (pc + 1) al (.inl (σ k i.toNatClampNeg) :: as) σ) : Gs X p l e R s m args below meth c A nL cells slots Qf pc al (.inl i :: .inr (q, k) :: as) σ := by
  intro ls H locs hl hs hP hS
  obtain ⟨hx, hb, -, -, -, hWk, -⟩ := C
  have hq60 : q < 60 := by unfold isIA at hq; rw [Bool.and_eq_true, Nat.ble_eq, Nat.ble_eq] at hq; omega
  obtain ⟨hk, rfl⟩ := vok_cell hq60 (hs _ (List.mem_cons_of_mem _ List.mem_cons_self))
  have hc := wsO_get (X := X) (σ := σ) hk
  rw [cell_int hq] at hc
  simp only [List.map_cons, gv_cell hq60, gv_int]
  refine va_iald hx hb hWk.1 hP k 0 hc rfl hin hd ?_
  exact kk ls H locs hl (vok_cons trivial (vok_tl (vok_tl hs))) hP hS
theorem r_zald (C : Cx X p R s m args c A SC own nL d cells slots cc) {i : Int32} {q k : Nat} (hq : isZA q = true) (hin : vp_in i (alen q)) (hd : decode cc pc = .ok (.baload, 1))
    (kk : Gs X p l e R s m args below meth c A nL cells slots Qf (pc + 1) al (.inl (σ k i.toNatClampNeg) :: as) σ) : Gs X p l e R s m args below meth c A nL cells slots Qf pc al (.inl i :: .inr (q, k) :: as) σ := by
  intro ls H locs hl hs hP hS
  obtain ⟨hx, hb, -, -, -, hWk, -⟩ := C
  have hq60 : q < 60 := by unfold isZA at hq; rw [Bool.and_eq_true, Nat.ble_eq, Nat.ble_eq] at hq; omega
  obtain ⟨hk, rfl⟩ := vok_cell hq60 (hs _ (List.mem_cons_of_mem _ List.mem_cons_self))
  have hc := wsO_get (X := X) (σ := σ) hk
  rw [cell_bool hq] at hc
  simp only [List.map_cons, gv_cell hq60, gv_int]
  refine va_zald hx hb hWk.1 hP k 1 hc rfl hin hd ?_
  exact kk ls H locs hl (vok_cons trivial (vok_tl (vok_tl hs))) hP hS
theorem r_iast (C : Cx X p R s m args c A SC own nL d cells slots cc) {i v : Int32} {q k : Nat} (hq : isIA q = true) (hin : vp_in i (alen q)) (hd : decode cc pc = .ok (.iastore, 1))
    (kk : Gs X p l e R s m args below meth c A nL cells slots Qf (pc + 1) al as (up σ k i.toNatClampNeg v)) : Gs X p l e R s m args below meth c A nL cells slots Qf pc al (.inl v :: .inl i :: .inr (q, k) :: as) σ := by
  intro ls H locs hl hs hP hS
  obtain ⟨hx, hb, -, -, -, hWk, hAx, -⟩ := C
  have hq60 : q < 60 := by unfold isIA at hq; rw [Bool.and_eq_true, Nat.ble_eq, Nat.ble_eq] at hq; omega
  obtain ⟨hk, rfl⟩ := vok_cell hq60 (hs _ (List.mem_cons_of_mem _ (List.mem_cons_of_mem _ List.mem_cons_self)))
  have hc := wsO_get (X := X) (σ := σ) hk
  rw [cell_int hq] at hc
  simp only [List.map_cons, gv_cell hq60, gv_int]
  refine va_iast hx hb hWk.1 hP (wsO_D hWk.2.1 hAx) hS k 0 hc rfl hin hd (fun H1 locs1 hP1 hD1 hS1 => ?_)
  rw [wsO_set (σ' := up σ k i.toNatClampNeg v) hk up_other (by rw [cell_int hq, up_self])] at hP1
  exact kk ls H1 locs1 hl (vok_tl (vok_tl (vok_tl hs))) hP1 hS1
theorem r_zast (C : Cx X p R s m args c A SC own nL d cells slots cc) {i v : Int32} {q k : Nat} (hq : isZA q = true) (hin : vp_in i (alen q)) (hd : decode cc pc = .ok (.bastore, 1))
    (kk : Gs X p l e R s m args below meth c A nL cells slots Qf (pc + 1) al as (up σ k i.toNatClampNeg (vp_nar .boolean v))) : Gs X p l e R s m args below meth c A nL cells slots Qf pc al (.inl v :: .inl i :: .inr (q, k) :: as) σ := by
  intro ls H locs hl hs hP hS
  obtain ⟨hx, hb, -, -, -, hWk, hAx, -⟩ := C
  have hq60 : q < 60 := by unfold isZA at hq; rw [Bool.and_eq_true, Nat.ble_eq, Nat.ble_eq] at hq; omega
  obtain ⟨hk, rfl⟩ := vok_cell hq60 (hs _ (List.mem_cons_of_mem _ (List.mem_cons_of_mem _ List.mem_cons_self)))
  have hc := wsO_get (X := X) (σ := σ) hk
  rw [cell_bool hq] at hc
  simp only [List.map_cons, gv_cell hq60, gv_int]
  refine va_zast hx hb hWk.1 hP (wsO_D hWk.2.1 hAx) hS k 1 hc rfl hin hd (fun H1 locs1 hP1 hD1 hS1 => ?_)
  rw [wsO_set (σ' := up σ k i.toNatClampNeg (vp_nar .boolean v)) hk up_other (by rw [cell_bool hq, up_self])] at hP1
  exact kk ls H1 locs1 hl (vok_tl (vok_tl (vok_tl hs))) hP1 hS1
theorem r_aald (C : Cx X p R s m args c A SC own nL d cells slots cc) {i : Int32} {q k : Nat} (hq : isRA q = true) (hin : vp_in i (alen q)) (hd : decode cc pc = .ok (.aaload, 1))
    (kk : Gs X p l e R s m args below meth c A nL cells slots Qf (pc + 1) al (.inr (rK q, rF q + rS q * i.toNatClampNeg) :: as) σ) : Gs X p l e R s m args below meth c A nL cells slots Qf pc al (.inl i :: .inr (q, k) :: as) σ := by
  intro ls H locs hl hs hP hS
  obtain ⟨hx, hb, -, -, -, hWk, -⟩ := C
  have hq5 := hq
  unfold isRA at hq5
  rw [Bool.and_eq_true, Nat.ble_eq, Nat.ble_eq] at hq5
  have hq60 : q < 60 := by omega
  obtain ⟨hk, rfl⟩ := vok_cell hq60 (hs _ (List.mem_cons_of_mem _ List.mem_cons_self))
  have hc := wsO_get (X := X) (σ := σ) hk
  rw [cell_ref hq] at hc
  simp only [List.map_cons, gv_cell hq60, gv_int]
  have hlt : i.toNatClampNeg < alen (lay k) := Nat.not_le.mp fun z => hin (Or.inr z)
  have hly := rA_ok k hk (by omega) hq60 _ hlt
  have hrk : rK (lay k) < 20 := by
    unfold rK
    split <;> omega
  have hty : (tyl X)[rC (lay k)]? = some (x_cA X (rC (lay k)), .object (if lay k = 52 then "DoorTears$Cup" else "DoorTears$Lane")) := by
    rcases (show lay k = 50 ∨ lay k = 51 ∨ lay k = 52 by omega) with h | h | h <;> rw [h] <;> rfl
  refine va_aldq hx hb hWk.1 hP k (rC (lay k)) hc hty hin hd ?_
  have := kk ls H locs hl (vok_cons (v := .inr (rK (lay k), rF (lay k) + rS (lay k) * i.toNatClampNeg)) (by
    unfold VOK
    dsimp only
    rw [if_pos (by omega)]
    exact ⟨lay_lt (by omega), hly⟩) (vok_tl (vok_tl hs))) hP hS
  simp only [List.map_cons, gv_cell (show rK (lay k) < 60 by omega)] at this
  exact this
theorem r_getf (C : Cx X p R s m args c A SC own nL d cells slots cc) {q k b idx : Nat} {C0 : String} {T : u_T} {N : Nat} (hc0 : cls[q]? = some (C0, T, N)) (hbN : b < N) (hlk : Cond.fieldLink (oName own) idx (T b).1 (T b).2.1 (T b).2.2.1 ∈ TS) (hd : decode cc pc = .ok (.getfield idx, 3)) (hq : q < 20)
    (kk : Gs X p l e R s m args below meth c A nL cells slots Qf (pc + 3) al ((match fT q b with | none => .inl (σ k b) | some (q', md, v) => .inr (q', tg md v k)) :: as) σ) : Gs X p l e R s m args below meth c A nL cells slots Qf pc al (.inr (q, k) :: as) σ := by
  intro ls H locs hl hs hP hS
  obtain ⟨hx, hb, -, hown, hts, hWk, -⟩ := C
  have hq60 : q < 60 := by omega
  obtain ⟨hk, rfl⟩ := vok_cell hq60 (hs _ List.mem_cons_self)
  have hc := wsO_get (X := X) (σ := σ) hk
  rw [cell_obj hq] at hc
  simp only [List.map_cons, gv_cell hq60]
  have hN := (lay_c k hk hq).2 C0 T N hc0
  subst hN
  have hfv : ((List.range (nF (lay k))).map (fVal X σ k (lay k)))[b]? = some (fVal X σ k (lay k) b) := by
    rw [List.getElem?_map, List.getElem?_range hbN]
    rfl
  refine va_get hx hb hts (uw_ok _ _ _ _ hc0) hown hWk.1 hP k hc hc0 b hbN (hts _ hlk) (fun _ h => h) hfv hd ?_
  have hvk : VOK (match fT (lay k) b with | none => .inl (σ k b) | some (q', md, v) => .inr (q', tg md v k)) ∧ gv X (match fT (lay k) b with | none => .inl (σ k b) | some (q', md, v) => .inr (q', tg md v k)) = fVal X σ k (lay k) b := by
    unfold fVal
    cases hf : fT (lay k) b with
    | none => exact ⟨trivial, rfl⟩
    | some w =>
      obtain ⟨q', md, v⟩ := w
      obtain ⟨g1, g2⟩ := lay_ok k hk hq b hbN q' md v hf
      refine ⟨?_, by simp only [gv_cell g1]⟩
      simp only [VOK, if_pos g1]
      exact ⟨lay_lt (by omega), g2⟩
  have := kk ls H locs hl (vok_cons hvk.1 (vok_tl hs)) hP hS
  simp only [List.map_cons] at this
  rw [hvk.2] at this
  exact this
theorem r_putf (C : Cx X p R s m args c A SC own nL d cells slots cc) {q k b idx : Nat} {v : Int32} {C0 : String} {T : u_T} {N : Nat} (hc0 : cls[q]? = some (C0, T, N)) (hbN : b < N) (hlk : Cond.fieldLink (oName own) idx (T b).1 (T b).2.1 (T b).2.2.1 ∈ TS) (hd : decode cc pc = .ok (.putfield idx, 3)) (hq : q < 20) (hf : fT q b = none)
    (hv : isB q b = true → v = 0 ∨ v = 1)
    (kk : Gs X p l e R s m args below meth c A nL cells slots Qf (pc + 3) al as (up σ k b v)) : Gs X p l e R s m args below meth c A nL cells slots Qf pc al (.inl v :: .inr (q, k) :: as) σ := by
  intro ls H locs hl hs hP hS
  obtain ⟨hx, hb, -, hown, hts, hWk, hAx, -⟩ := C
  have hq60 : q < 60 := by omega
  obtain ⟨hk, rfl⟩ := vok_cell hq60 (hs _ (List.mem_cons_of_mem _ List.mem_cons_self))
  have hc := wsO_get (X := X) (σ := σ) hk
  rw [cell_obj hq] at hc
  simp only [List.map_cons, gv_cell hq60, gv_int]
  have hN := (lay_c k hk hq).2 C0 T N hc0
  subst hN
  obtain ⟨ty0, hty, hnm, hkey⟩ := fld_ok _ _ _ _ hc0
  obtain ⟨hfin, hd5⟩ := hkey b hbN hf
  have hfit : narrow (if isB (lay k) b = true then FieldType.boolean else .int) (.int v) = .int v ∧ fits (if isB (lay k) b = true then FieldType.boolean else .int) (.int v) = true := by
    by_cases h9 : isB (lay k) b = true
    · rw [if_pos h9]
      rcases hv h9 with e | e <;> subst e <;> exact ⟨by decide, by decide⟩
    · rw [if_neg h9]
      exact ⟨rfl, rfl⟩
  refine va_put hx hb hts (uw_ok _ _ _ _ hc0) ty0 hty hnm hown hWk.1 hP (wsO_D hWk.2.1 hAx) hS k hc hc0 b hbN (hts _ hlk) (fun _ h => h) hfin hd5 hfit.1 hfit.2 (by rw [List.length_map, List.length_range]; exact hbN) hd (fun H1 locs1 hP1 hD1 hS1 => ?_)
  rw [wsO_set (σ' := up σ k b v) hk up_other (by
    rw [cell_obj hq]
    congr 2
    apply List.ext_getElem?
    intro j
    by_cases hj : j < nF (lay k)
    · rw [List.getElem?_map, List.getElem?_range hj]
      by_cases hjb : j = b
      · subst hjb
        rw [List.getElem?_set_self (by rw [List.length_map, List.length_range]; exact hj)]
        show some (fVal X (up σ k j v) k (lay k) j) = _
        unfold fVal
        rw [hf]
        show some (Value.int (up σ k j v k j)) = _
        unfold up
        rw [if_pos ⟨rfl, rfl⟩]
      · rw [List.getElem?_set_ne (Ne.symm hjb), List.getElem?_map, List.getElem?_range hj]
        show some (fVal X (up σ k b v) k (lay k) j) = some (fVal X σ k (lay k) j)
        unfold fVal
        unfold up
        rw [if_neg (fun h => hjb h.2)]
    · rw [List.getElem?_eq_none (by rw [List.length_map, List.length_range]; omega), List.getElem?_eq_none (by rw [List.length_set, List.length_map, List.length_range]; omega)])] at hP1
  exact kk ls H1 locs1 hl (vok_tl (vok_tl hs)) hP1 hS1
end ROWS
