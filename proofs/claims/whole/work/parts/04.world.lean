/-! ===== THE WORLD: what the machine's heap holds for a store ===== -/
def fVal (X : XT) (σ : ST) (k q j : Nat) : Value := match fT q j with
  | none => .int (σ k j)
  | some (_, md, v) => .ref (x_ad X (tg md v k))
def cellE (X : XT) (σ : ST) (k : Nat) : va_E :=
  if lay k < 20 then .inr (lay k, (List.range (nF (lay k))).map (fVal X σ k (lay k)))
  else if lay k < 40 then .inl (x_cA X 0, alen (lay k), .inl (σ k))
  else if lay k < 50 then .inl (x_cA X 1, alen (lay k), .inl (σ k))
  else .inl (x_cA X (rC (lay k)), alen (lay k), .inr (.inr (.inr (.inr (fun i => some (x_ad X (rF (lay k) + rS (lay k) * i)))))))
def wsO (X : XT) (σ : ST) : va_W := (List.range kN).map (fun k => (x_ad X k, cellE X σ k))
def tyl (X : XT) : List (ClassId × FieldType) := [(x_cA X 0, .int), (x_cA X 1, .boolean), (x_cA X 2, .object "DoorTears$Lane"), (x_cA X 3, .object "DoorTears$Cup")]
def Ax (X : XT) : Nat → Prop := fun q => ∃ k, k < kN ∧ q = x_ad X k
def Wk (X : XT) (A : Nat → Prop) (U : State) (H : Heap) : Prop :=
  va_K (x_D X) cls (tyl X) U ∧ (∀ i j, i < kN → j < kN → x_ad X i = x_ad X j → i = j) ∧
  (∀ j, j < 5 → va_Z "DoorTears$Kinds" (sNm j) "[I" (.ref (x_sA X j)) A U H ∧ va_T .int (x_sA X j) 5 (fun i => .int (stT j i)) A U H) ∧
  va_Z "java/lang/String" "COMPACT_STRINGS" "Z" (.int 1) A U H ∧
  va_Z "jdk/internal/util/Preconditions" "SIOOBE_FORMATTER" "Ljava/util/function/BiFunction;" (x_fm X) A U H ∧ (x_fm X = .null ∨ ∃ a, x_fm X = .ref a) ∧
  vk_S 9 sLen sByt (x_kK X) (x_kV X) A U H ∧ (∀ i, i < 9 → vk_R "DoorTears$Reader" (sIx i) (sTx i) (x_kK X i) U)
theorem Wk.moved {X : XT} {A : Nat → Prop} {s U : State} {H : Heap} (h : Wk X A s s.heap) (hW : s.WarmedH U.vm) (hq : ∀ a : Nat, a < s.heap.size → ¬ A a → H[a]? = s.heap[a]?) : Wk X A U H := by
  obtain ⟨h1, h2, h3, h4, h5, h6, h7, h8⟩ := h
  refine ⟨va_K.moved hW.alike h1, h2, fun j hj => ⟨((h3 j hj).1.moved hW.alike).kept hq, ((h3 j hj).2.moved hW.alike).kept hq⟩, (h4.moved hW.alike).kept hq, (h5.moved hW.alike).kept hq, h6, (h7.moved hW.alike).kept hq, fun i hi => (h8 i hi).warm hW⟩
theorem Wk.narrow {X : XT} {A B : Nat → Prop} {U : State} {H : Heap} (h : Wk X A U H) (hAB : ∀ q, B q → A q) : Wk X B U H := by
  obtain ⟨h1, h2, h3, h4, h5, h6, h7, h8⟩ := h
  exact ⟨h1, h2, fun j hj => ⟨(h3 j hj).1.narrow hAB, (h3 j hj).2.narrow hAB⟩, h4.narrow hAB, h5.narrow hAB, h6, h7.narrow hAB, h8⟩
/-- a value of the machine -/
def gv (X : XT) : AV → Value
  | .inl x => .int x
  | .inr (q, k) => if q < 60 then .ref (x_ad X k) else if q = 60 then .ref (x_b X) else if q = 61 then .ref (x_sA X k) else if q = 70 then .ref (x_kK X k) else if q = 71 then .ref (x_kV X k) else x_fm X
def VOK : AV → Prop
  | .inl _ => True
  | .inr (q, k) => if q < 60 then (k < kN ∧ lay k = q) else if q = 60 then True else if q = 61 then k < 5 else if q = 70 then k < 9 else if q = 71 then k < 9 else True
theorem gv_int {X : XT} {x : Int32} : gv X (.inl x) = .int x := rfl
theorem gv_ref {X : XT} {v : Nat × Nat} (h : v.1 < 80) : ∃ a, gv X (.inr v) = .ref a ∨ (gv X (.inr v) = x_fm X ∧ v.1 < 80) := by
  obtain ⟨q, k⟩ := v
  unfold gv
  dsimp only
  split
  · exact ⟨_, Or.inl rfl⟩
  · split
    · exact ⟨_, Or.inl rfl⟩
    · split
      · exact ⟨_, Or.inl rfl⟩
      · split
        · exact ⟨_, Or.inl rfl⟩
        · split
          · exact ⟨_, Or.inl rfl⟩
          · exact ⟨0, Or.inr ⟨rfl, h⟩⟩
theorem gv_cell {X : XT} {q k : Nat} (h : q < 60) : gv X (.inr (q, k)) = .ref (x_ad X k) := by simp [gv, h]
theorem gv_cat {X : XT} (h : x_fm X = .null ∨ ∃ a, x_fm X = .ref a) (v : AV) : (gv X v).category = 1 := by
  cases v with
  | inl x => rfl
  | inr v =>
    obtain ⟨q, k⟩ := v
    unfold gv
    dsimp only
    (repeat' split) <;> first | rfl | (rcases h with h | ⟨a, h⟩ <;> rw [h] <;> rfl)
theorem lay_lt {k : Nat} (h : lay k < 99) : k < kN := by
  rcases Nat.lt_or_ge k kN with q | q
  · exact q
  · have h9 : layL.length ≤ k := q
    have : lay k = 99 := by unfold lay; rw [List.getD_eq_getElem?_getD, List.getElem?_eq_none h9]; rfl
    omega
theorem wsO_get {X : XT} {σ : ST} {k : Nat} (h : k < kN) : (wsO X σ)[k]? = some (x_ad X k, cellE X σ k) := by
  unfold wsO
  rw [List.getElem?_map, List.getElem?_range h]
  rfl
theorem wsO_len {X : XT} {σ : ST} : (wsO X σ).length = kN := by unfold wsO; rw [List.length_map, List.length_range]
theorem wsO_inv {X : XT} {σ : ST} {k : Nat} {q : Nat × va_E} (h : (wsO X σ)[k]? = some q) : k < kN ∧ q = (x_ad X k, cellE X σ k) := by
  have hk : k < kN := by have := (List.getElem?_eq_some_iff.mp h).1; rwa [wsO_len] at this
  exact ⟨hk, (Option.some.inj ((wsO_get hk).symm.trans h)).symm⟩
theorem wsO_set {X : XT} {σ σ' : ST} {k : Nat} {e : va_E} (hk : k < kN) (h1 : ∀ j, j ≠ k → σ' j = σ j) (h2 : cellE X σ' k = e) : (wsO X σ).set k (x_ad X k, e) = wsO X σ' := by
  apply List.ext_getElem?
  intro j
  by_cases hj : j = k
  · subst hj
    rw [List.getElem?_set_self (by rw [wsO_len]; exact hk), wsO_get hk, h2]
  · rw [List.getElem?_set_ne (Ne.symm hj)]
    by_cases hjk : j < kN
    · rw [wsO_get hjk, wsO_get hjk]
      have hf : ∀ q, fVal X σ' j q = fVal X σ j q := fun q => by
        funext i
        unfold fVal
        rw [h1 j hj]
      unfold cellE
      rw [h1 j hj, hf]
    · rw [List.getElem?_eq_none (by rw [wsO_len]; omega), List.getElem?_eq_none (by rw [wsO_len]; omega)]
theorem wsO_D {X : XT} {A : Nat → Prop} {σ : ST} (h2 : ∀ i j, i < kN → j < kN → x_ad X i = x_ad X j → i = j) (hA : ∀ q, Ax X q → A q) : va_D A (wsO X σ) := by
  refine ⟨fun i j p q hp hq e => ?_, fun k q hq => ?_⟩
  · obtain ⟨h3, rfl⟩ := wsO_inv hp
    obtain ⟨h4, rfl⟩ := wsO_inv hq
    exact h2 i j h3 h4 e
  · obtain ⟨h3, rfl⟩ := wsO_inv hq
    exact hA _ ⟨k, h3, rfl⟩
/-- the layout: where a reference field leads -/
def layOK : Bool := (List.range kN).all fun k => decide (lay k < 20) → ((List.range (nF (lay k))).all fun j => match fT (lay k) j with
  | none => true
  | some (q, md, v) => decide (q < 60) && decide (lay (tg md v k) = q))
theorem lay_ok : ∀ k, k < kN → lay k < 20 → ∀ j, j < nF (lay k) → ∀ q md v, fT (lay k) j = some (q, md, v) → q < 60 ∧ lay (tg md v k) = q := by
  have h : ∀ k, k < kN → lay k < 20 → ∀ j, j < nF (lay k) → (match fT (lay k) j with | none => true | some (q, md, v) => decide (q < 60) && decide (lay (tg md v k) = q)) = true := by decide +kernel
  intro k hk hq j hj q md v e
  have := h k hk hq j hj
  rw [e] at this
  simpa using this
theorem rA_ok : ∀ k, k < kN → ¬ lay k < 50 → lay k < 60 → ∀ i, i < alen (lay k) → lay (rF (lay k) + rS (lay k) * i) = rK (lay k) := by decide +kernel
theorem lay_k : ∀ k, k < kN → lay k < 20 ∨ (20 ≤ lay k ∧ lay k < 40) ∨ (40 ≤ lay k ∧ lay k < 50) ∨ (50 ≤ lay k ∧ lay k < 53) := by decide +kernel
theorem lay_c : ∀ k, k < kN → lay k < 20 → (cls[lay k]?).isSome = true ∧ ∀ C T N, cls[lay k]? = some (C, T, N) → N = nF (lay k) := by
  intro k hk h
  have h0 : ∀ k, k < kN → lay k < 20 → lay k < 10 := by decide +kernel
  have := h0 k hk h
  generalize lay k = q at this
  match q, this with
  | 0, _ => exact ⟨rfl, fun C T N e => by cases e; rfl⟩
  | 1, _ => exact ⟨rfl, fun C T N e => by cases e; rfl⟩
  | 2, _ => exact ⟨rfl, fun C T N e => by cases e; rfl⟩
  | 3, _ => exact ⟨rfl, fun C T N e => by cases e; rfl⟩
  | 4, _ => exact ⟨rfl, fun C T N e => by cases e; rfl⟩
  | 5, _ => exact ⟨rfl, fun C T N e => by cases e; rfl⟩
  | 6, _ => exact ⟨rfl, fun C T N e => by cases e; rfl⟩
  | 7, _ => exact ⟨rfl, fun C T N e => by cases e; rfl⟩
  | 8, _ => exact ⟨rfl, fun C T N e => by cases e; rfl⟩
  | 9, _ => exact ⟨rfl, fun C T N e => by cases e; rfl⟩
/-! ===== words of the tables by their places ===== -/
theorem TS_good : ∀ w ∈ TS, goodWord w = true := fun w h => (List.mem_filter.mp h).2
set_option maxRecDepth 100000 in
theorem lkF_ok : ∀ (c o j ci f p : Nat), lnkF[c]? = some (o, j, ci, f, p) → ∃ (C : String) (T : u_T) (N : Nat), cls[ci]? = some (C, T, N) ∧ f < N ∧ Cond.fieldLink (oName o) j (T f).1 (T f).2.1 (T f).2.2.1 ∈ TS := by
  have h : (lnkF.all fun q => match cls[q.2.2.1]? with
    | none => false
    | some r => decide (q.2.2.2.1 < r.2.2) && decide (lw_tbl[q.2.2.2.2]? = some (Cond.fieldLink (oName q.1) q.2.1 (r.2.1 q.2.2.2.1).1 (r.2.1 q.2.2.2.1).2.1 (r.2.1 q.2.2.2.1).2.2.1))) = true := by decide +kernel
  intro c o j ci f p e
  have h1 := List.all_eq_true.mp h _ (List.mem_of_getElem? e)
  dsimp only at h1
  cases hc : cls[ci]? with
  | none => rw [hc] at h1; cases h1
  | some r =>
    rw [hc] at h1
    obtain ⟨C, T, N⟩ := r
    simp only [Bool.and_eq_true, decide_eq_true_eq] at h1
    exact ⟨C, T, N, rfl, h1.1, TS_at h1.2 rfl⟩
set_option maxRecDepth 100000 in
theorem lkM_ok : ∀ (c o j d p : Nat), lnkM[c]? = some (o, j, d, p) → Cond.methodLink (oName o) j (mG d).1 ∈ TS := by
  have h : (lnkM.all fun q => decide (lw_tbl[q.2.2.2]? = some (Cond.methodLink (oName q.1) q.2.1 (mG q.2.2.1).1))) = true := by decide +kernel
  intro c o j d p e
  have h1 := List.all_eq_true.mp h _ (List.mem_of_getElem? e)
  exact TS_at (of_decide_eq_true h1) rfl
set_option maxRecDepth 100000 in
theorem lkC_ok : ∀ (c o j : Nat) (x : Int32) (p : Nat), lnkC[c]? = some (o, j, x, p) → Cond.constant (oName o) j x ∈ TS := by
  have h : (lnkC.all fun q => decide (lw_tbl[q.2.2.2]? = some (Cond.constant (oName q.1) q.2.1 q.2.2.1))) = true := by decide +kernel
  intro c o j d p e
  have h1 := List.all_eq_true.mp h _ (List.mem_of_getElem? e)
  exact TS_at (of_decide_eq_true h1) rfl
set_option maxRecDepth 100000 in
theorem lkA_ok : ∀ (c o j p : Nat), lnkA[c]? = some (o, j, p) → Cond.methodLink (oName o) j arraycopyName ∈ TS := by
  have h : (lnkA.all fun q => decide (lw_tbl[q.2.2]? = some (Cond.methodLink (oName q.1) q.2.1 arraycopyName))) = true := by decide +kernel
  intro c o j p e
  have h1 := List.all_eq_true.mp h _ (List.mem_of_getElem? e)
  exact TS_at (of_decide_eq_true h1) rfl
def sCls (a : Nat) : String × String × String := match a with
  | 5 => ("java/lang/String", "COMPACT_STRINGS", "Z")
  | 6 => ("jdk/internal/util/Preconditions", "SIOOBE_FORMATTER", "Ljava/util/function/BiFunction;")
  | j => ("DoorTears$Kinds", sNm j, "[I")
set_option maxRecDepth 100000 in
theorem lkG_ok : ∀ (a o j p : Nat), lnkG[a]? = some (o, j, p) → Cond.fieldLink (oName o) j (sCls a).1 (sCls a).2.1 (sCls a).2.2 ∈ TS := by
  have h : ∀ a, a < 7 → (match lnkG[a]? with | none => false | some q => decide (lw_tbl[q.2.2]? = some (Cond.fieldLink (oName q.1) q.2.1 (sCls a).1 (sCls a).2.1 (sCls a).2.2))) = true := by decide +kernel
  intro a o j p e
  have ha : a < 7 := (List.getElem?_eq_some_iff.mp e).1
  have h1 := h a ha
  rw [e] at h1
  exact TS_at (of_decide_eq_true h1) rfl
set_option maxRecDepth 100000 in
theorem lkS_ok : Cond.fieldLink (oName sVal.1) sVal.2.1 "java/lang/String" "value" "[B" ∈ TS ∧ Cond.fieldLink (oName sCod.1) sCod.2.1 "java/lang/String" "coder" "B" ∈ TS :=
  ⟨TS_at (i := sVal.2.2) (by decide +kernel) rfl, TS_at (i := sCod.2.2) (by decide +kernel) rfl⟩
def mOK (id : Nat) : Prop :=
  Cond.code (mG id).1 (mG id).2.1 (mG id).2.2.1 (mG id).2.2.2.1 ∈ TS ∧ Cond.initialized (mG id).1.cls ∈ TS ∧
  (if (mG id).2.2.2.2.2.1 = 1 then Cond.instanceMethod (mG id).1 ∈ TS ∧ Cond.selects (mG id).1.cls (mG id).1 (mG id).1 ∈ TS else Cond.static (mG id).1 ∈ TS) ∧
  ((mG id).1.cls ≠ "java/lang/invoke/MethodHandle" ∧ (mG id).1.cls ≠ "java/lang/invoke/VarHandle" ∧ (parseMethodDescriptor (mG id).1.desc).map (fun d => d.parameters.length) = some (mG id).2.2.2.2.2.2) ∧
  plainFor (mG id).1 = true ∧ (mG id).2.2.1 ≤ 20 ∧ oName (mG id).2.2.2.2.1 = (mG id).1.cls
def mP (id : Nat) : Nat × Nat × Nat × Nat := mPl.getD id (0, 0, 0, 0)
set_option maxRecDepth 100000 in
theorem m_codeL : mPl.map (fun q => lw_tbl[q.1]?) = mtab.map (fun m => some (Cond.code m.1 m.2.1 m.2.2.1 m.2.2.2.1)) := rfl
theorem m_code : ∀ id, id < mN → lw_tbl[(mP id).1]? = some (Cond.code (mG id).1 (mG id).2.1 (mG id).2.2.1 (mG id).2.2.2.1) := by
  intro id h
  have h1 : id < mPl.length := h
  have h2 : id < mtab.length := h
  have e := congrArg (fun l => l[id]?) m_codeL
  simp only [List.getElem?_map, List.getElem?_eq_getElem h1, List.getElem?_eq_getElem h2, Option.map_some, Option.some.injEq] at e
  unfold mP mG
  rw [List.getD_eq_getElem?_getD, List.getD_eq_getElem?_getD, List.getElem?_eq_getElem h1, List.getElem?_eq_getElem h2]
  exact e
set_option maxRecDepth 100000 in
theorem m_init : ∀ id, id < mN → lw_tbl[(mP id).2.2.2]? = some (Cond.initialized (mG id).1.cls) := by decide +kernel
set_option maxRecDepth 100000 in
theorem m_virt : ∀ id, id < mN → (mG id).2.2.2.2.2.1 = 1 → lw_tbl[(mP id).2.1]? = some (Cond.instanceMethod (mG id).1) ∧ lw_tbl[(mP id).2.2.1]? = some (Cond.selects (mG id).1.cls (mG id).1 (mG id).1) := by decide +kernel
set_option maxRecDepth 100000 in
theorem m_stat : ∀ id, id < mN → ¬ (mG id).2.2.2.2.2.1 = 1 → lw_tbl[(mP id).2.1]? = some (Cond.static (mG id).1) := by decide +kernel
set_option maxRecDepth 100000 in
theorem m_desc : ∀ id, id < mN → ((mG id).1.cls ≠ "java/lang/invoke/MethodHandle" ∧ (mG id).1.cls ≠ "java/lang/invoke/VarHandle" ∧ (parseMethodDescriptor (mG id).1.desc).map (fun d => d.parameters.length) = some (mG id).2.2.2.2.2.2) ∧
  plainFor (mG id).1 = true ∧ (mG id).2.2.1 ≤ 20 ∧ oName (mG id).2.2.2.2.1 = (mG id).1.cls := by decide +kernel
theorem m_ok {id : Nat} (h : id < mN) : mOK id := by
  refine ⟨TS_at (m_code id h) rfl, TS_at (m_init id h) rfl, ?_, m_desc id h⟩
  split
  · exact ⟨TS_at (m_virt id h (by assumption)).1 rfl, TS_at (m_virt id h (by assumption)).2 rfl⟩
  · exact TS_at (m_stat id h (by assumption)) rfl
/-- the words that a method's contract asks for -/
def mW (id : Nat) : List Cond := Cond.code (mG id).1 (mG id).2.1 (mG id).2.2.1 (mG id).2.2.2.1 :: TS
theorem good_mW {id : Nat} (h : id < mN) : GoodIn TS (mW id) := by
  intro w hw
  have hm : w ∈ TS := by
    rcases List.mem_cons.mp hw with e | e
    · rw [e]; exact (m_ok h).1
    · exact e
  exact ⟨hm, good_of_word (TS_good w hm)⟩
def cW (q : Nat) : vw_C := cls.getD q ("", fun _ => ("", "", "", false), 0)
set_option maxRecDepth 100000 in
theorem uw_ok : ∀ (q : Nat) (C : String) (T : u_T) (N : Nat), cls[q]? = some (C, T, N) → ∀ w ∈ u_ws C T N, w ∈ TS := by
  have h : (cls.all fun r => (u_ws r.1 r.2.1 r.2.2).all fun w => (lw_tbl.any fun v => decide (v = w)) && goodWord w) = true := by decide +kernel
  intro q C T N e w hw
  have h1 := List.all_eq_true.mp (List.all_eq_true.mp h _ (List.mem_of_getElem? e)) w hw
  rw [Bool.and_eq_true, List.any_eq_true] at h1
  obtain ⟨⟨v, hv, e2⟩, g⟩ := h1
  have e3 : v = w := of_decide_eq_true e2
  subst e3
  exact List.mem_filter.mpr ⟨hv, g⟩
