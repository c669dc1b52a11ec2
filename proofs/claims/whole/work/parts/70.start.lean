/-! THE CLAIM OUT OF ONE WALK OF THE LAW'S BODY. Your part is whole_start (and what it stands on); all else here is the same for every law, but numbers. -/
def R_law : String := "DoorTearsLaw"
def lw_P (b : Addr) (xs : List Int32) (args : Array Value) (s : State) : Prop := args = #[.ref b] ∧ s.IntsAt b xs ∧ xs.length ≤ 2560 ∧ (Jvm.Cond.and given_1 narrow_1).before args s = true
def lw_Q (_ : Array Value) (s : State) (o : Outcome) (t : State) : Prop := o = .returned (some (.int 1)) ∧ Framed s o t [] 600000 7302250
def lw_Z (below : List Frame) (a : Array Value) (s : State) : State → Prop := fun t => ∃ o, t.status = .running ∧ Ended t below o ∧ lw_Q a s o t
/-- the law's own end, with 1 on the stack, nothing written that was there before, its room as the claim has it -/
theorem lw_ret {p : Program} {l : Launch} {e : Env} {s : State} {m : MethodId} {below : List Frame} {meth : Method} {c : Code} {b : Nat} (hx : p.tables.exec = Jvm.exec) (hb : c.code = code) (hr : meth.sig.returnType = ret) (hlocks : meth.locks = false) {pc : Nat} {H : Heap} {ls : Array Slot} (hdg : decode code pc = .ok (.ireturn, 1)) : W p l e room_1 s m #[Value.ref b] below meth c H [] 600000 7302250 (lw_Z below #[Value.ref b] s) (F0 m pc ls [.int 1]) := by
  intro T hT X
  obtain ⟨fs, hret, hrun, hended, hW, hframe⟩ := X.leave (v := some (.int 1)) (hlocks := hlocks) (fun h => by rw [hr] at h; cases h)
  have hmeth' : T.vm.method? m = some meth := X.method'
  refine ⟨T.setFrames fs, ?_, .returned (some (.int 1)), hrun, hended, rfl, ⟨_, rfl⟩, hW, hframe⟩
  jvm_step X.here [X.here.top, hx, hb, hdg, hmeth', hr, ret, narrow_b1]
  (try refine ⟨rfl, ?_⟩); (try refine ⟨rfl, ?_⟩)
  first | (intro acts; rw [hret _ acts rfl rfl rfl]) | rw [hret _ _ rfl rfl rfl]
  exact Steps.refl _
/-- what holds at the law's entry: the machine, the code, the tables' words (any of lw_tbl by 'hts w (by decide +kernel)'), the script of L ints xs at the cell b, what the Statement gives of the start (any of its parts by flat_of_before) -/
def lw_At (p : Program) (s : State) (m : MethodId) (meth : Method) (c : Code) (b L : Nat) (xs : Nat → Int32) : Prop :=
  p.tables.exec = Jvm.exec ∧ c.code = code ∧ meth.sig.returnType = ret ∧ c.maxLocals = 4 ∧ s.vm.findClass R_law = some m.cls ∧ (∀ w ∈ lw_tbl, w.before #[Value.ref b] s = true) ∧ va_X b L xs s s.heap ∧ b < s.heap.size ∧ meth.locks = false ∧ (Jvm.Cond.and given_1 narrow_1).before #[Value.ref b] s = true

theorem pick_f {α β : Type} {P : α → β → Prop} (h : ∀ a, ∃ b, P a b) : ∃ f : α → β, ∀ a, P a (f a) := ⟨fun a => Classical.choose (h a), fun a => Classical.choose_spec (h a)⟩
abbrev sTm (j : Nat) : Term := .static "DoorTears$Kinds" (sNm j) "[I"
abbrev kTm (i : Nat) : Term := .string "DoorTears$Reader" (sIx i)
set_option maxRecDepth 100000 in
theorem fl_arr : ∀ j, j < 5 → Cond.arrayOf (sTm j) .int ∈ flatC (Jvm.Cond.and given_1 narrow_1) ∧ Cond.eq (.length (sTm j)) (.int (Int32.ofNat 5)) ∈ flatC (Jvm.Cond.and given_1 narrow_1) := by decide +kernel
set_option maxRecDepth 100000 in
theorem fl_el : ∀ j, j < 5 → ∀ i, i < 5 → Cond.eq (.elem (sTm j) (.int (Int32.ofNat i))) (.int (stT j i)) ∈ flatC (Jvm.Cond.and given_1 narrow_1) := by decide +kernel
set_option maxRecDepth 100000 in
theorem fl_k1 : ∀ i, i < 9 → Cond.exactly (kTm i) "java/lang/String" ∈ flatC (Jvm.Cond.and given_1 narrow_1) ∧ Cond.eq (.field (kTm i) "java/lang/String" "coder" "B") (.int 0) ∈ flatC (Jvm.Cond.and given_1 narrow_1) := by decide +kernel
set_option maxRecDepth 100000 in
theorem fl_k2 : ∀ i, i < 9 → Cond.arrayOf (.field (kTm i) "java/lang/String" "value" "[B") .byte ∈ flatC (Jvm.Cond.and given_1 narrow_1) ∧ Cond.eq (.length (.field (kTm i) "java/lang/String" "value" "[B")) (.int (Int32.ofNat (sLen.getD i 0))) ∈ flatC (Jvm.Cond.and given_1 narrow_1) := by decide +kernel
set_option maxRecDepth 100000 in
theorem fl_k3 : ∀ i, i < 9 → ∀ j, j < sLen.getD i 0 → Cond.eq (.elem (.field (kTm i) "java/lang/String" "value" "[B") (.int (Int32.ofNat j))) (.int ((sByt.getD i []).getD j 0)) ∈ flatC (Jvm.Cond.and given_1 narrow_1) := by decide +kernel
set_option maxRecDepth 100000 in
theorem fl_k4 : ∀ i, i < 9 → ∀ j, j < 9 → i ≠ j → Cond.not (Cond.eq (kTm i) (kTm j)) ∈ flatC (Jvm.Cond.and given_1 narrow_1) ∨ Cond.not (Cond.eq (kTm j) (kTm i)) ∈ flatC (Jvm.Cond.and given_1 narrow_1) := by decide +kernel
set_option maxRecDepth 100000 in
theorem fl_s : Cond.eq (.static "java/lang/String" "COMPACT_STRINGS" "Z") (.int 1) ∈ flatC (Jvm.Cond.and given_1 narrow_1) ∧ Cond.isRef (.static "jdk/internal/util/Preconditions" "SIOOBE_FORMATTER" "Ljava/util/function/BiFunction;") ∈ flatC (Jvm.Cond.and given_1 narrow_1) := by decide +kernel
def lsP (j : Nat) : Nat := ([512, 565, 582, 576, 521] : List Nat).getD j 0
set_option maxRecDepth 100000 in
theorem ls_ok : ∀ j, j < 5 → lw_tbl[lsP j]? = some (Cond.laysStatic "DoorTears$Kinds" (sNm j) "[I") := by decide +kernel
def srP (j : Nat) : Nat := ([365, 422, 435, 436, 453, 454, 455, 456, 457] : List Nat).getD j 0
set_option maxRecDepth 100000 in
theorem sr_ok : ∀ j, j < 9 → lw_tbl[srP j]? = some (Cond.stringRef "DoorTears$Reader" (sIx j) (sTx j)) := by decide +kernel
/-- what the law's start holds: tables of numbers, texts -/
def StK (sA kK kV : Nat → Nat) (fm : Value) (A : Nat → Prop) (s : State) : Prop :=
  (∀ j, j < 5 → va_Z "DoorTears$Kinds" (sNm j) "[I" (.ref (sA j)) A s s.heap ∧ va_T .int (sA j) 5 (fun i => .int (stT j i)) A s s.heap) ∧
  va_Z "java/lang/String" "COMPACT_STRINGS" "Z" (.int 1) A s s.heap ∧
  va_Z "jdk/internal/util/Preconditions" "SIOOBE_FORMATTER" "Ljava/util/function/BiFunction;" fm A s s.heap ∧ (fm = .null ∨ ∃ a, fm = .ref a) ∧
  vk_S 9 sLen sByt kK kV A s s.heap ∧ (∀ i, i < 9 → vk_R "DoorTears$Reader" (sIx i) (sTx i) (kK i) s)
set_option maxRecDepth 100000 in
set_option maxHeartbeats 4000000 in
theorem st_ok {s : State} {b : Nat} (hts : ∀ w ∈ lw_tbl, w.before #[Value.ref b] s = true) (hgv : (Jvm.Cond.and given_1 narrow_1).before #[Value.ref b] s = true) : ∃ (sA kK kV : Nat → Nat) (fm : Value), StK sA kK kV fm (fun q => s.heap.size ≤ q) s := by
  have hf := flat_of_before _ hgv
  have hA : ∀ a : Nat, a < s.heap.size → ¬ (fun q => s.heap.size ≤ q) a := fun a h => Nat.not_le.mpr h
  have hKi : (Cond.initialized "DoorTears$Kinds").before #[Value.ref b] s = true := (hts (.initialized "DoorTears$Kinds") (List.mem_of_getElem? (i := 61) (by decide +kernel)))
  have h1 : ∀ j, ∃ t : Nat, j < 5 → va_Z "DoorTears$Kinds" (sNm j) "[I" (.ref t) (fun q => s.heap.size ≤ q) s s.heap ∧ va_T .int t 5 (fun i => .int (stT j i)) (fun q => s.heap.size ≤ q) s s.heap := by
    intro j
    by_cases hj : j < 5
    · obtain ⟨t, e1, e2⟩ := va_Tof (tm := sTm j) (N := 5) (f := fun i => .int (stT j i)) (by decide) (hf _ (fl_arr j hj).1) (va_eqt (hf _ (fl_arr j hj).2)) (fun i hi => va_eqt (hf _ (fl_el j hj i hi))) hA
      exact ⟨t, fun _ => ⟨va_Zref (hts _ (List.mem_of_getElem? (ls_ok j hj))) hKi e1 hA, e2⟩⟩
    · exact ⟨0, fun h => absurd h hj⟩
  obtain ⟨sA, hsA⟩ := pick_f h1
  obtain ⟨kK, kV, hS, hk⟩ := vk_Sof (N := 9) (tm := kTm) (len := sLen) (byt := sByt) (by decide) (fun i hi => hf _ (fl_k1 i hi).1) (fun i hi => hf _ (fl_k1 i hi).2) (fun i hi => hf _ (fl_k2 i hi).1) (fun i hi => hf _ (fl_k2 i hi).2) (fun i hi j hj => hf _ (fl_k3 i hi j hj)) (fun i j hi hj hne => (fl_k4 i hi j hj hne).imp (hf _) (hf _)) hA
  have hcs : va_Z "java/lang/String" "COMPACT_STRINGS" "Z" (.int 1) (fun q => s.heap.size ≤ q) s s.heap := va_Zof (hts (.laysStatic "java/lang/String" "COMPACT_STRINGS" "Z") (List.mem_of_getElem? (i := 379) (by decide +kernel))) (hts (.initialized "java/lang/String") (List.mem_of_getElem? (i := 57) (by decide +kernel))) (va_eqt (hf _ fl_s.1)) hA
  have hfm := va_Zqof (A := fun q => s.heap.size ≤ q) (hts (.laysStatic "jdk/internal/util/Preconditions" "SIOOBE_FORMATTER" "Ljava/util/function/BiFunction;") (List.mem_of_getElem? (i := 395) (by decide +kernel))) (hts (.initialized "jdk/internal/util/Preconditions") (List.mem_of_getElem? (i := 59) (by decide +kernel))) (hf _ fl_s.2) hA
  have hR : ∀ i, i < 9 → vk_R "DoorTears$Reader" (sIx i) (sTx i) (kK i) s := fun i hi => vk_R.of (hts _ (List.mem_of_getElem? (sr_ok i hi))) (hk i hi)
  rcases hfm with h | ⟨t, h⟩
  · exact ⟨sA, kK, kV, .null, hsA, hcs, h, Or.inl rfl, hS, hR⟩
  · exact ⟨sA, kK, kV, .ref t, hsA, hcs, h, Or.inr ⟨t, rfl⟩, hS, hR⟩
set_option maxHeartbeats 4000000 in
/-- the law from its loop on -/
theorem whole_16 {p : Program} {e : Env} {s : State} {m : MethodId} {below : List Frame} {meth : Method} {c : Code} (l : Launch) {b L : Nat} {xs : Nat → Int32} (hL : L ≤ 2560) (C0 : lw_At p s m meth c b L xs) {X : XT} (eb : x_b X = b) (eL : x_L X = L) (ex : x_xs X = xs) (hWk : Wk X (fun q => s.heap.size ≤ q) s s.heap) (hAx : ∀ q, Ax X q → s.heap.size ≤ q) {H : Heap} {locs : List Loc} {cells slots : Nat} (hc : cells ≤ 600000) (hsl : slots ≤ 7302250) {σ : ST} (hP : va_P (x_D X) cls (wsO X σ) H) (hS : va_S (fun q => s.heap.size ≤ q) s.heap H locs) (hI : Inv σ) {ls : Array Slot} (hl : LOK X 4 ls [some (.inr (60, 0)), some (.inr (8, 0)), some (.inr (9, 161)), none]) :
    W p l e room_1 s m #[Value.ref b] below meth c H locs cells slots (lw_Z below #[Value.ref b] s) (F0 m 16 ls []) := by
  obtain ⟨hx, hb, hr, hml, hown, hts, hX, hbl, hlocks, hgv⟩ := id C0
  have htT : ∀ w ∈ TS, w.before #[Value.ref b] s = true := fun w hw => hts w (List.mem_filter.mp hw).1
  have hC : Cx X p room_1 s m #[Value.ref b] c (fun q => s.heap.size ≤ q) True 11 4 40 cells slots code := ⟨hx, hb, hml, hown, htT, hWk, hAx, ⟨Nat.le_of_ble_eq_true rfl, Nat.le_of_ble_eq_true rfl⟩, ⟨hc, hsl⟩, fun _ => ⟨by rw [eb, eL, ex]; exact hX, by rw [eb]; exact hbl, by rw [eb]; exact Nat.not_le.mpr hbl⟩, htT _ sys_in.1, htT _ sys_in.2.1, htT _ sys_in.2.2⟩
  have hRt : RetOK X p l e room_1 s m #[Value.ref b] below meth c (fun q => s.heap.size ≤ q) cells slots code (lw_Z below #[Value.ref b] s) (some .boolean) RtL := by
    refine ⟨fun pc ls H locs v σ' ty e1 e2 e3 hq hP1 hS1 => ?_, ?_, ?_⟩
    rotate_left
    · intro pc ls H locs v σ' C9 e1
      cases e1
    · intro pc ls H locs σ' e1
      cases e1
    have hv : v = 1 := by
      have : (some (.inl v) : Option AV) = some (.inl (nI 1)) := hq
      cases this
      decide
    subst hv
    refine va_forget (fun q hq => hS1.2.2 q hq) ?_
    refine W.widen hc hsl ?_
    exact lw_ret hx hb hr hlocks e3
  have hG : CloL (x_L X) (x_xs X) (MT l X 40) (Gs X p l e room_1 s m #[Value.ref b] below meth c (fun q => s.heap.size ≤ q) 4 cells slots (lw_Z below #[Value.ref b] s)) := by
    intro stops n pc al as σ' hw
    exact wp_sound (X := X) (SC := True) (d := 40) (own := 11) (cc := code) (stops := stops) (P := p_law) hC (fun _ _ _ _ h => h) hRt k_law (fun _ _ _ _ h => h) n (fnd pc p_law) pc al as σ' (fnd_ok pc p_law 16 k_law) hw
  exact law_all (X := X) (fun _ _ _ _ h => h) hG (by rw [eL]; exact hL) hI ls H locs hl (fun v hv => by cases hv) hP hS
