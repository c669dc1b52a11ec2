/-! ===== CONSTRUCTORS: worlds as lists, new cells in front ===== -/
def tyT (ca : Nat → ClassId) : List (ClassId × FieldType) := [(ca 0, .int), (ca 1, .boolean), (ca 2, .object "DoorTears$Lane"), (ca 3, .object "DoorTears$Cup")]
/-- what the tables say, wherever a constructor runs -/
def Am (D : va_G) (ca : Nat → ClassId) (U : State) : Prop := va_K D cls (tyT ca) U ∧ va_AO "DoorTears$Lane" U ∧ va_AO "DoorTears$Cup" U
theorem Am.moved {D : va_G} {ca : Nat → ClassId} {u U : State} (hvm : u.vm.Alike U.vm) (h : Am D ca u) : Am D ca U := ⟨va_K.moved hvm h.1, h.2.1.moved hvm, h.2.2.moved hvm⟩
def Wd (D : va_G) (A : Nat → Prop) (s : State) (H : Heap) (locs : List Loc) (ws : va_W) : Prop := va_P D cls ws H ∧ va_D A ws ∧ va_S A s.heap H locs ∧ ∀ q : Nat, s.heap.size ≤ q → A q
theorem P_mem {D : va_G} {cl : List vw_C} {ws : va_W} {H : Heap} : va_P D cl ws H ↔ ∀ q ∈ ws, va_at D cl q H := by
  constructor
  · intro h q hq
    obtain ⟨k, hk⟩ := List.getElem?_of_mem hq
    exact h k q hk
  · intro h k q hk
    exact h q (List.mem_of_getElem? hk)
theorem P_comm {D : va_G} {cl : List vw_C} {a b : va_W} {H : Heap} (h : va_P D cl (a ++ b) H) : va_P D cl (b ++ a) H := by
  rw [P_mem] at h ⊢
  intro q hq
  exact h q (List.mem_append.mpr ((List.mem_append.mp hq).symm))
theorem D_split {A : Nat → Prop} {a b : va_W} (h : va_D A (a ++ b)) : va_D A a ∧ va_D A b ∧ ∀ (i j : Nat) (p q : Nat × va_E), a[i]? = some p → b[j]? = some q → p.1 ≠ q.1 := by
  have ha : ∀ (i : Nat) (p : Nat × va_E), a[i]? = some p → i < a.length ∧ (a ++ b)[i]? = some p := fun i p hp => by
    have hl := (List.getElem?_eq_some_iff.mp hp).1
    exact ⟨hl, by rw [List.getElem?_append_left hl]; exact hp⟩
  have hb : ∀ (j : Nat) (q : Nat × va_E), b[j]? = some q → (a ++ b)[a.length + j]? = some q := fun j q hq => by
    rw [List.getElem?_append_right (by omega), Nat.add_sub_cancel_left]
    exact hq
  refine ⟨⟨fun i j p q hp hq e => h.1 i j p q (ha i p hp).2 (ha j q hq).2 e, fun k q hq => h.2 k q (ha k q hq).2⟩, ⟨fun i j p q hp hq e => ?_, fun k q hq => h.2 _ q (hb k q hq)⟩, fun i j p q hp hq e => ?_⟩
  · have := h.1 _ _ p q (hb i p hp) (hb j q hq) e
    omega
  · have h1 := ha i p hp
    have := h.1 _ _ p q h1.2 (hb j q hq) e
    omega
theorem D_comm {A : Nat → Prop} {a b : va_W} (h : va_D A (a ++ b)) : va_D A (b ++ a) := by
  obtain ⟨h1, h2, h3⟩ := D_split h
  exact va_D.app h2 h1 (fun i j p q hp hq e => h3 j i q p hq hp e.symm)
theorem Wd.comm {D : va_G} {A : Nat → Prop} {s : State} {H : Heap} {locs : List Loc} {a b : va_W} (h : Wd D A s H locs (a ++ b)) : Wd D A s H locs (b ++ a) := ⟨P_comm h.1, D_comm h.2.1, h.2.2.1, h.2.2.2⟩
/-- behind a call: what came back, and the rest as it was -/
theorem W_join {A0 : Nat → Prop} {D : va_G} {cl : List vw_C} {wc wr w1 : va_W} {H H1 : Heap} (hP : va_P D cl (wc ++ wr) H) (hD : va_D A0 (wc ++ wr)) (hk : ∀ q : Nat, q < H.size → ¬ va_A wc H.size q → H1[q]? = H[q]?) (hF : ∀ q, va_A wc H.size q → A0 q) (hP1 : va_P D cl w1 H1) (hD1 : va_D (va_A wc H.size) w1) : va_P D cl (w1 ++ wr) H1 ∧ va_D A0 (w1 ++ wr) := by
  obtain ⟨d1, d2, d3⟩ := D_split hD
  have apart : ∀ (k : Nat) (q : Nat × va_E), wr[k]? = some q → va_at D cl q H ∧ q.1 < H.size ∧ ¬ va_A wc H.size q.1 := by
    intro k q hq
    have hat := P_mem.mp hP q (List.mem_append_right _ (List.mem_of_getElem? hq))
    refine ⟨hat, hat.lt, fun h => ?_⟩
    rcases h with ⟨k2, e, h⟩ | h
    · exact d3 k2 k (q.1, e) q h hq rfl
    · have := hat.lt; omega
  refine ⟨va_P.app hP1 (fun k q hq => ?_), va_D.app (hD1.weaken (fun k q _ h => hF q.1 h)) d2 (fun i j x y hx hy hxy => ?_)⟩
  · obtain ⟨g0, g1, g2⟩ := apart k q hq
    exact g0.kept (hk q.1 g1 g2)
  · exact (apart j y hy).2.2 (by rw [← hxy]; exact hD1.2 i x hx)
/-- a constructor's contract: from its world to one of a shape -/
def ICon (l : Launch) (D : va_G) (ca : Nat → ClassId) (y : MethodName) (ws : List Cond) (rm : Room) (av : List Value) (wc : va_W) (SH : va_W → Prop) (mc ms : Nat) : Prop :=
  ∀ sz : Nat, Met l y ws rm (va_Pc av (fun U => U.heap.size = sz ∧ va_P D cls wc U.heap ∧ Am D ca U ∧ va_D (fun _ => True) wc)) (va_Qv SH (fun w t => va_P D cls w t.heap ∧ va_D (va_A wc sz) w) (va_A wc sz)) mc ms (va_A wc sz)
def Fx (p : Program) (s : State) (m : MethodId) (args : Array Value) (c : Code) (own : String) (nL : Nat) (cc : ByteArray) : Prop :=
  p.tables.exec = Jvm.exec ∧ c.code = cc ∧ c.maxLocals = nL ∧ s.vm.findClass own = some m.cls ∧ ∀ w ∈ TS, w.before args s = true
theorem good_c {y : MethodName} {cc : ByteArray} {n : Nat} {rt : Option FieldType} (h : Cond.code y cc n rt ∈ TS) : GoodIn TS (Cond.code y cc n rt :: TS) := by
  intro w hw
  have hm : w ∈ TS := by
    rcases List.mem_cons.mp hw with e | e
    · rw [e]; exact h
    · exact e
  exact ⟨hm, good_of_word (TS_good w hm)⟩
theorem ic_enter {l : Launch} {D : va_G} {ca : Nat → ClassId} {y : MethodName} {cc : ByteArray} {maxL : Nat} {rm : Room} {av : List Value} {wc : va_W} {SH : va_W → Prop} {mc ms : Nat} (hy : plainFor y = true) (hn : (lg_sl av).length ≤ maxL)
    (h : ∀ (p : Program) (e : Env) (s : State) (m : MethodId) (below : List Frame) (meth : Method) (c : Code), Fx p s m av.toArray c y.cls maxL cc → meth.name = y.name → meth.sig.returnType = none → meth.locks = false → Am D ca s → ∀ (A : Nat → Prop) (ls : Array Slot), Wd D A s s.heap [] wc → lv_has ls maxL (lv_args 0 av) →
      W p l e rm s m av.toArray below meth c s.heap [] 0 0 (MQ below (va_Qv SH (fun w t => va_P D cls w t.heap ∧ va_D A w) A) av.toArray s mc ms A) (F0 m 0 ls [])) :
    ICon l D ca y (Cond.code y cc maxL none :: TS) rm av wc SH mc ms := by
  intro sz
  refine met_wf (cc := cc) (maxL := maxL) (rt := none) hy rfl ?_
  intro p e s m args below meth c s₁ B hml hv
  obtain ⟨rfl, rfl, hP, hAm, hD0⟩ := hv
  have hts := atoms_spec (ws := Cond.code y cc maxL none :: TS) B.pre
  have hts : ∀ w ∈ TS, w.before _ s = true := fun w hw => hts w (List.mem_cons_of_mem _ hw)
  have hown : s.vm.findClass y.cls = some m.cls := findClass_of_methodNamed B.named
  have hin : meth.name = y.name := (name_of_methodNamed B.named B.method).1
  have hl := lv_entry av (n := maxL) hn
  rw [lg_entry_eq]
  exact h p e s m below meth c ⟨B.exec, B.bytes, hml, hown, hts⟩ hin B.returns B.notSynchronized hAm _ _ ⟨hP, hD0.self, va_S.rf, fun q h => Or.inr h⟩ hl
section KROWS
variable {p : Program} {l : Launch} {e : Env} {R : Room} {s : State} {m : MethodId} {args : Array Value} {below : List Frame} {meth : Method} {c : Code} {H : Heap} {locs : List Loc} {cells slots : Nat} {Q : State → Prop}
variable {cc : ByteArray} {pc : Nat} {ls : Array Slot} {rest : List Value} {D : va_G} {ca : Nat → ClassId} {A : Nat → Prop} {ws : va_W} {own : String} {nL : Nat}
theorem k_oinit (F : Fx p s m args c own nL cc) {lv : List (Nat × Value)} (hl : lv_has ls nL lv) {idx a : Nat} (h1 : Cond.methodLink own idx Lib.objectInit ∈ TS) (h2 : Cond.instanceMethod Lib.objectInit ∈ TS) (h3 : Cond.code Lib.objectInit ⟨#[0xb1]⟩ 1 none ∈ TS) (hf : 1 ≤ R.frames ∧ 12 ≤ R.locals) (hd : decode cc pc = .ok (.invokespecial idx, 3))
    (kk : W p l e R s m args below meth c H locs cells slots Q (F0 m (pc + 3) ls [])) : W p l e R s m args below meth c H locs cells slots Q (F0 m pc ls [.ref a]) := by
  obtain ⟨hx, hb, hml, hown, hts⟩ := F
  exact W.objInit hx hb hown (hts _ h1) (hts _ h2) (hts _ h3) rfl (by rw [hml]; exact hl.1) rfl hd hf.1 hf.2 kk
theorem k_new (F : Fx p s m args c own nL cc) (hAm : Am D ca s) (hw : Wd D A s H locs ws) {C : String} {T : u_T} {N ci idx : Nat} (ty : Nat → FieldType) (hty : ∀ k, k < N → parseFieldDescriptor (T k).2.2.1 = some (ty k)) (hc : cls[ci]? = some (C, T, N)) (h1 : Cond.classLink own idx C ∈ TS) (h2 : Cond.instantiable C N ∈ TS) (h3 : Cond.initialized C ∈ TS) {fs : List Value} (hfs : ∀ j, j < N → defaultValue (ty j) = vp_V fs j) (hcells : cells + 1 ≤ R.cells) (hslots : slots + N ≤ R.slots) (hdg : decode cc pc = .ok (.new idx, 3))
    (kk : ∀ (q : Nat) (H1 : Heap), Wd D A s H1 locs ((q, .inr (ci, fs)) :: ws) → W p l e R s m args below meth c H1 locs (cells + 1) (slots + N) Q (F0 m (pc + 3) ls (.ref q :: rest))) : W p l e R s m args below meth c H locs cells slots Q (F0 m pc ls rest) := by
  obtain ⟨hx, hb, hml, hown, hts⟩ := F
  obtain ⟨hP, hD, hS, hA⟩ := hw
  exact va_new hx hb hts (uw_ok _ _ _ _ hc) ty hty hown (hts _ h1) (hts _ h2) (hts _ h3) hAm.1 hP hD hS hA hc hfs hcells hslots hdg (fun q H1 hP1 hD1 hS1 => kk q H1 ⟨P_comm hP1, D_comm hD1, hS1, hA⟩)
theorem k_newi (F : Fx p s m args c own nL cc) (hAm : Am D ca s) (hw : Wd D A s H locs ws) (h1 : Cond.arrayClass .int ∈ TS) {n : Int32} {N : Nat} (hn : ¬ n < 0) (hN : n.toNatClampNeg = N) (hbytes : N * 4 ≤ 536870912) (hcells : cells + 1 ≤ R.cells) (hslots : slots + N ≤ R.slots) (hdg : decode cc pc = .ok (.newarray .int, 2))
    (kk : ∀ (q : Nat) (H1 : Heap), Wd D A s H1 locs ((q, .inl (ca 0, N, .inl (fun _ => 0))) :: ws) → W p l e R s m args below meth c H1 locs (cells + 1) (slots + N) Q (F0 m (pc + 2) ls (.ref q :: rest))) : W p l e R s m args below meth c H locs cells slots Q (F0 m pc ls (.int n :: rest)) := by
  obtain ⟨hx, hb, hml, hown, hts⟩ := F
  obtain ⟨hP, hD, hS, hA⟩ := hw
  refine va_newa (atype := .int) (a0 := (N, .inl (fun _ => 0))) hx hb (hts _ h1) rfl hAm.1 hP hD hS hA (fun cA => rfl) hn hN hbytes hcells hslots hdg (fun q cA H1 hK1 hP1 hD1 hS1 => ?_)
  have e1 : s.vm.findClass ("[" ++ FieldType.int.toString) = some cA := (hK1.2 4 (cA, .int) rfl).2
  have e2 : s.vm.findClass ("[" ++ FieldType.int.toString) = some (ca 0) := (hAm.1.2 0 (ca 0, .int) rfl).2
  obtain rfl : cA = ca 0 := Option.some.inj (e1.symm.trans e2)
  exact kk q H1 ⟨P_comm hP1, D_comm hD1, hS1, hA⟩
theorem k_newz (F : Fx p s m args c own nL cc) (hAm : Am D ca s) (hw : Wd D A s H locs ws) (h1 : Cond.arrayClass .boolean ∈ TS) {n : Int32} {N : Nat} (hn : ¬ n < 0) (hN : n.toNatClampNeg = N) (hbytes : N * 1 ≤ 536870912) (hcells : cells + 1 ≤ R.cells) (hslots : slots + N ≤ R.slots) (hdg : decode cc pc = .ok (.newarray .boolean, 2))
    (kk : ∀ (q : Nat) (H1 : Heap), Wd D A s H1 locs ((q, .inl (ca 1, N, .inl (fun _ => 0))) :: ws) → W p l e R s m args below meth c H1 locs (cells + 1) (slots + N) Q (F0 m (pc + 2) ls (.ref q :: rest))) : W p l e R s m args below meth c H locs cells slots Q (F0 m pc ls (.int n :: rest)) := by
  obtain ⟨hx, hb, hml, hown, hts⟩ := F
  obtain ⟨hP, hD, hS, hA⟩ := hw
  refine va_newa (atype := .boolean) (a0 := (N, .inl (fun _ => 0))) hx hb (hts _ h1) rfl hAm.1 hP hD hS hA (fun cA => rfl) hn hN hbytes hcells hslots hdg (fun q cA H1 hK1 hP1 hD1 hS1 => ?_)
  have e1 : s.vm.findClass ("[" ++ FieldType.boolean.toString) = some cA := (hK1.2 4 (cA, .boolean) rfl).2
  have e2 : s.vm.findClass ("[" ++ FieldType.boolean.toString) = some (ca 1) := (hAm.1.2 1 (ca 1, .boolean) rfl).2
  obtain rfl : cA = ca 1 := Option.some.inj (e1.symm.trans e2)
  exact kk q H1 ⟨P_comm hP1, D_comm hD1, hS1, hA⟩
theorem k_newq (F : Fx p s m args c own nL cc) (hAm : Am D ca s) (hw : Wd D A s H locs ws) {C : String} {idx ti : Nat} (ht : (tyT ca)[ti]? = some (ca ti, .object C)) (hover : va_AO C s) (h1 : Cond.classLink own idx C ∈ TS) {n : Int32} {N : Nat} (hn : ¬ n < 0) (hN : n.toNatClampNeg = N) (hbytes : N * 4 ≤ 536870912) (hcells : cells + 1 ≤ R.cells) (hslots : slots + N ≤ R.slots) (hdg : decode cc pc = .ok (.anewarray idx, 3))
    (kk : ∀ (q : Nat) (H1 : Heap), Wd D A s H1 locs ((q, .inl (ca ti, N, .inr (.inr (.inr (.inr (fun _ => none)))))) :: ws) → W p l e R s m args below meth c H1 locs (cells + 1) (slots + N) Q (F0 m (pc + 3) ls (.ref q :: rest))) : W p l e R s m args below meth c H locs cells slots Q (F0 m pc ls (.int n :: rest)) := by
  obtain ⟨hx, hb, hml, hown, hts⟩ := F
  obtain ⟨hP, hD, hS, hA⟩ := hw
  refine va_newq hx hb hown (hts _ h1) hover hAm.1 hP hD hS hA hn hN hbytes hcells hslots hdg (fun q cA H1 hK1 hP1 hD1 hS1 => ?_)
  obtain ⟨kA, comp, -, -, -, e1⟩ : va_RA s cA (.object C) := (hK1.2 4 (cA, .object C) rfl).2
  obtain ⟨kA2, comp2, -, -, -, e2⟩ : va_RA s (ca ti) (.object C) := (hAm.1.2 ti (ca ti, .object C) ht).2
  obtain rfl : cA = ca ti := Option.some.inj (e1.symm.trans e2)
  exact kk q H1 ⟨P_comm hP1, D_comm hD1, hS1, hA⟩
theorem k_putF (F : Fx p s m args c own nL cc) (hin : meth.name = "<init>") (hAm : Am D ca s) (hw : Wd D A s H locs ws) (q0 : Nat) {a : Nat} {fs : List Value} {C : String} {T : u_T} {N ci idx : Nat} (ty : Nat → FieldType) (hty : ∀ k, k < N → parseFieldDescriptor (T k).2.2.1 = some (ty k)) (hnm : ∀ a, a < N → ∀ b, b < N → a ≠ b → (T a).2.1 ≠ (T b).2.1) (he : ws[q0]? = some (a, .inr (ci, fs))) (hc : cls[ci]? = some (C, T, N)) (k : Nat) (hk : k < N) (h1 : Cond.fieldLink own idx (T k).1 (T k).2.1 (T k).2.2.1 ∈ TS) (hfin : (T k).2.2.2 = true) (hdecl : (T k).1 = own) {v : Nat} {tv : FieldType} (htv : ty k = tv) (hfit : narrow tv (.ref v) = .ref v ∧ fits tv (.ref v) = true) (hl : k < fs.length) (hdg : decode cc pc = .ok (.putfield idx, 3))
    (kk : ∀ (H1 : Heap) (locs1 : List Loc), Wd D A s H1 locs1 (ws.set q0 (a, .inr (ci, fs.set k (.ref v)))) → W p l e R s m args below meth c H1 locs1 cells slots Q (F0 m (pc + 3) ls rest)) : W p l e R s m args below meth c H locs cells slots Q (F0 m pc ls (.ref v :: .ref a :: rest)) := by
  obtain ⟨hx, hb, hml, hown, hts⟩ := F
  obtain ⟨hP, hD, hS, hA⟩ := hw
  exact va_putF hx hb hts (uw_ok _ _ _ _ hc) ty hty hnm hown hAm.1 hP hD hS q0 he hc k hk (hts _ h1) (fun _ h => h) hfin hin hdecl (by rw [hty k hk, htv]) hfit.1 hfit.2 hl hdg (fun H1 locs1 hP1 hD1 hS1 => kk H1 locs1 ⟨hP1, hD1, hS1, hA⟩)
theorem k_putZ (F : Fx p s m args c own nL cc) (hAm : Am D ca s) (hw : Wd D A s H locs ws) (q0 : Nat) {a : Nat} {fs : List Value} {C : String} {T : u_T} {N ci idx : Nat} (ty : Nat → FieldType) (hty : ∀ k, k < N → parseFieldDescriptor (T k).2.2.1 = some (ty k)) (hnm : ∀ a, a < N → ∀ b, b < N → a ≠ b → (T a).2.1 ≠ (T b).2.1) (he : ws[q0]? = some (a, .inr (ci, fs))) (hc : cls[ci]? = some (C, T, N)) (k : Nat) (hk : k < N) (h1 : Cond.fieldLink own idx (T k).1 (T k).2.1 (T k).2.2.1 ∈ TS) (hfin : (T k).2.2.2 = false) {v : Int32} {tv : FieldType} (htv : ty k = tv) (hfit : narrow tv (.int v) = .int v ∧ fits tv (.int v) = true) (hl : k < fs.length) (hdg : decode cc pc = .ok (.putfield idx, 3))
    (kk : ∀ (H1 : Heap) (locs1 : List Loc), Wd D A s H1 locs1 (ws.set q0 (a, .inr (ci, fs.set k (.int v)))) → W p l e R s m args below meth c H1 locs1 cells slots Q (F0 m (pc + 3) ls rest)) : W p l e R s m args below meth c H locs cells slots Q (F0 m pc ls (.int v :: .ref a :: rest)) := by
  obtain ⟨hx, hb, hml, hown, hts⟩ := F
  obtain ⟨hP, hD, hS, hA⟩ := hw
  exact va_put hx hb hts (uw_ok _ _ _ _ hc) ty hty hnm hown hAm.1 hP hD hS q0 he hc k hk (hts _ h1) (fun _ h => h) hfin (by rw [hty k hk, htv]) hfit.1 hfit.2 hl hdg (fun H1 locs1 hP1 hD1 hS1 => kk H1 locs1 ⟨hP1, hD1, hS1, hA⟩)
theorem k_get (F : Fx p s m args c own nL cc) (hAm : Am D ca s) (hw : Wd D A s H locs ws) (q0 : Nat) {a : Nat} {fs : List Value} {C : String} {T : u_T} {N ci idx : Nat} (he : ws[q0]? = some (a, .inr (ci, fs))) (hc : cls[ci]? = some (C, T, N)) (k : Nat) (hk : k < N) (h1 : Cond.fieldLink own idx (T k).1 (T k).2.1 (T k).2.2.1 ∈ TS) {v : Value} (hv : fs[k]? = some v) (hdg : decode cc pc = .ok (.getfield idx, 3))
    (kk : W p l e R s m args below meth c H locs cells slots Q (F0 m (pc + 3) ls (v :: rest))) : W p l e R s m args below meth c H locs cells slots Q (F0 m pc ls (.ref a :: rest)) := by
  obtain ⟨hx, hb, hml, hown, hts⟩ := F
  obtain ⟨hP, hD, hS, hA⟩ := hw
  exact va_get hx hb hts (uw_ok _ _ _ _ hc) hown hAm.1 hP q0 he hc k hk (hts _ h1) (fun _ h => h) hv hdg kk
theorem k_astq (F : Fx p s m args c own nL cc) (hAm : Am D ca s) (hw : Wd D A s H locs ws) (q0 qk ti ci : Nat) {a v n j : Nat} {r : vw_C} {vs : List Value} {f : Nat → Option Nat} (ha : ws[q0]? = some (a, .inl (ca ti, n, .inr (.inr (.inr (.inr f)))))) (ht : (tyT ca)[ti]? = some (ca ti, .object r.1)) (hv : ws[qk]? = some (v, .inr (ci, vs))) (hc : cls[ci]? = some r) {i : Int32} (hj : i.toNatClampNeg = j) (hin : vp_in i n) (hdg : decode cc pc = .ok (.aastore, 1))
    (kk : ∀ (H1 : Heap) (locs1 : List Loc), Wd D A s H1 locs1 (ws.set q0 (a, .inl (ca ti, n, .inr (.inr (.inr (.inr (va_up f j (some v)))))))) → W p l e R s m args below meth c H1 locs1 cells slots Q (F0 m (pc + 1) ls rest)) : W p l e R s m args below meth c H locs cells slots Q (F0 m pc ls (.ref v :: .int i :: .ref a :: rest)) := by
  obtain ⟨hx, hb, hml, hown, hts⟩ := F
  obtain ⟨hP, hD, hS, hA⟩ := hw
  subst hj
  exact va_astq hx hb hAm.1 hP hD hS q0 ti qk ci ha ht hv hc hin hdg (fun H1 locs1 hP1 hD1 hS1 => kk H1 locs1 ⟨hP1, hD1, hS1, hA⟩)
theorem k_iast (F : Fx p s m args c own nL cc) (hAm : Am D ca s) (hw : Wd D A s H locs ws) (q0 : Nat) {a n j : Nat} {f : Nat → Int32} (ha : ws[q0]? = some (a, .inl (ca 0, n, .inl f))) {i x : Int32} (hj : i.toNatClampNeg = j) (hin : vp_in i n) (hdg : decode cc pc = .ok (.iastore, 1))
    (kk : ∀ (H1 : Heap) (locs1 : List Loc), Wd D A s H1 locs1 (ws.set q0 (a, .inl (ca 0, n, .inl (upd f j x)))) → W p l e R s m args below meth c H1 locs1 cells slots Q (F0 m (pc + 1) ls rest)) : W p l e R s m args below meth c H locs cells slots Q (F0 m pc ls (.int x :: .int i :: .ref a :: rest)) := by
  obtain ⟨hx, hb, hml, hown, hts⟩ := F
  obtain ⟨hP, hD, hS, hA⟩ := hw
  subst hj
  exact va_iast hx hb hAm.1 hP hD hS q0 0 ha rfl hin hdg (fun H1 locs1 hP1 hD1 hS1 => kk H1 locs1 ⟨hP1, hD1, hS1, hA⟩)
theorem k_blind {av : List Value} {sz : Nat} {wc : va_W} : FrameBlind (va_Pc av (fun U => U.heap.size = sz ∧ va_P D cls wc U.heap ∧ Am D ca U ∧ va_D (fun _ => True) wc)) := fun a U g mk q => by
  obtain ⟨q0, q1, qP, qK, qD⟩ := q
  exact ⟨q0, q1, qP, Am.moved (u := U) (U := U.calling g mk a) (Vm.Alike.refl U.vm) qK, qD⟩
theorem k_free {wc wr : va_W} (hw : Wd D A s H locs (wc ++ wr)) : ∀ q, va_A wc H.size q → A q := by
  intro q h
  rcases h with ⟨k, e, h⟩ | h
  · exact (D_split hw.2.1).1.2 k (q, e) h
  · exact hw.2.2.2 q (Nat.le_trans hw.2.2.1.1 h)
theorem k_init (F : Fx p s m args c own nL cc) (hAm : Am D ca s) {y : MethodName} {bytes : ByteArray} {maxL n idx mc ms q : Nat} {rm : Room} {As : List Value} {wc wr : va_W} {SH : va_W → Prop} (hM : ICon l D ca y (Cond.code y bytes maxL none :: TS) rm (.ref q :: As) wc SH mc ms) (hy : y.name = "<init>") (h0 : Cond.code y bytes maxL none ∈ TS) (h1 : Cond.initialized y.cls ∈ TS) (h2 : Cond.methodLink own idx y ∈ TS) (h3 : Cond.instanceMethod y ∈ TS) (hd : y.cls ≠ "java/lang/invoke/MethodHandle" ∧ y.cls ≠ "java/lang/invoke/VarHandle" ∧ (parseMethodDescriptor y.desc).map (fun d => d.parameters.length) = some n) (hn : As.length = n) (hrm : rm.cells = mc ∧ rm.slots = ms) (hR : rm.frames + 1 ≤ R.frames ∧ 8 + (maxL + 11) + rm.locals ≤ R.locals) (hl : ls.size = nL) (h8 : (rest.map fun v => v.category).sum ≤ 8) (hdg : decode cc pc = .ok (.invokespecial idx, 3)) (hf : cells + mc ≤ R.cells ∧ slots + ms ≤ R.slots) (hw : Wd D A s H locs (wc ++ wr)) {st : List Value} (hst : st = As.reverse ++ .ref q :: rest)
    (kk : ∀ (w1 : va_W) (H1 : Heap) (locs1 : List Loc), SH w1 → Wd D A s H1 locs1 (w1 ++ wr) → W p l e R s m args below meth c H1 locs1 (cells + mc) (slots + ms) Q (F0 m (pc + 3) ls rest)) : W p l e R s m args below meth c H locs cells slots Q (F0 m pc ls st) := by
  subst hst
  obtain ⟨hx, hb, hml, hown, hts⟩ := F
  have hFc := k_free hw
  obtain ⟨hP, hD, hS, hA⟩ := hw
  have hPc := fun (q : Nat × va_E) (h : q ∈ wc) => P_mem.mp hP q (List.mem_append_left _ h)
  refine va_callv (va_runI (As := As) (rest := rest) ⟨hx, hb, hml, hown, hts⟩ (hM H.size) ⟨callB_of n hts (good_c h0) rfl hrm.1 hrm.2 (hts _ h1) (hts _ h2) hd hR, hy, hts _ h3⟩ ⟨k_blind, fun U hU hW => ⟨rfl, by rw [hU], by rw [hU]; exact P_mem.mpr hPc, hAm.moved hW.alike, (D_split hD).1.weaken (fun _ _ _ _ => trivial)⟩⟩ rfl hn hl rfl (lv_room h8) hdg hf) hS (fun q _ h => hFc q h) hFc (fun u t H1 locs1 ht hvm hpost hB hz1 hk1 hS1 => ?_)
  obtain ⟨hP1, hD1⟩ := hB
  rw [ht] at hP1
  obtain ⟨a1, a2⟩ := W_join hP hD hk1 hFc hP1 hD1
  exact kk u H1 locs1 hpost ⟨a1, a2, hS1, hA⟩
theorem k_virt (F : Fx p s m args c own nL cc) (hAm : Am D ca s) {y : MethodName} {bytes : ByteArray} {maxL idx mc ms q ci : Nat} {rm : Room} {fs : List Value} {r : vw_C} {wc wr : va_W} {SH : va_W → Prop} (hM : ICon l D ca y (Cond.code y bytes maxL none :: TS) rm [.ref q] wc SH mc ms) (qi : Nat) (he : wc[qi]? = some (q, .inr (ci, fs))) (hc : cls[ci]? = some r) (hcn : r.1 = y.cls) (h0 : Cond.code y bytes maxL none ∈ TS) (h1 : Cond.initialized y.cls ∈ TS) (h2 : Cond.methodLink own idx y ∈ TS) (h3 : Cond.instanceMethod y ∈ TS) (h4 : Cond.selects y.cls y y ∈ TS) (hd : y.cls ≠ "java/lang/invoke/MethodHandle" ∧ y.cls ≠ "java/lang/invoke/VarHandle" ∧ (parseMethodDescriptor y.desc).map (fun d => d.parameters.length) = some 0) (hrm : rm.cells = mc ∧ rm.slots = ms) (hR : rm.frames + 1 ≤ R.frames ∧ 8 + (maxL + 11) + rm.locals ≤ R.locals) (hl : ls.size = nL) (h8 : (rest.map fun v => v.category).sum ≤ 8) (hdg : decode cc pc = .ok (.invokevirtual idx, 3)) (hf : cells + mc ≤ R.cells ∧ slots + ms ≤ R.slots) (hw : Wd D A s H locs (wc ++ wr))
    (kk : ∀ (w1 : va_W) (H1 : Heap) (locs1 : List Loc), SH w1 → Wd D A s H1 locs1 (w1 ++ wr) → W p l e R s m args below meth c H1 locs1 (cells + mc) (slots + ms) Q (F0 m (pc + 3) ls rest)) : W p l e R s m args below meth c H locs cells slots Q (F0 m pc ls (.ref q :: rest)) := by
  obtain ⟨hx, hb, hml, hown, hts⟩ := F
  have hFc := k_free hw
  obtain ⟨hP, hD, hS, hA⟩ := hw
  have hPc : va_P D cls wc H := P_mem.mpr (fun q h => P_mem.mp hP q (List.mem_append_left _ h))
  have hrv := va_recv hAm.1 hPc (ci := ci) (q0 := qi) hc he
  rw [hcn] at hrv
  refine va_callv (va_runV (C := y.cls) (b := q) (As := []) (rest := rest) ⟨hx, hb, hml, hown, hts⟩ (hM H.size) ⟨callB_of 0 hts (good_c h0) rfl hrm.1 hrm.2 (hts _ h1) (hts _ h2) hd hR, hts _ h3, hts _ h4⟩ ⟨k_blind, hrv, fun U hU hW => ⟨rfl, by rw [hU], by rw [hU]; exact hPc, hAm.moved hW.alike, (D_split hD).1.weaken (fun _ _ _ _ => trivial)⟩⟩ rfl rfl hl rfl (lv_room h8) hdg hf) hS (fun q _ h => hFc q h) hFc (fun u t H1 locs1 ht hvm hpost hB hz1 hk1 hS1 => ?_)
  obtain ⟨hP1, hD1⟩ := hB
  rw [ht] at hP1
  obtain ⟨a1, a2⟩ := W_join hP hD hk1 hFc hP1 hD1
  exact kk u H1 locs1 hpost ⟨a1, a2, hS1, hA⟩
theorem k_ret (F : Fx p s m args c own nL cc) (hr : meth.sig.returnType = none) (hlocks : meth.locks = false) {SH : va_W → Prop} (hw : Wd D A s H locs ws) (hsh : SH ws) (hdg : decode cc pc = .ok (.return_, 1)) : W p l e R s m args below meth c H locs cells slots (MQ below (va_Qv SH (fun w t => va_P D cls w t.heap ∧ va_D A w) A) args s cells slots A) (F0 m pc ls []) := by
  obtain ⟨hx, hb, hml, hown, hts⟩ := F
  obtain ⟨hP, hD, hS, hA⟩ := hw
  exact W.vret hx hb hr (fun t ht hW => ⟨⟨ws, rfl, hsh, by rw [ht]; exact hP, hD⟩, hS.F ht⟩) hS.2.2 hdg hlocks
end KROWS
