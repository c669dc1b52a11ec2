/-! ===== SOUNDNESS: what wp says holds of the machine ===== -/
def lvl (X : XT) : Nat → LV → List (Nat × Value)
  | _, [] => []
  | i, none :: l => lvl X (i + 1) l
  | i, some v :: l => (i, gv X v) :: lvl X (i + 1) l
theorem lvl_get {X : XT} : ∀ (al : LV) (i k : Nat) (v : AV), lg al k = some v → (i + k, gv X v) ∈ lvl X i al
  | [], i, k, v, h => by cases h
  | o :: l, i, 0, v, h => by
    have h : o = some v := h
    subst h
    exact List.mem_cons_self
  | none :: l, i, k + 1, v, h => by
    have := lvl_get (X := X) l (i + 1) k v h
    rw [Nat.add_right_comm] at this
    exact this
  | some w :: l, i, k + 1, v, h => by
    have := lvl_get (X := X) l (i + 1) k v h
    rw [Nat.add_right_comm] at this
    exact List.mem_cons_of_mem _ this
theorem lvl_ge {X : XT} : ∀ (al : LV) (i : Nat) (q : Nat × Value), q ∈ lvl X i al → i ≤ q.1
  | [], i, q, h => by cases h
  | none :: l, i, q, h => Nat.le_of_succ_le (lvl_ge l (i + 1) q h)
  | some w :: l, i, q, h => by
    rcases List.mem_cons.mp h with e | e
    · rw [e]; exact Nat.le_refl _
    · exact Nat.le_of_succ_le (lvl_ge l (i + 1) q e)
theorem lvl_set {X : XT} : ∀ (al : LV) (i k : Nat) (v : AV) (q : Nat × Value), q ∈ lvl X i (lst al k v) → q = (i + k, gv X v) ∨ (q ∈ lvl X i al ∧ q.1 ≠ i + k)
  | [], i, k, v, q, h => by cases h
  | none :: l, i, 0, v, q, h => by
    rcases List.mem_cons.mp h with e | e
    · exact Or.inl e
    · exact Or.inr ⟨e, fun z => by have := lvl_ge _ _ _ e; omega⟩
  | some w :: l, i, 0, v, q, h => by
    rcases List.mem_cons.mp h with e | e
    · exact Or.inl e
    · exact Or.inr ⟨List.mem_cons_of_mem _ e, fun z => by have := lvl_ge _ _ _ e; omega⟩
  | none :: l, i, k + 1, v, q, h => by
    rcases lvl_set l (i + 1) k v q h with e | ⟨e, n⟩
    · exact Or.inl (by rw [e, Nat.add_right_comm]; rfl)
    · exact Or.inr ⟨e, by omega⟩
  | some w :: l, i, k + 1, v, q, h => by
    rcases List.mem_cons.mp h with e | e
    · exact Or.inr ⟨by rw [e]; exact List.mem_cons_self, by rw [e]; show i ≠ i + (k + 1); omega⟩
    · rcases lvl_set l (i + 1) k v q e with e | ⟨e, n⟩
      · exact Or.inl (by rw [e, Nat.add_right_comm]; rfl)
      · exact Or.inr ⟨List.mem_cons_of_mem _ e, by omega⟩
theorem lvl_cat {X : XT} (hf : x_fm X = .null ∨ ∃ a, x_fm X = .ref a) : ∀ (al : LV) (i : Nat) (q : Nat × Value), q ∈ lvl X i al → q.2.category = 1
  | [], i, q, h => by cases h
  | none :: l, i, q, h => lvl_cat hf l (i + 1) q h
  | some w :: l, i, q, h => by
    rcases List.mem_cons.mp h with e | e
    · rw [e]; exact gv_cat hf w
    · exact lvl_cat hf l (i + 1) q e
theorem lst_len : ∀ (al : LV) (k : Nat) (v : AV), (lst al k v).length = al.length
  | [], _, _ => rfl
  | _ :: _, 0, _ => rfl
  | _ :: l, k + 1, v => by show (lst l k v).length + 1 = l.length + 1; rw [lst_len l k v]
theorem lst_mem : ∀ (al : LV) (k : Nat) (v w : AV), some w ∈ lst al k v → w = v ∨ some w ∈ al
  | [], _, _, _, h => by cases h
  | _ :: l, 0, v, w, h => by
    rcases List.mem_cons.mp h with e | e
    · exact Or.inl (Option.some.inj e)
    · exact Or.inr (List.mem_cons_of_mem _ e)
  | a :: l, k + 1, v, w, h => by
    rcases List.mem_cons.mp h with e | e
    · exact Or.inr (by rw [e]; exact List.mem_cons_self)
    · rcases lst_mem l k v w e with e | e
      · exact Or.inl e
      · exact Or.inr (List.mem_cons_of_mem _ e)
theorem lg_mem : ∀ (al : LV) (k : Nat) (v : AV), lg al k = some v → some v ∈ al
  | [], _, _, h => by cases h
  | o :: l, 0, v, h => by have h : o = some v := h; rw [h]; exact List.mem_cons_self
  | a :: l, k + 1, v, h => List.mem_cons_of_mem _ (lg_mem l k v h)
theorem lg_lt : ∀ (al : LV) (k : Nat) (v : AV), lg al k = some v → k < al.length
  | [], _, _, h => by cases h
  | _ :: l, 0, v, h => Nat.succ_pos _
  | a :: l, k + 1, v, h => Nat.succ_lt_succ (lg_lt l k v h)
theorem lst_ge : ∀ (al : LV) (k : Nat) (v : AV), al.length ≤ k → lst al k v = al
  | [], _, _, _ => rfl
  | _ :: l, 0, v, h => absurd h (Nat.not_le.mpr (Nat.succ_pos _))
  | a :: l, k + 1, v, h => by show a :: lst l k v = a :: l; rw [lst_ge l k v (Nat.le_of_succ_le_succ h)]
def LOK (X : XT) (nL : Nat) (ls : Array Slot) (al : LV) : Prop := lv_has ls nL (lvl X 0 al) ∧ al.length = nL ∧ ∀ v, some v ∈ al → VOK v
/-- what a frame of the machine stands on -/
def Cx (X : XT) (p : Program) (R : Room) (s : State) (m : MethodId) (args : Array Value) (c : Code) (A : Nat → Prop) (SC : Prop) (own nL d cells slots : Nat) (cc : ByteArray) : Prop :=
  p.tables.exec = Jvm.exec ∧ c.code = cc ∧ c.maxLocals = nL ∧ s.vm.findClass (oName own) = some m.cls ∧ (∀ w ∈ TS, w.before args s = true) ∧ Wk X A s s.heap ∧ (∀ q, Ax X q → A q) ∧
  (d + 1 ≤ R.frames ∧ 40 * (d + 1) ≤ R.locals) ∧ (cells ≤ R.cells ∧ slots ≤ R.slots) ∧ (SC → va_X (x_b X) (x_L X) (x_xs X) s s.heap ∧ x_b X < s.heap.size ∧ ¬ A (x_b X)) ∧
  ((Cond.native arraycopyName).before args s = true ∧ (Cond.static arraycopyName).before args s = true ∧ (Cond.initialized "java/lang/System").before args s = true)
/-- what the machine does from a place on -/
def Gs (X : XT) (p : Program) (l : Launch) (e : Env) (R : Room) (s : State) (m : MethodId) (args : Array Value) (below : List Frame) (meth : Method) (c : Code) (A : Nat → Prop) (nL cells slots : Nat) (Qf : State → Prop) (pc : Nat) (al : LV) (as : List AV) (σ : ST) : Prop :=
  ∀ (ls : Array Slot) (H : Heap) (locs : List Loc), LOK X nL ls al → (∀ v ∈ as, VOK v) → va_P (x_D X) cls (wsO X σ) H → va_S A s.heap H locs → W p l e R s m args below meth c H locs cells slots Qf (F0 m pc ls (as.map (gv X)))
/-- a method's contract: from a store and arguments, what it answers and the store behind it -/
def rmD (d : Nat) : Room := { frames := d, cells := 0, slots := 0, locals := 40 * d }
def mPc (X : XT) (as : List AV) (σ : ST) : Array Value → State → Prop := va_Pc (as.map (gv X)) (fun U => va_P (x_D X) cls (wsO X σ) U.heap ∧ Wk X (Ax X) U U.heap ∧ ∀ v ∈ as, VOK v)
def mQc (X : XT) (Q : Option AV → ST → Prop) : Array Value → State → Outcome → State → Prop := fun _ st oc t => (∃ (r : Option AV) (σ' : ST), oc = .returned (r.map (gv X)) ∧ Q r σ' ∧ va_P (x_D X) cls (wsO X σ') t.heap ∧ ∀ v, r = some v → VOK v) ∧ va_F (Ax X) st t
def MT (l : Launch) (X : XT) (d : Nat) : CTy := fun id as σ Q => Met l (mG id).1 (mW id) (rmD d) (mPc X as σ) (mQc X Q) 0 0 (Ax X)
section SND
variable {X : XT} {p : Program} {l : Launch} {e : Env} {R : Room} {s : State} {m : MethodId} {args : Array Value} {below : List Frame} {meth : Method} {c : Code} {A : Nat → Prop} {SC : Prop} {own nL d cells slots : Nat} {cc : ByteArray} {Qf : State → Prop}
theorem LOK.at {ls : Array Slot} {al : LV} {k : Nat} {v : AV} (h : LOK X nL ls al) (hv : lg al k = some v) : ls[k]? = some (.val (gv X v)) := by
  have := h.1.2.2 _ (lvl_get al 0 k v hv)
  rw [Nat.zero_add] at this
  exact this
theorem LOK.set {ls ls' : Array Slot} {al : LV} {k : Nat} {v : AV} (hf : x_fm X = .null ∨ ∃ a, x_fm X = .ref a) (h : LOK X nL ls al) (hv : VOK v)
    (h' : lv_has ls' nL ((k, gv X v) :: (lvl X 0 al).filter (fun q => !(q.1 == k) && !(q.1 + 1 == k && q.2.category == 2)))) : LOK X nL ls' (lst al k v) := by
  refine ⟨⟨h'.1, h'.2.1, fun q hq => ?_⟩, by rw [lst_len]; exact h.2.1, fun w hw => ?_⟩
  · rcases lvl_set al 0 k v q hq with e | ⟨e, n⟩
    · rw [Nat.zero_add] at e
      rw [e]
      exact h'.2.2 _ List.mem_cons_self
    · rw [Nat.zero_add] at n
      refine h'.2.2 q (List.mem_cons_of_mem _ (List.mem_filter.mpr ⟨e, ?_⟩))
      have hc := lvl_cat hf al 0 q e
      simp [n, hc]
  · rcases lst_mem al k v w hw with e | e
    · rw [e]; exact hv
    · exact h.2.2 w e
end SND
