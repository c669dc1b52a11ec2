theorem swt_spec {KJ : Nat → Prop} {x : Int32} {d : Nat} : ∀ sw : List (Int32 × Nat), swt KJ x d sw → (∃ (i t : Nat), sw[i]? = some (x, t) ∧ KJ t) ∨ ((∀ q ∈ sw, ¬ x = q.1) ∧ KJ d)
  | [], h => Or.inr ⟨fun q hq => (List.not_mem_nil hq).elim, h⟩
  | (v, t) :: l, h => by
    by_cases e : x = v
    · subst e
      exact Or.inl ⟨0, t, rfl, h.1 rfl⟩
    · rcases swt_spec l (h.2 e) with ⟨i, t', h1, h2⟩ | ⟨h1, h2⟩
      · exact Or.inl ⟨i + 1, t', h1, h2⟩
      · exact Or.inr ⟨fun q hq => (List.mem_cons.mp hq).elim (fun z => by rw [z]; exact e) (h1 q), h2⟩
theorem swt_look {KJ : Nat → Prop} {x : Int32} {pc d : Nat} {dflt : Int} (hd : (pc : Int) + dflt = d) : ∀ (sw : List (Int32 × Nat)) (ps : List (Int × Int)), ps.map (fun q => ((pc : Int) + q.2, q.1)) = sw.map (fun q => ((q.2 : Int), q.1.toInt)) → swt KJ x d sw →
    ∃ t : Nat, (pc : Int) + Op.lookupswitch.offset ps dflt x.toInt = t ∧ KJ t
  | [], [], _, h => ⟨d, hd, h⟩
  | [], _ :: _, e, _ => by cases e
  | _ :: _, [], e, _ => by cases e
  | (v, t) :: l, (a, o) :: r, e, h => by
    simp only [List.map_cons, List.cons.injEq, Prod.mk.injEq] at e
    obtain ⟨⟨e1, e2⟩, e3⟩ := e
    rw [Op.lookupswitch.offset_cons]
    by_cases hx : x = v
    · subst hx
      rw [if_pos e2]
      exact ⟨t, e1, h.1 rfl⟩
    · rw [if_neg (by rw [e2]; exact fun z => hx (Int32.toInt_inj.mp z.symm))]
      exact swt_look hd l r e3 (h.2 hx)
theorem of_ofInt_inj {a b : Int} (ha : -2000 ≤ a) (ha2 : a ≤ 2000) (hb : -2000 ≤ b) (hb2 : b ≤ 2000) (h : Int32.ofInt a = Int32.ofInt b) : a = b := by
  have h1 := congrArg Int32.toInt h
  rw [Int32.toInt_ofInt, Int32.toInt_ofInt] at h1
  have e : Int32.size = 4294967296 := rfl
  rw [e] at h1
  rw [Int.bmod_eq_of_le (by omega) (by omega), Int.bmod_eq_of_le (by omega) (by omega)] at h1
  exact h1
section STP
variable {X : XT} {p : Program} {l : Launch} {e : Env} {R : Room} {s : State} {m : MethodId} {args : Array Value} {below : List Frame} {meth : Method} {c : Code} {A : Nat → Prop} {SC : Prop} {own nL d cells slots : Nat} {cc : ByteArray} {Qf : State → Prop}
variable {pc : Nat} {al : LV} {as : List AV} {σ : ST}
theorem r_ldi (C : Cx X p R s m args c A SC own nL d cells slots cc) {k n : Nat} {v : Int32} (hv : lg al k = some (.inl v)) (hw : ∀ (ls : Array Slot) (H : Heap) (locs : List Loc) (rest : List Value), ls[k]? = some (.val (.int v)) → W p l e R s m args below meth c H locs cells slots Qf (F0 m (pc + n) ls (.int v :: rest)) → W p l e R s m args below meth c H locs cells slots Qf (F0 m pc ls rest))
    (kk : Gs X p l e R s m args below meth c A nL cells slots Qf (pc + n) al (.inl v :: as) σ) : Gs X p l e R s m args below meth c A nL cells slots Qf pc al as σ := by
  intro ls H locs hl hs hP hS
  exact hw ls H locs _ (hl.at hv) (kk ls H locs hl (vok_cons trivial hs) hP hS)
theorem r_lda (C : Cx X p R s m args c A SC own nL d cells slots cc) {k n : Nat} {v : Nat × Nat} (hv : lg al k = some (.inr v)) (hrf : isRf v.1 = true) (hw : ∀ (ls : Array Slot) (H : Heap) (locs : List Loc) (rest : List Value) (y : Nat), ls[k]? = some (.val (.ref y)) → W p l e R s m args below meth c H locs cells slots Qf (F0 m (pc + n) ls (.ref y :: rest)) → W p l e R s m args below meth c H locs cells slots Qf (F0 m pc ls rest))
    (kk : Gs X p l e R s m args below meth c A nL cells slots Qf (pc + n) al (.inr v :: as) σ) : Gs X p l e R s m args below meth c A nL cells slots Qf pc al as σ := by
  intro ls H locs hl hs hP hS
  obtain ⟨y, hy⟩ := gv_rf (X := X) hrf
  have h1 := hl.at hv
  rw [hy] at h1
  have h2 := kk ls H locs hl (vok_cons (hl.2.2 _ (lg_mem al k _ hv)) hs) hP hS
  simp only [List.map_cons, hy] at h2
  exact hw ls H locs _ y h1 h2
theorem r_sti (C : Cx X p R s m args c A SC own nL d cells slots cc) {k n : Nat} {v : Int32} (hk : k < nL) (hw : ∀ (ls : Array Slot) (H : Heap) (locs : List Loc) (rest : List Value) (lv : List (Nat × Value)), lv_has ls nL lv → (∀ ls', lv_has ls' nL ((k, Value.int v) :: lv.filter (fun q => !(q.1 == k) && !(q.1 + 1 == k && q.2.category == 2))) → W p l e R s m args below meth c H locs cells slots Qf (F0 m (pc + n) ls' rest)) → W p l e R s m args below meth c H locs cells slots Qf (F0 m pc ls (.int v :: rest)))
    (kk : Gs X p l e R s m args below meth c A nL cells slots Qf (pc + n) (lst al k (.inl v)) as σ) : Gs X p l e R s m args below meth c A nL cells slots Qf pc al (.inl v :: as) σ := by
  intro ls H locs hl hs hP hS
  have hfm := C.2.2.2.2.2.1.2.2.2.2.2.1
  exact hw ls H locs _ _ hl.1 (fun ls' h' => kk ls' H locs (LOK.set hfm hl trivial h') (vok_tl hs) hP hS)
theorem r_sta (C : Cx X p R s m args c A SC own nL d cells slots cc) {k n : Nat} {v : Nat × Nat} (hk : k < nL) (hrf : isRf v.1 = true) (hw : ∀ (ls : Array Slot) (H : Heap) (locs : List Loc) (rest : List Value) (lv : List (Nat × Value)) (y : Nat), lv_has ls nL lv → (∀ ls', lv_has ls' nL ((k, Value.ref y) :: lv.filter (fun q => !(q.1 == k) && !(q.1 + 1 == k && q.2.category == 2))) → W p l e R s m args below meth c H locs cells slots Qf (F0 m (pc + n) ls' rest)) → W p l e R s m args below meth c H locs cells slots Qf (F0 m pc ls (.ref y :: rest)))
    (kk : Gs X p l e R s m args below meth c A nL cells slots Qf (pc + n) (lst al k (.inr v)) as σ) : Gs X p l e R s m args below meth c A nL cells slots Qf pc al (.inr v :: as) σ := by
  intro ls H locs hl hs hP hS
  have hfm := C.2.2.2.2.2.1.2.2.2.2.2.1
  obtain ⟨y, hy⟩ := gv_rf (X := X) hrf
  simp only [List.map_cons, hy]
  exact hw ls H locs _ _ y hl.1 (fun ls' h' => kk ls' H locs (LOK.set hfm hl (hs _ List.mem_cons_self) (by rw [hy]; exact h')) (vok_tl hs) hP hS)
theorem r_inc (C : Cx X p R s m args c A SC own nL d cells slots cc) {k : Nat} {v x : Int32} {n : Int} (hv : lg al k = some (.inl v)) (hx : Int32.ofInt n = x) (hd : decode cc pc = .ok (.iinc k n, 3))
    (kk : Gs X p l e R s m args below meth c A nL cells slots Qf (pc + 3) (lst al k (.inl (v + x))) as σ) : Gs X p l e R s m args below meth c A nL cells slots Qf pc al as σ := by
  intro ls H locs hl hs hP hS
  have hfm := C.2.2.2.2.2.1.2.2.2.2.2.1
  have hk : k < nL := by have := lg_lt al k _ hv; rw [hl.2.1] at this; exact this
  have hmem := lvl_get (X := X) al 0 k _ hv
  rw [Nat.zero_add] at hmem
  obtain ⟨i, hi⟩ := List.getElem?_of_mem hmem
  refine lv_iinc (v := v + x) C.1 C.2.1 hd hl.1 hi (by rw [hx]) hk rfl (fun ls' h' => ?_)
  exact kk ls' H locs (LOK.set hfm hl trivial h') hs hP hS
theorem r_tab (C : Cx X p R s m args c A SC own nL d cells slots cc) {x : Int32} {a len : Nat} {dflt lo hi : Int} {offs : Array Int} {sw : List (Int32 × Nat)} {KJ : Nat → Prop} (h1 : (pc : Int) + dflt = (a : Int)) (h2 : hi = lo + (sw.length : Int) - 1) (h3 : -1000 ≤ lo) (h4 : hi ≤ 1000)
    (h5 : offs.toList.map (fun o => (pc : Int) + o) = sw.map (fun q => (q.2 : Int))) (h6 : sw.map (fun q => q.1) = (List.range sw.length).map (fun (i : Nat) => Int32.ofInt (lo + (i : Int)))) (hd : decode cc pc = .ok (.tableswitch dflt lo hi offs, len)) (h : swt KJ x a sw)
    (kk : ∀ t, KJ t → Gs X p l e R s m args below meth c A nL cells slots Qf t al as σ) : Gs X p l e R s m args below meth c A nL cells slots Qf pc al (.inl x :: as) σ := by
  intro ls H locs hl hs hP hS
  have hsw : ∀ (i t : Nat) (v : Int32), sw[i]? = some (v, t) → v = Int32.ofInt (lo + (i : Int)) ∧ ∃ o, offs[i]? = some o ∧ (pc : Int) + o = t ∧ i < sw.length := by
    intro i t v hi
    have hlt := (List.getElem?_eq_some_iff.mp hi).1
    have e1 := congrArg (fun l => l[i]?) h6
    simp only [List.getElem?_map, hi, List.getElem?_range hlt, Option.map_some, Option.some.injEq] at e1
    have e2 := congrArg (fun l => l[i]?) h5
    simp only [List.getElem?_map, hi, Option.map_some] at e2
    refine ⟨e1, ?_⟩
    cases ho : offs.toList[i]? with
    | none => rw [ho] at e2; cases e2
    | some o =>
      rw [ho] at e2
      simp only [Option.map_some, Option.some.injEq] at e2
      exact ⟨o, by rw [← Array.getElem?_toList]; exact ho, e2, hlt⟩
  rcases swt_spec sw h with ⟨i, t, hi, ht⟩ | ⟨hall, ha⟩
  · obtain ⟨e1, o, e2, e3, e4⟩ := hsw i t x hi
    have hxi : x.toInt = lo + (i : Int) := by
      rw [e1, Int32.toInt_ofInt]
      have e : Int32.size = 4294967296 := rfl
      rw [e]
      exact Int.bmod_eq_of_le (by omega) (by omega)
    refine lv_tableIn (tgt := t) C.1 C.2.1 hd (by omega) (by omega) (off := o) ?_ e3 (kk t ht ls H locs hl (vok_tl hs) hP hS)
    rw [hxi, show (lo + (i : Int) - lo).toNat = i by omega]
    exact e2
  · refine lv_tableOut (tgt := a) C.1 C.2.1 hd ?_ h1 (kk a ha ls H locs hl (vok_tl hs) hP hS)
    rcases Int.lt_or_le x.toInt lo with h9 | h9
    · exact Or.inl h9
    · refine Or.inr ?_
      rcases Int.lt_or_le hi x.toInt with h8 | h8
      · exact h8
      · exfalso
        have hi' : (x.toInt - lo).toNat < sw.length := by omega
        have hge : sw[(x.toInt - lo).toNat]? = some sw[(x.toInt - lo).toNat] := List.getElem?_eq_getElem hi'
        obtain ⟨e1, -⟩ := hsw _ _ _ hge
        refine hall _ (List.mem_of_getElem? hge) ?_
        refine Eq.symm (e1.trans ?_)
        rw [show lo + (((x.toInt - lo).toNat : Nat) : Int) = x.toInt by omega, Int32.ofInt_toInt]
end STP
