section MAIN
variable {X : XT} {p : Program} {l : Launch} {e : Env} {R : Room} {s : State} {m : MethodId} {args : Array Value} {below : List Frame} {meth : Method} {c : Code} {A : Nat → Prop} {SC : Prop} {own nL d cells slots : Nat} {cc : ByteArray} {Qf : State → Prop}
/-- what a method's ends must give -/
def RetOK (X : XT) (p : Program) (l : Launch) (e : Env) (R : Room) (s : State) (m : MethodId) (args : Array Value) (below : List Frame) (meth : Method) (c : Code) (A : Nat → Prop) (cells slots : Nat) (cc : ByteArray) (Qf : State → Prop) (rt : Option FieldType) (Rt : Option AV → ST → Prop) : Prop :=
  (∀ (pc : Nat) (ls : Array Slot) (H : Heap) (locs : List Loc) (v : Int32) (σ : ST) (ty : FieldType), rt = some ty → narrow ty (.int v) = .int v → decode cc pc = .ok (.ireturn, 1) → Rt (some (.inl v)) σ → va_P (x_D X) cls (wsO X σ) H → va_S A s.heap H locs → W p l e R s m args below meth c H locs cells slots Qf (F0 m pc ls [.int v])) ∧
  (∀ (pc : Nat) (ls : Array Slot) (H : Heap) (locs : List Loc) (v : Nat × Nat) (σ : ST) (C : String), rt = some (.object C) → isRf v.1 = true → VOK (.inr v) → decode cc pc = .ok (.areturn, 1) → Rt (some (.inr v)) σ → va_P (x_D X) cls (wsO X σ) H → va_S A s.heap H locs → W p l e R s m args below meth c H locs cells slots Qf (F0 m pc ls [gv X (.inr v)])) ∧
  (∀ (pc : Nat) (ls : Array Slot) (H : Heap) (locs : List Loc) (σ : ST), rt = none → decode cc pc = .ok (.return_, 1) → Rt none σ → va_P (x_D X) cls (wsO X σ) H → va_S A s.heap H locs → W p l e R s m args below meth c H locs cells slots Qf (F0 m pc ls []))
theorem cll_spec {CT : CTy} {id n : Nat} {as : List AV} {σ : ST} {ok : AV → Bool} {KN : List AV → ST → Prop} (h : cll CT id n as σ ok KN) : ∃ (vs r : List AV) (Q : Option AV → ST → Prop), as = vs.reverse ++ r ∧ vs.length = n ∧ short r = true ∧ (∀ v0 vs', vs = v0 :: vs' → ok v0 = true) ∧ CT id vs σ Q ∧ ∀ v σ', Q v σ' → KN (v.toList ++ r) σ' := by
  have key : ∀ (r : List AV) (v : Option AV) (σ' : ST), (match v with | none => KN r σ' | some w => KN (w :: r) σ') → KN (v.toList ++ r) σ' := by
    intro r v σ' h
    cases v with
    | none => exact h
    | some w => exact h
  unfold cll at h
  split at h
  · cases hs : short as with
    | false => rw [hs] at h; exact h.elim
    | true => rw [hs] at h; exact ⟨[], as, _, rfl, rfl, hs, fun _ _ e => (by cases e), h, fun v σ' hq => key as v σ' hq⟩
  · rename_i a r
    cases hs : (ok a && short r) with
    | false => rw [hs] at h; exact h.elim
    | true =>
      rw [hs] at h; rw [Bool.and_eq_true] at hs
      exact ⟨[a], r, _, rfl, rfl, hs.2, fun _ _ e => (by cases e; exact hs.1), h, fun v σ' hq => key r v σ' hq⟩
  · rename_i b a r
    cases hs : (ok a && short r) with
    | false => rw [hs] at h; exact h.elim
    | true =>
      rw [hs] at h; rw [Bool.and_eq_true] at hs
      exact ⟨[a, b], r, _, rfl, rfl, hs.2, fun _ _ e => (by cases e; exact hs.1), h, fun v σ' hq => key r v σ' hq⟩
  · rename_i c b a r
    cases hs : (ok a && short r) with
    | false => rw [hs] at h; exact h.elim
    | true =>
      rw [hs] at h; rw [Bool.and_eq_true] at hs
      exact ⟨[a, b, c], r, _, rfl, rfl, hs.2, fun _ _ e => (by cases e; exact hs.1), h, fun v σ' hq => key r v σ' hq⟩
  · rename_i d c b a r
    cases hs : (ok a && short r) with
    | false => rw [hs] at h; exact h.elim
    | true =>
      rw [hs] at h; rw [Bool.and_eq_true] at hs
      exact ⟨[a, b, c, d], r, _, rfl, rfl, hs.2, fun _ _ e => (by cases e; exact hs.1), h, fun v σ' hq => key r v σ' hq⟩
  · rename_i e d c b a r
    cases hs : (ok a && short r) with
    | false => rw [hs] at h; exact h.elim
    | true =>
      rw [hs] at h; rw [Bool.and_eq_true] at hs
      exact ⟨[a, b, c, d, e], r, _, rfl, rfl, hs.2, fun _ _ e => (by cases e; exact hs.1), h, fun v σ' hq => key r v σ' hq⟩
  · exact h.elim
set_option maxHeartbeats 4000000 in
theorem stp_sound (C : Cx X p R s m args c A SC own nL d cells slots cc) {CT : CTy} (hCT : ∀ id as σ Q, CT id as σ Q → MT l X d id as σ Q) {rt : Option FieldType} {Rt : Option AV → ST → Prop} (hRt : RetOK X p l e R s m args below meth c A cells slots cc Qf rt Rt)
    {pc len a b c9 : Nat} {ins : Instr} {x : Int32} {sw : List (Int32 × Nat)} (hok : okI own nL rt pc len ins a b c9 x sw = true) (hd : decode cc pc = .ok (ins, len)) {KN : LV → List AV → ST → Prop} {KJ : Nat → LV → List AV → ST → Prop}
    (hN : ∀ al as σ, KN al as σ → Gs X p l e R s m args below meth c A nL cells slots Qf (pc + len) al as σ) (hJ : ∀ t al as σ, KJ t al as σ → Gs X p l e R s m args below meth c A nL cells slots Qf t al as σ)
    {al : LV} {as : List AV} {σ : ST} (h : stp CT SC (x_L X) (x_xs X) ins a b x sw al as σ KN KJ Rt) : Gs X p l e R s m args below meth c A nL cells slots Qf pc al as σ := by
  have hx := C.1
  have hb := C.2.1
  have hown := C.2.2.2.1
  have hts := C.2.2.2.2.1
  have hcat := gv_cat (X := X) C.2.2.2.2.2.1.2.2.2.2.2.1
  cases ins
  case iconst n =>
    simp only [okI, Bool.and_eq_true, decide_eq_true_eq] at hok
    obtain ⟨rfl, hv⟩ := hok
    exact r_push C (v := .inl x) trivial (fun ls H locs rest _ _ _ k => lv_iconst hx hb hd hv k) (hN _ _ _ h)
  case bipush n =>
    simp only [okI, Bool.and_eq_true, decide_eq_true_eq] at hok
    obtain ⟨rfl, hv⟩ := hok
    exact r_push C (v := .inl x) trivial (fun ls H locs rest _ _ _ k => lv_bipush hx hb hd hv k) (hN _ _ _ h)
  case sipush n =>
    simp only [okI, Bool.and_eq_true, decide_eq_true_eq] at hok
    obtain ⟨rfl, hv⟩ := hok
    exact r_push C (v := .inl x) trivial (fun ls H locs rest _ _ _ k => lv_sipush hx hb hd hv k) (hN _ _ _ h)
  case ldc i =>
    simp only [okI, Bool.and_eq_true, decide_eq_true_eq] at hok
    obtain ⟨rfl, hv⟩ := hok
    cases a with
    | zero =>
      cases hl : lnkC[c9]? with
      | none => rw [hl] at hv; cases hv
      | some q =>
        obtain ⟨o, j, y, pl⟩ := q
        rw [hl] at hv
        simp only [Bool.and_eq_true, decide_eq_true_eq] at hv
        obtain ⟨⟨rfl, rfl⟩, rfl⟩ := hv
        exact r_push C (v := .inl y) trivial (fun ls H locs rest _ _ _ k => lv_ldc hx hb hown (hts _ (lkC_ok c9 o j y pl hl)) hd k) (hN _ _ _ h)
    | succ k =>
      simp only [Bool.and_eq_true, decide_eq_true_eq] at hv
      obtain ⟨⟨h1, h2⟩, rfl⟩ := hv
      exact r_ldcS C h2 h1 hd (hN _ _ _ h)
  case ldc_w i =>
    simp only [okI, Bool.and_eq_true, decide_eq_true_eq] at hok
    obtain ⟨rfl, hv⟩ := hok
    cases hl : lnkC[c9]? with
    | none => rw [hl] at hv; cases hv
    | some q =>
      obtain ⟨o, j, y, pl⟩ := q
      rw [hl] at hv
      simp only [Bool.and_eq_true, decide_eq_true_eq] at hv
      obtain ⟨⟨rfl, rfl⟩, rfl⟩ := hv
      exact r_push C (v := .inl y) trivial (fun ls H locs rest _ _ _ k => lv_ldcw hx hb hown (hts _ (lkC_ok c9 o j y pl hl)) hd k) (hN _ _ _ h)
  case iload_n k =>
    simp only [okI, Bool.and_eq_true, decide_eq_true_eq] at hok
    obtain ⟨rfl, hv⟩ := hok
    simp only [stp] at h
    split at h
    · rename_i v hl
      exact r_ldi C hl (fun ls H locs rest h1 kk => lv_iload_n hx hb hd hv h1 kk) (hN _ _ _ h)
    · exact h.elim
  case iload k =>
    simp only [okI, Bool.and_eq_true, decide_eq_true_eq] at hok
    obtain ⟨rfl, rfl⟩ := hok
    simp only [stp] at h
    split at h
    · rename_i v hl
      exact r_ldi C hl (fun ls H locs rest h1 kk => lv_iload hx hb hd h1 kk) (hN _ _ _ h)
    · exact h.elim
  case aload_n k =>
    simp only [okI, Bool.and_eq_true, decide_eq_true_eq] at hok
    obtain ⟨rfl, hv⟩ := hok
    simp only [stp] at h
    split at h
    · rename_i v hl
      cases hr : isRf v.1 with
      | false => rw [hr] at h; exact h.elim
      | true =>
        rw [hr] at h
        exact r_lda C hl hr (fun ls H locs rest y h1 kk => lv_aload_n hx hb hd hv h1 kk) (hN _ _ _ h)
    · exact h.elim
  case aload k =>
    simp only [okI, Bool.and_eq_true, decide_eq_true_eq] at hok
    obtain ⟨rfl, rfl⟩ := hok
    simp only [stp] at h
    split at h
    · rename_i v hl
      cases hr : isRf v.1 with
      | false => rw [hr] at h; exact h.elim
      | true =>
        rw [hr] at h
        exact r_lda C hl hr (fun ls H locs rest y h1 kk => lv_aload hx hb hd h1 kk) (hN _ _ _ h)
    · exact h.elim
  case istore_n k =>
    simp only [okI, Bool.and_eq_true, decide_eq_true_eq] at hok
    obtain ⟨⟨rfl, hv⟩, hn⟩ := hok
    simp only [stp] at h
    split at h
    · exact r_sti C hn (fun ls H locs rest lv h1 kk => lv_istore_n hx hb hd hv h1 hn rfl kk) (hN _ _ _ h)
    · exact h.elim
  case istore k =>
    simp only [okI, Bool.and_eq_true, decide_eq_true_eq] at hok
    obtain ⟨⟨rfl, rfl⟩, hn⟩ := hok
    simp only [stp] at h
    split at h
    · exact r_sti C hn (fun ls H locs rest lv h1 kk => lv_istore hx hb hd h1 hn rfl kk) (hN _ _ _ h)
    · exact h.elim
  case astore_n k =>
    simp only [okI, Bool.and_eq_true, decide_eq_true_eq] at hok
    obtain ⟨⟨rfl, hv⟩, hn⟩ := hok
    simp only [stp] at h
    split at h
    · rename_i v r
      cases hr : isRf v.1 with
      | false => rw [hr] at h; exact h.elim
      | true =>
        rw [hr] at h
        exact r_sta C hn hr (fun ls H locs rest lv y h1 kk => lv_astore_n hx hb hd hv h1 hn rfl kk) (hN _ _ _ h)
    · exact h.elim
  case astore k =>
    simp only [okI, Bool.and_eq_true, decide_eq_true_eq] at hok
    obtain ⟨⟨rfl, rfl⟩, hn⟩ := hok
    simp only [stp] at h
    split at h
    · rename_i v r
      cases hr : isRf v.1 with
      | false => rw [hr] at h; exact h.elim
      | true =>
        rw [hr] at h
        exact r_sta C hn hr (fun ls H locs rest lv y h1 kk => lv_astore hx hb hd h1 hn rfl kk) (hN _ _ _ h)
    · exact h.elim
  case iinc k n =>
    simp only [okI, Bool.and_eq_true, decide_eq_true_eq] at hok
    obtain ⟨⟨rfl, rfl⟩, hv⟩ := hok
    simp only [stp] at h
    split at h
    · rename_i v hl
      exact r_inc C hl hv hd (hN _ _ _ h)
    · exact h.elim
  case iadd =>
    obtain rfl : len = 1 := of_decide_eq_true hok
    simp only [stp] at h
    split at h
    · exact r_bin C (fun ls H locs rest k => lv_iadd hx hb hd k) (hN _ _ _ h)
    · exact h.elim
  case isub =>
    obtain rfl : len = 1 := of_decide_eq_true hok
    simp only [stp] at h
    split at h
    · exact r_bin C (fun ls H locs rest k => lv_isub hx hb hd k) (hN _ _ _ h)
    · exact h.elim
  case imul =>
    obtain rfl : len = 1 := of_decide_eq_true hok
    simp only [stp] at h
    split at h
    · exact r_bin C (fun ls H locs rest k => lv_imul hx hb hd k) (hN _ _ _ h)
    · exact h.elim
  case iand =>
    obtain rfl : len = 1 := of_decide_eq_true hok
    simp only [stp] at h
    split at h
    · exact r_bin C (fun ls H locs rest k => lv_iand hx hb hd k) (hN _ _ _ h)
    · exact h.elim
  case ior =>
    obtain rfl : len = 1 := of_decide_eq_true hok
    simp only [stp] at h
    split at h
    · exact r_bin C (fun ls H locs rest k => lv_ior hx hb hd k) (hN _ _ _ h)
    · exact h.elim
  case ixor =>
    obtain rfl : len = 1 := of_decide_eq_true hok
    simp only [stp] at h
    split at h
    · exact r_bin C (fun ls H locs rest k => lv_ixor hx hb hd k) (hN _ _ _ h)
    · exact h.elim
  case ishl =>
    obtain rfl : len = 1 := of_decide_eq_true hok
    simp only [stp] at h
    split at h
    · exact r_bin C (fun ls H locs rest k => lv_ishl hx hb hd k) (hN _ _ _ h)
    · exact h.elim
  case ishr =>
    obtain rfl : len = 1 := of_decide_eq_true hok
    simp only [stp] at h
    split at h
    · exact r_bin C (fun ls H locs rest k => lv_ishr hx hb hd k) (hN _ _ _ h)
    · exact h.elim
  case idiv =>
    obtain rfl : len = 1 := of_decide_eq_true hok
    simp only [stp] at h
    split at h
    · obtain ⟨h0, h⟩ := h
      exact r_bin C (fun ls H locs rest k => lv_idiv hx hb hd h0 k) (hN _ _ _ h)
    · exact h.elim
  case irem =>
    obtain rfl : len = 1 := of_decide_eq_true hok
    simp only [stp] at h
    split at h
    · obtain ⟨h0, h⟩ := h
      exact r_bin C (fun ls H locs rest k => lv_irem hx hb hd h0 k) (hN _ _ _ h)
    · exact h.elim
  case iushr =>
    obtain rfl : len = 1 := of_decide_eq_true hok
    simp only [stp] at h
    split at h
    · exact r_bin C (fun ls H locs rest k => lv_iushr hx hb hd rfl k) (hN _ _ _ h)
    · exact h.elim
  case i2c =>
    obtain rfl : len = 1 := of_decide_eq_true hok
    simp only [stp] at h
    split at h
    · exact r_un C (fun ls H locs rest k => lv_i2c hx hb hd rfl k) (hN _ _ _ h)
    · exact h.elim
  case dup =>
    obtain rfl : len = 1 := of_decide_eq_true hok
    simp only [stp] at h
    split at h
    · intro ls H locs hl hs hP hS
      refine lv_dup hx hb hd (hcat _) ?_
      exact hN _ _ _ h ls H locs hl (vok_cons (hs _ List.mem_cons_self) hs) hP hS
    · exact h.elim
  case dup2 =>
    obtain rfl : len = 1 := of_decide_eq_true hok
    simp only [stp] at h
    split at h
    · intro ls H locs hl hs hP hS
      refine lv_dup2_11 hx hb hd (hcat _) (hcat _) ?_
      exact hN _ _ _ h ls H locs hl (vok_cons (hs _ List.mem_cons_self) (vok_cons (hs _ (List.mem_cons_of_mem _ List.mem_cons_self)) hs)) hP hS
    · exact h.elim
  case pop =>
    obtain rfl : len = 1 := of_decide_eq_true hok
    simp only [stp] at h
    split at h
    · intro ls H locs hl hs hP hS
      refine lv_pop hx hb hd (hcat _) ?_
      exact hN _ _ _ h ls H locs hl (vok_tl hs) hP hS
    · exact h.elim
  case goto off =>
    simp only [okI, Bool.and_eq_true, decide_eq_true_eq] at hok
    exact r_jmp (fun ls H locs rest k => lv_goto hx hb (by rw [hok.1] at hd; exact hd) hok.2 k) (hJ _ _ _ _ h)
  case ifCond cnd off =>
    simp only [okI, Bool.and_eq_true, decide_eq_true_eq] at hok
    obtain ⟨rfl, ht⟩ := hok
    simp only [stp] at h
    split at h
    · cases cnd
      · exact r_br1 C (fun ls H locs rest k1 k2 => lv_if_eq hx hb hd ht k1 k2) (fun q => hJ _ _ _ _ (h.1 q)) (fun q => hN _ _ _ (h.2 q))
      · exact r_br1 (cnd := ¬ _ = 0) C (fun ls H locs rest k1 k2 => lv_if_ne hx hb hd ht k1 (fun z => k2 (fun y => y z))) (fun q => hJ _ _ _ _ (h.2 q)) (fun q => hN _ _ _ (h.1 (Decidable.not_not.mp q)))
      · exact r_br1 C (fun ls H locs rest k1 k2 => lv_if_lt hx hb hd ht k1 k2) (fun q => hJ _ _ _ _ (h.1 q)) (fun q => hN _ _ _ (h.2 q))
      · exact r_br1 C (fun ls H locs rest k1 k2 => lv_if_ge hx hb hd ht k1 k2) (fun q => hJ _ _ _ _ (h.1 q)) (fun q => hN _ _ _ (h.2 q))
      · exact r_br1 C (fun ls H locs rest k1 k2 => lv_if_gt hx hb hd ht k1 k2) (fun q => hJ _ _ _ _ (h.1 q)) (fun q => hN _ _ _ (h.2 q))
      · exact r_br1 C (fun ls H locs rest k1 k2 => lv_if_le hx hb hd ht k1 k2) (fun q => hJ _ _ _ _ (h.1 q)) (fun q => hN _ _ _ (h.2 q))
    · exact h.elim
  case if_icmp cnd off =>
    simp only [okI, Bool.and_eq_true, decide_eq_true_eq] at hok
    obtain ⟨rfl, ht⟩ := hok
    simp only [stp] at h
    split at h
    · cases cnd
      · exact r_br2 C (fun ls H locs rest k1 k2 => lv_icmp_eq hx hb hd ht k1 k2) (fun q => hJ _ _ _ _ (h.1 q)) (fun q => hN _ _ _ (h.2 q))
      · exact r_br2 (cnd := ¬ _ = _) C (fun ls H locs rest k1 k2 => lv_icmp_ne hx hb hd ht k1 (fun z => k2 (fun y => y z))) (fun q => hJ _ _ _ _ (h.2 q)) (fun q => hN _ _ _ (h.1 (Decidable.not_not.mp q)))
      · exact r_br2 C (fun ls H locs rest k1 k2 => lv_icmp_lt hx hb hd ht k1 k2) (fun q => hJ _ _ _ _ (h.1 q)) (fun q => hN _ _ _ (h.2 q))
      · exact r_br2 C (fun ls H locs rest k1 k2 => lv_icmp_ge hx hb hd ht k1 k2) (fun q => hJ _ _ _ _ (h.1 q)) (fun q => hN _ _ _ (h.2 q))
      · exact r_br2 C (fun ls H locs rest k1 k2 => lv_icmp_gt hx hb hd ht k1 k2) (fun q => hJ _ _ _ _ (h.1 q)) (fun q => hN _ _ _ (h.2 q))
      · exact r_br2 C (fun ls H locs rest k1 k2 => lv_icmp_le hx hb hd ht k1 k2) (fun q => hJ _ _ _ _ (h.1 q)) (fun q => hN _ _ _ (h.2 q))
    · exact h.elim
  case tableswitch dflt lo hi offs =>
    simp only [okI, Bool.and_eq_true, decide_eq_true_eq] at hok
    obtain ⟨⟨⟨⟨⟨h1, h2⟩, h3⟩, h4⟩, h5⟩, h6⟩ := hok
    simp only [stp] at h
    split at h
    · exact r_tab C h1 h2 h3 h4 h5 h6 hd h (fun t ht => hJ _ _ _ _ ht)
    · exact h.elim
  case lookupswitch dflt ps =>
    simp only [okI, Bool.and_eq_true, decide_eq_true_eq] at hok
    obtain ⟨⟨h1, h2⟩, h3⟩ := hok
    simp only [stp] at h
    split at h
    · intro ls H locs hl hs hP hS
      obtain ⟨t, e1, ht⟩ := swt_look h1 sw ps.toList h3 h
      exact lv_lookup (tgt := t) hx hb hd h2 rfl e1 (hJ _ _ _ _ ht ls H locs hl (vok_tl hs) hP hS)
    · exact h.elim
  case getfield i =>
    simp only [okI, Bool.and_eq_true, decide_eq_true_eq] at hok
    obtain ⟨rfl, hv⟩ := hok
    simp only [stp] at h
    split at h
    · rename_i q k r
      cases hqa : Nat.beq q a with
      | false => rw [hqa] at h; exact h.elim
      | true =>
        rw [hqa] at h
        obtain rfl := Nat.eq_of_beq_eq_true hqa
        cases h70 : Nat.beq q 70 with
        | true =>
          rw [h70] at h hv
          obtain rfl := Nat.eq_of_beq_eq_true h70
          cases b with
          | zero =>
            simp only [cond_true, Bool.and_eq_true, decide_eq_true_eq] at hv
            exact r_sgetV C hv.1 (by rw [← hv.2]; exact hd) (hN _ _ _ h)
          | succ b =>
            simp only [cond_true, Bool.and_eq_true, decide_eq_true_eq] at hv
            exact r_sgetC C hv.1 (by rw [← hv.2]; exact hd) (hN _ _ _ h)
        | false =>
          rw [h70] at h hv
          cases hl : lnkF[c9]? with
          | none => rw [hl] at hv; cases hv
          | some w =>
            obtain ⟨o, j, ci, f, pl⟩ := w
            rw [hl] at hv
            simp only [cond_false, Bool.and_eq_true, decide_eq_true_eq] at hv
            obtain ⟨⟨⟨rfl, rfl⟩, rfl⟩, rfl⟩ := hv
            obtain ⟨C0, T, N, g1, g2, g3⟩ := lkF_ok c9 o j ci f pl hl
            have hci : ci < 10 := (List.getElem?_eq_some_iff.mp g1).1
            refine r_getf C g1 g2 g3 hd (by omega) (hN _ _ _ ?_)
            simp only [cond_true, cond_false] at h
            cases hf : fT ci f with
            | none => rw [hf] at h; exact h
            | some w => rw [hf] at h; exact h
    · exact h.elim
  case putfield i =>
    simp only [okI, Bool.and_eq_true, decide_eq_true_eq] at hok
    obtain ⟨⟨rfl, hf0⟩, hv⟩ := hok
    simp only [stp] at h
    split at h
    · rename_i v q k r
      cases hqa : Nat.beq q a with
      | false => rw [hqa] at h; exact h.elim
      | true =>
        rw [hqa] at h
        obtain rfl := Nat.eq_of_beq_eq_true hqa
        cases hl : lnkF[c9]? with
        | none => rw [hl] at hv; cases hv
        | some w =>
          obtain ⟨o, j, ci, f, pl⟩ := w
          rw [hl] at hv
          simp only [Bool.and_eq_true, decide_eq_true_eq] at hv
          obtain ⟨⟨⟨rfl, rfl⟩, rfl⟩, rfl⟩ := hv
          obtain ⟨C0, T, N, g1, g2, g3⟩ := lkF_ok c9 o j ci f pl hl
          have hci : ci < 10 := (List.getElem?_eq_some_iff.mp g1).1
          have hf : fT ci f = none := by
            cases hf : fT ci f with
            | none => rfl
            | some w => rw [hf] at hf0; cases hf0
          cases hB : isB ci f with
          | true =>
            rw [hB] at h
            exact r_putf C g1 g2 g3 hd (by omega) hf (fun _ => h.1) (hN _ _ _ h.2)
          | false =>
            rw [hB] at h
            exact r_putf C g1 g2 g3 hd (by omega) hf (fun z => by rw [hB] at z; cases z) (hN _ _ _ h)
    · exact h.elim
  case getstatic i =>
    simp only [okI, Bool.and_eq_true, decide_eq_true_eq] at hok
    obtain ⟨rfl, hv⟩ := hok
    cases hl : lnkG[a]? with
    | none => rw [hl] at hv; cases hv
    | some w =>
      obtain ⟨o, j, pl⟩ := w
      rw [hl] at hv
      simp only [Bool.and_eq_true, decide_eq_true_eq] at hv
      exact r_gets C hl hv.1 hv.2 hd (hN _ _ _ h)
  case iaload =>
    obtain rfl : len = 1 := of_decide_eq_true hok
    simp only [stp] at h
    split at h
    · rename_i i q k r
      cases h1 : isIA q with
      | true => rw [h1] at h; exact r_iald C h1 h.1 hd (hN _ _ _ h.2)
      | false =>
        rw [h1] at h
        cases h2 : Nat.beq q 60 with
        | true =>
          rw [h2] at h
          obtain rfl := Nat.eq_of_beq_eq_true h2
          exact r_sld C h.1 h.2.1 hd (hN _ _ _ h.2.2)
        | false =>
          rw [h2] at h
          cases h3 : Nat.beq q 61 with
          | true =>
            rw [h3] at h
            obtain rfl := Nat.eq_of_beq_eq_true h3
            exact r_tld C h.1 hd (hN _ _ _ h.2)
          | false => rw [h3] at h; exact h.elim
    · exact h.elim
  case iastore =>
    obtain rfl : len = 1 := of_decide_eq_true hok
    simp only [stp] at h
    split at h
    · rename_i v i q k r
      cases h1 : isIA q with
      | true => rw [h1] at h; exact r_iast C h1 h.1 hd (hN _ _ _ h.2)
      | false => rw [h1] at h; exact h.elim
    · exact h.elim
  case baload =>
    obtain rfl : len = 1 := of_decide_eq_true hok
    simp only [stp] at h
    split at h
    · rename_i i q k r
      cases h1 : isZA q with
      | true => rw [h1] at h; exact r_zald C h1 h.1 hd (hN _ _ _ h.2)
      | false =>
        rw [h1] at h
        cases h2 : Nat.beq q 71 with
        | true =>
          rw [h2] at h
          obtain rfl := Nat.eq_of_beq_eq_true h2
          exact r_sbld C h.1 hd (hN _ _ _ h.2)
        | false => rw [h2] at h; exact h.elim
    · exact h.elim
  case bastore =>
    obtain rfl : len = 1 := of_decide_eq_true hok
    simp only [stp] at h
    split at h
    · rename_i v i q k r
      cases h1 : isZA q with
      | true => rw [h1] at h; exact r_zast C h1 h.1 hd (hN _ _ _ h.2)
      | false => rw [h1] at h; exact h.elim
    · exact h.elim
  case aaload =>
    obtain rfl : len = 1 := of_decide_eq_true hok
    simp only [stp] at h
    split at h
    · rename_i i q k r
      cases h1 : isRA q with
      | true => rw [h1] at h; exact r_aald C h1 h.1 hd (hN _ _ _ h.2)
      | false => rw [h1] at h; exact h.elim
    · exact h.elim
  case arraylength =>
    obtain rfl : len = 1 := of_decide_eq_true hok
    simp only [stp] at h
    split at h
    · rename_i q k r
      cases h1 : isIA q with
      | true => rw [h1] at h; exact r_alen C h1 hd (hN _ _ _ h)
      | false =>
        rw [h1] at h
        cases h2 : Nat.beq q 60 with
        | true =>
          rw [h2] at h
          obtain rfl := Nat.eq_of_beq_eq_true h2
          exact r_slen C h.1 hd (hN _ _ _ h.2)
        | false =>
          rw [h2] at h
          cases h3 : Nat.beq q 71 with
          | true =>
            rw [h3] at h
            obtain rfl := Nat.eq_of_beq_eq_true h3
            exact r_sblen C hd (hN _ _ _ h)
          | false => rw [h3] at h; exact h.elim
    · exact h.elim
  case invokevirtual i =>
    simp only [okI, Bool.and_eq_true, decide_eq_true_eq] at hok
    obtain ⟨⟨⟨⟨⟨⟨rfl, hv1⟩, hv2⟩, hv3⟩, hv4⟩, hid⟩, hv⟩ := hok
    simp only [stp] at h
    obtain ⟨vs, r, Q, rfl, hn, hs, hrc, hct, hk⟩ := cll_spec h
    cases hl : lnkM[c9]? with
    | none => rw [hl] at hv; cases hv
    | some w =>
      obtain ⟨o, j, d9, pl⟩ := w
      rw [hl] at hv
      simp only [Bool.and_eq_true, decide_eq_true_eq] at hv
      obtain ⟨⟨h1, h2⟩, rfl⟩ := hv
      have hb8 : b % 8 = (mG d9).2.2.2.2.2.2 + 1 := by omega
      have hb9 : b / 8 = kOf (mG d9).2.2.2.2.1 := by omega
      rw [hb8] at hn
      cases vs with
      | nil => simp at hn
      | cons v0 vs' =>
        have hr0 := hrc v0 vs' rfl
        rw [hb9] at hr0
        rw [List.reverse_cons, List.append_assoc, List.singleton_append]
        exact r_callv C hid hl h1 h2 hv1 (by simpa using hn) hs hr0 (hCT _ _ _ _ hct) hd (fun v σ' hq => hN _ _ _ (hk v σ' hq))
  case invokestatic i =>
    simp only [okI, Bool.and_eq_true, decide_eq_true_eq] at hok
    obtain ⟨rfl, hv⟩ := hok
    simp only [stp] at h
    cases h99 : Nat.beq a 999 with
    | true => rw [h99] at h; exact h.elim
    | false =>
    rw [h99] at h hv
    simp only [cond_false] at h hv
    cases h9 : Nat.beq a 900 with
    | true =>
      rw [h9] at h hv
      cases hl : lnkA[c9]? with
      | none => rw [hl] at hv; cases hv
      | some w =>
        obtain ⟨o, j, pl⟩ := w
        rw [hl] at hv
        simp only [cond_true, Bool.and_eq_true, decide_eq_true_eq] at hv
        simp only [cond_true] at h
        split at h
        · rename_i n dp q1 k1 sp q0 k0 r
          cases hc : (isIA q0 && isIA q1 && short r) with
          | false => rw [hc] at h; exact h.elim
          | true =>
            rw [hc] at h
            rw [Bool.and_eq_true, Bool.and_eq_true] at hc
            exact r_copy C hc.1.1 hc.1.2 hc.2 h.1 hl hv.1 hv.2 hd (hN _ _ _ h.2)
        · exact h.elim
    | false =>
      rw [h9] at h hv
      cases h91 : Nat.beq a 901 with
      | true =>
        rw [h91] at h hv
        cases hl : lnkX[c9]? with
        | none => rw [hl] at hv; cases hv
        | some w =>
          obtain ⟨o, j, pl⟩ := w
          rw [hl] at hv
          simp only [cond_true, cond_false, Bool.and_eq_true, decide_eq_true_eq] at hv
          obtain ⟨rfl, rfl⟩ := hv
          simp only [cond_true, cond_false] at h
          split at h
          · rename_i v u r
            cases hc : short r with
            | false => rw [hc] at h; exact h.elim
            | true =>
              rw [hc] at h
              intro ls H locs hl2 hs hP hS
              obtain ⟨hx, hb, hml, hown, hts, hWk, hAx, hR, hcs, -⟩ := C
              have h8 := short_le hc
              refine va_mmax hx hb (hml.trans hl2.1.1.symm) hown (hts _ (lkX_ok c9 o j pl hl)) (hts _ math_ok.2.2.1) (hts _ math_ok.2.2.2.2) (hts _ math_ok.1) (by omega) (by rw [catsum hWk.2.2.2.2.2.1]; omega) hcs.1 hcs.2 hd ?_
              exact hN _ _ _ h ls H locs hl2 (vok_cons trivial (vok_tl (vok_tl hs))) hP hS
          · exact h.elim
      | false =>
        rw [h91] at h hv
        cases h92 : Nat.beq a 902 with
        | true =>
          rw [h92] at h hv
          cases hl : lnkN[c9]? with
          | none => rw [hl] at hv; cases hv
          | some w =>
            obtain ⟨o, j, pl⟩ := w
            rw [hl] at hv
            simp only [cond_true, cond_false, Bool.and_eq_true, decide_eq_true_eq] at hv
            obtain ⟨rfl, rfl⟩ := hv
            simp only [cond_true, cond_false] at h
            split at h
            · rename_i v u r
              cases hc : short r with
              | false => rw [hc] at h; exact h.elim
              | true =>
                rw [hc] at h
                intro ls H locs hl2 hs hP hS
                obtain ⟨hx, hb, hml, hown, hts, hWk, hAx, hR, hcs, -⟩ := C
                have h8 := short_le hc
                refine va_mmin hx hb (hml.trans hl2.1.1.symm) hown (hts _ (lkN_ok c9 o j pl hl)) (hts _ math_ok.2.2.2.1) (hts _ math_ok.2.2.2.2) (hts _ math_ok.2.1) (by omega) (by rw [catsum hWk.2.2.2.2.2.1]; omega) hcs.1 hcs.2 hd ?_
                exact hN _ _ _ h ls H locs hl2 (vok_cons trivial (vok_tl (vok_tl hs))) hP hS
            · exact h.elim
        | false =>
          rw [h92] at h hv
          simp only [cond_false, Bool.and_eq_true, decide_eq_true_eq] at hv
          obtain ⟨⟨⟨hv1, hv2⟩, hid⟩, hv⟩ := hv
          simp only [cond_false] at h
          obtain ⟨vs, r, Q, rfl, hn, hs, -, hct, hk⟩ := cll_spec h
          cases hl : lnkM[c9]? with
          | none => rw [hl] at hv; cases hv
          | some w =>
            obtain ⟨o, j, d9, pl⟩ := w
            rw [hl] at hv
            simp only [Bool.and_eq_true, decide_eq_true_eq] at hv
            obtain ⟨⟨h1, h2⟩, rfl⟩ := hv
            exact r_calls C hid hl h1 h2 (by rw [hv1]; decide) (by rw [hn, hv2]) hs (hCT _ _ _ _ hct) hd (fun v σ' hq => hN _ _ _ (hk v σ' hq))
  case ireturn =>
    simp only [okI, Bool.and_eq_true, decide_eq_true_eq] at hok
    obtain ⟨rfl, hv⟩ := hok
    simp only [stp] at h
    split at h
    · rename_i v
      intro ls H locs hl hs hP hS
      match a, h, hv with
      | 0, h, hv => exact hRt.1 pc ls H locs v σ .int (of_decide_eq_true hv) rfl hd h hP hS
      | 1, h, hv => exact hRt.1 pc ls H locs v σ .boolean (of_decide_eq_true hv) (by rcases h.1 with q | q <;> rw [q] <;> decide) hd h.2 hP hS
      | 2, h, hv => exact hRt.1 pc ls H locs v σ .char (of_decide_eq_true hv) h.1 hd h.2 hP hS
      | n + 3, h, hv => exact hRt.1 pc ls H locs v σ .byte (of_decide_eq_true hv) h.1 hd h.2 hP hS
    · exact h.elim
  case areturn =>
    simp only [okI, Bool.and_eq_true, decide_eq_true_eq] at hok
    obtain ⟨rfl, hv⟩ := hok
    simp only [stp] at h
    split at h
    · rename_i v
      cases hr : isRf v.1 with
      | false => rw [hr] at h; exact h.elim
      | true =>
        rw [hr] at h
        intro ls H locs hl hs hP hS
        match rt, hv, hRt with
        | some (.object C9), _, hRt => exact hRt.2.1 pc ls H locs v σ C9 rfl hr (hs _ List.mem_cons_self) hd h hP hS
    · exact h.elim
  case return_ =>
    simp only [okI, Bool.and_eq_true, decide_eq_true_eq] at hok
    obtain ⟨rfl, hv⟩ := hok
    simp only [stp] at h
    split at h
    · intro ls H locs hl hs hP hS
      exact hRt.2.2 pc ls H locs σ hv hd h hP hS
    · exact h.elim
  all_goals exact h.elim
end MAIN
