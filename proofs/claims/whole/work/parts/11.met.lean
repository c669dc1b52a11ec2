theorem fnd_ok {own nL : Nat} {cc : ByteArray} {rt : Option FieldType} (t : Nat) : ∀ (l : List PE) (p : Nat), okP own nL cc rt p l = true → okP own nL cc rt t (fnd t l) = true
  | [], _, _ => rfl
  | (pc, len, ins, a, b, c, x, sw) :: l, p, h => by
    have h0 := h
    simp only [okP, Bool.and_eq_true, decide_eq_true_eq] at h
    obtain ⟨⟨⟨rfl, h2⟩, h3⟩, h4⟩ := h
    unfold fnd
    cases hb : Nat.beq pc t with
    | true =>
      obtain rfl := Nat.eq_of_beq_eq_true hb
      exact h0
    | false => exact fnd_ok t l _ h4
section MET
variable {X : XT} {p : Program} {l : Launch} {e : Env} {R : Room} {s : State} {m : MethodId} {args : Array Value} {below : List Frame} {meth : Method} {c : Code} {A : Nat → Prop} {SC : Prop} {own nL d cells slots : Nat} {cc : ByteArray} {Qf : State → Prop}
theorem wp_sound (C : Cx X p R s m args c A SC own nL d cells slots cc) {CT : CTy} (hCT : ∀ id as σ Q, CT id as σ Q → MT l X d id as σ Q) {rt : Option FieldType} {Rt : Option AV → ST → Prop} (hRt : RetOK X p l e R s m args below meth c A cells slots cc Qf rt Rt) {P : List PE} {p0 : Nat} (hP : okP own nL cc rt p0 P = true)
    {stops : List Nat} {G : Nat → LV → List AV → ST → Prop} (hG : ∀ t al as σ, G t al as σ → Gs X p l e R s m args below meth c A nL cells slots Qf t al as σ) :
    ∀ (n : Nat) (rest : List PE) (pc : Nat) (al : LV) (as : List AV) (σ : ST), okP own nL cc rt pc rest = true → wp CT SC (x_L X) (x_xs X) Rt P stops G n rest al as σ → Gs X p l e R s m args below meth c A nL cells slots Qf pc al as σ := by
  intro n
  induction n with
  | zero => intro rest pc al as σ _ h; exact h.elim
  | succ n ih =>
    intro rest pc al as σ hok h
    cases rest with
    | nil => exact h.elim
    | cons en rest' =>
      obtain ⟨pc', len, ins, a, b, c9, x, sw⟩ := en
      simp only [okP, Bool.and_eq_true, decide_eq_true_eq] at hok
      obtain ⟨⟨⟨rfl, hd⟩, hI⟩, hrest⟩ := hok
      have h2 : stp CT SC (x_L X) (x_xs X) ins a b x sw al as σ (nx stops G (wp CT SC (x_L X) (x_xs X) Rt P stops G n) rest') (jm P stops G (wp CT SC (x_L X) (x_xs X) Rt P stops G n)) Rt := h
      refine stp_sound C hCT hRt hI hd (fun al as σ h => ?_) (fun t al as σ h => ?_) h2
      · cases rest' with
        | nil => exact h.elim
        | cons e' r' =>
          obtain ⟨pc2, len2, ins2, a2, b2, c2, x2, sw2⟩ := e'
          have hpc : pc2 = pc' + len := by
            have h9 := hrest
            simp only [okP, Bool.and_eq_true, decide_eq_true_eq] at h9
            exact h9.1.1.1
          cases hm : mem pc2 stops with
          | true =>
            have h : cond (mem pc2 stops) (G pc2 al as σ) _ := h
            rw [hm] at h
            rw [← hpc]
            exact hG _ _ _ _ h
          | false =>
            have h : cond (mem pc2 stops) (G pc2 al as σ) (wp CT SC (x_L X) (x_xs X) Rt P stops G n ((pc2, len2, ins2, a2, b2, c2, x2, sw2) :: r') al as σ) := h
            rw [hm] at h
            exact ih _ _ _ _ _ hrest h
      · cases hm : mem t stops with
        | true =>
          have h : cond (mem t stops) (G t al as σ) _ := h
          rw [hm] at h
          exact hG _ _ _ _ h
        | false =>
          have h : cond (mem t stops) (G t al as σ) (wp CT SC (x_L X) (x_xs X) Rt P stops G n (fnd t P) al as σ) := h
          rw [hm] at h
          exact ih _ _ _ _ _ (fnd_ok t P p0 hP) h
end MET
/-- the locals at a method's entry -/
def ini : Nat → List AV → LV
  | 0, _ => []
  | n + 1, [] => none :: ini n []
  | n + 1, v :: as => some v :: ini n as
theorem ini_len : ∀ (n : Nat) (as : List AV), (ini n as).length = n
  | 0, _ => rfl
  | n + 1, [] => by show (ini n []).length + 1 = n + 1; rw [ini_len n []]
  | n + 1, v :: as => by show (ini n as).length + 1 = n + 1; rw [ini_len n as]
theorem ini_mem : ∀ (n : Nat) (as : List AV) (v : AV), some v ∈ ini n as → v ∈ as
  | 0, _, _, h => by cases h
  | n + 1, [], v, h => by
    rcases List.mem_cons.mp h with e | e
    · cases e
    · exact ini_mem n [] v e
  | n + 1, w :: as, v, h => by
    rcases List.mem_cons.mp h with e | e
    · rw [Option.some.inj e]; exact List.mem_cons_self
    · exact List.mem_cons_of_mem _ (ini_mem n as v e)
theorem lvl_nil {X : XT} : ∀ (n i : Nat), lvl X i (ini n []) = []
  | 0, _ => rfl
  | n + 1, i => lvl_nil n (i + 1)
theorem ini_lvl {X : XT} (hf : x_fm X = .null ∨ ∃ a, x_fm X = .ref a) : ∀ (n i : Nat) (as : List AV) (q : Nat × Value), q ∈ lvl X i (ini n as) → q ∈ lv_args i (as.map (gv X))
  | 0, _, _, _, h => by cases h
  | n + 1, i, [], q, h => by rw [lvl_nil] at h; cases h
  | n + 1, i, v :: as, q, h => by
    rcases List.mem_cons.mp h with e | e
    · rw [e]; exact List.mem_cons_self
    · have := ini_lvl hf n (i + 1) as q e
      show q ∈ (i, gv X v) :: lv_args (if (gv X v).category = 2 then i + 2 else i + 1) (as.map (gv X))
      rw [gv_cat hf, if_neg (by decide)]
      exact List.mem_cons_of_mem _ this
theorem sl_len {X : XT} (hf : x_fm X = .null ∨ ∃ a, x_fm X = .ref a) : ∀ as : List AV, (lg_sl (as.map (gv X))).length = as.length
  | [] => rfl
  | v :: as => by
    have := sl_len hf as
    unfold lg_sl at this ⊢
    rw [List.map_cons, List.flatMap_cons, gv_cat hf, if_neg (by decide), List.length_append, this, List.length_cons]
    show 1 + as.length = as.length + 1
    omega
theorem met_wf {l : Launch} {y : MethodName} {ws ws' : List Cond} {rm : Room} {Pc : Array Value → State → Prop} {Qc : Array Value → State → Outcome → State → Prop} {mc ms : Nat} {free : Addr → Prop} {cc : ByteArray} {maxL : Nat} {rt : Option FieldType}
    (hy : plainFor y = true) (hw : ws = Cond.code y cc maxL rt :: ws')
    (body : ∀ p e s m args below meth c s₁, BodyLoose p l y (headSpec ws rm) cc maxL rt e s m args below meth c s₁ → c.maxLocals = maxL → Pc args s →
      W p l e (headSpec ws rm).room s m args below meth c s.heap [] 0 0 (MQ below Qc args s mc ms free) (entryFrame m args maxL)) : Met l y ws rm Pc Qc mc ms free := by
  refine MetFree.of_bodySF (code := cc) (maxLocals := maxL) (ret := rt) hy ?_ ?_
  · intro args s m h hn
    obtain ⟨meth, c, h1, h2, h3, h4, h5, h6, -, -⟩ := Cond.code_spec hn (atoms_spec (ws := ws) h _ (by rw [hw]; exact List.mem_cons_self))
    exact ⟨meth, c, h1, h2, h3, h4, h5, h6⟩
  · intro p e s m args below meth c s₁ B hml hP _
    have hh0 : s₁.heap = s.heap := by rw [B.state]; rfl
    obtain ⟨t, a1, o, b1, b2, b3⟩ := body p e s m args below meth c s₁ B hml hP s₁ hh0 (Stand.of_body B)
    exact ⟨t, o, a1, b1, b2, ⟨b3.1, b3.2⟩⟩
/-- closed under what wp says -/
def Clo (X : XT) (CT : CTy) (Rt : Option AV → ST → Prop) (P : List PE) (G : Nat → LV → List AV → ST → Prop) : Prop :=
  ∀ (stops : List Nat) (n pc : Nat) (al : LV) (as : List AV) (σ : ST), wp CT False (x_L X) (x_xs X) Rt P stops G n (fnd pc P) al as σ → G pc al as σ
/-- A CONTRACT out of wp -/
theorem mt_wp {l : Launch} {X : XT} {d id : Nat} {as : List AV} {σ : ST} {Q : Option AV → ST → Prop} {P : List PE} {own nL : Nat} {cc : ByteArray} {rt : Option FieldType} {y : MethodName} {z1 z2 : Nat} (hm : mG id = (y, cc, nL, rt, own, z1, z2)) (hid : id < mN) (hP : okP own nL cc rt 0 P = true) (hn : as.length ≤ nL)
    (h : ∀ (CT : CTy) (G : Nat → LV → List AV → ST → Prop), (∀ id as σ Q, MT l X d id as σ Q → CT id as σ Q) → Clo X CT Q P G → G 0 (ini nL as) [] σ) : MT l X (d + 1) id as σ Q := by
  obtain ⟨h1, h2, h3, h4, h5, h6, h7⟩ := m_ok hid
  rw [hm] at h5 h6 h7
  unfold MT mW
  rw [hm]
  dsimp only at h5 h6 h7 ⊢
  refine met_wf (cc := cc) (maxL := nL) (rt := rt) h5 rfl ?_
  intro p e s m args below meth c s₁ B hml hv
  obtain ⟨rfl, hPw, hWk, hok⟩ := hv
  have hts := atoms_spec (ws := Cond.code y cc nL rt :: TS) B.pre
  have hts : ∀ w ∈ TS, w.before _ s = true := fun w hw => hts w (List.mem_cons_of_mem _ hw)
  have hown : s.vm.findClass (oName own) = some m.cls := by rw [h7]; exact findClass_of_methodNamed B.named
  have hlocks := B.notSynchronized
  have hC : Cx X p (rmD (d + 1)) s m _ c (Ax X) False own nL d 0 0 cc := ⟨B.exec, B.bytes, hml, hown, hts, hWk, fun _ h => h, ⟨Nat.le_refl _, Nat.le_refl _⟩, ⟨Nat.le_refl _, Nat.le_refl _⟩, fun h => h.elim, hts _ sys_in.1, hts _ sys_in.2.1, hts _ sys_in.2.2⟩
  have hr := B.returns
  have hRt : RetOK X p l e (rmD (d + 1)) s m (as.map (gv X)).toArray below meth c (Ax X) 0 0 cc (MQ below (mQc X Q) (as.map (gv X)).toArray s 0 0 (Ax X)) rt Q := by
    refine ⟨fun pc ls H locs v σ' ty e1 e2 e3 hq hP1 hS => ?_, fun pc ls H locs v σ' C9 e1 e2 e4 e3 hq hP1 hS => ?_, fun pc ls H locs σ' e1 e3 hq hP1 hS => ?_⟩
    · subst e1
      exact W.zret B.exec B.bytes hr e2 (fun t ht hW => ⟨⟨some (.inl v), σ', rfl, hq, by rw [ht]; exact hP1, fun w hw => by cases hw; trivial⟩, hS.F ht⟩) hS.2.2 e3
    · subst e1
      obtain ⟨y9, hy9⟩ := gv_rf (X := X) e2
      exact W.aret B.exec B.bytes hr (Or.inl ⟨C9, rfl⟩) (Or.inr ⟨y9, hy9⟩) (fun t ht hW => ⟨⟨some (.inr v), σ', rfl, hq, by rw [ht]; exact hP1, fun w hw => by cases hw; exact e4⟩, hS.F ht⟩) hS.2.2 e3
    · subst e1
      exact W.vret B.exec B.bytes hr (fun t ht hW => ⟨⟨none, σ', rfl, hq, by rw [ht]; exact hP1, fun w hw => by cases hw⟩, hS.F ht⟩) hS.2.2 e3
  have hclo := h (MT l X d) (Gs X p l e (rmD (d + 1)) s m (as.map (gv X)).toArray below meth c (Ax X) nL 0 0 (MQ below (mQc X Q) (as.map (gv X)).toArray s 0 0 (Ax X))) (fun _ _ _ _ h => h) (fun stops n pc al as' σ' hw => by
    refine wp_sound (X := X) (SC := False) (d := d) (own := own) (cc := cc) (stops := stops) (P := P) hC (fun _ _ _ _ h => h) hRt hP (fun _ _ _ _ h => h) n (fnd pc P) pc al as' σ' (fnd_ok pc P 0 hP) hw)
  rw [lg_entry_eq]
  have hfm := hWk.2.2.2.2.2.1
  have hl := lv_entry (as.map (gv X)) (n := nL) (by rw [sl_len hfm]; exact hn)
  exact hclo _ s.heap [] ⟨⟨hl.1, hl.2.1, fun q hq => hl.2.2 q (ini_lvl hfm nL 0 as q hq)⟩, ini_len nL as, fun v hv => hok v (ini_mem nL as v hv)⟩ (fun v hv => by cases hv) hPw va_S.rf
