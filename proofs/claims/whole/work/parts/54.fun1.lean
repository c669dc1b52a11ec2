/-! ===== funeral: the orders, and the class's search ===== -/
def gst (w : La) (wt : Nat → Nat) (p : Nat) : Nat → Nat := fun k => wt k + (if goT w wt p = k then 1 else 0)
def fo (w : La) (ps : List Nat) : Nat → Nat := ps.foldl (gst w) (fun _ => 0)
theorem fo_app {w : La} {ps : List Nat} {p : Nat} : fo w (ps ++ [p]) = gst w (fo w ps) p := by
  unfold fo
  rw [List.foldl_append]
  rfl
theorem gst_le {w : La} {k : Nat} : ∀ (ps : List Nat) (wt : Nat → Nat), (ps.foldl (gst w) wt) k ≤ wt k + ps.length
  | [], wt => Nat.le_refl _
  | p :: ps, wt => by
    have := gst_le (w := w) (k := k) ps (gst w wt p)
    have h2 : gst w wt p k ≤ wt k + 1 := by unfold gst; split <;> omega
    show (ps.foldl (gst w) (gst w wt p)) k ≤ wt k + (ps.length + 1)
    omega
theorem fo_le {w : La} {ps : List Nat} {k : Nat} : fo w ps k ≤ ps.length := by
  have := gst_le (w := w) (k := k) ps (fun _ => 0)
  unfold fo
  omega
/-- all orders that begin so, r more to come, from the first on -/
def cmq (P : Nat) : Nat → List Nat → List (List Nat)
  | 0, pre => [pre]
  | r + 1, pre => (List.range P).flatMap (fun p => if p ∈ pre then [] else cmq P r (pre ++ [p]))
def udo (w : La) (c : Nat × List Nat) (x : List Nat) : Nat × List Nat := if fo w x 7 < c.1 then (fo w x 7, x) else c
theorem udo_le {w : La} {c : Nat × List Nat} {x : List Nat} : (udo w c x).1 ≤ c.1 := by
  unfold udo
  split
  · exact Nat.le_of_lt (by assumption)
  · exact Nat.le_refl _
theorem udos_le {w : La} : ∀ (L : List (List Nat)) (c : Nat × List Nat), (L.foldl (udo w) c).1 ≤ c.1
  | [], _ => Nat.le_refl _
  | x :: L, c => Nat.le_trans (udos_le L (udo w c x)) udo_le
theorem fl_same {α β γ : Type} {f : γ → β → γ} {g : α → List β} {c : γ} : ∀ (L : List α), (∀ p, p ∈ L → (g p).foldl f c = c) → (L.flatMap g).foldl f c = c
  | [], _ => rfl
  | p :: L, h => by
    rw [List.flatMap_cons, List.foldl_append, h p List.mem_cons_self]
    exact fl_same L (fun q hq => h q (List.mem_cons_of_mem _ hq))
theorem prune {w : La} {P : Nat} {c : Nat × List Nat} : ∀ (r : Nat) (pre : List Nat), c.1 ≤ fo w pre 7 → (cmq P r pre).foldl (udo w) c = c
  | 0, pre, h => by
    show udo w c pre = c
    unfold udo
    rw [if_neg (by omega)]
  | r + 1, pre, h => by
    show ((List.range P).flatMap (fun p => if p ∈ pre then [] else cmq P r (pre ++ [p]))).foldl (udo w) c = c
    refine fl_same _ (fun p _ => ?_)
    split
    · rfl
    · refine prune r (pre ++ [p]) ?_
      rw [fo_app]
      have : fo w pre 7 ≤ gst w (fo w pre) p 7 := by unfold gst; omega
      omega
def fFun (k j : Nat) : Prop := k = 144 ∨ k = 145 ∨ k = 146 ∨ (k = 135 ∧ j = 3)
def TI (w : La) (pre : List Nat) (c : Nat × List Nat) (σ : ST) : Prop := RS w 136 σ ∧ (∀ k, k < w 0 → σ 144 k = nI (fo w pre k)) ∧ (∀ i, i < pre.length → σ 145 i = nI (pre.getD i 0)) ∧ σ 135 3 = nI c.1 ∧ (c.1 ≤ w 1 → ∀ i, i < w 1 → σ 146 i = nI (c.2.getD i 0))
def TryC (l : Launch) (X : XT) (w : La) (r d : Nat) : Prop := ∀ (pre : List Nat) (gone : Nat) (c : Nat × List Nat) (σ : ST) (Q : Option AV → ST → Prop), pre.length + r = w 1 → gone < 64 → (∀ q, q < 6 → gone.testBit q = decide (q ∈ pre)) → TI w pre c σ → c.1 ≤ 7 →
  (∀ σ', TI w pre ((cmq (w 1) r pre).foldl (udo w) c) σ' → Fr fFun σ σ' → Q none σ') → MT l X (d + 2 * r + 5) i_Funeral_tryOrders [.inr (2, 135), .inl (nI pre.length), .inl (nI gone), .inl (nI (fo w pre 7))] σ Q
theorem RS.keep {w : La} {b : Nat} {σ σ' : ST} (h : RS w b σ) (hk : ∀ k j, b ≤ k → k ≤ b + 7 → σ' k j = σ k j) : RS w b σ' := by
  obtain ⟨c1, c2, c3, c4, c5⟩ := h
  refine ⟨?_, ?_, ?_, fun k h => ?_, fun p h => ⟨?_, ?_, ?_⟩⟩
  · rw [hk _ _ (by omega) (by omega)]; exact c1
  · rw [hk _ _ (by omega) (by omega)]; exact c2
  · rw [hk _ _ (by omega) (by omega)]; exact c3
  · rw [hk _ _ (by omega) (by omega)]; exact c4 k h
  · rw [hk _ _ (by omega) (by omega)]; exact (c5 p h).1
  · rw [hk _ _ (by omega) (by omega)]; exact (c5 p h).2.1
  · rw [hk _ _ (by omega) (by omega)]; exact (c5 p h).2.2
theorem getD_l {pre : List Nat} {p i : Nat} (h : i < pre.length) : (pre ++ [p]).getD i 0 = pre.getD i 0 := by
  rw [List.getD_eq_getElem?_getD, List.getD_eq_getElem?_getD, List.getElem?_append_left h]
theorem getD_r {pre : List Nat} {p : Nat} : (pre ++ [p]).getD pre.length 0 = p := by
  rw [List.getD_eq_getElem?_getD, List.getElem?_append_right (Nat.le_refl _), Nat.sub_self]
  rfl
set_option maxRecDepth 20000 in
set_option maxHeartbeats 1000000 in
theorem c_letGo {l : Launch} {X : XT} {d r p gone : Nat} {σ : ST} {Q : Option AV → ST → Prop} {w : La} {pre : List Nat} {c : Nat × List Nat} (hT : TryC l X w r d) (hW : WL w) (hp : p < w 1) (hlen : pre.length + (r + 1) = w 1) (hg : gone < 64) (hgb : ∀ q, q < 6 → gone.testBit q = decide (q ∈ pre)) (hTI : TI w pre c σ) (hc : c.1 ≤ 7) (ho : σ 145 pre.length = nI p)
    (h : ∀ σ', TI w pre ((cmq (w 1) r (pre ++ [p])).foldl (udo w) c) σ' → Fr fFun σ σ' → Q none σ') : MT l X (d + 2 * r + 6) i_Funeral_letGo [.inr (2, 135), .inl (nI p), .inl (nI pre.length), .inl (nI gone), .inl (nI (fo w pre 7))] σ Q := by
  have w0 := hW.1
  have w1 := hW.2.1
  obtain ⟨t1, t2, t3, t4, t5⟩ := id hTI
  have hfo : ∀ k, fo w pre k ≤ 6 := fun k => Nat.le_trans fo_le (by omega)
  have happ := fo_app (w := w) (ps := pre) (p := p)
  have hgo : nI gone ||| (nI 1 <<< (nI p &&& 31)) = nI (gone ||| 2 ^ p) := by
    have : 2 ^ p ≤ 2 ^ 6 := Nat.pow_le_pow_right (by omega) (by omega)
    rw [shl_nI (by omega) (by omega), Nat.one_mul, or_nI]
  have hg2 : gone ||| 2 ^ p < 64 := Nat.or_lt_two_pow (n := 6) (by omega) (Nat.pow_lt_pow_right (by omega) (by omega))
  have hgb2 : ∀ q, q < 6 → (gone ||| 2 ^ p).testBit q = decide (q ∈ pre ++ [p]) := by
    intro q hq
    rw [Nat.testBit_or, hgb q hq, Nat.testBit_two_pow]
    by_cases e : q = p
    · subst e; simp
    · have e2 : ¬ p = q := fun z => e z.symm
      simp [e, e2]
  have hlen2 : (pre ++ [p]).length = pre.length + 1 := by simp
  have hord : ∀ i, i < (pre ++ [p]).length → σ 145 i = nI ((pre ++ [p]).getD i 0) := by
    intro i hi
    rw [hlen2] at hi
    by_cases e : i = pre.length
    · subst e; rw [getD_r]; exact ho
    · rw [getD_l (by omega)]; exact t3 i (by omega)
  refine mt_wp g_Funeral_letGo (by decide) k_Funeral_letGo (by simp) ?_
  intro CT G hCT hG
  refine hG [] 80 0 _ _ _ ?_
  ((repeat' ((conv => whnf); first | (refine And.intro (fun h => absurd h (by decide)) (fun _ => ?_)) | (refine And.intro (fun _ => ?_) (fun h => (h (by decide)).elim)) | (refine And.intro (fun h => absurd h (by first | (simp (disch := omega) only [nI_lt', nI_le', nI_eq', nI_add', nI_mul', nI_sub', nI_cl', tg_0, tg_1, bit1_eq, bit1_eq0, hb_bit, up_k, up_j, up_s, nI_em1, Bool.true_eq_false, Bool.false_eq_true, not_true_eq_false, not_false_eq_true]; done) | (simp (disch := omega) only [nI_lt', nI_le', nI_eq', nI_add', nI_mul', nI_sub', nI_cl', tg_0, tg_1, bit1_eq, bit1_eq0, hb_bit, up_k, up_j, up_s, nI_em1, Bool.true_eq_false, Bool.false_eq_true, not_true_eq_false, not_false_eq_true]; omega) | omega)) (fun _ => ?_)) | (refine And.intro (fun _ => ?_) (fun h => absurd (by first | (simp (disch := omega) only [nI_lt', nI_le', nI_eq', nI_add', nI_mul', nI_sub', nI_cl', tg_0, tg_1, bit1_eq, bit1_eq0, hb_bit, up_k, up_j, up_s, nI_em1, Bool.true_eq_false, Bool.false_eq_true, not_true_eq_false, not_false_eq_true]; done) | (simp (disch := omega) only [nI_lt', nI_le', nI_eq', nI_add', nI_mul', nI_sub', nI_cl', tg_0, tg_1, bit1_eq, bit1_eq0, hb_bit, up_k, up_j, up_s, nI_em1, Bool.true_eq_false, Bool.false_eq_true, not_true_eq_false, not_false_eq_true]; omega) | omega) h)) | (refine And.intro (fun _ => ?_) (fun _ => ?_)) | (refine And.intro (by first | decide | (with_reducible assumption) | ((with_reducible refine in_nI ?_ ?_) <;> omega) | ((try (conv => arg 2; whnf)); (try simp (disch := omega) only [nI_lt', nI_le', nI_eq', nI_add', nI_mul', nI_sub', nI_cl', tg_0, tg_1, bit1_eq, bit1_eq0, hb_bit, up_k, up_j, up_s, nI_em1, Bool.true_eq_false, Bool.false_eq_true, not_true_eq_false, not_false_eq_true]); (with_reducible refine in_nI ?_ ?_) <;> omega)) ?_) | fail)) <;> (try (conv => whnf)))
  refine hCT _ _ _ _ (c_goalOf (b := 136) (w := w) (wt := fo w pre) rfl hp t1 hW (fun k hk => ⟨t2 k hk, by have := hfo k; omega⟩) ?_)
  have e144 : (136 : Nat) + 8 = 144 := rfl
  rcases goT_or (w := w) (wt := fo w pre) (p := p) with h7 | hk
  · rw [h7]
    ((repeat' ((conv => whnf); first | (refine And.intro (fun h => absurd h (by decide)) (fun _ => ?_)) | (refine And.intro (fun _ => ?_) (fun h => (h (by decide)).elim)) | (refine And.intro (fun h => absurd h (by first | (simp (disch := omega) only [nI_lt', nI_le', nI_eq', nI_add', nI_mul', nI_sub', nI_cl', tg_0, tg_1, bit1_eq, bit1_eq0, hb_bit, up_k, up_j, up_s, nI_em1, Bool.true_eq_false, Bool.false_eq_true, not_true_eq_false, not_false_eq_true]; done) | (simp (disch := omega) only [nI_lt', nI_le', nI_eq', nI_add', nI_mul', nI_sub', nI_cl', tg_0, tg_1, bit1_eq, bit1_eq0, hb_bit, up_k, up_j, up_s, nI_em1, Bool.true_eq_false, Bool.false_eq_true, not_true_eq_false, not_false_eq_true]; omega) | omega)) (fun _ => ?_)) | (refine And.intro (fun _ => ?_) (fun h => absurd (by first | (simp (disch := omega) only [nI_lt', nI_le', nI_eq', nI_add', nI_mul', nI_sub', nI_cl', tg_0, tg_1, bit1_eq, bit1_eq0, hb_bit, up_k, up_j, up_s, nI_em1, Bool.true_eq_false, Bool.false_eq_true, not_true_eq_false, not_false_eq_true]; done) | (simp (disch := omega) only [nI_lt', nI_le', nI_eq', nI_add', nI_mul', nI_sub', nI_cl', tg_0, tg_1, bit1_eq, bit1_eq0, hb_bit, up_k, up_j, up_s, nI_em1, Bool.true_eq_false, Bool.false_eq_true, not_true_eq_false, not_false_eq_true]; omega) | omega) h)) | (refine And.intro (fun _ => ?_) (fun _ => ?_)) | (refine And.intro (by first | decide | (with_reducible assumption) | ((with_reducible refine in_nI ?_ ?_) <;> omega) | ((try (conv => arg 2; whnf)); (try simp (disch := omega) only [nI_lt', nI_le', nI_eq', nI_add', nI_mul', nI_sub', nI_cl', tg_0, tg_1, bit1_eq, bit1_eq0, hb_bit, up_k, up_j, up_s, nI_em1, Bool.true_eq_false, Bool.false_eq_true, not_true_eq_false, not_false_eq_true]); (with_reducible refine in_nI ?_ ?_) <;> omega)) ?_) | fail)) <;> (try (conv => whnf)))
    refine hCT _ _ _ _ (c_hasKitchenF (g := 7) (K := w 0) rfl t1.1 w0 (by omega) (by omega) ?_)
    ((repeat' ((conv => whnf); first | (refine And.intro (fun h => absurd h (by decide)) (fun _ => ?_)) | (refine And.intro (fun _ => ?_) (fun h => (h (by decide)).elim)) | (refine And.intro (fun h => absurd h (by first | (simp (disch := omega) only [nI_lt', nI_le', nI_eq', nI_add', nI_mul', nI_sub', nI_cl', tg_0, tg_1, bit1_eq, bit1_eq0, hb_bit, up_k, up_j, up_s, nI_em1, Bool.true_eq_false, Bool.false_eq_true, not_true_eq_false, not_false_eq_true]; done) | (simp (disch := omega) only [nI_lt', nI_le', nI_eq', nI_add', nI_mul', nI_sub', nI_cl', tg_0, tg_1, bit1_eq, bit1_eq0, hb_bit, up_k, up_j, up_s, nI_em1, Bool.true_eq_false, Bool.false_eq_true, not_true_eq_false, not_false_eq_true]; omega) | omega)) (fun _ => ?_)) | (refine And.intro (fun _ => ?_) (fun h => absurd (by first | (simp (disch := omega) only [nI_lt', nI_le', nI_eq', nI_add', nI_mul', nI_sub', nI_cl', tg_0, tg_1, bit1_eq, bit1_eq0, hb_bit, up_k, up_j, up_s, nI_em1, Bool.true_eq_false, Bool.false_eq_true, not_true_eq_false, not_false_eq_true]; done) | (simp (disch := omega) only [nI_lt', nI_le', nI_eq', nI_add', nI_mul', nI_sub', nI_cl', tg_0, tg_1, bit1_eq, bit1_eq0, hb_bit, up_k, up_j, up_s, nI_em1, Bool.true_eq_false, Bool.false_eq_true, not_true_eq_false, not_false_eq_true]; omega) | omega) h)) | (refine And.intro (fun _ => ?_) (fun _ => ?_)) | (refine And.intro (by first | decide | (with_reducible assumption) | ((with_reducible refine in_nI ?_ ?_) <;> omega) | ((try (conv => arg 2; whnf)); (try simp (disch := omega) only [nI_lt', nI_le', nI_eq', nI_add', nI_mul', nI_sub', nI_cl', tg_0, tg_1, bit1_eq, bit1_eq0, hb_bit, up_k, up_j, up_s, nI_em1, Bool.true_eq_false, Bool.false_eq_true, not_true_eq_false, not_false_eq_true]); (with_reducible refine in_nI ?_ ?_) <;> omega)) ?_) | fail)) <;> (try (conv => whnf)))
    rw [hgo, nI_add', nI_add', ← hlen2]
    have hf7 : fo w pre 7 + 1 = fo w (pre ++ [p]) 7 := by rw [happ]; unfold gst; rw [if_pos h7]
    rw [hf7]
    refine hCT _ _ _ _ (hT (pre ++ [p]) _ c σ _ (by omega) hg2 hgb2 ⟨t1, fun k hk => ?_, hord, t4, t5⟩ hc (fun σ' q1 q2 => ?_))
    · rw [happ]
      show σ 144 k = nI (fo w pre k + _)
      rw [if_neg (by omega), Nat.add_zero]
      exact t2 k hk
    · ((repeat' ((conv => whnf); first | (refine And.intro (fun h => absurd h (by decide)) (fun _ => ?_)) | (refine And.intro (fun _ => ?_) (fun h => (h (by decide)).elim)) | (refine And.intro (fun h => absurd h (by first | (simp (disch := omega) only [nI_lt', nI_le', nI_eq', nI_add', nI_mul', nI_sub', nI_cl', tg_0, tg_1, bit1_eq, bit1_eq0, hb_bit, up_k, up_j, up_s, nI_em1, Bool.true_eq_false, Bool.false_eq_true, not_true_eq_false, not_false_eq_true]; done) | (simp (disch := omega) only [nI_lt', nI_le', nI_eq', nI_add', nI_mul', nI_sub', nI_cl', tg_0, tg_1, bit1_eq, bit1_eq0, hb_bit, up_k, up_j, up_s, nI_em1, Bool.true_eq_false, Bool.false_eq_true, not_true_eq_false, not_false_eq_true]; omega) | omega)) (fun _ => ?_)) | (refine And.intro (fun _ => ?_) (fun h => absurd (by first | (simp (disch := omega) only [nI_lt', nI_le', nI_eq', nI_add', nI_mul', nI_sub', nI_cl', tg_0, tg_1, bit1_eq, bit1_eq0, hb_bit, up_k, up_j, up_s, nI_em1, Bool.true_eq_false, Bool.false_eq_true, not_true_eq_false, not_false_eq_true]; done) | (simp (disch := omega) only [nI_lt', nI_le', nI_eq', nI_add', nI_mul', nI_sub', nI_cl', tg_0, tg_1, bit1_eq, bit1_eq0, hb_bit, up_k, up_j, up_s, nI_em1, Bool.true_eq_false, Bool.false_eq_true, not_true_eq_false, not_false_eq_true]; omega) | omega) h)) | (refine And.intro (fun _ => ?_) (fun _ => ?_)) | (refine And.intro (by first | decide | (with_reducible assumption) | ((with_reducible refine in_nI ?_ ?_) <;> omega) | ((try (conv => arg 2; whnf)); (try simp (disch := omega) only [nI_lt', nI_le', nI_eq', nI_add', nI_mul', nI_sub', nI_cl', tg_0, tg_1, bit1_eq, bit1_eq0, hb_bit, up_k, up_j, up_s, nI_em1, Bool.true_eq_false, Bool.false_eq_true, not_true_eq_false, not_false_eq_true]); (with_reducible refine in_nI ?_ ?_) <;> omega)) ?_) | fail)) <;> (try (conv => whnf)))
      obtain ⟨u1, u2, u3, u4, u5⟩ := q1
      refine h σ' ⟨u1, fun k hk => ?_, fun i hi => ?_, u4, u5⟩ q2
      · rw [u2 k hk, happ]
        show nI (fo w pre k + _) = _
        rw [if_neg (by omega), Nat.add_zero]
      · rw [u3 i (by omega), getD_l hi]
  · have hgl := hfo (goT w (fo w pre) p)
    have t2g := t2 _ hk
    generalize hgg : goT w (fo w pre) p = g at *
    ((repeat' ((conv => whnf); first | (refine And.intro (fun h => absurd h (by decide)) (fun _ => ?_)) | (refine And.intro (fun _ => ?_) (fun h => (h (by decide)).elim)) | (refine And.intro (fun h => absurd h (by first | (simp (disch := omega) only [nI_lt', nI_le', nI_eq', nI_add', nI_mul', nI_sub', nI_cl', tg_0, tg_1, bit1_eq, bit1_eq0, hb_bit, up_k, up_j, up_s, nI_em1, Bool.true_eq_false, Bool.false_eq_true, not_true_eq_false, not_false_eq_true]; done) | (simp (disch := omega) only [nI_lt', nI_le', nI_eq', nI_add', nI_mul', nI_sub', nI_cl', tg_0, tg_1, bit1_eq, bit1_eq0, hb_bit, up_k, up_j, up_s, nI_em1, Bool.true_eq_false, Bool.false_eq_true, not_true_eq_false, not_false_eq_true]; omega) | omega)) (fun _ => ?_)) | (refine And.intro (fun _ => ?_) (fun h => absurd (by first | (simp (disch := omega) only [nI_lt', nI_le', nI_eq', nI_add', nI_mul', nI_sub', nI_cl', tg_0, tg_1, bit1_eq, bit1_eq0, hb_bit, up_k, up_j, up_s, nI_em1, Bool.true_eq_false, Bool.false_eq_true, not_true_eq_false, not_false_eq_true]; done) | (simp (disch := omega) only [nI_lt', nI_le', nI_eq', nI_add', nI_mul', nI_sub', nI_cl', tg_0, tg_1, bit1_eq, bit1_eq0, hb_bit, up_k, up_j, up_s, nI_em1, Bool.true_eq_false, Bool.false_eq_true, not_true_eq_false, not_false_eq_true]; omega) | omega) h)) | (refine And.intro (fun _ => ?_) (fun _ => ?_)) | (refine And.intro (by first | decide | (with_reducible assumption) | ((with_reducible refine in_nI ?_ ?_) <;> omega) | ((try (conv => arg 2; whnf)); (try simp (disch := omega) only [nI_lt', nI_le', nI_eq', nI_add', nI_mul', nI_sub', nI_cl', tg_0, tg_1, bit1_eq, bit1_eq0, hb_bit, up_k, up_j, up_s, nI_em1, Bool.true_eq_false, Bool.false_eq_true, not_true_eq_false, not_false_eq_true]); (with_reducible refine in_nI ?_ ?_) <;> omega)) ?_) | fail)) <;> (try (conv => whnf)))
    refine hCT _ _ _ _ (c_hasKitchenT (g := g) (K := w 0) rfl t1.1 w0 hk ?_)
    ((repeat' ((conv => whnf); first | (refine And.intro (fun h => absurd h (by decide)) (fun _ => ?_)) | (refine And.intro (fun _ => ?_) (fun h => (h (by decide)).elim)) | (refine And.intro (fun h => absurd h (by first | (simp (disch := omega) only [nI_lt', nI_le', nI_eq', nI_add', nI_mul', nI_sub', nI_cl', tg_0, tg_1, bit1_eq, bit1_eq0, hb_bit, up_k, up_j, up_s, nI_em1, Bool.true_eq_false, Bool.false_eq_true, not_true_eq_false, not_false_eq_true]; done) | (simp (disch := omega) only [nI_lt', nI_le', nI_eq', nI_add', nI_mul', nI_sub', nI_cl', tg_0, tg_1, bit1_eq, bit1_eq0, hb_bit, up_k, up_j, up_s, nI_em1, Bool.true_eq_false, Bool.false_eq_true, not_true_eq_false, not_false_eq_true]; omega) | omega)) (fun _ => ?_)) | (refine And.intro (fun _ => ?_) (fun h => absurd (by first | (simp (disch := omega) only [nI_lt', nI_le', nI_eq', nI_add', nI_mul', nI_sub', nI_cl', tg_0, tg_1, bit1_eq, bit1_eq0, hb_bit, up_k, up_j, up_s, nI_em1, Bool.true_eq_false, Bool.false_eq_true, not_true_eq_false, not_false_eq_true]; done) | (simp (disch := omega) only [nI_lt', nI_le', nI_eq', nI_add', nI_mul', nI_sub', nI_cl', tg_0, tg_1, bit1_eq, bit1_eq0, hb_bit, up_k, up_j, up_s, nI_em1, Bool.true_eq_false, Bool.false_eq_true, not_true_eq_false, not_false_eq_true]; omega) | omega) h)) | (refine And.intro (fun _ => ?_) (fun _ => ?_)) | (refine And.intro (by first | decide | (with_reducible assumption) | ((with_reducible refine in_nI ?_ ?_) <;> omega) | ((try (conv => arg 2; whnf)); (try simp (disch := omega) only [nI_lt', nI_le', nI_eq', nI_add', nI_mul', nI_sub', nI_cl', tg_0, tg_1, bit1_eq, bit1_eq0, hb_bit, up_k, up_j, up_s, nI_em1, Bool.true_eq_false, Bool.false_eq_true, not_true_eq_false, not_false_eq_true]); (with_reducible refine in_nI ?_ ?_) <;> omega)) ?_) | fail)) <;> (try (conv => whnf)))
    simp (disch := omega) only [tg_0, tg_1, e144, nI_cl', t2g, nI_add']
    rw [hgo, ← hlen2]
    have hf7 : fo w pre 7 = fo w (pre ++ [p]) 7 := by
      rw [happ]; unfold gst; rw [hgg, if_neg (by omega)]; omega
    rw [hf7]
    have hfk : ∀ k, fo w (pre ++ [p]) k = fo w pre k + (if g = k then 1 else 0) := fun k => by rw [happ]; unfold gst; rw [hgg]
    refine hCT _ _ _ _ (hT (pre ++ [p]) _ c _ _ (by omega) hg2 hgb2 ⟨t1.keep (fun k j a b => up_k (by omega)), fun k hk2 => ?_, fun i hi => ?_, ?_, fun hle i hi => ?_⟩ hc (fun σ' q1 q2 => ?_))
    · rw [hfk]
      by_cases e : k = g
      · subst e; rw [if_pos rfl]; exact up_s
      · rw [if_neg (fun z => e z.symm), Nat.add_zero, up_j e]; exact t2 k hk2
    · rw [up_k (by omega)]; exact hord i hi
    · rw [up_k (by omega)]; exact t4
    · rw [up_k (by omega)]; exact t5 hle i hi
    · obtain ⟨u1, u2, u3, u4, u5⟩ := q1
      have u2g := u2 _ hk
      rw [hfk, if_pos rfl] at u2g
      ((repeat' ((conv => whnf); first | (refine And.intro (fun h => absurd h (by decide)) (fun _ => ?_)) | (refine And.intro (fun _ => ?_) (fun h => (h (by decide)).elim)) | (refine And.intro (fun h => absurd h (by first | (simp (disch := omega) only [nI_lt', nI_le', nI_eq', nI_add', nI_mul', nI_sub', nI_cl', tg_0, tg_1, bit1_eq, bit1_eq0, hb_bit, up_k, up_j, up_s, nI_em1, Bool.true_eq_false, Bool.false_eq_true, not_true_eq_false, not_false_eq_true]; done) | (simp (disch := omega) only [nI_lt', nI_le', nI_eq', nI_add', nI_mul', nI_sub', nI_cl', tg_0, tg_1, bit1_eq, bit1_eq0, hb_bit, up_k, up_j, up_s, nI_em1, Bool.true_eq_false, Bool.false_eq_true, not_true_eq_false, not_false_eq_true]; omega) | omega)) (fun _ => ?_)) | (refine And.intro (fun _ => ?_) (fun h => absurd (by first | (simp (disch := omega) only [nI_lt', nI_le', nI_eq', nI_add', nI_mul', nI_sub', nI_cl', tg_0, tg_1, bit1_eq, bit1_eq0, hb_bit, up_k, up_j, up_s, nI_em1, Bool.true_eq_false, Bool.false_eq_true, not_true_eq_false, not_false_eq_true]; done) | (simp (disch := omega) only [nI_lt', nI_le', nI_eq', nI_add', nI_mul', nI_sub', nI_cl', tg_0, tg_1, bit1_eq, bit1_eq0, hb_bit, up_k, up_j, up_s, nI_em1, Bool.true_eq_false, Bool.false_eq_true, not_true_eq_false, not_false_eq_true]; omega) | omega) h)) | (refine And.intro (fun _ => ?_) (fun _ => ?_)) | (refine And.intro (by first | decide | (with_reducible assumption) | ((with_reducible refine in_nI ?_ ?_) <;> omega) | ((try (conv => arg 2; whnf)); (try simp (disch := omega) only [nI_lt', nI_le', nI_eq', nI_add', nI_mul', nI_sub', nI_cl', tg_0, tg_1, bit1_eq, bit1_eq0, hb_bit, up_k, up_j, up_s, nI_em1, Bool.true_eq_false, Bool.false_eq_true, not_true_eq_false, not_false_eq_true]); (with_reducible refine in_nI ?_ ?_) <;> omega)) ?_) | fail)) <;> (try (conv => whnf)))
      simp (disch := omega) only [tg_0, tg_1, e144, nI_cl', u2g, nI_sub']
      rw [Nat.add_sub_cancel]
      refine h _ ⟨u1.keep (fun k j a b => up_k (by omega)), fun k hk2 => ?_, fun i hi => ?_, ?_, fun hle i hi => ?_⟩ ((Fr.tr (Fr.rf.up (Or.inl rfl)) q2).up (Or.inl rfl))
      · by_cases e : k = g
        · subst e; exact up_s
        · rw [up_j e, u2 k hk2, hfk, if_neg (fun z => e z.symm), Nat.add_zero]
      · rw [up_k (by omega), u3 i (by omega), getD_l hi]
      · rw [up_k (by omega)]; exact u4
      · rw [up_k (by omega)]; exact u5 hle i hi
set_option maxRecDepth 20000 in
set_option maxHeartbeats 1000000 in
theorem c_try {l : Launch} {X : XT} {w : La} (hW : WL w) (d : Nat) : ∀ r, TryC l X w r d := by
  have w0 := hW.1
  have w1 := hW.2.1
  intro r
  induction r with
  | zero =>
    intro pre gone c σ Q hlen hg hgb hTI hc h
    obtain ⟨t1, t2, t3, t4, t5⟩ := id hTI
    have hfo : fo w pre 7 ≤ 6 := Nat.le_trans fo_le (by omega)
    have hpl := t1.2.1
    by_cases hpr : c.1 ≤ fo w pre 7
    · rw [prune 0 pre hpr] at h
      refine mt_wp g_Funeral_tryOrders (by decide) k_Funeral_tryOrders (by simp) ?_
      intro CT G hCT hG
      refine hG [] 80 0 _ _ _ ?_
      ((repeat' ((conv => whnf); first | (refine And.intro (fun h => absurd h (by decide)) (fun _ => ?_)) | (refine And.intro (fun _ => ?_) (fun h => (h (by decide)).elim)) | (refine And.intro (fun h => absurd h (by first | (simp (disch := omega) only [t4, nI_lt', nI_le', nI_eq', nI_add', nI_mul', nI_sub', nI_cl', tg_0, tg_1, bit1_eq, bit1_eq0, hb_bit, up_k, up_j, up_s, nI_em1, Bool.true_eq_false, Bool.false_eq_true, not_true_eq_false, not_false_eq_true]; done) | (simp (disch := omega) only [t4, nI_lt', nI_le', nI_eq', nI_add', nI_mul', nI_sub', nI_cl', tg_0, tg_1, bit1_eq, bit1_eq0, hb_bit, up_k, up_j, up_s, nI_em1, Bool.true_eq_false, Bool.false_eq_true, not_true_eq_false, not_false_eq_true]; omega) | omega)) (fun _ => ?_)) | (refine And.intro (fun _ => ?_) (fun h => absurd (by first | (simp (disch := omega) only [t4, nI_lt', nI_le', nI_eq', nI_add', nI_mul', nI_sub', nI_cl', tg_0, tg_1, bit1_eq, bit1_eq0, hb_bit, up_k, up_j, up_s, nI_em1, Bool.true_eq_false, Bool.false_eq_true, not_true_eq_false, not_false_eq_true]; done) | (simp (disch := omega) only [t4, nI_lt', nI_le', nI_eq', nI_add', nI_mul', nI_sub', nI_cl', tg_0, tg_1, bit1_eq, bit1_eq0, hb_bit, up_k, up_j, up_s, nI_em1, Bool.true_eq_false, Bool.false_eq_true, not_true_eq_false, not_false_eq_true]; omega) | omega) h)) | (refine And.intro (fun _ => ?_) (fun _ => ?_)) | (refine And.intro (by first | decide | (with_reducible assumption) | ((with_reducible refine in_nI ?_ ?_) <;> omega) | ((try (conv => arg 2; whnf)); (try simp (disch := omega) only [t4, nI_lt', nI_le', nI_eq', nI_add', nI_mul', nI_sub', nI_cl', tg_0, tg_1, bit1_eq, bit1_eq0, hb_bit, up_k, up_j, up_s, nI_em1, Bool.true_eq_false, Bool.false_eq_true, not_true_eq_false, not_false_eq_true]); (with_reducible refine in_nI ?_ ?_) <;> omega)) ?_) | fail)) <;> (try (conv => whnf)))
      exact h σ hTI Fr.rf
    · refine mt_wp g_Funeral_tryOrders (by decide) k_Funeral_tryOrders (by simp) ?_
      intro CT G hCT hG
      refine hG [] 80 0 _ _ _ ?_
      ((repeat' ((conv => whnf); first | (refine And.intro (fun h => absurd h (by decide)) (fun _ => ?_)) | (refine And.intro (fun _ => ?_) (fun h => (h (by decide)).elim)) | (refine And.intro (fun h => absurd h (by first | (simp (disch := omega) only [t4, hpl, nI_lt', nI_le', nI_eq', nI_add', nI_mul', nI_sub', nI_cl', tg_0, tg_1, bit1_eq, bit1_eq0, hb_bit, up_k, up_j, up_s, nI_em1, Bool.true_eq_false, Bool.false_eq_true, not_true_eq_false, not_false_eq_true]; done) | (simp (disch := omega) only [t4, hpl, nI_lt', nI_le', nI_eq', nI_add', nI_mul', nI_sub', nI_cl', tg_0, tg_1, bit1_eq, bit1_eq0, hb_bit, up_k, up_j, up_s, nI_em1, Bool.true_eq_false, Bool.false_eq_true, not_true_eq_false, not_false_eq_true]; omega) | omega)) (fun _ => ?_)) | (refine And.intro (fun _ => ?_) (fun h => absurd (by first | (simp (disch := omega) only [t4, hpl, nI_lt', nI_le', nI_eq', nI_add', nI_mul', nI_sub', nI_cl', tg_0, tg_1, bit1_eq, bit1_eq0, hb_bit, up_k, up_j, up_s, nI_em1, Bool.true_eq_false, Bool.false_eq_true, not_true_eq_false, not_false_eq_true]; done) | (simp (disch := omega) only [t4, hpl, nI_lt', nI_le', nI_eq', nI_add', nI_mul', nI_sub', nI_cl', tg_0, tg_1, bit1_eq, bit1_eq0, hb_bit, up_k, up_j, up_s, nI_em1, Bool.true_eq_false, Bool.false_eq_true, not_true_eq_false, not_false_eq_true]; omega) | omega) h)) | (refine And.intro (fun _ => ?_) (fun _ => ?_)) | (refine And.intro (by first | decide | (with_reducible assumption) | ((with_reducible refine in_nI ?_ ?_) <;> omega) | ((try (conv => arg 2; whnf)); (try simp (disch := omega) only [t4, hpl, nI_lt', nI_le', nI_eq', nI_add', nI_mul', nI_sub', nI_cl', tg_0, tg_1, bit1_eq, bit1_eq0, hb_bit, up_k, up_j, up_s, nI_em1, Bool.true_eq_false, Bool.false_eq_true, not_true_eq_false, not_false_eq_true]); (with_reducible refine in_nI ?_ ?_) <;> omega)) ?_) | fail)) <;> (try (conv => whnf)))
      have hu : (cmq (w 1) 0 pre).foldl (udo w) c = (fo w pre 7, pre) := by
        show udo w c pre = _
        unfold udo
        rw [if_pos (by omega)]
      rw [hu] at h
      simp only [tg_0]
      refine h _ ⟨t1.keep (fun k j a b => by rw [upc_o (by omega), up_k (by omega)]), fun k hk => ?_, fun i hi => ?_, ?_, fun hle i hi => ?_⟩ ((Fr.rf.up (Or.inr (Or.inr (Or.inr ⟨rfl, rfl⟩)))).upc (fun j => Or.inr (Or.inr (Or.inl rfl))))
      · rw [upc_o (by omega), up_k (by omega)]; exact t2 k hk
      · rw [upc_o (by omega), up_k (by omega)]; exact t3 i hi
      · rw [upc_o (by omega), up_s]
      · have e := upc_i (σ := up σ 135 3 (nI (fo w pre 7))) (k0 := 145) (k1 := 146) (n := 6) (b := i) (by omega)
        exact e.trans (by rw [up_k (by omega)]; exact t3 i (by omega))
  | succ r ih =>
    intro pre gone c σ Q hlen hg hgb hTI hc h
    obtain ⟨t1, t2, t3, t4, t5⟩ := id hTI
    have hfo : fo w pre 7 ≤ 6 := Nat.le_trans fo_le (by omega)
    have hpl := t1.2.1
    rw [show d + 2 * (r + 1) + 5 = d + 2 * r + 6 + 1 by omega]
    by_cases hpr : c.1 ≤ fo w pre 7
    · rw [prune (r + 1) pre hpr] at h
      refine mt_wp g_Funeral_tryOrders (by decide) k_Funeral_tryOrders (by simp) ?_
      intro CT G hCT hG
      refine hG [] 80 0 _ _ _ ?_
      ((repeat' ((conv => whnf); first | (refine And.intro (fun h => absurd h (by decide)) (fun _ => ?_)) | (refine And.intro (fun _ => ?_) (fun h => (h (by decide)).elim)) | (refine And.intro (fun h => absurd h (by first | (simp (disch := omega) only [t4, nI_lt', nI_le', nI_eq', nI_add', nI_mul', nI_sub', nI_cl', tg_0, tg_1, bit1_eq, bit1_eq0, hb_bit, up_k, up_j, up_s, nI_em1, Bool.true_eq_false, Bool.false_eq_true, not_true_eq_false, not_false_eq_true]; done) | (simp (disch := omega) only [t4, nI_lt', nI_le', nI_eq', nI_add', nI_mul', nI_sub', nI_cl', tg_0, tg_1, bit1_eq, bit1_eq0, hb_bit, up_k, up_j, up_s, nI_em1, Bool.true_eq_false, Bool.false_eq_true, not_true_eq_false, not_false_eq_true]; omega) | omega)) (fun _ => ?_)) | (refine And.intro (fun _ => ?_) (fun h => absurd (by first | (simp (disch := omega) only [t4, nI_lt', nI_le', nI_eq', nI_add', nI_mul', nI_sub', nI_cl', tg_0, tg_1, bit1_eq, bit1_eq0, hb_bit, up_k, up_j, up_s, nI_em1, Bool.true_eq_false, Bool.false_eq_true, not_true_eq_false, not_false_eq_true]; done) | (simp (disch := omega) only [t4, nI_lt', nI_le', nI_eq', nI_add', nI_mul', nI_sub', nI_cl', tg_0, tg_1, bit1_eq, bit1_eq0, hb_bit, up_k, up_j, up_s, nI_em1, Bool.true_eq_false, Bool.false_eq_true, not_true_eq_false, not_false_eq_true]; omega) | omega) h)) | (refine And.intro (fun _ => ?_) (fun _ => ?_)) | (refine And.intro (by first | decide | (with_reducible assumption) | ((with_reducible refine in_nI ?_ ?_) <;> omega) | ((try (conv => arg 2; whnf)); (try simp (disch := omega) only [t4, nI_lt', nI_le', nI_eq', nI_add', nI_mul', nI_sub', nI_cl', tg_0, tg_1, bit1_eq, bit1_eq0, hb_bit, up_k, up_j, up_s, nI_em1, Bool.true_eq_false, Bool.false_eq_true, not_true_eq_false, not_false_eq_true]); (with_reducible refine in_nI ?_ ?_) <;> omega)) ?_) | fail)) <;> (try (conv => whnf)))
      exact h σ hTI Fr.rf
    · have hcp : ∀ p, ((List.range (p + 1)).flatMap (fun p => if p ∈ pre then [] else cmq (w 1) r (pre ++ [p]))).foldl (udo w) c = (if p ∈ pre then [] else cmq (w 1) r (pre ++ [p])).foldl (udo w) (((List.range p).flatMap (fun p => if p ∈ pre then [] else cmq (w 1) r (pre ++ [p]))).foldl (udo w) c) := by
        intro p
        rw [List.range_succ, List.flatMap_append, List.foldl_append, List.flatMap_cons, List.flatMap_nil, List.append_nil]
      have h : ∀ σ', TI w pre (((List.range (w 1)).flatMap (fun p => if p ∈ pre then [] else cmq (w 1) r (pre ++ [p]))).foldl (udo w) c) σ' → Fr fFun σ σ' → Q none σ' := h
      refine mt_wp g_Funeral_tryOrders (by decide) k_Funeral_tryOrders (by simp) ?_
      intro CT G hCT hG
      refine hG [50] 80 0 _ _ _ ?_
      ((repeat' ((conv => whnf); first | (refine And.intro (fun h => absurd h (by decide)) (fun _ => ?_)) | (refine And.intro (fun _ => ?_) (fun h => (h (by decide)).elim)) | (refine And.intro (fun h => absurd h (by first | (simp (disch := omega) only [t4, hpl, nI_lt', nI_le', nI_eq', nI_add', nI_mul', nI_sub', nI_cl', tg_0, tg_1, bit1_eq, bit1_eq0, hb_bit, up_k, up_j, up_s, nI_em1, Bool.true_eq_false, Bool.false_eq_true, not_true_eq_false, not_false_eq_true]; done) | (simp (disch := omega) only [t4, hpl, nI_lt', nI_le', nI_eq', nI_add', nI_mul', nI_sub', nI_cl', tg_0, tg_1, bit1_eq, bit1_eq0, hb_bit, up_k, up_j, up_s, nI_em1, Bool.true_eq_false, Bool.false_eq_true, not_true_eq_false, not_false_eq_true]; omega) | omega)) (fun _ => ?_)) | (refine And.intro (fun _ => ?_) (fun h => absurd (by first | (simp (disch := omega) only [t4, hpl, nI_lt', nI_le', nI_eq', nI_add', nI_mul', nI_sub', nI_cl', tg_0, tg_1, bit1_eq, bit1_eq0, hb_bit, up_k, up_j, up_s, nI_em1, Bool.true_eq_false, Bool.false_eq_true, not_true_eq_false, not_false_eq_true]; done) | (simp (disch := omega) only [t4, hpl, nI_lt', nI_le', nI_eq', nI_add', nI_mul', nI_sub', nI_cl', tg_0, tg_1, bit1_eq, bit1_eq0, hb_bit, up_k, up_j, up_s, nI_em1, Bool.true_eq_false, Bool.false_eq_true, not_true_eq_false, not_false_eq_true]; omega) | omega) h)) | (refine And.intro (fun _ => ?_) (fun _ => ?_)) | (refine And.intro (by first | decide | (with_reducible assumption) | ((with_reducible refine in_nI ?_ ?_) <;> omega) | ((try (conv => arg 2; whnf)); (try simp (disch := omega) only [t4, hpl, nI_lt', nI_le', nI_eq', nI_add', nI_mul', nI_sub', nI_cl', tg_0, tg_1, bit1_eq, bit1_eq0, hb_bit, up_k, up_j, up_s, nI_em1, Bool.true_eq_false, Bool.false_eq_true, not_true_eq_false, not_false_eq_true]); (with_reducible refine in_nI ?_ ?_) <;> omega)) ?_) | fail)) <;> (try (conv => whnf)))
      have loop : ∀ n p σ1, p + n = w 1 → TI w pre (((List.range p).flatMap (fun p => if p ∈ pre then [] else cmq (w 1) r (pre ++ [p]))).foldl (udo w) c) σ1 → Fr fFun σ σ1 → G 50 [some (.inr (2, 135)), some (.inl (nI pre.length)), some (.inl (nI gone)), some (.inl (nI (fo w pre 7))), some (.inl (nI p))] [] σ1 := by
        intro n
        induction n with
        | zero =>
          intro p σ1 hp q1 q2
          obtain rfl : p = w 1 := by omega
          have hpl := q1.1.2.1
          refine hG [50] 80 50 _ _ _ ?_
          ((repeat' ((conv => whnf); first | (refine And.intro (fun h => absurd h (by decide)) (fun _ => ?_)) | (refine And.intro (fun _ => ?_) (fun h => (h (by decide)).elim)) | (refine And.intro (fun h => absurd h (by first | (simp (disch := omega) only [hpl, nI_lt', nI_le', nI_eq', nI_add', nI_mul', nI_sub', nI_cl', tg_0, tg_1, bit1_eq, bit1_eq0, hb_bit, up_k, up_j, up_s, nI_em1, Bool.true_eq_false, Bool.false_eq_true, not_true_eq_false, not_false_eq_true]; done) | (simp (disch := omega) only [hpl, nI_lt', nI_le', nI_eq', nI_add', nI_mul', nI_sub', nI_cl', tg_0, tg_1, bit1_eq, bit1_eq0, hb_bit, up_k, up_j, up_s, nI_em1, Bool.true_eq_false, Bool.false_eq_true, not_true_eq_false, not_false_eq_true]; omega) | omega)) (fun _ => ?_)) | (refine And.intro (fun _ => ?_) (fun h => absurd (by first | (simp (disch := omega) only [hpl, nI_lt', nI_le', nI_eq', nI_add', nI_mul', nI_sub', nI_cl', tg_0, tg_1, bit1_eq, bit1_eq0, hb_bit, up_k, up_j, up_s, nI_em1, Bool.true_eq_false, Bool.false_eq_true, not_true_eq_false, not_false_eq_true]; done) | (simp (disch := omega) only [hpl, nI_lt', nI_le', nI_eq', nI_add', nI_mul', nI_sub', nI_cl', tg_0, tg_1, bit1_eq, bit1_eq0, hb_bit, up_k, up_j, up_s, nI_em1, Bool.true_eq_false, Bool.false_eq_true, not_true_eq_false, not_false_eq_true]; omega) | omega) h)) | (refine And.intro (fun _ => ?_) (fun _ => ?_)) | (refine And.intro (by first | decide | (with_reducible assumption) | ((with_reducible refine in_nI ?_ ?_) <;> omega) | ((try (conv => arg 2; whnf)); (try simp (disch := omega) only [hpl, nI_lt', nI_le', nI_eq', nI_add', nI_mul', nI_sub', nI_cl', tg_0, tg_1, bit1_eq, bit1_eq0, hb_bit, up_k, up_j, up_s, nI_em1, Bool.true_eq_false, Bool.false_eq_true, not_true_eq_false, not_false_eq_true]); (with_reducible refine in_nI ?_ ?_) <;> omega)) ?_) | fail)) <;> (try (conv => whnf)))
          exact h σ1 q1 q2
        | succ n ihn =>
          intro p σ1 hp q1 q2
          have hpl := q1.1.2.1
          have hbit := hgb p (by omega)
          have hnx := fun σ2 => ihn (p + 1) σ2 (by omega)
          rw [hcp p] at hnx
          refine hG [50] 80 50 _ _ _ ?_
          by_cases hm : p ∈ pre
          · rw [decide_eq_true hm] at hbit
            rw [if_pos hm] at hnx
            ((repeat' ((conv => whnf); first | (refine And.intro (fun h => absurd h (by decide)) (fun _ => ?_)) | (refine And.intro (fun _ => ?_) (fun h => (h (by decide)).elim)) | (refine And.intro (fun h => absurd h (by first | (simp (disch := omega) only [hpl, hbit, nI_lt', nI_le', nI_eq', nI_add', nI_mul', nI_sub', nI_cl', tg_0, tg_1, bit1_eq, bit1_eq0, hb_bit, up_k, up_j, up_s, nI_em1, Bool.true_eq_false, Bool.false_eq_true, not_true_eq_false, not_false_eq_true]; done) | (simp (disch := omega) only [hpl, hbit, nI_lt', nI_le', nI_eq', nI_add', nI_mul', nI_sub', nI_cl', tg_0, tg_1, bit1_eq, bit1_eq0, hb_bit, up_k, up_j, up_s, nI_em1, Bool.true_eq_false, Bool.false_eq_true, not_true_eq_false, not_false_eq_true]; omega) | omega)) (fun _ => ?_)) | (refine And.intro (fun _ => ?_) (fun h => absurd (by first | (simp (disch := omega) only [hpl, hbit, nI_lt', nI_le', nI_eq', nI_add', nI_mul', nI_sub', nI_cl', tg_0, tg_1, bit1_eq, bit1_eq0, hb_bit, up_k, up_j, up_s, nI_em1, Bool.true_eq_false, Bool.false_eq_true, not_true_eq_false, not_false_eq_true]; done) | (simp (disch := omega) only [hpl, hbit, nI_lt', nI_le', nI_eq', nI_add', nI_mul', nI_sub', nI_cl', tg_0, tg_1, bit1_eq, bit1_eq0, hb_bit, up_k, up_j, up_s, nI_em1, Bool.true_eq_false, Bool.false_eq_true, not_true_eq_false, not_false_eq_true]; omega) | omega) h)) | (refine And.intro (fun _ => ?_) (fun _ => ?_)) | (refine And.intro (by first | decide | (with_reducible assumption) | ((with_reducible refine in_nI ?_ ?_) <;> omega) | ((try (conv => arg 2; whnf)); (try simp (disch := omega) only [hpl, hbit, nI_lt', nI_le', nI_eq', nI_add', nI_mul', nI_sub', nI_cl', tg_0, tg_1, bit1_eq, bit1_eq0, hb_bit, up_k, up_j, up_s, nI_em1, Bool.true_eq_false, Bool.false_eq_true, not_true_eq_false, not_false_eq_true]); (with_reducible refine in_nI ?_ ?_) <;> omega)) ?_) | fail)) <;> (try (conv => whnf)))
            rw [nI_add']
            exact hnx σ1 q1 q2
          · rw [decide_eq_false hm] at hbit
            rw [if_neg hm] at hnx
            ((repeat' ((conv => whnf); first | (refine And.intro (fun h => absurd h (by decide)) (fun _ => ?_)) | (refine And.intro (fun _ => ?_) (fun h => (h (by decide)).elim)) | (refine And.intro (fun h => absurd h (by first | (simp (disch := omega) only [hpl, hbit, nI_lt', nI_le', nI_eq', nI_add', nI_mul', nI_sub', nI_cl', tg_0, tg_1, bit1_eq, bit1_eq0, hb_bit, up_k, up_j, up_s, nI_em1, Bool.true_eq_false, Bool.false_eq_true, not_true_eq_false, not_false_eq_true]; done) | (simp (disch := omega) only [hpl, hbit, nI_lt', nI_le', nI_eq', nI_add', nI_mul', nI_sub', nI_cl', tg_0, tg_1, bit1_eq, bit1_eq0, hb_bit, up_k, up_j, up_s, nI_em1, Bool.true_eq_false, Bool.false_eq_true, not_true_eq_false, not_false_eq_true]; omega) | omega)) (fun _ => ?_)) | (refine And.intro (fun _ => ?_) (fun h => absurd (by first | (simp (disch := omega) only [hpl, hbit, nI_lt', nI_le', nI_eq', nI_add', nI_mul', nI_sub', nI_cl', tg_0, tg_1, bit1_eq, bit1_eq0, hb_bit, up_k, up_j, up_s, nI_em1, Bool.true_eq_false, Bool.false_eq_true, not_true_eq_false, not_false_eq_true]; done) | (simp (disch := omega) only [hpl, hbit, nI_lt', nI_le', nI_eq', nI_add', nI_mul', nI_sub', nI_cl', tg_0, tg_1, bit1_eq, bit1_eq0, hb_bit, up_k, up_j, up_s, nI_em1, Bool.true_eq_false, Bool.false_eq_true, not_true_eq_false, not_false_eq_true]; omega) | omega) h)) | (refine And.intro (fun _ => ?_) (fun _ => ?_)) | (refine And.intro (by first | decide | (with_reducible assumption) | ((with_reducible refine in_nI ?_ ?_) <;> omega) | ((try (conv => arg 2; whnf)); (try simp (disch := omega) only [hpl, hbit, nI_lt', nI_le', nI_eq', nI_add', nI_mul', nI_sub', nI_cl', tg_0, tg_1, bit1_eq, bit1_eq0, hb_bit, up_k, up_j, up_s, nI_em1, Bool.true_eq_false, Bool.false_eq_true, not_true_eq_false, not_false_eq_true]); (with_reducible refine in_nI ?_ ?_) <;> omega)) ?_) | fail)) <;> (try (conv => whnf)))
            obtain ⟨u1, u2, u3, u4, u5⟩ := q1
            simp (disch := omega) only [tg_0, nI_cl']
            refine hCT _ _ _ _ (c_letGo (d := d) (r := r) (c := ((List.range p).flatMap (fun p => if p ∈ pre then [] else cmq (w 1) r (pre ++ [p]))).foldl (udo w) c) ih hW (by omega) hlen hg hgb ⟨u1.keep (fun k j a b => up_k (by omega)), fun k hk => ?_, fun i hi => ?_, ?_, fun hle i hi => ?_⟩ (Nat.le_trans (udos_le _ _) hc) up_s (fun σ2 q3 q4 => ?_))
            · rw [up_k (by omega)]; exact u2 k hk
            · rw [up_j (by omega)]; exact u3 i hi
            · rw [up_k (by omega)]; exact u4
            · rw [up_k (by omega)]; exact u5 hle i hi
            · ((repeat' ((conv => whnf); first | (refine And.intro (fun h => absurd h (by decide)) (fun _ => ?_)) | (refine And.intro (fun _ => ?_) (fun h => (h (by decide)).elim)) | (refine And.intro (fun h => absurd h (by first | (simp (disch := omega) only [nI_lt', nI_le', nI_eq', nI_add', nI_mul', nI_sub', nI_cl', tg_0, tg_1, bit1_eq, bit1_eq0, hb_bit, up_k, up_j, up_s, nI_em1, Bool.true_eq_false, Bool.false_eq_true, not_true_eq_false, not_false_eq_true]; done) | (simp (disch := omega) only [nI_lt', nI_le', nI_eq', nI_add', nI_mul', nI_sub', nI_cl', tg_0, tg_1, bit1_eq, bit1_eq0, hb_bit, up_k, up_j, up_s, nI_em1, Bool.true_eq_false, Bool.false_eq_true, not_true_eq_false, not_false_eq_true]; omega) | omega)) (fun _ => ?_)) | (refine And.intro (fun _ => ?_) (fun h => absurd (by first | (simp (disch := omega) only [nI_lt', nI_le', nI_eq', nI_add', nI_mul', nI_sub', nI_cl', tg_0, tg_1, bit1_eq, bit1_eq0, hb_bit, up_k, up_j, up_s, nI_em1, Bool.true_eq_false, Bool.false_eq_true, not_true_eq_false, not_false_eq_true]; done) | (simp (disch := omega) only [nI_lt', nI_le', nI_eq', nI_add', nI_mul', nI_sub', nI_cl', tg_0, tg_1, bit1_eq, bit1_eq0, hb_bit, up_k, up_j, up_s, nI_em1, Bool.true_eq_false, Bool.false_eq_true, not_true_eq_false, not_false_eq_true]; omega) | omega) h)) | (refine And.intro (fun _ => ?_) (fun _ => ?_)) | (refine And.intro (by first | decide | (with_reducible assumption) | ((with_reducible refine in_nI ?_ ?_) <;> omega) | ((try (conv => arg 2; whnf)); (try simp (disch := omega) only [nI_lt', nI_le', nI_eq', nI_add', nI_mul', nI_sub', nI_cl', tg_0, tg_1, bit1_eq, bit1_eq0, hb_bit, up_k, up_j, up_s, nI_em1, Bool.true_eq_false, Bool.false_eq_true, not_true_eq_false, not_false_eq_true]); (with_reducible refine in_nI ?_ ?_) <;> omega)) ?_) | fail)) <;> (try (conv => whnf)))
              rw [nI_add']
              exact hnx σ2 q3 ((q2.up (Or.inr (Or.inl rfl))).tr q4)
      refine loop (w 1) 0 σ (by omega) hTI Fr.rf
set_option maxRecDepth 20000 in
set_option maxHeartbeats 1000000 in
theorem c_plan {l : Launch} {X : XT} {d : Nat} {σ : ST} {Q : Option AV → ST → Prop} {w : La} (hR : RC w 22 σ) (hW : WL w) (h : ∀ σ', TI w [] ((cmq (w 1) (w 1) []).foldl (udo w) (w 1 + 1, [])) σ' → Fr (fun k _ => 135 ≤ k ∧ k ≤ 146) σ σ' → Q none σ') : MT l X (d + 2 * w 1 + 6) i_Funeral_plan [.inr (2, 135), .inr (3, 22)] σ Q := by
  have w1 := hW.2.1
  refine mt_wp g_Funeral_plan (by decide) k_Funeral_plan (by simp) ?_
  intro CT G hCT hG
  refine hG [] 60 0 _ _ _ ?_
  ((repeat' ((conv => whnf); first | (refine And.intro (fun h => absurd h (by decide)) (fun _ => ?_)) | (refine And.intro (fun _ => ?_) (fun h => (h (by decide)).elim)) | (refine And.intro (fun h => absurd h (by first | (simp (disch := omega) only [nI_lt', nI_le', nI_eq', nI_add', nI_mul', nI_sub', nI_cl', tg_0, tg_1, bit1_eq, bit1_eq0, hb_bit, up_k, up_j, up_s, nI_em1, Bool.true_eq_false, Bool.false_eq_true, not_true_eq_false, not_false_eq_true]; done) | (simp (disch := omega) only [nI_lt', nI_le', nI_eq', nI_add', nI_mul', nI_sub', nI_cl', tg_0, tg_1, bit1_eq, bit1_eq0, hb_bit, up_k, up_j, up_s, nI_em1, Bool.true_eq_false, Bool.false_eq_true, not_true_eq_false, not_false_eq_true]; omega) | omega)) (fun _ => ?_)) | (refine And.intro (fun _ => ?_) (fun h => absurd (by first | (simp (disch := omega) only [nI_lt', nI_le', nI_eq', nI_add', nI_mul', nI_sub', nI_cl', tg_0, tg_1, bit1_eq, bit1_eq0, hb_bit, up_k, up_j, up_s, nI_em1, Bool.true_eq_false, Bool.false_eq_true, not_true_eq_false, not_false_eq_true]; done) | (simp (disch := omega) only [nI_lt', nI_le', nI_eq', nI_add', nI_mul', nI_sub', nI_cl', tg_0, tg_1, bit1_eq, bit1_eq0, hb_bit, up_k, up_j, up_s, nI_em1, Bool.true_eq_false, Bool.false_eq_true, not_true_eq_false, not_false_eq_true]; omega) | omega) h)) | (refine And.intro (fun _ => ?_) (fun _ => ?_)) | (refine And.intro (by first | decide | (with_reducible assumption) | ((with_reducible refine in_nI ?_ ?_) <;> omega) | ((try (conv => arg 2; whnf)); (try simp (disch := omega) only [nI_lt', nI_le', nI_eq', nI_add', nI_mul', nI_sub', nI_cl', tg_0, tg_1, bit1_eq, bit1_eq0, hb_bit, up_k, up_j, up_s, nI_em1, Bool.true_eq_false, Bool.false_eq_true, not_true_eq_false, not_false_eq_true]); (with_reducible refine in_nI ?_ ?_) <;> omega)) ?_) | fail)) <;> (try (conv => whnf)))
  refine hCT _ _ _ _ (c_copyFrom (a := 136) (b := 22) (w := w) (by omega) hR hW (fun σ1 g1 g2 => ?_))
  ((repeat' ((conv => whnf); first | (refine And.intro (fun h => absurd h (by decide)) (fun _ => ?_)) | (refine And.intro (fun _ => ?_) (fun h => (h (by decide)).elim)) | (refine And.intro (fun h => absurd h (by first | (simp (disch := omega) only [nI_lt', nI_le', nI_eq', nI_add', nI_mul', nI_sub', nI_cl', tg_0, tg_1, bit1_eq, bit1_eq0, hb_bit, up_k, up_j, up_s, nI_em1, Bool.true_eq_false, Bool.false_eq_true, not_true_eq_false, not_false_eq_true]; done) | (simp (disch := omega) only [nI_lt', nI_le', nI_eq', nI_add', nI_mul', nI_sub', nI_cl', tg_0, tg_1, bit1_eq, bit1_eq0, hb_bit, up_k, up_j, up_s, nI_em1, Bool.true_eq_false, Bool.false_eq_true, not_true_eq_false, not_false_eq_true]; omega) | omega)) (fun _ => ?_)) | (refine And.intro (fun _ => ?_) (fun h => absurd (by first | (simp (disch := omega) only [nI_lt', nI_le', nI_eq', nI_add', nI_mul', nI_sub', nI_cl', tg_0, tg_1, bit1_eq, bit1_eq0, hb_bit, up_k, up_j, up_s, nI_em1, Bool.true_eq_false, Bool.false_eq_true, not_true_eq_false, not_false_eq_true]; done) | (simp (disch := omega) only [nI_lt', nI_le', nI_eq', nI_add', nI_mul', nI_sub', nI_cl', tg_0, tg_1, bit1_eq, bit1_eq0, hb_bit, up_k, up_j, up_s, nI_em1, Bool.true_eq_false, Bool.false_eq_true, not_true_eq_false, not_false_eq_true]; omega) | omega) h)) | (refine And.intro (fun _ => ?_) (fun _ => ?_)) | (refine And.intro (by first | decide | (with_reducible assumption) | ((with_reducible refine in_nI ?_ ?_) <;> omega) | ((try (conv => arg 2; whnf)); (try simp (disch := omega) only [nI_lt', nI_le', nI_eq', nI_add', nI_mul', nI_sub', nI_cl', tg_0, tg_1, bit1_eq, bit1_eq0, hb_bit, up_k, up_j, up_s, nI_em1, Bool.true_eq_false, Bool.false_eq_true, not_true_eq_false, not_false_eq_true]); (with_reducible refine in_nI ?_ ?_) <;> omega)) ?_) | fail)) <;> (try (conv => whnf)))
  refine hCT _ _ _ _ (c_empty (b := 136) (fun σ2 e1 e2 e3 => ?_))
  have r1 : σ2 22 1 = nI (w 1) := by rw [e3 _ _ (by omega) (by omega), g2 _ _ (by unfold fLane; omega)]; exact hR.1.2.1
  ((repeat' ((conv => whnf); first | (refine And.intro (fun h => absurd h (by decide)) (fun _ => ?_)) | (refine And.intro (fun _ => ?_) (fun h => (h (by decide)).elim)) | (refine And.intro (fun h => absurd h (by first | (simp (disch := omega) only [nI_lt', nI_le', nI_eq', nI_add', nI_mul', nI_sub', nI_cl', tg_0, tg_1, bit1_eq, bit1_eq0, hb_bit, up_k, up_j, up_s, nI_em1, Bool.true_eq_false, Bool.false_eq_true, not_true_eq_false, not_false_eq_true]; done) | (simp (disch := omega) only [nI_lt', nI_le', nI_eq', nI_add', nI_mul', nI_sub', nI_cl', tg_0, tg_1, bit1_eq, bit1_eq0, hb_bit, up_k, up_j, up_s, nI_em1, Bool.true_eq_false, Bool.false_eq_true, not_true_eq_false, not_false_eq_true]; omega) | omega)) (fun _ => ?_)) | (refine And.intro (fun _ => ?_) (fun h => absurd (by first | (simp (disch := omega) only [nI_lt', nI_le', nI_eq', nI_add', nI_mul', nI_sub', nI_cl', tg_0, tg_1, bit1_eq, bit1_eq0, hb_bit, up_k, up_j, up_s, nI_em1, Bool.true_eq_false, Bool.false_eq_true, not_true_eq_false, not_false_eq_true]; done) | (simp (disch := omega) only [nI_lt', nI_le', nI_eq', nI_add', nI_mul', nI_sub', nI_cl', tg_0, tg_1, bit1_eq, bit1_eq0, hb_bit, up_k, up_j, up_s, nI_em1, Bool.true_eq_false, Bool.false_eq_true, not_true_eq_false, not_false_eq_true]; omega) | omega) h)) | (refine And.intro (fun _ => ?_) (fun _ => ?_)) | (refine And.intro (by first | decide | (with_reducible assumption) | ((with_reducible refine in_nI ?_ ?_) <;> omega) | ((try (conv => arg 2; whnf)); (try simp (disch := omega) only [nI_lt', nI_le', nI_eq', nI_add', nI_mul', nI_sub', nI_cl', tg_0, tg_1, bit1_eq, bit1_eq0, hb_bit, up_k, up_j, up_s, nI_em1, Bool.true_eq_false, Bool.false_eq_true, not_true_eq_false, not_false_eq_true]); (with_reducible refine in_nI ?_ ?_) <;> omega)) ?_) | fail)) <;> (try (conv => whnf)))
  simp (disch := omega) only [tg_0, r1, nI_add']
  have hRS : RS w 136 σ2 := by
    obtain ⟨c1, c2, c3, c4, c5⟩ := g1.1
    refine ⟨?_, ?_, ?_, fun k h => ?_, fun p h => ⟨?_, ?_, ?_⟩⟩
    · rw [e3 _ _ (by omega) (by omega)]; exact c1
    · rw [e3 _ _ (by omega) (by omega)]; exact c2
    · rw [e3 _ _ (by omega) (by omega)]; exact c3
    · rw [e3 _ _ (by omega) (by omega)]; exact c4 k h
    · rw [e3 _ _ (by omega) (by omega)]; exact (c5 p h).1
    · rw [e3 _ _ (by omega) (by omega)]; exact (c5 p h).2.1
    · rw [e3 _ _ (by omega) (by omega)]; exact (c5 p h).2.2
  refine hCT _ _ _ _ (c_try hW d (w 1) [] 0 (w 1 + 1, []) _ _ (by simp) (by omega) (fun q hq => by simp) ⟨hRS.keep (fun k j a b => up_k (by omega)), fun k hk => ?_, fun i hi => absurd hi (Nat.not_lt_zero i), up_s, fun hle => by omega⟩ (by show w 1 + 1 ≤ 7; omega) (fun σ3 q1 q2 => ?_))
  · rw [up_k (by omega)]; exact e1 k (by have := hW.1; omega)
  · ((repeat' ((conv => whnf); first | (refine And.intro (fun h => absurd h (by decide)) (fun _ => ?_)) | (refine And.intro (fun _ => ?_) (fun h => (h (by decide)).elim)) | (refine And.intro (fun h => absurd h (by first | (simp (disch := omega) only [nI_lt', nI_le', nI_eq', nI_add', nI_mul', nI_sub', nI_cl', tg_0, tg_1, bit1_eq, bit1_eq0, hb_bit, up_k, up_j, up_s, nI_em1, Bool.true_eq_false, Bool.false_eq_true, not_true_eq_false, not_false_eq_true]; done) | (simp (disch := omega) only [nI_lt', nI_le', nI_eq', nI_add', nI_mul', nI_sub', nI_cl', tg_0, tg_1, bit1_eq, bit1_eq0, hb_bit, up_k, up_j, up_s, nI_em1, Bool.true_eq_false, Bool.false_eq_true, not_true_eq_false, not_false_eq_true]; omega) | omega)) (fun _ => ?_)) | (refine And.intro (fun _ => ?_) (fun h => absurd (by first | (simp (disch := omega) only [nI_lt', nI_le', nI_eq', nI_add', nI_mul', nI_sub', nI_cl', tg_0, tg_1, bit1_eq, bit1_eq0, hb_bit, up_k, up_j, up_s, nI_em1, Bool.true_eq_false, Bool.false_eq_true, not_true_eq_false, not_false_eq_true]; done) | (simp (disch := omega) only [nI_lt', nI_le', nI_eq', nI_add', nI_mul', nI_sub', nI_cl', tg_0, tg_1, bit1_eq, bit1_eq0, hb_bit, up_k, up_j, up_s, nI_em1, Bool.true_eq_false, Bool.false_eq_true, not_true_eq_false, not_false_eq_true]; omega) | omega) h)) | (refine And.intro (fun _ => ?_) (fun _ => ?_)) | (refine And.intro (by first | decide | (with_reducible assumption) | ((with_reducible refine in_nI ?_ ?_) <;> omega) | ((try (conv => arg 2; whnf)); (try simp (disch := omega) only [nI_lt', nI_le', nI_eq', nI_add', nI_mul', nI_sub', nI_cl', tg_0, tg_1, bit1_eq, bit1_eq0, hb_bit, up_k, up_j, up_s, nI_em1, Bool.true_eq_false, Bool.false_eq_true, not_true_eq_false, not_false_eq_true]); (with_reducible refine in_nI ?_ ?_) <;> omega)) ?_) | fail)) <;> (try (conv => whnf)))
    refine h σ3 q1 (fun k j hk => ?_)
    rw [q2 k j (by unfold fFun; omega), up_k (by omega), e3 k j (by omega) (by omega)]
    exact g2 k j (by unfold fLane; omega)
