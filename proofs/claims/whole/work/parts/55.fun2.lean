/-! ===== funeral: the model's orders ===== -/
def fk (l : List Nat) : Nat → Nat
  | 0 => 0
  | i + 1 => if l.getD (i + 1) 0 < l.getD i 0 then fk l i else i + 1
def fj (l : List Nat) (x : Nat) : Nat → Nat
  | 0 => 0
  | j + 1 => if l.getD (j + 1) 0 < x then fj l x j else j + 1
theorem fk_s {l : List Nat} {i : Nat} : fk l (i + 1) = if l.getD (i + 1) 0 < l.getD i 0 then fk l i else i + 1 := rfl
theorem fj_s {l : List Nat} {x j : Nat} : fj l x (j + 1) = if l.getD (j + 1) 0 < x then fj l x j else j + 1 := rfl
def sw (l : List Nat) (a b : Nat) : List Nat := (l.set a (l.getD b 0)).set b (l.getD a 0)
def rvl : Nat → Nat → Nat → List Nat → List Nat
  | 0, _, _, l => l
  | n + 1, a, b, l => if a < b then rvl n (a + 1) (b - 1) (sw l a b) else l
def nxl (P : Nat) (l : List Nat) : Option (List Nat) := match fk l (P - 1) with
  | 0 => none
  | k + 1 => some (rvl 6 (k + 1) (P - 1) (sw l k (fj l (l.getD k 0) (P - 1))))
def mo (P : Nat) (x : List Nat) : List Nat := x ++ (List.range 6).drop P
def vld (P : Nat) (x : List Nat) : Bool := decide ((mo P x).length = 6) && decide ((List.range P).map (fun i => (mo P x).getD i 0) = x) && (List.range 6).all (fun i => decide ((mo P x).getD i 0 < 6)) && (List.range P).all (fun i => decide ((mo P x).getD i 0 < P) && decide (x.getD i 0 = (mo P x).getD i 0))
def chn (P : Nat) : List (List Nat) → Bool
  | [] => false
  | x :: r => vld P x && (match r with
    | [] => decide (nxl P (mo P x) = none)
    | y :: _ => decide (nxl P (mo P x) = some (mo P y)) && chn P r)
theorem chn_ok : ∀ P, P < 7 → chn P (cmq P P []) = true := by decide +kernel
theorem chn_hd : ∀ P, P < 7 → ((cmq P P []).head?.map (mo P)) = some (List.range 6) ∧ (cmq P P []).all (fun x => decide (x.length = P)) = true := by decide +kernel
theorem set_g {l : List Nat} {a x i : Nat} (ha : a < l.length) : (l.set a x).getD i 0 = if i = a then x else l.getD i 0 := by
  rw [List.getD_eq_getElem?_getD, List.getElem?_set, List.getD_eq_getElem?_getD]
  by_cases e : a = i
  · subst e; rw [if_pos rfl, if_pos ha, if_pos rfl]; rfl
  · rw [if_neg e, if_neg (fun z => e z.symm)]
theorem sw_len {l : List Nat} {a b : Nat} : (sw l a b).length = l.length := by unfold sw; rw [List.length_set, List.length_set]
theorem sw_g {l : List Nat} {a b i : Nat} (ha : a < l.length) (hb : b < l.length) : (sw l a b).getD i 0 = if i = b then l.getD a 0 else if i = a then l.getD b 0 else l.getD i 0 := by
  unfold sw
  rw [set_g (by rw [List.length_set]; exact hb), set_g ha]
/-- the model's order is the list l -/
def MO (l : List Nat) (σ : ST) : Prop := l.length = 6 ∧ ∀ i, i < 6 → l.getD i 0 < 6 ∧ σ 172 i = nI (l.getD i 0)
theorem MO.sw {l : List Nat} {σ : ST} {a b : Nat} (h : MO l σ) (ha : a < 6) (hb : b < 6) : MO (sw l a b) (up (up σ 172 a (nI (l.getD b 0))) 172 b (nI (l.getD a 0))) := by
  obtain ⟨h1, h2⟩ := h
  refine ⟨by rw [sw_len]; exact h1, fun i hi => ?_⟩
  rw [sw_g (by omega) (by omega)]
  by_cases e1 : i = b
  · subst e1
    rw [if_pos rfl]
    exact ⟨(h2 a ha).1, up_s⟩
  · rw [if_neg e1, up_j e1]
    by_cases e2 : i = a
    · subst e2
      rw [if_pos rfl]
      exact ⟨(h2 b hb).1, up_s⟩
    · rw [if_neg e2, up_j e2]
      exact h2 i hi
set_option maxRecDepth 20000 in
set_option maxHeartbeats 1000000 in
theorem m_orders {l : Launch} {X : XT} {d P : Nat} {σ : ST} {Q : Option AV → ST → Prop} {l0 : List Nat} (hP : σ 165 1 = nI P) (hP6 : P ≤ 6) (hO : MO l0 σ) (h0 : nxl P l0 = none → Q (some (.inl (nI 0))) σ) (h1 : ∀ l' σ', nxl P l0 = some l' → MO l' σ' → Fr (fun k _ => k = 172) σ σ' → Q (some (.inl (nI 1))) σ') : MT l X (d + 1) i_M_orders [.inr (9, 161)] σ Q := by
  refine mt_wp g_M_orders (by decide) k_M_orders (by simp) ?_
  intro CT G hCT hG
  refine hG [9, 51, 113] 120 0 _ _ _ ?_
  by_cases hP0 : P = 0
  · subst hP0
    have : nxl 0 l0 = none := rfl
    ((repeat' ((conv => whnf); first | (refine And.intro (fun h => absurd h (by decide)) (fun _ => ?_)) | (refine And.intro (fun _ => ?_) (fun h => (h (by decide)).elim)) | (refine And.intro (fun h => absurd h (by first | (simp (disch := omega) only [hP, nI_lt', nI_le', nI_eq', nI_add', nI_mul', nI_sub', nI_cl', tg_0, tg_1, bit1_eq, bit1_eq0, hb_bit, up_k, up_j, up_s, nI_em1, Bool.true_eq_false, Bool.false_eq_true, not_true_eq_false, not_false_eq_true]; done) | (simp (disch := omega) only [hP, nI_lt', nI_le', nI_eq', nI_add', nI_mul', nI_sub', nI_cl', tg_0, tg_1, bit1_eq, bit1_eq0, hb_bit, up_k, up_j, up_s, nI_em1, Bool.true_eq_false, Bool.false_eq_true, not_true_eq_false, not_false_eq_true]; omega) | omega)) (fun _ => ?_)) | (refine And.intro (fun _ => ?_) (fun h => absurd (by first | (simp (disch := omega) only [hP, nI_lt', nI_le', nI_eq', nI_add', nI_mul', nI_sub', nI_cl', tg_0, tg_1, bit1_eq, bit1_eq0, hb_bit, up_k, up_j, up_s, nI_em1, Bool.true_eq_false, Bool.false_eq_true, not_true_eq_false, not_false_eq_true]; done) | (simp (disch := omega) only [hP, nI_lt', nI_le', nI_eq', nI_add', nI_mul', nI_sub', nI_cl', tg_0, tg_1, bit1_eq, bit1_eq0, hb_bit, up_k, up_j, up_s, nI_em1, Bool.true_eq_false, Bool.false_eq_true, not_true_eq_false, not_false_eq_true]; omega) | omega) h)) | (refine And.intro (fun _ => ?_) (fun _ => ?_)) | (refine And.intro (by first | decide | (with_reducible assumption) | ((with_reducible refine in_nI ?_ ?_) <;> omega) | ((try (conv => arg 2; whnf)); (try simp (disch := omega) only [hP, nI_lt', nI_le', nI_eq', nI_add', nI_mul', nI_sub', nI_cl', tg_0, tg_1, bit1_eq, bit1_eq0, hb_bit, up_k, up_j, up_s, nI_em1, Bool.true_eq_false, Bool.false_eq_true, not_true_eq_false, not_false_eq_true]); (with_reducible refine in_nI ?_ ?_) <;> omega)) ?_) | fail)) <;> (try (conv => whnf)))
    simp (disch := omega) only [tg_0, nI_cl', hP]
    refine hG [51, 113] 60 9 _ _ _ ?_
    ((repeat' ((conv => whnf); first | (refine And.intro (fun h => absurd h (by decide)) (fun _ => ?_)) | (refine And.intro (fun _ => ?_) (fun h => (h (by decide)).elim)) | (refine And.intro (fun h => absurd h (by first | (simp (disch := omega) only [nI_lt', nI_le', nI_eq', nI_add', nI_mul', nI_sub', nI_cl', tg_0, tg_1, bit1_eq, bit1_eq0, hb_bit, up_k, up_j, up_s, nI_em1, Bool.true_eq_false, Bool.false_eq_true, not_true_eq_false, not_false_eq_true]; done) | (simp (disch := omega) only [nI_lt', nI_le', nI_eq', nI_add', nI_mul', nI_sub', nI_cl', tg_0, tg_1, bit1_eq, bit1_eq0, hb_bit, up_k, up_j, up_s, nI_em1, Bool.true_eq_false, Bool.false_eq_true, not_true_eq_false, not_false_eq_true]; omega) | omega)) (fun _ => ?_)) | (refine And.intro (fun _ => ?_) (fun h => absurd (by first | (simp (disch := omega) only [nI_lt', nI_le', nI_eq', nI_add', nI_mul', nI_sub', nI_cl', tg_0, tg_1, bit1_eq, bit1_eq0, hb_bit, up_k, up_j, up_s, nI_em1, Bool.true_eq_false, Bool.false_eq_true, not_true_eq_false, not_false_eq_true]; done) | (simp (disch := omega) only [nI_lt', nI_le', nI_eq', nI_add', nI_mul', nI_sub', nI_cl', tg_0, tg_1, bit1_eq, bit1_eq0, hb_bit, up_k, up_j, up_s, nI_em1, Bool.true_eq_false, Bool.false_eq_true, not_true_eq_false, not_false_eq_true]; omega) | omega) h)) | (refine And.intro (fun _ => ?_) (fun _ => ?_)) | (refine And.intro (by first | decide | (with_reducible assumption) | ((with_reducible refine in_nI ?_ ?_) <;> omega) | ((try (conv => arg 2; whnf)); (try simp (disch := omega) only [nI_lt', nI_le', nI_eq', nI_add', nI_mul', nI_sub', nI_cl', tg_0, tg_1, bit1_eq, bit1_eq0, hb_bit, up_k, up_j, up_s, nI_em1, Bool.true_eq_false, Bool.false_eq_true, not_true_eq_false, not_false_eq_true]); (with_reducible refine in_nI ?_ ?_) <;> omega)) ?_) | fail)) <;> (try (conv => whnf)))
    exact h0 this
  · have rev : ∀ n a b l1 k j v3 σ1, 1 ≤ a → b < 6 → a ≤ 6 → b ≤ a + 2 * n → MO l1 σ1 → Fr (fun k _ => k = 172) σ σ1 → nxl P l0 = some (rvl n a b l1) → G 113 [some (.inr (9, 161)), k, j, v3, some (.inl (nI a)), some (.inl (nI b))] [] σ1 := by
      intro n
      induction n with
      | zero =>
        intro a b l1 k j v3 σ1 ha hb ha6 hn hO1 hF hx
        refine hG [113] 80 113 _ _ _ ?_
        ((repeat' ((conv => whnf); first | (refine And.intro (fun h => absurd h (by decide)) (fun _ => ?_)) | (refine And.intro (fun _ => ?_) (fun h => (h (by decide)).elim)) | (refine And.intro (fun h => absurd h (by first | (simp (disch := omega) only [nI_lt', nI_le', nI_eq', nI_add', nI_mul', nI_sub', nI_cl', tg_0, tg_1, bit1_eq, bit1_eq0, hb_bit, up_k, up_j, up_s, nI_em1, Bool.true_eq_false, Bool.false_eq_true, not_true_eq_false, not_false_eq_true]; done) | (simp (disch := omega) only [nI_lt', nI_le', nI_eq', nI_add', nI_mul', nI_sub', nI_cl', tg_0, tg_1, bit1_eq, bit1_eq0, hb_bit, up_k, up_j, up_s, nI_em1, Bool.true_eq_false, Bool.false_eq_true, not_true_eq_false, not_false_eq_true]; omega) | omega)) (fun _ => ?_)) | (refine And.intro (fun _ => ?_) (fun h => absurd (by first | (simp (disch := omega) only [nI_lt', nI_le', nI_eq', nI_add', nI_mul', nI_sub', nI_cl', tg_0, tg_1, bit1_eq, bit1_eq0, hb_bit, up_k, up_j, up_s, nI_em1, Bool.true_eq_false, Bool.false_eq_true, not_true_eq_false, not_false_eq_true]; done) | (simp (disch := omega) only [nI_lt', nI_le', nI_eq', nI_add', nI_mul', nI_sub', nI_cl', tg_0, tg_1, bit1_eq, bit1_eq0, hb_bit, up_k, up_j, up_s, nI_em1, Bool.true_eq_false, Bool.false_eq_true, not_true_eq_false, not_false_eq_true]; omega) | omega) h)) | (refine And.intro (fun _ => ?_) (fun _ => ?_)) | (refine And.intro (by first | decide | (with_reducible assumption) | ((with_reducible refine in_nI ?_ ?_) <;> omega) | ((try (conv => arg 2; whnf)); (try simp (disch := omega) only [nI_lt', nI_le', nI_eq', nI_add', nI_mul', nI_sub', nI_cl', tg_0, tg_1, bit1_eq, bit1_eq0, hb_bit, up_k, up_j, up_s, nI_em1, Bool.true_eq_false, Bool.false_eq_true, not_true_eq_false, not_false_eq_true]); (with_reducible refine in_nI ?_ ?_) <;> omega)) ?_) | fail)) <;> (try (conv => whnf)))
        exact h1 _ _ hx hO1 hF
      | succ n ih =>
        intro a b l1 k j v3 σ1 ha hb ha6 hn hO1 hF hx
        refine hG [113] 80 113 _ _ _ ?_
        unfold rvl at hx
        by_cases hab : a < b
        · rw [if_pos hab] at hx
          have ea := (hO1.2 a (by omega)).2
          have eb := (hO1.2 b hb).2
          ((repeat' ((conv => whnf); first | (refine And.intro (fun h => absurd h (by decide)) (fun _ => ?_)) | (refine And.intro (fun _ => ?_) (fun h => (h (by decide)).elim)) | (refine And.intro (fun h => absurd h (by first | (simp (disch := omega) only [nI_lt', nI_le', nI_eq', nI_add', nI_mul', nI_sub', nI_cl', tg_0, tg_1, bit1_eq, bit1_eq0, hb_bit, up_k, up_j, up_s, nI_em1, Bool.true_eq_false, Bool.false_eq_true, not_true_eq_false, not_false_eq_true]; done) | (simp (disch := omega) only [nI_lt', nI_le', nI_eq', nI_add', nI_mul', nI_sub', nI_cl', tg_0, tg_1, bit1_eq, bit1_eq0, hb_bit, up_k, up_j, up_s, nI_em1, Bool.true_eq_false, Bool.false_eq_true, not_true_eq_false, not_false_eq_true]; omega) | omega)) (fun _ => ?_)) | (refine And.intro (fun _ => ?_) (fun h => absurd (by first | (simp (disch := omega) only [nI_lt', nI_le', nI_eq', nI_add', nI_mul', nI_sub', nI_cl', tg_0, tg_1, bit1_eq, bit1_eq0, hb_bit, up_k, up_j, up_s, nI_em1, Bool.true_eq_false, Bool.false_eq_true, not_true_eq_false, not_false_eq_true]; done) | (simp (disch := omega) only [nI_lt', nI_le', nI_eq', nI_add', nI_mul', nI_sub', nI_cl', tg_0, tg_1, bit1_eq, bit1_eq0, hb_bit, up_k, up_j, up_s, nI_em1, Bool.true_eq_false, Bool.false_eq_true, not_true_eq_false, not_false_eq_true]; omega) | omega) h)) | (refine And.intro (fun _ => ?_) (fun _ => ?_)) | (refine And.intro (by first | decide | (with_reducible assumption) | ((with_reducible refine in_nI ?_ ?_) <;> omega) | ((try (conv => arg 2; whnf)); (try simp (disch := omega) only [nI_lt', nI_le', nI_eq', nI_add', nI_mul', nI_sub', nI_cl', tg_0, tg_1, bit1_eq, bit1_eq0, hb_bit, up_k, up_j, up_s, nI_em1, Bool.true_eq_false, Bool.false_eq_true, not_true_eq_false, not_false_eq_true]); (with_reducible refine in_nI ?_ ?_) <;> omega)) ?_) | fail)) <;> (try (conv => whnf)))
          simp (disch := omega) only [tg_0, nI_cl', ea, eb, nI_add']
          rw [show nI b + -1 = nI (b - 1) by
            have := pk_m1 (b - 1)
            rwa [show b - 1 + 1 = b by omega] at this]
          exact ih (a + 1) (b - 1) _ k j _ _ (by omega) (by omega) (by omega) (by omega) (hO1.sw (by omega) hb) ((hF.up rfl).up rfl) hx
        · rw [if_neg hab] at hx
          ((repeat' ((conv => whnf); first | (refine And.intro (fun h => absurd h (by decide)) (fun _ => ?_)) | (refine And.intro (fun _ => ?_) (fun h => (h (by decide)).elim)) | (refine And.intro (fun h => absurd h (by first | (simp (disch := omega) only [nI_lt', nI_le', nI_eq', nI_add', nI_mul', nI_sub', nI_cl', tg_0, tg_1, bit1_eq, bit1_eq0, hb_bit, up_k, up_j, up_s, nI_em1, Bool.true_eq_false, Bool.false_eq_true, not_true_eq_false, not_false_eq_true]; done) | (simp (disch := omega) only [nI_lt', nI_le', nI_eq', nI_add', nI_mul', nI_sub', nI_cl', tg_0, tg_1, bit1_eq, bit1_eq0, hb_bit, up_k, up_j, up_s, nI_em1, Bool.true_eq_false, Bool.false_eq_true, not_true_eq_false, not_false_eq_true]; omega) | omega)) (fun _ => ?_)) | (refine And.intro (fun _ => ?_) (fun h => absurd (by first | (simp (disch := omega) only [nI_lt', nI_le', nI_eq', nI_add', nI_mul', nI_sub', nI_cl', tg_0, tg_1, bit1_eq, bit1_eq0, hb_bit, up_k, up_j, up_s, nI_em1, Bool.true_eq_false, Bool.false_eq_true, not_true_eq_false, not_false_eq_true]; done) | (simp (disch := omega) only [nI_lt', nI_le', nI_eq', nI_add', nI_mul', nI_sub', nI_cl', tg_0, tg_1, bit1_eq, bit1_eq0, hb_bit, up_k, up_j, up_s, nI_em1, Bool.true_eq_false, Bool.false_eq_true, not_true_eq_false, not_false_eq_true]; omega) | omega) h)) | (refine And.intro (fun _ => ?_) (fun _ => ?_)) | (refine And.intro (by first | decide | (with_reducible assumption) | ((with_reducible refine in_nI ?_ ?_) <;> omega) | ((try (conv => arg 2; whnf)); (try simp (disch := omega) only [nI_lt', nI_le', nI_eq', nI_add', nI_mul', nI_sub', nI_cl', tg_0, tg_1, bit1_eq, bit1_eq0, hb_bit, up_k, up_j, up_s, nI_em1, Bool.true_eq_false, Bool.false_eq_true, not_true_eq_false, not_false_eq_true]); (with_reducible refine in_nI ?_ ?_) <;> omega)) ?_) | fail)) <;> (try (conv => whnf)))
          exact h1 _ _ hx hO1 hF
    have lj : ∀ k, k + 1 < P → ¬ l0.getD (k + 1) 0 < l0.getD k 0 → (nxl P l0 = some (rvl 6 (k + 1) (P - 1) (sw l0 k (fj l0 (l0.getD k 0) (P - 1))))) → ∀ j, k + 1 ≤ j + 1 → j + 1 ≤ P - 1 → fj l0 (l0.getD k 0) (j + 1) = fj l0 (l0.getD k 0) (P - 1) → G 51 [some (.inr (9, 161)), some (.inl (nI k)), some (.inl (nI (j + 1))), none, none, none] [] σ := by
      intro k hk hnk hx j
      induction j with
      | zero =>
        intro h2 h3 h4
        obtain rfl : k = 0 := by omega
        refine hG [51, 113] 120 51 _ _ _ ?_
        have e1 := hO.2 1 (by omega)
        have e0 := hO.2 0 (by omega)
        have e1' := e1.2
        have e0' := e0.2
        rw [fj_s] at h4
        rw [if_neg hnk] at h4
        rw [← h4] at hx
        have hk' : ¬ l0.getD 1 0 < l0.getD 0 0 := hnk
        generalize hv1 : l0.getD 1 0 = v1 at *
        generalize hv0 : l0.getD 0 0 = v0 at *
        ((repeat' ((conv => whnf); first | (refine And.intro (fun h => absurd h (by decide)) (fun _ => ?_)) | (refine And.intro (fun _ => ?_) (fun h => (h (by decide)).elim)) | (refine And.intro (fun h => absurd h (by first | (simp (disch := omega) only [e1', e0', nI_lt', nI_le', nI_eq', nI_add', nI_mul', nI_sub', nI_cl', tg_0, tg_1, bit1_eq, bit1_eq0, hb_bit, up_k, up_j, up_s, nI_em1, Bool.true_eq_false, Bool.false_eq_true, not_true_eq_false, not_false_eq_true]; done) | (simp (disch := omega) only [e1', e0', nI_lt', nI_le', nI_eq', nI_add', nI_mul', nI_sub', nI_cl', tg_0, tg_1, bit1_eq, bit1_eq0, hb_bit, up_k, up_j, up_s, nI_em1, Bool.true_eq_false, Bool.false_eq_true, not_true_eq_false, not_false_eq_true]; omega) | omega)) (fun _ => ?_)) | (refine And.intro (fun _ => ?_) (fun h => absurd (by first | (simp (disch := omega) only [e1', e0', nI_lt', nI_le', nI_eq', nI_add', nI_mul', nI_sub', nI_cl', tg_0, tg_1, bit1_eq, bit1_eq0, hb_bit, up_k, up_j, up_s, nI_em1, Bool.true_eq_false, Bool.false_eq_true, not_true_eq_false, not_false_eq_true]; done) | (simp (disch := omega) only [e1', e0', nI_lt', nI_le', nI_eq', nI_add', nI_mul', nI_sub', nI_cl', tg_0, tg_1, bit1_eq, bit1_eq0, hb_bit, up_k, up_j, up_s, nI_em1, Bool.true_eq_false, Bool.false_eq_true, not_true_eq_false, not_false_eq_true]; omega) | omega) h)) | (refine And.intro (fun _ => ?_) (fun _ => ?_)) | (refine And.intro (by first | decide | (with_reducible assumption) | ((with_reducible refine in_nI ?_ ?_) <;> omega) | ((try (conv => arg 2; whnf)); (try simp (disch := omega) only [e1', e0', nI_lt', nI_le', nI_eq', nI_add', nI_mul', nI_sub', nI_cl', tg_0, tg_1, bit1_eq, bit1_eq0, hb_bit, up_k, up_j, up_s, nI_em1, Bool.true_eq_false, Bool.false_eq_true, not_true_eq_false, not_false_eq_true]); (with_reducible refine in_nI ?_ ?_) <;> omega)) ?_) | fail)) <;> (try (conv => whnf)))
        simp (disch := omega) only [tg_0, nI_cl', e0', e1', hP, nI_add', nI_sub', up_k]
        have hsw := hO.sw (a := 0) (b := 1) (by omega) (by omega)
        rw [hv0, hv1] at hsw
        exact rev 6 1 (P - 1) _ _ _ _ _ (by omega) (by omega) (by omega) (by omega) hsw ((Fr.up (f := fun k _ => k = 172) Fr.rf rfl).up rfl) hx
      | succ j ih =>
        intro h2 h3 h4
        have ej := hO.2 (j + 1 + 1) (by omega)
        have ek := hO.2 k (by omega)
        have ej' := ej.2
        have ek' := ek.2
        refine hG [51, 113] 120 51 _ _ _ ?_
        rw [fj_s] at h4
        by_cases hlt : l0.getD (j + 1 + 1) 0 < l0.getD k 0
        · rw [if_pos hlt] at h4
          have hjk : k + 1 ≤ j + 1 := by
            by_cases e : k + 1 = j + 1 + 1
            · rw [← e] at hlt; exact absurd hlt hnk
            · omega
          ((repeat' ((conv => whnf); first | (refine And.intro (fun h => absurd h (by decide)) (fun _ => ?_)) | (refine And.intro (fun _ => ?_) (fun h => (h (by decide)).elim)) | (refine And.intro (fun h => absurd h (by first | (simp (disch := omega) only [ej', ek', nI_lt', nI_le', nI_eq', nI_add', nI_mul', nI_sub', nI_cl', tg_0, tg_1, bit1_eq, bit1_eq0, hb_bit, up_k, up_j, up_s, nI_em1, Bool.true_eq_false, Bool.false_eq_true, not_true_eq_false, not_false_eq_true]; done) | (simp (disch := omega) only [ej', ek', nI_lt', nI_le', nI_eq', nI_add', nI_mul', nI_sub', nI_cl', tg_0, tg_1, bit1_eq, bit1_eq0, hb_bit, up_k, up_j, up_s, nI_em1, Bool.true_eq_false, Bool.false_eq_true, not_true_eq_false, not_false_eq_true]; omega) | omega)) (fun _ => ?_)) | (refine And.intro (fun _ => ?_) (fun h => absurd (by first | (simp (disch := omega) only [ej', ek', nI_lt', nI_le', nI_eq', nI_add', nI_mul', nI_sub', nI_cl', tg_0, tg_1, bit1_eq, bit1_eq0, hb_bit, up_k, up_j, up_s, nI_em1, Bool.true_eq_false, Bool.false_eq_true, not_true_eq_false, not_false_eq_true]; done) | (simp (disch := omega) only [ej', ek', nI_lt', nI_le', nI_eq', nI_add', nI_mul', nI_sub', nI_cl', tg_0, tg_1, bit1_eq, bit1_eq0, hb_bit, up_k, up_j, up_s, nI_em1, Bool.true_eq_false, Bool.false_eq_true, not_true_eq_false, not_false_eq_true]; omega) | omega) h)) | (refine And.intro (fun _ => ?_) (fun _ => ?_)) | (refine And.intro (by first | decide | (with_reducible assumption) | ((with_reducible refine in_nI ?_ ?_) <;> omega) | ((try (conv => arg 2; whnf)); (try simp (disch := omega) only [ej', ek', nI_lt', nI_le', nI_eq', nI_add', nI_mul', nI_sub', nI_cl', tg_0, tg_1, bit1_eq, bit1_eq0, hb_bit, up_k, up_j, up_s, nI_em1, Bool.true_eq_false, Bool.false_eq_true, not_true_eq_false, not_false_eq_true]); (with_reducible refine in_nI ?_ ?_) <;> omega)) ?_) | fail)) <;> (try (conv => whnf)))
          rw [pk_m1 (j + 1)]
          exact ih hjk (by omega) h4
        · rw [if_neg hlt] at h4
          rw [← h4] at hx
          ((repeat' ((conv => whnf); first | (refine And.intro (fun h => absurd h (by decide)) (fun _ => ?_)) | (refine And.intro (fun _ => ?_) (fun h => (h (by decide)).elim)) | (refine And.intro (fun h => absurd h (by first | (simp (disch := omega) only [ej', ek', nI_lt', nI_le', nI_eq', nI_add', nI_mul', nI_sub', nI_cl', tg_0, tg_1, bit1_eq, bit1_eq0, hb_bit, up_k, up_j, up_s, nI_em1, Bool.true_eq_false, Bool.false_eq_true, not_true_eq_false, not_false_eq_true]; done) | (simp (disch := omega) only [ej', ek', nI_lt', nI_le', nI_eq', nI_add', nI_mul', nI_sub', nI_cl', tg_0, tg_1, bit1_eq, bit1_eq0, hb_bit, up_k, up_j, up_s, nI_em1, Bool.true_eq_false, Bool.false_eq_true, not_true_eq_false, not_false_eq_true]; omega) | omega)) (fun _ => ?_)) | (refine And.intro (fun _ => ?_) (fun h => absurd (by first | (simp (disch := omega) only [ej', ek', nI_lt', nI_le', nI_eq', nI_add', nI_mul', nI_sub', nI_cl', tg_0, tg_1, bit1_eq, bit1_eq0, hb_bit, up_k, up_j, up_s, nI_em1, Bool.true_eq_false, Bool.false_eq_true, not_true_eq_false, not_false_eq_true]; done) | (simp (disch := omega) only [ej', ek', nI_lt', nI_le', nI_eq', nI_add', nI_mul', nI_sub', nI_cl', tg_0, tg_1, bit1_eq, bit1_eq0, hb_bit, up_k, up_j, up_s, nI_em1, Bool.true_eq_false, Bool.false_eq_true, not_true_eq_false, not_false_eq_true]; omega) | omega) h)) | (refine And.intro (fun _ => ?_) (fun _ => ?_)) | (refine And.intro (by first | decide | (with_reducible assumption) | ((with_reducible refine in_nI ?_ ?_) <;> omega) | ((try (conv => arg 2; whnf)); (try simp (disch := omega) only [ej', ek', nI_lt', nI_le', nI_eq', nI_add', nI_mul', nI_sub', nI_cl', tg_0, tg_1, bit1_eq, bit1_eq0, hb_bit, up_k, up_j, up_s, nI_em1, Bool.true_eq_false, Bool.false_eq_true, not_true_eq_false, not_false_eq_true]); (with_reducible refine in_nI ?_ ?_) <;> omega)) ?_) | fail)) <;> (try (conv => whnf)))
          have hkj : k ≠ j + 1 + 1 := by omega
          simp (disch := omega) only [tg_0, nI_cl', ej', ek', hP, nI_add', nI_sub', up_k]
          exact rev 6 (k + 1) (P - 1) _ _ _ _ _ (by omega) (by omega) (by omega) (by omega) (hO.sw (by omega) (by omega)) ((Fr.up (f := fun k _ => k = 172) Fr.rf rfl).up rfl) hx
    have lk : ∀ i, i ≤ P - 1 → fk l0 i = fk l0 (P - 1) → G 9 [some (.inr (9, 161)), some (.inl (if i = 0 then -1 else nI (i - 1))), none, none, none, none] [] σ := by
      intro i
      induction i with
      | zero =>
        intro h2 h3
        have : nxl P l0 = none := by unfold nxl; rw [← h3]; rfl
        refine hG [51, 113] 60 9 _ _ _ ?_
        rw [if_pos rfl]
        ((repeat' ((conv => whnf); first | (refine And.intro (fun h => absurd h (by decide)) (fun _ => ?_)) | (refine And.intro (fun _ => ?_) (fun h => (h (by decide)).elim)) | (refine And.intro (fun h => absurd h (by first | (simp (disch := omega) only [nI_lt', nI_le', nI_eq', nI_add', nI_mul', nI_sub', nI_cl', tg_0, tg_1, bit1_eq, bit1_eq0, hb_bit, up_k, up_j, up_s, nI_em1, Bool.true_eq_false, Bool.false_eq_true, not_true_eq_false, not_false_eq_true]; done) | (simp (disch := omega) only [nI_lt', nI_le', nI_eq', nI_add', nI_mul', nI_sub', nI_cl', tg_0, tg_1, bit1_eq, bit1_eq0, hb_bit, up_k, up_j, up_s, nI_em1, Bool.true_eq_false, Bool.false_eq_true, not_true_eq_false, not_false_eq_true]; omega) | omega)) (fun _ => ?_)) | (refine And.intro (fun _ => ?_) (fun h => absurd (by first | (simp (disch := omega) only [nI_lt', nI_le', nI_eq', nI_add', nI_mul', nI_sub', nI_cl', tg_0, tg_1, bit1_eq, bit1_eq0, hb_bit, up_k, up_j, up_s, nI_em1, Bool.true_eq_false, Bool.false_eq_true, not_true_eq_false, not_false_eq_true]; done) | (simp (disch := omega) only [nI_lt', nI_le', nI_eq', nI_add', nI_mul', nI_sub', nI_cl', tg_0, tg_1, bit1_eq, bit1_eq0, hb_bit, up_k, up_j, up_s, nI_em1, Bool.true_eq_false, Bool.false_eq_true, not_true_eq_false, not_false_eq_true]; omega) | omega) h)) | (refine And.intro (fun _ => ?_) (fun _ => ?_)) | (refine And.intro (by first | decide | (with_reducible assumption) | ((with_reducible refine in_nI ?_ ?_) <;> omega) | ((try (conv => arg 2; whnf)); (try simp (disch := omega) only [nI_lt', nI_le', nI_eq', nI_add', nI_mul', nI_sub', nI_cl', tg_0, tg_1, bit1_eq, bit1_eq0, hb_bit, up_k, up_j, up_s, nI_em1, Bool.true_eq_false, Bool.false_eq_true, not_true_eq_false, not_false_eq_true]); (with_reducible refine in_nI ?_ ?_) <;> omega)) ?_) | fail)) <;> (try (conv => whnf)))
        exact h0 this
      | succ i ih =>
        intro h2 h3
        have e1 := hO.2 (i + 1) (by omega)
        have e0 := hO.2 i (by omega)
        have e1' := e1.2
        have e0' := e0.2
        refine hG [9, 51, 113] 120 9 _ _ _ ?_
        rw [if_neg (by omega), Nat.add_sub_cancel]
        rw [fk_s] at h3
        by_cases hlt : l0.getD (i + 1) 0 < l0.getD i 0
        · rw [if_pos hlt] at h3
          have := ih (by omega) h3
          ((repeat' ((conv => whnf); first | (refine And.intro (fun h => absurd h (by decide)) (fun _ => ?_)) | (refine And.intro (fun _ => ?_) (fun h => (h (by decide)).elim)) | (refine And.intro (fun h => absurd h (by first | (simp (disch := omega) only [e1', e0', nI_lt', nI_le', nI_eq', nI_add', nI_mul', nI_sub', nI_cl', tg_0, tg_1, bit1_eq, bit1_eq0, hb_bit, up_k, up_j, up_s, nI_em1, Bool.true_eq_false, Bool.false_eq_true, not_true_eq_false, not_false_eq_true]; done) | (simp (disch := omega) only [e1', e0', nI_lt', nI_le', nI_eq', nI_add', nI_mul', nI_sub', nI_cl', tg_0, tg_1, bit1_eq, bit1_eq0, hb_bit, up_k, up_j, up_s, nI_em1, Bool.true_eq_false, Bool.false_eq_true, not_true_eq_false, not_false_eq_true]; omega) | omega)) (fun _ => ?_)) | (refine And.intro (fun _ => ?_) (fun h => absurd (by first | (simp (disch := omega) only [e1', e0', nI_lt', nI_le', nI_eq', nI_add', nI_mul', nI_sub', nI_cl', tg_0, tg_1, bit1_eq, bit1_eq0, hb_bit, up_k, up_j, up_s, nI_em1, Bool.true_eq_false, Bool.false_eq_true, not_true_eq_false, not_false_eq_true]; done) | (simp (disch := omega) only [e1', e0', nI_lt', nI_le', nI_eq', nI_add', nI_mul', nI_sub', nI_cl', tg_0, tg_1, bit1_eq, bit1_eq0, hb_bit, up_k, up_j, up_s, nI_em1, Bool.true_eq_false, Bool.false_eq_true, not_true_eq_false, not_false_eq_true]; omega) | omega) h)) | (refine And.intro (fun _ => ?_) (fun _ => ?_)) | (refine And.intro (by first | decide | (with_reducible assumption) | ((with_reducible refine in_nI ?_ ?_) <;> omega) | ((try (conv => arg 2; whnf)); (try simp (disch := omega) only [e1', e0', nI_lt', nI_le', nI_eq', nI_add', nI_mul', nI_sub', nI_cl', tg_0, tg_1, bit1_eq, bit1_eq0, hb_bit, up_k, up_j, up_s, nI_em1, Bool.true_eq_false, Bool.false_eq_true, not_true_eq_false, not_false_eq_true]); (with_reducible refine in_nI ?_ ?_) <;> omega)) ?_) | fail)) <;> (try (conv => whnf)))
          by_cases hi0 : i = 0
          · subst hi0
            rw [if_pos rfl] at this
            rw [show nI 0 + -1 = (-1 : Int32) by decide]
            exact this
          · rw [if_neg hi0] at this
            rw [show nI i + -1 = nI (i - 1) by
              have := pk_m1 (i - 1)
              rwa [show i - 1 + 1 = i by omega] at this]
            exact this
        · rw [if_neg hlt] at h3
          have hx : nxl P l0 = some (rvl 6 (i + 1) (P - 1) (sw l0 i (fj l0 (l0.getD i 0) (P - 1)))) := by unfold nxl; rw [← h3]
          ((repeat' ((conv => whnf); first | (refine And.intro (fun h => absurd h (by decide)) (fun _ => ?_)) | (refine And.intro (fun _ => ?_) (fun h => (h (by decide)).elim)) | (refine And.intro (fun h => absurd h (by first | (simp (disch := omega) only [e1', e0', nI_lt', nI_le', nI_eq', nI_add', nI_mul', nI_sub', nI_cl', tg_0, tg_1, bit1_eq, bit1_eq0, hb_bit, up_k, up_j, up_s, nI_em1, Bool.true_eq_false, Bool.false_eq_true, not_true_eq_false, not_false_eq_true]; done) | (simp (disch := omega) only [e1', e0', nI_lt', nI_le', nI_eq', nI_add', nI_mul', nI_sub', nI_cl', tg_0, tg_1, bit1_eq, bit1_eq0, hb_bit, up_k, up_j, up_s, nI_em1, Bool.true_eq_false, Bool.false_eq_true, not_true_eq_false, not_false_eq_true]; omega) | omega)) (fun _ => ?_)) | (refine And.intro (fun _ => ?_) (fun h => absurd (by first | (simp (disch := omega) only [e1', e0', nI_lt', nI_le', nI_eq', nI_add', nI_mul', nI_sub', nI_cl', tg_0, tg_1, bit1_eq, bit1_eq0, hb_bit, up_k, up_j, up_s, nI_em1, Bool.true_eq_false, Bool.false_eq_true, not_true_eq_false, not_false_eq_true]; done) | (simp (disch := omega) only [e1', e0', nI_lt', nI_le', nI_eq', nI_add', nI_mul', nI_sub', nI_cl', tg_0, tg_1, bit1_eq, bit1_eq0, hb_bit, up_k, up_j, up_s, nI_em1, Bool.true_eq_false, Bool.false_eq_true, not_true_eq_false, not_false_eq_true]; omega) | omega) h)) | (refine And.intro (fun _ => ?_) (fun _ => ?_)) | (refine And.intro (by first | decide | (with_reducible assumption) | ((with_reducible refine in_nI ?_ ?_) <;> omega) | ((try (conv => arg 2; whnf)); (try simp (disch := omega) only [e1', e0', nI_lt', nI_le', nI_eq', nI_add', nI_mul', nI_sub', nI_cl', tg_0, tg_1, bit1_eq, bit1_eq0, hb_bit, up_k, up_j, up_s, nI_em1, Bool.true_eq_false, Bool.false_eq_true, not_true_eq_false, not_false_eq_true]); (with_reducible refine in_nI ?_ ?_) <;> omega)) ?_) | fail)) <;> (try (conv => whnf)))
          simp (disch := omega) only [tg_0, nI_cl', hP, nI_sub']
          have := lj i (by omega) hlt hx (P - 2) (by omega) (by omega) (by rw [show P - 2 + 1 = P - 1 by omega])
          rw [show P - 2 + 1 = P - 1 by omega] at this
          exact this
    have go := lk (P - 1) (by omega) rfl
    ((repeat' ((conv => whnf); first | (refine And.intro (fun h => absurd h (by decide)) (fun _ => ?_)) | (refine And.intro (fun _ => ?_) (fun h => (h (by decide)).elim)) | (refine And.intro (fun h => absurd h (by first | (simp (disch := omega) only [nI_lt', nI_le', nI_eq', nI_add', nI_mul', nI_sub', nI_cl', tg_0, tg_1, bit1_eq, bit1_eq0, hb_bit, up_k, up_j, up_s, nI_em1, Bool.true_eq_false, Bool.false_eq_true, not_true_eq_false, not_false_eq_true]; done) | (simp (disch := omega) only [nI_lt', nI_le', nI_eq', nI_add', nI_mul', nI_sub', nI_cl', tg_0, tg_1, bit1_eq, bit1_eq0, hb_bit, up_k, up_j, up_s, nI_em1, Bool.true_eq_false, Bool.false_eq_true, not_true_eq_false, not_false_eq_true]; omega) | omega)) (fun _ => ?_)) | (refine And.intro (fun _ => ?_) (fun h => absurd (by first | (simp (disch := omega) only [nI_lt', nI_le', nI_eq', nI_add', nI_mul', nI_sub', nI_cl', tg_0, tg_1, bit1_eq, bit1_eq0, hb_bit, up_k, up_j, up_s, nI_em1, Bool.true_eq_false, Bool.false_eq_true, not_true_eq_false, not_false_eq_true]; done) | (simp (disch := omega) only [nI_lt', nI_le', nI_eq', nI_add', nI_mul', nI_sub', nI_cl', tg_0, tg_1, bit1_eq, bit1_eq0, hb_bit, up_k, up_j, up_s, nI_em1, Bool.true_eq_false, Bool.false_eq_true, not_true_eq_false, not_false_eq_true]; omega) | omega) h)) | (refine And.intro (fun _ => ?_) (fun _ => ?_)) | (refine And.intro (by first | decide | (with_reducible assumption) | ((with_reducible refine in_nI ?_ ?_) <;> omega) | ((try (conv => arg 2; whnf)); (try simp (disch := omega) only [nI_lt', nI_le', nI_eq', nI_add', nI_mul', nI_sub', nI_cl', tg_0, tg_1, bit1_eq, bit1_eq0, hb_bit, up_k, up_j, up_s, nI_em1, Bool.true_eq_false, Bool.false_eq_true, not_true_eq_false, not_false_eq_true]); (with_reducible refine in_nI ?_ ?_) <;> omega)) ?_) | fail)) <;> (try (conv => whnf)))
    simp (disch := omega) only [tg_0, nI_cl', hP]
    by_cases hP1 : P = 1
    · subst hP1
      rw [if_pos rfl] at go
      rw [show nI 1 - nI 2 = (-1 : Int32) by decide]
      exact go
    · rw [if_neg (by omega)] at go
      rw [nI_sub' (by omega), show P - 2 = P - 1 - 1 by omega]
      exact go
set_option maxRecDepth 20000 in
set_option maxHeartbeats 1000000 in
theorem m_fields {l : Launch} {X : XT} {d : Nat} {σ : ST} {Q : Option AV → ST → Prop} {w : La} {l0 : List Nat} (hM : RM w 165 0 σ) (hW : WL w) (hl : ∀ i, i < w 1 → l0.getD i 0 < w 1) (hO : MO l0 σ) (h : ∀ σ', Fr (fun k _ => k = 170) σ σ' → Q (some (.inl (nI (fo w ((List.range (w 1)).map (fun i => l0.getD i 0)) 7)))) σ') : MT l X (d + 5) i_M_fields [.inr (9, 161)] σ Q := by
  have w0 := hW.1
  have w1 := hW.2.1
  refine mt_wp g_M_fields (by decide) k_M_fields (by simp) ?_
  intro CT G hCT hG
  refine hG [8] 60 0 _ _ _ ?_
  ((repeat' ((conv => whnf); first | (refine And.intro (fun h => absurd h (by decide)) (fun _ => ?_)) | (refine And.intro (fun _ => ?_) (fun h => (h (by decide)).elim)) | (refine And.intro (fun h => absurd h (by first | (simp (disch := omega) only [nI_lt', nI_le', nI_eq', nI_add', nI_mul', nI_sub', nI_cl', tg_0, tg_1, bit1_eq, bit1_eq0, hb_bit, up_k, up_j, up_s, nI_em1, Bool.true_eq_false, Bool.false_eq_true, not_true_eq_false, not_false_eq_true]; done) | (simp (disch := omega) only [nI_lt', nI_le', nI_eq', nI_add', nI_mul', nI_sub', nI_cl', tg_0, tg_1, bit1_eq, bit1_eq0, hb_bit, up_k, up_j, up_s, nI_em1, Bool.true_eq_false, Bool.false_eq_true, not_true_eq_false, not_false_eq_true]; omega) | omega)) (fun _ => ?_)) | (refine And.intro (fun _ => ?_) (fun h => absurd (by first | (simp (disch := omega) only [nI_lt', nI_le', nI_eq', nI_add', nI_mul', nI_sub', nI_cl', tg_0, tg_1, bit1_eq, bit1_eq0, hb_bit, up_k, up_j, up_s, nI_em1, Bool.true_eq_false, Bool.false_eq_true, not_true_eq_false, not_false_eq_true]; done) | (simp (disch := omega) only [nI_lt', nI_le', nI_eq', nI_add', nI_mul', nI_sub', nI_cl', tg_0, tg_1, bit1_eq, bit1_eq0, hb_bit, up_k, up_j, up_s, nI_em1, Bool.true_eq_false, Bool.false_eq_true, not_true_eq_false, not_false_eq_true]; omega) | omega) h)) | (refine And.intro (fun _ => ?_) (fun _ => ?_)) | (refine And.intro (by first | decide | (with_reducible assumption) | ((with_reducible refine in_nI ?_ ?_) <;> omega) | ((try (conv => arg 2; whnf)); (try simp (disch := omega) only [nI_lt', nI_le', nI_eq', nI_add', nI_mul', nI_sub', nI_cl', tg_0, tg_1, bit1_eq, bit1_eq0, hb_bit, up_k, up_j, up_s, nI_em1, Bool.true_eq_false, Bool.false_eq_true, not_true_eq_false, not_false_eq_true]); (with_reducible refine in_nI ?_ ?_) <;> omega)) ?_) | fail)) <;> (try (conv => whnf)))
  refine hCT _ _ _ _ (m_clears (fun σ1 c1 c2 => ?_))
  ((repeat' ((conv => whnf); first | (refine And.intro (fun h => absurd h (by decide)) (fun _ => ?_)) | (refine And.intro (fun _ => ?_) (fun h => (h (by decide)).elim)) | (refine And.intro (fun h => absurd h (by first | (simp (disch := omega) only [nI_lt', nI_le', nI_eq', nI_add', nI_mul', nI_sub', nI_cl', tg_0, tg_1, bit1_eq, bit1_eq0, hb_bit, up_k, up_j, up_s, nI_em1, Bool.true_eq_false, Bool.false_eq_true, not_true_eq_false, not_false_eq_true]; done) | (simp (disch := omega) only [nI_lt', nI_le', nI_eq', nI_add', nI_mul', nI_sub', nI_cl', tg_0, tg_1, bit1_eq, bit1_eq0, hb_bit, up_k, up_j, up_s, nI_em1, Bool.true_eq_false, Bool.false_eq_true, not_true_eq_false, not_false_eq_true]; omega) | omega)) (fun _ => ?_)) | (refine And.intro (fun _ => ?_) (fun h => absurd (by first | (simp (disch := omega) only [nI_lt', nI_le', nI_eq', nI_add', nI_mul', nI_sub', nI_cl', tg_0, tg_1, bit1_eq, bit1_eq0, hb_bit, up_k, up_j, up_s, nI_em1, Bool.true_eq_false, Bool.false_eq_true, not_true_eq_false, not_false_eq_true]; done) | (simp (disch := omega) only [nI_lt', nI_le', nI_eq', nI_add', nI_mul', nI_sub', nI_cl', tg_0, tg_1, bit1_eq, bit1_eq0, hb_bit, up_k, up_j, up_s, nI_em1, Bool.true_eq_false, Bool.false_eq_true, not_true_eq_false, not_false_eq_true]; omega) | omega) h)) | (refine And.intro (fun _ => ?_) (fun _ => ?_)) | (refine And.intro (by first | decide | (with_reducible assumption) | ((with_reducible refine in_nI ?_ ?_) <;> omega) | ((try (conv => arg 2; whnf)); (try simp (disch := omega) only [nI_lt', nI_le', nI_eq', nI_add', nI_mul', nI_sub', nI_cl', tg_0, tg_1, bit1_eq, bit1_eq0, hb_bit, up_k, up_j, up_s, nI_em1, Bool.true_eq_false, Bool.false_eq_true, not_true_eq_false, not_false_eq_true]); (with_reducible refine in_nI ?_ ?_) <;> omega)) ?_) | fail)) <;> (try (conv => whnf)))
  have hfl : ∀ i k, i ≤ 6 → fo w ((List.range i).map (fun i => l0.getD i 0)) k ≤ 6 := fun i k hi => Nat.le_trans fo_le (by rw [List.length_map, List.length_range]; exact hi)
  have loop : ∀ n i σ2, i + n = w 1 → (∀ k, k < 7 → σ2 170 k = nI (fo w ((List.range i).map (fun i => l0.getD i 0)) k)) → Fr (fun k _ => k = 170) σ σ2 → G 8 [some (.inr (9, 161)), some (.inl (nI (fo w ((List.range i).map (fun i => l0.getD i 0)) 7))), some (.inl (nI i))] [] σ2 := by
    intro n
    induction n with
    | zero =>
      intro i σ2 hi hc hF
      obtain rfl : i = w 1 := by omega
      have c1 : σ2 165 1 = nI (w 1) := by rw [hF _ _ (by omega)]; exact hM.ms 1 (by omega) (by omega)
      refine hG [8] 60 8 _ _ _ ?_
      ((repeat' ((conv => whnf); first | (refine And.intro (fun h => absurd h (by decide)) (fun _ => ?_)) | (refine And.intro (fun _ => ?_) (fun h => (h (by decide)).elim)) | (refine And.intro (fun h => absurd h (by first | (simp (disch := omega) only [c1, nI_lt', nI_le', nI_eq', nI_add', nI_mul', nI_sub', nI_cl', tg_0, tg_1, bit1_eq, bit1_eq0, hb_bit, up_k, up_j, up_s, nI_em1, Bool.true_eq_false, Bool.false_eq_true, not_true_eq_false, not_false_eq_true]; done) | (simp (disch := omega) only [c1, nI_lt', nI_le', nI_eq', nI_add', nI_mul', nI_sub', nI_cl', tg_0, tg_1, bit1_eq, bit1_eq0, hb_bit, up_k, up_j, up_s, nI_em1, Bool.true_eq_false, Bool.false_eq_true, not_true_eq_false, not_false_eq_true]; omega) | omega)) (fun _ => ?_)) | (refine And.intro (fun _ => ?_) (fun h => absurd (by first | (simp (disch := omega) only [c1, nI_lt', nI_le', nI_eq', nI_add', nI_mul', nI_sub', nI_cl', tg_0, tg_1, bit1_eq, bit1_eq0, hb_bit, up_k, up_j, up_s, nI_em1, Bool.true_eq_false, Bool.false_eq_true, not_true_eq_false, not_false_eq_true]; done) | (simp (disch := omega) only [c1, nI_lt', nI_le', nI_eq', nI_add', nI_mul', nI_sub', nI_cl', tg_0, tg_1, bit1_eq, bit1_eq0, hb_bit, up_k, up_j, up_s, nI_em1, Bool.true_eq_false, Bool.false_eq_true, not_true_eq_false, not_false_eq_true]; omega) | omega) h)) | (refine And.intro (fun _ => ?_) (fun _ => ?_)) | (refine And.intro (by first | decide | (with_reducible assumption) | ((with_reducible refine in_nI ?_ ?_) <;> omega) | ((try (conv => arg 2; whnf)); (try simp (disch := omega) only [c1, nI_lt', nI_le', nI_eq', nI_add', nI_mul', nI_sub', nI_cl', tg_0, tg_1, bit1_eq, bit1_eq0, hb_bit, up_k, up_j, up_s, nI_em1, Bool.true_eq_false, Bool.false_eq_true, not_true_eq_false, not_false_eq_true]); (with_reducible refine in_nI ?_ ?_) <;> omega)) ?_) | fail)) <;> (try (conv => whnf)))
      exact h σ2 hF
    | succ n ih =>
      intro i σ2 hi hc hF
      have hM2 : RM w 165 0 σ2 := hM.keep (fun j _ => hF _ _ (by omega))
      have c1 : σ2 165 1 = nI (w 1) := hM2.ms 1 (by omega) (by omega)
      have ei : σ2 172 i = nI (l0.getD i 0) := by rw [hF _ _ (by omega)]; exact (hO.2 i (by omega)).2
      have hli := hl i (by omega)
      have hap : fo w ((List.range (i + 1)).map (fun i => l0.getD i 0)) = gst w (fo w ((List.range i).map (fun i => l0.getD i 0))) (l0.getD i 0) := by
        rw [List.range_succ, List.map_append, List.map_cons, List.map_nil, fo_app]
      have hnx := fun σ3 => ih (i + 1) σ3 (by omega)
      rw [hap] at hnx
      have hf6 := hfl i
      generalize fo w ((List.range i).map (fun i => l0.getD i 0)) = wt at *
      generalize l0.getD i 0 = p at *
      refine hG [8] 60 8 _ _ _ ?_
      ((repeat' ((conv => whnf); first | (refine And.intro (fun h => absurd h (by decide)) (fun _ => ?_)) | (refine And.intro (fun _ => ?_) (fun h => (h (by decide)).elim)) | (refine And.intro (fun h => absurd h (by first | (simp (disch := omega) only [c1, nI_lt', nI_le', nI_eq', nI_add', nI_mul', nI_sub', nI_cl', tg_0, tg_1, bit1_eq, bit1_eq0, hb_bit, up_k, up_j, up_s, nI_em1, Bool.true_eq_false, Bool.false_eq_true, not_true_eq_false, not_false_eq_true]; done) | (simp (disch := omega) only [c1, nI_lt', nI_le', nI_eq', nI_add', nI_mul', nI_sub', nI_cl', tg_0, tg_1, bit1_eq, bit1_eq0, hb_bit, up_k, up_j, up_s, nI_em1, Bool.true_eq_false, Bool.false_eq_true, not_true_eq_false, not_false_eq_true]; omega) | omega)) (fun _ => ?_)) | (refine And.intro (fun _ => ?_) (fun h => absurd (by first | (simp (disch := omega) only [c1, nI_lt', nI_le', nI_eq', nI_add', nI_mul', nI_sub', nI_cl', tg_0, tg_1, bit1_eq, bit1_eq0, hb_bit, up_k, up_j, up_s, nI_em1, Bool.true_eq_false, Bool.false_eq_true, not_true_eq_false, not_false_eq_true]; done) | (simp (disch := omega) only [c1, nI_lt', nI_le', nI_eq', nI_add', nI_mul', nI_sub', nI_cl', tg_0, tg_1, bit1_eq, bit1_eq0, hb_bit, up_k, up_j, up_s, nI_em1, Bool.true_eq_false, Bool.false_eq_true, not_true_eq_false, not_false_eq_true]; omega) | omega) h)) | (refine And.intro (fun _ => ?_) (fun _ => ?_)) | (refine And.intro (by first | decide | (with_reducible assumption) | ((with_reducible refine in_nI ?_ ?_) <;> omega) | ((try (conv => arg 2; whnf)); (try simp (disch := omega) only [c1, nI_lt', nI_le', nI_eq', nI_add', nI_mul', nI_sub', nI_cl', tg_0, tg_1, bit1_eq, bit1_eq0, hb_bit, up_k, up_j, up_s, nI_em1, Bool.true_eq_false, Bool.false_eq_true, not_true_eq_false, not_false_eq_true]); (with_reducible refine in_nI ?_ ?_) <;> omega)) ?_) | fail)) <;> (try (conv => whnf)))
      simp (disch := omega) only [tg_0, nI_cl', ei]
      refine hCT _ _ _ _ (m_goes (c := 165) (w := w) (wt := wt) (by omega) rfl hli hM2.ms hW (fun k hk => ⟨hc k hk, by have := hf6 k (by omega); omega⟩) (fun h7 => ?_) (fun hk => ?_))
      · ((repeat' ((conv => whnf); first | (refine And.intro (fun h => absurd h (by decide)) (fun _ => ?_)) | (refine And.intro (fun _ => ?_) (fun h => (h (by decide)).elim)) | (refine And.intro (fun h => absurd h (by first | (simp (disch := omega) only [nI_lt', nI_le', nI_eq', nI_add', nI_mul', nI_sub', nI_cl', tg_0, tg_1, bit1_eq, bit1_eq0, hb_bit, up_k, up_j, up_s, nI_em1, Bool.true_eq_false, Bool.false_eq_true, not_true_eq_false, not_false_eq_true]; done) | (simp (disch := omega) only [nI_lt', nI_le', nI_eq', nI_add', nI_mul', nI_sub', nI_cl', tg_0, tg_1, bit1_eq, bit1_eq0, hb_bit, up_k, up_j, up_s, nI_em1, Bool.true_eq_false, Bool.false_eq_true, not_true_eq_false, not_false_eq_true]; omega) | omega)) (fun _ => ?_)) | (refine And.intro (fun _ => ?_) (fun h => absurd (by first | (simp (disch := omega) only [nI_lt', nI_le', nI_eq', nI_add', nI_mul', nI_sub', nI_cl', tg_0, tg_1, bit1_eq, bit1_eq0, hb_bit, up_k, up_j, up_s, nI_em1, Bool.true_eq_false, Bool.false_eq_true, not_true_eq_false, not_false_eq_true]; done) | (simp (disch := omega) only [nI_lt', nI_le', nI_eq', nI_add', nI_mul', nI_sub', nI_cl', tg_0, tg_1, bit1_eq, bit1_eq0, hb_bit, up_k, up_j, up_s, nI_em1, Bool.true_eq_false, Bool.false_eq_true, not_true_eq_false, not_false_eq_true]; omega) | omega) h)) | (refine And.intro (fun _ => ?_) (fun _ => ?_)) | (refine And.intro (by first | decide | (with_reducible assumption) | ((with_reducible refine in_nI ?_ ?_) <;> omega) | ((try (conv => arg 2; whnf)); (try simp (disch := omega) only [nI_lt', nI_le', nI_eq', nI_add', nI_mul', nI_sub', nI_cl', tg_0, tg_1, bit1_eq, bit1_eq0, hb_bit, up_k, up_j, up_s, nI_em1, Bool.true_eq_false, Bool.false_eq_true, not_true_eq_false, not_false_eq_true]); (with_reducible refine in_nI ?_ ?_) <;> omega)) ?_) | fail)) <;> (try (conv => whnf)))
        rw [nI_add', nI_add']
        have h8 : gst w wt p 7 = wt 7 + 1 := by unfold gst; rw [if_pos h7]
        rw [← h8]
        refine hnx σ2 (fun k hk => ?_) hF
        rw [hc k hk]
        unfold gst
        rw [if_neg (by omega), Nat.add_zero]
      · have hne : ¬ goT w wt p = 7 := by omega
        ((repeat' ((conv => whnf); first | (refine And.intro (fun h => absurd h (by decide)) (fun _ => ?_)) | (refine And.intro (fun _ => ?_) (fun h => (h (by decide)).elim)) | (refine And.intro (fun h => absurd h (by first | (simp (disch := omega) only [nI_lt', nI_le', nI_eq', nI_add', nI_mul', nI_sub', nI_cl', tg_0, tg_1, bit1_eq, bit1_eq0, hb_bit, up_k, up_j, up_s, nI_em1, Bool.true_eq_false, Bool.false_eq_true, not_true_eq_false, not_false_eq_true]; done) | (simp (disch := omega) only [nI_lt', nI_le', nI_eq', nI_add', nI_mul', nI_sub', nI_cl', tg_0, tg_1, bit1_eq, bit1_eq0, hb_bit, up_k, up_j, up_s, nI_em1, Bool.true_eq_false, Bool.false_eq_true, not_true_eq_false, not_false_eq_true]; omega) | omega)) (fun _ => ?_)) | (refine And.intro (fun _ => ?_) (fun h => absurd (by first | (simp (disch := omega) only [nI_lt', nI_le', nI_eq', nI_add', nI_mul', nI_sub', nI_cl', tg_0, tg_1, bit1_eq, bit1_eq0, hb_bit, up_k, up_j, up_s, nI_em1, Bool.true_eq_false, Bool.false_eq_true, not_true_eq_false, not_false_eq_true]; done) | (simp (disch := omega) only [nI_lt', nI_le', nI_eq', nI_add', nI_mul', nI_sub', nI_cl', tg_0, tg_1, bit1_eq, bit1_eq0, hb_bit, up_k, up_j, up_s, nI_em1, Bool.true_eq_false, Bool.false_eq_true, not_true_eq_false, not_false_eq_true]; omega) | omega) h)) | (refine And.intro (fun _ => ?_) (fun _ => ?_)) | (refine And.intro (by first | decide | (with_reducible assumption) | ((with_reducible refine in_nI ?_ ?_) <;> omega) | ((try (conv => arg 2; whnf)); (try simp (disch := omega) only [nI_lt', nI_le', nI_eq', nI_add', nI_mul', nI_sub', nI_cl', tg_0, tg_1, bit1_eq, bit1_eq0, hb_bit, up_k, up_j, up_s, nI_em1, Bool.true_eq_false, Bool.false_eq_true, not_true_eq_false, not_false_eq_true]); (with_reducible refine in_nI ?_ ?_) <;> omega)) ?_) | fail)) <;> (try (conv => whnf)))
        rw [nI_add', nI_add']
        have h8 : gst w wt p 7 = wt 7 + 0 := by unfold gst; rw [if_neg hne]
        rw [← h8]
        refine hnx _ (fun k hk2 => ?_) (hF.up rfl)
        unfold gst
        by_cases e : k = goT w wt p
        · rw [if_pos e.symm, e, up_s]
        · rw [if_neg (fun z => e z.symm), up_j e, hc k hk2, Nat.add_zero]
  exact loop (w 1) 0 σ1 (by omega) (fun k hk => c1 k hk) c2
