/-! ===== what can be undone ===== -/
def PcC (u nx : Nat) (ps : Nat → La) (σ : ST) : Prop := u ≤ 8 ∧ nx < 8 ∧ σ 31 1 = nI nx ∧ σ 31 2 = nI u ∧ ∀ i, i < u → RC (ps i) (33 + 9 * ((nx + 8 - u + i) % 8)) σ
def PcM (u : Nat) (ps : Nat → La) (σ : ST) : Prop := σ 161 14 = nI u ∧ ∀ i, i < u → RM (ps i) 167 (48 * i) σ
def psh (u : Nat) (ps : Nat → La) (w : La) : Nat → La := fun i => if u = 8 then (if i < 7 then ps (i + 1) else w) else (if i = u then w else ps i)
theorem and7 {n : Nat} : nI n &&& nI 7 = nI (n % 8) := by
  rw [and_nI, show (7 : Nat) = 2 ^ 3 - 1 from rfl, Nat.and_two_pow_sub_one_eq_mod]
theorem and7' {n : Nat} (h : n < 8) : nI n &&& nI 7 = nI n := by rw [and7, Nat.mod_eq_of_lt h]
set_option maxRecDepth 20000 in
set_option maxHeartbeats 1000000 in
theorem c_remember {l : Launch} {X : XT} {d u nx : Nat} {σ : ST} {Q : Option AV → ST → Prop} {ps : Nat → La} {w : La} (hP : PcC u nx ps σ) (hR : RC w 22 σ) (hW : WL w) (h : ∀ σ', PcC (min 8 (u + 1)) ((nx + 1) % 8) (psh u ps w) σ' → Fr (fun k _ => k = 31 ∨ (33 ≤ k ∧ k ≤ 104)) σ σ' → Q none σ') : MT l X (d + 2) i_Past_remember [.inr (5, 31), .inr (3, 22)] σ Q := by
  obtain ⟨hu, hn, p1, p2, p3⟩ := hP
  have ha := and7' hn
  refine mt_wp g_Past_remember (by decide) k_Past_remember (by simp) ?_
  intro CT G hCT hG
  refine hG [] 60 0 _ _ _ ?_
  ((repeat' ((conv => whnf); first | (refine And.intro (fun h => absurd h (by decide)) (fun _ => ?_)) | (refine And.intro (fun _ => ?_) (fun h => (h (by decide)).elim)) | (refine And.intro (fun h => absurd h (by first | (simp (disch := omega) only [p1, ha, nI_lt', nI_le', nI_eq', nI_add', nI_mul', nI_sub', nI_cl', tg_0, tg_1, bit1_eq, bit1_eq0, hb_bit, up_k, up_j, up_s, nI_em1, Bool.true_eq_false, Bool.false_eq_true, not_true_eq_false, not_false_eq_true]; done) | (simp (disch := omega) only [p1, ha, nI_lt', nI_le', nI_eq', nI_add', nI_mul', nI_sub', nI_cl', tg_0, tg_1, bit1_eq, bit1_eq0, hb_bit, up_k, up_j, up_s, nI_em1, Bool.true_eq_false, Bool.false_eq_true, not_true_eq_false, not_false_eq_true]; omega) | omega)) (fun _ => ?_)) | (refine And.intro (fun _ => ?_) (fun h => absurd (by first | (simp (disch := omega) only [p1, ha, nI_lt', nI_le', nI_eq', nI_add', nI_mul', nI_sub', nI_cl', tg_0, tg_1, bit1_eq, bit1_eq0, hb_bit, up_k, up_j, up_s, nI_em1, Bool.true_eq_false, Bool.false_eq_true, not_true_eq_false, not_false_eq_true]; done) | (simp (disch := omega) only [p1, ha, nI_lt', nI_le', nI_eq', nI_add', nI_mul', nI_sub', nI_cl', tg_0, tg_1, bit1_eq, bit1_eq0, hb_bit, up_k, up_j, up_s, nI_em1, Bool.true_eq_false, Bool.false_eq_true, not_true_eq_false, not_false_eq_true]; omega) | omega) h)) | (refine And.intro (fun _ => ?_) (fun _ => ?_)) | (refine And.intro (by first | decide | (with_reducible assumption) | ((with_reducible refine in_nI ?_ ?_) <;> omega) | ((try (conv => arg 2; whnf)); (try simp (disch := omega) only [p1, ha, nI_lt', nI_le', nI_eq', nI_add', nI_mul', nI_sub', nI_cl', tg_0, tg_1, bit1_eq, bit1_eq0, hb_bit, up_k, up_j, up_s, nI_em1, Bool.true_eq_false, Bool.false_eq_true, not_true_eq_false, not_false_eq_true]); (with_reducible refine in_nI ?_ ?_) <;> omega)) ?_) | fail)) <;> (try (conv => whnf)))
  simp (disch := omega) only [p1, ha, nI_cl']
  rw [show rF 50 + rS 50 * nx = 33 + 9 * nx from rfl]
  refine hCT _ _ _ _ (c_copyFrom (w := w) (by omega) hR hW (fun σ1 g1 g2 => ?_))
  have q1 : σ1 31 1 = nI nx := by rw [g2 31 1 (by unfold fLane; omega)]; exact p1
  have q2 : σ1 31 2 = nI u := by rw [g2 31 2 (by unfold fLane; omega)]; exact p2
  ((repeat' ((conv => whnf); first | (refine And.intro (fun h => absurd h (by decide)) (fun _ => ?_)) | (refine And.intro (fun _ => ?_) (fun h => (h (by decide)).elim)) | (refine And.intro (fun h => absurd h (by first | (simp (disch := omega) only [nI_lt', nI_le', nI_eq', nI_add', nI_mul', nI_sub', nI_cl', tg_0, tg_1, bit1_eq, bit1_eq0, hb_bit, up_k, up_j, up_s, nI_em1, Bool.true_eq_false, Bool.false_eq_true, not_true_eq_false, not_false_eq_true]; done) | (simp (disch := omega) only [nI_lt', nI_le', nI_eq', nI_add', nI_mul', nI_sub', nI_cl', tg_0, tg_1, bit1_eq, bit1_eq0, hb_bit, up_k, up_j, up_s, nI_em1, Bool.true_eq_false, Bool.false_eq_true, not_true_eq_false, not_false_eq_true]; omega) | omega)) (fun _ => ?_)) | (refine And.intro (fun _ => ?_) (fun h => absurd (by first | (simp (disch := omega) only [nI_lt', nI_le', nI_eq', nI_add', nI_mul', nI_sub', nI_cl', tg_0, tg_1, bit1_eq, bit1_eq0, hb_bit, up_k, up_j, up_s, nI_em1, Bool.true_eq_false, Bool.false_eq_true, not_true_eq_false, not_false_eq_true]; done) | (simp (disch := omega) only [nI_lt', nI_le', nI_eq', nI_add', nI_mul', nI_sub', nI_cl', tg_0, tg_1, bit1_eq, bit1_eq0, hb_bit, up_k, up_j, up_s, nI_em1, Bool.true_eq_false, Bool.false_eq_true, not_true_eq_false, not_false_eq_true]; omega) | omega) h)) | (refine And.intro (fun _ => ?_) (fun _ => ?_)) | (refine And.intro (by first | decide | (with_reducible assumption) | ((with_reducible refine in_nI ?_ ?_) <;> omega) | ((try (conv => arg 2; whnf)); (try simp (disch := omega) only [nI_lt', nI_le', nI_eq', nI_add', nI_mul', nI_sub', nI_cl', tg_0, tg_1, bit1_eq, bit1_eq0, hb_bit, up_k, up_j, up_s, nI_em1, Bool.true_eq_false, Bool.false_eq_true, not_true_eq_false, not_false_eq_true]); (with_reducible refine in_nI ?_ ?_) <;> omega)) ?_) | fail)) <;> (try (conv => whnf)))
  simp (disch := omega) only [up_j, q1, q2, nI_add', and7]
  rw [min40 (by omega) (by omega)]
  have hfr : ∀ k j, k ≠ 31 → up (up σ1 31 1 (nI ((nx + 1) % 8))) 31 2 (nI (min 8 (u + 1))) k j = σ1 k j := fun k j hk => by rw [up_k hk, up_k hk]
  refine h _ ⟨by omega, by omega, ?_, up_s, fun i hi => ?_⟩ (fun k j hf => ?_)
  · simp (disch := omega) only [up_j, up_s]
  · have hold : ∀ i, i < u → ¬ (u = 8 ∧ i = 0) → RC (ps i) (33 + 9 * ((nx + 8 - u + i) % 8)) (up (up σ1 31 1 (nI ((nx + 1) % 8))) 31 2 (nI (min 8 (u + 1)))) := by
      intro i hi hne
      refine (p3 i hi).keep (fun k j a b => ?_)
      rw [hfr k j (by omega), g2 k j (by unfold fLane; omega)]
    unfold psh
    by_cases h8 : u = 8
    · rw [if_pos h8]
      by_cases h7 : i < 7
      · rw [if_pos h7]
        have := hold (i + 1) (by omega) (by omega)
        rw [show (((nx + 1) % 8 + 8 - min 8 (u + 1) + i) % 8) = (nx + 8 - u + (i + 1)) % 8 by omega]
        exact this
      · rw [if_neg h7, show (((nx + 1) % 8 + 8 - min 8 (u + 1) + i) % 8) = nx by omega]
        exact g1.keep (fun k j a b => hfr k j (by omega))
    · rw [if_neg h8]
      by_cases hiu : i = u
      · rw [if_pos hiu, show (((nx + 1) % 8 + 8 - min 8 (u + 1) + i) % 8) = nx by omega]
        exact g1.keep (fun k j a b => hfr k j (by omega))
      · rw [if_neg hiu]
        have := hold i (by omega) (by omega)
        rw [show (((nx + 1) % 8 + 8 - min 8 (u + 1) + i) % 8) = (nx + 8 - u + i) % 8 by omega]
        exact this
  · rw [hfr k j (fun z => hf (Or.inl z))]
    exact g2 k j (fun z => hf (Or.inr (by unfold fLane at z; omega)))
set_option maxRecDepth 20000 in
set_option maxHeartbeats 1000000 in
theorem m_notes {l : Launch} {X : XT} {d u : Nat} {σ : ST} {Q : Option AV → ST → Prop} {ps : Nat → La} {w : La} (hu : u ≤ 8) (hP : PcM u ps σ) (hM : RM w 165 0 σ) (h : ∀ σ', PcM (min 8 (u + 1)) (psh u ps w) σ' → Fr (fun k j => (k = 161 ∧ j = 14) ∨ k = 167) σ σ' → Q none σ') : MT l X (d + 2) i_M_notes [.inr (9, 161)] σ Q := by
  obtain ⟨p1, p2⟩ := hP
  have fin : ∀ (CT : CTy) (G : Nat → LV → List AV → ST → Prop), (∀ id as σ Q, MT l X (d + 1) id as σ Q → CT id as σ Q) → Clo X CT Q p_M_notes G → ∀ (v : Option AV) (u1 : Nat) (σ1 : ST), u1 = (if u = 8 then 7 else u) → σ1 161 14 = nI u1 → (∀ i, i < u1 → RM (psh u ps w i) 167 (48 * i) σ1) → Fr (fun k j => (k = 161 ∧ j = 14) ∨ k = 167) σ σ1 → G 49 [some (.inr (9, 161)), v] [] σ1 := by
    intro CT G hCT hG v u1 σ1 e1 e2 e3 e4
    have hu1 : u1 < 8 := by rw [e1]; split <;> omega
    refine hG [11, 49] 60 49 _ _ _ ?_
    ((repeat' ((conv => whnf); first | (refine And.intro (fun h => absurd h (by decide)) (fun _ => ?_)) | (refine And.intro (fun _ => ?_) (fun h => (h (by decide)).elim)) | (refine And.intro (fun h => absurd h (by first | (simp (disch := omega) only [nI_lt', nI_le', nI_eq', nI_add', nI_mul', nI_sub', nI_cl', tg_0, tg_1, bit1_eq, bit1_eq0, hb_bit, up_k, up_j, up_s, nI_em1, Bool.true_eq_false, Bool.false_eq_true, not_true_eq_false, not_false_eq_true]; done) | (simp (disch := omega) only [nI_lt', nI_le', nI_eq', nI_add', nI_mul', nI_sub', nI_cl', tg_0, tg_1, bit1_eq, bit1_eq0, hb_bit, up_k, up_j, up_s, nI_em1, Bool.true_eq_false, Bool.false_eq_true, not_true_eq_false, not_false_eq_true]; omega) | omega)) (fun _ => ?_)) | (refine And.intro (fun _ => ?_) (fun h => absurd (by first | (simp (disch := omega) only [nI_lt', nI_le', nI_eq', nI_add', nI_mul', nI_sub', nI_cl', tg_0, tg_1, bit1_eq, bit1_eq0, hb_bit, up_k, up_j, up_s, nI_em1, Bool.true_eq_false, Bool.false_eq_true, not_true_eq_false, not_false_eq_true]; done) | (simp (disch := omega) only [nI_lt', nI_le', nI_eq', nI_add', nI_mul', nI_sub', nI_cl', tg_0, tg_1, bit1_eq, bit1_eq0, hb_bit, up_k, up_j, up_s, nI_em1, Bool.true_eq_false, Bool.false_eq_true, not_true_eq_false, not_false_eq_true]; omega) | omega) h)) | (refine And.intro (fun _ => ?_) (fun _ => ?_)) | (refine And.intro (by first | decide | (with_reducible assumption) | ((with_reducible refine in_nI ?_ ?_) <;> omega) | ((try (conv => arg 2; whnf)); (try simp (disch := omega) only [nI_lt', nI_le', nI_eq', nI_add', nI_mul', nI_sub', nI_cl', tg_0, tg_1, bit1_eq, bit1_eq0, hb_bit, up_k, up_j, up_s, nI_em1, Bool.true_eq_false, Bool.false_eq_true, not_true_eq_false, not_false_eq_true]); (with_reducible refine in_nI ?_ ?_) <;> omega)) ?_) | fail)) <;> (try (conv => whnf)))
    refine hCT _ _ _ _ (m_copies (w := w) (o0 := 0) (o1 := 48 * u1) rfl (by (first | (simp (disch := omega) only [e2, nI_lt', nI_le', nI_eq', nI_add', nI_mul', nI_sub', nI_cl', tg_0, tg_1, bit1_eq, bit1_eq0, hb_bit, up_k, up_j, up_s, nI_em1, Bool.true_eq_false, Bool.false_eq_true, not_true_eq_false, not_false_eq_true]; done) | (simp (disch := omega) only [e2, nI_lt', nI_le', nI_eq', nI_add', nI_mul', nI_sub', nI_cl', tg_0, tg_1, bit1_eq, bit1_eq0, hb_bit, up_k, up_j, up_s, nI_em1, Bool.true_eq_false, Bool.false_eq_true, not_true_eq_false, not_false_eq_true]; omega) | omega)) (by decide) rfl rfl (by decide) (by show 48 * u1 + 48 ≤ 384; omega) (by decide) (by decide) (hM.keep (fun j hj => e4 _ _ (by show ¬ ((165 = 161 ∧ _) ∨ 165 = 167); omega))) (fun σ2 f1 f2 => ?_))
    have e5 : σ2 161 14 = nI u1 := by rw [f2 161 14 (by show ¬ (161 = 167 ∧ _); omega)]; exact e2
    ((repeat' ((conv => whnf); first | (refine And.intro (fun h => absurd h (by decide)) (fun _ => ?_)) | (refine And.intro (fun _ => ?_) (fun h => (h (by decide)).elim)) | (refine And.intro (fun h => absurd h (by first | (simp (disch := omega) only [nI_lt', nI_le', nI_eq', nI_add', nI_mul', nI_sub', nI_cl', tg_0, tg_1, bit1_eq, bit1_eq0, hb_bit, up_k, up_j, up_s, nI_em1, Bool.true_eq_false, Bool.false_eq_true, not_true_eq_false, not_false_eq_true]; done) | (simp (disch := omega) only [nI_lt', nI_le', nI_eq', nI_add', nI_mul', nI_sub', nI_cl', tg_0, tg_1, bit1_eq, bit1_eq0, hb_bit, up_k, up_j, up_s, nI_em1, Bool.true_eq_false, Bool.false_eq_true, not_true_eq_false, not_false_eq_true]; omega) | omega)) (fun _ => ?_)) | (refine And.intro (fun _ => ?_) (fun h => absurd (by first | (simp (disch := omega) only [nI_lt', nI_le', nI_eq', nI_add', nI_mul', nI_sub', nI_cl', tg_0, tg_1, bit1_eq, bit1_eq0, hb_bit, up_k, up_j, up_s, nI_em1, Bool.true_eq_false, Bool.false_eq_true, not_true_eq_false, not_false_eq_true]; done) | (simp (disch := omega) only [nI_lt', nI_le', nI_eq', nI_add', nI_mul', nI_sub', nI_cl', tg_0, tg_1, bit1_eq, bit1_eq0, hb_bit, up_k, up_j, up_s, nI_em1, Bool.true_eq_false, Bool.false_eq_true, not_true_eq_false, not_false_eq_true]; omega) | omega) h)) | (refine And.intro (fun _ => ?_) (fun _ => ?_)) | (refine And.intro (by first | decide | (with_reducible assumption) | ((with_reducible refine in_nI ?_ ?_) <;> omega) | ((try (conv => arg 2; whnf)); (try simp (disch := omega) only [nI_lt', nI_le', nI_eq', nI_add', nI_mul', nI_sub', nI_cl', tg_0, tg_1, bit1_eq, bit1_eq0, hb_bit, up_k, up_j, up_s, nI_em1, Bool.true_eq_false, Bool.false_eq_true, not_true_eq_false, not_false_eq_true]); (with_reducible refine in_nI ?_ ?_) <;> omega)) ?_) | fail)) <;> (try (conv => whnf)))
    rw [e5, nI_add']
    have hup : ∀ k j, ¬ (k = 161 ∧ j = 14) → up σ2 161 14 (nI (u1 + 1)) k j = σ2 k j := fun k j hn => by unfold up; rw [if_neg hn]
    have hmin : min 8 (u + 1) = u1 + 1 := by rw [e1]; split <;> omega
    rw [hmin] at h
    refine h _ ⟨up_s, fun i hi => ?_⟩ (fun k j hf => ?_)
    · by_cases e : i = u1
      · subst e
        have hps : psh u ps w i = w := by
          unfold psh
          rw [e1]
          by_cases h8 : u = 8
          · rw [if_pos h8, if_pos h8, if_neg (by omega)]
          · rw [if_neg h8, if_neg h8, if_pos rfl]
        rw [hps]
        exact f1.keep (fun j hj => hup 167 _ (by omega))
      · refine (e3 i (by omega)).keep (fun j hj => ?_)
        rw [hup _ _ (by omega)]
        exact f2 _ _ (by show ¬ (167 = 167 ∧ 48 * u1 ≤ 48 * i + j ∧ 48 * i + j < 48 * u1 + 48); omega)
    · rw [hup k j (fun z => hf (Or.inl z)), f2 k j (fun z => hf (Or.inr z.1))]
      exact e4 k j hf
  by_cases h8 : u = 8
  · refine mt_wp g_M_notes (by decide) k_M_notes (by simp) ?_
    intro CT G hCT hG
    refine hG [11, 49] 60 0 _ _ _ ?_
    ((repeat' ((conv => whnf); first | (refine And.intro (fun h => absurd h (by decide)) (fun _ => ?_)) | (refine And.intro (fun _ => ?_) (fun h => (h (by decide)).elim)) | (refine And.intro (fun h => absurd h (by first | (simp (disch := omega) only [p1, nI_lt', nI_le', nI_eq', nI_add', nI_mul', nI_sub', nI_cl', tg_0, tg_1, bit1_eq, bit1_eq0, hb_bit, up_k, up_j, up_s, nI_em1, Bool.true_eq_false, Bool.false_eq_true, not_true_eq_false, not_false_eq_true]; done) | (simp (disch := omega) only [p1, nI_lt', nI_le', nI_eq', nI_add', nI_mul', nI_sub', nI_cl', tg_0, tg_1, bit1_eq, bit1_eq0, hb_bit, up_k, up_j, up_s, nI_em1, Bool.true_eq_false, Bool.false_eq_true, not_true_eq_false, not_false_eq_true]; omega) | omega)) (fun _ => ?_)) | (refine And.intro (fun _ => ?_) (fun h => absurd (by first | (simp (disch := omega) only [p1, nI_lt', nI_le', nI_eq', nI_add', nI_mul', nI_sub', nI_cl', tg_0, tg_1, bit1_eq, bit1_eq0, hb_bit, up_k, up_j, up_s, nI_em1, Bool.true_eq_false, Bool.false_eq_true, not_true_eq_false, not_false_eq_true]; done) | (simp (disch := omega) only [p1, nI_lt', nI_le', nI_eq', nI_add', nI_mul', nI_sub', nI_cl', tg_0, tg_1, bit1_eq, bit1_eq0, hb_bit, up_k, up_j, up_s, nI_em1, Bool.true_eq_false, Bool.false_eq_true, not_true_eq_false, not_false_eq_true]; omega) | omega) h)) | (refine And.intro (fun _ => ?_) (fun _ => ?_)) | (refine And.intro (by first | decide | (with_reducible assumption) | ((with_reducible refine in_nI ?_ ?_) <;> omega) | ((try (conv => arg 2; whnf)); (try simp (disch := omega) only [p1, nI_lt', nI_le', nI_eq', nI_add', nI_mul', nI_sub', nI_cl', tg_0, tg_1, bit1_eq, bit1_eq0, hb_bit, up_k, up_j, up_s, nI_em1, Bool.true_eq_false, Bool.false_eq_true, not_true_eq_false, not_false_eq_true]); (with_reducible refine in_nI ?_ ?_) <;> omega)) ?_) | fail)) <;> (try (conv => whnf)))
    have loop : ∀ n i σ1, i + n = 336 → (∀ j, j < i → σ1 167 j = σ 167 (j + 48)) → (∀ j, i ≤ j → σ1 167 j = σ 167 j) → (∀ k, k ≠ 167 → σ1 k = σ k) → G 11 [some (.inr (9, 161)), some (.inl (nI i))] [] σ1 := by
      intro n
      induction n with
      | zero =>
        intro i σ1 hi h1 h2 h3
        obtain rfl : i = 336 := by omega
        have q1 : σ1 161 14 = nI u := by rw [h3 161 (by omega)]; exact p1
        refine hG [11, 49] 60 11 _ _ _ ?_
        ((repeat' ((conv => whnf); first | (refine And.intro (fun h => absurd h (by decide)) (fun _ => ?_)) | (refine And.intro (fun _ => ?_) (fun h => (h (by decide)).elim)) | (refine And.intro (fun h => absurd h (by first | (simp (disch := omega) only [nI_lt', nI_le', nI_eq', nI_add', nI_mul', nI_sub', nI_cl', tg_0, tg_1, bit1_eq, bit1_eq0, hb_bit, up_k, up_j, up_s, nI_em1, Bool.true_eq_false, Bool.false_eq_true, not_true_eq_false, not_false_eq_true]; done) | (simp (disch := omega) only [nI_lt', nI_le', nI_eq', nI_add', nI_mul', nI_sub', nI_cl', tg_0, tg_1, bit1_eq, bit1_eq0, hb_bit, up_k, up_j, up_s, nI_em1, Bool.true_eq_false, Bool.false_eq_true, not_true_eq_false, not_false_eq_true]; omega) | omega)) (fun _ => ?_)) | (refine And.intro (fun _ => ?_) (fun h => absurd (by first | (simp (disch := omega) only [nI_lt', nI_le', nI_eq', nI_add', nI_mul', nI_sub', nI_cl', tg_0, tg_1, bit1_eq, bit1_eq0, hb_bit, up_k, up_j, up_s, nI_em1, Bool.true_eq_false, Bool.false_eq_true, not_true_eq_false, not_false_eq_true]; done) | (simp (disch := omega) only [nI_lt', nI_le', nI_eq', nI_add', nI_mul', nI_sub', nI_cl', tg_0, tg_1, bit1_eq, bit1_eq0, hb_bit, up_k, up_j, up_s, nI_em1, Bool.true_eq_false, Bool.false_eq_true, not_true_eq_false, not_false_eq_true]; omega) | omega) h)) | (refine And.intro (fun _ => ?_) (fun _ => ?_)) | (refine And.intro (by first | decide | (with_reducible assumption) | ((with_reducible refine in_nI ?_ ?_) <;> omega) | ((try (conv => arg 2; whnf)); (try simp (disch := omega) only [nI_lt', nI_le', nI_eq', nI_add', nI_mul', nI_sub', nI_cl', tg_0, tg_1, bit1_eq, bit1_eq0, hb_bit, up_k, up_j, up_s, nI_em1, Bool.true_eq_false, Bool.false_eq_true, not_true_eq_false, not_false_eq_true]); (with_reducible refine in_nI ?_ ?_) <;> omega)) ?_) | fail)) <;> (try (conv => whnf)))
        rw [q1, nI_sub' (by omega)]
        refine fin CT G hCT hG _ 7 _ (by rw [if_pos h8]) (by rw [up_s, h8]) (fun i hi => ?_) (fun k j hf => ?_)
        · intro j hj
          rw [up_k (by omega), h1 _ (by omega), show 48 * i + j + 48 = 48 * (i + 1) + j by omega]
          have := p2 (i + 1) (by omega) j hj
          rw [this]
          unfold psh
          rw [if_pos h8, if_pos hi]
        · have hk : ¬ (k = 161 ∧ j = 14) := fun z => hf (Or.inl z)
          have : up σ1 161 14 (nI (u - 1)) k j = σ1 k j := by unfold up; rw [if_neg hk]
          rw [this, h3 k (fun z => hf (Or.inr z))]
      | succ n ih =>
        intro i σ1 hi h1 h2 h3
        refine hG [11, 49] 60 11 _ _ _ ?_
        ((repeat' ((conv => whnf); first | (refine And.intro (fun h => absurd h (by decide)) (fun _ => ?_)) | (refine And.intro (fun _ => ?_) (fun h => (h (by decide)).elim)) | (refine And.intro (fun h => absurd h (by first | (simp (disch := omega) only [nI_lt', nI_le', nI_eq', nI_add', nI_mul', nI_sub', nI_cl', tg_0, tg_1, bit1_eq, bit1_eq0, hb_bit, up_k, up_j, up_s, nI_em1, Bool.true_eq_false, Bool.false_eq_true, not_true_eq_false, not_false_eq_true]; done) | (simp (disch := omega) only [nI_lt', nI_le', nI_eq', nI_add', nI_mul', nI_sub', nI_cl', tg_0, tg_1, bit1_eq, bit1_eq0, hb_bit, up_k, up_j, up_s, nI_em1, Bool.true_eq_false, Bool.false_eq_true, not_true_eq_false, not_false_eq_true]; omega) | omega)) (fun _ => ?_)) | (refine And.intro (fun _ => ?_) (fun h => absurd (by first | (simp (disch := omega) only [nI_lt', nI_le', nI_eq', nI_add', nI_mul', nI_sub', nI_cl', tg_0, tg_1, bit1_eq, bit1_eq0, hb_bit, up_k, up_j, up_s, nI_em1, Bool.true_eq_false, Bool.false_eq_true, not_true_eq_false, not_false_eq_true]; done) | (simp (disch := omega) only [nI_lt', nI_le', nI_eq', nI_add', nI_mul', nI_sub', nI_cl', tg_0, tg_1, bit1_eq, bit1_eq0, hb_bit, up_k, up_j, up_s, nI_em1, Bool.true_eq_false, Bool.false_eq_true, not_true_eq_false, not_false_eq_true]; omega) | omega) h)) | (refine And.intro (fun _ => ?_) (fun _ => ?_)) | (refine And.intro (by first | decide | (with_reducible assumption) | ((with_reducible refine in_nI ?_ ?_) <;> omega) | ((try (conv => arg 2; whnf)); (try simp (disch := omega) only [nI_lt', nI_le', nI_eq', nI_add', nI_mul', nI_sub', nI_cl', tg_0, tg_1, bit1_eq, bit1_eq0, hb_bit, up_k, up_j, up_s, nI_em1, Bool.true_eq_false, Bool.false_eq_true, not_true_eq_false, not_false_eq_true]); (with_reducible refine in_nI ?_ ?_) <;> omega)) ?_) | fail)) <;> (try (conv => whnf)))
        simp (disch := omega) only [tg_0, nI_add', nI_cl']
        refine ih (i + 1) _ (by omega) (fun j hj => ?_) (fun j hj => ?_) (fun k hk => ?_)
        · by_cases e : j = i
          · subst e; rw [up_s]; exact h2 _ (by omega)
          · rw [up_j e]; exact h1 j (by omega)
        · rw [up_j (by omega)]; exact h2 j (by omega)
        · rw [up_r hk]; exact h3 k hk
    exact loop 336 0 σ rfl (fun j hj => by omega) (fun j _ => rfl) (fun k _ => rfl)
  · refine mt_wp g_M_notes (by decide) k_M_notes (by simp) ?_
    intro CT G hCT hG
    refine hG [11, 49] 60 0 _ _ _ ?_
    ((repeat' ((conv => whnf); first | (refine And.intro (fun h => absurd h (by decide)) (fun _ => ?_)) | (refine And.intro (fun _ => ?_) (fun h => (h (by decide)).elim)) | (refine And.intro (fun h => absurd h (by first | (simp (disch := omega) only [p1, nI_lt', nI_le', nI_eq', nI_add', nI_mul', nI_sub', nI_cl', tg_0, tg_1, bit1_eq, bit1_eq0, hb_bit, up_k, up_j, up_s, nI_em1, Bool.true_eq_false, Bool.false_eq_true, not_true_eq_false, not_false_eq_true]; done) | (simp (disch := omega) only [p1, nI_lt', nI_le', nI_eq', nI_add', nI_mul', nI_sub', nI_cl', tg_0, tg_1, bit1_eq, bit1_eq0, hb_bit, up_k, up_j, up_s, nI_em1, Bool.true_eq_false, Bool.false_eq_true, not_true_eq_false, not_false_eq_true]; omega) | omega)) (fun _ => ?_)) | (refine And.intro (fun _ => ?_) (fun h => absurd (by first | (simp (disch := omega) only [p1, nI_lt', nI_le', nI_eq', nI_add', nI_mul', nI_sub', nI_cl', tg_0, tg_1, bit1_eq, bit1_eq0, hb_bit, up_k, up_j, up_s, nI_em1, Bool.true_eq_false, Bool.false_eq_true, not_true_eq_false, not_false_eq_true]; done) | (simp (disch := omega) only [p1, nI_lt', nI_le', nI_eq', nI_add', nI_mul', nI_sub', nI_cl', tg_0, tg_1, bit1_eq, bit1_eq0, hb_bit, up_k, up_j, up_s, nI_em1, Bool.true_eq_false, Bool.false_eq_true, not_true_eq_false, not_false_eq_true]; omega) | omega) h)) | (refine And.intro (fun _ => ?_) (fun _ => ?_)) | (refine And.intro (by first | decide | (with_reducible assumption) | ((with_reducible refine in_nI ?_ ?_) <;> omega) | ((try (conv => arg 2; whnf)); (try simp (disch := omega) only [p1, nI_lt', nI_le', nI_eq', nI_add', nI_mul', nI_sub', nI_cl', tg_0, tg_1, bit1_eq, bit1_eq0, hb_bit, up_k, up_j, up_s, nI_em1, Bool.true_eq_false, Bool.false_eq_true, not_true_eq_false, not_false_eq_true]); (with_reducible refine in_nI ?_ ?_) <;> omega)) ?_) | fail)) <;> (try (conv => whnf)))
    refine fin CT G hCT hG _ u σ (by rw [if_neg h8]) p1 (fun i hi => ?_) Fr.rf
    have : psh u ps w i = ps i := by unfold psh; rw [if_neg h8, if_neg (by omega)]
    rw [this]
    exact p2 i hi
/-- what is done: now and past anew -/
theorem Inv.done {σ σ' : ST} (h : Inv σ) {w : La} {u nx : Nat} {ps : Nat → La} (hn : Pnow w σ') (hp : Ppast u nx ps σ') (hk : ∀ k j, ¬ f_now k j → ¬ f_past k j → f_any k j → σ' k j = σ k j) : Inv σ' := by
  obtain ⟨⟨n1, tx, h1⟩, ⟨w1, h2⟩, -, -, ⟨ik, kp, h5⟩, ⟨sn, sb, sc, sa, h6⟩, h7⟩ := h
  refine ⟨⟨n1, tx, h1.keep (fun k j f => hk k j ?_ ?_ (Or.inl f))⟩, ⟨w1, h2.keep (fun k j f => hk k j ?_ ?_ (Or.inr (Or.inl f)))⟩, ⟨w, hn⟩, ⟨u, nx, ps, hp⟩, ⟨ik, kp, h5.keep (fun k j f => hk k j ?_ ?_ (Or.inr (Or.inr (Or.inr (Or.inr (Or.inl f))))))⟩, ⟨sn, sb, sc, sa, h6.keep (fun k j f => hk k j ?_ ?_ (Or.inr (Or.inr (Or.inr (Or.inr (Or.inr (Or.inl f)))))))⟩, fun c hc => ?_⟩
  · unfold f_tx at f; unfold f_now; omega
  · unfold f_tx at f; unfold f_past; omega
  · unfold f_told at f; unfold f_now; omega
  · unfold f_told at f; unfold f_past; omega
  · unfold f_kept at f; unfold f_now; omega
  · unfold f_kept at f; unfold f_past; omega
  · unfold f_see at f; unfold f_now; omega
  · unfold f_see at f; unfold f_past; omega
  · obtain ⟨ms, rm, n, so, va, fi, h8⟩ := h7 c hc
    refine ⟨ms, rm, n, so, va, fi, h8.keep (fun k j f => hk k j ?_ ?_ (Or.inr (Or.inr (Or.inr (Or.inr (Or.inr (Or.inr ?_)))))))⟩
    · unfold f_cup1 at f; unfold f_now; omega
    · unfold f_cup1 at f; unfold f_past; omega
    · unfold f_cup1 at f; unfold f_cup; omega
theorem Ppast.C {u nx : Nat} {ps : Nat → La} {σ : ST} (h : Ppast u nx ps σ) : PcC u nx ps σ := ⟨h.1, h.2.1, h.2.2.1, h.2.2.2.1, fun i hi => (h.2.2.2.2.2 i hi).2.1⟩
theorem Ppast.M {u nx : Nat} {ps : Nat → La} {σ : ST} (h : Ppast u nx ps σ) : PcM u ps σ := ⟨h.2.2.2.2.1, fun i hi => (h.2.2.2.2.2 i hi).2.2⟩
theorem Ppast.mk {u nx : Nat} {ps : Nat → La} {σ : ST} (h1 : PcC u nx ps σ) (h2 : PcM u ps σ) (h3 : ∀ i, i < u → WN (ps i)) : Ppast u nx ps σ := ⟨h1.1, h1.2.1, h1.2.2.1, h1.2.2.2.1, h2.1, fun i hi => ⟨h3 i hi, h1.2.2.2.2 i hi, h2.2 i hi⟩⟩
theorem PcC.keep {u nx : Nat} {ps : Nat → La} {σ σ' : ST} (h : PcC u nx ps σ) (hk : ∀ k j, k = 31 ∨ (33 ≤ k ∧ k ≤ 104) → σ' k j = σ k j) : PcC u nx ps σ' :=
  ⟨h.1, h.2.1, by rw [hk _ _ (by omega)]; exact h.2.2.1, by rw [hk _ _ (by omega)]; exact h.2.2.2.1, fun i hi => (h.2.2.2.2 i hi).keep (fun k j a b => hk k j (by omega))⟩
theorem PcM.keep {u : Nat} {ps : Nat → La} {σ σ' : ST} (h : PcM u ps σ) (hk : ∀ k j, (k = 161 ∧ j = 14) ∨ k = 167 → σ' k j = σ k j) : PcM u ps σ' :=
  ⟨by rw [hk _ _ (by omega)]; exact h.1, fun i hi => (h.2 i hi).keep (fun j hj => hk _ _ (by omega))⟩
theorem psh_WN {u : Nat} {ps : Nat → La} {w : La} (hu : u ≤ 8) (hw : WN w) (h : ∀ i, i < u → WN (ps i)) : ∀ i, i < min 8 (u + 1) → WN (psh u ps w i) := by
  intro i hi
  unfold psh
  split
  · split
    · exact h _ (by omega)
    · exact hw
  · split
    · exact hw
    · exact h _ (by omega)
