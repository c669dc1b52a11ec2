/-! ===== words and numbers ===== -/
def wvn (tx : Nat → Nat) (s : Nat) : Nat → Nat
  | 0 => 0
  | k + 1 => 32 * wvn tx s k + tx (s + k) - 96
def its (n : Nat) (tx : Nat → Nat) (s e : Nat) : Nat := if s < n ∧ sm (tx s) = true ∧ e - s < 5 then wvn tx s (e - s) else 0
def cst (k : Nat) : Nat := ([394693, 508078, 631476, 202124, 763077, 13358, 239180, 263748, 769614] : List Nat).getD k 0
def isW (tx : Nat → Nat) (s e k : Nat) : Prop := e - s = bl k ∧ ∀ j, j < bl k → tx (s + j) = bt k j
theorem te_sm {n : Nat} {tx : Nat → Nat} {s i : Nat} (h : s < n) (hs : sm (tx s) = true) (h1 : s ≤ i) (h2 : i < te n tx s) : sm (tx i) = true ∧ i < n := by
  unfold te at h2
  rw [if_pos h, if_pos hs] at h2
  exact ru_all _ s i rfl h1 h2
theorem te_dg {n : Nat} {tx : Nat → Nat} {s i : Nat} (h : s < n) (hs : dg (tx s) = true) (h1 : s ≤ i) (h2 : i < te n tx s) : dg (tx i) = true ∧ i < n := by
  have hns : ¬ sm (tx s) = true := by
    rw [dg_i] at hs
    rw [sm_i]
    omega
  unfold te at h2
  rw [if_pos h, if_neg hns, if_pos hs] at h2
  exact ru_all _ s i rfl h1 h2
theorem te_out {n : Nat} {tx : Nat → Nat} {s : Nat} (h : ¬ s < n) : te n tx s = s := by unfold te; rw [if_neg h]
theorem bt_sm : ∀ k, k < 9 → ∀ i, i < bl k → sm (bt k i) = true := by decide
theorem cst_ok : ∀ k, k < 9 → cst k = (if bl k = 4 then 32 * (32 * (32 * (bt k 0 - 96) + bt k 1 - 96) + bt k 2 - 96) + bt k 3 - 96 else 32 * (32 * (bt k 0 - 96) + bt k 1 - 96) + bt k 2 - 96) := by decide
theorem bl_34 : ∀ k, k < 9 → bl k = 4 ∨ bl k = 3 := by decide
theorem isW_its {n : Nat} {tx : Nat → Nat} {s k : Nat} (hk : k < 9) : isW tx s (te n tx s) k ↔ its n tx s (te n tx s) = cst k := by
  have hbl := bl_34 k hk
  have hc := cst_ok k hk
  have hbs := bt_sm k hk
  have b0 := sm_i.mp (hbs 0 (by omega))
  have b1 := sm_i.mp (hbs 1 (by omega))
  have b2 := sm_i.mp (hbs 2 (by omega))
  constructor
  · rintro ⟨h1, h2⟩
    have hsn : s < n := by
      by_cases h : s < n
      · exact h
      · rw [te_out h] at h1; omega
    have t0 := h2 0 (by omega)
    have t1 := h2 1 (by omega)
    have t2 := h2 2 (by omega)
    rw [Nat.add_zero] at t0
    unfold its
    rw [if_pos ⟨hsn, by rw [t0]; exact hbs 0 (by omega), by omega⟩, h1, hc]
    rcases hbl with e | e
    · have t3 := h2 3 (by omega)
      rw [e, if_pos rfl]
      show 32 * (32 * (32 * (32 * 0 + tx (s + 0) - 96) + tx (s + 1) - 96) + tx (s + 2) - 96) + tx (s + 3) - 96 = _
      rw [Nat.add_zero, t0, t1, t2, t3, Nat.mul_zero, Nat.zero_add]
    · rw [e, if_neg (by omega)]
      show 32 * (32 * (32 * 0 + tx (s + 0) - 96) + tx (s + 1) - 96) + tx (s + 2) - 96 = _
      rw [Nat.add_zero, t0, t1, t2, Nat.mul_zero, Nat.zero_add]
  · intro h
    unfold its at h
    have hcp : 13358 ≤ cst k := by
      have : ∀ k, k < 9 → 13358 ≤ cst k := by decide
      exact this k hk
    split at h
    · rename_i hh
      obtain ⟨hsn, hsm, hlt⟩ := hh
      have hal : ∀ j, j < te n tx s - s → 97 ≤ tx (s + j) ∧ tx (s + j) ≤ 122 := fun j hj => sm_i.mp (te_sm hsn hsm (by omega) (by omega)).1
      unfold isW
      generalize te n tx s - s = L at *
      rw [hc] at h
      rcases (show L = 0 ∨ L = 1 ∨ L = 2 ∨ L = 3 ∨ L = 4 by omega) with e | e | e | e | e <;> subst e
      · rw [← hc] at h
        simp only [wvn] at h
        omega
      · have l0 := hal 0 (by omega)
        rw [← hc] at h
        simp only [wvn] at h
        omega
      · have l0 := hal 0 (by omega)
        have l1 := hal 1 (by omega)
        rw [← hc] at h
        simp only [wvn] at h
        omega
      · have l0 := hal 0 (by omega)
        have l1 := hal 1 (by omega)
        have l2 := hal 2 (by omega)
        simp only [wvn] at h
        rcases hbl with e | e
        · have b3 := sm_i.mp (hbs 3 (by omega))
          rw [e, if_pos rfl] at h
          omega
        · rw [e, if_neg (by omega)] at h
          refine ⟨by omega, fun j hj => ?_⟩
          rw [e] at hj
          rcases (show j = 0 ∨ j = 1 ∨ j = 2 by omega) with z | z | z <;> subst z <;> omega
      · have l0 := hal 0 (by omega)
        have l1 := hal 1 (by omega)
        have l2 := hal 2 (by omega)
        have l3 := hal 3 (by omega)
        simp only [wvn] at h
        rcases hbl with e | e
        · have b3 := sm_i.mp (hbs 3 (by omega))
          rw [e, if_pos rfl] at h
          refine ⟨by omega, fun j hj => ?_⟩
          rw [e] at hj
          rcases (show j = 0 ∨ j = 1 ∨ j = 2 ∨ j = 3 by omega) with z | z | z | z <;> subst z <;> omega
        · rw [e, if_neg (by omega)] at h
          omega
    · omega
theorem chI_b {n p b : Nat} {tx : Nat → Nat} (hb : p < n → tx p < 256) (h : b < 2 ^ 31) : (chI n tx p = nI b) = (p < n ∧ tx p = b) := by
  unfold chI
  by_cases hp : p < n
  · have := hb hp
    rw [if_pos hp, nI_eq' (by omega) (by omega)]
    simp [hp]
  · rw [if_neg hp]
    simp only [hp, false_and]
    exact eq_false (fun z => nI_m1 b h z.symm)
set_option maxRecDepth 20000 in
set_option maxHeartbeats 1000000 in
theorem c_isWord {l : Launch} {X : XT} {d n k s : Nat} {σ : ST} {Q : Option AV → ST → Prop} {tx : Nat → Nat} (hk : k < 9) (hT : TX n tx σ) (hs : s ≤ n) (hR : RT s (te n tx s) σ) (h1 : its n tx s (te n tx s) = cst k → Q (some (.inl (nI 1))) σ) (h0 : ¬ its n tx s (te n tx s) = cst k → Q (some (.inl (nI 0))) σ) : MT l X (d + 5) i_Reader_isWord [.inr (6, 21), .inr (70, k)] σ Q := by
  have hn := hT.1
  have hb : ∀ i, i < n → tx i < 256 := fun i hi => (hT.2.2 i hi).1
  have hen := te_ge (n := n) (tx := tx) (s := s)
  have hbl := bl_le k hk
  rw [← isW_its hk] at h1 h0
  obtain ⟨r1, r2⟩ := hR
  generalize hE : te n tx s = e at *
  refine mt_wp g_Reader_isWord (by decide) k_Reader_isWord (by simp) ?_
  intro CT G hCT hG
  refine hG [20] 60 0 _ _ _ ?_
  ((repeat' ((conv => whnf); first | (refine And.intro (fun h => absurd h (by decide)) (fun _ => ?_)) | (refine And.intro (fun _ => ?_) (fun h => (h (by decide)).elim)) | (refine And.intro (fun h => absurd h (by first | (simp (disch := omega) only [nI_lt', nI_le', nI_eq', nI_add', nI_mul', nI_sub', nI_cl', tg_0, tg_1, bit1_eq, bit1_eq0, hb_bit, up_k, up_j, up_s, nI_em1, Bool.true_eq_false, Bool.false_eq_true, not_true_eq_false, not_false_eq_true]; done) | (simp (disch := omega) only [nI_lt', nI_le', nI_eq', nI_add', nI_mul', nI_sub', nI_cl', tg_0, tg_1, bit1_eq, bit1_eq0, hb_bit, up_k, up_j, up_s, nI_em1, Bool.true_eq_false, Bool.false_eq_true, not_true_eq_false, not_false_eq_true]; omega) | omega)) (fun _ => ?_)) | (refine And.intro (fun _ => ?_) (fun h => absurd (by first | (simp (disch := omega) only [nI_lt', nI_le', nI_eq', nI_add', nI_mul', nI_sub', nI_cl', tg_0, tg_1, bit1_eq, bit1_eq0, hb_bit, up_k, up_j, up_s, nI_em1, Bool.true_eq_false, Bool.false_eq_true, not_true_eq_false, not_false_eq_true]; done) | (simp (disch := omega) only [nI_lt', nI_le', nI_eq', nI_add', nI_mul', nI_sub', nI_cl', tg_0, tg_1, bit1_eq, bit1_eq0, hb_bit, up_k, up_j, up_s, nI_em1, Bool.true_eq_false, Bool.false_eq_true, not_true_eq_false, not_false_eq_true]; omega) | omega) h)) | (refine And.intro (fun _ => ?_) (fun _ => ?_)) | (refine And.intro (by first | decide | (with_reducible assumption) | ((with_reducible refine in_nI ?_ ?_) <;> omega) | ((try (conv => arg 2; whnf)); (try simp (disch := omega) only [nI_lt', nI_le', nI_eq', nI_add', nI_mul', nI_sub', nI_cl', tg_0, tg_1, bit1_eq, bit1_eq0, hb_bit, up_k, up_j, up_s, nI_em1, Bool.true_eq_false, Bool.false_eq_true, not_true_eq_false, not_false_eq_true]); (with_reducible refine in_nI ?_ ?_) <;> omega)) ?_) | fail)) <;> (try (conv => whnf)))
  refine hCT _ _ _ _ (c_slen hk ?_)
  have hsub : nI e - nI s = nI (e - s) := nI_sub' hen.1
  simp only [r1, r2, hsub]
  by_cases hl : e - s = bl k
  · ((repeat' ((conv => whnf); first | (refine And.intro (fun h => absurd h (by decide)) (fun _ => ?_)) | (refine And.intro (fun _ => ?_) (fun h => (h (by decide)).elim)) | (refine And.intro (fun h => absurd h (by first | (simp (disch := omega) only [nI_lt', nI_le', nI_eq', nI_add', nI_mul', nI_sub', nI_cl', tg_0, tg_1, bit1_eq, bit1_eq0, hb_bit, up_k, up_j, up_s, nI_em1, Bool.true_eq_false, Bool.false_eq_true, not_true_eq_false, not_false_eq_true]; done) | (simp (disch := omega) only [nI_lt', nI_le', nI_eq', nI_add', nI_mul', nI_sub', nI_cl', tg_0, tg_1, bit1_eq, bit1_eq0, hb_bit, up_k, up_j, up_s, nI_em1, Bool.true_eq_false, Bool.false_eq_true, not_true_eq_false, not_false_eq_true]; omega) | omega)) (fun _ => ?_)) | (refine And.intro (fun _ => ?_) (fun h => absurd (by first | (simp (disch := omega) only [nI_lt', nI_le', nI_eq', nI_add', nI_mul', nI_sub', nI_cl', tg_0, tg_1, bit1_eq, bit1_eq0, hb_bit, up_k, up_j, up_s, nI_em1, Bool.true_eq_false, Bool.false_eq_true, not_true_eq_false, not_false_eq_true]; done) | (simp (disch := omega) only [nI_lt', nI_le', nI_eq', nI_add', nI_mul', nI_sub', nI_cl', tg_0, tg_1, bit1_eq, bit1_eq0, hb_bit, up_k, up_j, up_s, nI_em1, Bool.true_eq_false, Bool.false_eq_true, not_true_eq_false, not_false_eq_true]; omega) | omega) h)) | (refine And.intro (fun _ => ?_) (fun _ => ?_)) | (refine And.intro (by first | decide | (with_reducible assumption) | ((with_reducible refine in_nI ?_ ?_) <;> omega) | ((try (conv => arg 2; whnf)); (try simp (disch := omega) only [nI_lt', nI_le', nI_eq', nI_add', nI_mul', nI_sub', nI_cl', tg_0, tg_1, bit1_eq, bit1_eq0, hb_bit, up_k, up_j, up_s, nI_em1, Bool.true_eq_false, Bool.false_eq_true, not_true_eq_false, not_false_eq_true]); (with_reducible refine in_nI ?_ ?_) <;> omega)) ?_) | fail)) <;> (try (conv => whnf)))
    have loop : ∀ m j, j + m = bl k → (∀ i, i < j → tx (s + i) = bt k i) → G 20 [some (.inr (6, 21)), some (.inr (70, k)), some (.inl (nI j))] [] σ := by
      intro m
      induction m with
      | zero =>
        intro j hj hal
        obtain rfl : j = bl k := by omega
        refine hG [20] 60 20 _ _ _ ?_
        ((repeat' ((conv => whnf); first | (refine And.intro (fun h => absurd h (by decide)) (fun _ => ?_)) | (refine And.intro (fun _ => ?_) (fun h => (h (by decide)).elim)) | (refine And.intro (fun h => absurd h (by first | (simp (disch := omega) only [nI_lt', nI_le', nI_eq', nI_add', nI_mul', nI_sub', nI_cl', tg_0, tg_1, bit1_eq, bit1_eq0, hb_bit, up_k, up_j, up_s, nI_em1, Bool.true_eq_false, Bool.false_eq_true, not_true_eq_false, not_false_eq_true]; done) | (simp (disch := omega) only [nI_lt', nI_le', nI_eq', nI_add', nI_mul', nI_sub', nI_cl', tg_0, tg_1, bit1_eq, bit1_eq0, hb_bit, up_k, up_j, up_s, nI_em1, Bool.true_eq_false, Bool.false_eq_true, not_true_eq_false, not_false_eq_true]; omega) | omega)) (fun _ => ?_)) | (refine And.intro (fun _ => ?_) (fun h => absurd (by first | (simp (disch := omega) only [nI_lt', nI_le', nI_eq', nI_add', nI_mul', nI_sub', nI_cl', tg_0, tg_1, bit1_eq, bit1_eq0, hb_bit, up_k, up_j, up_s, nI_em1, Bool.true_eq_false, Bool.false_eq_true, not_true_eq_false, not_false_eq_true]; done) | (simp (disch := omega) only [nI_lt', nI_le', nI_eq', nI_add', nI_mul', nI_sub', nI_cl', tg_0, tg_1, bit1_eq, bit1_eq0, hb_bit, up_k, up_j, up_s, nI_em1, Bool.true_eq_false, Bool.false_eq_true, not_true_eq_false, not_false_eq_true]; omega) | omega) h)) | (refine And.intro (fun _ => ?_) (fun _ => ?_)) | (refine And.intro (by first | decide | (with_reducible assumption) | ((with_reducible refine in_nI ?_ ?_) <;> omega) | ((try (conv => arg 2; whnf)); (try simp (disch := omega) only [nI_lt', nI_le', nI_eq', nI_add', nI_mul', nI_sub', nI_cl', tg_0, tg_1, bit1_eq, bit1_eq0, hb_bit, up_k, up_j, up_s, nI_em1, Bool.true_eq_false, Bool.false_eq_true, not_true_eq_false, not_false_eq_true]); (with_reducible refine in_nI ?_ ?_) <;> omega)) ?_) | fail)) <;> (try (conv => whnf)))
        refine hCT _ _ _ _ (c_slen hk ?_)
        ((repeat' ((conv => whnf); first | (refine And.intro (fun h => absurd h (by decide)) (fun _ => ?_)) | (refine And.intro (fun _ => ?_) (fun h => (h (by decide)).elim)) | (refine And.intro (fun h => absurd h (by first | (simp (disch := omega) only [nI_lt', nI_le', nI_eq', nI_add', nI_mul', nI_sub', nI_cl', tg_0, tg_1, bit1_eq, bit1_eq0, hb_bit, up_k, up_j, up_s, nI_em1, Bool.true_eq_false, Bool.false_eq_true, not_true_eq_false, not_false_eq_true]; done) | (simp (disch := omega) only [nI_lt', nI_le', nI_eq', nI_add', nI_mul', nI_sub', nI_cl', tg_0, tg_1, bit1_eq, bit1_eq0, hb_bit, up_k, up_j, up_s, nI_em1, Bool.true_eq_false, Bool.false_eq_true, not_true_eq_false, not_false_eq_true]; omega) | omega)) (fun _ => ?_)) | (refine And.intro (fun _ => ?_) (fun h => absurd (by first | (simp (disch := omega) only [nI_lt', nI_le', nI_eq', nI_add', nI_mul', nI_sub', nI_cl', tg_0, tg_1, bit1_eq, bit1_eq0, hb_bit, up_k, up_j, up_s, nI_em1, Bool.true_eq_false, Bool.false_eq_true, not_true_eq_false, not_false_eq_true]; done) | (simp (disch := omega) only [nI_lt', nI_le', nI_eq', nI_add', nI_mul', nI_sub', nI_cl', tg_0, tg_1, bit1_eq, bit1_eq0, hb_bit, up_k, up_j, up_s, nI_em1, Bool.true_eq_false, Bool.false_eq_true, not_true_eq_false, not_false_eq_true]; omega) | omega) h)) | (refine And.intro (fun _ => ?_) (fun _ => ?_)) | (refine And.intro (by first | decide | (with_reducible assumption) | ((with_reducible refine in_nI ?_ ?_) <;> omega) | ((try (conv => arg 2; whnf)); (try simp (disch := omega) only [nI_lt', nI_le', nI_eq', nI_add', nI_mul', nI_sub', nI_cl', tg_0, tg_1, bit1_eq, bit1_eq0, hb_bit, up_k, up_j, up_s, nI_em1, Bool.true_eq_false, Bool.false_eq_true, not_true_eq_false, not_false_eq_true]); (with_reducible refine in_nI ?_ ?_) <;> omega)) ?_) | fail)) <;> (try (conv => whnf)))
        exact h1 ⟨hl, hal⟩
      | succ m ih =>
        intro j hj hal
        have hbt := (bt_ok k hk j (by omega)).2
        refine hG [20] 60 20 _ _ _ ?_
        ((repeat' ((conv => whnf); first | (refine And.intro (fun h => absurd h (by decide)) (fun _ => ?_)) | (refine And.intro (fun _ => ?_) (fun h => (h (by decide)).elim)) | (refine And.intro (fun h => absurd h (by first | (simp (disch := omega) only [nI_lt', nI_le', nI_eq', nI_add', nI_mul', nI_sub', nI_cl', tg_0, tg_1, bit1_eq, bit1_eq0, hb_bit, up_k, up_j, up_s, nI_em1, Bool.true_eq_false, Bool.false_eq_true, not_true_eq_false, not_false_eq_true]; done) | (simp (disch := omega) only [nI_lt', nI_le', nI_eq', nI_add', nI_mul', nI_sub', nI_cl', tg_0, tg_1, bit1_eq, bit1_eq0, hb_bit, up_k, up_j, up_s, nI_em1, Bool.true_eq_false, Bool.false_eq_true, not_true_eq_false, not_false_eq_true]; omega) | omega)) (fun _ => ?_)) | (refine And.intro (fun _ => ?_) (fun h => absurd (by first | (simp (disch := omega) only [nI_lt', nI_le', nI_eq', nI_add', nI_mul', nI_sub', nI_cl', tg_0, tg_1, bit1_eq, bit1_eq0, hb_bit, up_k, up_j, up_s, nI_em1, Bool.true_eq_false, Bool.false_eq_true, not_true_eq_false, not_false_eq_true]; done) | (simp (disch := omega) only [nI_lt', nI_le', nI_eq', nI_add', nI_mul', nI_sub', nI_cl', tg_0, tg_1, bit1_eq, bit1_eq0, hb_bit, up_k, up_j, up_s, nI_em1, Bool.true_eq_false, Bool.false_eq_true, not_true_eq_false, not_false_eq_true]; omega) | omega) h)) | (refine And.intro (fun _ => ?_) (fun _ => ?_)) | (refine And.intro (by first | decide | (with_reducible assumption) | ((with_reducible refine in_nI ?_ ?_) <;> omega) | ((try (conv => arg 2; whnf)); (try simp (disch := omega) only [nI_lt', nI_le', nI_eq', nI_add', nI_mul', nI_sub', nI_cl', tg_0, tg_1, bit1_eq, bit1_eq0, hb_bit, up_k, up_j, up_s, nI_em1, Bool.true_eq_false, Bool.false_eq_true, not_true_eq_false, not_false_eq_true]); (with_reducible refine in_nI ?_ ?_) <;> omega)) ?_) | fail)) <;> (try (conv => whnf)))
        refine hCT _ _ _ _ (c_slen hk ?_)
        ((repeat' ((conv => whnf); first | (refine And.intro (fun h => absurd h (by decide)) (fun _ => ?_)) | (refine And.intro (fun _ => ?_) (fun h => (h (by decide)).elim)) | (refine And.intro (fun h => absurd h (by first | (simp (disch := omega) only [nI_lt', nI_le', nI_eq', nI_add', nI_mul', nI_sub', nI_cl', tg_0, tg_1, bit1_eq, bit1_eq0, hb_bit, up_k, up_j, up_s, nI_em1, Bool.true_eq_false, Bool.false_eq_true, not_true_eq_false, not_false_eq_true]; done) | (simp (disch := omega) only [nI_lt', nI_le', nI_eq', nI_add', nI_mul', nI_sub', nI_cl', tg_0, tg_1, bit1_eq, bit1_eq0, hb_bit, up_k, up_j, up_s, nI_em1, Bool.true_eq_false, Bool.false_eq_true, not_true_eq_false, not_false_eq_true]; omega) | omega)) (fun _ => ?_)) | (refine And.intro (fun _ => ?_) (fun h => absurd (by first | (simp (disch := omega) only [nI_lt', nI_le', nI_eq', nI_add', nI_mul', nI_sub', nI_cl', tg_0, tg_1, bit1_eq, bit1_eq0, hb_bit, up_k, up_j, up_s, nI_em1, Bool.true_eq_false, Bool.false_eq_true, not_true_eq_false, not_false_eq_true]; done) | (simp (disch := omega) only [nI_lt', nI_le', nI_eq', nI_add', nI_mul', nI_sub', nI_cl', tg_0, tg_1, bit1_eq, bit1_eq0, hb_bit, up_k, up_j, up_s, nI_em1, Bool.true_eq_false, Bool.false_eq_true, not_true_eq_false, not_false_eq_true]; omega) | omega) h)) | (refine And.intro (fun _ => ?_) (fun _ => ?_)) | (refine And.intro (by first | decide | (with_reducible assumption) | ((with_reducible refine in_nI ?_ ?_) <;> omega) | ((try (conv => arg 2; whnf)); (try simp (disch := omega) only [nI_lt', nI_le', nI_eq', nI_add', nI_mul', nI_sub', nI_cl', tg_0, tg_1, bit1_eq, bit1_eq0, hb_bit, up_k, up_j, up_s, nI_em1, Bool.true_eq_false, Bool.false_eq_true, not_true_eq_false, not_false_eq_true]); (with_reducible refine in_nI ?_ ?_) <;> omega)) ?_) | fail)) <;> (try (conv => whnf)))
        refine hCT _ _ _ _ (c_at (p := s + j) (by rw [r1, nI_add']) (by omega) hT ?_)
        ((repeat' ((conv => whnf); first | (refine And.intro (fun h => absurd h (by decide)) (fun _ => ?_)) | (refine And.intro (fun _ => ?_) (fun h => (h (by decide)).elim)) | (refine And.intro (fun h => absurd h (by first | (simp (disch := omega) only [nI_lt', nI_le', nI_eq', nI_add', nI_mul', nI_sub', nI_cl', tg_0, tg_1, bit1_eq, bit1_eq0, hb_bit, up_k, up_j, up_s, nI_em1, Bool.true_eq_false, Bool.false_eq_true, not_true_eq_false, not_false_eq_true]; done) | (simp (disch := omega) only [nI_lt', nI_le', nI_eq', nI_add', nI_mul', nI_sub', nI_cl', tg_0, tg_1, bit1_eq, bit1_eq0, hb_bit, up_k, up_j, up_s, nI_em1, Bool.true_eq_false, Bool.false_eq_true, not_true_eq_false, not_false_eq_true]; omega) | omega)) (fun _ => ?_)) | (refine And.intro (fun _ => ?_) (fun h => absurd (by first | (simp (disch := omega) only [nI_lt', nI_le', nI_eq', nI_add', nI_mul', nI_sub', nI_cl', tg_0, tg_1, bit1_eq, bit1_eq0, hb_bit, up_k, up_j, up_s, nI_em1, Bool.true_eq_false, Bool.false_eq_true, not_true_eq_false, not_false_eq_true]; done) | (simp (disch := omega) only [nI_lt', nI_le', nI_eq', nI_add', nI_mul', nI_sub', nI_cl', tg_0, tg_1, bit1_eq, bit1_eq0, hb_bit, up_k, up_j, up_s, nI_em1, Bool.true_eq_false, Bool.false_eq_true, not_true_eq_false, not_false_eq_true]; omega) | omega) h)) | (refine And.intro (fun _ => ?_) (fun _ => ?_)) | (refine And.intro (by first | decide | (with_reducible assumption) | ((with_reducible refine in_nI ?_ ?_) <;> omega) | ((try (conv => arg 2; whnf)); (try simp (disch := omega) only [nI_lt', nI_le', nI_eq', nI_add', nI_mul', nI_sub', nI_cl', tg_0, tg_1, bit1_eq, bit1_eq0, hb_bit, up_k, up_j, up_s, nI_em1, Bool.true_eq_false, Bool.false_eq_true, not_true_eq_false, not_false_eq_true]); (with_reducible refine in_nI ?_ ?_) <;> omega)) ?_) | fail)) <;> (try (conv => whnf)))
        refine hCT _ _ _ _ (c_charAt hk (by omega) ?_)
        have hcb := chI_b (n := n) (p := s + j) (b := bt k j) (hb _) (by omega)
        by_cases hq : tx (s + j) = bt k j
        · have hcb : chI n tx (s + j) = nI (bt k j) := by rw [hcb]; exact ⟨by omega, hq⟩
          ((repeat' ((conv => whnf); first | (refine And.intro (fun h => absurd h (by decide)) (fun _ => ?_)) | (refine And.intro (fun _ => ?_) (fun h => (h (by decide)).elim)) | (refine And.intro (fun h => absurd h (by first | (simp (disch := omega) only [hcb, nI_lt', nI_le', nI_eq', nI_add', nI_mul', nI_sub', nI_cl', tg_0, tg_1, bit1_eq, bit1_eq0, hb_bit, up_k, up_j, up_s, nI_em1, Bool.true_eq_false, Bool.false_eq_true, not_true_eq_false, not_false_eq_true]; done) | (simp (disch := omega) only [hcb, nI_lt', nI_le', nI_eq', nI_add', nI_mul', nI_sub', nI_cl', tg_0, tg_1, bit1_eq, bit1_eq0, hb_bit, up_k, up_j, up_s, nI_em1, Bool.true_eq_false, Bool.false_eq_true, not_true_eq_false, not_false_eq_true]; omega) | omega)) (fun _ => ?_)) | (refine And.intro (fun _ => ?_) (fun h => absurd (by first | (simp (disch := omega) only [hcb, nI_lt', nI_le', nI_eq', nI_add', nI_mul', nI_sub', nI_cl', tg_0, tg_1, bit1_eq, bit1_eq0, hb_bit, up_k, up_j, up_s, nI_em1, Bool.true_eq_false, Bool.false_eq_true, not_true_eq_false, not_false_eq_true]; done) | (simp (disch := omega) only [hcb, nI_lt', nI_le', nI_eq', nI_add', nI_mul', nI_sub', nI_cl', tg_0, tg_1, bit1_eq, bit1_eq0, hb_bit, up_k, up_j, up_s, nI_em1, Bool.true_eq_false, Bool.false_eq_true, not_true_eq_false, not_false_eq_true]; omega) | omega) h)) | (refine And.intro (fun _ => ?_) (fun _ => ?_)) | (refine And.intro (by first | decide | (with_reducible assumption) | ((with_reducible refine in_nI ?_ ?_) <;> omega) | ((try (conv => arg 2; whnf)); (try simp (disch := omega) only [hcb, nI_lt', nI_le', nI_eq', nI_add', nI_mul', nI_sub', nI_cl', tg_0, tg_1, bit1_eq, bit1_eq0, hb_bit, up_k, up_j, up_s, nI_em1, Bool.true_eq_false, Bool.false_eq_true, not_true_eq_false, not_false_eq_true]); (with_reducible refine in_nI ?_ ?_) <;> omega)) ?_) | fail)) <;> (try (conv => whnf)))
          rw [nI_add']
          refine ih (j + 1) (by omega) (fun i hi => ?_)
          by_cases z : i = j
          · subst z; exact hq
          · exact hal i (by omega)
        · have hcb : ¬ chI n tx (s + j) = nI (bt k j) := by rw [hcb]; exact fun z => hq z.2
          ((repeat' ((conv => whnf); first | (refine And.intro (fun h => absurd h (by decide)) (fun _ => ?_)) | (refine And.intro (fun _ => ?_) (fun h => (h (by decide)).elim)) | (refine And.intro (fun h => absurd h (by first | (simp (disch := omega) only [hcb, nI_lt', nI_le', nI_eq', nI_add', nI_mul', nI_sub', nI_cl', tg_0, tg_1, bit1_eq, bit1_eq0, hb_bit, up_k, up_j, up_s, nI_em1, Bool.true_eq_false, Bool.false_eq_true, not_true_eq_false, not_false_eq_true]; done) | (simp (disch := omega) only [hcb, nI_lt', nI_le', nI_eq', nI_add', nI_mul', nI_sub', nI_cl', tg_0, tg_1, bit1_eq, bit1_eq0, hb_bit, up_k, up_j, up_s, nI_em1, Bool.true_eq_false, Bool.false_eq_true, not_true_eq_false, not_false_eq_true]; omega) | omega)) (fun _ => ?_)) | (refine And.intro (fun _ => ?_) (fun h => absurd (by first | (simp (disch := omega) only [hcb, nI_lt', nI_le', nI_eq', nI_add', nI_mul', nI_sub', nI_cl', tg_0, tg_1, bit1_eq, bit1_eq0, hb_bit, up_k, up_j, up_s, nI_em1, Bool.true_eq_false, Bool.false_eq_true, not_true_eq_false, not_false_eq_true]; done) | (simp (disch := omega) only [hcb, nI_lt', nI_le', nI_eq', nI_add', nI_mul', nI_sub', nI_cl', tg_0, tg_1, bit1_eq, bit1_eq0, hb_bit, up_k, up_j, up_s, nI_em1, Bool.true_eq_false, Bool.false_eq_true, not_true_eq_false, not_false_eq_true]; omega) | omega) h)) | (refine And.intro (fun _ => ?_) (fun _ => ?_)) | (refine And.intro (by first | decide | (with_reducible assumption) | ((with_reducible refine in_nI ?_ ?_) <;> omega) | ((try (conv => arg 2; whnf)); (try simp (disch := omega) only [hcb, nI_lt', nI_le', nI_eq', nI_add', nI_mul', nI_sub', nI_cl', tg_0, tg_1, bit1_eq, bit1_eq0, hb_bit, up_k, up_j, up_s, nI_em1, Bool.true_eq_false, Bool.false_eq_true, not_true_eq_false, not_false_eq_true]); (with_reducible refine in_nI ?_ ?_) <;> omega)) ?_) | fail)) <;> (try (conv => whnf)))
          exact h0 (fun z => hq (z.2 j (by omega)))
    exact loop (bl k) 0 (by omega) (fun i hi => by omega)
  · ((repeat' ((conv => whnf); first | (refine And.intro (fun h => absurd h (by decide)) (fun _ => ?_)) | (refine And.intro (fun _ => ?_) (fun h => (h (by decide)).elim)) | (refine And.intro (fun h => absurd h (by first | (simp (disch := omega) only [nI_lt', nI_le', nI_eq', nI_add', nI_mul', nI_sub', nI_cl', tg_0, tg_1, bit1_eq, bit1_eq0, hb_bit, up_k, up_j, up_s, nI_em1, Bool.true_eq_false, Bool.false_eq_true, not_true_eq_false, not_false_eq_true]; done) | (simp (disch := omega) only [nI_lt', nI_le', nI_eq', nI_add', nI_mul', nI_sub', nI_cl', tg_0, tg_1, bit1_eq, bit1_eq0, hb_bit, up_k, up_j, up_s, nI_em1, Bool.true_eq_false, Bool.false_eq_true, not_true_eq_false, not_false_eq_true]; omega) | omega)) (fun _ => ?_)) | (refine And.intro (fun _ => ?_) (fun h => absurd (by first | (simp (disch := omega) only [nI_lt', nI_le', nI_eq', nI_add', nI_mul', nI_sub', nI_cl', tg_0, tg_1, bit1_eq, bit1_eq0, hb_bit, up_k, up_j, up_s, nI_em1, Bool.true_eq_false, Bool.false_eq_true, not_true_eq_false, not_false_eq_true]; done) | (simp (disch := omega) only [nI_lt', nI_le', nI_eq', nI_add', nI_mul', nI_sub', nI_cl', tg_0, tg_1, bit1_eq, bit1_eq0, hb_bit, up_k, up_j, up_s, nI_em1, Bool.true_eq_false, Bool.false_eq_true, not_true_eq_false, not_false_eq_true]; omega) | omega) h)) | (refine And.intro (fun _ => ?_) (fun _ => ?_)) | (refine And.intro (by first | decide | (with_reducible assumption) | ((with_reducible refine in_nI ?_ ?_) <;> omega) | ((try (conv => arg 2; whnf)); (try simp (disch := omega) only [nI_lt', nI_le', nI_eq', nI_add', nI_mul', nI_sub', nI_cl', tg_0, tg_1, bit1_eq, bit1_eq0, hb_bit, up_k, up_j, up_s, nI_em1, Bool.true_eq_false, Bool.false_eq_true, not_true_eq_false, not_false_eq_true]); (with_reducible refine in_nI ?_ ?_) <;> omega)) ?_) | fail)) <;> (try (conv => whnf)))
    exact h0 (fun z => hl z.1)
/-! numbers -/
def nvn (tx : Nat → Nat) (s : Nat) : Nat → Nat
  | 0 => 0
  | k + 1 => 10 * nvn tx s k + tx (s + k) - 48
def nm (n : Nat) (tx : Nat → Nat) (s e K : Nat) : Option Nat := if s < n ∧ dg (tx s) = true ∧ e - s ≤ 2 ∧ nvn tx s (e - s) < K then some (nvn tx s (e - s)) else none
theorem km1 {K v : Nat} (hK : K < 2 ^ 30) (hv : v < 2 ^ 30) : (nI K - nI 1 < nI v) = (K ≤ v) := by
  by_cases h : K = 0
  · subst h
    have h2 : nI 0 - nI 1 < nI v := Int32.lt_of_lt_of_le (show nI 0 - nI 1 < nI 0 by decide) (by rw [nI_le' (by omega) (by omega)]; omega)
    simp [h2]
  · rw [nI_sub' (by omega), nI_lt' (by omega) (by omega)]
    exact propext ⟨fun _ => by omega, fun _ => by omega⟩
theorem nvn_le {n : Nat} {tx : Nat → Nat} {s : Nat} (h : s < n) (hs : dg (tx s) = true) (hl : te n tx s - s ≤ 2) : nvn tx s (te n tx s - s) < 100 := by
  have hal : ∀ j, j < te n tx s - s → 48 ≤ tx (s + j) ∧ tx (s + j) ≤ 57 := fun j hj => dg_i.mp (te_dg h hs (by omega) (by omega)).1
  generalize te n tx s - s = L at *
  rcases (show L = 0 ∨ L = 1 ∨ L = 2 by omega) with e | e | e <;> subst e
  · simp only [nvn]; omega
  · have l0 := hal 0 (by omega)
    simp only [nvn]; omega
  · have l0 := hal 0 (by omega)
    have l1 := hal 1 (by omega)
    simp only [nvn]; omega
set_option maxRecDepth 20000 in
set_option maxHeartbeats 1000000 in
theorem c_nextNumber {l : Launch} {X : XT} {d n p K : Nat} {σ : ST} {Q : Option AV → ST → Prop} {tx : Nat → Nat} {x : Int32} (hx : x = nI K - nI 1) (hK : K ≤ 100) (hp : p ≤ n) (hT : TX n tx σ) (he : σ 21 3 = nI p) {s e : Nat} (hs : s = ts n tx p) (hee : e = te n tx s)
    (h1 : ∀ σ' v, nm n tx s e K = some v → RT s e σ' → Fr fRd σ σ' → Q (some (.inl (nI v))) σ') (h0 : ∀ σ', nm n tx s e K = none → RT s e σ' → Fr fRd σ σ' → Q (some (.inl (-1))) σ') : MT l X (d + 3) i_Reader_nextNumber [.inr (6, 21), .inl x] σ Q := by
  subst hx
  have hn := hT.1
  have hb : ∀ i, i < n → tx i < 256 := fun i hi => (hT.2.2 i hi).1
  have htn := (ts_ge (tx := tx)).2 hp
  have hte := te_ge (n := n) (tx := tx) (s := s)
  refine mt_wp g_Reader_nextNumber (by decide) k_Reader_nextNumber (by simp) ?_
  intro CT G hCT hG
  refine hG [46] 60 0 _ _ _ ?_
  ((repeat' ((conv => whnf); first | (refine And.intro (fun h => absurd h (by decide)) (fun _ => ?_)) | (refine And.intro (fun _ => ?_) (fun h => (h (by decide)).elim)) | (refine And.intro (fun h => absurd h (by first | (simp (disch := omega) only [nI_lt', nI_le', nI_eq', nI_add', nI_mul', nI_sub', nI_cl', tg_0, tg_1, bit1_eq, bit1_eq0, hb_bit, up_k, up_j, up_s, nI_em1, Bool.true_eq_false, Bool.false_eq_true, not_true_eq_false, not_false_eq_true]; done) | (simp (disch := omega) only [nI_lt', nI_le', nI_eq', nI_add', nI_mul', nI_sub', nI_cl', tg_0, tg_1, bit1_eq, bit1_eq0, hb_bit, up_k, up_j, up_s, nI_em1, Bool.true_eq_false, Bool.false_eq_true, not_true_eq_false, not_false_eq_true]; omega) | omega)) (fun _ => ?_)) | (refine And.intro (fun _ => ?_) (fun h => absurd (by first | (simp (disch := omega) only [nI_lt', nI_le', nI_eq', nI_add', nI_mul', nI_sub', nI_cl', tg_0, tg_1, bit1_eq, bit1_eq0, hb_bit, up_k, up_j, up_s, nI_em1, Bool.true_eq_false, Bool.false_eq_true, not_true_eq_false, not_false_eq_true]; done) | (simp (disch := omega) only [nI_lt', nI_le', nI_eq', nI_add', nI_mul', nI_sub', nI_cl', tg_0, tg_1, bit1_eq, bit1_eq0, hb_bit, up_k, up_j, up_s, nI_em1, Bool.true_eq_false, Bool.false_eq_true, not_true_eq_false, not_false_eq_true]; omega) | omega) h)) | (refine And.intro (fun _ => ?_) (fun _ => ?_)) | (refine And.intro (by first | decide | (with_reducible assumption) | ((with_reducible refine in_nI ?_ ?_) <;> omega) | ((try (conv => arg 2; whnf)); (try simp (disch := omega) only [nI_lt', nI_le', nI_eq', nI_add', nI_mul', nI_sub', nI_cl', tg_0, tg_1, bit1_eq, bit1_eq0, hb_bit, up_k, up_j, up_s, nI_em1, Bool.true_eq_false, Bool.false_eq_true, not_true_eq_false, not_false_eq_true]); (with_reducible refine in_nI ?_ ?_) <;> omega)) ?_) | fail)) <;> (try (conv => whnf)))
  refine hCT _ _ _ _ (c_step hp hT he (fun σ1 hR hF => ?_))
  rw [← hs, ← hee] at hR
  rw [← hs] at htn
  rw [← hee] at hte
  have hT1 : TX n tx σ1 := hT.keep (fun k j z => hF k j (by unfold fRd; omega))
  obtain ⟨r1, r2⟩ := id hR
  have hsub : nI e - nI s = nI (e - s) := nI_sub' hte.1
  ((repeat' ((conv => whnf); first | (refine And.intro (fun h => absurd h (by decide)) (fun _ => ?_)) | (refine And.intro (fun _ => ?_) (fun h => (h (by decide)).elim)) | (refine And.intro (fun h => absurd h (by first | (simp (disch := omega) only [nI_lt', nI_le', nI_eq', nI_add', nI_mul', nI_sub', nI_cl', tg_0, tg_1, bit1_eq, bit1_eq0, hb_bit, up_k, up_j, up_s, nI_em1, Bool.true_eq_false, Bool.false_eq_true, not_true_eq_false, not_false_eq_true]; done) | (simp (disch := omega) only [nI_lt', nI_le', nI_eq', nI_add', nI_mul', nI_sub', nI_cl', tg_0, tg_1, bit1_eq, bit1_eq0, hb_bit, up_k, up_j, up_s, nI_em1, Bool.true_eq_false, Bool.false_eq_true, not_true_eq_false, not_false_eq_true]; omega) | omega)) (fun _ => ?_)) | (refine And.intro (fun _ => ?_) (fun h => absurd (by first | (simp (disch := omega) only [nI_lt', nI_le', nI_eq', nI_add', nI_mul', nI_sub', nI_cl', tg_0, tg_1, bit1_eq, bit1_eq0, hb_bit, up_k, up_j, up_s, nI_em1, Bool.true_eq_false, Bool.false_eq_true, not_true_eq_false, not_false_eq_true]; done) | (simp (disch := omega) only [nI_lt', nI_le', nI_eq', nI_add', nI_mul', nI_sub', nI_cl', tg_0, tg_1, bit1_eq, bit1_eq0, hb_bit, up_k, up_j, up_s, nI_em1, Bool.true_eq_false, Bool.false_eq_true, not_true_eq_false, not_false_eq_true]; omega) | omega) h)) | (refine And.intro (fun _ => ?_) (fun _ => ?_)) | (refine And.intro (by first | decide | (with_reducible assumption) | ((with_reducible refine in_nI ?_ ?_) <;> omega) | ((try (conv => arg 2; whnf)); (try simp (disch := omega) only [nI_lt', nI_le', nI_eq', nI_add', nI_mul', nI_sub', nI_cl', tg_0, tg_1, bit1_eq, bit1_eq0, hb_bit, up_k, up_j, up_s, nI_em1, Bool.true_eq_false, Bool.false_eq_true, not_true_eq_false, not_false_eq_true]); (with_reducible refine in_nI ?_ ?_) <;> omega)) ?_) | fail)) <;> (try (conv => whnf)))
  refine hCT _ _ _ _ (c_at (p := s) r1 (by omega) hT1 ?_)
  ((repeat' ((conv => whnf); first | (refine And.intro (fun h => absurd h (by decide)) (fun _ => ?_)) | (refine And.intro (fun _ => ?_) (fun h => (h (by decide)).elim)) | (refine And.intro (fun h => absurd h (by first | (simp (disch := omega) only [nI_lt', nI_le', nI_eq', nI_add', nI_mul', nI_sub', nI_cl', tg_0, tg_1, bit1_eq, bit1_eq0, hb_bit, up_k, up_j, up_s, nI_em1, Bool.true_eq_false, Bool.false_eq_true, not_true_eq_false, not_false_eq_true]; done) | (simp (disch := omega) only [nI_lt', nI_le', nI_eq', nI_add', nI_mul', nI_sub', nI_cl', tg_0, tg_1, bit1_eq, bit1_eq0, hb_bit, up_k, up_j, up_s, nI_em1, Bool.true_eq_false, Bool.false_eq_true, not_true_eq_false, not_false_eq_true]; omega) | omega)) (fun _ => ?_)) | (refine And.intro (fun _ => ?_) (fun h => absurd (by first | (simp (disch := omega) only [nI_lt', nI_le', nI_eq', nI_add', nI_mul', nI_sub', nI_cl', tg_0, tg_1, bit1_eq, bit1_eq0, hb_bit, up_k, up_j, up_s, nI_em1, Bool.true_eq_false, Bool.false_eq_true, not_true_eq_false, not_false_eq_true]; done) | (simp (disch := omega) only [nI_lt', nI_le', nI_eq', nI_add', nI_mul', nI_sub', nI_cl', tg_0, tg_1, bit1_eq, bit1_eq0, hb_bit, up_k, up_j, up_s, nI_em1, Bool.true_eq_false, Bool.false_eq_true, not_true_eq_false, not_false_eq_true]; omega) | omega) h)) | (refine And.intro (fun _ => ?_) (fun _ => ?_)) | (refine And.intro (by first | decide | (with_reducible assumption) | ((with_reducible refine in_nI ?_ ?_) <;> omega) | ((try (conv => arg 2; whnf)); (try simp (disch := omega) only [nI_lt', nI_le', nI_eq', nI_add', nI_mul', nI_sub', nI_cl', tg_0, tg_1, bit1_eq, bit1_eq0, hb_bit, up_k, up_j, up_s, nI_em1, Bool.true_eq_false, Bool.false_eq_true, not_true_eq_false, not_false_eq_true]); (with_reducible refine in_nI ?_ ?_) <;> omega)) ?_) | fail)) <;> (try (conv => whnf)))
  refine hCT _ _ _ _ (c_isDigit (hb s) (fun z1 z2 => ?_) (fun z => ?_))
  · simp only [r1, r2, hsub]
    by_cases hl : e - s ≤ 2
    · have hnv := nvn_le (n := n) (tx := tx) (s := s) z1 z2 (by rw [← hee]; exact hl)
      rw [← hee] at hnv
      ((repeat' ((conv => whnf); first | (refine And.intro (fun h => absurd h (by decide)) (fun _ => ?_)) | (refine And.intro (fun _ => ?_) (fun h => (h (by decide)).elim)) | (refine And.intro (fun h => absurd h (by first | (simp (disch := omega) only [nI_lt', nI_le', nI_eq', nI_add', nI_mul', nI_sub', nI_cl', tg_0, tg_1, bit1_eq, bit1_eq0, hb_bit, up_k, up_j, up_s, nI_em1, Bool.true_eq_false, Bool.false_eq_true, not_true_eq_false, not_false_eq_true]; done) | (simp (disch := omega) only [nI_lt', nI_le', nI_eq', nI_add', nI_mul', nI_sub', nI_cl', tg_0, tg_1, bit1_eq, bit1_eq0, hb_bit, up_k, up_j, up_s, nI_em1, Bool.true_eq_false, Bool.false_eq_true, not_true_eq_false, not_false_eq_true]; omega) | omega)) (fun _ => ?_)) | (refine And.intro (fun _ => ?_) (fun h => absurd (by first | (simp (disch := omega) only [nI_lt', nI_le', nI_eq', nI_add', nI_mul', nI_sub', nI_cl', tg_0, tg_1, bit1_eq, bit1_eq0, hb_bit, up_k, up_j, up_s, nI_em1, Bool.true_eq_false, Bool.false_eq_true, not_true_eq_false, not_false_eq_true]; done) | (simp (disch := omega) only [nI_lt', nI_le', nI_eq', nI_add', nI_mul', nI_sub', nI_cl', tg_0, tg_1, bit1_eq, bit1_eq0, hb_bit, up_k, up_j, up_s, nI_em1, Bool.true_eq_false, Bool.false_eq_true, not_true_eq_false, not_false_eq_true]; omega) | omega) h)) | (refine And.intro (fun _ => ?_) (fun _ => ?_)) | (refine And.intro (by first | decide | (with_reducible assumption) | ((with_reducible refine in_nI ?_ ?_) <;> omega) | ((try (conv => arg 2; whnf)); (try simp (disch := omega) only [nI_lt', nI_le', nI_eq', nI_add', nI_mul', nI_sub', nI_cl', tg_0, tg_1, bit1_eq, bit1_eq0, hb_bit, up_k, up_j, up_s, nI_em1, Bool.true_eq_false, Bool.false_eq_true, not_true_eq_false, not_false_eq_true]); (with_reducible refine in_nI ?_ ?_) <;> omega)) ?_) | fail)) <;> (try (conv => whnf)))
      simp only [r1]
      have loop : ∀ m j, j + m = e - s → G 46 [some (.inr (6, 21)), some (.inl (nI K - nI 1)), some (.inl (nI (e - s))), some (.inl (nI (nvn tx s j))), some (.inl (nI (s + j)))] [] σ1 := by
        intro m
        induction m with
        | zero =>
          intro j hj
          obtain rfl : j = e - s := by omega
          have hk := km1 (K := K) (v := nvn tx s (e - s)) (by omega) (by omega)
          have hse : s + (e - s) = e := by omega
          refine hG [46] 60 46 _ _ _ ?_
          rw [hse]
          by_cases hlt : nvn tx s (e - s) < K
          · have hk : ¬ (nI K - nI 1 < nI (nvn tx s (e - s))) := by rw [hk]; omega
            ((repeat' ((conv => whnf); first | (refine And.intro (fun h => absurd h (by decide)) (fun _ => ?_)) | (refine And.intro (fun _ => ?_) (fun h => (h (by decide)).elim)) | (refine And.intro (fun h => absurd h (by first | (simp (disch := omega) only [r2, hk, nI_lt', nI_le', nI_eq', nI_add', nI_mul', nI_sub', nI_cl', tg_0, tg_1, bit1_eq, bit1_eq0, hb_bit, up_k, up_j, up_s, nI_em1, Bool.true_eq_false, Bool.false_eq_true, not_true_eq_false, not_false_eq_true]; done) | (simp (disch := omega) only [r2, hk, nI_lt', nI_le', nI_eq', nI_add', nI_mul', nI_sub', nI_cl', tg_0, tg_1, bit1_eq, bit1_eq0, hb_bit, up_k, up_j, up_s, nI_em1, Bool.true_eq_false, Bool.false_eq_true, not_true_eq_false, not_false_eq_true]; omega) | omega)) (fun _ => ?_)) | (refine And.intro (fun _ => ?_) (fun h => absurd (by first | (simp (disch := omega) only [r2, hk, nI_lt', nI_le', nI_eq', nI_add', nI_mul', nI_sub', nI_cl', tg_0, tg_1, bit1_eq, bit1_eq0, hb_bit, up_k, up_j, up_s, nI_em1, Bool.true_eq_false, Bool.false_eq_true, not_true_eq_false, not_false_eq_true]; done) | (simp (disch := omega) only [r2, hk, nI_lt', nI_le', nI_eq', nI_add', nI_mul', nI_sub', nI_cl', tg_0, tg_1, bit1_eq, bit1_eq0, hb_bit, up_k, up_j, up_s, nI_em1, Bool.true_eq_false, Bool.false_eq_true, not_true_eq_false, not_false_eq_true]; omega) | omega) h)) | (refine And.intro (fun _ => ?_) (fun _ => ?_)) | (refine And.intro (by first | decide | (with_reducible assumption) | ((with_reducible refine in_nI ?_ ?_) <;> omega) | ((try (conv => arg 2; whnf)); (try simp (disch := omega) only [r2, hk, nI_lt', nI_le', nI_eq', nI_add', nI_mul', nI_sub', nI_cl', tg_0, tg_1, bit1_eq, bit1_eq0, hb_bit, up_k, up_j, up_s, nI_em1, Bool.true_eq_false, Bool.false_eq_true, not_true_eq_false, not_false_eq_true]); (with_reducible refine in_nI ?_ ?_) <;> omega)) ?_) | fail)) <;> (try (conv => whnf)))
            exact h1 σ1 _ (by unfold nm; rw [if_pos ⟨z1, z2, hl, hlt⟩]) hR hF
          · have hk : nI K - nI 1 < nI (nvn tx s (e - s)) := by rw [hk]; omega
            ((repeat' ((conv => whnf); first | (refine And.intro (fun h => absurd h (by decide)) (fun _ => ?_)) | (refine And.intro (fun _ => ?_) (fun h => (h (by decide)).elim)) | (refine And.intro (fun h => absurd h (by first | (simp (disch := omega) only [r2, hk, nI_lt', nI_le', nI_eq', nI_add', nI_mul', nI_sub', nI_cl', tg_0, tg_1, bit1_eq, bit1_eq0, hb_bit, up_k, up_j, up_s, nI_em1, Bool.true_eq_false, Bool.false_eq_true, not_true_eq_false, not_false_eq_true]; done) | (simp (disch := omega) only [r2, hk, nI_lt', nI_le', nI_eq', nI_add', nI_mul', nI_sub', nI_cl', tg_0, tg_1, bit1_eq, bit1_eq0, hb_bit, up_k, up_j, up_s, nI_em1, Bool.true_eq_false, Bool.false_eq_true, not_true_eq_false, not_false_eq_true]; omega) | omega)) (fun _ => ?_)) | (refine And.intro (fun _ => ?_) (fun h => absurd (by first | (simp (disch := omega) only [r2, hk, nI_lt', nI_le', nI_eq', nI_add', nI_mul', nI_sub', nI_cl', tg_0, tg_1, bit1_eq, bit1_eq0, hb_bit, up_k, up_j, up_s, nI_em1, Bool.true_eq_false, Bool.false_eq_true, not_true_eq_false, not_false_eq_true]; done) | (simp (disch := omega) only [r2, hk, nI_lt', nI_le', nI_eq', nI_add', nI_mul', nI_sub', nI_cl', tg_0, tg_1, bit1_eq, bit1_eq0, hb_bit, up_k, up_j, up_s, nI_em1, Bool.true_eq_false, Bool.false_eq_true, not_true_eq_false, not_false_eq_true]; omega) | omega) h)) | (refine And.intro (fun _ => ?_) (fun _ => ?_)) | (refine And.intro (by first | decide | (with_reducible assumption) | ((with_reducible refine in_nI ?_ ?_) <;> omega) | ((try (conv => arg 2; whnf)); (try simp (disch := omega) only [r2, hk, nI_lt', nI_le', nI_eq', nI_add', nI_mul', nI_sub', nI_cl', tg_0, tg_1, bit1_eq, bit1_eq0, hb_bit, up_k, up_j, up_s, nI_em1, Bool.true_eq_false, Bool.false_eq_true, not_true_eq_false, not_false_eq_true]); (with_reducible refine in_nI ?_ ?_) <;> omega)) ?_) | fail)) <;> (try (conv => whnf)))
            exact h0 σ1 (by unfold nm; rw [if_neg (fun z => hlt z.2.2.2)]) hR hF
        | succ m ih =>
          intro j hj
          have hdj := te_dg (i := s + j) z1 z2 (by omega) (by rw [← hee]; omega)
          have hdg := dg_i.mp hdj.1
          refine hG [46] 60 46 _ _ _ ?_
          ((repeat' ((conv => whnf); first | (refine And.intro (fun h => absurd h (by decide)) (fun _ => ?_)) | (refine And.intro (fun _ => ?_) (fun h => (h (by decide)).elim)) | (refine And.intro (fun h => absurd h (by first | (simp (disch := omega) only [r2, nI_lt', nI_le', nI_eq', nI_add', nI_mul', nI_sub', nI_cl', tg_0, tg_1, bit1_eq, bit1_eq0, hb_bit, up_k, up_j, up_s, nI_em1, Bool.true_eq_false, Bool.false_eq_true, not_true_eq_false, not_false_eq_true]; done) | (simp (disch := omega) only [r2, nI_lt', nI_le', nI_eq', nI_add', nI_mul', nI_sub', nI_cl', tg_0, tg_1, bit1_eq, bit1_eq0, hb_bit, up_k, up_j, up_s, nI_em1, Bool.true_eq_false, Bool.false_eq_true, not_true_eq_false, not_false_eq_true]; omega) | omega)) (fun _ => ?_)) | (refine And.intro (fun _ => ?_) (fun h => absurd (by first | (simp (disch := omega) only [r2, nI_lt', nI_le', nI_eq', nI_add', nI_mul', nI_sub', nI_cl', tg_0, tg_1, bit1_eq, bit1_eq0, hb_bit, up_k, up_j, up_s, nI_em1, Bool.true_eq_false, Bool.false_eq_true, not_true_eq_false, not_false_eq_true]; done) | (simp (disch := omega) only [r2, nI_lt', nI_le', nI_eq', nI_add', nI_mul', nI_sub', nI_cl', tg_0, tg_1, bit1_eq, bit1_eq0, hb_bit, up_k, up_j, up_s, nI_em1, Bool.true_eq_false, Bool.false_eq_true, not_true_eq_false, not_false_eq_true]; omega) | omega) h)) | (refine And.intro (fun _ => ?_) (fun _ => ?_)) | (refine And.intro (by first | decide | (with_reducible assumption) | ((with_reducible refine in_nI ?_ ?_) <;> omega) | ((try (conv => arg 2; whnf)); (try simp (disch := omega) only [r2, nI_lt', nI_le', nI_eq', nI_add', nI_mul', nI_sub', nI_cl', tg_0, tg_1, bit1_eq, bit1_eq0, hb_bit, up_k, up_j, up_s, nI_em1, Bool.true_eq_false, Bool.false_eq_true, not_true_eq_false, not_false_eq_true]); (with_reducible refine in_nI ?_ ?_) <;> omega)) ?_) | fail)) <;> (try (conv => whnf)))
          refine hCT _ _ _ _ (c_at (p := s + j) rfl (by omega) hT1 ?_)
          ((repeat' ((conv => whnf); first | (refine And.intro (fun h => absurd h (by decide)) (fun _ => ?_)) | (refine And.intro (fun _ => ?_) (fun h => (h (by decide)).elim)) | (refine And.intro (fun h => absurd h (by first | (simp (disch := omega) only [nI_lt', nI_le', nI_eq', nI_add', nI_mul', nI_sub', nI_cl', tg_0, tg_1, bit1_eq, bit1_eq0, hb_bit, up_k, up_j, up_s, nI_em1, Bool.true_eq_false, Bool.false_eq_true, not_true_eq_false, not_false_eq_true]; done) | (simp (disch := omega) only [nI_lt', nI_le', nI_eq', nI_add', nI_mul', nI_sub', nI_cl', tg_0, tg_1, bit1_eq, bit1_eq0, hb_bit, up_k, up_j, up_s, nI_em1, Bool.true_eq_false, Bool.false_eq_true, not_true_eq_false, not_false_eq_true]; omega) | omega)) (fun _ => ?_)) | (refine And.intro (fun _ => ?_) (fun h => absurd (by first | (simp (disch := omega) only [nI_lt', nI_le', nI_eq', nI_add', nI_mul', nI_sub', nI_cl', tg_0, tg_1, bit1_eq, bit1_eq0, hb_bit, up_k, up_j, up_s, nI_em1, Bool.true_eq_false, Bool.false_eq_true, not_true_eq_false, not_false_eq_true]; done) | (simp (disch := omega) only [nI_lt', nI_le', nI_eq', nI_add', nI_mul', nI_sub', nI_cl', tg_0, tg_1, bit1_eq, bit1_eq0, hb_bit, up_k, up_j, up_s, nI_em1, Bool.true_eq_false, Bool.false_eq_true, not_true_eq_false, not_false_eq_true]; omega) | omega) h)) | (refine And.intro (fun _ => ?_) (fun _ => ?_)) | (refine And.intro (by first | decide | (with_reducible assumption) | ((with_reducible refine in_nI ?_ ?_) <;> omega) | ((try (conv => arg 2; whnf)); (try simp (disch := omega) only [nI_lt', nI_le', nI_eq', nI_add', nI_mul', nI_sub', nI_cl', tg_0, tg_1, bit1_eq, bit1_eq0, hb_bit, up_k, up_j, up_s, nI_em1, Bool.true_eq_false, Bool.false_eq_true, not_true_eq_false, not_false_eq_true]); (with_reducible refine in_nI ?_ ?_) <;> omega)) ?_) | fail)) <;> (try (conv => whnf)))
          have hci : chI n tx (s + j) = nI (tx (s + j)) := by unfold chI; rw [if_pos hdj.2]
          rw [hci, nI_mul', nI_add', nI_sub' (show 48 ≤ nvn tx s j * 10 + tx (s + j) by omega), nI_add', Nat.mul_comm (nvn tx s j) 10]
          exact ih (j + 1) (by omega)
      exact loop (e - s) 0 (by omega)
    · ((repeat' ((conv => whnf); first | (refine And.intro (fun h => absurd h (by decide)) (fun _ => ?_)) | (refine And.intro (fun _ => ?_) (fun h => (h (by decide)).elim)) | (refine And.intro (fun h => absurd h (by first | (simp (disch := omega) only [nI_lt', nI_le', nI_eq', nI_add', nI_mul', nI_sub', nI_cl', tg_0, tg_1, bit1_eq, bit1_eq0, hb_bit, up_k, up_j, up_s, nI_em1, Bool.true_eq_false, Bool.false_eq_true, not_true_eq_false, not_false_eq_true]; done) | (simp (disch := omega) only [nI_lt', nI_le', nI_eq', nI_add', nI_mul', nI_sub', nI_cl', tg_0, tg_1, bit1_eq, bit1_eq0, hb_bit, up_k, up_j, up_s, nI_em1, Bool.true_eq_false, Bool.false_eq_true, not_true_eq_false, not_false_eq_true]; omega) | omega)) (fun _ => ?_)) | (refine And.intro (fun _ => ?_) (fun h => absurd (by first | (simp (disch := omega) only [nI_lt', nI_le', nI_eq', nI_add', nI_mul', nI_sub', nI_cl', tg_0, tg_1, bit1_eq, bit1_eq0, hb_bit, up_k, up_j, up_s, nI_em1, Bool.true_eq_false, Bool.false_eq_true, not_true_eq_false, not_false_eq_true]; done) | (simp (disch := omega) only [nI_lt', nI_le', nI_eq', nI_add', nI_mul', nI_sub', nI_cl', tg_0, tg_1, bit1_eq, bit1_eq0, hb_bit, up_k, up_j, up_s, nI_em1, Bool.true_eq_false, Bool.false_eq_true, not_true_eq_false, not_false_eq_true]; omega) | omega) h)) | (refine And.intro (fun _ => ?_) (fun _ => ?_)) | (refine And.intro (by first | decide | (with_reducible assumption) | ((with_reducible refine in_nI ?_ ?_) <;> omega) | ((try (conv => arg 2; whnf)); (try simp (disch := omega) only [nI_lt', nI_le', nI_eq', nI_add', nI_mul', nI_sub', nI_cl', tg_0, tg_1, bit1_eq, bit1_eq0, hb_bit, up_k, up_j, up_s, nI_em1, Bool.true_eq_false, Bool.false_eq_true, not_true_eq_false, not_false_eq_true]); (with_reducible refine in_nI ?_ ?_) <;> omega)) ?_) | fail)) <;> (try (conv => whnf)))
      exact h0 σ1 (by unfold nm; rw [if_neg (fun z => hl z.2.2.1)]) hR hF
  · ((repeat' ((conv => whnf); first | (refine And.intro (fun h => absurd h (by decide)) (fun _ => ?_)) | (refine And.intro (fun _ => ?_) (fun h => (h (by decide)).elim)) | (refine And.intro (fun h => absurd h (by first | (simp (disch := omega) only [nI_lt', nI_le', nI_eq', nI_add', nI_mul', nI_sub', nI_cl', tg_0, tg_1, bit1_eq, bit1_eq0, hb_bit, up_k, up_j, up_s, nI_em1, Bool.true_eq_false, Bool.false_eq_true, not_true_eq_false, not_false_eq_true]; done) | (simp (disch := omega) only [nI_lt', nI_le', nI_eq', nI_add', nI_mul', nI_sub', nI_cl', tg_0, tg_1, bit1_eq, bit1_eq0, hb_bit, up_k, up_j, up_s, nI_em1, Bool.true_eq_false, Bool.false_eq_true, not_true_eq_false, not_false_eq_true]; omega) | omega)) (fun _ => ?_)) | (refine And.intro (fun _ => ?_) (fun h => absurd (by first | (simp (disch := omega) only [nI_lt', nI_le', nI_eq', nI_add', nI_mul', nI_sub', nI_cl', tg_0, tg_1, bit1_eq, bit1_eq0, hb_bit, up_k, up_j, up_s, nI_em1, Bool.true_eq_false, Bool.false_eq_true, not_true_eq_false, not_false_eq_true]; done) | (simp (disch := omega) only [nI_lt', nI_le', nI_eq', nI_add', nI_mul', nI_sub', nI_cl', tg_0, tg_1, bit1_eq, bit1_eq0, hb_bit, up_k, up_j, up_s, nI_em1, Bool.true_eq_false, Bool.false_eq_true, not_true_eq_false, not_false_eq_true]; omega) | omega) h)) | (refine And.intro (fun _ => ?_) (fun _ => ?_)) | (refine And.intro (by first | decide | (with_reducible assumption) | ((with_reducible refine in_nI ?_ ?_) <;> omega) | ((try (conv => arg 2; whnf)); (try simp (disch := omega) only [nI_lt', nI_le', nI_eq', nI_add', nI_mul', nI_sub', nI_cl', tg_0, tg_1, bit1_eq, bit1_eq0, hb_bit, up_k, up_j, up_s, nI_em1, Bool.true_eq_false, Bool.false_eq_true, not_true_eq_false, not_false_eq_true]); (with_reducible refine in_nI ?_ ?_) <;> omega)) ?_) | fail)) <;> (try (conv => whnf)))
    exact h0 σ1 (by unfold nm; rw [if_neg (fun q => z ⟨q.1, q.2.1⟩)]) hR hF
