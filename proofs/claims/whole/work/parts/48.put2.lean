theorem pa_none {P ms rm n : Nat} {y z v : Int32} (h : pa P ms rm n y z v = none) : ms ≠ 1 ∧ n ≠ rm ∧ ∃ t, t ≤ 2 ∧ z = nI t := by
  unfold pa at h
  split at h
  · cases h
  · split at h
    · cases h
    · rename_i q2
      split at h
      · cases h
      · rename_i q3
        split at h
        · cases h
        · rename_i q4
          split at h
          · cases h
          · rename_i q5
            refine ⟨q3, q5, ?_⟩
            have hw : wll z v := Classical.byContradiction (fun u => q2 (Or.inr u))
            rcases hw with w | w | w | w
            · exact ⟨0, by omega, w.1⟩
            · exact ⟨2, by omega, w.1⟩
            · exact ⟨1, by omega, w⟩
            · exact absurd w q4
set_option maxRecDepth 20000 in
set_option maxHeartbeats 1000000 in
theorem op_put {l : Launch} {X : XT} {σ : ST} (hI : Inv σ) (x y z v : Int32) : Op l X i_D_put i_M_put [.inl x, .inl y, .inl z, .inl v] σ := by
  intro Q h
  obtain ⟨w, ⟨hW, hE⟩, hR, hM⟩ := hI.2.2.1
  have r1 := hR.1.2.1
  have w1 := hW.2.1
  have c1 : σ 165 1 = nI (w 1) := hM.ms 1 (by omega) (by omega)
  rcases is_or x 3 with ⟨c, hc, rfl⟩ | hn
  · obtain ⟨ms, rm, n, so, va, fi, b1, b2, b3, b4, b5, a1, a2, a3, a4, a5, a6, a7⟩ := hI.2.2.2.2.2.2 c hc
    refine c_put (d := 35) (P := w 1) (ms := ms) (rm := rm) (n := n) (fi := fi) hc r1 b3 b2 b1 b4 a1 a2 a3 a4 (fun r e => ?_) (fun e ey => ?_) (fun e ey => ?_)
    · refine h _ _ (fun Q' h' => ?_)
      refine m_put (d := 35) (P := w 1) (ms := ms) (rm := rm) (n := n) hc c1 w1 b3 b2 b1 a5 a6 (fun r' e' => ?_) (fun e' ey' => ?_) (fun e' ey' => ?_)
      · rw [e] at e'; cases e'; exact h' _ hI
      · subst ey'; rw [e] at e'; cases e'
      · subst ey'; rw [e] at e'; cases e'
    · subst ey
      obtain ⟨n1, n2, t, ht, rfl⟩ := pa_none e
      obtain rfl : ms = 0 := by omega
      refine h _ _ (fun Q' h' => ?_)
      generalize hσ1 : up (up (up (up σ (152 + 3 * c) 2 (nI ((fi + 8) % 9))) (152 + 3 * c) 5 (nI (n + 1))) (152 + 3 * c + 1) ((fi + 8) % 9) (nI t)) (152 + 3 * c + 2) ((fi + 8) % 9) v = σ1
      have hk1 : ∀ k j, ¬ (152 + 3 * c ≤ k ∧ k ≤ 154 + 3 * c) → σ1 k j = σ k j := fun k j z => by rw [← hσ1, up_k (by omega), up_k (by omega), up_k (by omega), up_k (by omega)]
      refine m_put (d := 35) (P := w 1) (ms := 0) (rm := rm) (n := n) hc (by rw [hk1 _ _ (by omega)]; exact c1) w1 b3 b2 b1 (by rw [hk1 _ _ (by omega)]; exact a5) (by rw [hk1 _ _ (by omega)]; exact a6) (fun r' e' => by rw [e] at e'; cases e') (fun _ _ σ2 f1 f2 => ?_) (fun _ ey => absurd ey (by decide))
      have hk2 : ∀ k j, ¬ ((k = 177 ∨ k = 178) ∧ 9 * c ≤ j ∧ j < 9 * c + 9) → ¬ (k = 176 ∧ j = c) → up (up (up σ2 177 (9 * c + 0) (nI t)) 178 (9 * c + 0) v) 176 c (nI (n + 1)) k j = σ1 k j := fun k j z1 z2 => by
        rw [← f2 k j z1]
        unfold up
        rw [if_neg z2, if_neg (by omega), if_neg (by omega)]
      refine h' _ (hI.cup1 (c := c) (ms := 0) (rm := rm) (n := n + 1) (so := fun i => if i = 0 then t else so (i - 1)) (va := fun i => if i = 0 then v else va (i - 1)) (fi := (fi + 8) % 9) hc ⟨by omega, b2, by omega, by omega, by omega, ?_, ?_, ?_, ?_, ?_, up_s, fun i hi => ?_⟩ (fun k j hf => ?_))
      · rw [hk2 _ _ (by omega) (by omega), ← hσ1, up_k (by omega), up_k (by omega), up_j (by omega), up_s]
      · rw [hk2 _ _ (by omega) (by omega), ← hσ1, up_k (by omega), up_k (by omega), up_j (by omega), up_j (by omega)]; exact a2
      · rw [hk2 _ _ (by omega) (by omega), ← hσ1, up_k (by omega), up_k (by omega), up_j (by omega), up_j (by omega)]; exact a3
      · rw [hk2 _ _ (by omega) (by omega), ← hσ1, up_k (by omega), up_k (by omega), up_s]
      · rw [hk2 _ _ (by omega) (by omega), hk1 _ _ (by omega)]; exact a5
      · dsimp only
        by_cases i0 : i = 0
        · subst i0
          rw [if_pos rfl, if_pos rfl, show ((fi + 8) % 9 + 0) % 9 = (fi + 8) % 9 by omega]
          refine ⟨ht, ?_, ?_, ?_, ?_⟩
          · rw [hk2 _ _ (by omega) (by omega), ← hσ1, up_k (by omega), up_s]
          · rw [hk2 _ _ (by omega) (by omega), ← hσ1, up_s]
          · rw [up_k (by omega), up_k (by omega), up_s]
          · rw [up_k (by omega), up_s]
        · rw [if_neg i0, if_neg i0]
          obtain ⟨w1, w2, w3, w4, w5⟩ := a7 (i - 1) (by omega)
          have g := f1 (i - 1) (by omega)
          rw [show 9 * c + (i - 1) + 1 = 9 * c + i by omega, hk1 _ _ (by omega), hk1 _ _ (by omega)] at g
          have hp : ((fi + 8) % 9 + i) % 9 = (fi + (i - 1)) % 9 := by omega
          have hq : (fi + (i - 1)) % 9 ≠ (fi + 8) % 9 := by omega
          rw [hp]
          refine ⟨w1, ?_, ?_, ?_, ?_⟩
          · rw [hk2 _ _ (by omega) (by omega), ← hσ1, up_k (by omega), up_j hq, up_k (by omega), up_k (by omega)]; exact w2
          · rw [hk2 _ _ (by omega) (by omega), ← hσ1, up_j hq, up_k (by omega), up_k (by omega), up_k (by omega)]; exact w3
          · rw [up_k (by omega), up_k (by omega), up_j (by omega), g.1]; exact w4
          · rw [up_k (by omega), up_j (by omega), up_k (by omega), g.2]; exact w5
      · unfold f_cup1 at hf
        rw [hk2 _ _ (by omega) (by omega), hk1 _ _ (by omega)]
    · subst ey
      obtain ⟨n1, n2, t, ht, rfl⟩ := pa_none e
      obtain rfl : ms = 0 := by omega
      refine h _ _ (fun Q' h' => ?_)
      generalize hσ1 : up (up (up σ (152 + 3 * c) 5 (nI (n + 1))) (152 + 3 * c + 1) ((fi + n) % 9) (nI t)) (152 + 3 * c + 2) ((fi + n) % 9) v = σ1
      have hk1 : ∀ k j, ¬ (152 + 3 * c ≤ k ∧ k ≤ 154 + 3 * c) → σ1 k j = σ k j := fun k j z => by rw [← hσ1, up_k (by omega), up_k (by omega), up_k (by omega)]
      refine m_put (d := 35) (P := w 1) (ms := 0) (rm := rm) (n := n) hc (by rw [hk1 _ _ (by omega)]; exact c1) w1 b3 b2 b1 (by rw [hk1 _ _ (by omega)]; exact a5) (by rw [hk1 _ _ (by omega)]; exact a6) (fun r' e' => by rw [e] at e'; cases e') (fun _ ey => absurd ey (by decide)) (fun _ _ => ?_)
      have hk2 : ∀ k j, ¬ ((k = 177 ∨ k = 178) ∧ j = 9 * c + n) → ¬ (k = 176 ∧ j = c) → up (up (up σ1 177 (9 * c + n) (nI t)) 178 (9 * c + n) v) 176 c (nI (n + 1)) k j = σ1 k j := fun k j z1 z2 => by
        unfold up
        rw [if_neg z2, if_neg (by omega), if_neg (by omega)]
      refine h' _ (hI.cup1 (c := c) (ms := 0) (rm := rm) (n := n + 1) (so := fun i => if i = n then t else so i) (va := fun i => if i = n then v else va i) (fi := fi) hc ⟨by omega, b2, by omega, by omega, by omega, ?_, ?_, ?_, ?_, ?_, up_s, fun i hi => ?_⟩ (fun k j hf => ?_))
      · rw [hk2 _ _ (by omega) (by omega), ← hσ1, up_k (by omega), up_k (by omega), up_j (by omega)]; exact a1
      · rw [hk2 _ _ (by omega) (by omega), ← hσ1, up_k (by omega), up_k (by omega), up_j (by omega)]; exact a2
      · rw [hk2 _ _ (by omega) (by omega), ← hσ1, up_k (by omega), up_k (by omega), up_j (by omega)]; exact a3
      · rw [hk2 _ _ (by omega) (by omega), ← hσ1, up_k (by omega), up_k (by omega), up_s]
      · rw [hk2 _ _ (by omega) (by omega), hk1 _ _ (by omega)]; exact a5
      · dsimp only
        by_cases i0 : i = n
        · subst i0
          rw [if_pos rfl, if_pos rfl]
          refine ⟨ht, ?_, ?_, ?_, ?_⟩
          · rw [hk2 _ _ (by omega) (by omega), ← hσ1, up_k (by omega), up_s]
          · rw [hk2 _ _ (by omega) (by omega), ← hσ1, up_s]
          · rw [up_k (by omega), up_k (by omega), up_s]
          · rw [up_k (by omega), up_s]
        · rw [if_neg i0, if_neg i0]
          obtain ⟨w1, w2, w3, w4, w5⟩ := a7 i (by omega)
          have hq : (fi + i) % 9 ≠ (fi + n) % 9 := by omega
          refine ⟨w1, ?_, ?_, ?_, ?_⟩
          · rw [hk2 _ _ (by omega) (by omega), ← hσ1, up_k (by omega), up_j hq, up_k (by omega)]; exact w2
          · rw [hk2 _ _ (by omega) (by omega), ← hσ1, up_j hq, up_k (by omega), up_k (by omega)]; exact w3
          · rw [hk2 _ _ (by omega) (by omega), hk1 _ _ (by omega)]; exact w4
          · rw [hk2 _ _ (by omega) (by omega), hk1 _ _ (by omega)]; exact w5
      · unfold f_cup1 at hf
        rw [hk2 _ _ (by omega) (by omega), hk1 _ _ (by omega)]
  · refine mt_wp g_D_put (by decide) k_D_put (by simp) ?_
    intro CT G hCT hG
    refine hG [] 60 0 _ _ _ ?_
    ((repeat' ((conv => whnf); first | (refine And.intro (fun h => absurd h (by decide)) (fun _ => ?_)) | (refine And.intro (fun _ => ?_) (fun h => (h (by decide)).elim)) | (refine And.intro (fun h => absurd h (by first | (simp (disch := omega) only [nI_lt', nI_le', nI_eq', nI_add', nI_mul', nI_sub', nI_cl', tg_0, tg_1, bit1_eq, bit1_eq0, hb_bit, up_k, up_j, up_s, nI_em1, Bool.true_eq_false, Bool.false_eq_true, not_true_eq_false, not_false_eq_true]; done) | (simp (disch := omega) only [nI_lt', nI_le', nI_eq', nI_add', nI_mul', nI_sub', nI_cl', tg_0, tg_1, bit1_eq, bit1_eq0, hb_bit, up_k, up_j, up_s, nI_em1, Bool.true_eq_false, Bool.false_eq_true, not_true_eq_false, not_false_eq_true]; omega) | omega)) (fun _ => ?_)) | (refine And.intro (fun _ => ?_) (fun h => absurd (by first | (simp (disch := omega) only [nI_lt', nI_le', nI_eq', nI_add', nI_mul', nI_sub', nI_cl', tg_0, tg_1, bit1_eq, bit1_eq0, hb_bit, up_k, up_j, up_s, nI_em1, Bool.true_eq_false, Bool.false_eq_true, not_true_eq_false, not_false_eq_true]; done) | (simp (disch := omega) only [nI_lt', nI_le', nI_eq', nI_add', nI_mul', nI_sub', nI_cl', tg_0, tg_1, bit1_eq, bit1_eq0, hb_bit, up_k, up_j, up_s, nI_em1, Bool.true_eq_false, Bool.false_eq_true, not_true_eq_false, not_false_eq_true]; omega) | omega) h)) | (refine And.intro (fun _ => ?_) (fun _ => ?_)) | (refine And.intro (by first | decide | (with_reducible assumption) | ((with_reducible refine in_nI ?_ ?_) <;> omega) | ((try (conv => arg 2; whnf)); (try simp (disch := omega) only [nI_lt', nI_le', nI_eq', nI_add', nI_mul', nI_sub', nI_cl', tg_0, tg_1, bit1_eq, bit1_eq0, hb_bit, up_k, up_j, up_s, nI_em1, Bool.true_eq_false, Bool.false_eq_true, not_true_eq_false, not_false_eq_true]); (with_reducible refine in_nI ?_ ?_) <;> omega)) ?_) | fail)) <;> (try (conv => whnf)))
    refine hCT _ _ _ _ (c_isCupN hn ?_)
    ((repeat' ((conv => whnf); first | (refine And.intro (fun h => absurd h (by decide)) (fun _ => ?_)) | (refine And.intro (fun _ => ?_) (fun h => (h (by decide)).elim)) | (refine And.intro (fun h => absurd h (by first | (simp (disch := omega) only [nI_lt', nI_le', nI_eq', nI_add', nI_mul', nI_sub', nI_cl', tg_0, tg_1, bit1_eq, bit1_eq0, hb_bit, up_k, up_j, up_s, nI_em1, Bool.true_eq_false, Bool.false_eq_true, not_true_eq_false, not_false_eq_true]; done) | (simp (disch := omega) only [nI_lt', nI_le', nI_eq', nI_add', nI_mul', nI_sub', nI_cl', tg_0, tg_1, bit1_eq, bit1_eq0, hb_bit, up_k, up_j, up_s, nI_em1, Bool.true_eq_false, Bool.false_eq_true, not_true_eq_false, not_false_eq_true]; omega) | omega)) (fun _ => ?_)) | (refine And.intro (fun _ => ?_) (fun h => absurd (by first | (simp (disch := omega) only [nI_lt', nI_le', nI_eq', nI_add', nI_mul', nI_sub', nI_cl', tg_0, tg_1, bit1_eq, bit1_eq0, hb_bit, up_k, up_j, up_s, nI_em1, Bool.true_eq_false, Bool.false_eq_true, not_true_eq_false, not_false_eq_true]; done) | (simp (disch := omega) only [nI_lt', nI_le', nI_eq', nI_add', nI_mul', nI_sub', nI_cl', tg_0, tg_1, bit1_eq, bit1_eq0, hb_bit, up_k, up_j, up_s, nI_em1, Bool.true_eq_false, Bool.false_eq_true, not_true_eq_false, not_false_eq_true]; omega) | omega) h)) | (refine And.intro (fun _ => ?_) (fun _ => ?_)) | (refine And.intro (by first | decide | (with_reducible assumption) | ((with_reducible refine in_nI ?_ ?_) <;> omega) | ((try (conv => arg 2; whnf)); (try simp (disch := omega) only [nI_lt', nI_le', nI_eq', nI_add', nI_mul', nI_sub', nI_cl', tg_0, tg_1, bit1_eq, bit1_eq0, hb_bit, up_k, up_j, up_s, nI_em1, Bool.true_eq_false, Bool.false_eq_true, not_true_eq_false, not_false_eq_true]); (with_reducible refine in_nI ?_ ?_) <;> omega)) ?_) | fail)) <;> (try (conv => whnf)))
    refine h _ _ (fun Q' h' => ?_)
    refine mt_wp g_M_put (by decide) k_M_put (by simp) ?_
    intro CT G hCT hG
    refine hG [] 60 0 _ _ _ ?_
    ((repeat' ((conv => whnf); first | (refine And.intro (fun h => absurd h (by decide)) (fun _ => ?_)) | (refine And.intro (fun _ => ?_) (fun h => (h (by decide)).elim)) | (refine And.intro (fun h => absurd h (by first | (simp (disch := omega) only [nI_lt', nI_le', nI_eq', nI_add', nI_mul', nI_sub', nI_cl', tg_0, tg_1, bit1_eq, bit1_eq0, hb_bit, up_k, up_j, up_s, nI_em1, Bool.true_eq_false, Bool.false_eq_true, not_true_eq_false, not_false_eq_true]; done) | (simp (disch := omega) only [nI_lt', nI_le', nI_eq', nI_add', nI_mul', nI_sub', nI_cl', tg_0, tg_1, bit1_eq, bit1_eq0, hb_bit, up_k, up_j, up_s, nI_em1, Bool.true_eq_false, Bool.false_eq_true, not_true_eq_false, not_false_eq_true]; omega) | omega)) (fun _ => ?_)) | (refine And.intro (fun _ => ?_) (fun h => absurd (by first | (simp (disch := omega) only [nI_lt', nI_le', nI_eq', nI_add', nI_mul', nI_sub', nI_cl', tg_0, tg_1, bit1_eq, bit1_eq0, hb_bit, up_k, up_j, up_s, nI_em1, Bool.true_eq_false, Bool.false_eq_true, not_true_eq_false, not_false_eq_true]; done) | (simp (disch := omega) only [nI_lt', nI_le', nI_eq', nI_add', nI_mul', nI_sub', nI_cl', tg_0, tg_1, bit1_eq, bit1_eq0, hb_bit, up_k, up_j, up_s, nI_em1, Bool.true_eq_false, Bool.false_eq_true, not_true_eq_false, not_false_eq_true]; omega) | omega) h)) | (refine And.intro (fun _ => ?_) (fun _ => ?_)) | (refine And.intro (by first | decide | (with_reducible assumption) | ((with_reducible refine in_nI ?_ ?_) <;> omega) | ((try (conv => arg 2; whnf)); (try simp (disch := omega) only [nI_lt', nI_le', nI_eq', nI_add', nI_mul', nI_sub', nI_cl', tg_0, tg_1, bit1_eq, bit1_eq0, hb_bit, up_k, up_j, up_s, nI_em1, Bool.true_eq_false, Bool.false_eq_true, not_true_eq_false, not_false_eq_true]); (with_reducible refine in_nI ?_ ?_) <;> omega)) ?_) | fail)) <;> (try (conv => whnf)))
    refine hCT _ _ _ _ (m_isCupN hn ?_)
    ((repeat' ((conv => whnf); first | (refine And.intro (fun h => absurd h (by decide)) (fun _ => ?_)) | (refine And.intro (fun _ => ?_) (fun h => (h (by decide)).elim)) | (refine And.intro (fun h => absurd h (by first | (simp (disch := omega) only [nI_lt', nI_le', nI_eq', nI_add', nI_mul', nI_sub', nI_cl', tg_0, tg_1, bit1_eq, bit1_eq0, hb_bit, up_k, up_j, up_s, nI_em1, Bool.true_eq_false, Bool.false_eq_true, not_true_eq_false, not_false_eq_true]; done) | (simp (disch := omega) only [nI_lt', nI_le', nI_eq', nI_add', nI_mul', nI_sub', nI_cl', tg_0, tg_1, bit1_eq, bit1_eq0, hb_bit, up_k, up_j, up_s, nI_em1, Bool.true_eq_false, Bool.false_eq_true, not_true_eq_false, not_false_eq_true]; omega) | omega)) (fun _ => ?_)) | (refine And.intro (fun _ => ?_) (fun h => absurd (by first | (simp (disch := omega) only [nI_lt', nI_le', nI_eq', nI_add', nI_mul', nI_sub', nI_cl', tg_0, tg_1, bit1_eq, bit1_eq0, hb_bit, up_k, up_j, up_s, nI_em1, Bool.true_eq_false, Bool.false_eq_true, not_true_eq_false, not_false_eq_true]; done) | (simp (disch := omega) only [nI_lt', nI_le', nI_eq', nI_add', nI_mul', nI_sub', nI_cl', tg_0, tg_1, bit1_eq, bit1_eq0, hb_bit, up_k, up_j, up_s, nI_em1, Bool.true_eq_false, Bool.false_eq_true, not_true_eq_false, not_false_eq_true]; omega) | omega) h)) | (refine And.intro (fun _ => ?_) (fun _ => ?_)) | (refine And.intro (by first | decide | (with_reducible assumption) | ((with_reducible refine in_nI ?_ ?_) <;> omega) | ((try (conv => arg 2; whnf)); (try simp (disch := omega) only [nI_lt', nI_le', nI_eq', nI_add', nI_mul', nI_sub', nI_cl', tg_0, tg_1, bit1_eq, bit1_eq0, hb_bit, up_k, up_j, up_s, nI_em1, Bool.true_eq_false, Bool.false_eq_true, not_true_eq_false, not_false_eq_true]); (with_reducible refine in_nI ?_ ?_) <;> omega)) ?_) | fail)) <;> (try (conv => whnf)))
    exact h' _ hI
