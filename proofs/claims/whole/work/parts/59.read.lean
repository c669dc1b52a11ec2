/-! ===== clauses: what they do to the draft ===== -/
def addK (w : La) (o v : Nat) : La := upN (upN (upN w (3 + 3 * w 0) o) (4 + 3 * w 0) v) 0 (w 0 + 1)
def addP (w : La) (q h g : Nat) : La := upN (upN (upN (upN w (24 + 4 * w 1) q) (25 + 4 * w 1) h) (26 + 4 * w 1) g) 1 (w 1 + 1)
def addF (w : La) (a b : Nat) : La := upN (upN w (27 + 4 * a) (w (27 + 4 * a) ||| 2 ^ b)) (27 + 4 * b) (w (27 + 4 * b) ||| 2 ^ a)
theorem addK_o {w : La} {o v j : Nat} (h1 : j ≠ 0) (h2 : j ≠ 3 + 3 * w 0) (h3 : j ≠ 4 + 3 * w 0) : addK w o v j = w j := by unfold addK; rw [upN_n h1, upN_n h3, upN_n h2]
theorem addK_0 {w : La} {o v : Nat} : addK w o v 0 = w 0 + 1 := upN_s
theorem addK_1 {w : La} {o v : Nat} : addK w o v (3 + 3 * w 0) = o := by unfold addK; rw [upN_n (by omega), upN_n (by omega), upN_s]
theorem addK_2 {w : La} {o v : Nat} : addK w o v (4 + 3 * w 0) = v := by unfold addK; rw [upN_n (by omega), upN_s]
theorem addP_o {w : La} {q h g j : Nat} (h1 : j ≠ 1) (h2 : j ≠ 24 + 4 * w 1) (h3 : j ≠ 25 + 4 * w 1) (h4 : j ≠ 26 + 4 * w 1) : addP w q h g j = w j := by unfold addP; rw [upN_n h1, upN_n h4, upN_n h3, upN_n h2]
theorem addP_1 {w : La} {q h g : Nat} : addP w q h g 1 = w 1 + 1 := upN_s
theorem addP_k {w : La} {q h g : Nat} : addP w q h g (24 + 4 * w 1) = q := by unfold addP; rw [upN_n (by omega), upN_n (by omega), upN_n (by omega), upN_s]
theorem addP_h {w : La} {q h g : Nat} : addP w q h g (25 + 4 * w 1) = h := by unfold addP; rw [upN_n (by omega), upN_n (by omega), upN_s]
theorem addP_g {w : La} {q h g : Nat} : addP w q h g (26 + 4 * w 1) = g := by unfold addP; rw [upN_n (by omega), upN_s]
theorem addF_o {w : La} {a b j : Nat} (h1 : j ≠ 27 + 4 * a) (h2 : j ≠ 27 + 4 * b) : addF w a b j = w j := by unfold addF; rw [upN_n h2, upN_n h1]
theorem addF_b {w : La} {a b : Nat} : addF w a b (27 + 4 * b) = w (27 + 4 * b) ||| 2 ^ a := by unfold addF; rw [upN_s]
theorem addF_a {w : La} {a b : Nat} (h : a ≠ b) : addF w a b (27 + 4 * a) = w (27 + 4 * a) ||| 2 ^ b := by unfold addF; rw [upN_n (by omega), upN_s]
theorem WT_addK {w : La} {o v : Nat} (hW : WT w) (h7 : w 0 < 7) (ho : o ≤ 1) (hv : v ≤ 4) : WT (addK w o v) := by
  obtain ⟨⟨w0, w1, wk, wpp⟩, e0, el, ef⟩ := hW
  refine ⟨⟨by rw [addK_0]; omega, by rw [addK_o (by omega) (by omega) (by omega)]; exact w1, fun k hk => ?_, fun p hp => ?_⟩, by rw [addK_o (by omega) (by omega) (by omega)]; exact e0, fun k hk => by rw [addK_o (by omega) (by omega) (by omega)]; exact el k hk, fun p h1 h2 => ?_⟩
  · rw [addK_0] at hk
    by_cases e : k = w 0
    · subst e; rw [addK_1, addK_2]; exact ⟨ho, hv⟩
    · rw [addK_o (by omega) (by omega) (by omega), addK_o (by omega) (by omega) (by omega)]; exact wk k (by omega)
  · rw [addK_o (by omega) (by omega) (by omega)] at hp
    rw [addK_o (j := 24 + 4 * p) (by omega) (by omega) (by omega), addK_o (j := 25 + 4 * p) (by omega) (by omega) (by omega), addK_o (j := 26 + 4 * p) (by omega) (by omega) (by omega), addK_o (j := 27 + 4 * p) (by omega) (by omega) (by omega), addK_0]
    have := wpp p hp
    omega
  · rw [addK_o (by omega) (by omega) (by omega)] at h1
    rw [addK_o (by omega) (by omega) (by omega)]
    exact ef p h1 h2
theorem WT_addP {w : La} {q h g : Nat} (hW : WT w) (h6 : w 1 < 6) (hq : q < 5) (hh : h < w 0) (hg : g ≤ 40) : WT (addP w q h g) := by
  obtain ⟨⟨w0, w1, wk, wpp⟩, e0, el, ef⟩ := hW
  have p0 : addP w q h g 0 = w 0 := addP_o (by omega) (by omega) (by omega) (by omega)
  refine ⟨⟨by rw [p0]; exact w0, by rw [addP_1]; omega, fun k hk => ?_, fun p hp => ?_⟩, by rw [addP_o (by omega) (by omega) (by omega) (by omega)]; exact e0, fun k hk => by rw [addP_o (by omega) (by omega) (by omega) (by omega)]; exact el k hk, fun p h1 h2 => ?_⟩
  · rw [p0] at hk
    rw [addP_o (by omega) (by omega) (by omega) (by omega), addP_o (by omega) (by omega) (by omega) (by omega)]; exact wk k hk
  · rw [addP_1] at hp
    rw [p0]
    by_cases e : p = w 1
    · subst e
      rw [addP_k, addP_h, addP_g, addP_o (by omega) (by omega) (by omega) (by omega), ef _ (by omega) (by omega)]
      omega
    · rw [addP_o (j := 24 + 4 * p) (by omega) (by omega) (by omega) (by omega), addP_o (j := 25 + 4 * p) (by omega) (by omega) (by omega) (by omega), addP_o (j := 26 + 4 * p) (by omega) (by omega) (by omega) (by omega), addP_o (j := 27 + 4 * p) (by omega) (by omega) (by omega) (by omega)]
      exact wpp p (by omega)
  · rw [addP_1] at h1
    rw [addP_o (by omega) (by omega) (by omega) (by omega)]
    exact ef p (by omega) h2
theorem WT_addF {w : La} {a b : Nat} (hW : WT w) (ha : a < w 1) (hb : b < w 1) (hab : a ≠ b) : WT (addF w a b) := by
  obtain ⟨⟨w0, w1, wk, wpp⟩, e0, el, ef⟩ := hW
  have f0 : addF w a b 0 = w 0 := addF_o (by omega) (by omega)
  have f1 : addF w a b 1 = w 1 := addF_o (by omega) (by omega)
  refine ⟨⟨by rw [f0]; exact w0, by rw [f1]; exact w1, fun k hk => ?_, fun p hp => ?_⟩, by rw [addF_o (by omega) (by omega)]; exact e0, fun k hk => by rw [addF_o (by omega) (by omega)]; exact el k hk, fun p h1 h2 => ?_⟩
  · rw [f0] at hk
    rw [addF_o (by omega) (by omega), addF_o (by omega) (by omega)]; exact wk k hk
  · rw [f1] at hp
    have hp' := wpp p hp
    rw [addF_o (j := 24 + 4 * p) (by omega) (by omega), addF_o (j := 25 + 4 * p) (by omega) (by omega), addF_o (j := 26 + 4 * p) (by omega) (by omega), f0]
    refine ⟨hp'.1, hp'.2.1, hp'.2.2.1, ?_⟩
    by_cases ea : p = a
    · subst ea
      rw [addF_a hab]
      exact Nat.or_lt_two_pow (n := 6) hp'.2.2.2 (Nat.pow_lt_pow_right (by omega) (by omega))
    · by_cases eb : p = b
      · subst eb
        rw [addF_b]
        exact Nat.or_lt_two_pow (n := 6) hp'.2.2.2 (Nat.pow_lt_pow_right (by omega) (by omega))
      · rw [addF_o (by omega) (by omega)]; exact hp'.2.2.2
  · rw [f1] at h1
    rw [addF_o (by omega) (by omega)]
    exact ef p h1 h2
theorem WT_zero : WT (fun _ => 0) := ⟨⟨Nat.zero_le _, Nat.zero_le _, fun k hk => absurd hk (Nat.not_lt_zero k), fun p hp => absurd hp (Nat.not_lt_zero p)⟩, rfl, fun _ _ => rfl, fun _ _ _ => rfl⟩
theorem opn_addK {w : La} {o v : Nat} (hW : WT w) (h7 : w 0 < 7) : opn (addK w o v) = opn w ||| o * 2 ^ w 0 := by
  unfold opn
  rw [addK_0, or_add (ob_lt (w := w) (w 0) (fun k hk => (hW.1.2.2.1 k hk).1))]
  show ob (addK w o v) (w 0) + addK w o v (3 + 3 * w 0) * 2 ^ w 0 = _
  rw [addK_1, ob_congr (w 0) (fun k hk => addK_o (by omega) (by omega) (by omega))]
set_option maxRecDepth 20000 in
set_option maxHeartbeats 1000000 in
theorem c_addKitchen {l : Launch} {X : XT} {d o v : Nat} {σ : ST} {Q : Option AV → ST → Prop} {w : La} (hW : WT w) (h7 : w 0 < 7) (ho : o ≤ 1) (hR : RC w 12 σ) (h : ∀ σ', RC (addK w o v) 12 σ' → Fr (fLane 12) σ σ' → Q none σ') : MT l X (d + 1) i_Lane_addKitchen [.inr (3, 12), .inl (nI o), .inl (nI v)] σ Q := by
  obtain ⟨⟨c1, c2, c3, c4, c5⟩, he, hl, hg⟩ := id hR
  have w1 := hW.1.2.1
  have hp : 2 ^ w 0 ≤ 2 ^ 7 := Nat.pow_le_pow_right (by omega) (by omega)
  have fin : ∀ x, x = nI (opn w ||| o * 2 ^ w 0) → Q none (up (up (up (up σ 13 (w 0) (nI v)) 14 (w 0) (nI 0)) 12 3 x) 12 0 (nI (w 0 + 1))) := by
    intro x hx
    refine h _ ⟨⟨?_, ?_, ?_, fun k hk => ?_, fun p hp => ?_⟩, ?_, fun k hk => ?_, fun p hp => ?_⟩ ((((Fr.rf.up ⟨by omega, by omega⟩).up ⟨by omega, by omega⟩).up ⟨by omega, by omega⟩).up ⟨by omega, by omega⟩)
    · rw [up_s, addK_0]
    · rw [up_j (by omega), up_j (by omega), up_k (by omega), up_k (by omega), addK_o (by omega) (by omega) (by omega)]; exact c2
    · rw [up_j (by omega), up_s, hx, opn_addK hW h7]
    · rw [addK_0] at hk
      rw [up_k (by omega), up_k (by omega), up_k (by omega)]
      by_cases e : k = w 0
      · subst e; rw [up_s, addK_2]
      · rw [up_j e, addK_o (by omega) (by omega) (by omega)]; exact c4 k (by omega)
    · rw [addK_o (by omega) (by omega) (by omega)] at hp
      rw [up_k (by omega), up_k (by omega), up_k (by omega), up_k (by omega), up_k (by omega), up_k (by omega), up_k (by omega), up_k (by omega), up_k (by omega), up_k (by omega), up_k (by omega), up_k (by omega), addK_o (j := 24 + 4 * p) (by omega) (by omega) (by omega), addK_o (j := 25 + 4 * p) (by omega) (by omega) (by omega), addK_o (j := 27 + 4 * p) (by omega) (by omega) (by omega)]
      exact c5 p hp
    · rw [up_j (by omega), up_j (by omega), up_k (by omega), up_k (by omega), addK_o (by omega) (by omega) (by omega)]; exact he
    · rw [addK_0] at hk
      rw [up_k (by omega), up_k (by omega), addK_o (by omega) (by omega) (by omega)]
      by_cases e : k = w 0
      · subst e
        rw [show (12 + 2 : Nat) = 14 from rfl, up_s, hW.2.2.1 _ h7]
      · rw [show (12 + 2 : Nat) = 14 from rfl, up_j e, up_k (by omega)]
        exact hl k (by omega)
    · rw [addK_o (by omega) (by omega) (by omega)] at hp
      rw [up_k (by omega), up_k (by omega), up_k (by omega), up_k (by omega), addK_o (by omega) (by omega) (by omega)]
      exact hg p hp
  have e13 : (12 : Nat) + 1 = 13 := rfl
  have e14 : (12 : Nat) + 2 = 14 := rfl
  rcases (show o = 0 ∨ o = 1 by omega) with e | e <;> subst e
  · refine mt_wp g_Lane_addKitchen (by decide) k_Lane_addKitchen (by simp) ?_
    intro CT G hCT hG
    refine hG [] 60 0 _ _ _ ?_
    ((repeat' ((conv => whnf); first | (refine And.intro (fun h => absurd h (by decide)) (fun _ => ?_)) | (refine And.intro (fun _ => ?_) (fun h => (h (by decide)).elim)) | (refine And.intro (fun h => absurd h (by first | (simp (disch := omega) only [c1, nI_lt', nI_le', nI_eq', nI_add', nI_mul', nI_sub', nI_cl', tg_0, tg_1, bit1_eq, bit1_eq0, hb_bit, up_k, up_j, up_s, nI_em1, Bool.true_eq_false, Bool.false_eq_true, not_true_eq_false, not_false_eq_true]; done) | (simp (disch := omega) only [c1, nI_lt', nI_le', nI_eq', nI_add', nI_mul', nI_sub', nI_cl', tg_0, tg_1, bit1_eq, bit1_eq0, hb_bit, up_k, up_j, up_s, nI_em1, Bool.true_eq_false, Bool.false_eq_true, not_true_eq_false, not_false_eq_true]; omega) | omega)) (fun _ => ?_)) | (refine And.intro (fun _ => ?_) (fun h => absurd (by first | (simp (disch := omega) only [c1, nI_lt', nI_le', nI_eq', nI_add', nI_mul', nI_sub', nI_cl', tg_0, tg_1, bit1_eq, bit1_eq0, hb_bit, up_k, up_j, up_s, nI_em1, Bool.true_eq_false, Bool.false_eq_true, not_true_eq_false, not_false_eq_true]; done) | (simp (disch := omega) only [c1, nI_lt', nI_le', nI_eq', nI_add', nI_mul', nI_sub', nI_cl', tg_0, tg_1, bit1_eq, bit1_eq0, hb_bit, up_k, up_j, up_s, nI_em1, Bool.true_eq_false, Bool.false_eq_true, not_true_eq_false, not_false_eq_true]; omega) | omega) h)) | (refine And.intro (fun _ => ?_) (fun _ => ?_)) | (refine And.intro (by first | decide | (with_reducible assumption) | ((with_reducible refine in_nI ?_ ?_) <;> omega) | ((try (conv => arg 2; whnf)); (try simp (disch := omega) only [c1, nI_lt', nI_le', nI_eq', nI_add', nI_mul', nI_sub', nI_cl', tg_0, tg_1, bit1_eq, bit1_eq0, hb_bit, up_k, up_j, up_s, nI_em1, Bool.true_eq_false, Bool.false_eq_true, not_true_eq_false, not_false_eq_true]); (with_reducible refine in_nI ?_ ?_) <;> omega)) ?_) | fail)) <;> (try (conv => whnf)))
    simp (disch := omega) only [tg_1, e13, e14, c1, c3, up_k, up_j, up_s, nI_cl', nI_add', or_nI]
    exact fin _ (by rw [Nat.zero_mul])
  · refine mt_wp g_Lane_addKitchen (by decide) k_Lane_addKitchen (by simp) ?_
    intro CT G hCT hG
    refine hG [] 60 0 _ _ _ ?_
    ((repeat' ((conv => whnf); first | (refine And.intro (fun h => absurd h (by decide)) (fun _ => ?_)) | (refine And.intro (fun _ => ?_) (fun h => (h (by decide)).elim)) | (refine And.intro (fun h => absurd h (by first | (simp (disch := omega) only [c1, nI_lt', nI_le', nI_eq', nI_add', nI_mul', nI_sub', nI_cl', tg_0, tg_1, bit1_eq, bit1_eq0, hb_bit, up_k, up_j, up_s, nI_em1, Bool.true_eq_false, Bool.false_eq_true, not_true_eq_false, not_false_eq_true]; done) | (simp (disch := omega) only [c1, nI_lt', nI_le', nI_eq', nI_add', nI_mul', nI_sub', nI_cl', tg_0, tg_1, bit1_eq, bit1_eq0, hb_bit, up_k, up_j, up_s, nI_em1, Bool.true_eq_false, Bool.false_eq_true, not_true_eq_false, not_false_eq_true]; omega) | omega)) (fun _ => ?_)) | (refine And.intro (fun _ => ?_) (fun h => absurd (by first | (simp (disch := omega) only [c1, nI_lt', nI_le', nI_eq', nI_add', nI_mul', nI_sub', nI_cl', tg_0, tg_1, bit1_eq, bit1_eq0, hb_bit, up_k, up_j, up_s, nI_em1, Bool.true_eq_false, Bool.false_eq_true, not_true_eq_false, not_false_eq_true]; done) | (simp (disch := omega) only [c1, nI_lt', nI_le', nI_eq', nI_add', nI_mul', nI_sub', nI_cl', tg_0, tg_1, bit1_eq, bit1_eq0, hb_bit, up_k, up_j, up_s, nI_em1, Bool.true_eq_false, Bool.false_eq_true, not_true_eq_false, not_false_eq_true]; omega) | omega) h)) | (refine And.intro (fun _ => ?_) (fun _ => ?_)) | (refine And.intro (by first | decide | (with_reducible assumption) | ((with_reducible refine in_nI ?_ ?_) <;> omega) | ((try (conv => arg 2; whnf)); (try simp (disch := omega) only [c1, nI_lt', nI_le', nI_eq', nI_add', nI_mul', nI_sub', nI_cl', tg_0, tg_1, bit1_eq, bit1_eq0, hb_bit, up_k, up_j, up_s, nI_em1, Bool.true_eq_false, Bool.false_eq_true, not_true_eq_false, not_false_eq_true]); (with_reducible refine in_nI ?_ ?_) <;> omega)) ?_) | fail)) <;> (try (conv => whnf)))
    simp (disch := omega) only [tg_1, e13, e14, c1, c3, up_k, up_j, up_s, nI_cl', nI_add', shl_nI, or_nI]
    exact fin _ rfl
set_option maxRecDepth 20000 in
set_option maxHeartbeats 1000000 in
theorem c_addPerson {l : Launch} {X : XT} {d q hm g : Nat} {σ : ST} {Q : Option AV → ST → Prop} {w : La} (hW : WT w) (h6 : w 1 < 6) (hR : RC w 12 σ) (h : ∀ σ', RC (addP w q hm g) 12 σ' → Fr (fLane 12) σ σ' → Q none σ') : MT l X (d + 1) i_Lane_addPerson [.inr (3, 12), .inl (nI q), .inl (nI hm), .inl (nI g)] σ Q := by
  obtain ⟨⟨c1, c2, c3, c4, c5⟩, he, hl, hg⟩ := id hR
  have w0 := hW.1.1
  have e15 : (12 : Nat) + 3 = 15 := rfl
  have e16 : (12 : Nat) + 4 = 16 := rfl
  have e17 : (12 : Nat) + 5 = 17 := rfl
  have e18 : (12 : Nat) + 6 = 18 := rfl
  have fin : Q none (up (up (up (up (up σ 15 (w 1) (nI q)) 16 (w 1) (nI hm)) 17 (w 1) (nI g)) 18 (w 1) (nI 0)) 12 1 (nI (w 1 + 1))) := by
    refine h _ ⟨⟨?_, ?_, ?_, fun k hk => ?_, fun p hp => ?_⟩, ?_, fun k hk => ?_, fun p hp => ?_⟩ (((((Fr.rf.up ⟨by omega, by omega⟩).up ⟨by omega, by omega⟩).up ⟨by omega, by omega⟩).up ⟨by omega, by omega⟩).up ⟨by omega, by omega⟩)
    · rw [up_j (by omega), up_k (by omega), up_k (by omega), up_k (by omega), up_k (by omega), addP_o (by omega) (by omega) (by omega) (by omega)]; exact c1
    · rw [up_s, addP_1]
    · rw [up_j (by omega), up_k (by omega), up_k (by omega), up_k (by omega), up_k (by omega), c3]
      unfold opn
      rw [addP_o (j := 0) (by omega) (by omega) (by omega) (by omega), ob_congr (w 0) (fun k hk => (addP_o (by omega) (by omega) (by omega) (by omega)).symm)]
    · rw [addP_o (by omega) (by omega) (by omega) (by omega)] at hk
      rw [up_k (by omega), up_k (by omega), up_k (by omega), up_k (by omega), up_k (by omega), addP_o (by omega) (by omega) (by omega) (by omega)]; exact c4 k hk
    · rw [addP_1] at hp
      rw [e15, e16, e18]
      by_cases e : p = w 1
      · subst e
        rw [addP_k, addP_h, addP_o (by omega) (by omega) (by omega) (by omega), hW.2.2.2 _ (by omega) (by omega)]
        refine ⟨?_, ?_, ?_⟩
        · rw [up_k (by omega), up_k (by omega), up_k (by omega), up_k (by omega), up_s]
        · rw [up_k (by omega), up_k (by omega), up_k (by omega), up_s]
        · rw [up_k (by omega), up_s]
      · rw [addP_o (j := 24 + 4 * p) (by omega) (by omega) (by omega) (by omega), addP_o (j := 25 + 4 * p) (by omega) (by omega) (by omega) (by omega), addP_o (j := 27 + 4 * p) (by omega) (by omega) (by omega) (by omega)]
        have := c5 p (by omega)
        rw [e15, e16, e18] at this
        refine ⟨?_, ?_, ?_⟩
        · rw [up_k (by omega), up_k (by omega), up_k (by omega), up_k (by omega), up_j e]; exact this.1
        · rw [up_k (by omega), up_k (by omega), up_k (by omega), up_j e, up_k (by omega)]; exact this.2.1
        · rw [up_k (by omega), up_j e, up_k (by omega), up_k (by omega), up_k (by omega)]; exact this.2.2
    · rw [up_j (by omega), up_k (by omega), up_k (by omega), up_k (by omega), up_k (by omega), addP_o (by omega) (by omega) (by omega) (by omega)]; exact he
    · rw [addP_o (by omega) (by omega) (by omega) (by omega)] at hk
      rw [up_k (by omega), up_k (by omega), up_k (by omega), up_k (by omega), up_k (by omega), addP_o (by omega) (by omega) (by omega) (by omega)]; exact hl k hk
    · rw [addP_1] at hp
      rw [e17]
      by_cases e : p = w 1
      · subst e
        rw [addP_g, up_k (by omega), up_k (by omega), up_s]
      · rw [addP_o (by omega) (by omega) (by omega) (by omega), up_k (by omega), up_k (by omega), up_j e, up_k (by omega), up_k (by omega)]
        exact hg p (by omega)
  refine mt_wp g_Lane_addPerson (by decide) k_Lane_addPerson (by simp) ?_
  intro CT G hCT hG
  refine hG [] 60 0 _ _ _ ?_
  ((repeat' ((conv => whnf); first | (refine And.intro (fun h => absurd h (by decide)) (fun _ => ?_)) | (refine And.intro (fun _ => ?_) (fun h => (h (by decide)).elim)) | (refine And.intro (fun h => absurd h (by first | (simp (disch := omega) only [c2, nI_lt', nI_le', nI_eq', nI_add', nI_mul', nI_sub', nI_cl', tg_0, tg_1, bit1_eq, bit1_eq0, hb_bit, up_k, up_j, up_s, nI_em1, Bool.true_eq_false, Bool.false_eq_true, not_true_eq_false, not_false_eq_true]; done) | (simp (disch := omega) only [c2, nI_lt', nI_le', nI_eq', nI_add', nI_mul', nI_sub', nI_cl', tg_0, tg_1, bit1_eq, bit1_eq0, hb_bit, up_k, up_j, up_s, nI_em1, Bool.true_eq_false, Bool.false_eq_true, not_true_eq_false, not_false_eq_true]; omega) | omega)) (fun _ => ?_)) | (refine And.intro (fun _ => ?_) (fun h => absurd (by first | (simp (disch := omega) only [c2, nI_lt', nI_le', nI_eq', nI_add', nI_mul', nI_sub', nI_cl', tg_0, tg_1, bit1_eq, bit1_eq0, hb_bit, up_k, up_j, up_s, nI_em1, Bool.true_eq_false, Bool.false_eq_true, not_true_eq_false, not_false_eq_true]; done) | (simp (disch := omega) only [c2, nI_lt', nI_le', nI_eq', nI_add', nI_mul', nI_sub', nI_cl', tg_0, tg_1, bit1_eq, bit1_eq0, hb_bit, up_k, up_j, up_s, nI_em1, Bool.true_eq_false, Bool.false_eq_true, not_true_eq_false, not_false_eq_true]; omega) | omega) h)) | (refine And.intro (fun _ => ?_) (fun _ => ?_)) | (refine And.intro (by first | decide | (with_reducible assumption) | ((with_reducible refine in_nI ?_ ?_) <;> omega) | ((try (conv => arg 2; whnf)); (try simp (disch := omega) only [c2, nI_lt', nI_le', nI_eq', nI_add', nI_mul', nI_sub', nI_cl', tg_0, tg_1, bit1_eq, bit1_eq0, hb_bit, up_k, up_j, up_s, nI_em1, Bool.true_eq_false, Bool.false_eq_true, not_true_eq_false, not_false_eq_true]); (with_reducible refine in_nI ?_ ?_) <;> omega)) ?_) | fail)) <;> (try (conv => whnf)))
  simp (disch := omega) only [tg_1, e15, e16, e17, e18, c2, up_k, up_j, up_s, nI_cl', nI_add']
  exact fin
set_option maxRecDepth 20000 in
set_option maxHeartbeats 1000000 in
theorem c_fallOut {l : Launch} {X : XT} {d a b : Nat} {σ : ST} {Q : Option AV → ST → Prop} {w : La} (hW : WT w) (ha : a < w 1) (hb : b < w 1) (hab : a ≠ b) (hR : RC w 12 σ) (h : ∀ σ', RC (addF w a b) 12 σ' → Fr (fLane 12) σ σ' → Q none σ') : MT l X (d + 2) i_Lane_fallOut [.inr (3, 12), .inl (nI a), .inl (nI b)] σ Q := by
  obtain ⟨⟨c1, c2, c3, c4, c5⟩, he, hl, hg⟩ := id hR
  have w0 := hW.1.1
  have w1 := hW.1.2.1
  have e18 : (12 : Nat) + 6 = 18 := rfl
  have ea := (c5 a ha).2.2
  have eb := (c5 b hb).2.2
  rw [e18] at ea eb
  have p1 : 2 ^ a ≤ 2 ^ 6 := Nat.pow_le_pow_right (by omega) (by omega)
  have p2 : 2 ^ b ≤ 2 ^ 6 := Nat.pow_le_pow_right (by omega) (by omega)
  have fin : Q none (up (up σ 18 a (nI (w (27 + 4 * a) ||| 2 ^ b))) 18 b (nI (w (27 + 4 * b) ||| 2 ^ a))) := by
    refine h _ ⟨⟨?_, ?_, ?_, fun k hk => ?_, fun p hp => ?_⟩, ?_, fun k hk => ?_, fun p hp => ?_⟩ ((Fr.rf.up ⟨by omega, by omega⟩).up ⟨by omega, by omega⟩)
    · rw [up_k (by omega), up_k (by omega), addF_o (by omega) (by omega)]; exact c1
    · rw [up_k (by omega), up_k (by omega), addF_o (by omega) (by omega)]; exact c2
    · rw [up_k (by omega), up_k (by omega), c3]
      unfold opn
      rw [addF_o (j := 0) (by omega) (by omega), ob_congr (w 0) (fun k hk => (addF_o (by omega) (by omega)).symm)]
    · rw [addF_o (by omega) (by omega)] at hk
      rw [up_k (by omega), up_k (by omega), addF_o (by omega) (by omega)]; exact c4 k hk
    · rw [addF_o (by omega) (by omega)] at hp
      have := c5 p hp
      rw [up_k (by omega), up_k (by omega), up_k (by omega), up_k (by omega), addF_o (j := 24 + 4 * p) (by omega) (by omega), addF_o (j := 25 + 4 * p) (by omega) (by omega), e18]
      refine ⟨this.1, this.2.1, ?_⟩
      by_cases zb : p = b
      · subst zb; rw [up_s, addF_b]
      · rw [up_j zb]
        by_cases za : p = a
        · subst za; rw [up_s, addF_a hab]
        · rw [up_j za, addF_o (by omega) (by omega)]; exact this.2.2
    · rw [up_k (by omega), up_k (by omega), addF_o (by omega) (by omega)]; exact he
    · rw [addF_o (by omega) (by omega)] at hk
      rw [up_k (by omega), up_k (by omega), addF_o (by omega) (by omega)]; exact hl k hk
    · rw [addF_o (by omega) (by omega)] at hp
      rw [up_k (by omega), up_k (by omega), addF_o (by omega) (by omega)]; exact hg p hp
  refine mt_wp g_Lane_fallOut (by decide) k_Lane_fallOut (by simp) ?_
  intro CT G hCT hG
  refine hG [] 60 0 _ _ _ ?_
  ((repeat' ((conv => whnf); first | (refine And.intro (fun h => absurd h (by decide)) (fun _ => ?_)) | (refine And.intro (fun _ => ?_) (fun h => (h (by decide)).elim)) | (refine And.intro (fun h => absurd h (by first | (simp (disch := omega) only [nI_lt', nI_le', nI_eq', nI_add', nI_mul', nI_sub', nI_cl', tg_0, tg_1, bit1_eq, bit1_eq0, hb_bit, up_k, up_j, up_s, nI_em1, Bool.true_eq_false, Bool.false_eq_true, not_true_eq_false, not_false_eq_true]; done) | (simp (disch := omega) only [nI_lt', nI_le', nI_eq', nI_add', nI_mul', nI_sub', nI_cl', tg_0, tg_1, bit1_eq, bit1_eq0, hb_bit, up_k, up_j, up_s, nI_em1, Bool.true_eq_false, Bool.false_eq_true, not_true_eq_false, not_false_eq_true]; omega) | omega)) (fun _ => ?_)) | (refine And.intro (fun _ => ?_) (fun h => absurd (by first | (simp (disch := omega) only [nI_lt', nI_le', nI_eq', nI_add', nI_mul', nI_sub', nI_cl', tg_0, tg_1, bit1_eq, bit1_eq0, hb_bit, up_k, up_j, up_s, nI_em1, Bool.true_eq_false, Bool.false_eq_true, not_true_eq_false, not_false_eq_true]; done) | (simp (disch := omega) only [nI_lt', nI_le', nI_eq', nI_add', nI_mul', nI_sub', nI_cl', tg_0, tg_1, bit1_eq, bit1_eq0, hb_bit, up_k, up_j, up_s, nI_em1, Bool.true_eq_false, Bool.false_eq_true, not_true_eq_false, not_false_eq_true]; omega) | omega) h)) | (refine And.intro (fun _ => ?_) (fun _ => ?_)) | (refine And.intro (by first | decide | (with_reducible assumption) | ((with_reducible refine in_nI ?_ ?_) <;> omega) | ((try (conv => arg 2; whnf)); (try simp (disch := omega) only [nI_lt', nI_le', nI_eq', nI_add', nI_mul', nI_sub', nI_cl', tg_0, tg_1, bit1_eq, bit1_eq0, hb_bit, up_k, up_j, up_s, nI_em1, Bool.true_eq_false, Bool.false_eq_true, not_true_eq_false, not_false_eq_true]); (with_reducible refine in_nI ?_ ?_) <;> omega)) ?_) | fail)) <;> (try (conv => whnf)))
  refine hCT _ _ _ _ (c_hasPersonT (K := w 1) rfl c2 w1 ha ?_)
  ((repeat' ((conv => whnf); first | (refine And.intro (fun h => absurd h (by decide)) (fun _ => ?_)) | (refine And.intro (fun _ => ?_) (fun h => (h (by decide)).elim)) | (refine And.intro (fun h => absurd h (by first | (simp (disch := omega) only [nI_lt', nI_le', nI_eq', nI_add', nI_mul', nI_sub', nI_cl', tg_0, tg_1, bit1_eq, bit1_eq0, hb_bit, up_k, up_j, up_s, nI_em1, Bool.true_eq_false, Bool.false_eq_true, not_true_eq_false, not_false_eq_true]; done) | (simp (disch := omega) only [nI_lt', nI_le', nI_eq', nI_add', nI_mul', nI_sub', nI_cl', tg_0, tg_1, bit1_eq, bit1_eq0, hb_bit, up_k, up_j, up_s, nI_em1, Bool.true_eq_false, Bool.false_eq_true, not_true_eq_false, not_false_eq_true]; omega) | omega)) (fun _ => ?_)) | (refine And.intro (fun _ => ?_) (fun h => absurd (by first | (simp (disch := omega) only [nI_lt', nI_le', nI_eq', nI_add', nI_mul', nI_sub', nI_cl', tg_0, tg_1, bit1_eq, bit1_eq0, hb_bit, up_k, up_j, up_s, nI_em1, Bool.true_eq_false, Bool.false_eq_true, not_true_eq_false, not_false_eq_true]; done) | (simp (disch := omega) only [nI_lt', nI_le', nI_eq', nI_add', nI_mul', nI_sub', nI_cl', tg_0, tg_1, bit1_eq, bit1_eq0, hb_bit, up_k, up_j, up_s, nI_em1, Bool.true_eq_false, Bool.false_eq_true, not_true_eq_false, not_false_eq_true]; omega) | omega) h)) | (refine And.intro (fun _ => ?_) (fun _ => ?_)) | (refine And.intro (by first | decide | (with_reducible assumption) | ((with_reducible refine in_nI ?_ ?_) <;> omega) | ((try (conv => arg 2; whnf)); (try simp (disch := omega) only [nI_lt', nI_le', nI_eq', nI_add', nI_mul', nI_sub', nI_cl', tg_0, tg_1, bit1_eq, bit1_eq0, hb_bit, up_k, up_j, up_s, nI_em1, Bool.true_eq_false, Bool.false_eq_true, not_true_eq_false, not_false_eq_true]); (with_reducible refine in_nI ?_ ?_) <;> omega)) ?_) | fail)) <;> (try (conv => whnf)))
  refine hCT _ _ _ _ (c_hasPersonT (K := w 1) rfl c2 w1 hb ?_)
  ((repeat' ((conv => whnf); first | (refine And.intro (fun h => absurd h (by decide)) (fun _ => ?_)) | (refine And.intro (fun _ => ?_) (fun h => (h (by decide)).elim)) | (refine And.intro (fun h => absurd h (by first | (simp (disch := omega) only [nI_lt', nI_le', nI_eq', nI_add', nI_mul', nI_sub', nI_cl', tg_0, tg_1, bit1_eq, bit1_eq0, hb_bit, up_k, up_j, up_s, nI_em1, Bool.true_eq_false, Bool.false_eq_true, not_true_eq_false, not_false_eq_true]; done) | (simp (disch := omega) only [nI_lt', nI_le', nI_eq', nI_add', nI_mul', nI_sub', nI_cl', tg_0, tg_1, bit1_eq, bit1_eq0, hb_bit, up_k, up_j, up_s, nI_em1, Bool.true_eq_false, Bool.false_eq_true, not_true_eq_false, not_false_eq_true]; omega) | omega)) (fun _ => ?_)) | (refine And.intro (fun _ => ?_) (fun h => absurd (by first | (simp (disch := omega) only [nI_lt', nI_le', nI_eq', nI_add', nI_mul', nI_sub', nI_cl', tg_0, tg_1, bit1_eq, bit1_eq0, hb_bit, up_k, up_j, up_s, nI_em1, Bool.true_eq_false, Bool.false_eq_true, not_true_eq_false, not_false_eq_true]; done) | (simp (disch := omega) only [nI_lt', nI_le', nI_eq', nI_add', nI_mul', nI_sub', nI_cl', tg_0, tg_1, bit1_eq, bit1_eq0, hb_bit, up_k, up_j, up_s, nI_em1, Bool.true_eq_false, Bool.false_eq_true, not_true_eq_false, not_false_eq_true]; omega) | omega) h)) | (refine And.intro (fun _ => ?_) (fun _ => ?_)) | (refine And.intro (by first | decide | (with_reducible assumption) | ((with_reducible refine in_nI ?_ ?_) <;> omega) | ((try (conv => arg 2; whnf)); (try simp (disch := omega) only [nI_lt', nI_le', nI_eq', nI_add', nI_mul', nI_sub', nI_cl', tg_0, tg_1, bit1_eq, bit1_eq0, hb_bit, up_k, up_j, up_s, nI_em1, Bool.true_eq_false, Bool.false_eq_true, not_true_eq_false, not_false_eq_true]); (with_reducible refine in_nI ?_ ?_) <;> omega)) ?_) | fail)) <;> (try (conv => whnf)))
  simp (disch := omega) only [tg_1, e18, up_j, nI_cl', ea, eb]
  rw [shl_nI (by omega) (by omega), shl_nI (by omega) (by omega), Nat.one_mul, Nat.one_mul, or_nI, or_nI]
  exact fin
set_option maxRecDepth 20000 in
set_option maxHeartbeats 1000000 in
theorem c_clear {l : Launch} {X : XT} {d : Nat} {σ : ST} {Q : Option AV → ST → Prop} (h : ∀ σ', RC (fun _ => 0) 12 σ' → Fr (fLane 12) σ σ' → Q none σ') : MT l X (d + 1) i_Lane_clear [.inr (3, 12)] σ Q := by
  refine mt_wp g_Lane_clear (by decide) k_Lane_clear (by simp) ?_
  intro CT G hCT hG
  refine hG [] 30 0 _ _ _ ?_
  ((repeat' ((conv => whnf); first | (refine And.intro (fun h => absurd h (by decide)) (fun _ => ?_)) | (refine And.intro (fun _ => ?_) (fun h => (h (by decide)).elim)) | (refine And.intro (fun h => absurd h (by first | (simp (disch := omega) only [nI_lt', nI_le', nI_eq', nI_add', nI_mul', nI_sub', nI_cl', tg_0, tg_1, bit1_eq, bit1_eq0, hb_bit, up_k, up_j, up_s, nI_em1, Bool.true_eq_false, Bool.false_eq_true, not_true_eq_false, not_false_eq_true]; done) | (simp (disch := omega) only [nI_lt', nI_le', nI_eq', nI_add', nI_mul', nI_sub', nI_cl', tg_0, tg_1, bit1_eq, bit1_eq0, hb_bit, up_k, up_j, up_s, nI_em1, Bool.true_eq_false, Bool.false_eq_true, not_true_eq_false, not_false_eq_true]; omega) | omega)) (fun _ => ?_)) | (refine And.intro (fun _ => ?_) (fun h => absurd (by first | (simp (disch := omega) only [nI_lt', nI_le', nI_eq', nI_add', nI_mul', nI_sub', nI_cl', tg_0, tg_1, bit1_eq, bit1_eq0, hb_bit, up_k, up_j, up_s, nI_em1, Bool.true_eq_false, Bool.false_eq_true, not_true_eq_false, not_false_eq_true]; done) | (simp (disch := omega) only [nI_lt', nI_le', nI_eq', nI_add', nI_mul', nI_sub', nI_cl', tg_0, tg_1, bit1_eq, bit1_eq0, hb_bit, up_k, up_j, up_s, nI_em1, Bool.true_eq_false, Bool.false_eq_true, not_true_eq_false, not_false_eq_true]; omega) | omega) h)) | (refine And.intro (fun _ => ?_) (fun _ => ?_)) | (refine And.intro (by first | decide | (with_reducible assumption) | ((with_reducible refine in_nI ?_ ?_) <;> omega) | ((try (conv => arg 2; whnf)); (try simp (disch := omega) only [nI_lt', nI_le', nI_eq', nI_add', nI_mul', nI_sub', nI_cl', tg_0, tg_1, bit1_eq, bit1_eq0, hb_bit, up_k, up_j, up_s, nI_em1, Bool.true_eq_false, Bool.false_eq_true, not_true_eq_false, not_false_eq_true]); (with_reducible refine in_nI ?_ ?_) <;> omega)) ?_) | fail)) <;> (try (conv => whnf)))
  refine h _ ⟨⟨?_, ?_, ?_, fun k hk => absurd hk (Nat.not_lt_zero k), fun p hp => absurd hp (Nat.not_lt_zero p)⟩, ?_, fun k hk => absurd hk (Nat.not_lt_zero k), fun p hp => absurd hp (Nat.not_lt_zero p)⟩ ((((Fr.rf.up ⟨by omega, by omega⟩).up ⟨by omega, by omega⟩).up ⟨by omega, by omega⟩).up ⟨by omega, by omega⟩)
  · rw [up_j (by omega), up_j (by omega), up_j (by omega), up_s]
  · rw [up_j (by omega), up_j (by omega), up_s]
  · rw [up_s]; rfl
  · rw [up_j (by omega), up_s]
