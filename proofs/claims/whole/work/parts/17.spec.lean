/-! ===== what the lane does: in natural numbers. A lane is 48 numbers: kitchens, people, evening; by kitchen 3+3k: open, room, luck; by person 24+4p: kind, home, grief, fallen out ===== -/
abbrev La : Type := Nat → Nat
/-- is a kitchen the home of one of the first n whose bit is in f -/
def br (w : La) (f k : Nat) : Nat → Bool
  | 0 => false
  | n + 1 => br w f k n || (f.testBit n && decide (w (25 + 4 * n) = k))
def may (w : La) (wt : Nat → Nat) (p k : Nat) : Bool := decide (k < w 0) && decide (w (3 + 3 * k) = 1) && !br w (w (27 + 4 * p)) k (w 1) && decide (wt k < w (4 + 3 * k))
/-- the nearest kitchen, from so far off on, within n steps; 7: the field -/
def srch (w : La) (wt : Nat → Nat) (p : Nat) : Nat → Nat → Nat
  | 0, _ => 7
  | n + 1, off => if off ≤ w (25 + 4 * p) ∧ may w wt p (w (25 + 4 * p) - off) = true then w (25 + 4 * p) - off
      else if may w wt p (w (25 + 4 * p) + off) = true then w (25 + 4 * p) + off else srch w wt p n (off + 1)
def goT (w : La) (wt : Nat → Nat) (p : Nat) : Nat := srch w wt p (stN 1 (w (24 + 4 * p))) 1
def cmo (w : La) (p : Nat) : Bool := decide (stN 0 (w (24 + 4 * p)) ≤ w (26 + 4 * p))
/-- how many of the first p went to k -/
def wn (w : La) : Nat → Nat → Nat
  | 0 => fun _ => 0
  | p + 1 => fun k => wn w p k + (if (if cmo w p = true then goT w (wn w p) p else 8) = k then 1 else 0)
/-- where one goes: a kitchen, 7 the field, 8 nowhere -/
def gl (w : La) (p : Nat) : Nat := if cmo w p = true then goT w (wn w p) p else 8
theorem wn_s (w : La) (p k : Nat) : wn w (p + 1) k = wn w p k + (if gl w p = k then 1 else 0) := rfl
def fld (w : La) : Nat := wn w (w 1) 7
def gnew (w : La) (p : Nat) : Nat := if gl w p = 8 then min 40 (w (26 + 4 * p) + stN 3 (w (24 + 4 * p))) else if gl w p = 7 then w (26 + 4 * p) - 1 else w (26 + 4 * p) - stN 2 (w (24 + 4 * p))
/-- an evening -/
def pass (w : La) : La := fun i => if i = 2 then w 2 + 1
  else if 3 ≤ i ∧ i < 24 ∧ (i - 3) % 3 = 2 ∧ (i - 3) / 3 < w 0 then w i + wn w (w 1) ((i - 3) / 3)
  else if 24 ≤ i ∧ i < 48 ∧ (i - 24) % 4 = 2 ∧ (i - 24) / 4 < w 1 then gnew w ((i - 24) / 4) else w i
def gI (g : Nat) : Int32 := if g = 8 then -1 else nI g
/-- what a lane must be -/
def WL (w : La) : Prop := w 0 ≤ 7 ∧ w 1 ≤ 6 ∧ (∀ k, k < w 0 → w (3 + 3 * k) ≤ 1 ∧ w (4 + 3 * k) ≤ 4) ∧ ∀ p, p < w 1 → w (24 + 4 * p) < 5 ∧ w (25 + 4 * p) < w 0 ∧ w (26 + 4 * p) ≤ 40 ∧ w (27 + 4 * p) < 64
def ob (w : La) : Nat → Nat
  | 0 => 0
  | k + 1 => ob w k + w (3 + 3 * k) * 2 ^ k
def opn (w : La) : Nat := ob w (w 0)
/-- the component's lane at b, but grief, luck, evening -/
def RS (w : La) (b : Nat) (σ : ST) : Prop := σ b 0 = nI (w 0) ∧ σ b 1 = nI (w 1) ∧ σ b 3 = nI (opn w) ∧ (∀ k, k < w 0 → σ (b + 1) k = nI (w (4 + 3 * k))) ∧
  ∀ p, p < w 1 → σ (b + 3) p = nI (w (24 + 4 * p)) ∧ σ (b + 4) p = nI (w (25 + 4 * p)) ∧ σ (b + 6) p = nI (w (27 + 4 * p))
def RC (w : La) (b : Nat) (σ : ST) : Prop := RS w b σ ∧ σ b 2 = nI (w 2) ∧ (∀ k, k < w 0 → σ (b + 2) k = nI (w (5 + 3 * k))) ∧ ∀ p, p < w 1 → σ (b + 5) p = nI (w (26 + 4 * p))
/-- the model's lane in cell c from o on -/
def RM (w : La) (c o : Nat) (σ : ST) : Prop := ∀ j, j < 48 → σ c (o + j) = nI (w j)
theorem two_pow_succ' (k : Nat) : 2 ^ (k + 1) = 2 * 2 ^ k := by rw [Nat.pow_succ, Nat.mul_comm]
theorem ob_lt {w : La} : ∀ n, (∀ k, k < n → w (3 + 3 * k) ≤ 1) → ob w n < 2 ^ n
  | 0, _ => (by show 0 < 1; omega)
  | n + 1, h => by
    have h1 := ob_lt n (fun k hk => h k (by omega))
    have h2 := h n (by omega)
    show ob w n + w (3 + 3 * n) * 2 ^ n < 2 ^ (n + 1)
    rw [two_pow_succ']
    have h3 : w (3 + 3 * n) * 2 ^ n ≤ 1 * 2 ^ n := Nat.mul_le_mul_right _ h2
    omega
theorem ob_bit {w : La} : ∀ n, (∀ k, k < n → w (3 + 3 * k) ≤ 1) → ∀ k, k < n → (ob w n).testBit k = decide (w (3 + 3 * k) = 1)
  | 0, _, k, hk => by omega
  | n + 1, h, k, hk => by
    have h1 := ob_lt n (fun k hk => h k (by omega))
    have h2 := h n (by omega)
    show (ob w n + w (3 + 3 * n) * 2 ^ n).testBit k = _
    rw [Nat.mul_comm, Nat.add_comm, Nat.testBit_two_pow_mul_add _ h1]
    by_cases hkn : k < n
    · rw [if_pos hkn]
      exact ob_bit n (fun k hk => h k (by omega)) k hkn
    · rw [if_neg hkn]
      obtain rfl : k = n := by omega
      rw [Nat.sub_self]
      rcases (show w (3 + 3 * k) = 0 ∨ w (3 + 3 * k) = 1 by omega) with e | e <;> rw [e] <;> rfl
theorem opn_lt {w : La} (h : WL w) : opn w < 128 := by
  have h1 := ob_lt (w := w) (w 0) (fun k hk => (h.2.2.1 k hk).1)
  have h2 : 2 ^ w 0 ≤ 2 ^ 7 := Nat.pow_le_pow_right (by omega) h.1
  unfold opn
  omega
theorem opn_bit {w : La} (h : WL w) {k : Nat} (hk : k < w 0) : (opn w).testBit k = decide (w (3 + 3 * k) = 1) := ob_bit (w 0) (fun k hk => (h.2.2.1 k hk).1) k hk
/-- the homes, by bits -/
def hb (w : La) (f : Nat) : Nat → Nat
  | 0 => 0
  | n + 1 => hb w f n ||| (if f.testBit n = true then 2 ^ w (25 + 4 * n) else 0)
theorem hb_bit {w : La} {f k : Nat} : ∀ n, (hb w f n).testBit k = br w f k n
  | 0 => by simp [hb, br]
  | n + 1 => by
    show (hb w f n ||| _).testBit k = (br w f k n || _)
    rw [Nat.testBit_or, hb_bit n]
    congr 1
    by_cases h : f.testBit n = true
    · rw [if_pos h, h, Nat.testBit_two_pow]; rfl
    · rw [if_neg h]
      have : f.testBit n = false := by simpa using h
      rw [this]; simp
theorem hb_lt {w : La} {f : Nat} : ∀ n, (∀ q, q < n → w (25 + 4 * q) < 7) → hb w f n < 128
  | 0, _ => (by show 0 < 128; omega)
  | n + 1, h => by
    have h1 := hb_lt (f := f) n (fun q hq => h q (by omega))
    show hb w f n ||| _ < 2 ^ 7
    refine Nat.or_lt_two_pow h1 ?_
    split
    · exact Nat.pow_lt_pow_right (by omega) (h n (by omega))
    · decide
theorem srch_lt {w : La} {wt : Nat → Nat} {p : Nat} (h0 : w 0 ≤ 7) : ∀ n off, srch w wt p n off ≤ 7
  | 0, _ => Nat.le_refl 7
  | n + 1, off => by
    have hm : ∀ k, may w wt p k = true → k < w 0 := by
      intro k hk
      unfold may at hk
      simp only [Bool.and_eq_true, decide_eq_true_eq] at hk
      exact hk.1.1.1
    unfold srch
    split
    · rename_i h; have := hm _ h.2; omega
    · split
      · rename_i h; have := hm _ h; omega
      · exact srch_lt h0 n (off + 1)
theorem srch_may {w : La} {wt : Nat → Nat} {p : Nat} : ∀ n off, srch w wt p n off = 7 ∨ may w wt p (srch w wt p n off) = true
  | 0, _ => Or.inl rfl
  | n + 1, off => by
    unfold srch
    split
    · rename_i h; exact Or.inr h.2
    · split
      · rename_i h; exact Or.inr h
      · exact srch_may n (off + 1)
theorem may_lt {w : La} {wt : Nat → Nat} {p k : Nat} (h : may w wt p k = true) : k < w 0 := by
  unfold may at h
  simp only [Bool.and_eq_true, decide_eq_true_eq] at h
  exact h.1.1.1
theorem goT_or {w : La} {wt : Nat → Nat} {p : Nat} : goT w wt p = 7 ∨ goT w wt p < w 0 := (srch_may _ _).imp_right may_lt
theorem wn_le {w : La} : ∀ p k, wn w p k ≤ p
  | 0, _ => Nat.le_refl 0
  | p + 1, k => by
    rw [wn_s]
    have := wn_le (w := w) p k
    split <;> omega
