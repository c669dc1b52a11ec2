/-! ===== numbers: nI ===== -/
theorem nI_lt' {a b : Nat} (ha : a < 2 ^ 31) (hb : b < 2 ^ 31) : (nI a < nI b) = (a < b) := propext (nI_ltI ha hb)
theorem nI_le' {a b : Nat} (ha : a < 2 ^ 31) (hb : b < 2 ^ 31) : (nI a ≤ nI b) = (a ≤ b) := propext (nI_leI ha hb)
theorem nI_eq' {a b : Nat} (ha : a < 2 ^ 31) (hb : b < 2 ^ 31) : (nI a = nI b) = (a = b) := propext (nI_eq ha hb)
theorem nI_sub' {a b : Nat} (h : b ≤ a) : nI a - nI b = nI (a - b) := pk_sub h
theorem nI_mul' (a b : Nat) : nI a * nI b = nI (a * b) := pk_mul a b
theorem nI_add' (a b : Nat) : nI a + nI b = nI (a + b) := nI_add a b
theorem nI_cl' {n : Nat} (h : n < 2 ^ 31) : (nI n).toNatClampNeg = n := nI_clamp h
theorem nI_m1 (n : Nat) (h : n < 2 ^ 31) : ¬ nI n = -1 := by
  intro e
  have := congrArg Int32.toInt e
  rw [nI_toInt h] at this
  have h2 : (-1 : Int32).toInt = -1 := by decide
  omega
theorem in_nI {n N : Nat} (h : n < N) (hN : N < 2 ^ 31) : vp_in (nI n) N := vp_in_nI h hN
/-- a number that isn't below 0 and is below another is one of the naturals below it -/
theorem nI_ex {x : Int32} {N : Nat} (h0 : nI 0 ≤ x) (h : x < nI N) (hN : N < 2 ^ 31) : ∃ j : Nat, j < N ∧ x = nI j := by
  have a : (0 : Int) ≤ x.toInt := by
    have := Int32.le_iff_toInt_le.mp h0
    rwa [nI_toInt (by omega)] at this
  have b : x.toInt < N := by
    have := Int32.lt_iff_toInt_lt.mp h
    rwa [nI_toInt hN] at this
  refine ⟨x.toInt.toNat, by omega, ?_⟩
  apply Int32.toInt_inj.mp
  rw [nI_toInt (by omega)]
  omega
theorem le_of_nlt {x y : Int32} (h : ¬ x < y) : y ≤ x := Int32.not_lt.mp h
theorem lt_of_nle {x y : Int32} (h : ¬ x ≤ y) : y < x := Int32.not_le.mp h
theorem nlt_of_le {x y : Int32} (h : y ≤ x) : ¬ x < y := Int32.not_lt.mpr h
theorem nle_of_lt {x y : Int32} (h : y < x) : ¬ x ≤ y := Int32.not_le.mpr h
theorem up_s {σ : ST} {k j : Nat} {x : Int32} : up σ k j x k j = x := by unfold up; rw [if_pos ⟨rfl, rfl⟩]
theorem up_k {σ : ST} {k j a b : Nat} {x : Int32} (h : a ≠ k) : up σ k j x a b = σ a b := by unfold up; rw [if_neg (fun z => h z.1)]
theorem up_j {σ : ST} {k j a b : Nat} {x : Int32} (h : b ≠ j) : up σ k j x a b = σ a b := by unfold up; rw [if_neg (fun z => h z.2)]
theorem up_r {σ : ST} {k a : Nat} {j : Nat} {x : Int32} (h : a ≠ k) : up σ k j x a = σ a := up_other a h
/-- what stays: σ' is σ but where f allows -/
def Fr (f : Nat → Nat → Prop) (σ σ' : ST) : Prop := ∀ k j, ¬ f k j → σ' k j = σ k j
theorem Fr.rf {f : Nat → Nat → Prop} {σ : ST} : Fr f σ σ := fun _ _ _ => rfl
theorem Fr.tr {f : Nat → Nat → Prop} {σ σ1 σ2 : ST} (h1 : Fr f σ σ1) (h2 : Fr f σ1 σ2) : Fr f σ σ2 := fun k j h => (h2 k j h).trans (h1 k j h)
theorem Fr.mono {f g : Nat → Nat → Prop} {σ σ' : ST} (h : Fr f σ σ') (hfg : ∀ k j, f k j → g k j) : Fr g σ σ' := fun k j hn => h k j (fun z => hn (hfg k j z))
theorem Fr.up {f : Nat → Nat → Prop} {σ σ1 : ST} {k j : Nat} {x : Int32} (h : Fr f σ σ1) (hf : f k j) : Fr f σ (up σ1 k j x) := fun a b hn => by
  rw [← h a b hn]
  unfold _root_.Jvm.Pilot.CDoorTearsLaw_law_r7252_e7cf65.up
  rw [if_neg (fun z => hn (by rw [z.1, z.2]; exact hf))]
theorem nI_neg {a b : Nat} (hb : b < 2 ^ 30) (h : a < b) : nI a - nI b < nI 0 := pk_sneg hb h
theorem max0 {g e : Nat} (hg : g < 2 ^ 30) (he : e < 2 ^ 30) : (if nI 0 < nI g - nI e then nI g - nI e else nI 0) = nI (g - e) := by
  by_cases h : e ≤ g
  · rw [pk_sub h]
    simp only [nI_lt' (show 0 < 2 ^ 31 by omega) (show g - e < 2 ^ 31 by omega)]
    by_cases h2 : 0 < g - e
    · rw [if_pos h2]
    · rw [if_neg h2]; congr 1; omega
  · have := nI_neg he (Nat.not_le.mp h)
    rw [if_neg (nlt_of_le (Int32.le_of_lt this))]; congr 1; omega
theorem min40 {a b : Nat} (ha : a < 2 ^ 31) (hb : b < 2 ^ 31) : (if nI b < nI a then nI b else nI a) = nI (min a b) := by
  simp only [nI_lt' hb ha]
  by_cases h : b < a
  · rw [if_pos h]; congr 1; omega
  · rw [if_neg h]; congr 1; omega
theorem stN_lt : ∀ j, j < 5 → ∀ q, q < 5 → stN j q < 50 := by decide
/-- shifts and bits of small numbers -/
theorem shr_nI {a k : Nat} (ha : a < 2 ^ 31) (hk : k < 32) : nI a >>> (nI k &&& 31) = nI (a / 2 ^ k) := by
  have h : ∀ k : Fin 32, ((nI k.val &&& 31).toBitVec.smod 32).toNat = k.val := by decide +kernel
  exact pk_shrN ha _ k (h ⟨k, hk⟩)
theorem shl_nI {a k : Nat} (hk : k < 32) (ha : a * 2 ^ k < 2 ^ 32) : nI a <<< (nI k &&& 31) = nI (a * 2 ^ k) := by
  have h : ∀ k : Fin 32, ((nI k.val &&& 31).toBitVec.smod 32).toNat = k.val := by decide +kernel
  exact pk_shlN _ k (h ⟨k, hk⟩) ha
theorem and_nI (a b : Nat) : nI a &&& nI b = nI (a &&& b) := by
  apply Int32.toBitVec_inj.mp
  apply BitVec.eq_of_getLsbD_eq
  intro i hi
  rw [Int32.toBitVec_and, BitVec.getLsbD_and]
  unfold nI
  simp [Int32.toBitVec_ofNat', BitVec.getLsbD_ofNat, hi]
theorem or_nI (a b : Nat) : nI a ||| nI b = nI (a ||| b) := by
  apply Int32.toBitVec_inj.mp
  apply BitVec.eq_of_getLsbD_eq
  intro i hi
  rw [Int32.toBitVec_or, BitVec.getLsbD_or]
  unfold nI
  simp [Int32.toBitVec_ofNat', BitVec.getLsbD_ofNat, hi]
theorem xor_nI (a b : Nat) : nI a ^^^ nI b = nI (a ^^^ b) := by
  apply Int32.toBitVec_inj.mp
  apply BitVec.eq_of_getLsbD_eq
  intro i hi
  rw [Int32.toBitVec_xor, BitVec.getLsbD_xor]
  unfold nI
  simp [Int32.toBitVec_ofNat', BitVec.getLsbD_ofNat, hi]
theorem bit1 {a k : Nat} (ha : a < 2 ^ 31) (hk : k < 32) : (nI a >>> (nI k &&& 31)) &&& nI 1 = nI (a / 2 ^ k % 2) := by
  rw [shr_nI ha hk, and_nI, Nat.and_one_is_mod]
theorem bit1_eq {a k : Nat} (ha : a < 2 ^ 31) (hk : k < 32) : ((nI a >>> (nI k &&& 31)) &&& nI 1 = nI 1) = (a.testBit k = true) := by
  rw [bit1 ha hk, nI_eq' (by omega) (by omega), Nat.testBit_eq_decide_div_mod_eq]
  simp
theorem bit1_eq0 {a k : Nat} (ha : a < 2 ^ 31) (hk : k < 32) : ((nI a >>> (nI k &&& 31)) &&& nI 1 = nI 0) = (a.testBit k = false) := by
  rw [bit1 ha hk, nI_eq' (by omega) (by omega), Nat.testBit_eq_decide_div_mod_eq]
  simp
theorem nI_z : (0 : Int32) = nI 0 := rfl
theorem tg_0 {v k : Nat} : tg 0 v k = v := rfl
theorem tg_1 {v k : Nat} : tg 1 v k = k + v := rfl
theorem nI_em1 {n : Nat} (h : n < 2 ^ 31) : (nI n = -1) = False := eq_false (nI_m1 n h)
