def sgL (k : Nat) : Nat := ([1, 2, 2, 3, 3, 3, 3, 3, 3, 3, 3, 3, 4, 4, 4, 4, 4, 4, 4, 4, 4, 5, 6, 6, 6, 6, 6, 6, 6, 6, 6, 7, 7, 8, 8, 8, 8, 8, 8, 8, 8, 8, 9, 9, 9, 9, 9, 9, 9, 9, 9, 10, 10, 10, 10, 10, 10, 10, 10, 10, 11, 11, 11, 11, 11, 11, 11, 11, 11, 12, 12, 12, 12, 12, 12, 12, 12, 12, 13, 13, 13, 13, 13, 13, 13, 13, 13, 14, 14, 14, 14, 14, 14, 14, 14, 14, 15, 15, 15, 15, 15, 15, 15, 15, 15, 1, 16, 17, 17, 17, 17, 17, 17, 17, 17, 17, 18, 18, 18, 18, 18, 18, 18, 18, 18, 19, 20, 20, 20, 20, 20, 20, 20, 20, 20, 21, 22, 22, 22, 22, 22, 22, 22, 22, 22, 23, 23, 24, 24, 24, 24, 1, 25, 25, 25, 26, 26, 26, 27, 27, 27, 0, 0, 0, 0, 0, 0, 0, 0, 0, 0, 0, 0, 0, 0, 0, 0, 0, 0] : List Nat).getD k 0
def ofL (k : Nat) : Nat := ([2, 0, 1, 0, 1, 2, 3, 4, 5, 6, 7, 8, 0, 1, 2, 3, 4, 5, 6, 7, 8, 0, 0, 1, 2, 3, 4, 5, 6, 7, 8, 1, 0, 0, 1, 2, 3, 4, 5, 6, 7, 8, 0, 1, 2, 3, 4, 5, 6, 7, 8, 0, 1, 2, 3, 4, 5, 6, 7, 8, 0, 1, 2, 3, 4, 5, 6, 7, 8, 0, 1, 2, 3, 4, 5, 6, 7, 8, 0, 1, 2, 3, 4, 5, 6, 7, 8, 0, 1, 2, 3, 4, 5, 6, 7, 8, 0, 1, 2, 3, 4, 5, 6, 7, 8, 1, 0, 0, 1, 2, 3, 4, 5, 6, 7, 8, 0, 1, 2, 3, 4, 5, 6, 7, 8, 0, 0, 1, 2, 3, 4, 5, 6, 7, 8, 0, 0, 1, 2, 3, 4, 5, 6, 7, 8, 0, 1, 0, 1, 2, 3, 0, 0, 1, 2, 0, 1, 2, 0, 1, 2, 2, 3, 4, 5, 6, 7, 8, 9, 10, 11, 12, 13, 14, 15, 1, 0, 16, 17] : List Nat).getD k 0
def invL (k : Nat) : Nat := ([176, 175, 161, 162, 163, 164, 165, 166, 167, 168, 169, 170, 171, 172, 173, 174, 177, 178, 0, 0, 151, 105, 0, 0, 0, 0, 0, 0, 0, 0, 0, 0, 0, 0, 0, 0, 0, 0, 0, 0, 1, 2, 0, 0, 0, 0, 0, 0, 0, 0, 0, 0, 0, 0, 0, 0, 0, 0, 0, 0, 3, 4, 5, 6, 7, 8, 9, 10, 11, 0, 0, 0, 0, 0, 0, 0, 0, 0, 0, 0, 12, 13, 14, 15, 16, 17, 18, 19, 20, 0, 0, 0, 0, 0, 0, 0, 0, 0, 0, 0, 21, 0, 0, 0, 0, 0, 0, 0, 0, 0, 0, 0, 0, 0, 0, 0, 0, 0, 0, 0, 22, 23, 24, 25, 26, 27, 28, 29, 30, 0, 0, 0, 0, 0, 0, 0, 0, 0, 0, 0, 32, 31, 0, 0, 0, 0, 0, 0, 0, 0, 0, 0, 0, 0, 0, 0, 0, 0, 0, 0, 33, 34, 35, 36, 37, 38, 39, 40, 41, 0, 0, 0, 0, 0, 0, 0, 0, 0, 0, 0, 42, 43, 44, 45, 46, 47, 48, 49, 50, 0, 0, 0, 0, 0, 0, 0, 0, 0, 0, 0, 51, 52, 53, 54, 55, 56, 57, 58, 59, 0, 0, 0, 0, 0, 0, 0, 0, 0, 0, 0, 60, 61, 62, 63, 64, 65, 66, 67, 68, 0, 0, 0, 0, 0, 0, 0, 0, 0, 0, 0, 69, 70, 71, 72, 73, 74, 75, 76, 77, 0, 0, 0, 0, 0, 0, 0, 0, 0, 0, 0, 78, 79, 80, 81, 82, 83, 84, 85, 86, 0, 0, 0, 0, 0, 0, 0, 0, 0, 0, 0, 87, 88, 89, 90, 91, 92, 93, 94, 95, 0, 0, 0, 0, 0, 0, 0, 0, 0, 0, 0, 96, 97, 98, 99, 100, 101, 102, 103, 104, 0, 0, 0, 0, 0, 0, 0, 0, 0, 0, 0, 106, 0, 0, 0, 0, 0, 0, 0, 0, 0, 0, 0, 0, 0, 0, 0, 0, 0, 0, 0, 107, 108, 109, 110, 111, 112, 113, 114, 115, 0, 0, 0, 0, 0, 0, 0, 0, 0, 0, 0, 116, 117, 118, 119, 120, 121, 122, 123, 124, 0, 0, 0, 0, 0, 0, 0, 0, 0, 0, 0, 125, 0, 0, 0, 0, 0, 0, 0, 0, 0, 0, 0, 0, 0, 0, 0, 0, 0, 0, 0, 126, 127, 128, 129, 130, 131, 132, 133, 134, 0, 0, 0, 0, 0, 0, 0, 0, 0, 0, 0, 135, 0, 0, 0, 0, 0, 0, 0, 0, 0, 0, 0, 0, 0, 0, 0, 0, 0, 0, 0, 136, 137, 138, 139, 140, 141, 142, 143, 144, 0, 0, 0, 0, 0, 0, 0, 0, 0, 0, 0, 145, 146, 0, 0, 0, 0, 0, 0, 0, 0, 0, 0, 0, 0, 0, 0, 0, 0, 0, 0, 147, 148, 149, 150, 0, 0, 0, 0, 0, 0, 0, 0, 0, 0, 0, 0, 0, 0, 0, 0, 152, 153, 154, 0, 0, 0, 0, 0, 0, 0, 0, 0, 0, 0, 0, 0, 0, 0, 0, 0, 155, 156, 157, 0, 0, 0, 0, 0, 0, 0, 0, 0, 0, 0, 0, 0, 0, 0, 0, 0, 158, 159, 160, 0, 0, 0, 0, 0, 0, 0, 0, 0, 0, 0, 0, 0, 0, 0, 0, 0] : List Nat).getD k 0
abbrev LsL : List Nat := [18, 3, 2, 9, 9, 1, 9, 2, 9, 9, 9, 9, 9, 9, 9, 9, 1, 9, 9, 1, 9, 1, 9, 2, 4, 3, 3, 3]
theorem inv_ok : ∀ k, k < 179 → invL (20 * sgL k + ofL k) = k := by decide +kernel
theorem tab_ok : ∀ k, k < 179 → sgL k < LsL.length ∧ ofL k < LsL.getD (sgL k) 0 := by decide +kernel
def adS (S : List va_W) (k : Nat) : Nat := ((S.getD (sgL k) []).getD (ofL k) (0, .inr (0, []))).1
theorem ad_eq {S : List va_W} {k a o : Nat} {sa : va_W} {p : Nat × va_E} (h1 : sgL k = a) (h2 : ofL k = o) (h3 : S[a]? = some sa) (h4 : sa[o]? = some p) : adS S k = p.1 := by
  unfold adS
  have e1 : S.getD a [] = sa := by rw [List.getD_eq_getElem?_getD, h3]; rfl
  rw [h1, h2, e1, List.getD_eq_getElem?_getD, h4]
  rfl
theorem S_get {S : List va_W} (hLen : S.map List.length = LsL) (k : Nat) (hk : k < 179) : ∃ (sa : va_W) (e : va_E), S[sgL k]? = some sa ∧ sa[ofL k]? = some (adS S k, e) := by
  obtain ⟨h1, h2⟩ := tab_ok k hk
  have hl : S.length = LsL.length := by rw [← hLen, List.length_map]
  have h3 : S[sgL k]? = some (S[sgL k]'(by omega)) := List.getElem?_eq_getElem (by omega)
  generalize (S[sgL k]'(by omega)) = sa at h3
  have h5 : LsL[sgL k]? = some sa.length := by rw [← hLen, List.getElem?_map, h3]; rfl
  rw [List.getD_eq_getElem?_getD, h5] at h2
  have h2 : ofL k < sa.length := h2
  have h4 : sa[ofL k]? = some (sa[ofL k]'h2) := List.getElem?_eq_getElem h2
  generalize (sa[ofL k]'h2) = p at h4
  refine ⟨sa, p.2, h3, ?_⟩
  rw [ad_eq rfl rfl h3 h4]
  exact h4
theorem fl_idx {S : List va_W} {b j : Nat} {sb : va_W} {q : Nat × va_E} (hb : S[b]? = some sb) (hq : sb[j]? = some q) : ∃ i : Nat, S.flatten[i]? = some q := List.getElem?_of_mem (List.mem_flatten.mpr ⟨sb, List.mem_of_getElem? hb, List.mem_of_getElem? hq⟩)
theorem D_flat {A : Nat → Prop} : ∀ {S : List va_W}, va_D A S.flatten → ∀ (a b : Nat) (sa sb : va_W) (i j : Nat) (p q : Nat × va_E), S[a]? = some sa → S[b]? = some sb → sa[i]? = some p → sb[j]? = some q → p.1 = q.1 → a = b ∧ i = j
  | [], _, a, b, sa, sb, i, j, p, q, h, _, _, _, _ => by simp at h
  | s :: S, hD, a, b, sa, sb, i, j, p, q, ha, hb, hp, hq, e => by
    have hD : va_D A (s ++ S.flatten) := by rw [List.flatten_cons] at hD; exact hD
    obtain ⟨d1, d2, d3⟩ := D_split hD
    cases a with
    | zero =>
      have ha : s = sa := Option.some.inj ha
      subst ha
      cases b with
      | zero =>
        have hb : s = sb := Option.some.inj hb
        subst hb
        exact ⟨rfl, d1.1 i j p q hp hq e⟩
      | succ b =>
        rw [List.getElem?_cons_succ] at hb
        obtain ⟨x, hx⟩ := fl_idx hb hq
        exact absurd e (d3 i x p q hp hx)
    | succ a =>
      rw [List.getElem?_cons_succ] at ha
      cases b with
      | zero =>
        have hb : s = sb := Option.some.inj hb
        subst hb
        obtain ⟨x, hx⟩ := fl_idx ha hp
        exact absurd e.symm (d3 j x q p hq hx)
      | succ b =>
        rw [List.getElem?_cons_succ] at hb
        have := D_flat d2 a b sa sb i j p q ha hb hp hq e
        exact ⟨by rw [this.1], this.2⟩
theorem adS_inj {A : Nat → Prop} {S : List va_W} (hLen : S.map List.length = LsL) (hD : va_D A S.flatten) (i j : Nat) (hi : i < 179) (hj : j < 179) (e : adS S i = adS S j) : i = j := by
  obtain ⟨sa, ea, h1, h2⟩ := S_get hLen i hi
  obtain ⟨sb, eb, h3, h4⟩ := S_get hLen j hj
  have := D_flat hD _ _ _ _ _ _ _ _ h1 h3 h2 h4 e
  rw [← inv_ok i hi, ← inv_ok j hj, this.1, this.2]
theorem adS_A {A : Nat → Prop} {S : List va_W} (hLen : S.map List.length = LsL) (hD : va_D A S.flatten) (i : Nat) (hi : i < 179) : A (adS S i) := by
  obtain ⟨sa, ea, h1, h2⟩ := S_get hLen i hi
  obtain ⟨x, hx⟩ := fl_idx h1 h2
  exact hD.2 x (adS S i, ea) hx
def cup0 (j : Nat) : Int32 := if j = 3 then 1 else 0
def σ0 : ST := fun k => if k = 152 then cup0 else if k = 155 then cup0 else if k = 158 then cup0 else if k = 175 then mRoom else if k = 176 then mHold else fun _ => 0
theorem σ0_z {k : Nat} (h : k < 152) : σ0 k = fun _ => 0 := by
  unfold σ0
  rw [if_neg (by omega), if_neg (by omega), if_neg (by omega), if_neg (by omega), if_neg (by omega)]
abbrev mkX (ad : Nat → Nat) (D : va_G) (ca : Nat → ClassId) (sA kK kV : Nat → Nat) (fm : Value) (b L : Nat) (xs : Nat → Int32) : XT := (ad, D, ca, sA, kK, kV, fm, b, L, xs)
def AllP (P : Nat → Prop) : Nat → Nat → Prop
  | _, 0 => True
  | i, n + 1 => P i ∧ AllP P (i + 1) n
theorem AllP_get {P : Nat → Prop} : ∀ (n i : Nat), AllP P i n → ∀ k, i ≤ k → k < i + n → P k
  | 0, i, _, k, h1, h2 => by omega
  | n + 1, i, h, k, h1, h2 => by
    by_cases e : k = i
    · rw [e]; exact h.1
    · exact AllP_get n (i + 1) h.2 k (by omega) (by omega)
theorem AllP_app {P : Nat → Prop} {a b : Nat} (h1 : ∀ k, a ≤ k → k < b → P k) {c : Nat} (h2 : ∀ k, b ≤ k → k < c → P k) : ∀ k, a ≤ k → k < c → P k := fun k x y => if h : k < b then h1 k x h else h2 k (Nat.not_lt.mp h) y
theorem arrV_c {cA : ClassId} {n : Nat} {z z' : Nat → Value} (h : ∀ j, j < n → z j = z' j) : arrV cA n z = arrV cA n z' := by
  unfold arrV
  have : (fun j : Fin n => z j.val) = (fun j : Fin n => z' j.val) := funext (fun j => h j.val j.isLt)
  rw [this]
theorem at_q {D : va_G} {cl : List vw_C} {a n : Nat} {cA : ClassId} {f g : Nat → Option Nat} {H : Heap} (h : va_at D cl (a, .inl (cA, n, .inr (.inr (.inr (.inr f))))) H) (e : ∀ j, j < n → f j = g j) : va_at D cl (a, .inl (cA, n, .inr (.inr (.inr (.inr g))))) H := by
  have h : H[a]? = some (vp_cell cA (n, .inr (.inr (.inr (.inr f))))) := h
  show H[a]? = some (vp_cell cA (n, .inr (.inr (.inr (.inr g)))))
  rw [h, vp_cell_q, vp_cell_q]
  congr 1
  exact arrV_c (fun j hj => by rw [e j hj])
theorem ce_0 {X : XT} {σ : ST} {k : Nat} (h : lay k = 0) : cellE X σ k = .inr (0, [.ref (x_ad X (k + 1)), .ref (x_ad X (k + 2)), .int (σ k 2), .int (σ k 3), .int (σ k 4), .int (σ k 5)]) := by
  unfold cellE
  rw [h]
  rfl
theorem ce_1 {X : XT} {σ : ST} {k : Nat} (h : lay k = 1) : cellE X σ k = .inr (1, [.ref (x_ad X 126)]) := by
  unfold cellE
  rw [h]
  rfl
theorem ce_2 {X : XT} {σ : ST} {k : Nat} (h : lay k = 2) : cellE X σ k = .inr (2, [.ref (x_ad X 136), .ref (x_ad X 145), .ref (x_ad X 146), .int (σ k 3)]) := by
  unfold cellE
  rw [h]
  rfl
theorem ce_3 {X : XT} {σ : ST} {k : Nat} (h : lay k = 3) : cellE X σ k = .inr (3, [.int (σ k 0), .int (σ k 1), .int (σ k 2), .int (σ k 3), .ref (x_ad X (k + 1)), .ref (x_ad X (k + 2)), .ref (x_ad X (k + 3)), .ref (x_ad X (k + 4)), .ref (x_ad X (k + 5)), .ref (x_ad X (k + 6)), .ref (x_ad X (k + 7)), .ref (x_ad X (k + 8)), .int (σ k 12)]) := by
  unfold cellE
  rw [h]
  rfl
theorem ce_4 {X : XT} {σ : ST} {k : Nat} (h : lay k = 4) : cellE X σ k = .inr (4, [.ref (x_ad X 2), .int (σ k 1)]) := by
  unfold cellE
  rw [h]
  rfl
theorem ce_5 {X : XT} {σ : ST} {k : Nat} (h : lay k = 5) : cellE X σ k = .inr (5, [.ref (x_ad X 32), .int (σ k 1), .int (σ k 2)]) := by
  unfold cellE
  rw [h]
  rfl
theorem ce_6 {X : XT} {σ : ST} {k : Nat} (h : lay k = 6) : cellE X σ k = .inr (6, [.ref (x_ad X 1), .ref (x_ad X 12), .int (σ k 2), .int (σ k 3), .int (σ k 4)]) := by
  unfold cellE
  rw [h]
  rfl
theorem ce_7 {X : XT} {σ : ST} {k : Nat} (h : lay k = 7) : cellE X σ k = .inr (7, [.ref (x_ad X 148), .ref (x_ad X 149), .ref (x_ad X 150), .int (σ k 3)]) := by
  unfold cellE
  rw [h]
  rfl
theorem ce_8 {X : XT} {σ : ST} {k : Nat} (h : lay k = 8) : cellE X σ k = .inr (8, [.ref (x_ad X 1), .ref (x_ad X 3), .ref (x_ad X 12), .ref (x_ad X 21), .ref (x_ad X 22), .ref (x_ad X 31), .ref (x_ad X 105), .ref (x_ad X 106), .ref (x_ad X 125), .ref (x_ad X 135), .ref (x_ad X 147), .ref (x_ad X 151)]) := by
  unfold cellE
  rw [h]
  rfl
theorem ce_9 {X : XT} {σ : ST} {k : Nat} (h : lay k = 9) : cellE X σ k = .inr (9, [.ref (x_ad X 162), .int (σ k 1), .int (σ k 2), .int (σ k 3), .int (σ k 4), .int (σ k 5), .int (σ k 6), .int (σ k 7), .int (σ k 8), .ref (x_ad X 163), .ref (x_ad X 164), .ref (x_ad X 165), .ref (x_ad X 166), .ref (x_ad X 167), .int (σ k 14), .ref (x_ad X 168), .ref (x_ad X 169), .ref (x_ad X 170), .ref (x_ad X 171), .ref (x_ad X 172), .ref (x_ad X 173), .ref (x_ad X 174), .int (σ k 22), .ref (x_ad X 175), .ref (x_ad X 176), .ref (x_ad X 177), .ref (x_ad X 178)]) := by
  unfold cellE
  rw [h]
  rfl
theorem ce_i {X : XT} {σ : ST} {k : Nat} (q : Nat) (h : lay k = q) (h1 : 20 ≤ q) (h2 : q < 40) : cellE X σ k = .inl (x_cA X 0, alen q, .inl (σ k)) := by
  unfold cellE
  rw [h, if_neg (by omega), if_pos h2]
theorem ce_z {X : XT} {σ : ST} {k : Nat} (q : Nat) (h : lay k = q) (h1 : 40 ≤ q) (h2 : q < 50) : cellE X σ k = .inl (x_cA X 1, alen q, .inl (σ k)) := by
  unfold cellE
  rw [h, if_neg (by omega), if_neg (by omega), if_pos h2]
theorem ce_r {X : XT} {σ : ST} {k : Nat} (q : Nat) (h : lay k = q) (h1 : 50 ≤ q) : cellE X σ k = .inl (x_cA X (rC q), alen q, .inr (.inr (.inr (.inr (fun i => some (x_ad X (rF q + rS q * i))))))) := by
  unfold cellE
  rw [h, if_neg (by omega), if_neg (by omega), if_neg (by omega)]
theorem fin_at {D : va_G} {S : List va_W} {H : Heap} {X : XT} {k a o p : Nat} {sa : va_W} {e : va_E} (hX : x_ad X = adS S) (h1 : sgL k = a) (h2 : ofL k = o) (h3 : S[a]? = some sa) (h4 : sa[o]? = some (p, e)) (hall : ∀ sa ∈ S, va_P D cls sa H) : x_ad X k = p ∧ va_at D cls (x_ad X k, e) H := by
  have he := ad_eq h1 h2 h3 h4
  rw [hX, he]
  exact ⟨rfl, hall sa (List.mem_of_getElem? h3) o _ h4⟩
def lkL (i : Nat) : Nat := ([3, 21, 21, 22, 22, 22, 22, 22, 21] : List Nat).getD i 0
theorem lane_at {D : va_G} {S : List va_W} {H : Heap} {X : XT} {ca : Nat → ClassId} {q : Nat} {g : Nat → Nat} (b a : Nat) (hX : x_ad X = adS S) (hcA : x_cA X = ca) (hb : b + 8 < 152) (ht : ∀ i, i < 9 → sgL (b + i) = a ∧ ofL (b + i) = i ∧ lay (b + i) = lkL i) (h3 : S[a]? = some (wLane ca q g)) (hall : ∀ sa ∈ S, va_P D cls sa H) : x_ad X b = q ∧ ∀ k, b ≤ k → k < b + 9 → va_at D cls (x_ad X k, cellE X σ0 k) H := by
  have f0 := fin_at (p := q) hX (ht 0 (by omega)).1 (ht 0 (by omega)).2.1 h3 rfl hall
  have f1 := fin_at (p := g 0) hX (ht 1 (by omega)).1 (ht 1 (by omega)).2.1 h3 rfl hall
  have f2 := fin_at (p := g 1) hX (ht 2 (by omega)).1 (ht 2 (by omega)).2.1 h3 rfl hall
  have f3 := fin_at (p := g 2) hX (ht 3 (by omega)).1 (ht 3 (by omega)).2.1 h3 rfl hall
  have f4 := fin_at (p := g 3) hX (ht 4 (by omega)).1 (ht 4 (by omega)).2.1 h3 rfl hall
  have f5 := fin_at (p := g 4) hX (ht 5 (by omega)).1 (ht 5 (by omega)).2.1 h3 rfl hall
  have f6 := fin_at (p := g 5) hX (ht 6 (by omega)).1 (ht 6 (by omega)).2.1 h3 rfl hall
  have f7 := fin_at (p := g 6) hX (ht 7 (by omega)).1 (ht 7 (by omega)).2.1 h3 rfl hall
  have f8 := fin_at (p := g 7) hX (ht 8 (by omega)).1 (ht 8 (by omega)).2.1 h3 rfl hall
  have e0 : cellE X σ0 (b + 0) = .inr (3, [.int 0, .int 0, .int 0, .int 0, .ref (g 0), .ref (g 1), .ref (g 2), .ref (g 3), .ref (g 4), .ref (g 5), .ref (g 6), .ref (g 7), .int 0]) := by
    rw [ce_3 (ht 0 (by omega)).2.2, σ0_z (by omega)]
    rw [show b + 0 + 1 = b + 1 from rfl, show b + 0 + 2 = b + 2 from rfl, show b + 0 + 3 = b + 3 from rfl, show b + 0 + 4 = b + 4 from rfl, show b + 0 + 5 = b + 5 from rfl, show b + 0 + 6 = b + 6 from rfl, show b + 0 + 7 = b + 7 from rfl, show b + 0 + 8 = b + 8 from rfl, f1.1, f2.1, f3.1, f4.1, f5.1, f6.1, f7.1, f8.1]
  have ei : ∀ i n, i < 9 → 1 ≤ i → alen (lkL i) = n → 20 ≤ lkL i → lkL i < 40 → cellE X σ0 (b + i) = cI ca n := by
    intro i n hi h1 hn h20 h40
    rw [ce_i (lkL i) (ht i hi).2.2 h20 h40, σ0_z (by omega), hcA, hn]
  refine ⟨f0.1, fun k h1 h2 => ?_⟩
  by_cases ek : k = b
  · have e9 : cellE X σ0 b = _ := e0
    rw [ek, e9]
    exact f0.2
  rcases (show k = b + 1 ∨ k = b + 2 ∨ k = b + 3 ∨ k = b + 4 ∨ k = b + 5 ∨ k = b + 6 ∨ k = b + 7 ∨ k = b + 8 by omega) with e | e | e | e | e | e | e | e <;> subst e
  · rw [ei 1 7 (by omega) (by omega) rfl (by decide) (by decide)]; exact f1.2
  · rw [ei 2 7 (by omega) (by omega) rfl (by decide) (by decide)]; exact f2.2
  · rw [ei 3 6 (by omega) (by omega) rfl (by decide) (by decide)]; exact f3.2
  · rw [ei 4 6 (by omega) (by omega) rfl (by decide) (by decide)]; exact f4.2
  · rw [ei 5 6 (by omega) (by omega) rfl (by decide) (by decide)]; exact f5.2
  · rw [ei 6 6 (by omega) (by omega) rfl (by decide) (by decide)]; exact f6.2
  · rw [ei 7 6 (by omega) (by omega) rfl (by decide) (by decide)]; exact f7.2
  · rw [ei 8 7 (by omega) (by omega) rfl (by decide) (by decide)]; exact f8.2
theorem w_flat (M l1 l2 l3 l4 l5 L0 L1 L2 L3 L4 L5 L6 L7 l7 l8 l9 l10 l11 l12 l13 l14 l15 l16 : va_W) (x1 x2 x3 a q y1 y2 : Nat × va_E) : M ++ ((x1 :: (x2 :: (x3 :: ((((((((((((((([] ++ l1) ++ l2) ++ l3) ++ l4) ++ l5) ++ (a :: (q :: (((((((([] ++ L0) ++ L1) ++ L2) ++ L3) ++ L4) ++ L5) ++ L6) ++ L7)))) ++ l7) ++ l8) ++ l9) ++ (y1 :: l10)) ++ (y2 :: (l11 ++ l12))) ++ l13) ++ l14) ++ l15) ++ l16)))) ++ []) = [M, [x1, x2, x3], l1, l2, l3, l4, l5, [a, q], L0, L1, L2, L3, L4, L5, L6, L7, l7, l8, l9, [y1], l10, [y2], l11, l12, l13, l14, l15, l16].flatten := by
  simp
