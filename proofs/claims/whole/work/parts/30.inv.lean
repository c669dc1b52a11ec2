/-! ===== THE INVARIANT: what the class and the model hold alike ===== -/
def f_tx (k j : Nat) : Prop := (k = 1 ∧ j = 1) ∨ k = 2 ∨ (k = 161 ∧ j = 1) ∨ k = 162
def f_told (k _j : Nat) : Prop := (3 ≤ k ∧ k ≤ 11) ∨ k = 163
def f_now (k _j : Nat) : Prop := (22 ≤ k ∧ k ≤ 30) ∨ k = 165
def f_past (k j : Nat) : Prop := k = 31 ∨ (33 ≤ k ∧ k ≤ 104) ∨ (k = 161 ∧ j = 14) ∨ k = 167
def f_kept (k _j : Nat) : Prop := k = 106 ∨ (107 ≤ k ∧ k ≤ 124) ∨ k = 168 ∨ k = 169
def f_see (k j : Nat) : Prop := (147 ≤ k ∧ k ≤ 150) ∨ (k = 161 ∧ j = 22) ∨ k = 174
def f_cup (k _j : Nat) : Prop := (152 ≤ k ∧ k ≤ 160) ∨ (175 ≤ k ∧ k ≤ 178)
def Ptx (n : Nat) (tx : Nat → Nat) (σ : ST) : Prop := n ≤ 200 ∧ σ 1 1 = nI n ∧ σ 161 1 = nI n ∧ ∀ j, j < n → tx j < 256 ∧ σ 2 j = nI (tx j) ∧ σ 162 j = nI (tx j)
/-- as told: no luck, nobody told beyond the last, evening 0 -/
def WT (w : La) : Prop := WL w ∧ w 2 = 0 ∧ (∀ k, k < 7 → w (5 + 3 * k) = 0) ∧ ∀ p, w 1 ≤ p → p < 6 → w (27 + 4 * p) = 0
def Ptold (w : La) (σ : ST) : Prop := WT w ∧ RC w 3 σ ∧ RM w 163 0 σ
def WN (w : La) : Prop := WL w ∧ w 2 ≤ 999
def Pnow (w : La) (σ : ST) : Prop := WN w ∧ RC w 22 σ ∧ RM w 165 0 σ
def Ppast (u nx : Nat) (ps : Nat → La) (σ : ST) : Prop := u ≤ 8 ∧ nx < 8 ∧ σ 31 1 = nI nx ∧ σ 31 2 = nI u ∧ σ 161 14 = nI u ∧ ∀ i, i < u → WN (ps i) ∧ RC (ps i) (33 + 9 * ((nx + 8 - u + i) % 8)) σ ∧ RM (ps i) 167 (48 * i) σ
def Pkept (ik : Nat → Nat) (kp : Nat → La) (σ : ST) : Prop := ∀ k, k < 2 → ik k ≤ 1 ∧ σ 106 k = nI (ik k) ∧ σ 169 k = nI (ik k) ∧ (ik k = 1 → WN (kp k) ∧ RC (kp k) (107 + 9 * k) σ ∧ RM (kp k) 168 (48 * k) σ)
def Psee (n : Nat) (sb sc sa : Nat → Nat) (σ : ST) : Prop := n ≤ 6 ∧ σ 147 3 = nI n ∧ σ 161 22 = nI n ∧ ∀ i, i < n → (sb i ≤ 40 ∧ sc i ≤ 1 ∧ sa i ≤ 40) ∧ (σ 148 i = nI (sb i) ∧ σ 149 i = nI (sc i) ∧ σ 150 i = nI (sa i)) ∧ σ 174 (3 * i) = nI (sb i) ∧ σ 174 (3 * i + 1) = nI (sc i) ∧ σ 174 (3 * i + 2) = nI (sa i)
/-- a cup: missing (0) or not, room, how many, what sort and number each is -/
def Pcup (c ms rm n : Nat) (so : Nat → Nat) (va : Nat → Int32) (fi : Nat) (σ : ST) : Prop := ms ≤ 1 ∧ rm ≤ 9 ∧ n ≤ rm ∧ fi < 9 ∧ (ms = 1 → rm = 0) ∧
  σ (152 + 3 * c) 2 = nI fi ∧ σ (152 + 3 * c) 3 = nI ms ∧ σ (152 + 3 * c) 4 = nI rm ∧ σ (152 + 3 * c) 5 = nI n ∧ σ 175 c = (if ms = 1 then -1 else nI rm) ∧ σ 176 c = nI n ∧
  ∀ i, i < n → so i ≤ 2 ∧ σ (152 + 3 * c + 1) ((fi + i) % 9) = nI (so i) ∧ σ (152 + 3 * c + 2) ((fi + i) % 9) = va i ∧ σ 177 (9 * c + i) = nI (so i) ∧ σ 178 (9 * c + i) = va i
def Inv (σ : ST) : Prop := (∃ n tx, Ptx n tx σ) ∧ (∃ w, Ptold w σ) ∧ (∃ w, Pnow w σ) ∧ (∃ u nx ps, Ppast u nx ps σ) ∧ (∃ ik kp, Pkept ik kp σ) ∧ (∃ n sb sc sa, Psee n sb sc sa σ) ∧ ∀ c, c < 3 → ∃ ms rm n so va fi, Pcup c ms rm n so va fi σ
theorem RC.keep {w : La} {b : Nat} {σ σ' : ST} (h : RC w b σ) (hk : ∀ k j, b ≤ k → k ≤ b + 8 → σ' k j = σ k j) : RC w b σ' := by
  obtain ⟨⟨c1, c2, c3, c4, c5⟩, he, hl, hg⟩ := h
  refine ⟨⟨?_, ?_, ?_, fun k h => ?_, fun p h => ⟨?_, ?_, ?_⟩⟩, ?_, fun k h => ?_, fun p h => ?_⟩
  · rw [hk _ _ (by omega) (by omega)]; exact c1
  · rw [hk _ _ (by omega) (by omega)]; exact c2
  · rw [hk _ _ (by omega) (by omega)]; exact c3
  · rw [hk _ _ (by omega) (by omega)]; exact c4 k h
  · rw [hk _ _ (by omega) (by omega)]; exact (c5 p h).1
  · rw [hk _ _ (by omega) (by omega)]; exact (c5 p h).2.1
  · rw [hk _ _ (by omega) (by omega)]; exact (c5 p h).2.2
  · rw [hk _ _ (by omega) (by omega)]; exact he
  · rw [hk _ _ (by omega) (by omega)]; exact hl k h
  · rw [hk _ _ (by omega) (by omega)]; exact hg p h
theorem RM.keep {w : La} {c o : Nat} {σ σ' : ST} (h : RM w c o σ) (hk : ∀ j, j < 48 → σ' c (o + j) = σ c (o + j)) : RM w c o σ' := fun j hj => by rw [hk j hj]; exact h j hj
theorem Ptx.keep {n : Nat} {tx : Nat → Nat} {σ σ' : ST} (h : Ptx n tx σ) (hk : ∀ k j, f_tx k j → σ' k j = σ k j) : Ptx n tx σ' := by
  obtain ⟨h1, h2, h3, h4⟩ := h
  refine ⟨h1, ?_, ?_, fun j hj => ⟨(h4 j hj).1, ?_, ?_⟩⟩
  · rw [hk _ _ (by unfold f_tx; omega)]; exact h2
  · rw [hk _ _ (by unfold f_tx; omega)]; exact h3
  · rw [hk _ _ (by unfold f_tx; omega)]; exact (h4 j hj).2.1
  · rw [hk _ _ (by unfold f_tx; omega)]; exact (h4 j hj).2.2
theorem Ptold.keep {w : La} {σ σ' : ST} (h : Ptold w σ) (hk : ∀ k j, f_told k j → σ' k j = σ k j) : Ptold w σ' :=
  ⟨h.1, h.2.1.keep (fun k j a b => hk k j (by unfold f_told; omega)), h.2.2.keep (fun j _ => hk _ _ (by unfold f_told; omega))⟩
theorem Pnow.keep {w : La} {σ σ' : ST} (h : Pnow w σ) (hk : ∀ k j, f_now k j → σ' k j = σ k j) : Pnow w σ' :=
  ⟨h.1, h.2.1.keep (fun k j a b => hk k j (by unfold f_now; omega)), h.2.2.keep (fun j _ => hk _ _ (by unfold f_now; omega))⟩
theorem Ppast.keep {u nx : Nat} {ps : Nat → La} {σ σ' : ST} (h : Ppast u nx ps σ) (hk : ∀ k j, f_past k j → σ' k j = σ k j) : Ppast u nx ps σ' := by
  obtain ⟨h1, h2, h3, h4, h5, h6⟩ := h
  refine ⟨h1, h2, ?_, ?_, ?_, fun i hi => ⟨(h6 i hi).1, (h6 i hi).2.1.keep (fun k j a b => hk k j ?_), (h6 i hi).2.2.keep (fun j _ => hk _ _ ?_)⟩⟩
  · rw [hk _ _ (by unfold f_past; omega)]; exact h3
  · rw [hk _ _ (by unfold f_past; omega)]; exact h4
  · rw [hk _ _ (by unfold f_past; omega)]; exact h5
  · unfold f_past; omega
  · unfold f_past; omega
theorem Pkept.keep {ik : Nat → Nat} {kp : Nat → La} {σ σ' : ST} (h : Pkept ik kp σ) (hk : ∀ k j, f_kept k j → σ' k j = σ k j) : Pkept ik kp σ' := by
  intro k hk2
  obtain ⟨h1, h2, h3, h4⟩ := h k hk2
  refine ⟨h1, ?_, ?_, fun e => ⟨(h4 e).1, (h4 e).2.1.keep (fun k j a b => hk k j ?_), (h4 e).2.2.keep (fun j _ => hk _ _ ?_)⟩⟩
  · rw [hk _ _ (by unfold f_kept; omega)]; exact h2
  · rw [hk _ _ (by unfold f_kept; omega)]; exact h3
  · unfold f_kept; omega
  · unfold f_kept; omega
theorem Psee.keep {n : Nat} {sb sc sa : Nat → Nat} {σ σ' : ST} (h : Psee n sb sc sa σ) (hk : ∀ k j, f_see k j → σ' k j = σ k j) : Psee n sb sc sa σ' := by
  obtain ⟨h1, h2, h3, h4⟩ := h
  refine ⟨h1, ?_, ?_, fun i hi => ?_⟩
  · rw [hk _ _ (by unfold f_see; omega)]; exact h2
  · rw [hk _ _ (by unfold f_see; omega)]; exact h3
  · obtain ⟨a, ⟨b1, b2, b3⟩, c1, c2, c3⟩ := h4 i hi
    refine ⟨a, ⟨?_, ?_, ?_⟩, ?_, ?_, ?_⟩
    · rw [hk _ _ (by unfold f_see; omega)]; exact b1
    · rw [hk _ _ (by unfold f_see; omega)]; exact b2
    · rw [hk _ _ (by unfold f_see; omega)]; exact b3
    · rw [hk _ _ (by unfold f_see; omega)]; exact c1
    · rw [hk _ _ (by unfold f_see; omega)]; exact c2
    · rw [hk _ _ (by unfold f_see; omega)]; exact c3
/-- the cells of one cup -/
def f_cup1 (c k j : Nat) : Prop := (152 + 3 * c ≤ k ∧ k ≤ 154 + 3 * c) ∨ ((k = 175 ∨ k = 176) ∧ j = c) ∨ ((k = 177 ∨ k = 178) ∧ 9 * c ≤ j ∧ j < 9 * c + 9)
theorem Pcup.keep {c ms rm n fi : Nat} {so : Nat → Nat} {va : Nat → Int32} {σ σ' : ST} (h : Pcup c ms rm n so va fi σ) (hk : ∀ k j, f_cup1 c k j → σ' k j = σ k j) : Pcup c ms rm n so va fi σ' := by
  obtain ⟨h1, h2, h3, h4, h5, a1, a2, a3, a4, a5, a6, a7⟩ := h
  refine ⟨h1, h2, h3, h4, h5, ?_, ?_, ?_, ?_, ?_, ?_, fun i hi => ?_⟩
  · rw [hk _ _ (by unfold f_cup1; omega)]; exact a1
  · rw [hk _ _ (by unfold f_cup1; omega)]; exact a2
  · rw [hk _ _ (by unfold f_cup1; omega)]; exact a3
  · rw [hk _ _ (by unfold f_cup1; omega)]; exact a4
  · rw [hk _ _ (by unfold f_cup1; omega)]; exact a5
  · rw [hk _ _ (by unfold f_cup1; omega)]; exact a6
  · obtain ⟨b0, b1, b2, b3, b4⟩ := a7 i hi
    refine ⟨b0, ?_, ?_, ?_, ?_⟩
    · rw [hk _ _ (by unfold f_cup1; omega)]; exact b1
    · rw [hk _ _ (by unfold f_cup1; omega)]; exact b2
    · rw [hk _ _ (by unfold f_cup1; omega)]; exact b3
    · rw [hk _ _ (by unfold f_cup1; omega)]; exact b4
/-- nothing that the invariant speaks of has changed -/
def f_any (k j : Nat) : Prop := f_tx k j ∨ f_told k j ∨ f_now k j ∨ f_past k j ∨ f_kept k j ∨ f_see k j ∨ f_cup k j
theorem Inv.keep {σ σ' : ST} (h : Inv σ) (hk : ∀ k j, f_any k j → σ' k j = σ k j) : Inv σ' := by
  obtain ⟨⟨n, tx, h1⟩, ⟨w1, h2⟩, ⟨w2, h3⟩, ⟨u, nx, ps, h4⟩, ⟨ik, kp, h5⟩, ⟨sn, sb, sc, sa, h6⟩, h7⟩ := h
  refine ⟨⟨n, tx, h1.keep (fun k j f => hk k j (Or.inl f))⟩, ⟨w1, h2.keep (fun k j f => hk k j (Or.inr (Or.inl f)))⟩, ⟨w2, h3.keep (fun k j f => hk k j (Or.inr (Or.inr (Or.inl f))))⟩, ⟨u, nx, ps, h4.keep (fun k j f => hk k j (Or.inr (Or.inr (Or.inr (Or.inl f)))))⟩, ⟨ik, kp, h5.keep (fun k j f => hk k j (Or.inr (Or.inr (Or.inr (Or.inr (Or.inl f))))))⟩, ⟨sn, sb, sc, sa, h6.keep (fun k j f => hk k j (Or.inr (Or.inr (Or.inr (Or.inr (Or.inr (Or.inl f)))))))⟩, fun c hc => ?_⟩
  obtain ⟨ms, rm, n, so, va, fi, h8⟩ := h7 c hc
  exact ⟨ms, rm, n, so, va, fi, h8.keep (fun k j f => hk k j (Or.inr (Or.inr (Or.inr (Or.inr (Or.inr (Or.inr (by unfold f_cup1 at f; unfold f_cup; omega))))))))⟩
