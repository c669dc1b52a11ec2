theorem kn_ok {s : State} {b : Nat} (htT : ∀ w ∈ TS, w.before #[Value.ref b] s = true) : ∀ k : Nat, ∃ cd : ClassId × (Nat → Nat), ∀ q : vw_C, cls[k]? = some q → u_Kn s q.1 q.2.1 q.2.2 cd.1 cd.2 := by
  intro k
  by_cases hk : k < 10
  · match k, hk with
    | 0, _ =>
      obtain ⟨c0, i0, h⟩ := u_known (C := RX0) (T := TX0) (N := 6) (n := 6) htT (uw_ok 0 _ _ _ rfl) (htT (.instantiable RX0 6) (TS_at (i := 256) (by decide +kernel) rfl))
      exact ⟨(c0, i0), fun q hq => by cases hq; exact h⟩
    | 1, _ =>
      obtain ⟨c0, i0, h⟩ := u_known (C := RX1) (T := TX1) (N := 1) (n := 1) htT (uw_ok 1 _ _ _ rfl) (htT (.instantiable RX1 1) (TS_at (i := 199) (by decide +kernel) rfl))
      exact ⟨(c0, i0), fun q hq => by cases hq; exact h⟩
    | 2, _ =>
      obtain ⟨c0, i0, h⟩ := u_known (C := RX2) (T := TX2) (N := 4) (n := 4) htT (uw_ok 2 _ _ _ rfl) (htT (.instantiable RX2 4) (TS_at (i := 212) (by decide +kernel) rfl))
      exact ⟨(c0, i0), fun q hq => by cases hq; exact h⟩
    | 3, _ =>
      obtain ⟨c0, i0, h⟩ := u_known (C := RX4) (T := TX4) (N := 13) (n := 13) htT (uw_ok 3 _ _ _ rfl) (htT (.instantiable RX4 13) (TS_at (i := 90) (by decide +kernel) rfl))
      exact ⟨(c0, i0), fun q hq => by cases hq; exact h⟩
    | 4, _ =>
      obtain ⟨c0, i0, h⟩ := u_known (C := RX5) (T := TX5) (N := 2) (n := 2) htT (uw_ok 4 _ _ _ rfl) (htT (.instantiable RX5 2) (TS_at (i := 74) (by decide +kernel) rfl))
      exact ⟨(c0, i0), fun q hq => by cases hq; exact h⟩
    | 5, _ =>
      obtain ⟨c0, i0, h⟩ := u_known (C := RX6) (T := TX6) (N := 3) (n := 3) htT (uw_ok 5 _ _ _ rfl) (htT (.instantiable RX6 3) (TS_at (i := 179) (by decide +kernel) rfl))
      exact ⟨(c0, i0), fun q hq => by cases hq; exact h⟩
    | 6, _ =>
      obtain ⟨c0, i0, h⟩ := u_known (C := RX7) (T := TX7) (N := 5) (n := 5) htT (uw_ok 6 _ _ _ rfl) (htT (.instantiable RX7 5) (TS_at (i := 156) (by decide +kernel) rfl))
      exact ⟨(c0, i0), fun q hq => by cases hq; exact h⟩
    | 7, _ =>
      obtain ⟨c0, i0, h⟩ := u_known (C := RX8) (T := TX8) (N := 4) (n := 4) htT (uw_ok 7 _ _ _ rfl) (htT (.instantiable RX8 4) (TS_at (i := 235) (by decide +kernel) rfl))
      exact ⟨(c0, i0), fun q hq => by cases hq; exact h⟩
    | 8, _ =>
      obtain ⟨c0, i0, h⟩ := u_known (C := RX9) (T := TX9) (N := 12) (n := 12) htT (uw_ok 8 _ _ _ rfl) (htT (.instantiable RX9 12) (TS_at (i := 66) (by decide +kernel) rfl))
      exact ⟨(c0, i0), fun q hq => by cases hq; exact h⟩
    | 9, _ =>
      obtain ⟨c0, i0, h⟩ := u_known (C := RX10) (T := TX10) (N := 27) (n := 27) htT (uw_ok 9 _ _ _ rfl) (htT (.instantiable RX10 27) (TS_at (i := 866) (by decide +kernel) rfl))
      exact ⟨(c0, i0), fun q hq => by cases hq; exact h⟩
  · exact ⟨(0, fun _ => 0), fun q hq => by
      rw [List.getElem?_eq_none (by show 10 ≤ k; omega)] at hq
      cases hq⟩
theorem ca_ok {s : State} {b : Nat} (hts : ∀ w ∈ lw_tbl, w.before #[Value.ref b] s = true) : ∃ ca : Nat → ClassId, ∀ (k : Nat) (q : ClassId × FieldType), (tyT ca)[k]? = some q → ArrOfT s q.1 q.2 ∧ va_RA s q.1 q.2 := by
  obtain ⟨c0, k0, p0, a1, a2, a3⟩ := Cond.arrayClass_spec (type := .int) (hts _ (List.mem_of_getElem? (i := 88) (by decide +kernel)))
  obtain ⟨c1, k1, p1, b1, b2, b3⟩ := Cond.arrayClass_spec (type := .boolean) (hts _ (List.mem_of_getElem? (i := 210) (by decide +kernel)))
  obtain ⟨p2, c2, k2, d1, d2, d3, d4, d5⟩ := Cond.arrayOver_spec (n := "DoorTears$Lane") (hts _ (List.mem_of_getElem? (i := 185) (by decide +kernel)))
  obtain ⟨p3, c3, k3, e1, e2, e3, e4, e5⟩ := Cond.arrayOver_spec (n := "DoorTears$Cup") (hts _ (List.mem_of_getElem? (i := 255) (by decide +kernel)))
  refine ⟨fun i => match i with | 0 => c0 | 1 => c1 | 2 => c2 | _ => c3, fun k q hq => ?_⟩
  match k, hq with
  | 0, hq => cases hq; exact ⟨fun n z => ⟨fun k h => (by cases h), k0, a2, p0, a3⟩, a1⟩
  | 1, hq => cases hq; exact ⟨fun n z => ⟨fun k h => (by cases h), k1, b2, p1, b3⟩, b1⟩
  | 2, hq => cases hq; exact ⟨fun n z => ⟨fun k h => (by cases h), k2, d3, p2, d4⟩, k2, p2, d3, d4, d1, d5⟩
  | 3, hq => cases hq; exact ⟨fun n z => ⟨fun k h => (by cases h), k3, e3, p3, e4⟩, k3, p3, e3, e4, e1, e5⟩
theorem dL_law_0 : decode code 0 = .ok (.new 7, 3) := by decide +kernel
theorem dL_law_3 : decode code 3 = .ok (.dup, 1) := by decide +kernel
theorem dL_law_4 : decode code 4 = .ok (.invokespecial 9, 3) := by decide +kernel
theorem dL_law_7 : decode code 7 = .ok (.astore_n 1, 1) := by decide +kernel
theorem dL_law_8 : decode code 8 = .ok (.new 10, 3) := by decide +kernel
theorem dL_law_11 : decode code 11 = .ok (.dup, 1) := by decide +kernel
theorem dL_law_12 : decode code 12 = .ok (.invokespecial 12, 3) := by decide +kernel
theorem dL_law_15 : decode code 15 = .ok (.astore_n 2, 1) := by decide +kernel
set_option maxRecDepth 100000 in
set_option maxHeartbeats 8000000 in
/-- the law, from its entry -/
theorem whole_start {p : Program} {e : Env} {s : State} {m : MethodId} {below : List Frame} {meth : Method} {c : Code} (l : Launch) (hflags : l.flags = flags0) {b L : Nat} {xs : Nat → Int32} (hL : L ≤ 2560) (C0 : lw_At p s m meth c b L xs) : W p l e room_1 s m #[Value.ref b] below meth c s.heap [] 0 0 (lw_Z below #[Value.ref b] s) (entryFrame m ([Value.ref b] : List Value).toArray 4) := by
  obtain ⟨hx, hb, hr, hml, hown, hts, hX, hbl, hlocks, hgv⟩ := id C0
  have htT : ∀ w ∈ TS, w.before #[Value.ref b] s = true := fun w hw => hts w (List.mem_filter.mp hw).1
  obtain ⟨cd, hcd⟩ := pick_f (kn_ok htT)
  obtain ⟨ca, hca⟩ := ca_ok hts
  obtain ⟨D, hDe⟩ : ∃ D : va_G, D = (fun k => (cd k).1, fun k => (cd k).2) := ⟨_, rfl⟩
  have hK : va_K D cls (tyT ca) s := by
    rw [hDe]
    exact ⟨fun k q hq => hcd k q hq, hca⟩
  have hAm : Am D ca s := ⟨hK, va_AO.of (hts _ (List.mem_of_getElem? (i := 185) (by decide +kernel))), va_AO.of (hts _ (List.mem_of_getElem? (i := 255) (by decide +kernel)))⟩
  have F : Fx p s m #[Value.ref b] c "DoorTearsLaw" 4 code := ⟨hx, hb, hml, hown, htT⟩
  obtain ⟨sA, kK, kV, fm, st1, st2, st3, st4, st5, st6⟩ := st_ok hts hgv
  obtain ⟨A, hAe⟩ : ∃ A : Nat → Prop, A = (fun q => s.heap.size ≤ q) := ⟨_, rfl⟩
  have hw : Wd D A s s.heap [] [] := ⟨fun k q h => by simp at h, ⟨fun i j p q h => by simp at h, fun k q h => by simp at h⟩, va_S.rf, fun q h => by rw [hAe]; exact h⟩
  have hl := lv_entry ([.ref b]) (n := 4) (Nat.le_of_ble_eq_true rfl)
  rw [lg_entry_eq]
  generalize (lg_sl ([.ref b]) ++ List.replicate (4 - (lg_sl ([.ref b])).length) Slot.unset).toArray = ls at hl ⊢
  have hl : lv_has ls 4 [(0, .ref b)] := hl
  refine k_new F hAm hw (ci := 8) tyX9 tyX9_ok rfl (TS_at (i := 65) (by decide +kernel) rfl) (TS_at (i := 66) (by decide +kernel) rfl) (TS_at (i := 46) (by decide +kernel) rfl) (fs := fs0_9) df_9 (Nat.le_of_ble_eq_true rfl) (Nat.le_of_ble_eq_true rfl) dL_law_0 (fun qd H hw => ?_)
  refine lv_dup hx hb dL_law_3 rfl ?_
  refine k_init F hAm (n := 0) (ci_9 l D ca qd) rfl (TS_at (i := 69) rfl rfl) (TS_at (i := 46) (by decide +kernel) rfl) (TS_at (i := 67) (by decide +kernel) rfl) (TS_at (i := 68) (by decide +kernel) rfl) ⟨by decide +kernel, by decide +kernel, by decide +kernel⟩ rfl ⟨rfl, rfl⟩ ⟨(Nat.le_of_ble_eq_true rfl), (Nat.le_of_ble_eq_true rfl)⟩ hl.1 (Nat.le_of_ble_eq_true rfl) dL_law_4 ⟨(Nat.le_of_ble_eq_true rfl), (Nat.le_of_ble_eq_true rfl)⟩ (wc := [(qd, .inr (8, fs0_9))]) (wr := []) hw rfl (fun w1 H locs hsh hw => ?_)
  obtain ⟨q1, g2, q3, g4, q5, g6, q7, q8, g9, q10, a11, qs12, gs13, q14, q15, q16, g17, q18, g19, q20, q21, g22, q23, q24, g25, a26, b27, q28, g29, q30, q31, g32, q33, g34, q35, g36, rfl⟩ := hsh
  refine lv_astore_n (lv' := [(1, .ref qd), (0, .ref b)]) hx hb dL_law_7 rfl hl (by decide) rfl (fun ls hl => ?_)
  refine k_new F hAm hw (ci := 9) tyX10 tyX10_ok rfl (TS_at (i := 865) (by decide +kernel) rfl) (TS_at (i := 866) (by decide +kernel) rfl) (TS_at (i := 55) (by decide +kernel) rfl) (fs := fs0_10) df_10 (Nat.le_of_ble_eq_true rfl) (Nat.le_of_ble_eq_true rfl) dL_law_8 (fun qm H hw => ?_)
  refine lv_dup hx hb dL_law_11 rfl ?_
  refine k_init F hAm (n := 0) (ci_10 l D ca qm) rfl (TS_at (i := 869) rfl rfl) (TS_at (i := 55) (by decide +kernel) rfl) (TS_at (i := 867) (by decide +kernel) rfl) (TS_at (i := 868) (by decide +kernel) rfl) ⟨by decide +kernel, by decide +kernel, by decide +kernel⟩ rfl ⟨rfl, rfl⟩ ⟨(Nat.le_of_ble_eq_true rfl), (Nat.le_of_ble_eq_true rfl)⟩ hl.1 (Nat.le_of_ble_eq_true rfl) dL_law_12 ⟨(Nat.le_of_ble_eq_true rfl), (Nat.le_of_ble_eq_true rfl)⟩ (wc := [(qm, .inr (9, fs0_10))]) (wr := wDoor ca qd q1 g2 q3 g4 q5 g6 q7 q8 g9 q10 a11 qs12 gs13 q14 q15 q16 g17 q18 g19 q20 q21 g22 q23 q24 g25 a26 b27 q28 g29 q30 q31 g32 q33 g34 q35 g36 ++ []) hw rfl (fun w1 H locs hsh hw => ?_)
  obtain ⟨m1, m2, m3, m4, m5, m6, m7, m8, m9, m10, m11, m12, m13, m14, m15, m16, m17, rfl⟩ := hsh
  refine lv_astore_n (lv' := [(2, .ref qm), (1, .ref qd), (0, .ref b)]) hx hb dL_law_15 rfl hl (by decide) rfl (fun ls hl => ?_)
  have hw : Wd D A s H locs (sAll ca qd qm q1 g2 q3 g4 q5 g6 q7 q8 g9 q10 a11 qs12 gs13 q14 q15 q16 g17 q18 g19 q20 q21 g22 q23 q24 g25 a26 b27 q28 g29 q30 q31 g32 q33 g34 q35 g36 m1 m2 m3 m4 m5 m6 m7 m8 m9 m10 m11 m12 m13 m14 m15 m16 m17).flatten := Eq.mp (congrArg (Wd D A s H locs) (w_seg (ca := ca) (qd := qd) (qm := qm) (q1 := q1) (g2 := g2) (q3 := q3) (g4 := g4) (q5 := q5) (g6 := g6) (q7 := q7) (q8 := q8) (g9 := g9) (q10 := q10) (a11 := a11) (qs12 := qs12) (gs13 := gs13) (q14 := q14) (q15 := q15) (q16 := q16) (g17 := g17) (q18 := q18) (g19 := g19) (q20 := q20) (q21 := q21) (g22 := g22) (q23 := q23) (q24 := q24) (g25 := g25) (a26 := a26) (b27 := b27) (q28 := q28) (g29 := g29) (q30 := q30) (q31 := q31) (g32 := g32) (q33 := q33) (g34 := g34) (q35 := q35) (g36 := g36) (m1 := m1) (m2 := m2) (m3 := m3) (m4 := m4) (m5 := m5) (m6 := m6) (m7 := m7) (m8 := m8) (m9 := m9) (m10 := m10) (m11 := m11) (m12 := m12) (m13 := m13) (m14 := m14) (m15 := m15) (m16 := m16) (m17 := m17))) hw
  obtain ⟨hP, hD, hS, hA⟩ := hw
  have hall : ∀ sa ∈ sAll ca qd qm q1 g2 q3 g4 q5 g6 q7 q8 g9 q10 a11 qs12 gs13 q14 q15 q16 g17 q18 g19 q20 q21 g22 q23 q24 g25 a26 b27 q28 g29 q30 q31 g32 q33 g34 q35 g36 m1 m2 m3 m4 m5 m6 m7 m8 m9 m10 m11 m12 m13 m14 m15 m16 m17, va_P D cls sa H := fun sa hsa => P_mem.mpr (fun q hq => P_mem.mp hP q (List.mem_flatten.mpr ⟨sa, hsa, hq⟩))
  have hcell := cells_all D ca sA kK kV fm b L xs hall
  have hinj0 := adS_inj (segLen (ca := ca) (qd := qd) (qm := qm) (q1 := q1) (g2 := g2) (q3 := q3) (g4 := g4) (q5 := q5) (g6 := g6) (q7 := q7) (q8 := q8) (g9 := g9) (q10 := q10) (a11 := a11) (qs12 := qs12) (gs13 := gs13) (q14 := q14) (q15 := q15) (q16 := q16) (g17 := g17) (q18 := q18) (g19 := g19) (q20 := q20) (q21 := q21) (g22 := g22) (q23 := q23) (q24 := q24) (g25 := g25) (a26 := a26) (b27 := b27) (q28 := q28) (g29 := g29) (q30 := q30) (q31 := q31) (g32 := g32) (q33 := q33) (g34 := g34) (q35 := q35) (g36 := g36) (m1 := m1) (m2 := m2) (m3 := m3) (m4 := m4) (m5 := m5) (m6 := m6) (m7 := m7) (m8 := m8) (m9 := m9) (m10 := m10) (m11 := m11) (m12 := m12) (m13 := m13) (m14 := m14) (m15 := m15) (m16 := m16) (m17 := m17)) hD
  have hA0 := adS_A (segLen (ca := ca) (qd := qd) (qm := qm) (q1 := q1) (g2 := g2) (q3 := q3) (g4 := g4) (q5 := q5) (g6 := g6) (q7 := q7) (q8 := q8) (g9 := g9) (q10 := q10) (a11 := a11) (qs12 := qs12) (gs13 := gs13) (q14 := q14) (q15 := q15) (q16 := q16) (g17 := g17) (q18 := q18) (g19 := g19) (q20 := q20) (q21 := q21) (g22 := g22) (q23 := q23) (q24 := q24) (g25 := g25) (a26 := a26) (b27 := b27) (q28 := q28) (g29 := g29) (q30 := q30) (q31 := q31) (g32 := g32) (q33 := q33) (g34 := g34) (q35 := q35) (g36 := g36) (m1 := m1) (m2 := m2) (m3 := m3) (m4 := m4) (m5 := m5) (m6 := m6) (m7 := m7) (m8 := m8) (m9 := m9) (m10 := m10) (m11 := m11) (m12 := m12) (m13 := m13) (m14 := m14) (m15 := m15) (m16 := m16) (m17 := m17)) hD
  have hX0 : adS (sAll ca qd qm q1 g2 q3 g4 q5 g6 q7 q8 g9 q10 a11 qs12 gs13 q14 q15 q16 g17 q18 g19 q20 q21 g22 q23 q24 g25 a26 b27 q28 g29 q30 q31 g32 q33 g34 q35 g36 m1 m2 m3 m4 m5 m6 m7 m8 m9 m10 m11 m12 m13 m14 m15 m16 m17) 0 = qd := Eq.trans (ad_eq (k := 0) (a := 1) (o := 2) (by decide +kernel) (by decide +kernel) rfl rfl) rfl
  have hX1 : adS (sAll ca qd qm q1 g2 q3 g4 q5 g6 q7 q8 g9 q10 a11 qs12 gs13 q14 q15 q16 g17 q18 g19 q20 q21 g22 q23 q24 g25 a26 b27 q28 g29 q30 q31 g32 q33 g34 q35 g36 m1 m2 m3 m4 m5 m6 m7 m8 m9 m10 m11 m12 m13 m14 m15 m16 m17) 161 = qm := Eq.trans (ad_eq (k := 161) (a := 0) (o := 2) (by decide +kernel) (by decide +kernel) rfl rfl) rfl
  generalize adS (sAll ca qd qm q1 g2 q3 g4 q5 g6 q7 q8 g9 q10 a11 qs12 gs13 q14 q15 q16 g17 q18 g19 q20 q21 g22 q23 q24 g25 a26 b27 q28 g29 q30 q31 g32 q33 g34 q35 g36 m1 m2 m3 m4 m5 m6 m7 m8 m9 m10 m11 m12 m13 m14 m15 m16 m17) = ad at hcell hinj0 hA0 hX0 hX1
  generalize hXe : mkX ad D ca sA kK kV fm b L xs = X at hcell
  have hXa : x_ad X = ad := by rw [← hXe]
  have hX0 : x_ad X 0 = qd := by rw [hXa]; exact hX0
  have hX1 : x_ad X 161 = qm := by rw [hXa]; exact hX1
  have hXb : x_b X = b := by rw [← hXe]
  have hXL : x_L X = L := by rw [← hXe]
  have hXx : x_xs X = xs := by rw [← hXe]
  have hAx : ∀ q, Ax X q → s.heap.size ≤ q := by
    intro q hq
    obtain ⟨k, hk, rfl⟩ := hq
    have := hA0 k hk
    rw [hAe] at this
    rw [hXa]
    exact this
  have hinj : ∀ i j, i < kN → j < kN → x_ad X i = x_ad X j → i = j := by
    rw [hXa]
    exact fun i j hi hj e => hinj0 i j hi hj e
  have hWk : Wk X (fun q => s.heap.size ≤ q) s s.heap := by
    rw [← hXe] at hinj ⊢
    exact ⟨hK, hinj, st1, st2, st3, st4, st5, st6⟩
  have hPO : va_P (x_D X) cls (wsO X σ0) H := by
    intro k q hq
    obtain ⟨hk, rfl⟩ := wsO_inv hq
    have hDX : x_D X = D := by rw [← hXe]
    rw [hDX]
    exact hcell k (Nat.zero_le k) hk
  have hLOK : LOK X 4 ls [some (.inr (60, 0)), some (.inr (8, 0)), some (.inr (9, 161)), none] := by
    refine ⟨?_, rfl, fun v hv => ?_⟩
    · have h2 := lv_sub hl [2, 1, 0] (l' := [(0, .ref b), (1, .ref qd), (2, .ref qm)]) rfl
      rw [← hX0, ← hX1, ← hXb] at h2
      exact h2
    · simp only [List.mem_cons, Option.some.injEq, List.not_mem_nil, or_false, reduceCtorEq] at hv
      rcases hv with rfl | rfl | rfl
      · exact trivial
      · exact ⟨by decide, by decide⟩
      · exact ⟨by decide, by decide⟩
  rw [hAe] at hS
  exact whole_16 l hL C0 hXb hXL hXx hWk hAx (cells := _) (slots := _) (Nat.le_of_ble_eq_true rfl) (Nat.le_of_ble_eq_true rfl) hPO hS Inv_0 hLOK
set_option maxHeartbeats 4000000 in
theorem lw_walk (l : Launch) (hflags : l.flags = flags0) (b : Addr) (xs : List Int32) : MetFree l x (headSpec (Jvm.Cond.code x code maxLocals ret :: tables_1) room_1) (lw_P b xs) (fun _ _ _ _ _ => True) lw_Q := by
  refine MetFree.of_bodyS (code := code) (maxLocals := maxLocals) (ret := ret) (by decide) ?_ ?_
  · intro args s m h hn
    obtain ⟨meth, c, h1, h2, h3, h4, h5, h6, -, -⟩ := Cond.code_spec hn (atoms_spec (ws := Jvm.Cond.code x code maxLocals ret :: tables_1) h _ List.mem_cons_self)
    exact ⟨meth, c, h1, h2, h3, h4, h5, h6⟩
  · intro p e s m args below meth c s₁ B hml0 hP _
    obtain ⟨rfl, hx, hbd, hgv⟩ := hP
    obtain ⟨scr, harrAt, hlist, hof, hsmall⟩ := hx
    obtain ⟨hcb, hkn, -, -⟩ := State.arrayAt?_spec harrAt
    have hown : s.vm.findClass R_law = some m.cls := findClass_of_methodNamed B.named
    have hts0 : ∀ c ∈ (Jvm.Cond.code x code maxLocals ret :: tables_1), c.before #[Value.ref b] s = true := atoms_spec (ws := Jvm.Cond.code x code maxLocals ret :: tables_1) B.pre
    have hts : ∀ w ∈ lw_tbl, w.before #[Value.ref b] s = true := k2_hts_sels lw_privs (fun w hw => hts0 w (List.mem_cons_of_mem _ hw)) lw_privs_ok
    have hml : c.maxLocals = 4 := B.maxLocals_eq (hts0 _ List.mem_cons_self)
    have X₀ : Stand p l e room_1 s m #[Value.ref b] below meth c s₁ [] 0 0 := Stand.of_body B
    have hh0 : s₁.heap = s.heap := by rw [B.state]; rfl
    have hsz : scr.slots.size = xs.length := by rw [← Array.length_toList, hlist, List.length_map]
    have hval : ∀ j : Nat, j < xs.length → scr.slots[j]? = some (.int (xs.getD j 0)) := fun j hj => by
      rw [← Array.getElem?_toList, hlist]
      simp [hj]
    have hbl : b < s.heap.size := (Array.getElem?_eq_some_iff.mp hcb).1
    have hX : va_X b xs.length (fun j => xs.getD j 0) s s.heap := ⟨scr, hcb, hof, hkn, hsz, hval⟩
    have K : W p l e room_1 s m #[Value.ref b] below meth c s₁.heap [] 0 0 (lw_Z below #[Value.ref b] s) (entryFrame m ([Value.ref b] : List Value).toArray 4) := by
      rw [hh0]
      exact whole_start l hflags hbd ⟨B.exec, B.bytes, B.returns, hml, hown, hts, hX, hbl, B.notSynchronized, hgv⟩
    obtain ⟨t, a1, o, b1, b2, b3⟩ := K s₁ rfl X₀
    exact ⟨t, o, a1, b1, b2, b3⟩
theorem lw_pre_spec {args : Array Value} {s : State} (h : (Jvm.Cond.and given_1 narrow_1).before args s = true) (hr : rest_1_c.before args s = true) : ∃ (b : Addr) (xs : List Int32), lw_P b xs args s := by
  have hs := flat_of_before _ h
  have hq := flat_of_before _ hr
  have hc : (Cond.count 1).before args s = true := hs _ (by decide +kernel)
  have harr : (Cond.arrayOf (.arg 0) .int).before args s = true := hs _ (by decide +kernel)
  have hle : (Cond.le (.length (.arg 0)) (.int 2560)).before args s = true := hs _ (by decide +kernel)
  have hlen : (Cond.isInt (.length (.arg 0))).before args s = true := hq _ (by decide +kernel)
  have hall : (Cond.all (.arg 0) (.isInt (.elem (.arg 0) (.index 0)))).before args s = true := hq _ (by decide +kernel)
  obtain ⟨b, xs, hb, hx⟩ := State.ints_of_pre rfl harr hlen hall
  have hsm : xs.length < 2 ^ 31 := hx.choose_spec.2.2.2
  have hev : (Term.length (.arg 0)).eval args s none [] s = some (.int xs.length.toInt32) := hx.length_eval hb
  have hv := Cond.le_ints hev (show (Term.int 2560).eval args s none [] s = some (.int 2560) from rfl)
  have hd : xs.length.toInt32 ≤ 2560 := by
    simpa [Cond.before, Cond.holds, hv] using hle
  have hN : xs.length ≤ 2560 := (Int32.ofNat_le_ofNat hsm (by decide)).mp (show Int32.ofNat xs.length ≤ Int32.ofNat 2560 from hd)
  exact ⟨b, xs, Cond.one_arg hc (show args[0]? = some (.ref b) from hb), hx, hN, h⟩
theorem lw_comes (l : Launch) (hflags : l.flags = flags0) : Comes l x (Jvm.Cond.code x code maxLocals ret :: tables_1) room_1 (fun tb e args s => Calls_1 tb e args s ∧ rest_1 tb e args s ∧ Pre_1 tb e args s)
    (fun _ _ args s o t => lw_Q args s o t) := by
  intro p e ha hc hk s m args below hf hfit hheap happ hpre
  obtain ⟨b, xs, hP⟩ := lw_pre_spec hpre.2.2 hpre.2.1
  obtain ⟨k, o, h1, h2, h3, hQ⟩ := lw_walk l hflags b xs p e ha hc hk s m args below hf ((Spec.applies_iff_loose hf).mp happ).1 hP trivial
  exact ⟨k, o, h1, h2, h3, hQ⟩
theorem lw_frame {s t : State} {o : Outcome} {args : Array Value} (h : Framed s o t [] 600000 7302250) :
    Framed s o t (fieldLocs frame_1_writes args s ++ arrayLocs frame_1_arrays args s ++ staticLocs frame_1_statics s) 600000 7302250 := h
theorem lw_limb (L : Cond) (hL : ∀ (args : Array Value) (s t : State), L.after args s (.returned (some (.int 1))) t = true) :
    ArmFor flags0 classFile x code maxLocals ret World_1 tables_1 room_1 Calls_1 rest_1 Pre_1
      (fun tb e a s o t => postC L tb e a s o t ∧ Framed s o t (fieldLocs frame_1_writes a s ++ arrayLocs frame_1_arrays a s ++ staticLocs frame_1_statics s) 600000 7302250) := by
  intro l hflags _ _ p e ha hc hk s m args below hf hfit hheap happ hpre
  obtain ⟨k, o, h1, h2, h3, rfl, hF⟩ := lw_comes l hflags p e ha hc hk s m args below hf hfit hheap happ hpre
  exact ⟨k, _, h1, h2, h3, hL args s _, lw_frame hF⟩
theorem i_vc : Claimed_1_1 ∧ Claimed_1_2 := ⟨lw_limb limb_1_1 (fun args s t => by simp [limb_1_1, Cond.after, Cond.holds, Cond.value]), lw_limb limb_1_2 (fun args s t => Cond.after_iff.mpr (by
  first | (rw [show limb_1_2 = Cond.eq .result (.int 1) from rfl, Cond.eq_ints (x := 1) (y := 1) rfl rfl]; simp; done) | (simp [limb_1_2, Cond.value, Term.eval]; done)))⟩
