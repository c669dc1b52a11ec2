abbrev sAll (ca : Nat → ClassId) (qd qm : Nat) (q1 : Nat) (g2 : Nat → Nat) (q3 : Nat) (g4 : Nat → Nat) (q5 : Nat) (g6 : Nat → Nat) (q7 : Nat) (q8 : Nat) (g9 : Nat → Nat) (q10 : Nat) (a11 : Nat) (qs12 : Nat → Nat) (gs13 : Nat → Nat → Nat) (q14 : Nat) (q15 : Nat) (q16 : Nat) (g17 : Nat → Nat) (q18 : Nat) (g19 : Nat → Nat) (q20 : Nat) (q21 : Nat) (g22 : Nat → Nat) (q23 : Nat) (q24 : Nat) (g25 : Nat → Nat) (a26 : Nat) (b27 : Nat) (q28 : Nat) (g29 : Nat → Nat) (q30 : Nat) (q31 : Nat) (g32 : Nat → Nat) (q33 : Nat) (g34 : Nat → Nat) (q35 : Nat) (g36 : Nat → Nat) (m1 m2 m3 m4 m5 m6 m7 m8 m9 m10 m11 m12 m13 m14 m15 m16 m17 : Nat) : List va_W := [[(m15, .inl (ca 0, 3, .inl mHold)), (m14, .inl (ca 0, 3, .inl mRoom)), (qm, .inr (9, [.ref m1, .int 0, .int 0, .int 0, .int 0, .int 0, .int 0, .int 0, .int 0, .ref m2, .ref m3, .ref m4, .ref m5, .ref m6, .int 0, .ref m7, .ref m8, .ref m9, .ref m10, .ref m11, .ref m12, .ref m13, .int 0, .ref m14, .ref m15, .ref m16, .ref m17])), (m1, cI ca 200), (m2, cI ca 48), (m3, cI ca 48), (m4, cI ca 48), (m5, cI ca 48), (m6, cI ca 384), (m7, cI ca 96), (m8, cZ ca 2), (m9, cI ca 7), (m10, cI ca 6), (m11, cI ca 6), (m12, cI ca 6), (m13, cI ca 18), (m16, cI ca 27), (m17, cI ca 27)], [(q30, .inl (ca 3, 3, .inr (.inr (.inr (.inr (va_up (va_up (va_up (fun _ => none) 0 (some q31)) 1 (some q33)) 2 (some q35))))))), (q14, .inl (ca 2, 2, .inr (.inr (.inr (.inr (va_up (va_up (fun _ => none) 0 (some q16)) 1 (some q18))))))), (qd, .inr (8, [.ref q1, .ref q3, .ref q5, .ref q7, .ref q8, .ref q10, .ref q14, .ref q15, .ref q20, .ref q23, .ref q28, .ref q30]))], wLetters ca q1 g2, wLane ca q3 g4, wLane ca q5 g6, [(q7, .inr (6, [.ref q1, .ref q5, .int 0, .int 0, .int 0]))], wLane ca q8 g9, [(a11, .inl (ca 2, 8, .inr (.inr (.inr (.inr (upq qs12 8)))))), (q10, .inr (5, [.ref a11, .int 0, .int 0]))], wLane ca (qs12 0) (gs13 0), wLane ca (qs12 1) (gs13 1), wLane ca (qs12 2) (gs13 2), wLane ca (qs12 3) (gs13 3), wLane ca (qs12 4) (gs13 4), wLane ca (qs12 5) (gs13 5), wLane ca (qs12 6) (gs13 6), wLane ca (qs12 7) (gs13 7), [(q15, cZ ca 2)], wLane ca q16 g17, wLane ca q18 g19, [(q20, .inr (1, [.ref q21]))], wLane ca q21 g22, [(q23, .inr (2, [.ref q24, .ref a26, .ref b27, .int 0]))], wLane ca q24 g25, [(a26, cI ca 6), (b27, cI ca 6)], wSights ca q28 g29, wCup ca q31 g32, wCup ca q33 g34, wCup ca q35 g36]
theorem segLen {ca : Nat → ClassId} {qd qm : Nat} {q1 : Nat} {g2 : Nat → Nat} {q3 : Nat} {g4 : Nat → Nat} {q5 : Nat} {g6 : Nat → Nat} {q7 : Nat} {q8 : Nat} {g9 : Nat → Nat} {q10 : Nat} {a11 : Nat} {qs12 : Nat → Nat} {gs13 : Nat → Nat → Nat} {q14 : Nat} {q15 : Nat} {q16 : Nat} {g17 : Nat → Nat} {q18 : Nat} {g19 : Nat → Nat} {q20 : Nat} {q21 : Nat} {g22 : Nat → Nat} {q23 : Nat} {q24 : Nat} {g25 : Nat → Nat} {a26 : Nat} {b27 : Nat} {q28 : Nat} {g29 : Nat → Nat} {q30 : Nat} {q31 : Nat} {g32 : Nat → Nat} {q33 : Nat} {g34 : Nat → Nat} {q35 : Nat} {g36 : Nat → Nat} {m1 m2 m3 m4 m5 m6 m7 m8 m9 m10 m11 m12 m13 m14 m15 m16 m17 : Nat} : (sAll ca qd qm q1 g2 q3 g4 q5 g6 q7 q8 g9 q10 a11 qs12 gs13 q14 q15 q16 g17 q18 g19 q20 q21 g22 q23 q24 g25 a26 b27 q28 g29 q30 q31 g32 q33 g34 q35 g36 m1 m2 m3 m4 m5 m6 m7 m8 m9 m10 m11 m12 m13 m14 m15 m16 m17).map List.length = LsL := rfl
set_option maxRecDepth 100000 in
set_option maxHeartbeats 4000000 in
theorem w_seg {ca : Nat → ClassId} {qd qm : Nat} {q1 : Nat} {g2 : Nat → Nat} {q3 : Nat} {g4 : Nat → Nat} {q5 : Nat} {g6 : Nat → Nat} {q7 : Nat} {q8 : Nat} {g9 : Nat → Nat} {q10 : Nat} {a11 : Nat} {qs12 : Nat → Nat} {gs13 : Nat → Nat → Nat} {q14 : Nat} {q15 : Nat} {q16 : Nat} {g17 : Nat → Nat} {q18 : Nat} {g19 : Nat → Nat} {q20 : Nat} {q21 : Nat} {g22 : Nat → Nat} {q23 : Nat} {q24 : Nat} {g25 : Nat → Nat} {a26 : Nat} {b27 : Nat} {q28 : Nat} {g29 : Nat → Nat} {q30 : Nat} {q31 : Nat} {g32 : Nat → Nat} {q33 : Nat} {g34 : Nat → Nat} {q35 : Nat} {g36 : Nat → Nat} {m1 m2 m3 m4 m5 m6 m7 m8 m9 m10 m11 m12 m13 m14 m15 m16 m17 : Nat} : wModel ca qm m1 m2 m3 m4 m5 m6 m7 m8 m9 m10 m11 m12 m13 m14 m15 m16 m17 ++ (wDoor ca qd q1 g2 q3 g4 q5 g6 q7 q8 g9 q10 a11 qs12 gs13 q14 q15 q16 g17 q18 g19 q20 q21 g22 q23 q24 g25 a26 b27 q28 g29 q30 q31 g32 q33 g34 q35 g36 ++ []) = (sAll ca qd qm q1 g2 q3 g4 q5 g6 q7 q8 g9 q10 a11 qs12 gs13 q14 q15 q16 g17 q18 g19 q20 q21 g22 q23 q24 g25 a26 b27 q28 g29 q30 q31 g32 q33 g34 q35 g36 m1 m2 m3 m4 m5 m6 m7 m8 m9 m10 m11 m12 m13 m14 m15 m16 m17).flatten :=
  w_flat ([(m15, .inl (ca 0, 3, .inl mHold)), (m14, .inl (ca 0, 3, .inl mRoom)), (qm, .inr (9, [.ref m1, .int 0, .int 0, .int 0, .int 0, .int 0, .int 0, .int 0, .int 0, .ref m2, .ref m3, .ref m4, .ref m5, .ref m6, .int 0, .ref m7, .ref m8, .ref m9, .ref m10, .ref m11, .ref m12, .ref m13, .int 0, .ref m14, .ref m15, .ref m16, .ref m17])), (m1, cI ca 200), (m2, cI ca 48), (m3, cI ca 48), (m4, cI ca 48), (m5, cI ca 48), (m6, cI ca 384), (m7, cI ca 96), (m8, cZ ca 2), (m9, cI ca 7), (m10, cI ca 6), (m11, cI ca 6), (m12, cI ca 6), (m13, cI ca 18), (m16, cI ca 27), (m17, cI ca 27)]) (wLetters ca q1 g2) (wLane ca q3 g4) (wLane ca q5 g6) ([(q7, .inr (6, [.ref q1, .ref q5, .int 0, .int 0, .int 0]))]) (wLane ca q8 g9) (wLane ca (qs12 0) (gs13 0)) (wLane ca (qs12 1) (gs13 1)) (wLane ca (qs12 2) (gs13 2)) (wLane ca (qs12 3) (gs13 3)) (wLane ca (qs12 4) (gs13 4)) (wLane ca (qs12 5) (gs13 5)) (wLane ca (qs12 6) (gs13 6)) (wLane ca (qs12 7) (gs13 7)) ([(q15, cZ ca 2)]) (wLane ca q16 g17) (wLane ca q18 g19) (wLane ca q21 g22) (wLane ca q24 g25) ([(a26, cI ca 6), (b27, cI ca 6)]) (wSights ca q28 g29) (wCup ca q31 g32) (wCup ca q33 g34) (wCup ca q35 g36) (q30, .inl (ca 3, 3, .inr (.inr (.inr (.inr (va_up (va_up (va_up (fun _ => none) 0 (some q31)) 1 (some q33)) 2 (some q35))))))) (q14, .inl (ca 2, 2, .inr (.inr (.inr (.inr (va_up (va_up (fun _ => none) 0 (some q16)) 1 (some q18))))))) (qd, .inr (8, [.ref q1, .ref q3, .ref q5, .ref q7, .ref q8, .ref q10, .ref q14, .ref q15, .ref q20, .ref q23, .ref q28, .ref q30])) (a11, .inl (ca 2, 8, .inr (.inr (.inr (.inr (upq qs12 8)))))) (q10, .inr (5, [.ref a11, .int 0, .int 0])) (q20, .inr (1, [.ref q21])) (q23, .inr (2, [.ref q24, .ref a26, .ref b27, .int 0]))
set_option maxRecDepth 100000 in
set_option maxHeartbeats 8000000 in
theorem cells_all (D : va_G) (ca : Nat → ClassId) (sA kK kV : Nat → Nat) (fm : Value) (b L : Nat) (xs : Nat → Int32) {H : Heap} {qd qm : Nat} {q1 : Nat} {g2 : Nat → Nat} {q3 : Nat} {g4 : Nat → Nat} {q5 : Nat} {g6 : Nat → Nat} {q7 : Nat} {q8 : Nat} {g9 : Nat → Nat} {q10 : Nat} {a11 : Nat} {qs12 : Nat → Nat} {gs13 : Nat → Nat → Nat} {q14 : Nat} {q15 : Nat} {q16 : Nat} {g17 : Nat → Nat} {q18 : Nat} {g19 : Nat → Nat} {q20 : Nat} {q21 : Nat} {g22 : Nat → Nat} {q23 : Nat} {q24 : Nat} {g25 : Nat → Nat} {a26 : Nat} {b27 : Nat} {q28 : Nat} {g29 : Nat → Nat} {q30 : Nat} {q31 : Nat} {g32 : Nat → Nat} {q33 : Nat} {g34 : Nat → Nat} {q35 : Nat} {g36 : Nat → Nat} {m1 m2 m3 m4 m5 m6 m7 m8 m9 m10 m11 m12 m13 m14 m15 m16 m17 : Nat} (hall : ∀ sa ∈ sAll ca qd qm q1 g2 q3 g4 q5 g6 q7 q8 g9 q10 a11 qs12 gs13 q14 q15 q16 g17 q18 g19 q20 q21 g22 q23 q24 g25 a26 b27 q28 g29 q30 q31 g32 q33 g34 q35 g36 m1 m2 m3 m4 m5 m6 m7 m8 m9 m10 m11 m12 m13 m14 m15 m16 m17, va_P D cls sa H) : ∀ k, 0 ≤ k → k < 179 → va_at D cls (x_ad (mkX (adS (sAll ca qd qm q1 g2 q3 g4 q5 g6 q7 q8 g9 q10 a11 qs12 gs13 q14 q15 q16 g17 q18 g19 q20 q21 g22 q23 q24 g25 a26 b27 q28 g29 q30 q31 g32 q33 g34 q35 g36 m1 m2 m3 m4 m5 m6 m7 m8 m9 m10 m11 m12 m13 m14 m15 m16 m17)) D ca sA kK kV fm b L xs) k, cellE (mkX (adS (sAll ca qd qm q1 g2 q3 g4 q5 g6 q7 q8 g9 q10 a11 qs12 gs13 q14 q15 q16 g17 q18 g19 q20 q21 g22 q23 q24 g25 a26 b27 q28 g29 q30 q31 g32 q33 g34 q35 g36 m1 m2 m3 m4 m5 m6 m7 m8 m9 m10 m11 m12 m13 m14 m15 m16 m17)) D ca sA kK kV fm b L xs) σ0 k) H := by
  generalize hXe : (mkX (adS (sAll ca qd qm q1 g2 q3 g4 q5 g6 q7 q8 g9 q10 a11 qs12 gs13 q14 q15 q16 g17 q18 g19 q20 q21 g22 q23 q24 g25 a26 b27 q28 g29 q30 q31 g32 q33 g34 q35 g36 m1 m2 m3 m4 m5 m6 m7 m8 m9 m10 m11 m12 m13 m14 m15 m16 m17)) D ca sA kK kV fm b L xs) = X
  have hX : x_ad X = adS (sAll ca qd qm q1 g2 q3 g4 q5 g6 q7 q8 g9 q10 a11 qs12 gs13 q14 q15 q16 g17 q18 g19 q20 q21 g22 q23 q24 g25 a26 b27 q28 g29 q30 q31 g32 q33 g34 q35 g36 m1 m2 m3 m4 m5 m6 m7 m8 m9 m10 m11 m12 m13 m14 m15 m16 m17) := by rw [← hXe]
  have hcA : x_cA X = ca := by rw [← hXe]
  generalize hSe : sAll ca qd qm q1 g2 q3 g4 q5 g6 q7 q8 g9 q10 a11 qs12 gs13 q14 q15 q16 g17 q18 g19 q20 q21 g22 q23 q24 g25 a26 b27 q28 g29 q30 q31 g32 q33 g34 q35 g36 m1 m2 m3 m4 m5 m6 m7 m8 m9 m10 m11 m12 m13 m14 m15 m16 m17 = S at hX hall
  have s0 : S[0]? = some ([(m15, .inl (ca 0, 3, .inl mHold)), (m14, .inl (ca 0, 3, .inl mRoom)), (qm, .inr (9, [.ref m1, .int 0, .int 0, .int 0, .int 0, .int 0, .int 0, .int 0, .int 0, .ref m2, .ref m3, .ref m4, .ref m5, .ref m6, .int 0, .ref m7, .ref m8, .ref m9, .ref m10, .ref m11, .ref m12, .ref m13, .int 0, .ref m14, .ref m15, .ref m16, .ref m17])), (m1, cI ca 200), (m2, cI ca 48), (m3, cI ca 48), (m4, cI ca 48), (m5, cI ca 48), (m6, cI ca 384), (m7, cI ca 96), (m8, cZ ca 2), (m9, cI ca 7), (m10, cI ca 6), (m11, cI ca 6), (m12, cI ca 6), (m13, cI ca 18), (m16, cI ca 27), (m17, cI ca 27)]) := by rw [← hSe]; rfl
  have s1 : S[1]? = some ([(q30, .inl (ca 3, 3, .inr (.inr (.inr (.inr (va_up (va_up (va_up (fun _ => none) 0 (some q31)) 1 (some q33)) 2 (some q35))))))), (q14, .inl (ca 2, 2, .inr (.inr (.inr (.inr (va_up (va_up (fun _ => none) 0 (some q16)) 1 (some q18))))))), (qd, .inr (8, [.ref q1, .ref q3, .ref q5, .ref q7, .ref q8, .ref q10, .ref q14, .ref q15, .ref q20, .ref q23, .ref q28, .ref q30]))]) := by rw [← hSe]; rfl
  have s2 : S[2]? = some (wLetters ca q1 g2) := by rw [← hSe]; rfl
  have s3 : S[3]? = some (wLane ca q3 g4) := by rw [← hSe]; rfl
  have s4 : S[4]? = some (wLane ca q5 g6) := by rw [← hSe]; rfl
  have s5 : S[5]? = some ([(q7, .inr (6, [.ref q1, .ref q5, .int 0, .int 0, .int 0]))]) := by rw [← hSe]; rfl
  have s6 : S[6]? = some (wLane ca q8 g9) := by rw [← hSe]; rfl
  have s7 : S[7]? = some ([(a11, .inl (ca 2, 8, .inr (.inr (.inr (.inr (upq qs12 8)))))), (q10, .inr (5, [.ref a11, .int 0, .int 0]))]) := by rw [← hSe]; rfl
  have s8 : S[8]? = some (wLane ca (qs12 0) (gs13 0)) := by rw [← hSe]; rfl
  have s9 : S[9]? = some (wLane ca (qs12 1) (gs13 1)) := by rw [← hSe]; rfl
  have s10 : S[10]? = some (wLane ca (qs12 2) (gs13 2)) := by rw [← hSe]; rfl
  have s11 : S[11]? = some (wLane ca (qs12 3) (gs13 3)) := by rw [← hSe]; rfl
  have s12 : S[12]? = some (wLane ca (qs12 4) (gs13 4)) := by rw [← hSe]; rfl
  have s13 : S[13]? = some (wLane ca (qs12 5) (gs13 5)) := by rw [← hSe]; rfl
  have s14 : S[14]? = some (wLane ca (qs12 6) (gs13 6)) := by rw [← hSe]; rfl
  have s15 : S[15]? = some (wLane ca (qs12 7) (gs13 7)) := by rw [← hSe]; rfl
  have s16 : S[16]? = some ([(q15, cZ ca 2)]) := by rw [← hSe]; rfl
  have s17 : S[17]? = some (wLane ca q16 g17) := by rw [← hSe]; rfl
  have s18 : S[18]? = some (wLane ca q18 g19) := by rw [← hSe]; rfl
  have s19 : S[19]? = some ([(q20, .inr (1, [.ref q21]))]) := by rw [← hSe]; rfl
  have s20 : S[20]? = some (wLane ca q21 g22) := by rw [← hSe]; rfl
  have s21 : S[21]? = some ([(q23, .inr (2, [.ref q24, .ref a26, .ref b27, .int 0]))]) := by rw [← hSe]; rfl
  have s22 : S[22]? = some (wLane ca q24 g25) := by rw [← hSe]; rfl
  have s23 : S[23]? = some ([(a26, cI ca 6), (b27, cI ca 6)]) := by rw [← hSe]; rfl
  have s24 : S[24]? = some (wSights ca q28 g29) := by rw [← hSe]; rfl
  have s25 : S[25]? = some (wCup ca q31 g32) := by rw [← hSe]; rfl
  have s26 : S[26]? = some (wCup ca q33 g34) := by rw [← hSe]; rfl
  have s27 : S[27]? = some (wCup ca q35 g36) := by rw [← hSe]; rfl
  clear hXe hSe
  have n3 := lane_at (D := D) (H := H) 3 3 hX hcA (by decide) (by decide +kernel) s3 hall
  have n12 := lane_at (D := D) (H := H) 12 4 hX hcA (by decide) (by decide +kernel) s4 hall
  have n22 := lane_at (D := D) (H := H) 22 6 hX hcA (by decide) (by decide +kernel) s6 hall
  have n33 := lane_at (D := D) (H := H) 33 8 hX hcA (by decide) (by decide +kernel) s8 hall
  have n42 := lane_at (D := D) (H := H) 42 9 hX hcA (by decide) (by decide +kernel) s9 hall
  have n51 := lane_at (D := D) (H := H) 51 10 hX hcA (by decide) (by decide +kernel) s10 hall
  have n60 := lane_at (D := D) (H := H) 60 11 hX hcA (by decide) (by decide +kernel) s11 hall
  have n69 := lane_at (D := D) (H := H) 69 12 hX hcA (by decide) (by decide +kernel) s12 hall
  have n78 := lane_at (D := D) (H := H) 78 13 hX hcA (by decide) (by decide +kernel) s13 hall
  have n87 := lane_at (D := D) (H := H) 87 14 hX hcA (by decide) (by decide +kernel) s14 hall
  have n96 := lane_at (D := D) (H := H) 96 15 hX hcA (by decide) (by decide +kernel) s15 hall
  have n107 := lane_at (D := D) (H := H) 107 17 hX hcA (by decide) (by decide +kernel) s17 hall
  have n116 := lane_at (D := D) (H := H) 116 18 hX hcA (by decide) (by decide +kernel) s18 hall
  have n126 := lane_at (D := D) (H := H) 126 20 hX hcA (by decide) (by decide +kernel) s20 hall
  have n136 := lane_at (D := D) (H := H) 136 22 hX hcA (by decide) (by decide +kernel) s22 hall
  have f0 := fin_at (k := 0) (a := 1) (o := 2) (p := qd) (e := .inr (8, [.ref q1, .ref q3, .ref q5, .ref q7, .ref q8, .ref q10, .ref q14, .ref q15, .ref q20, .ref q23, .ref q28, .ref q30])) hX (by decide +kernel) (by decide +kernel) s1 rfl hall
  have f1 := fin_at (k := 1) (a := 2) (o := 0) (p := q1) (e := .inr (4, [.ref (g2 0), .int 0])) hX (by decide +kernel) (by decide +kernel) s2 rfl hall
  have f2 := fin_at (k := 2) (a := 2) (o := 1) (p := (g2 0)) (e := cI ca 200) hX (by decide +kernel) (by decide +kernel) s2 rfl hall
  have f21 := fin_at (k := 21) (a := 5) (o := 0) (p := q7) (e := .inr (6, [.ref q1, .ref q5, .int 0, .int 0, .int 0])) hX (by decide +kernel) (by decide +kernel) s5 rfl hall
  have f31 := fin_at (k := 31) (a := 7) (o := 1) (p := q10) (e := .inr (5, [.ref a11, .int 0, .int 0])) hX (by decide +kernel) (by decide +kernel) s7 rfl hall
  have f32 := fin_at (k := 32) (a := 7) (o := 0) (p := a11) (e := .inl (ca 2, 8, .inr (.inr (.inr (.inr (upq qs12 8)))))) hX (by decide +kernel) (by decide +kernel) s7 rfl hall
  have f105 := fin_at (k := 105) (a := 1) (o := 1) (p := q14) (e := .inl (ca 2, 2, .inr (.inr (.inr (.inr (va_up (va_up (fun _ => none) 0 (some q16)) 1 (some q18))))))) hX (by decide +kernel) (by decide +kernel) s1 rfl hall
  have f106 := fin_at (k := 106) (a := 16) (o := 0) (p := q15) (e := cZ ca 2) hX (by decide +kernel) (by decide +kernel) s16 rfl hall
  have f125 := fin_at (k := 125) (a := 19) (o := 0) (p := q20) (e := .inr (1, [.ref q21])) hX (by decide +kernel) (by decide +kernel) s19 rfl hall
  have f135 := fin_at (k := 135) (a := 21) (o := 0) (p := q23) (e := .inr (2, [.ref q24, .ref a26, .ref b27, .int 0])) hX (by decide +kernel) (by decide +kernel) s21 rfl hall
  have f145 := fin_at (k := 145) (a := 23) (o := 0) (p := a26) (e := cI ca 6) hX (by decide +kernel) (by decide +kernel) s23 rfl hall
  have f146 := fin_at (k := 146) (a := 23) (o := 1) (p := b27) (e := cI ca 6) hX (by decide +kernel) (by decide +kernel) s23 rfl hall
  have f147 := fin_at (k := 147) (a := 24) (o := 0) (p := q28) (e := .inr (7, [.ref (g29 0), .ref (g29 1), .ref (g29 2), .int 0])) hX (by decide +kernel) (by decide +kernel) s24 rfl hall
  have f148 := fin_at (k := 148) (a := 24) (o := 1) (p := (g29 0)) (e := cI ca 6) hX (by decide +kernel) (by decide +kernel) s24 rfl hall
  have f149 := fin_at (k := 149) (a := 24) (o := 2) (p := (g29 1)) (e := cZ ca 6) hX (by decide +kernel) (by decide +kernel) s24 rfl hall
  have f150 := fin_at (k := 150) (a := 24) (o := 3) (p := (g29 2)) (e := cI ca 6) hX (by decide +kernel) (by decide +kernel) s24 rfl hall
  have f151 := fin_at (k := 151) (a := 1) (o := 0) (p := q30) (e := .inl (ca 3, 3, .inr (.inr (.inr (.inr (va_up (va_up (va_up (fun _ => none) 0 (some q31)) 1 (some q33)) 2 (some q35))))))) hX (by decide +kernel) (by decide +kernel) s1 rfl hall
  have f152 := fin_at (k := 152) (a := 25) (o := 0) (p := q31) (e := .inr (0, [.ref (g32 0), .ref (g32 1), .int 0, .int 1, .int 0, .int 0])) hX (by decide +kernel) (by decide +kernel) s25 rfl hall
  have f153 := fin_at (k := 153) (a := 25) (o := 1) (p := (g32 0)) (e := cI ca 9) hX (by decide +kernel) (by decide +kernel) s25 rfl hall
  have f154 := fin_at (k := 154) (a := 25) (o := 2) (p := (g32 1)) (e := cI ca 9) hX (by decide +kernel) (by decide +kernel) s25 rfl hall
  have f155 := fin_at (k := 155) (a := 26) (o := 0) (p := q33) (e := .inr (0, [.ref (g34 0), .ref (g34 1), .int 0, .int 1, .int 0, .int 0])) hX (by decide +kernel) (by decide +kernel) s26 rfl hall
  have f156 := fin_at (k := 156) (a := 26) (o := 1) (p := (g34 0)) (e := cI ca 9) hX (by decide +kernel) (by decide +kernel) s26 rfl hall
  have f157 := fin_at (k := 157) (a := 26) (o := 2) (p := (g34 1)) (e := cI ca 9) hX (by decide +kernel) (by decide +kernel) s26 rfl hall
  have f158 := fin_at (k := 158) (a := 27) (o := 0) (p := q35) (e := .inr (0, [.ref (g36 0), .ref (g36 1), .int 0, .int 1, .int 0, .int 0])) hX (by decide +kernel) (by decide +kernel) s27 rfl hall
  have f159 := fin_at (k := 159) (a := 27) (o := 1) (p := (g36 0)) (e := cI ca 9) hX (by decide +kernel) (by decide +kernel) s27 rfl hall
  have f160 := fin_at (k := 160) (a := 27) (o := 2) (p := (g36 1)) (e := cI ca 9) hX (by decide +kernel) (by decide +kernel) s27 rfl hall
  have f161 := fin_at (k := 161) (a := 0) (o := 2) (p := qm) (e := .inr (9, [.ref m1, .int 0, .int 0, .int 0, .int 0, .int 0, .int 0, .int 0, .int 0, .ref m2, .ref m3, .ref m4, .ref m5, .ref m6, .int 0, .ref m7, .ref m8, .ref m9, .ref m10, .ref m11, .ref m12, .ref m13, .int 0, .ref m14, .ref m15, .ref m16, .ref m17])) hX (by decide +kernel) (by decide +kernel) s0 rfl hall
  have f162 := fin_at (k := 162) (a := 0) (o := 3) (p := m1) (e := cI ca 200) hX (by decide +kernel) (by decide +kernel) s0 rfl hall
  have f163 := fin_at (k := 163) (a := 0) (o := 4) (p := m2) (e := cI ca 48) hX (by decide +kernel) (by decide +kernel) s0 rfl hall
  have f164 := fin_at (k := 164) (a := 0) (o := 5) (p := m3) (e := cI ca 48) hX (by decide +kernel) (by decide +kernel) s0 rfl hall
  have f165 := fin_at (k := 165) (a := 0) (o := 6) (p := m4) (e := cI ca 48) hX (by decide +kernel) (by decide +kernel) s0 rfl hall
  have f166 := fin_at (k := 166) (a := 0) (o := 7) (p := m5) (e := cI ca 48) hX (by decide +kernel) (by decide +kernel) s0 rfl hall
  have f167 := fin_at (k := 167) (a := 0) (o := 8) (p := m6) (e := cI ca 384) hX (by decide +kernel) (by decide +kernel) s0 rfl hall
  have f168 := fin_at (k := 168) (a := 0) (o := 9) (p := m7) (e := cI ca 96) hX (by decide +kernel) (by decide +kernel) s0 rfl hall
  have f169 := fin_at (k := 169) (a := 0) (o := 10) (p := m8) (e := cZ ca 2) hX (by decide +kernel) (by decide +kernel) s0 rfl hall
  have f170 := fin_at (k := 170) (a := 0) (o := 11) (p := m9) (e := cI ca 7) hX (by decide +kernel) (by decide +kernel) s0 rfl hall
  have f171 := fin_at (k := 171) (a := 0) (o := 12) (p := m10) (e := cI ca 6) hX (by decide +kernel) (by decide +kernel) s0 rfl hall
  have f172 := fin_at (k := 172) (a := 0) (o := 13) (p := m11) (e := cI ca 6) hX (by decide +kernel) (by decide +kernel) s0 rfl hall
  have f173 := fin_at (k := 173) (a := 0) (o := 14) (p := m12) (e := cI ca 6) hX (by decide +kernel) (by decide +kernel) s0 rfl hall
  have f174 := fin_at (k := 174) (a := 0) (o := 15) (p := m13) (e := cI ca 18) hX (by decide +kernel) (by decide +kernel) s0 rfl hall
  have f175 := fin_at (k := 175) (a := 0) (o := 1) (p := m14) (e := .inl (ca 0, 3, .inl mRoom)) hX (by decide +kernel) (by decide +kernel) s0 rfl hall
  have f176 := fin_at (k := 176) (a := 0) (o := 0) (p := m15) (e := .inl (ca 0, 3, .inl mHold)) hX (by decide +kernel) (by decide +kernel) s0 rfl hall
  have f177 := fin_at (k := 177) (a := 0) (o := 16) (p := m16) (e := cI ca 27) hX (by decide +kernel) (by decide +kernel) s0 rfl hall
  have f178 := fin_at (k := 178) (a := 0) (o := 17) (p := m17) (e := cI ca 27) hX (by decide +kernel) (by decide +kernel) s0 rfl hall
  have c0 : va_at D cls (x_ad X 0, cellE X σ0 0) H := by
    rw [ce_8 (k := 0) (by decide +kernel)]
    rw [show x_ad X 1 = _ from f1.1]
    rw [show x_ad X 3 = _ from n3.1]
    rw [show x_ad X 12 = _ from n12.1]
    rw [show x_ad X 21 = _ from f21.1]
    rw [show x_ad X 22 = _ from n22.1]
    rw [show x_ad X 31 = _ from f31.1]
    rw [show x_ad X 105 = _ from f105.1]
    rw [show x_ad X 106 = _ from f106.1]
    rw [show x_ad X 125 = _ from f125.1]
    rw [show x_ad X 135 = _ from f135.1]
    rw [show x_ad X 147 = _ from f147.1]
    rw [show x_ad X 151 = _ from f151.1]
    exact f0.2
  have c1 : va_at D cls (x_ad X 1, cellE X σ0 1) H := by
    rw [ce_4 (k := 1) (by decide +kernel)]
    rw [show x_ad X 2 = _ from f2.1]
    exact f1.2
  have c2 : va_at D cls (x_ad X 2, cellE X σ0 2) H := by
    rw [ce_i (k := 2) 20 (by decide +kernel) (by decide) (by decide), hcA]
    exact f2.2
  have c21 : va_at D cls (x_ad X 21, cellE X σ0 21) H := by
    rw [ce_6 (k := 21) (by decide +kernel)]
    rw [show x_ad X 1 = _ from f1.1]
    rw [show x_ad X 12 = _ from n12.1]
    exact f21.2
  have c31 : va_at D cls (x_ad X 31, cellE X σ0 31) H := by
    rw [ce_5 (k := 31) (by decide +kernel)]
    rw [show x_ad X 32 = _ from f32.1]
    exact f31.2
  have c32 : va_at D cls (x_ad X 32, cellE X σ0 32) H := by
    rw [ce_r (k := 32) 50 (by decide +kernel) (by decide), hcA]
    refine at_q f32.2 (fun j hj => ?_)
    match j, hj with
    | 0, _ => exact congrArg some (show _ = x_ad X 33 from (n33.1).symm)
    | 1, _ => exact congrArg some (show _ = x_ad X 42 from (n42.1).symm)
    | 2, _ => exact congrArg some (show _ = x_ad X 51 from (n51.1).symm)
    | 3, _ => exact congrArg some (show _ = x_ad X 60 from (n60.1).symm)
    | 4, _ => exact congrArg some (show _ = x_ad X 69 from (n69.1).symm)
    | 5, _ => exact congrArg some (show _ = x_ad X 78 from (n78.1).symm)
    | 6, _ => exact congrArg some (show _ = x_ad X 87 from (n87.1).symm)
    | 7, _ => exact congrArg some (show _ = x_ad X 96 from (n96.1).symm)
  have c105 : va_at D cls (x_ad X 105, cellE X σ0 105) H := by
    rw [ce_r (k := 105) 51 (by decide +kernel) (by decide), hcA]
    refine at_q f105.2 (fun j hj => ?_)
    match j, hj with
    | 0, _ => exact congrArg some (show _ = x_ad X 107 from (n107.1).symm)
    | 1, _ => exact congrArg some (show _ = x_ad X 116 from (n116.1).symm)
  have c106 : va_at D cls (x_ad X 106, cellE X σ0 106) H := by
    rw [ce_z (k := 106) 40 (by decide +kernel) (by decide) (by decide), hcA]
    exact f106.2
  have c125 : va_at D cls (x_ad X 125, cellE X σ0 125) H := by
    rw [ce_1 (k := 125) (by decide +kernel)]
    rw [show x_ad X 126 = _ from n126.1]
    exact f125.2
  have c135 : va_at D cls (x_ad X 135, cellE X σ0 135) H := by
    rw [ce_2 (k := 135) (by decide +kernel)]
    rw [show x_ad X 136 = _ from n136.1]
    rw [show x_ad X 145 = _ from f145.1]
    rw [show x_ad X 146 = _ from f146.1]
    exact f135.2
  have c145 : va_at D cls (x_ad X 145, cellE X σ0 145) H := by
    rw [ce_i (k := 145) 22 (by decide +kernel) (by decide) (by decide), hcA]
    exact f145.2
  have c146 : va_at D cls (x_ad X 146, cellE X σ0 146) H := by
    rw [ce_i (k := 146) 22 (by decide +kernel) (by decide) (by decide), hcA]
    exact f146.2
  have c147 : va_at D cls (x_ad X 147, cellE X σ0 147) H := by
    rw [ce_7 (k := 147) (by decide +kernel)]
    rw [show x_ad X 148 = _ from f148.1]
    rw [show x_ad X 149 = _ from f149.1]
    rw [show x_ad X 150 = _ from f150.1]
    exact f147.2
  have c148 : va_at D cls (x_ad X 148, cellE X σ0 148) H := by
    rw [ce_i (k := 148) 22 (by decide +kernel) (by decide) (by decide), hcA]
    exact f148.2
  have c149 : va_at D cls (x_ad X 149, cellE X σ0 149) H := by
    rw [ce_z (k := 149) 41 (by decide +kernel) (by decide) (by decide), hcA]
    exact f149.2
  have c150 : va_at D cls (x_ad X 150, cellE X σ0 150) H := by
    rw [ce_i (k := 150) 22 (by decide +kernel) (by decide) (by decide), hcA]
    exact f150.2
  have c151 : va_at D cls (x_ad X 151, cellE X σ0 151) H := by
    rw [ce_r (k := 151) 52 (by decide +kernel) (by decide), hcA]
    refine at_q f151.2 (fun j hj => ?_)
    match j, hj with
    | 0, _ => exact congrArg some (show _ = x_ad X 152 from (f152.1).symm)
    | 1, _ => exact congrArg some (show _ = x_ad X 155 from (f155.1).symm)
    | 2, _ => exact congrArg some (show _ = x_ad X 158 from (f158.1).symm)
  have c152 : va_at D cls (x_ad X 152, cellE X σ0 152) H := by
    rw [ce_0 (k := 152) (by decide +kernel)]
    rw [show x_ad X (152 + 1) = _ from f153.1]
    rw [show x_ad X (152 + 2) = _ from f154.1]
    exact f152.2
  have c153 : va_at D cls (x_ad X 153, cellE X σ0 153) H := by
    rw [ce_i (k := 153) 29 (by decide +kernel) (by decide) (by decide), hcA]
    exact f153.2
  have c154 : va_at D cls (x_ad X 154, cellE X σ0 154) H := by
    rw [ce_i (k := 154) 29 (by decide +kernel) (by decide) (by decide), hcA]
    exact f154.2
  have c155 : va_at D cls (x_ad X 155, cellE X σ0 155) H := by
    rw [ce_0 (k := 155) (by decide +kernel)]
    rw [show x_ad X (155 + 1) = _ from f156.1]
    rw [show x_ad X (155 + 2) = _ from f157.1]
    exact f155.2
  have c156 : va_at D cls (x_ad X 156, cellE X σ0 156) H := by
    rw [ce_i (k := 156) 29 (by decide +kernel) (by decide) (by decide), hcA]
    exact f156.2
  have c157 : va_at D cls (x_ad X 157, cellE X σ0 157) H := by
    rw [ce_i (k := 157) 29 (by decide +kernel) (by decide) (by decide), hcA]
    exact f157.2
  have c158 : va_at D cls (x_ad X 158, cellE X σ0 158) H := by
    rw [ce_0 (k := 158) (by decide +kernel)]
    rw [show x_ad X (158 + 1) = _ from f159.1]
    rw [show x_ad X (158 + 2) = _ from f160.1]
    exact f158.2
  have c159 : va_at D cls (x_ad X 159, cellE X σ0 159) H := by
    rw [ce_i (k := 159) 29 (by decide +kernel) (by decide) (by decide), hcA]
    exact f159.2
  have c160 : va_at D cls (x_ad X 160, cellE X σ0 160) H := by
    rw [ce_i (k := 160) 29 (by decide +kernel) (by decide) (by decide), hcA]
    exact f160.2
  have c161 : va_at D cls (x_ad X 161, cellE X σ0 161) H := by
    rw [ce_9 (k := 161) (by decide +kernel)]
    rw [show x_ad X 162 = _ from f162.1]
    rw [show x_ad X 163 = _ from f163.1]
    rw [show x_ad X 164 = _ from f164.1]
    rw [show x_ad X 165 = _ from f165.1]
    rw [show x_ad X 166 = _ from f166.1]
    rw [show x_ad X 167 = _ from f167.1]
    rw [show x_ad X 168 = _ from f168.1]
    rw [show x_ad X 169 = _ from f169.1]
    rw [show x_ad X 170 = _ from f170.1]
    rw [show x_ad X 171 = _ from f171.1]
    rw [show x_ad X 172 = _ from f172.1]
    rw [show x_ad X 173 = _ from f173.1]
    rw [show x_ad X 174 = _ from f174.1]
    rw [show x_ad X 175 = _ from f175.1]
    rw [show x_ad X 176 = _ from f176.1]
    rw [show x_ad X 177 = _ from f177.1]
    rw [show x_ad X 178 = _ from f178.1]
    exact f161.2
  have c162 : va_at D cls (x_ad X 162, cellE X σ0 162) H := by
    rw [ce_i (k := 162) 20 (by decide +kernel) (by decide) (by decide), hcA]
    exact f162.2
  have c163 : va_at D cls (x_ad X 163, cellE X σ0 163) H := by
    rw [ce_i (k := 163) 23 (by decide +kernel) (by decide) (by decide), hcA]
    exact f163.2
  have c164 : va_at D cls (x_ad X 164, cellE X σ0 164) H := by
    rw [ce_i (k := 164) 23 (by decide +kernel) (by decide) (by decide), hcA]
    exact f164.2
  have c165 : va_at D cls (x_ad X 165, cellE X σ0 165) H := by
    rw [ce_i (k := 165) 23 (by decide +kernel) (by decide) (by decide), hcA]
    exact f165.2
  have c166 : va_at D cls (x_ad X 166, cellE X σ0 166) H := by
    rw [ce_i (k := 166) 23 (by decide +kernel) (by decide) (by decide), hcA]
    exact f166.2
  have c167 : va_at D cls (x_ad X 167, cellE X σ0 167) H := by
    rw [ce_i (k := 167) 24 (by decide +kernel) (by decide) (by decide), hcA]
    exact f167.2
  have c168 : va_at D cls (x_ad X 168, cellE X σ0 168) H := by
    rw [ce_i (k := 168) 25 (by decide +kernel) (by decide) (by decide), hcA]
    exact f168.2
  have c169 : va_at D cls (x_ad X 169, cellE X σ0 169) H := by
    rw [ce_z (k := 169) 40 (by decide +kernel) (by decide) (by decide), hcA]
    exact f169.2
  have c170 : va_at D cls (x_ad X 170, cellE X σ0 170) H := by
    rw [ce_i (k := 170) 21 (by decide +kernel) (by decide) (by decide), hcA]
    exact f170.2
  have c171 : va_at D cls (x_ad X 171, cellE X σ0 171) H := by
    rw [ce_i (k := 171) 22 (by decide +kernel) (by decide) (by decide), hcA]
    exact f171.2
  have c172 : va_at D cls (x_ad X 172, cellE X σ0 172) H := by
    rw [ce_i (k := 172) 22 (by decide +kernel) (by decide) (by decide), hcA]
    exact f172.2
  have c173 : va_at D cls (x_ad X 173, cellE X σ0 173) H := by
    rw [ce_i (k := 173) 22 (by decide +kernel) (by decide) (by decide), hcA]
    exact f173.2
  have c174 : va_at D cls (x_ad X 174, cellE X σ0 174) H := by
    rw [ce_i (k := 174) 26 (by decide +kernel) (by decide) (by decide), hcA]
    exact f174.2
  have c175 : va_at D cls (x_ad X 175, cellE X σ0 175) H := by
    rw [ce_i (k := 175) 27 (by decide +kernel) (by decide) (by decide), hcA]
    exact f175.2
  have c176 : va_at D cls (x_ad X 176, cellE X σ0 176) H := by
    rw [ce_i (k := 176) 27 (by decide +kernel) (by decide) (by decide), hcA]
    exact f176.2
  have c177 : va_at D cls (x_ad X 177, cellE X σ0 177) H := by
    rw [ce_i (k := 177) 28 (by decide +kernel) (by decide) (by decide), hcA]
    exact f177.2
  have c178 : va_at D cls (x_ad X 178, cellE X σ0 178) H := by
    rw [ce_i (k := 178) 28 (by decide +kernel) (by decide) (by decide), hcA]
    exact f178.2
  exact AllP_app (P := fun k => va_at D cls (x_ad X k, cellE X σ0 k) H) (a := 0) (b := 3) (AllP_get (P := fun k => va_at D cls (x_ad X k, cellE X σ0 k) H) 3 0 ⟨c0, c1, c2, trivial⟩) (c := 179) (AllP_app (P := fun k => va_at D cls (x_ad X k, cellE X σ0 k) H) (a := 3) (b := 12) n3.2 (c := 179) (AllP_app (P := fun k => va_at D cls (x_ad X k, cellE X σ0 k) H) (a := 12) (b := 21) n12.2 (c := 179) (AllP_app (P := fun k => va_at D cls (x_ad X k, cellE X σ0 k) H) (a := 21) (b := 22) (AllP_get (P := fun k => va_at D cls (x_ad X k, cellE X σ0 k) H) 1 21 ⟨c21, trivial⟩) (c := 179) (AllP_app (P := fun k => va_at D cls (x_ad X k, cellE X σ0 k) H) (a := 22) (b := 31) n22.2 (c := 179) (AllP_app (P := fun k => va_at D cls (x_ad X k, cellE X σ0 k) H) (a := 31) (b := 33) (AllP_get (P := fun k => va_at D cls (x_ad X k, cellE X σ0 k) H) 2 31 ⟨c31, c32, trivial⟩) (c := 179) (AllP_app (P := fun k => va_at D cls (x_ad X k, cellE X σ0 k) H) (a := 33) (b := 42) n33.2 (c := 179) (AllP_app (P := fun k => va_at D cls (x_ad X k, cellE X σ0 k) H) (a := 42) (b := 51) n42.2 (c := 179) (AllP_app (P := fun k => va_at D cls (x_ad X k, cellE X σ0 k) H) (a := 51) (b := 60) n51.2 (c := 179) (AllP_app (P := fun k => va_at D cls (x_ad X k, cellE X σ0 k) H) (a := 60) (b := 69) n60.2 (c := 179) (AllP_app (P := fun k => va_at D cls (x_ad X k, cellE X σ0 k) H) (a := 69) (b := 78) n69.2 (c := 179) (AllP_app (P := fun k => va_at D cls (x_ad X k, cellE X σ0 k) H) (a := 78) (b := 87) n78.2 (c := 179) (AllP_app (P := fun k => va_at D cls (x_ad X k, cellE X σ0 k) H) (a := 87) (b := 96) n87.2 (c := 179) (AllP_app (P := fun k => va_at D cls (x_ad X k, cellE X σ0 k) H) (a := 96) (b := 105) n96.2 (c := 179) (AllP_app (P := fun k => va_at D cls (x_ad X k, cellE X σ0 k) H) (a := 105) (b := 107) (AllP_get (P := fun k => va_at D cls (x_ad X k, cellE X σ0 k) H) 2 105 ⟨c105, c106, trivial⟩) (c := 179) (AllP_app (P := fun k => va_at D cls (x_ad X k, cellE X σ0 k) H) (a := 107) (b := 116) n107.2 (c := 179) (AllP_app (P := fun k => va_at D cls (x_ad X k, cellE X σ0 k) H) (a := 116) (b := 125) n116.2 (c := 179) (AllP_app (P := fun k => va_at D cls (x_ad X k, cellE X σ0 k) H) (a := 125) (b := 126) (AllP_get (P := fun k => va_at D cls (x_ad X k, cellE X σ0 k) H) 1 125 ⟨c125, trivial⟩) (c := 179) (AllP_app (P := fun k => va_at D cls (x_ad X k, cellE X σ0 k) H) (a := 126) (b := 135) n126.2 (c := 179) (AllP_app (P := fun k => va_at D cls (x_ad X k, cellE X σ0 k) H) (a := 135) (b := 136) (AllP_get (P := fun k => va_at D cls (x_ad X k, cellE X σ0 k) H) 1 135 ⟨c135, trivial⟩) (c := 179) (AllP_app (P := fun k => va_at D cls (x_ad X k, cellE X σ0 k) H) (a := 136) (b := 145) n136.2 (c := 179) ((AllP_get (P := fun k => va_at D cls (x_ad X k, cellE X σ0 k) H) 34 145 ⟨c145, c146, c147, c148, c149, c150, c151, c152, c153, c154, c155, c156, c157, c158, c159, c160, c161, c162, c163, c164, c165, c166, c167, c168, c169, c170, c171, c172, c173, c174, c175, c176, c177, c178, trivial⟩))))))))))))))))))))))
theorem Inv_0 : Inv σ0 := by
  refine ⟨⟨0, fun _ => 0, by omega, rfl, rfl, fun j hj => by omega⟩, ⟨fun _ => 0, WT_zero, ⟨⟨rfl, rfl, rfl, fun k hk => absurd hk (Nat.not_lt_zero k), fun p hp => absurd hp (Nat.not_lt_zero p)⟩, rfl, fun k hk => absurd hk (Nat.not_lt_zero k), fun p hp => absurd hp (Nat.not_lt_zero p)⟩, fun j _ => rfl⟩,
    ⟨fun _ => 0, ⟨WT_zero.1, Nat.zero_le _⟩, ⟨⟨rfl, rfl, rfl, fun k hk => absurd hk (Nat.not_lt_zero k), fun p hp => absurd hp (Nat.not_lt_zero p)⟩, rfl, fun k hk => absurd hk (Nat.not_lt_zero k), fun p hp => absurd hp (Nat.not_lt_zero p)⟩, fun j _ => rfl⟩,
    ⟨0, 0, fun _ _ => 0, by omega, by omega, rfl, rfl, rfl, fun i hi => by omega⟩, ⟨fun _ => 0, fun _ _ => 0, fun k hk => ⟨Nat.zero_le _, rfl, rfl, fun z => absurd (show (0 : Nat) = 1 from z) (by decide)⟩⟩, ⟨0, fun _ => 0, fun _ => 0, fun _ => 0, by omega, rfl, rfl, fun i hi => by omega⟩, fun c hc => ?_⟩
  rcases (show c = 0 ∨ c = 1 ∨ c = 2 by omega) with e | e | e <;> subst e <;> exact ⟨1, 0, 0, fun _ => 0, fun _ => 0, 0, by omega, by omega, by omega, by omega, fun _ => rfl, by decide, by decide, by decide, by decide, by decide, by decide, fun i hi => by omega⟩
