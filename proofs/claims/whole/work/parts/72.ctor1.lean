abbrev cI (ca : Nat → ClassId) (n : Nat) : va_E := .inl (ca 0, n, .inl (fun _ => 0))
abbrev cZ (ca : Nat → ClassId) (n : Nat) : va_E := .inl (ca 1, n, .inl (fun _ => 0))
abbrev fs0_0 : List Value := [.null, .null, .int 0, .int 0, .int 0, .int 0]
theorem df_0 : ∀ j, j < 6 → defaultValue (tyX0 j) = vp_V fs0_0 j := by
  intro j hj
  match j, hj with
  | 0, _ => rfl
  | 1, _ => rfl
  | 2, _ => rfl
  | 3, _ => rfl
  | 4, _ => rfl
  | 5, _ => rfl
  | j + 6, hj => exact absurd hj (by omega)
abbrev fs0_1 : List Value := [.null]
theorem df_1 : ∀ j, j < 1 → defaultValue (tyX1 j) = vp_V fs0_1 j := by
  intro j hj
  match j, hj with
  | 0, _ => rfl
  | j + 1, hj => exact absurd hj (by omega)
abbrev fs0_2 : List Value := [.null, .null, .null, .int 0]
theorem df_2 : ∀ j, j < 4 → defaultValue (tyX2 j) = vp_V fs0_2 j := by
  intro j hj
  match j, hj with
  | 0, _ => rfl
  | 1, _ => rfl
  | 2, _ => rfl
  | 3, _ => rfl
  | j + 4, hj => exact absurd hj (by omega)
abbrev fs0_4 : List Value := [.int 0, .int 0, .int 0, .int 0, .null, .null, .null, .null, .null, .null, .null, .null, .int 0]
theorem df_4 : ∀ j, j < 13 → defaultValue (tyX4 j) = vp_V fs0_4 j := by
  intro j hj
  match j, hj with
  | 0, _ => rfl
  | 1, _ => rfl
  | 2, _ => rfl
  | 3, _ => rfl
  | 4, _ => rfl
  | 5, _ => rfl
  | 6, _ => rfl
  | 7, _ => rfl
  | 8, _ => rfl
  | 9, _ => rfl
  | 10, _ => rfl
  | 11, _ => rfl
  | 12, _ => rfl
  | j + 13, hj => exact absurd hj (by omega)
abbrev fs0_5 : List Value := [.null, .int 0]
theorem df_5 : ∀ j, j < 2 → defaultValue (tyX5 j) = vp_V fs0_5 j := by
  intro j hj
  match j, hj with
  | 0, _ => rfl
  | 1, _ => rfl
  | j + 2, hj => exact absurd hj (by omega)
abbrev fs0_6 : List Value := [.null, .int 0, .int 0]
theorem df_6 : ∀ j, j < 3 → defaultValue (tyX6 j) = vp_V fs0_6 j := by
  intro j hj
  match j, hj with
  | 0, _ => rfl
  | 1, _ => rfl
  | 2, _ => rfl
  | j + 3, hj => exact absurd hj (by omega)
abbrev fs0_7 : List Value := [.null, .null, .int 0, .int 0, .int 0]
theorem df_7 : ∀ j, j < 5 → defaultValue (tyX7 j) = vp_V fs0_7 j := by
  intro j hj
  match j, hj with
  | 0, _ => rfl
  | 1, _ => rfl
  | 2, _ => rfl
  | 3, _ => rfl
  | 4, _ => rfl
  | j + 5, hj => exact absurd hj (by omega)
abbrev fs0_8 : List Value := [.null, .null, .null, .int 0]
theorem df_8 : ∀ j, j < 4 → defaultValue (tyX8 j) = vp_V fs0_8 j := by
  intro j hj
  match j, hj with
  | 0, _ => rfl
  | 1, _ => rfl
  | 2, _ => rfl
  | 3, _ => rfl
  | j + 4, hj => exact absurd hj (by omega)
abbrev fs0_9 : List Value := [.null, .null, .null, .null, .null, .null, .null, .null, .null, .null, .null, .null]
theorem df_9 : ∀ j, j < 12 → defaultValue (tyX9 j) = vp_V fs0_9 j := by
  intro j hj
  match j, hj with
  | 0, _ => rfl
  | 1, _ => rfl
  | 2, _ => rfl
  | 3, _ => rfl
  | 4, _ => rfl
  | 5, _ => rfl
  | 6, _ => rfl
  | 7, _ => rfl
  | 8, _ => rfl
  | 9, _ => rfl
  | 10, _ => rfl
  | 11, _ => rfl
  | j + 12, hj => exact absurd hj (by omega)
abbrev fs0_10 : List Value := [.null, .int 0, .int 0, .int 0, .int 0, .int 0, .int 0, .int 0, .int 0, .null, .null, .null, .null, .null, .int 0, .null, .null, .null, .null, .null, .null, .null, .int 0, .null, .null, .null, .null]
theorem df_10 : ∀ j, j < 27 → defaultValue (tyX10 j) = vp_V fs0_10 j := by
  intro j hj
  match j, hj with
  | 0, _ => rfl
  | 1, _ => rfl
  | 2, _ => rfl
  | 3, _ => rfl
  | 4, _ => rfl
  | 5, _ => rfl
  | 6, _ => rfl
  | 7, _ => rfl
  | 8, _ => rfl
  | 9, _ => rfl
  | 10, _ => rfl
  | 11, _ => rfl
  | 12, _ => rfl
  | 13, _ => rfl
  | 14, _ => rfl
  | 15, _ => rfl
  | 16, _ => rfl
  | 17, _ => rfl
  | 18, _ => rfl
  | 19, _ => rfl
  | 20, _ => rfl
  | 21, _ => rfl
  | 22, _ => rfl
  | 23, _ => rfl
  | 24, _ => rfl
  | 25, _ => rfl
  | 26, _ => rfl
  | j + 27, hj => exact absurd hj (by omega)
abbrev wLane (ca : Nat → ClassId) (q : Nat) (g : Nat → Nat) : va_W := [(q, .inr (3, [.int 0, .int 0, .int 0, .int 0, .ref (g 0), .ref (g 1), .ref (g 2), .ref (g 3), .ref (g 4), .ref (g 5), .ref (g 6), .ref (g 7), .int 0])), (g 0, cI ca 7), (g 1, cI ca 7), (g 2, cI ca 6), (g 3, cI ca 6), (g 4, cI ca 6), (g 5, cI ca 6), (g 6, cI ca 6), (g 7, cI ca 7)]
theorem dX4_init_0 : decode cX4_init 0 = .ok (.aload_n 0, 1) := by decide +kernel
theorem dX4_init_1 : decode cX4_init 1 = .ok (.invokespecial 3, 3) := by decide +kernel
theorem dX4_init_4 : decode cX4_init 4 = .ok (.aload_n 0, 1) := by decide +kernel
theorem dX4_init_5 : decode cX4_init 5 = .ok (.bipush 7, 2) := by decide +kernel
theorem dX4_init_7 : decode cX4_init 7 = .ok (.newarray .int, 2) := by decide +kernel
theorem dX4_init_9 : decode cX4_init 9 = .ok (.putfield 9, 3) := by decide +kernel
theorem dX4_init_12 : decode cX4_init 12 = .ok (.aload_n 0, 1) := by decide +kernel
theorem dX4_init_13 : decode cX4_init 13 = .ok (.bipush 7, 2) := by decide +kernel
theorem dX4_init_15 : decode cX4_init 15 = .ok (.newarray .int, 2) := by decide +kernel
theorem dX4_init_17 : decode cX4_init 17 = .ok (.putfield 15, 3) := by decide +kernel
theorem dX4_init_20 : decode cX4_init 20 = .ok (.aload_n 0, 1) := by decide +kernel
theorem dX4_init_21 : decode cX4_init 21 = .ok (.bipush 6, 2) := by decide +kernel
theorem dX4_init_23 : decode cX4_init 23 = .ok (.newarray .int, 2) := by decide +kernel
theorem dX4_init_25 : decode cX4_init 25 = .ok (.putfield 18, 3) := by decide +kernel
theorem dX4_init_28 : decode cX4_init 28 = .ok (.aload_n 0, 1) := by decide +kernel
theorem dX4_init_29 : decode cX4_init 29 = .ok (.bipush 6, 2) := by decide +kernel
theorem dX4_init_31 : decode cX4_init 31 = .ok (.newarray .int, 2) := by decide +kernel
theorem dX4_init_33 : decode cX4_init 33 = .ok (.putfield 21, 3) := by decide +kernel
theorem dX4_init_36 : decode cX4_init 36 = .ok (.aload_n 0, 1) := by decide +kernel
theorem dX4_init_37 : decode cX4_init 37 = .ok (.bipush 6, 2) := by decide +kernel
theorem dX4_init_39 : decode cX4_init 39 = .ok (.newarray .int, 2) := by decide +kernel
theorem dX4_init_41 : decode cX4_init 41 = .ok (.putfield 24, 3) := by decide +kernel
theorem dX4_init_44 : decode cX4_init 44 = .ok (.aload_n 0, 1) := by decide +kernel
theorem dX4_init_45 : decode cX4_init 45 = .ok (.bipush 6, 2) := by decide +kernel
theorem dX4_init_47 : decode cX4_init 47 = .ok (.newarray .int, 2) := by decide +kernel
theorem dX4_init_49 : decode cX4_init 49 = .ok (.putfield 27, 3) := by decide +kernel
theorem dX4_init_52 : decode cX4_init 52 = .ok (.aload_n 0, 1) := by decide +kernel
theorem dX4_init_53 : decode cX4_init 53 = .ok (.bipush 6, 2) := by decide +kernel
theorem dX4_init_55 : decode cX4_init 55 = .ok (.newarray .int, 2) := by decide +kernel
theorem dX4_init_57 : decode cX4_init 57 = .ok (.putfield 30, 3) := by decide +kernel
theorem dX4_init_60 : decode cX4_init 60 = .ok (.aload_n 0, 1) := by decide +kernel
theorem dX4_init_61 : decode cX4_init 61 = .ok (.bipush 7, 2) := by decide +kernel
theorem dX4_init_63 : decode cX4_init 63 = .ok (.newarray .int, 2) := by decide +kernel
theorem dX4_init_65 : decode cX4_init 65 = .ok (.putfield 33, 3) := by decide +kernel
theorem dX4_init_68 : decode cX4_init 68 = .ok (.return_, 1) := by decide +kernel
set_option maxRecDepth 100000 in
set_option maxHeartbeats 4000000 in
theorem ci_4 (l : Launch) (D : va_G) (ca : Nat → ClassId) (h0 : Nat) : ICon l D ca yX4_init (Cond.code yX4_init cX4_init 1 none :: TS) { frames := 2, cells := 8, slots := 51, locals := 40 } [.ref h0] [(h0, .inr (3, fs0_4))] (fun ws => ∃ g : Nat → Nat, ws = wLane ca h0 g) 8 51 := by
  refine ic_enter (by decide) (Nat.le_of_ble_eq_true rfl) ?_
  intro p e s m below meth c F hin hr hlocks hAm A ls hw hl
  have hx := F.1
  have hb := F.2.1
  obtain ⟨H, hH⟩ : ∃ H, H = s.heap := ⟨_, rfl⟩
  rw [← hH] at hw ⊢
  obtain ⟨locs, hlc⟩ : ∃ locs : List Loc, locs = [] := ⟨_, rfl⟩
  rw [← hlc] at hw ⊢
  have hl : lv_has ls 1 [(0, .ref h0)] := hl
  have hw : Wd D A s H locs ((h0, .inr (3, fs0_4)) :: ([])) := hw
  refine lv_aload_n hx hb dX4_init_0 rfl (lv_at hl 0 rfl) ?_
  refine k_oinit F hl (TS_at (i := 94) (by decide +kernel) rfl) (TS_at (i := 71) (by decide +kernel) rfl) (TS_at (i := 72) (by decide +kernel) rfl) ⟨(Nat.le_of_ble_eq_true rfl), (Nat.le_of_ble_eq_true rfl)⟩ dX4_init_1 ?_
  refine lv_aload_n hx hb dX4_init_4 rfl (lv_at hl 0 rfl) ?_
  refine lv_bipush (v := 7) hx hb dX4_init_5 (by decide) ?_
  refine k_newi F hAm hw (TS_at (i := 88) (by decide +kernel) rfl) (N := 7) (by decide) (by decide) (Nat.le_of_ble_eq_true rfl) (Nat.le_of_ble_eq_true rfl) (Nat.le_of_ble_eq_true rfl) dX4_init_7 (fun q1 H hw => ?_)
  have hw : Wd D A s H locs ((q1, cI ca 7) :: ((h0, .inr (3, fs0_4)) :: ([]))) := hw
  refine k_putF F hin hAm hw 1 tyX4 tyX4_ok nmX4 rfl rfl 4 (Nat.le_of_ble_eq_true rfl) (TS_at (i := 108) (by decide +kernel) rfl) rfl rfl rfl ⟨rfl, rfl⟩ (Nat.le_of_ble_eq_true rfl) dX4_init_9 (fun H locs hw => ?_)
  have hw : Wd D A s H locs ((q1, cI ca 7) :: ((h0, .inr (3, [.int 0, .int 0, .int 0, .int 0, .ref q1, .null, .null, .null, .null, .null, .null, .null, .int 0])) :: ([]))) := hw
  have hw : Wd D A s H locs ((h0, .inr (3, [.int 0, .int 0, .int 0, .int 0, .ref q1, .null, .null, .null, .null, .null, .null, .null, .int 0])) :: (([]) ++ [(q1, cI ca 7)])) := Wd.comm (a := [(q1, cI ca 7)]) hw
  refine lv_aload_n hx hb dX4_init_12 rfl (lv_at hl 0 rfl) ?_
  refine lv_bipush (v := 7) hx hb dX4_init_13 (by decide) ?_
  refine k_newi F hAm hw (TS_at (i := 88) (by decide +kernel) rfl) (N := 7) (by decide) (by decide) (Nat.le_of_ble_eq_true rfl) (Nat.le_of_ble_eq_true rfl) (Nat.le_of_ble_eq_true rfl) dX4_init_15 (fun q2 H hw => ?_)
  have hw : Wd D A s H locs ((q2, cI ca 7) :: ((h0, .inr (3, [.int 0, .int 0, .int 0, .int 0, .ref q1, .null, .null, .null, .null, .null, .null, .null, .int 0])) :: (([]) ++ [(q1, cI ca 7)]))) := hw
  refine k_putF F hin hAm hw 1 tyX4 tyX4_ok nmX4 rfl rfl 5 (Nat.le_of_ble_eq_true rfl) (TS_at (i := 111) (by decide +kernel) rfl) rfl rfl rfl ⟨rfl, rfl⟩ (Nat.le_of_ble_eq_true rfl) dX4_init_17 (fun H locs hw => ?_)
  have hw : Wd D A s H locs ((q2, cI ca 7) :: ((h0, .inr (3, [.int 0, .int 0, .int 0, .int 0, .ref q1, .ref q2, .null, .null, .null, .null, .null, .null, .int 0])) :: (([]) ++ [(q1, cI ca 7)]))) := hw
  have hw : Wd D A s H locs ((h0, .inr (3, [.int 0, .int 0, .int 0, .int 0, .ref q1, .ref q2, .null, .null, .null, .null, .null, .null, .int 0])) :: ((([]) ++ [(q1, cI ca 7)]) ++ [(q2, cI ca 7)])) := Wd.comm (a := [(q2, cI ca 7)]) hw
  refine lv_aload_n hx hb dX4_init_20 rfl (lv_at hl 0 rfl) ?_
  refine lv_bipush (v := 6) hx hb dX4_init_21 (by decide) ?_
  refine k_newi F hAm hw (TS_at (i := 88) (by decide +kernel) rfl) (N := 6) (by decide) (by decide) (Nat.le_of_ble_eq_true rfl) (Nat.le_of_ble_eq_true rfl) (Nat.le_of_ble_eq_true rfl) dX4_init_23 (fun q3 H hw => ?_)
  have hw : Wd D A s H locs ((q3, cI ca 6) :: ((h0, .inr (3, [.int 0, .int 0, .int 0, .int 0, .ref q1, .ref q2, .null, .null, .null, .null, .null, .null, .int 0])) :: ((([]) ++ [(q1, cI ca 7)]) ++ [(q2, cI ca 7)]))) := hw
  refine k_putF F hin hAm hw 1 tyX4 tyX4_ok nmX4 rfl rfl 6 (Nat.le_of_ble_eq_true rfl) (TS_at (i := 113) (by decide +kernel) rfl) rfl rfl rfl ⟨rfl, rfl⟩ (Nat.le_of_ble_eq_true rfl) dX4_init_25 (fun H locs hw => ?_)
  have hw : Wd D A s H locs ((q3, cI ca 6) :: ((h0, .inr (3, [.int 0, .int 0, .int 0, .int 0, .ref q1, .ref q2, .ref q3, .null, .null, .null, .null, .null, .int 0])) :: ((([]) ++ [(q1, cI ca 7)]) ++ [(q2, cI ca 7)]))) := hw
  have hw : Wd D A s H locs ((h0, .inr (3, [.int 0, .int 0, .int 0, .int 0, .ref q1, .ref q2, .ref q3, .null, .null, .null, .null, .null, .int 0])) :: (((([]) ++ [(q1, cI ca 7)]) ++ [(q2, cI ca 7)]) ++ [(q3, cI ca 6)])) := Wd.comm (a := [(q3, cI ca 6)]) hw
  refine lv_aload_n hx hb dX4_init_28 rfl (lv_at hl 0 rfl) ?_
  refine lv_bipush (v := 6) hx hb dX4_init_29 (by decide) ?_
  refine k_newi F hAm hw (TS_at (i := 88) (by decide +kernel) rfl) (N := 6) (by decide) (by decide) (Nat.le_of_ble_eq_true rfl) (Nat.le_of_ble_eq_true rfl) (Nat.le_of_ble_eq_true rfl) dX4_init_31 (fun q4 H hw => ?_)
  have hw : Wd D A s H locs ((q4, cI ca 6) :: ((h0, .inr (3, [.int 0, .int 0, .int 0, .int 0, .ref q1, .ref q2, .ref q3, .null, .null, .null, .null, .null, .int 0])) :: (((([]) ++ [(q1, cI ca 7)]) ++ [(q2, cI ca 7)]) ++ [(q3, cI ca 6)]))) := hw
  refine k_putF F hin hAm hw 1 tyX4 tyX4_ok nmX4 rfl rfl 7 (Nat.le_of_ble_eq_true rfl) (TS_at (i := 115) (by decide +kernel) rfl) rfl rfl rfl ⟨rfl, rfl⟩ (Nat.le_of_ble_eq_true rfl) dX4_init_33 (fun H locs hw => ?_)
  have hw : Wd D A s H locs ((q4, cI ca 6) :: ((h0, .inr (3, [.int 0, .int 0, .int 0, .int 0, .ref q1, .ref q2, .ref q3, .ref q4, .null, .null, .null, .null, .int 0])) :: (((([]) ++ [(q1, cI ca 7)]) ++ [(q2, cI ca 7)]) ++ [(q3, cI ca 6)]))) := hw
  have hw : Wd D A s H locs ((h0, .inr (3, [.int 0, .int 0, .int 0, .int 0, .ref q1, .ref q2, .ref q3, .ref q4, .null, .null, .null, .null, .int 0])) :: ((((([]) ++ [(q1, cI ca 7)]) ++ [(q2, cI ca 7)]) ++ [(q3, cI ca 6)]) ++ [(q4, cI ca 6)])) := Wd.comm (a := [(q4, cI ca 6)]) hw
  refine lv_aload_n hx hb dX4_init_36 rfl (lv_at hl 0 rfl) ?_
  refine lv_bipush (v := 6) hx hb dX4_init_37 (by decide) ?_
  refine k_newi F hAm hw (TS_at (i := 88) (by decide +kernel) rfl) (N := 6) (by decide) (by decide) (Nat.le_of_ble_eq_true rfl) (Nat.le_of_ble_eq_true rfl) (Nat.le_of_ble_eq_true rfl) dX4_init_39 (fun q5 H hw => ?_)
  have hw : Wd D A s H locs ((q5, cI ca 6) :: ((h0, .inr (3, [.int 0, .int 0, .int 0, .int 0, .ref q1, .ref q2, .ref q3, .ref q4, .null, .null, .null, .null, .int 0])) :: ((((([]) ++ [(q1, cI ca 7)]) ++ [(q2, cI ca 7)]) ++ [(q3, cI ca 6)]) ++ [(q4, cI ca 6)]))) := hw
  refine k_putF F hin hAm hw 1 tyX4 tyX4_ok nmX4 rfl rfl 8 (Nat.le_of_ble_eq_true rfl) (TS_at (i := 117) (by decide +kernel) rfl) rfl rfl rfl ⟨rfl, rfl⟩ (Nat.le_of_ble_eq_true rfl) dX4_init_41 (fun H locs hw => ?_)
  have hw : Wd D A s H locs ((q5, cI ca 6) :: ((h0, .inr (3, [.int 0, .int 0, .int 0, .int 0, .ref q1, .ref q2, .ref q3, .ref q4, .ref q5, .null, .null, .null, .int 0])) :: ((((([]) ++ [(q1, cI ca 7)]) ++ [(q2, cI ca 7)]) ++ [(q3, cI ca 6)]) ++ [(q4, cI ca 6)]))) := hw
  have hw : Wd D A s H locs ((h0, .inr (3, [.int 0, .int 0, .int 0, .int 0, .ref q1, .ref q2, .ref q3, .ref q4, .ref q5, .null, .null, .null, .int 0])) :: (((((([]) ++ [(q1, cI ca 7)]) ++ [(q2, cI ca 7)]) ++ [(q3, cI ca 6)]) ++ [(q4, cI ca 6)]) ++ [(q5, cI ca 6)])) := Wd.comm (a := [(q5, cI ca 6)]) hw
  refine lv_aload_n hx hb dX4_init_44 rfl (lv_at hl 0 rfl) ?_
  refine lv_bipush (v := 6) hx hb dX4_init_45 (by decide) ?_
  refine k_newi F hAm hw (TS_at (i := 88) (by decide +kernel) rfl) (N := 6) (by decide) (by decide) (Nat.le_of_ble_eq_true rfl) (Nat.le_of_ble_eq_true rfl) (Nat.le_of_ble_eq_true rfl) dX4_init_47 (fun q6 H hw => ?_)
  have hw : Wd D A s H locs ((q6, cI ca 6) :: ((h0, .inr (3, [.int 0, .int 0, .int 0, .int 0, .ref q1, .ref q2, .ref q3, .ref q4, .ref q5, .null, .null, .null, .int 0])) :: (((((([]) ++ [(q1, cI ca 7)]) ++ [(q2, cI ca 7)]) ++ [(q3, cI ca 6)]) ++ [(q4, cI ca 6)]) ++ [(q5, cI ca 6)]))) := hw
  refine k_putF F hin hAm hw 1 tyX4 tyX4_ok nmX4 rfl rfl 9 (Nat.le_of_ble_eq_true rfl) (TS_at (i := 119) (by decide +kernel) rfl) rfl rfl rfl ⟨rfl, rfl⟩ (Nat.le_of_ble_eq_true rfl) dX4_init_49 (fun H locs hw => ?_)
  have hw : Wd D A s H locs ((q6, cI ca 6) :: ((h0, .inr (3, [.int 0, .int 0, .int 0, .int 0, .ref q1, .ref q2, .ref q3, .ref q4, .ref q5, .ref q6, .null, .null, .int 0])) :: (((((([]) ++ [(q1, cI ca 7)]) ++ [(q2, cI ca 7)]) ++ [(q3, cI ca 6)]) ++ [(q4, cI ca 6)]) ++ [(q5, cI ca 6)]))) := hw
  have hw : Wd D A s H locs ((h0, .inr (3, [.int 0, .int 0, .int 0, .int 0, .ref q1, .ref q2, .ref q3, .ref q4, .ref q5, .ref q6, .null, .null, .int 0])) :: ((((((([]) ++ [(q1, cI ca 7)]) ++ [(q2, cI ca 7)]) ++ [(q3, cI ca 6)]) ++ [(q4, cI ca 6)]) ++ [(q5, cI ca 6)]) ++ [(q6, cI ca 6)])) := Wd.comm (a := [(q6, cI ca 6)]) hw
  refine lv_aload_n hx hb dX4_init_52 rfl (lv_at hl 0 rfl) ?_
  refine lv_bipush (v := 6) hx hb dX4_init_53 (by decide) ?_
  refine k_newi F hAm hw (TS_at (i := 88) (by decide +kernel) rfl) (N := 6) (by decide) (by decide) (Nat.le_of_ble_eq_true rfl) (Nat.le_of_ble_eq_true rfl) (Nat.le_of_ble_eq_true rfl) dX4_init_55 (fun q7 H hw => ?_)
  have hw : Wd D A s H locs ((q7, cI ca 6) :: ((h0, .inr (3, [.int 0, .int 0, .int 0, .int 0, .ref q1, .ref q2, .ref q3, .ref q4, .ref q5, .ref q6, .null, .null, .int 0])) :: ((((((([]) ++ [(q1, cI ca 7)]) ++ [(q2, cI ca 7)]) ++ [(q3, cI ca 6)]) ++ [(q4, cI ca 6)]) ++ [(q5, cI ca 6)]) ++ [(q6, cI ca 6)]))) := hw
  refine k_putF F hin hAm hw 1 tyX4 tyX4_ok nmX4 rfl rfl 10 (Nat.le_of_ble_eq_true rfl) (TS_at (i := 121) (by decide +kernel) rfl) rfl rfl rfl ⟨rfl, rfl⟩ (Nat.le_of_ble_eq_true rfl) dX4_init_57 (fun H locs hw => ?_)
  have hw : Wd D A s H locs ((q7, cI ca 6) :: ((h0, .inr (3, [.int 0, .int 0, .int 0, .int 0, .ref q1, .ref q2, .ref q3, .ref q4, .ref q5, .ref q6, .ref q7, .null, .int 0])) :: ((((((([]) ++ [(q1, cI ca 7)]) ++ [(q2, cI ca 7)]) ++ [(q3, cI ca 6)]) ++ [(q4, cI ca 6)]) ++ [(q5, cI ca 6)]) ++ [(q6, cI ca 6)]))) := hw
  have hw : Wd D A s H locs ((h0, .inr (3, [.int 0, .int 0, .int 0, .int 0, .ref q1, .ref q2, .ref q3, .ref q4, .ref q5, .ref q6, .ref q7, .null, .int 0])) :: (((((((([]) ++ [(q1, cI ca 7)]) ++ [(q2, cI ca 7)]) ++ [(q3, cI ca 6)]) ++ [(q4, cI ca 6)]) ++ [(q5, cI ca 6)]) ++ [(q6, cI ca 6)]) ++ [(q7, cI ca 6)])) := Wd.comm (a := [(q7, cI ca 6)]) hw
  refine lv_aload_n hx hb dX4_init_60 rfl (lv_at hl 0 rfl) ?_
  refine lv_bipush (v := 7) hx hb dX4_init_61 (by decide) ?_
  refine k_newi F hAm hw (TS_at (i := 88) (by decide +kernel) rfl) (N := 7) (by decide) (by decide) (Nat.le_of_ble_eq_true rfl) (Nat.le_of_ble_eq_true rfl) (Nat.le_of_ble_eq_true rfl) dX4_init_63 (fun q8 H hw => ?_)
  have hw : Wd D A s H locs ((q8, cI ca 7) :: ((h0, .inr (3, [.int 0, .int 0, .int 0, .int 0, .ref q1, .ref q2, .ref q3, .ref q4, .ref q5, .ref q6, .ref q7, .null, .int 0])) :: (((((((([]) ++ [(q1, cI ca 7)]) ++ [(q2, cI ca 7)]) ++ [(q3, cI ca 6)]) ++ [(q4, cI ca 6)]) ++ [(q5, cI ca 6)]) ++ [(q6, cI ca 6)]) ++ [(q7, cI ca 6)]))) := hw
  refine k_putF F hin hAm hw 1 tyX4 tyX4_ok nmX4 rfl rfl 11 (Nat.le_of_ble_eq_true rfl) (TS_at (i := 124) (by decide +kernel) rfl) rfl rfl rfl ⟨rfl, rfl⟩ (Nat.le_of_ble_eq_true rfl) dX4_init_65 (fun H locs hw => ?_)
  have hw : Wd D A s H locs ((q8, cI ca 7) :: ((h0, .inr (3, [.int 0, .int 0, .int 0, .int 0, .ref q1, .ref q2, .ref q3, .ref q4, .ref q5, .ref q6, .ref q7, .ref q8, .int 0])) :: (((((((([]) ++ [(q1, cI ca 7)]) ++ [(q2, cI ca 7)]) ++ [(q3, cI ca 6)]) ++ [(q4, cI ca 6)]) ++ [(q5, cI ca 6)]) ++ [(q6, cI ca 6)]) ++ [(q7, cI ca 6)]))) := hw
  have hw : Wd D A s H locs ((h0, .inr (3, [.int 0, .int 0, .int 0, .int 0, .ref q1, .ref q2, .ref q3, .ref q4, .ref q5, .ref q6, .ref q7, .ref q8, .int 0])) :: ((((((((([]) ++ [(q1, cI ca 7)]) ++ [(q2, cI ca 7)]) ++ [(q3, cI ca 6)]) ++ [(q4, cI ca 6)]) ++ [(q5, cI ca 6)]) ++ [(q6, cI ca 6)]) ++ [(q7, cI ca 6)]) ++ [(q8, cI ca 7)])) := Wd.comm (a := [(q8, cI ca 7)]) hw
  refine W.widen (k := 8) (n := 51) (Nat.le_of_ble_eq_true rfl) (Nat.le_of_ble_eq_true rfl) ?_
  exact k_ret F hr hlocks hw ⟨(fun i => match i with | 0 => q1 | 1 => q2 | 2 => q3 | 3 => q4 | 4 => q5 | 5 => q6 | 6 => q7 | _ => q8), rfl⟩ dX4_init_68
abbrev wLetters (ca : Nat → ClassId) (q : Nat) (g : Nat → Nat) : va_W := [(q, .inr (4, [.ref (g 0), .int 0])), (g 0, cI ca 200)]
theorem dX5_init_0 : decode cX5_init 0 = .ok (.aload_n 0, 1) := by decide +kernel
theorem dX5_init_1 : decode cX5_init 1 = .ok (.invokespecial 3, 3) := by decide +kernel
theorem dX5_init_4 : decode cX5_init 4 = .ok (.aload_n 0, 1) := by decide +kernel
theorem dX5_init_5 : decode cX5_init 5 = .ok (.sipush 200, 3) := by decide +kernel
theorem dX5_init_8 : decode cX5_init 8 = .ok (.newarray .int, 2) := by decide +kernel
theorem dX5_init_10 : decode cX5_init 10 = .ok (.putfield 9, 3) := by decide +kernel
theorem dX5_init_13 : decode cX5_init 13 = .ok (.return_, 1) := by decide +kernel
set_option maxRecDepth 100000 in
set_option maxHeartbeats 4000000 in
theorem ci_5 (l : Launch) (D : va_G) (ca : Nat → ClassId) (h0 : Nat) : ICon l D ca yX5_init (Cond.code yX5_init cX5_init 1 none :: TS) { frames := 2, cells := 1, slots := 200, locals := 40 } [.ref h0] [(h0, .inr (4, fs0_5))] (fun ws => ∃ g : Nat → Nat, ws = wLetters ca h0 g) 1 200 := by
  refine ic_enter (by decide) (Nat.le_of_ble_eq_true rfl) ?_
  intro p e s m below meth c F hin hr hlocks hAm A ls hw hl
  have hx := F.1
  have hb := F.2.1
  obtain ⟨H, hH⟩ : ∃ H, H = s.heap := ⟨_, rfl⟩
  rw [← hH] at hw ⊢
  obtain ⟨locs, hlc⟩ : ∃ locs : List Loc, locs = [] := ⟨_, rfl⟩
  rw [← hlc] at hw ⊢
  have hl : lv_has ls 1 [(0, .ref h0)] := hl
  have hw : Wd D A s H locs ((h0, .inr (4, fs0_5)) :: ([])) := hw
  refine lv_aload_n hx hb dX5_init_0 rfl (lv_at hl 0 rfl) ?_
  refine k_oinit F hl (TS_at (i := 78) (by decide +kernel) rfl) (TS_at (i := 71) (by decide +kernel) rfl) (TS_at (i := 72) (by decide +kernel) rfl) ⟨(Nat.le_of_ble_eq_true rfl), (Nat.le_of_ble_eq_true rfl)⟩ dX5_init_1 ?_
  refine lv_aload_n hx hb dX5_init_4 rfl (lv_at hl 0 rfl) ?_
  refine lv_sipush (v := 200) hx hb dX5_init_5 (by decide) ?_
  refine k_newi F hAm hw (TS_at (i := 88) (by decide +kernel) rfl) (N := 200) (by decide) (by decide) (Nat.le_of_ble_eq_true rfl) (Nat.le_of_ble_eq_true rfl) (Nat.le_of_ble_eq_true rfl) dX5_init_8 (fun q1 H hw => ?_)
  have hw : Wd D A s H locs ((q1, cI ca 200) :: ((h0, .inr (4, fs0_5)) :: ([]))) := hw
  refine k_putF F hin hAm hw 1 tyX5 tyX5_ok nmX5 rfl rfl 0 (Nat.le_of_ble_eq_true rfl) (TS_at (i := 79) (by decide +kernel) rfl) rfl rfl rfl ⟨rfl, rfl⟩ (Nat.le_of_ble_eq_true rfl) dX5_init_10 (fun H locs hw => ?_)
  have hw : Wd D A s H locs ((q1, cI ca 200) :: ((h0, .inr (4, [.ref q1, .int 0])) :: ([]))) := hw
  have hw : Wd D A s H locs ((h0, .inr (4, [.ref q1, .int 0])) :: (([]) ++ [(q1, cI ca 200)])) := Wd.comm (a := [(q1, cI ca 200)]) hw
  refine W.widen (k := 1) (n := 200) (Nat.le_of_ble_eq_true rfl) (Nat.le_of_ble_eq_true rfl) ?_
  exact k_ret F hr hlocks hw ⟨fun _ => q1, rfl⟩ dX5_init_13
abbrev wCup (ca : Nat → ClassId) (q : Nat) (g : Nat → Nat) : va_W := [(q, .inr (0, [.ref (g 0), .ref (g 1), .int 0, .int 1, .int 0, .int 0])), (g 0, cI ca 9), (g 1, cI ca 9)]
theorem dX0_init_0 : decode cX0_init 0 = .ok (.aload_n 0, 1) := by decide +kernel
theorem dX0_init_1 : decode cX0_init 1 = .ok (.invokespecial 3, 3) := by decide +kernel
theorem dX0_init_4 : decode cX0_init 4 = .ok (.aload_n 0, 1) := by decide +kernel
theorem dX0_init_5 : decode cX0_init 5 = .ok (.bipush 9, 2) := by decide +kernel
theorem dX0_init_7 : decode cX0_init 7 = .ok (.newarray .int, 2) := by decide +kernel
theorem dX0_init_9 : decode cX0_init 9 = .ok (.putfield 9, 3) := by decide +kernel
theorem dX0_init_12 : decode cX0_init 12 = .ok (.aload_n 0, 1) := by decide +kernel
theorem dX0_init_13 : decode cX0_init 13 = .ok (.bipush 9, 2) := by decide +kernel
theorem dX0_init_15 : decode cX0_init 15 = .ok (.newarray .int, 2) := by decide +kernel
theorem dX0_init_17 : decode cX0_init 17 = .ok (.putfield 15, 3) := by decide +kernel
theorem dX0_init_20 : decode cX0_init 20 = .ok (.aload_n 0, 1) := by decide +kernel
theorem dX0_init_21 : decode cX0_init 21 = .ok (.iconst 1, 1) := by decide +kernel
theorem dX0_init_22 : decode cX0_init 22 = .ok (.putfield 18, 3) := by decide +kernel
theorem dX0_init_25 : decode cX0_init 25 = .ok (.return_, 1) := by decide +kernel
set_option maxRecDepth 100000 in
set_option maxHeartbeats 4000000 in
theorem ci_0 (l : Launch) (D : va_G) (ca : Nat → ClassId) (h0 : Nat) : ICon l D ca yX0_init (Cond.code yX0_init cX0_init 1 none :: TS) { frames := 2, cells := 2, slots := 18, locals := 40 } [.ref h0] [(h0, .inr (0, fs0_0))] (fun ws => ∃ g : Nat → Nat, ws = wCup ca h0 g) 2 18 := by
  refine ic_enter (by decide) (Nat.le_of_ble_eq_true rfl) ?_
  intro p e s m below meth c F hin hr hlocks hAm A ls hw hl
  have hx := F.1
  have hb := F.2.1
  obtain ⟨H, hH⟩ : ∃ H, H = s.heap := ⟨_, rfl⟩
  rw [← hH] at hw ⊢
  obtain ⟨locs, hlc⟩ : ∃ locs : List Loc, locs = [] := ⟨_, rfl⟩
  rw [← hlc] at hw ⊢
  have hl : lv_has ls 1 [(0, .ref h0)] := hl
  have hw : Wd D A s H locs ((h0, .inr (0, fs0_0)) :: ([])) := hw
  refine lv_aload_n hx hb dX0_init_0 rfl (lv_at hl 0 rfl) ?_
  refine k_oinit F hl (TS_at (i := 260) (by decide +kernel) rfl) (TS_at (i := 71) (by decide +kernel) rfl) (TS_at (i := 72) (by decide +kernel) rfl) ⟨(Nat.le_of_ble_eq_true rfl), (Nat.le_of_ble_eq_true rfl)⟩ dX0_init_1 ?_
  refine lv_aload_n hx hb dX0_init_4 rfl (lv_at hl 0 rfl) ?_
  refine lv_bipush (v := 9) hx hb dX0_init_5 (by decide) ?_
  refine k_newi F hAm hw (TS_at (i := 88) (by decide +kernel) rfl) (N := 9) (by decide) (by decide) (Nat.le_of_ble_eq_true rfl) (Nat.le_of_ble_eq_true rfl) (Nat.le_of_ble_eq_true rfl) dX0_init_7 (fun q1 H hw => ?_)
  have hw : Wd D A s H locs ((q1, cI ca 9) :: ((h0, .inr (0, fs0_0)) :: ([]))) := hw
  refine k_putF F hin hAm hw 1 tyX0 tyX0_ok nmX0 rfl rfl 0 (Nat.le_of_ble_eq_true rfl) (TS_at (i := 261) (by decide +kernel) rfl) rfl rfl rfl ⟨rfl, rfl⟩ (Nat.le_of_ble_eq_true rfl) dX0_init_9 (fun H locs hw => ?_)
  have hw : Wd D A s H locs ((q1, cI ca 9) :: ((h0, .inr (0, [.ref q1, .null, .int 0, .int 0, .int 0, .int 0])) :: ([]))) := hw
  have hw : Wd D A s H locs ((h0, .inr (0, [.ref q1, .null, .int 0, .int 0, .int 0, .int 0])) :: (([]) ++ [(q1, cI ca 9)])) := Wd.comm (a := [(q1, cI ca 9)]) hw
  refine lv_aload_n hx hb dX0_init_12 rfl (lv_at hl 0 rfl) ?_
  refine lv_bipush (v := 9) hx hb dX0_init_13 (by decide) ?_
  refine k_newi F hAm hw (TS_at (i := 88) (by decide +kernel) rfl) (N := 9) (by decide) (by decide) (Nat.le_of_ble_eq_true rfl) (Nat.le_of_ble_eq_true rfl) (Nat.le_of_ble_eq_true rfl) dX0_init_15 (fun q2 H hw => ?_)
  have hw : Wd D A s H locs ((q2, cI ca 9) :: ((h0, .inr (0, [.ref q1, .null, .int 0, .int 0, .int 0, .int 0])) :: (([]) ++ [(q1, cI ca 9)]))) := hw
  refine k_putF F hin hAm hw 1 tyX0 tyX0_ok nmX0 rfl rfl 1 (Nat.le_of_ble_eq_true rfl) (TS_at (i := 262) (by decide +kernel) rfl) rfl rfl rfl ⟨rfl, rfl⟩ (Nat.le_of_ble_eq_true rfl) dX0_init_17 (fun H locs hw => ?_)
  have hw : Wd D A s H locs ((q2, cI ca 9) :: ((h0, .inr (0, [.ref q1, .ref q2, .int 0, .int 0, .int 0, .int 0])) :: (([]) ++ [(q1, cI ca 9)]))) := hw
  have hw : Wd D A s H locs ((h0, .inr (0, [.ref q1, .ref q2, .int 0, .int 0, .int 0, .int 0])) :: ((([]) ++ [(q1, cI ca 9)]) ++ [(q2, cI ca 9)])) := Wd.comm (a := [(q2, cI ca 9)]) hw
  refine lv_aload_n hx hb dX0_init_20 rfl (lv_at hl 0 rfl) ?_
  refine lv_iconst (v := 1) hx hb dX0_init_21 (by decide) ?_
  refine k_putZ F hAm hw 0 tyX0 tyX0_ok nmX0 rfl rfl 3 (Nat.le_of_ble_eq_true rfl) (TS_at (i := 264) (by decide +kernel) rfl) rfl rfl ⟨rfl, rfl⟩ (Nat.le_of_ble_eq_true rfl) dX0_init_22 (fun H locs hw => ?_)
  have hw : Wd D A s H locs ((h0, .inr (0, [.ref q1, .ref q2, .int 0, .int 1, .int 0, .int 0])) :: ((([]) ++ [(q1, cI ca 9)]) ++ [(q2, cI ca 9)])) := hw
  refine W.widen (k := 2) (n := 18) (Nat.le_of_ble_eq_true rfl) (Nat.le_of_ble_eq_true rfl) ?_
  exact k_ret F hr hlocks hw ⟨(fun i => match i with | 0 => q1 | _ => q2), rfl⟩ dX0_init_25
abbrev wSights (ca : Nat → ClassId) (q : Nat) (g : Nat → Nat) : va_W := [(q, .inr (7, [.ref (g 0), .ref (g 1), .ref (g 2), .int 0])), (g 0, cI ca 6), (g 1, cZ ca 6), (g 2, cI ca 6)]
theorem dX8_init_0 : decode cX8_init 0 = .ok (.aload_n 0, 1) := by decide +kernel
theorem dX8_init_1 : decode cX8_init 1 = .ok (.invokespecial 3, 3) := by decide +kernel
theorem dX8_init_4 : decode cX8_init 4 = .ok (.aload_n 0, 1) := by decide +kernel
theorem dX8_init_5 : decode cX8_init 5 = .ok (.bipush 6, 2) := by decide +kernel
theorem dX8_init_7 : decode cX8_init 7 = .ok (.newarray .int, 2) := by decide +kernel
theorem dX8_init_9 : decode cX8_init 9 = .ok (.putfield 9, 3) := by decide +kernel
theorem dX8_init_12 : decode cX8_init 12 = .ok (.aload_n 0, 1) := by decide +kernel
theorem dX8_init_13 : decode cX8_init 13 = .ok (.bipush 6, 2) := by decide +kernel
theorem dX8_init_15 : decode cX8_init 15 = .ok (.newarray .boolean, 2) := by decide +kernel
theorem dX8_init_17 : decode cX8_init 17 = .ok (.putfield 15, 3) := by decide +kernel
theorem dX8_init_20 : decode cX8_init 20 = .ok (.aload_n 0, 1) := by decide +kernel
theorem dX8_init_21 : decode cX8_init 21 = .ok (.bipush 6, 2) := by decide +kernel
theorem dX8_init_23 : decode cX8_init 23 = .ok (.newarray .int, 2) := by decide +kernel
theorem dX8_init_25 : decode cX8_init 25 = .ok (.putfield 19, 3) := by decide +kernel
theorem dX8_init_28 : decode cX8_init 28 = .ok (.return_, 1) := by decide +kernel
set_option maxRecDepth 100000 in
set_option maxHeartbeats 4000000 in
theorem ci_8 (l : Launch) (D : va_G) (ca : Nat → ClassId) (h0 : Nat) : ICon l D ca yX8_init (Cond.code yX8_init cX8_init 1 none :: TS) { frames := 2, cells := 3, slots := 18, locals := 40 } [.ref h0] [(h0, .inr (7, fs0_8))] (fun ws => ∃ g : Nat → Nat, ws = wSights ca h0 g) 3 18 := by
  refine ic_enter (by decide) (Nat.le_of_ble_eq_true rfl) ?_
  intro p e s m below meth c F hin hr hlocks hAm A ls hw hl
  have hx := F.1
  have hb := F.2.1
  obtain ⟨H, hH⟩ : ∃ H, H = s.heap := ⟨_, rfl⟩
  rw [← hH] at hw ⊢
  obtain ⟨locs, hlc⟩ : ∃ locs : List Loc, locs = [] := ⟨_, rfl⟩
  rw [← hlc] at hw ⊢
  have hl : lv_has ls 1 [(0, .ref h0)] := hl
  have hw : Wd D A s H locs ((h0, .inr (7, fs0_8)) :: ([])) := hw
  refine lv_aload_n hx hb dX8_init_0 rfl (lv_at hl 0 rfl) ?_
  refine k_oinit F hl (TS_at (i := 239) (by decide +kernel) rfl) (TS_at (i := 71) (by decide +kernel) rfl) (TS_at (i := 72) (by decide +kernel) rfl) ⟨(Nat.le_of_ble_eq_true rfl), (Nat.le_of_ble_eq_true rfl)⟩ dX8_init_1 ?_
  refine lv_aload_n hx hb dX8_init_4 rfl (lv_at hl 0 rfl) ?_
  refine lv_bipush (v := 6) hx hb dX8_init_5 (by decide) ?_
  refine k_newi F hAm hw (TS_at (i := 88) (by decide +kernel) rfl) (N := 6) (by decide) (by decide) (Nat.le_of_ble_eq_true rfl) (Nat.le_of_ble_eq_true rfl) (Nat.le_of_ble_eq_true rfl) dX8_init_7 (fun q1 H hw => ?_)
  have hw : Wd D A s H locs ((q1, cI ca 6) :: ((h0, .inr (7, fs0_8)) :: ([]))) := hw
  refine k_putF F hin hAm hw 1 tyX8 tyX8_ok nmX8 rfl rfl 0 (Nat.le_of_ble_eq_true rfl) (TS_at (i := 240) (by decide +kernel) rfl) rfl rfl rfl ⟨rfl, rfl⟩ (Nat.le_of_ble_eq_true rfl) dX8_init_9 (fun H locs hw => ?_)
  have hw : Wd D A s H locs ((q1, cI ca 6) :: ((h0, .inr (7, [.ref q1, .null, .null, .int 0])) :: ([]))) := hw
  have hw : Wd D A s H locs ((h0, .inr (7, [.ref q1, .null, .null, .int 0])) :: (([]) ++ [(q1, cI ca 6)])) := Wd.comm (a := [(q1, cI ca 6)]) hw
  refine lv_aload_n hx hb dX8_init_12 rfl (lv_at hl 0 rfl) ?_
  refine lv_bipush (v := 6) hx hb dX8_init_13 (by decide) ?_
  refine k_newz F hAm hw (TS_at (i := 210) (by decide +kernel) rfl) (N := 6) (by decide) (by decide) (Nat.le_of_ble_eq_true rfl) (Nat.le_of_ble_eq_true rfl) (Nat.le_of_ble_eq_true rfl) dX8_init_15 (fun q2 H hw => ?_)
  have hw : Wd D A s H locs ((q2, cZ ca 6) :: ((h0, .inr (7, [.ref q1, .null, .null, .int 0])) :: (([]) ++ [(q1, cI ca 6)]))) := hw
  refine k_putF F hin hAm hw 1 tyX8 tyX8_ok nmX8 rfl rfl 1 (Nat.le_of_ble_eq_true rfl) (TS_at (i := 241) (by decide +kernel) rfl) rfl rfl rfl ⟨rfl, rfl⟩ (Nat.le_of_ble_eq_true rfl) dX8_init_17 (fun H locs hw => ?_)
  have hw : Wd D A s H locs ((q2, cZ ca 6) :: ((h0, .inr (7, [.ref q1, .ref q2, .null, .int 0])) :: (([]) ++ [(q1, cI ca 6)]))) := hw
  have hw : Wd D A s H locs ((h0, .inr (7, [.ref q1, .ref q2, .null, .int 0])) :: ((([]) ++ [(q1, cI ca 6)]) ++ [(q2, cZ ca 6)])) := Wd.comm (a := [(q2, cZ ca 6)]) hw
  refine lv_aload_n hx hb dX8_init_20 rfl (lv_at hl 0 rfl) ?_
  refine lv_bipush (v := 6) hx hb dX8_init_21 (by decide) ?_
  refine k_newi F hAm hw (TS_at (i := 88) (by decide +kernel) rfl) (N := 6) (by decide) (by decide) (Nat.le_of_ble_eq_true rfl) (Nat.le_of_ble_eq_true rfl) (Nat.le_of_ble_eq_true rfl) dX8_init_23 (fun q3 H hw => ?_)
  have hw : Wd D A s H locs ((q3, cI ca 6) :: ((h0, .inr (7, [.ref q1, .ref q2, .null, .int 0])) :: ((([]) ++ [(q1, cI ca 6)]) ++ [(q2, cZ ca 6)]))) := hw
  refine k_putF F hin hAm hw 1 tyX8 tyX8_ok nmX8 rfl rfl 2 (Nat.le_of_ble_eq_true rfl) (TS_at (i := 242) (by decide +kernel) rfl) rfl rfl rfl ⟨rfl, rfl⟩ (Nat.le_of_ble_eq_true rfl) dX8_init_25 (fun H locs hw => ?_)
  have hw : Wd D A s H locs ((q3, cI ca 6) :: ((h0, .inr (7, [.ref q1, .ref q2, .ref q3, .int 0])) :: ((([]) ++ [(q1, cI ca 6)]) ++ [(q2, cZ ca 6)]))) := hw
  have hw : Wd D A s H locs ((h0, .inr (7, [.ref q1, .ref q2, .ref q3, .int 0])) :: (((([]) ++ [(q1, cI ca 6)]) ++ [(q2, cZ ca 6)]) ++ [(q3, cI ca 6)])) := Wd.comm (a := [(q3, cI ca 6)]) hw
  refine W.widen (k := 3) (n := 18) (Nat.le_of_ble_eq_true rfl) (Nat.le_of_ble_eq_true rfl) ?_
  exact k_ret F hr hlocks hw ⟨(fun i => match i with | 0 => q1 | 1 => q2 | _ => q3), rfl⟩ dX8_init_28
theorem dX7_init_0 : decode cX7_init 0 = .ok (.aload_n 0, 1) := by decide +kernel
theorem dX7_init_1 : decode cX7_init 1 = .ok (.invokespecial 3, 3) := by decide +kernel
theorem dX7_init_4 : decode cX7_init 4 = .ok (.aload_n 0, 1) := by decide +kernel
theorem dX7_init_5 : decode cX7_init 5 = .ok (.aload_n 1, 1) := by decide +kernel
theorem dX7_init_6 : decode cX7_init 6 = .ok (.putfield 9, 3) := by decide +kernel
theorem dX7_init_9 : decode cX7_init 9 = .ok (.aload_n 0, 1) := by decide +kernel
theorem dX7_init_10 : decode cX7_init 10 = .ok (.aload_n 2, 1) := by decide +kernel
theorem dX7_init_11 : decode cX7_init 11 = .ok (.putfield 15, 3) := by decide +kernel
theorem dX7_init_14 : decode cX7_init 14 = .ok (.return_, 1) := by decide +kernel
set_option maxRecDepth 100000 in
set_option maxHeartbeats 4000000 in
theorem ci_7 (l : Launch) (D : va_G) (ca : Nat → ClassId) (h0 : Nat) (t0 d0 : Nat) : ICon l D ca yX7_init (Cond.code yX7_init cX7_init 3 none :: TS) { frames := 2, cells := 0, slots := 0, locals := 40 } [.ref h0, .ref t0, .ref d0] [(h0, .inr (6, fs0_7))] (fun ws => ws = [(h0, .inr (6, [.ref t0, .ref d0, .int 0, .int 0, .int 0]))]) 0 0 := by
  refine ic_enter (by decide) (Nat.le_of_ble_eq_true rfl) ?_
  intro p e s m below meth c F hin hr hlocks hAm A ls hw hl
  have hx := F.1
  have hb := F.2.1
  obtain ⟨H, hH⟩ : ∃ H, H = s.heap := ⟨_, rfl⟩
  rw [← hH] at hw ⊢
  obtain ⟨locs, hlc⟩ : ∃ locs : List Loc, locs = [] := ⟨_, rfl⟩
  rw [← hlc] at hw ⊢
  have hl : lv_has ls 3 [(0, .ref h0), (1, .ref t0), (2, .ref d0)] := hl
  have hw : Wd D A s H locs ((h0, .inr (6, fs0_7)) :: ([])) := hw
  refine lv_aload_n hx hb dX7_init_0 rfl (lv_at hl 0 rfl) ?_
  refine k_oinit F hl (TS_at (i := 160) (by decide +kernel) rfl) (TS_at (i := 71) (by decide +kernel) rfl) (TS_at (i := 72) (by decide +kernel) rfl) ⟨(Nat.le_of_ble_eq_true rfl), (Nat.le_of_ble_eq_true rfl)⟩ dX7_init_1 ?_
  refine lv_aload_n hx hb dX7_init_4 rfl (lv_at hl 0 rfl) ?_
  refine lv_aload_n hx hb dX7_init_5 rfl (lv_at hl 1 rfl) ?_
  refine k_putF F hin hAm hw 0 tyX7 tyX7_ok nmX7 rfl rfl 0 (Nat.le_of_ble_eq_true rfl) (TS_at (i := 161) (by decide +kernel) rfl) rfl rfl rfl ⟨rfl, rfl⟩ (Nat.le_of_ble_eq_true rfl) dX7_init_6 (fun H locs hw => ?_)
  have hw : Wd D A s H locs ((h0, .inr (6, [.ref t0, .null, .int 0, .int 0, .int 0])) :: ([])) := hw
  refine lv_aload_n hx hb dX7_init_9 rfl (lv_at hl 0 rfl) ?_
  refine lv_aload_n hx hb dX7_init_10 rfl (lv_at hl 2 rfl) ?_
  refine k_putF F hin hAm hw 0 tyX7 tyX7_ok nmX7 rfl rfl 1 (Nat.le_of_ble_eq_true rfl) (TS_at (i := 162) (by decide +kernel) rfl) rfl rfl rfl ⟨rfl, rfl⟩ (Nat.le_of_ble_eq_true rfl) dX7_init_11 (fun H locs hw => ?_)
  have hw : Wd D A s H locs ((h0, .inr (6, [.ref t0, .ref d0, .int 0, .int 0, .int 0])) :: ([])) := hw
  refine W.widen (k := 0) (n := 0) (Nat.le_of_ble_eq_true rfl) (Nat.le_of_ble_eq_true rfl) ?_
  exact k_ret F hr hlocks hw rfl dX7_init_14
