abbrev wFore (ca : Nat → ClassId) (q ql : Nat) (g : Nat → Nat) : va_W := (q, .inr (1, [.ref ql])) :: wLane ca ql g
theorem dX1_init_0 : decode cX1_init 0 = .ok (.aload_n 0, 1) := by decide +kernel
theorem dX1_init_1 : decode cX1_init 1 = .ok (.invokespecial 3, 3) := by decide +kernel
theorem dX1_init_4 : decode cX1_init 4 = .ok (.aload_n 0, 1) := by decide +kernel
theorem dX1_init_5 : decode cX1_init 5 = .ok (.new 9, 3) := by decide +kernel
theorem dX1_init_8 : decode cX1_init 8 = .ok (.dup, 1) := by decide +kernel
theorem dX1_init_9 : decode cX1_init 9 = .ok (.invokespecial 11, 3) := by decide +kernel
theorem dX1_init_12 : decode cX1_init 12 = .ok (.putfield 12, 3) := by decide +kernel
theorem dX1_init_15 : decode cX1_init 15 = .ok (.return_, 1) := by decide +kernel
set_option maxRecDepth 100000 in
set_option maxHeartbeats 4000000 in
theorem ci_1 (l : Launch) (D : va_G) (ca : Nat → ClassId) (h0 : Nat) : ICon l D ca yX1_init (Cond.code yX1_init cX1_init 1 none :: TS) { frames := 4, cells := 9, slots := 64, locals := 100 } [.ref h0] [(h0, .inr (1, fs0_1))] (fun ws => ∃ (ql : Nat) (g : Nat → Nat), ws = wFore ca h0 ql g) 9 64 := by
  refine ic_enter (by decide) (Nat.le_of_ble_eq_true rfl) ?_
  intro p e s m below meth c F hin hr hlocks hAm A ls hw hl
  have hx := F.1
  have hb := F.2.1
  obtain ⟨H, hH⟩ : ∃ H, H = s.heap := ⟨_, rfl⟩
  rw [← hH] at hw ⊢
  obtain ⟨locs, hlc⟩ : ∃ locs : List Loc, locs = [] := ⟨_, rfl⟩
  rw [← hlc] at hw ⊢
  have hl : lv_has ls 1 [(0, .ref h0)] := hl
  have hw : Wd D A s H locs ((h0, .inr (1, fs0_1)) :: ([])) := hw
  refine lv_aload_n hx hb dX1_init_0 rfl (lv_at hl 0 rfl) ?_
  refine k_oinit F hl (TS_at (i := 203) (by decide +kernel) rfl) (TS_at (i := 71) (by decide +kernel) rfl) (TS_at (i := 72) (by decide +kernel) rfl) ⟨(Nat.le_of_ble_eq_true rfl), (Nat.le_of_ble_eq_true rfl)⟩ dX1_init_1 ?_
  refine lv_aload_n hx hb dX1_init_4 rfl (lv_at hl 0 rfl) ?_
  refine k_new F hAm hw (ci := 3) tyX4 tyX4_ok rfl (TS_at (i := 204) (by decide +kernel) rfl) (TS_at (i := 90) (by decide +kernel) rfl) (TS_at (i := 48) (by decide +kernel) rfl) (fs := fs0_4) df_4 (Nat.le_of_ble_eq_true rfl) (Nat.le_of_ble_eq_true rfl) dX1_init_5 (fun q1 H hw => ?_)
  have hw : Wd D A s H locs ((q1, .inr (3, fs0_4)) :: ((h0, .inr (1, fs0_1)) :: ([]))) := hw
  refine lv_dup hx hb dX1_init_8 rfl ?_
  refine k_init F hAm (n := 0) (ci_4 l D ca q1) rfl (TS_at (i := 93) rfl rfl) (TS_at (i := 48) (by decide +kernel) rfl) (TS_at (i := 205) (by decide +kernel) rfl) (TS_at (i := 92) (by decide +kernel) rfl) ⟨by decide +kernel, by decide +kernel, by decide +kernel⟩ rfl ⟨rfl, rfl⟩ ⟨(Nat.le_of_ble_eq_true rfl), (Nat.le_of_ble_eq_true rfl)⟩ hl.1 (Nat.le_of_ble_eq_true rfl) dX1_init_9 ⟨(Nat.le_of_ble_eq_true rfl), (Nat.le_of_ble_eq_true rfl)⟩ (wc := [(q1, .inr (3, fs0_4))]) (wr := (h0, .inr (1, fs0_1)) :: ([])) hw rfl (fun w1 H locs hsh hw => ?_)
  obtain ⟨g2, rfl⟩ := hsh
  have hw : Wd D A s H locs (wLane ca q1 g2 ++ ((h0, .inr (1, fs0_1)) :: ([]))) := hw
  have hw : Wd D A s H locs ((h0, .inr (1, fs0_1)) :: ([] ++ wLane ca q1 g2)) := hw.comm
  refine k_putF F hin hAm hw 0 tyX1 tyX1_ok nmX1 rfl rfl 0 (Nat.le_of_ble_eq_true rfl) (TS_at (i := 206) (by decide +kernel) rfl) rfl rfl rfl ⟨rfl, rfl⟩ (Nat.le_of_ble_eq_true rfl) dX1_init_12 (fun H locs hw => ?_)
  have hw : Wd D A s H locs ((h0, .inr (1, [.ref q1])) :: ([] ++ wLane ca q1 g2)) := hw
  refine W.widen (k := 9) (n := 64) (Nat.le_of_ble_eq_true rfl) (Nat.le_of_ble_eq_true rfl) ?_
  exact k_ret F hr hlocks hw ⟨q1, g2, rfl⟩ dX1_init_15
abbrev wFun (ca : Nat → ClassId) (q ql : Nat) (g : Nat → Nat) (a b : Nat) : va_W := (q, .inr (2, [.ref ql, .ref a, .ref b, .int 0])) :: (wLane ca ql g ++ [(a, cI ca 6), (b, cI ca 6)])
theorem dX2_init_0 : decode cX2_init 0 = .ok (.aload_n 0, 1) := by decide +kernel
theorem dX2_init_1 : decode cX2_init 1 = .ok (.invokespecial 3, 3) := by decide +kernel
theorem dX2_init_4 : decode cX2_init 4 = .ok (.aload_n 0, 1) := by decide +kernel
theorem dX2_init_5 : decode cX2_init 5 = .ok (.new 9, 3) := by decide +kernel
theorem dX2_init_8 : decode cX2_init 8 = .ok (.dup, 1) := by decide +kernel
theorem dX2_init_9 : decode cX2_init 9 = .ok (.invokespecial 11, 3) := by decide +kernel
theorem dX2_init_12 : decode cX2_init 12 = .ok (.putfield 12, 3) := by decide +kernel
theorem dX2_init_15 : decode cX2_init 15 = .ok (.aload_n 0, 1) := by decide +kernel
theorem dX2_init_16 : decode cX2_init 16 = .ok (.bipush 6, 2) := by decide +kernel
theorem dX2_init_18 : decode cX2_init 18 = .ok (.newarray .int, 2) := by decide +kernel
theorem dX2_init_20 : decode cX2_init 20 = .ok (.putfield 18, 3) := by decide +kernel
theorem dX2_init_23 : decode cX2_init 23 = .ok (.aload_n 0, 1) := by decide +kernel
theorem dX2_init_24 : decode cX2_init 24 = .ok (.bipush 6, 2) := by decide +kernel
theorem dX2_init_26 : decode cX2_init 26 = .ok (.newarray .int, 2) := by decide +kernel
theorem dX2_init_28 : decode cX2_init 28 = .ok (.putfield 22, 3) := by decide +kernel
theorem dX2_init_31 : decode cX2_init 31 = .ok (.return_, 1) := by decide +kernel
set_option maxRecDepth 100000 in
set_option maxHeartbeats 4000000 in
theorem ci_2 (l : Launch) (D : va_G) (ca : Nat → ClassId) (h0 : Nat) : ICon l D ca yX2_init (Cond.code yX2_init cX2_init 1 none :: TS) { frames := 4, cells := 11, slots := 76, locals := 100 } [.ref h0] [(h0, .inr (2, fs0_2))] (fun ws => ∃ (ql : Nat) (g : Nat → Nat) (a b : Nat), ws = wFun ca h0 ql g a b) 11 76 := by
  refine ic_enter (by decide) (Nat.le_of_ble_eq_true rfl) ?_
  intro p e s m below meth c F hin hr hlocks hAm A ls hw hl
  have hx := F.1
  have hb := F.2.1
  obtain ⟨H, hH⟩ : ∃ H, H = s.heap := ⟨_, rfl⟩
  rw [← hH] at hw ⊢
  obtain ⟨locs, hlc⟩ : ∃ locs : List Loc, locs = [] := ⟨_, rfl⟩
  rw [← hlc] at hw ⊢
  have hl : lv_has ls 1 [(0, .ref h0)] := hl
  have hw : Wd D A s H locs ((h0, .inr (2, fs0_2)) :: ([])) := hw
  refine lv_aload_n hx hb dX2_init_0 rfl (lv_at hl 0 rfl) ?_
  refine k_oinit F hl (TS_at (i := 216) (by decide +kernel) rfl) (TS_at (i := 71) (by decide +kernel) rfl) (TS_at (i := 72) (by decide +kernel) rfl) ⟨(Nat.le_of_ble_eq_true rfl), (Nat.le_of_ble_eq_true rfl)⟩ dX2_init_1 ?_
  refine lv_aload_n hx hb dX2_init_4 rfl (lv_at hl 0 rfl) ?_
  refine k_new F hAm hw (ci := 3) tyX4 tyX4_ok rfl (TS_at (i := 217) (by decide +kernel) rfl) (TS_at (i := 90) (by decide +kernel) rfl) (TS_at (i := 48) (by decide +kernel) rfl) (fs := fs0_4) df_4 (Nat.le_of_ble_eq_true rfl) (Nat.le_of_ble_eq_true rfl) dX2_init_5 (fun q1 H hw => ?_)
  have hw : Wd D A s H locs ((q1, .inr (3, fs0_4)) :: ((h0, .inr (2, fs0_2)) :: ([]))) := hw
  refine lv_dup hx hb dX2_init_8 rfl ?_
  refine k_init F hAm (n := 0) (ci_4 l D ca q1) rfl (TS_at (i := 93) rfl rfl) (TS_at (i := 48) (by decide +kernel) rfl) (TS_at (i := 218) (by decide +kernel) rfl) (TS_at (i := 92) (by decide +kernel) rfl) ⟨by decide +kernel, by decide +kernel, by decide +kernel⟩ rfl ⟨rfl, rfl⟩ ⟨(Nat.le_of_ble_eq_true rfl), (Nat.le_of_ble_eq_true rfl)⟩ hl.1 (Nat.le_of_ble_eq_true rfl) dX2_init_9 ⟨(Nat.le_of_ble_eq_true rfl), (Nat.le_of_ble_eq_true rfl)⟩ (wc := [(q1, .inr (3, fs0_4))]) (wr := (h0, .inr (2, fs0_2)) :: ([])) hw rfl (fun w1 H locs hsh hw => ?_)
  obtain ⟨g2, rfl⟩ := hsh
  have hw : Wd D A s H locs (wLane ca q1 g2 ++ ((h0, .inr (2, fs0_2)) :: ([]))) := hw
  have hw : Wd D A s H locs ((h0, .inr (2, fs0_2)) :: ([] ++ wLane ca q1 g2)) := hw.comm
  refine k_putF F hin hAm hw 0 tyX2 tyX2_ok nmX2 rfl rfl 0 (Nat.le_of_ble_eq_true rfl) (TS_at (i := 219) (by decide +kernel) rfl) rfl rfl rfl ⟨rfl, rfl⟩ (Nat.le_of_ble_eq_true rfl) dX2_init_12 (fun H locs hw => ?_)
  have hw : Wd D A s H locs ((h0, .inr (2, [.ref q1, .null, .null, .int 0])) :: ([] ++ wLane ca q1 g2)) := hw
  refine lv_aload_n hx hb dX2_init_15 rfl (lv_at hl 0 rfl) ?_
  refine lv_bipush (v := 6) hx hb dX2_init_16 (by decide) ?_
  refine k_newi F hAm hw (TS_at (i := 88) (by decide +kernel) rfl) (N := 6) (by decide) (by decide) (Nat.le_of_ble_eq_true rfl) (Nat.le_of_ble_eq_true rfl) (Nat.le_of_ble_eq_true rfl) dX2_init_18 (fun q3 H hw => ?_)
  have hw : Wd D A s H locs ((q3, cI ca 6) :: ((h0, .inr (2, [.ref q1, .null, .null, .int 0])) :: ([] ++ wLane ca q1 g2))) := hw
  refine k_putF F hin hAm hw 1 tyX2 tyX2_ok nmX2 rfl rfl 1 (Nat.le_of_ble_eq_true rfl) (TS_at (i := 220) (by decide +kernel) rfl) rfl rfl rfl ⟨rfl, rfl⟩ (Nat.le_of_ble_eq_true rfl) dX2_init_20 (fun H locs hw => ?_)
  have hw : Wd D A s H locs ((q3, cI ca 6) :: ((h0, .inr (2, [.ref q1, .ref q3, .null, .int 0])) :: ([] ++ wLane ca q1 g2))) := hw
  have hw : Wd D A s H locs ((h0, .inr (2, [.ref q1, .ref q3, .null, .int 0])) :: (([] ++ wLane ca q1 g2) ++ [(q3, cI ca 6)])) := Wd.comm (a := [(q3, cI ca 6)]) hw
  refine lv_aload_n hx hb dX2_init_23 rfl (lv_at hl 0 rfl) ?_
  refine lv_bipush (v := 6) hx hb dX2_init_24 (by decide) ?_
  refine k_newi F hAm hw (TS_at (i := 88) (by decide +kernel) rfl) (N := 6) (by decide) (by decide) (Nat.le_of_ble_eq_true rfl) (Nat.le_of_ble_eq_true rfl) (Nat.le_of_ble_eq_true rfl) dX2_init_26 (fun q4 H hw => ?_)
  have hw : Wd D A s H locs ((q4, cI ca 6) :: ((h0, .inr (2, [.ref q1, .ref q3, .null, .int 0])) :: (([] ++ wLane ca q1 g2) ++ [(q3, cI ca 6)]))) := hw
  refine k_putF F hin hAm hw 1 tyX2 tyX2_ok nmX2 rfl rfl 2 (Nat.le_of_ble_eq_true rfl) (TS_at (i := 221) (by decide +kernel) rfl) rfl rfl rfl ⟨rfl, rfl⟩ (Nat.le_of_ble_eq_true rfl) dX2_init_28 (fun H locs hw => ?_)
  have hw : Wd D A s H locs ((q4, cI ca 6) :: ((h0, .inr (2, [.ref q1, .ref q3, .ref q4, .int 0])) :: (([] ++ wLane ca q1 g2) ++ [(q3, cI ca 6)]))) := hw
  have hw : Wd D A s H locs ((h0, .inr (2, [.ref q1, .ref q3, .ref q4, .int 0])) :: ((([] ++ wLane ca q1 g2) ++ [(q3, cI ca 6)]) ++ [(q4, cI ca 6)])) := Wd.comm (a := [(q4, cI ca 6)]) hw
  refine W.widen (k := 11) (n := 76) (Nat.le_of_ble_eq_true rfl) (Nat.le_of_ble_eq_true rfl) ?_
  exact k_ret F hr hlocks hw ⟨q1, g2, q3, q4, rfl⟩ dX2_init_31
def lanesW (ca : Nat → ClassId) (q : Nat → Nat) (g : Nat → Nat → Nat) : Nat → va_W
  | 0 => []
  | k + 1 => lanesW ca q g k ++ wLane ca (q k) (g k)
def upq (q : Nat → Nat) : Nat → Nat → Option Nat
  | 0 => fun _ => none
  | k + 1 => va_up (upq q k) k (some (q k))
abbrev wPast (ca : Nat → ClassId) (q a : Nat) (qs : Nat → Nat) (gs : Nat → Nat → Nat) : va_W := (a, .inl (ca 2, 8, .inr (.inr (.inr (.inr (upq qs 8)))))) :: (q, .inr (5, [.ref a, .int 0, .int 0])) :: lanesW ca qs gs 8
theorem dX6_init_0 : decode cX6_init 0 = .ok (.aload_n 0, 1) := by decide +kernel
theorem dX6_init_1 : decode cX6_init 1 = .ok (.invokespecial 1, 3) := by decide +kernel
theorem dX6_init_4 : decode cX6_init 4 = .ok (.aload_n 0, 1) := by decide +kernel
theorem dX6_init_5 : decode cX6_init 5 = .ok (.bipush 8, 2) := by decide +kernel
theorem dX6_init_7 : decode cX6_init 7 = .ok (.anewarray 9, 3) := by decide +kernel
theorem dX6_init_10 : decode cX6_init 10 = .ok (.putfield 11, 3) := by decide +kernel
theorem dX6_init_13 : decode cX6_init 13 = .ok (.iconst 0, 1) := by decide +kernel
theorem dX6_init_14 : decode cX6_init 14 = .ok (.istore_n 1, 1) := by decide +kernel
theorem dX6_init_15 : decode cX6_init 15 = .ok (.iload_n 1, 1) := by decide +kernel
theorem dX6_init_16 : decode cX6_init 16 = .ok (.bipush 8, 2) := by decide +kernel
theorem dX6_init_18 : decode cX6_init 18 = .ok (.if_icmp .ge 22, 3) := by decide +kernel
theorem dX6_init_21 : decode cX6_init 21 = .ok (.aload_n 0, 1) := by decide +kernel
theorem dX6_init_22 : decode cX6_init 22 = .ok (.getfield 11, 3) := by decide +kernel
theorem dX6_init_25 : decode cX6_init 25 = .ok (.iload_n 1, 1) := by decide +kernel
theorem dX6_init_26 : decode cX6_init 26 = .ok (.new 9, 3) := by decide +kernel
theorem dX6_init_29 : decode cX6_init 29 = .ok (.dup, 1) := by decide +kernel
theorem dX6_init_30 : decode cX6_init 30 = .ok (.invokespecial 15, 3) := by decide +kernel
theorem dX6_init_33 : decode cX6_init 33 = .ok (.aastore, 1) := by decide +kernel
theorem dX6_init_34 : decode cX6_init 34 = .ok (.iinc 1 1, 3) := by decide +kernel
theorem dX6_init_37 : decode cX6_init 37 = .ok (.goto (-22), 3) := by decide +kernel
theorem dX6_init_40 : decode cX6_init 40 = .ok (.return_, 1) := by decide +kernel
set_option maxRecDepth 100000 in
set_option maxHeartbeats 4000000 in
theorem ci_6 (l : Launch) (D : va_G) (ca : Nat → ClassId) (h0 : Nat) : ICon l D ca yX6_init (Cond.code yX6_init cX6_init 2 none :: TS) { frames := 4, cells := 73, slots := 520, locals := 100 } [.ref h0] [(h0, .inr (5, fs0_6))] (fun ws => ∃ (a : Nat) (qs : Nat → Nat) (gs : Nat → Nat → Nat), ws = wPast ca h0 a qs gs) 73 520 := by
  refine ic_enter (by decide) (Nat.le_of_ble_eq_true rfl) ?_
  intro p e s m below meth c F hin hr hlocks hAm A ls hw hl
  have hx := F.1
  have hb := F.2.1
  obtain ⟨H, hH⟩ : ∃ H, H = s.heap := ⟨_, rfl⟩
  rw [← hH] at hw ⊢
  obtain ⟨locs, hlc⟩ : ∃ locs : List Loc, locs = [] := ⟨_, rfl⟩
  rw [← hlc] at hw ⊢
  have hl : lv_has ls 2 [(0, .ref h0)] := hl
  have hw : Wd D A s H locs ((h0, .inr (5, fs0_6)) :: ([])) := hw
  refine lv_aload_n hx hb dX6_init_0 rfl (lv_at hl 0 rfl) ?_
  refine k_oinit F hl (TS_at (i := 183) (by decide +kernel) rfl) (TS_at (i := 71) (by decide +kernel) rfl) (TS_at (i := 72) (by decide +kernel) rfl) ⟨(Nat.le_of_ble_eq_true rfl), (Nat.le_of_ble_eq_true rfl)⟩ dX6_init_1 ?_
  refine lv_aload_n hx hb dX6_init_4 rfl (lv_at hl 0 rfl) ?_
  refine lv_bipush (v := 8) hx hb dX6_init_5 (by decide) ?_
  refine k_newq F hAm hw (ti := 2) rfl hAm.2.1 (TS_at (i := 184) (by decide +kernel) rfl) (N := 8) (by decide) (by decide) (Nat.le_of_ble_eq_true rfl) (Nat.le_of_ble_eq_true rfl) (Nat.le_of_ble_eq_true rfl) dX6_init_7 (fun q1 H hw => ?_)
  have hw : Wd D A s H locs ((q1, .inl (ca 2, 8, .inr (.inr (.inr (.inr (fun _ => none)))))) :: ((h0, .inr (5, fs0_6)) :: ([]))) := hw
  refine k_putF F hin hAm hw 1 tyX6 tyX6_ok nmX6 rfl rfl 0 (Nat.le_of_ble_eq_true rfl) (TS_at (i := 187) (by decide +kernel) rfl) rfl rfl rfl ⟨rfl, rfl⟩ (Nat.le_of_ble_eq_true rfl) dX6_init_10 (fun H locs hw => ?_)
  have hw : Wd D A s H locs ((q1, .inl (ca 2, 8, .inr (.inr (.inr (.inr (fun _ => none)))))) :: ((h0, .inr (5, [.ref q1, .int 0, .int 0])) :: ([]))) := hw
  refine lv_iconst (v := 0) hx hb dX6_init_13 (by decide) ?_
  refine lv_istore_n (lv' := [(1, .int 0), (0, .ref h0)]) hx hb dX6_init_14 rfl hl (by decide) rfl (fun ls hl => ?_)
  refine lv_iload_n hx hb dX6_init_15 rfl (lv_at hl 0 rfl) ?_
  refine lv_bipush (v := 8) hx hb dX6_init_16 (by decide) ?_
  refine lv_icmp_ge (tgt := 40) hx hb dX6_init_18 (by decide) (fun hc => absurd hc (by decide)) (fun _ => ?_)
  refine lv_aload_n hx hb dX6_init_21 rfl (lv_at hl 1 rfl) ?_
  refine k_get F hAm hw 1 rfl rfl 0 (Nat.le_of_ble_eq_true rfl) (TS_at (i := 187) (by decide +kernel) rfl) rfl dX6_init_22 ?_
  refine lv_iload_n hx hb dX6_init_25 rfl (lv_at hl 0 rfl) ?_
  refine k_new F hAm hw (ci := 3) tyX4 tyX4_ok rfl (TS_at (i := 184) (by decide +kernel) rfl) (TS_at (i := 90) (by decide +kernel) rfl) (TS_at (i := 48) (by decide +kernel) rfl) (fs := fs0_4) df_4 (Nat.le_of_ble_eq_true rfl) (Nat.le_of_ble_eq_true rfl) dX6_init_26 (fun q2 H hw => ?_)
  have hw : Wd D A s H locs ((q2, .inr (3, fs0_4)) :: ((q1, .inl (ca 2, 8, .inr (.inr (.inr (.inr (fun _ => none)))))) :: ((h0, .inr (5, [.ref q1, .int 0, .int 0])) :: ([])))) := hw
  refine lv_dup hx hb dX6_init_29 rfl ?_
  refine k_init F hAm (n := 0) (ci_4 l D ca q2) rfl (TS_at (i := 93) rfl rfl) (TS_at (i := 48) (by decide +kernel) rfl) (TS_at (i := 186) (by decide +kernel) rfl) (TS_at (i := 92) (by decide +kernel) rfl) ⟨by decide +kernel, by decide +kernel, by decide +kernel⟩ rfl ⟨rfl, rfl⟩ ⟨(Nat.le_of_ble_eq_true rfl), (Nat.le_of_ble_eq_true rfl)⟩ hl.1 (Nat.le_of_ble_eq_true rfl) dX6_init_30 ⟨(Nat.le_of_ble_eq_true rfl), (Nat.le_of_ble_eq_true rfl)⟩ (wc := [(q2, .inr (3, fs0_4))]) (wr := (q1, .inl (ca 2, 8, .inr (.inr (.inr (.inr (fun _ => none)))))) :: ((h0, .inr (5, [.ref q1, .int 0, .int 0])) :: ([]))) hw rfl (fun w1 H locs hsh hw => ?_)
  obtain ⟨g3, rfl⟩ := hsh
  have hw : Wd D A s H locs (wLane ca q2 g3 ++ ((q1, .inl (ca 2, 8, .inr (.inr (.inr (.inr (fun _ => none)))))) :: ((h0, .inr (5, [.ref q1, .int 0, .int 0])) :: ([])))) := hw
  refine k_astq F hAm hw 9 0 2 3 (r := (RX4, TX4, 13)) rfl rfl rfl rfl (j := 0) (by decide) (by unfold vp_in; decide) dX6_init_33 (fun H locs hw => ?_)
  have hw : Wd D A s H locs (wLane ca q2 g3 ++ ((q1, .inl (ca 2, 8, .inr (.inr (.inr (.inr (va_up (fun _ => none) 0 (some q2))))))) :: ((h0, .inr (5, [.ref q1, .int 0, .int 0])) :: ([])))) := hw
  have hw : Wd D A s H locs ((q1, .inl (ca 2, 8, .inr (.inr (.inr (.inr (va_up (fun _ => none) 0 (some q2))))))) :: ((h0, .inr (5, [.ref q1, .int 0, .int 0])) :: ([] ++ wLane ca q2 g3))) := hw.comm
  refine lv_iinc (v := 1) (lv' := [(1, .int 1), (0, .ref h0)]) hx hb dX6_init_34 hl (k := 0) rfl (by decide) (by decide) rfl (fun ls hl => ?_)
  refine lv_goto (tgt := 15) hx hb dX6_init_37 (by decide) ?_
  refine lv_iload_n hx hb dX6_init_15 rfl (lv_at hl 0 rfl) ?_
  refine lv_bipush (v := 8) hx hb dX6_init_16 (by decide) ?_
  refine lv_icmp_ge (tgt := 40) hx hb dX6_init_18 (by decide) (fun hc => absurd hc (by decide)) (fun _ => ?_)
  refine lv_aload_n hx hb dX6_init_21 rfl (lv_at hl 1 rfl) ?_
  refine k_get F hAm hw 1 rfl rfl 0 (Nat.le_of_ble_eq_true rfl) (TS_at (i := 187) (by decide +kernel) rfl) rfl dX6_init_22 ?_
  refine lv_iload_n hx hb dX6_init_25 rfl (lv_at hl 0 rfl) ?_
  refine k_new F hAm hw (ci := 3) tyX4 tyX4_ok rfl (TS_at (i := 184) (by decide +kernel) rfl) (TS_at (i := 90) (by decide +kernel) rfl) (TS_at (i := 48) (by decide +kernel) rfl) (fs := fs0_4) df_4 (Nat.le_of_ble_eq_true rfl) (Nat.le_of_ble_eq_true rfl) dX6_init_26 (fun q4 H hw => ?_)
  have hw : Wd D A s H locs ((q4, .inr (3, fs0_4)) :: ((q1, .inl (ca 2, 8, .inr (.inr (.inr (.inr (va_up (fun _ => none) 0 (some q2))))))) :: ((h0, .inr (5, [.ref q1, .int 0, .int 0])) :: ([] ++ wLane ca q2 g3)))) := hw
  refine lv_dup hx hb dX6_init_29 rfl ?_
  refine k_init F hAm (n := 0) (ci_4 l D ca q4) rfl (TS_at (i := 93) rfl rfl) (TS_at (i := 48) (by decide +kernel) rfl) (TS_at (i := 186) (by decide +kernel) rfl) (TS_at (i := 92) (by decide +kernel) rfl) ⟨by decide +kernel, by decide +kernel, by decide +kernel⟩ rfl ⟨rfl, rfl⟩ ⟨(Nat.le_of_ble_eq_true rfl), (Nat.le_of_ble_eq_true rfl)⟩ hl.1 (Nat.le_of_ble_eq_true rfl) dX6_init_30 ⟨(Nat.le_of_ble_eq_true rfl), (Nat.le_of_ble_eq_true rfl)⟩ (wc := [(q4, .inr (3, fs0_4))]) (wr := (q1, .inl (ca 2, 8, .inr (.inr (.inr (.inr (va_up (fun _ => none) 0 (some q2))))))) :: ((h0, .inr (5, [.ref q1, .int 0, .int 0])) :: ([] ++ wLane ca q2 g3))) hw rfl (fun w1 H locs hsh hw => ?_)
  obtain ⟨g5, rfl⟩ := hsh
  have hw : Wd D A s H locs (wLane ca q4 g5 ++ ((q1, .inl (ca 2, 8, .inr (.inr (.inr (.inr (va_up (fun _ => none) 0 (some q2))))))) :: ((h0, .inr (5, [.ref q1, .int 0, .int 0])) :: ([] ++ wLane ca q2 g3)))) := hw
  refine k_astq F hAm hw 9 0 2 3 (r := (RX4, TX4, 13)) rfl rfl rfl rfl (j := 1) (by decide) (by unfold vp_in; decide) dX6_init_33 (fun H locs hw => ?_)
  have hw : Wd D A s H locs (wLane ca q4 g5 ++ ((q1, .inl (ca 2, 8, .inr (.inr (.inr (.inr (va_up (va_up (fun _ => none) 0 (some q2)) 1 (some q4))))))) :: ((h0, .inr (5, [.ref q1, .int 0, .int 0])) :: ([] ++ wLane ca q2 g3)))) := hw
  have hw : Wd D A s H locs ((q1, .inl (ca 2, 8, .inr (.inr (.inr (.inr (va_up (va_up (fun _ => none) 0 (some q2)) 1 (some q4))))))) :: ((h0, .inr (5, [.ref q1, .int 0, .int 0])) :: (([] ++ wLane ca q2 g3) ++ wLane ca q4 g5))) := hw.comm
  refine lv_iinc (v := 2) (lv' := [(1, .int 2), (0, .ref h0)]) hx hb dX6_init_34 hl (k := 0) rfl (by decide) (by decide) rfl (fun ls hl => ?_)
  refine lv_goto (tgt := 15) hx hb dX6_init_37 (by decide) ?_
  refine lv_iload_n hx hb dX6_init_15 rfl (lv_at hl 0 rfl) ?_
  refine lv_bipush (v := 8) hx hb dX6_init_16 (by decide) ?_
  refine lv_icmp_ge (tgt := 40) hx hb dX6_init_18 (by decide) (fun hc => absurd hc (by decide)) (fun _ => ?_)
  refine lv_aload_n hx hb dX6_init_21 rfl (lv_at hl 1 rfl) ?_
  refine k_get F hAm hw 1 rfl rfl 0 (Nat.le_of_ble_eq_true rfl) (TS_at (i := 187) (by decide +kernel) rfl) rfl dX6_init_22 ?_
  refine lv_iload_n hx hb dX6_init_25 rfl (lv_at hl 0 rfl) ?_
  refine k_new F hAm hw (ci := 3) tyX4 tyX4_ok rfl (TS_at (i := 184) (by decide +kernel) rfl) (TS_at (i := 90) (by decide +kernel) rfl) (TS_at (i := 48) (by decide +kernel) rfl) (fs := fs0_4) df_4 (Nat.le_of_ble_eq_true rfl) (Nat.le_of_ble_eq_true rfl) dX6_init_26 (fun q6 H hw => ?_)
  have hw : Wd D A s H locs ((q6, .inr (3, fs0_4)) :: ((q1, .inl (ca 2, 8, .inr (.inr (.inr (.inr (va_up (va_up (fun _ => none) 0 (some q2)) 1 (some q4))))))) :: ((h0, .inr (5, [.ref q1, .int 0, .int 0])) :: (([] ++ wLane ca q2 g3) ++ wLane ca q4 g5)))) := hw
  refine lv_dup hx hb dX6_init_29 rfl ?_
  refine k_init F hAm (n := 0) (ci_4 l D ca q6) rfl (TS_at (i := 93) rfl rfl) (TS_at (i := 48) (by decide +kernel) rfl) (TS_at (i := 186) (by decide +kernel) rfl) (TS_at (i := 92) (by decide +kernel) rfl) ⟨by decide +kernel, by decide +kernel, by decide +kernel⟩ rfl ⟨rfl, rfl⟩ ⟨(Nat.le_of_ble_eq_true rfl), (Nat.le_of_ble_eq_true rfl)⟩ hl.1 (Nat.le_of_ble_eq_true rfl) dX6_init_30 ⟨(Nat.le_of_ble_eq_true rfl), (Nat.le_of_ble_eq_true rfl)⟩ (wc := [(q6, .inr (3, fs0_4))]) (wr := (q1, .inl (ca 2, 8, .inr (.inr (.inr (.inr (va_up (va_up (fun _ => none) 0 (some q2)) 1 (some q4))))))) :: ((h0, .inr (5, [.ref q1, .int 0, .int 0])) :: (([] ++ wLane ca q2 g3) ++ wLane ca q4 g5))) hw rfl (fun w1 H locs hsh hw => ?_)
  obtain ⟨g7, rfl⟩ := hsh
  have hw : Wd D A s H locs (wLane ca q6 g7 ++ ((q1, .inl (ca 2, 8, .inr (.inr (.inr (.inr (va_up (va_up (fun _ => none) 0 (some q2)) 1 (some q4))))))) :: ((h0, .inr (5, [.ref q1, .int 0, .int 0])) :: (([] ++ wLane ca q2 g3) ++ wLane ca q4 g5)))) := hw
  refine k_astq F hAm hw 9 0 2 3 (r := (RX4, TX4, 13)) rfl rfl rfl rfl (j := 2) (by decide) (by unfold vp_in; decide) dX6_init_33 (fun H locs hw => ?_)
  have hw : Wd D A s H locs (wLane ca q6 g7 ++ ((q1, .inl (ca 2, 8, .inr (.inr (.inr (.inr (va_up (va_up (va_up (fun _ => none) 0 (some q2)) 1 (some q4)) 2 (some q6))))))) :: ((h0, .inr (5, [.ref q1, .int 0, .int 0])) :: (([] ++ wLane ca q2 g3) ++ wLane ca q4 g5)))) := hw
  have hw : Wd D A s H locs ((q1, .inl (ca 2, 8, .inr (.inr (.inr (.inr (va_up (va_up (va_up (fun _ => none) 0 (some q2)) 1 (some q4)) 2 (some q6))))))) :: ((h0, .inr (5, [.ref q1, .int 0, .int 0])) :: ((([] ++ wLane ca q2 g3) ++ wLane ca q4 g5) ++ wLane ca q6 g7))) := hw.comm
  refine lv_iinc (v := 3) (lv' := [(1, .int 3), (0, .ref h0)]) hx hb dX6_init_34 hl (k := 0) rfl (by decide) (by decide) rfl (fun ls hl => ?_)
  refine lv_goto (tgt := 15) hx hb dX6_init_37 (by decide) ?_
  refine lv_iload_n hx hb dX6_init_15 rfl (lv_at hl 0 rfl) ?_
  refine lv_bipush (v := 8) hx hb dX6_init_16 (by decide) ?_
  refine lv_icmp_ge (tgt := 40) hx hb dX6_init_18 (by decide) (fun hc => absurd hc (by decide)) (fun _ => ?_)
  refine lv_aload_n hx hb dX6_init_21 rfl (lv_at hl 1 rfl) ?_
  refine k_get F hAm hw 1 rfl rfl 0 (Nat.le_of_ble_eq_true rfl) (TS_at (i := 187) (by decide +kernel) rfl) rfl dX6_init_22 ?_
  refine lv_iload_n hx hb dX6_init_25 rfl (lv_at hl 0 rfl) ?_
  refine k_new F hAm hw (ci := 3) tyX4 tyX4_ok rfl (TS_at (i := 184) (by decide +kernel) rfl) (TS_at (i := 90) (by decide +kernel) rfl) (TS_at (i := 48) (by decide +kernel) rfl) (fs := fs0_4) df_4 (Nat.le_of_ble_eq_true rfl) (Nat.le_of_ble_eq_true rfl) dX6_init_26 (fun q8 H hw => ?_)
  have hw : Wd D A s H locs ((q8, .inr (3, fs0_4)) :: ((q1, .inl (ca 2, 8, .inr (.inr (.inr (.inr (va_up (va_up (va_up (fun _ => none) 0 (some q2)) 1 (some q4)) 2 (some q6))))))) :: ((h0, .inr (5, [.ref q1, .int 0, .int 0])) :: ((([] ++ wLane ca q2 g3) ++ wLane ca q4 g5) ++ wLane ca q6 g7)))) := hw
  refine lv_dup hx hb dX6_init_29 rfl ?_
  refine k_init F hAm (n := 0) (ci_4 l D ca q8) rfl (TS_at (i := 93) rfl rfl) (TS_at (i := 48) (by decide +kernel) rfl) (TS_at (i := 186) (by decide +kernel) rfl) (TS_at (i := 92) (by decide +kernel) rfl) ⟨by decide +kernel, by decide +kernel, by decide +kernel⟩ rfl ⟨rfl, rfl⟩ ⟨(Nat.le_of_ble_eq_true rfl), (Nat.le_of_ble_eq_true rfl)⟩ hl.1 (Nat.le_of_ble_eq_true rfl) dX6_init_30 ⟨(Nat.le_of_ble_eq_true rfl), (Nat.le_of_ble_eq_true rfl)⟩ (wc := [(q8, .inr (3, fs0_4))]) (wr := (q1, .inl (ca 2, 8, .inr (.inr (.inr (.inr (va_up (va_up (va_up (fun _ => none) 0 (some q2)) 1 (some q4)) 2 (some q6))))))) :: ((h0, .inr (5, [.ref q1, .int 0, .int 0])) :: ((([] ++ wLane ca q2 g3) ++ wLane ca q4 g5) ++ wLane ca q6 g7))) hw rfl (fun w1 H locs hsh hw => ?_)
  obtain ⟨g9, rfl⟩ := hsh
  have hw : Wd D A s H locs (wLane ca q8 g9 ++ ((q1, .inl (ca 2, 8, .inr (.inr (.inr (.inr (va_up (va_up (va_up (fun _ => none) 0 (some q2)) 1 (some q4)) 2 (some q6))))))) :: ((h0, .inr (5, [.ref q1, .int 0, .int 0])) :: ((([] ++ wLane ca q2 g3) ++ wLane ca q4 g5) ++ wLane ca q6 g7)))) := hw
  refine k_astq F hAm hw 9 0 2 3 (r := (RX4, TX4, 13)) rfl rfl rfl rfl (j := 3) (by decide) (by unfold vp_in; decide) dX6_init_33 (fun H locs hw => ?_)
  have hw : Wd D A s H locs (wLane ca q8 g9 ++ ((q1, .inl (ca 2, 8, .inr (.inr (.inr (.inr (va_up (va_up (va_up (va_up (fun _ => none) 0 (some q2)) 1 (some q4)) 2 (some q6)) 3 (some q8))))))) :: ((h0, .inr (5, [.ref q1, .int 0, .int 0])) :: ((([] ++ wLane ca q2 g3) ++ wLane ca q4 g5) ++ wLane ca q6 g7)))) := hw
  have hw : Wd D A s H locs ((q1, .inl (ca 2, 8, .inr (.inr (.inr (.inr (va_up (va_up (va_up (va_up (fun _ => none) 0 (some q2)) 1 (some q4)) 2 (some q6)) 3 (some q8))))))) :: ((h0, .inr (5, [.ref q1, .int 0, .int 0])) :: (((([] ++ wLane ca q2 g3) ++ wLane ca q4 g5) ++ wLane ca q6 g7) ++ wLane ca q8 g9))) := hw.comm
  refine lv_iinc (v := 4) (lv' := [(1, .int 4), (0, .ref h0)]) hx hb dX6_init_34 hl (k := 0) rfl (by decide) (by decide) rfl (fun ls hl => ?_)
  refine lv_goto (tgt := 15) hx hb dX6_init_37 (by decide) ?_
  refine lv_iload_n hx hb dX6_init_15 rfl (lv_at hl 0 rfl) ?_
  refine lv_bipush (v := 8) hx hb dX6_init_16 (by decide) ?_
  refine lv_icmp_ge (tgt := 40) hx hb dX6_init_18 (by decide) (fun hc => absurd hc (by decide)) (fun _ => ?_)
  refine lv_aload_n hx hb dX6_init_21 rfl (lv_at hl 1 rfl) ?_
  refine k_get F hAm hw 1 rfl rfl 0 (Nat.le_of_ble_eq_true rfl) (TS_at (i := 187) (by decide +kernel) rfl) rfl dX6_init_22 ?_
  refine lv_iload_n hx hb dX6_init_25 rfl (lv_at hl 0 rfl) ?_
  refine k_new F hAm hw (ci := 3) tyX4 tyX4_ok rfl (TS_at (i := 184) (by decide +kernel) rfl) (TS_at (i := 90) (by decide +kernel) rfl) (TS_at (i := 48) (by decide +kernel) rfl) (fs := fs0_4) df_4 (Nat.le_of_ble_eq_true rfl) (Nat.le_of_ble_eq_true rfl) dX6_init_26 (fun q10 H hw => ?_)
  have hw : Wd D A s H locs ((q10, .inr (3, fs0_4)) :: ((q1, .inl (ca 2, 8, .inr (.inr (.inr (.inr (va_up (va_up (va_up (va_up (fun _ => none) 0 (some q2)) 1 (some q4)) 2 (some q6)) 3 (some q8))))))) :: ((h0, .inr (5, [.ref q1, .int 0, .int 0])) :: (((([] ++ wLane ca q2 g3) ++ wLane ca q4 g5) ++ wLane ca q6 g7) ++ wLane ca q8 g9)))) := hw
  refine lv_dup hx hb dX6_init_29 rfl ?_
  refine k_init F hAm (n := 0) (ci_4 l D ca q10) rfl (TS_at (i := 93) rfl rfl) (TS_at (i := 48) (by decide +kernel) rfl) (TS_at (i := 186) (by decide +kernel) rfl) (TS_at (i := 92) (by decide +kernel) rfl) ⟨by decide +kernel, by decide +kernel, by decide +kernel⟩ rfl ⟨rfl, rfl⟩ ⟨(Nat.le_of_ble_eq_true rfl), (Nat.le_of_ble_eq_true rfl)⟩ hl.1 (Nat.le_of_ble_eq_true rfl) dX6_init_30 ⟨(Nat.le_of_ble_eq_true rfl), (Nat.le_of_ble_eq_true rfl)⟩ (wc := [(q10, .inr (3, fs0_4))]) (wr := (q1, .inl (ca 2, 8, .inr (.inr (.inr (.inr (va_up (va_up (va_up (va_up (fun _ => none) 0 (some q2)) 1 (some q4)) 2 (some q6)) 3 (some q8))))))) :: ((h0, .inr (5, [.ref q1, .int 0, .int 0])) :: (((([] ++ wLane ca q2 g3) ++ wLane ca q4 g5) ++ wLane ca q6 g7) ++ wLane ca q8 g9))) hw rfl (fun w1 H locs hsh hw => ?_)
  obtain ⟨g11, rfl⟩ := hsh
  have hw : Wd D A s H locs (wLane ca q10 g11 ++ ((q1, .inl (ca 2, 8, .inr (.inr (.inr (.inr (va_up (va_up (va_up (va_up (fun _ => none) 0 (some q2)) 1 (some q4)) 2 (some q6)) 3 (some q8))))))) :: ((h0, .inr (5, [.ref q1, .int 0, .int 0])) :: (((([] ++ wLane ca q2 g3) ++ wLane ca q4 g5) ++ wLane ca q6 g7) ++ wLane ca q8 g9)))) := hw
  refine k_astq F hAm hw 9 0 2 3 (r := (RX4, TX4, 13)) rfl rfl rfl rfl (j := 4) (by decide) (by unfold vp_in; decide) dX6_init_33 (fun H locs hw => ?_)
  have hw : Wd D A s H locs (wLane ca q10 g11 ++ ((q1, .inl (ca 2, 8, .inr (.inr (.inr (.inr (va_up (va_up (va_up (va_up (va_up (fun _ => none) 0 (some q2)) 1 (some q4)) 2 (some q6)) 3 (some q8)) 4 (some q10))))))) :: ((h0, .inr (5, [.ref q1, .int 0, .int 0])) :: (((([] ++ wLane ca q2 g3) ++ wLane ca q4 g5) ++ wLane ca q6 g7) ++ wLane ca q8 g9)))) := hw
  have hw : Wd D A s H locs ((q1, .inl (ca 2, 8, .inr (.inr (.inr (.inr (va_up (va_up (va_up (va_up (va_up (fun _ => none) 0 (some q2)) 1 (some q4)) 2 (some q6)) 3 (some q8)) 4 (some q10))))))) :: ((h0, .inr (5, [.ref q1, .int 0, .int 0])) :: ((((([] ++ wLane ca q2 g3) ++ wLane ca q4 g5) ++ wLane ca q6 g7) ++ wLane ca q8 g9) ++ wLane ca q10 g11))) := hw.comm
  refine lv_iinc (v := 5) (lv' := [(1, .int 5), (0, .ref h0)]) hx hb dX6_init_34 hl (k := 0) rfl (by decide) (by decide) rfl (fun ls hl => ?_)
  refine lv_goto (tgt := 15) hx hb dX6_init_37 (by decide) ?_
  refine lv_iload_n hx hb dX6_init_15 rfl (lv_at hl 0 rfl) ?_
  refine lv_bipush (v := 8) hx hb dX6_init_16 (by decide) ?_
  refine lv_icmp_ge (tgt := 40) hx hb dX6_init_18 (by decide) (fun hc => absurd hc (by decide)) (fun _ => ?_)
  refine lv_aload_n hx hb dX6_init_21 rfl (lv_at hl 1 rfl) ?_
  refine k_get F hAm hw 1 rfl rfl 0 (Nat.le_of_ble_eq_true rfl) (TS_at (i := 187) (by decide +kernel) rfl) rfl dX6_init_22 ?_
  refine lv_iload_n hx hb dX6_init_25 rfl (lv_at hl 0 rfl) ?_
  refine k_new F hAm hw (ci := 3) tyX4 tyX4_ok rfl (TS_at (i := 184) (by decide +kernel) rfl) (TS_at (i := 90) (by decide +kernel) rfl) (TS_at (i := 48) (by decide +kernel) rfl) (fs := fs0_4) df_4 (Nat.le_of_ble_eq_true rfl) (Nat.le_of_ble_eq_true rfl) dX6_init_26 (fun q12 H hw => ?_)
  have hw : Wd D A s H locs ((q12, .inr (3, fs0_4)) :: ((q1, .inl (ca 2, 8, .inr (.inr (.inr (.inr (va_up (va_up (va_up (va_up (va_up (fun _ => none) 0 (some q2)) 1 (some q4)) 2 (some q6)) 3 (some q8)) 4 (some q10))))))) :: ((h0, .inr (5, [.ref q1, .int 0, .int 0])) :: ((((([] ++ wLane ca q2 g3) ++ wLane ca q4 g5) ++ wLane ca q6 g7) ++ wLane ca q8 g9) ++ wLane ca q10 g11)))) := hw
  refine lv_dup hx hb dX6_init_29 rfl ?_
  refine k_init F hAm (n := 0) (ci_4 l D ca q12) rfl (TS_at (i := 93) rfl rfl) (TS_at (i := 48) (by decide +kernel) rfl) (TS_at (i := 186) (by decide +kernel) rfl) (TS_at (i := 92) (by decide +kernel) rfl) ⟨by decide +kernel, by decide +kernel, by decide +kernel⟩ rfl ⟨rfl, rfl⟩ ⟨(Nat.le_of_ble_eq_true rfl), (Nat.le_of_ble_eq_true rfl)⟩ hl.1 (Nat.le_of_ble_eq_true rfl) dX6_init_30 ⟨(Nat.le_of_ble_eq_true rfl), (Nat.le_of_ble_eq_true rfl)⟩ (wc := [(q12, .inr (3, fs0_4))]) (wr := (q1, .inl (ca 2, 8, .inr (.inr (.inr (.inr (va_up (va_up (va_up (va_up (va_up (fun _ => none) 0 (some q2)) 1 (some q4)) 2 (some q6)) 3 (some q8)) 4 (some q10))))))) :: ((h0, .inr (5, [.ref q1, .int 0, .int 0])) :: ((((([] ++ wLane ca q2 g3) ++ wLane ca q4 g5) ++ wLane ca q6 g7) ++ wLane ca q8 g9) ++ wLane ca q10 g11))) hw rfl (fun w1 H locs hsh hw => ?_)
  obtain ⟨g13, rfl⟩ := hsh
  have hw : Wd D A s H locs (wLane ca q12 g13 ++ ((q1, .inl (ca 2, 8, .inr (.inr (.inr (.inr (va_up (va_up (va_up (va_up (va_up (fun _ => none) 0 (some q2)) 1 (some q4)) 2 (some q6)) 3 (some q8)) 4 (some q10))))))) :: ((h0, .inr (5, [.ref q1, .int 0, .int 0])) :: ((((([] ++ wLane ca q2 g3) ++ wLane ca q4 g5) ++ wLane ca q6 g7) ++ wLane ca q8 g9) ++ wLane ca q10 g11)))) := hw
  refine k_astq F hAm hw 9 0 2 3 (r := (RX4, TX4, 13)) rfl rfl rfl rfl (j := 5) (by decide) (by unfold vp_in; decide) dX6_init_33 (fun H locs hw => ?_)
  have hw : Wd D A s H locs (wLane ca q12 g13 ++ ((q1, .inl (ca 2, 8, .inr (.inr (.inr (.inr (va_up (va_up (va_up (va_up (va_up (va_up (fun _ => none) 0 (some q2)) 1 (some q4)) 2 (some q6)) 3 (some q8)) 4 (some q10)) 5 (some q12))))))) :: ((h0, .inr (5, [.ref q1, .int 0, .int 0])) :: ((((([] ++ wLane ca q2 g3) ++ wLane ca q4 g5) ++ wLane ca q6 g7) ++ wLane ca q8 g9) ++ wLane ca q10 g11)))) := hw
  have hw : Wd D A s H locs ((q1, .inl (ca 2, 8, .inr (.inr (.inr (.inr (va_up (va_up (va_up (va_up (va_up (va_up (fun _ => none) 0 (some q2)) 1 (some q4)) 2 (some q6)) 3 (some q8)) 4 (some q10)) 5 (some q12))))))) :: ((h0, .inr (5, [.ref q1, .int 0, .int 0])) :: (((((([] ++ wLane ca q2 g3) ++ wLane ca q4 g5) ++ wLane ca q6 g7) ++ wLane ca q8 g9) ++ wLane ca q10 g11) ++ wLane ca q12 g13))) := hw.comm
  refine lv_iinc (v := 6) (lv' := [(1, .int 6), (0, .ref h0)]) hx hb dX6_init_34 hl (k := 0) rfl (by decide) (by decide) rfl (fun ls hl => ?_)
  refine lv_goto (tgt := 15) hx hb dX6_init_37 (by decide) ?_
  refine lv_iload_n hx hb dX6_init_15 rfl (lv_at hl 0 rfl) ?_
  refine lv_bipush (v := 8) hx hb dX6_init_16 (by decide) ?_
  refine lv_icmp_ge (tgt := 40) hx hb dX6_init_18 (by decide) (fun hc => absurd hc (by decide)) (fun _ => ?_)
  refine lv_aload_n hx hb dX6_init_21 rfl (lv_at hl 1 rfl) ?_
  refine k_get F hAm hw 1 rfl rfl 0 (Nat.le_of_ble_eq_true rfl) (TS_at (i := 187) (by decide +kernel) rfl) rfl dX6_init_22 ?_
  refine lv_iload_n hx hb dX6_init_25 rfl (lv_at hl 0 rfl) ?_
  refine k_new F hAm hw (ci := 3) tyX4 tyX4_ok rfl (TS_at (i := 184) (by decide +kernel) rfl) (TS_at (i := 90) (by decide +kernel) rfl) (TS_at (i := 48) (by decide +kernel) rfl) (fs := fs0_4) df_4 (Nat.le_of_ble_eq_true rfl) (Nat.le_of_ble_eq_true rfl) dX6_init_26 (fun q14 H hw => ?_)
  have hw : Wd D A s H locs ((q14, .inr (3, fs0_4)) :: ((q1, .inl (ca 2, 8, .inr (.inr (.inr (.inr (va_up (va_up (va_up (va_up (va_up (va_up (fun _ => none) 0 (some q2)) 1 (some q4)) 2 (some q6)) 3 (some q8)) 4 (some q10)) 5 (some q12))))))) :: ((h0, .inr (5, [.ref q1, .int 0, .int 0])) :: (((((([] ++ wLane ca q2 g3) ++ wLane ca q4 g5) ++ wLane ca q6 g7) ++ wLane ca q8 g9) ++ wLane ca q10 g11) ++ wLane ca q12 g13)))) := hw
  refine lv_dup hx hb dX6_init_29 rfl ?_
  refine k_init F hAm (n := 0) (ci_4 l D ca q14) rfl (TS_at (i := 93) rfl rfl) (TS_at (i := 48) (by decide +kernel) rfl) (TS_at (i := 186) (by decide +kernel) rfl) (TS_at (i := 92) (by decide +kernel) rfl) ⟨by decide +kernel, by decide +kernel, by decide +kernel⟩ rfl ⟨rfl, rfl⟩ ⟨(Nat.le_of_ble_eq_true rfl), (Nat.le_of_ble_eq_true rfl)⟩ hl.1 (Nat.le_of_ble_eq_true rfl) dX6_init_30 ⟨(Nat.le_of_ble_eq_true rfl), (Nat.le_of_ble_eq_true rfl)⟩ (wc := [(q14, .inr (3, fs0_4))]) (wr := (q1, .inl (ca 2, 8, .inr (.inr (.inr (.inr (va_up (va_up (va_up (va_up (va_up (va_up (fun _ => none) 0 (some q2)) 1 (some q4)) 2 (some q6)) 3 (some q8)) 4 (some q10)) 5 (some q12))))))) :: ((h0, .inr (5, [.ref q1, .int 0, .int 0])) :: (((((([] ++ wLane ca q2 g3) ++ wLane ca q4 g5) ++ wLane ca q6 g7) ++ wLane ca q8 g9) ++ wLane ca q10 g11) ++ wLane ca q12 g13))) hw rfl (fun w1 H locs hsh hw => ?_)
  obtain ⟨g15, rfl⟩ := hsh
  have hw : Wd D A s H locs (wLane ca q14 g15 ++ ((q1, .inl (ca 2, 8, .inr (.inr (.inr (.inr (va_up (va_up (va_up (va_up (va_up (va_up (fun _ => none) 0 (some q2)) 1 (some q4)) 2 (some q6)) 3 (some q8)) 4 (some q10)) 5 (some q12))))))) :: ((h0, .inr (5, [.ref q1, .int 0, .int 0])) :: (((((([] ++ wLane ca q2 g3) ++ wLane ca q4 g5) ++ wLane ca q6 g7) ++ wLane ca q8 g9) ++ wLane ca q10 g11) ++ wLane ca q12 g13)))) := hw
  refine k_astq F hAm hw 9 0 2 3 (r := (RX4, TX4, 13)) rfl rfl rfl rfl (j := 6) (by decide) (by unfold vp_in; decide) dX6_init_33 (fun H locs hw => ?_)
  have hw : Wd D A s H locs (wLane ca q14 g15 ++ ((q1, .inl (ca 2, 8, .inr (.inr (.inr (.inr (va_up (va_up (va_up (va_up (va_up (va_up (va_up (fun _ => none) 0 (some q2)) 1 (some q4)) 2 (some q6)) 3 (some q8)) 4 (some q10)) 5 (some q12)) 6 (some q14))))))) :: ((h0, .inr (5, [.ref q1, .int 0, .int 0])) :: (((((([] ++ wLane ca q2 g3) ++ wLane ca q4 g5) ++ wLane ca q6 g7) ++ wLane ca q8 g9) ++ wLane ca q10 g11) ++ wLane ca q12 g13)))) := hw
  have hw : Wd D A s H locs ((q1, .inl (ca 2, 8, .inr (.inr (.inr (.inr (va_up (va_up (va_up (va_up (va_up (va_up (va_up (fun _ => none) 0 (some q2)) 1 (some q4)) 2 (some q6)) 3 (some q8)) 4 (some q10)) 5 (some q12)) 6 (some q14))))))) :: ((h0, .inr (5, [.ref q1, .int 0, .int 0])) :: ((((((([] ++ wLane ca q2 g3) ++ wLane ca q4 g5) ++ wLane ca q6 g7) ++ wLane ca q8 g9) ++ wLane ca q10 g11) ++ wLane ca q12 g13) ++ wLane ca q14 g15))) := hw.comm
  refine lv_iinc (v := 7) (lv' := [(1, .int 7), (0, .ref h0)]) hx hb dX6_init_34 hl (k := 0) rfl (by decide) (by decide) rfl (fun ls hl => ?_)
  refine lv_goto (tgt := 15) hx hb dX6_init_37 (by decide) ?_
  refine lv_iload_n hx hb dX6_init_15 rfl (lv_at hl 0 rfl) ?_
  refine lv_bipush (v := 8) hx hb dX6_init_16 (by decide) ?_
  refine lv_icmp_ge (tgt := 40) hx hb dX6_init_18 (by decide) (fun hc => absurd hc (by decide)) (fun _ => ?_)
  refine lv_aload_n hx hb dX6_init_21 rfl (lv_at hl 1 rfl) ?_
  refine k_get F hAm hw 1 rfl rfl 0 (Nat.le_of_ble_eq_true rfl) (TS_at (i := 187) (by decide +kernel) rfl) rfl dX6_init_22 ?_
  refine lv_iload_n hx hb dX6_init_25 rfl (lv_at hl 0 rfl) ?_
  refine k_new F hAm hw (ci := 3) tyX4 tyX4_ok rfl (TS_at (i := 184) (by decide +kernel) rfl) (TS_at (i := 90) (by decide +kernel) rfl) (TS_at (i := 48) (by decide +kernel) rfl) (fs := fs0_4) df_4 (Nat.le_of_ble_eq_true rfl) (Nat.le_of_ble_eq_true rfl) dX6_init_26 (fun q16 H hw => ?_)
  have hw : Wd D A s H locs ((q16, .inr (3, fs0_4)) :: ((q1, .inl (ca 2, 8, .inr (.inr (.inr (.inr (va_up (va_up (va_up (va_up (va_up (va_up (va_up (fun _ => none) 0 (some q2)) 1 (some q4)) 2 (some q6)) 3 (some q8)) 4 (some q10)) 5 (some q12)) 6 (some q14))))))) :: ((h0, .inr (5, [.ref q1, .int 0, .int 0])) :: ((((((([] ++ wLane ca q2 g3) ++ wLane ca q4 g5) ++ wLane ca q6 g7) ++ wLane ca q8 g9) ++ wLane ca q10 g11) ++ wLane ca q12 g13) ++ wLane ca q14 g15)))) := hw
  refine lv_dup hx hb dX6_init_29 rfl ?_
  refine k_init F hAm (n := 0) (ci_4 l D ca q16) rfl (TS_at (i := 93) rfl rfl) (TS_at (i := 48) (by decide +kernel) rfl) (TS_at (i := 186) (by decide +kernel) rfl) (TS_at (i := 92) (by decide +kernel) rfl) ⟨by decide +kernel, by decide +kernel, by decide +kernel⟩ rfl ⟨rfl, rfl⟩ ⟨(Nat.le_of_ble_eq_true rfl), (Nat.le_of_ble_eq_true rfl)⟩ hl.1 (Nat.le_of_ble_eq_true rfl) dX6_init_30 ⟨(Nat.le_of_ble_eq_true rfl), (Nat.le_of_ble_eq_true rfl)⟩ (wc := [(q16, .inr (3, fs0_4))]) (wr := (q1, .inl (ca 2, 8, .inr (.inr (.inr (.inr (va_up (va_up (va_up (va_up (va_up (va_up (va_up (fun _ => none) 0 (some q2)) 1 (some q4)) 2 (some q6)) 3 (some q8)) 4 (some q10)) 5 (some q12)) 6 (some q14))))))) :: ((h0, .inr (5, [.ref q1, .int 0, .int 0])) :: ((((((([] ++ wLane ca q2 g3) ++ wLane ca q4 g5) ++ wLane ca q6 g7) ++ wLane ca q8 g9) ++ wLane ca q10 g11) ++ wLane ca q12 g13) ++ wLane ca q14 g15))) hw rfl (fun w1 H locs hsh hw => ?_)
  obtain ⟨g17, rfl⟩ := hsh
  have hw : Wd D A s H locs (wLane ca q16 g17 ++ ((q1, .inl (ca 2, 8, .inr (.inr (.inr (.inr (va_up (va_up (va_up (va_up (va_up (va_up (va_up (fun _ => none) 0 (some q2)) 1 (some q4)) 2 (some q6)) 3 (some q8)) 4 (some q10)) 5 (some q12)) 6 (some q14))))))) :: ((h0, .inr (5, [.ref q1, .int 0, .int 0])) :: ((((((([] ++ wLane ca q2 g3) ++ wLane ca q4 g5) ++ wLane ca q6 g7) ++ wLane ca q8 g9) ++ wLane ca q10 g11) ++ wLane ca q12 g13) ++ wLane ca q14 g15)))) := hw
  refine k_astq F hAm hw 9 0 2 3 (r := (RX4, TX4, 13)) rfl rfl rfl rfl (j := 7) (by decide) (by unfold vp_in; decide) dX6_init_33 (fun H locs hw => ?_)
  have hw : Wd D A s H locs (wLane ca q16 g17 ++ ((q1, .inl (ca 2, 8, .inr (.inr (.inr (.inr (va_up (va_up (va_up (va_up (va_up (va_up (va_up (va_up (fun _ => none) 0 (some q2)) 1 (some q4)) 2 (some q6)) 3 (some q8)) 4 (some q10)) 5 (some q12)) 6 (some q14)) 7 (some q16))))))) :: ((h0, .inr (5, [.ref q1, .int 0, .int 0])) :: ((((((([] ++ wLane ca q2 g3) ++ wLane ca q4 g5) ++ wLane ca q6 g7) ++ wLane ca q8 g9) ++ wLane ca q10 g11) ++ wLane ca q12 g13) ++ wLane ca q14 g15)))) := hw
  have hw : Wd D A s H locs ((q1, .inl (ca 2, 8, .inr (.inr (.inr (.inr (va_up (va_up (va_up (va_up (va_up (va_up (va_up (va_up (fun _ => none) 0 (some q2)) 1 (some q4)) 2 (some q6)) 3 (some q8)) 4 (some q10)) 5 (some q12)) 6 (some q14)) 7 (some q16))))))) :: ((h0, .inr (5, [.ref q1, .int 0, .int 0])) :: (((((((([] ++ wLane ca q2 g3) ++ wLane ca q4 g5) ++ wLane ca q6 g7) ++ wLane ca q8 g9) ++ wLane ca q10 g11) ++ wLane ca q12 g13) ++ wLane ca q14 g15) ++ wLane ca q16 g17))) := hw.comm
  refine lv_iinc (v := 8) (lv' := [(1, .int 8), (0, .ref h0)]) hx hb dX6_init_34 hl (k := 0) rfl (by decide) (by decide) rfl (fun ls hl => ?_)
  refine lv_goto (tgt := 15) hx hb dX6_init_37 (by decide) ?_
  refine lv_iload_n hx hb dX6_init_15 rfl (lv_at hl 0 rfl) ?_
  refine lv_bipush (v := 8) hx hb dX6_init_16 (by decide) ?_
  refine lv_icmp_ge (tgt := 40) hx hb dX6_init_18 (by decide) (fun _ => ?_) (fun hc => absurd (by decide) hc)
  refine W.widen (k := 73) (n := 520) (Nat.le_of_ble_eq_true rfl) (Nat.le_of_ble_eq_true rfl) ?_
  exact k_ret F hr hlocks hw ⟨q1, (fun i => match i with | 0 => q2 | 1 => q4 | 2 => q6 | 3 => q8 | 4 => q10 | 5 => q12 | 6 => q14 | _ => q16), (fun i => match i with | 0 => g3 | 1 => g5 | 2 => g7 | 3 => g9 | 4 => g11 | 5 => g13 | 6 => g15 | _ => g17), rfl⟩ dX6_init_40
