abbrev mRoom : Nat → Int32 := upd (upd (upd (fun _ => 0) 0 (-1)) 1 (-1)) 2 (-1)
abbrev mHold : Nat → Int32 := upd (upd (upd (fun _ => 0) 0 0) 1 0) 2 0
theorem dX10_misses_0 : decode cX10_misses 0 = .ok (.iconst 0, 1) := by decide +kernel
theorem dX10_misses_1 : decode cX10_misses 1 = .ok (.istore_n 1, 1) := by decide +kernel
theorem dX10_misses_2 : decode cX10_misses 2 = .ok (.iload_n 1, 1) := by decide +kernel
theorem dX10_misses_3 : decode cX10_misses 3 = .ok (.iconst 3, 1) := by decide +kernel
theorem dX10_misses_4 : decode cX10_misses 4 = .ok (.if_icmp .ge 23, 3) := by decide +kernel
theorem dX10_misses_7 : decode cX10_misses 7 = .ok (.aload_n 0, 1) := by decide +kernel
theorem dX10_misses_8 : decode cX10_misses 8 = .ok (.getfield 50, 3) := by decide +kernel
theorem dX10_misses_11 : decode cX10_misses 11 = .ok (.iload_n 1, 1) := by decide +kernel
theorem dX10_misses_12 : decode cX10_misses 12 = .ok (.iconst (-1), 1) := by decide +kernel
theorem dX10_misses_13 : decode cX10_misses 13 = .ok (.iastore, 1) := by decide +kernel
theorem dX10_misses_14 : decode cX10_misses 14 = .ok (.aload_n 0, 1) := by decide +kernel
theorem dX10_misses_15 : decode cX10_misses 15 = .ok (.getfield 53, 3) := by decide +kernel
theorem dX10_misses_18 : decode cX10_misses 18 = .ok (.iload_n 1, 1) := by decide +kernel
theorem dX10_misses_19 : decode cX10_misses 19 = .ok (.iconst 0, 1) := by decide +kernel
theorem dX10_misses_20 : decode cX10_misses 20 = .ok (.iastore, 1) := by decide +kernel
theorem dX10_misses_21 : decode cX10_misses 21 = .ok (.iinc 1 1, 3) := by decide +kernel
theorem dX10_misses_24 : decode cX10_misses 24 = .ok (.goto (-22), 3) := by decide +kernel
theorem dX10_misses_27 : decode cX10_misses 27 = .ok (.return_, 1) := by decide +kernel
set_option maxRecDepth 100000 in
set_option maxHeartbeats 4000000 in
theorem ci_misses (l : Launch) (D : va_G) (ca : Nat → ClassId) (h0 : Nat) (r0 o0 : Nat) (fs : List Value) (hf1 : fs[23]? = some (.ref r0)) (hf2 : fs[24]? = some (.ref o0)) : ICon l D ca yX10_misses (Cond.code yX10_misses cX10_misses 2 none :: TS) { frames := 2, cells := 0, slots := 0, locals := 40 } [.ref h0] [(o0, cI ca 3), (r0, cI ca 3), (h0, .inr (9, fs))] (fun ws => ws = [(o0, .inl (ca 0, 3, .inl mHold)), (r0, .inl (ca 0, 3, .inl mRoom)), (h0, .inr (9, fs))]) 0 0 := by
  refine ic_enter (by decide) (Nat.le_of_ble_eq_true rfl) ?_
  intro p e s m below meth c F hin hr hlocks hAm A ls hw hl
  have hx := F.1
  have hb := F.2.1
  obtain ⟨H, hH⟩ : ∃ H, H = s.heap := ⟨_, rfl⟩
  rw [← hH] at hw ⊢
  obtain ⟨locs, hlc⟩ : ∃ locs : List Loc, locs = [] := ⟨_, rfl⟩
  rw [← hlc] at hw ⊢
  have hl : lv_has ls 2 [(0, .ref h0)] := hl
  have hw : Wd D A s H locs ((o0, cI ca 3) :: ((r0, cI ca 3) :: ((h0, .inr (9, fs)) :: ([])))) := hw
  refine lv_iconst (v := 0) hx hb dX10_misses_0 (by decide) ?_
  refine lv_istore_n (lv' := [(1, .int 0), (0, .ref h0)]) hx hb dX10_misses_1 rfl hl (by decide) rfl (fun ls hl => ?_)
  refine lv_iload_n hx hb dX10_misses_2 rfl (lv_at hl 0 rfl) ?_
  refine lv_iconst (v := 3) hx hb dX10_misses_3 (by decide) ?_
  refine lv_icmp_ge (tgt := 27) hx hb dX10_misses_4 (by decide) (fun hc => absurd hc (by decide)) (fun _ => ?_)
  refine lv_aload_n hx hb dX10_misses_7 rfl (lv_at hl 1 rfl) ?_
  refine k_get F hAm hw 2 rfl rfl 23 (Nat.le_of_ble_eq_true rfl) (TS_at (i := 898) (by decide +kernel) rfl) hf1 dX10_misses_8 ?_
  refine lv_iload_n hx hb dX10_misses_11 rfl (lv_at hl 0 rfl) ?_
  refine lv_iconst (v := (-1)) hx hb dX10_misses_12 (by decide) ?_
  refine k_iast F hAm hw 1 rfl (j := 0) (by decide) (by unfold vp_in; decide) dX10_misses_13 (fun H locs hw => ?_)
  have hw : Wd D A s H locs ((o0, cI ca 3) :: ((r0, .inl (ca 0, 3, .inl (upd (fun _ => 0) 0 (-1)))) :: ((h0, .inr (9, fs)) :: ([])))) := hw
  refine lv_aload_n hx hb dX10_misses_14 rfl (lv_at hl 1 rfl) ?_
  refine k_get F hAm hw 2 rfl rfl 24 (Nat.le_of_ble_eq_true rfl) (TS_at (i := 899) (by decide +kernel) rfl) hf2 dX10_misses_15 ?_
  refine lv_iload_n hx hb dX10_misses_18 rfl (lv_at hl 0 rfl) ?_
  refine lv_iconst (v := 0) hx hb dX10_misses_19 (by decide) ?_
  refine k_iast F hAm hw 0 rfl (j := 0) (by decide) (by unfold vp_in; decide) dX10_misses_20 (fun H locs hw => ?_)
  have hw : Wd D A s H locs ((o0, .inl (ca 0, 3, .inl (upd (fun _ => 0) 0 0))) :: ((r0, .inl (ca 0, 3, .inl (upd (fun _ => 0) 0 (-1)))) :: ((h0, .inr (9, fs)) :: ([])))) := hw
  refine lv_iinc (v := 1) (lv' := [(1, .int 1), (0, .ref h0)]) hx hb dX10_misses_21 hl (k := 0) rfl (by decide) (by decide) rfl (fun ls hl => ?_)
  refine lv_goto (tgt := 2) hx hb dX10_misses_24 (by decide) ?_
  refine lv_iload_n hx hb dX10_misses_2 rfl (lv_at hl 0 rfl) ?_
  refine lv_iconst (v := 3) hx hb dX10_misses_3 (by decide) ?_
  refine lv_icmp_ge (tgt := 27) hx hb dX10_misses_4 (by decide) (fun hc => absurd hc (by decide)) (fun _ => ?_)
  refine lv_aload_n hx hb dX10_misses_7 rfl (lv_at hl 1 rfl) ?_
  refine k_get F hAm hw 2 rfl rfl 23 (Nat.le_of_ble_eq_true rfl) (TS_at (i := 898) (by decide +kernel) rfl) hf1 dX10_misses_8 ?_
  refine lv_iload_n hx hb dX10_misses_11 rfl (lv_at hl 0 rfl) ?_
  refine lv_iconst (v := (-1)) hx hb dX10_misses_12 (by decide) ?_
  refine k_iast F hAm hw 1 rfl (j := 1) (by decide) (by unfold vp_in; decide) dX10_misses_13 (fun H locs hw => ?_)
  have hw : Wd D A s H locs ((o0, .inl (ca 0, 3, .inl (upd (fun _ => 0) 0 0))) :: ((r0, .inl (ca 0, 3, .inl (upd (upd (fun _ => 0) 0 (-1)) 1 (-1)))) :: ((h0, .inr (9, fs)) :: ([])))) := hw
  refine lv_aload_n hx hb dX10_misses_14 rfl (lv_at hl 1 rfl) ?_
  refine k_get F hAm hw 2 rfl rfl 24 (Nat.le_of_ble_eq_true rfl) (TS_at (i := 899) (by decide +kernel) rfl) hf2 dX10_misses_15 ?_
  refine lv_iload_n hx hb dX10_misses_18 rfl (lv_at hl 0 rfl) ?_
  refine lv_iconst (v := 0) hx hb dX10_misses_19 (by decide) ?_
  refine k_iast F hAm hw 0 rfl (j := 1) (by decide) (by unfold vp_in; decide) dX10_misses_20 (fun H locs hw => ?_)
  have hw : Wd D A s H locs ((o0, .inl (ca 0, 3, .inl (upd (upd (fun _ => 0) 0 0) 1 0))) :: ((r0, .inl (ca 0, 3, .inl (upd (upd (fun _ => 0) 0 (-1)) 1 (-1)))) :: ((h0, .inr (9, fs)) :: ([])))) := hw
  refine lv_iinc (v := 2) (lv' := [(1, .int 2), (0, .ref h0)]) hx hb dX10_misses_21 hl (k := 0) rfl (by decide) (by decide) rfl (fun ls hl => ?_)
  refine lv_goto (tgt := 2) hx hb dX10_misses_24 (by decide) ?_
  refine lv_iload_n hx hb dX10_misses_2 rfl (lv_at hl 0 rfl) ?_
  refine lv_iconst (v := 3) hx hb dX10_misses_3 (by decide) ?_
  refine lv_icmp_ge (tgt := 27) hx hb dX10_misses_4 (by decide) (fun hc => absurd hc (by decide)) (fun _ => ?_)
  refine lv_aload_n hx hb dX10_misses_7 rfl (lv_at hl 1 rfl) ?_
  refine k_get F hAm hw 2 rfl rfl 23 (Nat.le_of_ble_eq_true rfl) (TS_at (i := 898) (by decide +kernel) rfl) hf1 dX10_misses_8 ?_
  refine lv_iload_n hx hb dX10_misses_11 rfl (lv_at hl 0 rfl) ?_
  refine lv_iconst (v := (-1)) hx hb dX10_misses_12 (by decide) ?_
  refine k_iast F hAm hw 1 rfl (j := 2) (by decide) (by unfold vp_in; decide) dX10_misses_13 (fun H locs hw => ?_)
  have hw : Wd D A s H locs ((o0, .inl (ca 0, 3, .inl (upd (upd (fun _ => 0) 0 0) 1 0))) :: ((r0, .inl (ca 0, 3, .inl (upd (upd (upd (fun _ => 0) 0 (-1)) 1 (-1)) 2 (-1)))) :: ((h0, .inr (9, fs)) :: ([])))) := hw
  refine lv_aload_n hx hb dX10_misses_14 rfl (lv_at hl 1 rfl) ?_
  refine k_get F hAm hw 2 rfl rfl 24 (Nat.le_of_ble_eq_true rfl) (TS_at (i := 899) (by decide +kernel) rfl) hf2 dX10_misses_15 ?_
  refine lv_iload_n hx hb dX10_misses_18 rfl (lv_at hl 0 rfl) ?_
  refine lv_iconst (v := 0) hx hb dX10_misses_19 (by decide) ?_
  refine k_iast F hAm hw 0 rfl (j := 2) (by decide) (by unfold vp_in; decide) dX10_misses_20 (fun H locs hw => ?_)
  have hw : Wd D A s H locs ((o0, .inl (ca 0, 3, .inl (upd (upd (upd (fun _ => 0) 0 0) 1 0) 2 0))) :: ((r0, .inl (ca 0, 3, .inl (upd (upd (upd (fun _ => 0) 0 (-1)) 1 (-1)) 2 (-1)))) :: ((h0, .inr (9, fs)) :: ([])))) := hw
  refine lv_iinc (v := 3) (lv' := [(1, .int 3), (0, .ref h0)]) hx hb dX10_misses_21 hl (k := 0) rfl (by decide) (by decide) rfl (fun ls hl => ?_)
  refine lv_goto (tgt := 2) hx hb dX10_misses_24 (by decide) ?_
  refine lv_iload_n hx hb dX10_misses_2 rfl (lv_at hl 0 rfl) ?_
  refine lv_iconst (v := 3) hx hb dX10_misses_3 (by decide) ?_
  refine lv_icmp_ge (tgt := 27) hx hb dX10_misses_4 (by decide) (fun _ => ?_) (fun hc => absurd (by decide) hc)
  refine W.widen (k := 0) (n := 0) (Nat.le_of_ble_eq_true rfl) (Nat.le_of_ble_eq_true rfl) ?_
  exact k_ret F hr hlocks hw rfl dX10_misses_27
theorem dX10_init_0 : decode cX10_init 0 = .ok (.aload_n 0, 1) := by decide +kernel
theorem dX10_init_1 : decode cX10_init 1 = .ok (.invokespecial 1, 3) := by decide +kernel
theorem dX10_init_4 : decode cX10_init 4 = .ok (.aload_n 0, 1) := by decide +kernel
theorem dX10_init_5 : decode cX10_init 5 = .ok (.sipush 200, 3) := by decide +kernel
theorem dX10_init_8 : decode cX10_init 8 = .ok (.newarray .int, 2) := by decide +kernel
theorem dX10_init_10 : decode cX10_init 10 = .ok (.putfield 7, 3) := by decide +kernel
theorem dX10_init_13 : decode cX10_init 13 = .ok (.aload_n 0, 1) := by decide +kernel
theorem dX10_init_14 : decode cX10_init 14 = .ok (.bipush 48, 2) := by decide +kernel
theorem dX10_init_16 : decode cX10_init 16 = .ok (.newarray .int, 2) := by decide +kernel
theorem dX10_init_18 : decode cX10_init 18 = .ok (.putfield 13, 3) := by decide +kernel
theorem dX10_init_21 : decode cX10_init 21 = .ok (.aload_n 0, 1) := by decide +kernel
theorem dX10_init_22 : decode cX10_init 22 = .ok (.bipush 48, 2) := by decide +kernel
theorem dX10_init_24 : decode cX10_init 24 = .ok (.newarray .int, 2) := by decide +kernel
theorem dX10_init_26 : decode cX10_init 26 = .ok (.putfield 16, 3) := by decide +kernel
theorem dX10_init_29 : decode cX10_init 29 = .ok (.aload_n 0, 1) := by decide +kernel
theorem dX10_init_30 : decode cX10_init 30 = .ok (.bipush 48, 2) := by decide +kernel
theorem dX10_init_32 : decode cX10_init 32 = .ok (.newarray .int, 2) := by decide +kernel
theorem dX10_init_34 : decode cX10_init 34 = .ok (.putfield 19, 3) := by decide +kernel
theorem dX10_init_37 : decode cX10_init 37 = .ok (.aload_n 0, 1) := by decide +kernel
theorem dX10_init_38 : decode cX10_init 38 = .ok (.bipush 48, 2) := by decide +kernel
theorem dX10_init_40 : decode cX10_init 40 = .ok (.newarray .int, 2) := by decide +kernel
theorem dX10_init_42 : decode cX10_init 42 = .ok (.putfield 22, 3) := by decide +kernel
theorem dX10_init_45 : decode cX10_init 45 = .ok (.aload_n 0, 1) := by decide +kernel
theorem dX10_init_46 : decode cX10_init 46 = .ok (.sipush 384, 3) := by decide +kernel
theorem dX10_init_49 : decode cX10_init 49 = .ok (.newarray .int, 2) := by decide +kernel
theorem dX10_init_51 : decode cX10_init 51 = .ok (.putfield 25, 3) := by decide +kernel
theorem dX10_init_54 : decode cX10_init 54 = .ok (.aload_n 0, 1) := by decide +kernel
theorem dX10_init_55 : decode cX10_init 55 = .ok (.bipush 96, 2) := by decide +kernel
theorem dX10_init_57 : decode cX10_init 57 = .ok (.newarray .int, 2) := by decide +kernel
theorem dX10_init_59 : decode cX10_init 59 = .ok (.putfield 28, 3) := by decide +kernel
theorem dX10_init_62 : decode cX10_init 62 = .ok (.aload_n 0, 1) := by decide +kernel
theorem dX10_init_63 : decode cX10_init 63 = .ok (.iconst 2, 1) := by decide +kernel
theorem dX10_init_64 : decode cX10_init 64 = .ok (.newarray .boolean, 2) := by decide +kernel
theorem dX10_init_66 : decode cX10_init 66 = .ok (.putfield 31, 3) := by decide +kernel
theorem dX10_init_69 : decode cX10_init 69 = .ok (.aload_n 0, 1) := by decide +kernel
theorem dX10_init_70 : decode cX10_init 70 = .ok (.bipush 7, 2) := by decide +kernel
theorem dX10_init_72 : decode cX10_init 72 = .ok (.newarray .int, 2) := by decide +kernel
theorem dX10_init_74 : decode cX10_init 74 = .ok (.putfield 35, 3) := by decide +kernel
theorem dX10_init_77 : decode cX10_init 77 = .ok (.aload_n 0, 1) := by decide +kernel
theorem dX10_init_78 : decode cX10_init 78 = .ok (.bipush 6, 2) := by decide +kernel
theorem dX10_init_80 : decode cX10_init 80 = .ok (.newarray .int, 2) := by decide +kernel
theorem dX10_init_82 : decode cX10_init 82 = .ok (.putfield 38, 3) := by decide +kernel
theorem dX10_init_85 : decode cX10_init 85 = .ok (.aload_n 0, 1) := by decide +kernel
theorem dX10_init_86 : decode cX10_init 86 = .ok (.bipush 6, 2) := by decide +kernel
theorem dX10_init_88 : decode cX10_init 88 = .ok (.newarray .int, 2) := by decide +kernel
theorem dX10_init_90 : decode cX10_init 90 = .ok (.putfield 41, 3) := by decide +kernel
theorem dX10_init_93 : decode cX10_init 93 = .ok (.aload_n 0, 1) := by decide +kernel
theorem dX10_init_94 : decode cX10_init 94 = .ok (.bipush 6, 2) := by decide +kernel
theorem dX10_init_96 : decode cX10_init 96 = .ok (.newarray .int, 2) := by decide +kernel
theorem dX10_init_98 : decode cX10_init 98 = .ok (.putfield 44, 3) := by decide +kernel
theorem dX10_init_101 : decode cX10_init 101 = .ok (.aload_n 0, 1) := by decide +kernel
theorem dX10_init_102 : decode cX10_init 102 = .ok (.bipush 18, 2) := by decide +kernel
theorem dX10_init_104 : decode cX10_init 104 = .ok (.newarray .int, 2) := by decide +kernel
theorem dX10_init_106 : decode cX10_init 106 = .ok (.putfield 47, 3) := by decide +kernel
theorem dX10_init_109 : decode cX10_init 109 = .ok (.aload_n 0, 1) := by decide +kernel
theorem dX10_init_110 : decode cX10_init 110 = .ok (.iconst 3, 1) := by decide +kernel
theorem dX10_init_111 : decode cX10_init 111 = .ok (.newarray .int, 2) := by decide +kernel
theorem dX10_init_113 : decode cX10_init 113 = .ok (.putfield 50, 3) := by decide +kernel
theorem dX10_init_116 : decode cX10_init 116 = .ok (.aload_n 0, 1) := by decide +kernel
theorem dX10_init_117 : decode cX10_init 117 = .ok (.iconst 3, 1) := by decide +kernel
theorem dX10_init_118 : decode cX10_init 118 = .ok (.newarray .int, 2) := by decide +kernel
theorem dX10_init_120 : decode cX10_init 120 = .ok (.putfield 53, 3) := by decide +kernel
theorem dX10_init_123 : decode cX10_init 123 = .ok (.aload_n 0, 1) := by decide +kernel
theorem dX10_init_124 : decode cX10_init 124 = .ok (.bipush 27, 2) := by decide +kernel
theorem dX10_init_126 : decode cX10_init 126 = .ok (.newarray .int, 2) := by decide +kernel
theorem dX10_init_128 : decode cX10_init 128 = .ok (.putfield 56, 3) := by decide +kernel
theorem dX10_init_131 : decode cX10_init 131 = .ok (.aload_n 0, 1) := by decide +kernel
theorem dX10_init_132 : decode cX10_init 132 = .ok (.bipush 27, 2) := by decide +kernel
theorem dX10_init_134 : decode cX10_init 134 = .ok (.newarray .int, 2) := by decide +kernel
theorem dX10_init_136 : decode cX10_init 136 = .ok (.putfield 59, 3) := by decide +kernel
theorem dX10_init_139 : decode cX10_init 139 = .ok (.aload_n 0, 1) := by decide +kernel
theorem dX10_init_140 : decode cX10_init 140 = .ok (.invokevirtual 62, 3) := by decide +kernel
theorem dX10_init_143 : decode cX10_init 143 = .ok (.return_, 1) := by decide +kernel
abbrev wModel (ca : Nat → ClassId) (h0 : Nat) (q1 : Nat) (q2 : Nat) (q3 : Nat) (q4 : Nat) (q5 : Nat) (q6 : Nat) (q7 : Nat) (q8 : Nat) (q9 : Nat) (q10 : Nat) (q11 : Nat) (q12 : Nat) (q13 : Nat) (q14 : Nat) (q15 : Nat) (q16 : Nat) (q17 : Nat) : va_W := (q15, .inl (ca 0, 3, .inl mHold)) :: ((q14, .inl (ca 0, 3, .inl mRoom)) :: ((h0, .inr (9, [.ref q1, .int 0, .int 0, .int 0, .int 0, .int 0, .int 0, .int 0, .int 0, .ref q2, .ref q3, .ref q4, .ref q5, .ref q6, .int 0, .ref q7, .ref q8, .ref q9, .ref q10, .ref q11, .ref q12, .ref q13, .int 0, .ref q14, .ref q15, .ref q16, .ref q17])) :: (((((((((((((((([]) ++ [(q1, cI ca 200)]) ++ [(q2, cI ca 48)]) ++ [(q3, cI ca 48)]) ++ [(q4, cI ca 48)]) ++ [(q5, cI ca 48)]) ++ [(q6, cI ca 384)]) ++ [(q7, cI ca 96)]) ++ [(q8, cZ ca 2)]) ++ [(q9, cI ca 7)]) ++ [(q10, cI ca 6)]) ++ [(q11, cI ca 6)]) ++ [(q12, cI ca 6)]) ++ [(q13, cI ca 18)]) ++ [(q16, cI ca 27)]) ++ [(q17, cI ca 27)])))
set_option maxRecDepth 100000 in
set_option maxHeartbeats 4000000 in
theorem ci_10 (l : Launch) (D : va_G) (ca : Nat → ClassId) (h0 : Nat) : ICon l D ca yX10_init (Cond.code yX10_init cX10_init 1 none :: TS) { frames := 4, cells := 17, slots := 977, locals := 100 } [.ref h0] [(h0, .inr (9, fs0_10))] (fun ws => ∃ (q1 : Nat) (q2 : Nat) (q3 : Nat) (q4 : Nat) (q5 : Nat) (q6 : Nat) (q7 : Nat) (q8 : Nat) (q9 : Nat) (q10 : Nat) (q11 : Nat) (q12 : Nat) (q13 : Nat) (q14 : Nat) (q15 : Nat) (q16 : Nat) (q17 : Nat), ws = wModel ca h0 q1 q2 q3 q4 q5 q6 q7 q8 q9 q10 q11 q12 q13 q14 q15 q16 q17) 17 977 := by
  refine ic_enter (by decide) (Nat.le_of_ble_eq_true rfl) ?_
  intro p e s m below meth c F hin hr hlocks hAm A ls hw hl
  have hx := F.1
  have hb := F.2.1
  obtain ⟨H, hH⟩ : ∃ H, H = s.heap := ⟨_, rfl⟩
  rw [← hH] at hw ⊢
  obtain ⟨locs, hlc⟩ : ∃ locs : List Loc, locs = [] := ⟨_, rfl⟩
  rw [← hlc] at hw ⊢
  have hl : lv_has ls 1 [(0, .ref h0)] := hl
  have hw : Wd D A s H locs ((h0, .inr (9, fs0_10)) :: ([])) := hw
  refine lv_aload_n hx hb dX10_init_0 rfl (lv_at hl 0 rfl) ?_
  refine k_oinit F hl (TS_at (i := 870) (by decide +kernel) rfl) (TS_at (i := 71) (by decide +kernel) rfl) (TS_at (i := 72) (by decide +kernel) rfl) ⟨(Nat.le_of_ble_eq_true rfl), (Nat.le_of_ble_eq_true rfl)⟩ dX10_init_1 ?_
  refine lv_aload_n hx hb dX10_init_4 rfl (lv_at hl 0 rfl) ?_
  refine lv_sipush (v := 200) hx hb dX10_init_5 (by decide) ?_
  refine k_newi F hAm hw (TS_at (i := 88) (by decide +kernel) rfl) (N := 200) (by decide) (by decide) (Nat.le_of_ble_eq_true rfl) (Nat.le_of_ble_eq_true rfl) (Nat.le_of_ble_eq_true rfl) dX10_init_8 (fun q1 H hw => ?_)
  have hw : Wd D A s H locs ((q1, cI ca 200) :: ((h0, .inr (9, fs0_10)) :: ([]))) := hw
  refine k_putF F hin hAm hw 1 tyX10 tyX10_ok nmX10 rfl rfl 0 (Nat.le_of_ble_eq_true rfl) (TS_at (i := 875) (by decide +kernel) rfl) rfl rfl rfl ⟨rfl, rfl⟩ (Nat.le_of_ble_eq_true rfl) dX10_init_10 (fun H locs hw => ?_)
  have hw : Wd D A s H locs ((q1, cI ca 200) :: ((h0, .inr (9, [.ref q1, .int 0, .int 0, .int 0, .int 0, .int 0, .int 0, .int 0, .int 0, .null, .null, .null, .null, .null, .int 0, .null, .null, .null, .null, .null, .null, .null, .int 0, .null, .null, .null, .null])) :: ([]))) := hw
  have hw : Wd D A s H locs ((h0, .inr (9, [.ref q1, .int 0, .int 0, .int 0, .int 0, .int 0, .int 0, .int 0, .int 0, .null, .null, .null, .null, .null, .int 0, .null, .null, .null, .null, .null, .null, .null, .int 0, .null, .null, .null, .null])) :: (([]) ++ [(q1, cI ca 200)])) := Wd.comm (a := [(q1, cI ca 200)]) hw
  refine lv_aload_n hx hb dX10_init_13 rfl (lv_at hl 0 rfl) ?_
  refine lv_bipush (v := 48) hx hb dX10_init_14 (by decide) ?_
  refine k_newi F hAm hw (TS_at (i := 88) (by decide +kernel) rfl) (N := 48) (by decide) (by decide) (Nat.le_of_ble_eq_true rfl) (Nat.le_of_ble_eq_true rfl) (Nat.le_of_ble_eq_true rfl) dX10_init_16 (fun q2 H hw => ?_)
  have hw : Wd D A s H locs ((q2, cI ca 48) :: ((h0, .inr (9, [.ref q1, .int 0, .int 0, .int 0, .int 0, .int 0, .int 0, .int 0, .int 0, .null, .null, .null, .null, .null, .int 0, .null, .null, .null, .null, .null, .null, .null, .int 0, .null, .null, .null, .null])) :: (([]) ++ [(q1, cI ca 200)]))) := hw
  refine k_putF F hin hAm hw 1 tyX10 tyX10_ok nmX10 rfl rfl 9 (Nat.le_of_ble_eq_true rfl) (TS_at (i := 884) (by decide +kernel) rfl) rfl rfl rfl ⟨rfl, rfl⟩ (Nat.le_of_ble_eq_true rfl) dX10_init_18 (fun H locs hw => ?_)
  have hw : Wd D A s H locs ((q2, cI ca 48) :: ((h0, .inr (9, [.ref q1, .int 0, .int 0, .int 0, .int 0, .int 0, .int 0, .int 0, .int 0, .ref q2, .null, .null, .null, .null, .int 0, .null, .null, .null, .null, .null, .null, .null, .int 0, .null, .null, .null, .null])) :: (([]) ++ [(q1, cI ca 200)]))) := hw
  have hw : Wd D A s H locs ((h0, .inr (9, [.ref q1, .int 0, .int 0, .int 0, .int 0, .int 0, .int 0, .int 0, .int 0, .ref q2, .null, .null, .null, .null, .int 0, .null, .null, .null, .null, .null, .null, .null, .int 0, .null, .null, .null, .null])) :: ((([]) ++ [(q1, cI ca 200)]) ++ [(q2, cI ca 48)])) := Wd.comm (a := [(q2, cI ca 48)]) hw
  refine lv_aload_n hx hb dX10_init_21 rfl (lv_at hl 0 rfl) ?_
  refine lv_bipush (v := 48) hx hb dX10_init_22 (by decide) ?_
  refine k_newi F hAm hw (TS_at (i := 88) (by decide +kernel) rfl) (N := 48) (by decide) (by decide) (Nat.le_of_ble_eq_true rfl) (Nat.le_of_ble_eq_true rfl) (Nat.le_of_ble_eq_true rfl) dX10_init_24 (fun q3 H hw => ?_)
  have hw : Wd D A s H locs ((q3, cI ca 48) :: ((h0, .inr (9, [.ref q1, .int 0, .int 0, .int 0, .int 0, .int 0, .int 0, .int 0, .int 0, .ref q2, .null, .null, .null, .null, .int 0, .null, .null, .null, .null, .null, .null, .null, .int 0, .null, .null, .null, .null])) :: ((([]) ++ [(q1, cI ca 200)]) ++ [(q2, cI ca 48)]))) := hw
  refine k_putF F hin hAm hw 1 tyX10 tyX10_ok nmX10 rfl rfl 10 (Nat.le_of_ble_eq_true rfl) (TS_at (i := 885) (by decide +kernel) rfl) rfl rfl rfl ⟨rfl, rfl⟩ (Nat.le_of_ble_eq_true rfl) dX10_init_26 (fun H locs hw => ?_)
  have hw : Wd D A s H locs ((q3, cI ca 48) :: ((h0, .inr (9, [.ref q1, .int 0, .int 0, .int 0, .int 0, .int 0, .int 0, .int 0, .int 0, .ref q2, .ref q3, .null, .null, .null, .int 0, .null, .null, .null, .null, .null, .null, .null, .int 0, .null, .null, .null, .null])) :: ((([]) ++ [(q1, cI ca 200)]) ++ [(q2, cI ca 48)]))) := hw
  have hw : Wd D A s H locs ((h0, .inr (9, [.ref q1, .int 0, .int 0, .int 0, .int 0, .int 0, .int 0, .int 0, .int 0, .ref q2, .ref q3, .null, .null, .null, .int 0, .null, .null, .null, .null, .null, .null, .null, .int 0, .null, .null, .null, .null])) :: (((([]) ++ [(q1, cI ca 200)]) ++ [(q2, cI ca 48)]) ++ [(q3, cI ca 48)])) := Wd.comm (a := [(q3, cI ca 48)]) hw
  refine lv_aload_n hx hb dX10_init_29 rfl (lv_at hl 0 rfl) ?_
  refine lv_bipush (v := 48) hx hb dX10_init_30 (by decide) ?_
  refine k_newi F hAm hw (TS_at (i := 88) (by decide +kernel) rfl) (N := 48) (by decide) (by decide) (Nat.le_of_ble_eq_true rfl) (Nat.le_of_ble_eq_true rfl) (Nat.le_of_ble_eq_true rfl) dX10_init_32 (fun q4 H hw => ?_)
  have hw : Wd D A s H locs ((q4, cI ca 48) :: ((h0, .inr (9, [.ref q1, .int 0, .int 0, .int 0, .int 0, .int 0, .int 0, .int 0, .int 0, .ref q2, .ref q3, .null, .null, .null, .int 0, .null, .null, .null, .null, .null, .null, .null, .int 0, .null, .null, .null, .null])) :: (((([]) ++ [(q1, cI ca 200)]) ++ [(q2, cI ca 48)]) ++ [(q3, cI ca 48)]))) := hw
  refine k_putF F hin hAm hw 1 tyX10 tyX10_ok nmX10 rfl rfl 11 (Nat.le_of_ble_eq_true rfl) (TS_at (i := 886) (by decide +kernel) rfl) rfl rfl rfl ⟨rfl, rfl⟩ (Nat.le_of_ble_eq_true rfl) dX10_init_34 (fun H locs hw => ?_)
  have hw : Wd D A s H locs ((q4, cI ca 48) :: ((h0, .inr (9, [.ref q1, .int 0, .int 0, .int 0, .int 0, .int 0, .int 0, .int 0, .int 0, .ref q2, .ref q3, .ref q4, .null, .null, .int 0, .null, .null, .null, .null, .null, .null, .null, .int 0, .null, .null, .null, .null])) :: (((([]) ++ [(q1, cI ca 200)]) ++ [(q2, cI ca 48)]) ++ [(q3, cI ca 48)]))) := hw
  have hw : Wd D A s H locs ((h0, .inr (9, [.ref q1, .int 0, .int 0, .int 0, .int 0, .int 0, .int 0, .int 0, .int 0, .ref q2, .ref q3, .ref q4, .null, .null, .int 0, .null, .null, .null, .null, .null, .null, .null, .int 0, .null, .null, .null, .null])) :: ((((([]) ++ [(q1, cI ca 200)]) ++ [(q2, cI ca 48)]) ++ [(q3, cI ca 48)]) ++ [(q4, cI ca 48)])) := Wd.comm (a := [(q4, cI ca 48)]) hw
  refine lv_aload_n hx hb dX10_init_37 rfl (lv_at hl 0 rfl) ?_
  refine lv_bipush (v := 48) hx hb dX10_init_38 (by decide) ?_
  refine k_newi F hAm hw (TS_at (i := 88) (by decide +kernel) rfl) (N := 48) (by decide) (by decide) (Nat.le_of_ble_eq_true rfl) (Nat.le_of_ble_eq_true rfl) (Nat.le_of_ble_eq_true rfl) dX10_init_40 (fun q5 H hw => ?_)
  have hw : Wd D A s H locs ((q5, cI ca 48) :: ((h0, .inr (9, [.ref q1, .int 0, .int 0, .int 0, .int 0, .int 0, .int 0, .int 0, .int 0, .ref q2, .ref q3, .ref q4, .null, .null, .int 0, .null, .null, .null, .null, .null, .null, .null, .int 0, .null, .null, .null, .null])) :: ((((([]) ++ [(q1, cI ca 200)]) ++ [(q2, cI ca 48)]) ++ [(q3, cI ca 48)]) ++ [(q4, cI ca 48)]))) := hw
  refine k_putF F hin hAm hw 1 tyX10 tyX10_ok nmX10 rfl rfl 12 (Nat.le_of_ble_eq_true rfl) (TS_at (i := 887) (by decide +kernel) rfl) rfl rfl rfl ⟨rfl, rfl⟩ (Nat.le_of_ble_eq_true rfl) dX10_init_42 (fun H locs hw => ?_)
  have hw : Wd D A s H locs ((q5, cI ca 48) :: ((h0, .inr (9, [.ref q1, .int 0, .int 0, .int 0, .int 0, .int 0, .int 0, .int 0, .int 0, .ref q2, .ref q3, .ref q4, .ref q5, .null, .int 0, .null, .null, .null, .null, .null, .null, .null, .int 0, .null, .null, .null, .null])) :: ((((([]) ++ [(q1, cI ca 200)]) ++ [(q2, cI ca 48)]) ++ [(q3, cI ca 48)]) ++ [(q4, cI ca 48)]))) := hw
  have hw : Wd D A s H locs ((h0, .inr (9, [.ref q1, .int 0, .int 0, .int 0, .int 0, .int 0, .int 0, .int 0, .int 0, .ref q2, .ref q3, .ref q4, .ref q5, .null, .int 0, .null, .null, .null, .null, .null, .null, .null, .int 0, .null, .null, .null, .null])) :: (((((([]) ++ [(q1, cI ca 200)]) ++ [(q2, cI ca 48)]) ++ [(q3, cI ca 48)]) ++ [(q4, cI ca 48)]) ++ [(q5, cI ca 48)])) := Wd.comm (a := [(q5, cI ca 48)]) hw
  refine lv_aload_n hx hb dX10_init_45 rfl (lv_at hl 0 rfl) ?_
  refine lv_sipush (v := 384) hx hb dX10_init_46 (by decide) ?_
  refine k_newi F hAm hw (TS_at (i := 88) (by decide +kernel) rfl) (N := 384) (by decide) (by decide) (Nat.le_of_ble_eq_true rfl) (Nat.le_of_ble_eq_true rfl) (Nat.le_of_ble_eq_true rfl) dX10_init_49 (fun q6 H hw => ?_)
  have hw : Wd D A s H locs ((q6, cI ca 384) :: ((h0, .inr (9, [.ref q1, .int 0, .int 0, .int 0, .int 0, .int 0, .int 0, .int 0, .int 0, .ref q2, .ref q3, .ref q4, .ref q5, .null, .int 0, .null, .null, .null, .null, .null, .null, .null, .int 0, .null, .null, .null, .null])) :: (((((([]) ++ [(q1, cI ca 200)]) ++ [(q2, cI ca 48)]) ++ [(q3, cI ca 48)]) ++ [(q4, cI ca 48)]) ++ [(q5, cI ca 48)]))) := hw
  refine k_putF F hin hAm hw 1 tyX10 tyX10_ok nmX10 rfl rfl 13 (Nat.le_of_ble_eq_true rfl) (TS_at (i := 888) (by decide +kernel) rfl) rfl rfl rfl ⟨rfl, rfl⟩ (Nat.le_of_ble_eq_true rfl) dX10_init_51 (fun H locs hw => ?_)
  have hw : Wd D A s H locs ((q6, cI ca 384) :: ((h0, .inr (9, [.ref q1, .int 0, .int 0, .int 0, .int 0, .int 0, .int 0, .int 0, .int 0, .ref q2, .ref q3, .ref q4, .ref q5, .ref q6, .int 0, .null, .null, .null, .null, .null, .null, .null, .int 0, .null, .null, .null, .null])) :: (((((([]) ++ [(q1, cI ca 200)]) ++ [(q2, cI ca 48)]) ++ [(q3, cI ca 48)]) ++ [(q4, cI ca 48)]) ++ [(q5, cI ca 48)]))) := hw
  have hw : Wd D A s H locs ((h0, .inr (9, [.ref q1, .int 0, .int 0, .int 0, .int 0, .int 0, .int 0, .int 0, .int 0, .ref q2, .ref q3, .ref q4, .ref q5, .ref q6, .int 0, .null, .null, .null, .null, .null, .null, .null, .int 0, .null, .null, .null, .null])) :: ((((((([]) ++ [(q1, cI ca 200)]) ++ [(q2, cI ca 48)]) ++ [(q3, cI ca 48)]) ++ [(q4, cI ca 48)]) ++ [(q5, cI ca 48)]) ++ [(q6, cI ca 384)])) := Wd.comm (a := [(q6, cI ca 384)]) hw
  refine lv_aload_n hx hb dX10_init_54 rfl (lv_at hl 0 rfl) ?_
  refine lv_bipush (v := 96) hx hb dX10_init_55 (by decide) ?_
  refine k_newi F hAm hw (TS_at (i := 88) (by decide +kernel) rfl) (N := 96) (by decide) (by decide) (Nat.le_of_ble_eq_true rfl) (Nat.le_of_ble_eq_true rfl) (Nat.le_of_ble_eq_true rfl) dX10_init_57 (fun q7 H hw => ?_)
  have hw : Wd D A s H locs ((q7, cI ca 96) :: ((h0, .inr (9, [.ref q1, .int 0, .int 0, .int 0, .int 0, .int 0, .int 0, .int 0, .int 0, .ref q2, .ref q3, .ref q4, .ref q5, .ref q6, .int 0, .null, .null, .null, .null, .null, .null, .null, .int 0, .null, .null, .null, .null])) :: ((((((([]) ++ [(q1, cI ca 200)]) ++ [(q2, cI ca 48)]) ++ [(q3, cI ca 48)]) ++ [(q4, cI ca 48)]) ++ [(q5, cI ca 48)]) ++ [(q6, cI ca 384)]))) := hw
  refine k_putF F hin hAm hw 1 tyX10 tyX10_ok nmX10 rfl rfl 15 (Nat.le_of_ble_eq_true rfl) (TS_at (i := 890) (by decide +kernel) rfl) rfl rfl rfl ⟨rfl, rfl⟩ (Nat.le_of_ble_eq_true rfl) dX10_init_59 (fun H locs hw => ?_)
  have hw : Wd D A s H locs ((q7, cI ca 96) :: ((h0, .inr (9, [.ref q1, .int 0, .int 0, .int 0, .int 0, .int 0, .int 0, .int 0, .int 0, .ref q2, .ref q3, .ref q4, .ref q5, .ref q6, .int 0, .ref q7, .null, .null, .null, .null, .null, .null, .int 0, .null, .null, .null, .null])) :: ((((((([]) ++ [(q1, cI ca 200)]) ++ [(q2, cI ca 48)]) ++ [(q3, cI ca 48)]) ++ [(q4, cI ca 48)]) ++ [(q5, cI ca 48)]) ++ [(q6, cI ca 384)]))) := hw
  have hw : Wd D A s H locs ((h0, .inr (9, [.ref q1, .int 0, .int 0, .int 0, .int 0, .int 0, .int 0, .int 0, .int 0, .ref q2, .ref q3, .ref q4, .ref q5, .ref q6, .int 0, .ref q7, .null, .null, .null, .null, .null, .null, .int 0, .null, .null, .null, .null])) :: (((((((([]) ++ [(q1, cI ca 200)]) ++ [(q2, cI ca 48)]) ++ [(q3, cI ca 48)]) ++ [(q4, cI ca 48)]) ++ [(q5, cI ca 48)]) ++ [(q6, cI ca 384)]) ++ [(q7, cI ca 96)])) := Wd.comm (a := [(q7, cI ca 96)]) hw
  refine lv_aload_n hx hb dX10_init_62 rfl (lv_at hl 0 rfl) ?_
  refine lv_iconst (v := 2) hx hb dX10_init_63 (by decide) ?_
  refine k_newz F hAm hw (TS_at (i := 210) (by decide +kernel) rfl) (N := 2) (by decide) (by decide) (Nat.le_of_ble_eq_true rfl) (Nat.le_of_ble_eq_true rfl) (Nat.le_of_ble_eq_true rfl) dX10_init_64 (fun q8 H hw => ?_)
  have hw : Wd D A s H locs ((q8, cZ ca 2) :: ((h0, .inr (9, [.ref q1, .int 0, .int 0, .int 0, .int 0, .int 0, .int 0, .int 0, .int 0, .ref q2, .ref q3, .ref q4, .ref q5, .ref q6, .int 0, .ref q7, .null, .null, .null, .null, .null, .null, .int 0, .null, .null, .null, .null])) :: (((((((([]) ++ [(q1, cI ca 200)]) ++ [(q2, cI ca 48)]) ++ [(q3, cI ca 48)]) ++ [(q4, cI ca 48)]) ++ [(q5, cI ca 48)]) ++ [(q6, cI ca 384)]) ++ [(q7, cI ca 96)]))) := hw
  refine k_putF F hin hAm hw 1 tyX10 tyX10_ok nmX10 rfl rfl 16 (Nat.le_of_ble_eq_true rfl) (TS_at (i := 891) (by decide +kernel) rfl) rfl rfl rfl ⟨rfl, rfl⟩ (Nat.le_of_ble_eq_true rfl) dX10_init_66 (fun H locs hw => ?_)
  have hw : Wd D A s H locs ((q8, cZ ca 2) :: ((h0, .inr (9, [.ref q1, .int 0, .int 0, .int 0, .int 0, .int 0, .int 0, .int 0, .int 0, .ref q2, .ref q3, .ref q4, .ref q5, .ref q6, .int 0, .ref q7, .ref q8, .null, .null, .null, .null, .null, .int 0, .null, .null, .null, .null])) :: (((((((([]) ++ [(q1, cI ca 200)]) ++ [(q2, cI ca 48)]) ++ [(q3, cI ca 48)]) ++ [(q4, cI ca 48)]) ++ [(q5, cI ca 48)]) ++ [(q6, cI ca 384)]) ++ [(q7, cI ca 96)]))) := hw
  have hw : Wd D A s H locs ((h0, .inr (9, [.ref q1, .int 0, .int 0, .int 0, .int 0, .int 0, .int 0, .int 0, .int 0, .ref q2, .ref q3, .ref q4, .ref q5, .ref q6, .int 0, .ref q7, .ref q8, .null, .null, .null, .null, .null, .int 0, .null, .null, .null, .null])) :: ((((((((([]) ++ [(q1, cI ca 200)]) ++ [(q2, cI ca 48)]) ++ [(q3, cI ca 48)]) ++ [(q4, cI ca 48)]) ++ [(q5, cI ca 48)]) ++ [(q6, cI ca 384)]) ++ [(q7, cI ca 96)]) ++ [(q8, cZ ca 2)])) := Wd.comm (a := [(q8, cZ ca 2)]) hw
  refine lv_aload_n hx hb dX10_init_69 rfl (lv_at hl 0 rfl) ?_
  refine lv_bipush (v := 7) hx hb dX10_init_70 (by decide) ?_
  refine k_newi F hAm hw (TS_at (i := 88) (by decide +kernel) rfl) (N := 7) (by decide) (by decide) (Nat.le_of_ble_eq_true rfl) (Nat.le_of_ble_eq_true rfl) (Nat.le_of_ble_eq_true rfl) dX10_init_72 (fun q9 H hw => ?_)
  have hw : Wd D A s H locs ((q9, cI ca 7) :: ((h0, .inr (9, [.ref q1, .int 0, .int 0, .int 0, .int 0, .int 0, .int 0, .int 0, .int 0, .ref q2, .ref q3, .ref q4, .ref q5, .ref q6, .int 0, .ref q7, .ref q8, .null, .null, .null, .null, .null, .int 0, .null, .null, .null, .null])) :: ((((((((([]) ++ [(q1, cI ca 200)]) ++ [(q2, cI ca 48)]) ++ [(q3, cI ca 48)]) ++ [(q4, cI ca 48)]) ++ [(q5, cI ca 48)]) ++ [(q6, cI ca 384)]) ++ [(q7, cI ca 96)]) ++ [(q8, cZ ca 2)]))) := hw
  refine k_putF F hin hAm hw 1 tyX10 tyX10_ok nmX10 rfl rfl 17 (Nat.le_of_ble_eq_true rfl) (TS_at (i := 892) (by decide +kernel) rfl) rfl rfl rfl ⟨rfl, rfl⟩ (Nat.le_of_ble_eq_true rfl) dX10_init_74 (fun H locs hw => ?_)
  have hw : Wd D A s H locs ((q9, cI ca 7) :: ((h0, .inr (9, [.ref q1, .int 0, .int 0, .int 0, .int 0, .int 0, .int 0, .int 0, .int 0, .ref q2, .ref q3, .ref q4, .ref q5, .ref q6, .int 0, .ref q7, .ref q8, .ref q9, .null, .null, .null, .null, .int 0, .null, .null, .null, .null])) :: ((((((((([]) ++ [(q1, cI ca 200)]) ++ [(q2, cI ca 48)]) ++ [(q3, cI ca 48)]) ++ [(q4, cI ca 48)]) ++ [(q5, cI ca 48)]) ++ [(q6, cI ca 384)]) ++ [(q7, cI ca 96)]) ++ [(q8, cZ ca 2)]))) := hw
  have hw : Wd D A s H locs ((h0, .inr (9, [.ref q1, .int 0, .int 0, .int 0, .int 0, .int 0, .int 0, .int 0, .int 0, .ref q2, .ref q3, .ref q4, .ref q5, .ref q6, .int 0, .ref q7, .ref q8, .ref q9, .null, .null, .null, .null, .int 0, .null, .null, .null, .null])) :: (((((((((([]) ++ [(q1, cI ca 200)]) ++ [(q2, cI ca 48)]) ++ [(q3, cI ca 48)]) ++ [(q4, cI ca 48)]) ++ [(q5, cI ca 48)]) ++ [(q6, cI ca 384)]) ++ [(q7, cI ca 96)]) ++ [(q8, cZ ca 2)]) ++ [(q9, cI ca 7)])) := Wd.comm (a := [(q9, cI ca 7)]) hw
  refine lv_aload_n hx hb dX10_init_77 rfl (lv_at hl 0 rfl) ?_
  refine lv_bipush (v := 6) hx hb dX10_init_78 (by decide) ?_
  refine k_newi F hAm hw (TS_at (i := 88) (by decide +kernel) rfl) (N := 6) (by decide) (by decide) (Nat.le_of_ble_eq_true rfl) (Nat.le_of_ble_eq_true rfl) (Nat.le_of_ble_eq_true rfl) dX10_init_80 (fun q10 H hw => ?_)
  have hw : Wd D A s H locs ((q10, cI ca 6) :: ((h0, .inr (9, [.ref q1, .int 0, .int 0, .int 0, .int 0, .int 0, .int 0, .int 0, .int 0, .ref q2, .ref q3, .ref q4, .ref q5, .ref q6, .int 0, .ref q7, .ref q8, .ref q9, .null, .null, .null, .null, .int 0, .null, .null, .null, .null])) :: (((((((((([]) ++ [(q1, cI ca 200)]) ++ [(q2, cI ca 48)]) ++ [(q3, cI ca 48)]) ++ [(q4, cI ca 48)]) ++ [(q5, cI ca 48)]) ++ [(q6, cI ca 384)]) ++ [(q7, cI ca 96)]) ++ [(q8, cZ ca 2)]) ++ [(q9, cI ca 7)]))) := hw
  refine k_putF F hin hAm hw 1 tyX10 tyX10_ok nmX10 rfl rfl 18 (Nat.le_of_ble_eq_true rfl) (TS_at (i := 893) (by decide +kernel) rfl) rfl rfl rfl ⟨rfl, rfl⟩ (Nat.le_of_ble_eq_true rfl) dX10_init_82 (fun H locs hw => ?_)
  have hw : Wd D A s H locs ((q10, cI ca 6) :: ((h0, .inr (9, [.ref q1, .int 0, .int 0, .int 0, .int 0, .int 0, .int 0, .int 0, .int 0, .ref q2, .ref q3, .ref q4, .ref q5, .ref q6, .int 0, .ref q7, .ref q8, .ref q9, .ref q10, .null, .null, .null, .int 0, .null, .null, .null, .null])) :: (((((((((([]) ++ [(q1, cI ca 200)]) ++ [(q2, cI ca 48)]) ++ [(q3, cI ca 48)]) ++ [(q4, cI ca 48)]) ++ [(q5, cI ca 48)]) ++ [(q6, cI ca 384)]) ++ [(q7, cI ca 96)]) ++ [(q8, cZ ca 2)]) ++ [(q9, cI ca 7)]))) := hw
  have hw : Wd D A s H locs ((h0, .inr (9, [.ref q1, .int 0, .int 0, .int 0, .int 0, .int 0, .int 0, .int 0, .int 0, .ref q2, .ref q3, .ref q4, .ref q5, .ref q6, .int 0, .ref q7, .ref q8, .ref q9, .ref q10, .null, .null, .null, .int 0, .null, .null, .null, .null])) :: ((((((((((([]) ++ [(q1, cI ca 200)]) ++ [(q2, cI ca 48)]) ++ [(q3, cI ca 48)]) ++ [(q4, cI ca 48)]) ++ [(q5, cI ca 48)]) ++ [(q6, cI ca 384)]) ++ [(q7, cI ca 96)]) ++ [(q8, cZ ca 2)]) ++ [(q9, cI ca 7)]) ++ [(q10, cI ca 6)])) := Wd.comm (a := [(q10, cI ca 6)]) hw
  refine lv_aload_n hx hb dX10_init_85 rfl (lv_at hl 0 rfl) ?_
  refine lv_bipush (v := 6) hx hb dX10_init_86 (by decide) ?_
  refine k_newi F hAm hw (TS_at (i := 88) (by decide +kernel) rfl) (N := 6) (by decide) (by decide) (Nat.le_of_ble_eq_true rfl) (Nat.le_of_ble_eq_true rfl) (Nat.le_of_ble_eq_true rfl) dX10_init_88 (fun q11 H hw => ?_)
  have hw : Wd D A s H locs ((q11, cI ca 6) :: ((h0, .inr (9, [.ref q1, .int 0, .int 0, .int 0, .int 0, .int 0, .int 0, .int 0, .int 0, .ref q2, .ref q3, .ref q4, .ref q5, .ref q6, .int 0, .ref q7, .ref q8, .ref q9, .ref q10, .null, .null, .null, .int 0, .null, .null, .null, .null])) :: ((((((((((([]) ++ [(q1, cI ca 200)]) ++ [(q2, cI ca 48)]) ++ [(q3, cI ca 48)]) ++ [(q4, cI ca 48)]) ++ [(q5, cI ca 48)]) ++ [(q6, cI ca 384)]) ++ [(q7, cI ca 96)]) ++ [(q8, cZ ca 2)]) ++ [(q9, cI ca 7)]) ++ [(q10, cI ca 6)]))) := hw
  refine k_putF F hin hAm hw 1 tyX10 tyX10_ok nmX10 rfl rfl 19 (Nat.le_of_ble_eq_true rfl) (TS_at (i := 894) (by decide +kernel) rfl) rfl rfl rfl ⟨rfl, rfl⟩ (Nat.le_of_ble_eq_true rfl) dX10_init_90 (fun H locs hw => ?_)
  have hw : Wd D A s H locs ((q11, cI ca 6) :: ((h0, .inr (9, [.ref q1, .int 0, .int 0, .int 0, .int 0, .int 0, .int 0, .int 0, .int 0, .ref q2, .ref q3, .ref q4, .ref q5, .ref q6, .int 0, .ref q7, .ref q8, .ref q9, .ref q10, .ref q11, .null, .null, .int 0, .null, .null, .null, .null])) :: ((((((((((([]) ++ [(q1, cI ca 200)]) ++ [(q2, cI ca 48)]) ++ [(q3, cI ca 48)]) ++ [(q4, cI ca 48)]) ++ [(q5, cI ca 48)]) ++ [(q6, cI ca 384)]) ++ [(q7, cI ca 96)]) ++ [(q8, cZ ca 2)]) ++ [(q9, cI ca 7)]) ++ [(q10, cI ca 6)]))) := hw
  have hw : Wd D A s H locs ((h0, .inr (9, [.ref q1, .int 0, .int 0, .int 0, .int 0, .int 0, .int 0, .int 0, .int 0, .ref q2, .ref q3, .ref q4, .ref q5, .ref q6, .int 0, .ref q7, .ref q8, .ref q9, .ref q10, .ref q11, .null, .null, .int 0, .null, .null, .null, .null])) :: (((((((((((([]) ++ [(q1, cI ca 200)]) ++ [(q2, cI ca 48)]) ++ [(q3, cI ca 48)]) ++ [(q4, cI ca 48)]) ++ [(q5, cI ca 48)]) ++ [(q6, cI ca 384)]) ++ [(q7, cI ca 96)]) ++ [(q8, cZ ca 2)]) ++ [(q9, cI ca 7)]) ++ [(q10, cI ca 6)]) ++ [(q11, cI ca 6)])) := Wd.comm (a := [(q11, cI ca 6)]) hw
  refine lv_aload_n hx hb dX10_init_93 rfl (lv_at hl 0 rfl) ?_
  refine lv_bipush (v := 6) hx hb dX10_init_94 (by decide) ?_
  refine k_newi F hAm hw (TS_at (i := 88) (by decide +kernel) rfl) (N := 6) (by decide) (by decide) (Nat.le_of_ble_eq_true rfl) (Nat.le_of_ble_eq_true rfl) (Nat.le_of_ble_eq_true rfl) dX10_init_96 (fun q12 H hw => ?_)
  have hw : Wd D A s H locs ((q12, cI ca 6) :: ((h0, .inr (9, [.ref q1, .int 0, .int 0, .int 0, .int 0, .int 0, .int 0, .int 0, .int 0, .ref q2, .ref q3, .ref q4, .ref q5, .ref q6, .int 0, .ref q7, .ref q8, .ref q9, .ref q10, .ref q11, .null, .null, .int 0, .null, .null, .null, .null])) :: (((((((((((([]) ++ [(q1, cI ca 200)]) ++ [(q2, cI ca 48)]) ++ [(q3, cI ca 48)]) ++ [(q4, cI ca 48)]) ++ [(q5, cI ca 48)]) ++ [(q6, cI ca 384)]) ++ [(q7, cI ca 96)]) ++ [(q8, cZ ca 2)]) ++ [(q9, cI ca 7)]) ++ [(q10, cI ca 6)]) ++ [(q11, cI ca 6)]))) := hw
  refine k_putF F hin hAm hw 1 tyX10 tyX10_ok nmX10 rfl rfl 20 (Nat.le_of_ble_eq_true rfl) (TS_at (i := 895) (by decide +kernel) rfl) rfl rfl rfl ⟨rfl, rfl⟩ (Nat.le_of_ble_eq_true rfl) dX10_init_98 (fun H locs hw => ?_)
  have hw : Wd D A s H locs ((q12, cI ca 6) :: ((h0, .inr (9, [.ref q1, .int 0, .int 0, .int 0, .int 0, .int 0, .int 0, .int 0, .int 0, .ref q2, .ref q3, .ref q4, .ref q5, .ref q6, .int 0, .ref q7, .ref q8, .ref q9, .ref q10, .ref q11, .ref q12, .null, .int 0, .null, .null, .null, .null])) :: (((((((((((([]) ++ [(q1, cI ca 200)]) ++ [(q2, cI ca 48)]) ++ [(q3, cI ca 48)]) ++ [(q4, cI ca 48)]) ++ [(q5, cI ca 48)]) ++ [(q6, cI ca 384)]) ++ [(q7, cI ca 96)]) ++ [(q8, cZ ca 2)]) ++ [(q9, cI ca 7)]) ++ [(q10, cI ca 6)]) ++ [(q11, cI ca 6)]))) := hw
  have hw : Wd D A s H locs ((h0, .inr (9, [.ref q1, .int 0, .int 0, .int 0, .int 0, .int 0, .int 0, .int 0, .int 0, .ref q2, .ref q3, .ref q4, .ref q5, .ref q6, .int 0, .ref q7, .ref q8, .ref q9, .ref q10, .ref q11, .ref q12, .null, .int 0, .null, .null, .null, .null])) :: ((((((((((((([]) ++ [(q1, cI ca 200)]) ++ [(q2, cI ca 48)]) ++ [(q3, cI ca 48)]) ++ [(q4, cI ca 48)]) ++ [(q5, cI ca 48)]) ++ [(q6, cI ca 384)]) ++ [(q7, cI ca 96)]) ++ [(q8, cZ ca 2)]) ++ [(q9, cI ca 7)]) ++ [(q10, cI ca 6)]) ++ [(q11, cI ca 6)]) ++ [(q12, cI ca 6)])) := Wd.comm (a := [(q12, cI ca 6)]) hw
  refine lv_aload_n hx hb dX10_init_101 rfl (lv_at hl 0 rfl) ?_
  refine lv_bipush (v := 18) hx hb dX10_init_102 (by decide) ?_
  refine k_newi F hAm hw (TS_at (i := 88) (by decide +kernel) rfl) (N := 18) (by decide) (by decide) (Nat.le_of_ble_eq_true rfl) (Nat.le_of_ble_eq_true rfl) (Nat.le_of_ble_eq_true rfl) dX10_init_104 (fun q13 H hw => ?_)
  have hw : Wd D A s H locs ((q13, cI ca 18) :: ((h0, .inr (9, [.ref q1, .int 0, .int 0, .int 0, .int 0, .int 0, .int 0, .int 0, .int 0, .ref q2, .ref q3, .ref q4, .ref q5, .ref q6, .int 0, .ref q7, .ref q8, .ref q9, .ref q10, .ref q11, .ref q12, .null, .int 0, .null, .null, .null, .null])) :: ((((((((((((([]) ++ [(q1, cI ca 200)]) ++ [(q2, cI ca 48)]) ++ [(q3, cI ca 48)]) ++ [(q4, cI ca 48)]) ++ [(q5, cI ca 48)]) ++ [(q6, cI ca 384)]) ++ [(q7, cI ca 96)]) ++ [(q8, cZ ca 2)]) ++ [(q9, cI ca 7)]) ++ [(q10, cI ca 6)]) ++ [(q11, cI ca 6)]) ++ [(q12, cI ca 6)]))) := hw
  refine k_putF F hin hAm hw 1 tyX10 tyX10_ok nmX10 rfl rfl 21 (Nat.le_of_ble_eq_true rfl) (TS_at (i := 896) (by decide +kernel) rfl) rfl rfl rfl ⟨rfl, rfl⟩ (Nat.le_of_ble_eq_true rfl) dX10_init_106 (fun H locs hw => ?_)
  have hw : Wd D A s H locs ((q13, cI ca 18) :: ((h0, .inr (9, [.ref q1, .int 0, .int 0, .int 0, .int 0, .int 0, .int 0, .int 0, .int 0, .ref q2, .ref q3, .ref q4, .ref q5, .ref q6, .int 0, .ref q7, .ref q8, .ref q9, .ref q10, .ref q11, .ref q12, .ref q13, .int 0, .null, .null, .null, .null])) :: ((((((((((((([]) ++ [(q1, cI ca 200)]) ++ [(q2, cI ca 48)]) ++ [(q3, cI ca 48)]) ++ [(q4, cI ca 48)]) ++ [(q5, cI ca 48)]) ++ [(q6, cI ca 384)]) ++ [(q7, cI ca 96)]) ++ [(q8, cZ ca 2)]) ++ [(q9, cI ca 7)]) ++ [(q10, cI ca 6)]) ++ [(q11, cI ca 6)]) ++ [(q12, cI ca 6)]))) := hw
  have hw : Wd D A s H locs ((h0, .inr (9, [.ref q1, .int 0, .int 0, .int 0, .int 0, .int 0, .int 0, .int 0, .int 0, .ref q2, .ref q3, .ref q4, .ref q5, .ref q6, .int 0, .ref q7, .ref q8, .ref q9, .ref q10, .ref q11, .ref q12, .ref q13, .int 0, .null, .null, .null, .null])) :: (((((((((((((([]) ++ [(q1, cI ca 200)]) ++ [(q2, cI ca 48)]) ++ [(q3, cI ca 48)]) ++ [(q4, cI ca 48)]) ++ [(q5, cI ca 48)]) ++ [(q6, cI ca 384)]) ++ [(q7, cI ca 96)]) ++ [(q8, cZ ca 2)]) ++ [(q9, cI ca 7)]) ++ [(q10, cI ca 6)]) ++ [(q11, cI ca 6)]) ++ [(q12, cI ca 6)]) ++ [(q13, cI ca 18)])) := Wd.comm (a := [(q13, cI ca 18)]) hw
  refine lv_aload_n hx hb dX10_init_109 rfl (lv_at hl 0 rfl) ?_
  refine lv_iconst (v := 3) hx hb dX10_init_110 (by decide) ?_
  refine k_newi F hAm hw (TS_at (i := 88) (by decide +kernel) rfl) (N := 3) (by decide) (by decide) (Nat.le_of_ble_eq_true rfl) (Nat.le_of_ble_eq_true rfl) (Nat.le_of_ble_eq_true rfl) dX10_init_111 (fun q14 H hw => ?_)
  have hw : Wd D A s H locs ((q14, cI ca 3) :: ((h0, .inr (9, [.ref q1, .int 0, .int 0, .int 0, .int 0, .int 0, .int 0, .int 0, .int 0, .ref q2, .ref q3, .ref q4, .ref q5, .ref q6, .int 0, .ref q7, .ref q8, .ref q9, .ref q10, .ref q11, .ref q12, .ref q13, .int 0, .null, .null, .null, .null])) :: (((((((((((((([]) ++ [(q1, cI ca 200)]) ++ [(q2, cI ca 48)]) ++ [(q3, cI ca 48)]) ++ [(q4, cI ca 48)]) ++ [(q5, cI ca 48)]) ++ [(q6, cI ca 384)]) ++ [(q7, cI ca 96)]) ++ [(q8, cZ ca 2)]) ++ [(q9, cI ca 7)]) ++ [(q10, cI ca 6)]) ++ [(q11, cI ca 6)]) ++ [(q12, cI ca 6)]) ++ [(q13, cI ca 18)]))) := hw
  refine k_putF F hin hAm hw 1 tyX10 tyX10_ok nmX10 rfl rfl 23 (Nat.le_of_ble_eq_true rfl) (TS_at (i := 898) (by decide +kernel) rfl) rfl rfl rfl ⟨rfl, rfl⟩ (Nat.le_of_ble_eq_true rfl) dX10_init_113 (fun H locs hw => ?_)
  have hw : Wd D A s H locs ((q14, cI ca 3) :: ((h0, .inr (9, [.ref q1, .int 0, .int 0, .int 0, .int 0, .int 0, .int 0, .int 0, .int 0, .ref q2, .ref q3, .ref q4, .ref q5, .ref q6, .int 0, .ref q7, .ref q8, .ref q9, .ref q10, .ref q11, .ref q12, .ref q13, .int 0, .ref q14, .null, .null, .null])) :: (((((((((((((([]) ++ [(q1, cI ca 200)]) ++ [(q2, cI ca 48)]) ++ [(q3, cI ca 48)]) ++ [(q4, cI ca 48)]) ++ [(q5, cI ca 48)]) ++ [(q6, cI ca 384)]) ++ [(q7, cI ca 96)]) ++ [(q8, cZ ca 2)]) ++ [(q9, cI ca 7)]) ++ [(q10, cI ca 6)]) ++ [(q11, cI ca 6)]) ++ [(q12, cI ca 6)]) ++ [(q13, cI ca 18)]))) := hw
  refine lv_aload_n hx hb dX10_init_116 rfl (lv_at hl 0 rfl) ?_
  refine lv_iconst (v := 3) hx hb dX10_init_117 (by decide) ?_
  refine k_newi F hAm hw (TS_at (i := 88) (by decide +kernel) rfl) (N := 3) (by decide) (by decide) (Nat.le_of_ble_eq_true rfl) (Nat.le_of_ble_eq_true rfl) (Nat.le_of_ble_eq_true rfl) dX10_init_118 (fun q15 H hw => ?_)
  have hw : Wd D A s H locs ((q15, cI ca 3) :: ((q14, cI ca 3) :: ((h0, .inr (9, [.ref q1, .int 0, .int 0, .int 0, .int 0, .int 0, .int 0, .int 0, .int 0, .ref q2, .ref q3, .ref q4, .ref q5, .ref q6, .int 0, .ref q7, .ref q8, .ref q9, .ref q10, .ref q11, .ref q12, .ref q13, .int 0, .ref q14, .null, .null, .null])) :: (((((((((((((([]) ++ [(q1, cI ca 200)]) ++ [(q2, cI ca 48)]) ++ [(q3, cI ca 48)]) ++ [(q4, cI ca 48)]) ++ [(q5, cI ca 48)]) ++ [(q6, cI ca 384)]) ++ [(q7, cI ca 96)]) ++ [(q8, cZ ca 2)]) ++ [(q9, cI ca 7)]) ++ [(q10, cI ca 6)]) ++ [(q11, cI ca 6)]) ++ [(q12, cI ca 6)]) ++ [(q13, cI ca 18)])))) := hw
  refine k_putF F hin hAm hw 2 tyX10 tyX10_ok nmX10 rfl rfl 24 (Nat.le_of_ble_eq_true rfl) (TS_at (i := 899) (by decide +kernel) rfl) rfl rfl rfl ⟨rfl, rfl⟩ (Nat.le_of_ble_eq_true rfl) dX10_init_120 (fun H locs hw => ?_)
  have hw : Wd D A s H locs ((q15, cI ca 3) :: ((q14, cI ca 3) :: ((h0, .inr (9, [.ref q1, .int 0, .int 0, .int 0, .int 0, .int 0, .int 0, .int 0, .int 0, .ref q2, .ref q3, .ref q4, .ref q5, .ref q6, .int 0, .ref q7, .ref q8, .ref q9, .ref q10, .ref q11, .ref q12, .ref q13, .int 0, .ref q14, .ref q15, .null, .null])) :: (((((((((((((([]) ++ [(q1, cI ca 200)]) ++ [(q2, cI ca 48)]) ++ [(q3, cI ca 48)]) ++ [(q4, cI ca 48)]) ++ [(q5, cI ca 48)]) ++ [(q6, cI ca 384)]) ++ [(q7, cI ca 96)]) ++ [(q8, cZ ca 2)]) ++ [(q9, cI ca 7)]) ++ [(q10, cI ca 6)]) ++ [(q11, cI ca 6)]) ++ [(q12, cI ca 6)]) ++ [(q13, cI ca 18)])))) := hw
  refine lv_aload_n hx hb dX10_init_123 rfl (lv_at hl 0 rfl) ?_
  refine lv_bipush (v := 27) hx hb dX10_init_124 (by decide) ?_
  refine k_newi F hAm hw (TS_at (i := 88) (by decide +kernel) rfl) (N := 27) (by decide) (by decide) (Nat.le_of_ble_eq_true rfl) (Nat.le_of_ble_eq_true rfl) (Nat.le_of_ble_eq_true rfl) dX10_init_126 (fun q16 H hw => ?_)
  have hw : Wd D A s H locs ((q16, cI ca 27) :: ((q15, cI ca 3) :: ((q14, cI ca 3) :: ((h0, .inr (9, [.ref q1, .int 0, .int 0, .int 0, .int 0, .int 0, .int 0, .int 0, .int 0, .ref q2, .ref q3, .ref q4, .ref q5, .ref q6, .int 0, .ref q7, .ref q8, .ref q9, .ref q10, .ref q11, .ref q12, .ref q13, .int 0, .ref q14, .ref q15, .null, .null])) :: (((((((((((((([]) ++ [(q1, cI ca 200)]) ++ [(q2, cI ca 48)]) ++ [(q3, cI ca 48)]) ++ [(q4, cI ca 48)]) ++ [(q5, cI ca 48)]) ++ [(q6, cI ca 384)]) ++ [(q7, cI ca 96)]) ++ [(q8, cZ ca 2)]) ++ [(q9, cI ca 7)]) ++ [(q10, cI ca 6)]) ++ [(q11, cI ca 6)]) ++ [(q12, cI ca 6)]) ++ [(q13, cI ca 18)]))))) := hw
  refine k_putF F hin hAm hw 3 tyX10 tyX10_ok nmX10 rfl rfl 25 (Nat.le_of_ble_eq_true rfl) (TS_at (i := 900) (by decide +kernel) rfl) rfl rfl rfl ⟨rfl, rfl⟩ (Nat.le_of_ble_eq_true rfl) dX10_init_128 (fun H locs hw => ?_)
  have hw : Wd D A s H locs ((q16, cI ca 27) :: ((q15, cI ca 3) :: ((q14, cI ca 3) :: ((h0, .inr (9, [.ref q1, .int 0, .int 0, .int 0, .int 0, .int 0, .int 0, .int 0, .int 0, .ref q2, .ref q3, .ref q4, .ref q5, .ref q6, .int 0, .ref q7, .ref q8, .ref q9, .ref q10, .ref q11, .ref q12, .ref q13, .int 0, .ref q14, .ref q15, .ref q16, .null])) :: (((((((((((((([]) ++ [(q1, cI ca 200)]) ++ [(q2, cI ca 48)]) ++ [(q3, cI ca 48)]) ++ [(q4, cI ca 48)]) ++ [(q5, cI ca 48)]) ++ [(q6, cI ca 384)]) ++ [(q7, cI ca 96)]) ++ [(q8, cZ ca 2)]) ++ [(q9, cI ca 7)]) ++ [(q10, cI ca 6)]) ++ [(q11, cI ca 6)]) ++ [(q12, cI ca 6)]) ++ [(q13, cI ca 18)]))))) := hw
  have hw : Wd D A s H locs ((q15, cI ca 3) :: ((q14, cI ca 3) :: ((h0, .inr (9, [.ref q1, .int 0, .int 0, .int 0, .int 0, .int 0, .int 0, .int 0, .int 0, .ref q2, .ref q3, .ref q4, .ref q5, .ref q6, .int 0, .ref q7, .ref q8, .ref q9, .ref q10, .ref q11, .ref q12, .ref q13, .int 0, .ref q14, .ref q15, .ref q16, .null])) :: ((((((((((((((([]) ++ [(q1, cI ca 200)]) ++ [(q2, cI ca 48)]) ++ [(q3, cI ca 48)]) ++ [(q4, cI ca 48)]) ++ [(q5, cI ca 48)]) ++ [(q6, cI ca 384)]) ++ [(q7, cI ca 96)]) ++ [(q8, cZ ca 2)]) ++ [(q9, cI ca 7)]) ++ [(q10, cI ca 6)]) ++ [(q11, cI ca 6)]) ++ [(q12, cI ca 6)]) ++ [(q13, cI ca 18)]) ++ [(q16, cI ca 27)])))) := Wd.comm (a := [(q16, cI ca 27)]) hw
  refine lv_aload_n hx hb dX10_init_131 rfl (lv_at hl 0 rfl) ?_
  refine lv_bipush (v := 27) hx hb dX10_init_132 (by decide) ?_
  refine k_newi F hAm hw (TS_at (i := 88) (by decide +kernel) rfl) (N := 27) (by decide) (by decide) (Nat.le_of_ble_eq_true rfl) (Nat.le_of_ble_eq_true rfl) (Nat.le_of_ble_eq_true rfl) dX10_init_134 (fun q17 H hw => ?_)
  have hw : Wd D A s H locs ((q17, cI ca 27) :: ((q15, cI ca 3) :: ((q14, cI ca 3) :: ((h0, .inr (9, [.ref q1, .int 0, .int 0, .int 0, .int 0, .int 0, .int 0, .int 0, .int 0, .ref q2, .ref q3, .ref q4, .ref q5, .ref q6, .int 0, .ref q7, .ref q8, .ref q9, .ref q10, .ref q11, .ref q12, .ref q13, .int 0, .ref q14, .ref q15, .ref q16, .null])) :: ((((((((((((((([]) ++ [(q1, cI ca 200)]) ++ [(q2, cI ca 48)]) ++ [(q3, cI ca 48)]) ++ [(q4, cI ca 48)]) ++ [(q5, cI ca 48)]) ++ [(q6, cI ca 384)]) ++ [(q7, cI ca 96)]) ++ [(q8, cZ ca 2)]) ++ [(q9, cI ca 7)]) ++ [(q10, cI ca 6)]) ++ [(q11, cI ca 6)]) ++ [(q12, cI ca 6)]) ++ [(q13, cI ca 18)]) ++ [(q16, cI ca 27)]))))) := hw
  refine k_putF F hin hAm hw 3 tyX10 tyX10_ok nmX10 rfl rfl 26 (Nat.le_of_ble_eq_true rfl) (TS_at (i := 901) (by decide +kernel) rfl) rfl rfl rfl ⟨rfl, rfl⟩ (Nat.le_of_ble_eq_true rfl) dX10_init_136 (fun H locs hw => ?_)
  have hw : Wd D A s H locs ((q17, cI ca 27) :: ((q15, cI ca 3) :: ((q14, cI ca 3) :: ((h0, .inr (9, [.ref q1, .int 0, .int 0, .int 0, .int 0, .int 0, .int 0, .int 0, .int 0, .ref q2, .ref q3, .ref q4, .ref q5, .ref q6, .int 0, .ref q7, .ref q8, .ref q9, .ref q10, .ref q11, .ref q12, .ref q13, .int 0, .ref q14, .ref q15, .ref q16, .ref q17])) :: ((((((((((((((([]) ++ [(q1, cI ca 200)]) ++ [(q2, cI ca 48)]) ++ [(q3, cI ca 48)]) ++ [(q4, cI ca 48)]) ++ [(q5, cI ca 48)]) ++ [(q6, cI ca 384)]) ++ [(q7, cI ca 96)]) ++ [(q8, cZ ca 2)]) ++ [(q9, cI ca 7)]) ++ [(q10, cI ca 6)]) ++ [(q11, cI ca 6)]) ++ [(q12, cI ca 6)]) ++ [(q13, cI ca 18)]) ++ [(q16, cI ca 27)]))))) := hw
  have hw : Wd D A s H locs ((q15, cI ca 3) :: ((q14, cI ca 3) :: ((h0, .inr (9, [.ref q1, .int 0, .int 0, .int 0, .int 0, .int 0, .int 0, .int 0, .int 0, .ref q2, .ref q3, .ref q4, .ref q5, .ref q6, .int 0, .ref q7, .ref q8, .ref q9, .ref q10, .ref q11, .ref q12, .ref q13, .int 0, .ref q14, .ref q15, .ref q16, .ref q17])) :: (((((((((((((((([]) ++ [(q1, cI ca 200)]) ++ [(q2, cI ca 48)]) ++ [(q3, cI ca 48)]) ++ [(q4, cI ca 48)]) ++ [(q5, cI ca 48)]) ++ [(q6, cI ca 384)]) ++ [(q7, cI ca 96)]) ++ [(q8, cZ ca 2)]) ++ [(q9, cI ca 7)]) ++ [(q10, cI ca 6)]) ++ [(q11, cI ca 6)]) ++ [(q12, cI ca 6)]) ++ [(q13, cI ca 18)]) ++ [(q16, cI ca 27)]) ++ [(q17, cI ca 27)])))) := Wd.comm (a := [(q17, cI ca 27)]) hw
  refine lv_aload_n hx hb dX10_init_139 rfl (lv_at hl 0 rfl) ?_
  have hw : Wd D A s H locs ([(q15, cI ca 3), (q14, cI ca 3), (h0, .inr (9, [.ref q1, .int 0, .int 0, .int 0, .int 0, .int 0, .int 0, .int 0, .int 0, .ref q2, .ref q3, .ref q4, .ref q5, .ref q6, .int 0, .ref q7, .ref q8, .ref q9, .ref q10, .ref q11, .ref q12, .ref q13, .int 0, .ref q14, .ref q15, .ref q16, .ref q17]))] ++ (((((((((((((((([]) ++ [(q1, cI ca 200)]) ++ [(q2, cI ca 48)]) ++ [(q3, cI ca 48)]) ++ [(q4, cI ca 48)]) ++ [(q5, cI ca 48)]) ++ [(q6, cI ca 384)]) ++ [(q7, cI ca 96)]) ++ [(q8, cZ ca 2)]) ++ [(q9, cI ca 7)]) ++ [(q10, cI ca 6)]) ++ [(q11, cI ca 6)]) ++ [(q12, cI ca 6)]) ++ [(q13, cI ca 18)]) ++ [(q16, cI ca 27)]) ++ [(q17, cI ca 27)])) := hw
  refine k_virt F hAm (ci_misses l D ca h0 q14 q15 [.ref q1, .int 0, .int 0, .int 0, .int 0, .int 0, .int 0, .int 0, .int 0, .ref q2, .ref q3, .ref q4, .ref q5, .ref q6, .int 0, .ref q7, .ref q8, .ref q9, .ref q10, .ref q11, .ref q12, .ref q13, .int 0, .ref q14, .ref q15, .ref q16, .ref q17] rfl rfl) 2 rfl rfl rfl (TS_at (i := 874) rfl rfl) (TS_at (i := 55) (by decide +kernel) rfl) (TS_at (i := 871) (by decide +kernel) rfl) (TS_at (i := 873) (by decide +kernel) rfl) (TS_at (i := 17) (by decide +kernel) rfl) ⟨by decide +kernel, by decide +kernel, by decide +kernel⟩ ⟨rfl, rfl⟩ ⟨(Nat.le_of_ble_eq_true rfl), (Nat.le_of_ble_eq_true rfl)⟩ hl.1 (Nat.le_of_ble_eq_true rfl) dX10_init_140 ⟨(Nat.le_of_ble_eq_true rfl), (Nat.le_of_ble_eq_true rfl)⟩ hw (fun w1 H locs hsh hw => ?_)
  subst hsh
  have hw : Wd D A s H locs ((q15, .inl (ca 0, 3, .inl mHold)) :: ((q14, .inl (ca 0, 3, .inl mRoom)) :: ((h0, .inr (9, [.ref q1, .int 0, .int 0, .int 0, .int 0, .int 0, .int 0, .int 0, .int 0, .ref q2, .ref q3, .ref q4, .ref q5, .ref q6, .int 0, .ref q7, .ref q8, .ref q9, .ref q10, .ref q11, .ref q12, .ref q13, .int 0, .ref q14, .ref q15, .ref q16, .ref q17])) :: (((((((((((((((([]) ++ [(q1, cI ca 200)]) ++ [(q2, cI ca 48)]) ++ [(q3, cI ca 48)]) ++ [(q4, cI ca 48)]) ++ [(q5, cI ca 48)]) ++ [(q6, cI ca 384)]) ++ [(q7, cI ca 96)]) ++ [(q8, cZ ca 2)]) ++ [(q9, cI ca 7)]) ++ [(q10, cI ca 6)]) ++ [(q11, cI ca 6)]) ++ [(q12, cI ca 6)]) ++ [(q13, cI ca 18)]) ++ [(q16, cI ca 27)]) ++ [(q17, cI ca 27)])))) := hw
  refine W.widen (k := 17) (n := 977) (Nat.le_of_ble_eq_true rfl) (Nat.le_of_ble_eq_true rfl) ?_
  exact k_ret F hr hlocks hw ⟨q1, q2, q3, q4, q5, q6, q7, q8, q9, q10, q11, q12, q13, q14, q15, q16, q17, rfl⟩ dX10_init_143
