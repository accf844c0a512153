theorem dJ6_bitCount_0f7a4_0 : decode cJ6_bitCount_0f7a4 0 = .ok (.iload_n 0, 1) := by decide +kernel
theorem dJ6_bitCount_0f7a4_1 : decode cJ6_bitCount_0f7a4 1 = .ok (.iload_n 0, 1) := by decide +kernel
theorem dJ6_bitCount_0f7a4_2 : decode cJ6_bitCount_0f7a4 2 = .ok (.iconst 1, 1) := by decide +kernel
theorem dJ6_bitCount_0f7a4_3 : decode cJ6_bitCount_0f7a4 3 = .ok (.iushr, 1) := by decide +kernel
theorem q_610 : Cond.constant RJ6 265 1431655765 ∈ lw_g := mem_q 610 (by decide +kernel) rfl
theorem dJ6_bitCount_0f7a4_4 : decode cJ6_bitCount_0f7a4 4 = .ok (.ldc_w 265, 3) := by decide +kernel
theorem dJ6_bitCount_0f7a4_7 : decode cJ6_bitCount_0f7a4 7 = .ok (.iand, 1) := by decide +kernel
theorem dJ6_bitCount_0f7a4_8 : decode cJ6_bitCount_0f7a4 8 = .ok (.isub, 1) := by decide +kernel
theorem dJ6_bitCount_0f7a4_9 : decode cJ6_bitCount_0f7a4 9 = .ok (.istore_n 0, 1) := by decide +kernel
theorem dJ6_bitCount_0f7a4_10 : decode cJ6_bitCount_0f7a4 10 = .ok (.iload_n 0, 1) := by decide +kernel
theorem q_611 : Cond.constant RJ6 266 858993459 ∈ lw_g := mem_q 611 (by decide +kernel) rfl
theorem dJ6_bitCount_0f7a4_11 : decode cJ6_bitCount_0f7a4 11 = .ok (.ldc_w 266, 3) := by decide +kernel
theorem dJ6_bitCount_0f7a4_14 : decode cJ6_bitCount_0f7a4 14 = .ok (.iand, 1) := by decide +kernel
theorem dJ6_bitCount_0f7a4_15 : decode cJ6_bitCount_0f7a4 15 = .ok (.iload_n 0, 1) := by decide +kernel
theorem dJ6_bitCount_0f7a4_16 : decode cJ6_bitCount_0f7a4 16 = .ok (.iconst 2, 1) := by decide +kernel
theorem dJ6_bitCount_0f7a4_17 : decode cJ6_bitCount_0f7a4 17 = .ok (.iushr, 1) := by decide +kernel
theorem dJ6_bitCount_0f7a4_18 : decode cJ6_bitCount_0f7a4 18 = .ok (.ldc_w 266, 3) := by decide +kernel
theorem dJ6_bitCount_0f7a4_21 : decode cJ6_bitCount_0f7a4 21 = .ok (.iand, 1) := by decide +kernel
theorem dJ6_bitCount_0f7a4_22 : decode cJ6_bitCount_0f7a4 22 = .ok (.iadd, 1) := by decide +kernel
theorem dJ6_bitCount_0f7a4_23 : decode cJ6_bitCount_0f7a4 23 = .ok (.istore_n 0, 1) := by decide +kernel
theorem dJ6_bitCount_0f7a4_24 : decode cJ6_bitCount_0f7a4 24 = .ok (.iload_n 0, 1) := by decide +kernel
theorem dJ6_bitCount_0f7a4_25 : decode cJ6_bitCount_0f7a4 25 = .ok (.iload_n 0, 1) := by decide +kernel
theorem dJ6_bitCount_0f7a4_26 : decode cJ6_bitCount_0f7a4 26 = .ok (.iconst 4, 1) := by decide +kernel
theorem dJ6_bitCount_0f7a4_27 : decode cJ6_bitCount_0f7a4 27 = .ok (.iushr, 1) := by decide +kernel
theorem dJ6_bitCount_0f7a4_28 : decode cJ6_bitCount_0f7a4 28 = .ok (.iadd, 1) := by decide +kernel
theorem q_612 : Cond.constant RJ6 267 252645135 ∈ lw_g := mem_q 612 (by decide +kernel) rfl
theorem dJ6_bitCount_0f7a4_29 : decode cJ6_bitCount_0f7a4 29 = .ok (.ldc_w 267, 3) := by decide +kernel
theorem dJ6_bitCount_0f7a4_32 : decode cJ6_bitCount_0f7a4 32 = .ok (.iand, 1) := by decide +kernel
theorem dJ6_bitCount_0f7a4_33 : decode cJ6_bitCount_0f7a4 33 = .ok (.istore_n 0, 1) := by decide +kernel
theorem dJ6_bitCount_0f7a4_34 : decode cJ6_bitCount_0f7a4 34 = .ok (.iload_n 0, 1) := by decide +kernel
theorem dJ6_bitCount_0f7a4_35 : decode cJ6_bitCount_0f7a4 35 = .ok (.iload_n 0, 1) := by decide +kernel
theorem dJ6_bitCount_0f7a4_36 : decode cJ6_bitCount_0f7a4 36 = .ok (.bipush 8, 2) := by decide +kernel
theorem dJ6_bitCount_0f7a4_38 : decode cJ6_bitCount_0f7a4 38 = .ok (.iushr, 1) := by decide +kernel
theorem dJ6_bitCount_0f7a4_39 : decode cJ6_bitCount_0f7a4 39 = .ok (.iadd, 1) := by decide +kernel
theorem dJ6_bitCount_0f7a4_40 : decode cJ6_bitCount_0f7a4 40 = .ok (.istore_n 0, 1) := by decide +kernel
theorem dJ6_bitCount_0f7a4_41 : decode cJ6_bitCount_0f7a4 41 = .ok (.iload_n 0, 1) := by decide +kernel
theorem dJ6_bitCount_0f7a4_42 : decode cJ6_bitCount_0f7a4 42 = .ok (.iload_n 0, 1) := by decide +kernel
theorem dJ6_bitCount_0f7a4_43 : decode cJ6_bitCount_0f7a4 43 = .ok (.bipush 16, 2) := by decide +kernel
theorem dJ6_bitCount_0f7a4_45 : decode cJ6_bitCount_0f7a4 45 = .ok (.iushr, 1) := by decide +kernel
theorem dJ6_bitCount_0f7a4_46 : decode cJ6_bitCount_0f7a4 46 = .ok (.iadd, 1) := by decide +kernel
theorem dJ6_bitCount_0f7a4_47 : decode cJ6_bitCount_0f7a4 47 = .ok (.istore_n 0, 1) := by decide +kernel
theorem dJ6_bitCount_0f7a4_48 : decode cJ6_bitCount_0f7a4 48 = .ok (.iload_n 0, 1) := by decide +kernel
theorem dJ6_bitCount_0f7a4_49 : decode cJ6_bitCount_0f7a4 49 = .ok (.bipush 63, 2) := by decide +kernel
theorem dJ6_bitCount_0f7a4_51 : decode cJ6_bitCount_0f7a4 51 = .ok (.iand, 1) := by decide +kernel
theorem dJ6_bitCount_0f7a4_52 : decode cJ6_bitCount_0f7a4 52 = .ok (.ireturn, 1) := by decide +kernel
set_option maxHeartbeats 4000000 in
set_option maxRecDepth 100000 in
theorem cJ_bit0 (l : Launch) (J : va_J9)  : RC l J yJ6_bitCount_0f7a4 cJ6_bitCount_0f7a4 1 (some .int) ({ frames := 0, cells := 0, slots := 0, locals := 0 }) [.int 0] [] (vp_Si (fun r => r = 0)) := by
  refine rc_of (by decide) (Nat.le_of_ble_eq_true rfl) ?_
  intro p e s m below meth c ls hE hl hP hK
  obtain ⟨hx, hb, hr, hml, hown, hts, hlk, hin⟩ := hE
  have hown : s.vm.findClass RJ6 = some m.cls := hown
  have hl : lv_has ls 1 [(0, .int 0)] := hl
  refine lv_iload_n hx hb dJ6_bitCount_0f7a4_0 rfl (lv_at hl 0 rfl) ?_
  refine lv_iload_n hx hb dJ6_bitCount_0f7a4_1 rfl (lv_at hl 0 rfl) ?_
  refine lv_iconst (v := 1) hx hb dJ6_bitCount_0f7a4_2 (by decide) ?_
  refine lv_iushr (v := 0) hx hb dJ6_bitCount_0f7a4_3 (by decide) ?_
  refine lv_ldcw (v := 1431655765) hx hb hown (hts _ q_610) dJ6_bitCount_0f7a4_4 ?_
  refine lv_iand hx hb dJ6_bitCount_0f7a4_7 ?_
  refine top_i (y := 0) (by decide) ?_
  refine lv_isub hx hb dJ6_bitCount_0f7a4_8 ?_
  refine top_i (y := 0) (by decide) ?_
  refine lv_istore_n (lv' := [(0, .int 0)]) hx hb dJ6_bitCount_0f7a4_9 rfl hl (by decide) rfl (fun ls hl => ?_)
  refine lv_iload_n hx hb dJ6_bitCount_0f7a4_10 rfl (lv_at hl 0 rfl) ?_
  refine lv_ldcw (v := 858993459) hx hb hown (hts _ q_611) dJ6_bitCount_0f7a4_11 ?_
  refine lv_iand hx hb dJ6_bitCount_0f7a4_14 ?_
  refine top_i (y := 0) (by decide) ?_
  refine lv_iload_n hx hb dJ6_bitCount_0f7a4_15 rfl (lv_at hl 0 rfl) ?_
  refine lv_iconst (v := 2) hx hb dJ6_bitCount_0f7a4_16 (by decide) ?_
  refine lv_iushr (v := 0) hx hb dJ6_bitCount_0f7a4_17 (by decide) ?_
  refine lv_ldcw (v := 858993459) hx hb hown (hts _ q_611) dJ6_bitCount_0f7a4_18 ?_
  refine lv_iand hx hb dJ6_bitCount_0f7a4_21 ?_
  refine top_i (y := 0) (by decide) ?_
  refine lv_iadd hx hb dJ6_bitCount_0f7a4_22 ?_
  refine top_i (y := 0) (by decide) ?_
  refine lv_istore_n (lv' := [(0, .int 0)]) hx hb dJ6_bitCount_0f7a4_23 rfl hl (by decide) rfl (fun ls hl => ?_)
  refine lv_iload_n hx hb dJ6_bitCount_0f7a4_24 rfl (lv_at hl 0 rfl) ?_
  refine lv_iload_n hx hb dJ6_bitCount_0f7a4_25 rfl (lv_at hl 0 rfl) ?_
  refine lv_iconst (v := 4) hx hb dJ6_bitCount_0f7a4_26 (by decide) ?_
  refine lv_iushr (v := 0) hx hb dJ6_bitCount_0f7a4_27 (by decide) ?_
  refine lv_iadd hx hb dJ6_bitCount_0f7a4_28 ?_
  refine top_i (y := 0) (by decide) ?_
  refine lv_ldcw (v := 252645135) hx hb hown (hts _ q_612) dJ6_bitCount_0f7a4_29 ?_
  refine lv_iand hx hb dJ6_bitCount_0f7a4_32 ?_
  refine top_i (y := 0) (by decide) ?_
  refine lv_istore_n (lv' := [(0, .int 0)]) hx hb dJ6_bitCount_0f7a4_33 rfl hl (by decide) rfl (fun ls hl => ?_)
  refine lv_iload_n hx hb dJ6_bitCount_0f7a4_34 rfl (lv_at hl 0 rfl) ?_
  refine lv_iload_n hx hb dJ6_bitCount_0f7a4_35 rfl (lv_at hl 0 rfl) ?_
  refine lv_bipush (v := 8) hx hb dJ6_bitCount_0f7a4_36 (by decide) ?_
  refine lv_iushr (v := 0) hx hb dJ6_bitCount_0f7a4_38 (by decide) ?_
  refine lv_iadd hx hb dJ6_bitCount_0f7a4_39 ?_
  refine top_i (y := 0) (by decide) ?_
  refine lv_istore_n (lv' := [(0, .int 0)]) hx hb dJ6_bitCount_0f7a4_40 rfl hl (by decide) rfl (fun ls hl => ?_)
  refine lv_iload_n hx hb dJ6_bitCount_0f7a4_41 rfl (lv_at hl 0 rfl) ?_
  refine lv_iload_n hx hb dJ6_bitCount_0f7a4_42 rfl (lv_at hl 0 rfl) ?_
  refine lv_bipush (v := 16) hx hb dJ6_bitCount_0f7a4_43 (by decide) ?_
  refine lv_iushr (v := 0) hx hb dJ6_bitCount_0f7a4_45 (by decide) ?_
  refine lv_iadd hx hb dJ6_bitCount_0f7a4_46 ?_
  refine top_i (y := 0) (by decide) ?_
  refine lv_istore_n (lv' := [(0, .int 0)]) hx hb dJ6_bitCount_0f7a4_47 rfl hl (by decide) rfl (fun ls hl => ?_)
  refine lv_iload_n hx hb dJ6_bitCount_0f7a4_48 rfl (lv_at hl 0 rfl) ?_
  refine lv_bipush (v := 63) hx hb dJ6_bitCount_0f7a4_49 (by decide) ?_
  refine lv_iand hx hb dJ6_bitCount_0f7a4_51 ?_
  refine top_i (y := 0) (by decide) ?_
  exact rz_i hx hb hr hlk (by decide) dJ6_bitCount_0f7a4_52
set_option maxHeartbeats 4000000 in
set_option maxRecDepth 100000 in
theorem cJ_bit (l : Launch) (J : va_J9) (x : Int32) : RC l J yJ6_bitCount_0f7a4 cJ6_bitCount_0f7a4 1 (some .int) ({ frames := 0, cells := 0, slots := 0, locals := 0 }) [.int x] [] (vp_Si (fun _ => True)) := by
  refine rc_of (by decide) (Nat.le_of_ble_eq_true rfl) ?_
  intro p e s m below meth c ls hE hl hP hK
  obtain ⟨hx, hb, hr, hml, hown, hts, hlk, hin⟩ := hE
  have hown : s.vm.findClass RJ6 = some m.cls := hown
  have hl : lv_has ls 1 [(0, .int x)] := hl
  have rg_x := i_rng x
  refine lv_iload_n hx hb dJ6_bitCount_0f7a4_0 rfl (lv_at hl 0 rfl) ?_
  refine lv_iload_n hx hb dJ6_bitCount_0f7a4_1 rfl (lv_at hl 0 rfl) ?_
  refine lv_iconst (v := 1) hx hb dJ6_bitCount_0f7a4_2 (by decide) ?_
  refine lv_iushr (v := (x.toUInt32 >>> ((1 : Int32).toUInt32 &&& Int32.toUInt32 31)).toInt32) hx hb dJ6_bitCount_0f7a4_3 rfl ?_
  refine lv_ldcw (v := 1431655765) hx hb hown (hts _ q_610) dJ6_bitCount_0f7a4_4 ?_
  refine lv_iand hx hb dJ6_bitCount_0f7a4_7 ?_
  refine lv_topi (fun y1 ey1 => ?_)
  refine lv_isub hx hb dJ6_bitCount_0f7a4_8 ?_
  refine lv_istore_n (lv' := [(0, .int (x - y1))]) hx hb dJ6_bitCount_0f7a4_9 rfl hl (by decide) rfl (fun ls hl => ?_)
  refine lv_iload_n hx hb dJ6_bitCount_0f7a4_10 rfl (lv_at hl 0 rfl) ?_
  refine lv_ldcw (v := 858993459) hx hb hown (hts _ q_611) dJ6_bitCount_0f7a4_11 ?_
  refine lv_iand hx hb dJ6_bitCount_0f7a4_14 ?_
  refine lv_iload_n hx hb dJ6_bitCount_0f7a4_15 rfl (lv_at hl 0 rfl) ?_
  refine lv_iconst (v := 2) hx hb dJ6_bitCount_0f7a4_16 (by decide) ?_
  refine lv_iushr (v := ((x - y1).toUInt32 >>> ((2 : Int32).toUInt32 &&& Int32.toUInt32 31)).toInt32) hx hb dJ6_bitCount_0f7a4_17 rfl ?_
  refine lv_topi (fun y2 ey2 => ?_)
  refine lv_ldcw (v := 858993459) hx hb hown (hts _ q_611) dJ6_bitCount_0f7a4_18 ?_
  refine lv_iand hx hb dJ6_bitCount_0f7a4_21 ?_
  refine lv_iadd hx hb dJ6_bitCount_0f7a4_22 ?_
  refine lv_istore_n (lv' := [(0, .int (((x - y1) &&& 858993459) + (y2 &&& 858993459)))]) hx hb dJ6_bitCount_0f7a4_23 rfl hl (by decide) rfl (fun ls hl => ?_)
  refine lv_iload_n hx hb dJ6_bitCount_0f7a4_24 rfl (lv_at hl 0 rfl) ?_
  refine lv_iload_n hx hb dJ6_bitCount_0f7a4_25 rfl (lv_at hl 0 rfl) ?_
  refine lv_iconst (v := 4) hx hb dJ6_bitCount_0f7a4_26 (by decide) ?_
  refine lv_iushr (v := ((((x - y1) &&& 858993459) + (y2 &&& 858993459)).toUInt32 >>> ((4 : Int32).toUInt32 &&& Int32.toUInt32 31)).toInt32) hx hb dJ6_bitCount_0f7a4_27 rfl ?_
  refine lv_topi (fun y3 ey3 => ?_)
  refine lv_iadd hx hb dJ6_bitCount_0f7a4_28 ?_
  refine lv_ldcw (v := 252645135) hx hb hown (hts _ q_612) dJ6_bitCount_0f7a4_29 ?_
  refine lv_iand hx hb dJ6_bitCount_0f7a4_32 ?_
  refine lv_istore_n (lv' := [(0, .int (((((x - y1) &&& 858993459) + (y2 &&& 858993459)) + y3) &&& 252645135))]) hx hb dJ6_bitCount_0f7a4_33 rfl hl (by decide) rfl (fun ls hl => ?_)
  refine lv_iload_n hx hb dJ6_bitCount_0f7a4_34 rfl (lv_at hl 0 rfl) ?_
  refine lv_iload_n hx hb dJ6_bitCount_0f7a4_35 rfl (lv_at hl 0 rfl) ?_
  refine lv_bipush (v := 8) hx hb dJ6_bitCount_0f7a4_36 (by decide) ?_
  refine lv_iushr (v := ((((((x - y1) &&& 858993459) + (y2 &&& 858993459)) + y3) &&& 252645135).toUInt32 >>> ((8 : Int32).toUInt32 &&& Int32.toUInt32 31)).toInt32) hx hb dJ6_bitCount_0f7a4_38 rfl ?_
  refine lv_topi (fun y4 ey4 => ?_)
  refine lv_iadd hx hb dJ6_bitCount_0f7a4_39 ?_
  refine lv_topi (fun y5 ey5 => ?_)
  refine lv_istore_n (lv' := [(0, .int y5)]) hx hb dJ6_bitCount_0f7a4_40 rfl hl (by decide) rfl (fun ls hl => ?_)
  refine lv_iload_n hx hb dJ6_bitCount_0f7a4_41 rfl (lv_at hl 0 rfl) ?_
  refine lv_iload_n hx hb dJ6_bitCount_0f7a4_42 rfl (lv_at hl 0 rfl) ?_
  refine lv_bipush (v := 16) hx hb dJ6_bitCount_0f7a4_43 (by decide) ?_
  refine lv_iushr (v := (y5.toUInt32 >>> ((16 : Int32).toUInt32 &&& Int32.toUInt32 31)).toInt32) hx hb dJ6_bitCount_0f7a4_45 rfl ?_
  refine lv_topi (fun y6 ey6 => ?_)
  refine lv_iadd hx hb dJ6_bitCount_0f7a4_46 ?_
  refine lv_istore_n (lv' := [(0, .int (y5 + y6))]) hx hb dJ6_bitCount_0f7a4_47 rfl hl (by decide) rfl (fun ls hl => ?_)
  refine lv_iload_n hx hb dJ6_bitCount_0f7a4_48 rfl (lv_at hl 0 rfl) ?_
  refine lv_bipush (v := 63) hx hb dJ6_bitCount_0f7a4_49 (by decide) ?_
  refine lv_iand hx hb dJ6_bitCount_0f7a4_51 ?_
  exact rz_any hx hb hr hlk dJ6_bitCount_0f7a4_52
theorem dX9_isEmpty_0 : decode cX9_isEmpty 0 = .ok (.aload_n 0, 1) := by decide +kernel
theorem q_442 : Cond.fieldLink RX9 15 RX9 "holds" "I" ∈ lw_g := mem_q 442 (by decide +kernel) rfl
theorem dX9_isEmpty_1 : decode cX9_isEmpty 1 = .ok (.getfield 15, 3) := by decide +kernel
theorem dX9_isEmpty_4 : decode cX9_isEmpty 4 = .ok (.ifCond .ne 7, 3) := by decide +kernel
theorem dX9_isEmpty_7 : decode cX9_isEmpty 7 = .ok (.iconst 1, 1) := by decide +kernel
theorem dX9_isEmpty_8 : decode cX9_isEmpty 8 = .ok (.goto 4, 3) := by decide +kernel
theorem dX9_isEmpty_12 : decode cX9_isEmpty 12 = .ok (.ireturn, 1) := by decide +kernel
set_option maxHeartbeats 4000000 in
set_option maxRecDepth 100000 in
theorem cS_isEmpty (l : Launch) (J : va_J9) (sh : Nat) (ce : Nat) : RC l J yX9_isEmpty cX9_isEmpty 1 (some .boolean) ({ frames := 0, cells := 0, slots := 0, locals := 0 }) [.ref sh] [(sh, .inr (9, [.ref ce, .int 0, .int 0, .int 0, .int 0]))] (vp_Si (fun r => r = 1)) := by
  refine rc_of (by decide) (Nat.le_of_ble_eq_true rfl) ?_
  intro p e s m below meth c ls hE hl hP hK
  obtain ⟨hx, hb, hr, hml, hown, hts, hlk, hin⟩ := hE
  have hown : s.vm.findClass RX9 = some m.cls := hown
  have hl : lv_has ls 1 [(0, .ref sh)] := hl
  refine lv_aload_n hx hb dX9_isEmpty_0 rfl (lv_at hl 0 rfl) ?_
  refine va_get (D := J.1) (ci := 9) (v := .int 0) (C := RX9) (T := TX9) (N := 5) hx hb hts inX9 hown hK.1 hP 0 rfl rfl 1 (by decide) (hts _ q_442) (fun _ h9 => h9) rfl dX9_isEmpty_1 ?_
  refine lv_if_ne (tgt := 11) hx hb dX9_isEmpty_4 (by decide) (fun c => absurd c (by decide)) (fun _ => ?_)
  refine lv_iconst (v := 1) hx hb dX9_isEmpty_7 (by decide) ?_
  refine lv_goto (tgt := 12) hx hb dX9_isEmpty_8 (by decide) ?_
  exact rz_z hx hb hr hlk (by decide) (by decide) dX9_isEmpty_12
theorem dX9_isRowOf_0 : decode cX9_isRowOf 0 = .ok (.aload_n 0, 1) := by decide +kernel
theorem dX9_isRowOf_1 : decode cX9_isRowOf 1 = .ok (.getfield 15, 3) := by decide +kernel
theorem dX9_isRowOf_4 : decode cX9_isRowOf 4 = .ok (.iconst 2, 1) := by decide +kernel
theorem dX9_isRowOf_5 : decode cX9_isRowOf 5 = .ok (.if_icmp .ne 15, 3) := by decide +kernel
theorem dX9_isRowOf_20 : decode cX9_isRowOf 20 = .ok (.iconst 0, 1) := by decide +kernel
theorem dX9_isRowOf_21 : decode cX9_isRowOf 21 = .ok (.ireturn, 1) := by decide +kernel
set_option maxHeartbeats 4000000 in
set_option maxRecDepth 100000 in
theorem cS_isRowOf (l : Launch) (J : va_J9) (sh : Nat) (ce : Nat) (n : Int32) : RC l J yX9_isRowOf cX9_isRowOf 2 (some .boolean) ({ frames := 0, cells := 0, slots := 0, locals := 0 }) [.ref sh, .int n] [(sh, .inr (9, [.ref ce, .int 0, .int 0, .int 0, .int 0]))] (vp_Si (fun r => r = 0)) := by
  refine rc_of (by decide) (Nat.le_of_ble_eq_true rfl) ?_
  intro p e s m below meth c ls hE hl hP hK
  obtain ⟨hx, hb, hr, hml, hown, hts, hlk, hin⟩ := hE
  have hown : s.vm.findClass RX9 = some m.cls := hown
  have hl : lv_has ls 2 [(0, .ref sh), (1, .int n)] := hl
  have rg_n := i_rng n
  refine lv_aload_n hx hb dX9_isRowOf_0 rfl (lv_at hl 0 rfl) ?_
  refine va_get (D := J.1) (ci := 9) (v := .int 0) (C := RX9) (T := TX9) (N := 5) hx hb hts inX9 hown hK.1 hP 0 rfl rfl 1 (by decide) (hts _ q_442) (fun _ h9 => h9) rfl dX9_isRowOf_1 ?_
  refine lv_iconst (v := 2) hx hb dX9_isRowOf_4 (by decide) ?_
  refine lv_icmp_ne (tgt := 20) hx hb dX9_isRowOf_5 (by decide) (fun _ => ?_) (fun c => absurd c (by decide))
  refine lv_iconst (v := 0) hx hb dX9_isRowOf_20 (by decide) ?_
  exact rz_z hx hb hr hlk (by decide) (by decide) dX9_isRowOf_21
theorem dX9_clear_0 : decode cX9_clear 0 = .ok (.aload_n 0, 1) := by decide +kernel
theorem dX9_clear_1 : decode cX9_clear 1 = .ok (.iconst 0, 1) := by decide +kernel
theorem dX9_clear_2 : decode cX9_clear 2 = .ok (.putfield 15, 3) := by decide +kernel
theorem dX9_clear_5 : decode cX9_clear 5 = .ok (.return_, 1) := by decide +kernel
set_option maxHeartbeats 4000000 in
set_option maxRecDepth 100000 in
theorem cS_clear (l : Launch) (J : va_J9) (sz : Nat) (sh : Nat) (ce : Nat) : WC l J yX9_clear cX9_clear 1 none ({ frames := 0, cells := 0, slots := 0, locals := 0 }) [.ref sh] [(sh, .inr (9, [.ref ce, .int 0, .int 0, .int 0, .int 0]))] sz (Qv J (fun (u : Unit) => True) (fun (_ : Unit) => [])) 0 0 := by
  refine wc_of (by decide) (Nat.le_of_ble_eq_true rfl) ?_
  intro p e s m below meth c ls A hE hl hP hK hD hS hA
  obtain ⟨hx, hb, hr, hml, hown, hts, hlk, hin⟩ := hE
  have hown : s.vm.findClass RX9 = some m.cls := hown
  have hl : lv_has ls 1 [(0, .ref sh)] := hl
  refine lv_aload_n hx hb dX9_clear_0 rfl (lv_at hl 0 rfl) ?_
  refine lv_iconst (v := 0) hx hb dX9_clear_1 (by decide) ?_
  refine va_put (D := J.1) (ci := 9) (v := .int 0) (ty := (.int)) (C := RX9) (T := TX9) (N := 5) hx hb hts inX9 tyX9 tyX9_ok nmX9 hown hK.1 hP hD hS 0 rfl rfl 1 (by decide) (hts _ q_442) (fun _ h9 => h9) rfl (by decide +kernel) rfl rfl (Nat.le_of_ble_eq_true rfl) dX9_clear_2 (fun H locs hP hD hS => ?_)
  have hP : va_P J.1 cls [(sh, .inr (9, [.ref ce, .int 0, .int 0, .int 0, .int 0]))] H := hP
  have hD : va_D A [(sh, .inr (9, [.ref ce, .int 0, .int 0, .int 0, .int 0]))] := hD
  exact wz_v () hx hb hr hlk trivial (hP.sub (ws' := []) [] rfl) (hD.sub (ws' := []) [] (by decide) rfl) hS dX9_clear_5
theorem dX9_holdRow_0 : decode cX9_holdRow 0 = .ok (.aload_n 0, 1) := by decide +kernel
theorem dX9_holdRow_1 : decode cX9_holdRow 1 = .ok (.iconst 2, 1) := by decide +kernel
theorem dX9_holdRow_2 : decode cX9_holdRow 2 = .ok (.putfield 15, 3) := by decide +kernel
theorem dX9_holdRow_5 : decode cX9_holdRow 5 = .ok (.aload_n 0, 1) := by decide +kernel
theorem dX9_holdRow_6 : decode cX9_holdRow 6 = .ok (.iload_n 1, 1) := by decide +kernel
theorem q_445 : Cond.fieldLink RX9 22 RX9 "sort" "I" ∈ lw_g := mem_q 445 (by decide +kernel) rfl
theorem dX9_holdRow_7 : decode cX9_holdRow 7 = .ok (.putfield 22, 3) := by decide +kernel
theorem dX9_holdRow_10 : decode cX9_holdRow 10 = .ok (.aload_n 0, 1) := by decide +kernel
theorem dX9_holdRow_11 : decode cX9_holdRow 11 = .ok (.iload_n 2, 1) := by decide +kernel
theorem q_448 : Cond.fieldLink RX9 25 RX9 "length" "I" ∈ lw_g := mem_q 448 (by decide +kernel) rfl
theorem dX9_holdRow_12 : decode cX9_holdRow 12 = .ok (.putfield 25, 3) := by decide +kernel
theorem dX9_holdRow_15 : decode cX9_holdRow 15 = .ok (.iconst 0, 1) := by decide +kernel
theorem dX9_holdRow_16 : decode cX9_holdRow 16 = .ok (.istore_n 3, 1) := by decide +kernel
theorem dX9_holdRow_17 : decode cX9_holdRow 17 = .ok (.iload_n 3, 1) := by decide +kernel
theorem dX9_holdRow_18 : decode cX9_holdRow 18 = .ok (.bipush 60, 2) := by decide +kernel
theorem dX9_holdRow_20 : decode cX9_holdRow 20 = .ok (.if_icmp .ge 16, 3) := by decide +kernel
theorem dX9_holdRow_36 : decode cX9_holdRow 36 = .ok (.return_, 1) := by decide +kernel
theorem dX9_holdRow_23 : decode cX9_holdRow 23 = .ok (.aload_n 0, 1) := by decide +kernel
theorem q_440 : Cond.fieldLink RX9 9 RX9 "cells" "[J" ∈ lw_g := mem_q 440 (by decide +kernel) rfl
theorem dX9_holdRow_24 : decode cX9_holdRow 24 = .ok (.getfield 9, 3) := by decide +kernel
theorem dX9_holdRow_27 : decode cX9_holdRow 27 = .ok (.iload_n 3, 1) := by decide +kernel
theorem dX9_holdRow_28 : decode cX9_holdRow 28 = .ok (.lconst 0, 1) := by decide +kernel
theorem dX9_holdRow_29 : decode cX9_holdRow 29 = .ok (.lastore, 1) := by decide +kernel
theorem dX9_holdRow_30 : decode cX9_holdRow 30 = .ok (.iinc 3 1, 3) := by decide +kernel
theorem dX9_holdRow_33 : decode cX9_holdRow 33 = .ok (.goto (-16), 3) := by decide +kernel
set_option maxHeartbeats 4000000 in
set_option maxRecDepth 100000 in
theorem cS_holdRow (l : Launch) (J : va_J9) (sz : Nat) (sh : Nat) (ce : Nat) (x : Int32) (n : Int32) : WC l J yX9_holdRow cX9_holdRow 4 none ({ frames := 0, cells := 0, slots := 0, locals := 0 }) [.ref sh, .int x, .int n] [(sh, .inr (9, [.ref ce, .int 0, .int 0, .int 0, .int 0])), (ce, .inl (J.2.2.1, 60, .inr (.inl (fun _ => 0))))] sz (Qv J (fun (u : Unit) => True) (fun (_ : Unit) => [])) 0 0 := by
  refine wc_of (by decide) (Nat.le_of_ble_eq_true rfl) ?_
  intro p e s m below meth c ls A hE hl hP hK hD hS hA
  obtain ⟨hx, hb, hr, hml, hown, hts, hlk, hin⟩ := hE
  have hown : s.vm.findClass RX9 = some m.cls := hown
  have hl : lv_has ls 4 [(0, .ref sh), (1, .int x), (2, .int n)] := hl
  have rg_x := i_rng x
  have rg_n := i_rng n
  refine lv_aload_n hx hb dX9_holdRow_0 rfl (lv_at hl 0 rfl) ?_
  refine lv_iconst (v := 2) hx hb dX9_holdRow_1 (by decide) ?_
  refine va_put (D := J.1) (ci := 9) (v := .int 2) (ty := (.int)) (C := RX9) (T := TX9) (N := 5) hx hb hts inX9 tyX9 tyX9_ok nmX9 hown hK.1 hP hD hS 0 rfl rfl 1 (by decide) (hts _ q_442) (fun _ h9 => h9) rfl (by decide +kernel) rfl rfl (Nat.le_of_ble_eq_true rfl) dX9_holdRow_2 (fun H locs hP hD hS => ?_)
  have hP : va_P J.1 cls [(sh, .inr (9, [.ref ce, .int 2, .int 0, .int 0, .int 0])), (ce, .inl (J.2.2.1, 60, .inr (.inl (fun _ => 0))))] H := hP
  have hD : va_D A [(sh, .inr (9, [.ref ce, .int 2, .int 0, .int 0, .int 0])), (ce, .inl (J.2.2.1, 60, .inr (.inl (fun _ => 0))))] := hD
  refine lv_aload_n hx hb dX9_holdRow_5 rfl (lv_at hl 0 rfl) ?_
  refine lv_iload_n hx hb dX9_holdRow_6 rfl (lv_at hl 1 rfl) ?_
  refine va_put (D := J.1) (ci := 9) (v := .int x) (ty := (.int)) (C := RX9) (T := TX9) (N := 5) hx hb hts inX9 tyX9 tyX9_ok nmX9 hown hK.1 hP hD hS 0 rfl rfl 3 (by decide) (hts _ q_445) (fun _ h9 => h9) rfl (by decide +kernel) rfl rfl (Nat.le_of_ble_eq_true rfl) dX9_holdRow_7 (fun H locs hP hD hS => ?_)
  have hP : va_P J.1 cls [(sh, .inr (9, [.ref ce, .int 2, .int 0, .int x, .int 0])), (ce, .inl (J.2.2.1, 60, .inr (.inl (fun _ => 0))))] H := hP
  have hD : va_D A [(sh, .inr (9, [.ref ce, .int 2, .int 0, .int x, .int 0])), (ce, .inl (J.2.2.1, 60, .inr (.inl (fun _ => 0))))] := hD
  refine lv_aload_n hx hb dX9_holdRow_10 rfl (lv_at hl 0 rfl) ?_
  refine lv_iload_n hx hb dX9_holdRow_11 rfl (lv_at hl 2 rfl) ?_
  refine va_put (D := J.1) (ci := 9) (v := .int n) (ty := (.int)) (C := RX9) (T := TX9) (N := 5) hx hb hts inX9 tyX9 tyX9_ok nmX9 hown hK.1 hP hD hS 0 rfl rfl 4 (by decide) (hts _ q_448) (fun _ h9 => h9) rfl (by decide +kernel) rfl rfl (Nat.le_of_ble_eq_true rfl) dX9_holdRow_12 (fun H locs hP hD hS => ?_)
  have hP : va_P J.1 cls [(sh, .inr (9, [.ref ce, .int 2, .int 0, .int x, .int n])), (ce, .inl (J.2.2.1, 60, .inr (.inl (fun _ => 0))))] H := hP
  have hD : va_D A [(sh, .inr (9, [.ref ce, .int 2, .int 0, .int x, .int n])), (ce, .inl (J.2.2.1, 60, .inr (.inl (fun _ => 0))))] := hD
  refine lv_iconst (v := 0) hx hb dX9_holdRow_15 (by decide) ?_
  refine lv_istore_n (lv' := [(3, .int 0), (0, .ref sh), (1, .int x), (2, .int n)]) hx hb dX9_holdRow_16 rfl hl (by decide) rfl (fun ls hl => ?_)
  have LP3 : ∀ (k1 i2 : Nat), i2 + k1 = 60 → ∀ (f4 : Nat → Int64), ∀ (H : Heap) (locs : List Loc) (ls : Array Slot), va_P J.1 cls [(sh, .inr (9, [.ref ce, .int 2, .int 0, .int x, .int n])), (ce, .inl (J.2.2.1, 60, .inr (.inl f4)))] H → va_D A [(sh, .inr (9, [.ref ce, .int 2, .int 0, .int x, .int n])), (ce, .inl (J.2.2.1, 60, .inr (.inl f4)))] → va_S A s.heap H locs → lv_has ls 4 [(3, .int (nI i2)), (0, .ref sh), (1, .int x), (2, .int n)] → W p l e ({ frames := 0, cells := 0, slots := 0, locals := 0 } : Room) s m ([.ref sh, .int x, .int n] : List Value).toArray below meth c H locs 0 0 (MQ below ((Qv J (fun (u : Unit) => True) (fun (_ : Unit) => [])) A) ([.ref sh, .int x, .int n] : List Value).toArray s 0 0 A) (F0 m 17 ls []) := by
    intro k1
    induction k1 with
    | zero =>
      intro i2 hi2 f4 H locs ls hP hD hS hl
      refine lv_iload_n hx hb dX9_holdRow_17 rfl (lv_at hl 0 rfl) ?_
      refine lv_bipush (v := 60) hx hb dX9_holdRow_18 (by decide) ?_
      refine lv_icmp_ge (tgt := 36) hx hb dX9_holdRow_20 (by decide) (fun _ => ?_) (fun c5 => absurd (show ¬ (60 ≤ ((i2 : Nat) : Int)) from fun h => c5 ((i_le (by decide) (nI_toInt (by omega))).mpr h)) (by omega))
      exact wz_v () hx hb hr hlk trivial (hP.sub (ws' := []) [] rfl) (hD.sub (ws' := []) [] (by decide) rfl) hS dX9_holdRow_36
    | succ k1 ih =>
      intro i2 hi2 f4 H locs ls hP hD hS hl
      refine lv_iload_n hx hb dX9_holdRow_17 rfl (lv_at hl 0 rfl) ?_
      refine lv_bipush (v := 60) hx hb dX9_holdRow_18 (by decide) ?_
      refine lv_icmp_ge (tgt := 36) hx hb dX9_holdRow_20 (by decide) (fun c6 => absurd (show 60 ≤ ((i2 : Nat) : Int) from (i_le (by decide) (nI_toInt (by omega))).mp c6) (by omega)) (fun _ => ?_)
      refine lv_aload_n hx hb dX9_holdRow_23 rfl (lv_at hl 1 rfl) ?_
      refine va_get (D := J.1) (ci := 9) (v := .ref ce) (C := RX9) (T := TX9) (N := 5) hx hb hts inX9 hown hK.1 hP 0 rfl rfl 0 (by decide) (hts _ q_440) (fun _ h9 => h9) rfl dX9_holdRow_24 ?_
      refine lv_iload_n hx hb dX9_holdRow_27 rfl (lv_at hl 0 rfl) ?_
      refine lv_lconst (v := 0) hx hb dX9_holdRow_28 (by decide) ?_
      have h7 : vp_in (nI i2) 60 := (i_in (a := ((i2 : Nat) : Int)) (nI_toInt (by omega)) (by omega) (by omega))
      refine va_last hx hb hK.1 hP hD hS 1 1 rfl rfl h7 dX9_holdRow_29 (fun H locs hP hD hS => ?_)
      have hP : va_P J.1 cls [(sh, .inr (9, [.ref ce, .int 2, .int 0, .int x, .int n])), (ce, .inl (J.2.2.1, 60, .inr (.inl (vp_updL f4 (nI i2).toNatClampNeg 0))))] H := hP
      have hD : va_D A [(sh, .inr (9, [.ref ce, .int 2, .int 0, .int x, .int n])), (ce, .inl (J.2.2.1, 60, .inr (.inl (vp_updL f4 (nI i2).toNatClampNeg 0))))] := hD
      refine lv_iinc (v := nI (i2 + 1)) (lv' := [(3, .int (nI (i2 + 1))), (0, .ref sh), (1, .int x), (2, .int n)]) hx hb dX9_holdRow_30 hl (k := 0) rfl (nI_inc _) (by decide) rfl (fun ls hl => ?_)
      refine lv_goto (tgt := 17) hx hb dX9_holdRow_33 (by decide) ?_
      exact ih (i2 + 1) (by omega) (vp_updL f4 (nI i2).toNatClampNeg 0) _ _ ls hP hD hS (lv_sub hl [0, 1, 2, 3] rfl)
  exact LP3 (60 - 0) 0 (by omega) (fun _ => 0) _ _ ls hP hD hS (lv_sub hl [0, 1, 2, 3] rfl)
theorem dX0_isKind_0 : decode cX0_isKind 0 = .ok (.iload_n 1, 1) := by decide +kernel
theorem dX0_isKind_1 : decode cX0_isKind 1 = .ok (.ifCond .lt 13, 3) := by decide +kernel
theorem dX0_isKind_14 : decode cX0_isKind 14 = .ok (.iconst 0, 1) := by decide +kernel
theorem dX0_isKind_15 : decode cX0_isKind 15 = .ok (.ireturn, 1) := by decide +kernel
theorem dX0_isKind_4 : decode cX0_isKind 4 = .ok (.iload_n 1, 1) := by decide +kernel
theorem dX0_isKind_5 : decode cX0_isKind 5 = .ok (.bipush 8, 2) := by decide +kernel
theorem dX0_isKind_7 : decode cX0_isKind 7 = .ok (.if_icmp .ge 7, 3) := by decide +kernel
theorem dX0_isKind_10 : decode cX0_isKind 10 = .ok (.iconst 1, 1) := by decide +kernel
theorem dX0_isKind_11 : decode cX0_isKind 11 = .ok (.goto 4, 3) := by decide +kernel
set_option maxHeartbeats 4000000 in
set_option maxRecDepth 100000 in
theorem cB_isKind (l : Launch) (J : va_J9) (b : Nat) (ki : Nat) (ra : Nat) (n : Int32) : RC l J yX0_isKind cX0_isKind 2 (some .boolean) ({ frames := 0, cells := 0, slots := 0, locals := 0 }) [.ref b, .int n] [(b, .inr (0, [.ref ki, .int 0, .ref ra, .int 0]))] (vp_Si (fun r => r = B01 (0 ≤ n.toInt ∧ n.toInt ≤ 7))) := by
  refine rc_of (by decide) (Nat.le_of_ble_eq_true rfl) ?_
  intro p e s m below meth c ls hE hl hP hK
  obtain ⟨hx, hb, hr, hml, hown, hts, hlk, hin⟩ := hE
  have hown : s.vm.findClass RX0 = some m.cls := hown
  have hl : lv_has ls 2 [(0, .ref b), (1, .int n)] := hl
  have rg_n := i_rng n
  refine lv_iload_n hx hb dX0_isKind_0 rfl (lv_at hl 1 rfl) ?_
  refine lv_if_lt (tgt := 14) hx hb dX0_isKind_1 (by decide) (fun c1 => ?_) (fun c1 => ?_)
  · have j2 : n.toInt < 0 := (i_lt rfl (by decide)).mp c1
    refine lv_iconst (v := 0) hx hb dX0_isKind_14 (by decide) ?_
    exact rz_z hx hb hr hlk (by decide) (b_f (by omega)) dX0_isKind_15
  · have j3 : ¬ (n.toInt < 0) := fun h => c1 ((i_lt rfl (by decide)).mpr h)
    refine lv_iload_n hx hb dX0_isKind_4 rfl (lv_at hl 1 rfl) ?_
    refine lv_bipush (v := 8) hx hb dX0_isKind_5 (by decide) ?_
    refine lv_icmp_ge (tgt := 14) hx hb dX0_isKind_7 (by decide) (fun c4 => ?_) (fun c4 => ?_)
    · have j5 : 8 ≤ n.toInt := (i_le (by decide) rfl).mp c4
      refine lv_iconst (v := 0) hx hb dX0_isKind_14 (by decide) ?_
      exact rz_z hx hb hr hlk (by decide) (b_f (by omega)) dX0_isKind_15
    · have j6 : ¬ (8 ≤ n.toInt) := fun h => c4 ((i_le (by decide) rfl).mpr h)
      refine lv_iconst (v := 1) hx hb dX0_isKind_10 (by decide) ?_
      refine lv_goto (tgt := 15) hx hb dX0_isKind_11 (by decide) ?_
      exact rz_z hx hb hr hlk (by decide) (b_t (by omega)) dX0_isKind_15
theorem dX0_isBody_0 : decode cX0_isBody 0 = .ok (.iload_n 1, 1) := by decide +kernel
theorem dX0_isBody_1 : decode cX0_isBody 1 = .ok (.ifCond .lt 15, 3) := by decide +kernel
theorem dX0_isBody_16 : decode cX0_isBody 16 = .ok (.iconst 0, 1) := by decide +kernel
theorem dX0_isBody_17 : decode cX0_isBody 17 = .ok (.ireturn, 1) := by decide +kernel
theorem dX0_isBody_4 : decode cX0_isBody 4 = .ok (.iload_n 1, 1) := by decide +kernel
theorem dX0_isBody_5 : decode cX0_isBody 5 = .ok (.aload_n 0, 1) := by decide +kernel
theorem q_419 : Cond.fieldLink RX0 18 RX0 "size" "I" ∈ lw_g := mem_q 419 (by decide +kernel) rfl
theorem dX0_isBody_6 : decode cX0_isBody 6 = .ok (.getfield 18, 3) := by decide +kernel
theorem dX0_isBody_9 : decode cX0_isBody 9 = .ok (.if_icmp .ge 7, 3) := by decide +kernel
set_option maxHeartbeats 4000000 in
set_option maxRecDepth 100000 in
theorem cB_isBody (l : Launch) (J : va_J9) (b : Nat) (ki : Nat) (ra : Nat) (n : Int32) : RC l J yX0_isBody cX0_isBody 2 (some .boolean) ({ frames := 0, cells := 0, slots := 0, locals := 0 }) [.ref b, .int n] [(b, .inr (0, [.ref ki, .int 0, .ref ra, .int 0]))] (vp_Si (fun r => r = 0)) := by
  refine rc_of (by decide) (Nat.le_of_ble_eq_true rfl) ?_
  intro p e s m below meth c ls hE hl hP hK
  obtain ⟨hx, hb, hr, hml, hown, hts, hlk, hin⟩ := hE
  have hown : s.vm.findClass RX0 = some m.cls := hown
  have hl : lv_has ls 2 [(0, .ref b), (1, .int n)] := hl
  have rg_n := i_rng n
  refine lv_iload_n hx hb dX0_isBody_0 rfl (lv_at hl 1 rfl) ?_
  refine lv_if_lt (tgt := 16) hx hb dX0_isBody_1 (by decide) (fun c1 => ?_) (fun c1 => ?_)
  · have j2 : n.toInt < 0 := (i_lt rfl (by decide)).mp c1
    refine lv_iconst (v := 0) hx hb dX0_isBody_16 (by decide) ?_
    exact rz_z hx hb hr hlk (by decide) (by decide) dX0_isBody_17
  · have j3 : ¬ (n.toInt < 0) := fun h => c1 ((i_lt rfl (by decide)).mpr h)
    refine lv_iload_n hx hb dX0_isBody_4 rfl (lv_at hl 1 rfl) ?_
    refine lv_aload_n hx hb dX0_isBody_5 rfl (lv_at hl 0 rfl) ?_
    refine va_get (D := J.1) (ci := 0) (v := .int 0) (C := RX0) (T := TX0) (N := 4) hx hb hts inX0 hown hK.1 hP 0 rfl rfl 1 (by decide) (hts _ q_419) (fun _ h9 => h9) rfl dX0_isBody_6 ?_
    refine lv_icmp_ge (tgt := 16) hx hb dX0_isBody_9 (by decide) (fun _ => ?_) (fun c4 => absurd (show ¬ (0 ≤ n.toInt) from fun h => c4 ((i_le (by decide) rfl).mpr h)) (by omega))
    refine lv_iconst (v := 0) hx hb dX0_isBody_16 (by decide) ?_
    exact rz_z hx hb hr hlk (by decide) (by decide) dX0_isBody_17
theorem dX0_add_0 : decode cX0_add 0 = .ok (.aload_n 0, 1) := by decide +kernel
theorem dX0_add_1 : decode cX0_add 1 = .ok (.getfield 18, 3) := by decide +kernel
theorem dX0_add_4 : decode cX0_add 4 = .ok (.bipush 50, 2) := by decide +kernel
theorem dX0_add_6 : decode cX0_add 6 = .ok (.if_icmp .lt 6, 3) := by decide +kernel
theorem dX0_add_12 : decode cX0_add 12 = .ok (.aload_n 0, 1) := by decide +kernel
theorem q_418 : Cond.fieldLink RX0 11 RX0 "kinds" "[I" ∈ lw_g := mem_q 418 (by decide +kernel) rfl
theorem dX0_add_13 : decode cX0_add 13 = .ok (.getfield 11, 3) := by decide +kernel
theorem dX0_add_16 : decode cX0_add 16 = .ok (.aload_n 0, 1) := by decide +kernel
theorem dX0_add_17 : decode cX0_add 17 = .ok (.dup, 1) := by decide +kernel
theorem dX0_add_18 : decode cX0_add 18 = .ok (.getfield 18, 3) := by decide +kernel
theorem dX0_add_21 : decode cX0_add 21 = .ok (.dup_x1, 1) := by decide +kernel
theorem dX0_add_22 : decode cX0_add 22 = .ok (.iconst 1, 1) := by decide +kernel
theorem dX0_add_23 : decode cX0_add 23 = .ok (.iadd, 1) := by decide +kernel
theorem dX0_add_24 : decode cX0_add 24 = .ok (.putfield 18, 3) := by decide +kernel
theorem dX0_add_27 : decode cX0_add 27 = .ok (.iload_n 1, 1) := by decide +kernel
theorem dX0_add_28 : decode cX0_add 28 = .ok (.iastore, 1) := by decide +kernel
theorem dX0_add_29 : decode cX0_add 29 = .ok (.aload_n 0, 1) := by decide +kernel
theorem dX0_add_30 : decode cX0_add 30 = .ok (.getfield 18, 3) := by decide +kernel
theorem dX0_add_33 : decode cX0_add 33 = .ok (.iconst 1, 1) := by decide +kernel
theorem dX0_add_34 : decode cX0_add 34 = .ok (.isub, 1) := by decide +kernel
theorem dX0_add_35 : decode cX0_add 35 = .ok (.ireturn, 1) := by decide +kernel
set_option maxHeartbeats 4000000 in
set_option maxRecDepth 100000 in
theorem cB_add (l : Launch) (J : va_J9) (sz : Nat) (b : Nat) (ki : Nat) (ra : Nat) (n : Int32) : WC l J yX0_add cX0_add 2 (some .int) ({ frames := 0, cells := 0, slots := 0, locals := 0 }) [.ref b, .int n] [(b, .inr (0, [.ref ki, .int 0, .ref ra, .int 0])), (ki, .inl (J.2.1, 50, .inl (fun _ => 0)))] sz (Qi J (fun (r : Int32) (_ : Unit) => r = 0) (fun (_ : Unit) => [])) 0 0 := by
  refine wc_of (by decide) (Nat.le_of_ble_eq_true rfl) ?_
  intro p e s m below meth c ls A hE hl hP hK hD hS hA
  obtain ⟨hx, hb, hr, hml, hown, hts, hlk, hin⟩ := hE
  have hown : s.vm.findClass RX0 = some m.cls := hown
  have hl : lv_has ls 2 [(0, .ref b), (1, .int n)] := hl
  have rg_n := i_rng n
  refine lv_aload_n hx hb dX0_add_0 rfl (lv_at hl 0 rfl) ?_
  refine va_get (D := J.1) (ci := 0) (v := .int 0) (C := RX0) (T := TX0) (N := 4) hx hb hts inX0 hown hK.1 hP 0 rfl rfl 1 (by decide) (hts _ q_419) (fun _ h9 => h9) rfl dX0_add_1 ?_
  refine lv_bipush (v := 50) hx hb dX0_add_4 (by decide) ?_
  refine lv_icmp_lt (tgt := 12) hx hb dX0_add_6 (by decide) (fun _ => ?_) (fun c => absurd c (by decide))
  refine lv_aload_n hx hb dX0_add_12 rfl (lv_at hl 0 rfl) ?_
  refine va_get (D := J.1) (ci := 0) (v := .ref ki) (C := RX0) (T := TX0) (N := 4) hx hb hts inX0 hown hK.1 hP 0 rfl rfl 0 (by decide) (hts _ q_418) (fun _ h9 => h9) rfl dX0_add_13 ?_
  refine lv_aload_n hx hb dX0_add_16 rfl (lv_at hl 0 rfl) ?_
  refine lv_dup hx hb dX0_add_17 rfl ?_
  refine va_get (D := J.1) (ci := 0) (v := .int 0) (C := RX0) (T := TX0) (N := 4) hx hb hts inX0 hown hK.1 hP 0 rfl rfl 1 (by decide) (hts _ q_419) (fun _ h9 => h9) rfl dX0_add_18 ?_
  refine lv_dup_x1 hx hb dX0_add_21 rfl rfl ?_
  refine lv_iconst (v := 1) hx hb dX0_add_22 (by decide) ?_
  refine lv_iadd hx hb dX0_add_23 ?_
  refine top_i (y := 1) (by decide) ?_
  refine va_put (D := J.1) (ci := 0) (v := .int 1) (ty := (.int)) (C := RX0) (T := TX0) (N := 4) hx hb hts inX0 tyX0 tyX0_ok nmX0 hown hK.1 hP hD hS 0 rfl rfl 1 (by decide) (hts _ q_419) (fun _ h9 => h9) rfl (by decide +kernel) rfl rfl (Nat.le_of_ble_eq_true rfl) dX0_add_24 (fun H locs hP hD hS => ?_)
  have hP : va_P J.1 cls [(b, .inr (0, [.ref ki, .int 1, .ref ra, .int 0])), (ki, .inl (J.2.1, 50, .inl (fun _ => 0)))] H := hP
  have hD : va_D A [(b, .inr (0, [.ref ki, .int 1, .ref ra, .int 0])), (ki, .inl (J.2.1, 50, .inl (fun _ => 0)))] := hD
  refine lv_iload_n hx hb dX0_add_27 rfl (lv_at hl 1 rfl) ?_
  have h1 : vp_in 0 50 := (i_in (a := 0) (by decide) (by omega) (by omega))
  refine va_iast hx hb hK.1 hP hD hS 1 0 rfl rfl h1 dX0_add_28 (fun H locs hP hD hS => ?_)
  have hP : va_P J.1 cls [(b, .inr (0, [.ref ki, .int 1, .ref ra, .int 0])), (ki, .inl (J.2.1, 50, .inl (upd (fun _ => 0) (0 : Int32).toNatClampNeg n)))] H := hP
  have hD : va_D A [(b, .inr (0, [.ref ki, .int 1, .ref ra, .int 0])), (ki, .inl (J.2.1, 50, .inl (upd (fun _ => 0) (0 : Int32).toNatClampNeg n)))] := hD
  refine lv_aload_n hx hb dX0_add_29 rfl (lv_at hl 0 rfl) ?_
  refine va_get (D := J.1) (ci := 0) (v := .int 1) (C := RX0) (T := TX0) (N := 4) hx hb hts inX0 hown hK.1 hP 0 rfl rfl 1 (by decide) (hts _ q_419) (fun _ h9 => h9) rfl dX0_add_30 ?_
  refine lv_iconst (v := 1) hx hb dX0_add_33 (by decide) ?_
  refine lv_isub hx hb dX0_add_34 ?_
  refine top_i (y := 0) (by decide) ?_
  exact wz_i () hx hb hr hlk (by decide) (hP.sub (ws' := []) [] rfl) (hD.sub (ws' := []) [] (by decide) rfl) hS dX0_add_35
theorem dX0_perform_0 : decode cX0_perform 0 = .ok (.aload_n 0, 1) := by decide +kernel
theorem dX0_perform_1 : decode cX0_perform 1 = .ok (.iconst 0, 1) := by decide +kernel
theorem q_422 : Cond.fieldLink RX0 36 RX0 "ranSize" "I" ∈ lw_g := mem_q 422 (by decide +kernel) rfl
theorem dX0_perform_2 : decode cX0_perform 2 = .ok (.putfield 36, 3) := by decide +kernel
theorem dX0_perform_5 : decode cX0_perform 5 = .ok (.aload_n 0, 1) := by decide +kernel
theorem dX0_perform_6 : decode cX0_perform 6 = .ok (.iload_n 1, 1) := by decide +kernel
theorem q_1160 : Cond.methodLink RX0 22 yX0_isBody ∈ lw_g := mem_q 1160 (by decide +kernel) rfl
theorem q_1161 : Cond.instanceMethod yX0_isBody ∈ lw_g := mem_q 1161 (by decide +kernel) rfl
theorem q_1162 : Cond.selects RX0 yX0_isBody yX0_isBody ∈ lw_g := mem_q 1162 (by decide +kernel) rfl
theorem q_113 : Cond.initialized RX0 ∈ lw_g := mem_q 113 (by decide +kernel) rfl
theorem q_1163 : Cond.code yX0_isBody cX0_isBody 2 (some .boolean) ∈ lw_g := mem_q 1163 (by decide +kernel) rfl
theorem kV_RX0_22 : CV RX0 22 RX0 yX0_isBody cX0_isBody 2 (some .boolean) 1 := cv_of q_1160 q_1161 q_1162 q_113 q_1163 (by decide +kernel)
theorem dX0_perform_7 : decode cX0_perform 7 = .ok (.invokevirtual 22, 3) := by decide +kernel
theorem dX0_perform_10 : decode cX0_perform 10 = .ok (.ifCond .eq 12, 3) := by decide +kernel
theorem dX0_perform_22 : decode cX0_perform 22 = .ok (.iconst 0, 1) := by decide +kernel
theorem dX0_perform_23 : decode cX0_perform 23 = .ok (.ireturn, 1) := by decide +kernel
set_option maxHeartbeats 4000000 in
set_option maxRecDepth 100000 in
theorem cB_perform (l : Launch) (J : va_J9) (sz : Nat) (b : Nat) (ki : Nat) (ra : Nat) (n : Int32) (x : Int32) (y : Int32) : WC l J yX0_perform cX0_perform 4 (some .int) ({ frames := 1, cells := 0, slots := 0, locals := 21 }) [.ref b, .int n, .int x, .int y] [(b, .inr (0, [.ref ki, .int 0, .ref ra, .int 0]))] sz (Qi J (fun (r : Int32) (_ : Unit) => r = 0) (fun (_ : Unit) => [])) 0 0 := by
  refine wc_of (by decide) (Nat.le_of_ble_eq_true rfl) ?_
  intro p e s m below meth c ls A hE hl hP hK hD hS hA
  obtain ⟨hx, hb, hr, hml, hown, hts, hlk, hin⟩ := hE
  have hown : s.vm.findClass RX0 = some m.cls := hown
  have hl : lv_has ls 4 [(0, .ref b), (1, .int n), (2, .int x), (3, .int y)] := hl
  have rg_n := i_rng n
  have rg_x := i_rng x
  have rg_y := i_rng y
  refine lv_aload_n hx hb dX0_perform_0 rfl (lv_at hl 0 rfl) ?_
  refine lv_iconst (v := 0) hx hb dX0_perform_1 (by decide) ?_
  refine va_put (D := J.1) (ci := 0) (v := .int 0) (ty := (.int)) (C := RX0) (T := TX0) (N := 4) hx hb hts inX0 tyX0 tyX0_ok nmX0 hown hK.1 hP hD hS 0 rfl rfl 3 (by decide) (hts _ q_422) (fun _ h9 => h9) rfl (by decide +kernel) rfl rfl (Nat.le_of_ble_eq_true rfl) dX0_perform_2 (fun H locs hP hD hS => ?_)
  have hP : va_P J.1 cls [(b, .inr (0, [.ref ki, .int 0, .ref ra, .int 0]))] H := hP
  have hD : va_D A [(b, .inr (0, [.ref ki, .int 0, .ref ra, .int 0]))] := hD
  refine lv_aload_n hx hb dX0_perform_5 rfl (lv_at hl 0 rfl) ?_
  refine lv_iload_n hx hb dX0_perform_6 rfl (lv_at hl 1 rfl) ?_
  refine go_i (rn_V (As := [.int n]) (rest := []) hx hb hml hown hts hK (cB_isBody l J b ki ra n) kV_RX0_22 hP rfl rfl rfl ⟨Nat.le_of_ble_eq_true rfl, Nat.le_of_ble_eq_true rfl⟩ rfl rfl rfl hl.1 rfl (Nat.le_of_ble_eq_true rfl) ⟨Nat.le_of_ble_eq_true rfl, Nat.le_of_ble_eq_true rfl⟩ dX0_perform_7) ?_
  refine lv_if_eq (tgt := 22) hx hb dX0_perform_10 (by decide) (fun _ => ?_) (fun c => absurd c (by decide))
  refine lv_iconst (v := 0) hx hb dX0_perform_22 (by decide) ?_
  exact wz_i () hx hb hr hlk (by decide) (hP.sub (ws' := []) [] rfl) (hD.sub (ws' := []) [] (by decide) rfl) hS dX0_perform_23
theorem dX0_ranAt_0 : decode cX0_ranAt 0 = .ok (.iload_n 1, 1) := by decide +kernel
theorem dX0_ranAt_1 : decode cX0_ranAt 1 = .ok (.ifCond .lt 26, 3) := by decide +kernel
theorem dX0_ranAt_27 : decode cX0_ranAt 27 = .ok (.iconst (-1), 1) := by decide +kernel
theorem dX0_ranAt_28 : decode cX0_ranAt 28 = .ok (.ireturn, 1) := by decide +kernel
theorem dX0_ranAt_4 : decode cX0_ranAt 4 = .ok (.iload_n 1, 1) := by decide +kernel
theorem dX0_ranAt_5 : decode cX0_ranAt 5 = .ok (.aload_n 0, 1) := by decide +kernel
theorem dX0_ranAt_6 : decode cX0_ranAt 6 = .ok (.getfield 36, 3) := by decide +kernel
theorem dX0_ranAt_9 : decode cX0_ranAt 9 = .ok (.if_icmp .ge 18, 3) := by decide +kernel
set_option maxHeartbeats 4000000 in
set_option maxRecDepth 100000 in
theorem cB_ranAt (l : Launch) (J : va_J9) (b : Nat) (ki : Nat) (ra : Nat) (n : Int32) : RC l J yX0_ranAt cX0_ranAt 2 (some .int) ({ frames := 0, cells := 0, slots := 0, locals := 0 }) [.ref b, .int n] [(b, .inr (0, [.ref ki, .int 0, .ref ra, .int 0]))] (vp_Si (fun r => r = (-1))) := by
  refine rc_of (by decide) (Nat.le_of_ble_eq_true rfl) ?_
  intro p e s m below meth c ls hE hl hP hK
  obtain ⟨hx, hb, hr, hml, hown, hts, hlk, hin⟩ := hE
  have hown : s.vm.findClass RX0 = some m.cls := hown
  have hl : lv_has ls 2 [(0, .ref b), (1, .int n)] := hl
  have rg_n := i_rng n
  refine lv_iload_n hx hb dX0_ranAt_0 rfl (lv_at hl 1 rfl) ?_
  refine lv_if_lt (tgt := 27) hx hb dX0_ranAt_1 (by decide) (fun c1 => ?_) (fun c1 => ?_)
  · have j2 : n.toInt < 0 := (i_lt rfl (by decide)).mp c1
    refine lv_iconst (v := (-1)) hx hb dX0_ranAt_27 (by decide) ?_
    exact rz_i hx hb hr hlk (by decide) dX0_ranAt_28
  · have j3 : ¬ (n.toInt < 0) := fun h => c1 ((i_lt rfl (by decide)).mpr h)
    refine lv_iload_n hx hb dX0_ranAt_4 rfl (lv_at hl 1 rfl) ?_
    refine lv_aload_n hx hb dX0_ranAt_5 rfl (lv_at hl 0 rfl) ?_
    refine va_get (D := J.1) (ci := 0) (v := .int 0) (C := RX0) (T := TX0) (N := 4) hx hb hts inX0 hown hK.1 hP 0 rfl rfl 3 (by decide) (hts _ q_422) (fun _ h9 => h9) rfl dX0_ranAt_6 ?_
    refine lv_icmp_ge (tgt := 27) hx hb dX0_ranAt_9 (by decide) (fun _ => ?_) (fun c4 => absurd (show ¬ (0 ≤ n.toInt) from fun h => c4 ((i_le (by decide) rfl).mpr h)) (by omega))
    refine lv_iconst (v := (-1)) hx hb dX0_ranAt_27 (by decide) ?_
    exact rz_i hx hb hr hlk (by decide) dX0_ranAt_28
theorem dX2_note_0 : decode cX2_note 0 = .ok (.aload_n 0, 1) := by decide +kernel
theorem q_229 : Cond.fieldLink RX2 28 RX2 "done" "I" ∈ lw_g := mem_q 229 (by decide +kernel) rfl
theorem dX2_note_1 : decode cX2_note 1 = .ok (.getfield 28, 3) := by decide +kernel
theorem dX2_note_4 : decode cX2_note 4 = .ok (.bipush 40, 2) := by decide +kernel
theorem dX2_note_6 : decode cX2_note 6 = .ok (.if_icmp .lt 7, 3) := by decide +kernel
theorem dX2_note_13 : decode cX2_note 13 = .ok (.aload_n 0, 1) := by decide +kernel
theorem q_224 : Cond.fieldLink RX2 11 RX2 "numbers" "[I" ∈ lw_g := mem_q 224 (by decide +kernel) rfl
theorem dX2_note_14 : decode cX2_note 14 = .ok (.getfield 11, 3) := by decide +kernel
theorem dX2_note_17 : decode cX2_note 17 = .ok (.aload_n 0, 1) := by decide +kernel
theorem dX2_note_18 : decode cX2_note 18 = .ok (.getfield 28, 3) := by decide +kernel
theorem dX2_note_21 : decode cX2_note 21 = .ok (.iload_n 1, 1) := by decide +kernel
theorem dX2_note_22 : decode cX2_note 22 = .ok (.iastore, 1) := by decide +kernel
theorem dX2_note_23 : decode cX2_note 23 = .ok (.aload_n 0, 1) := by decide +kernel
theorem q_225 : Cond.fieldLink RX2 15 RX2 "whats" "[I" ∈ lw_g := mem_q 225 (by decide +kernel) rfl
theorem dX2_note_24 : decode cX2_note 24 = .ok (.getfield 15, 3) := by decide +kernel
theorem dX2_note_27 : decode cX2_note 27 = .ok (.aload_n 0, 1) := by decide +kernel
theorem dX2_note_28 : decode cX2_note 28 = .ok (.getfield 28, 3) := by decide +kernel
theorem dX2_note_31 : decode cX2_note 31 = .ok (.iload_n 2, 1) := by decide +kernel
theorem dX2_note_32 : decode cX2_note 32 = .ok (.iastore, 1) := by decide +kernel
theorem dX2_note_33 : decode cX2_note 33 = .ok (.aload_n 0, 1) := by decide +kernel
theorem q_226 : Cond.fieldLink RX2 18 RX2 "befores" "[I" ∈ lw_g := mem_q 226 (by decide +kernel) rfl
theorem dX2_note_34 : decode cX2_note 34 = .ok (.getfield 18, 3) := by decide +kernel
theorem dX2_note_37 : decode cX2_note 37 = .ok (.aload_n 0, 1) := by decide +kernel
theorem dX2_note_38 : decode cX2_note 38 = .ok (.getfield 28, 3) := by decide +kernel
theorem dX2_note_41 : decode cX2_note 41 = .ok (.iload_n 3, 1) := by decide +kernel
theorem dX2_note_42 : decode cX2_note 42 = .ok (.iastore, 1) := by decide +kernel
theorem dX2_note_43 : decode cX2_note 43 = .ok (.aload_n 0, 1) := by decide +kernel
theorem q_227 : Cond.fieldLink RX2 21 RX2 "afters" "[I" ∈ lw_g := mem_q 227 (by decide +kernel) rfl
theorem dX2_note_44 : decode cX2_note 44 = .ok (.getfield 21, 3) := by decide +kernel
theorem dX2_note_47 : decode cX2_note 47 = .ok (.aload_n 0, 1) := by decide +kernel
theorem dX2_note_48 : decode cX2_note 48 = .ok (.getfield 28, 3) := by decide +kernel
theorem dX2_note_51 : decode cX2_note 51 = .ok (.iload 4, 2) := by decide +kernel
theorem dX2_note_53 : decode cX2_note 53 = .ok (.iastore, 1) := by decide +kernel
theorem dX2_note_54 : decode cX2_note 54 = .ok (.aload_n 0, 1) := by decide +kernel
theorem dX2_note_55 : decode cX2_note 55 = .ok (.dup, 1) := by decide +kernel
theorem dX2_note_56 : decode cX2_note 56 = .ok (.getfield 28, 3) := by decide +kernel
theorem dX2_note_59 : decode cX2_note 59 = .ok (.iconst 1, 1) := by decide +kernel
theorem dX2_note_60 : decode cX2_note 60 = .ok (.iadd, 1) := by decide +kernel
theorem dX2_note_61 : decode cX2_note 61 = .ok (.putfield 28, 3) := by decide +kernel
theorem dX2_note_64 : decode cX2_note 64 = .ok (.aload_n 0, 1) := by decide +kernel
theorem dX2_note_65 : decode cX2_note 65 = .ok (.aload_n 0, 1) := by decide +kernel
theorem dX2_note_66 : decode cX2_note 66 = .ok (.getfield 28, 3) := by decide +kernel
theorem q_228 : Cond.fieldLink RX2 35 RX2 "known" "I" ∈ lw_g := mem_q 228 (by decide +kernel) rfl
theorem dX2_note_69 : decode cX2_note 69 = .ok (.putfield 35, 3) := by decide +kernel
theorem dX2_note_72 : decode cX2_note 72 = .ok (.return_, 1) := by decide +kernel
set_option maxHeartbeats 4000000 in
set_option maxRecDepth 100000 in
theorem cC_note (l : Launch) (J : va_J9) (sz : Nat) (c0 : Nat) (w : Nat) (nu : Nat) (wh : Nat) (be : Nat) (af : Nat) (x : Int32) (y : Int32) (z : Int32) (v : Int32) : WC l J yX2_note cX2_note 5 none ({ frames := 0, cells := 0, slots := 0, locals := 0 }) [.ref c0, .int x, .int y, .int z, .int v] [(c0, .inr (2, [.ref w, .ref nu, .ref wh, .ref be, .ref af, .int 0, .int 0])), (nu, .inl (J.2.1, 40, .inl (fun _ => 0))), (wh, .inl (J.2.1, 40, .inl (fun _ => 0))), (be, .inl (J.2.1, 40, .inl (fun _ => 0))), (af, .inl (J.2.1, 40, .inl (fun _ => 0)))] sz (Qv J (fun (u : Unit) => True) (fun (_ : Unit) => [])) 0 0 := by
  refine wc_of (by decide) (Nat.le_of_ble_eq_true rfl) ?_
  intro p e s m below meth c ls A hE hl hP hK hD hS hA
  obtain ⟨hx, hb, hr, hml, hown, hts, hlk, hin⟩ := hE
  have hown : s.vm.findClass RX2 = some m.cls := hown
  have hl : lv_has ls 5 [(0, .ref c0), (1, .int x), (2, .int y), (3, .int z), (4, .int v)] := hl
  have rg_x := i_rng x
  have rg_y := i_rng y
  have rg_z := i_rng z
  have rg_v := i_rng v
  refine lv_aload_n hx hb dX2_note_0 rfl (lv_at hl 0 rfl) ?_
  refine va_get (D := J.1) (ci := 2) (v := .int 0) (C := RX2) (T := TX2) (N := 7) hx hb hts inX2 hown hK.1 hP 0 rfl rfl 6 (by decide) (hts _ q_229) (fun _ h9 => h9) rfl dX2_note_1 ?_
  refine lv_bipush (v := 40) hx hb dX2_note_4 (by decide) ?_
  refine lv_icmp_lt (tgt := 13) hx hb dX2_note_6 (by decide) (fun _ => ?_) (fun c => absurd c (by decide))
  refine lv_aload_n hx hb dX2_note_13 rfl (lv_at hl 0 rfl) ?_
  refine va_get (D := J.1) (ci := 2) (v := .ref nu) (C := RX2) (T := TX2) (N := 7) hx hb hts inX2 hown hK.1 hP 0 rfl rfl 1 (by decide) (hts _ q_224) (fun _ h9 => h9) rfl dX2_note_14 ?_
  refine lv_aload_n hx hb dX2_note_17 rfl (lv_at hl 0 rfl) ?_
  refine va_get (D := J.1) (ci := 2) (v := .int 0) (C := RX2) (T := TX2) (N := 7) hx hb hts inX2 hown hK.1 hP 0 rfl rfl 6 (by decide) (hts _ q_229) (fun _ h9 => h9) rfl dX2_note_18 ?_
  refine lv_iload_n hx hb dX2_note_21 rfl (lv_at hl 1 rfl) ?_
  have h1 : vp_in 0 40 := (i_in (a := 0) (by decide) (by omega) (by omega))
  refine va_iast hx hb hK.1 hP hD hS 1 0 rfl rfl h1 dX2_note_22 (fun H locs hP hD hS => ?_)
  have hP : va_P J.1 cls [(c0, .inr (2, [.ref w, .ref nu, .ref wh, .ref be, .ref af, .int 0, .int 0])), (nu, .inl (J.2.1, 40, .inl (upd (fun _ => 0) (0 : Int32).toNatClampNeg x))), (wh, .inl (J.2.1, 40, .inl (fun _ => 0))), (be, .inl (J.2.1, 40, .inl (fun _ => 0))), (af, .inl (J.2.1, 40, .inl (fun _ => 0)))] H := hP
  have hD : va_D A [(c0, .inr (2, [.ref w, .ref nu, .ref wh, .ref be, .ref af, .int 0, .int 0])), (nu, .inl (J.2.1, 40, .inl (upd (fun _ => 0) (0 : Int32).toNatClampNeg x))), (wh, .inl (J.2.1, 40, .inl (fun _ => 0))), (be, .inl (J.2.1, 40, .inl (fun _ => 0))), (af, .inl (J.2.1, 40, .inl (fun _ => 0)))] := hD
  refine lv_aload_n hx hb dX2_note_23 rfl (lv_at hl 0 rfl) ?_
  refine va_get (D := J.1) (ci := 2) (v := .ref wh) (C := RX2) (T := TX2) (N := 7) hx hb hts inX2 hown hK.1 hP 0 rfl rfl 2 (by decide) (hts _ q_225) (fun _ h9 => h9) rfl dX2_note_24 ?_
  refine lv_aload_n hx hb dX2_note_27 rfl (lv_at hl 0 rfl) ?_
  refine va_get (D := J.1) (ci := 2) (v := .int 0) (C := RX2) (T := TX2) (N := 7) hx hb hts inX2 hown hK.1 hP 0 rfl rfl 6 (by decide) (hts _ q_229) (fun _ h9 => h9) rfl dX2_note_28 ?_
  refine lv_iload_n hx hb dX2_note_31 rfl (lv_at hl 2 rfl) ?_
  have h2 : vp_in 0 40 := (i_in (a := 0) (by decide) (by omega) (by omega))
  refine va_iast hx hb hK.1 hP hD hS 2 0 rfl rfl h2 dX2_note_32 (fun H locs hP hD hS => ?_)
  have hP : va_P J.1 cls [(c0, .inr (2, [.ref w, .ref nu, .ref wh, .ref be, .ref af, .int 0, .int 0])), (nu, .inl (J.2.1, 40, .inl (upd (fun _ => 0) (0 : Int32).toNatClampNeg x))), (wh, .inl (J.2.1, 40, .inl (upd (fun _ => 0) (0 : Int32).toNatClampNeg y))), (be, .inl (J.2.1, 40, .inl (fun _ => 0))), (af, .inl (J.2.1, 40, .inl (fun _ => 0)))] H := hP
  have hD : va_D A [(c0, .inr (2, [.ref w, .ref nu, .ref wh, .ref be, .ref af, .int 0, .int 0])), (nu, .inl (J.2.1, 40, .inl (upd (fun _ => 0) (0 : Int32).toNatClampNeg x))), (wh, .inl (J.2.1, 40, .inl (upd (fun _ => 0) (0 : Int32).toNatClampNeg y))), (be, .inl (J.2.1, 40, .inl (fun _ => 0))), (af, .inl (J.2.1, 40, .inl (fun _ => 0)))] := hD
  refine lv_aload_n hx hb dX2_note_33 rfl (lv_at hl 0 rfl) ?_
  refine va_get (D := J.1) (ci := 2) (v := .ref be) (C := RX2) (T := TX2) (N := 7) hx hb hts inX2 hown hK.1 hP 0 rfl rfl 3 (by decide) (hts _ q_226) (fun _ h9 => h9) rfl dX2_note_34 ?_
  refine lv_aload_n hx hb dX2_note_37 rfl (lv_at hl 0 rfl) ?_
  refine va_get (D := J.1) (ci := 2) (v := .int 0) (C := RX2) (T := TX2) (N := 7) hx hb hts inX2 hown hK.1 hP 0 rfl rfl 6 (by decide) (hts _ q_229) (fun _ h9 => h9) rfl dX2_note_38 ?_
  refine lv_iload_n hx hb dX2_note_41 rfl (lv_at hl 3 rfl) ?_
  have h3 : vp_in 0 40 := (i_in (a := 0) (by decide) (by omega) (by omega))
  refine va_iast hx hb hK.1 hP hD hS 3 0 rfl rfl h3 dX2_note_42 (fun H locs hP hD hS => ?_)
  have hP : va_P J.1 cls [(c0, .inr (2, [.ref w, .ref nu, .ref wh, .ref be, .ref af, .int 0, .int 0])), (nu, .inl (J.2.1, 40, .inl (upd (fun _ => 0) (0 : Int32).toNatClampNeg x))), (wh, .inl (J.2.1, 40, .inl (upd (fun _ => 0) (0 : Int32).toNatClampNeg y))), (be, .inl (J.2.1, 40, .inl (upd (fun _ => 0) (0 : Int32).toNatClampNeg z))), (af, .inl (J.2.1, 40, .inl (fun _ => 0)))] H := hP
  have hD : va_D A [(c0, .inr (2, [.ref w, .ref nu, .ref wh, .ref be, .ref af, .int 0, .int 0])), (nu, .inl (J.2.1, 40, .inl (upd (fun _ => 0) (0 : Int32).toNatClampNeg x))), (wh, .inl (J.2.1, 40, .inl (upd (fun _ => 0) (0 : Int32).toNatClampNeg y))), (be, .inl (J.2.1, 40, .inl (upd (fun _ => 0) (0 : Int32).toNatClampNeg z))), (af, .inl (J.2.1, 40, .inl (fun _ => 0)))] := hD
  refine lv_aload_n hx hb dX2_note_43 rfl (lv_at hl 0 rfl) ?_
  refine va_get (D := J.1) (ci := 2) (v := .ref af) (C := RX2) (T := TX2) (N := 7) hx hb hts inX2 hown hK.1 hP 0 rfl rfl 4 (by decide) (hts _ q_227) (fun _ h9 => h9) rfl dX2_note_44 ?_
  refine lv_aload_n hx hb dX2_note_47 rfl (lv_at hl 0 rfl) ?_
  refine va_get (D := J.1) (ci := 2) (v := .int 0) (C := RX2) (T := TX2) (N := 7) hx hb hts inX2 hown hK.1 hP 0 rfl rfl 6 (by decide) (hts _ q_229) (fun _ h9 => h9) rfl dX2_note_48 ?_
  refine lv_iload hx hb dX2_note_51 (lv_at hl 4 rfl) ?_
  have h4 : vp_in 0 40 := (i_in (a := 0) (by decide) (by omega) (by omega))
  refine va_iast hx hb hK.1 hP hD hS 4 0 rfl rfl h4 dX2_note_53 (fun H locs hP hD hS => ?_)
  have hP : va_P J.1 cls [(c0, .inr (2, [.ref w, .ref nu, .ref wh, .ref be, .ref af, .int 0, .int 0])), (nu, .inl (J.2.1, 40, .inl (upd (fun _ => 0) (0 : Int32).toNatClampNeg x))), (wh, .inl (J.2.1, 40, .inl (upd (fun _ => 0) (0 : Int32).toNatClampNeg y))), (be, .inl (J.2.1, 40, .inl (upd (fun _ => 0) (0 : Int32).toNatClampNeg z))), (af, .inl (J.2.1, 40, .inl (upd (fun _ => 0) (0 : Int32).toNatClampNeg v)))] H := hP
  have hD : va_D A [(c0, .inr (2, [.ref w, .ref nu, .ref wh, .ref be, .ref af, .int 0, .int 0])), (nu, .inl (J.2.1, 40, .inl (upd (fun _ => 0) (0 : Int32).toNatClampNeg x))), (wh, .inl (J.2.1, 40, .inl (upd (fun _ => 0) (0 : Int32).toNatClampNeg y))), (be, .inl (J.2.1, 40, .inl (upd (fun _ => 0) (0 : Int32).toNatClampNeg z))), (af, .inl (J.2.1, 40, .inl (upd (fun _ => 0) (0 : Int32).toNatClampNeg v)))] := hD
  refine lv_aload_n hx hb dX2_note_54 rfl (lv_at hl 0 rfl) ?_
  refine lv_dup hx hb dX2_note_55 rfl ?_
  refine va_get (D := J.1) (ci := 2) (v := .int 0) (C := RX2) (T := TX2) (N := 7) hx hb hts inX2 hown hK.1 hP 0 rfl rfl 6 (by decide) (hts _ q_229) (fun _ h9 => h9) rfl dX2_note_56 ?_
  refine lv_iconst (v := 1) hx hb dX2_note_59 (by decide) ?_
  refine lv_iadd hx hb dX2_note_60 ?_
  refine top_i (y := 1) (by decide) ?_
  refine va_put (D := J.1) (ci := 2) (v := .int 1) (ty := (.int)) (C := RX2) (T := TX2) (N := 7) hx hb hts inX2 tyX2 tyX2_ok nmX2 hown hK.1 hP hD hS 0 rfl rfl 6 (by decide) (hts _ q_229) (fun _ h9 => h9) rfl (by decide +kernel) rfl rfl (Nat.le_of_ble_eq_true rfl) dX2_note_61 (fun H locs hP hD hS => ?_)
  have hP : va_P J.1 cls [(c0, .inr (2, [.ref w, .ref nu, .ref wh, .ref be, .ref af, .int 0, .int 1])), (nu, .inl (J.2.1, 40, .inl (upd (fun _ => 0) (0 : Int32).toNatClampNeg x))), (wh, .inl (J.2.1, 40, .inl (upd (fun _ => 0) (0 : Int32).toNatClampNeg y))), (be, .inl (J.2.1, 40, .inl (upd (fun _ => 0) (0 : Int32).toNatClampNeg z))), (af, .inl (J.2.1, 40, .inl (upd (fun _ => 0) (0 : Int32).toNatClampNeg v)))] H := hP
  have hD : va_D A [(c0, .inr (2, [.ref w, .ref nu, .ref wh, .ref be, .ref af, .int 0, .int 1])), (nu, .inl (J.2.1, 40, .inl (upd (fun _ => 0) (0 : Int32).toNatClampNeg x))), (wh, .inl (J.2.1, 40, .inl (upd (fun _ => 0) (0 : Int32).toNatClampNeg y))), (be, .inl (J.2.1, 40, .inl (upd (fun _ => 0) (0 : Int32).toNatClampNeg z))), (af, .inl (J.2.1, 40, .inl (upd (fun _ => 0) (0 : Int32).toNatClampNeg v)))] := hD
  refine lv_aload_n hx hb dX2_note_64 rfl (lv_at hl 0 rfl) ?_
  refine lv_aload_n hx hb dX2_note_65 rfl (lv_at hl 0 rfl) ?_
  refine va_get (D := J.1) (ci := 2) (v := .int 1) (C := RX2) (T := TX2) (N := 7) hx hb hts inX2 hown hK.1 hP 0 rfl rfl 6 (by decide) (hts _ q_229) (fun _ h9 => h9) rfl dX2_note_66 ?_
  refine va_put (D := J.1) (ci := 2) (v := .int 1) (ty := (.int)) (C := RX2) (T := TX2) (N := 7) hx hb hts inX2 tyX2 tyX2_ok nmX2 hown hK.1 hP hD hS 0 rfl rfl 5 (by decide) (hts _ q_228) (fun _ h9 => h9) rfl (by decide +kernel) rfl rfl (Nat.le_of_ble_eq_true rfl) dX2_note_69 (fun H locs hP hD hS => ?_)
  have hP : va_P J.1 cls [(c0, .inr (2, [.ref w, .ref nu, .ref wh, .ref be, .ref af, .int 1, .int 1])), (nu, .inl (J.2.1, 40, .inl (upd (fun _ => 0) (0 : Int32).toNatClampNeg x))), (wh, .inl (J.2.1, 40, .inl (upd (fun _ => 0) (0 : Int32).toNatClampNeg y))), (be, .inl (J.2.1, 40, .inl (upd (fun _ => 0) (0 : Int32).toNatClampNeg z))), (af, .inl (J.2.1, 40, .inl (upd (fun _ => 0) (0 : Int32).toNatClampNeg v)))] H := hP
  have hD : va_D A [(c0, .inr (2, [.ref w, .ref nu, .ref wh, .ref be, .ref af, .int 1, .int 1])), (nu, .inl (J.2.1, 40, .inl (upd (fun _ => 0) (0 : Int32).toNatClampNeg x))), (wh, .inl (J.2.1, 40, .inl (upd (fun _ => 0) (0 : Int32).toNatClampNeg y))), (be, .inl (J.2.1, 40, .inl (upd (fun _ => 0) (0 : Int32).toNatClampNeg z))), (af, .inl (J.2.1, 40, .inl (upd (fun _ => 0) (0 : Int32).toNatClampNeg v)))] := hD
  exact wz_v () hx hb hr hlk trivial (hP.sub (ws' := []) [] rfl) (hD.sub (ws' := []) [] (by decide) rfl) hS dX2_note_72
theorem dX2_takeBack_0 : decode cX2_takeBack 0 = .ok (.aload_n 0, 1) := by decide +kernel
theorem dX2_takeBack_1 : decode cX2_takeBack 1 = .ok (.getfield 28, 3) := by decide +kernel
theorem dX2_takeBack_4 : decode cX2_takeBack 4 = .ok (.ifCond .gt 6, 3) := by decide +kernel
theorem dX2_takeBack_7 : decode cX2_takeBack 7 = .ok (.bipush (-5), 2) := by decide +kernel
theorem dX2_takeBack_9 : decode cX2_takeBack 9 = .ok (.ireturn, 1) := by decide +kernel
set_option maxHeartbeats 4000000 in
set_option maxRecDepth 100000 in
theorem cC_takeBack (l : Launch) (J : va_J9) (c0 : Nat) (w : Nat) (nu : Nat) (wh : Nat) (be : Nat) (af : Nat) : RC l J yX2_takeBack cX2_takeBack 1 (some .int) ({ frames := 0, cells := 0, slots := 0, locals := 0 }) [.ref c0] [(c0, .inr (2, [.ref w, .ref nu, .ref wh, .ref be, .ref af, .int 0, .int 0]))] (vp_Si (fun r => r = (-5))) := by
  refine rc_of (by decide) (Nat.le_of_ble_eq_true rfl) ?_
  intro p e s m below meth c ls hE hl hP hK
  obtain ⟨hx, hb, hr, hml, hown, hts, hlk, hin⟩ := hE
  have hown : s.vm.findClass RX2 = some m.cls := hown
  have hl : lv_has ls 1 [(0, .ref c0)] := hl
  refine lv_aload_n hx hb dX2_takeBack_0 rfl (lv_at hl 0 rfl) ?_
  refine va_get (D := J.1) (ci := 2) (v := .int 0) (C := RX2) (T := TX2) (N := 7) hx hb hts inX2 hown hK.1 hP 0 rfl rfl 6 (by decide) (hts _ q_229) (fun _ h9 => h9) rfl dX2_takeBack_1 ?_
  refine lv_if_gt (tgt := 10) hx hb dX2_takeBack_4 (by decide) (fun c => absurd c (by decide)) (fun _ => ?_)
  refine lv_bipush (v := (-5)) hx hb dX2_takeBack_7 (by decide) ?_
  exact rz_i hx hb hr hlk (by decide) dX2_takeBack_9
theorem dX2_doAgain_0 : decode cX2_doAgain 0 = .ok (.aload_n 0, 1) := by decide +kernel
theorem dX2_doAgain_1 : decode cX2_doAgain 1 = .ok (.getfield 28, 3) := by decide +kernel
theorem dX2_doAgain_4 : decode cX2_doAgain 4 = .ok (.aload_n 0, 1) := by decide +kernel
theorem dX2_doAgain_5 : decode cX2_doAgain 5 = .ok (.getfield 35, 3) := by decide +kernel
theorem dX2_doAgain_8 : decode cX2_doAgain 8 = .ok (.if_icmp .ge 12, 3) := by decide +kernel
theorem dX2_doAgain_20 : decode cX2_doAgain 20 = .ok (.bipush (-5), 2) := by decide +kernel
theorem dX2_doAgain_22 : decode cX2_doAgain 22 = .ok (.ireturn, 1) := by decide +kernel
set_option maxHeartbeats 4000000 in
set_option maxRecDepth 100000 in
theorem cC_doAgain (l : Launch) (J : va_J9) (c0 : Nat) (w : Nat) (nu : Nat) (wh : Nat) (be : Nat) (af : Nat) : RC l J yX2_doAgain cX2_doAgain 1 (some .int) ({ frames := 0, cells := 0, slots := 0, locals := 0 }) [.ref c0] [(c0, .inr (2, [.ref w, .ref nu, .ref wh, .ref be, .ref af, .int 0, .int 0]))] (vp_Si (fun r => r = (-5))) := by
  refine rc_of (by decide) (Nat.le_of_ble_eq_true rfl) ?_
  intro p e s m below meth c ls hE hl hP hK
  obtain ⟨hx, hb, hr, hml, hown, hts, hlk, hin⟩ := hE
  have hown : s.vm.findClass RX2 = some m.cls := hown
  have hl : lv_has ls 1 [(0, .ref c0)] := hl
  refine lv_aload_n hx hb dX2_doAgain_0 rfl (lv_at hl 0 rfl) ?_
  refine va_get (D := J.1) (ci := 2) (v := .int 0) (C := RX2) (T := TX2) (N := 7) hx hb hts inX2 hown hK.1 hP 0 rfl rfl 6 (by decide) (hts _ q_229) (fun _ h9 => h9) rfl dX2_doAgain_1 ?_
  refine lv_aload_n hx hb dX2_doAgain_4 rfl (lv_at hl 0 rfl) ?_
  refine va_get (D := J.1) (ci := 2) (v := .int 0) (C := RX2) (T := TX2) (N := 7) hx hb hts inX2 hown hK.1 hP 0 rfl rfl 5 (by decide) (hts _ q_228) (fun _ h9 => h9) rfl dX2_doAgain_5 ?_
  refine lv_icmp_ge (tgt := 20) hx hb dX2_doAgain_8 (by decide) (fun _ => ?_) (fun c => absurd c (by decide))
  refine lv_bipush (v := (-5)) hx hb dX2_doAgain_20 (by decide) ?_
  exact rz_i hx hb hr hlk (by decide) dX2_doAgain_22
theorem dX4_seed_0 : decode cX4_seed 0 = .ok (.aload_n 0, 1) := by decide +kernel
theorem dX4_seed_1 : decode cX4_seed 1 = .ok (.iload_n 1, 1) := by decide +kernel
theorem q_368 : Cond.fieldLink RX4 15 RX4 "z" "I" ∈ lw_g := mem_q 368 (by decide +kernel) rfl
theorem dX4_seed_2 : decode cX4_seed 2 = .ok (.putfield 15, 3) := by decide +kernel
theorem dX4_seed_5 : decode cX4_seed 5 = .ok (.return_, 1) := by decide +kernel
set_option maxHeartbeats 4000000 in
set_option maxRecDepth 100000 in
theorem cD_seed (l : Launch) (J : va_J9) (sz : Nat) (d : Nat) (w : Nat) (z : Int32) (x : Int32) : WC l J yX4_seed cX4_seed 2 none ({ frames := 0, cells := 0, slots := 0, locals := 0 }) [.ref d, .int x] [(d, .inr (4, [.ref w, .int z]))] sz (Qv J (fun (u : Unit) => True) (fun (_ : Unit) => [(d, .inr (4, [.ref w, .int x]))])) 0 0 := by
  refine wc_of (by decide) (Nat.le_of_ble_eq_true rfl) ?_
  intro p e s m below meth c ls A hE hl hP hK hD hS hA
  obtain ⟨hx, hb, hr, hml, hown, hts, hlk, hin⟩ := hE
  have hown : s.vm.findClass RX4 = some m.cls := hown
  have hl : lv_has ls 2 [(0, .ref d), (1, .int x)] := hl
  have rg_x := i_rng x
  refine lv_aload_n hx hb dX4_seed_0 rfl (lv_at hl 0 rfl) ?_
  refine lv_iload_n hx hb dX4_seed_1 rfl (lv_at hl 1 rfl) ?_
  refine va_put (D := J.1) (ci := 4) (v := .int x) (ty := (.int)) (C := RX4) (T := TX4) (N := 2) hx hb hts inX4 tyX4 tyX4_ok nmX4 hown hK.1 hP hD hS 0 rfl rfl 1 (by decide) (hts _ q_368) (fun _ h9 => h9) rfl (by decide +kernel) rfl rfl (Nat.le_of_ble_eq_true rfl) dX4_seed_2 (fun H locs hP hD hS => ?_)
  have hP : va_P J.1 cls [(d, .inr (4, [.ref w, .int x]))] H := hP
  have hD : va_D A [(d, .inr (4, [.ref w, .int x]))] := hD
  exact wz_v () hx hb hr hlk trivial hP hD hS dX4_seed_5
theorem dX3_copy_0 : decode cX3_copy 0 = .ok (.aload_n 1, 1) := by decide +kernel
theorem q_385 : Cond.fieldLink RX3 9 RX3 "vain" "[I" ∈ lw_g := mem_q 385 (by decide +kernel) rfl
theorem dX3_copy_1 : decode cX3_copy 1 = .ok (.getfield 9, 3) := by decide +kernel
theorem dX3_copy_4 : decode cX3_copy 4 = .ok (.iconst 0, 1) := by decide +kernel
theorem dX3_copy_5 : decode cX3_copy 5 = .ok (.aload_n 0, 1) := by decide +kernel
theorem dX3_copy_6 : decode cX3_copy 6 = .ok (.getfield 9, 3) := by decide +kernel
theorem dX3_copy_9 : decode cX3_copy 9 = .ok (.iconst 0, 1) := by decide +kernel
theorem dX3_copy_10 : decode cX3_copy 10 = .ok (.bipush 10, 2) := by decide +kernel
theorem q_1114 : Cond.methodLink RX3 70 ⟨"java/lang/System", "arraycopy", "(Ljava/lang/Object;ILjava/lang/Object;II)V"⟩ ∈ lw_g := mem_q 1114 (by decide +kernel) rfl
theorem q_728 : Cond.native ⟨"java/lang/System", "arraycopy", "(Ljava/lang/Object;ILjava/lang/Object;II)V"⟩ ∈ lw_g := mem_q 728 (by decide +kernel) rfl
theorem q_727 : Cond.static ⟨"java/lang/System", "arraycopy", "(Ljava/lang/Object;ILjava/lang/Object;II)V"⟩ ∈ lw_g := mem_q 727 (by decide +kernel) rfl
theorem q_118 : Cond.initialized RJ10 ∈ lw_g := mem_q 118 (by decide +kernel) rfl
theorem dX3_copy_12 : decode cX3_copy 12 = .ok (.invokestatic 70, 3) := by decide +kernel
theorem dX3_copy_15 : decode cX3_copy 15 = .ok (.aload_n 0, 1) := by decide +kernel
theorem q_384 : Cond.fieldLink RX3 24 RX3 "dice" "LFoxHoles$Dice;" ∈ lw_g := mem_q 384 (by decide +kernel) rfl
theorem dX3_copy_16 : decode cX3_copy 16 = .ok (.getfield 24, 3) := by decide +kernel
theorem dX3_copy_19 : decode cX3_copy 19 = .ok (.aload_n 1, 1) := by decide +kernel
theorem dX3_copy_20 : decode cX3_copy 20 = .ok (.getfield 24, 3) := by decide +kernel
theorem q_369 : Cond.fieldLink RX3 76 RX4 "z" "I" ∈ lw_g := mem_q 369 (by decide +kernel) rfl
theorem dX3_copy_23 : decode cX3_copy 23 = .ok (.getfield 76, 3) := by decide +kernel
theorem q_1088 : Cond.methodLink RX3 28 yX4_seed ∈ lw_g := mem_q 1088 (by decide +kernel) rfl
theorem q_1051 : Cond.instanceMethod yX4_seed ∈ lw_g := mem_q 1051 (by decide +kernel) rfl
theorem q_1052 : Cond.selects RX4 yX4_seed yX4_seed ∈ lw_g := mem_q 1052 (by decide +kernel) rfl
theorem q_111 : Cond.initialized RX4 ∈ lw_g := mem_q 111 (by decide +kernel) rfl
theorem q_1053 : Cond.code yX4_seed cX4_seed 2 none ∈ lw_g := mem_q 1053 (by decide +kernel) rfl
theorem kV_RX3_28 : CV RX3 28 RX4 yX4_seed cX4_seed 2 none 1 := cv_of q_1088 q_1051 q_1052 q_111 q_1053 (by decide +kernel)
theorem dX3_copy_26 : decode cX3_copy 26 = .ok (.invokevirtual 28, 3) := by decide +kernel
theorem dX3_copy_29 : decode cX3_copy 29 = .ok (.aload_n 0, 1) := by decide +kernel
theorem dX3_copy_30 : decode cX3_copy 30 = .ok (.aload_n 1, 1) := by decide +kernel
theorem q_386 : Cond.fieldLink RX3 36 RX3 "fox" "I" ∈ lw_g := mem_q 386 (by decide +kernel) rfl
theorem dX3_copy_31 : decode cX3_copy 31 = .ok (.getfield 36, 3) := by decide +kernel
theorem dX3_copy_34 : decode cX3_copy 34 = .ok (.putfield 36, 3) := by decide +kernel
theorem dX3_copy_37 : decode cX3_copy 37 = .ok (.aload_n 0, 1) := by decide +kernel
theorem dX3_copy_38 : decode cX3_copy 38 = .ok (.aload_n 1, 1) := by decide +kernel
theorem q_387 : Cond.fieldLink RX3 40 RX3 "hidden" "Z" ∈ lw_g := mem_q 387 (by decide +kernel) rfl
theorem dX3_copy_39 : decode cX3_copy 39 = .ok (.getfield 40, 3) := by decide +kernel
theorem dX3_copy_42 : decode cX3_copy 42 = .ok (.putfield 40, 3) := by decide +kernel
theorem dX3_copy_45 : decode cX3_copy 45 = .ok (.aload_n 0, 1) := by decide +kernel
theorem dX3_copy_46 : decode cX3_copy 46 = .ok (.aload_n 1, 1) := by decide +kernel
theorem q_389 : Cond.fieldLink RX3 44 RX3 "day" "I" ∈ lw_g := mem_q 389 (by decide +kernel) rfl
theorem dX3_copy_47 : decode cX3_copy 47 = .ok (.getfield 44, 3) := by decide +kernel
theorem dX3_copy_50 : decode cX3_copy 50 = .ok (.putfield 44, 3) := by decide +kernel
theorem dX3_copy_53 : decode cX3_copy 53 = .ok (.aload_n 0, 1) := by decide +kernel
theorem dX3_copy_54 : decode cX3_copy 54 = .ok (.aload_n 1, 1) := by decide +kernel
theorem q_391 : Cond.fieldLink RX3 52 RX3 "where" "I" ∈ lw_g := mem_q 391 (by decide +kernel) rfl
theorem dX3_copy_55 : decode cX3_copy 55 = .ok (.getfield 52, 3) := by decide +kernel
theorem dX3_copy_58 : decode cX3_copy 58 = .ok (.putfield 52, 3) := by decide +kernel
theorem dX3_copy_61 : decode cX3_copy 61 = .ok (.aload_n 0, 1) := by decide +kernel
theorem dX3_copy_62 : decode cX3_copy 62 = .ok (.aload_n 1, 1) := by decide +kernel
theorem q_393 : Cond.fieldLink RX3 59 RX3 "foxes" "I" ∈ lw_g := mem_q 393 (by decide +kernel) rfl
theorem dX3_copy_63 : decode cX3_copy 63 = .ok (.getfield 59, 3) := by decide +kernel
theorem dX3_copy_66 : decode cX3_copy 66 = .ok (.putfield 59, 3) := by decide +kernel
theorem dX3_copy_69 : decode cX3_copy 69 = .ok (.return_, 1) := by decide +kernel
set_option maxHeartbeats 4000000 in
set_option maxRecDepth 100000 in
theorem cD_copy (l : Launch) (J : va_J9) (sz : Nat) (ed : Nat) (o : Nat) (w : Nat) (d1 : Nat) (v1 : Nat) (d2 : Nat) (v2 : Nat) : WC l J yX3_copy cX3_copy 2 none ({ frames := 1, cells := 0, slots := 0, locals := 80 }) [.ref ed, .ref o] [(ed, .inr (3, [.ref w, .ref d1, .ref v1, .int 0, .int 0, .int 0, .int 0, .int 0])), (o, .inr (3, [.ref w, .ref d2, .ref v2, .int 0, .int 0, .int 0, .int 0, .int 0])), (d1, .inr (4, [.ref w, .int 0])), (d2, .inr (4, [.ref w, .int 0])), (v1, .inl (J.2.1, 10, .inl (fun _ => 0))), (v2, .inl (J.2.1, 10, .inl (fun _ => 0)))] sz (Qv J (fun (u : Unit) => True) (fun (_ : Unit) => [(o, .inr (3, [.ref w, .ref d2, .ref v2, .int 0, .int 0, .int 0, .int 0, .int 0]))])) 0 0 := by
  refine wc_of (by decide) (Nat.le_of_ble_eq_true rfl) ?_
  intro p e s m below meth c ls A hE hl hP hK hD hS hA
  obtain ⟨hx, hb, hr, hml, hown, hts, hlk, hin⟩ := hE
  have hown : s.vm.findClass RX3 = some m.cls := hown
  have hl : lv_has ls 2 [(0, .ref ed), (1, .ref o)] := hl
  refine lv_aload_n hx hb dX3_copy_0 rfl (lv_at hl 1 rfl) ?_
  refine va_get (D := J.1) (ci := 3) (v := .ref v2) (C := RX3) (T := TX3) (N := 8) hx hb hts inX3 hown hK.1 hP 1 rfl rfl 2 (by decide) (hts _ q_385) (fun _ h9 => h9) rfl dX3_copy_1 ?_
  refine lv_iconst (v := 0) hx hb dX3_copy_4 (by decide) ?_
  refine lv_aload_n hx hb dX3_copy_5 rfl (lv_at hl 0 rfl) ?_
  refine va_get (D := J.1) (ci := 3) (v := .ref v1) (C := RX3) (T := TX3) (N := 8) hx hb hts inX3 hown hK.1 hP 0 rfl rfl 2 (by decide) (hts _ q_385) (fun _ h9 => h9) rfl dX3_copy_6 ?_
  refine lv_iconst (v := 0) hx hb dX3_copy_9 (by decide) ?_
  refine lv_bipush (v := 10) hx hb dX3_copy_10 (by decide) ?_
  refine va_copyi (ty := .int) hx hb (by rw [hml]; exact hl.1.symm) hown (hts _ q_1114) (hts _ q_728) (hts _ q_727) (hts _ q_118) hK.1 hP hD hS 5 4 0 0 rfl rfl rfl rfl rfl (by decide) (by decide) (by decide) (by decide) (by decide) (fun _ _ => rfl) (Nat.le_of_ble_eq_true rfl) (by decide +kernel) dX3_copy_12 (fun H locs hP hD hS => ?_)
  have hP : va_P J.1 cls [(ed, .inr (3, [.ref w, .ref d1, .ref v1, .int 0, .int 0, .int 0, .int 0, .int 0])), (o, .inr (3, [.ref w, .ref d2, .ref v2, .int 0, .int 0, .int 0, .int 0, .int 0])), (d1, .inr (4, [.ref w, .int 0])), (d2, .inr (4, [.ref w, .int 0])), (v1, .inl (J.2.1, 10, .inl (va_cpy (fun _ => 0) (fun _ => 0) (0 : Int32).toNatClampNeg (0 : Int32).toNatClampNeg (10 : Int32).toNatClampNeg))), (v2, .inl (J.2.1, 10, .inl (fun _ => 0)))] H := hP
  have hD : va_D A [(ed, .inr (3, [.ref w, .ref d1, .ref v1, .int 0, .int 0, .int 0, .int 0, .int 0])), (o, .inr (3, [.ref w, .ref d2, .ref v2, .int 0, .int 0, .int 0, .int 0, .int 0])), (d1, .inr (4, [.ref w, .int 0])), (d2, .inr (4, [.ref w, .int 0])), (v1, .inl (J.2.1, 10, .inl (va_cpy (fun _ => 0) (fun _ => 0) (0 : Int32).toNatClampNeg (0 : Int32).toNatClampNeg (10 : Int32).toNatClampNeg))), (v2, .inl (J.2.1, 10, .inl (fun _ => 0)))] := hD
  refine lv_aload_n hx hb dX3_copy_15 rfl (lv_at hl 0 rfl) ?_
  refine va_get (D := J.1) (ci := 3) (v := .ref d1) (C := RX3) (T := TX3) (N := 8) hx hb hts inX3 hown hK.1 hP 0 rfl rfl 1 (by decide) (hts _ q_384) (fun _ h9 => h9) rfl dX3_copy_16 ?_
  refine lv_aload_n hx hb dX3_copy_19 rfl (lv_at hl 1 rfl) ?_
  refine va_get (D := J.1) (ci := 3) (v := .ref d2) (C := RX3) (T := TX3) (N := 8) hx hb hts inX3 hown hK.1 hP 1 rfl rfl 1 (by decide) (hts _ q_384) (fun _ h9 => h9) rfl dX3_copy_20 ?_
  refine va_get (D := J.1) (ci := 4) (v := .int 0) (C := RX4) (T := TX4) (N := 2) hx hb hts inX4 hown hK.1 hP 3 rfl rfl 1 (by decide) (hts _ q_369) (fun _ h9 => h9) rfl dX3_copy_23 ?_
  refine gw_v (wc := [(d1, .inr (4, [.ref w, .int 0]))]) (wr := [(ed, .inr (3, [.ref w, .ref d1, .ref v1, .int 0, .int 0, .int 0, .int 0, .int 0])), (o, .inr (3, [.ref w, .ref d2, .ref v2, .int 0, .int 0, .int 0, .int 0, .int 0])), (d2, .inr (4, [.ref w, .int 0])), (v1, .inl (J.2.1, 10, .inl (va_cpy (fun _ => 0) (fun _ => 0) (0 : Int32).toNatClampNeg (0 : Int32).toNatClampNeg (10 : Int32).toNatClampNeg))), (v2, .inl (J.2.1, 10, .inl (fun _ => 0)))]) hP hD hS hA [2] [0, 1, 3, 4, 5] rfl rfl (by decide) (by decide) (wn_V (As := [.int 0]) (rest := []) hx hb hml hown hts hK (cD_seed l J _ d1 w 0 0) kV_RX3_28 (hP.sub (ws' := [(d1, .inr (4, [.ref w, .int 0]))]) [2] rfl) ((hD.sub (ws' := [(d1, .inr (4, [.ref w, .int 0]))]) [2] (by decide) rfl).weaken (fun _ _ _ _ => trivial)) rfl rfl rfl ⟨Nat.le_of_ble_eq_true rfl, Nat.le_of_ble_eq_true rfl⟩ rfl rfl rfl hl.1 rfl (Nat.le_of_ble_eq_true rfl) ⟨Nat.le_of_ble_eq_true rfl, Nat.le_of_ble_eq_true rfl⟩ dX3_copy_26) (fun u1 H locs hw hP hD hS => ?_)
  have hP : va_P J.1 cls [(ed, .inr (3, [.ref w, .ref d1, .ref v1, .int 0, .int 0, .int 0, .int 0, .int 0])), (o, .inr (3, [.ref w, .ref d2, .ref v2, .int 0, .int 0, .int 0, .int 0, .int 0])), (d2, .inr (4, [.ref w, .int 0])), (v1, .inl (J.2.1, 10, .inl (va_cpy (fun _ => 0) (fun _ => 0) (0 : Int32).toNatClampNeg (0 : Int32).toNatClampNeg (10 : Int32).toNatClampNeg))), (v2, .inl (J.2.1, 10, .inl (fun _ => 0))), (d1, .inr (4, [.ref w, .int 0]))] H := hP
  have hD : va_D A [(ed, .inr (3, [.ref w, .ref d1, .ref v1, .int 0, .int 0, .int 0, .int 0, .int 0])), (o, .inr (3, [.ref w, .ref d2, .ref v2, .int 0, .int 0, .int 0, .int 0, .int 0])), (d2, .inr (4, [.ref w, .int 0])), (v1, .inl (J.2.1, 10, .inl (va_cpy (fun _ => 0) (fun _ => 0) (0 : Int32).toNatClampNeg (0 : Int32).toNatClampNeg (10 : Int32).toNatClampNeg))), (v2, .inl (J.2.1, 10, .inl (fun _ => 0))), (d1, .inr (4, [.ref w, .int 0]))] := hD
  refine W.widen (k := 0) (n := 0) (Nat.le_of_ble_eq_true rfl) (Nat.le_of_ble_eq_true rfl) ?_
  refine lv_aload_n hx hb dX3_copy_29 rfl (lv_at hl 0 rfl) ?_
  refine lv_aload_n hx hb dX3_copy_30 rfl (lv_at hl 1 rfl) ?_
  refine va_get (D := J.1) (ci := 3) (v := .int 0) (C := RX3) (T := TX3) (N := 8) hx hb hts inX3 hown hK.1 hP 1 rfl rfl 3 (by decide) (hts _ q_386) (fun _ h9 => h9) rfl dX3_copy_31 ?_
  refine va_put (D := J.1) (ci := 3) (v := .int 0) (ty := (.int)) (C := RX3) (T := TX3) (N := 8) hx hb hts inX3 tyX3 tyX3_ok nmX3 hown hK.1 hP hD hS 0 rfl rfl 3 (by decide) (hts _ q_386) (fun _ h9 => h9) rfl (by decide +kernel) rfl rfl (Nat.le_of_ble_eq_true rfl) dX3_copy_34 (fun H locs hP hD hS => ?_)
  have hP : va_P J.1 cls [(ed, .inr (3, [.ref w, .ref d1, .ref v1, .int 0, .int 0, .int 0, .int 0, .int 0])), (o, .inr (3, [.ref w, .ref d2, .ref v2, .int 0, .int 0, .int 0, .int 0, .int 0])), (d2, .inr (4, [.ref w, .int 0])), (v1, .inl (J.2.1, 10, .inl (va_cpy (fun _ => 0) (fun _ => 0) (0 : Int32).toNatClampNeg (0 : Int32).toNatClampNeg (10 : Int32).toNatClampNeg))), (v2, .inl (J.2.1, 10, .inl (fun _ => 0))), (d1, .inr (4, [.ref w, .int 0]))] H := hP
  have hD : va_D A [(ed, .inr (3, [.ref w, .ref d1, .ref v1, .int 0, .int 0, .int 0, .int 0, .int 0])), (o, .inr (3, [.ref w, .ref d2, .ref v2, .int 0, .int 0, .int 0, .int 0, .int 0])), (d2, .inr (4, [.ref w, .int 0])), (v1, .inl (J.2.1, 10, .inl (va_cpy (fun _ => 0) (fun _ => 0) (0 : Int32).toNatClampNeg (0 : Int32).toNatClampNeg (10 : Int32).toNatClampNeg))), (v2, .inl (J.2.1, 10, .inl (fun _ => 0))), (d1, .inr (4, [.ref w, .int 0]))] := hD
  refine lv_aload_n hx hb dX3_copy_37 rfl (lv_at hl 0 rfl) ?_
  refine lv_aload_n hx hb dX3_copy_38 rfl (lv_at hl 1 rfl) ?_
  refine va_get (D := J.1) (ci := 3) (v := .int 0) (C := RX3) (T := TX3) (N := 8) hx hb hts inX3 hown hK.1 hP 1 rfl rfl 4 (by decide) (hts _ q_387) (fun _ h9 => h9) rfl dX3_copy_39 ?_
  refine va_put (D := J.1) (ci := 3) (v := .int 0) (ty := (.boolean)) (C := RX3) (T := TX3) (N := 8) hx hb hts inX3 tyX3 tyX3_ok nmX3 hown hK.1 hP hD hS 0 rfl rfl 4 (by decide) (hts _ q_387) (fun _ h9 => h9) rfl (by decide +kernel) rfl rfl (Nat.le_of_ble_eq_true rfl) dX3_copy_42 (fun H locs hP hD hS => ?_)
  have hP : va_P J.1 cls [(ed, .inr (3, [.ref w, .ref d1, .ref v1, .int 0, .int 0, .int 0, .int 0, .int 0])), (o, .inr (3, [.ref w, .ref d2, .ref v2, .int 0, .int 0, .int 0, .int 0, .int 0])), (d2, .inr (4, [.ref w, .int 0])), (v1, .inl (J.2.1, 10, .inl (va_cpy (fun _ => 0) (fun _ => 0) (0 : Int32).toNatClampNeg (0 : Int32).toNatClampNeg (10 : Int32).toNatClampNeg))), (v2, .inl (J.2.1, 10, .inl (fun _ => 0))), (d1, .inr (4, [.ref w, .int 0]))] H := hP
  have hD : va_D A [(ed, .inr (3, [.ref w, .ref d1, .ref v1, .int 0, .int 0, .int 0, .int 0, .int 0])), (o, .inr (3, [.ref w, .ref d2, .ref v2, .int 0, .int 0, .int 0, .int 0, .int 0])), (d2, .inr (4, [.ref w, .int 0])), (v1, .inl (J.2.1, 10, .inl (va_cpy (fun _ => 0) (fun _ => 0) (0 : Int32).toNatClampNeg (0 : Int32).toNatClampNeg (10 : Int32).toNatClampNeg))), (v2, .inl (J.2.1, 10, .inl (fun _ => 0))), (d1, .inr (4, [.ref w, .int 0]))] := hD
  refine lv_aload_n hx hb dX3_copy_45 rfl (lv_at hl 0 rfl) ?_
  refine lv_aload_n hx hb dX3_copy_46 rfl (lv_at hl 1 rfl) ?_
  refine va_get (D := J.1) (ci := 3) (v := .int 0) (C := RX3) (T := TX3) (N := 8) hx hb hts inX3 hown hK.1 hP 1 rfl rfl 5 (by decide) (hts _ q_389) (fun _ h9 => h9) rfl dX3_copy_47 ?_
  refine va_put (D := J.1) (ci := 3) (v := .int 0) (ty := (.int)) (C := RX3) (T := TX3) (N := 8) hx hb hts inX3 tyX3 tyX3_ok nmX3 hown hK.1 hP hD hS 0 rfl rfl 5 (by decide) (hts _ q_389) (fun _ h9 => h9) rfl (by decide +kernel) rfl rfl (Nat.le_of_ble_eq_true rfl) dX3_copy_50 (fun H locs hP hD hS => ?_)
  have hP : va_P J.1 cls [(ed, .inr (3, [.ref w, .ref d1, .ref v1, .int 0, .int 0, .int 0, .int 0, .int 0])), (o, .inr (3, [.ref w, .ref d2, .ref v2, .int 0, .int 0, .int 0, .int 0, .int 0])), (d2, .inr (4, [.ref w, .int 0])), (v1, .inl (J.2.1, 10, .inl (va_cpy (fun _ => 0) (fun _ => 0) (0 : Int32).toNatClampNeg (0 : Int32).toNatClampNeg (10 : Int32).toNatClampNeg))), (v2, .inl (J.2.1, 10, .inl (fun _ => 0))), (d1, .inr (4, [.ref w, .int 0]))] H := hP
  have hD : va_D A [(ed, .inr (3, [.ref w, .ref d1, .ref v1, .int 0, .int 0, .int 0, .int 0, .int 0])), (o, .inr (3, [.ref w, .ref d2, .ref v2, .int 0, .int 0, .int 0, .int 0, .int 0])), (d2, .inr (4, [.ref w, .int 0])), (v1, .inl (J.2.1, 10, .inl (va_cpy (fun _ => 0) (fun _ => 0) (0 : Int32).toNatClampNeg (0 : Int32).toNatClampNeg (10 : Int32).toNatClampNeg))), (v2, .inl (J.2.1, 10, .inl (fun _ => 0))), (d1, .inr (4, [.ref w, .int 0]))] := hD
  refine lv_aload_n hx hb dX3_copy_53 rfl (lv_at hl 0 rfl) ?_
  refine lv_aload_n hx hb dX3_copy_54 rfl (lv_at hl 1 rfl) ?_
  refine va_get (D := J.1) (ci := 3) (v := .int 0) (C := RX3) (T := TX3) (N := 8) hx hb hts inX3 hown hK.1 hP 1 rfl rfl 6 (by decide) (hts _ q_391) (fun _ h9 => h9) rfl dX3_copy_55 ?_
  refine va_put (D := J.1) (ci := 3) (v := .int 0) (ty := (.int)) (C := RX3) (T := TX3) (N := 8) hx hb hts inX3 tyX3 tyX3_ok nmX3 hown hK.1 hP hD hS 0 rfl rfl 6 (by decide) (hts _ q_391) (fun _ h9 => h9) rfl (by decide +kernel) rfl rfl (Nat.le_of_ble_eq_true rfl) dX3_copy_58 (fun H locs hP hD hS => ?_)
  have hP : va_P J.1 cls [(ed, .inr (3, [.ref w, .ref d1, .ref v1, .int 0, .int 0, .int 0, .int 0, .int 0])), (o, .inr (3, [.ref w, .ref d2, .ref v2, .int 0, .int 0, .int 0, .int 0, .int 0])), (d2, .inr (4, [.ref w, .int 0])), (v1, .inl (J.2.1, 10, .inl (va_cpy (fun _ => 0) (fun _ => 0) (0 : Int32).toNatClampNeg (0 : Int32).toNatClampNeg (10 : Int32).toNatClampNeg))), (v2, .inl (J.2.1, 10, .inl (fun _ => 0))), (d1, .inr (4, [.ref w, .int 0]))] H := hP
  have hD : va_D A [(ed, .inr (3, [.ref w, .ref d1, .ref v1, .int 0, .int 0, .int 0, .int 0, .int 0])), (o, .inr (3, [.ref w, .ref d2, .ref v2, .int 0, .int 0, .int 0, .int 0, .int 0])), (d2, .inr (4, [.ref w, .int 0])), (v1, .inl (J.2.1, 10, .inl (va_cpy (fun _ => 0) (fun _ => 0) (0 : Int32).toNatClampNeg (0 : Int32).toNatClampNeg (10 : Int32).toNatClampNeg))), (v2, .inl (J.2.1, 10, .inl (fun _ => 0))), (d1, .inr (4, [.ref w, .int 0]))] := hD
  refine lv_aload_n hx hb dX3_copy_61 rfl (lv_at hl 0 rfl) ?_
  refine lv_aload_n hx hb dX3_copy_62 rfl (lv_at hl 1 rfl) ?_
  refine va_get (D := J.1) (ci := 3) (v := .int 0) (C := RX3) (T := TX3) (N := 8) hx hb hts inX3 hown hK.1 hP 1 rfl rfl 7 (by decide) (hts _ q_393) (fun _ h9 => h9) rfl dX3_copy_63 ?_
  refine va_put (D := J.1) (ci := 3) (v := .int 0) (ty := (.int)) (C := RX3) (T := TX3) (N := 8) hx hb hts inX3 tyX3 tyX3_ok nmX3 hown hK.1 hP hD hS 0 rfl rfl 7 (by decide) (hts _ q_393) (fun _ h9 => h9) rfl (by decide +kernel) rfl rfl (Nat.le_of_ble_eq_true rfl) dX3_copy_66 (fun H locs hP hD hS => ?_)
  have hP : va_P J.1 cls [(ed, .inr (3, [.ref w, .ref d1, .ref v1, .int 0, .int 0, .int 0, .int 0, .int 0])), (o, .inr (3, [.ref w, .ref d2, .ref v2, .int 0, .int 0, .int 0, .int 0, .int 0])), (d2, .inr (4, [.ref w, .int 0])), (v1, .inl (J.2.1, 10, .inl (va_cpy (fun _ => 0) (fun _ => 0) (0 : Int32).toNatClampNeg (0 : Int32).toNatClampNeg (10 : Int32).toNatClampNeg))), (v2, .inl (J.2.1, 10, .inl (fun _ => 0))), (d1, .inr (4, [.ref w, .int 0]))] H := hP
  have hD : va_D A [(ed, .inr (3, [.ref w, .ref d1, .ref v1, .int 0, .int 0, .int 0, .int 0, .int 0])), (o, .inr (3, [.ref w, .ref d2, .ref v2, .int 0, .int 0, .int 0, .int 0, .int 0])), (d2, .inr (4, [.ref w, .int 0])), (v1, .inl (J.2.1, 10, .inl (va_cpy (fun _ => 0) (fun _ => 0) (0 : Int32).toNatClampNeg (0 : Int32).toNatClampNeg (10 : Int32).toNatClampNeg))), (v2, .inl (J.2.1, 10, .inl (fun _ => 0))), (d1, .inr (4, [.ref w, .int 0]))] := hD
  exact wz_v () hx hb hr hlk trivial (hP.sub (ws' := [(o, .inr (3, [.ref w, .ref d2, .ref v2, .int 0, .int 0, .int 0, .int 0, .int 0]))]) [1] rfl) (hD.sub (ws' := [(o, .inr (3, [.ref w, .ref d2, .ref v2, .int 0, .int 0, .int 0, .int 0, .int 0]))]) [1] (by decide) rfl) hS dX3_copy_69
theorem dX3_dayIfHidden_0 : decode cX3_dayIfHidden 0 = .ok (.aload_n 0, 1) := by decide +kernel
theorem dX3_dayIfHidden_1 : decode cX3_dayIfHidden 1 = .ok (.getfield 40, 3) := by decide +kernel
theorem dX3_dayIfHidden_4 : decode cX3_dayIfHidden 4 = .ok (.ifCond .eq 10, 3) := by decide +kernel
theorem dX3_dayIfHidden_14 : decode cX3_dayIfHidden 14 = .ok (.bipush (-2), 2) := by decide +kernel
theorem dX3_dayIfHidden_16 : decode cX3_dayIfHidden 16 = .ok (.ireturn, 1) := by decide +kernel
set_option maxHeartbeats 4000000 in
set_option maxRecDepth 100000 in
theorem cD_day (l : Launch) (J : va_J9) (ed : Nat) (w : Nat) (d1 : Nat) (v1 : Nat) : RC l J yX3_dayIfHidden cX3_dayIfHidden 1 (some .int) ({ frames := 0, cells := 0, slots := 0, locals := 0 }) [.ref ed] [(ed, .inr (3, [.ref w, .ref d1, .ref v1, .int 0, .int 0, .int 0, .int 0, .int 0]))] (vp_Si (fun r => r = (-2))) := by
  refine rc_of (by decide) (Nat.le_of_ble_eq_true rfl) ?_
  intro p e s m below meth c ls hE hl hP hK
  obtain ⟨hx, hb, hr, hml, hown, hts, hlk, hin⟩ := hE
  have hown : s.vm.findClass RX3 = some m.cls := hown
  have hl : lv_has ls 1 [(0, .ref ed)] := hl
  refine lv_aload_n hx hb dX3_dayIfHidden_0 rfl (lv_at hl 0 rfl) ?_
  refine va_get (D := J.1) (ci := 3) (v := .int 0) (C := RX3) (T := TX3) (N := 8) hx hb hts inX3 hown hK.1 hP 0 rfl rfl 4 (by decide) (hts _ q_387) (fun _ h9 => h9) rfl dX3_dayIfHidden_1 ?_
  refine lv_if_eq (tgt := 14) hx hb dX3_dayIfHidden_4 (by decide) (fun _ => ?_) (fun c => absurd c (by decide))
  refine lv_bipush (v := (-2)) hx hb dX3_dayIfHidden_14 (by decide) ?_
  exact rz_i hx hb hr hlk (by decide) dX3_dayIfHidden_16
theorem dX5_hasRing_0 : decode cX5_hasRing 0 = .ok (.aload_n 0, 1) := by decide +kernel
theorem q_305 : Cond.fieldLink RX5 9 RX5 "warren" "LFoxHoles$Warren;" ∈ lw_g := mem_q 305 (by decide +kernel) rfl
theorem dX5_hasRing_1 : decode cX5_hasRing 1 = .ok (.getfield 9, 3) := by decide +kernel
theorem q_895 : Cond.methodLink RX5 15 yX10_openOnes ∈ lw_g := mem_q 895 (by decide +kernel) rfl
theorem kV_RX5_15 : CV RX5 15 RX10 yX10_openOnes cX10_openOnes 1 (some .int) 0 := cv_of q_895 q_660 q_661 q_105 q_662 (by decide +kernel)
theorem dX5_hasRing_4 : decode cX5_hasRing 4 = .ok (.invokevirtual 15, 3) := by decide +kernel
theorem dX5_hasRing_7 : decode cX5_hasRing 7 = .ok (.istore_n 1, 1) := by decide +kernel
theorem dX5_hasRing_8 : decode cX5_hasRing 8 = .ok (.iconst 0, 1) := by decide +kernel
theorem dX5_hasRing_9 : decode cX5_hasRing 9 = .ok (.istore_n 2, 1) := by decide +kernel
theorem dX5_hasRing_10 : decode cX5_hasRing 10 = .ok (.iload_n 2, 1) := by decide +kernel
theorem dX5_hasRing_11 : decode cX5_hasRing 11 = .ok (.bipush 10, 2) := by decide +kernel
theorem dX5_hasRing_13 : decode cX5_hasRing 13 = .ok (.if_icmp .ge 48, 3) := by decide +kernel
theorem dX5_hasRing_61 : decode cX5_hasRing 61 = .ok (.iload_n 1, 1) := by decide +kernel
theorem dX5_hasRing_62 : decode cX5_hasRing 62 = .ok (.ifCond .eq 7, 3) := by decide +kernel
theorem dX5_hasRing_69 : decode cX5_hasRing 69 = .ok (.iconst 0, 1) := by decide +kernel
theorem dX5_hasRing_70 : decode cX5_hasRing 70 = .ok (.ireturn, 1) := by decide +kernel
theorem dX5_hasRing_16 : decode cX5_hasRing 16 = .ok (.iconst 0, 1) := by decide +kernel
theorem dX5_hasRing_17 : decode cX5_hasRing 17 = .ok (.istore_n 3, 1) := by decide +kernel
theorem dX5_hasRing_18 : decode cX5_hasRing 18 = .ok (.iload_n 3, 1) := by decide +kernel
theorem dX5_hasRing_19 : decode cX5_hasRing 19 = .ok (.bipush 10, 2) := by decide +kernel
theorem dX5_hasRing_21 : decode cX5_hasRing 21 = .ok (.if_icmp .ge 34, 3) := by decide +kernel
theorem dX5_hasRing_55 : decode cX5_hasRing 55 = .ok (.iinc 2 1, 3) := by decide +kernel
theorem dX5_hasRing_58 : decode cX5_hasRing 58 = .ok (.goto (-48), 3) := by decide +kernel
theorem dX5_hasRing_24 : decode cX5_hasRing 24 = .ok (.aload_n 0, 1) := by decide +kernel
theorem dX5_hasRing_25 : decode cX5_hasRing 25 = .ok (.getfield 9, 3) := by decide +kernel
theorem dX5_hasRing_28 : decode cX5_hasRing 28 = .ok (.iload_n 3, 1) := by decide +kernel
theorem q_896 : Cond.methodLink RX5 21 yX10_openNear ∈ lw_g := mem_q 896 (by decide +kernel) rfl
theorem q_897 : Cond.instanceMethod yX10_openNear ∈ lw_g := mem_q 897 (by decide +kernel) rfl
theorem q_898 : Cond.selects RX10 yX10_openNear yX10_openNear ∈ lw_g := mem_q 898 (by decide +kernel) rfl
theorem q_899 : Cond.code yX10_openNear cX10_openNear 2 (some .int) ∈ lw_g := mem_q 899 (by decide +kernel) rfl
theorem kV_RX5_21 : CV RX5 21 RX10 yX10_openNear cX10_openNear 2 (some .int) 1 := cv_of q_896 q_897 q_898 q_105 q_899 (by decide +kernel)
theorem dX5_hasRing_29 : decode cX5_hasRing 29 = .ok (.invokevirtual 21, 3) := by decide +kernel
theorem dX5_hasRing_32 : decode cX5_hasRing 32 = .ok (.iload_n 1, 1) := by decide +kernel
theorem dX5_hasRing_33 : decode cX5_hasRing 33 = .ok (.iand, 1) := by decide +kernel
theorem q_900 : Cond.methodLink RX5 25 yJ6_bitCount_0f7a4 ∈ lw_g := mem_q 900 (by decide +kernel) rfl
theorem q_608 : Cond.static yJ6_bitCount_0f7a4 ∈ lw_g := mem_q 608 (by decide +kernel) rfl
theorem q_117 : Cond.initialized RJ6 ∈ lw_g := mem_q 117 (by decide +kernel) rfl
theorem q_609 : Cond.code yJ6_bitCount_0f7a4 cJ6_bitCount_0f7a4 1 (some .int) ∈ lw_g := mem_q 609 (by decide +kernel) rfl
theorem kS_RX5_25 : CS RX5 25 yJ6_bitCount_0f7a4 cJ6_bitCount_0f7a4 1 (some .int) 1 := cs_of q_900 q_608 q_117 q_609 (by decide +kernel)
theorem dX5_hasRing_34 : decode cX5_hasRing 34 = .ok (.invokestatic 25, 3) := by decide +kernel
theorem dX5_hasRing_37 : decode cX5_hasRing 37 = .ok (.iconst 2, 1) := by decide +kernel
theorem dX5_hasRing_38 : decode cX5_hasRing 38 = .ok (.if_icmp .ge 11, 3) := by decide +kernel
theorem dX5_hasRing_41 : decode cX5_hasRing 41 = .ok (.iload_n 1, 1) := by decide +kernel
theorem dX5_hasRing_42 : decode cX5_hasRing 42 = .ok (.iconst 1, 1) := by decide +kernel
theorem dX5_hasRing_43 : decode cX5_hasRing 43 = .ok (.iload_n 3, 1) := by decide +kernel
theorem dX5_hasRing_44 : decode cX5_hasRing 44 = .ok (.ishl, 1) := by decide +kernel
theorem dX5_hasRing_45 : decode cX5_hasRing 45 = .ok (.iconst (-1), 1) := by decide +kernel
theorem dX5_hasRing_46 : decode cX5_hasRing 46 = .ok (.ixor, 1) := by decide +kernel
theorem dX5_hasRing_47 : decode cX5_hasRing 47 = .ok (.iand, 1) := by decide +kernel
theorem dX5_hasRing_48 : decode cX5_hasRing 48 = .ok (.istore_n 1, 1) := by decide +kernel
theorem dX5_hasRing_49 : decode cX5_hasRing 49 = .ok (.iinc 3 1, 3) := by decide +kernel
theorem dX5_hasRing_52 : decode cX5_hasRing 52 = .ok (.goto (-34), 3) := by decide +kernel
set_option maxHeartbeats 4000000 in
set_option maxRecDepth 100000 in
theorem cG_ring (l : Launch) (J : va_J9) (gr : Nat) (w : Nat) (t : Nat) (we : Nat) (jo : Nat) (la : Nat) : RC l J yX5_hasRing cX5_hasRing 4 (some .boolean) ({ frames := 3, cells := 0, slots := 0, locals := 63 }) [.ref gr] [(gr, .inr (5, [.ref w])), (w, .inr (10, [.ref t, .ref we, .ref jo, .ref la, .int 0, .int 0, .int 0, .int 0, .int 1, .int 0, .int 0]))] (vp_Si (fun r => r = 0)) := by
  refine rc_of (by decide) (Nat.le_of_ble_eq_true rfl) ?_
  intro p e s m below meth c ls hE hl hP hK
  obtain ⟨hx, hb, hr, hml, hown, hts, hlk, hin⟩ := hE
  have hown : s.vm.findClass RX5 = some m.cls := hown
  have hl : lv_has ls 4 [(0, .ref gr)] := hl
  refine lv_aload_n hx hb dX5_hasRing_0 rfl (lv_at hl 0 rfl) ?_
  refine va_get (D := J.1) (ci := 5) (v := .ref w) (C := RX5) (T := TX5) (N := 1) hx hb hts inX5 hown hK.1 hP 0 rfl rfl 0 (by decide) (hts _ q_305) (fun _ h9 => h9) rfl dX5_hasRing_1 ?_
  refine go_i (rn_V (As := []) (rest := []) hx hb hml hown hts hK (cW_openOnes l J w t we jo la) kV_RX5_15 (hP.sub (ws' := [(w, .inr (10, [.ref t, .ref we, .ref jo, .ref la, .int 0, .int 0, .int 0, .int 0, .int 1, .int 0, .int 0]))]) [1] rfl) rfl rfl rfl ⟨Nat.le_of_ble_eq_true rfl, Nat.le_of_ble_eq_true rfl⟩ rfl rfl rfl hl.1 rfl (Nat.le_of_ble_eq_true rfl) ⟨Nat.le_of_ble_eq_true rfl, Nat.le_of_ble_eq_true rfl⟩ dX5_hasRing_4) ?_
  refine lv_istore_n (lv' := [(1, .int 0), (0, .ref gr)]) hx hb dX5_hasRing_7 rfl hl (by decide) rfl (fun ls hl => ?_)
  refine lv_iconst (v := 0) hx hb dX5_hasRing_8 (by decide) ?_
  refine lv_istore_n (lv' := [(2, .int 0), (1, .int 0), (0, .ref gr)]) hx hb dX5_hasRing_9 rfl hl (by decide) rfl (fun ls hl => ?_)
  have LP3 : ∀ (k1 i2 : Nat), i2 + k1 = 10 → ∀ (ls : Array Slot), lv_has ls 4 [(2, .int (nI i2)), (1, .int 0), (0, .ref gr)] → W p l e ({ frames := 3, cells := 0, slots := 0, locals := 63 } : Room) s m ([.ref gr] : List Value).toArray below meth c s.heap [] 0 0 (MQ below (vp_Si (fun r => r = 0)) ([.ref gr] : List Value).toArray s 0 0 (fun _ => False)) (F0 m 10 ls []) := by
    intro k1
    induction k1 with
    | zero =>
      intro i2 hi2  ls hl
      refine lv_iload_n hx hb dX5_hasRing_10 rfl (lv_at hl 0 rfl) ?_
      refine lv_bipush (v := 10) hx hb dX5_hasRing_11 (by decide) ?_
      refine lv_icmp_ge (tgt := 61) hx hb dX5_hasRing_13 (by decide) (fun _ => ?_) (fun c4 => absurd (show ¬ (10 ≤ ((i2 : Nat) : Int)) from fun h => c4 ((i_le (by decide) (nI_toInt (by omega))).mpr h)) (by omega))
      refine lv_iload_n hx hb dX5_hasRing_61 rfl (lv_at hl 1 rfl) ?_
      refine lv_if_eq (tgt := 69) hx hb dX5_hasRing_62 (by decide) (fun _ => ?_) (fun c => absurd c (by decide))
      refine lv_iconst (v := 0) hx hb dX5_hasRing_69 (by decide) ?_
      exact rz_z hx hb hr hlk (by decide) (by decide) dX5_hasRing_70
    | succ k1 ih =>
      intro i2 hi2  ls hl
      refine lv_iload_n hx hb dX5_hasRing_10 rfl (lv_at hl 0 rfl) ?_
      refine lv_bipush (v := 10) hx hb dX5_hasRing_11 (by decide) ?_
      refine lv_icmp_ge (tgt := 61) hx hb dX5_hasRing_13 (by decide) (fun c5 => absurd (show 10 ≤ ((i2 : Nat) : Int) from (i_le (by decide) (nI_toInt (by omega))).mp c5) (by omega)) (fun _ => ?_)
      refine lv_iconst (v := 0) hx hb dX5_hasRing_16 (by decide) ?_
      refine lv_istore_n (lv' := [(3, .int 0), (2, .int (nI i2)), (1, .int 0), (0, .ref gr)]) hx hb dX5_hasRing_17 rfl hl (by decide) rfl (fun ls hl => ?_)
      have LP8 : ∀ (k6 i7 : Nat), i7 + k6 = 10 → ∀ (ls : Array Slot), lv_has ls 4 [(3, .int (nI i7)), (2, .int (nI i2)), (1, .int 0), (0, .ref gr)] → W p l e ({ frames := 3, cells := 0, slots := 0, locals := 63 } : Room) s m ([.ref gr] : List Value).toArray below meth c s.heap [] 0 0 (MQ below (vp_Si (fun r => r = 0)) ([.ref gr] : List Value).toArray s 0 0 (fun _ => False)) (F0 m 18 ls []) := by
        intro k6
        induction k6 with
        | zero =>
          intro i7 hi7  ls hl
          refine lv_iload_n hx hb dX5_hasRing_18 rfl (lv_at hl 0 rfl) ?_
          refine lv_bipush (v := 10) hx hb dX5_hasRing_19 (by decide) ?_
          refine lv_icmp_ge (tgt := 55) hx hb dX5_hasRing_21 (by decide) (fun _ => ?_) (fun c9 => absurd (show ¬ (10 ≤ ((i7 : Nat) : Int)) from fun h => c9 ((i_le (by decide) (nI_toInt (by omega))).mpr h)) (by omega))
          refine lv_iinc (v := nI (i2 + 1)) (lv' := [(2, .int (nI (i2 + 1))), (3, .int (nI i7)), (1, .int 0), (0, .ref gr)]) hx hb dX5_hasRing_55 hl (k := 1) rfl (nI_inc _) (by decide) rfl (fun ls hl => ?_)
          refine lv_goto (tgt := 10) hx hb dX5_hasRing_58 (by decide) ?_
          exact ih (i2 + 1) (by omega)  ls (lv_sub hl [0, 2, 3] rfl)
        | succ k6 ih =>
          intro i7 hi7  ls hl
          refine lv_iload_n hx hb dX5_hasRing_18 rfl (lv_at hl 0 rfl) ?_
          refine lv_bipush (v := 10) hx hb dX5_hasRing_19 (by decide) ?_
          refine lv_icmp_ge (tgt := 55) hx hb dX5_hasRing_21 (by decide) (fun c10 => absurd (show 10 ≤ ((i7 : Nat) : Int) from (i_le (by decide) (nI_toInt (by omega))).mp c10) (by omega)) (fun _ => ?_)
          refine lv_aload_n hx hb dX5_hasRing_24 rfl (lv_at hl 3 rfl) ?_
          refine va_get (D := J.1) (ci := 5) (v := .ref w) (C := RX5) (T := TX5) (N := 1) hx hb hts inX5 hown hK.1 hP 0 rfl rfl 0 (by decide) (hts _ q_305) (fun _ h9 => h9) rfl dX5_hasRing_25 ?_
          refine lv_iload_n hx hb dX5_hasRing_28 rfl (lv_at hl 0 rfl) ?_
          refine go_i (rn_V (As := [.int (nI i7)]) (rest := []) hx hb hml hown hts hK (cW_openNear l J w t we jo la (nI i7)) kV_RX5_21 (hP.sub (ws' := [(w, .inr (10, [.ref t, .ref we, .ref jo, .ref la, .int 0, .int 0, .int 0, .int 0, .int 1, .int 0, .int 0]))]) [1] rfl) rfl rfl rfl ⟨Nat.le_of_ble_eq_true rfl, Nat.le_of_ble_eq_true rfl⟩ rfl rfl rfl hl.1 rfl (Nat.le_of_ble_eq_true rfl) ⟨Nat.le_of_ble_eq_true rfl, Nat.le_of_ble_eq_true rfl⟩ dX5_hasRing_29) ?_
          refine lv_iload_n hx hb dX5_hasRing_32 rfl (lv_at hl 2 rfl) ?_
          refine lv_iand hx hb dX5_hasRing_33 ?_
          refine top_i (y := 0) (by decide) ?_
          refine go_i (rn_S (As := [.int 0]) (rest := []) hx hb hml hown hts hK (cJ_bit0 l J ) kS_RX5_25 (hP.sub (ws' := []) [] rfl) ⟨Nat.le_of_ble_eq_true rfl, Nat.le_of_ble_eq_true rfl⟩ rfl rfl rfl hl.1 rfl (Nat.le_of_ble_eq_true rfl) ⟨Nat.le_of_ble_eq_true rfl, Nat.le_of_ble_eq_true rfl⟩ dX5_hasRing_34) ?_
          refine lv_iconst (v := 2) hx hb dX5_hasRing_37 (by decide) ?_
          refine lv_icmp_ge (tgt := 49) hx hb dX5_hasRing_38 (by decide) (fun c => absurd c (by decide)) (fun _ => ?_)
          refine lv_iload_n hx hb dX5_hasRing_41 rfl (lv_at hl 2 rfl) ?_
          refine lv_iconst (v := 1) hx hb dX5_hasRing_42 (by decide) ?_
          refine lv_iload_n hx hb dX5_hasRing_43 rfl (lv_at hl 0 rfl) ?_
          refine lv_ishl hx hb dX5_hasRing_44 ?_
          refine lv_iconst (v := (-1)) hx hb dX5_hasRing_45 (by decide) ?_
          refine lv_ixor hx hb dX5_hasRing_46 ?_
          refine lv_iand hx hb dX5_hasRing_47 ?_
          refine top_i (y := 0) (and0' _) ?_
          refine lv_istore_n (lv' := [(1, .int 0), (3, .int (nI i7)), (2, .int (nI i2)), (0, .ref gr)]) hx hb dX5_hasRing_48 rfl hl (by decide) rfl (fun ls hl => ?_)
          refine lv_iinc (v := nI (i7 + 1)) (lv' := [(3, .int (nI (i7 + 1))), (1, .int 0), (2, .int (nI i2)), (0, .ref gr)]) hx hb dX5_hasRing_49 hl (k := 1) rfl (nI_inc _) (by decide) rfl (fun ls hl => ?_)
          refine lv_goto (tgt := 18) hx hb dX5_hasRing_52 (by decide) ?_
          exact ih (i7 + 1) (by omega)  ls (lv_sub hl [0, 2, 1, 3] rfl)
      exact LP8 (10 - 0) 0 (by omega)  ls (lv_sub hl [0, 1, 2, 3] rfl)
  exact LP3 (10 - 0) 0 (by omega)  ls (lv_sub hl [0, 1, 2] rfl)
theorem dX5_centres_0 : decode cX5_centres 0 = .ok (.iconst 0, 1) := by decide +kernel
theorem dX5_centres_1 : decode cX5_centres 1 = .ok (.istore_n 1, 1) := by decide +kernel
theorem dX5_centres_2 : decode cX5_centres 2 = .ok (.iconst 0, 1) := by decide +kernel
theorem dX5_centres_3 : decode cX5_centres 3 = .ok (.istore_n 2, 1) := by decide +kernel
theorem dX5_centres_4 : decode cX5_centres 4 = .ok (.iload_n 2, 1) := by decide +kernel
theorem dX5_centres_5 : decode cX5_centres 5 = .ok (.aload_n 0, 1) := by decide +kernel
theorem dX5_centres_6 : decode cX5_centres 6 = .ok (.getfield 9, 3) := by decide +kernel
theorem q_179 : Cond.fieldLink RX5 30 RX10 "size" "I" ∈ lw_g := mem_q 179 (by decide +kernel) rfl
theorem dX5_centres_9 : decode cX5_centres 9 = .ok (.getfield 30, 3) := by decide +kernel
theorem dX5_centres_12 : decode cX5_centres 12 = .ok (.if_icmp .ge 36, 3) := by decide +kernel
theorem dX5_centres_48 : decode cX5_centres 48 = .ok (.iload_n 1, 1) := by decide +kernel
theorem dX5_centres_49 : decode cX5_centres 49 = .ok (.ireturn, 1) := by decide +kernel
set_option maxHeartbeats 4000000 in
set_option maxRecDepth 100000 in
theorem cG_centres (l : Launch) (J : va_J9) (gr : Nat) (w : Nat) (t : Nat) (we : Nat) (jo : Nat) (la : Nat) : RC l J yX5_centres cX5_centres 3 (some .int) ({ frames := 0, cells := 0, slots := 0, locals := 0 }) [.ref gr] [(gr, .inr (5, [.ref w])), (w, .inr (10, [.ref t, .ref we, .ref jo, .ref la, .int 0, .int 0, .int 0, .int 0, .int 1, .int 0, .int 0]))] (vp_Si (fun r => r = 0)) := by
  refine rc_of (by decide) (Nat.le_of_ble_eq_true rfl) ?_
  intro p e s m below meth c ls hE hl hP hK
  obtain ⟨hx, hb, hr, hml, hown, hts, hlk, hin⟩ := hE
  have hown : s.vm.findClass RX5 = some m.cls := hown
  have hl : lv_has ls 3 [(0, .ref gr)] := hl
  refine lv_iconst (v := 0) hx hb dX5_centres_0 (by decide) ?_
  refine lv_istore_n (lv' := [(1, .int 0), (0, .ref gr)]) hx hb dX5_centres_1 rfl hl (by decide) rfl (fun ls hl => ?_)
  refine lv_iconst (v := 0) hx hb dX5_centres_2 (by decide) ?_
  refine lv_istore_n (lv' := [(2, .int 0), (1, .int 0), (0, .ref gr)]) hx hb dX5_centres_3 rfl hl (by decide) rfl (fun ls hl => ?_)
  refine lv_iload_n hx hb dX5_centres_4 rfl (lv_at hl 0 rfl) ?_
  refine lv_aload_n hx hb dX5_centres_5 rfl (lv_at hl 2 rfl) ?_
  refine va_get (D := J.1) (ci := 5) (v := .ref w) (C := RX5) (T := TX5) (N := 1) hx hb hts inX5 hown hK.1 hP 0 rfl rfl 0 (by decide) (hts _ q_305) (fun _ h9 => h9) rfl dX5_centres_6 ?_
  refine va_get (D := J.1) (ci := 10) (v := .int 0) (C := RX10) (T := TX10) (N := 11) hx hb hts inX10 hown hK.1 hP 1 rfl rfl 6 (by decide) (hts _ q_179) (fun _ h9 => h9) rfl dX5_centres_9 ?_
  refine lv_icmp_ge (tgt := 48) hx hb dX5_centres_12 (by decide) (fun _ => ?_) (fun c => absurd c (by decide))
  refine lv_iload_n hx hb dX5_centres_48 rfl (lv_at hl 1 rfl) ?_
  exact rz_i hx hb hr hlk (by decide) dX5_centres_49
theorem dX5_everWithout_0 : decode cX5_everWithout 0 = .ok (.aload_n 0, 1) := by decide +kernel
theorem dX5_everWithout_1 : decode cX5_everWithout 1 = .ok (.getfield 9, 3) := by decide +kernel
theorem dX5_everWithout_4 : decode cX5_everWithout 4 = .ok (.invokevirtual 15, 3) := by decide +kernel
theorem dX5_everWithout_7 : decode cX5_everWithout 7 = .ok (.iload_n 1, 1) := by decide +kernel
theorem dX5_everWithout_8 : decode cX5_everWithout 8 = .ok (.iconst (-1), 1) := by decide +kernel
theorem dX5_everWithout_9 : decode cX5_everWithout 9 = .ok (.ixor, 1) := by decide +kernel
theorem dX5_everWithout_10 : decode cX5_everWithout 10 = .ok (.iand, 1) := by decide +kernel
theorem dX5_everWithout_11 : decode cX5_everWithout 11 = .ok (.istore_n 2, 1) := by decide +kernel
theorem dX5_everWithout_12 : decode cX5_everWithout 12 = .ok (.iconst 0, 1) := by decide +kernel
theorem dX5_everWithout_13 : decode cX5_everWithout 13 = .ok (.istore_n 3, 1) := by decide +kernel
theorem dX5_everWithout_14 : decode cX5_everWithout 14 = .ok (.iload_n 3, 1) := by decide +kernel
theorem dX5_everWithout_15 : decode cX5_everWithout 15 = .ok (.bipush 10, 2) := by decide +kernel
theorem dX5_everWithout_17 : decode cX5_everWithout 17 = .ok (.if_icmp .ge 19, 3) := by decide +kernel
theorem dX5_everWithout_20 : decode cX5_everWithout 20 = .ok (.aload_n 0, 1) := by decide +kernel
theorem dX5_everWithout_21 : decode cX5_everWithout 21 = .ok (.getfield 9, 3) := by decide +kernel
theorem dX5_everWithout_24 : decode cX5_everWithout 24 = .ok (.iload_n 2, 1) := by decide +kernel
theorem dX5_everWithout_25 : decode cX5_everWithout 25 = .ok (.iload_n 2, 1) := by decide +kernel
theorem q_943 : Cond.methodLink RX5 45 yX10_leadingInto ∈ lw_g := mem_q 943 (by decide +kernel) rfl
theorem q_808 : Cond.instanceMethod yX10_leadingInto ∈ lw_g := mem_q 808 (by decide +kernel) rfl
theorem q_809 : Cond.selects RX10 yX10_leadingInto yX10_leadingInto ∈ lw_g := mem_q 809 (by decide +kernel) rfl
theorem q_810 : Cond.code yX10_leadingInto cX10_leadingInto 5 (some .int) ∈ lw_g := mem_q 810 (by decide +kernel) rfl
theorem kV_RX5_45 : CV RX5 45 RX10 yX10_leadingInto cX10_leadingInto 5 (some .int) 2 := cv_of q_943 q_808 q_809 q_105 q_810 (by decide +kernel)
theorem dX5_everWithout_26 : decode cX5_everWithout 26 = .ok (.invokevirtual 45, 3) := by decide +kernel
theorem dX5_everWithout_29 : decode cX5_everWithout 29 = .ok (.istore_n 2, 1) := by decide +kernel
theorem dX5_everWithout_30 : decode cX5_everWithout 30 = .ok (.iinc 3 1, 3) := by decide +kernel
theorem dX5_everWithout_33 : decode cX5_everWithout 33 = .ok (.goto (-19), 3) := by decide +kernel
theorem dX5_everWithout_36 : decode cX5_everWithout 36 = .ok (.iload_n 2, 1) := by decide +kernel
theorem dX5_everWithout_37 : decode cX5_everWithout 37 = .ok (.ireturn, 1) := by decide +kernel
set_option maxHeartbeats 4000000 in
set_option maxRecDepth 100000 in
theorem cG_ever (l : Launch) (J : va_J9) (gr : Nat) (w : Nat) (t : Nat) (we : Nat) (jo : Nat) (la : Nat) (x : Int32) : RC l J yX5_everWithout cX5_everWithout 4 (some .int) ({ frames := 1, cells := 0, slots := 0, locals := 24 }) [.ref gr, .int x] [(gr, .inr (5, [.ref w])), (w, .inr (10, [.ref t, .ref we, .ref jo, .ref la, .int 0, .int 0, .int 0, .int 0, .int 1, .int 0, .int 0]))] (vp_Si (fun r => r = 0)) := by
  refine rc_of (by decide) (Nat.le_of_ble_eq_true rfl) ?_
  intro p e s m below meth c ls hE hl hP hK
  obtain ⟨hx, hb, hr, hml, hown, hts, hlk, hin⟩ := hE
  have hown : s.vm.findClass RX5 = some m.cls := hown
  have hl : lv_has ls 4 [(0, .ref gr), (1, .int x)] := hl
  have rg_x := i_rng x
  refine lv_aload_n hx hb dX5_everWithout_0 rfl (lv_at hl 0 rfl) ?_
  refine va_get (D := J.1) (ci := 5) (v := .ref w) (C := RX5) (T := TX5) (N := 1) hx hb hts inX5 hown hK.1 hP 0 rfl rfl 0 (by decide) (hts _ q_305) (fun _ h9 => h9) rfl dX5_everWithout_1 ?_
  refine go_i (rn_V (As := []) (rest := []) hx hb hml hown hts hK (cW_openOnes l J w t we jo la) kV_RX5_15 (hP.sub (ws' := [(w, .inr (10, [.ref t, .ref we, .ref jo, .ref la, .int 0, .int 0, .int 0, .int 0, .int 1, .int 0, .int 0]))]) [1] rfl) rfl rfl rfl ⟨Nat.le_of_ble_eq_true rfl, Nat.le_of_ble_eq_true rfl⟩ rfl rfl rfl hl.1 rfl (Nat.le_of_ble_eq_true rfl) ⟨Nat.le_of_ble_eq_true rfl, Nat.le_of_ble_eq_true rfl⟩ dX5_everWithout_4) ?_
  refine lv_iload_n hx hb dX5_everWithout_7 rfl (lv_at hl 1 rfl) ?_
  refine lv_iconst (v := (-1)) hx hb dX5_everWithout_8 (by decide) ?_
  refine lv_ixor hx hb dX5_everWithout_9 ?_
  refine lv_iand hx hb dX5_everWithout_10 ?_
  refine top_i (y := 0) (and0' _) ?_
  refine lv_istore_n (lv' := [(2, .int 0), (0, .ref gr), (1, .int x)]) hx hb dX5_everWithout_11 rfl hl (by decide) rfl (fun ls hl => ?_)
  refine lv_iconst (v := 0) hx hb dX5_everWithout_12 (by decide) ?_
  refine lv_istore_n (lv' := [(3, .int 0), (2, .int 0), (0, .ref gr), (1, .int x)]) hx hb dX5_everWithout_13 rfl hl (by decide) rfl (fun ls hl => ?_)
  refine lv_iload_n hx hb dX5_everWithout_14 rfl (lv_at hl 0 rfl) ?_
  refine lv_bipush (v := 10) hx hb dX5_everWithout_15 (by decide) ?_
  refine lv_icmp_ge (tgt := 36) hx hb dX5_everWithout_17 (by decide) (fun c => absurd c (by decide)) (fun _ => ?_)
  refine lv_aload_n hx hb dX5_everWithout_20 rfl (lv_at hl 2 rfl) ?_
  refine va_get (D := J.1) (ci := 5) (v := .ref w) (C := RX5) (T := TX5) (N := 1) hx hb hts inX5 hown hK.1 hP 0 rfl rfl 0 (by decide) (hts _ q_305) (fun _ h9 => h9) rfl dX5_everWithout_21 ?_
  refine lv_iload_n hx hb dX5_everWithout_24 rfl (lv_at hl 1 rfl) ?_
  refine lv_iload_n hx hb dX5_everWithout_25 rfl (lv_at hl 1 rfl) ?_
  refine go_i (rn_V (As := [.int 0, .int 0]) (rest := []) hx hb hml hown hts hK (cW_leadingInto l J w t we jo la 0 0) kV_RX5_45 (hP.sub (ws' := [(w, .inr (10, [.ref t, .ref we, .ref jo, .ref la, .int 0, .int 0, .int 0, .int 0, .int 1, .int 0, .int 0]))]) [1] rfl) rfl rfl rfl ⟨Nat.le_of_ble_eq_true rfl, Nat.le_of_ble_eq_true rfl⟩ rfl rfl rfl hl.1 rfl (Nat.le_of_ble_eq_true rfl) ⟨Nat.le_of_ble_eq_true rfl, Nat.le_of_ble_eq_true rfl⟩ dX5_everWithout_26) ?_
  refine lv_istore_n (lv' := [(2, .int 0), (3, .int 0), (0, .ref gr), (1, .int x)]) hx hb dX5_everWithout_29 rfl hl (by decide) rfl (fun ls hl => ?_)
  refine lv_iinc (v := 1) (lv' := [(3, .int 1), (2, .int 0), (0, .ref gr), (1, .int x)]) hx hb dX5_everWithout_30 hl (k := 1) rfl (by decide) (by decide) rfl (fun ls hl => ?_)
  refine lv_goto (tgt := 14) hx hb dX5_everWithout_33 (by decide) ?_
  refine lv_iload_n hx hb dX5_everWithout_14 rfl (lv_at hl 0 rfl) ?_
  refine lv_bipush (v := 10) hx hb dX5_everWithout_15 (by decide) ?_
  refine lv_icmp_ge (tgt := 36) hx hb dX5_everWithout_17 (by decide) (fun c => absurd c (by decide)) (fun _ => ?_)
  refine lv_aload_n hx hb dX5_everWithout_20 rfl (lv_at hl 2 rfl) ?_
  refine va_get (D := J.1) (ci := 5) (v := .ref w) (C := RX5) (T := TX5) (N := 1) hx hb hts inX5 hown hK.1 hP 0 rfl rfl 0 (by decide) (hts _ q_305) (fun _ h9 => h9) rfl dX5_everWithout_21 ?_
  refine lv_iload_n hx hb dX5_everWithout_24 rfl (lv_at hl 1 rfl) ?_
  refine lv_iload_n hx hb dX5_everWithout_25 rfl (lv_at hl 1 rfl) ?_
  refine go_i (rn_V (As := [.int 0, .int 0]) (rest := []) hx hb hml hown hts hK (cW_leadingInto l J w t we jo la 0 0) kV_RX5_45 (hP.sub (ws' := [(w, .inr (10, [.ref t, .ref we, .ref jo, .ref la, .int 0, .int 0, .int 0, .int 0, .int 1, .int 0, .int 0]))]) [1] rfl) rfl rfl rfl ⟨Nat.le_of_ble_eq_true rfl, Nat.le_of_ble_eq_true rfl⟩ rfl rfl rfl hl.1 rfl (Nat.le_of_ble_eq_true rfl) ⟨Nat.le_of_ble_eq_true rfl, Nat.le_of_ble_eq_true rfl⟩ dX5_everWithout_26) ?_
  refine lv_istore_n (lv' := [(2, .int 0), (3, .int 1), (0, .ref gr), (1, .int x)]) hx hb dX5_everWithout_29 rfl hl (by decide) rfl (fun ls hl => ?_)
  refine lv_iinc (v := 2) (lv' := [(3, .int 2), (2, .int 0), (0, .ref gr), (1, .int x)]) hx hb dX5_everWithout_30 hl (k := 1) rfl (by decide) (by decide) rfl (fun ls hl => ?_)
  refine lv_goto (tgt := 14) hx hb dX5_everWithout_33 (by decide) ?_
  refine lv_iload_n hx hb dX5_everWithout_14 rfl (lv_at hl 0 rfl) ?_
  refine lv_bipush (v := 10) hx hb dX5_everWithout_15 (by decide) ?_
  refine lv_icmp_ge (tgt := 36) hx hb dX5_everWithout_17 (by decide) (fun c => absurd c (by decide)) (fun _ => ?_)
  refine lv_aload_n hx hb dX5_everWithout_20 rfl (lv_at hl 2 rfl) ?_
  refine va_get (D := J.1) (ci := 5) (v := .ref w) (C := RX5) (T := TX5) (N := 1) hx hb hts inX5 hown hK.1 hP 0 rfl rfl 0 (by decide) (hts _ q_305) (fun _ h9 => h9) rfl dX5_everWithout_21 ?_
  refine lv_iload_n hx hb dX5_everWithout_24 rfl (lv_at hl 1 rfl) ?_
  refine lv_iload_n hx hb dX5_everWithout_25 rfl (lv_at hl 1 rfl) ?_
  refine go_i (rn_V (As := [.int 0, .int 0]) (rest := []) hx hb hml hown hts hK (cW_leadingInto l J w t we jo la 0 0) kV_RX5_45 (hP.sub (ws' := [(w, .inr (10, [.ref t, .ref we, .ref jo, .ref la, .int 0, .int 0, .int 0, .int 0, .int 1, .int 0, .int 0]))]) [1] rfl) rfl rfl rfl ⟨Nat.le_of_ble_eq_true rfl, Nat.le_of_ble_eq_true rfl⟩ rfl rfl rfl hl.1 rfl (Nat.le_of_ble_eq_true rfl) ⟨Nat.le_of_ble_eq_true rfl, Nat.le_of_ble_eq_true rfl⟩ dX5_everWithout_26) ?_
  refine lv_istore_n (lv' := [(2, .int 0), (3, .int 2), (0, .ref gr), (1, .int x)]) hx hb dX5_everWithout_29 rfl hl (by decide) rfl (fun ls hl => ?_)
  refine lv_iinc (v := 3) (lv' := [(3, .int 3), (2, .int 0), (0, .ref gr), (1, .int x)]) hx hb dX5_everWithout_30 hl (k := 1) rfl (by decide) (by decide) rfl (fun ls hl => ?_)
  refine lv_goto (tgt := 14) hx hb dX5_everWithout_33 (by decide) ?_
  refine lv_iload_n hx hb dX5_everWithout_14 rfl (lv_at hl 0 rfl) ?_
  refine lv_bipush (v := 10) hx hb dX5_everWithout_15 (by decide) ?_
  refine lv_icmp_ge (tgt := 36) hx hb dX5_everWithout_17 (by decide) (fun c => absurd c (by decide)) (fun _ => ?_)
  refine lv_aload_n hx hb dX5_everWithout_20 rfl (lv_at hl 2 rfl) ?_
  refine va_get (D := J.1) (ci := 5) (v := .ref w) (C := RX5) (T := TX5) (N := 1) hx hb hts inX5 hown hK.1 hP 0 rfl rfl 0 (by decide) (hts _ q_305) (fun _ h9 => h9) rfl dX5_everWithout_21 ?_
  refine lv_iload_n hx hb dX5_everWithout_24 rfl (lv_at hl 1 rfl) ?_
  refine lv_iload_n hx hb dX5_everWithout_25 rfl (lv_at hl 1 rfl) ?_
  refine go_i (rn_V (As := [.int 0, .int 0]) (rest := []) hx hb hml hown hts hK (cW_leadingInto l J w t we jo la 0 0) kV_RX5_45 (hP.sub (ws' := [(w, .inr (10, [.ref t, .ref we, .ref jo, .ref la, .int 0, .int 0, .int 0, .int 0, .int 1, .int 0, .int 0]))]) [1] rfl) rfl rfl rfl ⟨Nat.le_of_ble_eq_true rfl, Nat.le_of_ble_eq_true rfl⟩ rfl rfl rfl hl.1 rfl (Nat.le_of_ble_eq_true rfl) ⟨Nat.le_of_ble_eq_true rfl, Nat.le_of_ble_eq_true rfl⟩ dX5_everWithout_26) ?_
  refine lv_istore_n (lv' := [(2, .int 0), (3, .int 3), (0, .ref gr), (1, .int x)]) hx hb dX5_everWithout_29 rfl hl (by decide) rfl (fun ls hl => ?_)
  refine lv_iinc (v := 4) (lv' := [(3, .int 4), (2, .int 0), (0, .ref gr), (1, .int x)]) hx hb dX5_everWithout_30 hl (k := 1) rfl (by decide) (by decide) rfl (fun ls hl => ?_)
  refine lv_goto (tgt := 14) hx hb dX5_everWithout_33 (by decide) ?_
  refine lv_iload_n hx hb dX5_everWithout_14 rfl (lv_at hl 0 rfl) ?_
  refine lv_bipush (v := 10) hx hb dX5_everWithout_15 (by decide) ?_
  refine lv_icmp_ge (tgt := 36) hx hb dX5_everWithout_17 (by decide) (fun c => absurd c (by decide)) (fun _ => ?_)
  refine lv_aload_n hx hb dX5_everWithout_20 rfl (lv_at hl 2 rfl) ?_
  refine va_get (D := J.1) (ci := 5) (v := .ref w) (C := RX5) (T := TX5) (N := 1) hx hb hts inX5 hown hK.1 hP 0 rfl rfl 0 (by decide) (hts _ q_305) (fun _ h9 => h9) rfl dX5_everWithout_21 ?_
  refine lv_iload_n hx hb dX5_everWithout_24 rfl (lv_at hl 1 rfl) ?_
  refine lv_iload_n hx hb dX5_everWithout_25 rfl (lv_at hl 1 rfl) ?_
  refine go_i (rn_V (As := [.int 0, .int 0]) (rest := []) hx hb hml hown hts hK (cW_leadingInto l J w t we jo la 0 0) kV_RX5_45 (hP.sub (ws' := [(w, .inr (10, [.ref t, .ref we, .ref jo, .ref la, .int 0, .int 0, .int 0, .int 0, .int 1, .int 0, .int 0]))]) [1] rfl) rfl rfl rfl ⟨Nat.le_of_ble_eq_true rfl, Nat.le_of_ble_eq_true rfl⟩ rfl rfl rfl hl.1 rfl (Nat.le_of_ble_eq_true rfl) ⟨Nat.le_of_ble_eq_true rfl, Nat.le_of_ble_eq_true rfl⟩ dX5_everWithout_26) ?_
  refine lv_istore_n (lv' := [(2, .int 0), (3, .int 4), (0, .ref gr), (1, .int x)]) hx hb dX5_everWithout_29 rfl hl (by decide) rfl (fun ls hl => ?_)
  refine lv_iinc (v := 5) (lv' := [(3, .int 5), (2, .int 0), (0, .ref gr), (1, .int x)]) hx hb dX5_everWithout_30 hl (k := 1) rfl (by decide) (by decide) rfl (fun ls hl => ?_)
  refine lv_goto (tgt := 14) hx hb dX5_everWithout_33 (by decide) ?_
  refine lv_iload_n hx hb dX5_everWithout_14 rfl (lv_at hl 0 rfl) ?_
  refine lv_bipush (v := 10) hx hb dX5_everWithout_15 (by decide) ?_
  refine lv_icmp_ge (tgt := 36) hx hb dX5_everWithout_17 (by decide) (fun c => absurd c (by decide)) (fun _ => ?_)
  refine lv_aload_n hx hb dX5_everWithout_20 rfl (lv_at hl 2 rfl) ?_
  refine va_get (D := J.1) (ci := 5) (v := .ref w) (C := RX5) (T := TX5) (N := 1) hx hb hts inX5 hown hK.1 hP 0 rfl rfl 0 (by decide) (hts _ q_305) (fun _ h9 => h9) rfl dX5_everWithout_21 ?_
  refine lv_iload_n hx hb dX5_everWithout_24 rfl (lv_at hl 1 rfl) ?_
  refine lv_iload_n hx hb dX5_everWithout_25 rfl (lv_at hl 1 rfl) ?_
  refine go_i (rn_V (As := [.int 0, .int 0]) (rest := []) hx hb hml hown hts hK (cW_leadingInto l J w t we jo la 0 0) kV_RX5_45 (hP.sub (ws' := [(w, .inr (10, [.ref t, .ref we, .ref jo, .ref la, .int 0, .int 0, .int 0, .int 0, .int 1, .int 0, .int 0]))]) [1] rfl) rfl rfl rfl ⟨Nat.le_of_ble_eq_true rfl, Nat.le_of_ble_eq_true rfl⟩ rfl rfl rfl hl.1 rfl (Nat.le_of_ble_eq_true rfl) ⟨Nat.le_of_ble_eq_true rfl, Nat.le_of_ble_eq_true rfl⟩ dX5_everWithout_26) ?_
  refine lv_istore_n (lv' := [(2, .int 0), (3, .int 5), (0, .ref gr), (1, .int x)]) hx hb dX5_everWithout_29 rfl hl (by decide) rfl (fun ls hl => ?_)
  refine lv_iinc (v := 6) (lv' := [(3, .int 6), (2, .int 0), (0, .ref gr), (1, .int x)]) hx hb dX5_everWithout_30 hl (k := 1) rfl (by decide) (by decide) rfl (fun ls hl => ?_)
  refine lv_goto (tgt := 14) hx hb dX5_everWithout_33 (by decide) ?_
  refine lv_iload_n hx hb dX5_everWithout_14 rfl (lv_at hl 0 rfl) ?_
  refine lv_bipush (v := 10) hx hb dX5_everWithout_15 (by decide) ?_
  refine lv_icmp_ge (tgt := 36) hx hb dX5_everWithout_17 (by decide) (fun c => absurd c (by decide)) (fun _ => ?_)
  refine lv_aload_n hx hb dX5_everWithout_20 rfl (lv_at hl 2 rfl) ?_
  refine va_get (D := J.1) (ci := 5) (v := .ref w) (C := RX5) (T := TX5) (N := 1) hx hb hts inX5 hown hK.1 hP 0 rfl rfl 0 (by decide) (hts _ q_305) (fun _ h9 => h9) rfl dX5_everWithout_21 ?_
  refine lv_iload_n hx hb dX5_everWithout_24 rfl (lv_at hl 1 rfl) ?_
  refine lv_iload_n hx hb dX5_everWithout_25 rfl (lv_at hl 1 rfl) ?_
  refine go_i (rn_V (As := [.int 0, .int 0]) (rest := []) hx hb hml hown hts hK (cW_leadingInto l J w t we jo la 0 0) kV_RX5_45 (hP.sub (ws' := [(w, .inr (10, [.ref t, .ref we, .ref jo, .ref la, .int 0, .int 0, .int 0, .int 0, .int 1, .int 0, .int 0]))]) [1] rfl) rfl rfl rfl ⟨Nat.le_of_ble_eq_true rfl, Nat.le_of_ble_eq_true rfl⟩ rfl rfl rfl hl.1 rfl (Nat.le_of_ble_eq_true rfl) ⟨Nat.le_of_ble_eq_true rfl, Nat.le_of_ble_eq_true rfl⟩ dX5_everWithout_26) ?_
  refine lv_istore_n (lv' := [(2, .int 0), (3, .int 6), (0, .ref gr), (1, .int x)]) hx hb dX5_everWithout_29 rfl hl (by decide) rfl (fun ls hl => ?_)
  refine lv_iinc (v := 7) (lv' := [(3, .int 7), (2, .int 0), (0, .ref gr), (1, .int x)]) hx hb dX5_everWithout_30 hl (k := 1) rfl (by decide) (by decide) rfl (fun ls hl => ?_)
  refine lv_goto (tgt := 14) hx hb dX5_everWithout_33 (by decide) ?_
  refine lv_iload_n hx hb dX5_everWithout_14 rfl (lv_at hl 0 rfl) ?_
  refine lv_bipush (v := 10) hx hb dX5_everWithout_15 (by decide) ?_
  refine lv_icmp_ge (tgt := 36) hx hb dX5_everWithout_17 (by decide) (fun c => absurd c (by decide)) (fun _ => ?_)
  refine lv_aload_n hx hb dX5_everWithout_20 rfl (lv_at hl 2 rfl) ?_
  refine va_get (D := J.1) (ci := 5) (v := .ref w) (C := RX5) (T := TX5) (N := 1) hx hb hts inX5 hown hK.1 hP 0 rfl rfl 0 (by decide) (hts _ q_305) (fun _ h9 => h9) rfl dX5_everWithout_21 ?_
  refine lv_iload_n hx hb dX5_everWithout_24 rfl (lv_at hl 1 rfl) ?_
  refine lv_iload_n hx hb dX5_everWithout_25 rfl (lv_at hl 1 rfl) ?_
  refine go_i (rn_V (As := [.int 0, .int 0]) (rest := []) hx hb hml hown hts hK (cW_leadingInto l J w t we jo la 0 0) kV_RX5_45 (hP.sub (ws' := [(w, .inr (10, [.ref t, .ref we, .ref jo, .ref la, .int 0, .int 0, .int 0, .int 0, .int 1, .int 0, .int 0]))]) [1] rfl) rfl rfl rfl ⟨Nat.le_of_ble_eq_true rfl, Nat.le_of_ble_eq_true rfl⟩ rfl rfl rfl hl.1 rfl (Nat.le_of_ble_eq_true rfl) ⟨Nat.le_of_ble_eq_true rfl, Nat.le_of_ble_eq_true rfl⟩ dX5_everWithout_26) ?_
  refine lv_istore_n (lv' := [(2, .int 0), (3, .int 7), (0, .ref gr), (1, .int x)]) hx hb dX5_everWithout_29 rfl hl (by decide) rfl (fun ls hl => ?_)
  refine lv_iinc (v := 8) (lv' := [(3, .int 8), (2, .int 0), (0, .ref gr), (1, .int x)]) hx hb dX5_everWithout_30 hl (k := 1) rfl (by decide) (by decide) rfl (fun ls hl => ?_)
  refine lv_goto (tgt := 14) hx hb dX5_everWithout_33 (by decide) ?_
  refine lv_iload_n hx hb dX5_everWithout_14 rfl (lv_at hl 0 rfl) ?_
  refine lv_bipush (v := 10) hx hb dX5_everWithout_15 (by decide) ?_
  refine lv_icmp_ge (tgt := 36) hx hb dX5_everWithout_17 (by decide) (fun c => absurd c (by decide)) (fun _ => ?_)
  refine lv_aload_n hx hb dX5_everWithout_20 rfl (lv_at hl 2 rfl) ?_
  refine va_get (D := J.1) (ci := 5) (v := .ref w) (C := RX5) (T := TX5) (N := 1) hx hb hts inX5 hown hK.1 hP 0 rfl rfl 0 (by decide) (hts _ q_305) (fun _ h9 => h9) rfl dX5_everWithout_21 ?_
  refine lv_iload_n hx hb dX5_everWithout_24 rfl (lv_at hl 1 rfl) ?_
  refine lv_iload_n hx hb dX5_everWithout_25 rfl (lv_at hl 1 rfl) ?_
  refine go_i (rn_V (As := [.int 0, .int 0]) (rest := []) hx hb hml hown hts hK (cW_leadingInto l J w t we jo la 0 0) kV_RX5_45 (hP.sub (ws' := [(w, .inr (10, [.ref t, .ref we, .ref jo, .ref la, .int 0, .int 0, .int 0, .int 0, .int 1, .int 0, .int 0]))]) [1] rfl) rfl rfl rfl ⟨Nat.le_of_ble_eq_true rfl, Nat.le_of_ble_eq_true rfl⟩ rfl rfl rfl hl.1 rfl (Nat.le_of_ble_eq_true rfl) ⟨Nat.le_of_ble_eq_true rfl, Nat.le_of_ble_eq_true rfl⟩ dX5_everWithout_26) ?_
  refine lv_istore_n (lv' := [(2, .int 0), (3, .int 8), (0, .ref gr), (1, .int x)]) hx hb dX5_everWithout_29 rfl hl (by decide) rfl (fun ls hl => ?_)
  refine lv_iinc (v := 9) (lv' := [(3, .int 9), (2, .int 0), (0, .ref gr), (1, .int x)]) hx hb dX5_everWithout_30 hl (k := 1) rfl (by decide) (by decide) rfl (fun ls hl => ?_)
  refine lv_goto (tgt := 14) hx hb dX5_everWithout_33 (by decide) ?_
  refine lv_iload_n hx hb dX5_everWithout_14 rfl (lv_at hl 0 rfl) ?_
  refine lv_bipush (v := 10) hx hb dX5_everWithout_15 (by decide) ?_
  refine lv_icmp_ge (tgt := 36) hx hb dX5_everWithout_17 (by decide) (fun c => absurd c (by decide)) (fun _ => ?_)
  refine lv_aload_n hx hb dX5_everWithout_20 rfl (lv_at hl 2 rfl) ?_
  refine va_get (D := J.1) (ci := 5) (v := .ref w) (C := RX5) (T := TX5) (N := 1) hx hb hts inX5 hown hK.1 hP 0 rfl rfl 0 (by decide) (hts _ q_305) (fun _ h9 => h9) rfl dX5_everWithout_21 ?_
  refine lv_iload_n hx hb dX5_everWithout_24 rfl (lv_at hl 1 rfl) ?_
  refine lv_iload_n hx hb dX5_everWithout_25 rfl (lv_at hl 1 rfl) ?_
  refine go_i (rn_V (As := [.int 0, .int 0]) (rest := []) hx hb hml hown hts hK (cW_leadingInto l J w t we jo la 0 0) kV_RX5_45 (hP.sub (ws' := [(w, .inr (10, [.ref t, .ref we, .ref jo, .ref la, .int 0, .int 0, .int 0, .int 0, .int 1, .int 0, .int 0]))]) [1] rfl) rfl rfl rfl ⟨Nat.le_of_ble_eq_true rfl, Nat.le_of_ble_eq_true rfl⟩ rfl rfl rfl hl.1 rfl (Nat.le_of_ble_eq_true rfl) ⟨Nat.le_of_ble_eq_true rfl, Nat.le_of_ble_eq_true rfl⟩ dX5_everWithout_26) ?_
  refine lv_istore_n (lv' := [(2, .int 0), (3, .int 9), (0, .ref gr), (1, .int x)]) hx hb dX5_everWithout_29 rfl hl (by decide) rfl (fun ls hl => ?_)
  refine lv_iinc (v := 10) (lv' := [(3, .int 10), (2, .int 0), (0, .ref gr), (1, .int x)]) hx hb dX5_everWithout_30 hl (k := 1) rfl (by decide) (by decide) rfl (fun ls hl => ?_)
  refine lv_goto (tgt := 14) hx hb dX5_everWithout_33 (by decide) ?_
  refine lv_iload_n hx hb dX5_everWithout_14 rfl (lv_at hl 0 rfl) ?_
  refine lv_bipush (v := 10) hx hb dX5_everWithout_15 (by decide) ?_
  refine lv_icmp_ge (tgt := 36) hx hb dX5_everWithout_17 (by decide) (fun _ => ?_) (fun c => absurd c (by decide))
  refine lv_iload_n hx hb dX5_everWithout_36 rfl (lv_at hl 1 rfl) ?_
  exact rz_i hx hb hr hlk (by decide) dX5_everWithout_37
theorem dX6_lowestOf_0 : decode cX6_lowestOf 0 = .ok (.iload_n 0, 1) := by decide +kernel
theorem dX6_lowestOf_1 : decode cX6_lowestOf 1 = .ok (.iload_n 0, 1) := by decide +kernel
theorem dX6_lowestOf_2 : decode cX6_lowestOf 2 = .ok (.ineg, 1) := by decide +kernel
theorem dX6_lowestOf_3 : decode cX6_lowestOf 3 = .ok (.iand, 1) := by decide +kernel
theorem dX6_lowestOf_4 : decode cX6_lowestOf 4 = .ok (.iconst 1, 1) := by decide +kernel
theorem dX6_lowestOf_5 : decode cX6_lowestOf 5 = .ok (.isub, 1) := by decide +kernel
theorem q_835 : Cond.methodLink RX6 78 yJ6_bitCount_0f7a4 ∈ lw_g := mem_q 835 (by decide +kernel) rfl
theorem kS_RX6_78 : CS RX6 78 yJ6_bitCount_0f7a4 cJ6_bitCount_0f7a4 1 (some .int) 1 := cs_of q_835 q_608 q_117 q_609 (by decide +kernel)
theorem dX6_lowestOf_6 : decode cX6_lowestOf 6 = .ok (.invokestatic 78, 3) := by decide +kernel
theorem dX6_lowestOf_9 : decode cX6_lowestOf 9 = .ok (.ireturn, 1) := by decide +kernel
set_option maxHeartbeats 4000000 in
set_option maxRecDepth 100000 in
theorem cH_lowestOf (l : Launch) (J : va_J9) (x : Int32) : RC l J yX6_lowestOf cX6_lowestOf 1 (some .int) ({ frames := 1, cells := 0, slots := 0, locals := 20 }) [.int x] [] (vp_Si (fun _ => True)) := by
  refine rc_of (by decide) (Nat.le_of_ble_eq_true rfl) ?_
  intro p e s m below meth c ls hE hl hP hK
  obtain ⟨hx, hb, hr, hml, hown, hts, hlk, hin⟩ := hE
  have hown : s.vm.findClass RX6 = some m.cls := hown
  have hl : lv_has ls 1 [(0, .int x)] := hl
  have rg_x := i_rng x
  refine lv_iload_n hx hb dX6_lowestOf_0 rfl (lv_at hl 0 rfl) ?_
  refine lv_iload_n hx hb dX6_lowestOf_1 rfl (lv_at hl 0 rfl) ?_
  refine lv_ineg hx hb dX6_lowestOf_2 ?_
  refine lv_iand hx hb dX6_lowestOf_3 ?_
  refine lv_iconst (v := 1) hx hb dX6_lowestOf_4 (by decide) ?_
  refine lv_isub hx hb dX6_lowestOf_5 ?_
  refine vp_callSi (rn_S (As := [.int ((x &&& (-x)) - 1)]) (rest := []) hx hb hml hown hts hK (cJ_bit l J ((x &&& (-x)) - 1)) kS_RX6_78 hP ⟨Nat.le_of_ble_eq_true rfl, Nat.le_of_ble_eq_true rfl⟩ rfl rfl rfl hl.1 rfl (Nat.le_of_ble_eq_true rfl) ⟨Nat.le_of_ble_eq_true rfl, Nat.le_of_ble_eq_true rfl⟩ dX6_lowestOf_6) (fun y1 _ => ?_)
  exact rz_any hx hb hr hlk dX6_lowestOf_9
theorem dX6_nextOf_0 : decode cX6_nextOf 0 = .ok (.aload_n 0, 1) := by decide +kernel
theorem q_271 : Cond.fieldLink RX6 49 RX6 "open" "I" ∈ lw_g := mem_q 271 (by decide +kernel) rfl
theorem dX6_nextOf_1 : decode cX6_nextOf 1 = .ok (.getfield 49, 3) := by decide +kernel
theorem dX6_nextOf_4 : decode cX6_nextOf 4 = .ok (.iload_n 1, 1) := by decide +kernel
theorem dX6_nextOf_5 : decode cX6_nextOf 5 = .ok (.ishr, 1) := by decide +kernel
theorem dX6_nextOf_6 : decode cX6_nextOf 6 = .ok (.iconst 1, 1) := by decide +kernel
theorem dX6_nextOf_7 : decode cX6_nextOf 7 = .ok (.iand, 1) := by decide +kernel
theorem dX6_nextOf_8 : decode cX6_nextOf 8 = .ok (.iconst 1, 1) := by decide +kernel
theorem dX6_nextOf_9 : decode cX6_nextOf 9 = .ok (.if_icmp .ne 19, 3) := by decide +kernel
theorem dX6_nextOf_28 : decode cX6_nextOf 28 = .ok (.iconst 0, 1) := by decide +kernel
theorem dX6_nextOf_29 : decode cX6_nextOf 29 = .ok (.istore_n 2, 1) := by decide +kernel
theorem dX6_nextOf_30 : decode cX6_nextOf 30 = .ok (.iload_n 2, 1) := by decide +kernel
theorem dX6_nextOf_31 : decode cX6_nextOf 31 = .ok (.ifCond .eq 7, 3) := by decide +kernel
theorem dX6_nextOf_38 : decode cX6_nextOf 38 = .ok (.iconst 1, 1) := by decide +kernel
theorem dX6_nextOf_39 : decode cX6_nextOf 39 = .ok (.iload_n 1, 1) := by decide +kernel
theorem dX6_nextOf_40 : decode cX6_nextOf 40 = .ok (.ishl, 1) := by decide +kernel
theorem dX6_nextOf_41 : decode cX6_nextOf 41 = .ok (.ireturn, 1) := by decide +kernel
set_option maxHeartbeats 4000000 in
set_option maxRecDepth 100000 in
theorem cH_nextOf (l : Launch) (J : va_J9) (hu : Nat) (w : Nat) (tr : Nat) (qu : Nat) (lo : Nat) (hi : Nat) (x : Int32) : RC l J yX6_nextOf cX6_nextOf 3 (some .int) ({ frames := 0, cells := 0, slots := 0, locals := 0 }) [.ref hu, .int x] [(hu, .inr (6, [.ref w, .ref tr, .ref qu, .int 0, .ref lo, .ref hi, .int 0, .int 0, .int 0, .int 0, .int (-1)]))] (vp_Si (fun _ => True)) := by
  refine rc_of (by decide) (Nat.le_of_ble_eq_true rfl) ?_
  intro p e s m below meth c ls hE hl hP hK
  obtain ⟨hx, hb, hr, hml, hown, hts, hlk, hin⟩ := hE
  have hown : s.vm.findClass RX6 = some m.cls := hown
  have hl : lv_has ls 3 [(0, .ref hu), (1, .int x)] := hl
  have rg_x := i_rng x
  refine lv_aload_n hx hb dX6_nextOf_0 rfl (lv_at hl 0 rfl) ?_
  refine va_get (D := J.1) (ci := 6) (v := .int 0) (C := RX6) (T := TX6) (N := 11) hx hb hts inX6 hown hK.1 hP 0 rfl rfl 6 (by decide) (hts _ q_271) (fun _ h9 => h9) rfl dX6_nextOf_1 ?_
  refine lv_iload_n hx hb dX6_nextOf_4 rfl (lv_at hl 1 rfl) ?_
  refine lv_ishr hx hb dX6_nextOf_5 ?_
  refine top_i (y := 0) (sh0 _) ?_
  refine lv_iconst (v := 1) hx hb dX6_nextOf_6 (by decide) ?_
  refine lv_iand hx hb dX6_nextOf_7 ?_
  refine top_i (y := 0) (by decide) ?_
  refine lv_iconst (v := 1) hx hb dX6_nextOf_8 (by decide) ?_
  refine lv_icmp_ne (tgt := 28) hx hb dX6_nextOf_9 (by decide) (fun _ => ?_) (fun c => absurd c (by decide))
  refine lv_iconst (v := 0) hx hb dX6_nextOf_28 (by decide) ?_
  refine lv_istore_n (lv' := [(2, .int 0), (0, .ref hu), (1, .int x)]) hx hb dX6_nextOf_29 rfl hl (by decide) rfl (fun ls hl => ?_)
  refine lv_iload_n hx hb dX6_nextOf_30 rfl (lv_at hl 0 rfl) ?_
  refine lv_if_eq (tgt := 38) hx hb dX6_nextOf_31 (by decide) (fun _ => ?_) (fun c => absurd c (by decide))
  refine lv_iconst (v := 1) hx hb dX6_nextOf_38 (by decide) ?_
  refine lv_iload_n hx hb dX6_nextOf_39 rfl (lv_at hl 2 rfl) ?_
  refine lv_ishl hx hb dX6_nextOf_40 ?_
  exact rz_any hx hb hr hlk dX6_nextOf_41
theorem dX6_layOut_0 : decode cX6_layOut 0 = .ok (.aload_n 0, 1) := by decide +kernel
theorem dX6_layOut_1 : decode cX6_layOut 1 = .ok (.iload_n 1, 1) := by decide +kernel
theorem dX6_layOut_2 : decode cX6_layOut 2 = .ok (.putfield 49, 3) := by decide +kernel
theorem dX6_layOut_5 : decode cX6_layOut 5 = .ok (.iconst 1, 1) := by decide +kernel
theorem dX6_layOut_6 : decode cX6_layOut 6 = .ok (.istore_n 2, 1) := by decide +kernel
theorem dX6_layOut_7 : decode cX6_layOut 7 = .ok (.iload_n 2, 1) := by decide +kernel
theorem dX6_layOut_8 : decode cX6_layOut 8 = .ok (.bipush 32, 2) := by decide +kernel
theorem dX6_layOut_10 : decode cX6_layOut 10 = .ok (.if_icmp .ge 60, 3) := by decide +kernel
theorem dX6_layOut_70 : decode cX6_layOut 70 = .ok (.return_, 1) := by decide +kernel
theorem dX6_layOut_13 : decode cX6_layOut 13 = .ok (.iload_n 2, 1) := by decide +kernel
theorem q_832 : Cond.methodLink RX6 93 yX6_lowestOf ∈ lw_g := mem_q 832 (by decide +kernel) rfl
theorem q_833 : Cond.static yX6_lowestOf ∈ lw_g := mem_q 833 (by decide +kernel) rfl
theorem q_108 : Cond.initialized RX6 ∈ lw_g := mem_q 108 (by decide +kernel) rfl
theorem q_834 : Cond.code yX6_lowestOf cX6_lowestOf 1 (some .int) ∈ lw_g := mem_q 834 (by decide +kernel) rfl
theorem kS_RX6_93 : CS RX6 93 yX6_lowestOf cX6_lowestOf 1 (some .int) 1 := cs_of q_832 q_833 q_108 q_834 (by decide +kernel)
theorem dX6_layOut_14 : decode cX6_layOut 14 = .ok (.invokestatic 93, 3) := by decide +kernel
theorem dX6_layOut_17 : decode cX6_layOut 17 = .ok (.istore_n 3, 1) := by decide +kernel
theorem dX6_layOut_18 : decode cX6_layOut 18 = .ok (.aload_n 0, 1) := by decide +kernel
theorem q_269 : Cond.fieldLink RX6 18 RX6 "lowNights" "[I" ∈ lw_g := mem_q 269 (by decide +kernel) rfl
theorem dX6_layOut_19 : decode cX6_layOut 19 = .ok (.getfield 18, 3) := by decide +kernel
theorem dX6_layOut_22 : decode cX6_layOut 22 = .ok (.iload_n 2, 1) := by decide +kernel
theorem dX6_layOut_23 : decode cX6_layOut 23 = .ok (.aload_n 0, 1) := by decide +kernel
theorem dX6_layOut_24 : decode cX6_layOut 24 = .ok (.getfield 18, 3) := by decide +kernel
theorem dX6_layOut_27 : decode cX6_layOut 27 = .ok (.iload_n 2, 1) := by decide +kernel
theorem dX6_layOut_28 : decode cX6_layOut 28 = .ok (.iload_n 2, 1) := by decide +kernel
theorem dX6_layOut_29 : decode cX6_layOut 29 = .ok (.iconst 1, 1) := by decide +kernel
theorem dX6_layOut_30 : decode cX6_layOut 30 = .ok (.isub, 1) := by decide +kernel
theorem dX6_layOut_31 : decode cX6_layOut 31 = .ok (.iand, 1) := by decide +kernel
theorem dX6_layOut_32 : decode cX6_layOut 32 = .ok (.iaload, 1) := by decide +kernel
theorem dX6_layOut_33 : decode cX6_layOut 33 = .ok (.aload_n 0, 1) := by decide +kernel
theorem dX6_layOut_34 : decode cX6_layOut 34 = .ok (.iload_n 3, 1) := by decide +kernel
theorem q_836 : Cond.methodLink RX6 90 yX6_nextOf ∈ lw_g := mem_q 836 (by decide +kernel) rfl
theorem q_838 : Cond.instanceMethod yX6_nextOf ∈ lw_g := mem_q 838 (by decide +kernel) rfl
theorem q_20 : Cond.selects RX6 yX6_nextOf yX6_nextOf ∈ lw_g := mem_q 20 (by decide +kernel) rfl
theorem q_839 : Cond.code yX6_nextOf cX6_nextOf 3 (some .int) ∈ lw_g := mem_q 839 (by decide +kernel) rfl
theorem kV_RX6_90 : CV RX6 90 RX6 yX6_nextOf cX6_nextOf 3 (some .int) 1 := cv_of q_836 q_838 q_20 q_108 q_839 (by decide +kernel)
theorem dX6_layOut_35 : decode cX6_layOut 35 = .ok (.invokevirtual 90, 3) := by decide +kernel
theorem dX6_layOut_38 : decode cX6_layOut 38 = .ok (.ior, 1) := by decide +kernel
theorem dX6_layOut_39 : decode cX6_layOut 39 = .ok (.iastore, 1) := by decide +kernel
theorem dX6_layOut_40 : decode cX6_layOut 40 = .ok (.aload_n 0, 1) := by decide +kernel
theorem q_270 : Cond.fieldLink RX6 21 RX6 "highNights" "[I" ∈ lw_g := mem_q 270 (by decide +kernel) rfl
theorem dX6_layOut_41 : decode cX6_layOut 41 = .ok (.getfield 21, 3) := by decide +kernel
theorem dX6_layOut_44 : decode cX6_layOut 44 = .ok (.iload_n 2, 1) := by decide +kernel
theorem dX6_layOut_45 : decode cX6_layOut 45 = .ok (.aload_n 0, 1) := by decide +kernel
theorem dX6_layOut_46 : decode cX6_layOut 46 = .ok (.getfield 21, 3) := by decide +kernel
theorem dX6_layOut_49 : decode cX6_layOut 49 = .ok (.iload_n 2, 1) := by decide +kernel
theorem dX6_layOut_50 : decode cX6_layOut 50 = .ok (.iload_n 2, 1) := by decide +kernel
theorem dX6_layOut_51 : decode cX6_layOut 51 = .ok (.iconst 1, 1) := by decide +kernel
theorem dX6_layOut_52 : decode cX6_layOut 52 = .ok (.isub, 1) := by decide +kernel
theorem dX6_layOut_53 : decode cX6_layOut 53 = .ok (.iand, 1) := by decide +kernel
theorem dX6_layOut_54 : decode cX6_layOut 54 = .ok (.iaload, 1) := by decide +kernel
theorem dX6_layOut_55 : decode cX6_layOut 55 = .ok (.aload_n 0, 1) := by decide +kernel
theorem dX6_layOut_56 : decode cX6_layOut 56 = .ok (.iload_n 3, 1) := by decide +kernel
theorem dX6_layOut_57 : decode cX6_layOut 57 = .ok (.iconst 5, 1) := by decide +kernel
theorem dX6_layOut_58 : decode cX6_layOut 58 = .ok (.iadd, 1) := by decide +kernel
theorem dX6_layOut_59 : decode cX6_layOut 59 = .ok (.invokevirtual 90, 3) := by decide +kernel
theorem dX6_layOut_62 : decode cX6_layOut 62 = .ok (.ior, 1) := by decide +kernel
theorem dX6_layOut_63 : decode cX6_layOut 63 = .ok (.iastore, 1) := by decide +kernel
theorem dX6_layOut_64 : decode cX6_layOut 64 = .ok (.iinc 2 1, 3) := by decide +kernel
theorem dX6_layOut_67 : decode cX6_layOut 67 = .ok (.goto (-60), 3) := by decide +kernel
set_option maxHeartbeats 4000000 in
set_option maxRecDepth 100000 in
theorem cH_layOut (l : Launch) (J : va_J9) (sz : Nat) (hu : Nat) (w : Nat) (tr : Nat) (qu : Nat) (lo : Nat) (hi : Nat) : WC l J yX6_layOut cX6_layOut 4 none ({ frames := 2, cells := 0, slots := 0, locals := 40 }) [.ref hu, .int 0] [(hu, .inr (6, [.ref w, .ref tr, .ref qu, .int 0, .ref lo, .ref hi, .int 0, .int 0, .int 0, .int 0, .int (-1)])), (lo, .inl (J.2.1, 32, .inl (fun _ => 0))), (hi, .inl (J.2.1, 32, .inl (fun _ => 0)))] sz (Qv J (fun (u : Unit) => True) (fun (_ : Unit) => [(hu, .inr (6, [.ref w, .ref tr, .ref qu, .int 0, .ref lo, .ref hi, .int 0, .int 0, .int 0, .int 0, .int (-1)]))])) 0 0 := by
  refine wc_of (by decide) (Nat.le_of_ble_eq_true rfl) ?_
  intro p e s m below meth c ls A hE hl hP hK hD hS hA
  obtain ⟨hx, hb, hr, hml, hown, hts, hlk, hin⟩ := hE
  have hown : s.vm.findClass RX6 = some m.cls := hown
  have hl : lv_has ls 4 [(0, .ref hu), (1, .int 0)] := hl
  refine lv_aload_n hx hb dX6_layOut_0 rfl (lv_at hl 0 rfl) ?_
  refine lv_iload_n hx hb dX6_layOut_1 rfl (lv_at hl 1 rfl) ?_
  refine va_put (D := J.1) (ci := 6) (v := .int 0) (ty := (.int)) (C := RX6) (T := TX6) (N := 11) hx hb hts inX6 tyX6 tyX6_ok nmX6 hown hK.1 hP hD hS 0 rfl rfl 6 (by decide) (hts _ q_271) (fun _ h9 => h9) rfl (by decide +kernel) rfl rfl (Nat.le_of_ble_eq_true rfl) dX6_layOut_2 (fun H locs hP hD hS => ?_)
  have hP : va_P J.1 cls [(hu, .inr (6, [.ref w, .ref tr, .ref qu, .int 0, .ref lo, .ref hi, .int 0, .int 0, .int 0, .int 0, .int (-1)])), (lo, .inl (J.2.1, 32, .inl (fun _ => 0))), (hi, .inl (J.2.1, 32, .inl (fun _ => 0)))] H := hP
  have hD : va_D A [(hu, .inr (6, [.ref w, .ref tr, .ref qu, .int 0, .ref lo, .ref hi, .int 0, .int 0, .int 0, .int 0, .int (-1)])), (lo, .inl (J.2.1, 32, .inl (fun _ => 0))), (hi, .inl (J.2.1, 32, .inl (fun _ => 0)))] := hD
  refine lv_iconst (v := 1) hx hb dX6_layOut_5 (by decide) ?_
  refine lv_istore_n (lv' := [(2, .int 1), (0, .ref hu), (1, .int 0)]) hx hb dX6_layOut_6 rfl hl (by decide) rfl (fun ls hl => ?_)
  have LP3 : ∀ (k1 i2 : Nat), i2 + k1 = 32 → ∀ (f4 : Nat → Int32) (f5 : Nat → Int32), ∀ (H : Heap) (locs : List Loc) (ls : Array Slot), va_P J.1 cls [(hu, .inr (6, [.ref w, .ref tr, .ref qu, .int 0, .ref lo, .ref hi, .int 0, .int 0, .int 0, .int 0, .int (-1)])), (lo, .inl (J.2.1, 32, .inl f4)), (hi, .inl (J.2.1, 32, .inl f5))] H → va_D A [(hu, .inr (6, [.ref w, .ref tr, .ref qu, .int 0, .ref lo, .ref hi, .int 0, .int 0, .int 0, .int 0, .int (-1)])), (lo, .inl (J.2.1, 32, .inl f4)), (hi, .inl (J.2.1, 32, .inl f5))] → va_S A s.heap H locs → lv_has ls 4 [(2, .int (nI i2)), (0, .ref hu), (1, .int 0)] → W p l e ({ frames := 2, cells := 0, slots := 0, locals := 40 } : Room) s m ([.ref hu, .int 0] : List Value).toArray below meth c H locs 0 0 (MQ below ((Qv J (fun (u : Unit) => True) (fun (_ : Unit) => [(hu, .inr (6, [.ref w, .ref tr, .ref qu, .int 0, .ref lo, .ref hi, .int 0, .int 0, .int 0, .int 0, .int (-1)]))])) A) ([.ref hu, .int 0] : List Value).toArray s 0 0 A) (F0 m 7 ls []) := by
    intro k1
    induction k1 with
    | zero =>
      intro i2 hi2 f4 f5 H locs ls hP hD hS hl
      refine lv_iload_n hx hb dX6_layOut_7 rfl (lv_at hl 0 rfl) ?_
      refine lv_bipush (v := 32) hx hb dX6_layOut_8 (by decide) ?_
      refine lv_icmp_ge (tgt := 70) hx hb dX6_layOut_10 (by decide) (fun _ => ?_) (fun c6 => absurd (show ¬ (32 ≤ ((i2 : Nat) : Int)) from fun h => c6 ((i_le (by decide) (nI_toInt (by omega))).mpr h)) (by omega))
      exact wz_v () hx hb hr hlk trivial (hP.sub (ws' := [(hu, .inr (6, [.ref w, .ref tr, .ref qu, .int 0, .ref lo, .ref hi, .int 0, .int 0, .int 0, .int 0, .int (-1)]))]) [0] rfl) (hD.sub (ws' := [(hu, .inr (6, [.ref w, .ref tr, .ref qu, .int 0, .ref lo, .ref hi, .int 0, .int 0, .int 0, .int 0, .int (-1)]))]) [0] (by decide) rfl) hS dX6_layOut_70
    | succ k1 ih =>
      intro i2 hi2 f4 f5 H locs ls hP hD hS hl
      refine lv_iload_n hx hb dX6_layOut_7 rfl (lv_at hl 0 rfl) ?_
      refine lv_bipush (v := 32) hx hb dX6_layOut_8 (by decide) ?_
      refine lv_icmp_ge (tgt := 70) hx hb dX6_layOut_10 (by decide) (fun c7 => absurd (show 32 ≤ ((i2 : Nat) : Int) from (i_le (by decide) (nI_toInt (by omega))).mp c7) (by omega)) (fun _ => ?_)
      refine lv_iload_n hx hb dX6_layOut_13 rfl (lv_at hl 0 rfl) ?_
      refine vp_callSi (rn_S (As := [.int (nI i2)]) (rest := []) hx hb hml hown hts hK (cH_lowestOf l J (nI i2)) kS_RX6_93 (hP.sub (ws' := []) [] rfl) ⟨Nat.le_of_ble_eq_true rfl, Nat.le_of_ble_eq_true rfl⟩ rfl rfl rfl hl.1 rfl (Nat.le_of_ble_eq_true rfl) ⟨Nat.le_of_ble_eq_true rfl, Nat.le_of_ble_eq_true rfl⟩ dX6_layOut_14) (fun y8 _ => ?_)
      refine lv_istore_n (lv' := [(3, .int y8), (2, .int (nI i2)), (0, .ref hu), (1, .int 0)]) hx hb dX6_layOut_17 rfl hl (by decide) rfl (fun ls hl => ?_)
      refine lv_aload_n hx hb dX6_layOut_18 rfl (lv_at hl 2 rfl) ?_
      refine va_get (D := J.1) (ci := 6) (v := .ref lo) (C := RX6) (T := TX6) (N := 11) hx hb hts inX6 hown hK.1 hP 0 rfl rfl 4 (by decide) (hts _ q_269) (fun _ h9 => h9) rfl dX6_layOut_19 ?_
      refine lv_iload_n hx hb dX6_layOut_22 rfl (lv_at hl 1 rfl) ?_
      refine lv_aload_n hx hb dX6_layOut_23 rfl (lv_at hl 2 rfl) ?_
      refine va_get (D := J.1) (ci := 6) (v := .ref lo) (C := RX6) (T := TX6) (N := 11) hx hb hts inX6 hown hK.1 hP 0 rfl rfl 4 (by decide) (hts _ q_269) (fun _ h9 => h9) rfl dX6_layOut_24 ?_
      refine lv_iload_n hx hb dX6_layOut_27 rfl (lv_at hl 1 rfl) ?_
      refine lv_iload_n hx hb dX6_layOut_28 rfl (lv_at hl 1 rfl) ?_
      refine lv_iconst (v := 1) hx hb dX6_layOut_29 (by decide) ?_
      refine lv_isub hx hb dX6_layOut_30 ?_
      refine lv_iand hx hb dX6_layOut_31 ?_
      have h9 : vp_in ((nI i2) &&& ((nI i2) - 1)) 32 := (lo_in i2 (by omega))
      refine va_iald hx hb hK.1 hP 1 0 rfl rfl h9 dX6_layOut_32 ?_
      refine lv_aload_n hx hb dX6_layOut_33 rfl (lv_at hl 2 rfl) ?_
      refine lv_iload_n hx hb dX6_layOut_34 rfl (lv_at hl 0 rfl) ?_
      refine vp_callSi (rn_V (As := [.int y8]) (rest := [.int (f4 ((nI i2) &&& ((nI i2) - 1)).toNatClampNeg), .int (nI i2), .ref lo]) hx hb hml hown hts hK (cH_nextOf l J hu w tr qu lo hi y8) kV_RX6_90 (hP.sub (ws' := [(hu, .inr (6, [.ref w, .ref tr, .ref qu, .int 0, .ref lo, .ref hi, .int 0, .int 0, .int 0, .int 0, .int (-1)]))]) [0] rfl) rfl rfl rfl ⟨Nat.le_of_ble_eq_true rfl, Nat.le_of_ble_eq_true rfl⟩ rfl rfl rfl hl.1 rfl (Nat.le_of_ble_eq_true rfl) ⟨Nat.le_of_ble_eq_true rfl, Nat.le_of_ble_eq_true rfl⟩ dX6_layOut_35) (fun y10 _ => ?_)
      refine lv_ior hx hb dX6_layOut_38 ?_
      have h11 : vp_in (nI i2) 32 := (i_in (a := ((i2 : Nat) : Int)) (nI_toInt (by omega)) (by omega) (by omega))
      refine va_iast hx hb hK.1 hP hD hS 1 0 rfl rfl h11 dX6_layOut_39 (fun H locs hP hD hS => ?_)
      have hP : va_P J.1 cls [(hu, .inr (6, [.ref w, .ref tr, .ref qu, .int 0, .ref lo, .ref hi, .int 0, .int 0, .int 0, .int 0, .int (-1)])), (lo, .inl (J.2.1, 32, .inl (upd f4 (nI i2).toNatClampNeg ((f4 ((nI i2) &&& ((nI i2) - 1)).toNatClampNeg) ||| y10)))), (hi, .inl (J.2.1, 32, .inl f5))] H := hP
      have hD : va_D A [(hu, .inr (6, [.ref w, .ref tr, .ref qu, .int 0, .ref lo, .ref hi, .int 0, .int 0, .int 0, .int 0, .int (-1)])), (lo, .inl (J.2.1, 32, .inl (upd f4 (nI i2).toNatClampNeg ((f4 ((nI i2) &&& ((nI i2) - 1)).toNatClampNeg) ||| y10)))), (hi, .inl (J.2.1, 32, .inl f5))] := hD
      refine lv_aload_n hx hb dX6_layOut_40 rfl (lv_at hl 2 rfl) ?_
      refine va_get (D := J.1) (ci := 6) (v := .ref hi) (C := RX6) (T := TX6) (N := 11) hx hb hts inX6 hown hK.1 hP 0 rfl rfl 5 (by decide) (hts _ q_270) (fun _ h9 => h9) rfl dX6_layOut_41 ?_
      refine lv_iload_n hx hb dX6_layOut_44 rfl (lv_at hl 1 rfl) ?_
      refine lv_aload_n hx hb dX6_layOut_45 rfl (lv_at hl 2 rfl) ?_
      refine va_get (D := J.1) (ci := 6) (v := .ref hi) (C := RX6) (T := TX6) (N := 11) hx hb hts inX6 hown hK.1 hP 0 rfl rfl 5 (by decide) (hts _ q_270) (fun _ h9 => h9) rfl dX6_layOut_46 ?_
      refine lv_iload_n hx hb dX6_layOut_49 rfl (lv_at hl 1 rfl) ?_
      refine lv_iload_n hx hb dX6_layOut_50 rfl (lv_at hl 1 rfl) ?_
      refine lv_iconst (v := 1) hx hb dX6_layOut_51 (by decide) ?_
      refine lv_isub hx hb dX6_layOut_52 ?_
      refine lv_iand hx hb dX6_layOut_53 ?_
      have h12 : vp_in ((nI i2) &&& ((nI i2) - 1)) 32 := (lo_in i2 (by omega))
      refine va_iald hx hb hK.1 hP 2 0 rfl rfl h12 dX6_layOut_54 ?_
      refine lv_aload_n hx hb dX6_layOut_55 rfl (lv_at hl 2 rfl) ?_
      refine lv_iload_n hx hb dX6_layOut_56 rfl (lv_at hl 0 rfl) ?_
      refine lv_iconst (v := 5) hx hb dX6_layOut_57 (by decide) ?_
      refine lv_iadd hx hb dX6_layOut_58 ?_
      refine vp_callSi (rn_V (As := [.int (y8 + 5)]) (rest := [.int (f5 ((nI i2) &&& ((nI i2) - 1)).toNatClampNeg), .int (nI i2), .ref hi]) hx hb hml hown hts hK (cH_nextOf l J hu w tr qu lo hi (y8 + 5)) kV_RX6_90 (hP.sub (ws' := [(hu, .inr (6, [.ref w, .ref tr, .ref qu, .int 0, .ref lo, .ref hi, .int 0, .int 0, .int 0, .int 0, .int (-1)]))]) [0] rfl) rfl rfl rfl ⟨Nat.le_of_ble_eq_true rfl, Nat.le_of_ble_eq_true rfl⟩ rfl rfl rfl hl.1 rfl (Nat.le_of_ble_eq_true rfl) ⟨Nat.le_of_ble_eq_true rfl, Nat.le_of_ble_eq_true rfl⟩ dX6_layOut_59) (fun y13 _ => ?_)
      refine lv_ior hx hb dX6_layOut_62 ?_
      have h14 : vp_in (nI i2) 32 := (i_in (a := ((i2 : Nat) : Int)) (nI_toInt (by omega)) (by omega) (by omega))
      refine va_iast hx hb hK.1 hP hD hS 2 0 rfl rfl h14 dX6_layOut_63 (fun H locs hP hD hS => ?_)
      have hP : va_P J.1 cls [(hu, .inr (6, [.ref w, .ref tr, .ref qu, .int 0, .ref lo, .ref hi, .int 0, .int 0, .int 0, .int 0, .int (-1)])), (lo, .inl (J.2.1, 32, .inl (upd f4 (nI i2).toNatClampNeg ((f4 ((nI i2) &&& ((nI i2) - 1)).toNatClampNeg) ||| y10)))), (hi, .inl (J.2.1, 32, .inl (upd f5 (nI i2).toNatClampNeg ((f5 ((nI i2) &&& ((nI i2) - 1)).toNatClampNeg) ||| y13))))] H := hP
      have hD : va_D A [(hu, .inr (6, [.ref w, .ref tr, .ref qu, .int 0, .ref lo, .ref hi, .int 0, .int 0, .int 0, .int 0, .int (-1)])), (lo, .inl (J.2.1, 32, .inl (upd f4 (nI i2).toNatClampNeg ((f4 ((nI i2) &&& ((nI i2) - 1)).toNatClampNeg) ||| y10)))), (hi, .inl (J.2.1, 32, .inl (upd f5 (nI i2).toNatClampNeg ((f5 ((nI i2) &&& ((nI i2) - 1)).toNatClampNeg) ||| y13))))] := hD
      refine lv_iinc (v := nI (i2 + 1)) (lv' := [(2, .int (nI (i2 + 1))), (3, .int y8), (0, .ref hu), (1, .int 0)]) hx hb dX6_layOut_64 hl (k := 1) rfl (nI_inc _) (by decide) rfl (fun ls hl => ?_)
      refine lv_goto (tgt := 7) hx hb dX6_layOut_67 (by decide) ?_
      exact ih (i2 + 1) (by omega) (upd f4 (nI i2).toNatClampNeg ((f4 ((nI i2) &&& ((nI i2) - 1)).toNatClampNeg) ||| y10)) (upd f5 (nI i2).toNatClampNeg ((f5 ((nI i2) &&& ((nI i2) - 1)).toNatClampNeg) ||| y13)) _ _ ls hP hD hS (lv_sub hl [0, 2, 3] rfl)
  exact LP3 (32 - 1) 1 (by omega) (fun _ => 0) (fun _ => 0) _ _ ls hP hD hS (lv_sub hl [0, 1, 2] rfl)
theorem dX6_search_0 : decode cX6_search 0 = .ok (.iload_n 1, 1) := by decide +kernel
theorem dX6_search_1 : decode cX6_search 1 = .ok (.ifCond .ne 5, 3) := by decide +kernel
theorem dX6_search_4 : decode cX6_search 4 = .ok (.iconst 0, 1) := by decide +kernel
theorem dX6_search_5 : decode cX6_search 5 = .ok (.ireturn, 1) := by decide +kernel
set_option maxHeartbeats 4000000 in
set_option maxRecDepth 100000 in
theorem cH_search (l : Launch) (J : va_J9) (hu : Nat) (w : Nat) (tr : Nat) (qu : Nat) (lo : Nat) (hi : Nat) (rw : Int32) (fv : Int32) (x : Int32) (y : Int32) : RC l J yX6_search cX6_search 7 (some .int) ({ frames := 0, cells := 0, slots := 0, locals := 0 }) [.ref hu, .int 0, .int x, .int y] [(hu, .inr (6, [.ref w, .ref tr, .ref qu, .int 0, .ref lo, .ref hi, .int 0, .int rw, .int 0, .int 0, .int fv]))] (vp_Si (fun r => r = 0)) := by
  refine rc_of (by decide) (Nat.le_of_ble_eq_true rfl) ?_
  intro p e s m below meth c ls hE hl hP hK
  obtain ⟨hx, hb, hr, hml, hown, hts, hlk, hin⟩ := hE
  have hown : s.vm.findClass RX6 = some m.cls := hown
  have hl : lv_has ls 7 [(0, .ref hu), (1, .int 0), (2, .int x), (3, .int y)] := hl
  have rg_x := i_rng x
  have rg_y := i_rng y
  refine lv_iload_n hx hb dX6_search_0 rfl (lv_at hl 1 rfl) ?_
  refine lv_if_ne (tgt := 6) hx hb dX6_search_1 (by decide) (fun c => absurd c (by decide)) (fun _ => ?_)
  refine lv_iconst (v := 0) hx hb dX6_search_4 (by decide) ?_
  exact rz_i hx hb hr hlk (by decide) dX6_search_5
theorem dX6_mornings_0 : decode cX6_mornings 0 = .ok (.aload_n 0, 1) := by decide +kernel
theorem q_275 : Cond.fieldLink RX6 24 RX6 "foundVersion" "I" ∈ lw_g := mem_q 275 (by decide +kernel) rfl
theorem dX6_mornings_1 : decode cX6_mornings 1 = .ok (.getfield 24, 3) := by decide +kernel
theorem dX6_mornings_4 : decode cX6_mornings 4 = .ok (.aload_n 0, 1) := by decide +kernel
theorem q_265 : Cond.fieldLink RX6 28 RX6 "warren" "LFoxHoles$Warren;" ∈ lw_g := mem_q 265 (by decide +kernel) rfl
theorem dX6_mornings_5 : decode cX6_mornings 5 = .ok (.getfield 28, 3) := by decide +kernel
theorem q_192 : Cond.fieldLink RX6 32 RX10 "version" "I" ∈ lw_g := mem_q 192 (by decide +kernel) rfl
theorem dX6_mornings_8 : decode cX6_mornings 8 = .ok (.getfield 32, 3) := by decide +kernel
theorem dX6_mornings_11 : decode cX6_mornings 11 = .ok (.if_icmp .eq 51, 3) := by decide +kernel
theorem dX6_mornings_14 : decode cX6_mornings 14 = .ok (.aload_n 0, 1) := by decide +kernel
theorem dX6_mornings_15 : decode cX6_mornings 15 = .ok (.aload_n 0, 1) := by decide +kernel
theorem dX6_mornings_16 : decode cX6_mornings 16 = .ok (.getfield 28, 3) := by decide +kernel
theorem q_827 : Cond.methodLink RX6 37 yX10_openOnes ∈ lw_g := mem_q 827 (by decide +kernel) rfl
theorem kV_RX6_37 : CV RX6 37 RX10 yX10_openOnes cX10_openOnes 1 (some .int) 0 := cv_of q_827 q_660 q_661 q_105 q_662 (by decide +kernel)
theorem dX6_mornings_19 : decode cX6_mornings 19 = .ok (.invokevirtual 37, 3) := by decide +kernel
theorem q_828 : Cond.methodLink RX6 41 yX6_layOut ∈ lw_g := mem_q 828 (by decide +kernel) rfl
theorem q_830 : Cond.instanceMethod yX6_layOut ∈ lw_g := mem_q 830 (by decide +kernel) rfl
theorem q_19 : Cond.selects RX6 yX6_layOut yX6_layOut ∈ lw_g := mem_q 19 (by decide +kernel) rfl
theorem q_831 : Cond.code yX6_layOut cX6_layOut 4 none ∈ lw_g := mem_q 831 (by decide +kernel) rfl
theorem kV_RX6_41 : CV RX6 41 RX6 yX6_layOut cX6_layOut 4 none 1 := cv_of q_828 q_830 q_19 q_108 q_831 (by decide +kernel)
theorem dX6_mornings_22 : decode cX6_mornings 22 = .ok (.invokevirtual 41, 3) := by decide +kernel
theorem dX6_mornings_25 : decode cX6_mornings 25 = .ok (.aload_n 0, 1) := by decide +kernel
theorem dX6_mornings_26 : decode cX6_mornings 26 = .ok (.iconst 1, 1) := by decide +kernel
theorem q_272 : Cond.fieldLink RX6 45 RX6 "rowWanted" "Z" ∈ lw_g := mem_q 272 (by decide +kernel) rfl
theorem dX6_mornings_27 : decode cX6_mornings 27 = .ok (.putfield 45, 3) := by decide +kernel
theorem dX6_mornings_30 : decode cX6_mornings 30 = .ok (.aload_n 0, 1) := by decide +kernel
theorem dX6_mornings_31 : decode cX6_mornings 31 = .ok (.aload_n 0, 1) := by decide +kernel
theorem dX6_mornings_32 : decode cX6_mornings 32 = .ok (.aload_n 0, 1) := by decide +kernel
theorem dX6_mornings_33 : decode cX6_mornings 33 = .ok (.getfield 49, 3) := by decide +kernel
theorem dX6_mornings_36 : decode cX6_mornings 36 = .ok (.iconst 0, 1) := by decide +kernel
theorem dX6_mornings_37 : decode cX6_mornings 37 = .ok (.sipush 7168, 3) := by decide +kernel
theorem q_841 : Cond.methodLink RX6 52 yX6_search ∈ lw_g := mem_q 841 (by decide +kernel) rfl
theorem q_843 : Cond.instanceMethod yX6_search ∈ lw_g := mem_q 843 (by decide +kernel) rfl
theorem q_21 : Cond.selects RX6 yX6_search yX6_search ∈ lw_g := mem_q 21 (by decide +kernel) rfl
theorem q_844 : Cond.code yX6_search cX6_search 7 (some .int) ∈ lw_g := mem_q 844 (by decide +kernel) rfl
theorem kV_RX6_52 : CV RX6 52 RX6 yX6_search cX6_search 7 (some .int) 3 := cv_of q_841 q_843 q_21 q_108 q_844 (by decide +kernel)
theorem dX6_mornings_40 : decode cX6_mornings 40 = .ok (.invokevirtual 52, 3) := by decide +kernel
theorem q_274 : Cond.fieldLink RX6 56 RX6 "found" "I" ∈ lw_g := mem_q 274 (by decide +kernel) rfl
theorem dX6_mornings_43 : decode cX6_mornings 43 = .ok (.putfield 56, 3) := by decide +kernel
theorem dX6_mornings_46 : decode cX6_mornings 46 = .ok (.aload_n 0, 1) := by decide +kernel
theorem dX6_mornings_47 : decode cX6_mornings 47 = .ok (.iconst 0, 1) := by decide +kernel
theorem dX6_mornings_48 : decode cX6_mornings 48 = .ok (.putfield 45, 3) := by decide +kernel
theorem dX6_mornings_51 : decode cX6_mornings 51 = .ok (.aload_n 0, 1) := by decide +kernel
theorem dX6_mornings_52 : decode cX6_mornings 52 = .ok (.aload_n 0, 1) := by decide +kernel
theorem dX6_mornings_53 : decode cX6_mornings 53 = .ok (.getfield 28, 3) := by decide +kernel
theorem dX6_mornings_56 : decode cX6_mornings 56 = .ok (.getfield 32, 3) := by decide +kernel
theorem dX6_mornings_59 : decode cX6_mornings 59 = .ok (.putfield 24, 3) := by decide +kernel
theorem dX6_mornings_62 : decode cX6_mornings 62 = .ok (.aload_n 0, 1) := by decide +kernel
theorem dX6_mornings_63 : decode cX6_mornings 63 = .ok (.getfield 56, 3) := by decide +kernel
theorem dX6_mornings_66 : decode cX6_mornings 66 = .ok (.ireturn, 1) := by decide +kernel
set_option maxHeartbeats 4000000 in
set_option maxRecDepth 100000 in
theorem cH_mornings (l : Launch) (J : va_J9) (sz : Nat) (hu : Nat) (w : Nat) (tr : Nat) (qu : Nat) (lo : Nat) (hi : Nat) (t : Nat) (we : Nat) (jo : Nat) (la : Nat) : WC l J yX6_mornings cX6_mornings 1 (some .int) ({ frames := 3, cells := 0, slots := 0, locals := 63 }) [.ref hu] [(hu, .inr (6, [.ref w, .ref tr, .ref qu, .int 0, .ref lo, .ref hi, .int 0, .int 0, .int 0, .int 0, .int (-1)])), (w, .inr (10, [.ref t, .ref we, .ref jo, .ref la, .int 0, .int 0, .int 0, .int 0, .int 1, .int 0, .int 0])), (lo, .inl (J.2.1, 32, .inl (fun _ => 0))), (hi, .inl (J.2.1, 32, .inl (fun _ => 0)))] sz (Qi J (fun (r : Int32) (_ : Unit) => r = 0) (fun (_ : Unit) => [(hu, .inr (6, [.ref w, .ref tr, .ref qu, .int 0, .ref lo, .ref hi, .int 0, .int 0, .int 0, .int 0, .int 0])), (w, .inr (10, [.ref t, .ref we, .ref jo, .ref la, .int 0, .int 0, .int 0, .int 0, .int 1, .int 0, .int 0]))])) 0 0 := by
  refine wc_of (by decide) (Nat.le_of_ble_eq_true rfl) ?_
  intro p e s m below meth c ls A hE hl hP hK hD hS hA
  obtain ⟨hx, hb, hr, hml, hown, hts, hlk, hin⟩ := hE
  have hown : s.vm.findClass RX6 = some m.cls := hown
  have hl : lv_has ls 1 [(0, .ref hu)] := hl
  refine lv_aload_n hx hb dX6_mornings_0 rfl (lv_at hl 0 rfl) ?_
  refine va_get (D := J.1) (ci := 6) (v := .int (-1)) (C := RX6) (T := TX6) (N := 11) hx hb hts inX6 hown hK.1 hP 0 rfl rfl 10 (by decide) (hts _ q_275) (fun _ h9 => h9) rfl dX6_mornings_1 ?_
  refine lv_aload_n hx hb dX6_mornings_4 rfl (lv_at hl 0 rfl) ?_
  refine va_get (D := J.1) (ci := 6) (v := .ref w) (C := RX6) (T := TX6) (N := 11) hx hb hts inX6 hown hK.1 hP 0 rfl rfl 0 (by decide) (hts _ q_265) (fun _ h9 => h9) rfl dX6_mornings_5 ?_
  refine va_get (D := J.1) (ci := 10) (v := .int 0) (C := RX10) (T := TX10) (N := 11) hx hb hts inX10 hown hK.1 hP 1 rfl rfl 10 (by decide) (hts _ q_192) (fun _ h9 => h9) rfl dX6_mornings_8 ?_
  refine lv_icmp_eq (tgt := 62) hx hb dX6_mornings_11 (by decide) (fun c => absurd c (by decide)) (fun _ => ?_)
  refine lv_aload_n hx hb dX6_mornings_14 rfl (lv_at hl 0 rfl) ?_
  refine lv_aload_n hx hb dX6_mornings_15 rfl (lv_at hl 0 rfl) ?_
  refine va_get (D := J.1) (ci := 6) (v := .ref w) (C := RX6) (T := TX6) (N := 11) hx hb hts inX6 hown hK.1 hP 0 rfl rfl 0 (by decide) (hts _ q_265) (fun _ h9 => h9) rfl dX6_mornings_16 ?_
  refine go_i (rn_V (As := []) (rest := [.ref hu]) hx hb hml hown hts hK (cW_openOnes l J w t we jo la) kV_RX6_37 (hP.sub (ws' := [(w, .inr (10, [.ref t, .ref we, .ref jo, .ref la, .int 0, .int 0, .int 0, .int 0, .int 1, .int 0, .int 0]))]) [1] rfl) rfl rfl rfl ⟨Nat.le_of_ble_eq_true rfl, Nat.le_of_ble_eq_true rfl⟩ rfl rfl rfl hl.1 rfl (Nat.le_of_ble_eq_true rfl) ⟨Nat.le_of_ble_eq_true rfl, Nat.le_of_ble_eq_true rfl⟩ dX6_mornings_19) ?_
  refine gw_v (wc := [(hu, .inr (6, [.ref w, .ref tr, .ref qu, .int 0, .ref lo, .ref hi, .int 0, .int 0, .int 0, .int 0, .int (-1)])), (lo, .inl (J.2.1, 32, .inl (fun _ => 0))), (hi, .inl (J.2.1, 32, .inl (fun _ => 0)))]) (wr := [(w, .inr (10, [.ref t, .ref we, .ref jo, .ref la, .int 0, .int 0, .int 0, .int 0, .int 1, .int 0, .int 0]))]) hP hD hS hA [0, 2, 3] [1] rfl rfl (by decide) (by decide) (wn_V (As := [.int 0]) (rest := []) hx hb hml hown hts hK (cH_layOut l J _ hu w tr qu lo hi) kV_RX6_41 (hP.sub (ws' := [(hu, .inr (6, [.ref w, .ref tr, .ref qu, .int 0, .ref lo, .ref hi, .int 0, .int 0, .int 0, .int 0, .int (-1)])), (lo, .inl (J.2.1, 32, .inl (fun _ => 0))), (hi, .inl (J.2.1, 32, .inl (fun _ => 0)))]) [0, 2, 3] rfl) ((hD.sub (ws' := [(hu, .inr (6, [.ref w, .ref tr, .ref qu, .int 0, .ref lo, .ref hi, .int 0, .int 0, .int 0, .int 0, .int (-1)])), (lo, .inl (J.2.1, 32, .inl (fun _ => 0))), (hi, .inl (J.2.1, 32, .inl (fun _ => 0)))]) [0, 2, 3] (by decide) rfl).weaken (fun _ _ _ _ => trivial)) rfl rfl rfl ⟨Nat.le_of_ble_eq_true rfl, Nat.le_of_ble_eq_true rfl⟩ rfl rfl rfl hl.1 rfl (Nat.le_of_ble_eq_true rfl) ⟨Nat.le_of_ble_eq_true rfl, Nat.le_of_ble_eq_true rfl⟩ dX6_mornings_22) (fun u1 H locs hw hP hD hS => ?_)
  have hP : va_P J.1 cls [(w, .inr (10, [.ref t, .ref we, .ref jo, .ref la, .int 0, .int 0, .int 0, .int 0, .int 1, .int 0, .int 0])), (hu, .inr (6, [.ref w, .ref tr, .ref qu, .int 0, .ref lo, .ref hi, .int 0, .int 0, .int 0, .int 0, .int (-1)]))] H := hP
  have hD : va_D A [(w, .inr (10, [.ref t, .ref we, .ref jo, .ref la, .int 0, .int 0, .int 0, .int 0, .int 1, .int 0, .int 0])), (hu, .inr (6, [.ref w, .ref tr, .ref qu, .int 0, .ref lo, .ref hi, .int 0, .int 0, .int 0, .int 0, .int (-1)]))] := hD
  refine W.widen (k := 0) (n := 0) (Nat.le_of_ble_eq_true rfl) (Nat.le_of_ble_eq_true rfl) ?_
  refine lv_aload_n hx hb dX6_mornings_25 rfl (lv_at hl 0 rfl) ?_
  refine lv_iconst (v := 1) hx hb dX6_mornings_26 (by decide) ?_
  refine va_put (D := J.1) (ci := 6) (v := .int 1) (ty := (.boolean)) (C := RX6) (T := TX6) (N := 11) hx hb hts inX6 tyX6 tyX6_ok nmX6 hown hK.1 hP hD hS 1 rfl rfl 7 (by decide) (hts _ q_272) (fun _ h9 => h9) rfl (by decide +kernel) rfl rfl (Nat.le_of_ble_eq_true rfl) dX6_mornings_27 (fun H locs hP hD hS => ?_)
  have hP : va_P J.1 cls [(w, .inr (10, [.ref t, .ref we, .ref jo, .ref la, .int 0, .int 0, .int 0, .int 0, .int 1, .int 0, .int 0])), (hu, .inr (6, [.ref w, .ref tr, .ref qu, .int 0, .ref lo, .ref hi, .int 0, .int 1, .int 0, .int 0, .int (-1)]))] H := hP
  have hD : va_D A [(w, .inr (10, [.ref t, .ref we, .ref jo, .ref la, .int 0, .int 0, .int 0, .int 0, .int 1, .int 0, .int 0])), (hu, .inr (6, [.ref w, .ref tr, .ref qu, .int 0, .ref lo, .ref hi, .int 0, .int 1, .int 0, .int 0, .int (-1)]))] := hD
  refine lv_aload_n hx hb dX6_mornings_30 rfl (lv_at hl 0 rfl) ?_
  refine lv_aload_n hx hb dX6_mornings_31 rfl (lv_at hl 0 rfl) ?_
  refine lv_aload_n hx hb dX6_mornings_32 rfl (lv_at hl 0 rfl) ?_
  refine va_get (D := J.1) (ci := 6) (v := .int 0) (C := RX6) (T := TX6) (N := 11) hx hb hts inX6 hown hK.1 hP 1 rfl rfl 6 (by decide) (hts _ q_271) (fun _ h9 => h9) rfl dX6_mornings_33 ?_
  refine lv_iconst (v := 0) hx hb dX6_mornings_36 (by decide) ?_
  refine lv_sipush (v := 7168) hx hb dX6_mornings_37 (by decide) ?_
  refine go_i (rn_V (As := [.int 0, .int 0, .int 7168]) (rest := [.ref hu]) hx hb hml hown hts hK (cH_search l J hu w tr qu lo hi 1 (-1) 0 7168) kV_RX6_52 (hP.sub (ws' := [(hu, .inr (6, [.ref w, .ref tr, .ref qu, .int 0, .ref lo, .ref hi, .int 0, .int 1, .int 0, .int 0, .int (-1)]))]) [1] rfl) rfl rfl rfl ⟨Nat.le_of_ble_eq_true rfl, Nat.le_of_ble_eq_true rfl⟩ rfl rfl rfl hl.1 rfl (Nat.le_of_ble_eq_true rfl) ⟨Nat.le_of_ble_eq_true rfl, Nat.le_of_ble_eq_true rfl⟩ dX6_mornings_40) ?_
  refine va_put (D := J.1) (ci := 6) (v := .int 0) (ty := (.int)) (C := RX6) (T := TX6) (N := 11) hx hb hts inX6 tyX6 tyX6_ok nmX6 hown hK.1 hP hD hS 1 rfl rfl 9 (by decide) (hts _ q_274) (fun _ h9 => h9) rfl (by decide +kernel) rfl rfl (Nat.le_of_ble_eq_true rfl) dX6_mornings_43 (fun H locs hP hD hS => ?_)
  have hP : va_P J.1 cls [(w, .inr (10, [.ref t, .ref we, .ref jo, .ref la, .int 0, .int 0, .int 0, .int 0, .int 1, .int 0, .int 0])), (hu, .inr (6, [.ref w, .ref tr, .ref qu, .int 0, .ref lo, .ref hi, .int 0, .int 1, .int 0, .int 0, .int (-1)]))] H := hP
  have hD : va_D A [(w, .inr (10, [.ref t, .ref we, .ref jo, .ref la, .int 0, .int 0, .int 0, .int 0, .int 1, .int 0, .int 0])), (hu, .inr (6, [.ref w, .ref tr, .ref qu, .int 0, .ref lo, .ref hi, .int 0, .int 1, .int 0, .int 0, .int (-1)]))] := hD
  refine lv_aload_n hx hb dX6_mornings_46 rfl (lv_at hl 0 rfl) ?_
  refine lv_iconst (v := 0) hx hb dX6_mornings_47 (by decide) ?_
  refine va_put (D := J.1) (ci := 6) (v := .int 0) (ty := (.boolean)) (C := RX6) (T := TX6) (N := 11) hx hb hts inX6 tyX6 tyX6_ok nmX6 hown hK.1 hP hD hS 1 rfl rfl 7 (by decide) (hts _ q_272) (fun _ h9 => h9) rfl (by decide +kernel) rfl rfl (Nat.le_of_ble_eq_true rfl) dX6_mornings_48 (fun H locs hP hD hS => ?_)
  have hP : va_P J.1 cls [(w, .inr (10, [.ref t, .ref we, .ref jo, .ref la, .int 0, .int 0, .int 0, .int 0, .int 1, .int 0, .int 0])), (hu, .inr (6, [.ref w, .ref tr, .ref qu, .int 0, .ref lo, .ref hi, .int 0, .int 0, .int 0, .int 0, .int (-1)]))] H := hP
  have hD : va_D A [(w, .inr (10, [.ref t, .ref we, .ref jo, .ref la, .int 0, .int 0, .int 0, .int 0, .int 1, .int 0, .int 0])), (hu, .inr (6, [.ref w, .ref tr, .ref qu, .int 0, .ref lo, .ref hi, .int 0, .int 0, .int 0, .int 0, .int (-1)]))] := hD
  refine lv_aload_n hx hb dX6_mornings_51 rfl (lv_at hl 0 rfl) ?_
  refine lv_aload_n hx hb dX6_mornings_52 rfl (lv_at hl 0 rfl) ?_
  refine va_get (D := J.1) (ci := 6) (v := .ref w) (C := RX6) (T := TX6) (N := 11) hx hb hts inX6 hown hK.1 hP 1 rfl rfl 0 (by decide) (hts _ q_265) (fun _ h9 => h9) rfl dX6_mornings_53 ?_
  refine va_get (D := J.1) (ci := 10) (v := .int 0) (C := RX10) (T := TX10) (N := 11) hx hb hts inX10 hown hK.1 hP 0 rfl rfl 10 (by decide) (hts _ q_192) (fun _ h9 => h9) rfl dX6_mornings_56 ?_
  refine va_put (D := J.1) (ci := 6) (v := .int 0) (ty := (.int)) (C := RX6) (T := TX6) (N := 11) hx hb hts inX6 tyX6 tyX6_ok nmX6 hown hK.1 hP hD hS 1 rfl rfl 10 (by decide) (hts _ q_275) (fun _ h9 => h9) rfl (by decide +kernel) rfl rfl (Nat.le_of_ble_eq_true rfl) dX6_mornings_59 (fun H locs hP hD hS => ?_)
  have hP : va_P J.1 cls [(w, .inr (10, [.ref t, .ref we, .ref jo, .ref la, .int 0, .int 0, .int 0, .int 0, .int 1, .int 0, .int 0])), (hu, .inr (6, [.ref w, .ref tr, .ref qu, .int 0, .ref lo, .ref hi, .int 0, .int 0, .int 0, .int 0, .int 0]))] H := hP
  have hD : va_D A [(w, .inr (10, [.ref t, .ref we, .ref jo, .ref la, .int 0, .int 0, .int 0, .int 0, .int 1, .int 0, .int 0])), (hu, .inr (6, [.ref w, .ref tr, .ref qu, .int 0, .ref lo, .ref hi, .int 0, .int 0, .int 0, .int 0, .int 0]))] := hD
  refine lv_aload_n hx hb dX6_mornings_62 rfl (lv_at hl 0 rfl) ?_
  refine va_get (D := J.1) (ci := 6) (v := .int 0) (C := RX6) (T := TX6) (N := 11) hx hb hts inX6 hown hK.1 hP 1 rfl rfl 9 (by decide) (hts _ q_274) (fun _ h9 => h9) rfl dX6_mornings_63 ?_
  exact wz_i () hx hb hr hlk (by decide) (hP.sub (ws' := [(hu, .inr (6, [.ref w, .ref tr, .ref qu, .int 0, .ref lo, .ref hi, .int 0, .int 0, .int 0, .int 0, .int 0])), (w, .inr (10, [.ref t, .ref we, .ref jo, .ref la, .int 0, .int 0, .int 0, .int 0, .int 1, .int 0, .int 0]))]) [1, 0] rfl) (hD.sub (ws' := [(hu, .inr (6, [.ref w, .ref tr, .ref qu, .int 0, .ref lo, .ref hi, .int 0, .int 0, .int 0, .int 0, .int 0])), (w, .inr (10, [.ref t, .ref we, .ref jo, .ref la, .int 0, .int 0, .int 0, .int 0, .int 1, .int 0, .int 0]))]) [1, 0] (by decide) rfl) hS dX6_mornings_66
theorem dX6_morningsFrom_0 : decode cX6_morningsFrom 0 = .ok (.aload_n 0, 1) := by decide +kernel
theorem dX6_morningsFrom_1 : decode cX6_morningsFrom 1 = .ok (.iconst (-1), 1) := by decide +kernel
theorem dX6_morningsFrom_2 : decode cX6_morningsFrom 2 = .ok (.putfield 24, 3) := by decide +kernel
theorem dX6_morningsFrom_5 : decode cX6_morningsFrom 5 = .ok (.aload_n 0, 1) := by decide +kernel
theorem dX6_morningsFrom_6 : decode cX6_morningsFrom 6 = .ok (.aload_n 0, 1) := by decide +kernel
theorem dX6_morningsFrom_7 : decode cX6_morningsFrom 7 = .ok (.getfield 28, 3) := by decide +kernel
theorem dX6_morningsFrom_10 : decode cX6_morningsFrom 10 = .ok (.invokevirtual 37, 3) := by decide +kernel
theorem dX6_morningsFrom_13 : decode cX6_morningsFrom 13 = .ok (.invokevirtual 41, 3) := by decide +kernel
theorem dX6_morningsFrom_16 : decode cX6_morningsFrom 16 = .ok (.aload_n 0, 1) := by decide +kernel
theorem dX6_morningsFrom_17 : decode cX6_morningsFrom 17 = .ok (.iload_n 1, 1) := by decide +kernel
theorem dX6_morningsFrom_18 : decode cX6_morningsFrom 18 = .ok (.aload_n 0, 1) := by decide +kernel
theorem dX6_morningsFrom_19 : decode cX6_morningsFrom 19 = .ok (.getfield 49, 3) := by decide +kernel
theorem dX6_morningsFrom_22 : decode cX6_morningsFrom 22 = .ok (.iand, 1) := by decide +kernel
theorem dX6_morningsFrom_23 : decode cX6_morningsFrom 23 = .ok (.iload_n 2, 1) := by decide +kernel
theorem dX6_morningsFrom_24 : decode cX6_morningsFrom 24 = .ok (.sipush 7168, 3) := by decide +kernel
theorem dX6_morningsFrom_27 : decode cX6_morningsFrom 27 = .ok (.invokevirtual 52, 3) := by decide +kernel
theorem dX6_morningsFrom_30 : decode cX6_morningsFrom 30 = .ok (.ireturn, 1) := by decide +kernel
set_option maxHeartbeats 4000000 in
set_option maxRecDepth 100000 in
theorem cH_from (l : Launch) (J : va_J9) (sz : Nat) (hu : Nat) (w : Nat) (tr : Nat) (qu : Nat) (lo : Nat) (hi : Nat) (t : Nat) (we : Nat) (jo : Nat) (la : Nat) (x : Int32) (y : Int32) : WC l J yX6_morningsFrom cX6_morningsFrom 3 (some .int) ({ frames := 3, cells := 0, slots := 0, locals := 63 }) [.ref hu, .int x, .int y] [(hu, .inr (6, [.ref w, .ref tr, .ref qu, .int 0, .ref lo, .ref hi, .int 0, .int 0, .int 0, .int 0, .int (-1)])), (w, .inr (10, [.ref t, .ref we, .ref jo, .ref la, .int 0, .int 0, .int 0, .int 0, .int 1, .int 0, .int 0])), (lo, .inl (J.2.1, 32, .inl (fun _ => 0))), (hi, .inl (J.2.1, 32, .inl (fun _ => 0)))] sz (Qi J (fun (r : Int32) (_ : Unit) => r = 0) (fun (_ : Unit) => [])) 0 0 := by
  refine wc_of (by decide) (Nat.le_of_ble_eq_true rfl) ?_
  intro p e s m below meth c ls A hE hl hP hK hD hS hA
  obtain ⟨hx, hb, hr, hml, hown, hts, hlk, hin⟩ := hE
  have hown : s.vm.findClass RX6 = some m.cls := hown
  have hl : lv_has ls 3 [(0, .ref hu), (1, .int x), (2, .int y)] := hl
  have rg_x := i_rng x
  have rg_y := i_rng y
  refine lv_aload_n hx hb dX6_morningsFrom_0 rfl (lv_at hl 0 rfl) ?_
  refine lv_iconst (v := (-1)) hx hb dX6_morningsFrom_1 (by decide) ?_
  refine va_put (D := J.1) (ci := 6) (v := .int (-1)) (ty := (.int)) (C := RX6) (T := TX6) (N := 11) hx hb hts inX6 tyX6 tyX6_ok nmX6 hown hK.1 hP hD hS 0 rfl rfl 10 (by decide) (hts _ q_275) (fun _ h9 => h9) rfl (by decide +kernel) rfl rfl (Nat.le_of_ble_eq_true rfl) dX6_morningsFrom_2 (fun H locs hP hD hS => ?_)
  have hP : va_P J.1 cls [(hu, .inr (6, [.ref w, .ref tr, .ref qu, .int 0, .ref lo, .ref hi, .int 0, .int 0, .int 0, .int 0, .int (-1)])), (w, .inr (10, [.ref t, .ref we, .ref jo, .ref la, .int 0, .int 0, .int 0, .int 0, .int 1, .int 0, .int 0])), (lo, .inl (J.2.1, 32, .inl (fun _ => 0))), (hi, .inl (J.2.1, 32, .inl (fun _ => 0)))] H := hP
  have hD : va_D A [(hu, .inr (6, [.ref w, .ref tr, .ref qu, .int 0, .ref lo, .ref hi, .int 0, .int 0, .int 0, .int 0, .int (-1)])), (w, .inr (10, [.ref t, .ref we, .ref jo, .ref la, .int 0, .int 0, .int 0, .int 0, .int 1, .int 0, .int 0])), (lo, .inl (J.2.1, 32, .inl (fun _ => 0))), (hi, .inl (J.2.1, 32, .inl (fun _ => 0)))] := hD
  refine lv_aload_n hx hb dX6_morningsFrom_5 rfl (lv_at hl 0 rfl) ?_
  refine lv_aload_n hx hb dX6_morningsFrom_6 rfl (lv_at hl 0 rfl) ?_
  refine va_get (D := J.1) (ci := 6) (v := .ref w) (C := RX6) (T := TX6) (N := 11) hx hb hts inX6 hown hK.1 hP 0 rfl rfl 0 (by decide) (hts _ q_265) (fun _ h9 => h9) rfl dX6_morningsFrom_7 ?_
  refine go_i (rn_V (As := []) (rest := [.ref hu]) hx hb hml hown hts hK (cW_openOnes l J w t we jo la) kV_RX6_37 (hP.sub (ws' := [(w, .inr (10, [.ref t, .ref we, .ref jo, .ref la, .int 0, .int 0, .int 0, .int 0, .int 1, .int 0, .int 0]))]) [1] rfl) rfl rfl rfl ⟨Nat.le_of_ble_eq_true rfl, Nat.le_of_ble_eq_true rfl⟩ rfl rfl rfl hl.1 rfl (Nat.le_of_ble_eq_true rfl) ⟨Nat.le_of_ble_eq_true rfl, Nat.le_of_ble_eq_true rfl⟩ dX6_morningsFrom_10) ?_
  refine gw_v (wc := [(hu, .inr (6, [.ref w, .ref tr, .ref qu, .int 0, .ref lo, .ref hi, .int 0, .int 0, .int 0, .int 0, .int (-1)])), (lo, .inl (J.2.1, 32, .inl (fun _ => 0))), (hi, .inl (J.2.1, 32, .inl (fun _ => 0)))]) (wr := [(w, .inr (10, [.ref t, .ref we, .ref jo, .ref la, .int 0, .int 0, .int 0, .int 0, .int 1, .int 0, .int 0]))]) hP hD hS hA [0, 2, 3] [1] rfl rfl (by decide) (by decide) (wn_V (As := [.int 0]) (rest := []) hx hb hml hown hts hK (cH_layOut l J _ hu w tr qu lo hi) kV_RX6_41 (hP.sub (ws' := [(hu, .inr (6, [.ref w, .ref tr, .ref qu, .int 0, .ref lo, .ref hi, .int 0, .int 0, .int 0, .int 0, .int (-1)])), (lo, .inl (J.2.1, 32, .inl (fun _ => 0))), (hi, .inl (J.2.1, 32, .inl (fun _ => 0)))]) [0, 2, 3] rfl) ((hD.sub (ws' := [(hu, .inr (6, [.ref w, .ref tr, .ref qu, .int 0, .ref lo, .ref hi, .int 0, .int 0, .int 0, .int 0, .int (-1)])), (lo, .inl (J.2.1, 32, .inl (fun _ => 0))), (hi, .inl (J.2.1, 32, .inl (fun _ => 0)))]) [0, 2, 3] (by decide) rfl).weaken (fun _ _ _ _ => trivial)) rfl rfl rfl ⟨Nat.le_of_ble_eq_true rfl, Nat.le_of_ble_eq_true rfl⟩ rfl rfl rfl hl.1 rfl (Nat.le_of_ble_eq_true rfl) ⟨Nat.le_of_ble_eq_true rfl, Nat.le_of_ble_eq_true rfl⟩ dX6_morningsFrom_13) (fun u1 H locs hw hP hD hS => ?_)
  have hP : va_P J.1 cls [(w, .inr (10, [.ref t, .ref we, .ref jo, .ref la, .int 0, .int 0, .int 0, .int 0, .int 1, .int 0, .int 0])), (hu, .inr (6, [.ref w, .ref tr, .ref qu, .int 0, .ref lo, .ref hi, .int 0, .int 0, .int 0, .int 0, .int (-1)]))] H := hP
  have hD : va_D A [(w, .inr (10, [.ref t, .ref we, .ref jo, .ref la, .int 0, .int 0, .int 0, .int 0, .int 1, .int 0, .int 0])), (hu, .inr (6, [.ref w, .ref tr, .ref qu, .int 0, .ref lo, .ref hi, .int 0, .int 0, .int 0, .int 0, .int (-1)]))] := hD
  refine W.widen (k := 0) (n := 0) (Nat.le_of_ble_eq_true rfl) (Nat.le_of_ble_eq_true rfl) ?_
  refine lv_aload_n hx hb dX6_morningsFrom_16 rfl (lv_at hl 0 rfl) ?_
  refine lv_iload_n hx hb dX6_morningsFrom_17 rfl (lv_at hl 1 rfl) ?_
  refine lv_aload_n hx hb dX6_morningsFrom_18 rfl (lv_at hl 0 rfl) ?_
  refine va_get (D := J.1) (ci := 6) (v := .int 0) (C := RX6) (T := TX6) (N := 11) hx hb hts inX6 hown hK.1 hP 1 rfl rfl 6 (by decide) (hts _ q_271) (fun _ h9 => h9) rfl dX6_morningsFrom_19 ?_
  refine lv_iand hx hb dX6_morningsFrom_22 ?_
  refine top_i (y := 0) (and0 _) ?_
  refine lv_iload_n hx hb dX6_morningsFrom_23 rfl (lv_at hl 2 rfl) ?_
  refine lv_sipush (v := 7168) hx hb dX6_morningsFrom_24 (by decide) ?_
  refine go_i (rn_V (As := [.int 0, .int y, .int 7168]) (rest := []) hx hb hml hown hts hK (cH_search l J hu w tr qu lo hi 0 (-1) y 7168) kV_RX6_52 (hP.sub (ws' := [(hu, .inr (6, [.ref w, .ref tr, .ref qu, .int 0, .ref lo, .ref hi, .int 0, .int 0, .int 0, .int 0, .int (-1)]))]) [1] rfl) rfl rfl rfl ⟨Nat.le_of_ble_eq_true rfl, Nat.le_of_ble_eq_true rfl⟩ rfl rfl rfl hl.1 rfl (Nat.le_of_ble_eq_true rfl) ⟨Nat.le_of_ble_eq_true rfl, Nat.le_of_ble_eq_true rfl⟩ dX6_morningsFrom_27) ?_
  exact wz_i () hx hb hr hlk (by decide) (hP.sub (ws' := []) [] rfl) (hD.sub (ws' := []) [] (by decide) rfl) hS dX6_morningsFrom_30
theorem dX6_lookAt_0 : decode cX6_lookAt 0 = .ok (.aload_n 0, 1) := by decide +kernel
theorem dX6_lookAt_1 : decode cX6_lookAt 1 = .ok (.getfield 28, 3) := by decide +kernel
theorem q_186 : Cond.fieldLink RX6 59 RX10 "lookers" "I" ∈ lw_g := mem_q 186 (by decide +kernel) rfl
theorem dX6_lookAt_4 : decode cX6_lookAt 4 = .ok (.getfield 59, 3) := by decide +kernel
theorem dX6_lookAt_7 : decode cX6_lookAt 7 = .ok (.iconst 2, 1) := by decide +kernel
theorem dX6_lookAt_8 : decode cX6_lookAt 8 = .ok (.if_icmp .ne 7, 3) := by decide +kernel
theorem dX6_lookAt_15 : decode cX6_lookAt 15 = .ok (.iconst 0, 1) := by decide +kernel
theorem dX6_lookAt_16 : decode cX6_lookAt 16 = .ok (.istore_n 2, 1) := by decide +kernel
theorem dX6_lookAt_17 : decode cX6_lookAt 17 = .ok (.iload_n 2, 1) := by decide +kernel
theorem dX6_lookAt_18 : decode cX6_lookAt 18 = .ok (.ifCond .eq 9, 3) := by decide +kernel
theorem dX6_lookAt_27 : decode cX6_lookAt 27 = .ok (.iload_n 1, 1) := by decide +kernel
theorem dX6_lookAt_28 : decode cX6_lookAt 28 = .ok (.istore_n 3, 1) := by decide +kernel
theorem dX6_lookAt_29 : decode cX6_lookAt 29 = .ok (.iload_n 1, 1) := by decide +kernel
theorem dX6_lookAt_30 : decode cX6_lookAt 30 = .ok (.ifCond .lt 11, 3) := by decide +kernel
theorem dX6_lookAt_41 : decode cX6_lookAt 41 = .ok (.bipush (-2), 2) := by decide +kernel
theorem dX6_lookAt_43 : decode cX6_lookAt 43 = .ok (.ireturn, 1) := by decide +kernel
theorem dX6_lookAt_33 : decode cX6_lookAt 33 = .ok (.iload_n 3, 1) := by decide +kernel
theorem dX6_lookAt_34 : decode cX6_lookAt 34 = .ok (.aload_n 0, 1) := by decide +kernel
theorem dX6_lookAt_35 : decode cX6_lookAt 35 = .ok (.getfield 56, 3) := by decide +kernel
theorem dX6_lookAt_38 : decode cX6_lookAt 38 = .ok (.if_icmp .lt 6, 3) := by decide +kernel
set_option maxHeartbeats 4000000 in
set_option maxRecDepth 100000 in
theorem cH_lookAt (l : Launch) (J : va_J9) (hu : Nat) (w : Nat) (tr : Nat) (qu : Nat) (lo : Nat) (hi : Nat) (t : Nat) (we : Nat) (jo : Nat) (la : Nat) (n : Int32) : RC l J yX6_lookAt cX6_lookAt 7 (some .int) ({ frames := 0, cells := 0, slots := 0, locals := 0 }) [.ref hu, .int n] [(hu, .inr (6, [.ref w, .ref tr, .ref qu, .int 0, .ref lo, .ref hi, .int 0, .int 0, .int 0, .int 0, .int 0])), (w, .inr (10, [.ref t, .ref we, .ref jo, .ref la, .int 0, .int 0, .int 0, .int 0, .int 1, .int 0, .int 0]))] (vp_Si (fun r => r = (-2))) := by
  refine rc_of (by decide) (Nat.le_of_ble_eq_true rfl) ?_
  intro p e s m below meth c ls hE hl hP hK
  obtain ⟨hx, hb, hr, hml, hown, hts, hlk, hin⟩ := hE
  have hown : s.vm.findClass RX6 = some m.cls := hown
  have hl : lv_has ls 7 [(0, .ref hu), (1, .int n)] := hl
  have rg_n := i_rng n
  refine lv_aload_n hx hb dX6_lookAt_0 rfl (lv_at hl 0 rfl) ?_
  refine va_get (D := J.1) (ci := 6) (v := .ref w) (C := RX6) (T := TX6) (N := 11) hx hb hts inX6 hown hK.1 hP 0 rfl rfl 0 (by decide) (hts _ q_265) (fun _ h9 => h9) rfl dX6_lookAt_1 ?_
  refine va_get (D := J.1) (ci := 10) (v := .int 1) (C := RX10) (T := TX10) (N := 11) hx hb hts inX10 hown hK.1 hP 1 rfl rfl 8 (by decide) (hts _ q_186) (fun _ h9 => h9) rfl dX6_lookAt_4 ?_
  refine lv_iconst (v := 2) hx hb dX6_lookAt_7 (by decide) ?_
  refine lv_icmp_ne (tgt := 15) hx hb dX6_lookAt_8 (by decide) (fun _ => ?_) (fun c => absurd c (by decide))
  refine lv_iconst (v := 0) hx hb dX6_lookAt_15 (by decide) ?_
  refine lv_istore_n (lv' := [(2, .int 0), (0, .ref hu), (1, .int n)]) hx hb dX6_lookAt_16 rfl hl (by decide) rfl (fun ls hl => ?_)
  refine lv_iload_n hx hb dX6_lookAt_17 rfl (lv_at hl 0 rfl) ?_
  refine lv_if_eq (tgt := 27) hx hb dX6_lookAt_18 (by decide) (fun _ => ?_) (fun c => absurd c (by decide))
  refine lv_iload_n hx hb dX6_lookAt_27 rfl (lv_at hl 2 rfl) ?_
  refine lv_istore_n (lv' := [(3, .int n), (2, .int 0), (0, .ref hu), (1, .int n)]) hx hb dX6_lookAt_28 rfl hl (by decide) rfl (fun ls hl => ?_)
  refine lv_iload_n hx hb dX6_lookAt_29 rfl (lv_at hl 3 rfl) ?_
  refine lv_if_lt (tgt := 41) hx hb dX6_lookAt_30 (by decide) (fun c1 => ?_) (fun c1 => ?_)
  · have j2 : n.toInt < 0 := (i_lt rfl (by decide)).mp c1
    refine lv_bipush (v := (-2)) hx hb dX6_lookAt_41 (by decide) ?_
    exact rz_i hx hb hr hlk (by decide) dX6_lookAt_43
  · have j3 : ¬ (n.toInt < 0) := fun h => c1 ((i_lt rfl (by decide)).mpr h)
    refine lv_iload_n hx hb dX6_lookAt_33 rfl (lv_at hl 0 rfl) ?_
    refine lv_aload_n hx hb dX6_lookAt_34 rfl (lv_at hl 2 rfl) ?_
    refine va_get (D := J.1) (ci := 6) (v := .int 0) (C := RX6) (T := TX6) (N := 11) hx hb hts inX6 hown hK.1 hP 0 rfl rfl 9 (by decide) (hts _ q_274) (fun _ h9 => h9) rfl dX6_lookAt_35 ?_
    refine lv_icmp_lt (tgt := 44) hx hb dX6_lookAt_38 (by decide) (fun c4 => absurd (show n.toInt < 0 from (i_lt rfl (by decide)).mp c4) (by omega)) (fun _ => ?_)
    refine lv_bipush (v := (-2)) hx hb dX6_lookAt_41 (by decide) ?_
    exact rz_i hx hb hr hlk (by decide) dX6_lookAt_43
theorem dX6_looksWithin_0 : decode cX6_looksWithin 0 = .ok (.iconst 0, 1) := by decide +kernel
theorem dX6_looksWithin_1 : decode cX6_looksWithin 1 = .ok (.istore_n 2, 1) := by decide +kernel
theorem dX6_looksWithin_2 : decode cX6_looksWithin 2 = .ok (.iconst 0, 1) := by decide +kernel
theorem dX6_looksWithin_3 : decode cX6_looksWithin 3 = .ok (.istore_n 3, 1) := by decide +kernel
theorem dX6_looksWithin_4 : decode cX6_looksWithin 4 = .ok (.iload_n 3, 1) := by decide +kernel
theorem dX6_looksWithin_5 : decode cX6_looksWithin 5 = .ok (.iload_n 1, 1) := by decide +kernel
theorem dX6_looksWithin_6 : decode cX6_looksWithin 6 = .ok (.if_icmp .ge 34, 3) := by decide +kernel
theorem dX6_looksWithin_40 : decode cX6_looksWithin 40 = .ok (.iload_n 2, 1) := by decide +kernel
theorem dX6_looksWithin_41 : decode cX6_looksWithin 41 = .ok (.ireturn, 1) := by decide +kernel
theorem dX6_looksWithin_9 : decode cX6_looksWithin 9 = .ok (.iload_n 2, 1) := by decide +kernel
theorem dX6_looksWithin_10 : decode cX6_looksWithin 10 = .ok (.aload_n 0, 1) := by decide +kernel
theorem dX6_looksWithin_11 : decode cX6_looksWithin 11 = .ok (.getfield 28, 3) := by decide +kernel
theorem dX6_looksWithin_14 : decode cX6_looksWithin 14 = .ok (.iload_n 3, 1) := by decide +kernel
theorem q_857 : Cond.methodLink RX6 86 yX10_sleepsOn ∈ lw_g := mem_q 857 (by decide +kernel) rfl
theorem q_765 : Cond.instanceMethod yX10_sleepsOn ∈ lw_g := mem_q 765 (by decide +kernel) rfl
theorem q_766 : Cond.selects RX10 yX10_sleepsOn yX10_sleepsOn ∈ lw_g := mem_q 766 (by decide +kernel) rfl
theorem q_767 : Cond.code yX10_sleepsOn cX10_sleepsOn 2 (some .boolean) ∈ lw_g := mem_q 767 (by decide +kernel) rfl
theorem kV_RX6_86 : CV RX6 86 RX10 yX10_sleepsOn cX10_sleepsOn 2 (some .boolean) 1 := cv_of q_857 q_765 q_766 q_105 q_767 (by decide +kernel)
theorem dX6_looksWithin_15 : decode cX6_looksWithin 15 = .ok (.invokevirtual 86, 3) := by decide +kernel
theorem dX6_looksWithin_18 : decode cX6_looksWithin 18 = .ok (.ifCond .eq 7, 3) := by decide +kernel
theorem dX6_looksWithin_25 : decode cX6_looksWithin 25 = .ok (.aload_n 0, 1) := by decide +kernel
theorem dX6_looksWithin_26 : decode cX6_looksWithin 26 = .ok (.getfield 28, 3) := by decide +kernel
theorem dX6_looksWithin_29 : decode cX6_looksWithin 29 = .ok (.getfield 59, 3) := by decide +kernel
theorem dX6_looksWithin_32 : decode cX6_looksWithin 32 = .ok (.iadd, 1) := by decide +kernel
theorem dX6_looksWithin_33 : decode cX6_looksWithin 33 = .ok (.istore_n 2, 1) := by decide +kernel
theorem dX6_looksWithin_34 : decode cX6_looksWithin 34 = .ok (.iinc 3 1, 3) := by decide +kernel
theorem dX6_looksWithin_37 : decode cX6_looksWithin 37 = .ok (.goto (-33), 3) := by decide +kernel
set_option maxHeartbeats 4000000 in
set_option maxRecDepth 100000 in
theorem cH_looks (l : Launch) (J : va_J9) (hu : Nat) (w : Nat) (tr : Nat) (qu : Nat) (lo : Nat) (hi : Nat) (t : Nat) (we : Nat) (jo : Nat) (la : Nat) (n : Int32) (hn : 0 ≤ n.toInt) : RC l J yX6_looksWithin cX6_looksWithin 4 (some .int) ({ frames := 1, cells := 0, slots := 0, locals := 21 }) [.ref hu, .int n] [(hu, .inr (6, [.ref w, .ref tr, .ref qu, .int 0, .ref lo, .ref hi, .int 0, .int 0, .int 0, .int 0, .int (-1)])), (w, .inr (10, [.ref t, .ref we, .ref jo, .ref la, .int 0, .int 0, .int 0, .int 0, .int 1, .int 0, .int 0]))] (vp_Si (fun _ => True)) := by
  refine rc_of (by decide) (Nat.le_of_ble_eq_true rfl) ?_
  intro p e s m below meth c ls hE hl hP hK
  obtain ⟨hx, hb, hr, hml, hown, hts, hlk, hin⟩ := hE
  have hown : s.vm.findClass RX6 = some m.cls := hown
  have hl : lv_has ls 4 [(0, .ref hu), (1, .int n)] := hl
  have rg_n := i_rng n
  refine lv_iconst (v := 0) hx hb dX6_looksWithin_0 (by decide) ?_
  refine lv_istore_n (lv' := [(2, .int 0), (0, .ref hu), (1, .int n)]) hx hb dX6_looksWithin_1 rfl hl (by decide) rfl (fun ls hl => ?_)
  refine lv_iconst (v := 0) hx hb dX6_looksWithin_2 (by decide) ?_
  refine lv_istore_n (lv' := [(3, .int 0), (2, .int 0), (0, .ref hu), (1, .int n)]) hx hb dX6_looksWithin_3 rfl hl (by decide) rfl (fun ls hl => ?_)
  have LP3 : ∀ (k1 i2 : Nat), i2 + k1 = n.toInt.toNat → ∀ (g4 : Int32), ∀ (ls : Array Slot), lv_has ls 4 [(3, .int (nI i2)), (2, .int g4), (0, .ref hu), (1, .int n)] → W p l e ({ frames := 1, cells := 0, slots := 0, locals := 21 } : Room) s m ([.ref hu, .int n] : List Value).toArray below meth c s.heap [] 0 0 (MQ below (vp_Si (fun _ => True)) ([.ref hu, .int n] : List Value).toArray s 0 0 (fun _ => False)) (F0 m 4 ls []) := by
    intro k1
    induction k1 with
    | zero =>
      intro i2 hi2 g4 ls hl
      refine lv_iload_n hx hb dX6_looksWithin_4 rfl (lv_at hl 0 rfl) ?_
      refine lv_iload_n hx hb dX6_looksWithin_5 rfl (lv_at hl 3 rfl) ?_
      refine lv_icmp_ge (tgt := 40) hx hb dX6_looksWithin_6 (by decide) (fun _ => ?_) (fun c5 => absurd (show ¬ (n.toInt ≤ ((i2 : Nat) : Int)) from fun h => c5 ((i_le rfl (nI_toInt (by omega))).mpr h)) (by omega))
      refine lv_iload_n hx hb dX6_looksWithin_40 rfl (lv_at hl 1 rfl) ?_
      exact rz_any hx hb hr hlk dX6_looksWithin_41
    | succ k1 ih =>
      intro i2 hi2 g4 ls hl
      refine lv_iload_n hx hb dX6_looksWithin_4 rfl (lv_at hl 0 rfl) ?_
      refine lv_iload_n hx hb dX6_looksWithin_5 rfl (lv_at hl 3 rfl) ?_
      refine lv_icmp_ge (tgt := 40) hx hb dX6_looksWithin_6 (by decide) (fun c6 => absurd (show n.toInt ≤ ((i2 : Nat) : Int) from (i_le rfl (nI_toInt (by omega))).mp c6) (by omega)) (fun _ => ?_)
      refine lv_iload_n hx hb dX6_looksWithin_9 rfl (lv_at hl 1 rfl) ?_
      refine lv_aload_n hx hb dX6_looksWithin_10 rfl (lv_at hl 2 rfl) ?_
      refine va_get (D := J.1) (ci := 6) (v := .ref w) (C := RX6) (T := TX6) (N := 11) hx hb hts inX6 hown hK.1 hP 0 rfl rfl 0 (by decide) (hts _ q_265) (fun _ h9 => h9) rfl dX6_looksWithin_11 ?_
      refine lv_iload_n hx hb dX6_looksWithin_14 rfl (lv_at hl 0 rfl) ?_
      refine go_i (rn_V (As := [.int (nI i2)]) (rest := [.int g4]) hx hb hml hown hts hK (cW_sleepsOn l J w t we jo la (nI i2)) kV_RX6_86 (hP.sub (ws' := [(w, .inr (10, [.ref t, .ref we, .ref jo, .ref la, .int 0, .int 0, .int 0, .int 0, .int 1, .int 0, .int 0]))]) [1] rfl) rfl rfl rfl ⟨Nat.le_of_ble_eq_true rfl, Nat.le_of_ble_eq_true rfl⟩ rfl rfl rfl hl.1 rfl (Nat.le_of_ble_eq_true rfl) ⟨Nat.le_of_ble_eq_true rfl, Nat.le_of_ble_eq_true rfl⟩ dX6_looksWithin_15) ?_
      refine lv_if_eq (tgt := 25) hx hb dX6_looksWithin_18 (by decide) (fun _ => ?_) (fun c => absurd c (by decide))
      refine lv_aload_n hx hb dX6_looksWithin_25 rfl (lv_at hl 2 rfl) ?_
      refine va_get (D := J.1) (ci := 6) (v := .ref w) (C := RX6) (T := TX6) (N := 11) hx hb hts inX6 hown hK.1 hP 0 rfl rfl 0 (by decide) (hts _ q_265) (fun _ h9 => h9) rfl dX6_looksWithin_26 ?_
      refine va_get (D := J.1) (ci := 10) (v := .int 1) (C := RX10) (T := TX10) (N := 11) hx hb hts inX10 hown hK.1 hP 1 rfl rfl 8 (by decide) (hts _ q_186) (fun _ h9 => h9) rfl dX6_looksWithin_29 ?_
      refine lv_iadd hx hb dX6_looksWithin_32 ?_
      refine lv_istore_n (lv' := [(2, .int (g4 + 1)), (3, .int (nI i2)), (0, .ref hu), (1, .int n)]) hx hb dX6_looksWithin_33 rfl hl (by decide) rfl (fun ls hl => ?_)
      refine lv_iinc (v := nI (i2 + 1)) (lv' := [(3, .int (nI (i2 + 1))), (2, .int (g4 + 1)), (0, .ref hu), (1, .int n)]) hx hb dX6_looksWithin_34 hl (k := 1) rfl (nI_inc _) (by decide) rfl (fun ls hl => ?_)
      refine lv_goto (tgt := 4) hx hb dX6_looksWithin_37 (by decide) ?_
      exact ih (i2 + 1) (by omega) (g4 + 1)  ls (lv_sub hl [0, 1, 2, 3] rfl)
  exact LP3 (n.toInt.toNat - 0) 0 (by omega) 0  ls (lv_sub hl [0, 1, 2, 3] rfl)
theorem dX6_fewestStops_0 : decode cX6_fewestStops 0 = .ok (.aload_n 0, 1) := by decide +kernel
theorem dX6_fewestStops_1 : decode cX6_fewestStops 1 = .ok (.iconst (-1), 1) := by decide +kernel
theorem dX6_fewestStops_2 : decode cX6_fewestStops 2 = .ok (.putfield 24, 3) := by decide +kernel
theorem dX6_fewestStops_5 : decode cX6_fewestStops 5 = .ok (.aload_n 0, 1) := by decide +kernel
theorem dX6_fewestStops_6 : decode cX6_fewestStops 6 = .ok (.iload_n 1, 1) := by decide +kernel
theorem q_926 : Cond.methodLink RX6 75 yX6_looksWithin ∈ lw_g := mem_q 926 (by decide +kernel) rfl
theorem q_928 : Cond.instanceMethod yX6_looksWithin ∈ lw_g := mem_q 928 (by decide +kernel) rfl
theorem q_30 : Cond.selects RX6 yX6_looksWithin yX6_looksWithin ∈ lw_g := mem_q 30 (by decide +kernel) rfl
theorem q_929 : Cond.code yX6_looksWithin cX6_looksWithin 4 (some .int) ∈ lw_g := mem_q 929 (by decide +kernel) rfl
theorem kV_RX6_75 : CV RX6 75 RX6 yX6_looksWithin cX6_looksWithin 4 (some .int) 1 := cv_of q_926 q_928 q_30 q_108 q_929 (by decide +kernel)
theorem dX6_fewestStops_7 : decode cX6_fewestStops 7 = .ok (.invokevirtual 75, 3) := by decide +kernel
theorem dX6_fewestStops_10 : decode cX6_fewestStops 10 = .ok (.istore_n 2, 1) := by decide +kernel
theorem dX6_fewestStops_11 : decode cX6_fewestStops 11 = .ok (.aload_n 0, 1) := by decide +kernel
theorem dX6_fewestStops_12 : decode cX6_fewestStops 12 = .ok (.getfield 28, 3) := by decide +kernel
theorem dX6_fewestStops_15 : decode cX6_fewestStops 15 = .ok (.invokevirtual 37, 3) := by decide +kernel
theorem dX6_fewestStops_18 : decode cX6_fewestStops 18 = .ok (.istore_n 3, 1) := by decide +kernel
theorem dX6_fewestStops_19 : decode cX6_fewestStops 19 = .ok (.iload_n 3, 1) := by decide +kernel
theorem dX6_fewestStops_20 : decode cX6_fewestStops 20 = .ok (.invokestatic 78, 3) := by decide +kernel
theorem dX6_fewestStops_23 : decode cX6_fewestStops 23 = .ok (.istore 4, 2) := by decide +kernel
theorem dX6_fewestStops_25 : decode cX6_fewestStops 25 = .ok (.iconst 0, 1) := by decide +kernel
theorem dX6_fewestStops_26 : decode cX6_fewestStops 26 = .ok (.istore 5, 2) := by decide +kernel
theorem dX6_fewestStops_28 : decode cX6_fewestStops 28 = .ok (.iload 5, 2) := by decide +kernel
theorem dX6_fewestStops_30 : decode cX6_fewestStops 30 = .ok (.iload 4, 2) := by decide +kernel
theorem dX6_fewestStops_32 : decode cX6_fewestStops 32 = .ok (.if_icmp .ge 91, 3) := by decide +kernel
theorem dX6_fewestStops_123 : decode cX6_fewestStops 123 = .ok (.iload_n 3, 1) := by decide +kernel
theorem dX6_fewestStops_124 : decode cX6_fewestStops 124 = .ok (.ireturn, 1) := by decide +kernel
set_option maxHeartbeats 4000000 in
set_option maxRecDepth 100000 in
theorem cH_stops (l : Launch) (J : va_J9) (sz : Nat) (hu : Nat) (w : Nat) (tr : Nat) (qu : Nat) (lo : Nat) (hi : Nat) (t : Nat) (we : Nat) (jo : Nat) (la : Nat) (n : Int32) (hn : 0 ≤ n.toInt) : WC l J yX6_fewestStops cX6_fewestStops 7 (some .int) ({ frames := 2, cells := 0, slots := 0, locals := 44 }) [.ref hu, .int n] [(hu, .inr (6, [.ref w, .ref tr, .ref qu, .int 0, .ref lo, .ref hi, .int 0, .int 0, .int 0, .int 0, .int (-1)])), (w, .inr (10, [.ref t, .ref we, .ref jo, .ref la, .int 0, .int 0, .int 0, .int 0, .int 1, .int 0, .int 0]))] sz (Qi J (fun (r : Int32) (_ : Unit) => r = 0) (fun (_ : Unit) => [])) 0 0 := by
  refine wc_of (by decide) (Nat.le_of_ble_eq_true rfl) ?_
  intro p e s m below meth c ls A hE hl hP hK hD hS hA
  obtain ⟨hx, hb, hr, hml, hown, hts, hlk, hin⟩ := hE
  have hown : s.vm.findClass RX6 = some m.cls := hown
  have hl : lv_has ls 7 [(0, .ref hu), (1, .int n)] := hl
  have rg_n := i_rng n
  refine lv_aload_n hx hb dX6_fewestStops_0 rfl (lv_at hl 0 rfl) ?_
  refine lv_iconst (v := (-1)) hx hb dX6_fewestStops_1 (by decide) ?_
  refine va_put (D := J.1) (ci := 6) (v := .int (-1)) (ty := (.int)) (C := RX6) (T := TX6) (N := 11) hx hb hts inX6 tyX6 tyX6_ok nmX6 hown hK.1 hP hD hS 0 rfl rfl 10 (by decide) (hts _ q_275) (fun _ h9 => h9) rfl (by decide +kernel) rfl rfl (Nat.le_of_ble_eq_true rfl) dX6_fewestStops_2 (fun H locs hP hD hS => ?_)
  have hP : va_P J.1 cls [(hu, .inr (6, [.ref w, .ref tr, .ref qu, .int 0, .ref lo, .ref hi, .int 0, .int 0, .int 0, .int 0, .int (-1)])), (w, .inr (10, [.ref t, .ref we, .ref jo, .ref la, .int 0, .int 0, .int 0, .int 0, .int 1, .int 0, .int 0]))] H := hP
  have hD : va_D A [(hu, .inr (6, [.ref w, .ref tr, .ref qu, .int 0, .ref lo, .ref hi, .int 0, .int 0, .int 0, .int 0, .int (-1)])), (w, .inr (10, [.ref t, .ref we, .ref jo, .ref la, .int 0, .int 0, .int 0, .int 0, .int 1, .int 0, .int 0]))] := hD
  refine lv_aload_n hx hb dX6_fewestStops_5 rfl (lv_at hl 0 rfl) ?_
  refine lv_iload_n hx hb dX6_fewestStops_6 rfl (lv_at hl 1 rfl) ?_
  refine vp_callSi (rn_V (As := [.int n]) (rest := []) hx hb hml hown hts hK (cH_looks l J hu w tr qu lo hi t we jo la n (by omega)) kV_RX6_75 hP rfl rfl rfl ⟨Nat.le_of_ble_eq_true rfl, Nat.le_of_ble_eq_true rfl⟩ rfl rfl rfl hl.1 rfl (Nat.le_of_ble_eq_true rfl) ⟨Nat.le_of_ble_eq_true rfl, Nat.le_of_ble_eq_true rfl⟩ dX6_fewestStops_7) (fun y1 _ => ?_)
  refine lv_istore_n (lv' := [(2, .int y1), (0, .ref hu), (1, .int n)]) hx hb dX6_fewestStops_10 rfl hl (by decide) rfl (fun ls hl => ?_)
  refine lv_aload_n hx hb dX6_fewestStops_11 rfl (lv_at hl 1 rfl) ?_
  refine va_get (D := J.1) (ci := 6) (v := .ref w) (C := RX6) (T := TX6) (N := 11) hx hb hts inX6 hown hK.1 hP 0 rfl rfl 0 (by decide) (hts _ q_265) (fun _ h9 => h9) rfl dX6_fewestStops_12 ?_
  refine go_i (rn_V (As := []) (rest := []) hx hb hml hown hts hK (cW_openOnes l J w t we jo la) kV_RX6_37 (hP.sub (ws' := [(w, .inr (10, [.ref t, .ref we, .ref jo, .ref la, .int 0, .int 0, .int 0, .int 0, .int 1, .int 0, .int 0]))]) [1] rfl) rfl rfl rfl ⟨Nat.le_of_ble_eq_true rfl, Nat.le_of_ble_eq_true rfl⟩ rfl rfl rfl hl.1 rfl (Nat.le_of_ble_eq_true rfl) ⟨Nat.le_of_ble_eq_true rfl, Nat.le_of_ble_eq_true rfl⟩ dX6_fewestStops_15) ?_
  refine lv_istore_n (lv' := [(3, .int 0), (2, .int y1), (0, .ref hu), (1, .int n)]) hx hb dX6_fewestStops_18 rfl hl (by decide) rfl (fun ls hl => ?_)
  refine lv_iload_n hx hb dX6_fewestStops_19 rfl (lv_at hl 0 rfl) ?_
  refine go_i (rn_S (As := [.int 0]) (rest := []) hx hb hml hown hts hK (cJ_bit0 l J ) kS_RX6_78 (hP.sub (ws' := []) [] rfl) ⟨Nat.le_of_ble_eq_true rfl, Nat.le_of_ble_eq_true rfl⟩ rfl rfl rfl hl.1 rfl (Nat.le_of_ble_eq_true rfl) ⟨Nat.le_of_ble_eq_true rfl, Nat.le_of_ble_eq_true rfl⟩ dX6_fewestStops_20) ?_
  refine lv_istore (lv' := [(4, .int 0), (3, .int 0), (2, .int y1), (0, .ref hu), (1, .int n)]) hx hb dX6_fewestStops_23 hl (by decide) rfl (fun ls hl => ?_)
  refine lv_iconst (v := 0) hx hb dX6_fewestStops_25 (by decide) ?_
  refine lv_istore (lv' := [(5, .int 0), (4, .int 0), (3, .int 0), (2, .int y1), (0, .ref hu), (1, .int n)]) hx hb dX6_fewestStops_26 hl (by decide) rfl (fun ls hl => ?_)
  refine lv_iload hx hb dX6_fewestStops_28 (lv_at hl 0 rfl) ?_
  refine lv_iload hx hb dX6_fewestStops_30 (lv_at hl 1 rfl) ?_
  refine lv_icmp_ge (tgt := 123) hx hb dX6_fewestStops_32 (by decide) (fun _ => ?_) (fun c => absurd c (by decide))
  refine lv_iload_n hx hb dX6_fewestStops_123 rfl (lv_at hl 2 rfl) ?_
  exact wz_i () hx hb hr hlk (by decide) (hP.sub (ws' := []) [] rfl) (hD.sub (ws' := []) [] (by decide) rfl) hS dX6_fewestStops_124
theorem dX1_ofBestRow_0 : decode cX1_ofBestRow 0 = .ok (.aload_n 0, 1) := by decide +kernel
theorem q_317 : Cond.fieldLink RX1 37 RX1 "warren" "LFoxHoles$Warren;" ∈ lw_g := mem_q 317 (by decide +kernel) rfl
theorem dX1_ofBestRow_1 : decode cX1_ofBestRow 1 = .ok (.getfield 37, 3) := by decide +kernel
theorem q_1024 : Cond.methodLink RX1 102 yX10_openWeight ∈ lw_g := mem_q 1024 (by decide +kernel) rfl
theorem q_1025 : Cond.instanceMethod yX10_openWeight ∈ lw_g := mem_q 1025 (by decide +kernel) rfl
theorem q_1026 : Cond.selects RX10 yX10_openWeight yX10_openWeight ∈ lw_g := mem_q 1026 (by decide +kernel) rfl
theorem q_1027 : Cond.code yX10_openWeight cX10_openWeight 4 (some .int) ∈ lw_g := mem_q 1027 (by decide +kernel) rfl
theorem kV_RX1_102 : CV RX1 102 RX10 yX10_openWeight cX10_openWeight 4 (some .int) 0 := cv_of q_1024 q_1025 q_1026 q_105 q_1027 (by decide +kernel)
theorem dX1_ofBestRow_4 : decode cX1_ofBestRow 4 = .ok (.invokevirtual 102, 3) := by decide +kernel
theorem dX1_ofBestRow_7 : decode cX1_ofBestRow 7 = .ok (.i2l, 1) := by decide +kernel
theorem dX1_ofBestRow_8 : decode cX1_ofBestRow 8 = .ok (.lstore_n 3, 1) := by decide +kernel
theorem dX1_ofBestRow_9 : decode cX1_ofBestRow 9 = .ok (.lload_n 3, 1) := by decide +kernel
theorem dX1_ofBestRow_10 : decode cX1_ofBestRow 10 = .ok (.lconst 0, 1) := by decide +kernel
theorem dX1_ofBestRow_11 : decode cX1_ofBestRow 11 = .ok (.lcmp, 1) := by decide +kernel
theorem dX1_ofBestRow_12 : decode cX1_ofBestRow 12 = .ok (.ifCond .ne 7, 3) := by decide +kernel
theorem q_993 : Cond.constantLong RX1 92 (-2) ∈ lw_g := mem_q 993 (by decide +kernel) rfl
theorem dX1_ofBestRow_15 : decode cX1_ofBestRow 15 = .ok (.ldc2_w 92, 3) := by decide +kernel
theorem dX1_ofBestRow_18 : decode cX1_ofBestRow 18 = .ok (.lreturn, 1) := by decide +kernel
set_option maxHeartbeats 4000000 in
set_option maxRecDepth 100000 in
theorem cN_best (l : Launch) (J : va_J9) (cn : Nat) (lk : Nat) (p2 : Nat) (p3 : Nat) (p4 : Nat) (p5 : Nat) (p9 : Nat) (p10 : Nat) (w : Nat) (t : Nat) (we : Nat) (jo : Nat) (la : Nat) (x : Int32) (y : Int32) : RC l J yX1_ofBestRow cX1_ofBestRow 6 (some .long) ({ frames := 2, cells := 0, slots := 0, locals := 43 }) [.ref cn, .int x, .int y] [(cn, .inr (1, [.ref w, .ref lk, .ref p2, .ref p3, .ref p4, .ref p5, .long 0, .long 0, .long 0, .ref p9, .ref p10, .long 0, .int 0, .int (-1)])), (w, .inr (10, [.ref t, .ref we, .ref jo, .ref la, .int 0, .int 0, .int 0, .int 0, .int 1, .int 0, .int 0]))] (vp_Sl (fun r => r = (-2))) := by
  refine rc_of (by decide) (Nat.le_of_ble_eq_true rfl) ?_
  intro p e s m below meth c ls hE hl hP hK
  obtain ⟨hx, hb, hr, hml, hown, hts, hlk, hin⟩ := hE
  have hown : s.vm.findClass RX1 = some m.cls := hown
  have hl : lv_has ls 6 [(0, .ref cn), (1, .int x), (2, .int y)] := hl
  have rg_x := i_rng x
  have rg_y := i_rng y
  refine lv_aload_n hx hb dX1_ofBestRow_0 rfl (lv_at hl 0 rfl) ?_
  refine va_get (D := J.1) (ci := 1) (v := .ref w) (C := RX1) (T := TX1) (N := 14) hx hb hts inX1 hown hK.1 hP 0 rfl rfl 0 (by decide) (hts _ q_317) (fun _ h9 => h9) rfl dX1_ofBestRow_1 ?_
  refine go_i (rn_V (As := []) (rest := []) hx hb hml hown hts hK (cW_openWeight l J w t we jo la) kV_RX1_102 (hP.sub (ws' := [(w, .inr (10, [.ref t, .ref we, .ref jo, .ref la, .int 0, .int 0, .int 0, .int 0, .int 1, .int 0, .int 0]))]) [1] rfl) rfl rfl rfl ⟨Nat.le_of_ble_eq_true rfl, Nat.le_of_ble_eq_true rfl⟩ rfl rfl rfl hl.1 rfl (Nat.le_of_ble_eq_true rfl) ⟨Nat.le_of_ble_eq_true rfl, Nat.le_of_ble_eq_true rfl⟩ dX1_ofBestRow_4) ?_
  refine lv_i2l (v := 0) hx hb dX1_ofBestRow_7 (by decide) ?_
  refine lv_lstore_n (lv' := [(3, .long 0), (0, .ref cn), (1, .int x), (2, .int y)]) hx hb dX1_ofBestRow_8 rfl hl (by decide) rfl (fun ls hl => ?_)
  refine lv_lload_n hx hb dX1_ofBestRow_9 rfl (lv_at hl 0 rfl) ?_
  refine lv_lconst (v := 0) hx hb dX1_ofBestRow_10 (by decide) ?_
  refine W.lcmp hx hb dX1_ofBestRow_11 ?_
  refine top_i (y := 0) (by decide) ?_
  refine lv_if_ne (tgt := 19) hx hb dX1_ofBestRow_12 (by decide) (fun c => absurd c (by decide)) (fun _ => ?_)
  refine lv_ldc2 (v := (-2)) hx hb hown (hts _ q_993) dX1_ofBestRow_15 ?_
  exact rz_l hx hb hr hlk (by decide) dX1_ofBestRow_18
