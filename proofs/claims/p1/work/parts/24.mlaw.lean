theorem dX12_byteAt_0 : decode cX12_byteAt 0 = .ok (.aload_n 0, 1) := by decide +kernel
theorem q_1280 : Cond.fieldLink RX12 170 RX12 "at" "I" ∈ lw_g := mem_q 1280 (by decide +kernel) rfl
theorem dX12_byteAt_1 : decode cX12_byteAt 1 = .ok (.getfield 170, 3) := by decide +kernel
theorem dX12_byteAt_4 : decode cX12_byteAt 4 = .ok (.aload_n 0, 1) := by decide +kernel
theorem q_1281 : Cond.fieldLink RX12 173 RX12 "ends" "I" ∈ lw_g := mem_q 1281 (by decide +kernel) rfl
theorem dX12_byteAt_5 : decode cX12_byteAt 5 = .ok (.getfield 173, 3) := by decide +kernel
theorem dX12_byteAt_8 : decode cX12_byteAt 8 = .ok (.if_icmp .ge 39, 3) := by decide +kernel
theorem dX12_byteAt_47 : decode cX12_byteAt 47 = .ok (.iconst 0, 1) := by decide +kernel
theorem dX12_byteAt_48 : decode cX12_byteAt 48 = .ok (.ireturn, 1) := by decide +kernel
set_option maxHeartbeats 4000000 in
set_option maxRecDepth 100000 in
theorem m_byteAt (l : Launch) (J : va_J9) (b : Nat → Nat) (q : Int32) : RC l J yX12_byteAt cX12_byteAt 1 (some .int) ({ frames := 0, cells := 0, slots := 0, locals := 0 }) [.ref (b 0)] [((b 0), .inr (12, [.ref (b 1), .ref (b 2), .ref (b 3), .ref (b 4), .int 0, .int 0, .int 0, .int 0, .ref (b 9), .ref (b 10), .int 0, .ref (b 12), .int (-1), .int (-1), .int 0, .int 0, .int q, .int 0, .ref (b 19), .ref (b 20), .ref (b 21), .ref (b 22), .ref (b 23), .long 0, .long 0, .long 0, .ref (b 27), .ref (b 28), .ref (b 29), .long 0, .int 0, .int (-1), .int 0, .int 0, .int 0, .ref (b 36), .int 0, .int 0, .ref (b 39), .ref (b 40), .int 0, .ref (b 42), .ref (b 43), .int 0, .int 0, .int 0, .ref (b 47), .ref (b 48), .ref (b 49), .ref (b 50)]))] (vp_Si (fun r => r = 0)) := by
  refine rc_of (by decide) (Nat.le_of_ble_eq_true rfl) ?_
  intro p e s m below meth c ls hE hl hP hK
  obtain ⟨hx, hb, hr, hml, hown, hts, hlk, hin⟩ := hE
  have hown : s.vm.findClass RX12 = some m.cls := hown
  have hl : lv_has ls 1 [(0, .ref (b 0))] := hl
  refine lv_aload_n hx hb dX12_byteAt_0 rfl (lv_at hl 0 rfl) ?_
  refine va_get (D := J.1) (ci := 12) (v := .int 0) (C := RX12) (T := TX12) (N := 50) hx hb hts inX12 hown hK.1 hP 0 rfl rfl 14 (by decide) (hts _ q_1280) (fun _ h9 => h9) rfl dX12_byteAt_1 ?_
  refine lv_aload_n hx hb dX12_byteAt_4 rfl (lv_at hl 0 rfl) ?_
  refine va_get (D := J.1) (ci := 12) (v := .int 0) (C := RX12) (T := TX12) (N := 50) hx hb hts inX12 hown hK.1 hP 0 rfl rfl 15 (by decide) (hts _ q_1281) (fun _ h9 => h9) rfl dX12_byteAt_5 ?_
  refine lv_icmp_ge (tgt := 47) hx hb dX12_byteAt_8 (by decide) (fun _ => ?_) (fun c => absurd c (by decide))
  refine lv_iconst (v := 0) hx hb dX12_byteAt_47 (by decide) ?_
  exact rz_i hx hb hr hlk (by decide) dX12_byteAt_48
theorem dX12_takes_0 : decode cX12_takes 0 = .ok (.aload_n 0, 1) := by decide +kernel
theorem q_1282 : Cond.fieldLink RX12 179 RX12 "fault" "I" ∈ lw_g := mem_q 1282 (by decide +kernel) rfl
theorem dX12_takes_1 : decode cX12_takes 1 = .ok (.getfield 179, 3) := by decide +kernel
theorem dX12_takes_4 : decode cX12_takes 4 = .ok (.ifCond .ge 11, 3) := by decide +kernel
theorem dX12_takes_15 : decode cX12_takes 15 = .ok (.iconst 0, 1) := by decide +kernel
theorem dX12_takes_16 : decode cX12_takes 16 = .ok (.ireturn, 1) := by decide +kernel
set_option maxHeartbeats 4000000 in
set_option maxRecDepth 100000 in
theorem m_takes (l : Launch) (J : va_J9) (b : Nat → Nat) (x : Int32) : RC l J yX12_takes cX12_takes 2 (some .boolean) ({ frames := 0, cells := 0, slots := 0, locals := 0 }) [.ref (b 0), .int x] [((b 0), .inr (12, [.ref (b 1), .ref (b 2), .ref (b 3), .ref (b 4), .int 0, .int 0, .int 0, .int 0, .ref (b 9), .ref (b 10), .int 0, .ref (b 12), .int (-1), .int (-1), .int 0, .int 0, .int 0, .int 0, .ref (b 19), .ref (b 20), .ref (b 21), .ref (b 22), .ref (b 23), .long 0, .long 0, .long 0, .ref (b 27), .ref (b 28), .ref (b 29), .long 0, .int 0, .int (-1), .int 0, .int 0, .int 0, .ref (b 36), .int 0, .int 0, .ref (b 39), .ref (b 40), .int 0, .ref (b 42), .ref (b 43), .int 0, .int 0, .int 0, .ref (b 47), .ref (b 48), .ref (b 49), .ref (b 50)]))] (vp_Si (fun r => r = 0)) := by
  refine rc_of (by decide) (Nat.le_of_ble_eq_true rfl) ?_
  intro p e s m below meth c ls hE hl hP hK
  obtain ⟨hx, hb, hr, hml, hown, hts, hlk, hin⟩ := hE
  have hown : s.vm.findClass RX12 = some m.cls := hown
  have hl : lv_has ls 2 [(0, .ref (b 0)), (1, .int x)] := hl
  have rg_x := i_rng x
  refine lv_aload_n hx hb dX12_takes_0 rfl (lv_at hl 0 rfl) ?_
  refine va_get (D := J.1) (ci := 12) (v := .int 0) (C := RX12) (T := TX12) (N := 50) hx hb hts inX12 hown hK.1 hP 0 rfl rfl 16 (by decide) (hts _ q_1282) (fun _ h9 => h9) rfl dX12_takes_1 ?_
  refine lv_if_ge (tgt := 15) hx hb dX12_takes_4 (by decide) (fun _ => ?_) (fun c => absurd c (by decide))
  refine lv_iconst (v := 0) hx hb dX12_takes_15 (by decide) ?_
  exact rz_z hx hb hr hlk (by decide) (by decide) dX12_takes_16
theorem dX12_nameOf_0 : decode cX12_nameOf 0 = .ok (.iload_n 0, 1) := by decide +kernel
theorem dX12_nameOf_1 : decode cX12_nameOf 1 = .ok (.lookupswitch 61 #[(97, 51), (98, 53), (110, 59), (112, 55), (119, 57)], 51) := by decide +kernel
theorem dX12_nameOf_62 : decode cX12_nameOf 62 = .ok (.iconst (-1), 1) := by decide +kernel
theorem dX12_nameOf_63 : decode cX12_nameOf 63 = .ok (.ireturn, 1) := by decide +kernel
set_option maxHeartbeats 4000000 in
set_option maxRecDepth 100000 in
theorem m_nameOf (l : Launch) (J : va_J9)  : RC l J yX12_nameOf cX12_nameOf 1 (some .int) ({ frames := 0, cells := 0, slots := 0, locals := 0 }) [.int 0] [] (vp_Si (fun r => r = (-1))) := by
  refine rc_of (by decide) (Nat.le_of_ble_eq_true rfl) ?_
  intro p e s m below meth c ls hE hl hP hK
  obtain ⟨hx, hb, hr, hml, hown, hts, hlk, hin⟩ := hE
  have hown : s.vm.findClass RX12 = some m.cls := hown
  have hl : lv_has ls 1 [(0, .int 0)] := hl
  refine lv_iload_n hx hb dX12_nameOf_0 rfl (lv_at hl 0 rfl) ?_
  refine lv_lookup (tgt := 62) (off := 61) hx hb dX12_nameOf_1 (by decide) (by decide) (by decide) ?_
  refine lv_iconst (v := (-1)) hx hb dX12_nameOf_62 (by decide) ?_
  exact rz_i hx hb hr hlk (by decide) dX12_nameOf_63
theorem dX12_wrong_0 : decode cX12_wrong 0 = .ok (.aload_n 0, 1) := by decide +kernel
theorem dX12_wrong_1 : decode cX12_wrong 1 = .ok (.aload_n 0, 1) := by decide +kernel
theorem dX12_wrong_2 : decode cX12_wrong 2 = .ok (.getfield 179, 3) := by decide +kernel
theorem dX12_wrong_5 : decode cX12_wrong 5 = .ok (.ifCond .ge 10, 3) := by decide +kernel
theorem dX12_wrong_8 : decode cX12_wrong 8 = .ok (.aload_n 0, 1) := by decide +kernel
theorem dX12_wrong_9 : decode cX12_wrong 9 = .ok (.getfield 170, 3) := by decide +kernel
theorem dX12_wrong_12 : decode cX12_wrong 12 = .ok (.goto 7, 3) := by decide +kernel
theorem dX12_wrong_19 : decode cX12_wrong 19 = .ok (.putfield 179, 3) := by decide +kernel
theorem dX12_wrong_22 : decode cX12_wrong 22 = .ok (.iconst 0, 1) := by decide +kernel
theorem dX12_wrong_23 : decode cX12_wrong 23 = .ok (.ireturn, 1) := by decide +kernel
set_option maxHeartbeats 4000000 in
set_option maxRecDepth 100000 in
theorem m_wrong (l : Launch) (J : va_J9) (sz : Nat) (b : Nat → Nat) : WC l J yX12_wrong cX12_wrong 1 (some .int) ({ frames := 0, cells := 0, slots := 0, locals := 0 }) [.ref (b 0)] [((b 0), .inr (12, [.ref (b 1), .ref (b 2), .ref (b 3), .ref (b 4), .int 0, .int 0, .int 0, .int 0, .ref (b 9), .ref (b 10), .int 0, .ref (b 12), .int (-1), .int (-1), .int 0, .int 0, .int (-1), .int 0, .ref (b 19), .ref (b 20), .ref (b 21), .ref (b 22), .ref (b 23), .long 0, .long 0, .long 0, .ref (b 27), .ref (b 28), .ref (b 29), .long 0, .int 0, .int (-1), .int 0, .int 0, .int 0, .ref (b 36), .int 0, .int 0, .ref (b 39), .ref (b 40), .int 0, .ref (b 42), .ref (b 43), .int 0, .int 0, .int 0, .ref (b 47), .ref (b 48), .ref (b 49), .ref (b 50)]))] sz (Qi J (fun (r : Int32) (_ : Unit) => r = 0) (fun (_ : Unit) => [((b 0), .inr (12, [.ref (b 1), .ref (b 2), .ref (b 3), .ref (b 4), .int 0, .int 0, .int 0, .int 0, .ref (b 9), .ref (b 10), .int 0, .ref (b 12), .int (-1), .int (-1), .int 0, .int 0, .int 0, .int 0, .ref (b 19), .ref (b 20), .ref (b 21), .ref (b 22), .ref (b 23), .long 0, .long 0, .long 0, .ref (b 27), .ref (b 28), .ref (b 29), .long 0, .int 0, .int (-1), .int 0, .int 0, .int 0, .ref (b 36), .int 0, .int 0, .ref (b 39), .ref (b 40), .int 0, .ref (b 42), .ref (b 43), .int 0, .int 0, .int 0, .ref (b 47), .ref (b 48), .ref (b 49), .ref (b 50)]))])) 0 0 := by
  refine wc_of (by decide) (Nat.le_of_ble_eq_true rfl) ?_
  intro p e s m below meth c ls A hE hl hP hK hD hS hA
  obtain ⟨hx, hb, hr, hml, hown, hts, hlk, hin⟩ := hE
  have hown : s.vm.findClass RX12 = some m.cls := hown
  have hl : lv_has ls 1 [(0, .ref (b 0))] := hl
  refine lv_aload_n hx hb dX12_wrong_0 rfl (lv_at hl 0 rfl) ?_
  refine lv_aload_n hx hb dX12_wrong_1 rfl (lv_at hl 0 rfl) ?_
  refine va_get (D := J.1) (ci := 12) (v := .int (-1)) (C := RX12) (T := TX12) (N := 50) hx hb hts inX12 hown hK.1 hP 0 rfl rfl 16 (by decide) (hts _ q_1282) (fun _ h9 => h9) rfl dX12_wrong_2 ?_
  refine lv_if_ge (tgt := 15) hx hb dX12_wrong_5 (by decide) (fun c => absurd c (by decide)) (fun _ => ?_)
  refine lv_aload_n hx hb dX12_wrong_8 rfl (lv_at hl 0 rfl) ?_
  refine va_get (D := J.1) (ci := 12) (v := .int 0) (C := RX12) (T := TX12) (N := 50) hx hb hts inX12 hown hK.1 hP 0 rfl rfl 14 (by decide) (hts _ q_1280) (fun _ h9 => h9) rfl dX12_wrong_9 ?_
  refine lv_goto (tgt := 19) hx hb dX12_wrong_12 (by decide) ?_
  refine va_put (D := J.1) (ci := 12) (v := .int 0) (ty := (.int)) (C := RX12) (T := TX12) (N := 50) hx hb hts inX12 tyX12 tyX12_ok nmX12 hown hK.1 hP hD hS 0 rfl rfl 16 (by decide) (hts _ q_1282) (fun _ h9 => h9) rfl (by decide +kernel) rfl rfl (Nat.le_of_ble_eq_true rfl) dX12_wrong_19 (fun H locs hP hD hS => ?_)
  have hP : va_P J.1 cls [((b 0), .inr (12, [.ref (b 1), .ref (b 2), .ref (b 3), .ref (b 4), .int 0, .int 0, .int 0, .int 0, .ref (b 9), .ref (b 10), .int 0, .ref (b 12), .int (-1), .int (-1), .int 0, .int 0, .int 0, .int 0, .ref (b 19), .ref (b 20), .ref (b 21), .ref (b 22), .ref (b 23), .long 0, .long 0, .long 0, .ref (b 27), .ref (b 28), .ref (b 29), .long 0, .int 0, .int (-1), .int 0, .int 0, .int 0, .ref (b 36), .int 0, .int 0, .ref (b 39), .ref (b 40), .int 0, .ref (b 42), .ref (b 43), .int 0, .int 0, .int 0, .ref (b 47), .ref (b 48), .ref (b 49), .ref (b 50)]))] H := hP
  have hD : va_D A [((b 0), .inr (12, [.ref (b 1), .ref (b 2), .ref (b 3), .ref (b 4), .int 0, .int 0, .int 0, .int 0, .ref (b 9), .ref (b 10), .int 0, .ref (b 12), .int (-1), .int (-1), .int 0, .int 0, .int 0, .int 0, .ref (b 19), .ref (b 20), .ref (b 21), .ref (b 22), .ref (b 23), .long 0, .long 0, .long 0, .ref (b 27), .ref (b 28), .ref (b 29), .long 0, .int 0, .int (-1), .int 0, .int 0, .int 0, .ref (b 36), .int 0, .int 0, .ref (b 39), .ref (b 40), .int 0, .ref (b 42), .ref (b 43), .int 0, .int 0, .int 0, .ref (b 47), .ref (b 48), .ref (b 49), .ref (b 50)]))] := hD
  refine lv_iconst (v := 0) hx hb dX12_wrong_22 (by decide) ?_
  exact wz_i () hx hb hr hlk (by decide) hP hD hS dX12_wrong_23
theorem dX12_one_0 : decode cX12_one 0 = .ok (.aload_n 0, 1) := by decide +kernel
theorem dX12_one_1 : decode cX12_one 1 = .ok (.getfield 179, 3) := by decide +kernel
theorem dX12_one_4 : decode cX12_one 4 = .ok (.ifCond .lt 5, 3) := by decide +kernel
theorem dX12_one_9 : decode cX12_one 9 = .ok (.aload_n 0, 1) := by decide +kernel
theorem q_1519 : Cond.methodLink RX12 182 yX12_byteAt ∈ lw_g := mem_q 1519 (by decide +kernel) rfl
theorem q_1521 : Cond.instanceMethod yX12_byteAt ∈ lw_g := mem_q 1521 (by decide +kernel) rfl
theorem q_62 : Cond.selects RX12 yX12_byteAt yX12_byteAt ∈ lw_g := mem_q 62 (by decide +kernel) rfl
theorem q_1522 : Cond.code yX12_byteAt cX12_byteAt 1 (some .int) ∈ lw_g := mem_q 1522 (by decide +kernel) rfl
theorem kV_RX12_182 : CV RX12 182 RX12 yX12_byteAt cX12_byteAt 1 (some .int) 0 := cv_of q_1519 q_1521 q_62 q_115 q_1522 (by decide +kernel)
theorem dX12_one_10 : decode cX12_one 10 = .ok (.invokevirtual 182, 3) := by decide +kernel
theorem dX12_one_13 : decode cX12_one 13 = .ok (.istore_n 1, 1) := by decide +kernel
theorem dX12_one_14 : decode cX12_one 14 = .ok (.iload_n 1, 1) := by decide +kernel
theorem dX12_one_15 : decode cX12_one 15 = .ok (.bipush 33, 2) := by decide +kernel
theorem dX12_one_17 : decode cX12_one 17 = .ok (.if_icmp .eq 15, 3) := by decide +kernel
theorem dX12_one_20 : decode cX12_one 20 = .ok (.iload_n 1, 1) := by decide +kernel
theorem dX12_one_21 : decode cX12_one 21 = .ok (.bipush 45, 2) := by decide +kernel
theorem dX12_one_23 : decode cX12_one 23 = .ok (.if_icmp .eq 9, 3) := by decide +kernel
theorem dX12_one_26 : decode cX12_one 26 = .ok (.iload_n 1, 1) := by decide +kernel
theorem dX12_one_27 : decode cX12_one 27 = .ok (.bipush 40, 2) := by decide +kernel
theorem dX12_one_29 : decode cX12_one 29 = .ok (.if_icmp .ne 116, 3) := by decide +kernel
theorem dX12_one_145 : decode cX12_one 145 = .ok (.iload_n 1, 1) := by decide +kernel
theorem q_1531 : Cond.methodLink RX12 213 yX12_nameOf ∈ lw_g := mem_q 1531 (by decide +kernel) rfl
theorem q_1532 : Cond.static yX12_nameOf ∈ lw_g := mem_q 1532 (by decide +kernel) rfl
theorem q_1533 : Cond.code yX12_nameOf cX12_nameOf 1 (some .int) ∈ lw_g := mem_q 1533 (by decide +kernel) rfl
theorem kS_RX12_213 : CS RX12 213 yX12_nameOf cX12_nameOf 1 (some .int) 1 := cs_of q_1531 q_1532 q_115 q_1533 (by decide +kernel)
theorem dX12_one_146 : decode cX12_one 146 = .ok (.invokestatic 213, 3) := by decide +kernel
theorem dX12_one_149 : decode cX12_one 149 = .ok (.istore_n 2, 1) := by decide +kernel
theorem dX12_one_150 : decode cX12_one 150 = .ok (.iload_n 2, 1) := by decide +kernel
theorem dX12_one_151 : decode cX12_one 151 = .ok (.ifCond .lt 20, 3) := by decide +kernel
theorem dX12_one_171 : decode cX12_one 171 = .ok (.iconst 0, 1) := by decide +kernel
theorem dX12_one_172 : decode cX12_one 172 = .ok (.istore_n 3, 1) := by decide +kernel
theorem dX12_one_173 : decode cX12_one 173 = .ok (.iconst 0, 1) := by decide +kernel
theorem dX12_one_174 : decode cX12_one 174 = .ok (.istore 4, 2) := by decide +kernel
theorem dX12_one_176 : decode cX12_one 176 = .ok (.iload 4, 2) := by decide +kernel
theorem dX12_one_178 : decode cX12_one 178 = .ok (.iconst 4, 1) := by decide +kernel
theorem dX12_one_179 : decode cX12_one 179 = .ok (.if_icmp .ge 50, 3) := by decide +kernel
theorem dX12_one_182 : decode cX12_one 182 = .ok (.aload_n 0, 1) := by decide +kernel
theorem dX12_one_183 : decode cX12_one 183 = .ok (.invokevirtual 182, 3) := by decide +kernel
theorem dX12_one_186 : decode cX12_one 186 = .ok (.bipush 48, 2) := by decide +kernel
theorem dX12_one_188 : decode cX12_one 188 = .ok (.if_icmp .lt 41, 3) := by decide +kernel
theorem dX12_one_229 : decode cX12_one 229 = .ok (.iload 4, 2) := by decide +kernel
theorem dX12_one_231 : decode cX12_one 231 = .ok (.ifCond .ne 10, 3) := by decide +kernel
theorem dX12_one_234 : decode cX12_one 234 = .ok (.aload_n 0, 1) := by decide +kernel
theorem q_1523 : Cond.methodLink RX12 207 yX12_wrong ∈ lw_g := mem_q 1523 (by decide +kernel) rfl
theorem q_1525 : Cond.instanceMethod yX12_wrong ∈ lw_g := mem_q 1525 (by decide +kernel) rfl
theorem q_63 : Cond.selects RX12 yX12_wrong yX12_wrong ∈ lw_g := mem_q 63 (by decide +kernel) rfl
theorem q_1526 : Cond.code yX12_wrong cX12_wrong 1 (some .int) ∈ lw_g := mem_q 1526 (by decide +kernel) rfl
theorem kV_RX12_207 : CV RX12 207 RX12 yX12_wrong cX12_wrong 1 (some .int) 0 := cv_of q_1523 q_1525 q_63 q_115 q_1526 (by decide +kernel)
theorem dX12_one_235 : decode cX12_one 235 = .ok (.invokevirtual 207, 3) := by decide +kernel
theorem dX12_one_238 : decode cX12_one 238 = .ok (.goto 4, 3) := by decide +kernel
theorem dX12_one_242 : decode cX12_one 242 = .ok (.ireturn, 1) := by decide +kernel
set_option maxHeartbeats 4000000 in
set_option maxRecDepth 100000 in
theorem m_one (l : Launch) (J : va_J9) (sz : Nat) (b : Nat → Nat) : WC l J yX12_one cX12_one 5 (some .int) ({ frames := 1, cells := 0, slots := 0, locals := 20 }) [.ref (b 0)] [((b 0), .inr (12, [.ref (b 1), .ref (b 2), .ref (b 3), .ref (b 4), .int 0, .int 0, .int 0, .int 0, .ref (b 9), .ref (b 10), .int 0, .ref (b 12), .int (-1), .int (-1), .int 0, .int 0, .int (-1), .int 0, .ref (b 19), .ref (b 20), .ref (b 21), .ref (b 22), .ref (b 23), .long 0, .long 0, .long 0, .ref (b 27), .ref (b 28), .ref (b 29), .long 0, .int 0, .int (-1), .int 0, .int 0, .int 0, .ref (b 36), .int 0, .int 0, .ref (b 39), .ref (b 40), .int 0, .ref (b 42), .ref (b 43), .int 0, .int 0, .int 0, .ref (b 47), .ref (b 48), .ref (b 49), .ref (b 50)]))] sz (Qi J (fun (r : Int32) (_ : Unit) => r = 0) (fun (_ : Unit) => [((b 0), .inr (12, [.ref (b 1), .ref (b 2), .ref (b 3), .ref (b 4), .int 0, .int 0, .int 0, .int 0, .ref (b 9), .ref (b 10), .int 0, .ref (b 12), .int (-1), .int (-1), .int 0, .int 0, .int 0, .int 0, .ref (b 19), .ref (b 20), .ref (b 21), .ref (b 22), .ref (b 23), .long 0, .long 0, .long 0, .ref (b 27), .ref (b 28), .ref (b 29), .long 0, .int 0, .int (-1), .int 0, .int 0, .int 0, .ref (b 36), .int 0, .int 0, .ref (b 39), .ref (b 40), .int 0, .ref (b 42), .ref (b 43), .int 0, .int 0, .int 0, .ref (b 47), .ref (b 48), .ref (b 49), .ref (b 50)]))])) 0 0 := by
  refine wc_of (by decide) (Nat.le_of_ble_eq_true rfl) ?_
  intro p e s m below meth c ls A hE hl hP hK hD hS hA
  obtain ⟨hx, hb, hr, hml, hown, hts, hlk, hin⟩ := hE
  have hown : s.vm.findClass RX12 = some m.cls := hown
  have hl : lv_has ls 5 [(0, .ref (b 0))] := hl
  refine lv_aload_n hx hb dX12_one_0 rfl (lv_at hl 0 rfl) ?_
  refine va_get (D := J.1) (ci := 12) (v := .int (-1)) (C := RX12) (T := TX12) (N := 50) hx hb hts inX12 hown hK.1 hP 0 rfl rfl 16 (by decide) (hts _ q_1282) (fun _ h9 => h9) rfl dX12_one_1 ?_
  refine lv_if_lt (tgt := 9) hx hb dX12_one_4 (by decide) (fun _ => ?_) (fun c => absurd c (by decide))
  refine lv_aload_n hx hb dX12_one_9 rfl (lv_at hl 0 rfl) ?_
  refine go_i (rn_V (As := []) (rest := []) hx hb hml hown hts hK (m_byteAt l J b (-1)) kV_RX12_182 hP rfl rfl rfl ⟨Nat.le_of_ble_eq_true rfl, Nat.le_of_ble_eq_true rfl⟩ rfl rfl rfl hl.1 rfl (Nat.le_of_ble_eq_true rfl) ⟨Nat.le_of_ble_eq_true rfl, Nat.le_of_ble_eq_true rfl⟩ dX12_one_10) ?_
  refine lv_istore_n (lv' := [(1, .int 0), (0, .ref (b 0))]) hx hb dX12_one_13 rfl hl (by decide) rfl (fun ls hl => ?_)
  refine lv_iload_n hx hb dX12_one_14 rfl (lv_at hl 0 rfl) ?_
  refine lv_bipush (v := 33) hx hb dX12_one_15 (by decide) ?_
  refine lv_icmp_eq (tgt := 32) hx hb dX12_one_17 (by decide) (fun c => absurd c (by decide)) (fun _ => ?_)
  refine lv_iload_n hx hb dX12_one_20 rfl (lv_at hl 0 rfl) ?_
  refine lv_bipush (v := 45) hx hb dX12_one_21 (by decide) ?_
  refine lv_icmp_eq (tgt := 32) hx hb dX12_one_23 (by decide) (fun c => absurd c (by decide)) (fun _ => ?_)
  refine lv_iload_n hx hb dX12_one_26 rfl (lv_at hl 0 rfl) ?_
  refine lv_bipush (v := 40) hx hb dX12_one_27 (by decide) ?_
  refine lv_icmp_ne (tgt := 145) hx hb dX12_one_29 (by decide) (fun _ => ?_) (fun c => absurd c (by decide))
  refine lv_iload_n hx hb dX12_one_145 rfl (lv_at hl 0 rfl) ?_
  refine go_i (rn_S (As := [.int 0]) (rest := []) hx hb hml hown hts hK (m_nameOf l J ) kS_RX12_213 (hP.sub (ws' := []) [] rfl) ⟨Nat.le_of_ble_eq_true rfl, Nat.le_of_ble_eq_true rfl⟩ rfl rfl rfl hl.1 rfl (Nat.le_of_ble_eq_true rfl) ⟨Nat.le_of_ble_eq_true rfl, Nat.le_of_ble_eq_true rfl⟩ dX12_one_146) ?_
  refine lv_istore_n (lv' := [(2, .int (-1)), (1, .int 0), (0, .ref (b 0))]) hx hb dX12_one_149 rfl hl (by decide) rfl (fun ls hl => ?_)
  refine lv_iload_n hx hb dX12_one_150 rfl (lv_at hl 0 rfl) ?_
  refine lv_if_lt (tgt := 171) hx hb dX12_one_151 (by decide) (fun _ => ?_) (fun c => absurd c (by decide))
  refine lv_iconst (v := 0) hx hb dX12_one_171 (by decide) ?_
  refine lv_istore_n (lv' := [(3, .int 0), (2, .int (-1)), (1, .int 0), (0, .ref (b 0))]) hx hb dX12_one_172 rfl hl (by decide) rfl (fun ls hl => ?_)
  refine lv_iconst (v := 0) hx hb dX12_one_173 (by decide) ?_
  refine lv_istore (lv' := [(4, .int 0), (3, .int 0), (2, .int (-1)), (1, .int 0), (0, .ref (b 0))]) hx hb dX12_one_174 hl (by decide) rfl (fun ls hl => ?_)
  refine lv_iload hx hb dX12_one_176 (lv_at hl 0 rfl) ?_
  refine lv_iconst (v := 4) hx hb dX12_one_178 (by decide) ?_
  refine lv_icmp_ge (tgt := 229) hx hb dX12_one_179 (by decide) (fun c => absurd c (by decide)) (fun _ => ?_)
  refine lv_aload_n hx hb dX12_one_182 rfl (lv_at hl 4 rfl) ?_
  refine go_i (rn_V (As := []) (rest := []) hx hb hml hown hts hK (m_byteAt l J b (-1)) kV_RX12_182 hP rfl rfl rfl ⟨Nat.le_of_ble_eq_true rfl, Nat.le_of_ble_eq_true rfl⟩ rfl rfl rfl hl.1 rfl (Nat.le_of_ble_eq_true rfl) ⟨Nat.le_of_ble_eq_true rfl, Nat.le_of_ble_eq_true rfl⟩ dX12_one_183) ?_
  refine lv_bipush (v := 48) hx hb dX12_one_186 (by decide) ?_
  refine lv_icmp_lt (tgt := 229) hx hb dX12_one_188 (by decide) (fun _ => ?_) (fun c => absurd c (by decide))
  refine lv_iload hx hb dX12_one_229 (lv_at hl 0 rfl) ?_
  refine lv_if_ne (tgt := 241) hx hb dX12_one_231 (by decide) (fun c => absurd c (by decide)) (fun _ => ?_)
  refine lv_aload_n hx hb dX12_one_234 rfl (lv_at hl 4 rfl) ?_
  refine gw_i (wc := [((b 0), .inr (12, [.ref (b 1), .ref (b 2), .ref (b 3), .ref (b 4), .int 0, .int 0, .int 0, .int 0, .ref (b 9), .ref (b 10), .int 0, .ref (b 12), .int (-1), .int (-1), .int 0, .int 0, .int (-1), .int 0, .ref (b 19), .ref (b 20), .ref (b 21), .ref (b 22), .ref (b 23), .long 0, .long 0, .long 0, .ref (b 27), .ref (b 28), .ref (b 29), .long 0, .int 0, .int (-1), .int 0, .int 0, .int 0, .ref (b 36), .int 0, .int 0, .ref (b 39), .ref (b 40), .int 0, .ref (b 42), .ref (b 43), .int 0, .int 0, .int 0, .ref (b 47), .ref (b 48), .ref (b 49), .ref (b 50)]))]) (wr := []) hP hD hS hA [0] [] rfl rfl (by decide) (by decide) (wn_V (As := []) (rest := []) hx hb hml hown hts hK (m_wrong l J _ b) kV_RX12_207 hP ((hD.sub (ws' := [((b 0), .inr (12, [.ref (b 1), .ref (b 2), .ref (b 3), .ref (b 4), .int 0, .int 0, .int 0, .int 0, .ref (b 9), .ref (b 10), .int 0, .ref (b 12), .int (-1), .int (-1), .int 0, .int 0, .int (-1), .int 0, .ref (b 19), .ref (b 20), .ref (b 21), .ref (b 22), .ref (b 23), .long 0, .long 0, .long 0, .ref (b 27), .ref (b 28), .ref (b 29), .long 0, .int 0, .int (-1), .int 0, .int 0, .int 0, .ref (b 36), .int 0, .int 0, .ref (b 39), .ref (b 40), .int 0, .ref (b 42), .ref (b 43), .int 0, .int 0, .int 0, .ref (b 47), .ref (b 48), .ref (b 49), .ref (b 50)]))]) [0] (by decide) rfl).weaken (fun _ _ _ _ => trivial)) rfl rfl rfl ⟨Nat.le_of_ble_eq_true rfl, Nat.le_of_ble_eq_true rfl⟩ rfl rfl rfl hl.1 rfl (Nat.le_of_ble_eq_true rfl) ⟨Nat.le_of_ble_eq_true rfl, Nat.le_of_ble_eq_true rfl⟩ dX12_one_235) (fun r2 u1 H locs hw hP hD hS => ?_)
  subst hw
  have hP : va_P J.1 cls [((b 0), .inr (12, [.ref (b 1), .ref (b 2), .ref (b 3), .ref (b 4), .int 0, .int 0, .int 0, .int 0, .ref (b 9), .ref (b 10), .int 0, .ref (b 12), .int (-1), .int (-1), .int 0, .int 0, .int 0, .int 0, .ref (b 19), .ref (b 20), .ref (b 21), .ref (b 22), .ref (b 23), .long 0, .long 0, .long 0, .ref (b 27), .ref (b 28), .ref (b 29), .long 0, .int 0, .int (-1), .int 0, .int 0, .int 0, .ref (b 36), .int 0, .int 0, .ref (b 39), .ref (b 40), .int 0, .ref (b 42), .ref (b 43), .int 0, .int 0, .int 0, .ref (b 47), .ref (b 48), .ref (b 49), .ref (b 50)]))] H := hP
  have hD : va_D A [((b 0), .inr (12, [.ref (b 1), .ref (b 2), .ref (b 3), .ref (b 4), .int 0, .int 0, .int 0, .int 0, .ref (b 9), .ref (b 10), .int 0, .ref (b 12), .int (-1), .int (-1), .int 0, .int 0, .int 0, .int 0, .ref (b 19), .ref (b 20), .ref (b 21), .ref (b 22), .ref (b 23), .long 0, .long 0, .long 0, .ref (b 27), .ref (b 28), .ref (b 29), .long 0, .int 0, .int (-1), .int 0, .int 0, .int 0, .ref (b 36), .int 0, .int 0, .ref (b 39), .ref (b 40), .int 0, .ref (b 42), .ref (b 43), .int 0, .int 0, .int 0, .ref (b 47), .ref (b 48), .ref (b 49), .ref (b 50)]))] := hD
  refine W.widen (k := 0) (n := 0) (Nat.le_of_ble_eq_true rfl) (Nat.le_of_ble_eq_true rfl) ?_
  refine lv_goto (tgt := 242) hx hb dX12_one_238 (by decide) ?_
  exact wz_i () hx hb hr hlk (by decide) hP hD hS dX12_one_242
theorem dX12_product_0 : decode cX12_product 0 = .ok (.aload_n 0, 1) := by decide +kernel
theorem q_1515 : Cond.methodLink RX12 201 yX12_one ∈ lw_g := mem_q 1515 (by decide +kernel) rfl
theorem q_1517 : Cond.instanceMethod yX12_one ∈ lw_g := mem_q 1517 (by decide +kernel) rfl
theorem q_61 : Cond.selects RX12 yX12_one yX12_one ∈ lw_g := mem_q 61 (by decide +kernel) rfl
theorem q_1518 : Cond.code yX12_one cX12_one 5 (some .int) ∈ lw_g := mem_q 1518 (by decide +kernel) rfl
theorem kV_RX12_201 : CV RX12 201 RX12 yX12_one cX12_one 5 (some .int) 0 := cv_of q_1515 q_1517 q_61 q_115 q_1518 (by decide +kernel)
theorem dX12_product_1 : decode cX12_product 1 = .ok (.invokevirtual 201, 3) := by decide +kernel
theorem dX12_product_4 : decode cX12_product 4 = .ok (.istore_n 1, 1) := by decide +kernel
theorem dX12_product_5 : decode cX12_product 5 = .ok (.aload_n 0, 1) := by decide +kernel
theorem dX12_product_6 : decode cX12_product 6 = .ok (.invokevirtual 182, 3) := by decide +kernel
theorem dX12_product_9 : decode cX12_product 9 = .ok (.istore_n 2, 1) := by decide +kernel
theorem dX12_product_10 : decode cX12_product 10 = .ok (.aload_n 0, 1) := by decide +kernel
theorem dX12_product_11 : decode cX12_product 11 = .ok (.getfield 179, 3) := by decide +kernel
theorem dX12_product_14 : decode cX12_product 14 = .ok (.ifCond .ge 80, 3) := by decide +kernel
theorem dX12_product_94 : decode cX12_product 94 = .ok (.iload_n 1, 1) := by decide +kernel
theorem dX12_product_95 : decode cX12_product 95 = .ok (.ireturn, 1) := by decide +kernel
set_option maxHeartbeats 4000000 in
set_option maxRecDepth 100000 in
theorem m_product (l : Launch) (J : va_J9) (sz : Nat) (b : Nat → Nat) : WC l J yX12_product cX12_product 4 (some .int) ({ frames := 2, cells := 0, slots := 0, locals := 44 }) [.ref (b 0)] [((b 0), .inr (12, [.ref (b 1), .ref (b 2), .ref (b 3), .ref (b 4), .int 0, .int 0, .int 0, .int 0, .ref (b 9), .ref (b 10), .int 0, .ref (b 12), .int (-1), .int (-1), .int 0, .int 0, .int (-1), .int 0, .ref (b 19), .ref (b 20), .ref (b 21), .ref (b 22), .ref (b 23), .long 0, .long 0, .long 0, .ref (b 27), .ref (b 28), .ref (b 29), .long 0, .int 0, .int (-1), .int 0, .int 0, .int 0, .ref (b 36), .int 0, .int 0, .ref (b 39), .ref (b 40), .int 0, .ref (b 42), .ref (b 43), .int 0, .int 0, .int 0, .ref (b 47), .ref (b 48), .ref (b 49), .ref (b 50)]))] sz (Qi J (fun (r : Int32) (_ : Unit) => r = 0) (fun (_ : Unit) => [((b 0), .inr (12, [.ref (b 1), .ref (b 2), .ref (b 3), .ref (b 4), .int 0, .int 0, .int 0, .int 0, .ref (b 9), .ref (b 10), .int 0, .ref (b 12), .int (-1), .int (-1), .int 0, .int 0, .int 0, .int 0, .ref (b 19), .ref (b 20), .ref (b 21), .ref (b 22), .ref (b 23), .long 0, .long 0, .long 0, .ref (b 27), .ref (b 28), .ref (b 29), .long 0, .int 0, .int (-1), .int 0, .int 0, .int 0, .ref (b 36), .int 0, .int 0, .ref (b 39), .ref (b 40), .int 0, .ref (b 42), .ref (b 43), .int 0, .int 0, .int 0, .ref (b 47), .ref (b 48), .ref (b 49), .ref (b 50)]))])) 0 0 := by
  refine wc_of (by decide) (Nat.le_of_ble_eq_true rfl) ?_
  intro p e s m below meth c ls A hE hl hP hK hD hS hA
  obtain ⟨hx, hb, hr, hml, hown, hts, hlk, hin⟩ := hE
  have hown : s.vm.findClass RX12 = some m.cls := hown
  have hl : lv_has ls 4 [(0, .ref (b 0))] := hl
  refine lv_aload_n hx hb dX12_product_0 rfl (lv_at hl 0 rfl) ?_
  refine gw_i (wc := [((b 0), .inr (12, [.ref (b 1), .ref (b 2), .ref (b 3), .ref (b 4), .int 0, .int 0, .int 0, .int 0, .ref (b 9), .ref (b 10), .int 0, .ref (b 12), .int (-1), .int (-1), .int 0, .int 0, .int (-1), .int 0, .ref (b 19), .ref (b 20), .ref (b 21), .ref (b 22), .ref (b 23), .long 0, .long 0, .long 0, .ref (b 27), .ref (b 28), .ref (b 29), .long 0, .int 0, .int (-1), .int 0, .int 0, .int 0, .ref (b 36), .int 0, .int 0, .ref (b 39), .ref (b 40), .int 0, .ref (b 42), .ref (b 43), .int 0, .int 0, .int 0, .ref (b 47), .ref (b 48), .ref (b 49), .ref (b 50)]))]) (wr := []) hP hD hS hA [0] [] rfl rfl (by decide) (by decide) (wn_V (As := []) (rest := []) hx hb hml hown hts hK (m_one l J _ b) kV_RX12_201 hP ((hD.sub (ws' := [((b 0), .inr (12, [.ref (b 1), .ref (b 2), .ref (b 3), .ref (b 4), .int 0, .int 0, .int 0, .int 0, .ref (b 9), .ref (b 10), .int 0, .ref (b 12), .int (-1), .int (-1), .int 0, .int 0, .int (-1), .int 0, .ref (b 19), .ref (b 20), .ref (b 21), .ref (b 22), .ref (b 23), .long 0, .long 0, .long 0, .ref (b 27), .ref (b 28), .ref (b 29), .long 0, .int 0, .int (-1), .int 0, .int 0, .int 0, .ref (b 36), .int 0, .int 0, .ref (b 39), .ref (b 40), .int 0, .ref (b 42), .ref (b 43), .int 0, .int 0, .int 0, .ref (b 47), .ref (b 48), .ref (b 49), .ref (b 50)]))]) [0] (by decide) rfl).weaken (fun _ _ _ _ => trivial)) rfl rfl rfl ⟨Nat.le_of_ble_eq_true rfl, Nat.le_of_ble_eq_true rfl⟩ rfl rfl rfl hl.1 rfl (Nat.le_of_ble_eq_true rfl) ⟨Nat.le_of_ble_eq_true rfl, Nat.le_of_ble_eq_true rfl⟩ dX12_product_1) (fun r2 u1 H locs hw hP hD hS => ?_)
  subst hw
  have hP : va_P J.1 cls [((b 0), .inr (12, [.ref (b 1), .ref (b 2), .ref (b 3), .ref (b 4), .int 0, .int 0, .int 0, .int 0, .ref (b 9), .ref (b 10), .int 0, .ref (b 12), .int (-1), .int (-1), .int 0, .int 0, .int 0, .int 0, .ref (b 19), .ref (b 20), .ref (b 21), .ref (b 22), .ref (b 23), .long 0, .long 0, .long 0, .ref (b 27), .ref (b 28), .ref (b 29), .long 0, .int 0, .int (-1), .int 0, .int 0, .int 0, .ref (b 36), .int 0, .int 0, .ref (b 39), .ref (b 40), .int 0, .ref (b 42), .ref (b 43), .int 0, .int 0, .int 0, .ref (b 47), .ref (b 48), .ref (b 49), .ref (b 50)]))] H := hP
  have hD : va_D A [((b 0), .inr (12, [.ref (b 1), .ref (b 2), .ref (b 3), .ref (b 4), .int 0, .int 0, .int 0, .int 0, .ref (b 9), .ref (b 10), .int 0, .ref (b 12), .int (-1), .int (-1), .int 0, .int 0, .int 0, .int 0, .ref (b 19), .ref (b 20), .ref (b 21), .ref (b 22), .ref (b 23), .long 0, .long 0, .long 0, .ref (b 27), .ref (b 28), .ref (b 29), .long 0, .int 0, .int (-1), .int 0, .int 0, .int 0, .ref (b 36), .int 0, .int 0, .ref (b 39), .ref (b 40), .int 0, .ref (b 42), .ref (b 43), .int 0, .int 0, .int 0, .ref (b 47), .ref (b 48), .ref (b 49), .ref (b 50)]))] := hD
  refine W.widen (k := 0) (n := 0) (Nat.le_of_ble_eq_true rfl) (Nat.le_of_ble_eq_true rfl) ?_
  refine lv_istore_n (lv' := [(1, .int 0), (0, .ref (b 0))]) hx hb dX12_product_4 rfl hl (by decide) rfl (fun ls hl => ?_)
  refine lv_aload_n hx hb dX12_product_5 rfl (lv_at hl 1 rfl) ?_
  refine go_i (rn_V (As := []) (rest := []) hx hb hml hown hts hK (m_byteAt l J b 0) kV_RX12_182 hP rfl rfl rfl ⟨Nat.le_of_ble_eq_true rfl, Nat.le_of_ble_eq_true rfl⟩ rfl rfl rfl hl.1 rfl (Nat.le_of_ble_eq_true rfl) ⟨Nat.le_of_ble_eq_true rfl, Nat.le_of_ble_eq_true rfl⟩ dX12_product_6) ?_
  refine lv_istore_n (lv' := [(2, .int 0), (1, .int 0), (0, .ref (b 0))]) hx hb dX12_product_9 rfl hl (by decide) rfl (fun ls hl => ?_)
  refine lv_aload_n hx hb dX12_product_10 rfl (lv_at hl 2 rfl) ?_
  refine va_get (D := J.1) (ci := 12) (v := .int 0) (C := RX12) (T := TX12) (N := 50) hx hb hts inX12 hown hK.1 hP 0 rfl rfl 16 (by decide) (hts _ q_1282) (fun _ h9 => h9) rfl dX12_product_11 ?_
  refine lv_if_ge (tgt := 94) hx hb dX12_product_14 (by decide) (fun _ => ?_) (fun c => absurd c (by decide))
  refine lv_iload_n hx hb dX12_product_94 rfl (lv_at hl 1 rfl) ?_
  exact wz_i () hx hb hr hlk (by decide) hP hD hS dX12_product_95
theorem dX12_sums_0 : decode cX12_sums 0 = .ok (.aload_n 0, 1) := by decide +kernel
theorem q_1511 : Cond.methodLink RX12 198 yX12_product ∈ lw_g := mem_q 1511 (by decide +kernel) rfl
theorem q_1513 : Cond.instanceMethod yX12_product ∈ lw_g := mem_q 1513 (by decide +kernel) rfl
theorem q_60 : Cond.selects RX12 yX12_product yX12_product ∈ lw_g := mem_q 60 (by decide +kernel) rfl
theorem q_1514 : Cond.code yX12_product cX12_product 4 (some .int) ∈ lw_g := mem_q 1514 (by decide +kernel) rfl
theorem kV_RX12_198 : CV RX12 198 RX12 yX12_product cX12_product 4 (some .int) 0 := cv_of q_1511 q_1513 q_60 q_115 q_1514 (by decide +kernel)
theorem dX12_sums_1 : decode cX12_sums 1 = .ok (.invokevirtual 198, 3) := by decide +kernel
theorem dX12_sums_4 : decode cX12_sums 4 = .ok (.istore_n 1, 1) := by decide +kernel
theorem dX12_sums_5 : decode cX12_sums 5 = .ok (.aload_n 0, 1) := by decide +kernel
theorem dX12_sums_6 : decode cX12_sums 6 = .ok (.getfield 179, 3) := by decide +kernel
theorem dX12_sums_9 : decode cX12_sums 9 = .ok (.ifCond .ge 68, 3) := by decide +kernel
theorem dX12_sums_77 : decode cX12_sums 77 = .ok (.iload_n 1, 1) := by decide +kernel
theorem dX12_sums_78 : decode cX12_sums 78 = .ok (.ireturn, 1) := by decide +kernel
set_option maxHeartbeats 4000000 in
set_option maxRecDepth 100000 in
theorem m_sums (l : Launch) (J : va_J9) (sz : Nat) (b : Nat → Nat) : WC l J yX12_sums cX12_sums 4 (some .int) ({ frames := 3, cells := 0, slots := 0, locals := 67 }) [.ref (b 0)] [((b 0), .inr (12, [.ref (b 1), .ref (b 2), .ref (b 3), .ref (b 4), .int 0, .int 0, .int 0, .int 0, .ref (b 9), .ref (b 10), .int 0, .ref (b 12), .int (-1), .int (-1), .int 0, .int 0, .int (-1), .int 0, .ref (b 19), .ref (b 20), .ref (b 21), .ref (b 22), .ref (b 23), .long 0, .long 0, .long 0, .ref (b 27), .ref (b 28), .ref (b 29), .long 0, .int 0, .int (-1), .int 0, .int 0, .int 0, .ref (b 36), .int 0, .int 0, .ref (b 39), .ref (b 40), .int 0, .ref (b 42), .ref (b 43), .int 0, .int 0, .int 0, .ref (b 47), .ref (b 48), .ref (b 49), .ref (b 50)]))] sz (Qi J (fun (r : Int32) (_ : Unit) => r = 0) (fun (_ : Unit) => [((b 0), .inr (12, [.ref (b 1), .ref (b 2), .ref (b 3), .ref (b 4), .int 0, .int 0, .int 0, .int 0, .ref (b 9), .ref (b 10), .int 0, .ref (b 12), .int (-1), .int (-1), .int 0, .int 0, .int 0, .int 0, .ref (b 19), .ref (b 20), .ref (b 21), .ref (b 22), .ref (b 23), .long 0, .long 0, .long 0, .ref (b 27), .ref (b 28), .ref (b 29), .long 0, .int 0, .int (-1), .int 0, .int 0, .int 0, .ref (b 36), .int 0, .int 0, .ref (b 39), .ref (b 40), .int 0, .ref (b 42), .ref (b 43), .int 0, .int 0, .int 0, .ref (b 47), .ref (b 48), .ref (b 49), .ref (b 50)]))])) 0 0 := by
  refine wc_of (by decide) (Nat.le_of_ble_eq_true rfl) ?_
  intro p e s m below meth c ls A hE hl hP hK hD hS hA
  obtain ⟨hx, hb, hr, hml, hown, hts, hlk, hin⟩ := hE
  have hown : s.vm.findClass RX12 = some m.cls := hown
  have hl : lv_has ls 4 [(0, .ref (b 0))] := hl
  refine lv_aload_n hx hb dX12_sums_0 rfl (lv_at hl 0 rfl) ?_
  refine gw_i (wc := [((b 0), .inr (12, [.ref (b 1), .ref (b 2), .ref (b 3), .ref (b 4), .int 0, .int 0, .int 0, .int 0, .ref (b 9), .ref (b 10), .int 0, .ref (b 12), .int (-1), .int (-1), .int 0, .int 0, .int (-1), .int 0, .ref (b 19), .ref (b 20), .ref (b 21), .ref (b 22), .ref (b 23), .long 0, .long 0, .long 0, .ref (b 27), .ref (b 28), .ref (b 29), .long 0, .int 0, .int (-1), .int 0, .int 0, .int 0, .ref (b 36), .int 0, .int 0, .ref (b 39), .ref (b 40), .int 0, .ref (b 42), .ref (b 43), .int 0, .int 0, .int 0, .ref (b 47), .ref (b 48), .ref (b 49), .ref (b 50)]))]) (wr := []) hP hD hS hA [0] [] rfl rfl (by decide) (by decide) (wn_V (As := []) (rest := []) hx hb hml hown hts hK (m_product l J _ b) kV_RX12_198 hP ((hD.sub (ws' := [((b 0), .inr (12, [.ref (b 1), .ref (b 2), .ref (b 3), .ref (b 4), .int 0, .int 0, .int 0, .int 0, .ref (b 9), .ref (b 10), .int 0, .ref (b 12), .int (-1), .int (-1), .int 0, .int 0, .int (-1), .int 0, .ref (b 19), .ref (b 20), .ref (b 21), .ref (b 22), .ref (b 23), .long 0, .long 0, .long 0, .ref (b 27), .ref (b 28), .ref (b 29), .long 0, .int 0, .int (-1), .int 0, .int 0, .int 0, .ref (b 36), .int 0, .int 0, .ref (b 39), .ref (b 40), .int 0, .ref (b 42), .ref (b 43), .int 0, .int 0, .int 0, .ref (b 47), .ref (b 48), .ref (b 49), .ref (b 50)]))]) [0] (by decide) rfl).weaken (fun _ _ _ _ => trivial)) rfl rfl rfl ⟨Nat.le_of_ble_eq_true rfl, Nat.le_of_ble_eq_true rfl⟩ rfl rfl rfl hl.1 rfl (Nat.le_of_ble_eq_true rfl) ⟨Nat.le_of_ble_eq_true rfl, Nat.le_of_ble_eq_true rfl⟩ dX12_sums_1) (fun r2 u1 H locs hw hP hD hS => ?_)
  subst hw
  have hP : va_P J.1 cls [((b 0), .inr (12, [.ref (b 1), .ref (b 2), .ref (b 3), .ref (b 4), .int 0, .int 0, .int 0, .int 0, .ref (b 9), .ref (b 10), .int 0, .ref (b 12), .int (-1), .int (-1), .int 0, .int 0, .int 0, .int 0, .ref (b 19), .ref (b 20), .ref (b 21), .ref (b 22), .ref (b 23), .long 0, .long 0, .long 0, .ref (b 27), .ref (b 28), .ref (b 29), .long 0, .int 0, .int (-1), .int 0, .int 0, .int 0, .ref (b 36), .int 0, .int 0, .ref (b 39), .ref (b 40), .int 0, .ref (b 42), .ref (b 43), .int 0, .int 0, .int 0, .ref (b 47), .ref (b 48), .ref (b 49), .ref (b 50)]))] H := hP
  have hD : va_D A [((b 0), .inr (12, [.ref (b 1), .ref (b 2), .ref (b 3), .ref (b 4), .int 0, .int 0, .int 0, .int 0, .ref (b 9), .ref (b 10), .int 0, .ref (b 12), .int (-1), .int (-1), .int 0, .int 0, .int 0, .int 0, .ref (b 19), .ref (b 20), .ref (b 21), .ref (b 22), .ref (b 23), .long 0, .long 0, .long 0, .ref (b 27), .ref (b 28), .ref (b 29), .long 0, .int 0, .int (-1), .int 0, .int 0, .int 0, .ref (b 36), .int 0, .int 0, .ref (b 39), .ref (b 40), .int 0, .ref (b 42), .ref (b 43), .int 0, .int 0, .int 0, .ref (b 47), .ref (b 48), .ref (b 49), .ref (b 50)]))] := hD
  refine W.widen (k := 0) (n := 0) (Nat.le_of_ble_eq_true rfl) (Nat.le_of_ble_eq_true rfl) ?_
  refine lv_istore_n (lv' := [(1, .int 0), (0, .ref (b 0))]) hx hb dX12_sums_4 rfl hl (by decide) rfl (fun ls hl => ?_)
  refine lv_aload_n hx hb dX12_sums_5 rfl (lv_at hl 1 rfl) ?_
  refine va_get (D := J.1) (ci := 12) (v := .int 0) (C := RX12) (T := TX12) (N := 50) hx hb hts inX12 hown hK.1 hP 0 rfl rfl 16 (by decide) (hts _ q_1282) (fun _ h9 => h9) rfl dX12_sums_6 ?_
  refine lv_if_ge (tgt := 77) hx hb dX12_sums_9 (by decide) (fun _ => ?_) (fun c => absurd c (by decide))
  refine lv_iload_n hx hb dX12_sums_77 rfl (lv_at hl 0 rfl) ?_
  exact wz_i () hx hb hr hlk (by decide) hP hD hS dX12_sums_78
theorem dX12_compared_0 : decode cX12_compared 0 = .ok (.aload_n 0, 1) := by decide +kernel
theorem q_1507 : Cond.methodLink RX12 195 yX12_sums ∈ lw_g := mem_q 1507 (by decide +kernel) rfl
theorem q_1509 : Cond.instanceMethod yX12_sums ∈ lw_g := mem_q 1509 (by decide +kernel) rfl
theorem q_59 : Cond.selects RX12 yX12_sums yX12_sums ∈ lw_g := mem_q 59 (by decide +kernel) rfl
theorem q_1510 : Cond.code yX12_sums cX12_sums 4 (some .int) ∈ lw_g := mem_q 1510 (by decide +kernel) rfl
theorem kV_RX12_195 : CV RX12 195 RX12 yX12_sums cX12_sums 4 (some .int) 0 := cv_of q_1507 q_1509 q_59 q_115 q_1510 (by decide +kernel)
theorem dX12_compared_1 : decode cX12_compared 1 = .ok (.invokevirtual 195, 3) := by decide +kernel
theorem dX12_compared_4 : decode cX12_compared 4 = .ok (.istore_n 1, 1) := by decide +kernel
theorem dX12_compared_5 : decode cX12_compared 5 = .ok (.aload_n 0, 1) := by decide +kernel
theorem dX12_compared_6 : decode cX12_compared 6 = .ok (.invokevirtual 182, 3) := by decide +kernel
theorem dX12_compared_9 : decode cX12_compared 9 = .ok (.istore_n 2, 1) := by decide +kernel
theorem dX12_compared_10 : decode cX12_compared 10 = .ok (.aload_n 0, 1) := by decide +kernel
theorem dX12_compared_11 : decode cX12_compared 11 = .ok (.getfield 179, 3) := by decide +kernel
theorem dX12_compared_14 : decode cX12_compared 14 = .ok (.ifCond .ge 21, 3) := by decide +kernel
theorem dX12_compared_35 : decode cX12_compared 35 = .ok (.iload_n 1, 1) := by decide +kernel
theorem dX12_compared_36 : decode cX12_compared 36 = .ok (.ireturn, 1) := by decide +kernel
set_option maxHeartbeats 4000000 in
set_option maxRecDepth 100000 in
theorem m_compared (l : Launch) (J : va_J9) (sz : Nat) (b : Nat → Nat) : WC l J yX12_compared cX12_compared 4 (some .int) ({ frames := 4, cells := 0, slots := 0, locals := 90 }) [.ref (b 0)] [((b 0), .inr (12, [.ref (b 1), .ref (b 2), .ref (b 3), .ref (b 4), .int 0, .int 0, .int 0, .int 0, .ref (b 9), .ref (b 10), .int 0, .ref (b 12), .int (-1), .int (-1), .int 0, .int 0, .int (-1), .int 0, .ref (b 19), .ref (b 20), .ref (b 21), .ref (b 22), .ref (b 23), .long 0, .long 0, .long 0, .ref (b 27), .ref (b 28), .ref (b 29), .long 0, .int 0, .int (-1), .int 0, .int 0, .int 0, .ref (b 36), .int 0, .int 0, .ref (b 39), .ref (b 40), .int 0, .ref (b 42), .ref (b 43), .int 0, .int 0, .int 0, .ref (b 47), .ref (b 48), .ref (b 49), .ref (b 50)]))] sz (Qi J (fun (r : Int32) (_ : Unit) => r = 0) (fun (_ : Unit) => [((b 0), .inr (12, [.ref (b 1), .ref (b 2), .ref (b 3), .ref (b 4), .int 0, .int 0, .int 0, .int 0, .ref (b 9), .ref (b 10), .int 0, .ref (b 12), .int (-1), .int (-1), .int 0, .int 0, .int 0, .int 0, .ref (b 19), .ref (b 20), .ref (b 21), .ref (b 22), .ref (b 23), .long 0, .long 0, .long 0, .ref (b 27), .ref (b 28), .ref (b 29), .long 0, .int 0, .int (-1), .int 0, .int 0, .int 0, .ref (b 36), .int 0, .int 0, .ref (b 39), .ref (b 40), .int 0, .ref (b 42), .ref (b 43), .int 0, .int 0, .int 0, .ref (b 47), .ref (b 48), .ref (b 49), .ref (b 50)]))])) 0 0 := by
  refine wc_of (by decide) (Nat.le_of_ble_eq_true rfl) ?_
  intro p e s m below meth c ls A hE hl hP hK hD hS hA
  obtain ⟨hx, hb, hr, hml, hown, hts, hlk, hin⟩ := hE
  have hown : s.vm.findClass RX12 = some m.cls := hown
  have hl : lv_has ls 4 [(0, .ref (b 0))] := hl
  refine lv_aload_n hx hb dX12_compared_0 rfl (lv_at hl 0 rfl) ?_
  refine gw_i (wc := [((b 0), .inr (12, [.ref (b 1), .ref (b 2), .ref (b 3), .ref (b 4), .int 0, .int 0, .int 0, .int 0, .ref (b 9), .ref (b 10), .int 0, .ref (b 12), .int (-1), .int (-1), .int 0, .int 0, .int (-1), .int 0, .ref (b 19), .ref (b 20), .ref (b 21), .ref (b 22), .ref (b 23), .long 0, .long 0, .long 0, .ref (b 27), .ref (b 28), .ref (b 29), .long 0, .int 0, .int (-1), .int 0, .int 0, .int 0, .ref (b 36), .int 0, .int 0, .ref (b 39), .ref (b 40), .int 0, .ref (b 42), .ref (b 43), .int 0, .int 0, .int 0, .ref (b 47), .ref (b 48), .ref (b 49), .ref (b 50)]))]) (wr := []) hP hD hS hA [0] [] rfl rfl (by decide) (by decide) (wn_V (As := []) (rest := []) hx hb hml hown hts hK (m_sums l J _ b) kV_RX12_195 hP ((hD.sub (ws' := [((b 0), .inr (12, [.ref (b 1), .ref (b 2), .ref (b 3), .ref (b 4), .int 0, .int 0, .int 0, .int 0, .ref (b 9), .ref (b 10), .int 0, .ref (b 12), .int (-1), .int (-1), .int 0, .int 0, .int (-1), .int 0, .ref (b 19), .ref (b 20), .ref (b 21), .ref (b 22), .ref (b 23), .long 0, .long 0, .long 0, .ref (b 27), .ref (b 28), .ref (b 29), .long 0, .int 0, .int (-1), .int 0, .int 0, .int 0, .ref (b 36), .int 0, .int 0, .ref (b 39), .ref (b 40), .int 0, .ref (b 42), .ref (b 43), .int 0, .int 0, .int 0, .ref (b 47), .ref (b 48), .ref (b 49), .ref (b 50)]))]) [0] (by decide) rfl).weaken (fun _ _ _ _ => trivial)) rfl rfl rfl ⟨Nat.le_of_ble_eq_true rfl, Nat.le_of_ble_eq_true rfl⟩ rfl rfl rfl hl.1 rfl (Nat.le_of_ble_eq_true rfl) ⟨Nat.le_of_ble_eq_true rfl, Nat.le_of_ble_eq_true rfl⟩ dX12_compared_1) (fun r2 u1 H locs hw hP hD hS => ?_)
  subst hw
  have hP : va_P J.1 cls [((b 0), .inr (12, [.ref (b 1), .ref (b 2), .ref (b 3), .ref (b 4), .int 0, .int 0, .int 0, .int 0, .ref (b 9), .ref (b 10), .int 0, .ref (b 12), .int (-1), .int (-1), .int 0, .int 0, .int 0, .int 0, .ref (b 19), .ref (b 20), .ref (b 21), .ref (b 22), .ref (b 23), .long 0, .long 0, .long 0, .ref (b 27), .ref (b 28), .ref (b 29), .long 0, .int 0, .int (-1), .int 0, .int 0, .int 0, .ref (b 36), .int 0, .int 0, .ref (b 39), .ref (b 40), .int 0, .ref (b 42), .ref (b 43), .int 0, .int 0, .int 0, .ref (b 47), .ref (b 48), .ref (b 49), .ref (b 50)]))] H := hP
  have hD : va_D A [((b 0), .inr (12, [.ref (b 1), .ref (b 2), .ref (b 3), .ref (b 4), .int 0, .int 0, .int 0, .int 0, .ref (b 9), .ref (b 10), .int 0, .ref (b 12), .int (-1), .int (-1), .int 0, .int 0, .int 0, .int 0, .ref (b 19), .ref (b 20), .ref (b 21), .ref (b 22), .ref (b 23), .long 0, .long 0, .long 0, .ref (b 27), .ref (b 28), .ref (b 29), .long 0, .int 0, .int (-1), .int 0, .int 0, .int 0, .ref (b 36), .int 0, .int 0, .ref (b 39), .ref (b 40), .int 0, .ref (b 42), .ref (b 43), .int 0, .int 0, .int 0, .ref (b 47), .ref (b 48), .ref (b 49), .ref (b 50)]))] := hD
  refine W.widen (k := 0) (n := 0) (Nat.le_of_ble_eq_true rfl) (Nat.le_of_ble_eq_true rfl) ?_
  refine lv_istore_n (lv' := [(1, .int 0), (0, .ref (b 0))]) hx hb dX12_compared_4 rfl hl (by decide) rfl (fun ls hl => ?_)
  refine lv_aload_n hx hb dX12_compared_5 rfl (lv_at hl 1 rfl) ?_
  refine go_i (rn_V (As := []) (rest := []) hx hb hml hown hts hK (m_byteAt l J b 0) kV_RX12_182 hP rfl rfl rfl ⟨Nat.le_of_ble_eq_true rfl, Nat.le_of_ble_eq_true rfl⟩ rfl rfl rfl hl.1 rfl (Nat.le_of_ble_eq_true rfl) ⟨Nat.le_of_ble_eq_true rfl, Nat.le_of_ble_eq_true rfl⟩ dX12_compared_6) ?_
  refine lv_istore_n (lv' := [(2, .int 0), (1, .int 0), (0, .ref (b 0))]) hx hb dX12_compared_9 rfl hl (by decide) rfl (fun ls hl => ?_)
  refine lv_aload_n hx hb dX12_compared_10 rfl (lv_at hl 2 rfl) ?_
  refine va_get (D := J.1) (ci := 12) (v := .int 0) (C := RX12) (T := TX12) (N := 50) hx hb hts inX12 hown hK.1 hP 0 rfl rfl 16 (by decide) (hts _ q_1282) (fun _ h9 => h9) rfl dX12_compared_11 ?_
  refine lv_if_ge (tgt := 35) hx hb dX12_compared_14 (by decide) (fun _ => ?_) (fun c => absurd c (by decide))
  refine lv_iload_n hx hb dX12_compared_35 rfl (lv_at hl 1 rfl) ?_
  exact wz_i () hx hb hr hlk (by decide) hP hD hS dX12_compared_36
theorem dX12_both_0 : decode cX12_both 0 = .ok (.aload_n 0, 1) := by decide +kernel
theorem q_1503 : Cond.methodLink RX12 192 yX12_compared ∈ lw_g := mem_q 1503 (by decide +kernel) rfl
theorem q_1505 : Cond.instanceMethod yX12_compared ∈ lw_g := mem_q 1505 (by decide +kernel) rfl
theorem q_58 : Cond.selects RX12 yX12_compared yX12_compared ∈ lw_g := mem_q 58 (by decide +kernel) rfl
theorem q_1506 : Cond.code yX12_compared cX12_compared 4 (some .int) ∈ lw_g := mem_q 1506 (by decide +kernel) rfl
theorem kV_RX12_192 : CV RX12 192 RX12 yX12_compared cX12_compared 4 (some .int) 0 := cv_of q_1503 q_1505 q_58 q_115 q_1506 (by decide +kernel)
theorem dX12_both_1 : decode cX12_both 1 = .ok (.invokevirtual 192, 3) := by decide +kernel
theorem dX12_both_4 : decode cX12_both 4 = .ok (.istore_n 1, 1) := by decide +kernel
theorem dX12_both_5 : decode cX12_both 5 = .ok (.aload_n 0, 1) := by decide +kernel
theorem dX12_both_6 : decode cX12_both 6 = .ok (.bipush 38, 2) := by decide +kernel
theorem q_1527 : Cond.methodLink RX12 189 yX12_takes ∈ lw_g := mem_q 1527 (by decide +kernel) rfl
theorem q_1529 : Cond.instanceMethod yX12_takes ∈ lw_g := mem_q 1529 (by decide +kernel) rfl
theorem q_64 : Cond.selects RX12 yX12_takes yX12_takes ∈ lw_g := mem_q 64 (by decide +kernel) rfl
theorem q_1530 : Cond.code yX12_takes cX12_takes 2 (some .boolean) ∈ lw_g := mem_q 1530 (by decide +kernel) rfl
theorem kV_RX12_189 : CV RX12 189 RX12 yX12_takes cX12_takes 2 (some .boolean) 1 := cv_of q_1527 q_1529 q_64 q_115 q_1530 (by decide +kernel)
theorem dX12_both_8 : decode cX12_both 8 = .ok (.invokevirtual 189, 3) := by decide +kernel
theorem dX12_both_11 : decode cX12_both 11 = .ok (.ifCond .eq 25, 3) := by decide +kernel
theorem dX12_both_36 : decode cX12_both 36 = .ok (.iload_n 1, 1) := by decide +kernel
theorem dX12_both_37 : decode cX12_both 37 = .ok (.ireturn, 1) := by decide +kernel
set_option maxHeartbeats 4000000 in
set_option maxRecDepth 100000 in
theorem m_both (l : Launch) (J : va_J9) (sz : Nat) (b : Nat → Nat) : WC l J yX12_both cX12_both 3 (some .int) ({ frames := 5, cells := 0, slots := 0, locals := 113 }) [.ref (b 0)] [((b 0), .inr (12, [.ref (b 1), .ref (b 2), .ref (b 3), .ref (b 4), .int 0, .int 0, .int 0, .int 0, .ref (b 9), .ref (b 10), .int 0, .ref (b 12), .int (-1), .int (-1), .int 0, .int 0, .int (-1), .int 0, .ref (b 19), .ref (b 20), .ref (b 21), .ref (b 22), .ref (b 23), .long 0, .long 0, .long 0, .ref (b 27), .ref (b 28), .ref (b 29), .long 0, .int 0, .int (-1), .int 0, .int 0, .int 0, .ref (b 36), .int 0, .int 0, .ref (b 39), .ref (b 40), .int 0, .ref (b 42), .ref (b 43), .int 0, .int 0, .int 0, .ref (b 47), .ref (b 48), .ref (b 49), .ref (b 50)]))] sz (Qi J (fun (r : Int32) (_ : Unit) => r = 0) (fun (_ : Unit) => [((b 0), .inr (12, [.ref (b 1), .ref (b 2), .ref (b 3), .ref (b 4), .int 0, .int 0, .int 0, .int 0, .ref (b 9), .ref (b 10), .int 0, .ref (b 12), .int (-1), .int (-1), .int 0, .int 0, .int 0, .int 0, .ref (b 19), .ref (b 20), .ref (b 21), .ref (b 22), .ref (b 23), .long 0, .long 0, .long 0, .ref (b 27), .ref (b 28), .ref (b 29), .long 0, .int 0, .int (-1), .int 0, .int 0, .int 0, .ref (b 36), .int 0, .int 0, .ref (b 39), .ref (b 40), .int 0, .ref (b 42), .ref (b 43), .int 0, .int 0, .int 0, .ref (b 47), .ref (b 48), .ref (b 49), .ref (b 50)]))])) 0 0 := by
  refine wc_of (by decide) (Nat.le_of_ble_eq_true rfl) ?_
  intro p e s m below meth c ls A hE hl hP hK hD hS hA
  obtain ⟨hx, hb, hr, hml, hown, hts, hlk, hin⟩ := hE
  have hown : s.vm.findClass RX12 = some m.cls := hown
  have hl : lv_has ls 3 [(0, .ref (b 0))] := hl
  refine lv_aload_n hx hb dX12_both_0 rfl (lv_at hl 0 rfl) ?_
  refine gw_i (wc := [((b 0), .inr (12, [.ref (b 1), .ref (b 2), .ref (b 3), .ref (b 4), .int 0, .int 0, .int 0, .int 0, .ref (b 9), .ref (b 10), .int 0, .ref (b 12), .int (-1), .int (-1), .int 0, .int 0, .int (-1), .int 0, .ref (b 19), .ref (b 20), .ref (b 21), .ref (b 22), .ref (b 23), .long 0, .long 0, .long 0, .ref (b 27), .ref (b 28), .ref (b 29), .long 0, .int 0, .int (-1), .int 0, .int 0, .int 0, .ref (b 36), .int 0, .int 0, .ref (b 39), .ref (b 40), .int 0, .ref (b 42), .ref (b 43), .int 0, .int 0, .int 0, .ref (b 47), .ref (b 48), .ref (b 49), .ref (b 50)]))]) (wr := []) hP hD hS hA [0] [] rfl rfl (by decide) (by decide) (wn_V (As := []) (rest := []) hx hb hml hown hts hK (m_compared l J _ b) kV_RX12_192 hP ((hD.sub (ws' := [((b 0), .inr (12, [.ref (b 1), .ref (b 2), .ref (b 3), .ref (b 4), .int 0, .int 0, .int 0, .int 0, .ref (b 9), .ref (b 10), .int 0, .ref (b 12), .int (-1), .int (-1), .int 0, .int 0, .int (-1), .int 0, .ref (b 19), .ref (b 20), .ref (b 21), .ref (b 22), .ref (b 23), .long 0, .long 0, .long 0, .ref (b 27), .ref (b 28), .ref (b 29), .long 0, .int 0, .int (-1), .int 0, .int 0, .int 0, .ref (b 36), .int 0, .int 0, .ref (b 39), .ref (b 40), .int 0, .ref (b 42), .ref (b 43), .int 0, .int 0, .int 0, .ref (b 47), .ref (b 48), .ref (b 49), .ref (b 50)]))]) [0] (by decide) rfl).weaken (fun _ _ _ _ => trivial)) rfl rfl rfl ⟨Nat.le_of_ble_eq_true rfl, Nat.le_of_ble_eq_true rfl⟩ rfl rfl rfl hl.1 rfl (Nat.le_of_ble_eq_true rfl) ⟨Nat.le_of_ble_eq_true rfl, Nat.le_of_ble_eq_true rfl⟩ dX12_both_1) (fun r2 u1 H locs hw hP hD hS => ?_)
  subst hw
  have hP : va_P J.1 cls [((b 0), .inr (12, [.ref (b 1), .ref (b 2), .ref (b 3), .ref (b 4), .int 0, .int 0, .int 0, .int 0, .ref (b 9), .ref (b 10), .int 0, .ref (b 12), .int (-1), .int (-1), .int 0, .int 0, .int 0, .int 0, .ref (b 19), .ref (b 20), .ref (b 21), .ref (b 22), .ref (b 23), .long 0, .long 0, .long 0, .ref (b 27), .ref (b 28), .ref (b 29), .long 0, .int 0, .int (-1), .int 0, .int 0, .int 0, .ref (b 36), .int 0, .int 0, .ref (b 39), .ref (b 40), .int 0, .ref (b 42), .ref (b 43), .int 0, .int 0, .int 0, .ref (b 47), .ref (b 48), .ref (b 49), .ref (b 50)]))] H := hP
  have hD : va_D A [((b 0), .inr (12, [.ref (b 1), .ref (b 2), .ref (b 3), .ref (b 4), .int 0, .int 0, .int 0, .int 0, .ref (b 9), .ref (b 10), .int 0, .ref (b 12), .int (-1), .int (-1), .int 0, .int 0, .int 0, .int 0, .ref (b 19), .ref (b 20), .ref (b 21), .ref (b 22), .ref (b 23), .long 0, .long 0, .long 0, .ref (b 27), .ref (b 28), .ref (b 29), .long 0, .int 0, .int (-1), .int 0, .int 0, .int 0, .ref (b 36), .int 0, .int 0, .ref (b 39), .ref (b 40), .int 0, .ref (b 42), .ref (b 43), .int 0, .int 0, .int 0, .ref (b 47), .ref (b 48), .ref (b 49), .ref (b 50)]))] := hD
  refine W.widen (k := 0) (n := 0) (Nat.le_of_ble_eq_true rfl) (Nat.le_of_ble_eq_true rfl) ?_
  refine lv_istore_n (lv' := [(1, .int 0), (0, .ref (b 0))]) hx hb dX12_both_4 rfl hl (by decide) rfl (fun ls hl => ?_)
  refine lv_aload_n hx hb dX12_both_5 rfl (lv_at hl 1 rfl) ?_
  refine lv_bipush (v := 38) hx hb dX12_both_6 (by decide) ?_
  refine go_i (rn_V (As := [.int 38]) (rest := []) hx hb hml hown hts hK (m_takes l J b 38) kV_RX12_189 hP rfl rfl rfl ⟨Nat.le_of_ble_eq_true rfl, Nat.le_of_ble_eq_true rfl⟩ rfl rfl rfl hl.1 rfl (Nat.le_of_ble_eq_true rfl) ⟨Nat.le_of_ble_eq_true rfl, Nat.le_of_ble_eq_true rfl⟩ dX12_both_8) ?_
  refine lv_if_eq (tgt := 36) hx hb dX12_both_11 (by decide) (fun _ => ?_) (fun c => absurd c (by decide))
  refine lv_iload_n hx hb dX12_both_36 rfl (lv_at hl 0 rfl) ?_
  exact wz_i () hx hb hr hlk (by decide) hP hD hS dX12_both_37
theorem dX12_either_0 : decode cX12_either 0 = .ok (.aload_n 0, 1) := by decide +kernel
theorem q_1499 : Cond.methodLink RX12 186 yX12_both ∈ lw_g := mem_q 1499 (by decide +kernel) rfl
theorem q_1501 : Cond.instanceMethod yX12_both ∈ lw_g := mem_q 1501 (by decide +kernel) rfl
theorem q_57 : Cond.selects RX12 yX12_both yX12_both ∈ lw_g := mem_q 57 (by decide +kernel) rfl
theorem q_1502 : Cond.code yX12_both cX12_both 3 (some .int) ∈ lw_g := mem_q 1502 (by decide +kernel) rfl
theorem kV_RX12_186 : CV RX12 186 RX12 yX12_both cX12_both 3 (some .int) 0 := cv_of q_1499 q_1501 q_57 q_115 q_1502 (by decide +kernel)
theorem dX12_either_1 : decode cX12_either 1 = .ok (.invokevirtual 186, 3) := by decide +kernel
theorem dX12_either_4 : decode cX12_either 4 = .ok (.istore_n 1, 1) := by decide +kernel
theorem dX12_either_5 : decode cX12_either 5 = .ok (.aload_n 0, 1) := by decide +kernel
theorem dX12_either_6 : decode cX12_either 6 = .ok (.bipush 124, 2) := by decide +kernel
theorem dX12_either_8 : decode cX12_either 8 = .ok (.invokevirtual 189, 3) := by decide +kernel
theorem dX12_either_11 : decode cX12_either 11 = .ok (.ifCond .eq 25, 3) := by decide +kernel
theorem dX12_either_36 : decode cX12_either 36 = .ok (.iload_n 1, 1) := by decide +kernel
theorem dX12_either_37 : decode cX12_either 37 = .ok (.ireturn, 1) := by decide +kernel
set_option maxHeartbeats 4000000 in
set_option maxRecDepth 100000 in
theorem m_either (l : Launch) (J : va_J9) (sz : Nat) (b : Nat → Nat) : WC l J yX12_either cX12_either 3 (some .int) ({ frames := 6, cells := 0, slots := 0, locals := 135 }) [.ref (b 0)] [((b 0), .inr (12, [.ref (b 1), .ref (b 2), .ref (b 3), .ref (b 4), .int 0, .int 0, .int 0, .int 0, .ref (b 9), .ref (b 10), .int 0, .ref (b 12), .int (-1), .int (-1), .int 0, .int 0, .int (-1), .int 0, .ref (b 19), .ref (b 20), .ref (b 21), .ref (b 22), .ref (b 23), .long 0, .long 0, .long 0, .ref (b 27), .ref (b 28), .ref (b 29), .long 0, .int 0, .int (-1), .int 0, .int 0, .int 0, .ref (b 36), .int 0, .int 0, .ref (b 39), .ref (b 40), .int 0, .ref (b 42), .ref (b 43), .int 0, .int 0, .int 0, .ref (b 47), .ref (b 48), .ref (b 49), .ref (b 50)]))] sz (Qi J (fun (r : Int32) (_ : Unit) => r = 0) (fun (_ : Unit) => [((b 0), .inr (12, [.ref (b 1), .ref (b 2), .ref (b 3), .ref (b 4), .int 0, .int 0, .int 0, .int 0, .ref (b 9), .ref (b 10), .int 0, .ref (b 12), .int (-1), .int (-1), .int 0, .int 0, .int 0, .int 0, .ref (b 19), .ref (b 20), .ref (b 21), .ref (b 22), .ref (b 23), .long 0, .long 0, .long 0, .ref (b 27), .ref (b 28), .ref (b 29), .long 0, .int 0, .int (-1), .int 0, .int 0, .int 0, .ref (b 36), .int 0, .int 0, .ref (b 39), .ref (b 40), .int 0, .ref (b 42), .ref (b 43), .int 0, .int 0, .int 0, .ref (b 47), .ref (b 48), .ref (b 49), .ref (b 50)]))])) 0 0 := by
  refine wc_of (by decide) (Nat.le_of_ble_eq_true rfl) ?_
  intro p e s m below meth c ls A hE hl hP hK hD hS hA
  obtain ⟨hx, hb, hr, hml, hown, hts, hlk, hin⟩ := hE
  have hown : s.vm.findClass RX12 = some m.cls := hown
  have hl : lv_has ls 3 [(0, .ref (b 0))] := hl
  refine lv_aload_n hx hb dX12_either_0 rfl (lv_at hl 0 rfl) ?_
  refine gw_i (wc := [((b 0), .inr (12, [.ref (b 1), .ref (b 2), .ref (b 3), .ref (b 4), .int 0, .int 0, .int 0, .int 0, .ref (b 9), .ref (b 10), .int 0, .ref (b 12), .int (-1), .int (-1), .int 0, .int 0, .int (-1), .int 0, .ref (b 19), .ref (b 20), .ref (b 21), .ref (b 22), .ref (b 23), .long 0, .long 0, .long 0, .ref (b 27), .ref (b 28), .ref (b 29), .long 0, .int 0, .int (-1), .int 0, .int 0, .int 0, .ref (b 36), .int 0, .int 0, .ref (b 39), .ref (b 40), .int 0, .ref (b 42), .ref (b 43), .int 0, .int 0, .int 0, .ref (b 47), .ref (b 48), .ref (b 49), .ref (b 50)]))]) (wr := []) hP hD hS hA [0] [] rfl rfl (by decide) (by decide) (wn_V (As := []) (rest := []) hx hb hml hown hts hK (m_both l J _ b) kV_RX12_186 hP ((hD.sub (ws' := [((b 0), .inr (12, [.ref (b 1), .ref (b 2), .ref (b 3), .ref (b 4), .int 0, .int 0, .int 0, .int 0, .ref (b 9), .ref (b 10), .int 0, .ref (b 12), .int (-1), .int (-1), .int 0, .int 0, .int (-1), .int 0, .ref (b 19), .ref (b 20), .ref (b 21), .ref (b 22), .ref (b 23), .long 0, .long 0, .long 0, .ref (b 27), .ref (b 28), .ref (b 29), .long 0, .int 0, .int (-1), .int 0, .int 0, .int 0, .ref (b 36), .int 0, .int 0, .ref (b 39), .ref (b 40), .int 0, .ref (b 42), .ref (b 43), .int 0, .int 0, .int 0, .ref (b 47), .ref (b 48), .ref (b 49), .ref (b 50)]))]) [0] (by decide) rfl).weaken (fun _ _ _ _ => trivial)) rfl rfl rfl ⟨Nat.le_of_ble_eq_true rfl, Nat.le_of_ble_eq_true rfl⟩ rfl rfl rfl hl.1 rfl (Nat.le_of_ble_eq_true rfl) ⟨Nat.le_of_ble_eq_true rfl, Nat.le_of_ble_eq_true rfl⟩ dX12_either_1) (fun r2 u1 H locs hw hP hD hS => ?_)
  subst hw
  have hP : va_P J.1 cls [((b 0), .inr (12, [.ref (b 1), .ref (b 2), .ref (b 3), .ref (b 4), .int 0, .int 0, .int 0, .int 0, .ref (b 9), .ref (b 10), .int 0, .ref (b 12), .int (-1), .int (-1), .int 0, .int 0, .int 0, .int 0, .ref (b 19), .ref (b 20), .ref (b 21), .ref (b 22), .ref (b 23), .long 0, .long 0, .long 0, .ref (b 27), .ref (b 28), .ref (b 29), .long 0, .int 0, .int (-1), .int 0, .int 0, .int 0, .ref (b 36), .int 0, .int 0, .ref (b 39), .ref (b 40), .int 0, .ref (b 42), .ref (b 43), .int 0, .int 0, .int 0, .ref (b 47), .ref (b 48), .ref (b 49), .ref (b 50)]))] H := hP
  have hD : va_D A [((b 0), .inr (12, [.ref (b 1), .ref (b 2), .ref (b 3), .ref (b 4), .int 0, .int 0, .int 0, .int 0, .ref (b 9), .ref (b 10), .int 0, .ref (b 12), .int (-1), .int (-1), .int 0, .int 0, .int 0, .int 0, .ref (b 19), .ref (b 20), .ref (b 21), .ref (b 22), .ref (b 23), .long 0, .long 0, .long 0, .ref (b 27), .ref (b 28), .ref (b 29), .long 0, .int 0, .int (-1), .int 0, .int 0, .int 0, .ref (b 36), .int 0, .int 0, .ref (b 39), .ref (b 40), .int 0, .ref (b 42), .ref (b 43), .int 0, .int 0, .int 0, .ref (b 47), .ref (b 48), .ref (b 49), .ref (b 50)]))] := hD
  refine W.widen (k := 0) (n := 0) (Nat.le_of_ble_eq_true rfl) (Nat.le_of_ble_eq_true rfl) ?_
  refine lv_istore_n (lv' := [(1, .int 0), (0, .ref (b 0))]) hx hb dX12_either_4 rfl hl (by decide) rfl (fun ls hl => ?_)
  refine lv_aload_n hx hb dX12_either_5 rfl (lv_at hl 1 rfl) ?_
  refine lv_bipush (v := 124) hx hb dX12_either_6 (by decide) ?_
  refine go_i (rn_V (As := [.int 124]) (rest := []) hx hb hml hown hts hK (m_takes l J b 124) kV_RX12_189 hP rfl rfl rfl ⟨Nat.le_of_ble_eq_true rfl, Nat.le_of_ble_eq_true rfl⟩ rfl rfl rfl hl.1 rfl (Nat.le_of_ble_eq_true rfl) ⟨Nat.le_of_ble_eq_true rfl, Nat.le_of_ble_eq_true rfl⟩ dX12_either_8) ?_
  refine lv_if_eq (tgt := 36) hx hb dX12_either_11 (by decide) (fun _ => ?_) (fun c => absurd c (by decide))
  refine lv_iload_n hx hb dX12_either_36 rfl (lv_at hl 0 rfl) ?_
  exact wz_i () hx hb hr hlk (by decide) hP hD hS dX12_either_37
theorem dX12_workOut_0 : decode cX12_workOut 0 = .ok (.aload_n 0, 1) := by decide +kernel
theorem dX12_workOut_1 : decode cX12_workOut 1 = .ok (.iload_n 1, 1) := by decide +kernel
theorem q_1279 : Cond.fieldLink RX12 176 RX12 "base" "I" ∈ lw_g := mem_q 1279 (by decide +kernel) rfl
theorem dX12_workOut_2 : decode cX12_workOut 2 = .ok (.putfield 176, 3) := by decide +kernel
theorem dX12_workOut_5 : decode cX12_workOut 5 = .ok (.aload_n 0, 1) := by decide +kernel
theorem dX12_workOut_6 : decode cX12_workOut 6 = .ok (.iconst 0, 1) := by decide +kernel
theorem dX12_workOut_7 : decode cX12_workOut 7 = .ok (.putfield 170, 3) := by decide +kernel
theorem dX12_workOut_10 : decode cX12_workOut 10 = .ok (.aload_n 0, 1) := by decide +kernel
theorem dX12_workOut_11 : decode cX12_workOut 11 = .ok (.iload_n 2, 1) := by decide +kernel
theorem dX12_workOut_12 : decode cX12_workOut 12 = .ok (.putfield 173, 3) := by decide +kernel
theorem dX12_workOut_15 : decode cX12_workOut 15 = .ok (.aload_n 0, 1) := by decide +kernel
theorem dX12_workOut_16 : decode cX12_workOut 16 = .ok (.iconst (-1), 1) := by decide +kernel
theorem dX12_workOut_17 : decode cX12_workOut 17 = .ok (.putfield 179, 3) := by decide +kernel
theorem dX12_workOut_20 : decode cX12_workOut 20 = .ok (.aload_n 0, 1) := by decide +kernel
theorem dX12_workOut_21 : decode cX12_workOut 21 = .ok (.iconst 0, 1) := by decide +kernel
theorem q_1283 : Cond.fieldLink RX12 204 RX12 "opened" "I" ∈ lw_g := mem_q 1283 (by decide +kernel) rfl
theorem dX12_workOut_22 : decode cX12_workOut 22 = .ok (.putfield 204, 3) := by decide +kernel
theorem dX12_workOut_25 : decode cX12_workOut 25 = .ok (.iconst 0, 1) := by decide +kernel
theorem dX12_workOut_26 : decode cX12_workOut 26 = .ok (.istore_n 3, 1) := by decide +kernel
theorem dX12_workOut_27 : decode cX12_workOut 27 = .ok (.iconst 0, 1) := by decide +kernel
theorem dX12_workOut_28 : decode cX12_workOut 28 = .ok (.istore 4, 2) := by decide +kernel
theorem dX12_workOut_30 : decode cX12_workOut 30 = .ok (.iconst 1, 1) := by decide +kernel
theorem dX12_workOut_31 : decode cX12_workOut 31 = .ok (.istore 5, 2) := by decide +kernel
theorem dX12_workOut_33 : decode cX12_workOut 33 = .ok (.iload 5, 2) := by decide +kernel
theorem dX12_workOut_35 : decode cX12_workOut 35 = .ok (.ifCond .eq 72, 3) := by decide +kernel
theorem dX12_workOut_38 : decode cX12_workOut 38 = .ok (.aload_n 0, 1) := by decide +kernel
theorem q_1495 : Cond.methodLink RX12 210 yX12_either ∈ lw_g := mem_q 1495 (by decide +kernel) rfl
theorem q_1497 : Cond.instanceMethod yX12_either ∈ lw_g := mem_q 1497 (by decide +kernel) rfl
theorem q_56 : Cond.selects RX12 yX12_either yX12_either ∈ lw_g := mem_q 56 (by decide +kernel) rfl
theorem q_1498 : Cond.code yX12_either cX12_either 3 (some .int) ∈ lw_g := mem_q 1498 (by decide +kernel) rfl
theorem kV_RX12_210 : CV RX12 210 RX12 yX12_either cX12_either 3 (some .int) 0 := cv_of q_1495 q_1497 q_56 q_115 q_1498 (by decide +kernel)
theorem dX12_workOut_39 : decode cX12_workOut 39 = .ok (.invokevirtual 210, 3) := by decide +kernel
theorem dX12_workOut_42 : decode cX12_workOut 42 = .ok (.istore 6, 2) := by decide +kernel
theorem dX12_workOut_44 : decode cX12_workOut 44 = .ok (.iconst 1, 1) := by decide +kernel
theorem dX12_workOut_45 : decode cX12_workOut 45 = .ok (.istore 7, 2) := by decide +kernel
theorem dX12_workOut_47 : decode cX12_workOut 47 = .ok (.aload_n 0, 1) := by decide +kernel
theorem dX12_workOut_48 : decode cX12_workOut 48 = .ok (.bipush 63, 2) := by decide +kernel
theorem dX12_workOut_50 : decode cX12_workOut 50 = .ok (.invokevirtual 189, 3) := by decide +kernel
theorem dX12_workOut_53 : decode cX12_workOut 53 = .ok (.ifCond .eq 21, 3) := by decide +kernel
theorem dX12_workOut_74 : decode cX12_workOut 74 = .ok (.aload_n 0, 1) := by decide +kernel
theorem dX12_workOut_75 : decode cX12_workOut 75 = .ok (.getfield 179, 3) := by decide +kernel
theorem dX12_workOut_78 : decode cX12_workOut 78 = .ok (.ifCond .ge 18, 3) := by decide +kernel
theorem dX12_workOut_96 : decode cX12_workOut 96 = .ok (.aload_n 0, 1) := by decide +kernel
theorem dX12_workOut_97 : decode cX12_workOut 97 = .ok (.bipush 59, 2) := by decide +kernel
theorem dX12_workOut_99 : decode cX12_workOut 99 = .ok (.invokevirtual 189, 3) := by decide +kernel
theorem dX12_workOut_102 : decode cX12_workOut 102 = .ok (.istore 5, 2) := by decide +kernel
theorem dX12_workOut_104 : decode cX12_workOut 104 = .ok (.goto (-71), 3) := by decide +kernel
theorem dX12_workOut_107 : decode cX12_workOut 107 = .ok (.aload_n 0, 1) := by decide +kernel
theorem dX12_workOut_108 : decode cX12_workOut 108 = .ok (.getfield 179, 3) := by decide +kernel
theorem dX12_workOut_111 : decode cX12_workOut 111 = .ok (.ifCond .ge 19, 3) := by decide +kernel
theorem dX12_workOut_130 : decode cX12_workOut 130 = .ok (.iload 4, 2) := by decide +kernel
theorem dX12_workOut_132 : decode cX12_workOut 132 = .ok (.ireturn, 1) := by decide +kernel
set_option maxHeartbeats 4000000 in
set_option maxRecDepth 100000 in
theorem m_workOut (l : Launch) (J : va_J9) (sz : Nat) (b : Nat → Nat) : WC l J yX12_workOut cX12_workOut 8 (some .int) ({ frames := 7, cells := 0, slots := 0, locals := 157 }) [.ref (b 0), .int (-1), .int 0] [((b 0), .inr (12, [.ref (b 1), .ref (b 2), .ref (b 3), .ref (b 4), .int 0, .int 0, .int 0, .int 0, .ref (b 9), .ref (b 10), .int 0, .ref (b 12), .int (-1), .int 0, .int 0, .int 0, .int 0, .int 0, .ref (b 19), .ref (b 20), .ref (b 21), .ref (b 22), .ref (b 23), .long 0, .long 0, .long 0, .ref (b 27), .ref (b 28), .ref (b 29), .long 0, .int 0, .int (-1), .int 0, .int 0, .int 0, .ref (b 36), .int 0, .int 0, .ref (b 39), .ref (b 40), .int 0, .ref (b 42), .ref (b 43), .int 0, .int 0, .int 0, .ref (b 47), .ref (b 48), .ref (b 49), .ref (b 50)]))] sz (Qi J (fun (r : Int32) (_ : Unit) => r = 0) (fun (_ : Unit) => [((b 0), .inr (12, [.ref (b 1), .ref (b 2), .ref (b 3), .ref (b 4), .int 0, .int 0, .int 0, .int 0, .ref (b 9), .ref (b 10), .int 0, .ref (b 12), .int (-1), .int (-1), .int 0, .int 0, .int 0, .int 0, .ref (b 19), .ref (b 20), .ref (b 21), .ref (b 22), .ref (b 23), .long 0, .long 0, .long 0, .ref (b 27), .ref (b 28), .ref (b 29), .long 0, .int 0, .int (-1), .int 0, .int 0, .int 0, .ref (b 36), .int 0, .int 0, .ref (b 39), .ref (b 40), .int 0, .ref (b 42), .ref (b 43), .int 0, .int 0, .int 0, .ref (b 47), .ref (b 48), .ref (b 49), .ref (b 50)]))])) 0 0 := by
  refine wc_of (by decide) (Nat.le_of_ble_eq_true rfl) ?_
  intro p e s m below meth c ls A hE hl hP hK hD hS hA
  obtain ⟨hx, hb, hr, hml, hown, hts, hlk, hin⟩ := hE
  have hown : s.vm.findClass RX12 = some m.cls := hown
  have hl : lv_has ls 8 [(0, .ref (b 0)), (1, .int (-1)), (2, .int 0)] := hl
  refine lv_aload_n hx hb dX12_workOut_0 rfl (lv_at hl 0 rfl) ?_
  refine lv_iload_n hx hb dX12_workOut_1 rfl (lv_at hl 1 rfl) ?_
  refine va_put (D := J.1) (ci := 12) (v := .int (-1)) (ty := (.int)) (C := RX12) (T := TX12) (N := 50) hx hb hts inX12 tyX12 tyX12_ok nmX12 hown hK.1 hP hD hS 0 rfl rfl 13 (by decide) (hts _ q_1279) (fun _ h9 => h9) rfl (by decide +kernel) rfl rfl (Nat.le_of_ble_eq_true rfl) dX12_workOut_2 (fun H locs hP hD hS => ?_)
  have hP : va_P J.1 cls [((b 0), .inr (12, [.ref (b 1), .ref (b 2), .ref (b 3), .ref (b 4), .int 0, .int 0, .int 0, .int 0, .ref (b 9), .ref (b 10), .int 0, .ref (b 12), .int (-1), .int (-1), .int 0, .int 0, .int 0, .int 0, .ref (b 19), .ref (b 20), .ref (b 21), .ref (b 22), .ref (b 23), .long 0, .long 0, .long 0, .ref (b 27), .ref (b 28), .ref (b 29), .long 0, .int 0, .int (-1), .int 0, .int 0, .int 0, .ref (b 36), .int 0, .int 0, .ref (b 39), .ref (b 40), .int 0, .ref (b 42), .ref (b 43), .int 0, .int 0, .int 0, .ref (b 47), .ref (b 48), .ref (b 49), .ref (b 50)]))] H := hP
  have hD : va_D A [((b 0), .inr (12, [.ref (b 1), .ref (b 2), .ref (b 3), .ref (b 4), .int 0, .int 0, .int 0, .int 0, .ref (b 9), .ref (b 10), .int 0, .ref (b 12), .int (-1), .int (-1), .int 0, .int 0, .int 0, .int 0, .ref (b 19), .ref (b 20), .ref (b 21), .ref (b 22), .ref (b 23), .long 0, .long 0, .long 0, .ref (b 27), .ref (b 28), .ref (b 29), .long 0, .int 0, .int (-1), .int 0, .int 0, .int 0, .ref (b 36), .int 0, .int 0, .ref (b 39), .ref (b 40), .int 0, .ref (b 42), .ref (b 43), .int 0, .int 0, .int 0, .ref (b 47), .ref (b 48), .ref (b 49), .ref (b 50)]))] := hD
  refine lv_aload_n hx hb dX12_workOut_5 rfl (lv_at hl 0 rfl) ?_
  refine lv_iconst (v := 0) hx hb dX12_workOut_6 (by decide) ?_
  refine va_put (D := J.1) (ci := 12) (v := .int 0) (ty := (.int)) (C := RX12) (T := TX12) (N := 50) hx hb hts inX12 tyX12 tyX12_ok nmX12 hown hK.1 hP hD hS 0 rfl rfl 14 (by decide) (hts _ q_1280) (fun _ h9 => h9) rfl (by decide +kernel) rfl rfl (Nat.le_of_ble_eq_true rfl) dX12_workOut_7 (fun H locs hP hD hS => ?_)
  have hP : va_P J.1 cls [((b 0), .inr (12, [.ref (b 1), .ref (b 2), .ref (b 3), .ref (b 4), .int 0, .int 0, .int 0, .int 0, .ref (b 9), .ref (b 10), .int 0, .ref (b 12), .int (-1), .int (-1), .int 0, .int 0, .int 0, .int 0, .ref (b 19), .ref (b 20), .ref (b 21), .ref (b 22), .ref (b 23), .long 0, .long 0, .long 0, .ref (b 27), .ref (b 28), .ref (b 29), .long 0, .int 0, .int (-1), .int 0, .int 0, .int 0, .ref (b 36), .int 0, .int 0, .ref (b 39), .ref (b 40), .int 0, .ref (b 42), .ref (b 43), .int 0, .int 0, .int 0, .ref (b 47), .ref (b 48), .ref (b 49), .ref (b 50)]))] H := hP
  have hD : va_D A [((b 0), .inr (12, [.ref (b 1), .ref (b 2), .ref (b 3), .ref (b 4), .int 0, .int 0, .int 0, .int 0, .ref (b 9), .ref (b 10), .int 0, .ref (b 12), .int (-1), .int (-1), .int 0, .int 0, .int 0, .int 0, .ref (b 19), .ref (b 20), .ref (b 21), .ref (b 22), .ref (b 23), .long 0, .long 0, .long 0, .ref (b 27), .ref (b 28), .ref (b 29), .long 0, .int 0, .int (-1), .int 0, .int 0, .int 0, .ref (b 36), .int 0, .int 0, .ref (b 39), .ref (b 40), .int 0, .ref (b 42), .ref (b 43), .int 0, .int 0, .int 0, .ref (b 47), .ref (b 48), .ref (b 49), .ref (b 50)]))] := hD
  refine lv_aload_n hx hb dX12_workOut_10 rfl (lv_at hl 0 rfl) ?_
  refine lv_iload_n hx hb dX12_workOut_11 rfl (lv_at hl 2 rfl) ?_
  refine va_put (D := J.1) (ci := 12) (v := .int 0) (ty := (.int)) (C := RX12) (T := TX12) (N := 50) hx hb hts inX12 tyX12 tyX12_ok nmX12 hown hK.1 hP hD hS 0 rfl rfl 15 (by decide) (hts _ q_1281) (fun _ h9 => h9) rfl (by decide +kernel) rfl rfl (Nat.le_of_ble_eq_true rfl) dX12_workOut_12 (fun H locs hP hD hS => ?_)
  have hP : va_P J.1 cls [((b 0), .inr (12, [.ref (b 1), .ref (b 2), .ref (b 3), .ref (b 4), .int 0, .int 0, .int 0, .int 0, .ref (b 9), .ref (b 10), .int 0, .ref (b 12), .int (-1), .int (-1), .int 0, .int 0, .int 0, .int 0, .ref (b 19), .ref (b 20), .ref (b 21), .ref (b 22), .ref (b 23), .long 0, .long 0, .long 0, .ref (b 27), .ref (b 28), .ref (b 29), .long 0, .int 0, .int (-1), .int 0, .int 0, .int 0, .ref (b 36), .int 0, .int 0, .ref (b 39), .ref (b 40), .int 0, .ref (b 42), .ref (b 43), .int 0, .int 0, .int 0, .ref (b 47), .ref (b 48), .ref (b 49), .ref (b 50)]))] H := hP
  have hD : va_D A [((b 0), .inr (12, [.ref (b 1), .ref (b 2), .ref (b 3), .ref (b 4), .int 0, .int 0, .int 0, .int 0, .ref (b 9), .ref (b 10), .int 0, .ref (b 12), .int (-1), .int (-1), .int 0, .int 0, .int 0, .int 0, .ref (b 19), .ref (b 20), .ref (b 21), .ref (b 22), .ref (b 23), .long 0, .long 0, .long 0, .ref (b 27), .ref (b 28), .ref (b 29), .long 0, .int 0, .int (-1), .int 0, .int 0, .int 0, .ref (b 36), .int 0, .int 0, .ref (b 39), .ref (b 40), .int 0, .ref (b 42), .ref (b 43), .int 0, .int 0, .int 0, .ref (b 47), .ref (b 48), .ref (b 49), .ref (b 50)]))] := hD
  refine lv_aload_n hx hb dX12_workOut_15 rfl (lv_at hl 0 rfl) ?_
  refine lv_iconst (v := (-1)) hx hb dX12_workOut_16 (by decide) ?_
  refine va_put (D := J.1) (ci := 12) (v := .int (-1)) (ty := (.int)) (C := RX12) (T := TX12) (N := 50) hx hb hts inX12 tyX12 tyX12_ok nmX12 hown hK.1 hP hD hS 0 rfl rfl 16 (by decide) (hts _ q_1282) (fun _ h9 => h9) rfl (by decide +kernel) rfl rfl (Nat.le_of_ble_eq_true rfl) dX12_workOut_17 (fun H locs hP hD hS => ?_)
  have hP : va_P J.1 cls [((b 0), .inr (12, [.ref (b 1), .ref (b 2), .ref (b 3), .ref (b 4), .int 0, .int 0, .int 0, .int 0, .ref (b 9), .ref (b 10), .int 0, .ref (b 12), .int (-1), .int (-1), .int 0, .int 0, .int (-1), .int 0, .ref (b 19), .ref (b 20), .ref (b 21), .ref (b 22), .ref (b 23), .long 0, .long 0, .long 0, .ref (b 27), .ref (b 28), .ref (b 29), .long 0, .int 0, .int (-1), .int 0, .int 0, .int 0, .ref (b 36), .int 0, .int 0, .ref (b 39), .ref (b 40), .int 0, .ref (b 42), .ref (b 43), .int 0, .int 0, .int 0, .ref (b 47), .ref (b 48), .ref (b 49), .ref (b 50)]))] H := hP
  have hD : va_D A [((b 0), .inr (12, [.ref (b 1), .ref (b 2), .ref (b 3), .ref (b 4), .int 0, .int 0, .int 0, .int 0, .ref (b 9), .ref (b 10), .int 0, .ref (b 12), .int (-1), .int (-1), .int 0, .int 0, .int (-1), .int 0, .ref (b 19), .ref (b 20), .ref (b 21), .ref (b 22), .ref (b 23), .long 0, .long 0, .long 0, .ref (b 27), .ref (b 28), .ref (b 29), .long 0, .int 0, .int (-1), .int 0, .int 0, .int 0, .ref (b 36), .int 0, .int 0, .ref (b 39), .ref (b 40), .int 0, .ref (b 42), .ref (b 43), .int 0, .int 0, .int 0, .ref (b 47), .ref (b 48), .ref (b 49), .ref (b 50)]))] := hD
  refine lv_aload_n hx hb dX12_workOut_20 rfl (lv_at hl 0 rfl) ?_
  refine lv_iconst (v := 0) hx hb dX12_workOut_21 (by decide) ?_
  refine va_put (D := J.1) (ci := 12) (v := .int 0) (ty := (.int)) (C := RX12) (T := TX12) (N := 50) hx hb hts inX12 tyX12 tyX12_ok nmX12 hown hK.1 hP hD hS 0 rfl rfl 17 (by decide) (hts _ q_1283) (fun _ h9 => h9) rfl (by decide +kernel) rfl rfl (Nat.le_of_ble_eq_true rfl) dX12_workOut_22 (fun H locs hP hD hS => ?_)
  have hP : va_P J.1 cls [((b 0), .inr (12, [.ref (b 1), .ref (b 2), .ref (b 3), .ref (b 4), .int 0, .int 0, .int 0, .int 0, .ref (b 9), .ref (b 10), .int 0, .ref (b 12), .int (-1), .int (-1), .int 0, .int 0, .int (-1), .int 0, .ref (b 19), .ref (b 20), .ref (b 21), .ref (b 22), .ref (b 23), .long 0, .long 0, .long 0, .ref (b 27), .ref (b 28), .ref (b 29), .long 0, .int 0, .int (-1), .int 0, .int 0, .int 0, .ref (b 36), .int 0, .int 0, .ref (b 39), .ref (b 40), .int 0, .ref (b 42), .ref (b 43), .int 0, .int 0, .int 0, .ref (b 47), .ref (b 48), .ref (b 49), .ref (b 50)]))] H := hP
  have hD : va_D A [((b 0), .inr (12, [.ref (b 1), .ref (b 2), .ref (b 3), .ref (b 4), .int 0, .int 0, .int 0, .int 0, .ref (b 9), .ref (b 10), .int 0, .ref (b 12), .int (-1), .int (-1), .int 0, .int 0, .int (-1), .int 0, .ref (b 19), .ref (b 20), .ref (b 21), .ref (b 22), .ref (b 23), .long 0, .long 0, .long 0, .ref (b 27), .ref (b 28), .ref (b 29), .long 0, .int 0, .int (-1), .int 0, .int 0, .int 0, .ref (b 36), .int 0, .int 0, .ref (b 39), .ref (b 40), .int 0, .ref (b 42), .ref (b 43), .int 0, .int 0, .int 0, .ref (b 47), .ref (b 48), .ref (b 49), .ref (b 50)]))] := hD
  refine lv_iconst (v := 0) hx hb dX12_workOut_25 (by decide) ?_
  refine lv_istore_n (lv' := [(3, .int 0), (0, .ref (b 0)), (1, .int (-1)), (2, .int 0)]) hx hb dX12_workOut_26 rfl hl (by decide) rfl (fun ls hl => ?_)
  refine lv_iconst (v := 0) hx hb dX12_workOut_27 (by decide) ?_
  refine lv_istore (lv' := [(4, .int 0), (3, .int 0), (0, .ref (b 0)), (1, .int (-1)), (2, .int 0)]) hx hb dX12_workOut_28 hl (by decide) rfl (fun ls hl => ?_)
  refine lv_iconst (v := 1) hx hb dX12_workOut_30 (by decide) ?_
  refine lv_istore (lv' := [(5, .int 1), (4, .int 0), (3, .int 0), (0, .ref (b 0)), (1, .int (-1)), (2, .int 0)]) hx hb dX12_workOut_31 hl (by decide) rfl (fun ls hl => ?_)
  refine lv_iload hx hb dX12_workOut_33 (lv_at hl 0 rfl) ?_
  refine lv_if_eq (tgt := 107) hx hb dX12_workOut_35 (by decide) (fun c => absurd c (by decide)) (fun _ => ?_)
  refine lv_aload_n hx hb dX12_workOut_38 rfl (lv_at hl 3 rfl) ?_
  refine gw_i (wc := [((b 0), .inr (12, [.ref (b 1), .ref (b 2), .ref (b 3), .ref (b 4), .int 0, .int 0, .int 0, .int 0, .ref (b 9), .ref (b 10), .int 0, .ref (b 12), .int (-1), .int (-1), .int 0, .int 0, .int (-1), .int 0, .ref (b 19), .ref (b 20), .ref (b 21), .ref (b 22), .ref (b 23), .long 0, .long 0, .long 0, .ref (b 27), .ref (b 28), .ref (b 29), .long 0, .int 0, .int (-1), .int 0, .int 0, .int 0, .ref (b 36), .int 0, .int 0, .ref (b 39), .ref (b 40), .int 0, .ref (b 42), .ref (b 43), .int 0, .int 0, .int 0, .ref (b 47), .ref (b 48), .ref (b 49), .ref (b 50)]))]) (wr := []) hP hD hS hA [0] [] rfl rfl (by decide) (by decide) (wn_V (As := []) (rest := []) hx hb hml hown hts hK (m_either l J _ b) kV_RX12_210 hP ((hD.sub (ws' := [((b 0), .inr (12, [.ref (b 1), .ref (b 2), .ref (b 3), .ref (b 4), .int 0, .int 0, .int 0, .int 0, .ref (b 9), .ref (b 10), .int 0, .ref (b 12), .int (-1), .int (-1), .int 0, .int 0, .int (-1), .int 0, .ref (b 19), .ref (b 20), .ref (b 21), .ref (b 22), .ref (b 23), .long 0, .long 0, .long 0, .ref (b 27), .ref (b 28), .ref (b 29), .long 0, .int 0, .int (-1), .int 0, .int 0, .int 0, .ref (b 36), .int 0, .int 0, .ref (b 39), .ref (b 40), .int 0, .ref (b 42), .ref (b 43), .int 0, .int 0, .int 0, .ref (b 47), .ref (b 48), .ref (b 49), .ref (b 50)]))]) [0] (by decide) rfl).weaken (fun _ _ _ _ => trivial)) rfl rfl rfl ⟨Nat.le_of_ble_eq_true rfl, Nat.le_of_ble_eq_true rfl⟩ rfl rfl rfl hl.1 rfl (Nat.le_of_ble_eq_true rfl) ⟨Nat.le_of_ble_eq_true rfl, Nat.le_of_ble_eq_true rfl⟩ dX12_workOut_39) (fun r2 u1 H locs hw hP hD hS => ?_)
  subst hw
  have hP : va_P J.1 cls [((b 0), .inr (12, [.ref (b 1), .ref (b 2), .ref (b 3), .ref (b 4), .int 0, .int 0, .int 0, .int 0, .ref (b 9), .ref (b 10), .int 0, .ref (b 12), .int (-1), .int (-1), .int 0, .int 0, .int 0, .int 0, .ref (b 19), .ref (b 20), .ref (b 21), .ref (b 22), .ref (b 23), .long 0, .long 0, .long 0, .ref (b 27), .ref (b 28), .ref (b 29), .long 0, .int 0, .int (-1), .int 0, .int 0, .int 0, .ref (b 36), .int 0, .int 0, .ref (b 39), .ref (b 40), .int 0, .ref (b 42), .ref (b 43), .int 0, .int 0, .int 0, .ref (b 47), .ref (b 48), .ref (b 49), .ref (b 50)]))] H := hP
  have hD : va_D A [((b 0), .inr (12, [.ref (b 1), .ref (b 2), .ref (b 3), .ref (b 4), .int 0, .int 0, .int 0, .int 0, .ref (b 9), .ref (b 10), .int 0, .ref (b 12), .int (-1), .int (-1), .int 0, .int 0, .int 0, .int 0, .ref (b 19), .ref (b 20), .ref (b 21), .ref (b 22), .ref (b 23), .long 0, .long 0, .long 0, .ref (b 27), .ref (b 28), .ref (b 29), .long 0, .int 0, .int (-1), .int 0, .int 0, .int 0, .ref (b 36), .int 0, .int 0, .ref (b 39), .ref (b 40), .int 0, .ref (b 42), .ref (b 43), .int 0, .int 0, .int 0, .ref (b 47), .ref (b 48), .ref (b 49), .ref (b 50)]))] := hD
  refine W.widen (k := 0) (n := 0) (Nat.le_of_ble_eq_true rfl) (Nat.le_of_ble_eq_true rfl) ?_
  refine lv_istore (lv' := [(6, .int 0), (5, .int 1), (4, .int 0), (3, .int 0), (0, .ref (b 0)), (1, .int (-1)), (2, .int 0)]) hx hb dX12_workOut_42 hl (by decide) rfl (fun ls hl => ?_)
  refine lv_iconst (v := 1) hx hb dX12_workOut_44 (by decide) ?_
  refine lv_istore (lv' := [(7, .int 1), (6, .int 0), (5, .int 1), (4, .int 0), (3, .int 0), (0, .ref (b 0)), (1, .int (-1)), (2, .int 0)]) hx hb dX12_workOut_45 hl (by decide) rfl (fun ls hl => ?_)
  refine lv_aload_n hx hb dX12_workOut_47 rfl (lv_at hl 5 rfl) ?_
  refine lv_bipush (v := 63) hx hb dX12_workOut_48 (by decide) ?_
  refine go_i (rn_V (As := [.int 63]) (rest := []) hx hb hml hown hts hK (m_takes l J b 63) kV_RX12_189 hP rfl rfl rfl ⟨Nat.le_of_ble_eq_true rfl, Nat.le_of_ble_eq_true rfl⟩ rfl rfl rfl hl.1 rfl (Nat.le_of_ble_eq_true rfl) ⟨Nat.le_of_ble_eq_true rfl, Nat.le_of_ble_eq_true rfl⟩ dX12_workOut_50) ?_
  refine lv_if_eq (tgt := 74) hx hb dX12_workOut_53 (by decide) (fun _ => ?_) (fun c => absurd c (by decide))
  refine lv_aload_n hx hb dX12_workOut_74 rfl (lv_at hl 5 rfl) ?_
  refine va_get (D := J.1) (ci := 12) (v := .int 0) (C := RX12) (T := TX12) (N := 50) hx hb hts inX12 hown hK.1 hP 0 rfl rfl 16 (by decide) (hts _ q_1282) (fun _ h9 => h9) rfl dX12_workOut_75 ?_
  refine lv_if_ge (tgt := 96) hx hb dX12_workOut_78 (by decide) (fun _ => ?_) (fun c => absurd c (by decide))
  refine lv_aload_n hx hb dX12_workOut_96 rfl (lv_at hl 5 rfl) ?_
  refine lv_bipush (v := 59) hx hb dX12_workOut_97 (by decide) ?_
  refine go_i (rn_V (As := [.int 59]) (rest := []) hx hb hml hown hts hK (m_takes l J b 59) kV_RX12_189 hP rfl rfl rfl ⟨Nat.le_of_ble_eq_true rfl, Nat.le_of_ble_eq_true rfl⟩ rfl rfl rfl hl.1 rfl (Nat.le_of_ble_eq_true rfl) ⟨Nat.le_of_ble_eq_true rfl, Nat.le_of_ble_eq_true rfl⟩ dX12_workOut_99) ?_
  refine lv_istore (lv' := [(5, .int 0), (7, .int 1), (6, .int 0), (4, .int 0), (3, .int 0), (0, .ref (b 0)), (1, .int (-1)), (2, .int 0)]) hx hb dX12_workOut_102 hl (by decide) rfl (fun ls hl => ?_)
  refine lv_goto (tgt := 33) hx hb dX12_workOut_104 (by decide) ?_
  refine lv_iload hx hb dX12_workOut_33 (lv_at hl 0 rfl) ?_
  refine lv_if_eq (tgt := 107) hx hb dX12_workOut_35 (by decide) (fun _ => ?_) (fun c => absurd c (by decide))
  refine lv_aload_n hx hb dX12_workOut_107 rfl (lv_at hl 5 rfl) ?_
  refine va_get (D := J.1) (ci := 12) (v := .int 0) (C := RX12) (T := TX12) (N := 50) hx hb hts inX12 hown hK.1 hP 0 rfl rfl 16 (by decide) (hts _ q_1282) (fun _ h9 => h9) rfl dX12_workOut_108 ?_
  refine lv_if_ge (tgt := 130) hx hb dX12_workOut_111 (by decide) (fun _ => ?_) (fun c => absurd c (by decide))
  refine lv_iload hx hb dX12_workOut_130 (lv_at hl 3 rfl) ?_
  exact wz_i () hx hb hr hlk (by decide) hP hD hS dX12_workOut_132
theorem dX12_law_0 : decode cX12_law 0 = .ok (.aload_n 0, 1) := by decide +kernel
theorem dX12_law_1 : decode cX12_law 1 = .ok (.iconst (-1), 1) := by decide +kernel
theorem dX12_law_2 : decode cX12_law 2 = .ok (.aload_n 0, 1) := by decide +kernel
theorem dX12_law_3 : decode cX12_law 3 = .ok (.getfield 167, 3) := by decide +kernel
theorem q_1491 : Cond.methodLink RX12 216 yX12_workOut ∈ lw_g := mem_q 1491 (by decide +kernel) rfl
theorem q_1493 : Cond.instanceMethod yX12_workOut ∈ lw_g := mem_q 1493 (by decide +kernel) rfl
theorem q_55 : Cond.selects RX12 yX12_workOut yX12_workOut ∈ lw_g := mem_q 55 (by decide +kernel) rfl
theorem q_1494 : Cond.code yX12_workOut cX12_workOut 8 (some .int) ∈ lw_g := mem_q 1494 (by decide +kernel) rfl
theorem kV_RX12_216 : CV RX12 216 RX12 yX12_workOut cX12_workOut 8 (some .int) 2 := cv_of q_1491 q_1493 q_55 q_115 q_1494 (by decide +kernel)
theorem dX12_law_6 : decode cX12_law 6 = .ok (.invokevirtual 216, 3) := by decide +kernel
theorem dX12_law_9 : decode cX12_law 9 = .ok (.istore_n 1, 1) := by decide +kernel
theorem dX12_law_10 : decode cX12_law 10 = .ok (.aload_n 0, 1) := by decide +kernel
theorem dX12_law_11 : decode cX12_law 11 = .ok (.getfield 167, 3) := by decide +kernel
theorem dX12_law_14 : decode cX12_law 14 = .ok (.istore_n 2, 1) := by decide +kernel
theorem dX12_law_15 : decode cX12_law 15 = .ok (.aload_n 0, 1) := by decide +kernel
theorem dX12_law_16 : decode cX12_law 16 = .ok (.iconst 0, 1) := by decide +kernel
theorem dX12_law_17 : decode cX12_law 17 = .ok (.putfield 167, 3) := by decide +kernel
theorem dX12_law_20 : decode cX12_law 20 = .ok (.aload_n 0, 1) := by decide +kernel
theorem dX12_law_21 : decode cX12_law 21 = .ok (.getfield 179, 3) := by decide +kernel
theorem dX12_law_24 : decode cX12_law 24 = .ok (.ifCond .lt 11, 3) := by decide +kernel
theorem dX12_law_27 : decode cX12_law 27 = .ok (.bipush (-100), 2) := by decide +kernel
theorem dX12_law_29 : decode cX12_law 29 = .ok (.aload_n 0, 1) := by decide +kernel
theorem dX12_law_30 : decode cX12_law 30 = .ok (.getfield 179, 3) := by decide +kernel
theorem dX12_law_33 : decode cX12_law 33 = .ok (.isub, 1) := by decide +kernel
theorem dX12_law_34 : decode cX12_law 34 = .ok (.ireturn, 1) := by decide +kernel
set_option maxHeartbeats 4000000 in
set_option maxRecDepth 100000 in
theorem m_law (l : Launch) (J : va_J9) (sz : Nat) (b : Nat → Nat) : WC l J yX12_law cX12_law 4 (some .int) ({ frames := 8, cells := 0, slots := 0, locals := 184 }) [.ref (b 0)] [((b 0), .inr (12, [.ref (b 1), .ref (b 2), .ref (b 3), .ref (b 4), .int 0, .int 0, .int 0, .int 0, .ref (b 9), .ref (b 10), .int 0, .ref (b 12), .int (-1), .int 0, .int 0, .int 0, .int 0, .int 0, .ref (b 19), .ref (b 20), .ref (b 21), .ref (b 22), .ref (b 23), .long 0, .long 0, .long 0, .ref (b 27), .ref (b 28), .ref (b 29), .long 0, .int 0, .int (-1), .int 0, .int 0, .int 0, .ref (b 36), .int 0, .int 0, .ref (b 39), .ref (b 40), .int 0, .ref (b 42), .ref (b 43), .int 0, .int 0, .int 0, .ref (b 47), .ref (b 48), .ref (b 49), .ref (b 50)]))] sz (Qi J (fun (r : Int32) (_ : Unit) => r = (-100)) (fun (_ : Unit) => [])) 0 0 := by
  refine wc_of (by decide) (Nat.le_of_ble_eq_true rfl) ?_
  intro p e s m below meth c ls A hE hl hP hK hD hS hA
  obtain ⟨hx, hb, hr, hml, hown, hts, hlk, hin⟩ := hE
  have hown : s.vm.findClass RX12 = some m.cls := hown
  have hl : lv_has ls 4 [(0, .ref (b 0))] := hl
  refine lv_aload_n hx hb dX12_law_0 rfl (lv_at hl 0 rfl) ?_
  refine lv_iconst (v := (-1)) hx hb dX12_law_1 (by decide) ?_
  refine lv_aload_n hx hb dX12_law_2 rfl (lv_at hl 0 rfl) ?_
  refine va_get (D := J.1) (ci := 12) (v := .int 0) (C := RX12) (T := TX12) (N := 50) hx hb hts inX12 hown hK.1 hP 0 rfl rfl 10 (by decide) (hts _ q_1276) (fun _ h9 => h9) rfl dX12_law_3 ?_
  refine gw_i (wc := [((b 0), .inr (12, [.ref (b 1), .ref (b 2), .ref (b 3), .ref (b 4), .int 0, .int 0, .int 0, .int 0, .ref (b 9), .ref (b 10), .int 0, .ref (b 12), .int (-1), .int 0, .int 0, .int 0, .int 0, .int 0, .ref (b 19), .ref (b 20), .ref (b 21), .ref (b 22), .ref (b 23), .long 0, .long 0, .long 0, .ref (b 27), .ref (b 28), .ref (b 29), .long 0, .int 0, .int (-1), .int 0, .int 0, .int 0, .ref (b 36), .int 0, .int 0, .ref (b 39), .ref (b 40), .int 0, .ref (b 42), .ref (b 43), .int 0, .int 0, .int 0, .ref (b 47), .ref (b 48), .ref (b 49), .ref (b 50)]))]) (wr := []) hP hD hS hA [0] [] rfl rfl (by decide) (by decide) (wn_V (As := [.int (-1), .int 0]) (rest := []) hx hb hml hown hts hK (m_workOut l J _ b) kV_RX12_216 hP ((hD.sub (ws' := [((b 0), .inr (12, [.ref (b 1), .ref (b 2), .ref (b 3), .ref (b 4), .int 0, .int 0, .int 0, .int 0, .ref (b 9), .ref (b 10), .int 0, .ref (b 12), .int (-1), .int 0, .int 0, .int 0, .int 0, .int 0, .ref (b 19), .ref (b 20), .ref (b 21), .ref (b 22), .ref (b 23), .long 0, .long 0, .long 0, .ref (b 27), .ref (b 28), .ref (b 29), .long 0, .int 0, .int (-1), .int 0, .int 0, .int 0, .ref (b 36), .int 0, .int 0, .ref (b 39), .ref (b 40), .int 0, .ref (b 42), .ref (b 43), .int 0, .int 0, .int 0, .ref (b 47), .ref (b 48), .ref (b 49), .ref (b 50)]))]) [0] (by decide) rfl).weaken (fun _ _ _ _ => trivial)) rfl rfl rfl ⟨Nat.le_of_ble_eq_true rfl, Nat.le_of_ble_eq_true rfl⟩ rfl rfl rfl hl.1 rfl (Nat.le_of_ble_eq_true rfl) ⟨Nat.le_of_ble_eq_true rfl, Nat.le_of_ble_eq_true rfl⟩ dX12_law_6) (fun r2 u1 H locs hw hP hD hS => ?_)
  subst hw
  have hP : va_P J.1 cls [((b 0), .inr (12, [.ref (b 1), .ref (b 2), .ref (b 3), .ref (b 4), .int 0, .int 0, .int 0, .int 0, .ref (b 9), .ref (b 10), .int 0, .ref (b 12), .int (-1), .int (-1), .int 0, .int 0, .int 0, .int 0, .ref (b 19), .ref (b 20), .ref (b 21), .ref (b 22), .ref (b 23), .long 0, .long 0, .long 0, .ref (b 27), .ref (b 28), .ref (b 29), .long 0, .int 0, .int (-1), .int 0, .int 0, .int 0, .ref (b 36), .int 0, .int 0, .ref (b 39), .ref (b 40), .int 0, .ref (b 42), .ref (b 43), .int 0, .int 0, .int 0, .ref (b 47), .ref (b 48), .ref (b 49), .ref (b 50)]))] H := hP
  have hD : va_D A [((b 0), .inr (12, [.ref (b 1), .ref (b 2), .ref (b 3), .ref (b 4), .int 0, .int 0, .int 0, .int 0, .ref (b 9), .ref (b 10), .int 0, .ref (b 12), .int (-1), .int (-1), .int 0, .int 0, .int 0, .int 0, .ref (b 19), .ref (b 20), .ref (b 21), .ref (b 22), .ref (b 23), .long 0, .long 0, .long 0, .ref (b 27), .ref (b 28), .ref (b 29), .long 0, .int 0, .int (-1), .int 0, .int 0, .int 0, .ref (b 36), .int 0, .int 0, .ref (b 39), .ref (b 40), .int 0, .ref (b 42), .ref (b 43), .int 0, .int 0, .int 0, .ref (b 47), .ref (b 48), .ref (b 49), .ref (b 50)]))] := hD
  refine W.widen (k := 0) (n := 0) (Nat.le_of_ble_eq_true rfl) (Nat.le_of_ble_eq_true rfl) ?_
  refine lv_istore_n (lv' := [(1, .int 0), (0, .ref (b 0))]) hx hb dX12_law_9 rfl hl (by decide) rfl (fun ls hl => ?_)
  refine lv_aload_n hx hb dX12_law_10 rfl (lv_at hl 1 rfl) ?_
  refine va_get (D := J.1) (ci := 12) (v := .int 0) (C := RX12) (T := TX12) (N := 50) hx hb hts inX12 hown hK.1 hP 0 rfl rfl 10 (by decide) (hts _ q_1276) (fun _ h9 => h9) rfl dX12_law_11 ?_
  refine lv_istore_n (lv' := [(2, .int 0), (1, .int 0), (0, .ref (b 0))]) hx hb dX12_law_14 rfl hl (by decide) rfl (fun ls hl => ?_)
  refine lv_aload_n hx hb dX12_law_15 rfl (lv_at hl 2 rfl) ?_
  refine lv_iconst (v := 0) hx hb dX12_law_16 (by decide) ?_
  refine va_put (D := J.1) (ci := 12) (v := .int 0) (ty := (.int)) (C := RX12) (T := TX12) (N := 50) hx hb hts inX12 tyX12 tyX12_ok nmX12 hown hK.1 hP hD hS 0 rfl rfl 10 (by decide) (hts _ q_1276) (fun _ h9 => h9) rfl (by decide +kernel) rfl rfl (Nat.le_of_ble_eq_true rfl) dX12_law_17 (fun H locs hP hD hS => ?_)
  have hP : va_P J.1 cls [((b 0), .inr (12, [.ref (b 1), .ref (b 2), .ref (b 3), .ref (b 4), .int 0, .int 0, .int 0, .int 0, .ref (b 9), .ref (b 10), .int 0, .ref (b 12), .int (-1), .int (-1), .int 0, .int 0, .int 0, .int 0, .ref (b 19), .ref (b 20), .ref (b 21), .ref (b 22), .ref (b 23), .long 0, .long 0, .long 0, .ref (b 27), .ref (b 28), .ref (b 29), .long 0, .int 0, .int (-1), .int 0, .int 0, .int 0, .ref (b 36), .int 0, .int 0, .ref (b 39), .ref (b 40), .int 0, .ref (b 42), .ref (b 43), .int 0, .int 0, .int 0, .ref (b 47), .ref (b 48), .ref (b 49), .ref (b 50)]))] H := hP
  have hD : va_D A [((b 0), .inr (12, [.ref (b 1), .ref (b 2), .ref (b 3), .ref (b 4), .int 0, .int 0, .int 0, .int 0, .ref (b 9), .ref (b 10), .int 0, .ref (b 12), .int (-1), .int (-1), .int 0, .int 0, .int 0, .int 0, .ref (b 19), .ref (b 20), .ref (b 21), .ref (b 22), .ref (b 23), .long 0, .long 0, .long 0, .ref (b 27), .ref (b 28), .ref (b 29), .long 0, .int 0, .int (-1), .int 0, .int 0, .int 0, .ref (b 36), .int 0, .int 0, .ref (b 39), .ref (b 40), .int 0, .ref (b 42), .ref (b 43), .int 0, .int 0, .int 0, .ref (b 47), .ref (b 48), .ref (b 49), .ref (b 50)]))] := hD
  refine lv_aload_n hx hb dX12_law_20 rfl (lv_at hl 2 rfl) ?_
  refine va_get (D := J.1) (ci := 12) (v := .int 0) (C := RX12) (T := TX12) (N := 50) hx hb hts inX12 hown hK.1 hP 0 rfl rfl 16 (by decide) (hts _ q_1282) (fun _ h9 => h9) rfl dX12_law_21 ?_
  refine lv_if_lt (tgt := 35) hx hb dX12_law_24 (by decide) (fun c => absurd c (by decide)) (fun _ => ?_)
  refine lv_bipush (v := (-100)) hx hb dX12_law_27 (by decide) ?_
  refine lv_aload_n hx hb dX12_law_29 rfl (lv_at hl 2 rfl) ?_
  refine va_get (D := J.1) (ci := 12) (v := .int 0) (C := RX12) (T := TX12) (N := 50) hx hb hts inX12 hown hK.1 hP 0 rfl rfl 16 (by decide) (hts _ q_1282) (fun _ h9 => h9) rfl dX12_law_30 ?_
  refine lv_isub hx hb dX12_law_33 ?_
  refine top_i (y := (-100)) (by decide) ?_
  exact wz_i () hx hb hr hlk (by decide) (hP.sub (ws' := []) [] rfl) (hD.sub (ws' := []) [] (by decide) rfl) hS dX12_law_34
