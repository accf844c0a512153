theorem dX7_worth_0 : decode cX7_worth 0 = .ok (.aload_n 0, 1) := by decide +kernel
theorem q_141 : Cond.fieldLink RX7 47 RX7 "codeSize" "I" ∈ lw_g := mem_q 141 (by decide +kernel) rfl
theorem dX7_worth_1 : decode cX7_worth 1 = .ok (.getfield 47, 3) := by decide +kernel
theorem dX7_worth_4 : decode cX7_worth 4 = .ok (.ifCond .ne 5, 3) := by decide +kernel
theorem dX7_worth_7 : decode cX7_worth 7 = .ok (.iload_n 3, 1) := by decide +kernel
theorem dX7_worth_8 : decode cX7_worth 8 = .ok (.ireturn, 1) := by decide +kernel
set_option maxHeartbeats 4000000 in
set_option maxRecDepth 100000 in
theorem cL_worth (l : Launch) (J : va_J9) (t : Nat) (ta : Nat) (dr : Nat) (co : Nat) (sk : Nat) (x : Int32) (y : Int32) (jn : Int32) (we : Int32) (n : Int32) : RC l J yX7_worth cX7_worth 9 (some .int) ({ frames := 0, cells := 0, slots := 0, locals := 0 }) [.ref t, .int x, .int y, .int jn, .int we, .int n] [(t, .inr (7, [.ref ta, .int 0, .ref dr, .int 0, .int 0, .int 0, .ref co, .int 0, .ref sk, .int 0]))] (vp_Si (fun r => r = jn)) := by
  refine rc_of (by decide) (Nat.le_of_ble_eq_true rfl) ?_
  intro p e s m below meth c ls hE hl hP hK
  obtain ⟨hx, hb, hr, hml, hown, hts, hlk, hin⟩ := hE
  have hown : s.vm.findClass RX7 = some m.cls := hown
  have hl : lv_has ls 9 [(0, .ref t), (1, .int x), (2, .int y), (3, .int jn), (4, .int we), (5, .int n)] := hl
  have rg_x := i_rng x
  have rg_y := i_rng y
  have rg_jn := i_rng jn
  have rg_we := i_rng we
  have rg_n := i_rng n
  refine lv_aload_n hx hb dX7_worth_0 rfl (lv_at hl 0 rfl) ?_
  refine va_get (D := J.1) (ci := 7) (v := .int 0) (C := RX7) (T := TX7) (N := 10) hx hb hts inX7 hown hK.1 hP 0 rfl rfl 7 (by decide) (hts _ q_141) (fun _ h9 => h9) rfl dX7_worth_1 ?_
  refine lv_if_ne (tgt := 9) hx hb dX7_worth_4 (by decide) (fun c => absurd c (by decide)) (fun _ => ?_)
  refine lv_iload_n hx hb dX7_worth_7 rfl (lv_at hl 3 rfl) ?_
  exact rz_i hx hb hr hlk rfl dX7_worth_8
theorem dX7_write_0 : decode cX7_write 0 = .ok (.aload_n 0, 1) := by decide +kernel
theorem q_134 : Cond.fieldLink RX7 24 RX7 "tapeSize" "I" ∈ lw_g := mem_q 134 (by decide +kernel) rfl
theorem dX7_write_1 : decode cX7_write 1 = .ok (.getfield 24, 3) := by decide +kernel
theorem dX7_write_4 : decode cX7_write 4 = .ok (.bipush 120, 2) := by decide +kernel
theorem dX7_write_6 : decode cX7_write 6 = .ok (.if_icmp .lt 6, 3) := by decide +kernel
theorem dX7_write_12 : decode cX7_write 12 = .ok (.aload_n 0, 1) := by decide +kernel
theorem q_133 : Cond.fieldLink RX7 11 RX7 "tape" "[I" ∈ lw_g := mem_q 133 (by decide +kernel) rfl
theorem dX7_write_13 : decode cX7_write 13 = .ok (.getfield 11, 3) := by decide +kernel
theorem dX7_write_16 : decode cX7_write 16 = .ok (.aload_n 0, 1) := by decide +kernel
theorem dX7_write_17 : decode cX7_write 17 = .ok (.dup, 1) := by decide +kernel
theorem dX7_write_18 : decode cX7_write 18 = .ok (.getfield 24, 3) := by decide +kernel
theorem dX7_write_21 : decode cX7_write 21 = .ok (.dup_x1, 1) := by decide +kernel
theorem dX7_write_22 : decode cX7_write 22 = .ok (.iconst 1, 1) := by decide +kernel
theorem dX7_write_23 : decode cX7_write 23 = .ok (.iadd, 1) := by decide +kernel
theorem dX7_write_24 : decode cX7_write 24 = .ok (.putfield 24, 3) := by decide +kernel
theorem dX7_write_27 : decode cX7_write 27 = .ok (.iload_n 1, 1) := by decide +kernel
theorem dX7_write_28 : decode cX7_write 28 = .ok (.iastore, 1) := by decide +kernel
theorem dX7_write_29 : decode cX7_write 29 = .ok (.aload_n 0, 1) := by decide +kernel
theorem dX7_write_30 : decode cX7_write 30 = .ok (.getfield 24, 3) := by decide +kernel
theorem dX7_write_33 : decode cX7_write 33 = .ok (.ireturn, 1) := by decide +kernel
set_option maxHeartbeats 4000000 in
set_option maxRecDepth 100000 in
theorem cL_write (l : Launch) (J : va_J9) (sz : Nat) (t : Nat) (ta : Nat) (dr : Nat) (co : Nat) (sk : Nat) (x : Int32) : WC l J yX7_write cX7_write 2 (some .int) ({ frames := 0, cells := 0, slots := 0, locals := 0 }) [.ref t, .int x] [(t, .inr (7, [.ref ta, .int 0, .ref dr, .int 0, .int 0, .int 0, .ref co, .int 0, .ref sk, .int 0])), (ta, .inl (J.2.1, 120, .inl (fun _ => 0)))] sz (Qi J (fun (r : Int32) (_ : Unit) => r = 1) (fun (_ : Unit) => [])) 0 0 := by
  refine wc_of (by decide) (Nat.le_of_ble_eq_true rfl) ?_
  intro p e s m below meth c ls A hE hl hP hK hD hS hA
  obtain ⟨hx, hb, hr, hml, hown, hts, hlk, hin⟩ := hE
  have hown : s.vm.findClass RX7 = some m.cls := hown
  have hl : lv_has ls 2 [(0, .ref t), (1, .int x)] := hl
  have rg_x := i_rng x
  refine lv_aload_n hx hb dX7_write_0 rfl (lv_at hl 0 rfl) ?_
  refine va_get (D := J.1) (ci := 7) (v := .int 0) (C := RX7) (T := TX7) (N := 10) hx hb hts inX7 hown hK.1 hP 0 rfl rfl 1 (by decide) (hts _ q_134) (fun _ h9 => h9) rfl dX7_write_1 ?_
  refine lv_bipush (v := 120) hx hb dX7_write_4 (by decide) ?_
  refine lv_icmp_lt (tgt := 12) hx hb dX7_write_6 (by decide) (fun _ => ?_) (fun c => absurd c (by decide))
  refine lv_aload_n hx hb dX7_write_12 rfl (lv_at hl 0 rfl) ?_
  refine va_get (D := J.1) (ci := 7) (v := .ref ta) (C := RX7) (T := TX7) (N := 10) hx hb hts inX7 hown hK.1 hP 0 rfl rfl 0 (by decide) (hts _ q_133) (fun _ h9 => h9) rfl dX7_write_13 ?_
  refine lv_aload_n hx hb dX7_write_16 rfl (lv_at hl 0 rfl) ?_
  refine lv_dup hx hb dX7_write_17 rfl ?_
  refine va_get (D := J.1) (ci := 7) (v := .int 0) (C := RX7) (T := TX7) (N := 10) hx hb hts inX7 hown hK.1 hP 0 rfl rfl 1 (by decide) (hts _ q_134) (fun _ h9 => h9) rfl dX7_write_18 ?_
  refine lv_dup_x1 hx hb dX7_write_21 rfl rfl ?_
  refine lv_iconst (v := 1) hx hb dX7_write_22 (by decide) ?_
  refine lv_iadd hx hb dX7_write_23 ?_
  refine top_i (y := 1) (by decide) ?_
  refine va_put (D := J.1) (ci := 7) (v := .int 1) (ty := (.int)) (C := RX7) (T := TX7) (N := 10) hx hb hts inX7 tyX7 tyX7_ok nmX7 hown hK.1 hP hD hS 0 rfl rfl 1 (by decide) (hts _ q_134) (fun _ h9 => h9) rfl (by decide +kernel) rfl rfl (Nat.le_of_ble_eq_true rfl) dX7_write_24 (fun H locs hP hD hS => ?_)
  have hP : va_P J.1 cls [(t, .inr (7, [.ref ta, .int 1, .ref dr, .int 0, .int 0, .int 0, .ref co, .int 0, .ref sk, .int 0])), (ta, .inl (J.2.1, 120, .inl (fun _ => 0)))] H := hP
  have hD : va_D A [(t, .inr (7, [.ref ta, .int 1, .ref dr, .int 0, .int 0, .int 0, .ref co, .int 0, .ref sk, .int 0])), (ta, .inl (J.2.1, 120, .inl (fun _ => 0)))] := hD
  refine lv_iload_n hx hb dX7_write_27 rfl (lv_at hl 1 rfl) ?_
  have h1 : vp_in 0 120 := (i_in (a := 0) (by decide) (by omega) (by omega))
  refine va_iast hx hb hK.1 hP hD hS 1 0 rfl rfl h1 dX7_write_28 (fun H locs hP hD hS => ?_)
  have hP : va_P J.1 cls [(t, .inr (7, [.ref ta, .int 1, .ref dr, .int 0, .int 0, .int 0, .ref co, .int 0, .ref sk, .int 0])), (ta, .inl (J.2.1, 120, .inl (upd (fun _ => 0) (0 : Int32).toNatClampNeg x)))] H := hP
  have hD : va_D A [(t, .inr (7, [.ref ta, .int 1, .ref dr, .int 0, .int 0, .int 0, .ref co, .int 0, .ref sk, .int 0])), (ta, .inl (J.2.1, 120, .inl (upd (fun _ => 0) (0 : Int32).toNatClampNeg x)))] := hD
  refine lv_aload_n hx hb dX7_write_29 rfl (lv_at hl 0 rfl) ?_
  refine va_get (D := J.1) (ci := 7) (v := .int 1) (C := RX7) (T := TX7) (N := 10) hx hb hts inX7 hown hK.1 hP 0 rfl rfl 1 (by decide) (hts _ q_134) (fun _ h9 => h9) rfl dX7_write_30 ?_
  exact wz_i () hx hb hr hlk (by decide) (hP.sub (ws' := []) [] rfl) (hD.sub (ws' := []) [] (by decide) rfl) hS dX7_write_33
theorem dX7_here_0 : decode cX7_here 0 = .ok (.aload_n 0, 1) := by decide +kernel
theorem q_138 : Cond.fieldLink RX7 28 RX7 "place" "I" ∈ lw_g := mem_q 138 (by decide +kernel) rfl
theorem dX7_here_1 : decode cX7_here 1 = .ok (.getfield 28, 3) := by decide +kernel
theorem dX7_here_4 : decode cX7_here 4 = .ok (.ifCond .lt 26, 3) := by decide +kernel
theorem dX7_here_7 : decode cX7_here 7 = .ok (.aload_n 0, 1) := by decide +kernel
theorem dX7_here_8 : decode cX7_here 8 = .ok (.getfield 28, 3) := by decide +kernel
theorem dX7_here_11 : decode cX7_here 11 = .ok (.aload_n 0, 1) := by decide +kernel
theorem dX7_here_12 : decode cX7_here 12 = .ok (.getfield 24, 3) := by decide +kernel
theorem dX7_here_15 : decode cX7_here 15 = .ok (.if_icmp .ge 15, 3) := by decide +kernel
theorem dX7_here_30 : decode cX7_here 30 = .ok (.iconst (-1), 1) := by decide +kernel
theorem dX7_here_31 : decode cX7_here 31 = .ok (.ireturn, 1) := by decide +kernel
set_option maxHeartbeats 4000000 in
set_option maxRecDepth 100000 in
theorem cL_here (l : Launch) (J : va_J9) (t : Nat) (ta : Nat) (dr : Nat) (co : Nat) (sk : Nat) (ds : Int32) (fa : Int32) : RC l J yX7_here cX7_here 1 (some .int) ({ frames := 0, cells := 0, slots := 0, locals := 0 }) [.ref t] [(t, .inr (7, [.ref ta, .int 0, .ref dr, .int ds, .int 0, .int fa, .ref co, .int 0, .ref sk, .int 0]))] (vp_Si (fun r => r = (-1))) := by
  refine rc_of (by decide) (Nat.le_of_ble_eq_true rfl) ?_
  intro p e s m below meth c ls hE hl hP hK
  obtain ⟨hx, hb, hr, hml, hown, hts, hlk, hin⟩ := hE
  have hown : s.vm.findClass RX7 = some m.cls := hown
  have hl : lv_has ls 1 [(0, .ref t)] := hl
  refine lv_aload_n hx hb dX7_here_0 rfl (lv_at hl 0 rfl) ?_
  refine va_get (D := J.1) (ci := 7) (v := .int 0) (C := RX7) (T := TX7) (N := 10) hx hb hts inX7 hown hK.1 hP 0 rfl rfl 4 (by decide) (hts _ q_138) (fun _ h9 => h9) rfl dX7_here_1 ?_
  refine lv_if_lt (tgt := 30) hx hb dX7_here_4 (by decide) (fun c => absurd c (by decide)) (fun _ => ?_)
  refine lv_aload_n hx hb dX7_here_7 rfl (lv_at hl 0 rfl) ?_
  refine va_get (D := J.1) (ci := 7) (v := .int 0) (C := RX7) (T := TX7) (N := 10) hx hb hts inX7 hown hK.1 hP 0 rfl rfl 4 (by decide) (hts _ q_138) (fun _ h9 => h9) rfl dX7_here_8 ?_
  refine lv_aload_n hx hb dX7_here_11 rfl (lv_at hl 0 rfl) ?_
  refine va_get (D := J.1) (ci := 7) (v := .int 0) (C := RX7) (T := TX7) (N := 10) hx hb hts inX7 hown hK.1 hP 0 rfl rfl 1 (by decide) (hts _ q_134) (fun _ h9 => h9) rfl dX7_here_12 ?_
  refine lv_icmp_ge (tgt := 30) hx hb dX7_here_15 (by decide) (fun _ => ?_) (fun c => absurd c (by decide))
  refine lv_iconst (v := (-1)) hx hb dX7_here_30 (by decide) ?_
  exact rz_i hx hb hr hlk (by decide) dX7_here_31
theorem dX7_isDigit_0 : decode cX7_isDigit 0 = .ok (.iload_n 0, 1) := by decide +kernel
theorem dX7_isDigit_1 : decode cX7_isDigit 1 = .ok (.bipush 48, 2) := by decide +kernel
theorem dX7_isDigit_3 : decode cX7_isDigit 3 = .ok (.if_icmp .lt 13, 3) := by decide +kernel
theorem dX7_isDigit_16 : decode cX7_isDigit 16 = .ok (.iconst 0, 1) := by decide +kernel
theorem dX7_isDigit_17 : decode cX7_isDigit 17 = .ok (.ireturn, 1) := by decide +kernel
set_option maxHeartbeats 4000000 in
set_option maxRecDepth 100000 in
theorem cL_isDigit (l : Launch) (J : va_J9)  : RC l J yX7_isDigit cX7_isDigit 1 (some .boolean) ({ frames := 0, cells := 0, slots := 0, locals := 0 }) [.int (-1)] [] (vp_Si (fun r => r = 0)) := by
  refine rc_of (by decide) (Nat.le_of_ble_eq_true rfl) ?_
  intro p e s m below meth c ls hE hl hP hK
  obtain ⟨hx, hb, hr, hml, hown, hts, hlk, hin⟩ := hE
  have hown : s.vm.findClass RX7 = some m.cls := hown
  have hl : lv_has ls 1 [(0, .int (-1))] := hl
  refine lv_iload_n hx hb dX7_isDigit_0 rfl (lv_at hl 0 rfl) ?_
  refine lv_bipush (v := 48) hx hb dX7_isDigit_1 (by decide) ?_
  refine lv_icmp_lt (tgt := 16) hx hb dX7_isDigit_3 (by decide) (fun _ => ?_) (fun c => absurd c (by decide))
  refine lv_iconst (v := 0) hx hb dX7_isDigit_16 (by decide) ?_
  exact rz_z hx hb hr hlk (by decide) (by decide) dX7_isDigit_17
theorem dX7_isName_0 : decode cX7_isName 0 = .ok (.iload_n 0, 1) := by decide +kernel
theorem dX7_isName_1 : decode cX7_isName 1 = .ok (.bipush 97, 2) := by decide +kernel
theorem dX7_isName_3 : decode cX7_isName 3 = .ok (.if_icmp .eq 27, 3) := by decide +kernel
theorem dX7_isName_6 : decode cX7_isName 6 = .ok (.iload_n 0, 1) := by decide +kernel
theorem dX7_isName_7 : decode cX7_isName 7 = .ok (.bipush 98, 2) := by decide +kernel
theorem dX7_isName_9 : decode cX7_isName 9 = .ok (.if_icmp .eq 21, 3) := by decide +kernel
theorem dX7_isName_12 : decode cX7_isName 12 = .ok (.iload_n 0, 1) := by decide +kernel
theorem dX7_isName_13 : decode cX7_isName 13 = .ok (.bipush 112, 2) := by decide +kernel
theorem dX7_isName_15 : decode cX7_isName 15 = .ok (.if_icmp .eq 15, 3) := by decide +kernel
theorem dX7_isName_18 : decode cX7_isName 18 = .ok (.iload_n 0, 1) := by decide +kernel
theorem dX7_isName_19 : decode cX7_isName 19 = .ok (.bipush 119, 2) := by decide +kernel
theorem dX7_isName_21 : decode cX7_isName 21 = .ok (.if_icmp .eq 9, 3) := by decide +kernel
theorem dX7_isName_24 : decode cX7_isName 24 = .ok (.iload_n 0, 1) := by decide +kernel
theorem dX7_isName_25 : decode cX7_isName 25 = .ok (.bipush 110, 2) := by decide +kernel
theorem dX7_isName_27 : decode cX7_isName 27 = .ok (.if_icmp .ne 7, 3) := by decide +kernel
theorem dX7_isName_34 : decode cX7_isName 34 = .ok (.iconst 0, 1) := by decide +kernel
theorem dX7_isName_35 : decode cX7_isName 35 = .ok (.ireturn, 1) := by decide +kernel
set_option maxHeartbeats 4000000 in
set_option maxRecDepth 100000 in
theorem cL_isName (l : Launch) (J : va_J9)  : RC l J yX7_isName cX7_isName 1 (some .boolean) ({ frames := 0, cells := 0, slots := 0, locals := 0 }) [.int (-1)] [] (vp_Si (fun r => r = 0)) := by
  refine rc_of (by decide) (Nat.le_of_ble_eq_true rfl) ?_
  intro p e s m below meth c ls hE hl hP hK
  obtain ⟨hx, hb, hr, hml, hown, hts, hlk, hin⟩ := hE
  have hown : s.vm.findClass RX7 = some m.cls := hown
  have hl : lv_has ls 1 [(0, .int (-1))] := hl
  refine lv_iload_n hx hb dX7_isName_0 rfl (lv_at hl 0 rfl) ?_
  refine lv_bipush (v := 97) hx hb dX7_isName_1 (by decide) ?_
  refine lv_icmp_eq (tgt := 30) hx hb dX7_isName_3 (by decide) (fun c => absurd c (by decide)) (fun _ => ?_)
  refine lv_iload_n hx hb dX7_isName_6 rfl (lv_at hl 0 rfl) ?_
  refine lv_bipush (v := 98) hx hb dX7_isName_7 (by decide) ?_
  refine lv_icmp_eq (tgt := 30) hx hb dX7_isName_9 (by decide) (fun c => absurd c (by decide)) (fun _ => ?_)
  refine lv_iload_n hx hb dX7_isName_12 rfl (lv_at hl 0 rfl) ?_
  refine lv_bipush (v := 112) hx hb dX7_isName_13 (by decide) ?_
  refine lv_icmp_eq (tgt := 30) hx hb dX7_isName_15 (by decide) (fun c => absurd c (by decide)) (fun _ => ?_)
  refine lv_iload_n hx hb dX7_isName_18 rfl (lv_at hl 0 rfl) ?_
  refine lv_bipush (v := 119) hx hb dX7_isName_19 (by decide) ?_
  refine lv_icmp_eq (tgt := 30) hx hb dX7_isName_21 (by decide) (fun c => absurd c (by decide)) (fun _ => ?_)
  refine lv_iload_n hx hb dX7_isName_24 rfl (lv_at hl 0 rfl) ?_
  refine lv_bipush (v := 110) hx hb dX7_isName_25 (by decide) ?_
  refine lv_icmp_ne (tgt := 34) hx hb dX7_isName_27 (by decide) (fun _ => ?_) (fun c => absurd c (by decide))
  refine lv_iconst (v := 0) hx hb dX7_isName_34 (by decide) ?_
  exact rz_z hx hb hr hlk (by decide) (by decide) dX7_isName_35
theorem dX7_readOperand_0 : decode cX7_readOperand 0 = .ok (.aload_n 0, 1) := by decide +kernel
theorem q_704 : Cond.methodLink RX7 61 yX7_here ∈ lw_g := mem_q 704 (by decide +kernel) rfl
theorem q_706 : Cond.instanceMethod yX7_here ∈ lw_g := mem_q 706 (by decide +kernel) rfl
theorem q_13 : Cond.selects RX7 yX7_here yX7_here ∈ lw_g := mem_q 13 (by decide +kernel) rfl
theorem q_104 : Cond.initialized RX7 ∈ lw_g := mem_q 104 (by decide +kernel) rfl
theorem q_707 : Cond.code yX7_here cX7_here 1 (some .int) ∈ lw_g := mem_q 707 (by decide +kernel) rfl
theorem kV_RX7_61 : CV RX7 61 RX7 yX7_here cX7_here 1 (some .int) 0 := cv_of q_704 q_706 q_13 q_104 q_707 (by decide +kernel)
theorem dX7_readOperand_1 : decode cX7_readOperand 1 = .ok (.invokevirtual 61, 3) := by decide +kernel
theorem dX7_readOperand_4 : decode cX7_readOperand 4 = .ok (.istore_n 2, 1) := by decide +kernel
theorem dX7_readOperand_5 : decode cX7_readOperand 5 = .ok (.iload_n 2, 1) := by decide +kernel
theorem q_708 : Cond.methodLink RX7 75 yX7_isDigit ∈ lw_g := mem_q 708 (by decide +kernel) rfl
theorem q_709 : Cond.static yX7_isDigit ∈ lw_g := mem_q 709 (by decide +kernel) rfl
theorem q_710 : Cond.code yX7_isDigit cX7_isDigit 1 (some .boolean) ∈ lw_g := mem_q 710 (by decide +kernel) rfl
theorem kS_RX7_75 : CS RX7 75 yX7_isDigit cX7_isDigit 1 (some .boolean) 1 := cs_of q_708 q_709 q_104 q_710 (by decide +kernel)
theorem dX7_readOperand_6 : decode cX7_readOperand 6 = .ok (.invokestatic 75, 3) := by decide +kernel
theorem dX7_readOperand_9 : decode cX7_readOperand 9 = .ok (.ifCond .eq 10, 3) := by decide +kernel
theorem dX7_readOperand_19 : decode cX7_readOperand 19 = .ok (.iload_n 2, 1) := by decide +kernel
theorem q_539 : Cond.methodLink RX7 82 yX7_isName ∈ lw_g := mem_q 539 (by decide +kernel) rfl
theorem q_540 : Cond.static yX7_isName ∈ lw_g := mem_q 540 (by decide +kernel) rfl
theorem q_541 : Cond.code yX7_isName cX7_isName 1 (some .boolean) ∈ lw_g := mem_q 541 (by decide +kernel) rfl
theorem kS_RX7_82 : CS RX7 82 yX7_isName cX7_isName 1 (some .boolean) 1 := cs_of q_539 q_540 q_104 q_541 (by decide +kernel)
theorem dX7_readOperand_20 : decode cX7_readOperand 20 = .ok (.invokestatic 82, 3) := by decide +kernel
theorem dX7_readOperand_23 : decode cX7_readOperand 23 = .ok (.ifCond .eq 22, 3) := by decide +kernel
theorem dX7_readOperand_45 : decode cX7_readOperand 45 = .ok (.iload_n 1, 1) := by decide +kernel
theorem dX7_readOperand_46 : decode cX7_readOperand 46 = .ok (.bipush 6, 2) := by decide +kernel
theorem dX7_readOperand_48 : decode cX7_readOperand 48 = .ok (.if_icmp .ge 52, 3) := by decide +kernel
theorem dX7_readOperand_51 : decode cX7_readOperand 51 = .ok (.iload_n 2, 1) := by decide +kernel
theorem dX7_readOperand_52 : decode cX7_readOperand 52 = .ok (.bipush 33, 2) := by decide +kernel
theorem dX7_readOperand_54 : decode cX7_readOperand 54 = .ok (.if_icmp .eq 9, 3) := by decide +kernel
theorem dX7_readOperand_57 : decode cX7_readOperand 57 = .ok (.iload_n 2, 1) := by decide +kernel
theorem dX7_readOperand_58 : decode cX7_readOperand 58 = .ok (.bipush 45, 2) := by decide +kernel
theorem dX7_readOperand_60 : decode cX7_readOperand 60 = .ok (.if_icmp .ne 40, 3) := by decide +kernel
theorem dX7_readOperand_100 : decode cX7_readOperand 100 = .ok (.iload_n 1, 1) := by decide +kernel
theorem dX7_readOperand_101 : decode cX7_readOperand 101 = .ok (.bipush 6, 2) := by decide +kernel
theorem dX7_readOperand_103 : decode cX7_readOperand 103 = .ok (.if_icmp .ge 36, 3) := by decide +kernel
theorem dX7_readOperand_106 : decode cX7_readOperand 106 = .ok (.iload_n 2, 1) := by decide +kernel
theorem dX7_readOperand_107 : decode cX7_readOperand 107 = .ok (.bipush 40, 2) := by decide +kernel
theorem dX7_readOperand_109 : decode cX7_readOperand 109 = .ok (.if_icmp .ne 30, 3) := by decide +kernel
theorem dX7_readOperand_139 : decode cX7_readOperand 139 = .ok (.aload_n 0, 1) := by decide +kernel
theorem dX7_readOperand_140 : decode cX7_readOperand 140 = .ok (.iconst 1, 1) := by decide +kernel
theorem q_139 : Cond.fieldLink RX7 34 RX7 "faulty" "Z" ∈ lw_g := mem_q 139 (by decide +kernel) rfl
theorem dX7_readOperand_141 : decode cX7_readOperand 141 = .ok (.putfield 34, 3) := by decide +kernel
theorem dX7_readOperand_144 : decode cX7_readOperand 144 = .ok (.return_, 1) := by decide +kernel
set_option maxHeartbeats 4000000 in
set_option maxRecDepth 100000 in
theorem cL_operand (l : Launch) (J : va_J9) (sz : Nat) (t : Nat) (ta : Nat) (dr : Nat) (co : Nat) (sk : Nat) : WC l J yX7_readOperand cX7_readOperand 3 none ({ frames := 1, cells := 0, slots := 0, locals := 20 }) [.ref t, .int 0] [(t, .inr (7, [.ref ta, .int 0, .ref dr, .int 0, .int 0, .int 0, .ref co, .int 0, .ref sk, .int 0]))] sz (Qv J (fun (u : Unit) => True) (fun (_ : Unit) => [(t, .inr (7, [.ref ta, .int 0, .ref dr, .int 0, .int 0, .int 1, .ref co, .int 0, .ref sk, .int 0]))])) 0 0 := by
  refine wc_of (by decide) (Nat.le_of_ble_eq_true rfl) ?_
  intro p e s m below meth c ls A hE hl hP hK hD hS hA
  obtain ⟨hx, hb, hr, hml, hown, hts, hlk, hin⟩ := hE
  have hown : s.vm.findClass RX7 = some m.cls := hown
  have hl : lv_has ls 3 [(0, .ref t), (1, .int 0)] := hl
  refine lv_aload_n hx hb dX7_readOperand_0 rfl (lv_at hl 0 rfl) ?_
  refine go_i (rn_V (As := []) (rest := []) hx hb hml hown hts hK (cL_here l J t ta dr co sk 0 0) kV_RX7_61 hP rfl rfl rfl ⟨Nat.le_of_ble_eq_true rfl, Nat.le_of_ble_eq_true rfl⟩ rfl rfl rfl hl.1 rfl (Nat.le_of_ble_eq_true rfl) ⟨Nat.le_of_ble_eq_true rfl, Nat.le_of_ble_eq_true rfl⟩ dX7_readOperand_1) ?_
  refine lv_istore_n (lv' := [(2, .int (-1)), (0, .ref t), (1, .int 0)]) hx hb dX7_readOperand_4 rfl hl (by decide) rfl (fun ls hl => ?_)
  refine lv_iload_n hx hb dX7_readOperand_5 rfl (lv_at hl 0 rfl) ?_
  refine go_i (rn_S (As := [.int (-1)]) (rest := []) hx hb hml hown hts hK (cL_isDigit l J ) kS_RX7_75 (hP.sub (ws' := []) [] rfl) ⟨Nat.le_of_ble_eq_true rfl, Nat.le_of_ble_eq_true rfl⟩ rfl rfl rfl hl.1 rfl (Nat.le_of_ble_eq_true rfl) ⟨Nat.le_of_ble_eq_true rfl, Nat.le_of_ble_eq_true rfl⟩ dX7_readOperand_6) ?_
  refine lv_if_eq (tgt := 19) hx hb dX7_readOperand_9 (by decide) (fun _ => ?_) (fun c => absurd c (by decide))
  refine lv_iload_n hx hb dX7_readOperand_19 rfl (lv_at hl 0 rfl) ?_
  refine go_i (rn_S (As := [.int (-1)]) (rest := []) hx hb hml hown hts hK (cL_isName l J ) kS_RX7_82 (hP.sub (ws' := []) [] rfl) ⟨Nat.le_of_ble_eq_true rfl, Nat.le_of_ble_eq_true rfl⟩ rfl rfl rfl hl.1 rfl (Nat.le_of_ble_eq_true rfl) ⟨Nat.le_of_ble_eq_true rfl, Nat.le_of_ble_eq_true rfl⟩ dX7_readOperand_20) ?_
  refine lv_if_eq (tgt := 45) hx hb dX7_readOperand_23 (by decide) (fun _ => ?_) (fun c => absurd c (by decide))
  refine lv_iload_n hx hb dX7_readOperand_45 rfl (lv_at hl 2 rfl) ?_
  refine lv_bipush (v := 6) hx hb dX7_readOperand_46 (by decide) ?_
  refine lv_icmp_ge (tgt := 100) hx hb dX7_readOperand_48 (by decide) (fun c => absurd c (by decide)) (fun _ => ?_)
  refine lv_iload_n hx hb dX7_readOperand_51 rfl (lv_at hl 0 rfl) ?_
  refine lv_bipush (v := 33) hx hb dX7_readOperand_52 (by decide) ?_
  refine lv_icmp_eq (tgt := 63) hx hb dX7_readOperand_54 (by decide) (fun c => absurd c (by decide)) (fun _ => ?_)
  refine lv_iload_n hx hb dX7_readOperand_57 rfl (lv_at hl 0 rfl) ?_
  refine lv_bipush (v := 45) hx hb dX7_readOperand_58 (by decide) ?_
  refine lv_icmp_ne (tgt := 100) hx hb dX7_readOperand_60 (by decide) (fun _ => ?_) (fun c => absurd c (by decide))
  refine lv_iload_n hx hb dX7_readOperand_100 rfl (lv_at hl 2 rfl) ?_
  refine lv_bipush (v := 6) hx hb dX7_readOperand_101 (by decide) ?_
  refine lv_icmp_ge (tgt := 139) hx hb dX7_readOperand_103 (by decide) (fun c => absurd c (by decide)) (fun _ => ?_)
  refine lv_iload_n hx hb dX7_readOperand_106 rfl (lv_at hl 0 rfl) ?_
  refine lv_bipush (v := 40) hx hb dX7_readOperand_107 (by decide) ?_
  refine lv_icmp_ne (tgt := 139) hx hb dX7_readOperand_109 (by decide) (fun _ => ?_) (fun c => absurd c (by decide))
  refine lv_aload_n hx hb dX7_readOperand_139 rfl (lv_at hl 1 rfl) ?_
  refine lv_iconst (v := 1) hx hb dX7_readOperand_140 (by decide) ?_
  refine va_put (D := J.1) (ci := 7) (v := .int 1) (ty := (.boolean)) (C := RX7) (T := TX7) (N := 10) hx hb hts inX7 tyX7 tyX7_ok nmX7 hown hK.1 hP hD hS 0 rfl rfl 5 (by decide) (hts _ q_139) (fun _ h9 => h9) rfl (by decide +kernel) rfl rfl (Nat.le_of_ble_eq_true rfl) dX7_readOperand_141 (fun H locs hP hD hS => ?_)
  have hP : va_P J.1 cls [(t, .inr (7, [.ref ta, .int 0, .ref dr, .int 0, .int 0, .int 1, .ref co, .int 0, .ref sk, .int 0]))] H := hP
  have hD : va_D A [(t, .inr (7, [.ref ta, .int 0, .ref dr, .int 0, .int 0, .int 1, .ref co, .int 0, .ref sk, .int 0]))] := hD
  exact wz_v () hx hb hr hlk trivial hP hD hS dX7_readOperand_144
theorem dX7_readChain_0 : decode cX7_readChain 0 = .ok (.iload_n 1, 1) := by decide +kernel
theorem dX7_readChain_1 : decode cX7_readChain 1 = .ok (.iconst 4, 1) := by decide +kernel
theorem dX7_readChain_2 : decode cX7_readChain 2 = .ok (.if_icmp .le 9, 3) := by decide +kernel
theorem dX7_readChain_5 : decode cX7_readChain 5 = .ok (.aload_n 0, 1) := by decide +kernel
theorem dX7_readChain_6 : decode cX7_readChain 6 = .ok (.iload_n 2, 1) := by decide +kernel
theorem q_700 : Cond.methodLink RX7 68 yX7_readOperand ∈ lw_g := mem_q 700 (by decide +kernel) rfl
theorem q_702 : Cond.instanceMethod yX7_readOperand ∈ lw_g := mem_q 702 (by decide +kernel) rfl
theorem q_12 : Cond.selects RX7 yX7_readOperand yX7_readOperand ∈ lw_g := mem_q 12 (by decide +kernel) rfl
theorem q_703 : Cond.code yX7_readOperand cX7_readOperand 3 none ∈ lw_g := mem_q 703 (by decide +kernel) rfl
theorem kV_RX7_68 : CV RX7 68 RX7 yX7_readOperand cX7_readOperand 3 none 1 := cv_of q_700 q_702 q_12 q_104 q_703 (by decide +kernel)
theorem dX7_readChain_7 : decode cX7_readChain 7 = .ok (.invokevirtual 68, 3) := by decide +kernel
theorem dX7_readChain_10 : decode cX7_readChain 10 = .ok (.return_, 1) := by decide +kernel
set_option maxHeartbeats 4000000 in
set_option maxRecDepth 100000 in
theorem cL_chain5 (l : Launch) (J : va_J9) (sz : Nat) (t : Nat) (ta : Nat) (dr : Nat) (co : Nat) (sk : Nat) : WC l J yX7_readChain cX7_readChain 5 none ({ frames := 2, cells := 0, slots := 0, locals := 42 }) [.ref t, .int 5, .int 0] [(t, .inr (7, [.ref ta, .int 0, .ref dr, .int 0, .int 0, .int 0, .ref co, .int 0, .ref sk, .int 0]))] sz (Qv J (fun (u : Unit) => True) (fun (_ : Unit) => [(t, .inr (7, [.ref ta, .int 0, .ref dr, .int 0, .int 0, .int 1, .ref co, .int 0, .ref sk, .int 0]))])) 0 0 := by
  refine wc_of (by decide) (Nat.le_of_ble_eq_true rfl) ?_
  intro p e s m below meth c ls A hE hl hP hK hD hS hA
  obtain ⟨hx, hb, hr, hml, hown, hts, hlk, hin⟩ := hE
  have hown : s.vm.findClass RX7 = some m.cls := hown
  have hl : lv_has ls 5 [(0, .ref t), (1, .int 5), (2, .int 0)] := hl
  refine lv_iload_n hx hb dX7_readChain_0 rfl (lv_at hl 1 rfl) ?_
  refine lv_iconst (v := 4) hx hb dX7_readChain_1 (by decide) ?_
  refine lv_icmp_le (tgt := 11) hx hb dX7_readChain_2 (by decide) (fun c => absurd c (by decide)) (fun _ => ?_)
  refine lv_aload_n hx hb dX7_readChain_5 rfl (lv_at hl 0 rfl) ?_
  refine lv_iload_n hx hb dX7_readChain_6 rfl (lv_at hl 2 rfl) ?_
  refine gw_v (wc := [(t, .inr (7, [.ref ta, .int 0, .ref dr, .int 0, .int 0, .int 0, .ref co, .int 0, .ref sk, .int 0]))]) (wr := []) hP hD hS hA [0] [] rfl rfl (by decide) (by decide) (wn_V (As := [.int 0]) (rest := []) hx hb hml hown hts hK (cL_operand l J _ t ta dr co sk) kV_RX7_68 hP ((hD.sub (ws' := [(t, .inr (7, [.ref ta, .int 0, .ref dr, .int 0, .int 0, .int 0, .ref co, .int 0, .ref sk, .int 0]))]) [0] (by decide) rfl).weaken (fun _ _ _ _ => trivial)) rfl rfl rfl ⟨Nat.le_of_ble_eq_true rfl, Nat.le_of_ble_eq_true rfl⟩ rfl rfl rfl hl.1 rfl (Nat.le_of_ble_eq_true rfl) ⟨Nat.le_of_ble_eq_true rfl, Nat.le_of_ble_eq_true rfl⟩ dX7_readChain_7) (fun u1 H locs hw hP hD hS => ?_)
  have hP : va_P J.1 cls [(t, .inr (7, [.ref ta, .int 0, .ref dr, .int 0, .int 0, .int 1, .ref co, .int 0, .ref sk, .int 0]))] H := hP
  have hD : va_D A [(t, .inr (7, [.ref ta, .int 0, .ref dr, .int 0, .int 0, .int 1, .ref co, .int 0, .ref sk, .int 0]))] := hD
  refine W.widen (k := 0) (n := 0) (Nat.le_of_ble_eq_true rfl) (Nat.le_of_ble_eq_true rfl) ?_
  exact wz_v () hx hb hr hlk trivial hP hD hS dX7_readChain_10
theorem dX7_readChain_11 : decode cX7_readChain 11 = .ok (.aload_n 0, 1) := by decide +kernel
theorem dX7_readChain_12 : decode cX7_readChain 12 = .ok (.iload_n 1, 1) := by decide +kernel
theorem dX7_readChain_13 : decode cX7_readChain 13 = .ok (.iconst 1, 1) := by decide +kernel
theorem dX7_readChain_14 : decode cX7_readChain 14 = .ok (.iadd, 1) := by decide +kernel
theorem dX7_readChain_15 : decode cX7_readChain 15 = .ok (.iload_n 2, 1) := by decide +kernel
theorem q_696 : Cond.methodLink RX7 57 yX7_readChain ∈ lw_g := mem_q 696 (by decide +kernel) rfl
theorem q_698 : Cond.instanceMethod yX7_readChain ∈ lw_g := mem_q 698 (by decide +kernel) rfl
theorem q_11 : Cond.selects RX7 yX7_readChain yX7_readChain ∈ lw_g := mem_q 11 (by decide +kernel) rfl
theorem q_699 : Cond.code yX7_readChain cX7_readChain 5 none ∈ lw_g := mem_q 699 (by decide +kernel) rfl
theorem kV_RX7_57 : CV RX7 57 RX7 yX7_readChain cX7_readChain 5 none 2 := cv_of q_696 q_698 q_11 q_104 q_699 (by decide +kernel)
theorem dX7_readChain_16 : decode cX7_readChain 16 = .ok (.invokevirtual 57, 3) := by decide +kernel
theorem dX7_readChain_19 : decode cX7_readChain 19 = .ok (.iconst 0, 1) := by decide +kernel
theorem dX7_readChain_20 : decode cX7_readChain 20 = .ok (.istore_n 3, 1) := by decide +kernel
theorem dX7_readChain_21 : decode cX7_readChain 21 = .ok (.iload_n 3, 1) := by decide +kernel
theorem dX7_readChain_22 : decode cX7_readChain 22 = .ok (.bipush 120, 2) := by decide +kernel
theorem dX7_readChain_24 : decode cX7_readChain 24 = .ok (.if_icmp .ge 64, 3) := by decide +kernel
theorem dX7_readChain_27 : decode cX7_readChain 27 = .ok (.aload_n 0, 1) := by decide +kernel
theorem dX7_readChain_28 : decode cX7_readChain 28 = .ok (.getfield 34, 3) := by decide +kernel
theorem dX7_readChain_31 : decode cX7_readChain 31 = .ok (.ifCond .ne 57, 3) := by decide +kernel
theorem dX7_readChain_88 : decode cX7_readChain 88 = .ok (.return_, 1) := by decide +kernel
set_option maxHeartbeats 4000000 in
set_option maxRecDepth 100000 in
theorem cL_chain4 (l : Launch) (J : va_J9) (sz : Nat) (t : Nat) (ta : Nat) (dr : Nat) (co : Nat) (sk : Nat) : WC l J yX7_readChain cX7_readChain 5 none ({ frames := 3, cells := 0, slots := 0, locals := 66 }) [.ref t, .int 4, .int 0] [(t, .inr (7, [.ref ta, .int 0, .ref dr, .int 0, .int 0, .int 0, .ref co, .int 0, .ref sk, .int 0]))] sz (Qv J (fun (u : Unit) => True) (fun (_ : Unit) => [(t, .inr (7, [.ref ta, .int 0, .ref dr, .int 0, .int 0, .int 1, .ref co, .int 0, .ref sk, .int 0]))])) 0 0 := by
  refine wc_of (by decide) (Nat.le_of_ble_eq_true rfl) ?_
  intro p e s m below meth c ls A hE hl hP hK hD hS hA
  obtain ⟨hx, hb, hr, hml, hown, hts, hlk, hin⟩ := hE
  have hown : s.vm.findClass RX7 = some m.cls := hown
  have hl : lv_has ls 5 [(0, .ref t), (1, .int 4), (2, .int 0)] := hl
  refine lv_iload_n hx hb dX7_readChain_0 rfl (lv_at hl 1 rfl) ?_
  refine lv_iconst (v := 4) hx hb dX7_readChain_1 (by decide) ?_
  refine lv_icmp_le (tgt := 11) hx hb dX7_readChain_2 (by decide) (fun _ => ?_) (fun c => absurd c (by decide))
  refine lv_aload_n hx hb dX7_readChain_11 rfl (lv_at hl 0 rfl) ?_
  refine lv_iload_n hx hb dX7_readChain_12 rfl (lv_at hl 1 rfl) ?_
  refine lv_iconst (v := 1) hx hb dX7_readChain_13 (by decide) ?_
  refine lv_iadd hx hb dX7_readChain_14 ?_
  refine top_i (y := 5) (by decide) ?_
  refine lv_iload_n hx hb dX7_readChain_15 rfl (lv_at hl 2 rfl) ?_
  refine gw_v (wc := [(t, .inr (7, [.ref ta, .int 0, .ref dr, .int 0, .int 0, .int 0, .ref co, .int 0, .ref sk, .int 0]))]) (wr := []) hP hD hS hA [0] [] rfl rfl (by decide) (by decide) (wn_V (As := [.int 5, .int 0]) (rest := []) hx hb hml hown hts hK (cL_chain5 l J _ t ta dr co sk) kV_RX7_57 hP ((hD.sub (ws' := [(t, .inr (7, [.ref ta, .int 0, .ref dr, .int 0, .int 0, .int 0, .ref co, .int 0, .ref sk, .int 0]))]) [0] (by decide) rfl).weaken (fun _ _ _ _ => trivial)) rfl rfl rfl ⟨Nat.le_of_ble_eq_true rfl, Nat.le_of_ble_eq_true rfl⟩ rfl rfl rfl hl.1 rfl (Nat.le_of_ble_eq_true rfl) ⟨Nat.le_of_ble_eq_true rfl, Nat.le_of_ble_eq_true rfl⟩ dX7_readChain_16) (fun u1 H locs hw hP hD hS => ?_)
  have hP : va_P J.1 cls [(t, .inr (7, [.ref ta, .int 0, .ref dr, .int 0, .int 0, .int 1, .ref co, .int 0, .ref sk, .int 0]))] H := hP
  have hD : va_D A [(t, .inr (7, [.ref ta, .int 0, .ref dr, .int 0, .int 0, .int 1, .ref co, .int 0, .ref sk, .int 0]))] := hD
  refine W.widen (k := 0) (n := 0) (Nat.le_of_ble_eq_true rfl) (Nat.le_of_ble_eq_true rfl) ?_
  refine lv_iconst (v := 0) hx hb dX7_readChain_19 (by decide) ?_
  refine lv_istore_n (lv' := [(3, .int 0), (0, .ref t), (1, .int 4), (2, .int 0)]) hx hb dX7_readChain_20 rfl hl (by decide) rfl (fun ls hl => ?_)
  refine lv_iload_n hx hb dX7_readChain_21 rfl (lv_at hl 0 rfl) ?_
  refine lv_bipush (v := 120) hx hb dX7_readChain_22 (by decide) ?_
  refine lv_icmp_ge (tgt := 88) hx hb dX7_readChain_24 (by decide) (fun c => absurd c (by decide)) (fun _ => ?_)
  refine lv_aload_n hx hb dX7_readChain_27 rfl (lv_at hl 1 rfl) ?_
  refine va_get (D := J.1) (ci := 7) (v := .int 1) (C := RX7) (T := TX7) (N := 10) hx hb hts inX7 hown hK.1 hP 0 rfl rfl 5 (by decide) (hts _ q_139) (fun _ h9 => h9) rfl dX7_readChain_28 ?_
  refine lv_if_ne (tgt := 88) hx hb dX7_readChain_31 (by decide) (fun _ => ?_) (fun c => absurd c (by decide))
  exact wz_v () hx hb hr hlk trivial hP hD hS dX7_readChain_88
set_option maxHeartbeats 4000000 in
set_option maxRecDepth 100000 in
theorem cL_chain3 (l : Launch) (J : va_J9) (sz : Nat) (t : Nat) (ta : Nat) (dr : Nat) (co : Nat) (sk : Nat) : WC l J yX7_readChain cX7_readChain 5 none ({ frames := 4, cells := 0, slots := 0, locals := 90 }) [.ref t, .int 3, .int 0] [(t, .inr (7, [.ref ta, .int 0, .ref dr, .int 0, .int 0, .int 0, .ref co, .int 0, .ref sk, .int 0]))] sz (Qv J (fun (u : Unit) => True) (fun (_ : Unit) => [(t, .inr (7, [.ref ta, .int 0, .ref dr, .int 0, .int 0, .int 1, .ref co, .int 0, .ref sk, .int 0]))])) 0 0 := by
  refine wc_of (by decide) (Nat.le_of_ble_eq_true rfl) ?_
  intro p e s m below meth c ls A hE hl hP hK hD hS hA
  obtain ⟨hx, hb, hr, hml, hown, hts, hlk, hin⟩ := hE
  have hown : s.vm.findClass RX7 = some m.cls := hown
  have hl : lv_has ls 5 [(0, .ref t), (1, .int 3), (2, .int 0)] := hl
  refine lv_iload_n hx hb dX7_readChain_0 rfl (lv_at hl 1 rfl) ?_
  refine lv_iconst (v := 4) hx hb dX7_readChain_1 (by decide) ?_
  refine lv_icmp_le (tgt := 11) hx hb dX7_readChain_2 (by decide) (fun _ => ?_) (fun c => absurd c (by decide))
  refine lv_aload_n hx hb dX7_readChain_11 rfl (lv_at hl 0 rfl) ?_
  refine lv_iload_n hx hb dX7_readChain_12 rfl (lv_at hl 1 rfl) ?_
  refine lv_iconst (v := 1) hx hb dX7_readChain_13 (by decide) ?_
  refine lv_iadd hx hb dX7_readChain_14 ?_
  refine top_i (y := 4) (by decide) ?_
  refine lv_iload_n hx hb dX7_readChain_15 rfl (lv_at hl 2 rfl) ?_
  refine gw_v (wc := [(t, .inr (7, [.ref ta, .int 0, .ref dr, .int 0, .int 0, .int 0, .ref co, .int 0, .ref sk, .int 0]))]) (wr := []) hP hD hS hA [0] [] rfl rfl (by decide) (by decide) (wn_V (As := [.int 4, .int 0]) (rest := []) hx hb hml hown hts hK (cL_chain4 l J _ t ta dr co sk) kV_RX7_57 hP ((hD.sub (ws' := [(t, .inr (7, [.ref ta, .int 0, .ref dr, .int 0, .int 0, .int 0, .ref co, .int 0, .ref sk, .int 0]))]) [0] (by decide) rfl).weaken (fun _ _ _ _ => trivial)) rfl rfl rfl ⟨Nat.le_of_ble_eq_true rfl, Nat.le_of_ble_eq_true rfl⟩ rfl rfl rfl hl.1 rfl (Nat.le_of_ble_eq_true rfl) ⟨Nat.le_of_ble_eq_true rfl, Nat.le_of_ble_eq_true rfl⟩ dX7_readChain_16) (fun u1 H locs hw hP hD hS => ?_)
  have hP : va_P J.1 cls [(t, .inr (7, [.ref ta, .int 0, .ref dr, .int 0, .int 0, .int 1, .ref co, .int 0, .ref sk, .int 0]))] H := hP
  have hD : va_D A [(t, .inr (7, [.ref ta, .int 0, .ref dr, .int 0, .int 0, .int 1, .ref co, .int 0, .ref sk, .int 0]))] := hD
  refine W.widen (k := 0) (n := 0) (Nat.le_of_ble_eq_true rfl) (Nat.le_of_ble_eq_true rfl) ?_
  refine lv_iconst (v := 0) hx hb dX7_readChain_19 (by decide) ?_
  refine lv_istore_n (lv' := [(3, .int 0), (0, .ref t), (1, .int 3), (2, .int 0)]) hx hb dX7_readChain_20 rfl hl (by decide) rfl (fun ls hl => ?_)
  refine lv_iload_n hx hb dX7_readChain_21 rfl (lv_at hl 0 rfl) ?_
  refine lv_bipush (v := 120) hx hb dX7_readChain_22 (by decide) ?_
  refine lv_icmp_ge (tgt := 88) hx hb dX7_readChain_24 (by decide) (fun c => absurd c (by decide)) (fun _ => ?_)
  refine lv_aload_n hx hb dX7_readChain_27 rfl (lv_at hl 1 rfl) ?_
  refine va_get (D := J.1) (ci := 7) (v := .int 1) (C := RX7) (T := TX7) (N := 10) hx hb hts inX7 hown hK.1 hP 0 rfl rfl 5 (by decide) (hts _ q_139) (fun _ h9 => h9) rfl dX7_readChain_28 ?_
  refine lv_if_ne (tgt := 88) hx hb dX7_readChain_31 (by decide) (fun _ => ?_) (fun c => absurd c (by decide))
  exact wz_v () hx hb hr hlk trivial hP hD hS dX7_readChain_88
set_option maxHeartbeats 4000000 in
set_option maxRecDepth 100000 in
theorem cL_chain2 (l : Launch) (J : va_J9) (sz : Nat) (t : Nat) (ta : Nat) (dr : Nat) (co : Nat) (sk : Nat) : WC l J yX7_readChain cX7_readChain 5 none ({ frames := 5, cells := 0, slots := 0, locals := 114 }) [.ref t, .int 2, .int 0] [(t, .inr (7, [.ref ta, .int 0, .ref dr, .int 0, .int 0, .int 0, .ref co, .int 0, .ref sk, .int 0]))] sz (Qv J (fun (u : Unit) => True) (fun (_ : Unit) => [(t, .inr (7, [.ref ta, .int 0, .ref dr, .int 0, .int 0, .int 1, .ref co, .int 0, .ref sk, .int 0]))])) 0 0 := by
  refine wc_of (by decide) (Nat.le_of_ble_eq_true rfl) ?_
  intro p e s m below meth c ls A hE hl hP hK hD hS hA
  obtain ⟨hx, hb, hr, hml, hown, hts, hlk, hin⟩ := hE
  have hown : s.vm.findClass RX7 = some m.cls := hown
  have hl : lv_has ls 5 [(0, .ref t), (1, .int 2), (2, .int 0)] := hl
  refine lv_iload_n hx hb dX7_readChain_0 rfl (lv_at hl 1 rfl) ?_
  refine lv_iconst (v := 4) hx hb dX7_readChain_1 (by decide) ?_
  refine lv_icmp_le (tgt := 11) hx hb dX7_readChain_2 (by decide) (fun _ => ?_) (fun c => absurd c (by decide))
  refine lv_aload_n hx hb dX7_readChain_11 rfl (lv_at hl 0 rfl) ?_
  refine lv_iload_n hx hb dX7_readChain_12 rfl (lv_at hl 1 rfl) ?_
  refine lv_iconst (v := 1) hx hb dX7_readChain_13 (by decide) ?_
  refine lv_iadd hx hb dX7_readChain_14 ?_
  refine top_i (y := 3) (by decide) ?_
  refine lv_iload_n hx hb dX7_readChain_15 rfl (lv_at hl 2 rfl) ?_
  refine gw_v (wc := [(t, .inr (7, [.ref ta, .int 0, .ref dr, .int 0, .int 0, .int 0, .ref co, .int 0, .ref sk, .int 0]))]) (wr := []) hP hD hS hA [0] [] rfl rfl (by decide) (by decide) (wn_V (As := [.int 3, .int 0]) (rest := []) hx hb hml hown hts hK (cL_chain3 l J _ t ta dr co sk) kV_RX7_57 hP ((hD.sub (ws' := [(t, .inr (7, [.ref ta, .int 0, .ref dr, .int 0, .int 0, .int 0, .ref co, .int 0, .ref sk, .int 0]))]) [0] (by decide) rfl).weaken (fun _ _ _ _ => trivial)) rfl rfl rfl ⟨Nat.le_of_ble_eq_true rfl, Nat.le_of_ble_eq_true rfl⟩ rfl rfl rfl hl.1 rfl (Nat.le_of_ble_eq_true rfl) ⟨Nat.le_of_ble_eq_true rfl, Nat.le_of_ble_eq_true rfl⟩ dX7_readChain_16) (fun u1 H locs hw hP hD hS => ?_)
  have hP : va_P J.1 cls [(t, .inr (7, [.ref ta, .int 0, .ref dr, .int 0, .int 0, .int 1, .ref co, .int 0, .ref sk, .int 0]))] H := hP
  have hD : va_D A [(t, .inr (7, [.ref ta, .int 0, .ref dr, .int 0, .int 0, .int 1, .ref co, .int 0, .ref sk, .int 0]))] := hD
  refine W.widen (k := 0) (n := 0) (Nat.le_of_ble_eq_true rfl) (Nat.le_of_ble_eq_true rfl) ?_
  refine lv_iconst (v := 0) hx hb dX7_readChain_19 (by decide) ?_
  refine lv_istore_n (lv' := [(3, .int 0), (0, .ref t), (1, .int 2), (2, .int 0)]) hx hb dX7_readChain_20 rfl hl (by decide) rfl (fun ls hl => ?_)
  refine lv_iload_n hx hb dX7_readChain_21 rfl (lv_at hl 0 rfl) ?_
  refine lv_bipush (v := 120) hx hb dX7_readChain_22 (by decide) ?_
  refine lv_icmp_ge (tgt := 88) hx hb dX7_readChain_24 (by decide) (fun c => absurd c (by decide)) (fun _ => ?_)
  refine lv_aload_n hx hb dX7_readChain_27 rfl (lv_at hl 1 rfl) ?_
  refine va_get (D := J.1) (ci := 7) (v := .int 1) (C := RX7) (T := TX7) (N := 10) hx hb hts inX7 hown hK.1 hP 0 rfl rfl 5 (by decide) (hts _ q_139) (fun _ h9 => h9) rfl dX7_readChain_28 ?_
  refine lv_if_ne (tgt := 88) hx hb dX7_readChain_31 (by decide) (fun _ => ?_) (fun c => absurd c (by decide))
  exact wz_v () hx hb hr hlk trivial hP hD hS dX7_readChain_88
set_option maxHeartbeats 4000000 in
set_option maxRecDepth 100000 in
theorem cL_chain1 (l : Launch) (J : va_J9) (sz : Nat) (t : Nat) (ta : Nat) (dr : Nat) (co : Nat) (sk : Nat) : WC l J yX7_readChain cX7_readChain 5 none ({ frames := 6, cells := 0, slots := 0, locals := 138 }) [.ref t, .int 1, .int 0] [(t, .inr (7, [.ref ta, .int 0, .ref dr, .int 0, .int 0, .int 0, .ref co, .int 0, .ref sk, .int 0]))] sz (Qv J (fun (u : Unit) => True) (fun (_ : Unit) => [(t, .inr (7, [.ref ta, .int 0, .ref dr, .int 0, .int 0, .int 1, .ref co, .int 0, .ref sk, .int 0]))])) 0 0 := by
  refine wc_of (by decide) (Nat.le_of_ble_eq_true rfl) ?_
  intro p e s m below meth c ls A hE hl hP hK hD hS hA
  obtain ⟨hx, hb, hr, hml, hown, hts, hlk, hin⟩ := hE
  have hown : s.vm.findClass RX7 = some m.cls := hown
  have hl : lv_has ls 5 [(0, .ref t), (1, .int 1), (2, .int 0)] := hl
  refine lv_iload_n hx hb dX7_readChain_0 rfl (lv_at hl 1 rfl) ?_
  refine lv_iconst (v := 4) hx hb dX7_readChain_1 (by decide) ?_
  refine lv_icmp_le (tgt := 11) hx hb dX7_readChain_2 (by decide) (fun _ => ?_) (fun c => absurd c (by decide))
  refine lv_aload_n hx hb dX7_readChain_11 rfl (lv_at hl 0 rfl) ?_
  refine lv_iload_n hx hb dX7_readChain_12 rfl (lv_at hl 1 rfl) ?_
  refine lv_iconst (v := 1) hx hb dX7_readChain_13 (by decide) ?_
  refine lv_iadd hx hb dX7_readChain_14 ?_
  refine top_i (y := 2) (by decide) ?_
  refine lv_iload_n hx hb dX7_readChain_15 rfl (lv_at hl 2 rfl) ?_
  refine gw_v (wc := [(t, .inr (7, [.ref ta, .int 0, .ref dr, .int 0, .int 0, .int 0, .ref co, .int 0, .ref sk, .int 0]))]) (wr := []) hP hD hS hA [0] [] rfl rfl (by decide) (by decide) (wn_V (As := [.int 2, .int 0]) (rest := []) hx hb hml hown hts hK (cL_chain2 l J _ t ta dr co sk) kV_RX7_57 hP ((hD.sub (ws' := [(t, .inr (7, [.ref ta, .int 0, .ref dr, .int 0, .int 0, .int 0, .ref co, .int 0, .ref sk, .int 0]))]) [0] (by decide) rfl).weaken (fun _ _ _ _ => trivial)) rfl rfl rfl ⟨Nat.le_of_ble_eq_true rfl, Nat.le_of_ble_eq_true rfl⟩ rfl rfl rfl hl.1 rfl (Nat.le_of_ble_eq_true rfl) ⟨Nat.le_of_ble_eq_true rfl, Nat.le_of_ble_eq_true rfl⟩ dX7_readChain_16) (fun u1 H locs hw hP hD hS => ?_)
  have hP : va_P J.1 cls [(t, .inr (7, [.ref ta, .int 0, .ref dr, .int 0, .int 0, .int 1, .ref co, .int 0, .ref sk, .int 0]))] H := hP
  have hD : va_D A [(t, .inr (7, [.ref ta, .int 0, .ref dr, .int 0, .int 0, .int 1, .ref co, .int 0, .ref sk, .int 0]))] := hD
  refine W.widen (k := 0) (n := 0) (Nat.le_of_ble_eq_true rfl) (Nat.le_of_ble_eq_true rfl) ?_
  refine lv_iconst (v := 0) hx hb dX7_readChain_19 (by decide) ?_
  refine lv_istore_n (lv' := [(3, .int 0), (0, .ref t), (1, .int 1), (2, .int 0)]) hx hb dX7_readChain_20 rfl hl (by decide) rfl (fun ls hl => ?_)
  refine lv_iload_n hx hb dX7_readChain_21 rfl (lv_at hl 0 rfl) ?_
  refine lv_bipush (v := 120) hx hb dX7_readChain_22 (by decide) ?_
  refine lv_icmp_ge (tgt := 88) hx hb dX7_readChain_24 (by decide) (fun c => absurd c (by decide)) (fun _ => ?_)
  refine lv_aload_n hx hb dX7_readChain_27 rfl (lv_at hl 1 rfl) ?_
  refine va_get (D := J.1) (ci := 7) (v := .int 1) (C := RX7) (T := TX7) (N := 10) hx hb hts inX7 hown hK.1 hP 0 rfl rfl 5 (by decide) (hts _ q_139) (fun _ h9 => h9) rfl dX7_readChain_28 ?_
  refine lv_if_ne (tgt := 88) hx hb dX7_readChain_31 (by decide) (fun _ => ?_) (fun c => absurd c (by decide))
  exact wz_v () hx hb hr hlk trivial hP hD hS dX7_readChain_88
set_option maxHeartbeats 4000000 in
set_option maxRecDepth 100000 in
theorem cL_chain0 (l : Launch) (J : va_J9) (sz : Nat) (t : Nat) (ta : Nat) (dr : Nat) (co : Nat) (sk : Nat) : WC l J yX7_readChain cX7_readChain 5 none ({ frames := 7, cells := 0, slots := 0, locals := 162 }) [.ref t, .int 0, .int 0] [(t, .inr (7, [.ref ta, .int 0, .ref dr, .int 0, .int 0, .int 0, .ref co, .int 0, .ref sk, .int 0]))] sz (Qv J (fun (u : Unit) => True) (fun (_ : Unit) => [(t, .inr (7, [.ref ta, .int 0, .ref dr, .int 0, .int 0, .int 1, .ref co, .int 0, .ref sk, .int 0]))])) 0 0 := by
  refine wc_of (by decide) (Nat.le_of_ble_eq_true rfl) ?_
  intro p e s m below meth c ls A hE hl hP hK hD hS hA
  obtain ⟨hx, hb, hr, hml, hown, hts, hlk, hin⟩ := hE
  have hown : s.vm.findClass RX7 = some m.cls := hown
  have hl : lv_has ls 5 [(0, .ref t), (1, .int 0), (2, .int 0)] := hl
  refine lv_iload_n hx hb dX7_readChain_0 rfl (lv_at hl 1 rfl) ?_
  refine lv_iconst (v := 4) hx hb dX7_readChain_1 (by decide) ?_
  refine lv_icmp_le (tgt := 11) hx hb dX7_readChain_2 (by decide) (fun _ => ?_) (fun c => absurd c (by decide))
  refine lv_aload_n hx hb dX7_readChain_11 rfl (lv_at hl 0 rfl) ?_
  refine lv_iload_n hx hb dX7_readChain_12 rfl (lv_at hl 1 rfl) ?_
  refine lv_iconst (v := 1) hx hb dX7_readChain_13 (by decide) ?_
  refine lv_iadd hx hb dX7_readChain_14 ?_
  refine top_i (y := 1) (by decide) ?_
  refine lv_iload_n hx hb dX7_readChain_15 rfl (lv_at hl 2 rfl) ?_
  refine gw_v (wc := [(t, .inr (7, [.ref ta, .int 0, .ref dr, .int 0, .int 0, .int 0, .ref co, .int 0, .ref sk, .int 0]))]) (wr := []) hP hD hS hA [0] [] rfl rfl (by decide) (by decide) (wn_V (As := [.int 1, .int 0]) (rest := []) hx hb hml hown hts hK (cL_chain1 l J _ t ta dr co sk) kV_RX7_57 hP ((hD.sub (ws' := [(t, .inr (7, [.ref ta, .int 0, .ref dr, .int 0, .int 0, .int 0, .ref co, .int 0, .ref sk, .int 0]))]) [0] (by decide) rfl).weaken (fun _ _ _ _ => trivial)) rfl rfl rfl ⟨Nat.le_of_ble_eq_true rfl, Nat.le_of_ble_eq_true rfl⟩ rfl rfl rfl hl.1 rfl (Nat.le_of_ble_eq_true rfl) ⟨Nat.le_of_ble_eq_true rfl, Nat.le_of_ble_eq_true rfl⟩ dX7_readChain_16) (fun u1 H locs hw hP hD hS => ?_)
  have hP : va_P J.1 cls [(t, .inr (7, [.ref ta, .int 0, .ref dr, .int 0, .int 0, .int 1, .ref co, .int 0, .ref sk, .int 0]))] H := hP
  have hD : va_D A [(t, .inr (7, [.ref ta, .int 0, .ref dr, .int 0, .int 0, .int 1, .ref co, .int 0, .ref sk, .int 0]))] := hD
  refine W.widen (k := 0) (n := 0) (Nat.le_of_ble_eq_true rfl) (Nat.le_of_ble_eq_true rfl) ?_
  refine lv_iconst (v := 0) hx hb dX7_readChain_19 (by decide) ?_
  refine lv_istore_n (lv' := [(3, .int 0), (0, .ref t), (1, .int 0), (2, .int 0)]) hx hb dX7_readChain_20 rfl hl (by decide) rfl (fun ls hl => ?_)
  refine lv_iload_n hx hb dX7_readChain_21 rfl (lv_at hl 0 rfl) ?_
  refine lv_bipush (v := 120) hx hb dX7_readChain_22 (by decide) ?_
  refine lv_icmp_ge (tgt := 88) hx hb dX7_readChain_24 (by decide) (fun c => absurd c (by decide)) (fun _ => ?_)
  refine lv_aload_n hx hb dX7_readChain_27 rfl (lv_at hl 1 rfl) ?_
  refine va_get (D := J.1) (ci := 7) (v := .int 1) (C := RX7) (T := TX7) (N := 10) hx hb hts inX7 hown hK.1 hP 0 rfl rfl 5 (by decide) (hts _ q_139) (fun _ h9 => h9) rfl dX7_readChain_28 ?_
  refine lv_if_ne (tgt := 88) hx hb dX7_readChain_31 (by decide) (fun _ => ?_) (fun c => absurd c (by decide))
  exact wz_v () hx hb hr hlk trivial hP hD hS dX7_readChain_88
theorem dX7_emit_0 : decode cX7_emit 0 = .ok (.aload_n 0, 1) := by decide +kernel
theorem q_137 : Cond.fieldLink RX7 31 RX7 "draftSize" "I" ∈ lw_g := mem_q 137 (by decide +kernel) rfl
theorem dX7_emit_1 : decode cX7_emit 1 = .ok (.getfield 31, 3) := by decide +kernel
theorem dX7_emit_4 : decode cX7_emit 4 = .ok (.sipush 256, 3) := by decide +kernel
theorem dX7_emit_7 : decode cX7_emit 7 = .ok (.if_icmp .ge 20, 3) := by decide +kernel
theorem dX7_emit_10 : decode cX7_emit 10 = .ok (.aload_n 0, 1) := by decide +kernel
theorem q_136 : Cond.fieldLink RX7 15 RX7 "draft" "[I" ∈ lw_g := mem_q 136 (by decide +kernel) rfl
theorem dX7_emit_11 : decode cX7_emit 11 = .ok (.getfield 15, 3) := by decide +kernel
theorem dX7_emit_14 : decode cX7_emit 14 = .ok (.aload_n 0, 1) := by decide +kernel
theorem dX7_emit_15 : decode cX7_emit 15 = .ok (.dup, 1) := by decide +kernel
theorem dX7_emit_16 : decode cX7_emit 16 = .ok (.getfield 31, 3) := by decide +kernel
theorem dX7_emit_19 : decode cX7_emit 19 = .ok (.dup_x1, 1) := by decide +kernel
theorem dX7_emit_20 : decode cX7_emit 20 = .ok (.iconst 1, 1) := by decide +kernel
theorem dX7_emit_21 : decode cX7_emit 21 = .ok (.iadd, 1) := by decide +kernel
theorem dX7_emit_22 : decode cX7_emit 22 = .ok (.putfield 31, 3) := by decide +kernel
theorem dX7_emit_25 : decode cX7_emit 25 = .ok (.iload_n 1, 1) := by decide +kernel
theorem dX7_emit_26 : decode cX7_emit 26 = .ok (.iastore, 1) := by decide +kernel
theorem dX7_emit_27 : decode cX7_emit 27 = .ok (.return_, 1) := by decide +kernel
set_option maxHeartbeats 4000000 in
set_option maxRecDepth 100000 in
theorem cL_emit (l : Launch) (J : va_J9) (sz : Nat) (t : Nat) (ta : Nat) (dr : Nat) (co : Nat) (sk : Nat) : WC l J yX7_emit cX7_emit 2 none ({ frames := 0, cells := 0, slots := 0, locals := 0 }) [.ref t, .int (-59)] [(t, .inr (7, [.ref ta, .int 0, .ref dr, .int 0, .int 0, .int 1, .ref co, .int 0, .ref sk, .int 0])), (dr, .inl (J.2.1, 256, .inl (fun _ => 0)))] sz (Qv J (fun (u : Unit) => True) (fun (_ : Unit) => [(t, .inr (7, [.ref ta, .int 0, .ref dr, .int 1, .int 0, .int 1, .ref co, .int 0, .ref sk, .int 0])), (dr, .inl (J.2.1, 256, .inl (upd (fun _ => 0) (0 : Int32).toNatClampNeg (-59))))])) 0 0 := by
  refine wc_of (by decide) (Nat.le_of_ble_eq_true rfl) ?_
  intro p e s m below meth c ls A hE hl hP hK hD hS hA
  obtain ⟨hx, hb, hr, hml, hown, hts, hlk, hin⟩ := hE
  have hown : s.vm.findClass RX7 = some m.cls := hown
  have hl : lv_has ls 2 [(0, .ref t), (1, .int (-59))] := hl
  refine lv_aload_n hx hb dX7_emit_0 rfl (lv_at hl 0 rfl) ?_
  refine va_get (D := J.1) (ci := 7) (v := .int 0) (C := RX7) (T := TX7) (N := 10) hx hb hts inX7 hown hK.1 hP 0 rfl rfl 3 (by decide) (hts _ q_137) (fun _ h9 => h9) rfl dX7_emit_1 ?_
  refine lv_sipush (v := 256) hx hb dX7_emit_4 (by decide) ?_
  refine lv_icmp_ge (tgt := 27) hx hb dX7_emit_7 (by decide) (fun c => absurd c (by decide)) (fun _ => ?_)
  refine lv_aload_n hx hb dX7_emit_10 rfl (lv_at hl 0 rfl) ?_
  refine va_get (D := J.1) (ci := 7) (v := .ref dr) (C := RX7) (T := TX7) (N := 10) hx hb hts inX7 hown hK.1 hP 0 rfl rfl 2 (by decide) (hts _ q_136) (fun _ h9 => h9) rfl dX7_emit_11 ?_
  refine lv_aload_n hx hb dX7_emit_14 rfl (lv_at hl 0 rfl) ?_
  refine lv_dup hx hb dX7_emit_15 rfl ?_
  refine va_get (D := J.1) (ci := 7) (v := .int 0) (C := RX7) (T := TX7) (N := 10) hx hb hts inX7 hown hK.1 hP 0 rfl rfl 3 (by decide) (hts _ q_137) (fun _ h9 => h9) rfl dX7_emit_16 ?_
  refine lv_dup_x1 hx hb dX7_emit_19 rfl rfl ?_
  refine lv_iconst (v := 1) hx hb dX7_emit_20 (by decide) ?_
  refine lv_iadd hx hb dX7_emit_21 ?_
  refine top_i (y := 1) (by decide) ?_
  refine va_put (D := J.1) (ci := 7) (v := .int 1) (ty := (.int)) (C := RX7) (T := TX7) (N := 10) hx hb hts inX7 tyX7 tyX7_ok nmX7 hown hK.1 hP hD hS 0 rfl rfl 3 (by decide) (hts _ q_137) (fun _ h9 => h9) rfl (by decide +kernel) rfl rfl (Nat.le_of_ble_eq_true rfl) dX7_emit_22 (fun H locs hP hD hS => ?_)
  have hP : va_P J.1 cls [(t, .inr (7, [.ref ta, .int 0, .ref dr, .int 1, .int 0, .int 1, .ref co, .int 0, .ref sk, .int 0])), (dr, .inl (J.2.1, 256, .inl (fun _ => 0)))] H := hP
  have hD : va_D A [(t, .inr (7, [.ref ta, .int 0, .ref dr, .int 1, .int 0, .int 1, .ref co, .int 0, .ref sk, .int 0])), (dr, .inl (J.2.1, 256, .inl (fun _ => 0)))] := hD
  refine lv_iload_n hx hb dX7_emit_25 rfl (lv_at hl 1 rfl) ?_
  have h1 : vp_in 0 256 := (i_in (a := 0) (by decide) (by omega) (by omega))
  refine va_iast hx hb hK.1 hP hD hS 1 0 rfl rfl h1 dX7_emit_26 (fun H locs hP hD hS => ?_)
  have hP : va_P J.1 cls [(t, .inr (7, [.ref ta, .int 0, .ref dr, .int 1, .int 0, .int 1, .ref co, .int 0, .ref sk, .int 0])), (dr, .inl (J.2.1, 256, .inl (upd (fun _ => 0) (0 : Int32).toNatClampNeg (-59))))] H := hP
  have hD : va_D A [(t, .inr (7, [.ref ta, .int 0, .ref dr, .int 1, .int 0, .int 1, .ref co, .int 0, .ref sk, .int 0])), (dr, .inl (J.2.1, 256, .inl (upd (fun _ => 0) (0 : Int32).toNatClampNeg (-59))))] := hD
  exact wz_v () hx hb hr hlk trivial hP hD hS dX7_emit_27
theorem dX7_readLine_0 : decode cX7_readLine 0 = .ok (.aload_n 0, 1) := by decide +kernel
theorem dX7_readLine_1 : decode cX7_readLine 1 = .ok (.iconst 0, 1) := by decide +kernel
theorem dX7_readLine_2 : decode cX7_readLine 2 = .ok (.iconst 0, 1) := by decide +kernel
theorem dX7_readLine_3 : decode cX7_readLine 3 = .ok (.invokevirtual 57, 3) := by decide +kernel
theorem dX7_readLine_6 : decode cX7_readLine 6 = .ok (.iconst (-1), 1) := by decide +kernel
theorem dX7_readLine_7 : decode cX7_readLine 7 = .ok (.istore_n 1, 1) := by decide +kernel
theorem dX7_readLine_8 : decode cX7_readLine 8 = .ok (.aload_n 0, 1) := by decide +kernel
theorem dX7_readLine_9 : decode cX7_readLine 9 = .ok (.getfield 34, 3) := by decide +kernel
theorem dX7_readLine_12 : decode cX7_readLine 12 = .ok (.ifCond .ne 44, 3) := by decide +kernel
theorem dX7_readLine_56 : decode cX7_readLine 56 = .ok (.aload_n 0, 1) := by decide +kernel
theorem dX7_readLine_57 : decode cX7_readLine 57 = .ok (.bipush (-59), 2) := by decide +kernel
theorem q_715 : Cond.methodLink RX7 65 yX7_emit ∈ lw_g := mem_q 715 (by decide +kernel) rfl
theorem q_717 : Cond.instanceMethod yX7_emit ∈ lw_g := mem_q 717 (by decide +kernel) rfl
theorem q_15 : Cond.selects RX7 yX7_emit yX7_emit ∈ lw_g := mem_q 15 (by decide +kernel) rfl
theorem q_718 : Cond.code yX7_emit cX7_emit 2 none ∈ lw_g := mem_q 718 (by decide +kernel) rfl
theorem kV_RX7_65 : CV RX7 65 RX7 yX7_emit cX7_emit 2 none 1 := cv_of q_715 q_717 q_15 q_104 q_718 (by decide +kernel)
theorem dX7_readLine_59 : decode cX7_readLine 59 = .ok (.invokevirtual 65, 3) := by decide +kernel
theorem dX7_readLine_62 : decode cX7_readLine 62 = .ok (.iload_n 1, 1) := by decide +kernel
theorem dX7_readLine_63 : decode cX7_readLine 63 = .ok (.ifCond .lt 20, 3) := by decide +kernel
theorem dX7_readLine_83 : decode cX7_readLine 83 = .ok (.return_, 1) := by decide +kernel
set_option maxHeartbeats 4000000 in
set_option maxRecDepth 100000 in
theorem cL_line (l : Launch) (J : va_J9) (sz : Nat) (t : Nat) (ta : Nat) (dr : Nat) (co : Nat) (sk : Nat) : WC l J yX7_readLine cX7_readLine 2 none ({ frames := 8, cells := 0, slots := 0, locals := 186 }) [.ref t] [(t, .inr (7, [.ref ta, .int 0, .ref dr, .int 0, .int 0, .int 0, .ref co, .int 0, .ref sk, .int 0])), (dr, .inl (J.2.1, 256, .inl (fun _ => 0)))] sz (Qv J (fun (u : Unit) => True) (fun (_ : Unit) => [(t, .inr (7, [.ref ta, .int 0, .ref dr, .int 1, .int 0, .int 1, .ref co, .int 0, .ref sk, .int 0])), (dr, .inl (J.2.1, 256, .inl (upd (fun _ => 0) (0 : Int32).toNatClampNeg (-59))))])) 0 0 := by
  refine wc_of (by decide) (Nat.le_of_ble_eq_true rfl) ?_
  intro p e s m below meth c ls A hE hl hP hK hD hS hA
  obtain ⟨hx, hb, hr, hml, hown, hts, hlk, hin⟩ := hE
  have hown : s.vm.findClass RX7 = some m.cls := hown
  have hl : lv_has ls 2 [(0, .ref t)] := hl
  refine lv_aload_n hx hb dX7_readLine_0 rfl (lv_at hl 0 rfl) ?_
  refine lv_iconst (v := 0) hx hb dX7_readLine_1 (by decide) ?_
  refine lv_iconst (v := 0) hx hb dX7_readLine_2 (by decide) ?_
  refine gw_v (wc := [(t, .inr (7, [.ref ta, .int 0, .ref dr, .int 0, .int 0, .int 0, .ref co, .int 0, .ref sk, .int 0]))]) (wr := [(dr, .inl (J.2.1, 256, .inl (fun _ => 0)))]) hP hD hS hA [0] [1] rfl rfl (by decide) (by decide) (wn_V (As := [.int 0, .int 0]) (rest := []) hx hb hml hown hts hK (cL_chain0 l J _ t ta dr co sk) kV_RX7_57 (hP.sub (ws' := [(t, .inr (7, [.ref ta, .int 0, .ref dr, .int 0, .int 0, .int 0, .ref co, .int 0, .ref sk, .int 0]))]) [0] rfl) ((hD.sub (ws' := [(t, .inr (7, [.ref ta, .int 0, .ref dr, .int 0, .int 0, .int 0, .ref co, .int 0, .ref sk, .int 0]))]) [0] (by decide) rfl).weaken (fun _ _ _ _ => trivial)) rfl rfl rfl ⟨Nat.le_of_ble_eq_true rfl, Nat.le_of_ble_eq_true rfl⟩ rfl rfl rfl hl.1 rfl (Nat.le_of_ble_eq_true rfl) ⟨Nat.le_of_ble_eq_true rfl, Nat.le_of_ble_eq_true rfl⟩ dX7_readLine_3) (fun u1 H locs hw hP hD hS => ?_)
  have hP : va_P J.1 cls [(dr, .inl (J.2.1, 256, .inl (fun _ => 0))), (t, .inr (7, [.ref ta, .int 0, .ref dr, .int 0, .int 0, .int 1, .ref co, .int 0, .ref sk, .int 0]))] H := hP
  have hD : va_D A [(dr, .inl (J.2.1, 256, .inl (fun _ => 0))), (t, .inr (7, [.ref ta, .int 0, .ref dr, .int 0, .int 0, .int 1, .ref co, .int 0, .ref sk, .int 0]))] := hD
  refine W.widen (k := 0) (n := 0) (Nat.le_of_ble_eq_true rfl) (Nat.le_of_ble_eq_true rfl) ?_
  refine lv_iconst (v := (-1)) hx hb dX7_readLine_6 (by decide) ?_
  refine lv_istore_n (lv' := [(1, .int (-1)), (0, .ref t)]) hx hb dX7_readLine_7 rfl hl (by decide) rfl (fun ls hl => ?_)
  refine lv_aload_n hx hb dX7_readLine_8 rfl (lv_at hl 1 rfl) ?_
  refine va_get (D := J.1) (ci := 7) (v := .int 1) (C := RX7) (T := TX7) (N := 10) hx hb hts inX7 hown hK.1 hP 1 rfl rfl 5 (by decide) (hts _ q_139) (fun _ h9 => h9) rfl dX7_readLine_9 ?_
  refine lv_if_ne (tgt := 56) hx hb dX7_readLine_12 (by decide) (fun _ => ?_) (fun c => absurd c (by decide))
  refine lv_aload_n hx hb dX7_readLine_56 rfl (lv_at hl 1 rfl) ?_
  refine lv_bipush (v := (-59)) hx hb dX7_readLine_57 (by decide) ?_
  refine gw_v (wc := [(t, .inr (7, [.ref ta, .int 0, .ref dr, .int 0, .int 0, .int 1, .ref co, .int 0, .ref sk, .int 0])), (dr, .inl (J.2.1, 256, .inl (fun _ => 0)))]) (wr := []) hP hD hS hA [1, 0] [] rfl rfl (by decide) (by decide) (wn_V (As := [.int (-59)]) (rest := []) hx hb hml hown hts hK (cL_emit l J _ t ta dr co sk) kV_RX7_65 (hP.sub (ws' := [(t, .inr (7, [.ref ta, .int 0, .ref dr, .int 0, .int 0, .int 1, .ref co, .int 0, .ref sk, .int 0])), (dr, .inl (J.2.1, 256, .inl (fun _ => 0)))]) [1, 0] rfl) ((hD.sub (ws' := [(t, .inr (7, [.ref ta, .int 0, .ref dr, .int 0, .int 0, .int 1, .ref co, .int 0, .ref sk, .int 0])), (dr, .inl (J.2.1, 256, .inl (fun _ => 0)))]) [1, 0] (by decide) rfl).weaken (fun _ _ _ _ => trivial)) rfl rfl rfl ⟨Nat.le_of_ble_eq_true rfl, Nat.le_of_ble_eq_true rfl⟩ rfl rfl rfl hl.1 rfl (Nat.le_of_ble_eq_true rfl) ⟨Nat.le_of_ble_eq_true rfl, Nat.le_of_ble_eq_true rfl⟩ dX7_readLine_59) (fun u2 H locs hw hP hD hS => ?_)
  have hP : va_P J.1 cls [(t, .inr (7, [.ref ta, .int 0, .ref dr, .int 1, .int 0, .int 1, .ref co, .int 0, .ref sk, .int 0])), (dr, .inl (J.2.1, 256, .inl (upd (fun _ => 0) (0 : Int32).toNatClampNeg (-59))))] H := hP
  have hD : va_D A [(t, .inr (7, [.ref ta, .int 0, .ref dr, .int 1, .int 0, .int 1, .ref co, .int 0, .ref sk, .int 0])), (dr, .inl (J.2.1, 256, .inl (upd (fun _ => 0) (0 : Int32).toNatClampNeg (-59))))] := hD
  refine W.widen (k := 0) (n := 0) (Nat.le_of_ble_eq_true rfl) (Nat.le_of_ble_eq_true rfl) ?_
  refine lv_iload_n hx hb dX7_readLine_62 rfl (lv_at hl 0 rfl) ?_
  refine lv_if_lt (tgt := 83) hx hb dX7_readLine_63 (by decide) (fun _ => ?_) (fun c => absurd c (by decide))
  exact wz_v () hx hb hr hlk trivial hP hD hS dX7_readLine_83
theorem dX7_readLines_0 : decode cX7_readLines 0 = .ok (.iconst 0, 1) := by decide +kernel
theorem dX7_readLines_1 : decode cX7_readLines 1 = .ok (.istore_n 1, 1) := by decide +kernel
theorem dX7_readLines_2 : decode cX7_readLines 2 = .ok (.iload_n 1, 1) := by decide +kernel
theorem dX7_readLines_3 : decode cX7_readLines 3 = .ok (.bipush 120, 2) := by decide +kernel
theorem dX7_readLines_5 : decode cX7_readLines 5 = .ok (.if_icmp .gt 45, 3) := by decide +kernel
theorem dX7_readLines_8 : decode cX7_readLines 8 = .ok (.aload_n 0, 1) := by decide +kernel
theorem dX7_readLines_9 : decode cX7_readLines 9 = .ok (.getfield 34, 3) := by decide +kernel
theorem dX7_readLines_12 : decode cX7_readLines 12 = .ok (.ifCond .ne 38, 3) := by decide +kernel
theorem dX7_readLines_15 : decode cX7_readLines 15 = .ok (.aload_n 0, 1) := by decide +kernel
theorem q_692 : Cond.methodLink RX7 50 yX7_readLine ∈ lw_g := mem_q 692 (by decide +kernel) rfl
theorem q_694 : Cond.instanceMethod yX7_readLine ∈ lw_g := mem_q 694 (by decide +kernel) rfl
theorem q_10 : Cond.selects RX7 yX7_readLine yX7_readLine ∈ lw_g := mem_q 10 (by decide +kernel) rfl
theorem q_695 : Cond.code yX7_readLine cX7_readLine 2 none ∈ lw_g := mem_q 695 (by decide +kernel) rfl
theorem kV_RX7_50 : CV RX7 50 RX7 yX7_readLine cX7_readLine 2 none 0 := cv_of q_692 q_694 q_10 q_104 q_695 (by decide +kernel)
theorem dX7_readLines_16 : decode cX7_readLines 16 = .ok (.invokevirtual 50, 3) := by decide +kernel
theorem dX7_readLines_19 : decode cX7_readLines 19 = .ok (.aload_n 0, 1) := by decide +kernel
theorem dX7_readLines_20 : decode cX7_readLines 20 = .ok (.getfield 34, 3) := by decide +kernel
theorem dX7_readLines_23 : decode cX7_readLines 23 = .ok (.ifCond .ne 14, 3) := by decide +kernel
theorem dX7_readLines_37 : decode cX7_readLines 37 = .ok (.return_, 1) := by decide +kernel
set_option maxHeartbeats 4000000 in
set_option maxRecDepth 100000 in
theorem cL_lines (l : Launch) (J : va_J9) (sz : Nat) (t : Nat) (ta : Nat) (dr : Nat) (co : Nat) (sk : Nat) : WC l J yX7_readLines cX7_readLines 2 none ({ frames := 9, cells := 0, slots := 0, locals := 207 }) [.ref t] [(t, .inr (7, [.ref ta, .int 0, .ref dr, .int 0, .int 0, .int 0, .ref co, .int 0, .ref sk, .int 0])), (dr, .inl (J.2.1, 256, .inl (fun _ => 0)))] sz (Qv J (fun (u : Unit) => True) (fun (_ : Unit) => [(t, .inr (7, [.ref ta, .int 0, .ref dr, .int 1, .int 0, .int 1, .ref co, .int 0, .ref sk, .int 0])), (dr, .inl (J.2.1, 256, .inl (upd (fun _ => 0) (0 : Int32).toNatClampNeg (-59))))])) 0 0 := by
  refine wc_of (by decide) (Nat.le_of_ble_eq_true rfl) ?_
  intro p e s m below meth c ls A hE hl hP hK hD hS hA
  obtain ⟨hx, hb, hr, hml, hown, hts, hlk, hin⟩ := hE
  have hown : s.vm.findClass RX7 = some m.cls := hown
  have hl : lv_has ls 2 [(0, .ref t)] := hl
  refine lv_iconst (v := 0) hx hb dX7_readLines_0 (by decide) ?_
  refine lv_istore_n (lv' := [(1, .int 0), (0, .ref t)]) hx hb dX7_readLines_1 rfl hl (by decide) rfl (fun ls hl => ?_)
  refine lv_iload_n hx hb dX7_readLines_2 rfl (lv_at hl 0 rfl) ?_
  refine lv_bipush (v := 120) hx hb dX7_readLines_3 (by decide) ?_
  refine lv_icmp_gt (tgt := 50) hx hb dX7_readLines_5 (by decide) (fun c => absurd c (by decide)) (fun _ => ?_)
  refine lv_aload_n hx hb dX7_readLines_8 rfl (lv_at hl 1 rfl) ?_
  refine va_get (D := J.1) (ci := 7) (v := .int 0) (C := RX7) (T := TX7) (N := 10) hx hb hts inX7 hown hK.1 hP 0 rfl rfl 5 (by decide) (hts _ q_139) (fun _ h9 => h9) rfl dX7_readLines_9 ?_
  refine lv_if_ne (tgt := 50) hx hb dX7_readLines_12 (by decide) (fun c => absurd c (by decide)) (fun _ => ?_)
  refine lv_aload_n hx hb dX7_readLines_15 rfl (lv_at hl 1 rfl) ?_
  refine gw_v (wc := [(t, .inr (7, [.ref ta, .int 0, .ref dr, .int 0, .int 0, .int 0, .ref co, .int 0, .ref sk, .int 0])), (dr, .inl (J.2.1, 256, .inl (fun _ => 0)))]) (wr := []) hP hD hS hA [0, 1] [] rfl rfl (by decide) (by decide) (wn_V (As := []) (rest := []) hx hb hml hown hts hK (cL_line l J _ t ta dr co sk) kV_RX7_50 hP ((hD.sub (ws' := [(t, .inr (7, [.ref ta, .int 0, .ref dr, .int 0, .int 0, .int 0, .ref co, .int 0, .ref sk, .int 0])), (dr, .inl (J.2.1, 256, .inl (fun _ => 0)))]) [0, 1] (by decide) rfl).weaken (fun _ _ _ _ => trivial)) rfl rfl rfl ⟨Nat.le_of_ble_eq_true rfl, Nat.le_of_ble_eq_true rfl⟩ rfl rfl rfl hl.1 rfl (Nat.le_of_ble_eq_true rfl) ⟨Nat.le_of_ble_eq_true rfl, Nat.le_of_ble_eq_true rfl⟩ dX7_readLines_16) (fun u1 H locs hw hP hD hS => ?_)
  have hP : va_P J.1 cls [(t, .inr (7, [.ref ta, .int 0, .ref dr, .int 1, .int 0, .int 1, .ref co, .int 0, .ref sk, .int 0])), (dr, .inl (J.2.1, 256, .inl (upd (fun _ => 0) (0 : Int32).toNatClampNeg (-59))))] H := hP
  have hD : va_D A [(t, .inr (7, [.ref ta, .int 0, .ref dr, .int 1, .int 0, .int 1, .ref co, .int 0, .ref sk, .int 0])), (dr, .inl (J.2.1, 256, .inl (upd (fun _ => 0) (0 : Int32).toNatClampNeg (-59))))] := hD
  refine W.widen (k := 0) (n := 0) (Nat.le_of_ble_eq_true rfl) (Nat.le_of_ble_eq_true rfl) ?_
  refine lv_aload_n hx hb dX7_readLines_19 rfl (lv_at hl 1 rfl) ?_
  refine va_get (D := J.1) (ci := 7) (v := .int 1) (C := RX7) (T := TX7) (N := 10) hx hb hts inX7 hown hK.1 hP 0 rfl rfl 5 (by decide) (hts _ q_139) (fun _ h9 => h9) rfl dX7_readLines_20 ?_
  refine lv_if_ne (tgt := 37) hx hb dX7_readLines_23 (by decide) (fun _ => ?_) (fun c => absurd c (by decide))
  exact wz_v () hx hb hr hlk trivial hP hD hS dX7_readLines_37
theorem dX7_read_0 : decode cX7_read 0 = .ok (.aload_n 0, 1) := by decide +kernel
theorem dX7_read_1 : decode cX7_read 1 = .ok (.iconst 0, 1) := by decide +kernel
theorem dX7_read_2 : decode cX7_read 2 = .ok (.putfield 28, 3) := by decide +kernel
theorem dX7_read_5 : decode cX7_read 5 = .ok (.aload_n 0, 1) := by decide +kernel
theorem dX7_read_6 : decode cX7_read 6 = .ok (.iconst 0, 1) := by decide +kernel
theorem dX7_read_7 : decode cX7_read 7 = .ok (.putfield 31, 3) := by decide +kernel
theorem dX7_read_10 : decode cX7_read 10 = .ok (.aload_n 0, 1) := by decide +kernel
theorem dX7_read_11 : decode cX7_read 11 = .ok (.iconst 0, 1) := by decide +kernel
theorem dX7_read_12 : decode cX7_read 12 = .ok (.putfield 34, 3) := by decide +kernel
theorem dX7_read_15 : decode cX7_read 15 = .ok (.aload_n 0, 1) := by decide +kernel
theorem q_688 : Cond.methodLink RX7 38 yX7_readLines ∈ lw_g := mem_q 688 (by decide +kernel) rfl
theorem q_690 : Cond.instanceMethod yX7_readLines ∈ lw_g := mem_q 690 (by decide +kernel) rfl
theorem q_9 : Cond.selects RX7 yX7_readLines yX7_readLines ∈ lw_g := mem_q 9 (by decide +kernel) rfl
theorem q_691 : Cond.code yX7_readLines cX7_readLines 2 none ∈ lw_g := mem_q 691 (by decide +kernel) rfl
theorem kV_RX7_38 : CV RX7 38 RX7 yX7_readLines cX7_readLines 2 none 0 := cv_of q_688 q_690 q_9 q_104 q_691 (by decide +kernel)
theorem dX7_read_16 : decode cX7_read 16 = .ok (.invokevirtual 38, 3) := by decide +kernel
theorem dX7_read_19 : decode cX7_read 19 = .ok (.aload_n 0, 1) := by decide +kernel
theorem dX7_read_20 : decode cX7_read 20 = .ok (.iconst 0, 1) := by decide +kernel
theorem dX7_read_21 : decode cX7_read 21 = .ok (.putfield 24, 3) := by decide +kernel
theorem dX7_read_24 : decode cX7_read 24 = .ok (.aload_n 0, 1) := by decide +kernel
theorem dX7_read_25 : decode cX7_read 25 = .ok (.getfield 34, 3) := by decide +kernel
theorem dX7_read_28 : decode cX7_read 28 = .ok (.ifCond .eq 11, 3) := by decide +kernel
theorem dX7_read_31 : decode cX7_read 31 = .ok (.bipush (-100), 2) := by decide +kernel
theorem dX7_read_33 : decode cX7_read 33 = .ok (.aload_n 0, 1) := by decide +kernel
theorem dX7_read_34 : decode cX7_read 34 = .ok (.getfield 28, 3) := by decide +kernel
theorem dX7_read_37 : decode cX7_read 37 = .ok (.isub, 1) := by decide +kernel
theorem dX7_read_38 : decode cX7_read 38 = .ok (.ireturn, 1) := by decide +kernel
set_option maxHeartbeats 4000000 in
set_option maxRecDepth 100000 in
theorem cL_read (l : Launch) (J : va_J9) (sz : Nat) (t : Nat) (ta : Nat) (dr : Nat) (co : Nat) (sk : Nat) : WC l J yX7_read cX7_read 1 (some .int) ({ frames := 10, cells := 0, slots := 0, locals := 228 }) [.ref t] [(t, .inr (7, [.ref ta, .int 0, .ref dr, .int 0, .int 0, .int 0, .ref co, .int 0, .ref sk, .int 0])), (dr, .inl (J.2.1, 256, .inl (fun _ => 0)))] sz (Qi J (fun (r : Int32) (_ : Unit) => r = (-100)) (fun (_ : Unit) => [])) 0 0 := by
  refine wc_of (by decide) (Nat.le_of_ble_eq_true rfl) ?_
  intro p e s m below meth c ls A hE hl hP hK hD hS hA
  obtain ⟨hx, hb, hr, hml, hown, hts, hlk, hin⟩ := hE
  have hown : s.vm.findClass RX7 = some m.cls := hown
  have hl : lv_has ls 1 [(0, .ref t)] := hl
  refine lv_aload_n hx hb dX7_read_0 rfl (lv_at hl 0 rfl) ?_
  refine lv_iconst (v := 0) hx hb dX7_read_1 (by decide) ?_
  refine va_put (D := J.1) (ci := 7) (v := .int 0) (ty := (.int)) (C := RX7) (T := TX7) (N := 10) hx hb hts inX7 tyX7 tyX7_ok nmX7 hown hK.1 hP hD hS 0 rfl rfl 4 (by decide) (hts _ q_138) (fun _ h9 => h9) rfl (by decide +kernel) rfl rfl (Nat.le_of_ble_eq_true rfl) dX7_read_2 (fun H locs hP hD hS => ?_)
  have hP : va_P J.1 cls [(t, .inr (7, [.ref ta, .int 0, .ref dr, .int 0, .int 0, .int 0, .ref co, .int 0, .ref sk, .int 0])), (dr, .inl (J.2.1, 256, .inl (fun _ => 0)))] H := hP
  have hD : va_D A [(t, .inr (7, [.ref ta, .int 0, .ref dr, .int 0, .int 0, .int 0, .ref co, .int 0, .ref sk, .int 0])), (dr, .inl (J.2.1, 256, .inl (fun _ => 0)))] := hD
  refine lv_aload_n hx hb dX7_read_5 rfl (lv_at hl 0 rfl) ?_
  refine lv_iconst (v := 0) hx hb dX7_read_6 (by decide) ?_
  refine va_put (D := J.1) (ci := 7) (v := .int 0) (ty := (.int)) (C := RX7) (T := TX7) (N := 10) hx hb hts inX7 tyX7 tyX7_ok nmX7 hown hK.1 hP hD hS 0 rfl rfl 3 (by decide) (hts _ q_137) (fun _ h9 => h9) rfl (by decide +kernel) rfl rfl (Nat.le_of_ble_eq_true rfl) dX7_read_7 (fun H locs hP hD hS => ?_)
  have hP : va_P J.1 cls [(t, .inr (7, [.ref ta, .int 0, .ref dr, .int 0, .int 0, .int 0, .ref co, .int 0, .ref sk, .int 0])), (dr, .inl (J.2.1, 256, .inl (fun _ => 0)))] H := hP
  have hD : va_D A [(t, .inr (7, [.ref ta, .int 0, .ref dr, .int 0, .int 0, .int 0, .ref co, .int 0, .ref sk, .int 0])), (dr, .inl (J.2.1, 256, .inl (fun _ => 0)))] := hD
  refine lv_aload_n hx hb dX7_read_10 rfl (lv_at hl 0 rfl) ?_
  refine lv_iconst (v := 0) hx hb dX7_read_11 (by decide) ?_
  refine va_put (D := J.1) (ci := 7) (v := .int 0) (ty := (.boolean)) (C := RX7) (T := TX7) (N := 10) hx hb hts inX7 tyX7 tyX7_ok nmX7 hown hK.1 hP hD hS 0 rfl rfl 5 (by decide) (hts _ q_139) (fun _ h9 => h9) rfl (by decide +kernel) rfl rfl (Nat.le_of_ble_eq_true rfl) dX7_read_12 (fun H locs hP hD hS => ?_)
  have hP : va_P J.1 cls [(t, .inr (7, [.ref ta, .int 0, .ref dr, .int 0, .int 0, .int 0, .ref co, .int 0, .ref sk, .int 0])), (dr, .inl (J.2.1, 256, .inl (fun _ => 0)))] H := hP
  have hD : va_D A [(t, .inr (7, [.ref ta, .int 0, .ref dr, .int 0, .int 0, .int 0, .ref co, .int 0, .ref sk, .int 0])), (dr, .inl (J.2.1, 256, .inl (fun _ => 0)))] := hD
  refine lv_aload_n hx hb dX7_read_15 rfl (lv_at hl 0 rfl) ?_
  refine gw_v (wc := [(t, .inr (7, [.ref ta, .int 0, .ref dr, .int 0, .int 0, .int 0, .ref co, .int 0, .ref sk, .int 0])), (dr, .inl (J.2.1, 256, .inl (fun _ => 0)))]) (wr := []) hP hD hS hA [0, 1] [] rfl rfl (by decide) (by decide) (wn_V (As := []) (rest := []) hx hb hml hown hts hK (cL_lines l J _ t ta dr co sk) kV_RX7_38 hP ((hD.sub (ws' := [(t, .inr (7, [.ref ta, .int 0, .ref dr, .int 0, .int 0, .int 0, .ref co, .int 0, .ref sk, .int 0])), (dr, .inl (J.2.1, 256, .inl (fun _ => 0)))]) [0, 1] (by decide) rfl).weaken (fun _ _ _ _ => trivial)) rfl rfl rfl ⟨Nat.le_of_ble_eq_true rfl, Nat.le_of_ble_eq_true rfl⟩ rfl rfl rfl hl.1 rfl (Nat.le_of_ble_eq_true rfl) ⟨Nat.le_of_ble_eq_true rfl, Nat.le_of_ble_eq_true rfl⟩ dX7_read_16) (fun u1 H locs hw hP hD hS => ?_)
  have hP : va_P J.1 cls [(t, .inr (7, [.ref ta, .int 0, .ref dr, .int 1, .int 0, .int 1, .ref co, .int 0, .ref sk, .int 0])), (dr, .inl (J.2.1, 256, .inl (upd (fun _ => 0) (0 : Int32).toNatClampNeg (-59))))] H := hP
  have hD : va_D A [(t, .inr (7, [.ref ta, .int 0, .ref dr, .int 1, .int 0, .int 1, .ref co, .int 0, .ref sk, .int 0])), (dr, .inl (J.2.1, 256, .inl (upd (fun _ => 0) (0 : Int32).toNatClampNeg (-59))))] := hD
  refine W.widen (k := 0) (n := 0) (Nat.le_of_ble_eq_true rfl) (Nat.le_of_ble_eq_true rfl) ?_
  refine lv_aload_n hx hb dX7_read_19 rfl (lv_at hl 0 rfl) ?_
  refine lv_iconst (v := 0) hx hb dX7_read_20 (by decide) ?_
  refine va_put (D := J.1) (ci := 7) (v := .int 0) (ty := (.int)) (C := RX7) (T := TX7) (N := 10) hx hb hts inX7 tyX7 tyX7_ok nmX7 hown hK.1 hP hD hS 0 rfl rfl 1 (by decide) (hts _ q_134) (fun _ h9 => h9) rfl (by decide +kernel) rfl rfl (Nat.le_of_ble_eq_true rfl) dX7_read_21 (fun H locs hP hD hS => ?_)
  have hP : va_P J.1 cls [(t, .inr (7, [.ref ta, .int 0, .ref dr, .int 1, .int 0, .int 1, .ref co, .int 0, .ref sk, .int 0])), (dr, .inl (J.2.1, 256, .inl (upd (fun _ => 0) (0 : Int32).toNatClampNeg (-59))))] H := hP
  have hD : va_D A [(t, .inr (7, [.ref ta, .int 0, .ref dr, .int 1, .int 0, .int 1, .ref co, .int 0, .ref sk, .int 0])), (dr, .inl (J.2.1, 256, .inl (upd (fun _ => 0) (0 : Int32).toNatClampNeg (-59))))] := hD
  refine lv_aload_n hx hb dX7_read_24 rfl (lv_at hl 0 rfl) ?_
  refine va_get (D := J.1) (ci := 7) (v := .int 1) (C := RX7) (T := TX7) (N := 10) hx hb hts inX7 hown hK.1 hP 0 rfl rfl 5 (by decide) (hts _ q_139) (fun _ h9 => h9) rfl dX7_read_25 ?_
  refine lv_if_eq (tgt := 39) hx hb dX7_read_28 (by decide) (fun c => absurd c (by decide)) (fun _ => ?_)
  refine lv_bipush (v := (-100)) hx hb dX7_read_31 (by decide) ?_
  refine lv_aload_n hx hb dX7_read_33 rfl (lv_at hl 0 rfl) ?_
  refine va_get (D := J.1) (ci := 7) (v := .int 0) (C := RX7) (T := TX7) (N := 10) hx hb hts inX7 hown hK.1 hP 0 rfl rfl 4 (by decide) (hts _ q_138) (fun _ h9 => h9) rfl dX7_read_34 ?_
  refine lv_isub hx hb dX7_read_37 ?_
  refine top_i (y := (-100)) (by decide) ?_
  exact wz_i () hx hb hr hlk (by decide) (hP.sub (ws' := []) [] rfl) (hD.sub (ws' := []) [] (by decide) rfl) hS dX7_read_38
theorem dX10_settle_8 : decode cX10_settle 8 = .ok (.iconst 0, 1) := by decide +kernel
theorem dX10_settle_9 : decode cX10_settle 9 = .ok (.istore_n 1, 1) := by decide +kernel
theorem dX10_settle_10 : decode cX10_settle 10 = .ok (.iload_n 1, 1) := by decide +kernel
theorem dX10_settle_11 : decode cX10_settle 11 = .ok (.aload_n 0, 1) := by decide +kernel
theorem dX10_settle_12 : decode cX10_settle 12 = .ok (.getfield 36, 3) := by decide +kernel
theorem dX10_settle_15 : decode cX10_settle 15 = .ok (.if_icmp .ge 72, 3) := by decide +kernel
theorem dX10_settle_18 : decode cX10_settle 18 = .ok (.iconst 0, 1) := by decide +kernel
theorem dX10_settle_19 : decode cX10_settle 19 = .ok (.istore_n 2, 1) := by decide +kernel
theorem dX10_settle_20 : decode cX10_settle 20 = .ok (.iconst 0, 1) := by decide +kernel
theorem dX10_settle_21 : decode cX10_settle 21 = .ok (.istore_n 3, 1) := by decide +kernel
theorem dX10_settle_22 : decode cX10_settle 22 = .ok (.iload_n 3, 1) := by decide +kernel
theorem dX10_settle_23 : decode cX10_settle 23 = .ok (.aload_n 0, 1) := by decide +kernel
theorem dX10_settle_24 : decode cX10_settle 24 = .ok (.getfield 36, 3) := by decide +kernel
theorem dX10_settle_27 : decode cX10_settle 27 = .ok (.if_icmp .ge 47, 3) := by decide +kernel
theorem dX10_settle_30 : decode cX10_settle 30 = .ok (.aload_n 0, 1) := by decide +kernel
theorem q_172 : Cond.fieldLink RX10 25 RX10 "text" "LFoxHoles$Law;" ∈ lw_g := mem_q 172 (by decide +kernel) rfl
theorem dX10_settle_31 : decode cX10_settle 31 = .ok (.getfield 25, 3) := by decide +kernel
theorem dX10_settle_34 : decode cX10_settle 34 = .ok (.iload_n 1, 1) := by decide +kernel
theorem dX10_settle_35 : decode cX10_settle 35 = .ok (.iload_n 3, 1) := by decide +kernel
theorem dX10_settle_36 : decode cX10_settle 36 = .ok (.aload_n 0, 1) := by decide +kernel
theorem q_174 : Cond.fieldLink RX10 15 RX10 "joined" "[I" ∈ lw_g := mem_q 174 (by decide +kernel) rfl
theorem dX10_settle_37 : decode cX10_settle 37 = .ok (.getfield 15, 3) := by decide +kernel
theorem dX10_settle_40 : decode cX10_settle 40 = .ok (.iload_n 1, 1) := by decide +kernel
theorem dX10_settle_41 : decode cX10_settle 41 = .ok (.iaload, 1) := by decide +kernel
theorem dX10_settle_42 : decode cX10_settle 42 = .ok (.iload_n 3, 1) := by decide +kernel
theorem dX10_settle_43 : decode cX10_settle 43 = .ok (.ishr, 1) := by decide +kernel
theorem dX10_settle_44 : decode cX10_settle 44 = .ok (.iconst 1, 1) := by decide +kernel
theorem dX10_settle_45 : decode cX10_settle 45 = .ok (.iand, 1) := by decide +kernel
theorem dX10_settle_46 : decode cX10_settle 46 = .ok (.aload_n 0, 1) := by decide +kernel
theorem dX10_settle_47 : decode cX10_settle 47 = .ok (.getfield 9, 3) := by decide +kernel
theorem dX10_settle_50 : decode cX10_settle 50 = .ok (.iload_n 3, 1) := by decide +kernel
theorem dX10_settle_51 : decode cX10_settle 51 = .ok (.iaload, 1) := by decide +kernel
theorem dX10_settle_52 : decode cX10_settle 52 = .ok (.aload_n 0, 1) := by decide +kernel
theorem dX10_settle_53 : decode cX10_settle 53 = .ok (.getfield 36, 3) := by decide +kernel
theorem q_520 : Cond.methodLink RX10 100 yX7_worth ∈ lw_g := mem_q 520 (by decide +kernel) rfl
theorem q_521 : Cond.instanceMethod yX7_worth ∈ lw_g := mem_q 521 (by decide +kernel) rfl
theorem q_522 : Cond.selects RX7 yX7_worth yX7_worth ∈ lw_g := mem_q 522 (by decide +kernel) rfl
theorem q_523 : Cond.code yX7_worth cX7_worth 9 (some .int) ∈ lw_g := mem_q 523 (by decide +kernel) rfl
theorem kV_RX10_100 : CV RX10 100 RX7 yX7_worth cX7_worth 9 (some .int) 5 := cv_of q_520 q_521 q_522 q_104 q_523 (by decide +kernel)
theorem dX10_settle_56 : decode cX10_settle 56 = .ok (.invokevirtual 100, 3) := by decide +kernel
theorem dX10_settle_59 : decode cX10_settle 59 = .ok (.ifCond .eq 9, 3) := by decide +kernel
theorem dX10_settle_68 : decode cX10_settle 68 = .ok (.iinc 3 1, 3) := by decide +kernel
theorem dX10_settle_71 : decode cX10_settle 71 = .ok (.goto (-49), 3) := by decide +kernel
theorem dX10_settle_74 : decode cX10_settle 74 = .ok (.aload_n 0, 1) := by decide +kernel
theorem q_175 : Cond.fieldLink RX10 18 RX10 "lawful" "[I" ∈ lw_g := mem_q 175 (by decide +kernel) rfl
theorem dX10_settle_75 : decode cX10_settle 75 = .ok (.getfield 18, 3) := by decide +kernel
theorem dX10_settle_78 : decode cX10_settle 78 = .ok (.iload_n 1, 1) := by decide +kernel
theorem dX10_settle_79 : decode cX10_settle 79 = .ok (.iload_n 2, 1) := by decide +kernel
theorem dX10_settle_80 : decode cX10_settle 80 = .ok (.iastore, 1) := by decide +kernel
theorem dX10_settle_81 : decode cX10_settle 81 = .ok (.iinc 1 1, 3) := by decide +kernel
theorem dX10_settle_84 : decode cX10_settle 84 = .ok (.goto (-74), 3) := by decide +kernel
theorem dX10_settle_87 : decode cX10_settle 87 = .ok (.aload_n 0, 1) := by decide +kernel
theorem dX10_settle_88 : decode cX10_settle 88 = .ok (.iconst 0, 1) := by decide +kernel
theorem dX10_settle_89 : decode cX10_settle 89 = .ok (.putfield 29, 3) := by decide +kernel
theorem dX10_settle_92 : decode cX10_settle 92 = .ok (.return_, 1) := by decide +kernel
set_option maxHeartbeats 4000000 in
set_option maxRecDepth 100000 in
theorem cW_settle1 (l : Launch) (J : va_J9) (sz : Nat) (w : Nat) (t : Nat) (we : Nat) (jo : Nat) (la : Nat) (ta : Nat) (dr : Nat) (co : Nat) (sk : Nat) (n : Int32) : WC l J yX10_settle cX10_settle 4 none ({ frames := 1, cells := 0, slots := 0, locals := 28 }) [.ref w] [(w, .inr (10, [.ref t, .ref we, .ref jo, .ref la, .int 1, .int 0, .int 1, .int 0, .int 1, .int 0, .int 1])), (t, .inr (7, [.ref ta, .int 0, .ref dr, .int 0, .int 0, .int 0, .ref co, .int 0, .ref sk, .int 0])), (we, .inl (J.2.1, 10, .inl (upd (fun _ => 0) (0 : Int32).toNatClampNeg n))), (jo, .inl (J.2.1, 10, .inl (fun _ => 0))), (la, .inl (J.2.1, 10, .inl (fun _ => 0)))] sz (Qv J (fun (u : Unit) => True) (fun (_ : Unit) => [])) 0 0 := by
  refine wc_of (by decide) (Nat.le_of_ble_eq_true rfl) ?_
  intro p e s m below meth c ls A hE hl hP hK hD hS hA
  obtain ⟨hx, hb, hr, hml, hown, hts, hlk, hin⟩ := hE
  have hown : s.vm.findClass RX10 = some m.cls := hown
  have hl : lv_has ls 4 [(0, .ref w)] := hl
  refine lv_aload_n hx hb dX10_settle_0 rfl (lv_at hl 0 rfl) ?_
  refine va_get (D := J.1) (ci := 10) (v := .int 1) (C := RX10) (T := TX10) (N := 11) hx hb hts inX10 hown hK.1 hP 0 rfl rfl 4 (by decide) (hts _ q_176) (fun _ h9 => h9) rfl dX10_settle_1 ?_
  refine lv_if_ne (tgt := 8) hx hb dX10_settle_4 (by decide) (fun _ => ?_) (fun c => absurd c (by decide))
  refine lv_iconst (v := 0) hx hb dX10_settle_8 (by decide) ?_
  refine lv_istore_n (lv' := [(1, .int 0), (0, .ref w)]) hx hb dX10_settle_9 rfl hl (by decide) rfl (fun ls hl => ?_)
  refine lv_iload_n hx hb dX10_settle_10 rfl (lv_at hl 0 rfl) ?_
  refine lv_aload_n hx hb dX10_settle_11 rfl (lv_at hl 1 rfl) ?_
  refine va_get (D := J.1) (ci := 10) (v := .int 1) (C := RX10) (T := TX10) (N := 11) hx hb hts inX10 hown hK.1 hP 0 rfl rfl 6 (by decide) (hts _ q_178) (fun _ h9 => h9) rfl dX10_settle_12 ?_
  refine lv_icmp_ge (tgt := 87) hx hb dX10_settle_15 (by decide) (fun c => absurd c (by decide)) (fun _ => ?_)
  refine lv_iconst (v := 0) hx hb dX10_settle_18 (by decide) ?_
  refine lv_istore_n (lv' := [(2, .int 0), (1, .int 0), (0, .ref w)]) hx hb dX10_settle_19 rfl hl (by decide) rfl (fun ls hl => ?_)
  refine lv_iconst (v := 0) hx hb dX10_settle_20 (by decide) ?_
  refine lv_istore_n (lv' := [(3, .int 0), (2, .int 0), (1, .int 0), (0, .ref w)]) hx hb dX10_settle_21 rfl hl (by decide) rfl (fun ls hl => ?_)
  refine lv_iload_n hx hb dX10_settle_22 rfl (lv_at hl 0 rfl) ?_
  refine lv_aload_n hx hb dX10_settle_23 rfl (lv_at hl 3 rfl) ?_
  refine va_get (D := J.1) (ci := 10) (v := .int 1) (C := RX10) (T := TX10) (N := 11) hx hb hts inX10 hown hK.1 hP 0 rfl rfl 6 (by decide) (hts _ q_178) (fun _ h9 => h9) rfl dX10_settle_24 ?_
  refine lv_icmp_ge (tgt := 74) hx hb dX10_settle_27 (by decide) (fun c => absurd c (by decide)) (fun _ => ?_)
  refine lv_aload_n hx hb dX10_settle_30 rfl (lv_at hl 3 rfl) ?_
  refine va_get (D := J.1) (ci := 10) (v := .ref t) (C := RX10) (T := TX10) (N := 11) hx hb hts inX10 hown hK.1 hP 0 rfl rfl 0 (by decide) (hts _ q_172) (fun _ h9 => h9) rfl dX10_settle_31 ?_
  refine lv_iload_n hx hb dX10_settle_34 rfl (lv_at hl 2 rfl) ?_
  refine lv_iload_n hx hb dX10_settle_35 rfl (lv_at hl 0 rfl) ?_
  refine lv_aload_n hx hb dX10_settle_36 rfl (lv_at hl 3 rfl) ?_
  refine va_get (D := J.1) (ci := 10) (v := .ref jo) (C := RX10) (T := TX10) (N := 11) hx hb hts inX10 hown hK.1 hP 0 rfl rfl 2 (by decide) (hts _ q_174) (fun _ h9 => h9) rfl dX10_settle_37 ?_
  refine lv_iload_n hx hb dX10_settle_40 rfl (lv_at hl 2 rfl) ?_
  have h1 : vp_in 0 10 := (i_in (a := 0) (by decide) (by omega) (by omega))
  refine va_iald hx hb hK.1 hP 3 0 rfl rfl h1 dX10_settle_41 ?_
  refine top_i (y := 0) rfl ?_
  refine lv_iload_n hx hb dX10_settle_42 rfl (lv_at hl 0 rfl) ?_
  refine lv_ishr hx hb dX10_settle_43 ?_
  refine top_i (y := 0) (by decide) ?_
  refine lv_iconst (v := 1) hx hb dX10_settle_44 (by decide) ?_
  refine lv_iand hx hb dX10_settle_45 ?_
  refine top_i (y := 0) (by decide) ?_
  refine lv_aload_n hx hb dX10_settle_46 rfl (lv_at hl 3 rfl) ?_
  refine va_get (D := J.1) (ci := 10) (v := .ref we) (C := RX10) (T := TX10) (N := 11) hx hb hts inX10 hown hK.1 hP 0 rfl rfl 1 (by decide) (hts _ q_173) (fun _ h9 => h9) rfl dX10_settle_47 ?_
  refine lv_iload_n hx hb dX10_settle_50 rfl (lv_at hl 0 rfl) ?_
  have h2 : vp_in 0 10 := (i_in (a := 0) (by decide) (by omega) (by omega))
  refine va_iald hx hb hK.1 hP 2 0 rfl rfl h2 dX10_settle_51 ?_
  refine top_i (y := n) rfl ?_
  refine lv_aload_n hx hb dX10_settle_52 rfl (lv_at hl 3 rfl) ?_
  refine va_get (D := J.1) (ci := 10) (v := .int 1) (C := RX10) (T := TX10) (N := 11) hx hb hts inX10 hown hK.1 hP 0 rfl rfl 6 (by decide) (hts _ q_178) (fun _ h9 => h9) rfl dX10_settle_53 ?_
  refine go_i (rn_V (As := [.int 0, .int 0, .int 0, .int n, .int 1]) (rest := []) hx hb hml hown hts hK (cL_worth l J t ta dr co sk 0 0 0 n 1) kV_RX10_100 (hP.sub (ws' := [(t, .inr (7, [.ref ta, .int 0, .ref dr, .int 0, .int 0, .int 0, .ref co, .int 0, .ref sk, .int 0]))]) [1] rfl) rfl rfl rfl ⟨Nat.le_of_ble_eq_true rfl, Nat.le_of_ble_eq_true rfl⟩ rfl rfl rfl hl.1 rfl (Nat.le_of_ble_eq_true rfl) ⟨Nat.le_of_ble_eq_true rfl, Nat.le_of_ble_eq_true rfl⟩ dX10_settle_56) ?_
  refine lv_if_eq (tgt := 68) hx hb dX10_settle_59 (by decide) (fun _ => ?_) (fun c => absurd c (by decide))
  refine lv_iinc (v := 1) (lv' := [(3, .int 1), (2, .int 0), (1, .int 0), (0, .ref w)]) hx hb dX10_settle_68 hl (k := 0) rfl (by decide) (by decide) rfl (fun ls hl => ?_)
  refine lv_goto (tgt := 22) hx hb dX10_settle_71 (by decide) ?_
  refine lv_iload_n hx hb dX10_settle_22 rfl (lv_at hl 0 rfl) ?_
  refine lv_aload_n hx hb dX10_settle_23 rfl (lv_at hl 3 rfl) ?_
  refine va_get (D := J.1) (ci := 10) (v := .int 1) (C := RX10) (T := TX10) (N := 11) hx hb hts inX10 hown hK.1 hP 0 rfl rfl 6 (by decide) (hts _ q_178) (fun _ h9 => h9) rfl dX10_settle_24 ?_
  refine lv_icmp_ge (tgt := 74) hx hb dX10_settle_27 (by decide) (fun _ => ?_) (fun c => absurd c (by decide))
  refine lv_aload_n hx hb dX10_settle_74 rfl (lv_at hl 3 rfl) ?_
  refine va_get (D := J.1) (ci := 10) (v := .ref la) (C := RX10) (T := TX10) (N := 11) hx hb hts inX10 hown hK.1 hP 0 rfl rfl 3 (by decide) (hts _ q_175) (fun _ h9 => h9) rfl dX10_settle_75 ?_
  refine lv_iload_n hx hb dX10_settle_78 rfl (lv_at hl 2 rfl) ?_
  refine lv_iload_n hx hb dX10_settle_79 rfl (lv_at hl 1 rfl) ?_
  have h3 : vp_in 0 10 := (i_in (a := 0) (by decide) (by omega) (by omega))
  refine va_iast hx hb hK.1 hP hD hS 4 0 rfl rfl h3 dX10_settle_80 (fun H locs hP hD hS => ?_)
  have hP : va_P J.1 cls [(w, .inr (10, [.ref t, .ref we, .ref jo, .ref la, .int 1, .int 0, .int 1, .int 0, .int 1, .int 0, .int 1])), (t, .inr (7, [.ref ta, .int 0, .ref dr, .int 0, .int 0, .int 0, .ref co, .int 0, .ref sk, .int 0])), (we, .inl (J.2.1, 10, .inl (upd (fun _ => 0) (0 : Int32).toNatClampNeg n))), (jo, .inl (J.2.1, 10, .inl (fun _ => 0))), (la, .inl (J.2.1, 10, .inl (upd (fun _ => 0) (0 : Int32).toNatClampNeg 0)))] H := hP
  have hD : va_D A [(w, .inr (10, [.ref t, .ref we, .ref jo, .ref la, .int 1, .int 0, .int 1, .int 0, .int 1, .int 0, .int 1])), (t, .inr (7, [.ref ta, .int 0, .ref dr, .int 0, .int 0, .int 0, .ref co, .int 0, .ref sk, .int 0])), (we, .inl (J.2.1, 10, .inl (upd (fun _ => 0) (0 : Int32).toNatClampNeg n))), (jo, .inl (J.2.1, 10, .inl (fun _ => 0))), (la, .inl (J.2.1, 10, .inl (upd (fun _ => 0) (0 : Int32).toNatClampNeg 0)))] := hD
  refine lv_iinc (v := 1) (lv' := [(1, .int 1), (3, .int 1), (2, .int 0), (0, .ref w)]) hx hb dX10_settle_81 hl (k := 2) rfl (by decide) (by decide) rfl (fun ls hl => ?_)
  refine lv_goto (tgt := 10) hx hb dX10_settle_84 (by decide) ?_
  refine lv_iload_n hx hb dX10_settle_10 rfl (lv_at hl 0 rfl) ?_
  refine lv_aload_n hx hb dX10_settle_11 rfl (lv_at hl 3 rfl) ?_
  refine va_get (D := J.1) (ci := 10) (v := .int 1) (C := RX10) (T := TX10) (N := 11) hx hb hts inX10 hown hK.1 hP 0 rfl rfl 6 (by decide) (hts _ q_178) (fun _ h9 => h9) rfl dX10_settle_12 ?_
  refine lv_icmp_ge (tgt := 87) hx hb dX10_settle_15 (by decide) (fun _ => ?_) (fun c => absurd c (by decide))
  refine lv_aload_n hx hb dX10_settle_87 rfl (lv_at hl 3 rfl) ?_
  refine lv_iconst (v := 0) hx hb dX10_settle_88 (by decide) ?_
  refine va_put (D := J.1) (ci := 10) (v := .int 0) (ty := (.boolean)) (C := RX10) (T := TX10) (N := 11) hx hb hts inX10 tyX10 tyX10_ok nmX10 hown hK.1 hP hD hS 0 rfl rfl 4 (by decide) (hts _ q_176) (fun _ h9 => h9) rfl (by decide +kernel) rfl rfl (Nat.le_of_ble_eq_true rfl) dX10_settle_89 (fun H locs hP hD hS => ?_)
  have hP : va_P J.1 cls [(w, .inr (10, [.ref t, .ref we, .ref jo, .ref la, .int 0, .int 0, .int 1, .int 0, .int 1, .int 0, .int 1])), (t, .inr (7, [.ref ta, .int 0, .ref dr, .int 0, .int 0, .int 0, .ref co, .int 0, .ref sk, .int 0])), (we, .inl (J.2.1, 10, .inl (upd (fun _ => 0) (0 : Int32).toNatClampNeg n))), (jo, .inl (J.2.1, 10, .inl (fun _ => 0))), (la, .inl (J.2.1, 10, .inl (upd (fun _ => 0) (0 : Int32).toNatClampNeg 0)))] H := hP
  have hD : va_D A [(w, .inr (10, [.ref t, .ref we, .ref jo, .ref la, .int 0, .int 0, .int 1, .int 0, .int 1, .int 0, .int 1])), (t, .inr (7, [.ref ta, .int 0, .ref dr, .int 0, .int 0, .int 0, .ref co, .int 0, .ref sk, .int 0])), (we, .inl (J.2.1, 10, .inl (upd (fun _ => 0) (0 : Int32).toNatClampNeg n))), (jo, .inl (J.2.1, 10, .inl (fun _ => 0))), (la, .inl (J.2.1, 10, .inl (upd (fun _ => 0) (0 : Int32).toNatClampNeg 0)))] := hD
  exact wz_v () hx hb hr hlk trivial (hP.sub (ws' := []) [] rfl) (hD.sub (ws' := []) [] (by decide) rfl) hS dX10_settle_92
theorem dX10_become_0 : decode cX10_become 0 = .ok (.aload_n 0, 1) := by decide +kernel
theorem dX10_become_1 : decode cX10_become 1 = .ok (.iload_n 1, 1) := by decide +kernel
theorem dX10_become_2 : decode cX10_become 2 = .ok (.iload_n 2, 1) := by decide +kernel
theorem dX10_become_3 : decode cX10_become 3 = .ok (.iload_n 3, 1) := by decide +kernel
theorem q_637 : Cond.methodLink RX10 80 yX10_mayBecome ∈ lw_g := mem_q 637 (by decide +kernel) rfl
theorem q_618 : Cond.instanceMethod yX10_mayBecome ∈ lw_g := mem_q 618 (by decide +kernel) rfl
theorem q_619 : Cond.selects RX10 yX10_mayBecome yX10_mayBecome ∈ lw_g := mem_q 619 (by decide +kernel) rfl
theorem q_620 : Cond.code yX10_mayBecome cX10_mayBecome 4 (some .boolean) ∈ lw_g := mem_q 620 (by decide +kernel) rfl
theorem kV_RX10_80 : CV RX10 80 RX10 yX10_mayBecome cX10_mayBecome 4 (some .boolean) 3 := cv_of q_637 q_618 q_619 q_105 q_620 (by decide +kernel)
theorem dX10_become_4 : decode cX10_become 4 = .ok (.invokevirtual 80, 3) := by decide +kernel
theorem dX10_become_7 : decode cX10_become 7 = .ok (.ifCond .ne 4, 3) := by decide +kernel
theorem dX10_become_11 : decode cX10_become 11 = .ok (.iload_n 2, 1) := by decide +kernel
theorem dX10_become_12 : decode cX10_become 12 = .ok (.tableswitch 67 0 2 #[28, 38, 59], 28) := by decide +kernel
theorem dX10_become_71 : decode cX10_become 71 = .ok (.aload_n 0, 1) := by decide +kernel
theorem dX10_become_72 : decode cX10_become 72 = .ok (.iload_n 3, 1) := by decide +kernel
theorem dX10_become_73 : decode cX10_become 73 = .ok (.putfield 21, 3) := by decide +kernel
theorem dX10_become_76 : decode cX10_become 76 = .ok (.goto 8, 3) := by decide +kernel
theorem dX10_become_84 : decode cX10_become 84 = .ok (.aload_n 0, 1) := by decide +kernel
theorem dX10_become_85 : decode cX10_become 85 = .ok (.dup, 1) := by decide +kernel
theorem dX10_become_86 : decode cX10_become 86 = .ok (.getfield 29, 3) := by decide +kernel
theorem dX10_become_89 : decode cX10_become 89 = .ok (.iload_n 2, 1) := by decide +kernel
theorem dX10_become_90 : decode cX10_become 90 = .ok (.ifCond .ne 7, 3) := by decide +kernel
theorem dX10_become_97 : decode cX10_become 97 = .ok (.iconst 0, 1) := by decide +kernel
theorem dX10_become_98 : decode cX10_become 98 = .ok (.ior, 1) := by decide +kernel
theorem dX10_become_99 : decode cX10_become 99 = .ok (.putfield 29, 3) := by decide +kernel
theorem dX10_become_102 : decode cX10_become 102 = .ok (.aload_n 0, 1) := by decide +kernel
theorem dX10_become_103 : decode cX10_become 103 = .ok (.dup, 1) := by decide +kernel
theorem dX10_become_104 : decode cX10_become 104 = .ok (.getfield 33, 3) := by decide +kernel
theorem dX10_become_107 : decode cX10_become 107 = .ok (.iconst 1, 1) := by decide +kernel
theorem dX10_become_108 : decode cX10_become 108 = .ok (.iadd, 1) := by decide +kernel
theorem dX10_become_109 : decode cX10_become 109 = .ok (.putfield 33, 3) := by decide +kernel
theorem dX10_become_112 : decode cX10_become 112 = .ok (.return_, 1) := by decide +kernel
set_option maxHeartbeats 4000000 in
set_option maxRecDepth 100000 in
theorem cW_become2 (l : Launch) (J : va_J9) (sz : Nat) (w : Nat) (t : Nat) (we : Nat) (jo : Nat) (la : Nat) (v : Int32) (hv : 1 ≤ v.toInt ∧ v.toInt ≤ 2) : WC l J yX10_become cX10_become 4 none ({ frames := 1, cells := 0, slots := 0, locals := 23 }) [.ref w, .int 0, .int 2, .int v] [(w, .inr (10, [.ref t, .ref we, .ref jo, .ref la, .int 0, .int 0, .int 0, .int 0, .int 1, .int 0, .int 0]))] sz (Qv J (fun (u : Unit) => True) (fun (_ : Unit) => [(w, .inr (10, [.ref t, .ref we, .ref jo, .ref la, .int 0, .int 0, .int 0, .int 0, .int v, .int 0, .int 1]))])) 0 0 := by
  refine wc_of (by decide) (Nat.le_of_ble_eq_true rfl) ?_
  intro p e s m below meth c ls A hE hl hP hK hD hS hA
  obtain ⟨hx, hb, hr, hml, hown, hts, hlk, hin⟩ := hE
  have hown : s.vm.findClass RX10 = some m.cls := hown
  have hl : lv_has ls 4 [(0, .ref w), (1, .int 0), (2, .int 2), (3, .int v)] := hl
  have rg_v := i_rng v
  refine lv_aload_n hx hb dX10_become_0 rfl (lv_at hl 0 rfl) ?_
  refine lv_iload_n hx hb dX10_become_1 rfl (lv_at hl 1 rfl) ?_
  refine lv_iload_n hx hb dX10_become_2 rfl (lv_at hl 2 rfl) ?_
  refine lv_iload_n hx hb dX10_become_3 rfl (lv_at hl 3 rfl) ?_
  refine go_i (rn_V (As := [.int 0, .int 2, .int v]) (rest := []) hx hb hml hown hts hK (cW_mayB2 l J w t we jo la v) kV_RX10_80 hP rfl rfl rfl ⟨Nat.le_of_ble_eq_true rfl, Nat.le_of_ble_eq_true rfl⟩ rfl rfl rfl hl.1 rfl (Nat.le_of_ble_eq_true rfl) ⟨Nat.le_of_ble_eq_true rfl, Nat.le_of_ble_eq_true rfl⟩ dX10_become_4) ?_
  refine lv_if_ne (tgt := 11) hx hb dX10_become_7 (by decide) (fun _ => ?_) (fun c1 => (b0 c1 (by omega)).elim)
  refine lv_iload_n hx hb dX10_become_11 rfl (lv_at hl 2 rfl) ?_
  refine lv_tableIn (tgt := 71) (off := 59) hx hb dX10_become_12 (by decide) (by decide) (by decide) (by decide) ?_
  refine lv_aload_n hx hb dX10_become_71 rfl (lv_at hl 0 rfl) ?_
  refine lv_iload_n hx hb dX10_become_72 rfl (lv_at hl 3 rfl) ?_
  refine va_put (D := J.1) (ci := 10) (v := .int v) (ty := (.int)) (C := RX10) (T := TX10) (N := 11) hx hb hts inX10 tyX10 tyX10_ok nmX10 hown hK.1 hP hD hS 0 rfl rfl 8 (by decide) (hts _ q_184) (fun _ h9 => h9) rfl (by decide +kernel) rfl rfl (Nat.le_of_ble_eq_true rfl) dX10_become_73 (fun H locs hP hD hS => ?_)
  have hP : va_P J.1 cls [(w, .inr (10, [.ref t, .ref we, .ref jo, .ref la, .int 0, .int 0, .int 0, .int 0, .int v, .int 0, .int 0]))] H := hP
  have hD : va_D A [(w, .inr (10, [.ref t, .ref we, .ref jo, .ref la, .int 0, .int 0, .int 0, .int 0, .int v, .int 0, .int 0]))] := hD
  refine lv_goto (tgt := 84) hx hb dX10_become_76 (by decide) ?_
  refine lv_aload_n hx hb dX10_become_84 rfl (lv_at hl 0 rfl) ?_
  refine lv_dup hx hb dX10_become_85 rfl ?_
  refine va_get (D := J.1) (ci := 10) (v := .int 0) (C := RX10) (T := TX10) (N := 11) hx hb hts inX10 hown hK.1 hP 0 rfl rfl 4 (by decide) (hts _ q_176) (fun _ h9 => h9) rfl dX10_become_86 ?_
  refine lv_iload_n hx hb dX10_become_89 rfl (lv_at hl 2 rfl) ?_
  refine lv_if_ne (tgt := 97) hx hb dX10_become_90 (by decide) (fun _ => ?_) (fun c => absurd c (by decide))
  refine lv_iconst (v := 0) hx hb dX10_become_97 (by decide) ?_
  refine lv_ior hx hb dX10_become_98 ?_
  refine top_i (y := 0) (by decide) ?_
  refine va_put (D := J.1) (ci := 10) (v := .int 0) (ty := (.boolean)) (C := RX10) (T := TX10) (N := 11) hx hb hts inX10 tyX10 tyX10_ok nmX10 hown hK.1 hP hD hS 0 rfl rfl 4 (by decide) (hts _ q_176) (fun _ h9 => h9) rfl (by decide +kernel) rfl rfl (Nat.le_of_ble_eq_true rfl) dX10_become_99 (fun H locs hP hD hS => ?_)
  have hP : va_P J.1 cls [(w, .inr (10, [.ref t, .ref we, .ref jo, .ref la, .int 0, .int 0, .int 0, .int 0, .int v, .int 0, .int 0]))] H := hP
  have hD : va_D A [(w, .inr (10, [.ref t, .ref we, .ref jo, .ref la, .int 0, .int 0, .int 0, .int 0, .int v, .int 0, .int 0]))] := hD
  refine lv_aload_n hx hb dX10_become_102 rfl (lv_at hl 0 rfl) ?_
  refine lv_dup hx hb dX10_become_103 rfl ?_
  refine va_get (D := J.1) (ci := 10) (v := .int 0) (C := RX10) (T := TX10) (N := 11) hx hb hts inX10 hown hK.1 hP 0 rfl rfl 10 (by decide) (hts _ q_191) (fun _ h9 => h9) rfl dX10_become_104 ?_
  refine lv_iconst (v := 1) hx hb dX10_become_107 (by decide) ?_
  refine lv_iadd hx hb dX10_become_108 ?_
  refine top_i (y := 1) (by decide) ?_
  refine va_put (D := J.1) (ci := 10) (v := .int 1) (ty := (.int)) (C := RX10) (T := TX10) (N := 11) hx hb hts inX10 tyX10 tyX10_ok nmX10 hown hK.1 hP hD hS 0 rfl rfl 10 (by decide) (hts _ q_191) (fun _ h9 => h9) rfl (by decide +kernel) rfl rfl (Nat.le_of_ble_eq_true rfl) dX10_become_109 (fun H locs hP hD hS => ?_)
  have hP : va_P J.1 cls [(w, .inr (10, [.ref t, .ref we, .ref jo, .ref la, .int 0, .int 0, .int 0, .int 0, .int v, .int 0, .int 1]))] H := hP
  have hD : va_D A [(w, .inr (10, [.ref t, .ref we, .ref jo, .ref la, .int 0, .int 0, .int 0, .int 0, .int v, .int 0, .int 1]))] := hD
  exact wz_v () hx hb hr hlk trivial hP hD hS dX10_become_112
theorem dX10_become_79 : decode cX10_become 79 = .ok (.aload_n 0, 1) := by decide +kernel
theorem dX10_become_80 : decode cX10_become 80 = .ok (.iload_n 3, 1) := by decide +kernel
theorem dX10_become_81 : decode cX10_become 81 = .ok (.putfield 77, 3) := by decide +kernel
set_option maxHeartbeats 4000000 in
set_option maxRecDepth 100000 in
theorem cW_become3 (l : Launch) (J : va_J9) (sz : Nat) (w : Nat) (t : Nat) (we : Nat) (jo : Nat) (la : Nat) (v : Int32) (hv : 0 ≤ v.toInt ∧ v.toInt ≤ 127) : WC l J yX10_become cX10_become 4 none ({ frames := 1, cells := 0, slots := 0, locals := 23 }) [.ref w, .int 0, .int 3, .int v] [(w, .inr (10, [.ref t, .ref we, .ref jo, .ref la, .int 0, .int 0, .int 0, .int 0, .int 1, .int 0, .int 0]))] sz (Qv J (fun (u : Unit) => True) (fun (_ : Unit) => [(w, .inr (10, [.ref t, .ref we, .ref jo, .ref la, .int 0, .int 0, .int 0, .int 0, .int 1, .int v, .int 1]))])) 0 0 := by
  refine wc_of (by decide) (Nat.le_of_ble_eq_true rfl) ?_
  intro p e s m below meth c ls A hE hl hP hK hD hS hA
  obtain ⟨hx, hb, hr, hml, hown, hts, hlk, hin⟩ := hE
  have hown : s.vm.findClass RX10 = some m.cls := hown
  have hl : lv_has ls 4 [(0, .ref w), (1, .int 0), (2, .int 3), (3, .int v)] := hl
  have rg_v := i_rng v
  refine lv_aload_n hx hb dX10_become_0 rfl (lv_at hl 0 rfl) ?_
  refine lv_iload_n hx hb dX10_become_1 rfl (lv_at hl 1 rfl) ?_
  refine lv_iload_n hx hb dX10_become_2 rfl (lv_at hl 2 rfl) ?_
  refine lv_iload_n hx hb dX10_become_3 rfl (lv_at hl 3 rfl) ?_
  refine go_i (rn_V (As := [.int 0, .int 3, .int v]) (rest := []) hx hb hml hown hts hK (cW_mayB3 l J w t we jo la v) kV_RX10_80 hP rfl rfl rfl ⟨Nat.le_of_ble_eq_true rfl, Nat.le_of_ble_eq_true rfl⟩ rfl rfl rfl hl.1 rfl (Nat.le_of_ble_eq_true rfl) ⟨Nat.le_of_ble_eq_true rfl, Nat.le_of_ble_eq_true rfl⟩ dX10_become_4) ?_
  refine lv_if_ne (tgt := 11) hx hb dX10_become_7 (by decide) (fun _ => ?_) (fun c1 => (b0 c1 (by omega)).elim)
  refine lv_iload_n hx hb dX10_become_11 rfl (lv_at hl 2 rfl) ?_
  refine lv_tableOut (tgt := 79) hx hb dX10_become_12 (by decide) (by decide) ?_
  refine lv_aload_n hx hb dX10_become_79 rfl (lv_at hl 0 rfl) ?_
  refine lv_iload_n hx hb dX10_become_80 rfl (lv_at hl 3 rfl) ?_
  refine va_put (D := J.1) (ci := 10) (v := .int v) (ty := (.int)) (C := RX10) (T := TX10) (N := 11) hx hb hts inX10 tyX10 tyX10_ok nmX10 hown hK.1 hP hD hS 0 rfl rfl 9 (by decide) (hts _ q_190) (fun _ h9 => h9) rfl (by decide +kernel) rfl rfl (Nat.le_of_ble_eq_true rfl) dX10_become_81 (fun H locs hP hD hS => ?_)
  have hP : va_P J.1 cls [(w, .inr (10, [.ref t, .ref we, .ref jo, .ref la, .int 0, .int 0, .int 0, .int 0, .int 1, .int v, .int 0]))] H := hP
  have hD : va_D A [(w, .inr (10, [.ref t, .ref we, .ref jo, .ref la, .int 0, .int 0, .int 0, .int 0, .int 1, .int v, .int 0]))] := hD
  refine lv_aload_n hx hb dX10_become_84 rfl (lv_at hl 0 rfl) ?_
  refine lv_dup hx hb dX10_become_85 rfl ?_
  refine va_get (D := J.1) (ci := 10) (v := .int 0) (C := RX10) (T := TX10) (N := 11) hx hb hts inX10 hown hK.1 hP 0 rfl rfl 4 (by decide) (hts _ q_176) (fun _ h9 => h9) rfl dX10_become_86 ?_
  refine lv_iload_n hx hb dX10_become_89 rfl (lv_at hl 2 rfl) ?_
  refine lv_if_ne (tgt := 97) hx hb dX10_become_90 (by decide) (fun _ => ?_) (fun c => absurd c (by decide))
  refine lv_iconst (v := 0) hx hb dX10_become_97 (by decide) ?_
  refine lv_ior hx hb dX10_become_98 ?_
  refine top_i (y := 0) (by decide) ?_
  refine va_put (D := J.1) (ci := 10) (v := .int 0) (ty := (.boolean)) (C := RX10) (T := TX10) (N := 11) hx hb hts inX10 tyX10 tyX10_ok nmX10 hown hK.1 hP hD hS 0 rfl rfl 4 (by decide) (hts _ q_176) (fun _ h9 => h9) rfl (by decide +kernel) rfl rfl (Nat.le_of_ble_eq_true rfl) dX10_become_99 (fun H locs hP hD hS => ?_)
  have hP : va_P J.1 cls [(w, .inr (10, [.ref t, .ref we, .ref jo, .ref la, .int 0, .int 0, .int 0, .int 0, .int 1, .int v, .int 0]))] H := hP
  have hD : va_D A [(w, .inr (10, [.ref t, .ref we, .ref jo, .ref la, .int 0, .int 0, .int 0, .int 0, .int 1, .int v, .int 0]))] := hD
  refine lv_aload_n hx hb dX10_become_102 rfl (lv_at hl 0 rfl) ?_
  refine lv_dup hx hb dX10_become_103 rfl ?_
  refine va_get (D := J.1) (ci := 10) (v := .int 0) (C := RX10) (T := TX10) (N := 11) hx hb hts inX10 hown hK.1 hP 0 rfl rfl 10 (by decide) (hts _ q_191) (fun _ h9 => h9) rfl dX10_become_104 ?_
  refine lv_iconst (v := 1) hx hb dX10_become_107 (by decide) ?_
  refine lv_iadd hx hb dX10_become_108 ?_
  refine top_i (y := 1) (by decide) ?_
  refine va_put (D := J.1) (ci := 10) (v := .int 1) (ty := (.int)) (C := RX10) (T := TX10) (N := 11) hx hb hts inX10 tyX10 tyX10_ok nmX10 hown hK.1 hP hD hS 0 rfl rfl 10 (by decide) (hts _ q_191) (fun _ h9 => h9) rfl (by decide +kernel) rfl rfl (Nat.le_of_ble_eq_true rfl) dX10_become_109 (fun H locs hP hD hS => ?_)
  have hP : va_P J.1 cls [(w, .inr (10, [.ref t, .ref we, .ref jo, .ref la, .int 0, .int 0, .int 0, .int 0, .int 1, .int v, .int 1]))] H := hP
  have hD : va_D A [(w, .inr (10, [.ref t, .ref we, .ref jo, .ref la, .int 0, .int 0, .int 0, .int 0, .int 1, .int v, .int 1]))] := hD
  exact wz_v () hx hb hr hlk trivial hP hD hS dX10_become_112
