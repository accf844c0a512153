theorem dX7_init_0 : decode cX7_init 0 = .ok (.aload_n 0, 1) := by decide +kernel
theorem q_132 : Cond.methodLink RX7 3 ⟨"java/lang/Object", "<init>", "()V"⟩ ∈ lw_g := mem_q 132 (by decide +kernel) rfl
theorem q_125 : Cond.instanceMethod ⟨"java/lang/Object", "<init>", "()V"⟩ ∈ lw_g := mem_q 125 (by decide +kernel) rfl
theorem q_126 : Cond.code ⟨"java/lang/Object", "<init>", "()V"⟩ object_method_1_code 1 none ∈ lw_g := mem_q 126 (by decide +kernel) rfl
theorem dX7_init_1 : decode cX7_init 1 = .ok (.invokespecial 3, 3) := by decide +kernel
theorem dX7_init_4 : decode cX7_init 4 = .ok (.aload_n 0, 1) := by decide +kernel
theorem dX7_init_5 : decode cX7_init 5 = .ok (.bipush 120, 2) := by decide +kernel
theorem q_165 : Cond.arrayClass .int ∈ lw_g := mem_q 165 (by decide +kernel) rfl
theorem dX7_init_7 : decode cX7_init 7 = .ok (.newarray .int, 2) := by decide +kernel
theorem dX7_init_9 : decode cX7_init 9 = .ok (.putfield 11, 3) := by decide +kernel
theorem dX7_init_12 : decode cX7_init 12 = .ok (.aload_n 0, 1) := by decide +kernel
theorem dX7_init_13 : decode cX7_init 13 = .ok (.sipush 256, 3) := by decide +kernel
theorem dX7_init_16 : decode cX7_init 16 = .ok (.newarray .int, 2) := by decide +kernel
theorem dX7_init_18 : decode cX7_init 18 = .ok (.putfield 15, 3) := by decide +kernel
theorem dX7_init_21 : decode cX7_init 21 = .ok (.aload_n 0, 1) := by decide +kernel
theorem dX7_init_22 : decode cX7_init 22 = .ok (.sipush 256, 3) := by decide +kernel
theorem dX7_init_25 : decode cX7_init 25 = .ok (.newarray .int, 2) := by decide +kernel
theorem q_140 : Cond.fieldLink RX7 18 RX7 "code" "[I" ∈ lw_g := mem_q 140 (by decide +kernel) rfl
theorem dX7_init_27 : decode cX7_init 27 = .ok (.putfield 18, 3) := by decide +kernel
theorem dX7_init_30 : decode cX7_init 30 = .ok (.aload_n 0, 1) := by decide +kernel
theorem dX7_init_31 : decode cX7_init 31 = .ok (.sipush 128, 3) := by decide +kernel
theorem dX7_init_34 : decode cX7_init 34 = .ok (.newarray .int, 2) := by decide +kernel
theorem q_142 : Cond.fieldLink RX7 21 RX7 "stack" "[I" ∈ lw_g := mem_q 142 (by decide +kernel) rfl
theorem dX7_init_36 : decode cX7_init 36 = .ok (.putfield 21, 3) := by decide +kernel
theorem dX7_init_39 : decode cX7_init 39 = .ok (.return_, 1) := by decide +kernel
set_option maxHeartbeats 4000000 in
set_option maxRecDepth 100000 in
theorem n_Law (l : Launch) (J : va_J9) (sz : Nat) (t : Nat) : WC l J yX7_init cX7_init 1 none ({ frames := 1, cells := 4, slots := 760, locals := 24 }) [.ref t] [(t, .inr (7, [.null, .int 0, .null, .int 0, .int 0, .int 0, .null, .int 0, .null, .int 0]))] sz (Qv J (fun (u : Nat → Nat) => True) (fun (u : Nat → Nat) => [(t, .inr (7, [.ref (u 0), .int 0, .ref (u 1), .int 0, .int 0, .int 0, .ref (u 2), .int 0, .ref (u 3), .int 0])), ((u 0), .inl (J.2.1, 120, .inl (fun _ => 0))), ((u 1), .inl (J.2.1, 256, .inl (fun _ => 0)))])) 4 760 := by
  refine wc_of (by decide) (Nat.le_of_ble_eq_true rfl) ?_
  intro p e s m below meth c ls A hE hl hP hK hD hS hA
  obtain ⟨hx, hb, hr, hml, hown, hts, hlk, hin⟩ := hE
  have hown : s.vm.findClass RX7 = some m.cls := hown
  have hl : lv_has ls 1 [(0, .ref t)] := hl
  have hin : meth.name = "<init>" := hin
  refine lv_aload_n hx hb dX7_init_0 rfl (lv_at hl 0 rfl) ?_
  refine W.objInit hx hb hown (hts _ q_132) (hts _ q_125) (hts _ q_126) rfl (by rw [hml]; exact hl.1) rfl dX7_init_1 (Nat.le_of_ble_eq_true rfl) (Nat.le_of_ble_eq_true rfl) ?_
  refine W.eq (g2 := F0 m 4 ls []) rfl ?_
  refine lv_aload_n hx hb dX7_init_4 rfl (lv_at hl 0 rfl) ?_
  refine lv_bipush (v := 120) hx hb dX7_init_5 (by decide) ?_
  refine na_i (a0 := (0, .inl (fun _ => 0))) (N' := 120) hx hb hts q_165 hK hP hD hS hA (by decide) (by decide) (by decide) (Nat.le_of_ble_eq_true rfl) (Nat.le_of_ble_eq_true rfl) dX7_init_7 (fun n1 H hP hD hS => ?_)
  have hP : va_P J.1 cls [(t, .inr (7, [.null, .int 0, .null, .int 0, .int 0, .int 0, .null, .int 0, .null, .int 0])), (n1, .inl (J.2.1, 120, .inl (fun _ => 0)))] H := hP
  have hD : va_D A [(t, .inr (7, [.null, .int 0, .null, .int 0, .int 0, .int 0, .null, .int 0, .null, .int 0])), (n1, .inl (J.2.1, 120, .inl (fun _ => 0)))] := hD
  refine W.widen (k := 1) (n := 120) (Nat.le_of_ble_eq_true rfl) (Nat.le_of_ble_eq_true rfl) ?_
  refine va_putF (D := J.1) (ci := 7) (v := .ref n1) (ty := (.array .int)) (C := RX7) (T := TX7) (N := 10) hx hb hts inX7 tyX7 tyX7_ok nmX7 hown hK.1 hP hD hS 0 rfl rfl 0 (by decide) (hts _ q_133) (fun _ h9 => h9) rfl hin rfl (by decide +kernel) rfl rfl (Nat.le_of_ble_eq_true rfl) dX7_init_9 (fun H locs hP hD hS => ?_)
  have hP : va_P J.1 cls [(t, .inr (7, [.ref n1, .int 0, .null, .int 0, .int 0, .int 0, .null, .int 0, .null, .int 0])), (n1, .inl (J.2.1, 120, .inl (fun _ => 0)))] H := hP
  have hD : va_D A [(t, .inr (7, [.ref n1, .int 0, .null, .int 0, .int 0, .int 0, .null, .int 0, .null, .int 0])), (n1, .inl (J.2.1, 120, .inl (fun _ => 0)))] := hD
  refine lv_aload_n hx hb dX7_init_12 rfl (lv_at hl 0 rfl) ?_
  refine lv_sipush (v := 256) hx hb dX7_init_13 (by decide) ?_
  refine na_i (a0 := (0, .inl (fun _ => 0))) (N' := 256) hx hb hts q_165 hK hP hD hS hA (by decide) (by decide) (by decide) (Nat.le_of_ble_eq_true rfl) (Nat.le_of_ble_eq_true rfl) dX7_init_16 (fun n2 H hP hD hS => ?_)
  have hP : va_P J.1 cls [(t, .inr (7, [.ref n1, .int 0, .null, .int 0, .int 0, .int 0, .null, .int 0, .null, .int 0])), (n1, .inl (J.2.1, 120, .inl (fun _ => 0))), (n2, .inl (J.2.1, 256, .inl (fun _ => 0)))] H := hP
  have hD : va_D A [(t, .inr (7, [.ref n1, .int 0, .null, .int 0, .int 0, .int 0, .null, .int 0, .null, .int 0])), (n1, .inl (J.2.1, 120, .inl (fun _ => 0))), (n2, .inl (J.2.1, 256, .inl (fun _ => 0)))] := hD
  refine W.widen (k := 2) (n := 376) (Nat.le_of_ble_eq_true rfl) (Nat.le_of_ble_eq_true rfl) ?_
  refine va_putF (D := J.1) (ci := 7) (v := .ref n2) (ty := (.array .int)) (C := RX7) (T := TX7) (N := 10) hx hb hts inX7 tyX7 tyX7_ok nmX7 hown hK.1 hP hD hS 0 rfl rfl 2 (by decide) (hts _ q_136) (fun _ h9 => h9) rfl hin rfl (by decide +kernel) rfl rfl (Nat.le_of_ble_eq_true rfl) dX7_init_18 (fun H locs hP hD hS => ?_)
  have hP : va_P J.1 cls [(t, .inr (7, [.ref n1, .int 0, .ref n2, .int 0, .int 0, .int 0, .null, .int 0, .null, .int 0])), (n1, .inl (J.2.1, 120, .inl (fun _ => 0))), (n2, .inl (J.2.1, 256, .inl (fun _ => 0)))] H := hP
  have hD : va_D A [(t, .inr (7, [.ref n1, .int 0, .ref n2, .int 0, .int 0, .int 0, .null, .int 0, .null, .int 0])), (n1, .inl (J.2.1, 120, .inl (fun _ => 0))), (n2, .inl (J.2.1, 256, .inl (fun _ => 0)))] := hD
  refine lv_aload_n hx hb dX7_init_21 rfl (lv_at hl 0 rfl) ?_
  refine lv_sipush (v := 256) hx hb dX7_init_22 (by decide) ?_
  refine na_i (a0 := (0, .inl (fun _ => 0))) (N' := 256) hx hb hts q_165 hK hP hD hS hA (by decide) (by decide) (by decide) (Nat.le_of_ble_eq_true rfl) (Nat.le_of_ble_eq_true rfl) dX7_init_25 (fun n3 H hP hD hS => ?_)
  have hP : va_P J.1 cls [(t, .inr (7, [.ref n1, .int 0, .ref n2, .int 0, .int 0, .int 0, .null, .int 0, .null, .int 0])), (n1, .inl (J.2.1, 120, .inl (fun _ => 0))), (n2, .inl (J.2.1, 256, .inl (fun _ => 0))), (n3, .inl (J.2.1, 256, .inl (fun _ => 0)))] H := hP
  have hD : va_D A [(t, .inr (7, [.ref n1, .int 0, .ref n2, .int 0, .int 0, .int 0, .null, .int 0, .null, .int 0])), (n1, .inl (J.2.1, 120, .inl (fun _ => 0))), (n2, .inl (J.2.1, 256, .inl (fun _ => 0))), (n3, .inl (J.2.1, 256, .inl (fun _ => 0)))] := hD
  refine W.widen (k := 3) (n := 632) (Nat.le_of_ble_eq_true rfl) (Nat.le_of_ble_eq_true rfl) ?_
  refine va_putF (D := J.1) (ci := 7) (v := .ref n3) (ty := (.array .int)) (C := RX7) (T := TX7) (N := 10) hx hb hts inX7 tyX7 tyX7_ok nmX7 hown hK.1 hP hD hS 0 rfl rfl 6 (by decide) (hts _ q_140) (fun _ h9 => h9) rfl hin rfl (by decide +kernel) rfl rfl (Nat.le_of_ble_eq_true rfl) dX7_init_27 (fun H locs hP hD hS => ?_)
  have hP : va_P J.1 cls [(t, .inr (7, [.ref n1, .int 0, .ref n2, .int 0, .int 0, .int 0, .ref n3, .int 0, .null, .int 0])), (n1, .inl (J.2.1, 120, .inl (fun _ => 0))), (n2, .inl (J.2.1, 256, .inl (fun _ => 0))), (n3, .inl (J.2.1, 256, .inl (fun _ => 0)))] H := hP
  have hD : va_D A [(t, .inr (7, [.ref n1, .int 0, .ref n2, .int 0, .int 0, .int 0, .ref n3, .int 0, .null, .int 0])), (n1, .inl (J.2.1, 120, .inl (fun _ => 0))), (n2, .inl (J.2.1, 256, .inl (fun _ => 0))), (n3, .inl (J.2.1, 256, .inl (fun _ => 0)))] := hD
  refine lv_aload_n hx hb dX7_init_30 rfl (lv_at hl 0 rfl) ?_
  refine lv_sipush (v := 128) hx hb dX7_init_31 (by decide) ?_
  refine na_i (a0 := (0, .inl (fun _ => 0))) (N' := 128) hx hb hts q_165 hK hP hD hS hA (by decide) (by decide) (by decide) (Nat.le_of_ble_eq_true rfl) (Nat.le_of_ble_eq_true rfl) dX7_init_34 (fun n4 H hP hD hS => ?_)
  have hP : va_P J.1 cls [(t, .inr (7, [.ref n1, .int 0, .ref n2, .int 0, .int 0, .int 0, .ref n3, .int 0, .null, .int 0])), (n1, .inl (J.2.1, 120, .inl (fun _ => 0))), (n2, .inl (J.2.1, 256, .inl (fun _ => 0))), (n3, .inl (J.2.1, 256, .inl (fun _ => 0))), (n4, .inl (J.2.1, 128, .inl (fun _ => 0)))] H := hP
  have hD : va_D A [(t, .inr (7, [.ref n1, .int 0, .ref n2, .int 0, .int 0, .int 0, .ref n3, .int 0, .null, .int 0])), (n1, .inl (J.2.1, 120, .inl (fun _ => 0))), (n2, .inl (J.2.1, 256, .inl (fun _ => 0))), (n3, .inl (J.2.1, 256, .inl (fun _ => 0))), (n4, .inl (J.2.1, 128, .inl (fun _ => 0)))] := hD
  refine W.widen (k := 4) (n := 760) (Nat.le_of_ble_eq_true rfl) (Nat.le_of_ble_eq_true rfl) ?_
  refine va_putF (D := J.1) (ci := 7) (v := .ref n4) (ty := (.array .int)) (C := RX7) (T := TX7) (N := 10) hx hb hts inX7 tyX7 tyX7_ok nmX7 hown hK.1 hP hD hS 0 rfl rfl 8 (by decide) (hts _ q_142) (fun _ h9 => h9) rfl hin rfl (by decide +kernel) rfl rfl (Nat.le_of_ble_eq_true rfl) dX7_init_36 (fun H locs hP hD hS => ?_)
  have hP : va_P J.1 cls [(t, .inr (7, [.ref n1, .int 0, .ref n2, .int 0, .int 0, .int 0, .ref n3, .int 0, .ref n4, .int 0])), (n1, .inl (J.2.1, 120, .inl (fun _ => 0))), (n2, .inl (J.2.1, 256, .inl (fun _ => 0))), (n3, .inl (J.2.1, 256, .inl (fun _ => 0))), (n4, .inl (J.2.1, 128, .inl (fun _ => 0)))] H := hP
  have hD : va_D A [(t, .inr (7, [.ref n1, .int 0, .ref n2, .int 0, .int 0, .int 0, .ref n3, .int 0, .ref n4, .int 0])), (n1, .inl (J.2.1, 120, .inl (fun _ => 0))), (n2, .inl (J.2.1, 256, .inl (fun _ => 0))), (n3, .inl (J.2.1, 256, .inl (fun _ => 0))), (n4, .inl (J.2.1, 128, .inl (fun _ => 0)))] := hD
  refine W.widen (k := 4) (n := 760) (Nat.le_of_ble_eq_true rfl) (Nat.le_of_ble_eq_true rfl) ?_
  exact wz_v (fun k => [n1, n2, n3, n4].getD k 0) hx hb hr hlk trivial (hP.sub (ws' := [(t, .inr (7, [.ref n1, .int 0, .ref n2, .int 0, .int 0, .int 0, .ref n3, .int 0, .ref n4, .int 0])), (n1, .inl (J.2.1, 120, .inl (fun _ => 0))), (n2, .inl (J.2.1, 256, .inl (fun _ => 0)))]) [0, 1, 2] rfl) (hD.sub (ws' := [(t, .inr (7, [.ref n1, .int 0, .ref n2, .int 0, .int 0, .int 0, .ref n3, .int 0, .ref n4, .int 0])), (n1, .inl (J.2.1, 120, .inl (fun _ => 0))), (n2, .inl (J.2.1, 256, .inl (fun _ => 0)))]) [0, 1, 2] (by decide) rfl) hS dX7_init_39
theorem dX10_init_0 : decode cX10_init 0 = .ok (.aload_n 0, 1) := by decide +kernel
theorem q_171 : Cond.methodLink RX10 3 ⟨"java/lang/Object", "<init>", "()V"⟩ ∈ lw_g := mem_q 171 (by decide +kernel) rfl
theorem dX10_init_1 : decode cX10_init 1 = .ok (.invokespecial 3, 3) := by decide +kernel
theorem dX10_init_4 : decode cX10_init 4 = .ok (.aload_n 0, 1) := by decide +kernel
theorem dX10_init_5 : decode cX10_init 5 = .ok (.bipush 10, 2) := by decide +kernel
theorem dX10_init_7 : decode cX10_init 7 = .ok (.newarray .int, 2) := by decide +kernel
theorem dX10_init_9 : decode cX10_init 9 = .ok (.putfield 9, 3) := by decide +kernel
theorem dX10_init_12 : decode cX10_init 12 = .ok (.aload_n 0, 1) := by decide +kernel
theorem dX10_init_13 : decode cX10_init 13 = .ok (.bipush 10, 2) := by decide +kernel
theorem dX10_init_15 : decode cX10_init 15 = .ok (.newarray .int, 2) := by decide +kernel
theorem dX10_init_17 : decode cX10_init 17 = .ok (.putfield 15, 3) := by decide +kernel
theorem dX10_init_20 : decode cX10_init 20 = .ok (.aload_n 0, 1) := by decide +kernel
theorem dX10_init_21 : decode cX10_init 21 = .ok (.bipush 10, 2) := by decide +kernel
theorem dX10_init_23 : decode cX10_init 23 = .ok (.newarray .int, 2) := by decide +kernel
theorem dX10_init_25 : decode cX10_init 25 = .ok (.putfield 18, 3) := by decide +kernel
theorem dX10_init_28 : decode cX10_init 28 = .ok (.aload_n 0, 1) := by decide +kernel
theorem dX10_init_29 : decode cX10_init 29 = .ok (.iconst 1, 1) := by decide +kernel
theorem dX10_init_30 : decode cX10_init 30 = .ok (.putfield 21, 3) := by decide +kernel
theorem dX10_init_33 : decode cX10_init 33 = .ok (.aload_n 0, 1) := by decide +kernel
theorem dX10_init_34 : decode cX10_init 34 = .ok (.aload_n 1, 1) := by decide +kernel
theorem dX10_init_35 : decode cX10_init 35 = .ok (.putfield 25, 3) := by decide +kernel
theorem dX10_init_38 : decode cX10_init 38 = .ok (.return_, 1) := by decide +kernel
set_option maxHeartbeats 4000000 in
set_option maxRecDepth 100000 in
theorem n_Warren (l : Launch) (J : va_J9) (sz : Nat) (w : Nat) (t : Nat) : WC l J yX10_init cX10_init 2 none ({ frames := 1, cells := 3, slots := 30, locals := 24 }) [.ref w, .ref t] [(w, .inr (10, [.null, .null, .null, .null, .int 0, .int 0, .int 0, .int 0, .int 0, .int 0, .int 0]))] sz (Qv J (fun (u : Nat → Nat) => True) (fun (u : Nat → Nat) => [(w, .inr (10, [.ref t, .ref (u 0), .ref (u 1), .ref (u 2), .int 0, .int 0, .int 0, .int 0, .int 1, .int 0, .int 0])), ((u 0), .inl (J.2.1, 10, .inl (fun _ => 0))), ((u 1), .inl (J.2.1, 10, .inl (fun _ => 0))), ((u 2), .inl (J.2.1, 10, .inl (fun _ => 0)))])) 3 30 := by
  refine wc_of (by decide) (Nat.le_of_ble_eq_true rfl) ?_
  intro p e s m below meth c ls A hE hl hP hK hD hS hA
  obtain ⟨hx, hb, hr, hml, hown, hts, hlk, hin⟩ := hE
  have hown : s.vm.findClass RX10 = some m.cls := hown
  have hl : lv_has ls 2 [(0, .ref w), (1, .ref t)] := hl
  have hin : meth.name = "<init>" := hin
  refine lv_aload_n hx hb dX10_init_0 rfl (lv_at hl 0 rfl) ?_
  refine W.objInit hx hb hown (hts _ q_171) (hts _ q_125) (hts _ q_126) rfl (by rw [hml]; exact hl.1) rfl dX10_init_1 (Nat.le_of_ble_eq_true rfl) (Nat.le_of_ble_eq_true rfl) ?_
  refine W.eq (g2 := F0 m 4 ls []) rfl ?_
  refine lv_aload_n hx hb dX10_init_4 rfl (lv_at hl 0 rfl) ?_
  refine lv_bipush (v := 10) hx hb dX10_init_5 (by decide) ?_
  refine na_i (a0 := (0, .inl (fun _ => 0))) (N' := 10) hx hb hts q_165 hK hP hD hS hA (by decide) (by decide) (by decide) (Nat.le_of_ble_eq_true rfl) (Nat.le_of_ble_eq_true rfl) dX10_init_7 (fun n1 H hP hD hS => ?_)
  have hP : va_P J.1 cls [(w, .inr (10, [.null, .null, .null, .null, .int 0, .int 0, .int 0, .int 0, .int 0, .int 0, .int 0])), (n1, .inl (J.2.1, 10, .inl (fun _ => 0)))] H := hP
  have hD : va_D A [(w, .inr (10, [.null, .null, .null, .null, .int 0, .int 0, .int 0, .int 0, .int 0, .int 0, .int 0])), (n1, .inl (J.2.1, 10, .inl (fun _ => 0)))] := hD
  refine W.widen (k := 1) (n := 10) (Nat.le_of_ble_eq_true rfl) (Nat.le_of_ble_eq_true rfl) ?_
  refine va_putF (D := J.1) (ci := 10) (v := .ref n1) (ty := (.array .int)) (C := RX10) (T := TX10) (N := 11) hx hb hts inX10 tyX10 tyX10_ok nmX10 hown hK.1 hP hD hS 0 rfl rfl 1 (by decide) (hts _ q_173) (fun _ h9 => h9) rfl hin rfl (by decide +kernel) rfl rfl (Nat.le_of_ble_eq_true rfl) dX10_init_9 (fun H locs hP hD hS => ?_)
  have hP : va_P J.1 cls [(w, .inr (10, [.null, .ref n1, .null, .null, .int 0, .int 0, .int 0, .int 0, .int 0, .int 0, .int 0])), (n1, .inl (J.2.1, 10, .inl (fun _ => 0)))] H := hP
  have hD : va_D A [(w, .inr (10, [.null, .ref n1, .null, .null, .int 0, .int 0, .int 0, .int 0, .int 0, .int 0, .int 0])), (n1, .inl (J.2.1, 10, .inl (fun _ => 0)))] := hD
  refine lv_aload_n hx hb dX10_init_12 rfl (lv_at hl 0 rfl) ?_
  refine lv_bipush (v := 10) hx hb dX10_init_13 (by decide) ?_
  refine na_i (a0 := (0, .inl (fun _ => 0))) (N' := 10) hx hb hts q_165 hK hP hD hS hA (by decide) (by decide) (by decide) (Nat.le_of_ble_eq_true rfl) (Nat.le_of_ble_eq_true rfl) dX10_init_15 (fun n2 H hP hD hS => ?_)
  have hP : va_P J.1 cls [(w, .inr (10, [.null, .ref n1, .null, .null, .int 0, .int 0, .int 0, .int 0, .int 0, .int 0, .int 0])), (n1, .inl (J.2.1, 10, .inl (fun _ => 0))), (n2, .inl (J.2.1, 10, .inl (fun _ => 0)))] H := hP
  have hD : va_D A [(w, .inr (10, [.null, .ref n1, .null, .null, .int 0, .int 0, .int 0, .int 0, .int 0, .int 0, .int 0])), (n1, .inl (J.2.1, 10, .inl (fun _ => 0))), (n2, .inl (J.2.1, 10, .inl (fun _ => 0)))] := hD
  refine W.widen (k := 2) (n := 20) (Nat.le_of_ble_eq_true rfl) (Nat.le_of_ble_eq_true rfl) ?_
  refine va_putF (D := J.1) (ci := 10) (v := .ref n2) (ty := (.array .int)) (C := RX10) (T := TX10) (N := 11) hx hb hts inX10 tyX10 tyX10_ok nmX10 hown hK.1 hP hD hS 0 rfl rfl 2 (by decide) (hts _ q_174) (fun _ h9 => h9) rfl hin rfl (by decide +kernel) rfl rfl (Nat.le_of_ble_eq_true rfl) dX10_init_17 (fun H locs hP hD hS => ?_)
  have hP : va_P J.1 cls [(w, .inr (10, [.null, .ref n1, .ref n2, .null, .int 0, .int 0, .int 0, .int 0, .int 0, .int 0, .int 0])), (n1, .inl (J.2.1, 10, .inl (fun _ => 0))), (n2, .inl (J.2.1, 10, .inl (fun _ => 0)))] H := hP
  have hD : va_D A [(w, .inr (10, [.null, .ref n1, .ref n2, .null, .int 0, .int 0, .int 0, .int 0, .int 0, .int 0, .int 0])), (n1, .inl (J.2.1, 10, .inl (fun _ => 0))), (n2, .inl (J.2.1, 10, .inl (fun _ => 0)))] := hD
  refine lv_aload_n hx hb dX10_init_20 rfl (lv_at hl 0 rfl) ?_
  refine lv_bipush (v := 10) hx hb dX10_init_21 (by decide) ?_
  refine na_i (a0 := (0, .inl (fun _ => 0))) (N' := 10) hx hb hts q_165 hK hP hD hS hA (by decide) (by decide) (by decide) (Nat.le_of_ble_eq_true rfl) (Nat.le_of_ble_eq_true rfl) dX10_init_23 (fun n3 H hP hD hS => ?_)
  have hP : va_P J.1 cls [(w, .inr (10, [.null, .ref n1, .ref n2, .null, .int 0, .int 0, .int 0, .int 0, .int 0, .int 0, .int 0])), (n1, .inl (J.2.1, 10, .inl (fun _ => 0))), (n2, .inl (J.2.1, 10, .inl (fun _ => 0))), (n3, .inl (J.2.1, 10, .inl (fun _ => 0)))] H := hP
  have hD : va_D A [(w, .inr (10, [.null, .ref n1, .ref n2, .null, .int 0, .int 0, .int 0, .int 0, .int 0, .int 0, .int 0])), (n1, .inl (J.2.1, 10, .inl (fun _ => 0))), (n2, .inl (J.2.1, 10, .inl (fun _ => 0))), (n3, .inl (J.2.1, 10, .inl (fun _ => 0)))] := hD
  refine W.widen (k := 3) (n := 30) (Nat.le_of_ble_eq_true rfl) (Nat.le_of_ble_eq_true rfl) ?_
  refine va_putF (D := J.1) (ci := 10) (v := .ref n3) (ty := (.array .int)) (C := RX10) (T := TX10) (N := 11) hx hb hts inX10 tyX10 tyX10_ok nmX10 hown hK.1 hP hD hS 0 rfl rfl 3 (by decide) (hts _ q_175) (fun _ h9 => h9) rfl hin rfl (by decide +kernel) rfl rfl (Nat.le_of_ble_eq_true rfl) dX10_init_25 (fun H locs hP hD hS => ?_)
  have hP : va_P J.1 cls [(w, .inr (10, [.null, .ref n1, .ref n2, .ref n3, .int 0, .int 0, .int 0, .int 0, .int 0, .int 0, .int 0])), (n1, .inl (J.2.1, 10, .inl (fun _ => 0))), (n2, .inl (J.2.1, 10, .inl (fun _ => 0))), (n3, .inl (J.2.1, 10, .inl (fun _ => 0)))] H := hP
  have hD : va_D A [(w, .inr (10, [.null, .ref n1, .ref n2, .ref n3, .int 0, .int 0, .int 0, .int 0, .int 0, .int 0, .int 0])), (n1, .inl (J.2.1, 10, .inl (fun _ => 0))), (n2, .inl (J.2.1, 10, .inl (fun _ => 0))), (n3, .inl (J.2.1, 10, .inl (fun _ => 0)))] := hD
  refine lv_aload_n hx hb dX10_init_28 rfl (lv_at hl 0 rfl) ?_
  refine lv_iconst (v := 1) hx hb dX10_init_29 (by decide) ?_
  refine va_put (D := J.1) (ci := 10) (v := .int 1) (ty := (.int)) (C := RX10) (T := TX10) (N := 11) hx hb hts inX10 tyX10 tyX10_ok nmX10 hown hK.1 hP hD hS 0 rfl rfl 8 (by decide) (hts _ q_184) (fun _ h9 => h9) rfl (by decide +kernel) rfl rfl (Nat.le_of_ble_eq_true rfl) dX10_init_30 (fun H locs hP hD hS => ?_)
  have hP : va_P J.1 cls [(w, .inr (10, [.null, .ref n1, .ref n2, .ref n3, .int 0, .int 0, .int 0, .int 0, .int 1, .int 0, .int 0])), (n1, .inl (J.2.1, 10, .inl (fun _ => 0))), (n2, .inl (J.2.1, 10, .inl (fun _ => 0))), (n3, .inl (J.2.1, 10, .inl (fun _ => 0)))] H := hP
  have hD : va_D A [(w, .inr (10, [.null, .ref n1, .ref n2, .ref n3, .int 0, .int 0, .int 0, .int 0, .int 1, .int 0, .int 0])), (n1, .inl (J.2.1, 10, .inl (fun _ => 0))), (n2, .inl (J.2.1, 10, .inl (fun _ => 0))), (n3, .inl (J.2.1, 10, .inl (fun _ => 0)))] := hD
  refine lv_aload_n hx hb dX10_init_33 rfl (lv_at hl 0 rfl) ?_
  refine lv_aload_n hx hb dX10_init_34 rfl (lv_at hl 1 rfl) ?_
  refine va_putF (D := J.1) (ci := 10) (v := .ref t) (ty := (.object "FoxHoles$Law")) (C := RX10) (T := TX10) (N := 11) hx hb hts inX10 tyX10 tyX10_ok nmX10 hown hK.1 hP hD hS 0 rfl rfl 0 (by decide) (hts _ q_172) (fun _ h9 => h9) rfl hin rfl (by decide +kernel) rfl rfl (Nat.le_of_ble_eq_true rfl) dX10_init_35 (fun H locs hP hD hS => ?_)
  have hP : va_P J.1 cls [(w, .inr (10, [.ref t, .ref n1, .ref n2, .ref n3, .int 0, .int 0, .int 0, .int 0, .int 1, .int 0, .int 0])), (n1, .inl (J.2.1, 10, .inl (fun _ => 0))), (n2, .inl (J.2.1, 10, .inl (fun _ => 0))), (n3, .inl (J.2.1, 10, .inl (fun _ => 0)))] H := hP
  have hD : va_D A [(w, .inr (10, [.ref t, .ref n1, .ref n2, .ref n3, .int 0, .int 0, .int 0, .int 0, .int 1, .int 0, .int 0])), (n1, .inl (J.2.1, 10, .inl (fun _ => 0))), (n2, .inl (J.2.1, 10, .inl (fun _ => 0))), (n3, .inl (J.2.1, 10, .inl (fun _ => 0)))] := hD
  refine W.widen (k := 3) (n := 30) (Nat.le_of_ble_eq_true rfl) (Nat.le_of_ble_eq_true rfl) ?_
  exact wz_v (fun k => [n1, n2, n3].getD k 0) hx hb hr hlk trivial hP hD hS dX10_init_38
theorem dX2_init_0 : decode cX2_init 0 = .ok (.aload_n 0, 1) := by decide +kernel
theorem q_222 : Cond.methodLink RX2 3 ⟨"java/lang/Object", "<init>", "()V"⟩ ∈ lw_g := mem_q 222 (by decide +kernel) rfl
theorem dX2_init_1 : decode cX2_init 1 = .ok (.invokespecial 3, 3) := by decide +kernel
theorem dX2_init_4 : decode cX2_init 4 = .ok (.aload_n 0, 1) := by decide +kernel
theorem dX2_init_5 : decode cX2_init 5 = .ok (.bipush 40, 2) := by decide +kernel
theorem dX2_init_7 : decode cX2_init 7 = .ok (.newarray .int, 2) := by decide +kernel
theorem dX2_init_9 : decode cX2_init 9 = .ok (.putfield 11, 3) := by decide +kernel
theorem dX2_init_12 : decode cX2_init 12 = .ok (.aload_n 0, 1) := by decide +kernel
theorem dX2_init_13 : decode cX2_init 13 = .ok (.bipush 40, 2) := by decide +kernel
theorem dX2_init_15 : decode cX2_init 15 = .ok (.newarray .int, 2) := by decide +kernel
theorem dX2_init_17 : decode cX2_init 17 = .ok (.putfield 15, 3) := by decide +kernel
theorem dX2_init_20 : decode cX2_init 20 = .ok (.aload_n 0, 1) := by decide +kernel
theorem dX2_init_21 : decode cX2_init 21 = .ok (.bipush 40, 2) := by decide +kernel
theorem dX2_init_23 : decode cX2_init 23 = .ok (.newarray .int, 2) := by decide +kernel
theorem dX2_init_25 : decode cX2_init 25 = .ok (.putfield 18, 3) := by decide +kernel
theorem dX2_init_28 : decode cX2_init 28 = .ok (.aload_n 0, 1) := by decide +kernel
theorem dX2_init_29 : decode cX2_init 29 = .ok (.bipush 40, 2) := by decide +kernel
theorem dX2_init_31 : decode cX2_init 31 = .ok (.newarray .int, 2) := by decide +kernel
theorem dX2_init_33 : decode cX2_init 33 = .ok (.putfield 21, 3) := by decide +kernel
theorem dX2_init_36 : decode cX2_init 36 = .ok (.aload_n 0, 1) := by decide +kernel
theorem dX2_init_37 : decode cX2_init 37 = .ok (.aload_n 1, 1) := by decide +kernel
theorem q_223 : Cond.fieldLink RX2 24 RX2 "warren" "LFoxHoles$Warren;" ∈ lw_g := mem_q 223 (by decide +kernel) rfl
theorem dX2_init_38 : decode cX2_init 38 = .ok (.putfield 24, 3) := by decide +kernel
theorem dX2_init_41 : decode cX2_init 41 = .ok (.return_, 1) := by decide +kernel
set_option maxHeartbeats 4000000 in
set_option maxRecDepth 100000 in
theorem n_Changes (l : Launch) (J : va_J9) (sz : Nat) (c0 : Nat) (w : Nat) : WC l J yX2_init cX2_init 2 none ({ frames := 1, cells := 4, slots := 160, locals := 24 }) [.ref c0, .ref w] [(c0, .inr (2, [.null, .null, .null, .null, .null, .int 0, .int 0]))] sz (Qv J (fun (u : Nat → Nat) => True) (fun (u : Nat → Nat) => [(c0, .inr (2, [.ref w, .ref (u 0), .ref (u 1), .ref (u 2), .ref (u 3), .int 0, .int 0])), ((u 0), .inl (J.2.1, 40, .inl (fun _ => 0))), ((u 1), .inl (J.2.1, 40, .inl (fun _ => 0))), ((u 2), .inl (J.2.1, 40, .inl (fun _ => 0))), ((u 3), .inl (J.2.1, 40, .inl (fun _ => 0)))])) 4 160 := by
  refine wc_of (by decide) (Nat.le_of_ble_eq_true rfl) ?_
  intro p e s m below meth c ls A hE hl hP hK hD hS hA
  obtain ⟨hx, hb, hr, hml, hown, hts, hlk, hin⟩ := hE
  have hown : s.vm.findClass RX2 = some m.cls := hown
  have hl : lv_has ls 2 [(0, .ref c0), (1, .ref w)] := hl
  have hin : meth.name = "<init>" := hin
  refine lv_aload_n hx hb dX2_init_0 rfl (lv_at hl 0 rfl) ?_
  refine W.objInit hx hb hown (hts _ q_222) (hts _ q_125) (hts _ q_126) rfl (by rw [hml]; exact hl.1) rfl dX2_init_1 (Nat.le_of_ble_eq_true rfl) (Nat.le_of_ble_eq_true rfl) ?_
  refine W.eq (g2 := F0 m 4 ls []) rfl ?_
  refine lv_aload_n hx hb dX2_init_4 rfl (lv_at hl 0 rfl) ?_
  refine lv_bipush (v := 40) hx hb dX2_init_5 (by decide) ?_
  refine na_i (a0 := (0, .inl (fun _ => 0))) (N' := 40) hx hb hts q_165 hK hP hD hS hA (by decide) (by decide) (by decide) (Nat.le_of_ble_eq_true rfl) (Nat.le_of_ble_eq_true rfl) dX2_init_7 (fun n1 H hP hD hS => ?_)
  have hP : va_P J.1 cls [(c0, .inr (2, [.null, .null, .null, .null, .null, .int 0, .int 0])), (n1, .inl (J.2.1, 40, .inl (fun _ => 0)))] H := hP
  have hD : va_D A [(c0, .inr (2, [.null, .null, .null, .null, .null, .int 0, .int 0])), (n1, .inl (J.2.1, 40, .inl (fun _ => 0)))] := hD
  refine W.widen (k := 1) (n := 40) (Nat.le_of_ble_eq_true rfl) (Nat.le_of_ble_eq_true rfl) ?_
  refine va_putF (D := J.1) (ci := 2) (v := .ref n1) (ty := (.array .int)) (C := RX2) (T := TX2) (N := 7) hx hb hts inX2 tyX2 tyX2_ok nmX2 hown hK.1 hP hD hS 0 rfl rfl 1 (by decide) (hts _ q_224) (fun _ h9 => h9) rfl hin rfl (by decide +kernel) rfl rfl (Nat.le_of_ble_eq_true rfl) dX2_init_9 (fun H locs hP hD hS => ?_)
  have hP : va_P J.1 cls [(c0, .inr (2, [.null, .ref n1, .null, .null, .null, .int 0, .int 0])), (n1, .inl (J.2.1, 40, .inl (fun _ => 0)))] H := hP
  have hD : va_D A [(c0, .inr (2, [.null, .ref n1, .null, .null, .null, .int 0, .int 0])), (n1, .inl (J.2.1, 40, .inl (fun _ => 0)))] := hD
  refine lv_aload_n hx hb dX2_init_12 rfl (lv_at hl 0 rfl) ?_
  refine lv_bipush (v := 40) hx hb dX2_init_13 (by decide) ?_
  refine na_i (a0 := (0, .inl (fun _ => 0))) (N' := 40) hx hb hts q_165 hK hP hD hS hA (by decide) (by decide) (by decide) (Nat.le_of_ble_eq_true rfl) (Nat.le_of_ble_eq_true rfl) dX2_init_15 (fun n2 H hP hD hS => ?_)
  have hP : va_P J.1 cls [(c0, .inr (2, [.null, .ref n1, .null, .null, .null, .int 0, .int 0])), (n1, .inl (J.2.1, 40, .inl (fun _ => 0))), (n2, .inl (J.2.1, 40, .inl (fun _ => 0)))] H := hP
  have hD : va_D A [(c0, .inr (2, [.null, .ref n1, .null, .null, .null, .int 0, .int 0])), (n1, .inl (J.2.1, 40, .inl (fun _ => 0))), (n2, .inl (J.2.1, 40, .inl (fun _ => 0)))] := hD
  refine W.widen (k := 2) (n := 80) (Nat.le_of_ble_eq_true rfl) (Nat.le_of_ble_eq_true rfl) ?_
  refine va_putF (D := J.1) (ci := 2) (v := .ref n2) (ty := (.array .int)) (C := RX2) (T := TX2) (N := 7) hx hb hts inX2 tyX2 tyX2_ok nmX2 hown hK.1 hP hD hS 0 rfl rfl 2 (by decide) (hts _ q_225) (fun _ h9 => h9) rfl hin rfl (by decide +kernel) rfl rfl (Nat.le_of_ble_eq_true rfl) dX2_init_17 (fun H locs hP hD hS => ?_)
  have hP : va_P J.1 cls [(c0, .inr (2, [.null, .ref n1, .ref n2, .null, .null, .int 0, .int 0])), (n1, .inl (J.2.1, 40, .inl (fun _ => 0))), (n2, .inl (J.2.1, 40, .inl (fun _ => 0)))] H := hP
  have hD : va_D A [(c0, .inr (2, [.null, .ref n1, .ref n2, .null, .null, .int 0, .int 0])), (n1, .inl (J.2.1, 40, .inl (fun _ => 0))), (n2, .inl (J.2.1, 40, .inl (fun _ => 0)))] := hD
  refine lv_aload_n hx hb dX2_init_20 rfl (lv_at hl 0 rfl) ?_
  refine lv_bipush (v := 40) hx hb dX2_init_21 (by decide) ?_
  refine na_i (a0 := (0, .inl (fun _ => 0))) (N' := 40) hx hb hts q_165 hK hP hD hS hA (by decide) (by decide) (by decide) (Nat.le_of_ble_eq_true rfl) (Nat.le_of_ble_eq_true rfl) dX2_init_23 (fun n3 H hP hD hS => ?_)
  have hP : va_P J.1 cls [(c0, .inr (2, [.null, .ref n1, .ref n2, .null, .null, .int 0, .int 0])), (n1, .inl (J.2.1, 40, .inl (fun _ => 0))), (n2, .inl (J.2.1, 40, .inl (fun _ => 0))), (n3, .inl (J.2.1, 40, .inl (fun _ => 0)))] H := hP
  have hD : va_D A [(c0, .inr (2, [.null, .ref n1, .ref n2, .null, .null, .int 0, .int 0])), (n1, .inl (J.2.1, 40, .inl (fun _ => 0))), (n2, .inl (J.2.1, 40, .inl (fun _ => 0))), (n3, .inl (J.2.1, 40, .inl (fun _ => 0)))] := hD
  refine W.widen (k := 3) (n := 120) (Nat.le_of_ble_eq_true rfl) (Nat.le_of_ble_eq_true rfl) ?_
  refine va_putF (D := J.1) (ci := 2) (v := .ref n3) (ty := (.array .int)) (C := RX2) (T := TX2) (N := 7) hx hb hts inX2 tyX2 tyX2_ok nmX2 hown hK.1 hP hD hS 0 rfl rfl 3 (by decide) (hts _ q_226) (fun _ h9 => h9) rfl hin rfl (by decide +kernel) rfl rfl (Nat.le_of_ble_eq_true rfl) dX2_init_25 (fun H locs hP hD hS => ?_)
  have hP : va_P J.1 cls [(c0, .inr (2, [.null, .ref n1, .ref n2, .ref n3, .null, .int 0, .int 0])), (n1, .inl (J.2.1, 40, .inl (fun _ => 0))), (n2, .inl (J.2.1, 40, .inl (fun _ => 0))), (n3, .inl (J.2.1, 40, .inl (fun _ => 0)))] H := hP
  have hD : va_D A [(c0, .inr (2, [.null, .ref n1, .ref n2, .ref n3, .null, .int 0, .int 0])), (n1, .inl (J.2.1, 40, .inl (fun _ => 0))), (n2, .inl (J.2.1, 40, .inl (fun _ => 0))), (n3, .inl (J.2.1, 40, .inl (fun _ => 0)))] := hD
  refine lv_aload_n hx hb dX2_init_28 rfl (lv_at hl 0 rfl) ?_
  refine lv_bipush (v := 40) hx hb dX2_init_29 (by decide) ?_
  refine na_i (a0 := (0, .inl (fun _ => 0))) (N' := 40) hx hb hts q_165 hK hP hD hS hA (by decide) (by decide) (by decide) (Nat.le_of_ble_eq_true rfl) (Nat.le_of_ble_eq_true rfl) dX2_init_31 (fun n4 H hP hD hS => ?_)
  have hP : va_P J.1 cls [(c0, .inr (2, [.null, .ref n1, .ref n2, .ref n3, .null, .int 0, .int 0])), (n1, .inl (J.2.1, 40, .inl (fun _ => 0))), (n2, .inl (J.2.1, 40, .inl (fun _ => 0))), (n3, .inl (J.2.1, 40, .inl (fun _ => 0))), (n4, .inl (J.2.1, 40, .inl (fun _ => 0)))] H := hP
  have hD : va_D A [(c0, .inr (2, [.null, .ref n1, .ref n2, .ref n3, .null, .int 0, .int 0])), (n1, .inl (J.2.1, 40, .inl (fun _ => 0))), (n2, .inl (J.2.1, 40, .inl (fun _ => 0))), (n3, .inl (J.2.1, 40, .inl (fun _ => 0))), (n4, .inl (J.2.1, 40, .inl (fun _ => 0)))] := hD
  refine W.widen (k := 4) (n := 160) (Nat.le_of_ble_eq_true rfl) (Nat.le_of_ble_eq_true rfl) ?_
  refine va_putF (D := J.1) (ci := 2) (v := .ref n4) (ty := (.array .int)) (C := RX2) (T := TX2) (N := 7) hx hb hts inX2 tyX2 tyX2_ok nmX2 hown hK.1 hP hD hS 0 rfl rfl 4 (by decide) (hts _ q_227) (fun _ h9 => h9) rfl hin rfl (by decide +kernel) rfl rfl (Nat.le_of_ble_eq_true rfl) dX2_init_33 (fun H locs hP hD hS => ?_)
  have hP : va_P J.1 cls [(c0, .inr (2, [.null, .ref n1, .ref n2, .ref n3, .ref n4, .int 0, .int 0])), (n1, .inl (J.2.1, 40, .inl (fun _ => 0))), (n2, .inl (J.2.1, 40, .inl (fun _ => 0))), (n3, .inl (J.2.1, 40, .inl (fun _ => 0))), (n4, .inl (J.2.1, 40, .inl (fun _ => 0)))] H := hP
  have hD : va_D A [(c0, .inr (2, [.null, .ref n1, .ref n2, .ref n3, .ref n4, .int 0, .int 0])), (n1, .inl (J.2.1, 40, .inl (fun _ => 0))), (n2, .inl (J.2.1, 40, .inl (fun _ => 0))), (n3, .inl (J.2.1, 40, .inl (fun _ => 0))), (n4, .inl (J.2.1, 40, .inl (fun _ => 0)))] := hD
  refine lv_aload_n hx hb dX2_init_36 rfl (lv_at hl 0 rfl) ?_
  refine lv_aload_n hx hb dX2_init_37 rfl (lv_at hl 1 rfl) ?_
  refine va_putF (D := J.1) (ci := 2) (v := .ref w) (ty := (.object "FoxHoles$Warren")) (C := RX2) (T := TX2) (N := 7) hx hb hts inX2 tyX2 tyX2_ok nmX2 hown hK.1 hP hD hS 0 rfl rfl 0 (by decide) (hts _ q_223) (fun _ h9 => h9) rfl hin rfl (by decide +kernel) rfl rfl (Nat.le_of_ble_eq_true rfl) dX2_init_38 (fun H locs hP hD hS => ?_)
  have hP : va_P J.1 cls [(c0, .inr (2, [.ref w, .ref n1, .ref n2, .ref n3, .ref n4, .int 0, .int 0])), (n1, .inl (J.2.1, 40, .inl (fun _ => 0))), (n2, .inl (J.2.1, 40, .inl (fun _ => 0))), (n3, .inl (J.2.1, 40, .inl (fun _ => 0))), (n4, .inl (J.2.1, 40, .inl (fun _ => 0)))] H := hP
  have hD : va_D A [(c0, .inr (2, [.ref w, .ref n1, .ref n2, .ref n3, .ref n4, .int 0, .int 0])), (n1, .inl (J.2.1, 40, .inl (fun _ => 0))), (n2, .inl (J.2.1, 40, .inl (fun _ => 0))), (n3, .inl (J.2.1, 40, .inl (fun _ => 0))), (n4, .inl (J.2.1, 40, .inl (fun _ => 0)))] := hD
  refine W.widen (k := 4) (n := 160) (Nat.le_of_ble_eq_true rfl) (Nat.le_of_ble_eq_true rfl) ?_
  exact wz_v (fun k => [n1, n2, n3, n4].getD k 0) hx hb hr hlk trivial hP hD hS dX2_init_41
theorem dX8_init_0 : decode cX8_init 0 = .ok (.aload_n 0, 1) := by decide +kernel
theorem q_251 : Cond.methodLink RX8 3 ⟨"java/lang/Object", "<init>", "()V"⟩ ∈ lw_g := mem_q 251 (by decide +kernel) rfl
theorem dX8_init_1 : decode cX8_init 1 = .ok (.invokespecial 3, 3) := by decide +kernel
theorem dX8_init_4 : decode cX8_init 4 = .ok (.aload_n 0, 1) := by decide +kernel
theorem dX8_init_5 : decode cX8_init 5 = .ok (.bipush 60, 2) := by decide +kernel
theorem dX8_init_7 : decode cX8_init 7 = .ok (.newarray .int, 2) := by decide +kernel
theorem q_253 : Cond.fieldLink RX8 9 RX8 "left" "[I" ∈ lw_g := mem_q 253 (by decide +kernel) rfl
theorem dX8_init_9 : decode cX8_init 9 = .ok (.putfield 9, 3) := by decide +kernel
theorem dX8_init_12 : decode cX8_init 12 = .ok (.aload_n 0, 1) := by decide +kernel
theorem dX8_init_13 : decode cX8_init 13 = .ok (.aload_n 1, 1) := by decide +kernel
theorem q_252 : Cond.fieldLink RX8 15 RX8 "warren" "LFoxHoles$Warren;" ∈ lw_g := mem_q 252 (by decide +kernel) rfl
theorem dX8_init_14 : decode cX8_init 14 = .ok (.putfield 15, 3) := by decide +kernel
theorem dX8_init_17 : decode cX8_init 17 = .ok (.return_, 1) := by decide +kernel
set_option maxHeartbeats 4000000 in
set_option maxRecDepth 100000 in
theorem n_Looks (l : Launch) (J : va_J9) (sz : Nat) (lk : Nat) (w : Nat) : WC l J yX8_init cX8_init 2 none ({ frames := 1, cells := 1, slots := 60, locals := 24 }) [.ref lk, .ref w] [(lk, .inr (8, [.null, .null]))] sz (Qv J (fun (u : Nat → Nat) => True) (fun (u : Nat → Nat) => [])) 1 60 := by
  refine wc_of (by decide) (Nat.le_of_ble_eq_true rfl) ?_
  intro p e s m below meth c ls A hE hl hP hK hD hS hA
  obtain ⟨hx, hb, hr, hml, hown, hts, hlk, hin⟩ := hE
  have hown : s.vm.findClass RX8 = some m.cls := hown
  have hl : lv_has ls 2 [(0, .ref lk), (1, .ref w)] := hl
  have hin : meth.name = "<init>" := hin
  refine lv_aload_n hx hb dX8_init_0 rfl (lv_at hl 0 rfl) ?_
  refine W.objInit hx hb hown (hts _ q_251) (hts _ q_125) (hts _ q_126) rfl (by rw [hml]; exact hl.1) rfl dX8_init_1 (Nat.le_of_ble_eq_true rfl) (Nat.le_of_ble_eq_true rfl) ?_
  refine W.eq (g2 := F0 m 4 ls []) rfl ?_
  refine lv_aload_n hx hb dX8_init_4 rfl (lv_at hl 0 rfl) ?_
  refine lv_bipush (v := 60) hx hb dX8_init_5 (by decide) ?_
  refine na_i (a0 := (0, .inl (fun _ => 0))) (N' := 60) hx hb hts q_165 hK hP hD hS hA (by decide) (by decide) (by decide) (Nat.le_of_ble_eq_true rfl) (Nat.le_of_ble_eq_true rfl) dX8_init_7 (fun n1 H hP hD hS => ?_)
  have hP : va_P J.1 cls [(lk, .inr (8, [.null, .null])), (n1, .inl (J.2.1, 60, .inl (fun _ => 0)))] H := hP
  have hD : va_D A [(lk, .inr (8, [.null, .null])), (n1, .inl (J.2.1, 60, .inl (fun _ => 0)))] := hD
  refine W.widen (k := 1) (n := 60) (Nat.le_of_ble_eq_true rfl) (Nat.le_of_ble_eq_true rfl) ?_
  refine va_putF (D := J.1) (ci := 8) (v := .ref n1) (ty := (.array .int)) (C := RX8) (T := TX8) (N := 2) hx hb hts inX8 tyX8 tyX8_ok nmX8 hown hK.1 hP hD hS 0 rfl rfl 1 (by decide) (hts _ q_253) (fun _ h9 => h9) rfl hin rfl (by decide +kernel) rfl rfl (Nat.le_of_ble_eq_true rfl) dX8_init_9 (fun H locs hP hD hS => ?_)
  have hP : va_P J.1 cls [(lk, .inr (8, [.null, .ref n1])), (n1, .inl (J.2.1, 60, .inl (fun _ => 0)))] H := hP
  have hD : va_D A [(lk, .inr (8, [.null, .ref n1])), (n1, .inl (J.2.1, 60, .inl (fun _ => 0)))] := hD
  refine lv_aload_n hx hb dX8_init_12 rfl (lv_at hl 0 rfl) ?_
  refine lv_aload_n hx hb dX8_init_13 rfl (lv_at hl 1 rfl) ?_
  refine va_putF (D := J.1) (ci := 8) (v := .ref w) (ty := (.object "FoxHoles$Warren")) (C := RX8) (T := TX8) (N := 2) hx hb hts inX8 tyX8 tyX8_ok nmX8 hown hK.1 hP hD hS 0 rfl rfl 0 (by decide) (hts _ q_252) (fun _ h9 => h9) rfl hin rfl (by decide +kernel) rfl rfl (Nat.le_of_ble_eq_true rfl) dX8_init_14 (fun H locs hP hD hS => ?_)
  have hP : va_P J.1 cls [(lk, .inr (8, [.ref w, .ref n1])), (n1, .inl (J.2.1, 60, .inl (fun _ => 0)))] H := hP
  have hD : va_D A [(lk, .inr (8, [.ref w, .ref n1])), (n1, .inl (J.2.1, 60, .inl (fun _ => 0)))] := hD
  refine W.widen (k := 1) (n := 60) (Nat.le_of_ble_eq_true rfl) (Nat.le_of_ble_eq_true rfl) ?_
  exact wz_v (fun k => [].getD k 0) hx hb hr hlk trivial (hP.sub (ws' := []) [] rfl) (hD.sub (ws' := []) [] (by decide) rfl) hS dX8_init_17
theorem dX6_init_0 : decode cX6_init 0 = .ok (.aload_n 0, 1) := by decide +kernel
theorem q_264 : Cond.methodLink RX6 5 ⟨"java/lang/Object", "<init>", "()V"⟩ ∈ lw_g := mem_q 264 (by decide +kernel) rfl
theorem dX6_init_1 : decode cX6_init 1 = .ok (.invokespecial 5, 3) := by decide +kernel
theorem dX6_init_4 : decode cX6_init 4 = .ok (.aload_n 0, 1) := by decide +kernel
theorem dX6_init_5 : decode cX6_init 5 = .ok (.sipush 7168, 3) := by decide +kernel
theorem dX6_init_8 : decode cX6_init 8 = .ok (.newarray .int, 2) := by decide +kernel
theorem q_266 : Cond.fieldLink RX6 11 RX6 "trail" "[I" ∈ lw_g := mem_q 266 (by decide +kernel) rfl
theorem dX6_init_10 : decode cX6_init 10 = .ok (.putfield 11, 3) := by decide +kernel
theorem dX6_init_13 : decode cX6_init 13 = .ok (.aload_n 0, 1) := by decide +kernel
theorem dX6_init_14 : decode cX6_init 14 = .ok (.sipush 7168, 3) := by decide +kernel
theorem dX6_init_17 : decode cX6_init 17 = .ok (.newarray .int, 2) := by decide +kernel
theorem q_267 : Cond.fieldLink RX6 15 RX6 "queue" "[I" ∈ lw_g := mem_q 267 (by decide +kernel) rfl
theorem dX6_init_19 : decode cX6_init 19 = .ok (.putfield 15, 3) := by decide +kernel
theorem dX6_init_22 : decode cX6_init 22 = .ok (.aload_n 0, 1) := by decide +kernel
theorem dX6_init_23 : decode cX6_init 23 = .ok (.bipush 32, 2) := by decide +kernel
theorem dX6_init_25 : decode cX6_init 25 = .ok (.newarray .int, 2) := by decide +kernel
theorem dX6_init_27 : decode cX6_init 27 = .ok (.putfield 18, 3) := by decide +kernel
theorem dX6_init_30 : decode cX6_init 30 = .ok (.aload_n 0, 1) := by decide +kernel
theorem dX6_init_31 : decode cX6_init 31 = .ok (.bipush 32, 2) := by decide +kernel
theorem dX6_init_33 : decode cX6_init 33 = .ok (.newarray .int, 2) := by decide +kernel
theorem dX6_init_35 : decode cX6_init 35 = .ok (.putfield 21, 3) := by decide +kernel
theorem dX6_init_38 : decode cX6_init 38 = .ok (.aload_n 0, 1) := by decide +kernel
theorem dX6_init_39 : decode cX6_init 39 = .ok (.iconst (-1), 1) := by decide +kernel
theorem dX6_init_40 : decode cX6_init 40 = .ok (.putfield 24, 3) := by decide +kernel
theorem dX6_init_43 : decode cX6_init 43 = .ok (.aload_n 0, 1) := by decide +kernel
theorem dX6_init_44 : decode cX6_init 44 = .ok (.aload_n 1, 1) := by decide +kernel
theorem dX6_init_45 : decode cX6_init 45 = .ok (.putfield 28, 3) := by decide +kernel
theorem dX6_init_48 : decode cX6_init 48 = .ok (.return_, 1) := by decide +kernel
set_option maxHeartbeats 4000000 in
set_option maxRecDepth 100000 in
theorem n_Hunt (l : Launch) (J : va_J9) (sz : Nat) (hu : Nat) (w : Nat) : WC l J yX6_init cX6_init 2 none ({ frames := 1, cells := 4, slots := 14400, locals := 24 }) [.ref hu, .ref w] [(hu, .inr (6, [.null, .null, .null, .int 0, .null, .null, .int 0, .int 0, .int 0, .int 0, .int 0]))] sz (Qv J (fun (u : Nat → Nat) => True) (fun (u : Nat → Nat) => [(hu, .inr (6, [.ref w, .ref (u 0), .ref (u 1), .int 0, .ref (u 2), .ref (u 3), .int 0, .int 0, .int 0, .int 0, .int (-1)])), ((u 2), .inl (J.2.1, 32, .inl (fun _ => 0))), ((u 3), .inl (J.2.1, 32, .inl (fun _ => 0)))])) 4 14400 := by
  refine wc_of (by decide) (Nat.le_of_ble_eq_true rfl) ?_
  intro p e s m below meth c ls A hE hl hP hK hD hS hA
  obtain ⟨hx, hb, hr, hml, hown, hts, hlk, hin⟩ := hE
  have hown : s.vm.findClass RX6 = some m.cls := hown
  have hl : lv_has ls 2 [(0, .ref hu), (1, .ref w)] := hl
  have hin : meth.name = "<init>" := hin
  refine lv_aload_n hx hb dX6_init_0 rfl (lv_at hl 0 rfl) ?_
  refine W.objInit hx hb hown (hts _ q_264) (hts _ q_125) (hts _ q_126) rfl (by rw [hml]; exact hl.1) rfl dX6_init_1 (Nat.le_of_ble_eq_true rfl) (Nat.le_of_ble_eq_true rfl) ?_
  refine W.eq (g2 := F0 m 4 ls []) rfl ?_
  refine lv_aload_n hx hb dX6_init_4 rfl (lv_at hl 0 rfl) ?_
  refine lv_sipush (v := 7168) hx hb dX6_init_5 (by decide) ?_
  refine na_i (a0 := (0, .inl (fun _ => 0))) (N' := 7168) hx hb hts q_165 hK hP hD hS hA (by decide) (by decide) (by decide) (Nat.le_of_ble_eq_true rfl) (Nat.le_of_ble_eq_true rfl) dX6_init_8 (fun n1 H hP hD hS => ?_)
  have hP : va_P J.1 cls [(hu, .inr (6, [.null, .null, .null, .int 0, .null, .null, .int 0, .int 0, .int 0, .int 0, .int 0])), (n1, .inl (J.2.1, 7168, .inl (fun _ => 0)))] H := hP
  have hD : va_D A [(hu, .inr (6, [.null, .null, .null, .int 0, .null, .null, .int 0, .int 0, .int 0, .int 0, .int 0])), (n1, .inl (J.2.1, 7168, .inl (fun _ => 0)))] := hD
  refine W.widen (k := 1) (n := 7168) (Nat.le_of_ble_eq_true rfl) (Nat.le_of_ble_eq_true rfl) ?_
  refine va_putF (D := J.1) (ci := 6) (v := .ref n1) (ty := (.array .int)) (C := RX6) (T := TX6) (N := 11) hx hb hts inX6 tyX6 tyX6_ok nmX6 hown hK.1 hP hD hS 0 rfl rfl 1 (by decide) (hts _ q_266) (fun _ h9 => h9) rfl hin rfl (by decide +kernel) rfl rfl (Nat.le_of_ble_eq_true rfl) dX6_init_10 (fun H locs hP hD hS => ?_)
  have hP : va_P J.1 cls [(hu, .inr (6, [.null, .ref n1, .null, .int 0, .null, .null, .int 0, .int 0, .int 0, .int 0, .int 0])), (n1, .inl (J.2.1, 7168, .inl (fun _ => 0)))] H := hP
  have hD : va_D A [(hu, .inr (6, [.null, .ref n1, .null, .int 0, .null, .null, .int 0, .int 0, .int 0, .int 0, .int 0])), (n1, .inl (J.2.1, 7168, .inl (fun _ => 0)))] := hD
  refine lv_aload_n hx hb dX6_init_13 rfl (lv_at hl 0 rfl) ?_
  refine lv_sipush (v := 7168) hx hb dX6_init_14 (by decide) ?_
  refine na_i (a0 := (0, .inl (fun _ => 0))) (N' := 7168) hx hb hts q_165 hK hP hD hS hA (by decide) (by decide) (by decide) (Nat.le_of_ble_eq_true rfl) (Nat.le_of_ble_eq_true rfl) dX6_init_17 (fun n2 H hP hD hS => ?_)
  have hP : va_P J.1 cls [(hu, .inr (6, [.null, .ref n1, .null, .int 0, .null, .null, .int 0, .int 0, .int 0, .int 0, .int 0])), (n1, .inl (J.2.1, 7168, .inl (fun _ => 0))), (n2, .inl (J.2.1, 7168, .inl (fun _ => 0)))] H := hP
  have hD : va_D A [(hu, .inr (6, [.null, .ref n1, .null, .int 0, .null, .null, .int 0, .int 0, .int 0, .int 0, .int 0])), (n1, .inl (J.2.1, 7168, .inl (fun _ => 0))), (n2, .inl (J.2.1, 7168, .inl (fun _ => 0)))] := hD
  refine W.widen (k := 2) (n := 14336) (Nat.le_of_ble_eq_true rfl) (Nat.le_of_ble_eq_true rfl) ?_
  refine va_putF (D := J.1) (ci := 6) (v := .ref n2) (ty := (.array .int)) (C := RX6) (T := TX6) (N := 11) hx hb hts inX6 tyX6 tyX6_ok nmX6 hown hK.1 hP hD hS 0 rfl rfl 2 (by decide) (hts _ q_267) (fun _ h9 => h9) rfl hin rfl (by decide +kernel) rfl rfl (Nat.le_of_ble_eq_true rfl) dX6_init_19 (fun H locs hP hD hS => ?_)
  have hP : va_P J.1 cls [(hu, .inr (6, [.null, .ref n1, .ref n2, .int 0, .null, .null, .int 0, .int 0, .int 0, .int 0, .int 0])), (n1, .inl (J.2.1, 7168, .inl (fun _ => 0))), (n2, .inl (J.2.1, 7168, .inl (fun _ => 0)))] H := hP
  have hD : va_D A [(hu, .inr (6, [.null, .ref n1, .ref n2, .int 0, .null, .null, .int 0, .int 0, .int 0, .int 0, .int 0])), (n1, .inl (J.2.1, 7168, .inl (fun _ => 0))), (n2, .inl (J.2.1, 7168, .inl (fun _ => 0)))] := hD
  refine lv_aload_n hx hb dX6_init_22 rfl (lv_at hl 0 rfl) ?_
  refine lv_bipush (v := 32) hx hb dX6_init_23 (by decide) ?_
  refine na_i (a0 := (0, .inl (fun _ => 0))) (N' := 32) hx hb hts q_165 hK hP hD hS hA (by decide) (by decide) (by decide) (Nat.le_of_ble_eq_true rfl) (Nat.le_of_ble_eq_true rfl) dX6_init_25 (fun n3 H hP hD hS => ?_)
  have hP : va_P J.1 cls [(hu, .inr (6, [.null, .ref n1, .ref n2, .int 0, .null, .null, .int 0, .int 0, .int 0, .int 0, .int 0])), (n1, .inl (J.2.1, 7168, .inl (fun _ => 0))), (n2, .inl (J.2.1, 7168, .inl (fun _ => 0))), (n3, .inl (J.2.1, 32, .inl (fun _ => 0)))] H := hP
  have hD : va_D A [(hu, .inr (6, [.null, .ref n1, .ref n2, .int 0, .null, .null, .int 0, .int 0, .int 0, .int 0, .int 0])), (n1, .inl (J.2.1, 7168, .inl (fun _ => 0))), (n2, .inl (J.2.1, 7168, .inl (fun _ => 0))), (n3, .inl (J.2.1, 32, .inl (fun _ => 0)))] := hD
  refine W.widen (k := 3) (n := 14368) (Nat.le_of_ble_eq_true rfl) (Nat.le_of_ble_eq_true rfl) ?_
  refine va_putF (D := J.1) (ci := 6) (v := .ref n3) (ty := (.array .int)) (C := RX6) (T := TX6) (N := 11) hx hb hts inX6 tyX6 tyX6_ok nmX6 hown hK.1 hP hD hS 0 rfl rfl 4 (by decide) (hts _ q_269) (fun _ h9 => h9) rfl hin rfl (by decide +kernel) rfl rfl (Nat.le_of_ble_eq_true rfl) dX6_init_27 (fun H locs hP hD hS => ?_)
  have hP : va_P J.1 cls [(hu, .inr (6, [.null, .ref n1, .ref n2, .int 0, .ref n3, .null, .int 0, .int 0, .int 0, .int 0, .int 0])), (n1, .inl (J.2.1, 7168, .inl (fun _ => 0))), (n2, .inl (J.2.1, 7168, .inl (fun _ => 0))), (n3, .inl (J.2.1, 32, .inl (fun _ => 0)))] H := hP
  have hD : va_D A [(hu, .inr (6, [.null, .ref n1, .ref n2, .int 0, .ref n3, .null, .int 0, .int 0, .int 0, .int 0, .int 0])), (n1, .inl (J.2.1, 7168, .inl (fun _ => 0))), (n2, .inl (J.2.1, 7168, .inl (fun _ => 0))), (n3, .inl (J.2.1, 32, .inl (fun _ => 0)))] := hD
  refine lv_aload_n hx hb dX6_init_30 rfl (lv_at hl 0 rfl) ?_
  refine lv_bipush (v := 32) hx hb dX6_init_31 (by decide) ?_
  refine na_i (a0 := (0, .inl (fun _ => 0))) (N' := 32) hx hb hts q_165 hK hP hD hS hA (by decide) (by decide) (by decide) (Nat.le_of_ble_eq_true rfl) (Nat.le_of_ble_eq_true rfl) dX6_init_33 (fun n4 H hP hD hS => ?_)
  have hP : va_P J.1 cls [(hu, .inr (6, [.null, .ref n1, .ref n2, .int 0, .ref n3, .null, .int 0, .int 0, .int 0, .int 0, .int 0])), (n1, .inl (J.2.1, 7168, .inl (fun _ => 0))), (n2, .inl (J.2.1, 7168, .inl (fun _ => 0))), (n3, .inl (J.2.1, 32, .inl (fun _ => 0))), (n4, .inl (J.2.1, 32, .inl (fun _ => 0)))] H := hP
  have hD : va_D A [(hu, .inr (6, [.null, .ref n1, .ref n2, .int 0, .ref n3, .null, .int 0, .int 0, .int 0, .int 0, .int 0])), (n1, .inl (J.2.1, 7168, .inl (fun _ => 0))), (n2, .inl (J.2.1, 7168, .inl (fun _ => 0))), (n3, .inl (J.2.1, 32, .inl (fun _ => 0))), (n4, .inl (J.2.1, 32, .inl (fun _ => 0)))] := hD
  refine W.widen (k := 4) (n := 14400) (Nat.le_of_ble_eq_true rfl) (Nat.le_of_ble_eq_true rfl) ?_
  refine va_putF (D := J.1) (ci := 6) (v := .ref n4) (ty := (.array .int)) (C := RX6) (T := TX6) (N := 11) hx hb hts inX6 tyX6 tyX6_ok nmX6 hown hK.1 hP hD hS 0 rfl rfl 5 (by decide) (hts _ q_270) (fun _ h9 => h9) rfl hin rfl (by decide +kernel) rfl rfl (Nat.le_of_ble_eq_true rfl) dX6_init_35 (fun H locs hP hD hS => ?_)
  have hP : va_P J.1 cls [(hu, .inr (6, [.null, .ref n1, .ref n2, .int 0, .ref n3, .ref n4, .int 0, .int 0, .int 0, .int 0, .int 0])), (n1, .inl (J.2.1, 7168, .inl (fun _ => 0))), (n2, .inl (J.2.1, 7168, .inl (fun _ => 0))), (n3, .inl (J.2.1, 32, .inl (fun _ => 0))), (n4, .inl (J.2.1, 32, .inl (fun _ => 0)))] H := hP
  have hD : va_D A [(hu, .inr (6, [.null, .ref n1, .ref n2, .int 0, .ref n3, .ref n4, .int 0, .int 0, .int 0, .int 0, .int 0])), (n1, .inl (J.2.1, 7168, .inl (fun _ => 0))), (n2, .inl (J.2.1, 7168, .inl (fun _ => 0))), (n3, .inl (J.2.1, 32, .inl (fun _ => 0))), (n4, .inl (J.2.1, 32, .inl (fun _ => 0)))] := hD
  refine lv_aload_n hx hb dX6_init_38 rfl (lv_at hl 0 rfl) ?_
  refine lv_iconst (v := (-1)) hx hb dX6_init_39 (by decide) ?_
  refine va_put (D := J.1) (ci := 6) (v := .int (-1)) (ty := (.int)) (C := RX6) (T := TX6) (N := 11) hx hb hts inX6 tyX6 tyX6_ok nmX6 hown hK.1 hP hD hS 0 rfl rfl 10 (by decide) (hts _ q_275) (fun _ h9 => h9) rfl (by decide +kernel) rfl rfl (Nat.le_of_ble_eq_true rfl) dX6_init_40 (fun H locs hP hD hS => ?_)
  have hP : va_P J.1 cls [(hu, .inr (6, [.null, .ref n1, .ref n2, .int 0, .ref n3, .ref n4, .int 0, .int 0, .int 0, .int 0, .int (-1)])), (n1, .inl (J.2.1, 7168, .inl (fun _ => 0))), (n2, .inl (J.2.1, 7168, .inl (fun _ => 0))), (n3, .inl (J.2.1, 32, .inl (fun _ => 0))), (n4, .inl (J.2.1, 32, .inl (fun _ => 0)))] H := hP
  have hD : va_D A [(hu, .inr (6, [.null, .ref n1, .ref n2, .int 0, .ref n3, .ref n4, .int 0, .int 0, .int 0, .int 0, .int (-1)])), (n1, .inl (J.2.1, 7168, .inl (fun _ => 0))), (n2, .inl (J.2.1, 7168, .inl (fun _ => 0))), (n3, .inl (J.2.1, 32, .inl (fun _ => 0))), (n4, .inl (J.2.1, 32, .inl (fun _ => 0)))] := hD
  refine lv_aload_n hx hb dX6_init_43 rfl (lv_at hl 0 rfl) ?_
  refine lv_aload_n hx hb dX6_init_44 rfl (lv_at hl 1 rfl) ?_
  refine va_putF (D := J.1) (ci := 6) (v := .ref w) (ty := (.object "FoxHoles$Warren")) (C := RX6) (T := TX6) (N := 11) hx hb hts inX6 tyX6 tyX6_ok nmX6 hown hK.1 hP hD hS 0 rfl rfl 0 (by decide) (hts _ q_265) (fun _ h9 => h9) rfl hin rfl (by decide +kernel) rfl rfl (Nat.le_of_ble_eq_true rfl) dX6_init_45 (fun H locs hP hD hS => ?_)
  have hP : va_P J.1 cls [(hu, .inr (6, [.ref w, .ref n1, .ref n2, .int 0, .ref n3, .ref n4, .int 0, .int 0, .int 0, .int 0, .int (-1)])), (n1, .inl (J.2.1, 7168, .inl (fun _ => 0))), (n2, .inl (J.2.1, 7168, .inl (fun _ => 0))), (n3, .inl (J.2.1, 32, .inl (fun _ => 0))), (n4, .inl (J.2.1, 32, .inl (fun _ => 0)))] H := hP
  have hD : va_D A [(hu, .inr (6, [.ref w, .ref n1, .ref n2, .int 0, .ref n3, .ref n4, .int 0, .int 0, .int 0, .int 0, .int (-1)])), (n1, .inl (J.2.1, 7168, .inl (fun _ => 0))), (n2, .inl (J.2.1, 7168, .inl (fun _ => 0))), (n3, .inl (J.2.1, 32, .inl (fun _ => 0))), (n4, .inl (J.2.1, 32, .inl (fun _ => 0)))] := hD
  refine W.widen (k := 4) (n := 14400) (Nat.le_of_ble_eq_true rfl) (Nat.le_of_ble_eq_true rfl) ?_
  exact wz_v (fun k => [n1, n2, n3, n4].getD k 0) hx hb hr hlk trivial (hP.sub (ws' := [(hu, .inr (6, [.ref w, .ref n1, .ref n2, .int 0, .ref n3, .ref n4, .int 0, .int 0, .int 0, .int 0, .int (-1)])), (n3, .inl (J.2.1, 32, .inl (fun _ => 0))), (n4, .inl (J.2.1, 32, .inl (fun _ => 0)))]) [0, 3, 4] rfl) (hD.sub (ws' := [(hu, .inr (6, [.ref w, .ref n1, .ref n2, .int 0, .ref n3, .ref n4, .int 0, .int 0, .int 0, .int 0, .int (-1)])), (n3, .inl (J.2.1, 32, .inl (fun _ => 0))), (n4, .inl (J.2.1, 32, .inl (fun _ => 0)))]) [0, 3, 4] (by decide) rfl) hS dX6_init_48
theorem dX5_init_0 : decode cX5_init 0 = .ok (.aload_n 0, 1) := by decide +kernel
theorem q_304 : Cond.methodLink RX5 3 ⟨"java/lang/Object", "<init>", "()V"⟩ ∈ lw_g := mem_q 304 (by decide +kernel) rfl
theorem dX5_init_1 : decode cX5_init 1 = .ok (.invokespecial 3, 3) := by decide +kernel
theorem dX5_init_4 : decode cX5_init 4 = .ok (.aload_n 0, 1) := by decide +kernel
theorem dX5_init_5 : decode cX5_init 5 = .ok (.aload_n 1, 1) := by decide +kernel
theorem dX5_init_6 : decode cX5_init 6 = .ok (.putfield 9, 3) := by decide +kernel
theorem dX5_init_9 : decode cX5_init 9 = .ok (.return_, 1) := by decide +kernel
set_option maxHeartbeats 4000000 in
set_option maxRecDepth 100000 in
theorem n_Ground (l : Launch) (J : va_J9) (sz : Nat) (gr : Nat) (w : Nat) : WC l J yX5_init cX5_init 2 none ({ frames := 1, cells := 0, slots := 0, locals := 24 }) [.ref gr, .ref w] [(gr, .inr (5, [.null]))] sz (Qv J (fun (u : Nat → Nat) => True) (fun (u : Nat → Nat) => [(gr, .inr (5, [.ref w]))])) 0 0 := by
  refine wc_of (by decide) (Nat.le_of_ble_eq_true rfl) ?_
  intro p e s m below meth c ls A hE hl hP hK hD hS hA
  obtain ⟨hx, hb, hr, hml, hown, hts, hlk, hin⟩ := hE
  have hown : s.vm.findClass RX5 = some m.cls := hown
  have hl : lv_has ls 2 [(0, .ref gr), (1, .ref w)] := hl
  have hin : meth.name = "<init>" := hin
  refine lv_aload_n hx hb dX5_init_0 rfl (lv_at hl 0 rfl) ?_
  refine W.objInit hx hb hown (hts _ q_304) (hts _ q_125) (hts _ q_126) rfl (by rw [hml]; exact hl.1) rfl dX5_init_1 (Nat.le_of_ble_eq_true rfl) (Nat.le_of_ble_eq_true rfl) ?_
  refine W.eq (g2 := F0 m 4 ls []) rfl ?_
  refine lv_aload_n hx hb dX5_init_4 rfl (lv_at hl 0 rfl) ?_
  refine lv_aload_n hx hb dX5_init_5 rfl (lv_at hl 1 rfl) ?_
  refine va_putF (D := J.1) (ci := 5) (v := .ref w) (ty := (.object "FoxHoles$Warren")) (C := RX5) (T := TX5) (N := 1) hx hb hts inX5 tyX5 tyX5_ok nmX5 hown hK.1 hP hD hS 0 rfl rfl 0 (by decide) (hts _ q_305) (fun _ h9 => h9) rfl hin rfl (by decide +kernel) rfl rfl (Nat.le_of_ble_eq_true rfl) dX5_init_6 (fun H locs hP hD hS => ?_)
  have hP : va_P J.1 cls [(gr, .inr (5, [.ref w]))] H := hP
  have hD : va_D A [(gr, .inr (5, [.ref w]))] := hD
  refine W.widen (k := 0) (n := 0) (Nat.le_of_ble_eq_true rfl) (Nat.le_of_ble_eq_true rfl) ?_
  exact wz_v (fun k => [].getD k 0) hx hb hr hlk trivial hP hD hS dX5_init_9
theorem dX1_init_0 : decode cX1_init 0 = .ok (.aload_n 0, 1) := by decide +kernel
theorem q_314 : Cond.methodLink RX1 3 ⟨"java/lang/Object", "<init>", "()V"⟩ ∈ lw_g := mem_q 314 (by decide +kernel) rfl
theorem dX1_init_1 : decode cX1_init 1 = .ok (.invokespecial 3, 3) := by decide +kernel
theorem dX1_init_4 : decode cX1_init 4 = .ok (.aload_n 0, 1) := by decide +kernel
theorem dX1_init_5 : decode cX1_init 5 = .ok (.bipush 10, 2) := by decide +kernel
theorem dX1_init_7 : decode cX1_init 7 = .ok (.newarray .int, 2) := by decide +kernel
theorem q_319 : Cond.fieldLink RX1 9 RX1 "ways" "[I" ∈ lw_g := mem_q 319 (by decide +kernel) rfl
theorem dX1_init_9 : decode cX1_init 9 = .ok (.putfield 9, 3) := by decide +kernel
theorem dX1_init_12 : decode cX1_init 12 = .ok (.aload_n 0, 1) := by decide +kernel
theorem dX1_init_13 : decode cX1_init 13 = .ok (.iconst 4, 1) := by decide +kernel
theorem dX1_init_14 : decode cX1_init 14 = .ok (.bipush 10, 2) := by decide +kernel
theorem q_315 : Cond.classLink RX1 15 "[[J" ∈ lw_g := mem_q 315 (by decide +kernel) rfl
theorem q_360 : Cond.arrayClass .long ∈ lw_g := mem_q 360 (by decide +kernel) rfl
theorem dX1_init_16 : decode cX1_init 16 = .ok (.multianewarray 15 2, 4) := by decide +kernel
theorem q_320 : Cond.fieldLink RX1 17 RX1 "layers" "[[J" ∈ lw_g := mem_q 320 (by decide +kernel) rfl
theorem dX1_init_20 : decode cX1_init 20 = .ok (.putfield 17, 3) := by decide +kernel
theorem dX1_init_23 : decode cX1_init 23 = .ok (.aload_n 0, 1) := by decide +kernel
theorem dX1_init_24 : decode cX1_init 24 = .ok (.bipush 10, 2) := by decide +kernel
theorem dX1_init_26 : decode cX1_init 26 = .ok (.newarray .long, 2) := by decide +kernel
theorem q_321 : Cond.fieldLink RX1 20 RX1 "now" "[J" ∈ lw_g := mem_q 321 (by decide +kernel) rfl
theorem dX1_init_28 : decode cX1_init 28 = .ok (.putfield 20, 3) := by decide +kernel
theorem dX1_init_31 : decode cX1_init 31 = .ok (.aload_n 0, 1) := by decide +kernel
theorem dX1_init_32 : decode cX1_init 32 = .ok (.bipush 10, 2) := by decide +kernel
theorem dX1_init_34 : decode cX1_init 34 = .ok (.newarray .long, 2) := by decide +kernel
theorem q_322 : Cond.fieldLink RX1 24 RX1 "later" "[J" ∈ lw_g := mem_q 322 (by decide +kernel) rfl
theorem dX1_init_36 : decode cX1_init 36 = .ok (.putfield 24, 3) := by decide +kernel
theorem dX1_init_39 : decode cX1_init 39 = .ok (.aload_n 0, 1) := by decide +kernel
theorem dX1_init_40 : decode cX1_init 40 = .ok (.iconst 4, 1) := by decide +kernel
theorem dX1_init_41 : decode cX1_init 41 = .ok (.newarray .int, 2) := by decide +kernel
theorem q_326 : Cond.fieldLink RX1 27 RX1 "tried" "[I" ∈ lw_g := mem_q 326 (by decide +kernel) rfl
theorem dX1_init_43 : decode cX1_init 43 = .ok (.putfield 27, 3) := by decide +kernel
theorem dX1_init_46 : decode cX1_init 46 = .ok (.aload_n 0, 1) := by decide +kernel
theorem dX1_init_47 : decode cX1_init 47 = .ok (.iconst 4, 1) := by decide +kernel
theorem dX1_init_48 : decode cX1_init 48 = .ok (.newarray .int, 2) := by decide +kernel
theorem q_327 : Cond.fieldLink RX1 30 RX1 "bestRow" "[I" ∈ lw_g := mem_q 327 (by decide +kernel) rfl
theorem dX1_init_50 : decode cX1_init 50 = .ok (.putfield 30, 3) := by decide +kernel
theorem dX1_init_53 : decode cX1_init 53 = .ok (.aload_n 0, 1) := by decide +kernel
theorem dX1_init_54 : decode cX1_init 54 = .ok (.iconst (-1), 1) := by decide +kernel
theorem q_330 : Cond.fieldLink RX1 33 RX1 "bestVersion" "I" ∈ lw_g := mem_q 330 (by decide +kernel) rfl
theorem dX1_init_55 : decode cX1_init 55 = .ok (.putfield 33, 3) := by decide +kernel
theorem dX1_init_58 : decode cX1_init 58 = .ok (.aload_n 0, 1) := by decide +kernel
theorem dX1_init_59 : decode cX1_init 59 = .ok (.aload_n 1, 1) := by decide +kernel
theorem dX1_init_60 : decode cX1_init 60 = .ok (.putfield 37, 3) := by decide +kernel
theorem dX1_init_63 : decode cX1_init 63 = .ok (.aload_n 0, 1) := by decide +kernel
theorem dX1_init_64 : decode cX1_init 64 = .ok (.aload_n 2, 1) := by decide +kernel
theorem q_318 : Cond.fieldLink RX1 41 RX1 "looks" "LFoxHoles$Looks;" ∈ lw_g := mem_q 318 (by decide +kernel) rfl
theorem dX1_init_65 : decode cX1_init 65 = .ok (.putfield 41, 3) := by decide +kernel
theorem dX1_init_68 : decode cX1_init 68 = .ok (.return_, 1) := by decide +kernel
set_option maxHeartbeats 4000000 in
set_option maxRecDepth 100000 in
theorem n_Chance (l : Launch) (J : va_J9) (sz : Nat) (cn : Nat) (w : Nat) (lk : Nat) : WC l J yX1_init cX1_init 3 none ({ frames := 1, cells := 10, slots := 82, locals := 24 }) [.ref cn, .ref w, .ref lk] [(cn, .inr (1, [.null, .null, .null, .null, .null, .null, .long 0, .long 0, .long 0, .null, .null, .long 0, .int 0, .int 0]))] sz (Qv J (fun (u : Nat → Nat) => True) (fun (u : Nat → Nat) => [(cn, .inr (1, [.ref w, .ref lk, .ref (u 0), .ref (u 1), .ref (u 2), .ref (u 3), .long 0, .long 0, .long 0, .ref (u 4), .ref (u 5), .long 0, .int 0, .int (-1)]))])) 10 82 := by
  refine wc_of (by decide) (Nat.le_of_ble_eq_true rfl) ?_
  intro p e s m below meth c ls A hE hl hP hK hD hS hA
  obtain ⟨hx, hb, hr, hml, hown, hts, hlk, hin⟩ := hE
  have hown : s.vm.findClass RX1 = some m.cls := hown
  have hl : lv_has ls 3 [(0, .ref cn), (1, .ref w), (2, .ref lk)] := hl
  have hin : meth.name = "<init>" := hin
  refine lv_aload_n hx hb dX1_init_0 rfl (lv_at hl 0 rfl) ?_
  refine W.objInit hx hb hown (hts _ q_314) (hts _ q_125) (hts _ q_126) rfl (by rw [hml]; exact hl.1) rfl dX1_init_1 (Nat.le_of_ble_eq_true rfl) (Nat.le_of_ble_eq_true rfl) ?_
  refine W.eq (g2 := F0 m 4 ls []) rfl ?_
  refine lv_aload_n hx hb dX1_init_4 rfl (lv_at hl 0 rfl) ?_
  refine lv_bipush (v := 10) hx hb dX1_init_5 (by decide) ?_
  refine na_i (a0 := (0, .inl (fun _ => 0))) (N' := 10) hx hb hts q_165 hK hP hD hS hA (by decide) (by decide) (by decide) (Nat.le_of_ble_eq_true rfl) (Nat.le_of_ble_eq_true rfl) dX1_init_7 (fun n1 H hP hD hS => ?_)
  have hP : va_P J.1 cls [(cn, .inr (1, [.null, .null, .null, .null, .null, .null, .long 0, .long 0, .long 0, .null, .null, .long 0, .int 0, .int 0])), (n1, .inl (J.2.1, 10, .inl (fun _ => 0)))] H := hP
  have hD : va_D A [(cn, .inr (1, [.null, .null, .null, .null, .null, .null, .long 0, .long 0, .long 0, .null, .null, .long 0, .int 0, .int 0])), (n1, .inl (J.2.1, 10, .inl (fun _ => 0)))] := hD
  refine W.widen (k := 1) (n := 10) (Nat.le_of_ble_eq_true rfl) (Nat.le_of_ble_eq_true rfl) ?_
  refine va_putF (D := J.1) (ci := 1) (v := .ref n1) (ty := (.array .int)) (C := RX1) (T := TX1) (N := 14) hx hb hts inX1 tyX1 tyX1_ok nmX1 hown hK.1 hP hD hS 0 rfl rfl 2 (by decide) (hts _ q_319) (fun _ h9 => h9) rfl hin rfl (by decide +kernel) rfl rfl (Nat.le_of_ble_eq_true rfl) dX1_init_9 (fun H locs hP hD hS => ?_)
  have hP : va_P J.1 cls [(cn, .inr (1, [.null, .null, .ref n1, .null, .null, .null, .long 0, .long 0, .long 0, .null, .null, .long 0, .int 0, .int 0])), (n1, .inl (J.2.1, 10, .inl (fun _ => 0)))] H := hP
  have hD : va_D A [(cn, .inr (1, [.null, .null, .ref n1, .null, .null, .null, .long 0, .long 0, .long 0, .null, .null, .long 0, .int 0, .int 0])), (n1, .inl (J.2.1, 10, .inl (fun _ => 0)))] := hD
  refine lv_aload_n hx hb dX1_init_12 rfl (lv_at hl 0 rfl) ?_
  refine lv_iconst (v := 4) hx hb dX1_init_13 (by decide) ?_
  refine lv_bipush (v := 10) hx hb dX1_init_14 (by decide) ?_
  refine nm_ (N' := 4) (K' := 10) hx hb hts hown q_315 q_360 hK hP hD hS hA (by decide) (by decide) (by decide) (by decide) (by decide) (by decide) (by decide) (Nat.le_of_ble_eq_true rfl) (Nat.le_of_ble_eq_true rfl) dX1_init_16 (fun n2 H hP hD hS => ?_)
  have hP : va_P J.1 cls [(cn, .inr (1, [.null, .null, .ref n1, .null, .null, .null, .long 0, .long 0, .long 0, .null, .null, .long 0, .int 0, .int 0])), (n1, .inl (J.2.1, 10, .inl (fun _ => 0)))] H := hP
  have hD : va_D A [(cn, .inr (1, [.null, .null, .ref n1, .null, .null, .null, .long 0, .long 0, .long 0, .null, .null, .long 0, .int 0, .int 0])), (n1, .inl (J.2.1, 10, .inl (fun _ => 0)))] := hD
  refine W.widen (k := 6) (n := 54) (Nat.le_of_ble_eq_true rfl) (Nat.le_of_ble_eq_true rfl) ?_
  refine va_putF (D := J.1) (ci := 1) (v := .ref n2) (ty := (.array (.array .long))) (C := RX1) (T := TX1) (N := 14) hx hb hts inX1 tyX1 tyX1_ok nmX1 hown hK.1 hP hD hS 0 rfl rfl 3 (by decide) (hts _ q_320) (fun _ h9 => h9) rfl hin rfl (by decide +kernel) rfl rfl (Nat.le_of_ble_eq_true rfl) dX1_init_20 (fun H locs hP hD hS => ?_)
  have hP : va_P J.1 cls [(cn, .inr (1, [.null, .null, .ref n1, .ref n2, .null, .null, .long 0, .long 0, .long 0, .null, .null, .long 0, .int 0, .int 0])), (n1, .inl (J.2.1, 10, .inl (fun _ => 0)))] H := hP
  have hD : va_D A [(cn, .inr (1, [.null, .null, .ref n1, .ref n2, .null, .null, .long 0, .long 0, .long 0, .null, .null, .long 0, .int 0, .int 0])), (n1, .inl (J.2.1, 10, .inl (fun _ => 0)))] := hD
  refine lv_aload_n hx hb dX1_init_23 rfl (lv_at hl 0 rfl) ?_
  refine lv_bipush (v := 10) hx hb dX1_init_24 (by decide) ?_
  refine na_l (a0 := (0, .inl (fun _ => 0))) (N' := 10) hx hb hts q_360 hK hP hD hS hA (by decide) (by decide) (by decide) (Nat.le_of_ble_eq_true rfl) (Nat.le_of_ble_eq_true rfl) dX1_init_26 (fun n3 H hP hD hS => ?_)
  have hP : va_P J.1 cls [(cn, .inr (1, [.null, .null, .ref n1, .ref n2, .null, .null, .long 0, .long 0, .long 0, .null, .null, .long 0, .int 0, .int 0])), (n1, .inl (J.2.1, 10, .inl (fun _ => 0))), (n3, .inl (J.2.2.1, 10, .inr (.inl (fun _ => 0))))] H := hP
  have hD : va_D A [(cn, .inr (1, [.null, .null, .ref n1, .ref n2, .null, .null, .long 0, .long 0, .long 0, .null, .null, .long 0, .int 0, .int 0])), (n1, .inl (J.2.1, 10, .inl (fun _ => 0))), (n3, .inl (J.2.2.1, 10, .inr (.inl (fun _ => 0))))] := hD
  refine W.widen (k := 7) (n := 64) (Nat.le_of_ble_eq_true rfl) (Nat.le_of_ble_eq_true rfl) ?_
  refine va_put (D := J.1) (ci := 1) (v := .ref n3) (ty := (.array .long)) (C := RX1) (T := TX1) (N := 14) hx hb hts inX1 tyX1 tyX1_ok nmX1 hown hK.1 hP hD hS 0 rfl rfl 4 (by decide) (hts _ q_321) (fun _ h9 => h9) rfl (by decide +kernel) rfl rfl (Nat.le_of_ble_eq_true rfl) dX1_init_28 (fun H locs hP hD hS => ?_)
  have hP : va_P J.1 cls [(cn, .inr (1, [.null, .null, .ref n1, .ref n2, .ref n3, .null, .long 0, .long 0, .long 0, .null, .null, .long 0, .int 0, .int 0])), (n1, .inl (J.2.1, 10, .inl (fun _ => 0))), (n3, .inl (J.2.2.1, 10, .inr (.inl (fun _ => 0))))] H := hP
  have hD : va_D A [(cn, .inr (1, [.null, .null, .ref n1, .ref n2, .ref n3, .null, .long 0, .long 0, .long 0, .null, .null, .long 0, .int 0, .int 0])), (n1, .inl (J.2.1, 10, .inl (fun _ => 0))), (n3, .inl (J.2.2.1, 10, .inr (.inl (fun _ => 0))))] := hD
  refine lv_aload_n hx hb dX1_init_31 rfl (lv_at hl 0 rfl) ?_
  refine lv_bipush (v := 10) hx hb dX1_init_32 (by decide) ?_
  refine na_l (a0 := (0, .inl (fun _ => 0))) (N' := 10) hx hb hts q_360 hK hP hD hS hA (by decide) (by decide) (by decide) (Nat.le_of_ble_eq_true rfl) (Nat.le_of_ble_eq_true rfl) dX1_init_34 (fun n4 H hP hD hS => ?_)
  have hP : va_P J.1 cls [(cn, .inr (1, [.null, .null, .ref n1, .ref n2, .ref n3, .null, .long 0, .long 0, .long 0, .null, .null, .long 0, .int 0, .int 0])), (n1, .inl (J.2.1, 10, .inl (fun _ => 0))), (n3, .inl (J.2.2.1, 10, .inr (.inl (fun _ => 0)))), (n4, .inl (J.2.2.1, 10, .inr (.inl (fun _ => 0))))] H := hP
  have hD : va_D A [(cn, .inr (1, [.null, .null, .ref n1, .ref n2, .ref n3, .null, .long 0, .long 0, .long 0, .null, .null, .long 0, .int 0, .int 0])), (n1, .inl (J.2.1, 10, .inl (fun _ => 0))), (n3, .inl (J.2.2.1, 10, .inr (.inl (fun _ => 0)))), (n4, .inl (J.2.2.1, 10, .inr (.inl (fun _ => 0))))] := hD
  refine W.widen (k := 8) (n := 74) (Nat.le_of_ble_eq_true rfl) (Nat.le_of_ble_eq_true rfl) ?_
  refine va_put (D := J.1) (ci := 1) (v := .ref n4) (ty := (.array .long)) (C := RX1) (T := TX1) (N := 14) hx hb hts inX1 tyX1 tyX1_ok nmX1 hown hK.1 hP hD hS 0 rfl rfl 5 (by decide) (hts _ q_322) (fun _ h9 => h9) rfl (by decide +kernel) rfl rfl (Nat.le_of_ble_eq_true rfl) dX1_init_36 (fun H locs hP hD hS => ?_)
  have hP : va_P J.1 cls [(cn, .inr (1, [.null, .null, .ref n1, .ref n2, .ref n3, .ref n4, .long 0, .long 0, .long 0, .null, .null, .long 0, .int 0, .int 0])), (n1, .inl (J.2.1, 10, .inl (fun _ => 0))), (n3, .inl (J.2.2.1, 10, .inr (.inl (fun _ => 0)))), (n4, .inl (J.2.2.1, 10, .inr (.inl (fun _ => 0))))] H := hP
  have hD : va_D A [(cn, .inr (1, [.null, .null, .ref n1, .ref n2, .ref n3, .ref n4, .long 0, .long 0, .long 0, .null, .null, .long 0, .int 0, .int 0])), (n1, .inl (J.2.1, 10, .inl (fun _ => 0))), (n3, .inl (J.2.2.1, 10, .inr (.inl (fun _ => 0)))), (n4, .inl (J.2.2.1, 10, .inr (.inl (fun _ => 0))))] := hD
  refine lv_aload_n hx hb dX1_init_39 rfl (lv_at hl 0 rfl) ?_
  refine lv_iconst (v := 4) hx hb dX1_init_40 (by decide) ?_
  refine na_i (a0 := (0, .inl (fun _ => 0))) (N' := 4) hx hb hts q_165 hK hP hD hS hA (by decide) (by decide) (by decide) (Nat.le_of_ble_eq_true rfl) (Nat.le_of_ble_eq_true rfl) dX1_init_41 (fun n5 H hP hD hS => ?_)
  have hP : va_P J.1 cls [(cn, .inr (1, [.null, .null, .ref n1, .ref n2, .ref n3, .ref n4, .long 0, .long 0, .long 0, .null, .null, .long 0, .int 0, .int 0])), (n1, .inl (J.2.1, 10, .inl (fun _ => 0))), (n3, .inl (J.2.2.1, 10, .inr (.inl (fun _ => 0)))), (n4, .inl (J.2.2.1, 10, .inr (.inl (fun _ => 0)))), (n5, .inl (J.2.1, 4, .inl (fun _ => 0)))] H := hP
  have hD : va_D A [(cn, .inr (1, [.null, .null, .ref n1, .ref n2, .ref n3, .ref n4, .long 0, .long 0, .long 0, .null, .null, .long 0, .int 0, .int 0])), (n1, .inl (J.2.1, 10, .inl (fun _ => 0))), (n3, .inl (J.2.2.1, 10, .inr (.inl (fun _ => 0)))), (n4, .inl (J.2.2.1, 10, .inr (.inl (fun _ => 0)))), (n5, .inl (J.2.1, 4, .inl (fun _ => 0)))] := hD
  refine W.widen (k := 9) (n := 78) (Nat.le_of_ble_eq_true rfl) (Nat.le_of_ble_eq_true rfl) ?_
  refine va_putF (D := J.1) (ci := 1) (v := .ref n5) (ty := (.array .int)) (C := RX1) (T := TX1) (N := 14) hx hb hts inX1 tyX1 tyX1_ok nmX1 hown hK.1 hP hD hS 0 rfl rfl 9 (by decide) (hts _ q_326) (fun _ h9 => h9) rfl hin rfl (by decide +kernel) rfl rfl (Nat.le_of_ble_eq_true rfl) dX1_init_43 (fun H locs hP hD hS => ?_)
  have hP : va_P J.1 cls [(cn, .inr (1, [.null, .null, .ref n1, .ref n2, .ref n3, .ref n4, .long 0, .long 0, .long 0, .ref n5, .null, .long 0, .int 0, .int 0])), (n1, .inl (J.2.1, 10, .inl (fun _ => 0))), (n3, .inl (J.2.2.1, 10, .inr (.inl (fun _ => 0)))), (n4, .inl (J.2.2.1, 10, .inr (.inl (fun _ => 0)))), (n5, .inl (J.2.1, 4, .inl (fun _ => 0)))] H := hP
  have hD : va_D A [(cn, .inr (1, [.null, .null, .ref n1, .ref n2, .ref n3, .ref n4, .long 0, .long 0, .long 0, .ref n5, .null, .long 0, .int 0, .int 0])), (n1, .inl (J.2.1, 10, .inl (fun _ => 0))), (n3, .inl (J.2.2.1, 10, .inr (.inl (fun _ => 0)))), (n4, .inl (J.2.2.1, 10, .inr (.inl (fun _ => 0)))), (n5, .inl (J.2.1, 4, .inl (fun _ => 0)))] := hD
  refine lv_aload_n hx hb dX1_init_46 rfl (lv_at hl 0 rfl) ?_
  refine lv_iconst (v := 4) hx hb dX1_init_47 (by decide) ?_
  refine na_i (a0 := (0, .inl (fun _ => 0))) (N' := 4) hx hb hts q_165 hK hP hD hS hA (by decide) (by decide) (by decide) (Nat.le_of_ble_eq_true rfl) (Nat.le_of_ble_eq_true rfl) dX1_init_48 (fun n6 H hP hD hS => ?_)
  have hP : va_P J.1 cls [(cn, .inr (1, [.null, .null, .ref n1, .ref n2, .ref n3, .ref n4, .long 0, .long 0, .long 0, .ref n5, .null, .long 0, .int 0, .int 0])), (n1, .inl (J.2.1, 10, .inl (fun _ => 0))), (n3, .inl (J.2.2.1, 10, .inr (.inl (fun _ => 0)))), (n4, .inl (J.2.2.1, 10, .inr (.inl (fun _ => 0)))), (n5, .inl (J.2.1, 4, .inl (fun _ => 0))), (n6, .inl (J.2.1, 4, .inl (fun _ => 0)))] H := hP
  have hD : va_D A [(cn, .inr (1, [.null, .null, .ref n1, .ref n2, .ref n3, .ref n4, .long 0, .long 0, .long 0, .ref n5, .null, .long 0, .int 0, .int 0])), (n1, .inl (J.2.1, 10, .inl (fun _ => 0))), (n3, .inl (J.2.2.1, 10, .inr (.inl (fun _ => 0)))), (n4, .inl (J.2.2.1, 10, .inr (.inl (fun _ => 0)))), (n5, .inl (J.2.1, 4, .inl (fun _ => 0))), (n6, .inl (J.2.1, 4, .inl (fun _ => 0)))] := hD
  refine W.widen (k := 10) (n := 82) (Nat.le_of_ble_eq_true rfl) (Nat.le_of_ble_eq_true rfl) ?_
  refine va_putF (D := J.1) (ci := 1) (v := .ref n6) (ty := (.array .int)) (C := RX1) (T := TX1) (N := 14) hx hb hts inX1 tyX1 tyX1_ok nmX1 hown hK.1 hP hD hS 0 rfl rfl 10 (by decide) (hts _ q_327) (fun _ h9 => h9) rfl hin rfl (by decide +kernel) rfl rfl (Nat.le_of_ble_eq_true rfl) dX1_init_50 (fun H locs hP hD hS => ?_)
  have hP : va_P J.1 cls [(cn, .inr (1, [.null, .null, .ref n1, .ref n2, .ref n3, .ref n4, .long 0, .long 0, .long 0, .ref n5, .ref n6, .long 0, .int 0, .int 0])), (n1, .inl (J.2.1, 10, .inl (fun _ => 0))), (n3, .inl (J.2.2.1, 10, .inr (.inl (fun _ => 0)))), (n4, .inl (J.2.2.1, 10, .inr (.inl (fun _ => 0)))), (n5, .inl (J.2.1, 4, .inl (fun _ => 0))), (n6, .inl (J.2.1, 4, .inl (fun _ => 0)))] H := hP
  have hD : va_D A [(cn, .inr (1, [.null, .null, .ref n1, .ref n2, .ref n3, .ref n4, .long 0, .long 0, .long 0, .ref n5, .ref n6, .long 0, .int 0, .int 0])), (n1, .inl (J.2.1, 10, .inl (fun _ => 0))), (n3, .inl (J.2.2.1, 10, .inr (.inl (fun _ => 0)))), (n4, .inl (J.2.2.1, 10, .inr (.inl (fun _ => 0)))), (n5, .inl (J.2.1, 4, .inl (fun _ => 0))), (n6, .inl (J.2.1, 4, .inl (fun _ => 0)))] := hD
  refine lv_aload_n hx hb dX1_init_53 rfl (lv_at hl 0 rfl) ?_
  refine lv_iconst (v := (-1)) hx hb dX1_init_54 (by decide) ?_
  refine va_put (D := J.1) (ci := 1) (v := .int (-1)) (ty := (.int)) (C := RX1) (T := TX1) (N := 14) hx hb hts inX1 tyX1 tyX1_ok nmX1 hown hK.1 hP hD hS 0 rfl rfl 13 (by decide) (hts _ q_330) (fun _ h9 => h9) rfl (by decide +kernel) rfl rfl (Nat.le_of_ble_eq_true rfl) dX1_init_55 (fun H locs hP hD hS => ?_)
  have hP : va_P J.1 cls [(cn, .inr (1, [.null, .null, .ref n1, .ref n2, .ref n3, .ref n4, .long 0, .long 0, .long 0, .ref n5, .ref n6, .long 0, .int 0, .int (-1)])), (n1, .inl (J.2.1, 10, .inl (fun _ => 0))), (n3, .inl (J.2.2.1, 10, .inr (.inl (fun _ => 0)))), (n4, .inl (J.2.2.1, 10, .inr (.inl (fun _ => 0)))), (n5, .inl (J.2.1, 4, .inl (fun _ => 0))), (n6, .inl (J.2.1, 4, .inl (fun _ => 0)))] H := hP
  have hD : va_D A [(cn, .inr (1, [.null, .null, .ref n1, .ref n2, .ref n3, .ref n4, .long 0, .long 0, .long 0, .ref n5, .ref n6, .long 0, .int 0, .int (-1)])), (n1, .inl (J.2.1, 10, .inl (fun _ => 0))), (n3, .inl (J.2.2.1, 10, .inr (.inl (fun _ => 0)))), (n4, .inl (J.2.2.1, 10, .inr (.inl (fun _ => 0)))), (n5, .inl (J.2.1, 4, .inl (fun _ => 0))), (n6, .inl (J.2.1, 4, .inl (fun _ => 0)))] := hD
  refine lv_aload_n hx hb dX1_init_58 rfl (lv_at hl 0 rfl) ?_
  refine lv_aload_n hx hb dX1_init_59 rfl (lv_at hl 1 rfl) ?_
  refine va_putF (D := J.1) (ci := 1) (v := .ref w) (ty := (.object "FoxHoles$Warren")) (C := RX1) (T := TX1) (N := 14) hx hb hts inX1 tyX1 tyX1_ok nmX1 hown hK.1 hP hD hS 0 rfl rfl 0 (by decide) (hts _ q_317) (fun _ h9 => h9) rfl hin rfl (by decide +kernel) rfl rfl (Nat.le_of_ble_eq_true rfl) dX1_init_60 (fun H locs hP hD hS => ?_)
  have hP : va_P J.1 cls [(cn, .inr (1, [.ref w, .null, .ref n1, .ref n2, .ref n3, .ref n4, .long 0, .long 0, .long 0, .ref n5, .ref n6, .long 0, .int 0, .int (-1)])), (n1, .inl (J.2.1, 10, .inl (fun _ => 0))), (n3, .inl (J.2.2.1, 10, .inr (.inl (fun _ => 0)))), (n4, .inl (J.2.2.1, 10, .inr (.inl (fun _ => 0)))), (n5, .inl (J.2.1, 4, .inl (fun _ => 0))), (n6, .inl (J.2.1, 4, .inl (fun _ => 0)))] H := hP
  have hD : va_D A [(cn, .inr (1, [.ref w, .null, .ref n1, .ref n2, .ref n3, .ref n4, .long 0, .long 0, .long 0, .ref n5, .ref n6, .long 0, .int 0, .int (-1)])), (n1, .inl (J.2.1, 10, .inl (fun _ => 0))), (n3, .inl (J.2.2.1, 10, .inr (.inl (fun _ => 0)))), (n4, .inl (J.2.2.1, 10, .inr (.inl (fun _ => 0)))), (n5, .inl (J.2.1, 4, .inl (fun _ => 0))), (n6, .inl (J.2.1, 4, .inl (fun _ => 0)))] := hD
  refine lv_aload_n hx hb dX1_init_63 rfl (lv_at hl 0 rfl) ?_
  refine lv_aload_n hx hb dX1_init_64 rfl (lv_at hl 2 rfl) ?_
  refine va_putF (D := J.1) (ci := 1) (v := .ref lk) (ty := (.object "FoxHoles$Looks")) (C := RX1) (T := TX1) (N := 14) hx hb hts inX1 tyX1 tyX1_ok nmX1 hown hK.1 hP hD hS 0 rfl rfl 1 (by decide) (hts _ q_318) (fun _ h9 => h9) rfl hin rfl (by decide +kernel) rfl rfl (Nat.le_of_ble_eq_true rfl) dX1_init_65 (fun H locs hP hD hS => ?_)
  have hP : va_P J.1 cls [(cn, .inr (1, [.ref w, .ref lk, .ref n1, .ref n2, .ref n3, .ref n4, .long 0, .long 0, .long 0, .ref n5, .ref n6, .long 0, .int 0, .int (-1)])), (n1, .inl (J.2.1, 10, .inl (fun _ => 0))), (n3, .inl (J.2.2.1, 10, .inr (.inl (fun _ => 0)))), (n4, .inl (J.2.2.1, 10, .inr (.inl (fun _ => 0)))), (n5, .inl (J.2.1, 4, .inl (fun _ => 0))), (n6, .inl (J.2.1, 4, .inl (fun _ => 0)))] H := hP
  have hD : va_D A [(cn, .inr (1, [.ref w, .ref lk, .ref n1, .ref n2, .ref n3, .ref n4, .long 0, .long 0, .long 0, .ref n5, .ref n6, .long 0, .int 0, .int (-1)])), (n1, .inl (J.2.1, 10, .inl (fun _ => 0))), (n3, .inl (J.2.2.1, 10, .inr (.inl (fun _ => 0)))), (n4, .inl (J.2.2.1, 10, .inr (.inl (fun _ => 0)))), (n5, .inl (J.2.1, 4, .inl (fun _ => 0))), (n6, .inl (J.2.1, 4, .inl (fun _ => 0)))] := hD
  refine W.widen (k := 10) (n := 82) (Nat.le_of_ble_eq_true rfl) (Nat.le_of_ble_eq_true rfl) ?_
  exact wz_v (fun k => [n1, n2, n3, n4, n5, n6].getD k 0) hx hb hr hlk trivial (hP.sub (ws' := [(cn, .inr (1, [.ref w, .ref lk, .ref n1, .ref n2, .ref n3, .ref n4, .long 0, .long 0, .long 0, .ref n5, .ref n6, .long 0, .int 0, .int (-1)]))]) [0] rfl) (hD.sub (ws' := [(cn, .inr (1, [.ref w, .ref lk, .ref n1, .ref n2, .ref n3, .ref n4, .long 0, .long 0, .long 0, .ref n5, .ref n6, .long 0, .int 0, .int (-1)]))]) [0] (by decide) rfl) hS dX1_init_68
theorem dX4_init_0 : decode cX4_init 0 = .ok (.aload_n 0, 1) := by decide +kernel
theorem q_366 : Cond.methodLink RX4 3 ⟨"java/lang/Object", "<init>", "()V"⟩ ∈ lw_g := mem_q 366 (by decide +kernel) rfl
theorem dX4_init_1 : decode cX4_init 1 = .ok (.invokespecial 3, 3) := by decide +kernel
theorem dX4_init_4 : decode cX4_init 4 = .ok (.aload_n 0, 1) := by decide +kernel
theorem dX4_init_5 : decode cX4_init 5 = .ok (.aload_n 1, 1) := by decide +kernel
theorem q_367 : Cond.fieldLink RX4 9 RX4 "warren" "LFoxHoles$Warren;" ∈ lw_g := mem_q 367 (by decide +kernel) rfl
theorem dX4_init_6 : decode cX4_init 6 = .ok (.putfield 9, 3) := by decide +kernel
theorem dX4_init_9 : decode cX4_init 9 = .ok (.return_, 1) := by decide +kernel
set_option maxHeartbeats 4000000 in
set_option maxRecDepth 100000 in
theorem n_Dice (l : Launch) (J : va_J9) (sz : Nat) (d : Nat) (w : Nat) : WC l J yX4_init cX4_init 2 none ({ frames := 1, cells := 0, slots := 0, locals := 24 }) [.ref d, .ref w] [(d, .inr (4, [.null, .int 0]))] sz (Qv J (fun (u : Nat → Nat) => True) (fun (u : Nat → Nat) => [(d, .inr (4, [.ref w, .int 0]))])) 0 0 := by
  refine wc_of (by decide) (Nat.le_of_ble_eq_true rfl) ?_
  intro p e s m below meth c ls A hE hl hP hK hD hS hA
  obtain ⟨hx, hb, hr, hml, hown, hts, hlk, hin⟩ := hE
  have hown : s.vm.findClass RX4 = some m.cls := hown
  have hl : lv_has ls 2 [(0, .ref d), (1, .ref w)] := hl
  have hin : meth.name = "<init>" := hin
  refine lv_aload_n hx hb dX4_init_0 rfl (lv_at hl 0 rfl) ?_
  refine W.objInit hx hb hown (hts _ q_366) (hts _ q_125) (hts _ q_126) rfl (by rw [hml]; exact hl.1) rfl dX4_init_1 (Nat.le_of_ble_eq_true rfl) (Nat.le_of_ble_eq_true rfl) ?_
  refine W.eq (g2 := F0 m 4 ls []) rfl ?_
  refine lv_aload_n hx hb dX4_init_4 rfl (lv_at hl 0 rfl) ?_
  refine lv_aload_n hx hb dX4_init_5 rfl (lv_at hl 1 rfl) ?_
  refine va_putF (D := J.1) (ci := 4) (v := .ref w) (ty := (.object "FoxHoles$Warren")) (C := RX4) (T := TX4) (N := 2) hx hb hts inX4 tyX4 tyX4_ok nmX4 hown hK.1 hP hD hS 0 rfl rfl 0 (by decide) (hts _ q_367) (fun _ h9 => h9) rfl hin rfl (by decide +kernel) rfl rfl (Nat.le_of_ble_eq_true rfl) dX4_init_6 (fun H locs hP hD hS => ?_)
  have hP : va_P J.1 cls [(d, .inr (4, [.ref w, .int 0]))] H := hP
  have hD : va_D A [(d, .inr (4, [.ref w, .int 0]))] := hD
  refine W.widen (k := 0) (n := 0) (Nat.le_of_ble_eq_true rfl) (Nat.le_of_ble_eq_true rfl) ?_
  exact wz_v (fun k => [].getD k 0) hx hb hr hlk trivial hP hD hS dX4_init_9
theorem dX3_init_0 : decode cX3_init 0 = .ok (.aload_n 0, 1) := by decide +kernel
theorem q_380 : Cond.methodLink RX3 3 ⟨"java/lang/Object", "<init>", "()V"⟩ ∈ lw_g := mem_q 380 (by decide +kernel) rfl
theorem dX3_init_1 : decode cX3_init 1 = .ok (.invokespecial 3, 3) := by decide +kernel
theorem dX3_init_4 : decode cX3_init 4 = .ok (.aload_n 0, 1) := by decide +kernel
theorem dX3_init_5 : decode cX3_init 5 = .ok (.bipush 10, 2) := by decide +kernel
theorem dX3_init_7 : decode cX3_init 7 = .ok (.newarray .int, 2) := by decide +kernel
theorem dX3_init_9 : decode cX3_init 9 = .ok (.putfield 9, 3) := by decide +kernel
theorem dX3_init_12 : decode cX3_init 12 = .ok (.aload_n 0, 1) := by decide +kernel
theorem dX3_init_13 : decode cX3_init 13 = .ok (.aload_n 1, 1) := by decide +kernel
theorem q_383 : Cond.fieldLink RX3 15 RX3 "warren" "LFoxHoles$Warren;" ∈ lw_g := mem_q 383 (by decide +kernel) rfl
theorem dX3_init_14 : decode cX3_init 14 = .ok (.putfield 15, 3) := by decide +kernel
theorem dX3_init_17 : decode cX3_init 17 = .ok (.aload_n 0, 1) := by decide +kernel
theorem q_381 : Cond.classLink RX3 19 RX4 ∈ lw_g := mem_q 381 (by decide +kernel) rfl
theorem q_362 : Cond.instantiable RX4 2 ∈ lw_g := mem_q 362 (by decide +kernel) rfl
theorem dX3_init_18 : decode cX3_init 18 = .ok (.new 19, 3) := by decide +kernel
theorem dX3_init_21 : decode cX3_init 21 = .ok (.dup, 1) := by decide +kernel
theorem dX3_init_22 : decode cX3_init 22 = .ok (.aload_n 1, 1) := by decide +kernel
theorem q_382 : Cond.methodLink RX3 21 yX4_init ∈ lw_g := mem_q 382 (by decide +kernel) rfl
theorem q_364 : Cond.instanceMethod yX4_init ∈ lw_g := mem_q 364 (by decide +kernel) rfl
theorem q_365 : Cond.code yX4_init cX4_init 2 none ∈ lw_g := mem_q 365 (by decide +kernel) rfl
theorem kI_RX3_21 : CN RX3 21 yX4_init cX4_init 2 1 := cn_of q_382 q_364 q_111 q_365 rfl (by decide +kernel)
theorem dX3_init_23 : decode cX3_init 23 = .ok (.invokespecial 21, 3) := by decide +kernel
theorem dX3_init_26 : decode cX3_init 26 = .ok (.putfield 24, 3) := by decide +kernel
theorem dX3_init_29 : decode cX3_init 29 = .ok (.return_, 1) := by decide +kernel
set_option maxHeartbeats 4000000 in
set_option maxRecDepth 100000 in
theorem n_Deed (l : Launch) (J : va_J9) (sz : Nat) (ed : Nat) (w : Nat) : WC l J yX3_init cX3_init 2 none ({ frames := 2, cells := 2, slots := 12, locals := 45 }) [.ref ed, .ref w] [(ed, .inr (3, [.null, .null, .null, .int 0, .int 0, .int 0, .int 0, .int 0]))] sz (Qv J (fun (u : Nat → Nat) => True) (fun (u : Nat → Nat) => [(ed, .inr (3, [.ref w, .ref (u 0), .ref (u 1), .int 0, .int 0, .int 0, .int 0, .int 0])), ((u 0), .inr (4, [.ref w, .int 0])), ((u 1), .inl (J.2.1, 10, .inl (fun _ => 0)))])) 2 12 := by
  refine wc_of (by decide) (Nat.le_of_ble_eq_true rfl) ?_
  intro p e s m below meth c ls A hE hl hP hK hD hS hA
  obtain ⟨hx, hb, hr, hml, hown, hts, hlk, hin⟩ := hE
  have hown : s.vm.findClass RX3 = some m.cls := hown
  have hl : lv_has ls 2 [(0, .ref ed), (1, .ref w)] := hl
  have hin : meth.name = "<init>" := hin
  refine lv_aload_n hx hb dX3_init_0 rfl (lv_at hl 0 rfl) ?_
  refine W.objInit hx hb hown (hts _ q_380) (hts _ q_125) (hts _ q_126) rfl (by rw [hml]; exact hl.1) rfl dX3_init_1 (Nat.le_of_ble_eq_true rfl) (Nat.le_of_ble_eq_true rfl) ?_
  refine W.eq (g2 := F0 m 4 ls []) rfl ?_
  refine lv_aload_n hx hb dX3_init_4 rfl (lv_at hl 0 rfl) ?_
  refine lv_bipush (v := 10) hx hb dX3_init_5 (by decide) ?_
  refine na_i (a0 := (0, .inl (fun _ => 0))) (N' := 10) hx hb hts q_165 hK hP hD hS hA (by decide) (by decide) (by decide) (Nat.le_of_ble_eq_true rfl) (Nat.le_of_ble_eq_true rfl) dX3_init_7 (fun n1 H hP hD hS => ?_)
  have hP : va_P J.1 cls [(ed, .inr (3, [.null, .null, .null, .int 0, .int 0, .int 0, .int 0, .int 0])), (n1, .inl (J.2.1, 10, .inl (fun _ => 0)))] H := hP
  have hD : va_D A [(ed, .inr (3, [.null, .null, .null, .int 0, .int 0, .int 0, .int 0, .int 0])), (n1, .inl (J.2.1, 10, .inl (fun _ => 0)))] := hD
  refine W.widen (k := 1) (n := 10) (Nat.le_of_ble_eq_true rfl) (Nat.le_of_ble_eq_true rfl) ?_
  refine va_putF (D := J.1) (ci := 3) (v := .ref n1) (ty := (.array .int)) (C := RX3) (T := TX3) (N := 8) hx hb hts inX3 tyX3 tyX3_ok nmX3 hown hK.1 hP hD hS 0 rfl rfl 2 (by decide) (hts _ q_385) (fun _ h9 => h9) rfl hin rfl (by decide +kernel) rfl rfl (Nat.le_of_ble_eq_true rfl) dX3_init_9 (fun H locs hP hD hS => ?_)
  have hP : va_P J.1 cls [(ed, .inr (3, [.null, .null, .ref n1, .int 0, .int 0, .int 0, .int 0, .int 0])), (n1, .inl (J.2.1, 10, .inl (fun _ => 0)))] H := hP
  have hD : va_D A [(ed, .inr (3, [.null, .null, .ref n1, .int 0, .int 0, .int 0, .int 0, .int 0])), (n1, .inl (J.2.1, 10, .inl (fun _ => 0)))] := hD
  refine lv_aload_n hx hb dX3_init_12 rfl (lv_at hl 0 rfl) ?_
  refine lv_aload_n hx hb dX3_init_13 rfl (lv_at hl 1 rfl) ?_
  refine va_putF (D := J.1) (ci := 3) (v := .ref w) (ty := (.object "FoxHoles$Warren")) (C := RX3) (T := TX3) (N := 8) hx hb hts inX3 tyX3 tyX3_ok nmX3 hown hK.1 hP hD hS 0 rfl rfl 0 (by decide) (hts _ q_383) (fun _ h9 => h9) rfl hin rfl (by decide +kernel) rfl rfl (Nat.le_of_ble_eq_true rfl) dX3_init_14 (fun H locs hP hD hS => ?_)
  have hP : va_P J.1 cls [(ed, .inr (3, [.ref w, .null, .ref n1, .int 0, .int 0, .int 0, .int 0, .int 0])), (n1, .inl (J.2.1, 10, .inl (fun _ => 0)))] H := hP
  have hD : va_D A [(ed, .inr (3, [.ref w, .null, .ref n1, .int 0, .int 0, .int 0, .int 0, .int 0])), (n1, .inl (J.2.1, 10, .inl (fun _ => 0)))] := hD
  refine lv_aload_n hx hb dX3_init_17 rfl (lv_at hl 0 rfl) ?_
  refine va_new (D := J.1) (ci := 4) (fs := [.null, .int 0]) (C := RX4) (T := TX4) (N := 2) hx hb hts inX4 tyX4 tyX4_ok hown (hts _ q_381) (hts _ q_362) (hts _ q_111) hK.1 hP hD hS hA rfl (fun j hj => by rcases (show j = 0 ∨ j = 1 by omega) with rfl | rfl <;> rfl) (Nat.le_of_ble_eq_true rfl) (Nat.le_of_ble_eq_true rfl) dX3_init_18 (fun n2 H hP hD hS => ?_)
  have hP : va_P J.1 cls [(ed, .inr (3, [.ref w, .null, .ref n1, .int 0, .int 0, .int 0, .int 0, .int 0])), (n1, .inl (J.2.1, 10, .inl (fun _ => 0))), (n2, .inr (4, [.null, .int 0]))] H := hP
  have hD : va_D A [(ed, .inr (3, [.ref w, .null, .ref n1, .int 0, .int 0, .int 0, .int 0, .int 0])), (n1, .inl (J.2.1, 10, .inl (fun _ => 0))), (n2, .inr (4, [.null, .int 0]))] := hD
  refine W.widen (k := 2) (n := 12) (Nat.le_of_ble_eq_true rfl) (Nat.le_of_ble_eq_true rfl) ?_
  refine lv_dup hx hb dX3_init_21 rfl ?_
  refine lv_aload_n hx hb dX3_init_22 rfl (lv_at hl 1 rfl) ?_
  refine gw_v (wc := [(n2, .inr (4, [.null, .int 0]))]) (wr := [(ed, .inr (3, [.ref w, .null, .ref n1, .int 0, .int 0, .int 0, .int 0, .int 0])), (n1, .inl (J.2.1, 10, .inl (fun _ => 0)))]) hP hD hS hA [2] [0, 1] rfl rfl (by decide) (by decide) (wn_I (As := [.ref w]) (rest := [.ref n2, .ref ed]) hx hb hml hown hts hK (n_Dice l J _ n2 w) kI_RX3_21 (hP.sub (ws' := [(n2, .inr (4, [.null, .int 0]))]) [2] rfl) ((hD.sub (ws' := [(n2, .inr (4, [.null, .int 0]))]) [2] (by decide) rfl).weaken (fun _ _ _ _ => trivial)) ⟨Nat.le_of_ble_eq_true rfl, Nat.le_of_ble_eq_true rfl⟩ rfl rfl rfl hl.1 rfl (Nat.le_of_ble_eq_true rfl) ⟨Nat.le_of_ble_eq_true rfl, Nat.le_of_ble_eq_true rfl⟩ dX3_init_23) (fun u3 H locs hw hP hD hS => ?_)
  have hP : va_P J.1 cls [(ed, .inr (3, [.ref w, .null, .ref n1, .int 0, .int 0, .int 0, .int 0, .int 0])), (n1, .inl (J.2.1, 10, .inl (fun _ => 0))), (n2, .inr (4, [.ref w, .int 0]))] H := hP
  have hD : va_D A [(ed, .inr (3, [.ref w, .null, .ref n1, .int 0, .int 0, .int 0, .int 0, .int 0])), (n1, .inl (J.2.1, 10, .inl (fun _ => 0))), (n2, .inr (4, [.ref w, .int 0]))] := hD
  refine W.widen (k := 2) (n := 12) (Nat.le_of_ble_eq_true rfl) (Nat.le_of_ble_eq_true rfl) ?_
  refine va_putF (D := J.1) (ci := 3) (v := .ref n2) (ty := (.object "FoxHoles$Dice")) (C := RX3) (T := TX3) (N := 8) hx hb hts inX3 tyX3 tyX3_ok nmX3 hown hK.1 hP hD hS 0 rfl rfl 1 (by decide) (hts _ q_384) (fun _ h9 => h9) rfl hin rfl (by decide +kernel) rfl rfl (Nat.le_of_ble_eq_true rfl) dX3_init_26 (fun H locs hP hD hS => ?_)
  have hP : va_P J.1 cls [(ed, .inr (3, [.ref w, .ref n2, .ref n1, .int 0, .int 0, .int 0, .int 0, .int 0])), (n1, .inl (J.2.1, 10, .inl (fun _ => 0))), (n2, .inr (4, [.ref w, .int 0]))] H := hP
  have hD : va_D A [(ed, .inr (3, [.ref w, .ref n2, .ref n1, .int 0, .int 0, .int 0, .int 0, .int 0])), (n1, .inl (J.2.1, 10, .inl (fun _ => 0))), (n2, .inr (4, [.ref w, .int 0]))] := hD
  refine W.widen (k := 2) (n := 12) (Nat.le_of_ble_eq_true rfl) (Nat.le_of_ble_eq_true rfl) ?_
  exact wz_v (fun k => [n2, n1].getD k 0) hx hb hr hlk trivial (hP.sub (ws' := [(ed, .inr (3, [.ref w, .ref n2, .ref n1, .int 0, .int 0, .int 0, .int 0, .int 0])), (n2, .inr (4, [.ref w, .int 0])), (n1, .inl (J.2.1, 10, .inl (fun _ => 0)))]) [0, 2, 1] rfl) (hD.sub (ws' := [(ed, .inr (3, [.ref w, .ref n2, .ref n1, .int 0, .int 0, .int 0, .int 0, .int 0])), (n2, .inr (4, [.ref w, .int 0])), (n1, .inl (J.2.1, 10, .inl (fun _ => 0)))]) [0, 2, 1] (by decide) rfl) hS dX3_init_29
theorem dX0_init_0 : decode cX0_init 0 = .ok (.aload_n 0, 1) := by decide +kernel
theorem q_417 : Cond.methodLink RX0 3 ⟨"java/lang/Object", "<init>", "()V"⟩ ∈ lw_g := mem_q 417 (by decide +kernel) rfl
theorem dX0_init_1 : decode cX0_init 1 = .ok (.invokespecial 3, 3) := by decide +kernel
theorem dX0_init_4 : decode cX0_init 4 = .ok (.aload_n 0, 1) := by decide +kernel
theorem dX0_init_5 : decode cX0_init 5 = .ok (.bipush 50, 2) := by decide +kernel
theorem dX0_init_7 : decode cX0_init 7 = .ok (.newarray .int, 2) := by decide +kernel
theorem dX0_init_9 : decode cX0_init 9 = .ok (.putfield 11, 3) := by decide +kernel
theorem dX0_init_12 : decode cX0_init 12 = .ok (.aload_n 0, 1) := by decide +kernel
theorem dX0_init_13 : decode cX0_init 13 = .ok (.bipush 24, 2) := by decide +kernel
theorem dX0_init_15 : decode cX0_init 15 = .ok (.newarray .int, 2) := by decide +kernel
theorem q_421 : Cond.fieldLink RX0 15 RX0 "ran" "[I" ∈ lw_g := mem_q 421 (by decide +kernel) rfl
theorem dX0_init_17 : decode cX0_init 17 = .ok (.putfield 15, 3) := by decide +kernel
theorem dX0_init_20 : decode cX0_init 20 = .ok (.return_, 1) := by decide +kernel
set_option maxHeartbeats 4000000 in
set_option maxRecDepth 100000 in
theorem n_Bodies (l : Launch) (J : va_J9) (sz : Nat) (b : Nat) : WC l J yX0_init cX0_init 1 none ({ frames := 1, cells := 2, slots := 74, locals := 24 }) [.ref b] [(b, .inr (0, [.null, .int 0, .null, .int 0]))] sz (Qv J (fun (u : Nat → Nat) => True) (fun (u : Nat → Nat) => [(b, .inr (0, [.ref (u 0), .int 0, .ref (u 1), .int 0])), ((u 0), .inl (J.2.1, 50, .inl (fun _ => 0)))])) 2 74 := by
  refine wc_of (by decide) (Nat.le_of_ble_eq_true rfl) ?_
  intro p e s m below meth c ls A hE hl hP hK hD hS hA
  obtain ⟨hx, hb, hr, hml, hown, hts, hlk, hin⟩ := hE
  have hown : s.vm.findClass RX0 = some m.cls := hown
  have hl : lv_has ls 1 [(0, .ref b)] := hl
  have hin : meth.name = "<init>" := hin
  refine lv_aload_n hx hb dX0_init_0 rfl (lv_at hl 0 rfl) ?_
  refine W.objInit hx hb hown (hts _ q_417) (hts _ q_125) (hts _ q_126) rfl (by rw [hml]; exact hl.1) rfl dX0_init_1 (Nat.le_of_ble_eq_true rfl) (Nat.le_of_ble_eq_true rfl) ?_
  refine W.eq (g2 := F0 m 4 ls []) rfl ?_
  refine lv_aload_n hx hb dX0_init_4 rfl (lv_at hl 0 rfl) ?_
  refine lv_bipush (v := 50) hx hb dX0_init_5 (by decide) ?_
  refine na_i (a0 := (0, .inl (fun _ => 0))) (N' := 50) hx hb hts q_165 hK hP hD hS hA (by decide) (by decide) (by decide) (Nat.le_of_ble_eq_true rfl) (Nat.le_of_ble_eq_true rfl) dX0_init_7 (fun n1 H hP hD hS => ?_)
  have hP : va_P J.1 cls [(b, .inr (0, [.null, .int 0, .null, .int 0])), (n1, .inl (J.2.1, 50, .inl (fun _ => 0)))] H := hP
  have hD : va_D A [(b, .inr (0, [.null, .int 0, .null, .int 0])), (n1, .inl (J.2.1, 50, .inl (fun _ => 0)))] := hD
  refine W.widen (k := 1) (n := 50) (Nat.le_of_ble_eq_true rfl) (Nat.le_of_ble_eq_true rfl) ?_
  refine va_putF (D := J.1) (ci := 0) (v := .ref n1) (ty := (.array .int)) (C := RX0) (T := TX0) (N := 4) hx hb hts inX0 tyX0 tyX0_ok nmX0 hown hK.1 hP hD hS 0 rfl rfl 0 (by decide) (hts _ q_418) (fun _ h9 => h9) rfl hin rfl (by decide +kernel) rfl rfl (Nat.le_of_ble_eq_true rfl) dX0_init_9 (fun H locs hP hD hS => ?_)
  have hP : va_P J.1 cls [(b, .inr (0, [.ref n1, .int 0, .null, .int 0])), (n1, .inl (J.2.1, 50, .inl (fun _ => 0)))] H := hP
  have hD : va_D A [(b, .inr (0, [.ref n1, .int 0, .null, .int 0])), (n1, .inl (J.2.1, 50, .inl (fun _ => 0)))] := hD
  refine lv_aload_n hx hb dX0_init_12 rfl (lv_at hl 0 rfl) ?_
  refine lv_bipush (v := 24) hx hb dX0_init_13 (by decide) ?_
  refine na_i (a0 := (0, .inl (fun _ => 0))) (N' := 24) hx hb hts q_165 hK hP hD hS hA (by decide) (by decide) (by decide) (Nat.le_of_ble_eq_true rfl) (Nat.le_of_ble_eq_true rfl) dX0_init_15 (fun n2 H hP hD hS => ?_)
  have hP : va_P J.1 cls [(b, .inr (0, [.ref n1, .int 0, .null, .int 0])), (n1, .inl (J.2.1, 50, .inl (fun _ => 0))), (n2, .inl (J.2.1, 24, .inl (fun _ => 0)))] H := hP
  have hD : va_D A [(b, .inr (0, [.ref n1, .int 0, .null, .int 0])), (n1, .inl (J.2.1, 50, .inl (fun _ => 0))), (n2, .inl (J.2.1, 24, .inl (fun _ => 0)))] := hD
  refine W.widen (k := 2) (n := 74) (Nat.le_of_ble_eq_true rfl) (Nat.le_of_ble_eq_true rfl) ?_
  refine va_putF (D := J.1) (ci := 0) (v := .ref n2) (ty := (.array .int)) (C := RX0) (T := TX0) (N := 4) hx hb hts inX0 tyX0 tyX0_ok nmX0 hown hK.1 hP hD hS 0 rfl rfl 2 (by decide) (hts _ q_421) (fun _ h9 => h9) rfl hin rfl (by decide +kernel) rfl rfl (Nat.le_of_ble_eq_true rfl) dX0_init_17 (fun H locs hP hD hS => ?_)
  have hP : va_P J.1 cls [(b, .inr (0, [.ref n1, .int 0, .ref n2, .int 0])), (n1, .inl (J.2.1, 50, .inl (fun _ => 0))), (n2, .inl (J.2.1, 24, .inl (fun _ => 0)))] H := hP
  have hD : va_D A [(b, .inr (0, [.ref n1, .int 0, .ref n2, .int 0])), (n1, .inl (J.2.1, 50, .inl (fun _ => 0))), (n2, .inl (J.2.1, 24, .inl (fun _ => 0)))] := hD
  refine W.widen (k := 2) (n := 74) (Nat.le_of_ble_eq_true rfl) (Nat.le_of_ble_eq_true rfl) ?_
  exact wz_v (fun k => [n1, n2].getD k 0) hx hb hr hlk trivial (hP.sub (ws' := [(b, .inr (0, [.ref n1, .int 0, .ref n2, .int 0])), (n1, .inl (J.2.1, 50, .inl (fun _ => 0)))]) [0, 1] rfl) (hD.sub (ws' := [(b, .inr (0, [.ref n1, .int 0, .ref n2, .int 0])), (n1, .inl (J.2.1, 50, .inl (fun _ => 0)))]) [0, 1] (by decide) rfl) hS dX0_init_20
theorem dX9_init_0 : decode cX9_init 0 = .ok (.aload_n 0, 1) := by decide +kernel
theorem q_439 : Cond.methodLink RX9 3 ⟨"java/lang/Object", "<init>", "()V"⟩ ∈ lw_g := mem_q 439 (by decide +kernel) rfl
theorem dX9_init_1 : decode cX9_init 1 = .ok (.invokespecial 3, 3) := by decide +kernel
theorem dX9_init_4 : decode cX9_init 4 = .ok (.aload_n 0, 1) := by decide +kernel
theorem dX9_init_5 : decode cX9_init 5 = .ok (.bipush 60, 2) := by decide +kernel
theorem dX9_init_7 : decode cX9_init 7 = .ok (.newarray .long, 2) := by decide +kernel
theorem dX9_init_9 : decode cX9_init 9 = .ok (.putfield 9, 3) := by decide +kernel
theorem dX9_init_12 : decode cX9_init 12 = .ok (.return_, 1) := by decide +kernel
set_option maxHeartbeats 4000000 in
set_option maxRecDepth 100000 in
theorem n_Shelf (l : Launch) (J : va_J9) (sz : Nat) (sh : Nat) : WC l J yX9_init cX9_init 1 none ({ frames := 1, cells := 1, slots := 60, locals := 24 }) [.ref sh] [(sh, .inr (9, [.null, .int 0, .int 0, .int 0, .int 0]))] sz (Qv J (fun (u : Nat → Nat) => True) (fun (u : Nat → Nat) => [(sh, .inr (9, [.ref (u 0), .int 0, .int 0, .int 0, .int 0])), ((u 0), .inl (J.2.2.1, 60, .inr (.inl (fun _ => 0))))])) 1 60 := by
  refine wc_of (by decide) (Nat.le_of_ble_eq_true rfl) ?_
  intro p e s m below meth c ls A hE hl hP hK hD hS hA
  obtain ⟨hx, hb, hr, hml, hown, hts, hlk, hin⟩ := hE
  have hown : s.vm.findClass RX9 = some m.cls := hown
  have hl : lv_has ls 1 [(0, .ref sh)] := hl
  have hin : meth.name = "<init>" := hin
  refine lv_aload_n hx hb dX9_init_0 rfl (lv_at hl 0 rfl) ?_
  refine W.objInit hx hb hown (hts _ q_439) (hts _ q_125) (hts _ q_126) rfl (by rw [hml]; exact hl.1) rfl dX9_init_1 (Nat.le_of_ble_eq_true rfl) (Nat.le_of_ble_eq_true rfl) ?_
  refine W.eq (g2 := F0 m 4 ls []) rfl ?_
  refine lv_aload_n hx hb dX9_init_4 rfl (lv_at hl 0 rfl) ?_
  refine lv_bipush (v := 60) hx hb dX9_init_5 (by decide) ?_
  refine na_l (a0 := (0, .inl (fun _ => 0))) (N' := 60) hx hb hts q_360 hK hP hD hS hA (by decide) (by decide) (by decide) (Nat.le_of_ble_eq_true rfl) (Nat.le_of_ble_eq_true rfl) dX9_init_7 (fun n1 H hP hD hS => ?_)
  have hP : va_P J.1 cls [(sh, .inr (9, [.null, .int 0, .int 0, .int 0, .int 0])), (n1, .inl (J.2.2.1, 60, .inr (.inl (fun _ => 0))))] H := hP
  have hD : va_D A [(sh, .inr (9, [.null, .int 0, .int 0, .int 0, .int 0])), (n1, .inl (J.2.2.1, 60, .inr (.inl (fun _ => 0))))] := hD
  refine W.widen (k := 1) (n := 60) (Nat.le_of_ble_eq_true rfl) (Nat.le_of_ble_eq_true rfl) ?_
  refine va_putF (D := J.1) (ci := 9) (v := .ref n1) (ty := (.array .long)) (C := RX9) (T := TX9) (N := 5) hx hb hts inX9 tyX9 tyX9_ok nmX9 hown hK.1 hP hD hS 0 rfl rfl 0 (by decide) (hts _ q_440) (fun _ h9 => h9) rfl hin rfl (by decide +kernel) rfl rfl (Nat.le_of_ble_eq_true rfl) dX9_init_9 (fun H locs hP hD hS => ?_)
  have hP : va_P J.1 cls [(sh, .inr (9, [.ref n1, .int 0, .int 0, .int 0, .int 0])), (n1, .inl (J.2.2.1, 60, .inr (.inl (fun _ => 0))))] H := hP
  have hD : va_D A [(sh, .inr (9, [.ref n1, .int 0, .int 0, .int 0, .int 0])), (n1, .inl (J.2.2.1, 60, .inr (.inl (fun _ => 0))))] := hD
  refine W.widen (k := 1) (n := 60) (Nat.le_of_ble_eq_true rfl) (Nat.le_of_ble_eq_true rfl) ?_
  exact wz_v (fun k => [n1].getD k 0) hx hb hr hlk trivial hP hD hS dX9_init_12
