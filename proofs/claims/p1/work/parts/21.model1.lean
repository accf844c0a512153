theorem dX12_hole_0 : decode cX12_hole 0 = .ok (.iload_n 1, 1) := by decide +kernel
theorem dX12_hole_1 : decode cX12_hole 1 = .ok (.i2l, 1) := by decide +kernel
theorem dX12_hole_2 : decode cX12_hole 2 = .ok (.lconst 0, 1) := by decide +kernel
theorem q_1429 : Cond.constantLong RX12 112 9 ∈ lw_g := mem_q 1429 (by decide +kernel) rfl
theorem dX12_hole_3 : decode cX12_hole 3 = .ok (.ldc2_w 112, 3) := by decide +kernel
theorem dX12_hole_6 : decode cX12_hole 6 = .ok (.invokestatic 101, 3) := by decide +kernel
theorem dX12_hole_9 : decode cX12_hole 9 = .ok (.ifCond .ne 5, 3) := by decide +kernel
theorem dX12_hole_14 : decode cX12_hole 14 = .ok (.aload_n 0, 1) := by decide +kernel
theorem dX12_hole_15 : decode cX12_hole 15 = .ok (.getfield 98, 3) := by decide +kernel
theorem dX12_hole_18 : decode cX12_hole 18 = .ok (.bipush 10, 2) := by decide +kernel
theorem dX12_hole_20 : decode cX12_hole 20 = .ok (.if_icmp .ne 6, 3) := by decide +kernel
theorem dX12_hole_26 : decode cX12_hole 26 = .ok (.aload_n 0, 1) := by decide +kernel
theorem q_1266 : Cond.fieldLink RX12 11 RX12 "may" "[I" ∈ lw_g := mem_q 1266 (by decide +kernel) rfl
theorem dX12_hole_27 : decode cX12_hole 27 = .ok (.getfield 11, 3) := by decide +kernel
theorem dX12_hole_30 : decode cX12_hole 30 = .ok (.aload_n 0, 1) := by decide +kernel
theorem dX12_hole_31 : decode cX12_hole 31 = .ok (.getfield 98, 3) := by decide +kernel
theorem dX12_hole_34 : decode cX12_hole 34 = .ok (.iload_n 1, 1) := by decide +kernel
theorem dX12_hole_35 : decode cX12_hole 35 = .ok (.iastore, 1) := by decide +kernel
theorem dX12_hole_36 : decode cX12_hole 36 = .ok (.aload_n 0, 1) := by decide +kernel
theorem dX12_hole_37 : decode cX12_hole 37 = .ok (.dup, 1) := by decide +kernel
theorem dX12_hole_38 : decode cX12_hole 38 = .ok (.getfield 98, 3) := by decide +kernel
theorem dX12_hole_41 : decode cX12_hole 41 = .ok (.iconst 1, 1) := by decide +kernel
theorem dX12_hole_42 : decode cX12_hole 42 = .ok (.iadd, 1) := by decide +kernel
theorem dX12_hole_43 : decode cX12_hole 43 = .ok (.putfield 98, 3) := by decide +kernel
theorem dX12_hole_46 : decode cX12_hole 46 = .ok (.aload_n 0, 1) := by decide +kernel
theorem dX12_hole_47 : decode cX12_hole 47 = .ok (.getfield 98, 3) := by decide +kernel
theorem dX12_hole_50 : decode cX12_hole 50 = .ok (.iconst 1, 1) := by decide +kernel
theorem dX12_hole_51 : decode cX12_hole 51 = .ok (.isub, 1) := by decide +kernel
theorem dX12_hole_52 : decode cX12_hole 52 = .ok (.ireturn, 1) := by decide +kernel
theorem dX12_hole_12 : decode cX12_hole 12 = .ok (.iconst (-1), 1) := by decide +kernel
theorem dX12_hole_13 : decode cX12_hole 13 = .ok (.ireturn, 1) := by decide +kernel
set_option maxHeartbeats 4000000 in
set_option maxRecDepth 100000 in
theorem m_hole (l : Launch) (J : va_J9) (sz : Nat) (b : Nat → Nat) (x : Int32) : WC l J yX12_hole cX12_hole 2 (some .int) ({ frames := 1, cells := 0, slots := 0, locals := 25 }) [.ref (b 0), .int x] [((b 0), .inr (12, [.ref (b 1), .ref (b 2), .ref (b 3), .ref (b 4), .int 0, .int 0, .int 0, .int 0, .ref (b 9), .ref (b 10), .int 0, .ref (b 12), .int (-1), .int 0, .int 0, .int 0, .int 0, .int 0, .ref (b 19), .ref (b 20), .ref (b 21), .ref (b 22), .ref (b 23), .long 0, .long 0, .long 0, .ref (b 27), .ref (b 28), .ref (b 29), .long 0, .int 0, .int (-1), .int 0, .int 0, .int 0, .ref (b 36), .int 0, .int 0, .ref (b 39), .ref (b 40), .int 0, .ref (b 42), .ref (b 43), .int 0, .int 0, .int 0, .ref (b 47), .ref (b 48), .ref (b 49), .ref (b 50)])), ((b 1), .inl (J.2.1, 22, .inl (upd (fun _ => 0) (20 : Int32).toNatClampNeg 1)))] sz (Qi J (fun (r : Int32) (_ : Unit) => r = sp_hole (x.toInt)) (fun (_ : Unit) => [])) 0 0 := by
  refine wc_of (by decide) (Nat.le_of_ble_eq_true rfl) ?_
  intro p e s m below meth c ls A hE hl hP hK hD hS hA
  obtain ⟨hx, hb, hr, hml, hown, hts, hlk, hin⟩ := hE
  have hown : s.vm.findClass RX12 = some m.cls := hown
  have hl : lv_has ls 2 [(0, .ref (b 0)), (1, .int x)] := hl
  have rg_x := i_rng x
  refine lv_iload_n hx hb dX12_hole_0 rfl (lv_at hl 1 rfl) ?_
  refine lv_i2l (v := x.toInt64) hx hb dX12_hole_1 rfl ?_
  refine lv_lconst (v := 0) hx hb dX12_hole_2 (by decide) ?_
  refine lv_ldc2 (v := 9) hx hb hown (hts _ q_1429) dX12_hole_3 ?_
  refine go_i (rn_S (As := [.long x.toInt64, .long 0, .long 9]) (rest := []) hx hb hml hown hts hK (m_within l J x.toInt64 0 9 x.toInt 0 9 (i_wide rfl) (by decide) (by decide)) kS_RX12_101 (hP.sub (ws' := []) [] rfl) ⟨Nat.le_of_ble_eq_true rfl, Nat.le_of_ble_eq_true rfl⟩ rfl rfl rfl hl.1 rfl (Nat.le_of_ble_eq_true rfl) ⟨Nat.le_of_ble_eq_true rfl, Nat.le_of_ble_eq_true rfl⟩ dX12_hole_6) ?_
  refine lv_if_ne (tgt := 14) hx hb dX12_hole_9 (by decide) (fun c1 => ?_) (fun c1 => ?_)
  · have j2 := b1 c1
    refine lv_aload_n hx hb dX12_hole_14 rfl (lv_at hl 0 rfl) ?_
    refine va_get (D := J.1) (ci := 12) (v := .int 0) (C := RX12) (T := TX12) (N := 50) hx hb hts inX12 hown hK.1 hP 0 rfl rfl 6 (by decide) (hts _ q_1272) (fun _ h9 => h9) rfl dX12_hole_15 ?_
    refine lv_bipush (v := 10) hx hb dX12_hole_18 (by decide) ?_
    refine lv_icmp_ne (tgt := 26) hx hb dX12_hole_20 (by decide) (fun _ => ?_) (fun c => absurd c (by decide))
    refine lv_aload_n hx hb dX12_hole_26 rfl (lv_at hl 0 rfl) ?_
    refine va_get (D := J.1) (ci := 12) (v := .ref (b 1)) (C := RX12) (T := TX12) (N := 50) hx hb hts inX12 hown hK.1 hP 0 rfl rfl 0 (by decide) (hts _ q_1266) (fun _ h9 => h9) rfl dX12_hole_27 ?_
    refine lv_aload_n hx hb dX12_hole_30 rfl (lv_at hl 0 rfl) ?_
    refine va_get (D := J.1) (ci := 12) (v := .int 0) (C := RX12) (T := TX12) (N := 50) hx hb hts inX12 hown hK.1 hP 0 rfl rfl 6 (by decide) (hts _ q_1272) (fun _ h9 => h9) rfl dX12_hole_31 ?_
    refine lv_iload_n hx hb dX12_hole_34 rfl (lv_at hl 1 rfl) ?_
    have h3 : vp_in 0 22 := (i_in (a := 0) (by decide) (by omega) (by omega))
    refine va_iast hx hb hK.1 hP hD hS 1 0 rfl rfl h3 dX12_hole_35 (fun H locs hP hD hS => ?_)
    have hP : va_P J.1 cls [((b 0), .inr (12, [.ref (b 1), .ref (b 2), .ref (b 3), .ref (b 4), .int 0, .int 0, .int 0, .int 0, .ref (b 9), .ref (b 10), .int 0, .ref (b 12), .int (-1), .int 0, .int 0, .int 0, .int 0, .int 0, .ref (b 19), .ref (b 20), .ref (b 21), .ref (b 22), .ref (b 23), .long 0, .long 0, .long 0, .ref (b 27), .ref (b 28), .ref (b 29), .long 0, .int 0, .int (-1), .int 0, .int 0, .int 0, .ref (b 36), .int 0, .int 0, .ref (b 39), .ref (b 40), .int 0, .ref (b 42), .ref (b 43), .int 0, .int 0, .int 0, .ref (b 47), .ref (b 48), .ref (b 49), .ref (b 50)])), ((b 1), .inl (J.2.1, 22, .inl (upd (upd (fun _ => 0) (20 : Int32).toNatClampNeg 1) (0 : Int32).toNatClampNeg x)))] H := hP
    have hD : va_D A [((b 0), .inr (12, [.ref (b 1), .ref (b 2), .ref (b 3), .ref (b 4), .int 0, .int 0, .int 0, .int 0, .ref (b 9), .ref (b 10), .int 0, .ref (b 12), .int (-1), .int 0, .int 0, .int 0, .int 0, .int 0, .ref (b 19), .ref (b 20), .ref (b 21), .ref (b 22), .ref (b 23), .long 0, .long 0, .long 0, .ref (b 27), .ref (b 28), .ref (b 29), .long 0, .int 0, .int (-1), .int 0, .int 0, .int 0, .ref (b 36), .int 0, .int 0, .ref (b 39), .ref (b 40), .int 0, .ref (b 42), .ref (b 43), .int 0, .int 0, .int 0, .ref (b 47), .ref (b 48), .ref (b 49), .ref (b 50)])), ((b 1), .inl (J.2.1, 22, .inl (upd (upd (fun _ => 0) (20 : Int32).toNatClampNeg 1) (0 : Int32).toNatClampNeg x)))] := hD
    refine lv_aload_n hx hb dX12_hole_36 rfl (lv_at hl 0 rfl) ?_
    refine lv_dup hx hb dX12_hole_37 rfl ?_
    refine va_get (D := J.1) (ci := 12) (v := .int 0) (C := RX12) (T := TX12) (N := 50) hx hb hts inX12 hown hK.1 hP 0 rfl rfl 6 (by decide) (hts _ q_1272) (fun _ h9 => h9) rfl dX12_hole_38 ?_
    refine lv_iconst (v := 1) hx hb dX12_hole_41 (by decide) ?_
    refine lv_iadd hx hb dX12_hole_42 ?_
    refine top_i (y := 1) (by decide) ?_
    refine va_put (D := J.1) (ci := 12) (v := .int 1) (ty := (.int)) (C := RX12) (T := TX12) (N := 50) hx hb hts inX12 tyX12 tyX12_ok nmX12 hown hK.1 hP hD hS 0 rfl rfl 6 (by decide) (hts _ q_1272) (fun _ h9 => h9) rfl (by decide +kernel) rfl rfl (Nat.le_of_ble_eq_true rfl) dX12_hole_43 (fun H locs hP hD hS => ?_)
    have hP : va_P J.1 cls [((b 0), .inr (12, [.ref (b 1), .ref (b 2), .ref (b 3), .ref (b 4), .int 0, .int 0, .int 1, .int 0, .ref (b 9), .ref (b 10), .int 0, .ref (b 12), .int (-1), .int 0, .int 0, .int 0, .int 0, .int 0, .ref (b 19), .ref (b 20), .ref (b 21), .ref (b 22), .ref (b 23), .long 0, .long 0, .long 0, .ref (b 27), .ref (b 28), .ref (b 29), .long 0, .int 0, .int (-1), .int 0, .int 0, .int 0, .ref (b 36), .int 0, .int 0, .ref (b 39), .ref (b 40), .int 0, .ref (b 42), .ref (b 43), .int 0, .int 0, .int 0, .ref (b 47), .ref (b 48), .ref (b 49), .ref (b 50)])), ((b 1), .inl (J.2.1, 22, .inl (upd (upd (fun _ => 0) (20 : Int32).toNatClampNeg 1) (0 : Int32).toNatClampNeg x)))] H := hP
    have hD : va_D A [((b 0), .inr (12, [.ref (b 1), .ref (b 2), .ref (b 3), .ref (b 4), .int 0, .int 0, .int 1, .int 0, .ref (b 9), .ref (b 10), .int 0, .ref (b 12), .int (-1), .int 0, .int 0, .int 0, .int 0, .int 0, .ref (b 19), .ref (b 20), .ref (b 21), .ref (b 22), .ref (b 23), .long 0, .long 0, .long 0, .ref (b 27), .ref (b 28), .ref (b 29), .long 0, .int 0, .int (-1), .int 0, .int 0, .int 0, .ref (b 36), .int 0, .int 0, .ref (b 39), .ref (b 40), .int 0, .ref (b 42), .ref (b 43), .int 0, .int 0, .int 0, .ref (b 47), .ref (b 48), .ref (b 49), .ref (b 50)])), ((b 1), .inl (J.2.1, 22, .inl (upd (upd (fun _ => 0) (20 : Int32).toNatClampNeg 1) (0 : Int32).toNatClampNeg x)))] := hD
    refine lv_aload_n hx hb dX12_hole_46 rfl (lv_at hl 0 rfl) ?_
    refine va_get (D := J.1) (ci := 12) (v := .int 1) (C := RX12) (T := TX12) (N := 50) hx hb hts inX12 hown hK.1 hP 0 rfl rfl 6 (by decide) (hts _ q_1272) (fun _ h9 => h9) rfl dX12_hole_47 ?_
    refine lv_iconst (v := 1) hx hb dX12_hole_50 (by decide) ?_
    refine lv_isub hx hb dX12_hole_51 ?_
    refine top_i (y := 0) (by decide) ?_
    exact wz_i () hx hb hr hlk (by unfold sp_hole; (repeat' split) <;> first | rfl | (exfalso; omega)) (hP.sub (ws' := []) [] rfl) (hD.sub (ws' := []) [] (by decide) rfl) hS dX12_hole_52
  · have j4 := b0 c1
    refine lv_iconst (v := (-1)) hx hb dX12_hole_12 (by decide) ?_
    exact wz_i () hx hb hr hlk (by unfold sp_hole; (repeat' split) <;> first | rfl | (exfalso; omega)) (hP.sub (ws' := []) [] rfl) (hD.sub (ws' := []) [] (by decide) rfl) hS dX12_hole_13
theorem dX12_holes_0 : decode cX12_holes 0 = .ok (.iload_n 1, 1) := by decide +kernel
theorem dX12_holes_1 : decode cX12_holes 1 = .ok (.invokestatic 114, 3) := by decide +kernel
theorem dX12_holes_4 : decode cX12_holes 4 = .ok (.ifCond .eq 15, 3) := by decide +kernel
theorem dX12_holes_19 : decode cX12_holes 19 = .ok (.iconst (-1), 1) := by decide +kernel
theorem dX12_holes_20 : decode cX12_holes 20 = .ok (.ireturn, 1) := by decide +kernel
theorem dX12_holes_7 : decode cX12_holes 7 = .ok (.iload_n 3, 1) := by decide +kernel
theorem dX12_holes_8 : decode cX12_holes 8 = .ok (.i2l, 1) := by decide +kernel
theorem dX12_holes_9 : decode cX12_holes 9 = .ok (.lconst 1, 1) := by decide +kernel
theorem q_1441 : Cond.constantLong RX12 118 10 ∈ lw_g := mem_q 1441 (by decide +kernel) rfl
theorem dX12_holes_10 : decode cX12_holes 10 = .ok (.ldc2_w 118, 3) := by decide +kernel
theorem dX12_holes_13 : decode cX12_holes 13 = .ok (.invokestatic 101, 3) := by decide +kernel
theorem dX12_holes_16 : decode cX12_holes 16 = .ok (.ifCond .ne 5, 3) := by decide +kernel
theorem dX12_holes_21 : decode cX12_holes 21 = .ok (.aload_n 0, 1) := by decide +kernel
theorem dX12_holes_22 : decode cX12_holes 22 = .ok (.getfield 73, 3) := by decide +kernel
theorem dX12_holes_25 : decode cX12_holes 25 = .ok (.iload_n 1, 1) := by decide +kernel
theorem dX12_holes_26 : decode cX12_holes 26 = .ok (.iaload, 1) := by decide +kernel
theorem dX12_holes_27 : decode cX12_holes 27 = .ok (.ifCond .lt 17, 3) := by decide +kernel
theorem dX12_holes_44 : decode cX12_holes 44 = .ok (.iconst 0, 1) := by decide +kernel
theorem dX12_holes_45 : decode cX12_holes 45 = .ok (.istore 4, 2) := by decide +kernel
theorem dX12_holes_47 : decode cX12_holes 47 = .ok (.aload_n 0, 1) := by decide +kernel
theorem dX12_holes_48 : decode cX12_holes 48 = .ok (.getfield 73, 3) := by decide +kernel
theorem dX12_holes_51 : decode cX12_holes 51 = .ok (.iload_n 1, 1) := by decide +kernel
theorem dX12_holes_52 : decode cX12_holes 52 = .ok (.iaload, 1) := by decide +kernel
theorem dX12_holes_53 : decode cX12_holes 53 = .ok (.bipush 50, 2) := by decide +kernel
theorem dX12_holes_55 : decode cX12_holes 55 = .ok (.if_icmp .ne 11, 3) := by decide +kernel
theorem dX12_holes_66 : decode cX12_holes 66 = .ok (.iconst 0, 1) := by decide +kernel
theorem dX12_holes_67 : decode cX12_holes 67 = .ok (.istore 5, 2) := by decide +kernel
theorem dX12_holes_69 : decode cX12_holes 69 = .ok (.iload 5, 2) := by decide +kernel
theorem dX12_holes_71 : decode cX12_holes 71 = .ok (.ifCond .eq 109, 3) := by decide +kernel
theorem dX12_holes_180 : decode cX12_holes 180 = .ok (.iload 4, 2) := by decide +kernel
theorem dX12_holes_182 : decode cX12_holes 182 = .ok (.ireturn, 1) := by decide +kernel
set_option maxHeartbeats 4000000 in
set_option maxRecDepth 100000 in
theorem m_holes (l : Launch) (J : va_J9) (b : Nat → Nat) (g : Nat → Int32) (d : Int32) (i : Int32) (n : Int32) (hg : ∀ k, k < 6 → g k = -1) : RC l J yX12_holes cX12_holes 6 (some .int) ({ frames := 2, cells := 0, slots := 0, locals := 45 }) [.ref (b 0), .int d, .int i, .int n] [((b 0), .inr (12, [.ref (b 1), .ref (b 2), .ref (b 3), .ref (b 4), .int 0, .int 0, .int 0, .int 0, .ref (b 9), .ref (b 10), .int 0, .ref (b 12), .int (-1), .int 0, .int 0, .int 0, .int 0, .int 0, .ref (b 19), .ref (b 20), .ref (b 21), .ref (b 22), .ref (b 23), .long 0, .long 0, .long 0, .ref (b 27), .ref (b 28), .ref (b 29), .long 0, .int 0, .int (-1), .int 0, .int 0, .int 0, .ref (b 36), .int 0, .int 0, .ref (b 39), .ref (b 40), .int 0, .ref (b 42), .ref (b 43), .int 0, .int 0, .int 0, .ref (b 47), .ref (b 48), .ref (b 49), .ref (b 50)])), ((b 47), .inl (J.2.1, 6, .inl g))] (vp_Si (fun r => r = sp_holes (d.toInt) (n.toInt))) := by
  refine rc_of (by decide) (Nat.le_of_ble_eq_true rfl) ?_
  intro p e s m below meth c ls hE hl hP hK
  obtain ⟨hx, hb, hr, hml, hown, hts, hlk, hin⟩ := hE
  have hown : s.vm.findClass RX12 = some m.cls := hown
  have hl : lv_has ls 6 [(0, .ref (b 0)), (1, .int d), (2, .int i), (3, .int n)] := hl
  have rg_d := i_rng d
  have rg_i := i_rng i
  have rg_n := i_rng n
  refine lv_iload_n hx hb dX12_holes_0 rfl (lv_at hl 1 rfl) ?_
  refine go_i (rn_S (As := [.int d]) (rest := []) hx hb hml hown hts hK (m_isShelf l J d) kS_RX12_114 (hP.sub (ws' := []) [] rfl) ⟨Nat.le_of_ble_eq_true rfl, Nat.le_of_ble_eq_true rfl⟩ rfl rfl rfl hl.1 rfl (Nat.le_of_ble_eq_true rfl) ⟨Nat.le_of_ble_eq_true rfl, Nat.le_of_ble_eq_true rfl⟩ dX12_holes_1) ?_
  refine lv_if_eq (tgt := 19) hx hb dX12_holes_4 (by decide) (fun c1 => ?_) (fun c1 => ?_)
  · have j2 := b0 c1
    refine lv_iconst (v := (-1)) hx hb dX12_holes_19 (by decide) ?_
    exact rz_i hx hb hr hlk (by unfold sp_holes; (repeat' split) <;> first | rfl | (exfalso; omega)) dX12_holes_20
  · have j3 := b1 c1
    refine lv_iload_n hx hb dX12_holes_7 rfl (lv_at hl 3 rfl) ?_
    refine lv_i2l (v := n.toInt64) hx hb dX12_holes_8 rfl ?_
    refine lv_lconst (v := 1) hx hb dX12_holes_9 (by decide) ?_
    refine lv_ldc2 (v := 10) hx hb hown (hts _ q_1441) dX12_holes_10 ?_
    refine go_i (rn_S (As := [.long n.toInt64, .long 1, .long 10]) (rest := []) hx hb hml hown hts hK (m_within l J n.toInt64 1 10 n.toInt 1 10 (i_wide rfl) (by decide) (by decide)) kS_RX12_101 (hP.sub (ws' := []) [] rfl) ⟨Nat.le_of_ble_eq_true rfl, Nat.le_of_ble_eq_true rfl⟩ rfl rfl rfl hl.1 rfl (Nat.le_of_ble_eq_true rfl) ⟨Nat.le_of_ble_eq_true rfl, Nat.le_of_ble_eq_true rfl⟩ dX12_holes_13) ?_
    refine lv_if_ne (tgt := 21) hx hb dX12_holes_16 (by decide) (fun c4 => ?_) (fun c4 => ?_)
    · have j5 := b1 c4
      refine lv_aload_n hx hb dX12_holes_21 rfl (lv_at hl 0 rfl) ?_
      refine va_get (D := J.1) (ci := 12) (v := .ref (b 47)) (C := RX12) (T := TX12) (N := 50) hx hb hts inX12 hown hK.1 hP 0 rfl rfl 46 (by decide) (hts _ q_1312) (fun _ h9 => h9) rfl dX12_holes_22 ?_
      refine lv_iload_n hx hb dX12_holes_25 rfl (lv_at hl 1 rfl) ?_
      have h6 : vp_in d 6 := (i_in (a := d.toInt) rfl (by omega) (by omega))
      refine va_iald hx hb hK.1 hP 1 0 rfl rfl h6 dX12_holes_26 ?_
      refine top_i (y := (-1)) (hg _ (i_cl h6)) ?_
      refine lv_if_lt (tgt := 44) hx hb dX12_holes_27 (by decide) (fun _ => ?_) (fun c => absurd c (by decide))
      refine lv_iconst (v := 0) hx hb dX12_holes_44 (by decide) ?_
      refine lv_istore (lv' := [(4, .int 0), (0, .ref (b 0)), (1, .int d), (2, .int i), (3, .int n)]) hx hb dX12_holes_45 hl (by decide) rfl (fun ls hl => ?_)
      refine lv_aload_n hx hb dX12_holes_47 rfl (lv_at hl 1 rfl) ?_
      refine va_get (D := J.1) (ci := 12) (v := .ref (b 47)) (C := RX12) (T := TX12) (N := 50) hx hb hts inX12 hown hK.1 hP 0 rfl rfl 46 (by decide) (hts _ q_1312) (fun _ h9 => h9) rfl dX12_holes_48 ?_
      refine lv_iload_n hx hb dX12_holes_51 rfl (lv_at hl 2 rfl) ?_
      have h7 : vp_in d 6 := (i_in (a := d.toInt) rfl (by omega) (by omega))
      refine va_iald hx hb hK.1 hP 1 0 rfl rfl h7 dX12_holes_52 ?_
      refine top_i (y := (-1)) (hg _ (i_cl h7)) ?_
      refine lv_bipush (v := 50) hx hb dX12_holes_53 (by decide) ?_
      refine lv_icmp_ne (tgt := 66) hx hb dX12_holes_55 (by decide) (fun _ => ?_) (fun c => absurd c (by decide))
      refine lv_iconst (v := 0) hx hb dX12_holes_66 (by decide) ?_
      refine lv_istore (lv' := [(5, .int 0), (4, .int 0), (0, .ref (b 0)), (1, .int d), (2, .int i), (3, .int n)]) hx hb dX12_holes_67 hl (by decide) rfl (fun ls hl => ?_)
      refine lv_iload hx hb dX12_holes_69 (lv_at hl 0 rfl) ?_
      refine lv_if_eq (tgt := 180) hx hb dX12_holes_71 (by decide) (fun _ => ?_) (fun c => absurd c (by decide))
      refine lv_iload hx hb dX12_holes_180 (lv_at hl 1 rfl) ?_
      exact rz_i hx hb hr hlk (by unfold sp_holes; (repeat' split) <;> first | rfl | (exfalso; omega)) dX12_holes_182
    · have j8 := b0 c4
      refine lv_iconst (v := (-1)) hx hb dX12_holes_19 (by decide) ?_
      exact rz_i hx hb hr hlk (by unfold sp_holes; (repeat' split) <;> first | rfl | (exfalso; omega)) dX12_holes_20
theorem dX12_path_0 : decode cX12_path 0 = .ok (.aload_n 0, 1) := by decide +kernel
theorem dX12_path_1 : decode cX12_path 1 = .ok (.iload_n 1, 1) := by decide +kernel
theorem q_1446 : Cond.methodLink RX12 120 yX12_isAb ∈ lw_g := mem_q 1446 (by decide +kernel) rfl
theorem q_1448 : Cond.instanceMethod yX12_isAb ∈ lw_g := mem_q 1448 (by decide +kernel) rfl
theorem q_48 : Cond.selects RX12 yX12_isAb yX12_isAb ∈ lw_g := mem_q 48 (by decide +kernel) rfl
theorem q_1449 : Cond.code yX12_isAb cX12_isAb 2 (some .boolean) ∈ lw_g := mem_q 1449 (by decide +kernel) rfl
theorem kV_RX12_120 : CV RX12 120 RX12 yX12_isAb cX12_isAb 2 (some .boolean) 1 := cv_of q_1446 q_1448 q_48 q_115 q_1449 (by decide +kernel)
theorem dX12_path_2 : decode cX12_path 2 = .ok (.invokevirtual 120, 3) := by decide +kernel
theorem dX12_path_5 : decode cX12_path 5 = .ok (.ifCond .eq 33, 3) := by decide +kernel
theorem dX12_path_38 : decode cX12_path 38 = .ok (.iconst (-1), 1) := by decide +kernel
theorem dX12_path_39 : decode cX12_path 39 = .ok (.ireturn, 1) := by decide +kernel
set_option maxHeartbeats 4000000 in
set_option maxRecDepth 100000 in
theorem m_path (l : Launch) (J : va_J9) (b : Nat → Nat) (x : Int32) : RC l J yX12_path cX12_path 2 (some .int) ({ frames := 3, cells := 0, slots := 0, locals := 68 }) [.ref (b 0), .int x] [((b 0), .inr (12, [.ref (b 1), .ref (b 2), .ref (b 3), .ref (b 4), .int 0, .int 0, .int 0, .int 0, .ref (b 9), .ref (b 10), .int 0, .ref (b 12), .int (-1), .int 0, .int 0, .int 0, .int 0, .int 0, .ref (b 19), .ref (b 20), .ref (b 21), .ref (b 22), .ref (b 23), .long 0, .long 0, .long 0, .ref (b 27), .ref (b 28), .ref (b 29), .long 0, .int 0, .int (-1), .int 0, .int 0, .int 0, .ref (b 36), .int 0, .int 0, .ref (b 39), .ref (b 40), .int 0, .ref (b 42), .ref (b 43), .int 0, .int 0, .int 0, .ref (b 47), .ref (b 48), .ref (b 49), .ref (b 50)]))] (vp_Si (fun r => r = (-1))) := by
  refine rc_of (by decide) (Nat.le_of_ble_eq_true rfl) ?_
  intro p e s m below meth c ls hE hl hP hK
  obtain ⟨hx, hb, hr, hml, hown, hts, hlk, hin⟩ := hE
  have hown : s.vm.findClass RX12 = some m.cls := hown
  have hl : lv_has ls 2 [(0, .ref (b 0)), (1, .int x)] := hl
  have rg_x := i_rng x
  refine lv_aload_n hx hb dX12_path_0 rfl (lv_at hl 0 rfl) ?_
  refine lv_iload_n hx hb dX12_path_1 rfl (lv_at hl 1 rfl) ?_
  refine go_i (rn_V (As := [.int x]) (rest := []) hx hb hml hown hts hK (m_isAb l J b x) kV_RX12_120 hP rfl rfl rfl ⟨Nat.le_of_ble_eq_true rfl, Nat.le_of_ble_eq_true rfl⟩ rfl rfl rfl hl.1 rfl (Nat.le_of_ble_eq_true rfl) ⟨Nat.le_of_ble_eq_true rfl, Nat.le_of_ble_eq_true rfl⟩ dX12_path_2) ?_
  refine lv_if_eq (tgt := 38) hx hb dX12_path_5 (by decide) (fun _ => ?_) (fun c => absurd c (by decide))
  refine lv_iconst (v := (-1)) hx hb dX12_path_38 (by decide) ?_
  exact rz_i hx hb hr hlk (by decide) dX12_path_39
theorem dX12_becomes_0 : decode cX12_becomes 0 = .ok (.aload_n 0, 1) := by decide +kernel
theorem dX12_becomes_1 : decode cX12_becomes 1 = .ok (.getfield 11, 3) := by decide +kernel
theorem dX12_becomes_4 : decode cX12_becomes 4 = .ok (.iload_n 1, 1) := by decide +kernel
theorem dX12_becomes_5 : decode cX12_becomes 5 = .ok (.iaload, 1) := by decide +kernel
theorem dX12_becomes_6 : decode cX12_becomes 6 = .ok (.istore_n 3, 1) := by decide +kernel
theorem dX12_becomes_7 : decode cX12_becomes 7 = .ok (.iload_n 3, 1) := by decide +kernel
theorem dX12_becomes_8 : decode cX12_becomes 8 = .ok (.iload_n 2, 1) := by decide +kernel
theorem dX12_becomes_9 : decode cX12_becomes 9 = .ok (.if_icmp .ne 5, 3) := by decide +kernel
theorem dX12_becomes_14 : decode cX12_becomes 14 = .ok (.aload_n 0, 1) := by decide +kernel
theorem q_1271 : Cond.fieldLink RX12 92 RX12 "done" "I" ∈ lw_g := mem_q 1271 (by decide +kernel) rfl
theorem dX12_becomes_15 : decode cX12_becomes 15 = .ok (.getfield 92, 3) := by decide +kernel
theorem dX12_becomes_18 : decode cX12_becomes 18 = .ok (.bipush 40, 2) := by decide +kernel
theorem dX12_becomes_20 : decode cX12_becomes 20 = .ok (.if_icmp .ne 77, 3) := by decide +kernel
theorem dX12_becomes_97 : decode cX12_becomes 97 = .ok (.aload_n 0, 1) := by decide +kernel
theorem q_1267 : Cond.fieldLink RX12 15 RX12 "changeAt" "[I" ∈ lw_g := mem_q 1267 (by decide +kernel) rfl
theorem dX12_becomes_98 : decode cX12_becomes 98 = .ok (.getfield 15, 3) := by decide +kernel
theorem dX12_becomes_101 : decode cX12_becomes 101 = .ok (.aload_n 0, 1) := by decide +kernel
theorem dX12_becomes_102 : decode cX12_becomes 102 = .ok (.getfield 92, 3) := by decide +kernel
theorem dX12_becomes_105 : decode cX12_becomes 105 = .ok (.iload_n 1, 1) := by decide +kernel
theorem dX12_becomes_106 : decode cX12_becomes 106 = .ok (.iastore, 1) := by decide +kernel
theorem dX12_becomes_107 : decode cX12_becomes 107 = .ok (.aload_n 0, 1) := by decide +kernel
theorem q_1268 : Cond.fieldLink RX12 18 RX12 "changeWas" "[I" ∈ lw_g := mem_q 1268 (by decide +kernel) rfl
theorem dX12_becomes_108 : decode cX12_becomes 108 = .ok (.getfield 18, 3) := by decide +kernel
theorem dX12_becomes_111 : decode cX12_becomes 111 = .ok (.aload_n 0, 1) := by decide +kernel
theorem dX12_becomes_112 : decode cX12_becomes 112 = .ok (.getfield 92, 3) := by decide +kernel
theorem dX12_becomes_115 : decode cX12_becomes 115 = .ok (.iload_n 3, 1) := by decide +kernel
theorem dX12_becomes_116 : decode cX12_becomes 116 = .ok (.iastore, 1) := by decide +kernel
theorem dX12_becomes_117 : decode cX12_becomes 117 = .ok (.aload_n 0, 1) := by decide +kernel
theorem q_1269 : Cond.fieldLink RX12 21 RX12 "changeIs" "[I" ∈ lw_g := mem_q 1269 (by decide +kernel) rfl
theorem dX12_becomes_118 : decode cX12_becomes 118 = .ok (.getfield 21, 3) := by decide +kernel
theorem dX12_becomes_121 : decode cX12_becomes 121 = .ok (.aload_n 0, 1) := by decide +kernel
theorem dX12_becomes_122 : decode cX12_becomes 122 = .ok (.getfield 92, 3) := by decide +kernel
theorem dX12_becomes_125 : decode cX12_becomes 125 = .ok (.iload_n 2, 1) := by decide +kernel
theorem dX12_becomes_126 : decode cX12_becomes 126 = .ok (.iastore, 1) := by decide +kernel
theorem dX12_becomes_127 : decode cX12_becomes 127 = .ok (.aload_n 0, 1) := by decide +kernel
theorem dX12_becomes_128 : decode cX12_becomes 128 = .ok (.dup, 1) := by decide +kernel
theorem dX12_becomes_129 : decode cX12_becomes 129 = .ok (.getfield 92, 3) := by decide +kernel
theorem dX12_becomes_132 : decode cX12_becomes 132 = .ok (.iconst 1, 1) := by decide +kernel
theorem dX12_becomes_133 : decode cX12_becomes 133 = .ok (.iadd, 1) := by decide +kernel
theorem dX12_becomes_134 : decode cX12_becomes 134 = .ok (.putfield 92, 3) := by decide +kernel
theorem dX12_becomes_137 : decode cX12_becomes 137 = .ok (.aload_n 0, 1) := by decide +kernel
theorem dX12_becomes_138 : decode cX12_becomes 138 = .ok (.aload_n 0, 1) := by decide +kernel
theorem dX12_becomes_139 : decode cX12_becomes 139 = .ok (.getfield 92, 3) := by decide +kernel
theorem q_1270 : Cond.fieldLink RX12 95 RX12 "keptMany" "I" ∈ lw_g := mem_q 1270 (by decide +kernel) rfl
theorem dX12_becomes_142 : decode cX12_becomes 142 = .ok (.putfield 95, 3) := by decide +kernel
theorem dX12_becomes_145 : decode cX12_becomes 145 = .ok (.aload_n 0, 1) := by decide +kernel
theorem dX12_becomes_146 : decode cX12_becomes 146 = .ok (.getfield 11, 3) := by decide +kernel
theorem dX12_becomes_149 : decode cX12_becomes 149 = .ok (.iload_n 1, 1) := by decide +kernel
theorem dX12_becomes_150 : decode cX12_becomes 150 = .ok (.iload_n 2, 1) := by decide +kernel
theorem dX12_becomes_151 : decode cX12_becomes 151 = .ok (.iastore, 1) := by decide +kernel
theorem dX12_becomes_152 : decode cX12_becomes 152 = .ok (.iload_n 3, 1) := by decide +kernel
theorem dX12_becomes_153 : decode cX12_becomes 153 = .ok (.ireturn, 1) := by decide +kernel
theorem dX12_becomes_12 : decode cX12_becomes 12 = .ok (.iload_n 3, 1) := by decide +kernel
theorem dX12_becomes_13 : decode cX12_becomes 13 = .ok (.ireturn, 1) := by decide +kernel
set_option maxHeartbeats 4000000 in
set_option maxRecDepth 100000 in
theorem m_becomes2 (l : Launch) (J : va_J9) (sz : Nat) (b : Nat → Nat) (v : Int32) : WC l J yX12_becomes cX12_becomes 5 (some .int) ({ frames := 0, cells := 0, slots := 0, locals := 0 }) [.ref (b 0), .int 20, .int v] [((b 0), .inr (12, [.ref (b 1), .ref (b 2), .ref (b 3), .ref (b 4), .int 0, .int 0, .int 0, .int 0, .ref (b 9), .ref (b 10), .int 0, .ref (b 12), .int (-1), .int 0, .int 0, .int 0, .int 0, .int 0, .ref (b 19), .ref (b 20), .ref (b 21), .ref (b 22), .ref (b 23), .long 0, .long 0, .long 0, .ref (b 27), .ref (b 28), .ref (b 29), .long 0, .int 0, .int (-1), .int 0, .int 0, .int 0, .ref (b 36), .int 0, .int 0, .ref (b 39), .ref (b 40), .int 0, .ref (b 42), .ref (b 43), .int 0, .int 0, .int 0, .ref (b 47), .ref (b 48), .ref (b 49), .ref (b 50)])), ((b 1), .inl (J.2.1, 22, .inl (upd (fun _ => 0) (20 : Int32).toNatClampNeg 1))), ((b 2), .inl (J.2.1, 40, .inl (fun _ => 0))), ((b 3), .inl (J.2.1, 40, .inl (fun _ => 0))), ((b 4), .inl (J.2.1, 40, .inl (fun _ => 0)))] sz (Qi J (fun (r : Int32) (_ : Unit) => r = 1) (fun (_ : Unit) => [])) 0 0 := by
  refine wc_of (by decide) (Nat.le_of_ble_eq_true rfl) ?_
  intro p e s m below meth c ls A hE hl hP hK hD hS hA
  obtain ⟨hx, hb, hr, hml, hown, hts, hlk, hin⟩ := hE
  have hown : s.vm.findClass RX12 = some m.cls := hown
  have hl : lv_has ls 5 [(0, .ref (b 0)), (1, .int 20), (2, .int v)] := hl
  have rg_v := i_rng v
  refine lv_aload_n hx hb dX12_becomes_0 rfl (lv_at hl 0 rfl) ?_
  refine va_get (D := J.1) (ci := 12) (v := .ref (b 1)) (C := RX12) (T := TX12) (N := 50) hx hb hts inX12 hown hK.1 hP 0 rfl rfl 0 (by decide) (hts _ q_1266) (fun _ h9 => h9) rfl dX12_becomes_1 ?_
  refine lv_iload_n hx hb dX12_becomes_4 rfl (lv_at hl 1 rfl) ?_
  have h1 : vp_in 20 22 := (i_in (a := 20) (by decide) (by omega) (by omega))
  refine va_iald hx hb hK.1 hP 1 0 rfl rfl h1 dX12_becomes_5 ?_
  refine top_i (y := 1) rfl ?_
  refine lv_istore_n (lv' := [(3, .int 1), (0, .ref (b 0)), (1, .int 20), (2, .int v)]) hx hb dX12_becomes_6 rfl hl (by decide) rfl (fun ls hl => ?_)
  refine lv_iload_n hx hb dX12_becomes_7 rfl (lv_at hl 0 rfl) ?_
  refine lv_iload_n hx hb dX12_becomes_8 rfl (lv_at hl 3 rfl) ?_
  refine lv_icmp_ne (tgt := 14) hx hb dX12_becomes_9 (by decide) (fun c2 => ?_) (fun c2 => ?_)
  · have j3 : ¬ (1 = v.toInt) := fun h => c2 ((i_eq (by decide) rfl).mpr h)
    refine lv_aload_n hx hb dX12_becomes_14 rfl (lv_at hl 1 rfl) ?_
    refine va_get (D := J.1) (ci := 12) (v := .int 0) (C := RX12) (T := TX12) (N := 50) hx hb hts inX12 hown hK.1 hP 0 rfl rfl 5 (by decide) (hts _ q_1271) (fun _ h9 => h9) rfl dX12_becomes_15 ?_
    refine lv_bipush (v := 40) hx hb dX12_becomes_18 (by decide) ?_
    refine lv_icmp_ne (tgt := 97) hx hb dX12_becomes_20 (by decide) (fun _ => ?_) (fun c => absurd c (by decide))
    refine lv_aload_n hx hb dX12_becomes_97 rfl (lv_at hl 1 rfl) ?_
    refine va_get (D := J.1) (ci := 12) (v := .ref (b 2)) (C := RX12) (T := TX12) (N := 50) hx hb hts inX12 hown hK.1 hP 0 rfl rfl 1 (by decide) (hts _ q_1267) (fun _ h9 => h9) rfl dX12_becomes_98 ?_
    refine lv_aload_n hx hb dX12_becomes_101 rfl (lv_at hl 1 rfl) ?_
    refine va_get (D := J.1) (ci := 12) (v := .int 0) (C := RX12) (T := TX12) (N := 50) hx hb hts inX12 hown hK.1 hP 0 rfl rfl 5 (by decide) (hts _ q_1271) (fun _ h9 => h9) rfl dX12_becomes_102 ?_
    refine lv_iload_n hx hb dX12_becomes_105 rfl (lv_at hl 2 rfl) ?_
    have h4 : vp_in 0 40 := (i_in (a := 0) (by decide) (by omega) (by omega))
    refine va_iast hx hb hK.1 hP hD hS 2 0 rfl rfl h4 dX12_becomes_106 (fun H locs hP hD hS => ?_)
    have hP : va_P J.1 cls [((b 0), .inr (12, [.ref (b 1), .ref (b 2), .ref (b 3), .ref (b 4), .int 0, .int 0, .int 0, .int 0, .ref (b 9), .ref (b 10), .int 0, .ref (b 12), .int (-1), .int 0, .int 0, .int 0, .int 0, .int 0, .ref (b 19), .ref (b 20), .ref (b 21), .ref (b 22), .ref (b 23), .long 0, .long 0, .long 0, .ref (b 27), .ref (b 28), .ref (b 29), .long 0, .int 0, .int (-1), .int 0, .int 0, .int 0, .ref (b 36), .int 0, .int 0, .ref (b 39), .ref (b 40), .int 0, .ref (b 42), .ref (b 43), .int 0, .int 0, .int 0, .ref (b 47), .ref (b 48), .ref (b 49), .ref (b 50)])), ((b 1), .inl (J.2.1, 22, .inl (upd (fun _ => 0) (20 : Int32).toNatClampNeg 1))), ((b 2), .inl (J.2.1, 40, .inl (upd (fun _ => 0) (0 : Int32).toNatClampNeg 20))), ((b 3), .inl (J.2.1, 40, .inl (fun _ => 0))), ((b 4), .inl (J.2.1, 40, .inl (fun _ => 0)))] H := hP
    have hD : va_D A [((b 0), .inr (12, [.ref (b 1), .ref (b 2), .ref (b 3), .ref (b 4), .int 0, .int 0, .int 0, .int 0, .ref (b 9), .ref (b 10), .int 0, .ref (b 12), .int (-1), .int 0, .int 0, .int 0, .int 0, .int 0, .ref (b 19), .ref (b 20), .ref (b 21), .ref (b 22), .ref (b 23), .long 0, .long 0, .long 0, .ref (b 27), .ref (b 28), .ref (b 29), .long 0, .int 0, .int (-1), .int 0, .int 0, .int 0, .ref (b 36), .int 0, .int 0, .ref (b 39), .ref (b 40), .int 0, .ref (b 42), .ref (b 43), .int 0, .int 0, .int 0, .ref (b 47), .ref (b 48), .ref (b 49), .ref (b 50)])), ((b 1), .inl (J.2.1, 22, .inl (upd (fun _ => 0) (20 : Int32).toNatClampNeg 1))), ((b 2), .inl (J.2.1, 40, .inl (upd (fun _ => 0) (0 : Int32).toNatClampNeg 20))), ((b 3), .inl (J.2.1, 40, .inl (fun _ => 0))), ((b 4), .inl (J.2.1, 40, .inl (fun _ => 0)))] := hD
    refine lv_aload_n hx hb dX12_becomes_107 rfl (lv_at hl 1 rfl) ?_
    refine va_get (D := J.1) (ci := 12) (v := .ref (b 3)) (C := RX12) (T := TX12) (N := 50) hx hb hts inX12 hown hK.1 hP 0 rfl rfl 2 (by decide) (hts _ q_1268) (fun _ h9 => h9) rfl dX12_becomes_108 ?_
    refine lv_aload_n hx hb dX12_becomes_111 rfl (lv_at hl 1 rfl) ?_
    refine va_get (D := J.1) (ci := 12) (v := .int 0) (C := RX12) (T := TX12) (N := 50) hx hb hts inX12 hown hK.1 hP 0 rfl rfl 5 (by decide) (hts _ q_1271) (fun _ h9 => h9) rfl dX12_becomes_112 ?_
    refine lv_iload_n hx hb dX12_becomes_115 rfl (lv_at hl 0 rfl) ?_
    have h5 : vp_in 0 40 := (i_in (a := 0) (by decide) (by omega) (by omega))
    refine va_iast hx hb hK.1 hP hD hS 3 0 rfl rfl h5 dX12_becomes_116 (fun H locs hP hD hS => ?_)
    have hP : va_P J.1 cls [((b 0), .inr (12, [.ref (b 1), .ref (b 2), .ref (b 3), .ref (b 4), .int 0, .int 0, .int 0, .int 0, .ref (b 9), .ref (b 10), .int 0, .ref (b 12), .int (-1), .int 0, .int 0, .int 0, .int 0, .int 0, .ref (b 19), .ref (b 20), .ref (b 21), .ref (b 22), .ref (b 23), .long 0, .long 0, .long 0, .ref (b 27), .ref (b 28), .ref (b 29), .long 0, .int 0, .int (-1), .int 0, .int 0, .int 0, .ref (b 36), .int 0, .int 0, .ref (b 39), .ref (b 40), .int 0, .ref (b 42), .ref (b 43), .int 0, .int 0, .int 0, .ref (b 47), .ref (b 48), .ref (b 49), .ref (b 50)])), ((b 1), .inl (J.2.1, 22, .inl (upd (fun _ => 0) (20 : Int32).toNatClampNeg 1))), ((b 2), .inl (J.2.1, 40, .inl (upd (fun _ => 0) (0 : Int32).toNatClampNeg 20))), ((b 3), .inl (J.2.1, 40, .inl (upd (fun _ => 0) (0 : Int32).toNatClampNeg 1))), ((b 4), .inl (J.2.1, 40, .inl (fun _ => 0)))] H := hP
    have hD : va_D A [((b 0), .inr (12, [.ref (b 1), .ref (b 2), .ref (b 3), .ref (b 4), .int 0, .int 0, .int 0, .int 0, .ref (b 9), .ref (b 10), .int 0, .ref (b 12), .int (-1), .int 0, .int 0, .int 0, .int 0, .int 0, .ref (b 19), .ref (b 20), .ref (b 21), .ref (b 22), .ref (b 23), .long 0, .long 0, .long 0, .ref (b 27), .ref (b 28), .ref (b 29), .long 0, .int 0, .int (-1), .int 0, .int 0, .int 0, .ref (b 36), .int 0, .int 0, .ref (b 39), .ref (b 40), .int 0, .ref (b 42), .ref (b 43), .int 0, .int 0, .int 0, .ref (b 47), .ref (b 48), .ref (b 49), .ref (b 50)])), ((b 1), .inl (J.2.1, 22, .inl (upd (fun _ => 0) (20 : Int32).toNatClampNeg 1))), ((b 2), .inl (J.2.1, 40, .inl (upd (fun _ => 0) (0 : Int32).toNatClampNeg 20))), ((b 3), .inl (J.2.1, 40, .inl (upd (fun _ => 0) (0 : Int32).toNatClampNeg 1))), ((b 4), .inl (J.2.1, 40, .inl (fun _ => 0)))] := hD
    refine lv_aload_n hx hb dX12_becomes_117 rfl (lv_at hl 1 rfl) ?_
    refine va_get (D := J.1) (ci := 12) (v := .ref (b 4)) (C := RX12) (T := TX12) (N := 50) hx hb hts inX12 hown hK.1 hP 0 rfl rfl 3 (by decide) (hts _ q_1269) (fun _ h9 => h9) rfl dX12_becomes_118 ?_
    refine lv_aload_n hx hb dX12_becomes_121 rfl (lv_at hl 1 rfl) ?_
    refine va_get (D := J.1) (ci := 12) (v := .int 0) (C := RX12) (T := TX12) (N := 50) hx hb hts inX12 hown hK.1 hP 0 rfl rfl 5 (by decide) (hts _ q_1271) (fun _ h9 => h9) rfl dX12_becomes_122 ?_
    refine lv_iload_n hx hb dX12_becomes_125 rfl (lv_at hl 3 rfl) ?_
    have h6 : vp_in 0 40 := (i_in (a := 0) (by decide) (by omega) (by omega))
    refine va_iast hx hb hK.1 hP hD hS 4 0 rfl rfl h6 dX12_becomes_126 (fun H locs hP hD hS => ?_)
    have hP : va_P J.1 cls [((b 0), .inr (12, [.ref (b 1), .ref (b 2), .ref (b 3), .ref (b 4), .int 0, .int 0, .int 0, .int 0, .ref (b 9), .ref (b 10), .int 0, .ref (b 12), .int (-1), .int 0, .int 0, .int 0, .int 0, .int 0, .ref (b 19), .ref (b 20), .ref (b 21), .ref (b 22), .ref (b 23), .long 0, .long 0, .long 0, .ref (b 27), .ref (b 28), .ref (b 29), .long 0, .int 0, .int (-1), .int 0, .int 0, .int 0, .ref (b 36), .int 0, .int 0, .ref (b 39), .ref (b 40), .int 0, .ref (b 42), .ref (b 43), .int 0, .int 0, .int 0, .ref (b 47), .ref (b 48), .ref (b 49), .ref (b 50)])), ((b 1), .inl (J.2.1, 22, .inl (upd (fun _ => 0) (20 : Int32).toNatClampNeg 1))), ((b 2), .inl (J.2.1, 40, .inl (upd (fun _ => 0) (0 : Int32).toNatClampNeg 20))), ((b 3), .inl (J.2.1, 40, .inl (upd (fun _ => 0) (0 : Int32).toNatClampNeg 1))), ((b 4), .inl (J.2.1, 40, .inl (upd (fun _ => 0) (0 : Int32).toNatClampNeg v)))] H := hP
    have hD : va_D A [((b 0), .inr (12, [.ref (b 1), .ref (b 2), .ref (b 3), .ref (b 4), .int 0, .int 0, .int 0, .int 0, .ref (b 9), .ref (b 10), .int 0, .ref (b 12), .int (-1), .int 0, .int 0, .int 0, .int 0, .int 0, .ref (b 19), .ref (b 20), .ref (b 21), .ref (b 22), .ref (b 23), .long 0, .long 0, .long 0, .ref (b 27), .ref (b 28), .ref (b 29), .long 0, .int 0, .int (-1), .int 0, .int 0, .int 0, .ref (b 36), .int 0, .int 0, .ref (b 39), .ref (b 40), .int 0, .ref (b 42), .ref (b 43), .int 0, .int 0, .int 0, .ref (b 47), .ref (b 48), .ref (b 49), .ref (b 50)])), ((b 1), .inl (J.2.1, 22, .inl (upd (fun _ => 0) (20 : Int32).toNatClampNeg 1))), ((b 2), .inl (J.2.1, 40, .inl (upd (fun _ => 0) (0 : Int32).toNatClampNeg 20))), ((b 3), .inl (J.2.1, 40, .inl (upd (fun _ => 0) (0 : Int32).toNatClampNeg 1))), ((b 4), .inl (J.2.1, 40, .inl (upd (fun _ => 0) (0 : Int32).toNatClampNeg v)))] := hD
    refine lv_aload_n hx hb dX12_becomes_127 rfl (lv_at hl 1 rfl) ?_
    refine lv_dup hx hb dX12_becomes_128 rfl ?_
    refine va_get (D := J.1) (ci := 12) (v := .int 0) (C := RX12) (T := TX12) (N := 50) hx hb hts inX12 hown hK.1 hP 0 rfl rfl 5 (by decide) (hts _ q_1271) (fun _ h9 => h9) rfl dX12_becomes_129 ?_
    refine lv_iconst (v := 1) hx hb dX12_becomes_132 (by decide) ?_
    refine lv_iadd hx hb dX12_becomes_133 ?_
    refine top_i (y := 1) (by decide) ?_
    refine va_put (D := J.1) (ci := 12) (v := .int 1) (ty := (.int)) (C := RX12) (T := TX12) (N := 50) hx hb hts inX12 tyX12 tyX12_ok nmX12 hown hK.1 hP hD hS 0 rfl rfl 5 (by decide) (hts _ q_1271) (fun _ h9 => h9) rfl (by decide +kernel) rfl rfl (Nat.le_of_ble_eq_true rfl) dX12_becomes_134 (fun H locs hP hD hS => ?_)
    have hP : va_P J.1 cls [((b 0), .inr (12, [.ref (b 1), .ref (b 2), .ref (b 3), .ref (b 4), .int 0, .int 1, .int 0, .int 0, .ref (b 9), .ref (b 10), .int 0, .ref (b 12), .int (-1), .int 0, .int 0, .int 0, .int 0, .int 0, .ref (b 19), .ref (b 20), .ref (b 21), .ref (b 22), .ref (b 23), .long 0, .long 0, .long 0, .ref (b 27), .ref (b 28), .ref (b 29), .long 0, .int 0, .int (-1), .int 0, .int 0, .int 0, .ref (b 36), .int 0, .int 0, .ref (b 39), .ref (b 40), .int 0, .ref (b 42), .ref (b 43), .int 0, .int 0, .int 0, .ref (b 47), .ref (b 48), .ref (b 49), .ref (b 50)])), ((b 1), .inl (J.2.1, 22, .inl (upd (fun _ => 0) (20 : Int32).toNatClampNeg 1))), ((b 2), .inl (J.2.1, 40, .inl (upd (fun _ => 0) (0 : Int32).toNatClampNeg 20))), ((b 3), .inl (J.2.1, 40, .inl (upd (fun _ => 0) (0 : Int32).toNatClampNeg 1))), ((b 4), .inl (J.2.1, 40, .inl (upd (fun _ => 0) (0 : Int32).toNatClampNeg v)))] H := hP
    have hD : va_D A [((b 0), .inr (12, [.ref (b 1), .ref (b 2), .ref (b 3), .ref (b 4), .int 0, .int 1, .int 0, .int 0, .ref (b 9), .ref (b 10), .int 0, .ref (b 12), .int (-1), .int 0, .int 0, .int 0, .int 0, .int 0, .ref (b 19), .ref (b 20), .ref (b 21), .ref (b 22), .ref (b 23), .long 0, .long 0, .long 0, .ref (b 27), .ref (b 28), .ref (b 29), .long 0, .int 0, .int (-1), .int 0, .int 0, .int 0, .ref (b 36), .int 0, .int 0, .ref (b 39), .ref (b 40), .int 0, .ref (b 42), .ref (b 43), .int 0, .int 0, .int 0, .ref (b 47), .ref (b 48), .ref (b 49), .ref (b 50)])), ((b 1), .inl (J.2.1, 22, .inl (upd (fun _ => 0) (20 : Int32).toNatClampNeg 1))), ((b 2), .inl (J.2.1, 40, .inl (upd (fun _ => 0) (0 : Int32).toNatClampNeg 20))), ((b 3), .inl (J.2.1, 40, .inl (upd (fun _ => 0) (0 : Int32).toNatClampNeg 1))), ((b 4), .inl (J.2.1, 40, .inl (upd (fun _ => 0) (0 : Int32).toNatClampNeg v)))] := hD
    refine lv_aload_n hx hb dX12_becomes_137 rfl (lv_at hl 1 rfl) ?_
    refine lv_aload_n hx hb dX12_becomes_138 rfl (lv_at hl 1 rfl) ?_
    refine va_get (D := J.1) (ci := 12) (v := .int 1) (C := RX12) (T := TX12) (N := 50) hx hb hts inX12 hown hK.1 hP 0 rfl rfl 5 (by decide) (hts _ q_1271) (fun _ h9 => h9) rfl dX12_becomes_139 ?_
    refine va_put (D := J.1) (ci := 12) (v := .int 1) (ty := (.int)) (C := RX12) (T := TX12) (N := 50) hx hb hts inX12 tyX12 tyX12_ok nmX12 hown hK.1 hP hD hS 0 rfl rfl 4 (by decide) (hts _ q_1270) (fun _ h9 => h9) rfl (by decide +kernel) rfl rfl (Nat.le_of_ble_eq_true rfl) dX12_becomes_142 (fun H locs hP hD hS => ?_)
    have hP : va_P J.1 cls [((b 0), .inr (12, [.ref (b 1), .ref (b 2), .ref (b 3), .ref (b 4), .int 1, .int 1, .int 0, .int 0, .ref (b 9), .ref (b 10), .int 0, .ref (b 12), .int (-1), .int 0, .int 0, .int 0, .int 0, .int 0, .ref (b 19), .ref (b 20), .ref (b 21), .ref (b 22), .ref (b 23), .long 0, .long 0, .long 0, .ref (b 27), .ref (b 28), .ref (b 29), .long 0, .int 0, .int (-1), .int 0, .int 0, .int 0, .ref (b 36), .int 0, .int 0, .ref (b 39), .ref (b 40), .int 0, .ref (b 42), .ref (b 43), .int 0, .int 0, .int 0, .ref (b 47), .ref (b 48), .ref (b 49), .ref (b 50)])), ((b 1), .inl (J.2.1, 22, .inl (upd (fun _ => 0) (20 : Int32).toNatClampNeg 1))), ((b 2), .inl (J.2.1, 40, .inl (upd (fun _ => 0) (0 : Int32).toNatClampNeg 20))), ((b 3), .inl (J.2.1, 40, .inl (upd (fun _ => 0) (0 : Int32).toNatClampNeg 1))), ((b 4), .inl (J.2.1, 40, .inl (upd (fun _ => 0) (0 : Int32).toNatClampNeg v)))] H := hP
    have hD : va_D A [((b 0), .inr (12, [.ref (b 1), .ref (b 2), .ref (b 3), .ref (b 4), .int 1, .int 1, .int 0, .int 0, .ref (b 9), .ref (b 10), .int 0, .ref (b 12), .int (-1), .int 0, .int 0, .int 0, .int 0, .int 0, .ref (b 19), .ref (b 20), .ref (b 21), .ref (b 22), .ref (b 23), .long 0, .long 0, .long 0, .ref (b 27), .ref (b 28), .ref (b 29), .long 0, .int 0, .int (-1), .int 0, .int 0, .int 0, .ref (b 36), .int 0, .int 0, .ref (b 39), .ref (b 40), .int 0, .ref (b 42), .ref (b 43), .int 0, .int 0, .int 0, .ref (b 47), .ref (b 48), .ref (b 49), .ref (b 50)])), ((b 1), .inl (J.2.1, 22, .inl (upd (fun _ => 0) (20 : Int32).toNatClampNeg 1))), ((b 2), .inl (J.2.1, 40, .inl (upd (fun _ => 0) (0 : Int32).toNatClampNeg 20))), ((b 3), .inl (J.2.1, 40, .inl (upd (fun _ => 0) (0 : Int32).toNatClampNeg 1))), ((b 4), .inl (J.2.1, 40, .inl (upd (fun _ => 0) (0 : Int32).toNatClampNeg v)))] := hD
    refine lv_aload_n hx hb dX12_becomes_145 rfl (lv_at hl 1 rfl) ?_
    refine va_get (D := J.1) (ci := 12) (v := .ref (b 1)) (C := RX12) (T := TX12) (N := 50) hx hb hts inX12 hown hK.1 hP 0 rfl rfl 0 (by decide) (hts _ q_1266) (fun _ h9 => h9) rfl dX12_becomes_146 ?_
    refine lv_iload_n hx hb dX12_becomes_149 rfl (lv_at hl 2 rfl) ?_
    refine lv_iload_n hx hb dX12_becomes_150 rfl (lv_at hl 3 rfl) ?_
    have h7 : vp_in 20 22 := (i_in (a := 20) (by decide) (by omega) (by omega))
    refine va_iast hx hb hK.1 hP hD hS 1 0 rfl rfl h7 dX12_becomes_151 (fun H locs hP hD hS => ?_)
    have hP : va_P J.1 cls [((b 0), .inr (12, [.ref (b 1), .ref (b 2), .ref (b 3), .ref (b 4), .int 1, .int 1, .int 0, .int 0, .ref (b 9), .ref (b 10), .int 0, .ref (b 12), .int (-1), .int 0, .int 0, .int 0, .int 0, .int 0, .ref (b 19), .ref (b 20), .ref (b 21), .ref (b 22), .ref (b 23), .long 0, .long 0, .long 0, .ref (b 27), .ref (b 28), .ref (b 29), .long 0, .int 0, .int (-1), .int 0, .int 0, .int 0, .ref (b 36), .int 0, .int 0, .ref (b 39), .ref (b 40), .int 0, .ref (b 42), .ref (b 43), .int 0, .int 0, .int 0, .ref (b 47), .ref (b 48), .ref (b 49), .ref (b 50)])), ((b 1), .inl (J.2.1, 22, .inl (upd (upd (fun _ => 0) (20 : Int32).toNatClampNeg 1) (20 : Int32).toNatClampNeg v))), ((b 2), .inl (J.2.1, 40, .inl (upd (fun _ => 0) (0 : Int32).toNatClampNeg 20))), ((b 3), .inl (J.2.1, 40, .inl (upd (fun _ => 0) (0 : Int32).toNatClampNeg 1))), ((b 4), .inl (J.2.1, 40, .inl (upd (fun _ => 0) (0 : Int32).toNatClampNeg v)))] H := hP
    have hD : va_D A [((b 0), .inr (12, [.ref (b 1), .ref (b 2), .ref (b 3), .ref (b 4), .int 1, .int 1, .int 0, .int 0, .ref (b 9), .ref (b 10), .int 0, .ref (b 12), .int (-1), .int 0, .int 0, .int 0, .int 0, .int 0, .ref (b 19), .ref (b 20), .ref (b 21), .ref (b 22), .ref (b 23), .long 0, .long 0, .long 0, .ref (b 27), .ref (b 28), .ref (b 29), .long 0, .int 0, .int (-1), .int 0, .int 0, .int 0, .ref (b 36), .int 0, .int 0, .ref (b 39), .ref (b 40), .int 0, .ref (b 42), .ref (b 43), .int 0, .int 0, .int 0, .ref (b 47), .ref (b 48), .ref (b 49), .ref (b 50)])), ((b 1), .inl (J.2.1, 22, .inl (upd (upd (fun _ => 0) (20 : Int32).toNatClampNeg 1) (20 : Int32).toNatClampNeg v))), ((b 2), .inl (J.2.1, 40, .inl (upd (fun _ => 0) (0 : Int32).toNatClampNeg 20))), ((b 3), .inl (J.2.1, 40, .inl (upd (fun _ => 0) (0 : Int32).toNatClampNeg 1))), ((b 4), .inl (J.2.1, 40, .inl (upd (fun _ => 0) (0 : Int32).toNatClampNeg v)))] := hD
    refine lv_iload_n hx hb dX12_becomes_152 rfl (lv_at hl 0 rfl) ?_
    exact wz_i () hx hb hr hlk (by decide) (hP.sub (ws' := []) [] rfl) (hD.sub (ws' := []) [] (by decide) rfl) hS dX12_becomes_153
  · have j8 : 1 = v.toInt := (i_eq (by decide) rfl).mp c2
    refine lv_iload_n hx hb dX12_becomes_12 rfl (lv_at hl 0 rfl) ?_
    exact wz_i () hx hb hr hlk (by decide) (hP.sub (ws' := []) [] rfl) (hD.sub (ws' := []) [] (by decide) rfl) hS dX12_becomes_13
set_option maxHeartbeats 4000000 in
set_option maxRecDepth 100000 in
theorem m_becomes3 (l : Launch) (J : va_J9) (sz : Nat) (b : Nat → Nat) (v : Int32) : WC l J yX12_becomes cX12_becomes 5 (some .int) ({ frames := 0, cells := 0, slots := 0, locals := 0 }) [.ref (b 0), .int 21, .int v] [((b 0), .inr (12, [.ref (b 1), .ref (b 2), .ref (b 3), .ref (b 4), .int 0, .int 0, .int 0, .int 0, .ref (b 9), .ref (b 10), .int 0, .ref (b 12), .int (-1), .int 0, .int 0, .int 0, .int 0, .int 0, .ref (b 19), .ref (b 20), .ref (b 21), .ref (b 22), .ref (b 23), .long 0, .long 0, .long 0, .ref (b 27), .ref (b 28), .ref (b 29), .long 0, .int 0, .int (-1), .int 0, .int 0, .int 0, .ref (b 36), .int 0, .int 0, .ref (b 39), .ref (b 40), .int 0, .ref (b 42), .ref (b 43), .int 0, .int 0, .int 0, .ref (b 47), .ref (b 48), .ref (b 49), .ref (b 50)])), ((b 1), .inl (J.2.1, 22, .inl (upd (fun _ => 0) (20 : Int32).toNatClampNeg 1))), ((b 2), .inl (J.2.1, 40, .inl (fun _ => 0))), ((b 3), .inl (J.2.1, 40, .inl (fun _ => 0))), ((b 4), .inl (J.2.1, 40, .inl (fun _ => 0)))] sz (Qi J (fun (r : Int32) (_ : Unit) => r = 0) (fun (_ : Unit) => [])) 0 0 := by
  refine wc_of (by decide) (Nat.le_of_ble_eq_true rfl) ?_
  intro p e s m below meth c ls A hE hl hP hK hD hS hA
  obtain ⟨hx, hb, hr, hml, hown, hts, hlk, hin⟩ := hE
  have hown : s.vm.findClass RX12 = some m.cls := hown
  have hl : lv_has ls 5 [(0, .ref (b 0)), (1, .int 21), (2, .int v)] := hl
  have rg_v := i_rng v
  refine lv_aload_n hx hb dX12_becomes_0 rfl (lv_at hl 0 rfl) ?_
  refine va_get (D := J.1) (ci := 12) (v := .ref (b 1)) (C := RX12) (T := TX12) (N := 50) hx hb hts inX12 hown hK.1 hP 0 rfl rfl 0 (by decide) (hts _ q_1266) (fun _ h9 => h9) rfl dX12_becomes_1 ?_
  refine lv_iload_n hx hb dX12_becomes_4 rfl (lv_at hl 1 rfl) ?_
  have h1 : vp_in 21 22 := (i_in (a := 21) (by decide) (by omega) (by omega))
  refine va_iald hx hb hK.1 hP 1 0 rfl rfl h1 dX12_becomes_5 ?_
  refine top_i (y := 0) rfl ?_
  refine lv_istore_n (lv' := [(3, .int 0), (0, .ref (b 0)), (1, .int 21), (2, .int v)]) hx hb dX12_becomes_6 rfl hl (by decide) rfl (fun ls hl => ?_)
  refine lv_iload_n hx hb dX12_becomes_7 rfl (lv_at hl 0 rfl) ?_
  refine lv_iload_n hx hb dX12_becomes_8 rfl (lv_at hl 3 rfl) ?_
  refine lv_icmp_ne (tgt := 14) hx hb dX12_becomes_9 (by decide) (fun c2 => ?_) (fun c2 => ?_)
  · have j3 : ¬ (0 = v.toInt) := fun h => c2 ((i_eq (by decide) rfl).mpr h)
    refine lv_aload_n hx hb dX12_becomes_14 rfl (lv_at hl 1 rfl) ?_
    refine va_get (D := J.1) (ci := 12) (v := .int 0) (C := RX12) (T := TX12) (N := 50) hx hb hts inX12 hown hK.1 hP 0 rfl rfl 5 (by decide) (hts _ q_1271) (fun _ h9 => h9) rfl dX12_becomes_15 ?_
    refine lv_bipush (v := 40) hx hb dX12_becomes_18 (by decide) ?_
    refine lv_icmp_ne (tgt := 97) hx hb dX12_becomes_20 (by decide) (fun _ => ?_) (fun c => absurd c (by decide))
    refine lv_aload_n hx hb dX12_becomes_97 rfl (lv_at hl 1 rfl) ?_
    refine va_get (D := J.1) (ci := 12) (v := .ref (b 2)) (C := RX12) (T := TX12) (N := 50) hx hb hts inX12 hown hK.1 hP 0 rfl rfl 1 (by decide) (hts _ q_1267) (fun _ h9 => h9) rfl dX12_becomes_98 ?_
    refine lv_aload_n hx hb dX12_becomes_101 rfl (lv_at hl 1 rfl) ?_
    refine va_get (D := J.1) (ci := 12) (v := .int 0) (C := RX12) (T := TX12) (N := 50) hx hb hts inX12 hown hK.1 hP 0 rfl rfl 5 (by decide) (hts _ q_1271) (fun _ h9 => h9) rfl dX12_becomes_102 ?_
    refine lv_iload_n hx hb dX12_becomes_105 rfl (lv_at hl 2 rfl) ?_
    have h4 : vp_in 0 40 := (i_in (a := 0) (by decide) (by omega) (by omega))
    refine va_iast hx hb hK.1 hP hD hS 2 0 rfl rfl h4 dX12_becomes_106 (fun H locs hP hD hS => ?_)
    have hP : va_P J.1 cls [((b 0), .inr (12, [.ref (b 1), .ref (b 2), .ref (b 3), .ref (b 4), .int 0, .int 0, .int 0, .int 0, .ref (b 9), .ref (b 10), .int 0, .ref (b 12), .int (-1), .int 0, .int 0, .int 0, .int 0, .int 0, .ref (b 19), .ref (b 20), .ref (b 21), .ref (b 22), .ref (b 23), .long 0, .long 0, .long 0, .ref (b 27), .ref (b 28), .ref (b 29), .long 0, .int 0, .int (-1), .int 0, .int 0, .int 0, .ref (b 36), .int 0, .int 0, .ref (b 39), .ref (b 40), .int 0, .ref (b 42), .ref (b 43), .int 0, .int 0, .int 0, .ref (b 47), .ref (b 48), .ref (b 49), .ref (b 50)])), ((b 1), .inl (J.2.1, 22, .inl (upd (fun _ => 0) (20 : Int32).toNatClampNeg 1))), ((b 2), .inl (J.2.1, 40, .inl (upd (fun _ => 0) (0 : Int32).toNatClampNeg 21))), ((b 3), .inl (J.2.1, 40, .inl (fun _ => 0))), ((b 4), .inl (J.2.1, 40, .inl (fun _ => 0)))] H := hP
    have hD : va_D A [((b 0), .inr (12, [.ref (b 1), .ref (b 2), .ref (b 3), .ref (b 4), .int 0, .int 0, .int 0, .int 0, .ref (b 9), .ref (b 10), .int 0, .ref (b 12), .int (-1), .int 0, .int 0, .int 0, .int 0, .int 0, .ref (b 19), .ref (b 20), .ref (b 21), .ref (b 22), .ref (b 23), .long 0, .long 0, .long 0, .ref (b 27), .ref (b 28), .ref (b 29), .long 0, .int 0, .int (-1), .int 0, .int 0, .int 0, .ref (b 36), .int 0, .int 0, .ref (b 39), .ref (b 40), .int 0, .ref (b 42), .ref (b 43), .int 0, .int 0, .int 0, .ref (b 47), .ref (b 48), .ref (b 49), .ref (b 50)])), ((b 1), .inl (J.2.1, 22, .inl (upd (fun _ => 0) (20 : Int32).toNatClampNeg 1))), ((b 2), .inl (J.2.1, 40, .inl (upd (fun _ => 0) (0 : Int32).toNatClampNeg 21))), ((b 3), .inl (J.2.1, 40, .inl (fun _ => 0))), ((b 4), .inl (J.2.1, 40, .inl (fun _ => 0)))] := hD
    refine lv_aload_n hx hb dX12_becomes_107 rfl (lv_at hl 1 rfl) ?_
    refine va_get (D := J.1) (ci := 12) (v := .ref (b 3)) (C := RX12) (T := TX12) (N := 50) hx hb hts inX12 hown hK.1 hP 0 rfl rfl 2 (by decide) (hts _ q_1268) (fun _ h9 => h9) rfl dX12_becomes_108 ?_
    refine lv_aload_n hx hb dX12_becomes_111 rfl (lv_at hl 1 rfl) ?_
    refine va_get (D := J.1) (ci := 12) (v := .int 0) (C := RX12) (T := TX12) (N := 50) hx hb hts inX12 hown hK.1 hP 0 rfl rfl 5 (by decide) (hts _ q_1271) (fun _ h9 => h9) rfl dX12_becomes_112 ?_
    refine lv_iload_n hx hb dX12_becomes_115 rfl (lv_at hl 0 rfl) ?_
    have h5 : vp_in 0 40 := (i_in (a := 0) (by decide) (by omega) (by omega))
    refine va_iast hx hb hK.1 hP hD hS 3 0 rfl rfl h5 dX12_becomes_116 (fun H locs hP hD hS => ?_)
    have hP : va_P J.1 cls [((b 0), .inr (12, [.ref (b 1), .ref (b 2), .ref (b 3), .ref (b 4), .int 0, .int 0, .int 0, .int 0, .ref (b 9), .ref (b 10), .int 0, .ref (b 12), .int (-1), .int 0, .int 0, .int 0, .int 0, .int 0, .ref (b 19), .ref (b 20), .ref (b 21), .ref (b 22), .ref (b 23), .long 0, .long 0, .long 0, .ref (b 27), .ref (b 28), .ref (b 29), .long 0, .int 0, .int (-1), .int 0, .int 0, .int 0, .ref (b 36), .int 0, .int 0, .ref (b 39), .ref (b 40), .int 0, .ref (b 42), .ref (b 43), .int 0, .int 0, .int 0, .ref (b 47), .ref (b 48), .ref (b 49), .ref (b 50)])), ((b 1), .inl (J.2.1, 22, .inl (upd (fun _ => 0) (20 : Int32).toNatClampNeg 1))), ((b 2), .inl (J.2.1, 40, .inl (upd (fun _ => 0) (0 : Int32).toNatClampNeg 21))), ((b 3), .inl (J.2.1, 40, .inl (upd (fun _ => 0) (0 : Int32).toNatClampNeg 0))), ((b 4), .inl (J.2.1, 40, .inl (fun _ => 0)))] H := hP
    have hD : va_D A [((b 0), .inr (12, [.ref (b 1), .ref (b 2), .ref (b 3), .ref (b 4), .int 0, .int 0, .int 0, .int 0, .ref (b 9), .ref (b 10), .int 0, .ref (b 12), .int (-1), .int 0, .int 0, .int 0, .int 0, .int 0, .ref (b 19), .ref (b 20), .ref (b 21), .ref (b 22), .ref (b 23), .long 0, .long 0, .long 0, .ref (b 27), .ref (b 28), .ref (b 29), .long 0, .int 0, .int (-1), .int 0, .int 0, .int 0, .ref (b 36), .int 0, .int 0, .ref (b 39), .ref (b 40), .int 0, .ref (b 42), .ref (b 43), .int 0, .int 0, .int 0, .ref (b 47), .ref (b 48), .ref (b 49), .ref (b 50)])), ((b 1), .inl (J.2.1, 22, .inl (upd (fun _ => 0) (20 : Int32).toNatClampNeg 1))), ((b 2), .inl (J.2.1, 40, .inl (upd (fun _ => 0) (0 : Int32).toNatClampNeg 21))), ((b 3), .inl (J.2.1, 40, .inl (upd (fun _ => 0) (0 : Int32).toNatClampNeg 0))), ((b 4), .inl (J.2.1, 40, .inl (fun _ => 0)))] := hD
    refine lv_aload_n hx hb dX12_becomes_117 rfl (lv_at hl 1 rfl) ?_
    refine va_get (D := J.1) (ci := 12) (v := .ref (b 4)) (C := RX12) (T := TX12) (N := 50) hx hb hts inX12 hown hK.1 hP 0 rfl rfl 3 (by decide) (hts _ q_1269) (fun _ h9 => h9) rfl dX12_becomes_118 ?_
    refine lv_aload_n hx hb dX12_becomes_121 rfl (lv_at hl 1 rfl) ?_
    refine va_get (D := J.1) (ci := 12) (v := .int 0) (C := RX12) (T := TX12) (N := 50) hx hb hts inX12 hown hK.1 hP 0 rfl rfl 5 (by decide) (hts _ q_1271) (fun _ h9 => h9) rfl dX12_becomes_122 ?_
    refine lv_iload_n hx hb dX12_becomes_125 rfl (lv_at hl 3 rfl) ?_
    have h6 : vp_in 0 40 := (i_in (a := 0) (by decide) (by omega) (by omega))
    refine va_iast hx hb hK.1 hP hD hS 4 0 rfl rfl h6 dX12_becomes_126 (fun H locs hP hD hS => ?_)
    have hP : va_P J.1 cls [((b 0), .inr (12, [.ref (b 1), .ref (b 2), .ref (b 3), .ref (b 4), .int 0, .int 0, .int 0, .int 0, .ref (b 9), .ref (b 10), .int 0, .ref (b 12), .int (-1), .int 0, .int 0, .int 0, .int 0, .int 0, .ref (b 19), .ref (b 20), .ref (b 21), .ref (b 22), .ref (b 23), .long 0, .long 0, .long 0, .ref (b 27), .ref (b 28), .ref (b 29), .long 0, .int 0, .int (-1), .int 0, .int 0, .int 0, .ref (b 36), .int 0, .int 0, .ref (b 39), .ref (b 40), .int 0, .ref (b 42), .ref (b 43), .int 0, .int 0, .int 0, .ref (b 47), .ref (b 48), .ref (b 49), .ref (b 50)])), ((b 1), .inl (J.2.1, 22, .inl (upd (fun _ => 0) (20 : Int32).toNatClampNeg 1))), ((b 2), .inl (J.2.1, 40, .inl (upd (fun _ => 0) (0 : Int32).toNatClampNeg 21))), ((b 3), .inl (J.2.1, 40, .inl (upd (fun _ => 0) (0 : Int32).toNatClampNeg 0))), ((b 4), .inl (J.2.1, 40, .inl (upd (fun _ => 0) (0 : Int32).toNatClampNeg v)))] H := hP
    have hD : va_D A [((b 0), .inr (12, [.ref (b 1), .ref (b 2), .ref (b 3), .ref (b 4), .int 0, .int 0, .int 0, .int 0, .ref (b 9), .ref (b 10), .int 0, .ref (b 12), .int (-1), .int 0, .int 0, .int 0, .int 0, .int 0, .ref (b 19), .ref (b 20), .ref (b 21), .ref (b 22), .ref (b 23), .long 0, .long 0, .long 0, .ref (b 27), .ref (b 28), .ref (b 29), .long 0, .int 0, .int (-1), .int 0, .int 0, .int 0, .ref (b 36), .int 0, .int 0, .ref (b 39), .ref (b 40), .int 0, .ref (b 42), .ref (b 43), .int 0, .int 0, .int 0, .ref (b 47), .ref (b 48), .ref (b 49), .ref (b 50)])), ((b 1), .inl (J.2.1, 22, .inl (upd (fun _ => 0) (20 : Int32).toNatClampNeg 1))), ((b 2), .inl (J.2.1, 40, .inl (upd (fun _ => 0) (0 : Int32).toNatClampNeg 21))), ((b 3), .inl (J.2.1, 40, .inl (upd (fun _ => 0) (0 : Int32).toNatClampNeg 0))), ((b 4), .inl (J.2.1, 40, .inl (upd (fun _ => 0) (0 : Int32).toNatClampNeg v)))] := hD
    refine lv_aload_n hx hb dX12_becomes_127 rfl (lv_at hl 1 rfl) ?_
    refine lv_dup hx hb dX12_becomes_128 rfl ?_
    refine va_get (D := J.1) (ci := 12) (v := .int 0) (C := RX12) (T := TX12) (N := 50) hx hb hts inX12 hown hK.1 hP 0 rfl rfl 5 (by decide) (hts _ q_1271) (fun _ h9 => h9) rfl dX12_becomes_129 ?_
    refine lv_iconst (v := 1) hx hb dX12_becomes_132 (by decide) ?_
    refine lv_iadd hx hb dX12_becomes_133 ?_
    refine top_i (y := 1) (by decide) ?_
    refine va_put (D := J.1) (ci := 12) (v := .int 1) (ty := (.int)) (C := RX12) (T := TX12) (N := 50) hx hb hts inX12 tyX12 tyX12_ok nmX12 hown hK.1 hP hD hS 0 rfl rfl 5 (by decide) (hts _ q_1271) (fun _ h9 => h9) rfl (by decide +kernel) rfl rfl (Nat.le_of_ble_eq_true rfl) dX12_becomes_134 (fun H locs hP hD hS => ?_)
    have hP : va_P J.1 cls [((b 0), .inr (12, [.ref (b 1), .ref (b 2), .ref (b 3), .ref (b 4), .int 0, .int 1, .int 0, .int 0, .ref (b 9), .ref (b 10), .int 0, .ref (b 12), .int (-1), .int 0, .int 0, .int 0, .int 0, .int 0, .ref (b 19), .ref (b 20), .ref (b 21), .ref (b 22), .ref (b 23), .long 0, .long 0, .long 0, .ref (b 27), .ref (b 28), .ref (b 29), .long 0, .int 0, .int (-1), .int 0, .int 0, .int 0, .ref (b 36), .int 0, .int 0, .ref (b 39), .ref (b 40), .int 0, .ref (b 42), .ref (b 43), .int 0, .int 0, .int 0, .ref (b 47), .ref (b 48), .ref (b 49), .ref (b 50)])), ((b 1), .inl (J.2.1, 22, .inl (upd (fun _ => 0) (20 : Int32).toNatClampNeg 1))), ((b 2), .inl (J.2.1, 40, .inl (upd (fun _ => 0) (0 : Int32).toNatClampNeg 21))), ((b 3), .inl (J.2.1, 40, .inl (upd (fun _ => 0) (0 : Int32).toNatClampNeg 0))), ((b 4), .inl (J.2.1, 40, .inl (upd (fun _ => 0) (0 : Int32).toNatClampNeg v)))] H := hP
    have hD : va_D A [((b 0), .inr (12, [.ref (b 1), .ref (b 2), .ref (b 3), .ref (b 4), .int 0, .int 1, .int 0, .int 0, .ref (b 9), .ref (b 10), .int 0, .ref (b 12), .int (-1), .int 0, .int 0, .int 0, .int 0, .int 0, .ref (b 19), .ref (b 20), .ref (b 21), .ref (b 22), .ref (b 23), .long 0, .long 0, .long 0, .ref (b 27), .ref (b 28), .ref (b 29), .long 0, .int 0, .int (-1), .int 0, .int 0, .int 0, .ref (b 36), .int 0, .int 0, .ref (b 39), .ref (b 40), .int 0, .ref (b 42), .ref (b 43), .int 0, .int 0, .int 0, .ref (b 47), .ref (b 48), .ref (b 49), .ref (b 50)])), ((b 1), .inl (J.2.1, 22, .inl (upd (fun _ => 0) (20 : Int32).toNatClampNeg 1))), ((b 2), .inl (J.2.1, 40, .inl (upd (fun _ => 0) (0 : Int32).toNatClampNeg 21))), ((b 3), .inl (J.2.1, 40, .inl (upd (fun _ => 0) (0 : Int32).toNatClampNeg 0))), ((b 4), .inl (J.2.1, 40, .inl (upd (fun _ => 0) (0 : Int32).toNatClampNeg v)))] := hD
    refine lv_aload_n hx hb dX12_becomes_137 rfl (lv_at hl 1 rfl) ?_
    refine lv_aload_n hx hb dX12_becomes_138 rfl (lv_at hl 1 rfl) ?_
    refine va_get (D := J.1) (ci := 12) (v := .int 1) (C := RX12) (T := TX12) (N := 50) hx hb hts inX12 hown hK.1 hP 0 rfl rfl 5 (by decide) (hts _ q_1271) (fun _ h9 => h9) rfl dX12_becomes_139 ?_
    refine va_put (D := J.1) (ci := 12) (v := .int 1) (ty := (.int)) (C := RX12) (T := TX12) (N := 50) hx hb hts inX12 tyX12 tyX12_ok nmX12 hown hK.1 hP hD hS 0 rfl rfl 4 (by decide) (hts _ q_1270) (fun _ h9 => h9) rfl (by decide +kernel) rfl rfl (Nat.le_of_ble_eq_true rfl) dX12_becomes_142 (fun H locs hP hD hS => ?_)
    have hP : va_P J.1 cls [((b 0), .inr (12, [.ref (b 1), .ref (b 2), .ref (b 3), .ref (b 4), .int 1, .int 1, .int 0, .int 0, .ref (b 9), .ref (b 10), .int 0, .ref (b 12), .int (-1), .int 0, .int 0, .int 0, .int 0, .int 0, .ref (b 19), .ref (b 20), .ref (b 21), .ref (b 22), .ref (b 23), .long 0, .long 0, .long 0, .ref (b 27), .ref (b 28), .ref (b 29), .long 0, .int 0, .int (-1), .int 0, .int 0, .int 0, .ref (b 36), .int 0, .int 0, .ref (b 39), .ref (b 40), .int 0, .ref (b 42), .ref (b 43), .int 0, .int 0, .int 0, .ref (b 47), .ref (b 48), .ref (b 49), .ref (b 50)])), ((b 1), .inl (J.2.1, 22, .inl (upd (fun _ => 0) (20 : Int32).toNatClampNeg 1))), ((b 2), .inl (J.2.1, 40, .inl (upd (fun _ => 0) (0 : Int32).toNatClampNeg 21))), ((b 3), .inl (J.2.1, 40, .inl (upd (fun _ => 0) (0 : Int32).toNatClampNeg 0))), ((b 4), .inl (J.2.1, 40, .inl (upd (fun _ => 0) (0 : Int32).toNatClampNeg v)))] H := hP
    have hD : va_D A [((b 0), .inr (12, [.ref (b 1), .ref (b 2), .ref (b 3), .ref (b 4), .int 1, .int 1, .int 0, .int 0, .ref (b 9), .ref (b 10), .int 0, .ref (b 12), .int (-1), .int 0, .int 0, .int 0, .int 0, .int 0, .ref (b 19), .ref (b 20), .ref (b 21), .ref (b 22), .ref (b 23), .long 0, .long 0, .long 0, .ref (b 27), .ref (b 28), .ref (b 29), .long 0, .int 0, .int (-1), .int 0, .int 0, .int 0, .ref (b 36), .int 0, .int 0, .ref (b 39), .ref (b 40), .int 0, .ref (b 42), .ref (b 43), .int 0, .int 0, .int 0, .ref (b 47), .ref (b 48), .ref (b 49), .ref (b 50)])), ((b 1), .inl (J.2.1, 22, .inl (upd (fun _ => 0) (20 : Int32).toNatClampNeg 1))), ((b 2), .inl (J.2.1, 40, .inl (upd (fun _ => 0) (0 : Int32).toNatClampNeg 21))), ((b 3), .inl (J.2.1, 40, .inl (upd (fun _ => 0) (0 : Int32).toNatClampNeg 0))), ((b 4), .inl (J.2.1, 40, .inl (upd (fun _ => 0) (0 : Int32).toNatClampNeg v)))] := hD
    refine lv_aload_n hx hb dX12_becomes_145 rfl (lv_at hl 1 rfl) ?_
    refine va_get (D := J.1) (ci := 12) (v := .ref (b 1)) (C := RX12) (T := TX12) (N := 50) hx hb hts inX12 hown hK.1 hP 0 rfl rfl 0 (by decide) (hts _ q_1266) (fun _ h9 => h9) rfl dX12_becomes_146 ?_
    refine lv_iload_n hx hb dX12_becomes_149 rfl (lv_at hl 2 rfl) ?_
    refine lv_iload_n hx hb dX12_becomes_150 rfl (lv_at hl 3 rfl) ?_
    have h7 : vp_in 21 22 := (i_in (a := 21) (by decide) (by omega) (by omega))
    refine va_iast hx hb hK.1 hP hD hS 1 0 rfl rfl h7 dX12_becomes_151 (fun H locs hP hD hS => ?_)
    have hP : va_P J.1 cls [((b 0), .inr (12, [.ref (b 1), .ref (b 2), .ref (b 3), .ref (b 4), .int 1, .int 1, .int 0, .int 0, .ref (b 9), .ref (b 10), .int 0, .ref (b 12), .int (-1), .int 0, .int 0, .int 0, .int 0, .int 0, .ref (b 19), .ref (b 20), .ref (b 21), .ref (b 22), .ref (b 23), .long 0, .long 0, .long 0, .ref (b 27), .ref (b 28), .ref (b 29), .long 0, .int 0, .int (-1), .int 0, .int 0, .int 0, .ref (b 36), .int 0, .int 0, .ref (b 39), .ref (b 40), .int 0, .ref (b 42), .ref (b 43), .int 0, .int 0, .int 0, .ref (b 47), .ref (b 48), .ref (b 49), .ref (b 50)])), ((b 1), .inl (J.2.1, 22, .inl (upd (upd (fun _ => 0) (20 : Int32).toNatClampNeg 1) (21 : Int32).toNatClampNeg v))), ((b 2), .inl (J.2.1, 40, .inl (upd (fun _ => 0) (0 : Int32).toNatClampNeg 21))), ((b 3), .inl (J.2.1, 40, .inl (upd (fun _ => 0) (0 : Int32).toNatClampNeg 0))), ((b 4), .inl (J.2.1, 40, .inl (upd (fun _ => 0) (0 : Int32).toNatClampNeg v)))] H := hP
    have hD : va_D A [((b 0), .inr (12, [.ref (b 1), .ref (b 2), .ref (b 3), .ref (b 4), .int 1, .int 1, .int 0, .int 0, .ref (b 9), .ref (b 10), .int 0, .ref (b 12), .int (-1), .int 0, .int 0, .int 0, .int 0, .int 0, .ref (b 19), .ref (b 20), .ref (b 21), .ref (b 22), .ref (b 23), .long 0, .long 0, .long 0, .ref (b 27), .ref (b 28), .ref (b 29), .long 0, .int 0, .int (-1), .int 0, .int 0, .int 0, .ref (b 36), .int 0, .int 0, .ref (b 39), .ref (b 40), .int 0, .ref (b 42), .ref (b 43), .int 0, .int 0, .int 0, .ref (b 47), .ref (b 48), .ref (b 49), .ref (b 50)])), ((b 1), .inl (J.2.1, 22, .inl (upd (upd (fun _ => 0) (20 : Int32).toNatClampNeg 1) (21 : Int32).toNatClampNeg v))), ((b 2), .inl (J.2.1, 40, .inl (upd (fun _ => 0) (0 : Int32).toNatClampNeg 21))), ((b 3), .inl (J.2.1, 40, .inl (upd (fun _ => 0) (0 : Int32).toNatClampNeg 0))), ((b 4), .inl (J.2.1, 40, .inl (upd (fun _ => 0) (0 : Int32).toNatClampNeg v)))] := hD
    refine lv_iload_n hx hb dX12_becomes_152 rfl (lv_at hl 0 rfl) ?_
    exact wz_i () hx hb hr hlk (by decide) (hP.sub (ws' := []) [] rfl) (hD.sub (ws' := []) [] (by decide) rfl) hS dX12_becomes_153
  · have j8 : 0 = v.toInt := (i_eq (by decide) rfl).mp c2
    refine lv_iload_n hx hb dX12_becomes_12 rfl (lv_at hl 0 rfl) ?_
    exact wz_i () hx hb hr hlk (by decide) (hP.sub (ws' := []) [] rfl) (hD.sub (ws' := []) [] (by decide) rfl) hS dX12_becomes_13
theorem dX12_mend_0 : decode cX12_mend 0 = .ok (.iload_n 2, 1) := by decide +kernel
theorem dX12_mend_1 : decode cX12_mend 1 = .ok (.tableswitch 152 0 3 #[31, 63, 96, 124], 31) := by decide +kernel
theorem dX12_mend_32 : decode cX12_mend 32 = .ok (.aload_n 0, 1) := by decide +kernel
theorem dX12_mend_33 : decode cX12_mend 33 = .ok (.iload_n 1, 1) := by decide +kernel
theorem dX12_mend_34 : decode cX12_mend 34 = .ok (.i2l, 1) := by decide +kernel
theorem dX12_mend_35 : decode cX12_mend 35 = .ok (.invokevirtual 105, 3) := by decide +kernel
theorem dX12_mend_38 : decode cX12_mend 38 = .ok (.ifCond .eq 24, 3) := by decide +kernel
theorem dX12_mend_62 : decode cX12_mend 62 = .ok (.iconst (-1), 1) := by decide +kernel
theorem dX12_mend_63 : decode cX12_mend 63 = .ok (.ireturn, 1) := by decide +kernel
theorem dX12_mend_64 : decode cX12_mend 64 = .ok (.aload_n 0, 1) := by decide +kernel
theorem dX12_mend_65 : decode cX12_mend 65 = .ok (.iload_n 1, 1) := by decide +kernel
theorem dX12_mend_66 : decode cX12_mend 66 = .ok (.i2l, 1) := by decide +kernel
theorem dX12_mend_67 : decode cX12_mend 67 = .ok (.invokevirtual 105, 3) := by decide +kernel
theorem dX12_mend_70 : decode cX12_mend 70 = .ok (.ifCond .eq 25, 3) := by decide +kernel
theorem dX12_mend_95 : decode cX12_mend 95 = .ok (.iconst (-1), 1) := by decide +kernel
theorem dX12_mend_96 : decode cX12_mend 96 = .ok (.ireturn, 1) := by decide +kernel
theorem dX12_mend_97 : decode cX12_mend 97 = .ok (.iload_n 1, 1) := by decide +kernel
theorem dX12_mend_98 : decode cX12_mend 98 = .ok (.ifCond .ne 25, 3) := by decide +kernel
theorem dX12_mend_123 : decode cX12_mend 123 = .ok (.iconst (-1), 1) := by decide +kernel
theorem dX12_mend_124 : decode cX12_mend 124 = .ok (.ireturn, 1) := by decide +kernel
theorem dX12_mend_101 : decode cX12_mend 101 = .ok (.iload_n 3, 1) := by decide +kernel
theorem dX12_mend_102 : decode cX12_mend 102 = .ok (.i2l, 1) := by decide +kernel
theorem dX12_mend_103 : decode cX12_mend 103 = .ok (.lconst 1, 1) := by decide +kernel
theorem q_1468 : Cond.constantLong RX12 138 2 ∈ lw_g := mem_q 1468 (by decide +kernel) rfl
theorem dX12_mend_104 : decode cX12_mend 104 = .ok (.ldc2_w 138, 3) := by decide +kernel
theorem dX12_mend_107 : decode cX12_mend 107 = .ok (.invokestatic 101, 3) := by decide +kernel
theorem dX12_mend_110 : decode cX12_mend 110 = .ok (.ifCond .eq 13, 3) := by decide +kernel
theorem dX12_mend_113 : decode cX12_mend 113 = .ok (.aload_n 0, 1) := by decide +kernel
theorem dX12_mend_114 : decode cX12_mend 114 = .ok (.bipush 20, 2) := by decide +kernel
theorem dX12_mend_116 : decode cX12_mend 116 = .ok (.iload_n 3, 1) := by decide +kernel
theorem q_1464 : Cond.methodLink RX12 134 yX12_becomes ∈ lw_g := mem_q 1464 (by decide +kernel) rfl
theorem q_1466 : Cond.instanceMethod yX12_becomes ∈ lw_g := mem_q 1466 (by decide +kernel) rfl
theorem q_50 : Cond.selects RX12 yX12_becomes yX12_becomes ∈ lw_g := mem_q 50 (by decide +kernel) rfl
theorem q_1467 : Cond.code yX12_becomes cX12_becomes 5 (some .int) ∈ lw_g := mem_q 1467 (by decide +kernel) rfl
theorem kV_RX12_134 : CV RX12 134 RX12 yX12_becomes cX12_becomes 5 (some .int) 2 := cv_of q_1464 q_1466 q_50 q_115 q_1467 (by decide +kernel)
theorem dX12_mend_117 : decode cX12_mend 117 = .ok (.invokevirtual 134, 3) := by decide +kernel
theorem dX12_mend_120 : decode cX12_mend 120 = .ok (.goto 4, 3) := by decide +kernel
theorem dX12_mend_125 : decode cX12_mend 125 = .ok (.iload_n 1, 1) := by decide +kernel
theorem dX12_mend_126 : decode cX12_mend 126 = .ok (.ifCond .ne 25, 3) := by decide +kernel
theorem dX12_mend_151 : decode cX12_mend 151 = .ok (.iconst (-1), 1) := by decide +kernel
theorem dX12_mend_152 : decode cX12_mend 152 = .ok (.ireturn, 1) := by decide +kernel
theorem dX12_mend_129 : decode cX12_mend 129 = .ok (.iload_n 3, 1) := by decide +kernel
theorem dX12_mend_130 : decode cX12_mend 130 = .ok (.i2l, 1) := by decide +kernel
theorem dX12_mend_131 : decode cX12_mend 131 = .ok (.lconst 0, 1) := by decide +kernel
theorem q_1469 : Cond.constantLong RX12 140 127 ∈ lw_g := mem_q 1469 (by decide +kernel) rfl
theorem dX12_mend_132 : decode cX12_mend 132 = .ok (.ldc2_w 140, 3) := by decide +kernel
theorem dX12_mend_135 : decode cX12_mend 135 = .ok (.invokestatic 101, 3) := by decide +kernel
theorem dX12_mend_138 : decode cX12_mend 138 = .ok (.ifCond .eq 13, 3) := by decide +kernel
theorem dX12_mend_141 : decode cX12_mend 141 = .ok (.aload_n 0, 1) := by decide +kernel
theorem dX12_mend_142 : decode cX12_mend 142 = .ok (.bipush 21, 2) := by decide +kernel
theorem dX12_mend_144 : decode cX12_mend 144 = .ok (.iload_n 3, 1) := by decide +kernel
theorem dX12_mend_145 : decode cX12_mend 145 = .ok (.invokevirtual 134, 3) := by decide +kernel
theorem dX12_mend_148 : decode cX12_mend 148 = .ok (.goto 4, 3) := by decide +kernel
theorem dX12_mend_153 : decode cX12_mend 153 = .ok (.iconst (-1), 1) := by decide +kernel
theorem dX12_mend_154 : decode cX12_mend 154 = .ok (.ireturn, 1) := by decide +kernel
set_option maxHeartbeats 4000000 in
set_option maxRecDepth 100000 in
theorem m_mend (l : Launch) (J : va_J9) (sz : Nat) (b : Nat → Nat) (n : Int32) (k : Int32) (v : Int32) : WC l J yX12_mend cX12_mend 4 (some .int) ({ frames := 2, cells := 0, slots := 0, locals := 47 }) [.ref (b 0), .int n, .int k, .int v] [((b 0), .inr (12, [.ref (b 1), .ref (b 2), .ref (b 3), .ref (b 4), .int 0, .int 0, .int 0, .int 0, .ref (b 9), .ref (b 10), .int 0, .ref (b 12), .int (-1), .int 0, .int 0, .int 0, .int 0, .int 0, .ref (b 19), .ref (b 20), .ref (b 21), .ref (b 22), .ref (b 23), .long 0, .long 0, .long 0, .ref (b 27), .ref (b 28), .ref (b 29), .long 0, .int 0, .int (-1), .int 0, .int 0, .int 0, .ref (b 36), .int 0, .int 0, .ref (b 39), .ref (b 40), .int 0, .ref (b 42), .ref (b 43), .int 0, .int 0, .int 0, .ref (b 47), .ref (b 48), .ref (b 49), .ref (b 50)])), ((b 1), .inl (J.2.1, 22, .inl (upd (fun _ => 0) (20 : Int32).toNatClampNeg 1))), ((b 2), .inl (J.2.1, 40, .inl (fun _ => 0))), ((b 3), .inl (J.2.1, 40, .inl (fun _ => 0))), ((b 4), .inl (J.2.1, 40, .inl (fun _ => 0)))] sz (Qi J (fun (r : Int32) (_ : Unit) => r = sp_mend (n.toInt) (k.toInt) (v.toInt)) (fun (_ : Unit) => [])) 0 0 := by
  refine wc_of (by decide) (Nat.le_of_ble_eq_true rfl) ?_
  intro p e s m below meth c ls A hE hl hP hK hD hS hA
  obtain ⟨hx, hb, hr, hml, hown, hts, hlk, hin⟩ := hE
  have hown : s.vm.findClass RX12 = some m.cls := hown
  have hl : lv_has ls 4 [(0, .ref (b 0)), (1, .int n), (2, .int k), (3, .int v)] := hl
  have rg_n := i_rng n
  have rg_k := i_rng k
  have rg_v := i_rng v
  refine lv_iload_n hx hb dX12_mend_0 rfl (lv_at hl 2 rfl) ?_
  rcases Decidable.em (k = 0) with c1 | c1
  · have j2 : k.toInt = 0 := (i_eq rfl (by decide)).mp c1
    refine top_i (y := 0) c1 ?_
    refine lv_tableIn (tgt := 32) (off := 31) hx hb dX12_mend_1 (by decide) (by decide) (by decide) (by decide) ?_
    refine lv_aload_n hx hb dX12_mend_32 rfl (lv_at hl 0 rfl) ?_
    refine lv_iload_n hx hb dX12_mend_33 rfl (lv_at hl 1 rfl) ?_
    refine lv_i2l (v := n.toInt64) hx hb dX12_mend_34 rfl ?_
    refine go_i (rn_V (As := [.long n.toInt64]) (rest := []) hx hb hml hown hts hK (m_isHole l J b n.toInt64) kV_RX12_105 (hP.sub (ws' := [((b 0), .inr (12, [.ref (b 1), .ref (b 2), .ref (b 3), .ref (b 4), .int 0, .int 0, .int 0, .int 0, .ref (b 9), .ref (b 10), .int 0, .ref (b 12), .int (-1), .int 0, .int 0, .int 0, .int 0, .int 0, .ref (b 19), .ref (b 20), .ref (b 21), .ref (b 22), .ref (b 23), .long 0, .long 0, .long 0, .ref (b 27), .ref (b 28), .ref (b 29), .long 0, .int 0, .int (-1), .int 0, .int 0, .int 0, .ref (b 36), .int 0, .int 0, .ref (b 39), .ref (b 40), .int 0, .ref (b 42), .ref (b 43), .int 0, .int 0, .int 0, .ref (b 47), .ref (b 48), .ref (b 49), .ref (b 50)]))]) [0] rfl) rfl rfl rfl ⟨Nat.le_of_ble_eq_true rfl, Nat.le_of_ble_eq_true rfl⟩ rfl rfl rfl hl.1 rfl (Nat.le_of_ble_eq_true rfl) ⟨Nat.le_of_ble_eq_true rfl, Nat.le_of_ble_eq_true rfl⟩ dX12_mend_35) ?_
    refine lv_if_eq (tgt := 62) hx hb dX12_mend_38 (by decide) (fun _ => ?_) (fun c => absurd c (by decide))
    refine lv_iconst (v := (-1)) hx hb dX12_mend_62 (by decide) ?_
    exact wz_i () hx hb hr hlk (by unfold sp_mend; (repeat' split) <;> first | rfl | (exfalso; omega)) (hP.sub (ws' := []) [] rfl) (hD.sub (ws' := []) [] (by decide) rfl) hS dX12_mend_63
  have j3 : ¬ (k.toInt = 0) := fun h => c1 ((i_eq rfl (by decide)).mpr h)
  rcases Decidable.em (k = 1) with c4 | c4
  · have j5 : k.toInt = 1 := (i_eq rfl (by decide)).mp c4
    refine top_i (y := 1) c4 ?_
    refine lv_tableIn (tgt := 64) (off := 63) hx hb dX12_mend_1 (by decide) (by decide) (by decide) (by decide) ?_
    refine lv_aload_n hx hb dX12_mend_64 rfl (lv_at hl 0 rfl) ?_
    refine lv_iload_n hx hb dX12_mend_65 rfl (lv_at hl 1 rfl) ?_
    refine lv_i2l (v := n.toInt64) hx hb dX12_mend_66 rfl ?_
    refine go_i (rn_V (As := [.long n.toInt64]) (rest := []) hx hb hml hown hts hK (m_isHole l J b n.toInt64) kV_RX12_105 (hP.sub (ws' := [((b 0), .inr (12, [.ref (b 1), .ref (b 2), .ref (b 3), .ref (b 4), .int 0, .int 0, .int 0, .int 0, .ref (b 9), .ref (b 10), .int 0, .ref (b 12), .int (-1), .int 0, .int 0, .int 0, .int 0, .int 0, .ref (b 19), .ref (b 20), .ref (b 21), .ref (b 22), .ref (b 23), .long 0, .long 0, .long 0, .ref (b 27), .ref (b 28), .ref (b 29), .long 0, .int 0, .int (-1), .int 0, .int 0, .int 0, .ref (b 36), .int 0, .int 0, .ref (b 39), .ref (b 40), .int 0, .ref (b 42), .ref (b 43), .int 0, .int 0, .int 0, .ref (b 47), .ref (b 48), .ref (b 49), .ref (b 50)]))]) [0] rfl) rfl rfl rfl ⟨Nat.le_of_ble_eq_true rfl, Nat.le_of_ble_eq_true rfl⟩ rfl rfl rfl hl.1 rfl (Nat.le_of_ble_eq_true rfl) ⟨Nat.le_of_ble_eq_true rfl, Nat.le_of_ble_eq_true rfl⟩ dX12_mend_67) ?_
    refine lv_if_eq (tgt := 95) hx hb dX12_mend_70 (by decide) (fun _ => ?_) (fun c => absurd c (by decide))
    refine lv_iconst (v := (-1)) hx hb dX12_mend_95 (by decide) ?_
    exact wz_i () hx hb hr hlk (by unfold sp_mend; (repeat' split) <;> first | rfl | (exfalso; omega)) (hP.sub (ws' := []) [] rfl) (hD.sub (ws' := []) [] (by decide) rfl) hS dX12_mend_96
  have j6 : ¬ (k.toInt = 1) := fun h => c4 ((i_eq rfl (by decide)).mpr h)
  rcases Decidable.em (k = 2) with c7 | c7
  · have j8 : k.toInt = 2 := (i_eq rfl (by decide)).mp c7
    refine top_i (y := 2) c7 ?_
    refine lv_tableIn (tgt := 97) (off := 96) hx hb dX12_mend_1 (by decide) (by decide) (by decide) (by decide) ?_
    refine lv_iload_n hx hb dX12_mend_97 rfl (lv_at hl 1 rfl) ?_
    refine lv_if_ne (tgt := 123) hx hb dX12_mend_98 (by decide) (fun c9 => ?_) (fun c9 => ?_)
    · have j10 : ¬ (n.toInt = 0) := fun h => c9 ((i_eq rfl (by decide)).mpr h)
      refine lv_iconst (v := (-1)) hx hb dX12_mend_123 (by decide) ?_
      exact wz_i () hx hb hr hlk (by unfold sp_mend; (repeat' split) <;> first | rfl | (exfalso; omega)) (hP.sub (ws' := []) [] rfl) (hD.sub (ws' := []) [] (by decide) rfl) hS dX12_mend_124
    · have j11 : n.toInt = 0 := (i_eq rfl (by decide)).mp c9
      refine lv_iload_n hx hb dX12_mend_101 rfl (lv_at hl 3 rfl) ?_
      refine lv_i2l (v := v.toInt64) hx hb dX12_mend_102 rfl ?_
      refine lv_lconst (v := 1) hx hb dX12_mend_103 (by decide) ?_
      refine lv_ldc2 (v := 2) hx hb hown (hts _ q_1468) dX12_mend_104 ?_
      refine go_i (rn_S (As := [.long v.toInt64, .long 1, .long 2]) (rest := []) hx hb hml hown hts hK (m_within l J v.toInt64 1 2 v.toInt 1 2 (i_wide rfl) (by decide) (by decide)) kS_RX12_101 (hP.sub (ws' := []) [] rfl) ⟨Nat.le_of_ble_eq_true rfl, Nat.le_of_ble_eq_true rfl⟩ rfl rfl rfl hl.1 rfl (Nat.le_of_ble_eq_true rfl) ⟨Nat.le_of_ble_eq_true rfl, Nat.le_of_ble_eq_true rfl⟩ dX12_mend_107) ?_
      refine lv_if_eq (tgt := 123) hx hb dX12_mend_110 (by decide) (fun c12 => ?_) (fun c12 => ?_)
      · have j13 := b0 c12
        refine lv_iconst (v := (-1)) hx hb dX12_mend_123 (by decide) ?_
        exact wz_i () hx hb hr hlk (by unfold sp_mend; (repeat' split) <;> first | rfl | (exfalso; omega)) (hP.sub (ws' := []) [] rfl) (hD.sub (ws' := []) [] (by decide) rfl) hS dX12_mend_124
      · have j14 := b1 c12
        refine lv_aload_n hx hb dX12_mend_113 rfl (lv_at hl 0 rfl) ?_
        refine lv_bipush (v := 20) hx hb dX12_mend_114 (by decide) ?_
        refine lv_iload_n hx hb dX12_mend_116 rfl (lv_at hl 3 rfl) ?_
        refine gw_i (wc := [((b 0), .inr (12, [.ref (b 1), .ref (b 2), .ref (b 3), .ref (b 4), .int 0, .int 0, .int 0, .int 0, .ref (b 9), .ref (b 10), .int 0, .ref (b 12), .int (-1), .int 0, .int 0, .int 0, .int 0, .int 0, .ref (b 19), .ref (b 20), .ref (b 21), .ref (b 22), .ref (b 23), .long 0, .long 0, .long 0, .ref (b 27), .ref (b 28), .ref (b 29), .long 0, .int 0, .int (-1), .int 0, .int 0, .int 0, .ref (b 36), .int 0, .int 0, .ref (b 39), .ref (b 40), .int 0, .ref (b 42), .ref (b 43), .int 0, .int 0, .int 0, .ref (b 47), .ref (b 48), .ref (b 49), .ref (b 50)])), ((b 1), .inl (J.2.1, 22, .inl (upd (fun _ => 0) (20 : Int32).toNatClampNeg 1))), ((b 2), .inl (J.2.1, 40, .inl (fun _ => 0))), ((b 3), .inl (J.2.1, 40, .inl (fun _ => 0))), ((b 4), .inl (J.2.1, 40, .inl (fun _ => 0)))]) (wr := []) hP hD hS hA [0, 1, 2, 3, 4] [] rfl rfl (by decide) (by decide) (wn_V (As := [.int 20, .int v]) (rest := []) hx hb hml hown hts hK (m_becomes2 l J _ b v) kV_RX12_134 hP ((hD.sub (ws' := [((b 0), .inr (12, [.ref (b 1), .ref (b 2), .ref (b 3), .ref (b 4), .int 0, .int 0, .int 0, .int 0, .ref (b 9), .ref (b 10), .int 0, .ref (b 12), .int (-1), .int 0, .int 0, .int 0, .int 0, .int 0, .ref (b 19), .ref (b 20), .ref (b 21), .ref (b 22), .ref (b 23), .long 0, .long 0, .long 0, .ref (b 27), .ref (b 28), .ref (b 29), .long 0, .int 0, .int (-1), .int 0, .int 0, .int 0, .ref (b 36), .int 0, .int 0, .ref (b 39), .ref (b 40), .int 0, .ref (b 42), .ref (b 43), .int 0, .int 0, .int 0, .ref (b 47), .ref (b 48), .ref (b 49), .ref (b 50)])), ((b 1), .inl (J.2.1, 22, .inl (upd (fun _ => 0) (20 : Int32).toNatClampNeg 1))), ((b 2), .inl (J.2.1, 40, .inl (fun _ => 0))), ((b 3), .inl (J.2.1, 40, .inl (fun _ => 0))), ((b 4), .inl (J.2.1, 40, .inl (fun _ => 0)))]) [0, 1, 2, 3, 4] (by decide) rfl).weaken (fun _ _ _ _ => trivial)) rfl rfl rfl ⟨Nat.le_of_ble_eq_true rfl, Nat.le_of_ble_eq_true rfl⟩ rfl rfl rfl hl.1 rfl (Nat.le_of_ble_eq_true rfl) ⟨Nat.le_of_ble_eq_true rfl, Nat.le_of_ble_eq_true rfl⟩ dX12_mend_117) (fun r16 u15 H locs hw hP hD hS => ?_)
        subst hw
        have hP : va_P J.1 cls [] H := hP
        have hD : va_D A [] := hD
        refine W.widen (k := 0) (n := 0) (Nat.le_of_ble_eq_true rfl) (Nat.le_of_ble_eq_true rfl) ?_
        refine lv_goto (tgt := 124) hx hb dX12_mend_120 (by decide) ?_
        exact wz_i () hx hb hr hlk (by unfold sp_mend; (repeat' split) <;> first | rfl | (exfalso; omega)) hP hD hS dX12_mend_124
  have j17 : ¬ (k.toInt = 2) := fun h => c7 ((i_eq rfl (by decide)).mpr h)
  rcases Decidable.em (k = 3) with c18 | c18
  · have j19 : k.toInt = 3 := (i_eq rfl (by decide)).mp c18
    refine top_i (y := 3) c18 ?_
    refine lv_tableIn (tgt := 125) (off := 124) hx hb dX12_mend_1 (by decide) (by decide) (by decide) (by decide) ?_
    refine lv_iload_n hx hb dX12_mend_125 rfl (lv_at hl 1 rfl) ?_
    refine lv_if_ne (tgt := 151) hx hb dX12_mend_126 (by decide) (fun c20 => ?_) (fun c20 => ?_)
    · have j21 : ¬ (n.toInt = 0) := fun h => c20 ((i_eq rfl (by decide)).mpr h)
      refine lv_iconst (v := (-1)) hx hb dX12_mend_151 (by decide) ?_
      exact wz_i () hx hb hr hlk (by unfold sp_mend; (repeat' split) <;> first | rfl | (exfalso; omega)) (hP.sub (ws' := []) [] rfl) (hD.sub (ws' := []) [] (by decide) rfl) hS dX12_mend_152
    · have j22 : n.toInt = 0 := (i_eq rfl (by decide)).mp c20
      refine lv_iload_n hx hb dX12_mend_129 rfl (lv_at hl 3 rfl) ?_
      refine lv_i2l (v := v.toInt64) hx hb dX12_mend_130 rfl ?_
      refine lv_lconst (v := 0) hx hb dX12_mend_131 (by decide) ?_
      refine lv_ldc2 (v := 127) hx hb hown (hts _ q_1469) dX12_mend_132 ?_
      refine go_i (rn_S (As := [.long v.toInt64, .long 0, .long 127]) (rest := []) hx hb hml hown hts hK (m_within l J v.toInt64 0 127 v.toInt 0 127 (i_wide rfl) (by decide) (by decide)) kS_RX12_101 (hP.sub (ws' := []) [] rfl) ⟨Nat.le_of_ble_eq_true rfl, Nat.le_of_ble_eq_true rfl⟩ rfl rfl rfl hl.1 rfl (Nat.le_of_ble_eq_true rfl) ⟨Nat.le_of_ble_eq_true rfl, Nat.le_of_ble_eq_true rfl⟩ dX12_mend_135) ?_
      refine lv_if_eq (tgt := 151) hx hb dX12_mend_138 (by decide) (fun c23 => ?_) (fun c23 => ?_)
      · have j24 := b0 c23
        refine lv_iconst (v := (-1)) hx hb dX12_mend_151 (by decide) ?_
        exact wz_i () hx hb hr hlk (by unfold sp_mend; (repeat' split) <;> first | rfl | (exfalso; omega)) (hP.sub (ws' := []) [] rfl) (hD.sub (ws' := []) [] (by decide) rfl) hS dX12_mend_152
      · have j25 := b1 c23
        refine lv_aload_n hx hb dX12_mend_141 rfl (lv_at hl 0 rfl) ?_
        refine lv_bipush (v := 21) hx hb dX12_mend_142 (by decide) ?_
        refine lv_iload_n hx hb dX12_mend_144 rfl (lv_at hl 3 rfl) ?_
        refine gw_i (wc := [((b 0), .inr (12, [.ref (b 1), .ref (b 2), .ref (b 3), .ref (b 4), .int 0, .int 0, .int 0, .int 0, .ref (b 9), .ref (b 10), .int 0, .ref (b 12), .int (-1), .int 0, .int 0, .int 0, .int 0, .int 0, .ref (b 19), .ref (b 20), .ref (b 21), .ref (b 22), .ref (b 23), .long 0, .long 0, .long 0, .ref (b 27), .ref (b 28), .ref (b 29), .long 0, .int 0, .int (-1), .int 0, .int 0, .int 0, .ref (b 36), .int 0, .int 0, .ref (b 39), .ref (b 40), .int 0, .ref (b 42), .ref (b 43), .int 0, .int 0, .int 0, .ref (b 47), .ref (b 48), .ref (b 49), .ref (b 50)])), ((b 1), .inl (J.2.1, 22, .inl (upd (fun _ => 0) (20 : Int32).toNatClampNeg 1))), ((b 2), .inl (J.2.1, 40, .inl (fun _ => 0))), ((b 3), .inl (J.2.1, 40, .inl (fun _ => 0))), ((b 4), .inl (J.2.1, 40, .inl (fun _ => 0)))]) (wr := []) hP hD hS hA [0, 1, 2, 3, 4] [] rfl rfl (by decide) (by decide) (wn_V (As := [.int 21, .int v]) (rest := []) hx hb hml hown hts hK (m_becomes3 l J _ b v) kV_RX12_134 hP ((hD.sub (ws' := [((b 0), .inr (12, [.ref (b 1), .ref (b 2), .ref (b 3), .ref (b 4), .int 0, .int 0, .int 0, .int 0, .ref (b 9), .ref (b 10), .int 0, .ref (b 12), .int (-1), .int 0, .int 0, .int 0, .int 0, .int 0, .ref (b 19), .ref (b 20), .ref (b 21), .ref (b 22), .ref (b 23), .long 0, .long 0, .long 0, .ref (b 27), .ref (b 28), .ref (b 29), .long 0, .int 0, .int (-1), .int 0, .int 0, .int 0, .ref (b 36), .int 0, .int 0, .ref (b 39), .ref (b 40), .int 0, .ref (b 42), .ref (b 43), .int 0, .int 0, .int 0, .ref (b 47), .ref (b 48), .ref (b 49), .ref (b 50)])), ((b 1), .inl (J.2.1, 22, .inl (upd (fun _ => 0) (20 : Int32).toNatClampNeg 1))), ((b 2), .inl (J.2.1, 40, .inl (fun _ => 0))), ((b 3), .inl (J.2.1, 40, .inl (fun _ => 0))), ((b 4), .inl (J.2.1, 40, .inl (fun _ => 0)))]) [0, 1, 2, 3, 4] (by decide) rfl).weaken (fun _ _ _ _ => trivial)) rfl rfl rfl ⟨Nat.le_of_ble_eq_true rfl, Nat.le_of_ble_eq_true rfl⟩ rfl rfl rfl hl.1 rfl (Nat.le_of_ble_eq_true rfl) ⟨Nat.le_of_ble_eq_true rfl, Nat.le_of_ble_eq_true rfl⟩ dX12_mend_145) (fun r27 u26 H locs hw hP hD hS => ?_)
        subst hw
        have hP : va_P J.1 cls [] H := hP
        have hD : va_D A [] := hD
        refine W.widen (k := 0) (n := 0) (Nat.le_of_ble_eq_true rfl) (Nat.le_of_ble_eq_true rfl) ?_
        refine lv_goto (tgt := 152) hx hb dX12_mend_148 (by decide) ?_
        exact wz_i () hx hb hr hlk (by unfold sp_mend; (repeat' split) <;> first | rfl | (exfalso; omega)) hP hD hS dX12_mend_152
  have j28 : ¬ (k.toInt = 3) := fun h => c18 ((i_eq rfl (by decide)).mpr h)
  refine lv_tableOut (tgt := 153) hx hb dX12_mend_1 (by omega) (by decide) ?_
  refine lv_iconst (v := (-1)) hx hb dX12_mend_153 (by decide) ?_
  exact wz_i () hx hb hr hlk (by unfold sp_mend; (repeat' split) <;> first | rfl | (exfalso; omega)) (hP.sub (ws' := []) [] rfl) (hD.sub (ws' := []) [] (by decide) rfl) hS dX12_mend_154
theorem dX12_ofAll_0 : decode cX12_ofAll 0 = .ok (.iload_n 1, 1) := by decide +kernel
theorem dX12_ofAll_1 : decode cX12_ofAll 1 = .ok (.tableswitch 54 12 14 #[27, 32, 49], 27) := by decide +kernel
theorem dX12_ofAll_55 : decode cX12_ofAll 55 = .ok (.aload_n 0, 1) := by decide +kernel
theorem dX12_ofAll_56 : decode cX12_ofAll 56 = .ok (.getfield 11, 3) := by decide +kernel
theorem dX12_ofAll_59 : decode cX12_ofAll 59 = .ok (.bipush 20, 2) := by decide +kernel
theorem dX12_ofAll_61 : decode cX12_ofAll 61 = .ok (.iload_n 1, 1) := by decide +kernel
theorem dX12_ofAll_62 : decode cX12_ofAll 62 = .ok (.iadd, 1) := by decide +kernel
theorem dX12_ofAll_63 : decode cX12_ofAll 63 = .ok (.bipush 10, 2) := by decide +kernel
theorem dX12_ofAll_65 : decode cX12_ofAll 65 = .ok (.isub, 1) := by decide +kernel
theorem dX12_ofAll_66 : decode cX12_ofAll 66 = .ok (.iaload, 1) := by decide +kernel
theorem dX12_ofAll_67 : decode cX12_ofAll 67 = .ok (.ireturn, 1) := by decide +kernel
theorem dX12_ofAll_28 : decode cX12_ofAll 28 = .ok (.aload_n 0, 1) := by decide +kernel
theorem q_1298 : Cond.fieldLink RX12 145 RX12 "day" "I" ∈ lw_g := mem_q 1298 (by decide +kernel) rfl
theorem dX12_ofAll_29 : decode cX12_ofAll 29 = .ok (.getfield 145, 3) := by decide +kernel
theorem dX12_ofAll_32 : decode cX12_ofAll 32 = .ok (.ireturn, 1) := by decide +kernel
theorem dX12_ofAll_33 : decode cX12_ofAll 33 = .ok (.aload_n 0, 1) := by decide +kernel
theorem q_1297 : Cond.fieldLink RX12 89 RX12 "isAt" "I" ∈ lw_g := mem_q 1297 (by decide +kernel) rfl
theorem dX12_ofAll_34 : decode cX12_ofAll 34 = .ok (.getfield 89, 3) := by decide +kernel
theorem dX12_ofAll_37 : decode cX12_ofAll 37 = .ok (.ifCond .ge 8, 3) := by decide +kernel
theorem dX12_ofAll_40 : decode cX12_ofAll 40 = .ok (.bipush (-5), 2) := by decide +kernel
theorem dX12_ofAll_42 : decode cX12_ofAll 42 = .ok (.goto 7, 3) := by decide +kernel
theorem dX12_ofAll_49 : decode cX12_ofAll 49 = .ok (.ireturn, 1) := by decide +kernel
theorem dX12_ofAll_50 : decode cX12_ofAll 50 = .ok (.aload_n 0, 1) := by decide +kernel
theorem q_1300 : Cond.fieldLink RX12 151 RX12 "caughtMany" "I" ∈ lw_g := mem_q 1300 (by decide +kernel) rfl
theorem dX12_ofAll_51 : decode cX12_ofAll 51 = .ok (.getfield 151, 3) := by decide +kernel
theorem dX12_ofAll_54 : decode cX12_ofAll 54 = .ok (.ireturn, 1) := by decide +kernel
set_option maxHeartbeats 4000000 in
set_option maxRecDepth 100000 in
theorem m_ofAll (l : Launch) (J : va_J9) (b : Nat → Nat) (k : Int32) (hk : 10 ≤ k.toInt ∧ k.toInt ≤ 14) : RC l J yX12_ofAll cX12_ofAll 2 (some .int) ({ frames := 0, cells := 0, slots := 0, locals := 0 }) [.ref (b 0), .int k] [((b 0), .inr (12, [.ref (b 1), .ref (b 2), .ref (b 3), .ref (b 4), .int 0, .int 0, .int 0, .int 0, .ref (b 9), .ref (b 10), .int 0, .ref (b 12), .int (-1), .int 0, .int 0, .int 0, .int 0, .int 0, .ref (b 19), .ref (b 20), .ref (b 21), .ref (b 22), .ref (b 23), .long 0, .long 0, .long 0, .ref (b 27), .ref (b 28), .ref (b 29), .long 0, .int 0, .int (-1), .int 0, .int 0, .int 0, .ref (b 36), .int 0, .int 0, .ref (b 39), .ref (b 40), .int 0, .ref (b 42), .ref (b 43), .int 0, .int 0, .int 0, .ref (b 47), .ref (b 48), .ref (b 49), .ref (b 50)])), ((b 1), .inl (J.2.1, 22, .inl (upd (fun _ => 0) (20 : Int32).toNatClampNeg 1)))] (vp_Si (fun r => r = sp_of 0 (k.toInt))) := by
  refine rc_of (by decide) (Nat.le_of_ble_eq_true rfl) ?_
  intro p e s m below meth c ls hE hl hP hK
  obtain ⟨hx, hb, hr, hml, hown, hts, hlk, hin⟩ := hE
  have hown : s.vm.findClass RX12 = some m.cls := hown
  have hl : lv_has ls 2 [(0, .ref (b 0)), (1, .int k)] := hl
  have rg_k := i_rng k
  rcases (show k.toInt = 10 ∨ k.toInt = 11 ∨ k.toInt = 12 ∨ k.toInt = 13 ∨ k.toInt = 14 by omega) with h1 | h1 | h1 | h1 | h1
  · have k2 : k = 10 := (i_eq rfl (by decide)).mpr h1
    refine lv_iload_n hx hb dX12_ofAll_0 rfl (lv_at hl 1 rfl) ?_
    refine top_i (y := 10) k2 ?_
    refine lv_tableOut (tgt := 55) hx hb dX12_ofAll_1 (by decide) (by decide) ?_
    refine lv_aload_n hx hb dX12_ofAll_55 rfl (lv_at hl 0 rfl) ?_
    refine va_get (D := J.1) (ci := 12) (v := .ref (b 1)) (C := RX12) (T := TX12) (N := 50) hx hb hts inX12 hown hK.1 hP 0 rfl rfl 0 (by decide) (hts _ q_1266) (fun _ h9 => h9) rfl dX12_ofAll_56 ?_
    refine lv_bipush (v := 20) hx hb dX12_ofAll_59 (by decide) ?_
    refine lv_iload_n hx hb dX12_ofAll_61 rfl (lv_at hl 1 rfl) ?_
    refine top_i (y := 10) k2 ?_
    refine lv_iadd hx hb dX12_ofAll_62 ?_
    refine top_i (y := 30) (by decide) ?_
    refine lv_bipush (v := 10) hx hb dX12_ofAll_63 (by decide) ?_
    refine lv_isub hx hb dX12_ofAll_65 ?_
    refine top_i (y := 20) (by decide) ?_
    have h3 : vp_in 20 22 := (i_in (a := 20) (by decide) (by omega) (by omega))
    refine va_iald hx hb hK.1 hP 1 0 rfl rfl h3 dX12_ofAll_66 ?_
    refine top_i (y := 1) rfl ?_
    exact rz_i hx hb hr hlk (by unfold sp_of; (repeat' split) <;> first | rfl | (exfalso; omega)) dX12_ofAll_67
  · have k4 : k = 11 := (i_eq rfl (by decide)).mpr h1
    refine lv_iload_n hx hb dX12_ofAll_0 rfl (lv_at hl 1 rfl) ?_
    refine top_i (y := 11) k4 ?_
    refine lv_tableOut (tgt := 55) hx hb dX12_ofAll_1 (by decide) (by decide) ?_
    refine lv_aload_n hx hb dX12_ofAll_55 rfl (lv_at hl 0 rfl) ?_
    refine va_get (D := J.1) (ci := 12) (v := .ref (b 1)) (C := RX12) (T := TX12) (N := 50) hx hb hts inX12 hown hK.1 hP 0 rfl rfl 0 (by decide) (hts _ q_1266) (fun _ h9 => h9) rfl dX12_ofAll_56 ?_
    refine lv_bipush (v := 20) hx hb dX12_ofAll_59 (by decide) ?_
    refine lv_iload_n hx hb dX12_ofAll_61 rfl (lv_at hl 1 rfl) ?_
    refine top_i (y := 11) k4 ?_
    refine lv_iadd hx hb dX12_ofAll_62 ?_
    refine top_i (y := 31) (by decide) ?_
    refine lv_bipush (v := 10) hx hb dX12_ofAll_63 (by decide) ?_
    refine lv_isub hx hb dX12_ofAll_65 ?_
    refine top_i (y := 21) (by decide) ?_
    have h5 : vp_in 21 22 := (i_in (a := 21) (by decide) (by omega) (by omega))
    refine va_iald hx hb hK.1 hP 1 0 rfl rfl h5 dX12_ofAll_66 ?_
    refine top_i (y := 0) rfl ?_
    exact rz_i hx hb hr hlk (by unfold sp_of; (repeat' split) <;> first | rfl | (exfalso; omega)) dX12_ofAll_67
  · have k6 : k = 12 := (i_eq rfl (by decide)).mpr h1
    refine lv_iload_n hx hb dX12_ofAll_0 rfl (lv_at hl 1 rfl) ?_
    refine top_i (y := 12) k6 ?_
    refine lv_tableIn (tgt := 28) (off := 27) hx hb dX12_ofAll_1 (by decide) (by decide) (by decide) (by decide) ?_
    refine lv_aload_n hx hb dX12_ofAll_28 rfl (lv_at hl 0 rfl) ?_
    refine va_get (D := J.1) (ci := 12) (v := .int 0) (C := RX12) (T := TX12) (N := 50) hx hb hts inX12 hown hK.1 hP 0 rfl rfl 32 (by decide) (hts _ q_1298) (fun _ h9 => h9) rfl dX12_ofAll_29 ?_
    exact rz_i hx hb hr hlk (by unfold sp_of; (repeat' split) <;> first | rfl | (exfalso; omega)) dX12_ofAll_32
  · have k7 : k = 13 := (i_eq rfl (by decide)).mpr h1
    refine lv_iload_n hx hb dX12_ofAll_0 rfl (lv_at hl 1 rfl) ?_
    refine top_i (y := 13) k7 ?_
    refine lv_tableIn (tgt := 33) (off := 32) hx hb dX12_ofAll_1 (by decide) (by decide) (by decide) (by decide) ?_
    refine lv_aload_n hx hb dX12_ofAll_33 rfl (lv_at hl 0 rfl) ?_
    refine va_get (D := J.1) (ci := 12) (v := .int (-1)) (C := RX12) (T := TX12) (N := 50) hx hb hts inX12 hown hK.1 hP 0 rfl rfl 31 (by decide) (hts _ q_1297) (fun _ h9 => h9) rfl dX12_ofAll_34 ?_
    refine lv_if_ge (tgt := 45) hx hb dX12_ofAll_37 (by decide) (fun c => absurd c (by decide)) (fun _ => ?_)
    refine lv_bipush (v := (-5)) hx hb dX12_ofAll_40 (by decide) ?_
    refine lv_goto (tgt := 49) hx hb dX12_ofAll_42 (by decide) ?_
    exact rz_i hx hb hr hlk (by unfold sp_of; (repeat' split) <;> first | rfl | (exfalso; omega)) dX12_ofAll_49
  · have k8 : k = 14 := (i_eq rfl (by decide)).mpr h1
    refine lv_iload_n hx hb dX12_ofAll_0 rfl (lv_at hl 1 rfl) ?_
    refine top_i (y := 14) k8 ?_
    refine lv_tableIn (tgt := 50) (off := 49) hx hb dX12_ofAll_1 (by decide) (by decide) (by decide) (by decide) ?_
    refine lv_aload_n hx hb dX12_ofAll_50 rfl (lv_at hl 0 rfl) ?_
    refine va_get (D := J.1) (ci := 12) (v := .int 0) (C := RX12) (T := TX12) (N := 50) hx hb hts inX12 hown hK.1 hP 0 rfl rfl 34 (by decide) (hts _ q_1300) (fun _ h9 => h9) rfl dX12_ofAll_51 ?_
    exact rz_i hx hb hr hlk (by unfold sp_of; (repeat' split) <;> first | rfl | (exfalso; omega)) dX12_ofAll_54
theorem dX12_of_0 : decode cX12_of 0 = .ok (.iload_n 2, 1) := by decide +kernel
theorem dX12_of_1 : decode cX12_of 1 = .ok (.i2l, 1) := by decide +kernel
theorem dX12_of_2 : decode cX12_of 2 = .ok (.lconst 0, 1) := by decide +kernel
theorem q_1474 : Cond.constantLong RX12 154 4 ∈ lw_g := mem_q 1474 (by decide +kernel) rfl
theorem dX12_of_3 : decode cX12_of 3 = .ok (.ldc2_w 154, 3) := by decide +kernel
theorem dX12_of_6 : decode cX12_of 6 = .ok (.invokestatic 101, 3) := by decide +kernel
theorem dX12_of_9 : decode cX12_of 9 = .ok (.ifCond .eq 24, 3) := by decide +kernel
theorem dX12_of_33 : decode cX12_of 33 = .ok (.iload_n 1, 1) := by decide +kernel
theorem dX12_of_34 : decode cX12_of 34 = .ok (.ifCond .ne 25, 3) := by decide +kernel
theorem q_1534 : Cond.constant RX12 159 (-2000000000) ∈ lw_g := mem_q 1534 (by decide +kernel) rfl
theorem dX12_of_59 : decode cX12_of 59 = .ok (.ldc 159, 2) := by decide +kernel
theorem dX12_of_61 : decode cX12_of 61 = .ok (.ireturn, 1) := by decide +kernel
theorem dX12_of_37 : decode cX12_of 37 = .ok (.iload_n 2, 1) := by decide +kernel
theorem dX12_of_38 : decode cX12_of 38 = .ok (.i2l, 1) := by decide +kernel
theorem dX12_of_39 : decode cX12_of 39 = .ok (.ldc2_w 118, 3) := by decide +kernel
theorem q_1535 : Cond.constantLong RX12 160 14 ∈ lw_g := mem_q 1535 (by decide +kernel) rfl
theorem dX12_of_42 : decode cX12_of 42 = .ok (.ldc2_w 160, 3) := by decide +kernel
theorem dX12_of_45 : decode cX12_of 45 = .ok (.invokestatic 101, 3) := by decide +kernel
theorem dX12_of_48 : decode cX12_of 48 = .ok (.ifCond .eq 11, 3) := by decide +kernel
theorem dX12_of_51 : decode cX12_of 51 = .ok (.aload_n 0, 1) := by decide +kernel
theorem dX12_of_52 : decode cX12_of 52 = .ok (.iload_n 2, 1) := by decide +kernel
theorem q_1536 : Cond.methodLink RX12 162 yX12_ofAll ∈ lw_g := mem_q 1536 (by decide +kernel) rfl
theorem q_1538 : Cond.instanceMethod yX12_ofAll ∈ lw_g := mem_q 1538 (by decide +kernel) rfl
theorem q_65 : Cond.selects RX12 yX12_ofAll yX12_ofAll ∈ lw_g := mem_q 65 (by decide +kernel) rfl
theorem q_1539 : Cond.code yX12_ofAll cX12_ofAll 2 (some .int) ∈ lw_g := mem_q 1539 (by decide +kernel) rfl
theorem kV_RX12_162 : CV RX12 162 RX12 yX12_ofAll cX12_ofAll 2 (some .int) 1 := cv_of q_1536 q_1538 q_65 q_115 q_1539 (by decide +kernel)
theorem dX12_of_53 : decode cX12_of 53 = .ok (.invokevirtual 162, 3) := by decide +kernel
theorem dX12_of_56 : decode cX12_of 56 = .ok (.goto 5, 3) := by decide +kernel
theorem dX12_of_12 : decode cX12_of 12 = .ok (.aload_n 0, 1) := by decide +kernel
theorem dX12_of_13 : decode cX12_of 13 = .ok (.iload_n 1, 1) := by decide +kernel
theorem dX12_of_14 : decode cX12_of 14 = .ok (.i2l, 1) := by decide +kernel
theorem dX12_of_15 : decode cX12_of 15 = .ok (.invokevirtual 105, 3) := by decide +kernel
theorem dX12_of_18 : decode cX12_of 18 = .ok (.ifCond .eq 12, 3) := by decide +kernel
theorem dX12_of_30 : decode cX12_of 30 = .ok (.ldc 159, 2) := by decide +kernel
theorem dX12_of_32 : decode cX12_of 32 = .ok (.ireturn, 1) := by decide +kernel
set_option maxHeartbeats 4000000 in
set_option maxRecDepth 100000 in
theorem m_of (l : Launch) (J : va_J9) (b : Nat → Nat) (n : Int32) (k : Int32) : RC l J yX12_of cX12_of 3 (some .int) ({ frames := 2, cells := 0, slots := 0, locals := 47 }) [.ref (b 0), .int n, .int k] [((b 0), .inr (12, [.ref (b 1), .ref (b 2), .ref (b 3), .ref (b 4), .int 0, .int 0, .int 0, .int 0, .ref (b 9), .ref (b 10), .int 0, .ref (b 12), .int (-1), .int 0, .int 0, .int 0, .int 0, .int 0, .ref (b 19), .ref (b 20), .ref (b 21), .ref (b 22), .ref (b 23), .long 0, .long 0, .long 0, .ref (b 27), .ref (b 28), .ref (b 29), .long 0, .int 0, .int (-1), .int 0, .int 0, .int 0, .ref (b 36), .int 0, .int 0, .ref (b 39), .ref (b 40), .int 0, .ref (b 42), .ref (b 43), .int 0, .int 0, .int 0, .ref (b 47), .ref (b 48), .ref (b 49), .ref (b 50)])), ((b 1), .inl (J.2.1, 22, .inl (upd (fun _ => 0) (20 : Int32).toNatClampNeg 1)))] (vp_Si (fun r => r = sp_of (n.toInt) (k.toInt))) := by
  refine rc_of (by decide) (Nat.le_of_ble_eq_true rfl) ?_
  intro p e s m below meth c ls hE hl hP hK
  obtain ⟨hx, hb, hr, hml, hown, hts, hlk, hin⟩ := hE
  have hown : s.vm.findClass RX12 = some m.cls := hown
  have hl : lv_has ls 3 [(0, .ref (b 0)), (1, .int n), (2, .int k)] := hl
  have rg_n := i_rng n
  have rg_k := i_rng k
  refine lv_iload_n hx hb dX12_of_0 rfl (lv_at hl 2 rfl) ?_
  refine lv_i2l (v := k.toInt64) hx hb dX12_of_1 rfl ?_
  refine lv_lconst (v := 0) hx hb dX12_of_2 (by decide) ?_
  refine lv_ldc2 (v := 4) hx hb hown (hts _ q_1474) dX12_of_3 ?_
  refine go_i (rn_S (As := [.long k.toInt64, .long 0, .long 4]) (rest := []) hx hb hml hown hts hK (m_within l J k.toInt64 0 4 k.toInt 0 4 (i_wide rfl) (by decide) (by decide)) kS_RX12_101 (hP.sub (ws' := []) [] rfl) ⟨Nat.le_of_ble_eq_true rfl, Nat.le_of_ble_eq_true rfl⟩ rfl rfl rfl hl.1 rfl (Nat.le_of_ble_eq_true rfl) ⟨Nat.le_of_ble_eq_true rfl, Nat.le_of_ble_eq_true rfl⟩ dX12_of_6) ?_
  refine lv_if_eq (tgt := 33) hx hb dX12_of_9 (by decide) (fun c1 => ?_) (fun c1 => ?_)
  · have j2 := b0 c1
    refine lv_iload_n hx hb dX12_of_33 rfl (lv_at hl 1 rfl) ?_
    refine lv_if_ne (tgt := 59) hx hb dX12_of_34 (by decide) (fun c3 => ?_) (fun c3 => ?_)
    · have j4 : ¬ (n.toInt = 0) := fun h => c3 ((i_eq rfl (by decide)).mpr h)
      refine lv_ldc (v := (-2000000000)) hx hb hown (hts _ q_1534) dX12_of_59 ?_
      exact rz_i hx hb hr hlk (by unfold sp_of; (repeat' split) <;> first | rfl | (exfalso; omega)) dX12_of_61
    · have j5 : n.toInt = 0 := (i_eq rfl (by decide)).mp c3
      refine lv_iload_n hx hb dX12_of_37 rfl (lv_at hl 2 rfl) ?_
      refine lv_i2l (v := k.toInt64) hx hb dX12_of_38 rfl ?_
      refine lv_ldc2 (v := 10) hx hb hown (hts _ q_1441) dX12_of_39 ?_
      refine lv_ldc2 (v := 14) hx hb hown (hts _ q_1535) dX12_of_42 ?_
      refine go_i (rn_S (As := [.long k.toInt64, .long 10, .long 14]) (rest := []) hx hb hml hown hts hK (m_within l J k.toInt64 10 14 k.toInt 10 14 (i_wide rfl) (by decide) (by decide)) kS_RX12_101 (hP.sub (ws' := []) [] rfl) ⟨Nat.le_of_ble_eq_true rfl, Nat.le_of_ble_eq_true rfl⟩ rfl rfl rfl hl.1 rfl (Nat.le_of_ble_eq_true rfl) ⟨Nat.le_of_ble_eq_true rfl, Nat.le_of_ble_eq_true rfl⟩ dX12_of_45) ?_
      refine lv_if_eq (tgt := 59) hx hb dX12_of_48 (by decide) (fun c6 => ?_) (fun c6 => ?_)
      · have j7 := b0 c6
        refine lv_ldc (v := (-2000000000)) hx hb hown (hts _ q_1534) dX12_of_59 ?_
        exact rz_i hx hb hr hlk (by unfold sp_of; (repeat' split) <;> first | rfl | (exfalso; omega)) dX12_of_61
      · have j8 := b1 c6
        refine lv_aload_n hx hb dX12_of_51 rfl (lv_at hl 0 rfl) ?_
        refine lv_iload_n hx hb dX12_of_52 rfl (lv_at hl 2 rfl) ?_
        refine go_i (rn_V (As := [.int k]) (rest := []) hx hb hml hown hts hK (m_ofAll l J b k ⟨by omega, by omega⟩) kV_RX12_162 hP rfl rfl rfl ⟨Nat.le_of_ble_eq_true rfl, Nat.le_of_ble_eq_true rfl⟩ rfl rfl rfl hl.1 rfl (Nat.le_of_ble_eq_true rfl) ⟨Nat.le_of_ble_eq_true rfl, Nat.le_of_ble_eq_true rfl⟩ dX12_of_53) ?_
        refine lv_goto (tgt := 61) hx hb dX12_of_56 (by decide) ?_
        exact rz_i hx hb hr hlk (by unfold sp_of; (repeat' split) <;> first | rfl | (exfalso; omega)) dX12_of_61
  · have j9 := b1 c1
    refine lv_aload_n hx hb dX12_of_12 rfl (lv_at hl 0 rfl) ?_
    refine lv_iload_n hx hb dX12_of_13 rfl (lv_at hl 1 rfl) ?_
    refine lv_i2l (v := n.toInt64) hx hb dX12_of_14 rfl ?_
    refine go_i (rn_V (As := [.long n.toInt64]) (rest := []) hx hb hml hown hts hK (m_isHole l J b n.toInt64) kV_RX12_105 (hP.sub (ws' := [((b 0), .inr (12, [.ref (b 1), .ref (b 2), .ref (b 3), .ref (b 4), .int 0, .int 0, .int 0, .int 0, .ref (b 9), .ref (b 10), .int 0, .ref (b 12), .int (-1), .int 0, .int 0, .int 0, .int 0, .int 0, .ref (b 19), .ref (b 20), .ref (b 21), .ref (b 22), .ref (b 23), .long 0, .long 0, .long 0, .ref (b 27), .ref (b 28), .ref (b 29), .long 0, .int 0, .int (-1), .int 0, .int 0, .int 0, .ref (b 36), .int 0, .int 0, .ref (b 39), .ref (b 40), .int 0, .ref (b 42), .ref (b 43), .int 0, .int 0, .int 0, .ref (b 47), .ref (b 48), .ref (b 49), .ref (b 50)]))]) [0] rfl) rfl rfl rfl ⟨Nat.le_of_ble_eq_true rfl, Nat.le_of_ble_eq_true rfl⟩ rfl rfl rfl hl.1 rfl (Nat.le_of_ble_eq_true rfl) ⟨Nat.le_of_ble_eq_true rfl, Nat.le_of_ble_eq_true rfl⟩ dX12_of_15) ?_
    refine lv_if_eq (tgt := 30) hx hb dX12_of_18 (by decide) (fun _ => ?_) (fun c => absurd c (by decide))
    refine lv_ldc (v := (-2000000000)) hx hb hown (hts _ q_1534) dX12_of_30 ?_
    exact rz_i hx hb hr hlk (by unfold sp_of; (repeat' split) <;> first | rfl | (exfalso; omega)) dX12_of_32
theorem dX12_feed_0 : decode cX12_feed 0 = .ok (.iload_n 1, 1) := by decide +kernel
theorem dX12_feed_1 : decode cX12_feed 1 = .ok (.i2l, 1) := by decide +kernel
theorem dX12_feed_2 : decode cX12_feed 2 = .ok (.lconst 0, 1) := by decide +kernel
theorem q_1544 : Cond.constantLong RX12 165 255 ∈ lw_g := mem_q 1544 (by decide +kernel) rfl
theorem dX12_feed_3 : decode cX12_feed 3 = .ok (.ldc2_w 165, 3) := by decide +kernel
theorem dX12_feed_6 : decode cX12_feed 6 = .ok (.invokestatic 101, 3) := by decide +kernel
theorem dX12_feed_9 : decode cX12_feed 9 = .ok (.ifCond .ne 5, 3) := by decide +kernel
theorem dX12_feed_14 : decode cX12_feed 14 = .ok (.aload_n 0, 1) := by decide +kernel
theorem q_1276 : Cond.fieldLink RX12 167 RX12 "tapeMany" "I" ∈ lw_g := mem_q 1276 (by decide +kernel) rfl
theorem dX12_feed_15 : decode cX12_feed 15 = .ok (.getfield 167, 3) := by decide +kernel
theorem dX12_feed_18 : decode cX12_feed 18 = .ok (.bipush 120, 2) := by decide +kernel
theorem dX12_feed_20 : decode cX12_feed 20 = .ok (.if_icmp .ne 6, 3) := by decide +kernel
theorem dX12_feed_26 : decode cX12_feed 26 = .ok (.aload_n 0, 1) := by decide +kernel
theorem q_1275 : Cond.fieldLink RX12 27 RX12 "tape" "[I" ∈ lw_g := mem_q 1275 (by decide +kernel) rfl
theorem dX12_feed_27 : decode cX12_feed 27 = .ok (.getfield 27, 3) := by decide +kernel
theorem dX12_feed_30 : decode cX12_feed 30 = .ok (.aload_n 0, 1) := by decide +kernel
theorem dX12_feed_31 : decode cX12_feed 31 = .ok (.getfield 167, 3) := by decide +kernel
theorem dX12_feed_34 : decode cX12_feed 34 = .ok (.iload_n 1, 1) := by decide +kernel
theorem dX12_feed_35 : decode cX12_feed 35 = .ok (.iastore, 1) := by decide +kernel
theorem dX12_feed_36 : decode cX12_feed 36 = .ok (.aload_n 0, 1) := by decide +kernel
theorem dX12_feed_37 : decode cX12_feed 37 = .ok (.dup, 1) := by decide +kernel
theorem dX12_feed_38 : decode cX12_feed 38 = .ok (.getfield 167, 3) := by decide +kernel
theorem dX12_feed_41 : decode cX12_feed 41 = .ok (.iconst 1, 1) := by decide +kernel
theorem dX12_feed_42 : decode cX12_feed 42 = .ok (.iadd, 1) := by decide +kernel
theorem dX12_feed_43 : decode cX12_feed 43 = .ok (.putfield 167, 3) := by decide +kernel
theorem dX12_feed_46 : decode cX12_feed 46 = .ok (.aload_n 0, 1) := by decide +kernel
theorem dX12_feed_47 : decode cX12_feed 47 = .ok (.getfield 167, 3) := by decide +kernel
theorem dX12_feed_50 : decode cX12_feed 50 = .ok (.ireturn, 1) := by decide +kernel
theorem dX12_feed_12 : decode cX12_feed 12 = .ok (.iconst (-1), 1) := by decide +kernel
theorem dX12_feed_13 : decode cX12_feed 13 = .ok (.ireturn, 1) := by decide +kernel
set_option maxHeartbeats 4000000 in
set_option maxRecDepth 100000 in
theorem m_feed (l : Launch) (J : va_J9) (sz : Nat) (b : Nat → Nat) (x : Int32) : WC l J yX12_feed cX12_feed 2 (some .int) ({ frames := 1, cells := 0, slots := 0, locals := 25 }) [.ref (b 0), .int x] [((b 0), .inr (12, [.ref (b 1), .ref (b 2), .ref (b 3), .ref (b 4), .int 0, .int 0, .int 0, .int 0, .ref (b 9), .ref (b 10), .int 0, .ref (b 12), .int (-1), .int 0, .int 0, .int 0, .int 0, .int 0, .ref (b 19), .ref (b 20), .ref (b 21), .ref (b 22), .ref (b 23), .long 0, .long 0, .long 0, .ref (b 27), .ref (b 28), .ref (b 29), .long 0, .int 0, .int (-1), .int 0, .int 0, .int 0, .ref (b 36), .int 0, .int 0, .ref (b 39), .ref (b 40), .int 0, .ref (b 42), .ref (b 43), .int 0, .int 0, .int 0, .ref (b 47), .ref (b 48), .ref (b 49), .ref (b 50)])), ((b 10), .inl (J.2.1, 120, .inl (fun _ => 0)))] sz (Qi J (fun (r : Int32) (_ : Unit) => r = sp_feed (x.toInt)) (fun (_ : Unit) => [])) 0 0 := by
  refine wc_of (by decide) (Nat.le_of_ble_eq_true rfl) ?_
  intro p e s m below meth c ls A hE hl hP hK hD hS hA
  obtain ⟨hx, hb, hr, hml, hown, hts, hlk, hin⟩ := hE
  have hown : s.vm.findClass RX12 = some m.cls := hown
  have hl : lv_has ls 2 [(0, .ref (b 0)), (1, .int x)] := hl
  have rg_x := i_rng x
  refine lv_iload_n hx hb dX12_feed_0 rfl (lv_at hl 1 rfl) ?_
  refine lv_i2l (v := x.toInt64) hx hb dX12_feed_1 rfl ?_
  refine lv_lconst (v := 0) hx hb dX12_feed_2 (by decide) ?_
  refine lv_ldc2 (v := 255) hx hb hown (hts _ q_1544) dX12_feed_3 ?_
  refine go_i (rn_S (As := [.long x.toInt64, .long 0, .long 255]) (rest := []) hx hb hml hown hts hK (m_within l J x.toInt64 0 255 x.toInt 0 255 (i_wide rfl) (by decide) (by decide)) kS_RX12_101 (hP.sub (ws' := []) [] rfl) ⟨Nat.le_of_ble_eq_true rfl, Nat.le_of_ble_eq_true rfl⟩ rfl rfl rfl hl.1 rfl (Nat.le_of_ble_eq_true rfl) ⟨Nat.le_of_ble_eq_true rfl, Nat.le_of_ble_eq_true rfl⟩ dX12_feed_6) ?_
  refine lv_if_ne (tgt := 14) hx hb dX12_feed_9 (by decide) (fun c1 => ?_) (fun c1 => ?_)
  · have j2 := b1 c1
    refine lv_aload_n hx hb dX12_feed_14 rfl (lv_at hl 0 rfl) ?_
    refine va_get (D := J.1) (ci := 12) (v := .int 0) (C := RX12) (T := TX12) (N := 50) hx hb hts inX12 hown hK.1 hP 0 rfl rfl 10 (by decide) (hts _ q_1276) (fun _ h9 => h9) rfl dX12_feed_15 ?_
    refine lv_bipush (v := 120) hx hb dX12_feed_18 (by decide) ?_
    refine lv_icmp_ne (tgt := 26) hx hb dX12_feed_20 (by decide) (fun _ => ?_) (fun c => absurd c (by decide))
    refine lv_aload_n hx hb dX12_feed_26 rfl (lv_at hl 0 rfl) ?_
    refine va_get (D := J.1) (ci := 12) (v := .ref (b 10)) (C := RX12) (T := TX12) (N := 50) hx hb hts inX12 hown hK.1 hP 0 rfl rfl 9 (by decide) (hts _ q_1275) (fun _ h9 => h9) rfl dX12_feed_27 ?_
    refine lv_aload_n hx hb dX12_feed_30 rfl (lv_at hl 0 rfl) ?_
    refine va_get (D := J.1) (ci := 12) (v := .int 0) (C := RX12) (T := TX12) (N := 50) hx hb hts inX12 hown hK.1 hP 0 rfl rfl 10 (by decide) (hts _ q_1276) (fun _ h9 => h9) rfl dX12_feed_31 ?_
    refine lv_iload_n hx hb dX12_feed_34 rfl (lv_at hl 1 rfl) ?_
    have h3 : vp_in 0 120 := (i_in (a := 0) (by decide) (by omega) (by omega))
    refine va_iast hx hb hK.1 hP hD hS 1 0 rfl rfl h3 dX12_feed_35 (fun H locs hP hD hS => ?_)
    have hP : va_P J.1 cls [((b 0), .inr (12, [.ref (b 1), .ref (b 2), .ref (b 3), .ref (b 4), .int 0, .int 0, .int 0, .int 0, .ref (b 9), .ref (b 10), .int 0, .ref (b 12), .int (-1), .int 0, .int 0, .int 0, .int 0, .int 0, .ref (b 19), .ref (b 20), .ref (b 21), .ref (b 22), .ref (b 23), .long 0, .long 0, .long 0, .ref (b 27), .ref (b 28), .ref (b 29), .long 0, .int 0, .int (-1), .int 0, .int 0, .int 0, .ref (b 36), .int 0, .int 0, .ref (b 39), .ref (b 40), .int 0, .ref (b 42), .ref (b 43), .int 0, .int 0, .int 0, .ref (b 47), .ref (b 48), .ref (b 49), .ref (b 50)])), ((b 10), .inl (J.2.1, 120, .inl (upd (fun _ => 0) (0 : Int32).toNatClampNeg x)))] H := hP
    have hD : va_D A [((b 0), .inr (12, [.ref (b 1), .ref (b 2), .ref (b 3), .ref (b 4), .int 0, .int 0, .int 0, .int 0, .ref (b 9), .ref (b 10), .int 0, .ref (b 12), .int (-1), .int 0, .int 0, .int 0, .int 0, .int 0, .ref (b 19), .ref (b 20), .ref (b 21), .ref (b 22), .ref (b 23), .long 0, .long 0, .long 0, .ref (b 27), .ref (b 28), .ref (b 29), .long 0, .int 0, .int (-1), .int 0, .int 0, .int 0, .ref (b 36), .int 0, .int 0, .ref (b 39), .ref (b 40), .int 0, .ref (b 42), .ref (b 43), .int 0, .int 0, .int 0, .ref (b 47), .ref (b 48), .ref (b 49), .ref (b 50)])), ((b 10), .inl (J.2.1, 120, .inl (upd (fun _ => 0) (0 : Int32).toNatClampNeg x)))] := hD
    refine lv_aload_n hx hb dX12_feed_36 rfl (lv_at hl 0 rfl) ?_
    refine lv_dup hx hb dX12_feed_37 rfl ?_
    refine va_get (D := J.1) (ci := 12) (v := .int 0) (C := RX12) (T := TX12) (N := 50) hx hb hts inX12 hown hK.1 hP 0 rfl rfl 10 (by decide) (hts _ q_1276) (fun _ h9 => h9) rfl dX12_feed_38 ?_
    refine lv_iconst (v := 1) hx hb dX12_feed_41 (by decide) ?_
    refine lv_iadd hx hb dX12_feed_42 ?_
    refine top_i (y := 1) (by decide) ?_
    refine va_put (D := J.1) (ci := 12) (v := .int 1) (ty := (.int)) (C := RX12) (T := TX12) (N := 50) hx hb hts inX12 tyX12 tyX12_ok nmX12 hown hK.1 hP hD hS 0 rfl rfl 10 (by decide) (hts _ q_1276) (fun _ h9 => h9) rfl (by decide +kernel) rfl rfl (Nat.le_of_ble_eq_true rfl) dX12_feed_43 (fun H locs hP hD hS => ?_)
    have hP : va_P J.1 cls [((b 0), .inr (12, [.ref (b 1), .ref (b 2), .ref (b 3), .ref (b 4), .int 0, .int 0, .int 0, .int 0, .ref (b 9), .ref (b 10), .int 1, .ref (b 12), .int (-1), .int 0, .int 0, .int 0, .int 0, .int 0, .ref (b 19), .ref (b 20), .ref (b 21), .ref (b 22), .ref (b 23), .long 0, .long 0, .long 0, .ref (b 27), .ref (b 28), .ref (b 29), .long 0, .int 0, .int (-1), .int 0, .int 0, .int 0, .ref (b 36), .int 0, .int 0, .ref (b 39), .ref (b 40), .int 0, .ref (b 42), .ref (b 43), .int 0, .int 0, .int 0, .ref (b 47), .ref (b 48), .ref (b 49), .ref (b 50)])), ((b 10), .inl (J.2.1, 120, .inl (upd (fun _ => 0) (0 : Int32).toNatClampNeg x)))] H := hP
    have hD : va_D A [((b 0), .inr (12, [.ref (b 1), .ref (b 2), .ref (b 3), .ref (b 4), .int 0, .int 0, .int 0, .int 0, .ref (b 9), .ref (b 10), .int 1, .ref (b 12), .int (-1), .int 0, .int 0, .int 0, .int 0, .int 0, .ref (b 19), .ref (b 20), .ref (b 21), .ref (b 22), .ref (b 23), .long 0, .long 0, .long 0, .ref (b 27), .ref (b 28), .ref (b 29), .long 0, .int 0, .int (-1), .int 0, .int 0, .int 0, .ref (b 36), .int 0, .int 0, .ref (b 39), .ref (b 40), .int 0, .ref (b 42), .ref (b 43), .int 0, .int 0, .int 0, .ref (b 47), .ref (b 48), .ref (b 49), .ref (b 50)])), ((b 10), .inl (J.2.1, 120, .inl (upd (fun _ => 0) (0 : Int32).toNatClampNeg x)))] := hD
    refine lv_aload_n hx hb dX12_feed_46 rfl (lv_at hl 0 rfl) ?_
    refine va_get (D := J.1) (ci := 12) (v := .int 1) (C := RX12) (T := TX12) (N := 50) hx hb hts inX12 hown hK.1 hP 0 rfl rfl 10 (by decide) (hts _ q_1276) (fun _ h9 => h9) rfl dX12_feed_47 ?_
    exact wz_i () hx hb hr hlk (by unfold sp_feed; (repeat' split) <;> first | rfl | (exfalso; omega)) (hP.sub (ws' := []) [] rfl) (hD.sub (ws' := []) [] (by decide) rfl) hS dX12_feed_50
  · have j4 := b0 c1
    refine lv_iconst (v := (-1)) hx hb dX12_feed_12 (by decide) ?_
    exact wz_i () hx hb hr hlk (by unfold sp_feed; (repeat' split) <;> first | rfl | (exfalso; omega)) (hP.sub (ws' := []) [] rfl) (hD.sub (ws' := []) [] (by decide) rfl) hS dX12_feed_13
theorem dX12_mayBe_0 : decode cX12_mayBe 0 = .ok (.aload_n 0, 1) := by decide +kernel
theorem dX12_mayBe_1 : decode cX12_mayBe 1 = .ok (.iload_n 1, 1) := by decide +kernel
theorem q_1553 : Cond.methodLink RX12 237 yX12_bytesIs ∈ lw_g := mem_q 1553 (by decide +kernel) rfl
theorem q_1555 : Cond.instanceMethod yX12_bytesIs ∈ lw_g := mem_q 1555 (by decide +kernel) rfl
theorem q_66 : Cond.selects RX12 yX12_bytesIs yX12_bytesIs ∈ lw_g := mem_q 66 (by decide +kernel) rfl
theorem q_1556 : Cond.code yX12_bytesIs cX12_bytesIs 2 (some .int) ∈ lw_g := mem_q 1556 (by decide +kernel) rfl
theorem kV_RX12_237 : CV RX12 237 RX12 yX12_bytesIs cX12_bytesIs 2 (some .int) 1 := cv_of q_1553 q_1555 q_66 q_115 q_1556 (by decide +kernel)
theorem dX12_mayBe_2 : decode cX12_mayBe 2 = .ok (.invokevirtual 237, 3) := by decide +kernel
theorem dX12_mayBe_5 : decode cX12_mayBe 5 = .ok (.iconst (-1), 1) := by decide +kernel
theorem dX12_mayBe_6 : decode cX12_mayBe 6 = .ok (.if_icmp .eq 7, 3) := by decide +kernel
theorem dX12_mayBe_9 : decode cX12_mayBe 9 = .ok (.iload_n 2, 1) := by decide +kernel
theorem dX12_mayBe_10 : decode cX12_mayBe 10 = .ok (.ifCond .ge 5, 3) := by decide +kernel
theorem dX12_mayBe_15 : decode cX12_mayBe 15 = .ok (.aload_n 0, 1) := by decide +kernel
theorem dX12_mayBe_16 : decode cX12_mayBe 16 = .ok (.iload_n 1, 1) := by decide +kernel
theorem dX12_mayBe_17 : decode cX12_mayBe 17 = .ok (.invokevirtual 237, 3) := by decide +kernel
theorem dX12_mayBe_20 : decode cX12_mayBe 20 = .ok (.ifCond .ge 9, 3) := by decide +kernel
theorem dX12_mayBe_23 : decode cX12_mayBe 23 = .ok (.aload_n 0, 1) := by decide +kernel
theorem dX12_mayBe_24 : decode cX12_mayBe 24 = .ok (.iload_n 1, 1) := by decide +kernel
theorem dX12_mayBe_25 : decode cX12_mayBe 25 = .ok (.invokevirtual 237, 3) := by decide +kernel
theorem dX12_mayBe_28 : decode cX12_mayBe 28 = .ok (.ireturn, 1) := by decide +kernel
theorem dX12_mayBe_13 : decode cX12_mayBe 13 = .ok (.iconst (-1), 1) := by decide +kernel
theorem dX12_mayBe_14 : decode cX12_mayBe 14 = .ok (.ireturn, 1) := by decide +kernel
set_option maxHeartbeats 4000000 in
set_option maxRecDepth 100000 in
theorem m_mayBe (l : Launch) (J : va_J9) (b : Nat → Nat) (g : Nat → Int32) (d : Int32) (k : Int32) (hg : ∀ k, k < 6 → g k = -1) : RC l J yX12_mayBe cX12_mayBe 3 (some .int) ({ frames := 3, cells := 0, slots := 0, locals := 66 }) [.ref (b 0), .int d, .int k] [((b 0), .inr (12, [.ref (b 1), .ref (b 2), .ref (b 3), .ref (b 4), .int 0, .int 0, .int 0, .int 0, .ref (b 9), .ref (b 10), .int 0, .ref (b 12), .int (-1), .int 0, .int 0, .int 0, .int 0, .int 0, .ref (b 19), .ref (b 20), .ref (b 21), .ref (b 22), .ref (b 23), .long 0, .long 0, .long 0, .ref (b 27), .ref (b 28), .ref (b 29), .long 0, .int 0, .int (-1), .int 0, .int 0, .int 0, .ref (b 36), .int 0, .int 0, .ref (b 39), .ref (b 40), .int 0, .ref (b 42), .ref (b 43), .int 0, .int 0, .int 0, .ref (b 47), .ref (b 48), .ref (b 49), .ref (b 50)])), ((b 47), .inl (J.2.1, 6, .inl g))] (vp_Si (fun r => r = sp_mayBe (d.toInt) (k.toInt))) := by
  refine rc_of (by decide) (Nat.le_of_ble_eq_true rfl) ?_
  intro p e s m below meth c ls hE hl hP hK
  obtain ⟨hx, hb, hr, hml, hown, hts, hlk, hin⟩ := hE
  have hown : s.vm.findClass RX12 = some m.cls := hown
  have hl : lv_has ls 3 [(0, .ref (b 0)), (1, .int d), (2, .int k)] := hl
  have rg_d := i_rng d
  have rg_k := i_rng k
  by_cases hd : 0 ≤ d.toInt ∧ d.toInt ≤ 5
  · refine lv_aload_n hx hb dX12_mayBe_0 rfl (lv_at hl 0 rfl) ?_
    refine lv_iload_n hx hb dX12_mayBe_1 rfl (lv_at hl 1 rfl) ?_
    refine go_i (rn_V (As := [.int d]) (rest := []) hx hb hml hown hts hK (m_bytesIn l J b g d hd hg) kV_RX12_237 hP rfl rfl rfl ⟨Nat.le_of_ble_eq_true rfl, Nat.le_of_ble_eq_true rfl⟩ rfl rfl rfl hl.1 rfl (Nat.le_of_ble_eq_true rfl) ⟨Nat.le_of_ble_eq_true rfl, Nat.le_of_ble_eq_true rfl⟩ dX12_mayBe_2) ?_
    refine lv_iconst (v := (-1)) hx hb dX12_mayBe_5 (by decide) ?_
    refine lv_icmp_eq (tgt := 13) hx hb dX12_mayBe_6 (by decide) (fun c => absurd c (by decide)) (fun _ => ?_)
    refine lv_iload_n hx hb dX12_mayBe_9 rfl (lv_at hl 2 rfl) ?_
    refine lv_if_ge (tgt := 15) hx hb dX12_mayBe_10 (by decide) (fun c1 => ?_) (fun c1 => ?_)
    · have j2 : 0 ≤ k.toInt := (i_le (by decide) rfl).mp c1
      refine lv_aload_n hx hb dX12_mayBe_15 rfl (lv_at hl 0 rfl) ?_
      refine lv_iload_n hx hb dX12_mayBe_16 rfl (lv_at hl 1 rfl) ?_
      refine go_i (rn_V (As := [.int d]) (rest := []) hx hb hml hown hts hK (m_bytesIn l J b g d hd hg) kV_RX12_237 hP rfl rfl rfl ⟨Nat.le_of_ble_eq_true rfl, Nat.le_of_ble_eq_true rfl⟩ rfl rfl rfl hl.1 rfl (Nat.le_of_ble_eq_true rfl) ⟨Nat.le_of_ble_eq_true rfl, Nat.le_of_ble_eq_true rfl⟩ dX12_mayBe_17) ?_
      refine lv_if_ge (tgt := 29) hx hb dX12_mayBe_20 (by decide) (fun c => absurd c (by decide)) (fun _ => ?_)
      refine lv_aload_n hx hb dX12_mayBe_23 rfl (lv_at hl 0 rfl) ?_
      refine lv_iload_n hx hb dX12_mayBe_24 rfl (lv_at hl 1 rfl) ?_
      refine go_i (rn_V (As := [.int d]) (rest := []) hx hb hml hown hts hK (m_bytesIn l J b g d hd hg) kV_RX12_237 hP rfl rfl rfl ⟨Nat.le_of_ble_eq_true rfl, Nat.le_of_ble_eq_true rfl⟩ rfl rfl rfl hl.1 rfl (Nat.le_of_ble_eq_true rfl) ⟨Nat.le_of_ble_eq_true rfl, Nat.le_of_ble_eq_true rfl⟩ dX12_mayBe_25) ?_
      exact rz_i hx hb hr hlk (by unfold sp_mayBe; (repeat' split) <;> first | rfl | (exfalso; omega)) dX12_mayBe_28
    · have j3 : ¬ (0 ≤ k.toInt) := fun h => c1 ((i_le (by decide) rfl).mpr h)
      refine lv_iconst (v := (-1)) hx hb dX12_mayBe_13 (by decide) ?_
      exact rz_i hx hb hr hlk (by unfold sp_mayBe; (repeat' split) <;> first | rfl | (exfalso; omega)) dX12_mayBe_14
  · refine lv_aload_n hx hb dX12_mayBe_0 rfl (lv_at hl 0 rfl) ?_
    refine lv_iload_n hx hb dX12_mayBe_1 rfl (lv_at hl 1 rfl) ?_
    refine go_i (rn_V (As := [.int d]) (rest := []) hx hb hml hown hts hK (m_bytesOut l J b g d hd hg) kV_RX12_237 hP rfl rfl rfl ⟨Nat.le_of_ble_eq_true rfl, Nat.le_of_ble_eq_true rfl⟩ rfl rfl rfl hl.1 rfl (Nat.le_of_ble_eq_true rfl) ⟨Nat.le_of_ble_eq_true rfl, Nat.le_of_ble_eq_true rfl⟩ dX12_mayBe_2) ?_
    refine lv_iconst (v := (-1)) hx hb dX12_mayBe_5 (by decide) ?_
    refine lv_icmp_eq (tgt := 13) hx hb dX12_mayBe_6 (by decide) (fun _ => ?_) (fun c => absurd c (by decide))
    refine lv_iconst (v := (-1)) hx hb dX12_mayBe_13 (by decide) ?_
    exact rz_i hx hb hr hlk (by unfold sp_mayBe; (repeat' split) <;> first | rfl | (exfalso; omega)) dX12_mayBe_14
theorem dX12_caught_0 : decode cX12_caught 0 = .ok (.aload_n 0, 1) := by decide +kernel
theorem dX12_caught_1 : decode cX12_caught 1 = .ok (.iload_n 1, 1) := by decide +kernel
theorem dX12_caught_2 : decode cX12_caught 2 = .ok (.invokevirtual 237, 3) := by decide +kernel
theorem dX12_caught_5 : decode cX12_caught 5 = .ok (.ifCond .ge 9, 3) := by decide +kernel
theorem dX12_caught_8 : decode cX12_caught 8 = .ok (.aload_n 0, 1) := by decide +kernel
theorem dX12_caught_9 : decode cX12_caught 9 = .ok (.iload_n 1, 1) := by decide +kernel
theorem dX12_caught_10 : decode cX12_caught 10 = .ok (.invokevirtual 237, 3) := by decide +kernel
theorem dX12_caught_13 : decode cX12_caught 13 = .ok (.ireturn, 1) := by decide +kernel
set_option maxHeartbeats 4000000 in
set_option maxRecDepth 100000 in
theorem m_caught (l : Launch) (J : va_J9) (b : Nat → Nat) (g : Nat → Int32) (d : Int32) (hg : ∀ k, k < 6 → g k = -1) : RC l J yX12_caught cX12_caught 3 (some .int) ({ frames := 3, cells := 0, slots := 0, locals := 66 }) [.ref (b 0), .int d] [((b 0), .inr (12, [.ref (b 1), .ref (b 2), .ref (b 3), .ref (b 4), .int 0, .int 0, .int 0, .int 0, .ref (b 9), .ref (b 10), .int 0, .ref (b 12), .int (-1), .int 0, .int 0, .int 0, .int 0, .int 0, .ref (b 19), .ref (b 20), .ref (b 21), .ref (b 22), .ref (b 23), .long 0, .long 0, .long 0, .ref (b 27), .ref (b 28), .ref (b 29), .long 0, .int 0, .int (-1), .int 0, .int 0, .int 0, .ref (b 36), .int 0, .int 0, .ref (b 39), .ref (b 40), .int 0, .ref (b 42), .ref (b 43), .int 0, .int 0, .int 0, .ref (b 47), .ref (b 48), .ref (b 49), .ref (b 50)])), ((b 47), .inl (J.2.1, 6, .inl g))] (vp_Si (fun r => r = sp_caught (d.toInt))) := by
  refine rc_of (by decide) (Nat.le_of_ble_eq_true rfl) ?_
  intro p e s m below meth c ls hE hl hP hK
  obtain ⟨hx, hb, hr, hml, hown, hts, hlk, hin⟩ := hE
  have hown : s.vm.findClass RX12 = some m.cls := hown
  have hl : lv_has ls 3 [(0, .ref (b 0)), (1, .int d)] := hl
  have rg_d := i_rng d
  by_cases hd : 0 ≤ d.toInt ∧ d.toInt ≤ 5
  · refine lv_aload_n hx hb dX12_caught_0 rfl (lv_at hl 0 rfl) ?_
    refine lv_iload_n hx hb dX12_caught_1 rfl (lv_at hl 1 rfl) ?_
    refine go_i (rn_V (As := [.int d]) (rest := []) hx hb hml hown hts hK (m_bytesIn l J b g d hd hg) kV_RX12_237 hP rfl rfl rfl ⟨Nat.le_of_ble_eq_true rfl, Nat.le_of_ble_eq_true rfl⟩ rfl rfl rfl hl.1 rfl (Nat.le_of_ble_eq_true rfl) ⟨Nat.le_of_ble_eq_true rfl, Nat.le_of_ble_eq_true rfl⟩ dX12_caught_2) ?_
    refine lv_if_ge (tgt := 14) hx hb dX12_caught_5 (by decide) (fun c => absurd c (by decide)) (fun _ => ?_)
    refine lv_aload_n hx hb dX12_caught_8 rfl (lv_at hl 0 rfl) ?_
    refine lv_iload_n hx hb dX12_caught_9 rfl (lv_at hl 1 rfl) ?_
    refine go_i (rn_V (As := [.int d]) (rest := []) hx hb hml hown hts hK (m_bytesIn l J b g d hd hg) kV_RX12_237 hP rfl rfl rfl ⟨Nat.le_of_ble_eq_true rfl, Nat.le_of_ble_eq_true rfl⟩ rfl rfl rfl hl.1 rfl (Nat.le_of_ble_eq_true rfl) ⟨Nat.le_of_ble_eq_true rfl, Nat.le_of_ble_eq_true rfl⟩ dX12_caught_10) ?_
    exact rz_i hx hb hr hlk (by unfold sp_caught; (repeat' split) <;> first | rfl | (exfalso; omega)) dX12_caught_13
  · refine lv_aload_n hx hb dX12_caught_0 rfl (lv_at hl 0 rfl) ?_
    refine lv_iload_n hx hb dX12_caught_1 rfl (lv_at hl 1 rfl) ?_
    refine go_i (rn_V (As := [.int d]) (rest := []) hx hb hml hown hts hK (m_bytesOut l J b g d hd hg) kV_RX12_237 hP rfl rfl rfl ⟨Nat.le_of_ble_eq_true rfl, Nat.le_of_ble_eq_true rfl⟩ rfl rfl rfl hl.1 rfl (Nat.le_of_ble_eq_true rfl) ⟨Nat.le_of_ble_eq_true rfl, Nat.le_of_ble_eq_true rfl⟩ dX12_caught_2) ?_
    refine lv_if_ge (tgt := 14) hx hb dX12_caught_5 (by decide) (fun c => absurd c (by decide)) (fun _ => ?_)
    refine lv_aload_n hx hb dX12_caught_8 rfl (lv_at hl 0 rfl) ?_
    refine lv_iload_n hx hb dX12_caught_9 rfl (lv_at hl 1 rfl) ?_
    refine go_i (rn_V (As := [.int d]) (rest := []) hx hb hml hown hts hK (m_bytesOut l J b g d hd hg) kV_RX12_237 hP rfl rfl rfl ⟨Nat.le_of_ble_eq_true rfl, Nat.le_of_ble_eq_true rfl⟩ rfl rfl rfl hl.1 rfl (Nat.le_of_ble_eq_true rfl) ⟨Nat.le_of_ble_eq_true rfl, Nat.le_of_ble_eq_true rfl⟩ dX12_caught_10) ?_
    exact rz_i hx hb hr hlk (by unfold sp_caught; (repeat' split) <;> first | rfl | (exfalso; omega)) dX12_caught_13
theorem dX12_printed_0 : decode cX12_printed 0 = .ok (.aload_n 0, 1) := by decide +kernel
theorem dX12_printed_1 : decode cX12_printed 1 = .ok (.iload_n 1, 1) := by decide +kernel
theorem q_1593 : Cond.methodLink RX12 247 yX12_bothIs ∈ lw_g := mem_q 1593 (by decide +kernel) rfl
theorem q_1595 : Cond.instanceMethod yX12_bothIs ∈ lw_g := mem_q 1595 (by decide +kernel) rfl
theorem q_74 : Cond.selects RX12 yX12_bothIs yX12_bothIs ∈ lw_g := mem_q 74 (by decide +kernel) rfl
theorem q_1596 : Cond.code yX12_bothIs cX12_bothIs 2 (some .int) ∈ lw_g := mem_q 1596 (by decide +kernel) rfl
theorem kV_RX12_247 : CV RX12 247 RX12 yX12_bothIs cX12_bothIs 2 (some .int) 1 := cv_of q_1593 q_1595 q_74 q_115 q_1596 (by decide +kernel)
theorem dX12_printed_2 : decode cX12_printed 2 = .ok (.invokevirtual 247, 3) := by decide +kernel
theorem dX12_printed_5 : decode cX12_printed 5 = .ok (.iconst (-1), 1) := by decide +kernel
theorem dX12_printed_6 : decode cX12_printed 6 = .ok (.if_icmp .eq 7, 3) := by decide +kernel
theorem dX12_printed_9 : decode cX12_printed 9 = .ok (.iload_n 2, 1) := by decide +kernel
theorem dX12_printed_10 : decode cX12_printed 10 = .ok (.ifCond .ge 5, 3) := by decide +kernel
theorem dX12_printed_15 : decode cX12_printed 15 = .ok (.aload_n 0, 1) := by decide +kernel
theorem dX12_printed_16 : decode cX12_printed 16 = .ok (.iload_n 1, 1) := by decide +kernel
theorem dX12_printed_17 : decode cX12_printed 17 = .ok (.invokevirtual 247, 3) := by decide +kernel
theorem dX12_printed_20 : decode cX12_printed 20 = .ok (.ifCond .ge 9, 3) := by decide +kernel
theorem dX12_printed_23 : decode cX12_printed 23 = .ok (.aload_n 0, 1) := by decide +kernel
theorem dX12_printed_24 : decode cX12_printed 24 = .ok (.iload_n 1, 1) := by decide +kernel
theorem dX12_printed_25 : decode cX12_printed 25 = .ok (.invokevirtual 247, 3) := by decide +kernel
theorem dX12_printed_28 : decode cX12_printed 28 = .ok (.ireturn, 1) := by decide +kernel
theorem dX12_printed_13 : decode cX12_printed 13 = .ok (.iconst (-1), 1) := by decide +kernel
theorem dX12_printed_14 : decode cX12_printed 14 = .ok (.ireturn, 1) := by decide +kernel
set_option maxHeartbeats 4000000 in
set_option maxRecDepth 100000 in
theorem m_printed (l : Launch) (J : va_J9) (b : Nat → Nat) (g : Nat → Int32) (x : Int32) (k : Int32) (hg : ∀ k, k < 6 → g k = -1) : RC l J yX12_printed cX12_printed 3 (some .int) ({ frames := 3, cells := 0, slots := 0, locals := 66 }) [.ref (b 0), .int x, .int k] [((b 0), .inr (12, [.ref (b 1), .ref (b 2), .ref (b 3), .ref (b 4), .int 0, .int 0, .int 0, .int 0, .ref (b 9), .ref (b 10), .int 0, .ref (b 12), .int (-1), .int 0, .int 0, .int 0, .int 0, .int 0, .ref (b 19), .ref (b 20), .ref (b 21), .ref (b 22), .ref (b 23), .long 0, .long 0, .long 0, .ref (b 27), .ref (b 28), .ref (b 29), .long 0, .int 0, .int (-1), .int 0, .int 0, .int 0, .ref (b 36), .int 0, .int 0, .ref (b 39), .ref (b 40), .int 0, .ref (b 42), .ref (b 43), .int 0, .int 0, .int 0, .ref (b 47), .ref (b 48), .ref (b 49), .ref (b 50)])), ((b 47), .inl (J.2.1, 6, .inl g))] (vp_Si (fun r => r = sp_two (x.toInt) (k.toInt) (0))) := by
  refine rc_of (by decide) (Nat.le_of_ble_eq_true rfl) ?_
  intro p e s m below meth c ls hE hl hP hK
  obtain ⟨hx, hb, hr, hml, hown, hts, hlk, hin⟩ := hE
  have hown : s.vm.findClass RX12 = some m.cls := hown
  have hl : lv_has ls 3 [(0, .ref (b 0)), (1, .int x), (2, .int k)] := hl
  have rg_x := i_rng x
  have rg_k := i_rng k
  by_cases hd : 0 ≤ x.toInt ∧ x.toInt / 10 ≤ 5 ∧ x.toInt % 10 ≤ 5
  · refine lv_aload_n hx hb dX12_printed_0 rfl (lv_at hl 0 rfl) ?_
    refine lv_iload_n hx hb dX12_printed_1 rfl (lv_at hl 1 rfl) ?_
    refine go_i (rn_V (As := [.int x]) (rest := []) hx hb hml hown hts hK (m_bothIn l J b g x hd hg) kV_RX12_247 hP rfl rfl rfl ⟨Nat.le_of_ble_eq_true rfl, Nat.le_of_ble_eq_true rfl⟩ rfl rfl rfl hl.1 rfl (Nat.le_of_ble_eq_true rfl) ⟨Nat.le_of_ble_eq_true rfl, Nat.le_of_ble_eq_true rfl⟩ dX12_printed_2) ?_
    refine lv_iconst (v := (-1)) hx hb dX12_printed_5 (by decide) ?_
    refine lv_icmp_eq (tgt := 13) hx hb dX12_printed_6 (by decide) (fun c => absurd c (by decide)) (fun _ => ?_)
    refine lv_iload_n hx hb dX12_printed_9 rfl (lv_at hl 2 rfl) ?_
    refine lv_if_ge (tgt := 15) hx hb dX12_printed_10 (by decide) (fun c1 => ?_) (fun c1 => ?_)
    · have j2 : 0 ≤ k.toInt := (i_le (by decide) rfl).mp c1
      refine lv_aload_n hx hb dX12_printed_15 rfl (lv_at hl 0 rfl) ?_
      refine lv_iload_n hx hb dX12_printed_16 rfl (lv_at hl 1 rfl) ?_
      refine go_i (rn_V (As := [.int x]) (rest := []) hx hb hml hown hts hK (m_bothIn l J b g x hd hg) kV_RX12_247 hP rfl rfl rfl ⟨Nat.le_of_ble_eq_true rfl, Nat.le_of_ble_eq_true rfl⟩ rfl rfl rfl hl.1 rfl (Nat.le_of_ble_eq_true rfl) ⟨Nat.le_of_ble_eq_true rfl, Nat.le_of_ble_eq_true rfl⟩ dX12_printed_17) ?_
      refine lv_if_ge (tgt := 29) hx hb dX12_printed_20 (by decide) (fun c => absurd c (by decide)) (fun _ => ?_)
      refine lv_aload_n hx hb dX12_printed_23 rfl (lv_at hl 0 rfl) ?_
      refine lv_iload_n hx hb dX12_printed_24 rfl (lv_at hl 1 rfl) ?_
      refine go_i (rn_V (As := [.int x]) (rest := []) hx hb hml hown hts hK (m_bothIn l J b g x hd hg) kV_RX12_247 hP rfl rfl rfl ⟨Nat.le_of_ble_eq_true rfl, Nat.le_of_ble_eq_true rfl⟩ rfl rfl rfl hl.1 rfl (Nat.le_of_ble_eq_true rfl) ⟨Nat.le_of_ble_eq_true rfl, Nat.le_of_ble_eq_true rfl⟩ dX12_printed_25) ?_
      exact rz_i hx hb hr hlk (by unfold sp_two; (repeat' split) <;> first | rfl | (exfalso; omega)) dX12_printed_28
    · have j3 : ¬ (0 ≤ k.toInt) := fun h => c1 ((i_le (by decide) rfl).mpr h)
      refine lv_iconst (v := (-1)) hx hb dX12_printed_13 (by decide) ?_
      exact rz_i hx hb hr hlk (by unfold sp_two; (repeat' split) <;> first | rfl | (exfalso; omega)) dX12_printed_14
  · refine lv_aload_n hx hb dX12_printed_0 rfl (lv_at hl 0 rfl) ?_
    refine lv_iload_n hx hb dX12_printed_1 rfl (lv_at hl 1 rfl) ?_
    refine go_i (rn_V (As := [.int x]) (rest := []) hx hb hml hown hts hK (m_bothOut l J b g x hd hg) kV_RX12_247 hP rfl rfl rfl ⟨Nat.le_of_ble_eq_true rfl, Nat.le_of_ble_eq_true rfl⟩ rfl rfl rfl hl.1 rfl (Nat.le_of_ble_eq_true rfl) ⟨Nat.le_of_ble_eq_true rfl, Nat.le_of_ble_eq_true rfl⟩ dX12_printed_2) ?_
    refine lv_iconst (v := (-1)) hx hb dX12_printed_5 (by decide) ?_
    refine lv_icmp_eq (tgt := 13) hx hb dX12_printed_6 (by decide) (fun _ => ?_) (fun c => absurd c (by decide))
    refine lv_iconst (v := (-1)) hx hb dX12_printed_13 (by decide) ?_
    exact rz_i hx hb hr hlk (by unfold sp_two; (repeat' split) <;> first | rfl | (exfalso; omega)) dX12_printed_14
theorem dX12_ahead_0 : decode cX12_ahead 0 = .ok (.aload_n 0, 1) := by decide +kernel
theorem dX12_ahead_1 : decode cX12_ahead 1 = .ok (.iload_n 1, 1) := by decide +kernel
theorem dX12_ahead_2 : decode cX12_ahead 2 = .ok (.invokevirtual 247, 3) := by decide +kernel
theorem dX12_ahead_5 : decode cX12_ahead 5 = .ok (.iconst (-1), 1) := by decide +kernel
theorem dX12_ahead_6 : decode cX12_ahead 6 = .ok (.if_icmp .eq 8, 3) := by decide +kernel
theorem dX12_ahead_9 : decode cX12_ahead 9 = .ok (.iload_n 2, 1) := by decide +kernel
theorem dX12_ahead_10 : decode cX12_ahead 10 = .ok (.iconst 1, 1) := by decide +kernel
theorem dX12_ahead_11 : decode cX12_ahead 11 = .ok (.if_icmp .ge 5, 3) := by decide +kernel
theorem dX12_ahead_16 : decode cX12_ahead 16 = .ok (.aload_n 0, 1) := by decide +kernel
theorem dX12_ahead_17 : decode cX12_ahead 17 = .ok (.iload_n 1, 1) := by decide +kernel
theorem dX12_ahead_18 : decode cX12_ahead 18 = .ok (.invokevirtual 247, 3) := by decide +kernel
theorem dX12_ahead_21 : decode cX12_ahead 21 = .ok (.ifCond .ge 9, 3) := by decide +kernel
theorem dX12_ahead_24 : decode cX12_ahead 24 = .ok (.aload_n 0, 1) := by decide +kernel
theorem dX12_ahead_25 : decode cX12_ahead 25 = .ok (.iload_n 1, 1) := by decide +kernel
theorem dX12_ahead_26 : decode cX12_ahead 26 = .ok (.invokevirtual 247, 3) := by decide +kernel
theorem dX12_ahead_29 : decode cX12_ahead 29 = .ok (.ireturn, 1) := by decide +kernel
theorem dX12_ahead_14 : decode cX12_ahead 14 = .ok (.iconst (-1), 1) := by decide +kernel
theorem dX12_ahead_15 : decode cX12_ahead 15 = .ok (.ireturn, 1) := by decide +kernel
set_option maxHeartbeats 4000000 in
set_option maxRecDepth 100000 in
theorem m_ahead (l : Launch) (J : va_J9) (b : Nat → Nat) (g : Nat → Int32) (x : Int32) (k : Int32) (hg : ∀ k, k < 6 → g k = -1) : RC l J yX12_ahead cX12_ahead 10 (some .int) ({ frames := 3, cells := 0, slots := 0, locals := 66 }) [.ref (b 0), .int x, .int k] [((b 0), .inr (12, [.ref (b 1), .ref (b 2), .ref (b 3), .ref (b 4), .int 0, .int 0, .int 0, .int 0, .ref (b 9), .ref (b 10), .int 0, .ref (b 12), .int (-1), .int 0, .int 0, .int 0, .int 0, .int 0, .ref (b 19), .ref (b 20), .ref (b 21), .ref (b 22), .ref (b 23), .long 0, .long 0, .long 0, .ref (b 27), .ref (b 28), .ref (b 29), .long 0, .int 0, .int (-1), .int 0, .int 0, .int 0, .ref (b 36), .int 0, .int 0, .ref (b 39), .ref (b 40), .int 0, .ref (b 42), .ref (b 43), .int 0, .int 0, .int 0, .ref (b 47), .ref (b 48), .ref (b 49), .ref (b 50)])), ((b 47), .inl (J.2.1, 6, .inl g))] (vp_Si (fun r => r = sp_two (x.toInt) (k.toInt) (1))) := by
  refine rc_of (by decide) (Nat.le_of_ble_eq_true rfl) ?_
  intro p e s m below meth c ls hE hl hP hK
  obtain ⟨hx, hb, hr, hml, hown, hts, hlk, hin⟩ := hE
  have hown : s.vm.findClass RX12 = some m.cls := hown
  have hl : lv_has ls 10 [(0, .ref (b 0)), (1, .int x), (2, .int k)] := hl
  have rg_x := i_rng x
  have rg_k := i_rng k
  by_cases hd : 0 ≤ x.toInt ∧ x.toInt / 10 ≤ 5 ∧ x.toInt % 10 ≤ 5
  · refine lv_aload_n hx hb dX12_ahead_0 rfl (lv_at hl 0 rfl) ?_
    refine lv_iload_n hx hb dX12_ahead_1 rfl (lv_at hl 1 rfl) ?_
    refine go_i (rn_V (As := [.int x]) (rest := []) hx hb hml hown hts hK (m_bothIn l J b g x hd hg) kV_RX12_247 hP rfl rfl rfl ⟨Nat.le_of_ble_eq_true rfl, Nat.le_of_ble_eq_true rfl⟩ rfl rfl rfl hl.1 rfl (Nat.le_of_ble_eq_true rfl) ⟨Nat.le_of_ble_eq_true rfl, Nat.le_of_ble_eq_true rfl⟩ dX12_ahead_2) ?_
    refine lv_iconst (v := (-1)) hx hb dX12_ahead_5 (by decide) ?_
    refine lv_icmp_eq (tgt := 14) hx hb dX12_ahead_6 (by decide) (fun c => absurd c (by decide)) (fun _ => ?_)
    refine lv_iload_n hx hb dX12_ahead_9 rfl (lv_at hl 2 rfl) ?_
    refine lv_iconst (v := 1) hx hb dX12_ahead_10 (by decide) ?_
    refine lv_icmp_ge (tgt := 16) hx hb dX12_ahead_11 (by decide) (fun c1 => ?_) (fun c1 => ?_)
    · have j2 : 1 ≤ k.toInt := (i_le (by decide) rfl).mp c1
      refine lv_aload_n hx hb dX12_ahead_16 rfl (lv_at hl 0 rfl) ?_
      refine lv_iload_n hx hb dX12_ahead_17 rfl (lv_at hl 1 rfl) ?_
      refine go_i (rn_V (As := [.int x]) (rest := []) hx hb hml hown hts hK (m_bothIn l J b g x hd hg) kV_RX12_247 hP rfl rfl rfl ⟨Nat.le_of_ble_eq_true rfl, Nat.le_of_ble_eq_true rfl⟩ rfl rfl rfl hl.1 rfl (Nat.le_of_ble_eq_true rfl) ⟨Nat.le_of_ble_eq_true rfl, Nat.le_of_ble_eq_true rfl⟩ dX12_ahead_18) ?_
      refine lv_if_ge (tgt := 30) hx hb dX12_ahead_21 (by decide) (fun c => absurd c (by decide)) (fun _ => ?_)
      refine lv_aload_n hx hb dX12_ahead_24 rfl (lv_at hl 0 rfl) ?_
      refine lv_iload_n hx hb dX12_ahead_25 rfl (lv_at hl 1 rfl) ?_
      refine go_i (rn_V (As := [.int x]) (rest := []) hx hb hml hown hts hK (m_bothIn l J b g x hd hg) kV_RX12_247 hP rfl rfl rfl ⟨Nat.le_of_ble_eq_true rfl, Nat.le_of_ble_eq_true rfl⟩ rfl rfl rfl hl.1 rfl (Nat.le_of_ble_eq_true rfl) ⟨Nat.le_of_ble_eq_true rfl, Nat.le_of_ble_eq_true rfl⟩ dX12_ahead_26) ?_
      exact rz_i hx hb hr hlk (by unfold sp_two; (repeat' split) <;> first | rfl | (exfalso; omega)) dX12_ahead_29
    · have j3 : ¬ (1 ≤ k.toInt) := fun h => c1 ((i_le (by decide) rfl).mpr h)
      refine lv_iconst (v := (-1)) hx hb dX12_ahead_14 (by decide) ?_
      exact rz_i hx hb hr hlk (by unfold sp_two; (repeat' split) <;> first | rfl | (exfalso; omega)) dX12_ahead_15
  · refine lv_aload_n hx hb dX12_ahead_0 rfl (lv_at hl 0 rfl) ?_
    refine lv_iload_n hx hb dX12_ahead_1 rfl (lv_at hl 1 rfl) ?_
    refine go_i (rn_V (As := [.int x]) (rest := []) hx hb hml hown hts hK (m_bothOut l J b g x hd hg) kV_RX12_247 hP rfl rfl rfl ⟨Nat.le_of_ble_eq_true rfl, Nat.le_of_ble_eq_true rfl⟩ rfl rfl rfl hl.1 rfl (Nat.le_of_ble_eq_true rfl) ⟨Nat.le_of_ble_eq_true rfl, Nat.le_of_ble_eq_true rfl⟩ dX12_ahead_2) ?_
    refine lv_iconst (v := (-1)) hx hb dX12_ahead_5 (by decide) ?_
    refine lv_icmp_eq (tgt := 14) hx hb dX12_ahead_6 (by decide) (fun _ => ?_) (fun c => absurd c (by decide))
    refine lv_iconst (v := (-1)) hx hb dX12_ahead_14 (by decide) ?_
    exact rz_i hx hb hr hlk (by unfold sp_two; (repeat' split) <;> first | rfl | (exfalso; omega)) dX12_ahead_15
theorem dX12_judge_0 : decode cX12_judge 0 = .ok (.iload_n 1, 1) := by decide +kernel
theorem dX12_judge_1 : decode cX12_judge 1 = .ok (.ifCond .lt 23, 3) := by decide +kernel
theorem dX12_judge_24 : decode cX12_judge 24 = .ok (.iconst (-1), 1) := by decide +kernel
theorem dX12_judge_25 : decode cX12_judge 25 = .ok (.ireturn, 1) := by decide +kernel
theorem dX12_judge_4 : decode cX12_judge 4 = .ok (.iload_n 1, 1) := by decide +kernel
theorem dX12_judge_5 : decode cX12_judge 5 = .ok (.bipush 10, 2) := by decide +kernel
theorem dX12_judge_7 : decode cX12_judge 7 = .ok (.idiv, 1) := by decide +kernel
theorem dX12_judge_8 : decode cX12_judge 8 = .ok (.invokestatic 114, 3) := by decide +kernel
theorem dX12_judge_11 : decode cX12_judge 11 = .ok (.ifCond .eq 13, 3) := by decide +kernel
theorem dX12_judge_14 : decode cX12_judge 14 = .ok (.iload_n 1, 1) := by decide +kernel
theorem dX12_judge_15 : decode cX12_judge 15 = .ok (.bipush 10, 2) := by decide +kernel
theorem dX12_judge_17 : decode cX12_judge 17 = .ok (.irem, 1) := by decide +kernel
theorem dX12_judge_18 : decode cX12_judge 18 = .ok (.invokestatic 114, 3) := by decide +kernel
theorem dX12_judge_21 : decode cX12_judge 21 = .ok (.ifCond .ne 5, 3) := by decide +kernel
theorem dX12_judge_26 : decode cX12_judge 26 = .ok (.aload_n 0, 1) := by decide +kernel
theorem dX12_judge_27 : decode cX12_judge 27 = .ok (.getfield 73, 3) := by decide +kernel
theorem dX12_judge_30 : decode cX12_judge 30 = .ok (.iload_n 1, 1) := by decide +kernel
theorem dX12_judge_31 : decode cX12_judge 31 = .ok (.bipush 10, 2) := by decide +kernel
theorem dX12_judge_33 : decode cX12_judge 33 = .ok (.idiv, 1) := by decide +kernel
theorem dX12_judge_34 : decode cX12_judge 34 = .ok (.iaload, 1) := by decide +kernel
theorem dX12_judge_35 : decode cX12_judge 35 = .ok (.ifCond .lt 15, 3) := by decide +kernel
theorem dX12_judge_50 : decode cX12_judge 50 = .ok (.bipush (-11), 2) := by decide +kernel
theorem dX12_judge_52 : decode cX12_judge 52 = .ok (.ireturn, 1) := by decide +kernel
set_option maxHeartbeats 4000000 in
set_option maxRecDepth 100000 in
theorem m_judge (l : Launch) (J : va_J9) (b : Nat → Nat) (g : Nat → Int32) (x : Int32) (hg : ∀ k, k < 6 → g k = -1) : RC l J yX12_judge cX12_judge 8 (some .int) ({ frames := 2, cells := 0, slots := 0, locals := 45 }) [.ref (b 0), .int x] [((b 0), .inr (12, [.ref (b 1), .ref (b 2), .ref (b 3), .ref (b 4), .int 0, .int 0, .int 0, .int 0, .ref (b 9), .ref (b 10), .int 0, .ref (b 12), .int (-1), .int 0, .int 0, .int 0, .int 0, .int 0, .ref (b 19), .ref (b 20), .ref (b 21), .ref (b 22), .ref (b 23), .long 0, .long 0, .long 0, .ref (b 27), .ref (b 28), .ref (b 29), .long 0, .int 0, .int (-1), .int 0, .int 0, .int 0, .ref (b 36), .int 0, .int 0, .ref (b 39), .ref (b 40), .int 0, .ref (b 42), .ref (b 43), .int 0, .int 0, .int 0, .ref (b 47), .ref (b 48), .ref (b 49), .ref (b 50)])), ((b 47), .inl (J.2.1, 6, .inl g))] (vp_Si (fun r => r = sp_two (x.toInt) (0) (0))) := by
  refine rc_of (by decide) (Nat.le_of_ble_eq_true rfl) ?_
  intro p e s m below meth c ls hE hl hP hK
  obtain ⟨hx, hb, hr, hml, hown, hts, hlk, hin⟩ := hE
  have hown : s.vm.findClass RX12 = some m.cls := hown
  have hl : lv_has ls 8 [(0, .ref (b 0)), (1, .int x)] := hl
  have rg_x := i_rng x
  refine lv_iload_n hx hb dX12_judge_0 rfl (lv_at hl 1 rfl) ?_
  refine lv_if_lt (tgt := 24) hx hb dX12_judge_1 (by decide) (fun c1 => ?_) (fun c1 => ?_)
  · have j2 : x.toInt < 0 := (i_lt rfl (by decide)).mp c1
    refine lv_iconst (v := (-1)) hx hb dX12_judge_24 (by decide) ?_
    exact rz_i hx hb hr hlk (by unfold sp_two; (repeat' split) <;> first | rfl | (exfalso; omega)) dX12_judge_25
  · have j3 : ¬ (x.toInt < 0) := fun h => c1 ((i_lt rfl (by decide)).mpr h)
    refine lv_iload_n hx hb dX12_judge_4 rfl (lv_at hl 1 rfl) ?_
    refine lv_bipush (v := 10) hx hb dX12_judge_5 (by decide) ?_
    refine lv_idiv hx hb dX12_judge_7 (by decide) ?_
    have p4 : (x / 10).toInt = x.toInt / 10 := i_div rfl (by decide) (by omega) (by omega)
    refine go_i (rn_S (As := [.int (x / 10)]) (rest := []) hx hb hml hown hts hK (m_isShelf l J (x / 10)) kS_RX12_114 (hP.sub (ws' := []) [] rfl) ⟨Nat.le_of_ble_eq_true rfl, Nat.le_of_ble_eq_true rfl⟩ rfl rfl rfl hl.1 rfl (Nat.le_of_ble_eq_true rfl) ⟨Nat.le_of_ble_eq_true rfl, Nat.le_of_ble_eq_true rfl⟩ dX12_judge_8) ?_
    refine lv_if_eq (tgt := 24) hx hb dX12_judge_11 (by decide) (fun c5 => ?_) (fun c5 => ?_)
    · have j6 := b0 c5
      refine lv_iconst (v := (-1)) hx hb dX12_judge_24 (by decide) ?_
      exact rz_i hx hb hr hlk (by unfold sp_two; (repeat' split) <;> first | rfl | (exfalso; omega)) dX12_judge_25
    · have j7 := b1 c5
      refine lv_iload_n hx hb dX12_judge_14 rfl (lv_at hl 1 rfl) ?_
      refine lv_bipush (v := 10) hx hb dX12_judge_15 (by decide) ?_
      refine lv_irem hx hb dX12_judge_17 (by decide) ?_
      have p8 : (x - x / 10 * 10).toInt = x.toInt % 10 := i_rem rfl (by decide) (by omega) (by omega)
      refine go_i (rn_S (As := [.int (x - x / 10 * 10)]) (rest := []) hx hb hml hown hts hK (m_isShelf l J (x - x / 10 * 10)) kS_RX12_114 (hP.sub (ws' := []) [] rfl) ⟨Nat.le_of_ble_eq_true rfl, Nat.le_of_ble_eq_true rfl⟩ rfl rfl rfl hl.1 rfl (Nat.le_of_ble_eq_true rfl) ⟨Nat.le_of_ble_eq_true rfl, Nat.le_of_ble_eq_true rfl⟩ dX12_judge_18) ?_
      refine lv_if_ne (tgt := 26) hx hb dX12_judge_21 (by decide) (fun c9 => ?_) (fun c9 => ?_)
      · have j10 := b1 c9
        refine lv_aload_n hx hb dX12_judge_26 rfl (lv_at hl 0 rfl) ?_
        refine va_get (D := J.1) (ci := 12) (v := .ref (b 47)) (C := RX12) (T := TX12) (N := 50) hx hb hts inX12 hown hK.1 hP 0 rfl rfl 46 (by decide) (hts _ q_1312) (fun _ h9 => h9) rfl dX12_judge_27 ?_
        refine lv_iload_n hx hb dX12_judge_30 rfl (lv_at hl 1 rfl) ?_
        refine lv_bipush (v := 10) hx hb dX12_judge_31 (by decide) ?_
        refine lv_idiv hx hb dX12_judge_33 (by decide) ?_
        have p11 : (x / 10).toInt = x.toInt / 10 := i_div rfl (by decide) (by omega) (by omega)
        have h12 : vp_in (x / 10) 6 := (i_in (a := x.toInt / 10) p11 (by omega) (by omega))
        refine va_iald hx hb hK.1 hP 1 0 rfl rfl h12 dX12_judge_34 ?_
        refine top_i (y := (-1)) (hg _ (i_cl h12)) ?_
        refine lv_if_lt (tgt := 50) hx hb dX12_judge_35 (by decide) (fun _ => ?_) (fun c => absurd c (by decide))
        refine lv_bipush (v := (-11)) hx hb dX12_judge_50 (by decide) ?_
        exact rz_i hx hb hr hlk (by unfold sp_two; (repeat' split) <;> first | rfl | (exfalso; omega)) dX12_judge_52
      · have j13 := b0 c9
        refine lv_iconst (v := (-1)) hx hb dX12_judge_24 (by decide) ?_
        exact rz_i hx hb hr hlk (by unfold sp_two; (repeat' split) <;> first | rfl | (exfalso; omega)) dX12_judge_25
theorem dX12_ring_0 : decode cX12_ring 0 = .ok (.aload_n 0, 1) := by decide +kernel
theorem q_1565 : Cond.methodLink RX12 225 yX12_openSet ∈ lw_g := mem_q 1565 (by decide +kernel) rfl
theorem q_1567 : Cond.instanceMethod yX12_openSet ∈ lw_g := mem_q 1567 (by decide +kernel) rfl
theorem q_69 : Cond.selects RX12 yX12_openSet yX12_openSet ∈ lw_g := mem_q 69 (by decide +kernel) rfl
theorem q_1568 : Cond.code yX12_openSet cX12_openSet 3 (some .int) ∈ lw_g := mem_q 1568 (by decide +kernel) rfl
theorem kV_RX12_225 : CV RX12 225 RX12 yX12_openSet cX12_openSet 3 (some .int) 0 := cv_of q_1565 q_1567 q_69 q_115 q_1568 (by decide +kernel)
theorem dX12_ring_1 : decode cX12_ring 1 = .ok (.invokevirtual 225, 3) := by decide +kernel
theorem dX12_ring_4 : decode cX12_ring 4 = .ok (.istore_n 1, 1) := by decide +kernel
theorem dX12_ring_5 : decode cX12_ring 5 = .ok (.iconst 1, 1) := by decide +kernel
theorem dX12_ring_6 : decode cX12_ring 6 = .ok (.istore_n 2, 1) := by decide +kernel
theorem dX12_ring_7 : decode cX12_ring 7 = .ok (.iload_n 2, 1) := by decide +kernel
theorem dX12_ring_8 : decode cX12_ring 8 = .ok (.ifCond .eq 57, 3) := by decide +kernel
theorem dX12_ring_11 : decode cX12_ring 11 = .ok (.iconst 0, 1) := by decide +kernel
theorem dX12_ring_12 : decode cX12_ring 12 = .ok (.istore_n 2, 1) := by decide +kernel
theorem dX12_ring_13 : decode cX12_ring 13 = .ok (.iconst 0, 1) := by decide +kernel
theorem dX12_ring_14 : decode cX12_ring 14 = .ok (.istore_n 3, 1) := by decide +kernel
theorem dX12_ring_15 : decode cX12_ring 15 = .ok (.iload_n 3, 1) := by decide +kernel
theorem dX12_ring_16 : decode cX12_ring 16 = .ok (.aload_n 0, 1) := by decide +kernel
theorem dX12_ring_17 : decode cX12_ring 17 = .ok (.getfield 98, 3) := by decide +kernel
theorem dX12_ring_20 : decode cX12_ring 20 = .ok (.if_icmp .ge 42, 3) := by decide +kernel
theorem dX12_ring_62 : decode cX12_ring 62 = .ok (.goto (-55), 3) := by decide +kernel
theorem dX12_ring_65 : decode cX12_ring 65 = .ok (.iload_n 1, 1) := by decide +kernel
theorem dX12_ring_66 : decode cX12_ring 66 = .ok (.ifCond .ne 7, 3) := by decide +kernel
theorem dX12_ring_69 : decode cX12_ring 69 = .ok (.iconst 0, 1) := by decide +kernel
theorem dX12_ring_70 : decode cX12_ring 70 = .ok (.goto 4, 3) := by decide +kernel
theorem dX12_ring_74 : decode cX12_ring 74 = .ok (.ireturn, 1) := by decide +kernel
set_option maxHeartbeats 4000000 in
set_option maxRecDepth 100000 in
theorem m_ring (l : Launch) (J : va_J9) (b : Nat → Nat) : RC l J yX12_ring cX12_ring 4 (some .int) ({ frames := 1, cells := 0, slots := 0, locals := 22 }) [.ref (b 0)] [((b 0), .inr (12, [.ref (b 1), .ref (b 2), .ref (b 3), .ref (b 4), .int 0, .int 0, .int 0, .int 0, .ref (b 9), .ref (b 10), .int 0, .ref (b 12), .int (-1), .int 0, .int 0, .int 0, .int 0, .int 0, .ref (b 19), .ref (b 20), .ref (b 21), .ref (b 22), .ref (b 23), .long 0, .long 0, .long 0, .ref (b 27), .ref (b 28), .ref (b 29), .long 0, .int 0, .int (-1), .int 0, .int 0, .int 0, .ref (b 36), .int 0, .int 0, .ref (b 39), .ref (b 40), .int 0, .ref (b 42), .ref (b 43), .int 0, .int 0, .int 0, .ref (b 47), .ref (b 48), .ref (b 49), .ref (b 50)]))] (vp_Si (fun r => r = 0)) := by
  refine rc_of (by decide) (Nat.le_of_ble_eq_true rfl) ?_
  intro p e s m below meth c ls hE hl hP hK
  obtain ⟨hx, hb, hr, hml, hown, hts, hlk, hin⟩ := hE
  have hown : s.vm.findClass RX12 = some m.cls := hown
  have hl : lv_has ls 4 [(0, .ref (b 0))] := hl
  refine lv_aload_n hx hb dX12_ring_0 rfl (lv_at hl 0 rfl) ?_
  refine go_i (rn_V (As := []) (rest := []) hx hb hml hown hts hK (m_openSet l J b) kV_RX12_225 hP rfl rfl rfl ⟨Nat.le_of_ble_eq_true rfl, Nat.le_of_ble_eq_true rfl⟩ rfl rfl rfl hl.1 rfl (Nat.le_of_ble_eq_true rfl) ⟨Nat.le_of_ble_eq_true rfl, Nat.le_of_ble_eq_true rfl⟩ dX12_ring_1) ?_
  refine lv_istore_n (lv' := [(1, .int 0), (0, .ref (b 0))]) hx hb dX12_ring_4 rfl hl (by decide) rfl (fun ls hl => ?_)
  refine lv_iconst (v := 1) hx hb dX12_ring_5 (by decide) ?_
  refine lv_istore_n (lv' := [(2, .int 1), (1, .int 0), (0, .ref (b 0))]) hx hb dX12_ring_6 rfl hl (by decide) rfl (fun ls hl => ?_)
  refine lv_iload_n hx hb dX12_ring_7 rfl (lv_at hl 0 rfl) ?_
  refine lv_if_eq (tgt := 65) hx hb dX12_ring_8 (by decide) (fun c => absurd c (by decide)) (fun _ => ?_)
  refine lv_iconst (v := 0) hx hb dX12_ring_11 (by decide) ?_
  refine lv_istore_n (lv' := [(2, .int 0), (1, .int 0), (0, .ref (b 0))]) hx hb dX12_ring_12 rfl hl (by decide) rfl (fun ls hl => ?_)
  refine lv_iconst (v := 0) hx hb dX12_ring_13 (by decide) ?_
  refine lv_istore_n (lv' := [(3, .int 0), (2, .int 0), (1, .int 0), (0, .ref (b 0))]) hx hb dX12_ring_14 rfl hl (by decide) rfl (fun ls hl => ?_)
  refine lv_iload_n hx hb dX12_ring_15 rfl (lv_at hl 0 rfl) ?_
  refine lv_aload_n hx hb dX12_ring_16 rfl (lv_at hl 3 rfl) ?_
  refine va_get (D := J.1) (ci := 12) (v := .int 0) (C := RX12) (T := TX12) (N := 50) hx hb hts inX12 hown hK.1 hP 0 rfl rfl 6 (by decide) (hts _ q_1272) (fun _ h9 => h9) rfl dX12_ring_17 ?_
  refine lv_icmp_ge (tgt := 62) hx hb dX12_ring_20 (by decide) (fun _ => ?_) (fun c => absurd c (by decide))
  refine lv_goto (tgt := 7) hx hb dX12_ring_62 (by decide) ?_
  refine lv_iload_n hx hb dX12_ring_7 rfl (lv_at hl 1 rfl) ?_
  refine lv_if_eq (tgt := 65) hx hb dX12_ring_8 (by decide) (fun _ => ?_) (fun c => absurd c (by decide))
  refine lv_iload_n hx hb dX12_ring_65 rfl (lv_at hl 2 rfl) ?_
  refine lv_if_ne (tgt := 73) hx hb dX12_ring_66 (by decide) (fun c => absurd c (by decide)) (fun _ => ?_)
  refine lv_iconst (v := 0) hx hb dX12_ring_69 (by decide) ?_
  refine lv_goto (tgt := 74) hx hb dX12_ring_70 (by decide) ?_
  exact rz_i hx hb hr hlk (by decide) dX12_ring_74
theorem dX12_arms_0 : decode cX12_arms 0 = .ok (.aload_n 0, 1) := by decide +kernel
theorem dX12_arms_1 : decode cX12_arms 1 = .ok (.invokevirtual 225, 3) := by decide +kernel
theorem dX12_arms_4 : decode cX12_arms 4 = .ok (.istore_n 1, 1) := by decide +kernel
theorem dX12_arms_5 : decode cX12_arms 5 = .ok (.iconst 0, 1) := by decide +kernel
theorem dX12_arms_6 : decode cX12_arms 6 = .ok (.istore_n 2, 1) := by decide +kernel
theorem dX12_arms_7 : decode cX12_arms 7 = .ok (.iconst 0, 1) := by decide +kernel
theorem dX12_arms_8 : decode cX12_arms 8 = .ok (.istore_n 3, 1) := by decide +kernel
theorem dX12_arms_9 : decode cX12_arms 9 = .ok (.iload_n 3, 1) := by decide +kernel
theorem dX12_arms_10 : decode cX12_arms 10 = .ok (.aload_n 0, 1) := by decide +kernel
theorem dX12_arms_11 : decode cX12_arms 11 = .ok (.getfield 98, 3) := by decide +kernel
theorem dX12_arms_14 : decode cX12_arms 14 = .ok (.if_icmp .ge 38, 3) := by decide +kernel
theorem dX12_arms_52 : decode cX12_arms 52 = .ok (.iload_n 2, 1) := by decide +kernel
theorem dX12_arms_53 : decode cX12_arms 53 = .ok (.ireturn, 1) := by decide +kernel
set_option maxHeartbeats 4000000 in
set_option maxRecDepth 100000 in
theorem m_arms (l : Launch) (J : va_J9) (b : Nat → Nat) : RC l J yX12_arms cX12_arms 4 (some .int) ({ frames := 1, cells := 0, slots := 0, locals := 22 }) [.ref (b 0)] [((b 0), .inr (12, [.ref (b 1), .ref (b 2), .ref (b 3), .ref (b 4), .int 0, .int 0, .int 0, .int 0, .ref (b 9), .ref (b 10), .int 0, .ref (b 12), .int (-1), .int 0, .int 0, .int 0, .int 0, .int 0, .ref (b 19), .ref (b 20), .ref (b 21), .ref (b 22), .ref (b 23), .long 0, .long 0, .long 0, .ref (b 27), .ref (b 28), .ref (b 29), .long 0, .int 0, .int (-1), .int 0, .int 0, .int 0, .ref (b 36), .int 0, .int 0, .ref (b 39), .ref (b 40), .int 0, .ref (b 42), .ref (b 43), .int 0, .int 0, .int 0, .ref (b 47), .ref (b 48), .ref (b 49), .ref (b 50)]))] (vp_Si (fun r => r = 0)) := by
  refine rc_of (by decide) (Nat.le_of_ble_eq_true rfl) ?_
  intro p e s m below meth c ls hE hl hP hK
  obtain ⟨hx, hb, hr, hml, hown, hts, hlk, hin⟩ := hE
  have hown : s.vm.findClass RX12 = some m.cls := hown
  have hl : lv_has ls 4 [(0, .ref (b 0))] := hl
  refine lv_aload_n hx hb dX12_arms_0 rfl (lv_at hl 0 rfl) ?_
  refine go_i (rn_V (As := []) (rest := []) hx hb hml hown hts hK (m_openSet l J b) kV_RX12_225 hP rfl rfl rfl ⟨Nat.le_of_ble_eq_true rfl, Nat.le_of_ble_eq_true rfl⟩ rfl rfl rfl hl.1 rfl (Nat.le_of_ble_eq_true rfl) ⟨Nat.le_of_ble_eq_true rfl, Nat.le_of_ble_eq_true rfl⟩ dX12_arms_1) ?_
  refine lv_istore_n (lv' := [(1, .int 0), (0, .ref (b 0))]) hx hb dX12_arms_4 rfl hl (by decide) rfl (fun ls hl => ?_)
  refine lv_iconst (v := 0) hx hb dX12_arms_5 (by decide) ?_
  refine lv_istore_n (lv' := [(2, .int 0), (1, .int 0), (0, .ref (b 0))]) hx hb dX12_arms_6 rfl hl (by decide) rfl (fun ls hl => ?_)
  refine lv_iconst (v := 0) hx hb dX12_arms_7 (by decide) ?_
  refine lv_istore_n (lv' := [(3, .int 0), (2, .int 0), (1, .int 0), (0, .ref (b 0))]) hx hb dX12_arms_8 rfl hl (by decide) rfl (fun ls hl => ?_)
  refine lv_iload_n hx hb dX12_arms_9 rfl (lv_at hl 0 rfl) ?_
  refine lv_aload_n hx hb dX12_arms_10 rfl (lv_at hl 3 rfl) ?_
  refine va_get (D := J.1) (ci := 12) (v := .int 0) (C := RX12) (T := TX12) (N := 50) hx hb hts inX12 hown hK.1 hP 0 rfl rfl 6 (by decide) (hts _ q_1272) (fun _ h9 => h9) rfl dX12_arms_11 ?_
  refine lv_icmp_ge (tgt := 52) hx hb dX12_arms_14 (by decide) (fun _ => ?_) (fun c => absurd c (by decide))
  refine lv_iload_n hx hb dX12_arms_52 rfl (lv_at hl 1 rfl) ?_
  exact rz_i hx hb hr hlk (by decide) dX12_arms_53
theorem dX12_toStop_0 : decode cX12_toStop 0 = .ok (.iload_n 1, 1) := by decide +kernel
theorem dX12_toStop_1 : decode cX12_toStop 1 = .ok (.i2l, 1) := by decide +kernel
theorem dX12_toStop_2 : decode cX12_toStop 2 = .ok (.lconst 1, 1) := by decide +kernel
theorem q_1655 : Cond.constantLong RX12 275 40 ∈ lw_g := mem_q 1655 (by decide +kernel) rfl
theorem dX12_toStop_3 : decode cX12_toStop 3 = .ok (.ldc2_w 275, 3) := by decide +kernel
theorem dX12_toStop_6 : decode cX12_toStop 6 = .ok (.invokestatic 101, 3) := by decide +kernel
theorem dX12_toStop_9 : decode cX12_toStop 9 = .ok (.ifCond .ne 5, 3) := by decide +kernel
theorem dX12_toStop_14 : decode cX12_toStop 14 = .ok (.aload_n 0, 1) := by decide +kernel
theorem dX12_toStop_15 : decode cX12_toStop 15 = .ok (.invokevirtual 225, 3) := by decide +kernel
theorem dX12_toStop_18 : decode cX12_toStop 18 = .ok (.istore_n 2, 1) := by decide +kernel
theorem dX12_toStop_19 : decode cX12_toStop 19 = .ok (.iload_n 2, 1) := by decide +kernel
theorem dX12_toStop_20 : decode cX12_toStop 20 = .ok (.istore_n 3, 1) := by decide +kernel
theorem dX12_toStop_21 : decode cX12_toStop 21 = .ok (.iconst 0, 1) := by decide +kernel
theorem dX12_toStop_22 : decode cX12_toStop 22 = .ok (.istore 4, 2) := by decide +kernel
theorem dX12_toStop_24 : decode cX12_toStop 24 = .ok (.iload 4, 2) := by decide +kernel
theorem dX12_toStop_26 : decode cX12_toStop 26 = .ok (.iconst 1, 1) := by decide +kernel
theorem dX12_toStop_27 : decode cX12_toStop 27 = .ok (.aload_n 0, 1) := by decide +kernel
theorem dX12_toStop_28 : decode cX12_toStop 28 = .ok (.getfield 98, 3) := by decide +kernel
theorem dX12_toStop_31 : decode cX12_toStop 31 = .ok (.ishl, 1) := by decide +kernel
theorem dX12_toStop_32 : decode cX12_toStop 32 = .ok (.if_icmp .ge 47, 3) := by decide +kernel
theorem dX12_toStop_35 : decode cX12_toStop 35 = .ok (.iload 4, 2) := by decide +kernel
theorem dX12_toStop_37 : decode cX12_toStop 37 = .ok (.iload_n 2, 1) := by decide +kernel
theorem dX12_toStop_38 : decode cX12_toStop 38 = .ok (.iconst (-1), 1) := by decide +kernel
theorem dX12_toStop_39 : decode cX12_toStop 39 = .ok (.ixor, 1) := by decide +kernel
theorem dX12_toStop_40 : decode cX12_toStop 40 = .ok (.iand, 1) := by decide +kernel
theorem dX12_toStop_41 : decode cX12_toStop 41 = .ok (.ifCond .ne 30, 3) := by decide +kernel
theorem dX12_toStop_44 : decode cX12_toStop 44 = .ok (.iload 4, 2) := by decide +kernel
theorem q_1457 : Cond.methodLink RX12 130 yX12_bitsOf ∈ lw_g := mem_q 1457 (by decide +kernel) rfl
theorem q_1458 : Cond.static yX12_bitsOf ∈ lw_g := mem_q 1458 (by decide +kernel) rfl
theorem q_1459 : Cond.code yX12_bitsOf cX12_bitsOf 3 (some .int) ∈ lw_g := mem_q 1459 (by decide +kernel) rfl
theorem kS_RX12_130 : CS RX12 130 yX12_bitsOf cX12_bitsOf 3 (some .int) 1 := cs_of q_1457 q_1458 q_115 q_1459 (by decide +kernel)
theorem dX12_toStop_46 : decode cX12_toStop 46 = .ok (.invokestatic 130, 3) := by decide +kernel
theorem dX12_toStop_49 : decode cX12_toStop 49 = .ok (.iload_n 3, 1) := by decide +kernel
theorem dX12_toStop_50 : decode cX12_toStop 50 = .ok (.invokestatic 130, 3) := by decide +kernel
theorem dX12_toStop_53 : decode cX12_toStop 53 = .ok (.if_icmp .ge 18, 3) := by decide +kernel
theorem dX12_toStop_71 : decode cX12_toStop 71 = .ok (.iload_n 3, 1) := by decide +kernel
theorem dX12_toStop_72 : decode cX12_toStop 72 = .ok (.istore_n 3, 1) := by decide +kernel
theorem dX12_toStop_73 : decode cX12_toStop 73 = .ok (.iinc 4 1, 3) := by decide +kernel
theorem dX12_toStop_76 : decode cX12_toStop 76 = .ok (.goto (-52), 3) := by decide +kernel
theorem dX12_toStop_79 : decode cX12_toStop 79 = .ok (.iload_n 3, 1) := by decide +kernel
theorem dX12_toStop_80 : decode cX12_toStop 80 = .ok (.ireturn, 1) := by decide +kernel
theorem dX12_toStop_12 : decode cX12_toStop 12 = .ok (.iconst (-1), 1) := by decide +kernel
theorem dX12_toStop_13 : decode cX12_toStop 13 = .ok (.ireturn, 1) := by decide +kernel
set_option maxHeartbeats 4000000 in
set_option maxRecDepth 100000 in
theorem m_toStop (l : Launch) (J : va_J9) (b : Nat → Nat) (n : Int32) : RC l J yX12_toStop cX12_toStop 5 (some .int) ({ frames := 1, cells := 0, slots := 0, locals := 25 }) [.ref (b 0), .int n] [((b 0), .inr (12, [.ref (b 1), .ref (b 2), .ref (b 3), .ref (b 4), .int 0, .int 0, .int 0, .int 0, .ref (b 9), .ref (b 10), .int 0, .ref (b 12), .int (-1), .int 0, .int 0, .int 0, .int 0, .int 0, .ref (b 19), .ref (b 20), .ref (b 21), .ref (b 22), .ref (b 23), .long 0, .long 0, .long 0, .ref (b 27), .ref (b 28), .ref (b 29), .long 0, .int 0, .int (-1), .int 0, .int 0, .int 0, .ref (b 36), .int 0, .int 0, .ref (b 39), .ref (b 40), .int 0, .ref (b 42), .ref (b 43), .int 0, .int 0, .int 0, .ref (b 47), .ref (b 48), .ref (b 49), .ref (b 50)]))] (vp_Si (fun r => r = sp_toStop (n.toInt))) := by
  refine rc_of (by decide) (Nat.le_of_ble_eq_true rfl) ?_
  intro p e s m below meth c ls hE hl hP hK
  obtain ⟨hx, hb, hr, hml, hown, hts, hlk, hin⟩ := hE
  have hown : s.vm.findClass RX12 = some m.cls := hown
  have hl : lv_has ls 5 [(0, .ref (b 0)), (1, .int n)] := hl
  have rg_n := i_rng n
  refine lv_iload_n hx hb dX12_toStop_0 rfl (lv_at hl 1 rfl) ?_
  refine lv_i2l (v := n.toInt64) hx hb dX12_toStop_1 rfl ?_
  refine lv_lconst (v := 1) hx hb dX12_toStop_2 (by decide) ?_
  refine lv_ldc2 (v := 40) hx hb hown (hts _ q_1655) dX12_toStop_3 ?_
  refine go_i (rn_S (As := [.long n.toInt64, .long 1, .long 40]) (rest := []) hx hb hml hown hts hK (m_within l J n.toInt64 1 40 n.toInt 1 40 (i_wide rfl) (by decide) (by decide)) kS_RX12_101 (hP.sub (ws' := []) [] rfl) ⟨Nat.le_of_ble_eq_true rfl, Nat.le_of_ble_eq_true rfl⟩ rfl rfl rfl hl.1 rfl (Nat.le_of_ble_eq_true rfl) ⟨Nat.le_of_ble_eq_true rfl, Nat.le_of_ble_eq_true rfl⟩ dX12_toStop_6) ?_
  refine lv_if_ne (tgt := 14) hx hb dX12_toStop_9 (by decide) (fun c1 => ?_) (fun c1 => ?_)
  · have j2 := b1 c1
    refine lv_aload_n hx hb dX12_toStop_14 rfl (lv_at hl 0 rfl) ?_
    refine go_i (rn_V (As := []) (rest := []) hx hb hml hown hts hK (m_openSet l J b) kV_RX12_225 hP rfl rfl rfl ⟨Nat.le_of_ble_eq_true rfl, Nat.le_of_ble_eq_true rfl⟩ rfl rfl rfl hl.1 rfl (Nat.le_of_ble_eq_true rfl) ⟨Nat.le_of_ble_eq_true rfl, Nat.le_of_ble_eq_true rfl⟩ dX12_toStop_15) ?_
    refine lv_istore_n (lv' := [(2, .int 0), (0, .ref (b 0)), (1, .int n)]) hx hb dX12_toStop_18 rfl hl (by decide) rfl (fun ls hl => ?_)
    refine lv_iload_n hx hb dX12_toStop_19 rfl (lv_at hl 0 rfl) ?_
    refine lv_istore_n (lv' := [(3, .int 0), (2, .int 0), (0, .ref (b 0)), (1, .int n)]) hx hb dX12_toStop_20 rfl hl (by decide) rfl (fun ls hl => ?_)
    refine lv_iconst (v := 0) hx hb dX12_toStop_21 (by decide) ?_
    refine lv_istore (lv' := [(4, .int 0), (3, .int 0), (2, .int 0), (0, .ref (b 0)), (1, .int n)]) hx hb dX12_toStop_22 hl (by decide) rfl (fun ls hl => ?_)
    refine lv_iload hx hb dX12_toStop_24 (lv_at hl 0 rfl) ?_
    refine lv_iconst (v := 1) hx hb dX12_toStop_26 (by decide) ?_
    refine lv_aload_n hx hb dX12_toStop_27 rfl (lv_at hl 3 rfl) ?_
    refine va_get (D := J.1) (ci := 12) (v := .int 0) (C := RX12) (T := TX12) (N := 50) hx hb hts inX12 hown hK.1 hP 0 rfl rfl 6 (by decide) (hts _ q_1272) (fun _ h9 => h9) rfl dX12_toStop_28 ?_
    refine lv_ishl hx hb dX12_toStop_31 ?_
    refine top_i (y := 1) (by decide) ?_
    refine lv_icmp_ge (tgt := 79) hx hb dX12_toStop_32 (by decide) (fun c => absurd c (by decide)) (fun _ => ?_)
    refine lv_iload hx hb dX12_toStop_35 (lv_at hl 0 rfl) ?_
    refine lv_iload_n hx hb dX12_toStop_37 rfl (lv_at hl 2 rfl) ?_
    refine lv_iconst (v := (-1)) hx hb dX12_toStop_38 (by decide) ?_
    refine lv_ixor hx hb dX12_toStop_39 ?_
    refine top_i (y := (-1)) (by decide) ?_
    refine lv_iand hx hb dX12_toStop_40 ?_
    refine top_i (y := 0) (by decide) ?_
    refine lv_if_ne (tgt := 71) hx hb dX12_toStop_41 (by decide) (fun c => absurd c (by decide)) (fun _ => ?_)
    refine lv_iload hx hb dX12_toStop_44 (lv_at hl 0 rfl) ?_
    refine go_i (rn_S (As := [.int 0]) (rest := []) hx hb hml hown hts hK (m_bits0 l J ) kS_RX12_130 (hP.sub (ws' := []) [] rfl) ⟨Nat.le_of_ble_eq_true rfl, Nat.le_of_ble_eq_true rfl⟩ rfl rfl rfl hl.1 rfl (Nat.le_of_ble_eq_true rfl) ⟨Nat.le_of_ble_eq_true rfl, Nat.le_of_ble_eq_true rfl⟩ dX12_toStop_46) ?_
    refine lv_iload_n hx hb dX12_toStop_49 rfl (lv_at hl 1 rfl) ?_
    refine go_i (rn_S (As := [.int 0]) (rest := [.int 0]) hx hb hml hown hts hK (m_bits0 l J ) kS_RX12_130 (hP.sub (ws' := []) [] rfl) ⟨Nat.le_of_ble_eq_true rfl, Nat.le_of_ble_eq_true rfl⟩ rfl rfl rfl hl.1 rfl (Nat.le_of_ble_eq_true rfl) ⟨Nat.le_of_ble_eq_true rfl, Nat.le_of_ble_eq_true rfl⟩ dX12_toStop_50) ?_
    refine lv_icmp_ge (tgt := 71) hx hb dX12_toStop_53 (by decide) (fun _ => ?_) (fun c => absurd c (by decide))
    refine lv_iload_n hx hb dX12_toStop_71 rfl (lv_at hl 1 rfl) ?_
    refine lv_istore_n (lv' := [(3, .int 0), (4, .int 0), (2, .int 0), (0, .ref (b 0)), (1, .int n)]) hx hb dX12_toStop_72 rfl hl (by decide) rfl (fun ls hl => ?_)
    refine lv_iinc (v := 1) (lv' := [(4, .int 1), (3, .int 0), (2, .int 0), (0, .ref (b 0)), (1, .int n)]) hx hb dX12_toStop_73 hl (k := 1) rfl (by decide) (by decide) rfl (fun ls hl => ?_)
    refine lv_goto (tgt := 24) hx hb dX12_toStop_76 (by decide) ?_
    refine lv_iload hx hb dX12_toStop_24 (lv_at hl 0 rfl) ?_
    refine lv_iconst (v := 1) hx hb dX12_toStop_26 (by decide) ?_
    refine lv_aload_n hx hb dX12_toStop_27 rfl (lv_at hl 3 rfl) ?_
    refine va_get (D := J.1) (ci := 12) (v := .int 0) (C := RX12) (T := TX12) (N := 50) hx hb hts inX12 hown hK.1 hP 0 rfl rfl 6 (by decide) (hts _ q_1272) (fun _ h9 => h9) rfl dX12_toStop_28 ?_
    refine lv_ishl hx hb dX12_toStop_31 ?_
    refine top_i (y := 1) (by decide) ?_
    refine lv_icmp_ge (tgt := 79) hx hb dX12_toStop_32 (by decide) (fun _ => ?_) (fun c => absurd c (by decide))
    refine lv_iload_n hx hb dX12_toStop_79 rfl (lv_at hl 1 rfl) ?_
    exact rz_i hx hb hr hlk (by unfold sp_toStop; (repeat' split) <;> first | rfl | (exfalso; omega)) dX12_toStop_80
  · have j3 := b0 c1
    refine lv_iconst (v := (-1)) hx hb dX12_toStop_12 (by decide) ?_
    exact rz_i hx hb hr hlk (by unfold sp_toStop; (repeat' split) <;> first | rfl | (exfalso; omega)) dX12_toStop_13
theorem dX12_dogs_0 : decode cX12_dogs 0 = .ok (.aload_n 0, 1) := by decide +kernel
theorem dX12_dogs_1 : decode cX12_dogs 1 = .ok (.iload_n 1, 1) := by decide +kernel
theorem dX12_dogs_2 : decode cX12_dogs 2 = .ok (.i2l, 1) := by decide +kernel
theorem q_1487 : Cond.methodLink RX12 109 yX12_isOpen ∈ lw_g := mem_q 1487 (by decide +kernel) rfl
theorem q_1489 : Cond.instanceMethod yX12_isOpen ∈ lw_g := mem_q 1489 (by decide +kernel) rfl
theorem q_54 : Cond.selects RX12 yX12_isOpen yX12_isOpen ∈ lw_g := mem_q 54 (by decide +kernel) rfl
theorem q_1490 : Cond.code yX12_isOpen cX12_isOpen 3 (some .boolean) ∈ lw_g := mem_q 1490 (by decide +kernel) rfl
theorem kV_RX12_109 : CV RX12 109 RX12 yX12_isOpen cX12_isOpen 3 (some .boolean) 1 := cv_of q_1487 q_1489 q_54 q_115 q_1490 (by decide +kernel)
theorem dX12_dogs_3 : decode cX12_dogs 3 = .ok (.invokevirtual 109, 3) := by decide +kernel
theorem dX12_dogs_6 : decode cX12_dogs 6 = .ok (.ifCond .ne 5, 3) := by decide +kernel
theorem dX12_dogs_9 : decode cX12_dogs 9 = .ok (.iconst (-1), 1) := by decide +kernel
theorem dX12_dogs_10 : decode cX12_dogs 10 = .ok (.ireturn, 1) := by decide +kernel
set_option maxHeartbeats 4000000 in
set_option maxRecDepth 100000 in
theorem m_dogs (l : Launch) (J : va_J9) (b : Nat → Nat) (x : Int32) : RC l J yX12_dogs cX12_dogs 7 (some .int) ({ frames := 3, cells := 0, slots := 0, locals := 69 }) [.ref (b 0), .int x] [((b 0), .inr (12, [.ref (b 1), .ref (b 2), .ref (b 3), .ref (b 4), .int 0, .int 0, .int 0, .int 0, .ref (b 9), .ref (b 10), .int 0, .ref (b 12), .int (-1), .int 0, .int 0, .int 0, .int 0, .int 0, .ref (b 19), .ref (b 20), .ref (b 21), .ref (b 22), .ref (b 23), .long 0, .long 0, .long 0, .ref (b 27), .ref (b 28), .ref (b 29), .long 0, .int 0, .int (-1), .int 0, .int 0, .int 0, .ref (b 36), .int 0, .int 0, .ref (b 39), .ref (b 40), .int 0, .ref (b 42), .ref (b 43), .int 0, .int 0, .int 0, .ref (b 47), .ref (b 48), .ref (b 49), .ref (b 50)]))] (vp_Si (fun r => r = (-1))) := by
  refine rc_of (by decide) (Nat.le_of_ble_eq_true rfl) ?_
  intro p e s m below meth c ls hE hl hP hK
  obtain ⟨hx, hb, hr, hml, hown, hts, hlk, hin⟩ := hE
  have hown : s.vm.findClass RX12 = some m.cls := hown
  have hl : lv_has ls 7 [(0, .ref (b 0)), (1, .int x)] := hl
  have rg_x := i_rng x
  refine lv_aload_n hx hb dX12_dogs_0 rfl (lv_at hl 0 rfl) ?_
  refine lv_iload_n hx hb dX12_dogs_1 rfl (lv_at hl 1 rfl) ?_
  refine lv_i2l (v := x.toInt64) hx hb dX12_dogs_2 rfl ?_
  refine go_i (rn_V (As := [.long x.toInt64]) (rest := []) hx hb hml hown hts hK (m_isOpen l J b x.toInt64) kV_RX12_109 hP rfl rfl rfl ⟨Nat.le_of_ble_eq_true rfl, Nat.le_of_ble_eq_true rfl⟩ rfl rfl rfl hl.1 rfl (Nat.le_of_ble_eq_true rfl) ⟨Nat.le_of_ble_eq_true rfl, Nat.le_of_ble_eq_true rfl⟩ dX12_dogs_3) ?_
  refine lv_if_ne (tgt := 11) hx hb dX12_dogs_6 (by decide) (fun c => absurd c (by decide)) (fun _ => ?_)
  refine lv_iconst (v := (-1)) hx hb dX12_dogs_9 (by decide) ?_
  exact rz_i hx hb hr hlk (by decide) dX12_dogs_10
theorem dX12_kept_0 : decode cX12_kept 0 = .ok (.iload_n 1, 1) := by decide +kernel
theorem dX12_kept_1 : decode cX12_kept 1 = .ok (.i2l, 1) := by decide +kernel
theorem dX12_kept_2 : decode cX12_kept 2 = .ok (.lconst 0, 1) := by decide +kernel
theorem dX12_kept_3 : decode cX12_kept 3 = .ok (.iconst 1, 1) := by decide +kernel
theorem dX12_kept_4 : decode cX12_kept 4 = .ok (.aload_n 0, 1) := by decide +kernel
theorem dX12_kept_5 : decode cX12_kept 5 = .ok (.getfield 98, 3) := by decide +kernel
theorem dX12_kept_8 : decode cX12_kept 8 = .ok (.ishl, 1) := by decide +kernel
theorem dX12_kept_9 : decode cX12_kept 9 = .ok (.iconst 1, 1) := by decide +kernel
theorem dX12_kept_10 : decode cX12_kept 10 = .ok (.isub, 1) := by decide +kernel
theorem dX12_kept_11 : decode cX12_kept 11 = .ok (.i2l, 1) := by decide +kernel
theorem dX12_kept_12 : decode cX12_kept 12 = .ok (.invokestatic 101, 3) := by decide +kernel
theorem dX12_kept_15 : decode cX12_kept 15 = .ok (.ifCond .ne 5, 3) := by decide +kernel
theorem dX12_kept_20 : decode cX12_kept 20 = .ok (.aload_n 0, 1) := by decide +kernel
theorem q_1479 : Cond.methodLink RX12 142 yX12_asksLaw ∈ lw_g := mem_q 1479 (by decide +kernel) rfl
theorem q_1481 : Cond.instanceMethod yX12_asksLaw ∈ lw_g := mem_q 1481 (by decide +kernel) rfl
theorem q_52 : Cond.selects RX12 yX12_asksLaw yX12_asksLaw ∈ lw_g := mem_q 52 (by decide +kernel) rfl
theorem q_1482 : Cond.code yX12_asksLaw cX12_asksLaw 3 none ∈ lw_g := mem_q 1482 (by decide +kernel) rfl
theorem kV_RX12_142 : CV RX12 142 RX12 yX12_asksLaw cX12_asksLaw 3 none 0 := cv_of q_1479 q_1481 q_52 q_115 q_1482 (by decide +kernel)
theorem dX12_kept_21 : decode cX12_kept 21 = .ok (.invokevirtual 142, 3) := by decide +kernel
theorem dX12_kept_24 : decode cX12_kept 24 = .ok (.aload_n 0, 1) := by decide +kernel
theorem dX12_kept_25 : decode cX12_kept 25 = .ok (.invokevirtual 225, 3) := by decide +kernel
theorem dX12_kept_28 : decode cX12_kept 28 = .ok (.iload_n 1, 1) := by decide +kernel
theorem dX12_kept_29 : decode cX12_kept 29 = .ok (.iconst (-1), 1) := by decide +kernel
theorem dX12_kept_30 : decode cX12_kept 30 = .ok (.ixor, 1) := by decide +kernel
theorem dX12_kept_31 : decode cX12_kept 31 = .ok (.iand, 1) := by decide +kernel
theorem dX12_kept_32 : decode cX12_kept 32 = .ok (.istore_n 2, 1) := by decide +kernel
theorem dX12_kept_33 : decode cX12_kept 33 = .ok (.iconst 1, 1) := by decide +kernel
theorem dX12_kept_34 : decode cX12_kept 34 = .ok (.istore_n 3, 1) := by decide +kernel
theorem dX12_kept_35 : decode cX12_kept 35 = .ok (.iload_n 3, 1) := by decide +kernel
theorem dX12_kept_36 : decode cX12_kept 36 = .ok (.ifCond .eq 59, 3) := by decide +kernel
theorem dX12_kept_39 : decode cX12_kept 39 = .ok (.iconst 0, 1) := by decide +kernel
theorem dX12_kept_40 : decode cX12_kept 40 = .ok (.istore_n 3, 1) := by decide +kernel
theorem dX12_kept_41 : decode cX12_kept 41 = .ok (.iconst 0, 1) := by decide +kernel
theorem dX12_kept_42 : decode cX12_kept 42 = .ok (.istore 4, 2) := by decide +kernel
theorem dX12_kept_44 : decode cX12_kept 44 = .ok (.iload 4, 2) := by decide +kernel
theorem dX12_kept_46 : decode cX12_kept 46 = .ok (.aload_n 0, 1) := by decide +kernel
theorem dX12_kept_47 : decode cX12_kept 47 = .ok (.getfield 98, 3) := by decide +kernel
theorem dX12_kept_50 : decode cX12_kept 50 = .ok (.if_icmp .ge 42, 3) := by decide +kernel
theorem dX12_kept_92 : decode cX12_kept 92 = .ok (.goto (-57), 3) := by decide +kernel
theorem dX12_kept_95 : decode cX12_kept 95 = .ok (.iload_n 2, 1) := by decide +kernel
theorem dX12_kept_96 : decode cX12_kept 96 = .ok (.ireturn, 1) := by decide +kernel
theorem dX12_kept_18 : decode cX12_kept 18 = .ok (.iconst (-1), 1) := by decide +kernel
theorem dX12_kept_19 : decode cX12_kept 19 = .ok (.ireturn, 1) := by decide +kernel
set_option maxHeartbeats 4000000 in
set_option maxRecDepth 100000 in
theorem m_kept (l : Launch) (J : va_J9) (b : Nat → Nat) (x : Int32) : RC l J yX12_kept cX12_kept 5 (some .int) ({ frames := 1, cells := 0, slots := 0, locals := 25 }) [.ref (b 0), .int x] [((b 0), .inr (12, [.ref (b 1), .ref (b 2), .ref (b 3), .ref (b 4), .int 0, .int 0, .int 0, .int 0, .ref (b 9), .ref (b 10), .int 0, .ref (b 12), .int (-1), .int 0, .int 0, .int 0, .int 0, .int 0, .ref (b 19), .ref (b 20), .ref (b 21), .ref (b 22), .ref (b 23), .long 0, .long 0, .long 0, .ref (b 27), .ref (b 28), .ref (b 29), .long 0, .int 0, .int (-1), .int 0, .int 0, .int 0, .ref (b 36), .int 0, .int 0, .ref (b 39), .ref (b 40), .int 0, .ref (b 42), .ref (b 43), .int 0, .int 0, .int 0, .ref (b 47), .ref (b 48), .ref (b 49), .ref (b 50)]))] (vp_Si (fun r => r = sp_kept (x.toInt))) := by
  refine rc_of (by decide) (Nat.le_of_ble_eq_true rfl) ?_
  intro p e s m below meth c ls hE hl hP hK
  obtain ⟨hx, hb, hr, hml, hown, hts, hlk, hin⟩ := hE
  have hown : s.vm.findClass RX12 = some m.cls := hown
  have hl : lv_has ls 5 [(0, .ref (b 0)), (1, .int x)] := hl
  have rg_x := i_rng x
  refine lv_iload_n hx hb dX12_kept_0 rfl (lv_at hl 1 rfl) ?_
  refine lv_i2l (v := x.toInt64) hx hb dX12_kept_1 rfl ?_
  refine lv_lconst (v := 0) hx hb dX12_kept_2 (by decide) ?_
  refine lv_iconst (v := 1) hx hb dX12_kept_3 (by decide) ?_
  refine lv_aload_n hx hb dX12_kept_4 rfl (lv_at hl 0 rfl) ?_
  refine va_get (D := J.1) (ci := 12) (v := .int 0) (C := RX12) (T := TX12) (N := 50) hx hb hts inX12 hown hK.1 hP 0 rfl rfl 6 (by decide) (hts _ q_1272) (fun _ h9 => h9) rfl dX12_kept_5 ?_
  refine lv_ishl hx hb dX12_kept_8 ?_
  refine top_i (y := 1) (by decide) ?_
  refine lv_iconst (v := 1) hx hb dX12_kept_9 (by decide) ?_
  refine lv_isub hx hb dX12_kept_10 ?_
  refine top_i (y := 0) (by decide) ?_
  refine lv_i2l (v := 0) hx hb dX12_kept_11 (by decide) ?_
  refine go_i (rn_S (As := [.long x.toInt64, .long 0, .long 0]) (rest := []) hx hb hml hown hts hK (m_within l J x.toInt64 0 0 x.toInt 0 0 (i_wide rfl) (by decide) (by decide)) kS_RX12_101 (hP.sub (ws' := []) [] rfl) ⟨Nat.le_of_ble_eq_true rfl, Nat.le_of_ble_eq_true rfl⟩ rfl rfl rfl hl.1 rfl (Nat.le_of_ble_eq_true rfl) ⟨Nat.le_of_ble_eq_true rfl, Nat.le_of_ble_eq_true rfl⟩ dX12_kept_12) ?_
  refine lv_if_ne (tgt := 20) hx hb dX12_kept_15 (by decide) (fun c1 => ?_) (fun c1 => ?_)
  · have j2 := b1 c1
    refine lv_aload_n hx hb dX12_kept_20 rfl (lv_at hl 0 rfl) ?_
    refine go_v (rn_V (As := []) (rest := []) hx hb hml hown hts hK (m_asksLaw l J b) kV_RX12_142 hP rfl rfl rfl ⟨Nat.le_of_ble_eq_true rfl, Nat.le_of_ble_eq_true rfl⟩ rfl rfl rfl hl.1 rfl (Nat.le_of_ble_eq_true rfl) ⟨Nat.le_of_ble_eq_true rfl, Nat.le_of_ble_eq_true rfl⟩ dX12_kept_21) ?_
    refine lv_aload_n hx hb dX12_kept_24 rfl (lv_at hl 0 rfl) ?_
    refine go_i (rn_V (As := []) (rest := []) hx hb hml hown hts hK (m_openSet l J b) kV_RX12_225 hP rfl rfl rfl ⟨Nat.le_of_ble_eq_true rfl, Nat.le_of_ble_eq_true rfl⟩ rfl rfl rfl hl.1 rfl (Nat.le_of_ble_eq_true rfl) ⟨Nat.le_of_ble_eq_true rfl, Nat.le_of_ble_eq_true rfl⟩ dX12_kept_25) ?_
    refine lv_iload_n hx hb dX12_kept_28 rfl (lv_at hl 1 rfl) ?_
    refine lv_iconst (v := (-1)) hx hb dX12_kept_29 (by decide) ?_
    refine lv_ixor hx hb dX12_kept_30 ?_
    refine lv_iand hx hb dX12_kept_31 ?_
    refine top_i (y := 0) (and0' _) ?_
    refine lv_istore_n (lv' := [(2, .int 0), (0, .ref (b 0)), (1, .int x)]) hx hb dX12_kept_32 rfl hl (by decide) rfl (fun ls hl => ?_)
    refine lv_iconst (v := 1) hx hb dX12_kept_33 (by decide) ?_
    refine lv_istore_n (lv' := [(3, .int 1), (2, .int 0), (0, .ref (b 0)), (1, .int x)]) hx hb dX12_kept_34 rfl hl (by decide) rfl (fun ls hl => ?_)
    refine lv_iload_n hx hb dX12_kept_35 rfl (lv_at hl 0 rfl) ?_
    refine lv_if_eq (tgt := 95) hx hb dX12_kept_36 (by decide) (fun c => absurd c (by decide)) (fun _ => ?_)
    refine lv_iconst (v := 0) hx hb dX12_kept_39 (by decide) ?_
    refine lv_istore_n (lv' := [(3, .int 0), (2, .int 0), (0, .ref (b 0)), (1, .int x)]) hx hb dX12_kept_40 rfl hl (by decide) rfl (fun ls hl => ?_)
    refine lv_iconst (v := 0) hx hb dX12_kept_41 (by decide) ?_
    refine lv_istore (lv' := [(4, .int 0), (3, .int 0), (2, .int 0), (0, .ref (b 0)), (1, .int x)]) hx hb dX12_kept_42 hl (by decide) rfl (fun ls hl => ?_)
    refine lv_iload hx hb dX12_kept_44 (lv_at hl 0 rfl) ?_
    refine lv_aload_n hx hb dX12_kept_46 rfl (lv_at hl 3 rfl) ?_
    refine va_get (D := J.1) (ci := 12) (v := .int 0) (C := RX12) (T := TX12) (N := 50) hx hb hts inX12 hown hK.1 hP 0 rfl rfl 6 (by decide) (hts _ q_1272) (fun _ h9 => h9) rfl dX12_kept_47 ?_
    refine lv_icmp_ge (tgt := 92) hx hb dX12_kept_50 (by decide) (fun _ => ?_) (fun c => absurd c (by decide))
    refine lv_goto (tgt := 35) hx hb dX12_kept_92 (by decide) ?_
    refine lv_iload_n hx hb dX12_kept_35 rfl (lv_at hl 1 rfl) ?_
    refine lv_if_eq (tgt := 95) hx hb dX12_kept_36 (by decide) (fun _ => ?_) (fun c => absurd c (by decide))
    refine lv_iload_n hx hb dX12_kept_95 rfl (lv_at hl 2 rfl) ?_
    exact rz_i hx hb hr hlk (by unfold sp_kept; (repeat' split) <;> first | rfl | (exfalso; omega)) dX12_kept_96
  · have j3 := b0 c1
    refine lv_iconst (v := (-1)) hx hb dX12_kept_18 (by decide) ?_
    exact rz_i hx hb hr hlk (by unfold sp_kept; (repeat' split) <;> first | rfl | (exfalso; omega)) dX12_kept_19
theorem dX12_likely_0 : decode cX12_likely 0 = .ok (.iload_n 2, 1) := by decide +kernel
theorem dX12_likely_1 : decode cX12_likely 1 = .ok (.ifCond .lt 37, 3) := by decide +kernel
theorem q_1677 : Cond.constantLong RX12 289 (-9223372036854775808) ∈ lw_g := mem_q 1677 (by decide +kernel) rfl
theorem dX12_likely_38 : decode cX12_likely 38 = .ok (.ldc2_w 289, 3) := by decide +kernel
theorem dX12_likely_41 : decode cX12_likely 41 = .ok (.lreturn, 1) := by decide +kernel
theorem dX12_likely_4 : decode cX12_likely 4 = .ok (.aload_n 0, 1) := by decide +kernel
theorem dX12_likely_5 : decode cX12_likely 5 = .ok (.iload_n 2, 1) := by decide +kernel
theorem dX12_likely_6 : decode cX12_likely 6 = .ok (.bipush 100, 2) := by decide +kernel
theorem dX12_likely_8 : decode cX12_likely 8 = .ok (.idiv, 1) := by decide +kernel
theorem dX12_likely_9 : decode cX12_likely 9 = .ok (.i2l, 1) := by decide +kernel
theorem dX12_likely_10 : decode cX12_likely 10 = .ok (.invokevirtual 105, 3) := by decide +kernel
theorem dX12_likely_13 : decode cX12_likely 13 = .ok (.ifCond .eq 25, 3) := by decide +kernel
set_option maxHeartbeats 4000000 in
set_option maxRecDepth 100000 in
theorem m_likely (l : Launch) (J : va_J9) (b : Nat → Nat) (x : Int32) (y : Int32) (k : Int32) : RC l J yX12_likely cX12_likely 6 (some .long) ({ frames := 2, cells := 0, slots := 0, locals := 47 }) [.ref (b 0), .int x, .int y, .int k] [((b 0), .inr (12, [.ref (b 1), .ref (b 2), .ref (b 3), .ref (b 4), .int 0, .int 0, .int 0, .int 0, .ref (b 9), .ref (b 10), .int 0, .ref (b 12), .int (-1), .int 0, .int 0, .int 0, .int 0, .int 0, .ref (b 19), .ref (b 20), .ref (b 21), .ref (b 22), .ref (b 23), .long 0, .long 0, .long 0, .ref (b 27), .ref (b 28), .ref (b 29), .long 0, .int 0, .int (-1), .int 0, .int 0, .int 0, .ref (b 36), .int 0, .int 0, .ref (b 39), .ref (b 40), .int 0, .ref (b 42), .ref (b 43), .int 0, .int 0, .int 0, .ref (b 47), .ref (b 48), .ref (b 49), .ref (b 50)]))] (vp_Sl (fun r => r = (-9223372036854775808))) := by
  refine rc_of (by decide) (Nat.le_of_ble_eq_true rfl) ?_
  intro p e s m below meth c ls hE hl hP hK
  obtain ⟨hx, hb, hr, hml, hown, hts, hlk, hin⟩ := hE
  have hown : s.vm.findClass RX12 = some m.cls := hown
  have hl : lv_has ls 6 [(0, .ref (b 0)), (1, .int x), (2, .int y), (3, .int k)] := hl
  have rg_x := i_rng x
  have rg_y := i_rng y
  have rg_k := i_rng k
  refine lv_iload_n hx hb dX12_likely_0 rfl (lv_at hl 2 rfl) ?_
  refine lv_if_lt (tgt := 38) hx hb dX12_likely_1 (by decide) (fun c1 => ?_) (fun c1 => ?_)
  · have j2 : y.toInt < 0 := (i_lt rfl (by decide)).mp c1
    refine lv_ldc2 (v := (-9223372036854775808)) hx hb hown (hts _ q_1677) dX12_likely_38 ?_
    exact rz_l hx hb hr hlk (by decide) dX12_likely_41
  · have j3 : ¬ (y.toInt < 0) := fun h => c1 ((i_lt rfl (by decide)).mpr h)
    refine lv_aload_n hx hb dX12_likely_4 rfl (lv_at hl 0 rfl) ?_
    refine lv_iload_n hx hb dX12_likely_5 rfl (lv_at hl 2 rfl) ?_
    refine lv_bipush (v := 100) hx hb dX12_likely_6 (by decide) ?_
    refine lv_idiv hx hb dX12_likely_8 (by decide) ?_
    have p4 : (y / 100).toInt = y.toInt / 100 := i_div rfl (by decide) (by omega) (by omega)
    refine lv_i2l (v := (y / 100).toInt64) hx hb dX12_likely_9 rfl ?_
    refine go_i (rn_V (As := [.long ((y / 100).toInt64)]) (rest := []) hx hb hml hown hts hK (m_isHole l J b ((y / 100).toInt64)) kV_RX12_105 hP rfl rfl rfl ⟨Nat.le_of_ble_eq_true rfl, Nat.le_of_ble_eq_true rfl⟩ rfl rfl rfl hl.1 rfl (Nat.le_of_ble_eq_true rfl) ⟨Nat.le_of_ble_eq_true rfl, Nat.le_of_ble_eq_true rfl⟩ dX12_likely_10) ?_
    refine lv_if_eq (tgt := 38) hx hb dX12_likely_13 (by decide) (fun _ => ?_) (fun c => absurd c (by decide))
    refine lv_ldc2 (v := (-9223372036854775808)) hx hb hown (hts _ q_1677) dX12_likely_38 ?_
    exact rz_l hx hb hr hlk (by decide) dX12_likely_41
theorem dX12_areMornings_0 : decode cX12_areMornings 0 = .ok (.aload_n 0, 1) := by decide +kernel
theorem dX12_areMornings_1 : decode cX12_areMornings 1 = .ok (.iload_n 1, 1) := by decide +kernel
theorem dX12_areMornings_2 : decode cX12_areMornings 2 = .ok (.invokevirtual 237, 3) := by decide +kernel
theorem dX12_areMornings_5 : decode cX12_areMornings 5 = .ok (.iconst 1, 1) := by decide +kernel
theorem dX12_areMornings_6 : decode cX12_areMornings 6 = .ok (.if_icmp .ne 28, 3) := by decide +kernel
theorem dX12_areMornings_34 : decode cX12_areMornings 34 = .ok (.iconst 0, 1) := by decide +kernel
theorem dX12_areMornings_35 : decode cX12_areMornings 35 = .ok (.ireturn, 1) := by decide +kernel
set_option maxHeartbeats 4000000 in
set_option maxRecDepth 100000 in
theorem m_areIn (l : Launch) (J : va_J9) (b : Nat → Nat) (g : Nat → Int32) (d : Int32) (x : Int32) (hd : 0 ≤ d.toInt ∧ d.toInt ≤ 5) (hg : ∀ k, k < 6 → g k = -1) : RC l J yX12_areMornings cX12_areMornings 3 (some .boolean) ({ frames := 3, cells := 0, slots := 0, locals := 66 }) [.ref (b 0), .int d, .int x] [((b 0), .inr (12, [.ref (b 1), .ref (b 2), .ref (b 3), .ref (b 4), .int 0, .int 0, .int 0, .int 0, .ref (b 9), .ref (b 10), .int 0, .ref (b 12), .int (-1), .int 0, .int 0, .int 0, .int 0, .int 0, .ref (b 19), .ref (b 20), .ref (b 21), .ref (b 22), .ref (b 23), .long 0, .long 0, .long 0, .ref (b 27), .ref (b 28), .ref (b 29), .long 0, .int 0, .int (-1), .int 0, .int 0, .int 0, .ref (b 36), .int 0, .int 0, .ref (b 39), .ref (b 40), .int 0, .ref (b 42), .ref (b 43), .int 0, .int 0, .int 0, .ref (b 47), .ref (b 48), .ref (b 49), .ref (b 50)])), ((b 47), .inl (J.2.1, 6, .inl g))] (vp_Si (fun r => r = 0)) := by
  refine rc_of (by decide) (Nat.le_of_ble_eq_true rfl) ?_
  intro p e s m below meth c ls hE hl hP hK
  obtain ⟨hx, hb, hr, hml, hown, hts, hlk, hin⟩ := hE
  have hown : s.vm.findClass RX12 = some m.cls := hown
  have hl : lv_has ls 3 [(0, .ref (b 0)), (1, .int d), (2, .int x)] := hl
  have rg_d := i_rng d
  have rg_x := i_rng x
  refine lv_aload_n hx hb dX12_areMornings_0 rfl (lv_at hl 0 rfl) ?_
  refine lv_iload_n hx hb dX12_areMornings_1 rfl (lv_at hl 1 rfl) ?_
  refine go_i (rn_V (As := [.int d]) (rest := []) hx hb hml hown hts hK (m_bytesIn l J b g d hd hg) kV_RX12_237 hP rfl rfl rfl ⟨Nat.le_of_ble_eq_true rfl, Nat.le_of_ble_eq_true rfl⟩ rfl rfl rfl hl.1 rfl (Nat.le_of_ble_eq_true rfl) ⟨Nat.le_of_ble_eq_true rfl, Nat.le_of_ble_eq_true rfl⟩ dX12_areMornings_2) ?_
  refine lv_iconst (v := 1) hx hb dX12_areMornings_5 (by decide) ?_
  refine lv_icmp_ne (tgt := 34) hx hb dX12_areMornings_6 (by decide) (fun _ => ?_) (fun c => absurd c (by decide))
  refine lv_iconst (v := 0) hx hb dX12_areMornings_34 (by decide) ?_
  exact rz_z hx hb hr hlk (by decide) (by decide) dX12_areMornings_35
set_option maxHeartbeats 4000000 in
set_option maxRecDepth 100000 in
theorem m_areOut (l : Launch) (J : va_J9) (b : Nat → Nat) (g : Nat → Int32) (d : Int32) (x : Int32) (hd : ¬ (0 ≤ d.toInt ∧ d.toInt ≤ 5)) (hg : ∀ k, k < 6 → g k = -1) : RC l J yX12_areMornings cX12_areMornings 3 (some .boolean) ({ frames := 3, cells := 0, slots := 0, locals := 66 }) [.ref (b 0), .int d, .int x] [((b 0), .inr (12, [.ref (b 1), .ref (b 2), .ref (b 3), .ref (b 4), .int 0, .int 0, .int 0, .int 0, .ref (b 9), .ref (b 10), .int 0, .ref (b 12), .int (-1), .int 0, .int 0, .int 0, .int 0, .int 0, .ref (b 19), .ref (b 20), .ref (b 21), .ref (b 22), .ref (b 23), .long 0, .long 0, .long 0, .ref (b 27), .ref (b 28), .ref (b 29), .long 0, .int 0, .int (-1), .int 0, .int 0, .int 0, .ref (b 36), .int 0, .int 0, .ref (b 39), .ref (b 40), .int 0, .ref (b 42), .ref (b 43), .int 0, .int 0, .int 0, .ref (b 47), .ref (b 48), .ref (b 49), .ref (b 50)])), ((b 47), .inl (J.2.1, 6, .inl g))] (vp_Si (fun r => r = 0)) := by
  refine rc_of (by decide) (Nat.le_of_ble_eq_true rfl) ?_
  intro p e s m below meth c ls hE hl hP hK
  obtain ⟨hx, hb, hr, hml, hown, hts, hlk, hin⟩ := hE
  have hown : s.vm.findClass RX12 = some m.cls := hown
  have hl : lv_has ls 3 [(0, .ref (b 0)), (1, .int d), (2, .int x)] := hl
  have rg_d := i_rng d
  have rg_x := i_rng x
  refine lv_aload_n hx hb dX12_areMornings_0 rfl (lv_at hl 0 rfl) ?_
  refine lv_iload_n hx hb dX12_areMornings_1 rfl (lv_at hl 1 rfl) ?_
  refine go_i (rn_V (As := [.int d]) (rest := []) hx hb hml hown hts hK (m_bytesOut l J b g d hd hg) kV_RX12_237 hP rfl rfl rfl ⟨Nat.le_of_ble_eq_true rfl, Nat.le_of_ble_eq_true rfl⟩ rfl rfl rfl hl.1 rfl (Nat.le_of_ble_eq_true rfl) ⟨Nat.le_of_ble_eq_true rfl, Nat.le_of_ble_eq_true rfl⟩ dX12_areMornings_2) ?_
  refine lv_iconst (v := 1) hx hb dX12_areMornings_5 (by decide) ?_
  refine lv_icmp_ne (tgt := 34) hx hb dX12_areMornings_6 (by decide) (fun _ => ?_) (fun c => absurd c (by decide))
  refine lv_iconst (v := 0) hx hb dX12_areMornings_34 (by decide) ?_
  exact rz_z hx hb hr hlk (by decide) (by decide) dX12_areMornings_35
theorem dX12_luck_0 : decode cX12_luck 0 = .ok (.iload_n 3, 1) := by decide +kernel
theorem dX12_luck_1 : decode cX12_luck 1 = .ok (.i2l, 1) := by decide +kernel
theorem dX12_luck_2 : decode cX12_luck 2 = .ok (.lconst 0, 1) := by decide +kernel
theorem dX12_luck_3 : decode cX12_luck 3 = .ok (.lconst 1, 1) := by decide +kernel
theorem dX12_luck_4 : decode cX12_luck 4 = .ok (.invokestatic 101, 3) := by decide +kernel
theorem dX12_luck_7 : decode cX12_luck 7 = .ok (.ifCond .eq 12, 3) := by decide +kernel
theorem dX12_luck_19 : decode cX12_luck 19 = .ok (.ldc2_w 289, 3) := by decide +kernel
theorem dX12_luck_22 : decode cX12_luck 22 = .ok (.lreturn, 1) := by decide +kernel
theorem dX12_luck_10 : decode cX12_luck 10 = .ok (.aload_n 0, 1) := by decide +kernel
theorem dX12_luck_11 : decode cX12_luck 11 = .ok (.iload_n 1, 1) := by decide +kernel
theorem dX12_luck_12 : decode cX12_luck 12 = .ok (.iload_n 2, 1) := by decide +kernel
theorem q_1672 : Cond.methodLink RX12 286 yX12_areMornings ∈ lw_g := mem_q 1672 (by decide +kernel) rfl
theorem q_1674 : Cond.instanceMethod yX12_areMornings ∈ lw_g := mem_q 1674 (by decide +kernel) rfl
theorem q_83 : Cond.selects RX12 yX12_areMornings yX12_areMornings ∈ lw_g := mem_q 83 (by decide +kernel) rfl
theorem q_1675 : Cond.code yX12_areMornings cX12_areMornings 3 (some .boolean) ∈ lw_g := mem_q 1675 (by decide +kernel) rfl
theorem kV_RX12_286 : CV RX12 286 RX12 yX12_areMornings cX12_areMornings 3 (some .boolean) 2 := cv_of q_1672 q_1674 q_83 q_115 q_1675 (by decide +kernel)
theorem dX12_luck_13 : decode cX12_luck 13 = .ok (.invokevirtual 286, 3) := by decide +kernel
theorem dX12_luck_16 : decode cX12_luck 16 = .ok (.ifCond .ne 7, 3) := by decide +kernel
set_option maxHeartbeats 4000000 in
set_option maxRecDepth 100000 in
theorem m_luck (l : Launch) (J : va_J9) (b : Nat → Nat) (g : Nat → Int32) (d : Int32) (x : Int32) (k : Int32) (hg : ∀ k, k < 6 → g k = -1) : RC l J yX12_luck cX12_luck 4 (some .long) ({ frames := 4, cells := 0, slots := 0, locals := 88 }) [.ref (b 0), .int d, .int x, .int k] [((b 0), .inr (12, [.ref (b 1), .ref (b 2), .ref (b 3), .ref (b 4), .int 0, .int 0, .int 0, .int 0, .ref (b 9), .ref (b 10), .int 0, .ref (b 12), .int (-1), .int 0, .int 0, .int 0, .int 0, .int 0, .ref (b 19), .ref (b 20), .ref (b 21), .ref (b 22), .ref (b 23), .long 0, .long 0, .long 0, .ref (b 27), .ref (b 28), .ref (b 29), .long 0, .int 0, .int (-1), .int 0, .int 0, .int 0, .ref (b 36), .int 0, .int 0, .ref (b 39), .ref (b 40), .int 0, .ref (b 42), .ref (b 43), .int 0, .int 0, .int 0, .ref (b 47), .ref (b 48), .ref (b 49), .ref (b 50)])), ((b 47), .inl (J.2.1, 6, .inl g))] (vp_Sl (fun r => r = (-9223372036854775808))) := by
  refine rc_of (by decide) (Nat.le_of_ble_eq_true rfl) ?_
  intro p e s m below meth c ls hE hl hP hK
  obtain ⟨hx, hb, hr, hml, hown, hts, hlk, hin⟩ := hE
  have hown : s.vm.findClass RX12 = some m.cls := hown
  have hl : lv_has ls 4 [(0, .ref (b 0)), (1, .int d), (2, .int x), (3, .int k)] := hl
  have rg_d := i_rng d
  have rg_x := i_rng x
  have rg_k := i_rng k
  by_cases hd : 0 ≤ d.toInt ∧ d.toInt ≤ 5
  · refine lv_iload_n hx hb dX12_luck_0 rfl (lv_at hl 3 rfl) ?_
    refine lv_i2l (v := k.toInt64) hx hb dX12_luck_1 rfl ?_
    refine lv_lconst (v := 0) hx hb dX12_luck_2 (by decide) ?_
    refine lv_lconst (v := 1) hx hb dX12_luck_3 (by decide) ?_
    refine go_i (rn_S (As := [.long k.toInt64, .long 0, .long 1]) (rest := []) hx hb hml hown hts hK (m_within l J k.toInt64 0 1 k.toInt 0 1 (i_wide rfl) (by decide) (by decide)) kS_RX12_101 (hP.sub (ws' := []) [] rfl) ⟨Nat.le_of_ble_eq_true rfl, Nat.le_of_ble_eq_true rfl⟩ rfl rfl rfl hl.1 rfl (Nat.le_of_ble_eq_true rfl) ⟨Nat.le_of_ble_eq_true rfl, Nat.le_of_ble_eq_true rfl⟩ dX12_luck_4) ?_
    refine lv_if_eq (tgt := 19) hx hb dX12_luck_7 (by decide) (fun c1 => ?_) (fun c1 => ?_)
    · have j2 := b0 c1
      refine lv_ldc2 (v := (-9223372036854775808)) hx hb hown (hts _ q_1677) dX12_luck_19 ?_
      exact rz_l hx hb hr hlk (by decide) dX12_luck_22
    · have j3 := b1 c1
      refine lv_aload_n hx hb dX12_luck_10 rfl (lv_at hl 0 rfl) ?_
      refine lv_iload_n hx hb dX12_luck_11 rfl (lv_at hl 1 rfl) ?_
      refine lv_iload_n hx hb dX12_luck_12 rfl (lv_at hl 2 rfl) ?_
      refine go_i (rn_V (As := [.int d, .int x]) (rest := []) hx hb hml hown hts hK (m_areIn l J b g d x hd hg) kV_RX12_286 hP rfl rfl rfl ⟨Nat.le_of_ble_eq_true rfl, Nat.le_of_ble_eq_true rfl⟩ rfl rfl rfl hl.1 rfl (Nat.le_of_ble_eq_true rfl) ⟨Nat.le_of_ble_eq_true rfl, Nat.le_of_ble_eq_true rfl⟩ dX12_luck_13) ?_
      refine lv_if_ne (tgt := 23) hx hb dX12_luck_16 (by decide) (fun c => absurd c (by decide)) (fun _ => ?_)
      refine lv_ldc2 (v := (-9223372036854775808)) hx hb hown (hts _ q_1677) dX12_luck_19 ?_
      exact rz_l hx hb hr hlk (by decide) dX12_luck_22
  · refine lv_iload_n hx hb dX12_luck_0 rfl (lv_at hl 3 rfl) ?_
    refine lv_i2l (v := k.toInt64) hx hb dX12_luck_1 rfl ?_
    refine lv_lconst (v := 0) hx hb dX12_luck_2 (by decide) ?_
    refine lv_lconst (v := 1) hx hb dX12_luck_3 (by decide) ?_
    refine go_i (rn_S (As := [.long k.toInt64, .long 0, .long 1]) (rest := []) hx hb hml hown hts hK (m_within l J k.toInt64 0 1 k.toInt 0 1 (i_wide rfl) (by decide) (by decide)) kS_RX12_101 (hP.sub (ws' := []) [] rfl) ⟨Nat.le_of_ble_eq_true rfl, Nat.le_of_ble_eq_true rfl⟩ rfl rfl rfl hl.1 rfl (Nat.le_of_ble_eq_true rfl) ⟨Nat.le_of_ble_eq_true rfl, Nat.le_of_ble_eq_true rfl⟩ dX12_luck_4) ?_
    refine lv_if_eq (tgt := 19) hx hb dX12_luck_7 (by decide) (fun c4 => ?_) (fun c4 => ?_)
    · have j5 := b0 c4
      refine lv_ldc2 (v := (-9223372036854775808)) hx hb hown (hts _ q_1677) dX12_luck_19 ?_
      exact rz_l hx hb hr hlk (by decide) dX12_luck_22
    · have j6 := b1 c4
      refine lv_aload_n hx hb dX12_luck_10 rfl (lv_at hl 0 rfl) ?_
      refine lv_iload_n hx hb dX12_luck_11 rfl (lv_at hl 1 rfl) ?_
      refine lv_iload_n hx hb dX12_luck_12 rfl (lv_at hl 2 rfl) ?_
      refine go_i (rn_V (As := [.int d, .int x]) (rest := []) hx hb hml hown hts hK (m_areOut l J b g d x hd hg) kV_RX12_286 hP rfl rfl rfl ⟨Nat.le_of_ble_eq_true rfl, Nat.le_of_ble_eq_true rfl⟩ rfl rfl rfl hl.1 rfl (Nat.le_of_ble_eq_true rfl) ⟨Nat.le_of_ble_eq_true rfl, Nat.le_of_ble_eq_true rfl⟩ dX12_luck_13) ?_
      refine lv_if_ne (tgt := 23) hx hb dX12_luck_16 (by decide) (fun c => absurd c (by decide)) (fun _ => ?_)
      refine lv_ldc2 (v := (-9223372036854775808)) hx hb hown (hts _ q_1677) dX12_luck_19 ?_
      exact rz_l hx hb hr hlk (by decide) dX12_luck_22
theorem dX12_mean_0 : decode cX12_mean 0 = .ok (.iload_n 3, 1) := by decide +kernel
theorem dX12_mean_1 : decode cX12_mean 1 = .ok (.i2l, 1) := by decide +kernel
theorem dX12_mean_2 : decode cX12_mean 2 = .ok (.lconst 0, 1) := by decide +kernel
theorem dX12_mean_3 : decode cX12_mean 3 = .ok (.lconst 1, 1) := by decide +kernel
theorem dX12_mean_4 : decode cX12_mean 4 = .ok (.invokestatic 101, 3) := by decide +kernel
theorem dX12_mean_7 : decode cX12_mean 7 = .ok (.ifCond .eq 12, 3) := by decide +kernel
theorem dX12_mean_19 : decode cX12_mean 19 = .ok (.ldc2_w 289, 3) := by decide +kernel
theorem dX12_mean_22 : decode cX12_mean 22 = .ok (.lreturn, 1) := by decide +kernel
theorem dX12_mean_10 : decode cX12_mean 10 = .ok (.aload_n 0, 1) := by decide +kernel
theorem dX12_mean_11 : decode cX12_mean 11 = .ok (.iload_n 1, 1) := by decide +kernel
theorem dX12_mean_12 : decode cX12_mean 12 = .ok (.iload_n 2, 1) := by decide +kernel
theorem dX12_mean_13 : decode cX12_mean 13 = .ok (.invokevirtual 286, 3) := by decide +kernel
theorem dX12_mean_16 : decode cX12_mean 16 = .ok (.ifCond .ne 7, 3) := by decide +kernel
set_option maxHeartbeats 4000000 in
set_option maxRecDepth 100000 in
theorem m_mean (l : Launch) (J : va_J9) (b : Nat → Nat) (g : Nat → Int32) (d : Int32) (x : Int32) (k : Int32) (hg : ∀ k, k < 6 → g k = -1) : RC l J yX12_mean cX12_mean 4 (some .long) ({ frames := 4, cells := 0, slots := 0, locals := 88 }) [.ref (b 0), .int d, .int x, .int k] [((b 0), .inr (12, [.ref (b 1), .ref (b 2), .ref (b 3), .ref (b 4), .int 0, .int 0, .int 0, .int 0, .ref (b 9), .ref (b 10), .int 0, .ref (b 12), .int (-1), .int 0, .int 0, .int 0, .int 0, .int 0, .ref (b 19), .ref (b 20), .ref (b 21), .ref (b 22), .ref (b 23), .long 0, .long 0, .long 0, .ref (b 27), .ref (b 28), .ref (b 29), .long 0, .int 0, .int (-1), .int 0, .int 0, .int 0, .ref (b 36), .int 0, .int 0, .ref (b 39), .ref (b 40), .int 0, .ref (b 42), .ref (b 43), .int 0, .int 0, .int 0, .ref (b 47), .ref (b 48), .ref (b 49), .ref (b 50)])), ((b 47), .inl (J.2.1, 6, .inl g))] (vp_Sl (fun r => r = (-9223372036854775808))) := by
  refine rc_of (by decide) (Nat.le_of_ble_eq_true rfl) ?_
  intro p e s m below meth c ls hE hl hP hK
  obtain ⟨hx, hb, hr, hml, hown, hts, hlk, hin⟩ := hE
  have hown : s.vm.findClass RX12 = some m.cls := hown
  have hl : lv_has ls 4 [(0, .ref (b 0)), (1, .int d), (2, .int x), (3, .int k)] := hl
  have rg_d := i_rng d
  have rg_x := i_rng x
  have rg_k := i_rng k
  by_cases hd : 0 ≤ d.toInt ∧ d.toInt ≤ 5
  · refine lv_iload_n hx hb dX12_mean_0 rfl (lv_at hl 3 rfl) ?_
    refine lv_i2l (v := k.toInt64) hx hb dX12_mean_1 rfl ?_
    refine lv_lconst (v := 0) hx hb dX12_mean_2 (by decide) ?_
    refine lv_lconst (v := 1) hx hb dX12_mean_3 (by decide) ?_
    refine go_i (rn_S (As := [.long k.toInt64, .long 0, .long 1]) (rest := []) hx hb hml hown hts hK (m_within l J k.toInt64 0 1 k.toInt 0 1 (i_wide rfl) (by decide) (by decide)) kS_RX12_101 (hP.sub (ws' := []) [] rfl) ⟨Nat.le_of_ble_eq_true rfl, Nat.le_of_ble_eq_true rfl⟩ rfl rfl rfl hl.1 rfl (Nat.le_of_ble_eq_true rfl) ⟨Nat.le_of_ble_eq_true rfl, Nat.le_of_ble_eq_true rfl⟩ dX12_mean_4) ?_
    refine lv_if_eq (tgt := 19) hx hb dX12_mean_7 (by decide) (fun c1 => ?_) (fun c1 => ?_)
    · have j2 := b0 c1
      refine lv_ldc2 (v := (-9223372036854775808)) hx hb hown (hts _ q_1677) dX12_mean_19 ?_
      exact rz_l hx hb hr hlk (by decide) dX12_mean_22
    · have j3 := b1 c1
      refine lv_aload_n hx hb dX12_mean_10 rfl (lv_at hl 0 rfl) ?_
      refine lv_iload_n hx hb dX12_mean_11 rfl (lv_at hl 1 rfl) ?_
      refine lv_iload_n hx hb dX12_mean_12 rfl (lv_at hl 2 rfl) ?_
      refine go_i (rn_V (As := [.int d, .int x]) (rest := []) hx hb hml hown hts hK (m_areIn l J b g d x hd hg) kV_RX12_286 hP rfl rfl rfl ⟨Nat.le_of_ble_eq_true rfl, Nat.le_of_ble_eq_true rfl⟩ rfl rfl rfl hl.1 rfl (Nat.le_of_ble_eq_true rfl) ⟨Nat.le_of_ble_eq_true rfl, Nat.le_of_ble_eq_true rfl⟩ dX12_mean_13) ?_
      refine lv_if_ne (tgt := 23) hx hb dX12_mean_16 (by decide) (fun c => absurd c (by decide)) (fun _ => ?_)
      refine lv_ldc2 (v := (-9223372036854775808)) hx hb hown (hts _ q_1677) dX12_mean_19 ?_
      exact rz_l hx hb hr hlk (by decide) dX12_mean_22
  · refine lv_iload_n hx hb dX12_mean_0 rfl (lv_at hl 3 rfl) ?_
    refine lv_i2l (v := k.toInt64) hx hb dX12_mean_1 rfl ?_
    refine lv_lconst (v := 0) hx hb dX12_mean_2 (by decide) ?_
    refine lv_lconst (v := 1) hx hb dX12_mean_3 (by decide) ?_
    refine go_i (rn_S (As := [.long k.toInt64, .long 0, .long 1]) (rest := []) hx hb hml hown hts hK (m_within l J k.toInt64 0 1 k.toInt 0 1 (i_wide rfl) (by decide) (by decide)) kS_RX12_101 (hP.sub (ws' := []) [] rfl) ⟨Nat.le_of_ble_eq_true rfl, Nat.le_of_ble_eq_true rfl⟩ rfl rfl rfl hl.1 rfl (Nat.le_of_ble_eq_true rfl) ⟨Nat.le_of_ble_eq_true rfl, Nat.le_of_ble_eq_true rfl⟩ dX12_mean_4) ?_
    refine lv_if_eq (tgt := 19) hx hb dX12_mean_7 (by decide) (fun c4 => ?_) (fun c4 => ?_)
    · have j5 := b0 c4
      refine lv_ldc2 (v := (-9223372036854775808)) hx hb hown (hts _ q_1677) dX12_mean_19 ?_
      exact rz_l hx hb hr hlk (by decide) dX12_mean_22
    · have j6 := b1 c4
      refine lv_aload_n hx hb dX12_mean_10 rfl (lv_at hl 0 rfl) ?_
      refine lv_iload_n hx hb dX12_mean_11 rfl (lv_at hl 1 rfl) ?_
      refine lv_iload_n hx hb dX12_mean_12 rfl (lv_at hl 2 rfl) ?_
      refine go_i (rn_V (As := [.int d, .int x]) (rest := []) hx hb hml hown hts hK (m_areOut l J b g d x hd hg) kV_RX12_286 hP rfl rfl rfl ⟨Nat.le_of_ble_eq_true rfl, Nat.le_of_ble_eq_true rfl⟩ rfl rfl rfl hl.1 rfl (Nat.le_of_ble_eq_true rfl) ⟨Nat.le_of_ble_eq_true rfl, Nat.le_of_ble_eq_true rfl⟩ dX12_mean_13) ?_
      refine lv_if_ne (tgt := 23) hx hb dX12_mean_16 (by decide) (fun c => absurd c (by decide)) (fun _ => ?_)
      refine lv_ldc2 (v := (-9223372036854775808)) hx hb hown (hts _ q_1677) dX12_mean_19 ?_
      exact rz_l hx hb hr hlk (by decide) dX12_mean_22
theorem dX12_luckiest_0 : decode cX12_luckiest 0 = .ok (.iload_n 1, 1) := by decide +kernel
theorem dX12_luckiest_1 : decode cX12_luckiest 1 = .ok (.i2l, 1) := by decide +kernel
theorem dX12_luckiest_2 : decode cX12_luckiest 2 = .ok (.lconst 1, 1) := by decide +kernel
theorem dX12_luckiest_3 : decode cX12_luckiest 3 = .ok (.ldc2_w 154, 3) := by decide +kernel
theorem dX12_luckiest_6 : decode cX12_luckiest 6 = .ok (.invokestatic 101, 3) := by decide +kernel
theorem dX12_luckiest_9 : decode cX12_luckiest 9 = .ok (.ifCond .eq 18, 3) := by decide +kernel
theorem dX12_luckiest_27 : decode cX12_luckiest 27 = .ok (.ldc2_w 289, 3) := by decide +kernel
theorem dX12_luckiest_30 : decode cX12_luckiest 30 = .ok (.lreturn, 1) := by decide +kernel
theorem dX12_luckiest_12 : decode cX12_luckiest 12 = .ok (.iload_n 2, 1) := by decide +kernel
theorem dX12_luckiest_13 : decode cX12_luckiest 13 = .ok (.i2l, 1) := by decide +kernel
theorem q_1694 : Cond.constantLong RX12 305 (-2) ∈ lw_g := mem_q 1694 (by decide +kernel) rfl
theorem dX12_luckiest_14 : decode cX12_luckiest 14 = .ok (.ldc2_w 305, 3) := by decide +kernel
theorem dX12_luckiest_17 : decode cX12_luckiest 17 = .ok (.iload_n 1, 1) := by decide +kernel
theorem dX12_luckiest_18 : decode cX12_luckiest 18 = .ok (.iconst 1, 1) := by decide +kernel
theorem dX12_luckiest_19 : decode cX12_luckiest 19 = .ok (.isub, 1) := by decide +kernel
theorem dX12_luckiest_20 : decode cX12_luckiest 20 = .ok (.i2l, 1) := by decide +kernel
theorem dX12_luckiest_21 : decode cX12_luckiest 21 = .ok (.invokestatic 101, 3) := by decide +kernel
theorem dX12_luckiest_24 : decode cX12_luckiest 24 = .ok (.ifCond .ne 7, 3) := by decide +kernel
theorem dX12_luckiest_31 : decode cX12_luckiest 31 = .ok (.aload_n 0, 1) := by decide +kernel
theorem q_1678 : Cond.methodLink RX12 291 yX12_beginsWays ∈ lw_g := mem_q 1678 (by decide +kernel) rfl
theorem q_1680 : Cond.instanceMethod yX12_beginsWays ∈ lw_g := mem_q 1680 (by decide +kernel) rfl
theorem q_84 : Cond.selects RX12 yX12_beginsWays yX12_beginsWays ∈ lw_g := mem_q 84 (by decide +kernel) rfl
theorem q_1681 : Cond.code yX12_beginsWays cX12_beginsWays 2 none ∈ lw_g := mem_q 1681 (by decide +kernel) rfl
theorem kV_RX12_291 : CV RX12 291 RX12 yX12_beginsWays cX12_beginsWays 2 none 0 := cv_of q_1678 q_1680 q_84 q_115 q_1681 (by decide +kernel)
theorem dX12_luckiest_32 : decode cX12_luckiest 32 = .ok (.invokevirtual 291, 3) := by decide +kernel
theorem dX12_luckiest_35 : decode cX12_luckiest 35 = .ok (.aload_n 0, 1) := by decide +kernel
theorem q_1690 : Cond.methodLink RX12 301 yX12_allWays ∈ lw_g := mem_q 1690 (by decide +kernel) rfl
theorem q_1692 : Cond.instanceMethod yX12_allWays ∈ lw_g := mem_q 1692 (by decide +kernel) rfl
theorem q_87 : Cond.selects RX12 yX12_allWays yX12_allWays ∈ lw_g := mem_q 87 (by decide +kernel) rfl
theorem q_1693 : Cond.code yX12_allWays cX12_allWays 4 (some .long) ∈ lw_g := mem_q 1693 (by decide +kernel) rfl
theorem kV_RX12_301 : CV RX12 301 RX12 yX12_allWays cX12_allWays 4 (some .long) 0 := cv_of q_1690 q_1692 q_87 q_115 q_1693 (by decide +kernel)
theorem dX12_luckiest_36 : decode cX12_luckiest 36 = .ok (.invokevirtual 301, 3) := by decide +kernel
theorem dX12_luckiest_39 : decode cX12_luckiest 39 = .ok (.lstore_n 3, 1) := by decide +kernel
theorem dX12_luckiest_40 : decode cX12_luckiest 40 = .ok (.lload_n 3, 1) := by decide +kernel
theorem dX12_luckiest_41 : decode cX12_luckiest 41 = .ok (.lconst 0, 1) := by decide +kernel
theorem dX12_luckiest_42 : decode cX12_luckiest 42 = .ok (.lcmp, 1) := by decide +kernel
theorem dX12_luckiest_43 : decode cX12_luckiest 43 = .ok (.ifCond .ne 7, 3) := by decide +kernel
theorem dX12_luckiest_46 : decode cX12_luckiest 46 = .ok (.ldc2_w 305, 3) := by decide +kernel
theorem dX12_luckiest_49 : decode cX12_luckiest 49 = .ok (.lreturn, 1) := by decide +kernel
set_option maxHeartbeats 4000000 in
set_option maxRecDepth 100000 in
theorem m_luckiest (l : Launch) (J : va_J9) (b : Nat → Nat) (x : Int32) (k : Int32) : RC l J yX12_luckiest cX12_luckiest 6 (some .long) ({ frames := 1, cells := 0, slots := 0, locals := 25 }) [.ref (b 0), .int x, .int k] [((b 0), .inr (12, [.ref (b 1), .ref (b 2), .ref (b 3), .ref (b 4), .int 0, .int 0, .int 0, .int 0, .ref (b 9), .ref (b 10), .int 0, .ref (b 12), .int (-1), .int 0, .int 0, .int 0, .int 0, .int 0, .ref (b 19), .ref (b 20), .ref (b 21), .ref (b 22), .ref (b 23), .long 0, .long 0, .long 0, .ref (b 27), .ref (b 28), .ref (b 29), .long 0, .int 0, .int (-1), .int 0, .int 0, .int 0, .ref (b 36), .int 0, .int 0, .ref (b 39), .ref (b 40), .int 0, .ref (b 42), .ref (b 43), .int 0, .int 0, .int 0, .ref (b 47), .ref (b 48), .ref (b 49), .ref (b 50)]))] (vp_Sl (fun r => r = sp_luckiest (x.toInt) (k.toInt))) := by
  refine rc_of (by decide) (Nat.le_of_ble_eq_true rfl) ?_
  intro p e s m below meth c ls hE hl hP hK
  obtain ⟨hx, hb, hr, hml, hown, hts, hlk, hin⟩ := hE
  have hown : s.vm.findClass RX12 = some m.cls := hown
  have hl : lv_has ls 6 [(0, .ref (b 0)), (1, .int x), (2, .int k)] := hl
  have rg_x := i_rng x
  have rg_k := i_rng k
  refine lv_iload_n hx hb dX12_luckiest_0 rfl (lv_at hl 1 rfl) ?_
  refine lv_i2l (v := x.toInt64) hx hb dX12_luckiest_1 rfl ?_
  refine lv_lconst (v := 1) hx hb dX12_luckiest_2 (by decide) ?_
  refine lv_ldc2 (v := 4) hx hb hown (hts _ q_1474) dX12_luckiest_3 ?_
  refine go_i (rn_S (As := [.long x.toInt64, .long 1, .long 4]) (rest := []) hx hb hml hown hts hK (m_within l J x.toInt64 1 4 x.toInt 1 4 (i_wide rfl) (by decide) (by decide)) kS_RX12_101 (hP.sub (ws' := []) [] rfl) ⟨Nat.le_of_ble_eq_true rfl, Nat.le_of_ble_eq_true rfl⟩ rfl rfl rfl hl.1 rfl (Nat.le_of_ble_eq_true rfl) ⟨Nat.le_of_ble_eq_true rfl, Nat.le_of_ble_eq_true rfl⟩ dX12_luckiest_6) ?_
  refine lv_if_eq (tgt := 27) hx hb dX12_luckiest_9 (by decide) (fun c1 => ?_) (fun c1 => ?_)
  · have j2 := b0 c1
    refine lv_ldc2 (v := (-9223372036854775808)) hx hb hown (hts _ q_1677) dX12_luckiest_27 ?_
    exact rz_l hx hb hr hlk (by unfold sp_luckiest; (repeat' split) <;> first | rfl | (exfalso; omega)) dX12_luckiest_30
  · have j3 := b1 c1
    refine lv_iload_n hx hb dX12_luckiest_12 rfl (lv_at hl 2 rfl) ?_
    refine lv_i2l (v := k.toInt64) hx hb dX12_luckiest_13 rfl ?_
    refine lv_ldc2 (v := (-2)) hx hb hown (hts _ q_1694) dX12_luckiest_14 ?_
    refine lv_iload_n hx hb dX12_luckiest_17 rfl (lv_at hl 1 rfl) ?_
    refine lv_iconst (v := 1) hx hb dX12_luckiest_18 (by decide) ?_
    refine lv_isub hx hb dX12_luckiest_19 ?_
    have p4 : (x - 1).toInt = x.toInt - 1 := i_sub rfl (by decide) (by omega) (by omega)
    refine lv_i2l (v := (x - 1).toInt64) hx hb dX12_luckiest_20 rfl ?_
    refine go_i (rn_S (As := [.long k.toInt64, .long (-2), .long ((x - 1).toInt64)]) (rest := []) hx hb hml hown hts hK (m_within l J k.toInt64 (-2) ((x - 1).toInt64) k.toInt (-2) (x.toInt - 1) (i_wide rfl) (by decide) (i_wide p4)) kS_RX12_101 (hP.sub (ws' := []) [] rfl) ⟨Nat.le_of_ble_eq_true rfl, Nat.le_of_ble_eq_true rfl⟩ rfl rfl rfl hl.1 rfl (Nat.le_of_ble_eq_true rfl) ⟨Nat.le_of_ble_eq_true rfl, Nat.le_of_ble_eq_true rfl⟩ dX12_luckiest_21) ?_
    refine lv_if_ne (tgt := 31) hx hb dX12_luckiest_24 (by decide) (fun c5 => ?_) (fun c5 => ?_)
    · have j6 := b1 c5
      refine lv_aload_n hx hb dX12_luckiest_31 rfl (lv_at hl 0 rfl) ?_
      refine go_v (rn_V (As := []) (rest := []) hx hb hml hown hts hK (m_beginsWays l J b) kV_RX12_291 hP rfl rfl rfl ⟨Nat.le_of_ble_eq_true rfl, Nat.le_of_ble_eq_true rfl⟩ rfl rfl rfl hl.1 rfl (Nat.le_of_ble_eq_true rfl) ⟨Nat.le_of_ble_eq_true rfl, Nat.le_of_ble_eq_true rfl⟩ dX12_luckiest_32) ?_
      refine lv_aload_n hx hb dX12_luckiest_35 rfl (lv_at hl 0 rfl) ?_
      refine go_l (rn_V (As := []) (rest := []) hx hb hml hown hts hK (m_allWays l J b) kV_RX12_301 hP rfl rfl rfl ⟨Nat.le_of_ble_eq_true rfl, Nat.le_of_ble_eq_true rfl⟩ rfl rfl rfl hl.1 rfl (Nat.le_of_ble_eq_true rfl) ⟨Nat.le_of_ble_eq_true rfl, Nat.le_of_ble_eq_true rfl⟩ dX12_luckiest_36) ?_
      refine lv_lstore_n (lv' := [(3, .long 0), (0, .ref (b 0)), (1, .int x), (2, .int k)]) hx hb dX12_luckiest_39 rfl hl (by decide) rfl (fun ls hl => ?_)
      refine lv_lload_n hx hb dX12_luckiest_40 rfl (lv_at hl 0 rfl) ?_
      refine lv_lconst (v := 0) hx hb dX12_luckiest_41 (by decide) ?_
      refine W.lcmp hx hb dX12_luckiest_42 ?_
      refine top_i (y := 0) (by decide) ?_
      refine lv_if_ne (tgt := 50) hx hb dX12_luckiest_43 (by decide) (fun c => absurd c (by decide)) (fun _ => ?_)
      refine lv_ldc2 (v := (-2)) hx hb hown (hts _ q_1694) dX12_luckiest_46 ?_
      exact rz_l hx hb hr hlk (by unfold sp_luckiest; (repeat' split) <;> first | rfl | (exfalso; omega)) dX12_luckiest_49
    · have j7 := b0 c5
      refine lv_ldc2 (v := (-9223372036854775808)) hx hb hown (hts _ q_1677) dX12_luckiest_27 ?_
      exact rz_l hx hb hr hlk (by unfold sp_luckiest; (repeat' split) <;> first | rfl | (exfalso; omega)) dX12_luckiest_30
theorem dX12_drawn_0 : decode cX12_drawn 0 = .ok (.iload_n 1, 1) := by decide +kernel
theorem dX12_drawn_1 : decode cX12_drawn 1 = .ok (.invokestatic 114, 3) := by decide +kernel
theorem dX12_drawn_4 : decode cX12_drawn 4 = .ok (.ifCond .eq 48, 3) := by decide +kernel
theorem dX12_drawn_7 : decode cX12_drawn 7 = .ok (.iload_n 3, 1) := by decide +kernel
theorem dX12_drawn_8 : decode cX12_drawn 8 = .ok (.ifCond .lt 44, 3) := by decide +kernel
theorem dX12_drawn_52 : decode cX12_drawn 52 = .ok (.iconst (-1), 1) := by decide +kernel
theorem dX12_drawn_53 : decode cX12_drawn 53 = .ok (.ireturn, 1) := by decide +kernel
theorem dX12_drawn_11 : decode cX12_drawn 11 = .ok (.iload_n 3, 1) := by decide +kernel
theorem dX12_drawn_12 : decode cX12_drawn 12 = .ok (.bipush 100, 2) := by decide +kernel
theorem dX12_drawn_14 : decode cX12_drawn 14 = .ok (.idiv, 1) := by decide +kernel
theorem dX12_drawn_15 : decode cX12_drawn 15 = .ok (.i2l, 1) := by decide +kernel
theorem dX12_drawn_16 : decode cX12_drawn 16 = .ok (.lconst 1, 1) := by decide +kernel
theorem q_1726 : Cond.constantLong RX12 344 60 ∈ lw_g := mem_q 1726 (by decide +kernel) rfl
theorem dX12_drawn_17 : decode cX12_drawn 17 = .ok (.ldc2_w 344, 3) := by decide +kernel
theorem dX12_drawn_20 : decode cX12_drawn 20 = .ok (.invokestatic 101, 3) := by decide +kernel
theorem dX12_drawn_23 : decode cX12_drawn 23 = .ok (.ifCond .eq 29, 3) := by decide +kernel
theorem dX12_drawn_26 : decode cX12_drawn 26 = .ok (.iload_n 3, 1) := by decide +kernel
theorem dX12_drawn_27 : decode cX12_drawn 27 = .ok (.bipush 100, 2) := by decide +kernel
theorem dX12_drawn_29 : decode cX12_drawn 29 = .ok (.irem, 1) := by decide +kernel
theorem dX12_drawn_30 : decode cX12_drawn 30 = .ok (.i2l, 1) := by decide +kernel
theorem dX12_drawn_31 : decode cX12_drawn 31 = .ok (.lconst 1, 1) := by decide +kernel
theorem q_1727 : Cond.constantLong RX12 346 30 ∈ lw_g := mem_q 1727 (by decide +kernel) rfl
theorem dX12_drawn_32 : decode cX12_drawn 32 = .ok (.ldc2_w 346, 3) := by decide +kernel
theorem dX12_drawn_35 : decode cX12_drawn 35 = .ok (.invokestatic 101, 3) := by decide +kernel
theorem dX12_drawn_38 : decode cX12_drawn 38 = .ok (.ifCond .eq 14, 3) := by decide +kernel
theorem dX12_drawn_41 : decode cX12_drawn 41 = .ok (.iload 4, 2) := by decide +kernel
theorem dX12_drawn_43 : decode cX12_drawn 43 = .ok (.i2l, 1) := by decide +kernel
theorem dX12_drawn_44 : decode cX12_drawn 44 = .ok (.lconst 0, 1) := by decide +kernel
theorem dX12_drawn_45 : decode cX12_drawn 45 = .ok (.lconst 1, 1) := by decide +kernel
theorem dX12_drawn_46 : decode cX12_drawn 46 = .ok (.invokestatic 101, 3) := by decide +kernel
theorem dX12_drawn_49 : decode cX12_drawn 49 = .ok (.ifCond .ne 5, 3) := by decide +kernel
theorem dX12_drawn_54 : decode cX12_drawn 54 = .ok (.aload_n 0, 1) := by decide +kernel
theorem dX12_drawn_55 : decode cX12_drawn 55 = .ok (.iload_n 1, 1) := by decide +kernel
theorem dX12_drawn_56 : decode cX12_drawn 56 = .ok (.invokevirtual 237, 3) := by decide +kernel
theorem dX12_drawn_59 : decode cX12_drawn 59 = .ok (.ifCond .ge 9, 3) := by decide +kernel
theorem dX12_drawn_62 : decode cX12_drawn 62 = .ok (.aload_n 0, 1) := by decide +kernel
theorem dX12_drawn_63 : decode cX12_drawn 63 = .ok (.iload_n 1, 1) := by decide +kernel
theorem dX12_drawn_64 : decode cX12_drawn 64 = .ok (.invokevirtual 237, 3) := by decide +kernel
theorem dX12_drawn_67 : decode cX12_drawn 67 = .ok (.ireturn, 1) := by decide +kernel
set_option maxHeartbeats 4000000 in
set_option maxRecDepth 100000 in
theorem m_drawn (l : Launch) (J : va_J9) (b : Nat → Nat) (g : Nat → Int32) (d : Int32) (y : Int32) (x : Int32) (k : Int32) (hg : ∀ k, k < 6 → g k = -1) : RC l J yX12_drawn cX12_drawn 11 (some .int) ({ frames := 3, cells := 0, slots := 0, locals := 66 }) [.ref (b 0), .int d, .int y, .int x, .int k] [((b 0), .inr (12, [.ref (b 1), .ref (b 2), .ref (b 3), .ref (b 4), .int 0, .int 0, .int 0, .int 0, .ref (b 9), .ref (b 10), .int 0, .ref (b 12), .int (-1), .int 0, .int 0, .int 0, .int 0, .int 0, .ref (b 19), .ref (b 20), .ref (b 21), .ref (b 22), .ref (b 23), .long 0, .long 0, .long 0, .ref (b 27), .ref (b 28), .ref (b 29), .long 0, .int 0, .int (-1), .int 0, .int 0, .int 0, .ref (b 36), .int 0, .int 0, .ref (b 39), .ref (b 40), .int 0, .ref (b 42), .ref (b 43), .int 0, .int 0, .int 0, .ref (b 47), .ref (b 48), .ref (b 49), .ref (b 50)])), ((b 47), .inl (J.2.1, 6, .inl g))] (vp_Si (fun r => r = sp_drawn (d.toInt) (x.toInt) (k.toInt))) := by
  refine rc_of (by decide) (Nat.le_of_ble_eq_true rfl) ?_
  intro p e s m below meth c ls hE hl hP hK
  obtain ⟨hx, hb, hr, hml, hown, hts, hlk, hin⟩ := hE
  have hown : s.vm.findClass RX12 = some m.cls := hown
  have hl : lv_has ls 11 [(0, .ref (b 0)), (1, .int d), (2, .int y), (3, .int x), (4, .int k)] := hl
  have rg_d := i_rng d
  have rg_y := i_rng y
  have rg_x := i_rng x
  have rg_k := i_rng k
  by_cases hd : 0 ≤ d.toInt ∧ d.toInt ≤ 5
  · refine lv_iload_n hx hb dX12_drawn_0 rfl (lv_at hl 1 rfl) ?_
    refine go_i (rn_S (As := [.int d]) (rest := []) hx hb hml hown hts hK (m_isShelf l J d) kS_RX12_114 (hP.sub (ws' := []) [] rfl) ⟨Nat.le_of_ble_eq_true rfl, Nat.le_of_ble_eq_true rfl⟩ rfl rfl rfl hl.1 rfl (Nat.le_of_ble_eq_true rfl) ⟨Nat.le_of_ble_eq_true rfl, Nat.le_of_ble_eq_true rfl⟩ dX12_drawn_1) ?_
    refine lv_if_eq (tgt := 52) hx hb dX12_drawn_4 (by decide) (fun c1 => (b0 c1 (by omega)).elim) (fun _ => ?_)
    refine lv_iload_n hx hb dX12_drawn_7 rfl (lv_at hl 3 rfl) ?_
    refine lv_if_lt (tgt := 52) hx hb dX12_drawn_8 (by decide) (fun c2 => ?_) (fun c2 => ?_)
    · have j3 : x.toInt < 0 := (i_lt rfl (by decide)).mp c2
      refine lv_iconst (v := (-1)) hx hb dX12_drawn_52 (by decide) ?_
      exact rz_i hx hb hr hlk (by unfold sp_drawn; (repeat' split) <;> first | rfl | (exfalso; omega)) dX12_drawn_53
    · have j4 : ¬ (x.toInt < 0) := fun h => c2 ((i_lt rfl (by decide)).mpr h)
      refine lv_iload_n hx hb dX12_drawn_11 rfl (lv_at hl 3 rfl) ?_
      refine lv_bipush (v := 100) hx hb dX12_drawn_12 (by decide) ?_
      refine lv_idiv hx hb dX12_drawn_14 (by decide) ?_
      have p5 : (x / 100).toInt = x.toInt / 100 := i_div rfl (by decide) (by omega) (by omega)
      refine lv_i2l (v := (x / 100).toInt64) hx hb dX12_drawn_15 rfl ?_
      refine lv_lconst (v := 1) hx hb dX12_drawn_16 (by decide) ?_
      refine lv_ldc2 (v := 60) hx hb hown (hts _ q_1726) dX12_drawn_17 ?_
      refine go_i (rn_S (As := [.long ((x / 100).toInt64), .long 1, .long 60]) (rest := []) hx hb hml hown hts hK (m_within l J ((x / 100).toInt64) 1 60 (x.toInt / 100) 1 60 (i_wide p5) (by decide) (by decide)) kS_RX12_101 (hP.sub (ws' := []) [] rfl) ⟨Nat.le_of_ble_eq_true rfl, Nat.le_of_ble_eq_true rfl⟩ rfl rfl rfl hl.1 rfl (Nat.le_of_ble_eq_true rfl) ⟨Nat.le_of_ble_eq_true rfl, Nat.le_of_ble_eq_true rfl⟩ dX12_drawn_20) ?_
      refine lv_if_eq (tgt := 52) hx hb dX12_drawn_23 (by decide) (fun c6 => ?_) (fun c6 => ?_)
      · have j7 := b0 c6
        refine lv_iconst (v := (-1)) hx hb dX12_drawn_52 (by decide) ?_
        exact rz_i hx hb hr hlk (by unfold sp_drawn; (repeat' split) <;> first | rfl | (exfalso; omega)) dX12_drawn_53
      · have j8 := b1 c6
        refine lv_iload_n hx hb dX12_drawn_26 rfl (lv_at hl 3 rfl) ?_
        refine lv_bipush (v := 100) hx hb dX12_drawn_27 (by decide) ?_
        refine lv_irem hx hb dX12_drawn_29 (by decide) ?_
        have p9 : (x - x / 100 * 100).toInt = x.toInt % 100 := i_rem rfl (by decide) (by omega) (by omega)
        refine lv_i2l (v := (x - x / 100 * 100).toInt64) hx hb dX12_drawn_30 rfl ?_
        refine lv_lconst (v := 1) hx hb dX12_drawn_31 (by decide) ?_
        refine lv_ldc2 (v := 30) hx hb hown (hts _ q_1727) dX12_drawn_32 ?_
        refine go_i (rn_S (As := [.long ((x - x / 100 * 100).toInt64), .long 1, .long 30]) (rest := []) hx hb hml hown hts hK (m_within l J ((x - x / 100 * 100).toInt64) 1 30 (x.toInt % 100) 1 30 (i_wide p9) (by decide) (by decide)) kS_RX12_101 (hP.sub (ws' := []) [] rfl) ⟨Nat.le_of_ble_eq_true rfl, Nat.le_of_ble_eq_true rfl⟩ rfl rfl rfl hl.1 rfl (Nat.le_of_ble_eq_true rfl) ⟨Nat.le_of_ble_eq_true rfl, Nat.le_of_ble_eq_true rfl⟩ dX12_drawn_35) ?_
        refine lv_if_eq (tgt := 52) hx hb dX12_drawn_38 (by decide) (fun c10 => ?_) (fun c10 => ?_)
        · have j11 := b0 c10
          refine lv_iconst (v := (-1)) hx hb dX12_drawn_52 (by decide) ?_
          exact rz_i hx hb hr hlk (by unfold sp_drawn; (repeat' split) <;> first | rfl | (exfalso; omega)) dX12_drawn_53
        · have j12 := b1 c10
          refine lv_iload hx hb dX12_drawn_41 (lv_at hl 4 rfl) ?_
          refine lv_i2l (v := k.toInt64) hx hb dX12_drawn_43 rfl ?_
          refine lv_lconst (v := 0) hx hb dX12_drawn_44 (by decide) ?_
          refine lv_lconst (v := 1) hx hb dX12_drawn_45 (by decide) ?_
          refine go_i (rn_S (As := [.long k.toInt64, .long 0, .long 1]) (rest := []) hx hb hml hown hts hK (m_within l J k.toInt64 0 1 k.toInt 0 1 (i_wide rfl) (by decide) (by decide)) kS_RX12_101 (hP.sub (ws' := []) [] rfl) ⟨Nat.le_of_ble_eq_true rfl, Nat.le_of_ble_eq_true rfl⟩ rfl rfl rfl hl.1 rfl (Nat.le_of_ble_eq_true rfl) ⟨Nat.le_of_ble_eq_true rfl, Nat.le_of_ble_eq_true rfl⟩ dX12_drawn_46) ?_
          refine lv_if_ne (tgt := 54) hx hb dX12_drawn_49 (by decide) (fun c13 => ?_) (fun c13 => ?_)
          · have j14 := b1 c13
            refine lv_aload_n hx hb dX12_drawn_54 rfl (lv_at hl 0 rfl) ?_
            refine lv_iload_n hx hb dX12_drawn_55 rfl (lv_at hl 1 rfl) ?_
            refine go_i (rn_V (As := [.int d]) (rest := []) hx hb hml hown hts hK (m_bytesIn l J b g d hd hg) kV_RX12_237 hP rfl rfl rfl ⟨Nat.le_of_ble_eq_true rfl, Nat.le_of_ble_eq_true rfl⟩ rfl rfl rfl hl.1 rfl (Nat.le_of_ble_eq_true rfl) ⟨Nat.le_of_ble_eq_true rfl, Nat.le_of_ble_eq_true rfl⟩ dX12_drawn_56) ?_
            refine lv_if_ge (tgt := 68) hx hb dX12_drawn_59 (by decide) (fun c => absurd c (by decide)) (fun _ => ?_)
            refine lv_aload_n hx hb dX12_drawn_62 rfl (lv_at hl 0 rfl) ?_
            refine lv_iload_n hx hb dX12_drawn_63 rfl (lv_at hl 1 rfl) ?_
            refine go_i (rn_V (As := [.int d]) (rest := []) hx hb hml hown hts hK (m_bytesIn l J b g d hd hg) kV_RX12_237 hP rfl rfl rfl ⟨Nat.le_of_ble_eq_true rfl, Nat.le_of_ble_eq_true rfl⟩ rfl rfl rfl hl.1 rfl (Nat.le_of_ble_eq_true rfl) ⟨Nat.le_of_ble_eq_true rfl, Nat.le_of_ble_eq_true rfl⟩ dX12_drawn_64) ?_
            exact rz_i hx hb hr hlk (by unfold sp_drawn; (repeat' split) <;> first | rfl | (exfalso; omega)) dX12_drawn_67
          · have j15 := b0 c13
            refine lv_iconst (v := (-1)) hx hb dX12_drawn_52 (by decide) ?_
            exact rz_i hx hb hr hlk (by unfold sp_drawn; (repeat' split) <;> first | rfl | (exfalso; omega)) dX12_drawn_53
  · refine lv_iload_n hx hb dX12_drawn_0 rfl (lv_at hl 1 rfl) ?_
    refine go_i (rn_S (As := [.int d]) (rest := []) hx hb hml hown hts hK (m_isShelf l J d) kS_RX12_114 (hP.sub (ws' := []) [] rfl) ⟨Nat.le_of_ble_eq_true rfl, Nat.le_of_ble_eq_true rfl⟩ rfl rfl rfl hl.1 rfl (Nat.le_of_ble_eq_true rfl) ⟨Nat.le_of_ble_eq_true rfl, Nat.le_of_ble_eq_true rfl⟩ dX12_drawn_1) ?_
    refine lv_if_eq (tgt := 52) hx hb dX12_drawn_4 (by decide) (fun _ => ?_) (fun c16 => absurd (b1 c16) (by omega))
    refine lv_iconst (v := (-1)) hx hb dX12_drawn_52 (by decide) ?_
    exact rz_i hx hb hr hlk (by unfold sp_drawn; (repeat' split) <;> first | rfl | (exfalso; omega)) dX12_drawn_53
theorem dX12_hide_0 : decode cX12_hide 0 = .ok (.aload_n 0, 1) := by decide +kernel
theorem q_1728 : Cond.methodLink RX12 338 yX12_openWeights ∈ lw_g := mem_q 1728 (by decide +kernel) rfl
theorem q_1730 : Cond.instanceMethod yX12_openWeights ∈ lw_g := mem_q 1730 (by decide +kernel) rfl
theorem q_90 : Cond.selects RX12 yX12_openWeights yX12_openWeights ∈ lw_g := mem_q 90 (by decide +kernel) rfl
theorem q_1731 : Cond.code yX12_openWeights cX12_openWeights 3 (some .int) ∈ lw_g := mem_q 1731 (by decide +kernel) rfl
theorem kV_RX12_338 : CV RX12 338 RX12 yX12_openWeights cX12_openWeights 3 (some .int) 0 := cv_of q_1728 q_1730 q_90 q_115 q_1731 (by decide +kernel)
theorem dX12_hide_1 : decode cX12_hide 1 = .ok (.invokevirtual 338, 3) := by decide +kernel
theorem dX12_hide_4 : decode cX12_hide 4 = .ok (.ifCond .ne 6, 3) := by decide +kernel
theorem dX12_hide_7 : decode cX12_hide 7 = .ok (.bipush (-5), 2) := by decide +kernel
theorem dX12_hide_9 : decode cX12_hide 9 = .ok (.ireturn, 1) := by decide +kernel
set_option maxHeartbeats 4000000 in
set_option maxRecDepth 100000 in
theorem m_hide (l : Launch) (J : va_J9) (b : Nat → Nat) (x : Int32) : RC l J yX12_hide cX12_hide 2 (some .int) ({ frames := 1, cells := 0, slots := 0, locals := 22 }) [.ref (b 0), .int x] [((b 0), .inr (12, [.ref (b 1), .ref (b 2), .ref (b 3), .ref (b 4), .int 0, .int 0, .int 0, .int 0, .ref (b 9), .ref (b 10), .int 0, .ref (b 12), .int (-1), .int 0, .int 0, .int 0, .int 0, .int 0, .ref (b 19), .ref (b 20), .ref (b 21), .ref (b 22), .ref (b 23), .long 0, .long 0, .long 0, .ref (b 27), .ref (b 28), .ref (b 29), .long 0, .int 0, .int (-1), .int 0, .int 0, .int 0, .ref (b 36), .int 0, .int 0, .ref (b 39), .ref (b 40), .int 0, .ref (b 42), .ref (b 43), .int 0, .int 0, .int 0, .ref (b 47), .ref (b 48), .ref (b 49), .ref (b 50)]))] (vp_Si (fun r => r = (-5))) := by
  refine rc_of (by decide) (Nat.le_of_ble_eq_true rfl) ?_
  intro p e s m below meth c ls hE hl hP hK
  obtain ⟨hx, hb, hr, hml, hown, hts, hlk, hin⟩ := hE
  have hown : s.vm.findClass RX12 = some m.cls := hown
  have hl : lv_has ls 2 [(0, .ref (b 0)), (1, .int x)] := hl
  have rg_x := i_rng x
  refine lv_aload_n hx hb dX12_hide_0 rfl (lv_at hl 0 rfl) ?_
  refine go_i (rn_V (As := []) (rest := []) hx hb hml hown hts hK (m_openWeights l J b) kV_RX12_338 hP rfl rfl rfl ⟨Nat.le_of_ble_eq_true rfl, Nat.le_of_ble_eq_true rfl⟩ rfl rfl rfl hl.1 rfl (Nat.le_of_ble_eq_true rfl) ⟨Nat.le_of_ble_eq_true rfl, Nat.le_of_ble_eq_true rfl⟩ dX12_hide_1) ?_
  refine lv_if_ne (tgt := 10) hx hb dX12_hide_4 (by decide) (fun c => absurd c (by decide)) (fun _ => ?_)
  refine lv_bipush (v := (-5)) hx hb dX12_hide_7 (by decide) ?_
  exact rz_i hx hb hr hlk (by decide) dX12_hide_9
theorem dX12_look_0 : decode cX12_look 0 = .ok (.aload_n 0, 1) := by decide +kernel
theorem dX12_look_1 : decode cX12_look 1 = .ok (.iload_n 1, 1) := by decide +kernel
theorem dX12_look_2 : decode cX12_look 2 = .ok (.invokevirtual 120, 3) := by decide +kernel
theorem dX12_look_5 : decode cX12_look 5 = .ok (.ifCond .ne 5, 3) := by decide +kernel
theorem dX12_look_8 : decode cX12_look 8 = .ok (.iconst (-1), 1) := by decide +kernel
theorem dX12_look_9 : decode cX12_look 9 = .ok (.ireturn, 1) := by decide +kernel
set_option maxHeartbeats 4000000 in
set_option maxRecDepth 100000 in
theorem m_look (l : Launch) (J : va_J9) (b : Nat → Nat) (x : Int32) : RC l J yX12_look cX12_look 4 (some .int) ({ frames := 3, cells := 0, slots := 0, locals := 68 }) [.ref (b 0), .int x] [((b 0), .inr (12, [.ref (b 1), .ref (b 2), .ref (b 3), .ref (b 4), .int 0, .int 0, .int 0, .int 0, .ref (b 9), .ref (b 10), .int 0, .ref (b 12), .int (-1), .int 0, .int 0, .int 0, .int 0, .int 0, .ref (b 19), .ref (b 20), .ref (b 21), .ref (b 22), .ref (b 23), .long 0, .long 0, .long 0, .ref (b 27), .ref (b 28), .ref (b 29), .long 0, .int 0, .int (-1), .int 0, .int 0, .int 0, .ref (b 36), .int 0, .int 0, .ref (b 39), .ref (b 40), .int 0, .ref (b 42), .ref (b 43), .int 0, .int 0, .int 0, .ref (b 47), .ref (b 48), .ref (b 49), .ref (b 50)]))] (vp_Si (fun r => r = (-1))) := by
  refine rc_of (by decide) (Nat.le_of_ble_eq_true rfl) ?_
  intro p e s m below meth c ls hE hl hP hK
  obtain ⟨hx, hb, hr, hml, hown, hts, hlk, hin⟩ := hE
  have hown : s.vm.findClass RX12 = some m.cls := hown
  have hl : lv_has ls 4 [(0, .ref (b 0)), (1, .int x)] := hl
  have rg_x := i_rng x
  refine lv_aload_n hx hb dX12_look_0 rfl (lv_at hl 0 rfl) ?_
  refine lv_iload_n hx hb dX12_look_1 rfl (lv_at hl 1 rfl) ?_
  refine go_i (rn_V (As := [.int x]) (rest := []) hx hb hml hown hts hK (m_isAb l J b x) kV_RX12_120 hP rfl rfl rfl ⟨Nat.le_of_ble_eq_true rfl, Nat.le_of_ble_eq_true rfl⟩ rfl rfl rfl hl.1 rfl (Nat.le_of_ble_eq_true rfl) ⟨Nat.le_of_ble_eq_true rfl, Nat.le_of_ble_eq_true rfl⟩ dX12_look_2) ?_
  refine lv_if_ne (tgt := 10) hx hb dX12_look_5 (by decide) (fun c => absurd c (by decide)) (fun _ => ?_)
  refine lv_iconst (v := (-1)) hx hb dX12_look_8 (by decide) ?_
  exact rz_i hx hb hr hlk (by decide) dX12_look_9
theorem dX12_image_0 : decode cX12_image 0 = .ok (.aload_n 0, 1) := by decide +kernel
theorem dX12_image_1 : decode cX12_image 1 = .ok (.iconst 1, 1) := by decide +kernel
theorem q_1303 : Cond.fieldLink RX12 357 RX12 "isKept" "Z" ∈ lw_g := mem_q 1303 (by decide +kernel) rfl
theorem dX12_image_2 : decode cX12_image 2 = .ok (.putfield 357, 3) := by decide +kernel
theorem dX12_image_5 : decode cX12_image 5 = .ok (.aload_n 0, 1) := by decide +kernel
theorem q_1304 : Cond.fieldLink RX12 61 RX12 "image" "[I" ∈ lw_g := mem_q 1304 (by decide +kernel) rfl
theorem dX12_image_6 : decode cX12_image 6 = .ok (.getfield 61, 3) := by decide +kernel
theorem dX12_image_9 : decode cX12_image 9 = .ok (.iconst 0, 1) := by decide +kernel
theorem dX12_image_10 : decode cX12_image 10 = .ok (.aload_n 0, 1) := by decide +kernel
theorem dX12_image_11 : decode cX12_image 11 = .ok (.getfield 89, 3) := by decide +kernel
theorem dX12_image_14 : decode cX12_image 14 = .ok (.iastore, 1) := by decide +kernel
theorem dX12_image_15 : decode cX12_image 15 = .ok (.aload_n 0, 1) := by decide +kernel
theorem dX12_image_16 : decode cX12_image 16 = .ok (.getfield 61, 3) := by decide +kernel
theorem dX12_image_19 : decode cX12_image 19 = .ok (.iconst 1, 1) := by decide +kernel
theorem dX12_image_20 : decode cX12_image 20 = .ok (.aload_n 0, 1) := by decide +kernel
theorem dX12_image_21 : decode cX12_image 21 = .ok (.getfield 145, 3) := by decide +kernel
theorem dX12_image_24 : decode cX12_image 24 = .ok (.iastore, 1) := by decide +kernel
theorem dX12_image_25 : decode cX12_image 25 = .ok (.aload_n 0, 1) := by decide +kernel
theorem dX12_image_26 : decode cX12_image 26 = .ok (.getfield 61, 3) := by decide +kernel
theorem dX12_image_29 : decode cX12_image 29 = .ok (.iconst 2, 1) := by decide +kernel
theorem dX12_image_30 : decode cX12_image 30 = .ok (.aload_n 0, 1) := by decide +kernel
theorem q_1299 : Cond.fieldLink RX12 148 RX12 "whereNow" "I" ∈ lw_g := mem_q 1299 (by decide +kernel) rfl
theorem dX12_image_31 : decode cX12_image 31 = .ok (.getfield 148, 3) := by decide +kernel
theorem dX12_image_34 : decode cX12_image 34 = .ok (.iastore, 1) := by decide +kernel
theorem dX12_image_35 : decode cX12_image 35 = .ok (.aload_n 0, 1) := by decide +kernel
theorem dX12_image_36 : decode cX12_image 36 = .ok (.getfield 61, 3) := by decide +kernel
theorem dX12_image_39 : decode cX12_image 39 = .ok (.iconst 3, 1) := by decide +kernel
theorem dX12_image_40 : decode cX12_image 40 = .ok (.aload_n 0, 1) := by decide +kernel
theorem dX12_image_41 : decode cX12_image 41 = .ok (.getfield 151, 3) := by decide +kernel
theorem dX12_image_44 : decode cX12_image 44 = .ok (.iastore, 1) := by decide +kernel
theorem dX12_image_45 : decode cX12_image 45 = .ok (.aload_n 0, 1) := by decide +kernel
theorem dX12_image_46 : decode cX12_image 46 = .ok (.getfield 61, 3) := by decide +kernel
theorem dX12_image_49 : decode cX12_image 49 = .ok (.iconst 4, 1) := by decide +kernel
theorem dX12_image_50 : decode cX12_image 50 = .ok (.aload_n 0, 1) := by decide +kernel
theorem q_1302 : Cond.fieldLink RX12 354 RX12 "own" "I" ∈ lw_g := mem_q 1302 (by decide +kernel) rfl
theorem dX12_image_51 : decode cX12_image 51 = .ok (.getfield 354, 3) := by decide +kernel
theorem dX12_image_54 : decode cX12_image 54 = .ok (.iastore, 1) := by decide +kernel
theorem dX12_image_55 : decode cX12_image 55 = .ok (.iconst 0, 1) := by decide +kernel
theorem dX12_image_56 : decode cX12_image 56 = .ok (.istore_n 1, 1) := by decide +kernel
theorem dX12_image_57 : decode cX12_image 57 = .ok (.iload_n 1, 1) := by decide +kernel
theorem dX12_image_58 : decode cX12_image 58 = .ok (.bipush 10, 2) := by decide +kernel
theorem dX12_image_60 : decode cX12_image 60 = .ok (.if_icmp .ge 21, 3) := by decide +kernel
theorem dX12_image_63 : decode cX12_image 63 = .ok (.aload_n 0, 1) := by decide +kernel
theorem q_1305 : Cond.fieldLink RX12 64 RX12 "imageVain" "[I" ∈ lw_g := mem_q 1305 (by decide +kernel) rfl
theorem dX12_image_64 : decode cX12_image 64 = .ok (.getfield 64, 3) := by decide +kernel
theorem dX12_image_67 : decode cX12_image 67 = .ok (.iload_n 1, 1) := by decide +kernel
theorem dX12_image_68 : decode cX12_image 68 = .ok (.aload_n 0, 1) := by decide +kernel
theorem q_1301 : Cond.fieldLink RX12 58 RX12 "inVain" "[I" ∈ lw_g := mem_q 1301 (by decide +kernel) rfl
theorem dX12_image_69 : decode cX12_image 69 = .ok (.getfield 58, 3) := by decide +kernel
theorem dX12_image_72 : decode cX12_image 72 = .ok (.iload_n 1, 1) := by decide +kernel
theorem dX12_image_73 : decode cX12_image 73 = .ok (.iaload, 1) := by decide +kernel
theorem dX12_image_74 : decode cX12_image 74 = .ok (.iastore, 1) := by decide +kernel
theorem dX12_image_75 : decode cX12_image 75 = .ok (.iinc 1 1, 3) := by decide +kernel
theorem dX12_image_78 : decode cX12_image 78 = .ok (.goto (-21), 3) := by decide +kernel
theorem dX12_image_81 : decode cX12_image 81 = .ok (.aload_n 0, 1) := by decide +kernel
theorem dX12_image_82 : decode cX12_image 82 = .ok (.getfield 89, 3) := by decide +kernel
theorem dX12_image_85 : decode cX12_image 85 = .ok (.ifCond .ge 8, 3) := by decide +kernel
theorem dX12_image_88 : decode cX12_image 88 = .ok (.bipush (-2), 2) := by decide +kernel
theorem dX12_image_90 : decode cX12_image 90 = .ok (.goto 7, 3) := by decide +kernel
theorem dX12_image_97 : decode cX12_image 97 = .ok (.ireturn, 1) := by decide +kernel
set_option maxHeartbeats 4000000 in
set_option maxRecDepth 100000 in
theorem m_image (l : Launch) (J : va_J9) (sz : Nat) (b : Nat → Nat) : WC l J yX12_image cX12_image 2 (some .int) ({ frames := 0, cells := 0, slots := 0, locals := 0 }) [.ref (b 0)] [((b 0), .inr (12, [.ref (b 1), .ref (b 2), .ref (b 3), .ref (b 4), .int 0, .int 0, .int 0, .int 0, .ref (b 9), .ref (b 10), .int 0, .ref (b 12), .int (-1), .int 0, .int 0, .int 0, .int 0, .int 0, .ref (b 19), .ref (b 20), .ref (b 21), .ref (b 22), .ref (b 23), .long 0, .long 0, .long 0, .ref (b 27), .ref (b 28), .ref (b 29), .long 0, .int 0, .int (-1), .int 0, .int 0, .int 0, .ref (b 36), .int 0, .int 0, .ref (b 39), .ref (b 40), .int 0, .ref (b 42), .ref (b 43), .int 0, .int 0, .int 0, .ref (b 47), .ref (b 48), .ref (b 49), .ref (b 50)])), ((b 39), .inl (J.2.1, 5, .inl (fun _ => 0))), ((b 40), .inl (J.2.1, 10, .inl (fun _ => 0))), ((b 36), .inl (J.2.1, 10, .inl (fun _ => 0)))] sz (Qi J (fun (r : Int32) (_ : Unit) => r = (-2)) (fun (_ : Unit) => [])) 0 0 := by
  refine wc_of (by decide) (Nat.le_of_ble_eq_true rfl) ?_
  intro p e s m below meth c ls A hE hl hP hK hD hS hA
  obtain ⟨hx, hb, hr, hml, hown, hts, hlk, hin⟩ := hE
  have hown : s.vm.findClass RX12 = some m.cls := hown
  have hl : lv_has ls 2 [(0, .ref (b 0))] := hl
  refine lv_aload_n hx hb dX12_image_0 rfl (lv_at hl 0 rfl) ?_
  refine lv_iconst (v := 1) hx hb dX12_image_1 (by decide) ?_
  refine va_put (D := J.1) (ci := 12) (v := .int 1) (ty := (.boolean)) (C := RX12) (T := TX12) (N := 50) hx hb hts inX12 tyX12 tyX12_ok nmX12 hown hK.1 hP hD hS 0 rfl rfl 37 (by decide) (hts _ q_1303) (fun _ h9 => h9) rfl (by decide +kernel) rfl rfl (Nat.le_of_ble_eq_true rfl) dX12_image_2 (fun H locs hP hD hS => ?_)
  have hP : va_P J.1 cls [((b 0), .inr (12, [.ref (b 1), .ref (b 2), .ref (b 3), .ref (b 4), .int 0, .int 0, .int 0, .int 0, .ref (b 9), .ref (b 10), .int 0, .ref (b 12), .int (-1), .int 0, .int 0, .int 0, .int 0, .int 0, .ref (b 19), .ref (b 20), .ref (b 21), .ref (b 22), .ref (b 23), .long 0, .long 0, .long 0, .ref (b 27), .ref (b 28), .ref (b 29), .long 0, .int 0, .int (-1), .int 0, .int 0, .int 0, .ref (b 36), .int 0, .int 1, .ref (b 39), .ref (b 40), .int 0, .ref (b 42), .ref (b 43), .int 0, .int 0, .int 0, .ref (b 47), .ref (b 48), .ref (b 49), .ref (b 50)])), ((b 39), .inl (J.2.1, 5, .inl (fun _ => 0))), ((b 40), .inl (J.2.1, 10, .inl (fun _ => 0))), ((b 36), .inl (J.2.1, 10, .inl (fun _ => 0)))] H := hP
  have hD : va_D A [((b 0), .inr (12, [.ref (b 1), .ref (b 2), .ref (b 3), .ref (b 4), .int 0, .int 0, .int 0, .int 0, .ref (b 9), .ref (b 10), .int 0, .ref (b 12), .int (-1), .int 0, .int 0, .int 0, .int 0, .int 0, .ref (b 19), .ref (b 20), .ref (b 21), .ref (b 22), .ref (b 23), .long 0, .long 0, .long 0, .ref (b 27), .ref (b 28), .ref (b 29), .long 0, .int 0, .int (-1), .int 0, .int 0, .int 0, .ref (b 36), .int 0, .int 1, .ref (b 39), .ref (b 40), .int 0, .ref (b 42), .ref (b 43), .int 0, .int 0, .int 0, .ref (b 47), .ref (b 48), .ref (b 49), .ref (b 50)])), ((b 39), .inl (J.2.1, 5, .inl (fun _ => 0))), ((b 40), .inl (J.2.1, 10, .inl (fun _ => 0))), ((b 36), .inl (J.2.1, 10, .inl (fun _ => 0)))] := hD
  refine lv_aload_n hx hb dX12_image_5 rfl (lv_at hl 0 rfl) ?_
  refine va_get (D := J.1) (ci := 12) (v := .ref (b 39)) (C := RX12) (T := TX12) (N := 50) hx hb hts inX12 hown hK.1 hP 0 rfl rfl 38 (by decide) (hts _ q_1304) (fun _ h9 => h9) rfl dX12_image_6 ?_
  refine lv_iconst (v := 0) hx hb dX12_image_9 (by decide) ?_
  refine lv_aload_n hx hb dX12_image_10 rfl (lv_at hl 0 rfl) ?_
  refine va_get (D := J.1) (ci := 12) (v := .int (-1)) (C := RX12) (T := TX12) (N := 50) hx hb hts inX12 hown hK.1 hP 0 rfl rfl 31 (by decide) (hts _ q_1297) (fun _ h9 => h9) rfl dX12_image_11 ?_
  have h1 : vp_in 0 5 := (i_in (a := 0) (by decide) (by omega) (by omega))
  refine va_iast hx hb hK.1 hP hD hS 1 0 rfl rfl h1 dX12_image_14 (fun H locs hP hD hS => ?_)
  have hP : va_P J.1 cls [((b 0), .inr (12, [.ref (b 1), .ref (b 2), .ref (b 3), .ref (b 4), .int 0, .int 0, .int 0, .int 0, .ref (b 9), .ref (b 10), .int 0, .ref (b 12), .int (-1), .int 0, .int 0, .int 0, .int 0, .int 0, .ref (b 19), .ref (b 20), .ref (b 21), .ref (b 22), .ref (b 23), .long 0, .long 0, .long 0, .ref (b 27), .ref (b 28), .ref (b 29), .long 0, .int 0, .int (-1), .int 0, .int 0, .int 0, .ref (b 36), .int 0, .int 1, .ref (b 39), .ref (b 40), .int 0, .ref (b 42), .ref (b 43), .int 0, .int 0, .int 0, .ref (b 47), .ref (b 48), .ref (b 49), .ref (b 50)])), ((b 39), .inl (J.2.1, 5, .inl (upd (fun _ => 0) (0 : Int32).toNatClampNeg (-1)))), ((b 40), .inl (J.2.1, 10, .inl (fun _ => 0))), ((b 36), .inl (J.2.1, 10, .inl (fun _ => 0)))] H := hP
  have hD : va_D A [((b 0), .inr (12, [.ref (b 1), .ref (b 2), .ref (b 3), .ref (b 4), .int 0, .int 0, .int 0, .int 0, .ref (b 9), .ref (b 10), .int 0, .ref (b 12), .int (-1), .int 0, .int 0, .int 0, .int 0, .int 0, .ref (b 19), .ref (b 20), .ref (b 21), .ref (b 22), .ref (b 23), .long 0, .long 0, .long 0, .ref (b 27), .ref (b 28), .ref (b 29), .long 0, .int 0, .int (-1), .int 0, .int 0, .int 0, .ref (b 36), .int 0, .int 1, .ref (b 39), .ref (b 40), .int 0, .ref (b 42), .ref (b 43), .int 0, .int 0, .int 0, .ref (b 47), .ref (b 48), .ref (b 49), .ref (b 50)])), ((b 39), .inl (J.2.1, 5, .inl (upd (fun _ => 0) (0 : Int32).toNatClampNeg (-1)))), ((b 40), .inl (J.2.1, 10, .inl (fun _ => 0))), ((b 36), .inl (J.2.1, 10, .inl (fun _ => 0)))] := hD
  refine lv_aload_n hx hb dX12_image_15 rfl (lv_at hl 0 rfl) ?_
  refine va_get (D := J.1) (ci := 12) (v := .ref (b 39)) (C := RX12) (T := TX12) (N := 50) hx hb hts inX12 hown hK.1 hP 0 rfl rfl 38 (by decide) (hts _ q_1304) (fun _ h9 => h9) rfl dX12_image_16 ?_
  refine lv_iconst (v := 1) hx hb dX12_image_19 (by decide) ?_
  refine lv_aload_n hx hb dX12_image_20 rfl (lv_at hl 0 rfl) ?_
  refine va_get (D := J.1) (ci := 12) (v := .int 0) (C := RX12) (T := TX12) (N := 50) hx hb hts inX12 hown hK.1 hP 0 rfl rfl 32 (by decide) (hts _ q_1298) (fun _ h9 => h9) rfl dX12_image_21 ?_
  have h2 : vp_in 1 5 := (i_in (a := 1) (by decide) (by omega) (by omega))
  refine va_iast hx hb hK.1 hP hD hS 1 0 rfl rfl h2 dX12_image_24 (fun H locs hP hD hS => ?_)
  have hP : va_P J.1 cls [((b 0), .inr (12, [.ref (b 1), .ref (b 2), .ref (b 3), .ref (b 4), .int 0, .int 0, .int 0, .int 0, .ref (b 9), .ref (b 10), .int 0, .ref (b 12), .int (-1), .int 0, .int 0, .int 0, .int 0, .int 0, .ref (b 19), .ref (b 20), .ref (b 21), .ref (b 22), .ref (b 23), .long 0, .long 0, .long 0, .ref (b 27), .ref (b 28), .ref (b 29), .long 0, .int 0, .int (-1), .int 0, .int 0, .int 0, .ref (b 36), .int 0, .int 1, .ref (b 39), .ref (b 40), .int 0, .ref (b 42), .ref (b 43), .int 0, .int 0, .int 0, .ref (b 47), .ref (b 48), .ref (b 49), .ref (b 50)])), ((b 39), .inl (J.2.1, 5, .inl (upd (upd (fun _ => 0) (0 : Int32).toNatClampNeg (-1)) (1 : Int32).toNatClampNeg 0))), ((b 40), .inl (J.2.1, 10, .inl (fun _ => 0))), ((b 36), .inl (J.2.1, 10, .inl (fun _ => 0)))] H := hP
  have hD : va_D A [((b 0), .inr (12, [.ref (b 1), .ref (b 2), .ref (b 3), .ref (b 4), .int 0, .int 0, .int 0, .int 0, .ref (b 9), .ref (b 10), .int 0, .ref (b 12), .int (-1), .int 0, .int 0, .int 0, .int 0, .int 0, .ref (b 19), .ref (b 20), .ref (b 21), .ref (b 22), .ref (b 23), .long 0, .long 0, .long 0, .ref (b 27), .ref (b 28), .ref (b 29), .long 0, .int 0, .int (-1), .int 0, .int 0, .int 0, .ref (b 36), .int 0, .int 1, .ref (b 39), .ref (b 40), .int 0, .ref (b 42), .ref (b 43), .int 0, .int 0, .int 0, .ref (b 47), .ref (b 48), .ref (b 49), .ref (b 50)])), ((b 39), .inl (J.2.1, 5, .inl (upd (upd (fun _ => 0) (0 : Int32).toNatClampNeg (-1)) (1 : Int32).toNatClampNeg 0))), ((b 40), .inl (J.2.1, 10, .inl (fun _ => 0))), ((b 36), .inl (J.2.1, 10, .inl (fun _ => 0)))] := hD
  refine lv_aload_n hx hb dX12_image_25 rfl (lv_at hl 0 rfl) ?_
  refine va_get (D := J.1) (ci := 12) (v := .ref (b 39)) (C := RX12) (T := TX12) (N := 50) hx hb hts inX12 hown hK.1 hP 0 rfl rfl 38 (by decide) (hts _ q_1304) (fun _ h9 => h9) rfl dX12_image_26 ?_
  refine lv_iconst (v := 2) hx hb dX12_image_29 (by decide) ?_
  refine lv_aload_n hx hb dX12_image_30 rfl (lv_at hl 0 rfl) ?_
  refine va_get (D := J.1) (ci := 12) (v := .int 0) (C := RX12) (T := TX12) (N := 50) hx hb hts inX12 hown hK.1 hP 0 rfl rfl 33 (by decide) (hts _ q_1299) (fun _ h9 => h9) rfl dX12_image_31 ?_
  have h3 : vp_in 2 5 := (i_in (a := 2) (by decide) (by omega) (by omega))
  refine va_iast hx hb hK.1 hP hD hS 1 0 rfl rfl h3 dX12_image_34 (fun H locs hP hD hS => ?_)
  have hP : va_P J.1 cls [((b 0), .inr (12, [.ref (b 1), .ref (b 2), .ref (b 3), .ref (b 4), .int 0, .int 0, .int 0, .int 0, .ref (b 9), .ref (b 10), .int 0, .ref (b 12), .int (-1), .int 0, .int 0, .int 0, .int 0, .int 0, .ref (b 19), .ref (b 20), .ref (b 21), .ref (b 22), .ref (b 23), .long 0, .long 0, .long 0, .ref (b 27), .ref (b 28), .ref (b 29), .long 0, .int 0, .int (-1), .int 0, .int 0, .int 0, .ref (b 36), .int 0, .int 1, .ref (b 39), .ref (b 40), .int 0, .ref (b 42), .ref (b 43), .int 0, .int 0, .int 0, .ref (b 47), .ref (b 48), .ref (b 49), .ref (b 50)])), ((b 39), .inl (J.2.1, 5, .inl (upd (upd (upd (fun _ => 0) (0 : Int32).toNatClampNeg (-1)) (1 : Int32).toNatClampNeg 0) (2 : Int32).toNatClampNeg 0))), ((b 40), .inl (J.2.1, 10, .inl (fun _ => 0))), ((b 36), .inl (J.2.1, 10, .inl (fun _ => 0)))] H := hP
  have hD : va_D A [((b 0), .inr (12, [.ref (b 1), .ref (b 2), .ref (b 3), .ref (b 4), .int 0, .int 0, .int 0, .int 0, .ref (b 9), .ref (b 10), .int 0, .ref (b 12), .int (-1), .int 0, .int 0, .int 0, .int 0, .int 0, .ref (b 19), .ref (b 20), .ref (b 21), .ref (b 22), .ref (b 23), .long 0, .long 0, .long 0, .ref (b 27), .ref (b 28), .ref (b 29), .long 0, .int 0, .int (-1), .int 0, .int 0, .int 0, .ref (b 36), .int 0, .int 1, .ref (b 39), .ref (b 40), .int 0, .ref (b 42), .ref (b 43), .int 0, .int 0, .int 0, .ref (b 47), .ref (b 48), .ref (b 49), .ref (b 50)])), ((b 39), .inl (J.2.1, 5, .inl (upd (upd (upd (fun _ => 0) (0 : Int32).toNatClampNeg (-1)) (1 : Int32).toNatClampNeg 0) (2 : Int32).toNatClampNeg 0))), ((b 40), .inl (J.2.1, 10, .inl (fun _ => 0))), ((b 36), .inl (J.2.1, 10, .inl (fun _ => 0)))] := hD
  refine lv_aload_n hx hb dX12_image_35 rfl (lv_at hl 0 rfl) ?_
  refine va_get (D := J.1) (ci := 12) (v := .ref (b 39)) (C := RX12) (T := TX12) (N := 50) hx hb hts inX12 hown hK.1 hP 0 rfl rfl 38 (by decide) (hts _ q_1304) (fun _ h9 => h9) rfl dX12_image_36 ?_
  refine lv_iconst (v := 3) hx hb dX12_image_39 (by decide) ?_
  refine lv_aload_n hx hb dX12_image_40 rfl (lv_at hl 0 rfl) ?_
  refine va_get (D := J.1) (ci := 12) (v := .int 0) (C := RX12) (T := TX12) (N := 50) hx hb hts inX12 hown hK.1 hP 0 rfl rfl 34 (by decide) (hts _ q_1300) (fun _ h9 => h9) rfl dX12_image_41 ?_
  have h4 : vp_in 3 5 := (i_in (a := 3) (by decide) (by omega) (by omega))
  refine va_iast hx hb hK.1 hP hD hS 1 0 rfl rfl h4 dX12_image_44 (fun H locs hP hD hS => ?_)
  have hP : va_P J.1 cls [((b 0), .inr (12, [.ref (b 1), .ref (b 2), .ref (b 3), .ref (b 4), .int 0, .int 0, .int 0, .int 0, .ref (b 9), .ref (b 10), .int 0, .ref (b 12), .int (-1), .int 0, .int 0, .int 0, .int 0, .int 0, .ref (b 19), .ref (b 20), .ref (b 21), .ref (b 22), .ref (b 23), .long 0, .long 0, .long 0, .ref (b 27), .ref (b 28), .ref (b 29), .long 0, .int 0, .int (-1), .int 0, .int 0, .int 0, .ref (b 36), .int 0, .int 1, .ref (b 39), .ref (b 40), .int 0, .ref (b 42), .ref (b 43), .int 0, .int 0, .int 0, .ref (b 47), .ref (b 48), .ref (b 49), .ref (b 50)])), ((b 39), .inl (J.2.1, 5, .inl (upd (upd (upd (upd (fun _ => 0) (0 : Int32).toNatClampNeg (-1)) (1 : Int32).toNatClampNeg 0) (2 : Int32).toNatClampNeg 0) (3 : Int32).toNatClampNeg 0))), ((b 40), .inl (J.2.1, 10, .inl (fun _ => 0))), ((b 36), .inl (J.2.1, 10, .inl (fun _ => 0)))] H := hP
  have hD : va_D A [((b 0), .inr (12, [.ref (b 1), .ref (b 2), .ref (b 3), .ref (b 4), .int 0, .int 0, .int 0, .int 0, .ref (b 9), .ref (b 10), .int 0, .ref (b 12), .int (-1), .int 0, .int 0, .int 0, .int 0, .int 0, .ref (b 19), .ref (b 20), .ref (b 21), .ref (b 22), .ref (b 23), .long 0, .long 0, .long 0, .ref (b 27), .ref (b 28), .ref (b 29), .long 0, .int 0, .int (-1), .int 0, .int 0, .int 0, .ref (b 36), .int 0, .int 1, .ref (b 39), .ref (b 40), .int 0, .ref (b 42), .ref (b 43), .int 0, .int 0, .int 0, .ref (b 47), .ref (b 48), .ref (b 49), .ref (b 50)])), ((b 39), .inl (J.2.1, 5, .inl (upd (upd (upd (upd (fun _ => 0) (0 : Int32).toNatClampNeg (-1)) (1 : Int32).toNatClampNeg 0) (2 : Int32).toNatClampNeg 0) (3 : Int32).toNatClampNeg 0))), ((b 40), .inl (J.2.1, 10, .inl (fun _ => 0))), ((b 36), .inl (J.2.1, 10, .inl (fun _ => 0)))] := hD
  refine lv_aload_n hx hb dX12_image_45 rfl (lv_at hl 0 rfl) ?_
  refine va_get (D := J.1) (ci := 12) (v := .ref (b 39)) (C := RX12) (T := TX12) (N := 50) hx hb hts inX12 hown hK.1 hP 0 rfl rfl 38 (by decide) (hts _ q_1304) (fun _ h9 => h9) rfl dX12_image_46 ?_
  refine lv_iconst (v := 4) hx hb dX12_image_49 (by decide) ?_
  refine lv_aload_n hx hb dX12_image_50 rfl (lv_at hl 0 rfl) ?_
  refine va_get (D := J.1) (ci := 12) (v := .int 0) (C := RX12) (T := TX12) (N := 50) hx hb hts inX12 hown hK.1 hP 0 rfl rfl 36 (by decide) (hts _ q_1302) (fun _ h9 => h9) rfl dX12_image_51 ?_
  have h5 : vp_in 4 5 := (i_in (a := 4) (by decide) (by omega) (by omega))
  refine va_iast hx hb hK.1 hP hD hS 1 0 rfl rfl h5 dX12_image_54 (fun H locs hP hD hS => ?_)
  have hP : va_P J.1 cls [((b 0), .inr (12, [.ref (b 1), .ref (b 2), .ref (b 3), .ref (b 4), .int 0, .int 0, .int 0, .int 0, .ref (b 9), .ref (b 10), .int 0, .ref (b 12), .int (-1), .int 0, .int 0, .int 0, .int 0, .int 0, .ref (b 19), .ref (b 20), .ref (b 21), .ref (b 22), .ref (b 23), .long 0, .long 0, .long 0, .ref (b 27), .ref (b 28), .ref (b 29), .long 0, .int 0, .int (-1), .int 0, .int 0, .int 0, .ref (b 36), .int 0, .int 1, .ref (b 39), .ref (b 40), .int 0, .ref (b 42), .ref (b 43), .int 0, .int 0, .int 0, .ref (b 47), .ref (b 48), .ref (b 49), .ref (b 50)])), ((b 39), .inl (J.2.1, 5, .inl (upd (upd (upd (upd (upd (fun _ => 0) (0 : Int32).toNatClampNeg (-1)) (1 : Int32).toNatClampNeg 0) (2 : Int32).toNatClampNeg 0) (3 : Int32).toNatClampNeg 0) (4 : Int32).toNatClampNeg 0))), ((b 40), .inl (J.2.1, 10, .inl (fun _ => 0))), ((b 36), .inl (J.2.1, 10, .inl (fun _ => 0)))] H := hP
  have hD : va_D A [((b 0), .inr (12, [.ref (b 1), .ref (b 2), .ref (b 3), .ref (b 4), .int 0, .int 0, .int 0, .int 0, .ref (b 9), .ref (b 10), .int 0, .ref (b 12), .int (-1), .int 0, .int 0, .int 0, .int 0, .int 0, .ref (b 19), .ref (b 20), .ref (b 21), .ref (b 22), .ref (b 23), .long 0, .long 0, .long 0, .ref (b 27), .ref (b 28), .ref (b 29), .long 0, .int 0, .int (-1), .int 0, .int 0, .int 0, .ref (b 36), .int 0, .int 1, .ref (b 39), .ref (b 40), .int 0, .ref (b 42), .ref (b 43), .int 0, .int 0, .int 0, .ref (b 47), .ref (b 48), .ref (b 49), .ref (b 50)])), ((b 39), .inl (J.2.1, 5, .inl (upd (upd (upd (upd (upd (fun _ => 0) (0 : Int32).toNatClampNeg (-1)) (1 : Int32).toNatClampNeg 0) (2 : Int32).toNatClampNeg 0) (3 : Int32).toNatClampNeg 0) (4 : Int32).toNatClampNeg 0))), ((b 40), .inl (J.2.1, 10, .inl (fun _ => 0))), ((b 36), .inl (J.2.1, 10, .inl (fun _ => 0)))] := hD
  refine lv_iconst (v := 0) hx hb dX12_image_55 (by decide) ?_
  refine lv_istore_n (lv' := [(1, .int 0), (0, .ref (b 0))]) hx hb dX12_image_56 rfl hl (by decide) rfl (fun ls hl => ?_)
  refine lv_iload_n hx hb dX12_image_57 rfl (lv_at hl 0 rfl) ?_
  refine lv_bipush (v := 10) hx hb dX12_image_58 (by decide) ?_
  refine lv_icmp_ge (tgt := 81) hx hb dX12_image_60 (by decide) (fun c => absurd c (by decide)) (fun _ => ?_)
  refine lv_aload_n hx hb dX12_image_63 rfl (lv_at hl 1 rfl) ?_
  refine va_get (D := J.1) (ci := 12) (v := .ref (b 40)) (C := RX12) (T := TX12) (N := 50) hx hb hts inX12 hown hK.1 hP 0 rfl rfl 39 (by decide) (hts _ q_1305) (fun _ h9 => h9) rfl dX12_image_64 ?_
  refine lv_iload_n hx hb dX12_image_67 rfl (lv_at hl 0 rfl) ?_
  refine lv_aload_n hx hb dX12_image_68 rfl (lv_at hl 1 rfl) ?_
  refine va_get (D := J.1) (ci := 12) (v := .ref (b 36)) (C := RX12) (T := TX12) (N := 50) hx hb hts inX12 hown hK.1 hP 0 rfl rfl 35 (by decide) (hts _ q_1301) (fun _ h9 => h9) rfl dX12_image_69 ?_
  refine lv_iload_n hx hb dX12_image_72 rfl (lv_at hl 0 rfl) ?_
  have h6 : vp_in 0 10 := (i_in (a := 0) (by decide) (by omega) (by omega))
  refine va_iald hx hb hK.1 hP 3 0 rfl rfl h6 dX12_image_73 ?_
  refine top_i (y := 0) rfl ?_
  have h7 : vp_in 0 10 := (i_in (a := 0) (by decide) (by omega) (by omega))
  refine va_iast hx hb hK.1 hP hD hS 2 0 rfl rfl h7 dX12_image_74 (fun H locs hP hD hS => ?_)
  have hP : va_P J.1 cls [((b 0), .inr (12, [.ref (b 1), .ref (b 2), .ref (b 3), .ref (b 4), .int 0, .int 0, .int 0, .int 0, .ref (b 9), .ref (b 10), .int 0, .ref (b 12), .int (-1), .int 0, .int 0, .int 0, .int 0, .int 0, .ref (b 19), .ref (b 20), .ref (b 21), .ref (b 22), .ref (b 23), .long 0, .long 0, .long 0, .ref (b 27), .ref (b 28), .ref (b 29), .long 0, .int 0, .int (-1), .int 0, .int 0, .int 0, .ref (b 36), .int 0, .int 1, .ref (b 39), .ref (b 40), .int 0, .ref (b 42), .ref (b 43), .int 0, .int 0, .int 0, .ref (b 47), .ref (b 48), .ref (b 49), .ref (b 50)])), ((b 39), .inl (J.2.1, 5, .inl (upd (upd (upd (upd (upd (fun _ => 0) (0 : Int32).toNatClampNeg (-1)) (1 : Int32).toNatClampNeg 0) (2 : Int32).toNatClampNeg 0) (3 : Int32).toNatClampNeg 0) (4 : Int32).toNatClampNeg 0))), ((b 40), .inl (J.2.1, 10, .inl (upd (fun _ => 0) (0 : Int32).toNatClampNeg 0))), ((b 36), .inl (J.2.1, 10, .inl (fun _ => 0)))] H := hP
  have hD : va_D A [((b 0), .inr (12, [.ref (b 1), .ref (b 2), .ref (b 3), .ref (b 4), .int 0, .int 0, .int 0, .int 0, .ref (b 9), .ref (b 10), .int 0, .ref (b 12), .int (-1), .int 0, .int 0, .int 0, .int 0, .int 0, .ref (b 19), .ref (b 20), .ref (b 21), .ref (b 22), .ref (b 23), .long 0, .long 0, .long 0, .ref (b 27), .ref (b 28), .ref (b 29), .long 0, .int 0, .int (-1), .int 0, .int 0, .int 0, .ref (b 36), .int 0, .int 1, .ref (b 39), .ref (b 40), .int 0, .ref (b 42), .ref (b 43), .int 0, .int 0, .int 0, .ref (b 47), .ref (b 48), .ref (b 49), .ref (b 50)])), ((b 39), .inl (J.2.1, 5, .inl (upd (upd (upd (upd (upd (fun _ => 0) (0 : Int32).toNatClampNeg (-1)) (1 : Int32).toNatClampNeg 0) (2 : Int32).toNatClampNeg 0) (3 : Int32).toNatClampNeg 0) (4 : Int32).toNatClampNeg 0))), ((b 40), .inl (J.2.1, 10, .inl (upd (fun _ => 0) (0 : Int32).toNatClampNeg 0))), ((b 36), .inl (J.2.1, 10, .inl (fun _ => 0)))] := hD
  refine lv_iinc (v := 1) (lv' := [(1, .int 1), (0, .ref (b 0))]) hx hb dX12_image_75 hl (k := 0) rfl (by decide) (by decide) rfl (fun ls hl => ?_)
  refine lv_goto (tgt := 57) hx hb dX12_image_78 (by decide) ?_
  refine lv_iload_n hx hb dX12_image_57 rfl (lv_at hl 0 rfl) ?_
  refine lv_bipush (v := 10) hx hb dX12_image_58 (by decide) ?_
  refine lv_icmp_ge (tgt := 81) hx hb dX12_image_60 (by decide) (fun c => absurd c (by decide)) (fun _ => ?_)
  refine lv_aload_n hx hb dX12_image_63 rfl (lv_at hl 1 rfl) ?_
  refine va_get (D := J.1) (ci := 12) (v := .ref (b 40)) (C := RX12) (T := TX12) (N := 50) hx hb hts inX12 hown hK.1 hP 0 rfl rfl 39 (by decide) (hts _ q_1305) (fun _ h9 => h9) rfl dX12_image_64 ?_
  refine lv_iload_n hx hb dX12_image_67 rfl (lv_at hl 0 rfl) ?_
  refine lv_aload_n hx hb dX12_image_68 rfl (lv_at hl 1 rfl) ?_
  refine va_get (D := J.1) (ci := 12) (v := .ref (b 36)) (C := RX12) (T := TX12) (N := 50) hx hb hts inX12 hown hK.1 hP 0 rfl rfl 35 (by decide) (hts _ q_1301) (fun _ h9 => h9) rfl dX12_image_69 ?_
  refine lv_iload_n hx hb dX12_image_72 rfl (lv_at hl 0 rfl) ?_
  have h8 : vp_in 1 10 := (i_in (a := 1) (by decide) (by omega) (by omega))
  refine va_iald hx hb hK.1 hP 3 0 rfl rfl h8 dX12_image_73 ?_
  refine top_i (y := 0) rfl ?_
  have h9 : vp_in 1 10 := (i_in (a := 1) (by decide) (by omega) (by omega))
  refine va_iast hx hb hK.1 hP hD hS 2 0 rfl rfl h9 dX12_image_74 (fun H locs hP hD hS => ?_)
  have hP : va_P J.1 cls [((b 0), .inr (12, [.ref (b 1), .ref (b 2), .ref (b 3), .ref (b 4), .int 0, .int 0, .int 0, .int 0, .ref (b 9), .ref (b 10), .int 0, .ref (b 12), .int (-1), .int 0, .int 0, .int 0, .int 0, .int 0, .ref (b 19), .ref (b 20), .ref (b 21), .ref (b 22), .ref (b 23), .long 0, .long 0, .long 0, .ref (b 27), .ref (b 28), .ref (b 29), .long 0, .int 0, .int (-1), .int 0, .int 0, .int 0, .ref (b 36), .int 0, .int 1, .ref (b 39), .ref (b 40), .int 0, .ref (b 42), .ref (b 43), .int 0, .int 0, .int 0, .ref (b 47), .ref (b 48), .ref (b 49), .ref (b 50)])), ((b 39), .inl (J.2.1, 5, .inl (upd (upd (upd (upd (upd (fun _ => 0) (0 : Int32).toNatClampNeg (-1)) (1 : Int32).toNatClampNeg 0) (2 : Int32).toNatClampNeg 0) (3 : Int32).toNatClampNeg 0) (4 : Int32).toNatClampNeg 0))), ((b 40), .inl (J.2.1, 10, .inl (upd (upd (fun _ => 0) (0 : Int32).toNatClampNeg 0) (1 : Int32).toNatClampNeg 0))), ((b 36), .inl (J.2.1, 10, .inl (fun _ => 0)))] H := hP
  have hD : va_D A [((b 0), .inr (12, [.ref (b 1), .ref (b 2), .ref (b 3), .ref (b 4), .int 0, .int 0, .int 0, .int 0, .ref (b 9), .ref (b 10), .int 0, .ref (b 12), .int (-1), .int 0, .int 0, .int 0, .int 0, .int 0, .ref (b 19), .ref (b 20), .ref (b 21), .ref (b 22), .ref (b 23), .long 0, .long 0, .long 0, .ref (b 27), .ref (b 28), .ref (b 29), .long 0, .int 0, .int (-1), .int 0, .int 0, .int 0, .ref (b 36), .int 0, .int 1, .ref (b 39), .ref (b 40), .int 0, .ref (b 42), .ref (b 43), .int 0, .int 0, .int 0, .ref (b 47), .ref (b 48), .ref (b 49), .ref (b 50)])), ((b 39), .inl (J.2.1, 5, .inl (upd (upd (upd (upd (upd (fun _ => 0) (0 : Int32).toNatClampNeg (-1)) (1 : Int32).toNatClampNeg 0) (2 : Int32).toNatClampNeg 0) (3 : Int32).toNatClampNeg 0) (4 : Int32).toNatClampNeg 0))), ((b 40), .inl (J.2.1, 10, .inl (upd (upd (fun _ => 0) (0 : Int32).toNatClampNeg 0) (1 : Int32).toNatClampNeg 0))), ((b 36), .inl (J.2.1, 10, .inl (fun _ => 0)))] := hD
  refine lv_iinc (v := 2) (lv' := [(1, .int 2), (0, .ref (b 0))]) hx hb dX12_image_75 hl (k := 0) rfl (by decide) (by decide) rfl (fun ls hl => ?_)
  refine lv_goto (tgt := 57) hx hb dX12_image_78 (by decide) ?_
  refine lv_iload_n hx hb dX12_image_57 rfl (lv_at hl 0 rfl) ?_
  refine lv_bipush (v := 10) hx hb dX12_image_58 (by decide) ?_
  refine lv_icmp_ge (tgt := 81) hx hb dX12_image_60 (by decide) (fun c => absurd c (by decide)) (fun _ => ?_)
  refine lv_aload_n hx hb dX12_image_63 rfl (lv_at hl 1 rfl) ?_
  refine va_get (D := J.1) (ci := 12) (v := .ref (b 40)) (C := RX12) (T := TX12) (N := 50) hx hb hts inX12 hown hK.1 hP 0 rfl rfl 39 (by decide) (hts _ q_1305) (fun _ h9 => h9) rfl dX12_image_64 ?_
  refine lv_iload_n hx hb dX12_image_67 rfl (lv_at hl 0 rfl) ?_
  refine lv_aload_n hx hb dX12_image_68 rfl (lv_at hl 1 rfl) ?_
  refine va_get (D := J.1) (ci := 12) (v := .ref (b 36)) (C := RX12) (T := TX12) (N := 50) hx hb hts inX12 hown hK.1 hP 0 rfl rfl 35 (by decide) (hts _ q_1301) (fun _ h9 => h9) rfl dX12_image_69 ?_
  refine lv_iload_n hx hb dX12_image_72 rfl (lv_at hl 0 rfl) ?_
  have h10 : vp_in 2 10 := (i_in (a := 2) (by decide) (by omega) (by omega))
  refine va_iald hx hb hK.1 hP 3 0 rfl rfl h10 dX12_image_73 ?_
  refine top_i (y := 0) rfl ?_
  have h11 : vp_in 2 10 := (i_in (a := 2) (by decide) (by omega) (by omega))
  refine va_iast hx hb hK.1 hP hD hS 2 0 rfl rfl h11 dX12_image_74 (fun H locs hP hD hS => ?_)
  have hP : va_P J.1 cls [((b 0), .inr (12, [.ref (b 1), .ref (b 2), .ref (b 3), .ref (b 4), .int 0, .int 0, .int 0, .int 0, .ref (b 9), .ref (b 10), .int 0, .ref (b 12), .int (-1), .int 0, .int 0, .int 0, .int 0, .int 0, .ref (b 19), .ref (b 20), .ref (b 21), .ref (b 22), .ref (b 23), .long 0, .long 0, .long 0, .ref (b 27), .ref (b 28), .ref (b 29), .long 0, .int 0, .int (-1), .int 0, .int 0, .int 0, .ref (b 36), .int 0, .int 1, .ref (b 39), .ref (b 40), .int 0, .ref (b 42), .ref (b 43), .int 0, .int 0, .int 0, .ref (b 47), .ref (b 48), .ref (b 49), .ref (b 50)])), ((b 39), .inl (J.2.1, 5, .inl (upd (upd (upd (upd (upd (fun _ => 0) (0 : Int32).toNatClampNeg (-1)) (1 : Int32).toNatClampNeg 0) (2 : Int32).toNatClampNeg 0) (3 : Int32).toNatClampNeg 0) (4 : Int32).toNatClampNeg 0))), ((b 40), .inl (J.2.1, 10, .inl (upd (upd (upd (fun _ => 0) (0 : Int32).toNatClampNeg 0) (1 : Int32).toNatClampNeg 0) (2 : Int32).toNatClampNeg 0))), ((b 36), .inl (J.2.1, 10, .inl (fun _ => 0)))] H := hP
  have hD : va_D A [((b 0), .inr (12, [.ref (b 1), .ref (b 2), .ref (b 3), .ref (b 4), .int 0, .int 0, .int 0, .int 0, .ref (b 9), .ref (b 10), .int 0, .ref (b 12), .int (-1), .int 0, .int 0, .int 0, .int 0, .int 0, .ref (b 19), .ref (b 20), .ref (b 21), .ref (b 22), .ref (b 23), .long 0, .long 0, .long 0, .ref (b 27), .ref (b 28), .ref (b 29), .long 0, .int 0, .int (-1), .int 0, .int 0, .int 0, .ref (b 36), .int 0, .int 1, .ref (b 39), .ref (b 40), .int 0, .ref (b 42), .ref (b 43), .int 0, .int 0, .int 0, .ref (b 47), .ref (b 48), .ref (b 49), .ref (b 50)])), ((b 39), .inl (J.2.1, 5, .inl (upd (upd (upd (upd (upd (fun _ => 0) (0 : Int32).toNatClampNeg (-1)) (1 : Int32).toNatClampNeg 0) (2 : Int32).toNatClampNeg 0) (3 : Int32).toNatClampNeg 0) (4 : Int32).toNatClampNeg 0))), ((b 40), .inl (J.2.1, 10, .inl (upd (upd (upd (fun _ => 0) (0 : Int32).toNatClampNeg 0) (1 : Int32).toNatClampNeg 0) (2 : Int32).toNatClampNeg 0))), ((b 36), .inl (J.2.1, 10, .inl (fun _ => 0)))] := hD
  refine lv_iinc (v := 3) (lv' := [(1, .int 3), (0, .ref (b 0))]) hx hb dX12_image_75 hl (k := 0) rfl (by decide) (by decide) rfl (fun ls hl => ?_)
  refine lv_goto (tgt := 57) hx hb dX12_image_78 (by decide) ?_
  refine lv_iload_n hx hb dX12_image_57 rfl (lv_at hl 0 rfl) ?_
  refine lv_bipush (v := 10) hx hb dX12_image_58 (by decide) ?_
  refine lv_icmp_ge (tgt := 81) hx hb dX12_image_60 (by decide) (fun c => absurd c (by decide)) (fun _ => ?_)
  refine lv_aload_n hx hb dX12_image_63 rfl (lv_at hl 1 rfl) ?_
  refine va_get (D := J.1) (ci := 12) (v := .ref (b 40)) (C := RX12) (T := TX12) (N := 50) hx hb hts inX12 hown hK.1 hP 0 rfl rfl 39 (by decide) (hts _ q_1305) (fun _ h9 => h9) rfl dX12_image_64 ?_
  refine lv_iload_n hx hb dX12_image_67 rfl (lv_at hl 0 rfl) ?_
  refine lv_aload_n hx hb dX12_image_68 rfl (lv_at hl 1 rfl) ?_
  refine va_get (D := J.1) (ci := 12) (v := .ref (b 36)) (C := RX12) (T := TX12) (N := 50) hx hb hts inX12 hown hK.1 hP 0 rfl rfl 35 (by decide) (hts _ q_1301) (fun _ h9 => h9) rfl dX12_image_69 ?_
  refine lv_iload_n hx hb dX12_image_72 rfl (lv_at hl 0 rfl) ?_
  have h12 : vp_in 3 10 := (i_in (a := 3) (by decide) (by omega) (by omega))
  refine va_iald hx hb hK.1 hP 3 0 rfl rfl h12 dX12_image_73 ?_
  refine top_i (y := 0) rfl ?_
  have h13 : vp_in 3 10 := (i_in (a := 3) (by decide) (by omega) (by omega))
  refine va_iast hx hb hK.1 hP hD hS 2 0 rfl rfl h13 dX12_image_74 (fun H locs hP hD hS => ?_)
  have hP : va_P J.1 cls [((b 0), .inr (12, [.ref (b 1), .ref (b 2), .ref (b 3), .ref (b 4), .int 0, .int 0, .int 0, .int 0, .ref (b 9), .ref (b 10), .int 0, .ref (b 12), .int (-1), .int 0, .int 0, .int 0, .int 0, .int 0, .ref (b 19), .ref (b 20), .ref (b 21), .ref (b 22), .ref (b 23), .long 0, .long 0, .long 0, .ref (b 27), .ref (b 28), .ref (b 29), .long 0, .int 0, .int (-1), .int 0, .int 0, .int 0, .ref (b 36), .int 0, .int 1, .ref (b 39), .ref (b 40), .int 0, .ref (b 42), .ref (b 43), .int 0, .int 0, .int 0, .ref (b 47), .ref (b 48), .ref (b 49), .ref (b 50)])), ((b 39), .inl (J.2.1, 5, .inl (upd (upd (upd (upd (upd (fun _ => 0) (0 : Int32).toNatClampNeg (-1)) (1 : Int32).toNatClampNeg 0) (2 : Int32).toNatClampNeg 0) (3 : Int32).toNatClampNeg 0) (4 : Int32).toNatClampNeg 0))), ((b 40), .inl (J.2.1, 10, .inl (upd (upd (upd (upd (fun _ => 0) (0 : Int32).toNatClampNeg 0) (1 : Int32).toNatClampNeg 0) (2 : Int32).toNatClampNeg 0) (3 : Int32).toNatClampNeg 0))), ((b 36), .inl (J.2.1, 10, .inl (fun _ => 0)))] H := hP
  have hD : va_D A [((b 0), .inr (12, [.ref (b 1), .ref (b 2), .ref (b 3), .ref (b 4), .int 0, .int 0, .int 0, .int 0, .ref (b 9), .ref (b 10), .int 0, .ref (b 12), .int (-1), .int 0, .int 0, .int 0, .int 0, .int 0, .ref (b 19), .ref (b 20), .ref (b 21), .ref (b 22), .ref (b 23), .long 0, .long 0, .long 0, .ref (b 27), .ref (b 28), .ref (b 29), .long 0, .int 0, .int (-1), .int 0, .int 0, .int 0, .ref (b 36), .int 0, .int 1, .ref (b 39), .ref (b 40), .int 0, .ref (b 42), .ref (b 43), .int 0, .int 0, .int 0, .ref (b 47), .ref (b 48), .ref (b 49), .ref (b 50)])), ((b 39), .inl (J.2.1, 5, .inl (upd (upd (upd (upd (upd (fun _ => 0) (0 : Int32).toNatClampNeg (-1)) (1 : Int32).toNatClampNeg 0) (2 : Int32).toNatClampNeg 0) (3 : Int32).toNatClampNeg 0) (4 : Int32).toNatClampNeg 0))), ((b 40), .inl (J.2.1, 10, .inl (upd (upd (upd (upd (fun _ => 0) (0 : Int32).toNatClampNeg 0) (1 : Int32).toNatClampNeg 0) (2 : Int32).toNatClampNeg 0) (3 : Int32).toNatClampNeg 0))), ((b 36), .inl (J.2.1, 10, .inl (fun _ => 0)))] := hD
  refine lv_iinc (v := 4) (lv' := [(1, .int 4), (0, .ref (b 0))]) hx hb dX12_image_75 hl (k := 0) rfl (by decide) (by decide) rfl (fun ls hl => ?_)
  refine lv_goto (tgt := 57) hx hb dX12_image_78 (by decide) ?_
  refine lv_iload_n hx hb dX12_image_57 rfl (lv_at hl 0 rfl) ?_
  refine lv_bipush (v := 10) hx hb dX12_image_58 (by decide) ?_
  refine lv_icmp_ge (tgt := 81) hx hb dX12_image_60 (by decide) (fun c => absurd c (by decide)) (fun _ => ?_)
  refine lv_aload_n hx hb dX12_image_63 rfl (lv_at hl 1 rfl) ?_
  refine va_get (D := J.1) (ci := 12) (v := .ref (b 40)) (C := RX12) (T := TX12) (N := 50) hx hb hts inX12 hown hK.1 hP 0 rfl rfl 39 (by decide) (hts _ q_1305) (fun _ h9 => h9) rfl dX12_image_64 ?_
  refine lv_iload_n hx hb dX12_image_67 rfl (lv_at hl 0 rfl) ?_
  refine lv_aload_n hx hb dX12_image_68 rfl (lv_at hl 1 rfl) ?_
  refine va_get (D := J.1) (ci := 12) (v := .ref (b 36)) (C := RX12) (T := TX12) (N := 50) hx hb hts inX12 hown hK.1 hP 0 rfl rfl 35 (by decide) (hts _ q_1301) (fun _ h9 => h9) rfl dX12_image_69 ?_
  refine lv_iload_n hx hb dX12_image_72 rfl (lv_at hl 0 rfl) ?_
  have h14 : vp_in 4 10 := (i_in (a := 4) (by decide) (by omega) (by omega))
  refine va_iald hx hb hK.1 hP 3 0 rfl rfl h14 dX12_image_73 ?_
  refine top_i (y := 0) rfl ?_
  have h15 : vp_in 4 10 := (i_in (a := 4) (by decide) (by omega) (by omega))
  refine va_iast hx hb hK.1 hP hD hS 2 0 rfl rfl h15 dX12_image_74 (fun H locs hP hD hS => ?_)
  have hP : va_P J.1 cls [((b 0), .inr (12, [.ref (b 1), .ref (b 2), .ref (b 3), .ref (b 4), .int 0, .int 0, .int 0, .int 0, .ref (b 9), .ref (b 10), .int 0, .ref (b 12), .int (-1), .int 0, .int 0, .int 0, .int 0, .int 0, .ref (b 19), .ref (b 20), .ref (b 21), .ref (b 22), .ref (b 23), .long 0, .long 0, .long 0, .ref (b 27), .ref (b 28), .ref (b 29), .long 0, .int 0, .int (-1), .int 0, .int 0, .int 0, .ref (b 36), .int 0, .int 1, .ref (b 39), .ref (b 40), .int 0, .ref (b 42), .ref (b 43), .int 0, .int 0, .int 0, .ref (b 47), .ref (b 48), .ref (b 49), .ref (b 50)])), ((b 39), .inl (J.2.1, 5, .inl (upd (upd (upd (upd (upd (fun _ => 0) (0 : Int32).toNatClampNeg (-1)) (1 : Int32).toNatClampNeg 0) (2 : Int32).toNatClampNeg 0) (3 : Int32).toNatClampNeg 0) (4 : Int32).toNatClampNeg 0))), ((b 40), .inl (J.2.1, 10, .inl (upd (upd (upd (upd (upd (fun _ => 0) (0 : Int32).toNatClampNeg 0) (1 : Int32).toNatClampNeg 0) (2 : Int32).toNatClampNeg 0) (3 : Int32).toNatClampNeg 0) (4 : Int32).toNatClampNeg 0))), ((b 36), .inl (J.2.1, 10, .inl (fun _ => 0)))] H := hP
  have hD : va_D A [((b 0), .inr (12, [.ref (b 1), .ref (b 2), .ref (b 3), .ref (b 4), .int 0, .int 0, .int 0, .int 0, .ref (b 9), .ref (b 10), .int 0, .ref (b 12), .int (-1), .int 0, .int 0, .int 0, .int 0, .int 0, .ref (b 19), .ref (b 20), .ref (b 21), .ref (b 22), .ref (b 23), .long 0, .long 0, .long 0, .ref (b 27), .ref (b 28), .ref (b 29), .long 0, .int 0, .int (-1), .int 0, .int 0, .int 0, .ref (b 36), .int 0, .int 1, .ref (b 39), .ref (b 40), .int 0, .ref (b 42), .ref (b 43), .int 0, .int 0, .int 0, .ref (b 47), .ref (b 48), .ref (b 49), .ref (b 50)])), ((b 39), .inl (J.2.1, 5, .inl (upd (upd (upd (upd (upd (fun _ => 0) (0 : Int32).toNatClampNeg (-1)) (1 : Int32).toNatClampNeg 0) (2 : Int32).toNatClampNeg 0) (3 : Int32).toNatClampNeg 0) (4 : Int32).toNatClampNeg 0))), ((b 40), .inl (J.2.1, 10, .inl (upd (upd (upd (upd (upd (fun _ => 0) (0 : Int32).toNatClampNeg 0) (1 : Int32).toNatClampNeg 0) (2 : Int32).toNatClampNeg 0) (3 : Int32).toNatClampNeg 0) (4 : Int32).toNatClampNeg 0))), ((b 36), .inl (J.2.1, 10, .inl (fun _ => 0)))] := hD
  refine lv_iinc (v := 5) (lv' := [(1, .int 5), (0, .ref (b 0))]) hx hb dX12_image_75 hl (k := 0) rfl (by decide) (by decide) rfl (fun ls hl => ?_)
  refine lv_goto (tgt := 57) hx hb dX12_image_78 (by decide) ?_
  refine lv_iload_n hx hb dX12_image_57 rfl (lv_at hl 0 rfl) ?_
  refine lv_bipush (v := 10) hx hb dX12_image_58 (by decide) ?_
  refine lv_icmp_ge (tgt := 81) hx hb dX12_image_60 (by decide) (fun c => absurd c (by decide)) (fun _ => ?_)
  refine lv_aload_n hx hb dX12_image_63 rfl (lv_at hl 1 rfl) ?_
  refine va_get (D := J.1) (ci := 12) (v := .ref (b 40)) (C := RX12) (T := TX12) (N := 50) hx hb hts inX12 hown hK.1 hP 0 rfl rfl 39 (by decide) (hts _ q_1305) (fun _ h9 => h9) rfl dX12_image_64 ?_
  refine lv_iload_n hx hb dX12_image_67 rfl (lv_at hl 0 rfl) ?_
  refine lv_aload_n hx hb dX12_image_68 rfl (lv_at hl 1 rfl) ?_
  refine va_get (D := J.1) (ci := 12) (v := .ref (b 36)) (C := RX12) (T := TX12) (N := 50) hx hb hts inX12 hown hK.1 hP 0 rfl rfl 35 (by decide) (hts _ q_1301) (fun _ h9 => h9) rfl dX12_image_69 ?_
  refine lv_iload_n hx hb dX12_image_72 rfl (lv_at hl 0 rfl) ?_
  have h16 : vp_in 5 10 := (i_in (a := 5) (by decide) (by omega) (by omega))
  refine va_iald hx hb hK.1 hP 3 0 rfl rfl h16 dX12_image_73 ?_
  refine top_i (y := 0) rfl ?_
  have h17 : vp_in 5 10 := (i_in (a := 5) (by decide) (by omega) (by omega))
  refine va_iast hx hb hK.1 hP hD hS 2 0 rfl rfl h17 dX12_image_74 (fun H locs hP hD hS => ?_)
  have hP : va_P J.1 cls [((b 0), .inr (12, [.ref (b 1), .ref (b 2), .ref (b 3), .ref (b 4), .int 0, .int 0, .int 0, .int 0, .ref (b 9), .ref (b 10), .int 0, .ref (b 12), .int (-1), .int 0, .int 0, .int 0, .int 0, .int 0, .ref (b 19), .ref (b 20), .ref (b 21), .ref (b 22), .ref (b 23), .long 0, .long 0, .long 0, .ref (b 27), .ref (b 28), .ref (b 29), .long 0, .int 0, .int (-1), .int 0, .int 0, .int 0, .ref (b 36), .int 0, .int 1, .ref (b 39), .ref (b 40), .int 0, .ref (b 42), .ref (b 43), .int 0, .int 0, .int 0, .ref (b 47), .ref (b 48), .ref (b 49), .ref (b 50)])), ((b 39), .inl (J.2.1, 5, .inl (upd (upd (upd (upd (upd (fun _ => 0) (0 : Int32).toNatClampNeg (-1)) (1 : Int32).toNatClampNeg 0) (2 : Int32).toNatClampNeg 0) (3 : Int32).toNatClampNeg 0) (4 : Int32).toNatClampNeg 0))), ((b 40), .inl (J.2.1, 10, .inl (upd (upd (upd (upd (upd (upd (fun _ => 0) (0 : Int32).toNatClampNeg 0) (1 : Int32).toNatClampNeg 0) (2 : Int32).toNatClampNeg 0) (3 : Int32).toNatClampNeg 0) (4 : Int32).toNatClampNeg 0) (5 : Int32).toNatClampNeg 0))), ((b 36), .inl (J.2.1, 10, .inl (fun _ => 0)))] H := hP
  have hD : va_D A [((b 0), .inr (12, [.ref (b 1), .ref (b 2), .ref (b 3), .ref (b 4), .int 0, .int 0, .int 0, .int 0, .ref (b 9), .ref (b 10), .int 0, .ref (b 12), .int (-1), .int 0, .int 0, .int 0, .int 0, .int 0, .ref (b 19), .ref (b 20), .ref (b 21), .ref (b 22), .ref (b 23), .long 0, .long 0, .long 0, .ref (b 27), .ref (b 28), .ref (b 29), .long 0, .int 0, .int (-1), .int 0, .int 0, .int 0, .ref (b 36), .int 0, .int 1, .ref (b 39), .ref (b 40), .int 0, .ref (b 42), .ref (b 43), .int 0, .int 0, .int 0, .ref (b 47), .ref (b 48), .ref (b 49), .ref (b 50)])), ((b 39), .inl (J.2.1, 5, .inl (upd (upd (upd (upd (upd (fun _ => 0) (0 : Int32).toNatClampNeg (-1)) (1 : Int32).toNatClampNeg 0) (2 : Int32).toNatClampNeg 0) (3 : Int32).toNatClampNeg 0) (4 : Int32).toNatClampNeg 0))), ((b 40), .inl (J.2.1, 10, .inl (upd (upd (upd (upd (upd (upd (fun _ => 0) (0 : Int32).toNatClampNeg 0) (1 : Int32).toNatClampNeg 0) (2 : Int32).toNatClampNeg 0) (3 : Int32).toNatClampNeg 0) (4 : Int32).toNatClampNeg 0) (5 : Int32).toNatClampNeg 0))), ((b 36), .inl (J.2.1, 10, .inl (fun _ => 0)))] := hD
  refine lv_iinc (v := 6) (lv' := [(1, .int 6), (0, .ref (b 0))]) hx hb dX12_image_75 hl (k := 0) rfl (by decide) (by decide) rfl (fun ls hl => ?_)
  refine lv_goto (tgt := 57) hx hb dX12_image_78 (by decide) ?_
  refine lv_iload_n hx hb dX12_image_57 rfl (lv_at hl 0 rfl) ?_
  refine lv_bipush (v := 10) hx hb dX12_image_58 (by decide) ?_
  refine lv_icmp_ge (tgt := 81) hx hb dX12_image_60 (by decide) (fun c => absurd c (by decide)) (fun _ => ?_)
  refine lv_aload_n hx hb dX12_image_63 rfl (lv_at hl 1 rfl) ?_
  refine va_get (D := J.1) (ci := 12) (v := .ref (b 40)) (C := RX12) (T := TX12) (N := 50) hx hb hts inX12 hown hK.1 hP 0 rfl rfl 39 (by decide) (hts _ q_1305) (fun _ h9 => h9) rfl dX12_image_64 ?_
  refine lv_iload_n hx hb dX12_image_67 rfl (lv_at hl 0 rfl) ?_
  refine lv_aload_n hx hb dX12_image_68 rfl (lv_at hl 1 rfl) ?_
  refine va_get (D := J.1) (ci := 12) (v := .ref (b 36)) (C := RX12) (T := TX12) (N := 50) hx hb hts inX12 hown hK.1 hP 0 rfl rfl 35 (by decide) (hts _ q_1301) (fun _ h9 => h9) rfl dX12_image_69 ?_
  refine lv_iload_n hx hb dX12_image_72 rfl (lv_at hl 0 rfl) ?_
  have h18 : vp_in 6 10 := (i_in (a := 6) (by decide) (by omega) (by omega))
  refine va_iald hx hb hK.1 hP 3 0 rfl rfl h18 dX12_image_73 ?_
  refine top_i (y := 0) rfl ?_
  have h19 : vp_in 6 10 := (i_in (a := 6) (by decide) (by omega) (by omega))
  refine va_iast hx hb hK.1 hP hD hS 2 0 rfl rfl h19 dX12_image_74 (fun H locs hP hD hS => ?_)
  have hP : va_P J.1 cls [((b 0), .inr (12, [.ref (b 1), .ref (b 2), .ref (b 3), .ref (b 4), .int 0, .int 0, .int 0, .int 0, .ref (b 9), .ref (b 10), .int 0, .ref (b 12), .int (-1), .int 0, .int 0, .int 0, .int 0, .int 0, .ref (b 19), .ref (b 20), .ref (b 21), .ref (b 22), .ref (b 23), .long 0, .long 0, .long 0, .ref (b 27), .ref (b 28), .ref (b 29), .long 0, .int 0, .int (-1), .int 0, .int 0, .int 0, .ref (b 36), .int 0, .int 1, .ref (b 39), .ref (b 40), .int 0, .ref (b 42), .ref (b 43), .int 0, .int 0, .int 0, .ref (b 47), .ref (b 48), .ref (b 49), .ref (b 50)])), ((b 39), .inl (J.2.1, 5, .inl (upd (upd (upd (upd (upd (fun _ => 0) (0 : Int32).toNatClampNeg (-1)) (1 : Int32).toNatClampNeg 0) (2 : Int32).toNatClampNeg 0) (3 : Int32).toNatClampNeg 0) (4 : Int32).toNatClampNeg 0))), ((b 40), .inl (J.2.1, 10, .inl (upd (upd (upd (upd (upd (upd (upd (fun _ => 0) (0 : Int32).toNatClampNeg 0) (1 : Int32).toNatClampNeg 0) (2 : Int32).toNatClampNeg 0) (3 : Int32).toNatClampNeg 0) (4 : Int32).toNatClampNeg 0) (5 : Int32).toNatClampNeg 0) (6 : Int32).toNatClampNeg 0))), ((b 36), .inl (J.2.1, 10, .inl (fun _ => 0)))] H := hP
  have hD : va_D A [((b 0), .inr (12, [.ref (b 1), .ref (b 2), .ref (b 3), .ref (b 4), .int 0, .int 0, .int 0, .int 0, .ref (b 9), .ref (b 10), .int 0, .ref (b 12), .int (-1), .int 0, .int 0, .int 0, .int 0, .int 0, .ref (b 19), .ref (b 20), .ref (b 21), .ref (b 22), .ref (b 23), .long 0, .long 0, .long 0, .ref (b 27), .ref (b 28), .ref (b 29), .long 0, .int 0, .int (-1), .int 0, .int 0, .int 0, .ref (b 36), .int 0, .int 1, .ref (b 39), .ref (b 40), .int 0, .ref (b 42), .ref (b 43), .int 0, .int 0, .int 0, .ref (b 47), .ref (b 48), .ref (b 49), .ref (b 50)])), ((b 39), .inl (J.2.1, 5, .inl (upd (upd (upd (upd (upd (fun _ => 0) (0 : Int32).toNatClampNeg (-1)) (1 : Int32).toNatClampNeg 0) (2 : Int32).toNatClampNeg 0) (3 : Int32).toNatClampNeg 0) (4 : Int32).toNatClampNeg 0))), ((b 40), .inl (J.2.1, 10, .inl (upd (upd (upd (upd (upd (upd (upd (fun _ => 0) (0 : Int32).toNatClampNeg 0) (1 : Int32).toNatClampNeg 0) (2 : Int32).toNatClampNeg 0) (3 : Int32).toNatClampNeg 0) (4 : Int32).toNatClampNeg 0) (5 : Int32).toNatClampNeg 0) (6 : Int32).toNatClampNeg 0))), ((b 36), .inl (J.2.1, 10, .inl (fun _ => 0)))] := hD
  refine lv_iinc (v := 7) (lv' := [(1, .int 7), (0, .ref (b 0))]) hx hb dX12_image_75 hl (k := 0) rfl (by decide) (by decide) rfl (fun ls hl => ?_)
  refine lv_goto (tgt := 57) hx hb dX12_image_78 (by decide) ?_
  refine lv_iload_n hx hb dX12_image_57 rfl (lv_at hl 0 rfl) ?_
  refine lv_bipush (v := 10) hx hb dX12_image_58 (by decide) ?_
  refine lv_icmp_ge (tgt := 81) hx hb dX12_image_60 (by decide) (fun c => absurd c (by decide)) (fun _ => ?_)
  refine lv_aload_n hx hb dX12_image_63 rfl (lv_at hl 1 rfl) ?_
  refine va_get (D := J.1) (ci := 12) (v := .ref (b 40)) (C := RX12) (T := TX12) (N := 50) hx hb hts inX12 hown hK.1 hP 0 rfl rfl 39 (by decide) (hts _ q_1305) (fun _ h9 => h9) rfl dX12_image_64 ?_
  refine lv_iload_n hx hb dX12_image_67 rfl (lv_at hl 0 rfl) ?_
  refine lv_aload_n hx hb dX12_image_68 rfl (lv_at hl 1 rfl) ?_
  refine va_get (D := J.1) (ci := 12) (v := .ref (b 36)) (C := RX12) (T := TX12) (N := 50) hx hb hts inX12 hown hK.1 hP 0 rfl rfl 35 (by decide) (hts _ q_1301) (fun _ h9 => h9) rfl dX12_image_69 ?_
  refine lv_iload_n hx hb dX12_image_72 rfl (lv_at hl 0 rfl) ?_
  have h20 : vp_in 7 10 := (i_in (a := 7) (by decide) (by omega) (by omega))
  refine va_iald hx hb hK.1 hP 3 0 rfl rfl h20 dX12_image_73 ?_
  refine top_i (y := 0) rfl ?_
  have h21 : vp_in 7 10 := (i_in (a := 7) (by decide) (by omega) (by omega))
  refine va_iast hx hb hK.1 hP hD hS 2 0 rfl rfl h21 dX12_image_74 (fun H locs hP hD hS => ?_)
  have hP : va_P J.1 cls [((b 0), .inr (12, [.ref (b 1), .ref (b 2), .ref (b 3), .ref (b 4), .int 0, .int 0, .int 0, .int 0, .ref (b 9), .ref (b 10), .int 0, .ref (b 12), .int (-1), .int 0, .int 0, .int 0, .int 0, .int 0, .ref (b 19), .ref (b 20), .ref (b 21), .ref (b 22), .ref (b 23), .long 0, .long 0, .long 0, .ref (b 27), .ref (b 28), .ref (b 29), .long 0, .int 0, .int (-1), .int 0, .int 0, .int 0, .ref (b 36), .int 0, .int 1, .ref (b 39), .ref (b 40), .int 0, .ref (b 42), .ref (b 43), .int 0, .int 0, .int 0, .ref (b 47), .ref (b 48), .ref (b 49), .ref (b 50)])), ((b 39), .inl (J.2.1, 5, .inl (upd (upd (upd (upd (upd (fun _ => 0) (0 : Int32).toNatClampNeg (-1)) (1 : Int32).toNatClampNeg 0) (2 : Int32).toNatClampNeg 0) (3 : Int32).toNatClampNeg 0) (4 : Int32).toNatClampNeg 0))), ((b 40), .inl (J.2.1, 10, .inl (upd (upd (upd (upd (upd (upd (upd (upd (fun _ => 0) (0 : Int32).toNatClampNeg 0) (1 : Int32).toNatClampNeg 0) (2 : Int32).toNatClampNeg 0) (3 : Int32).toNatClampNeg 0) (4 : Int32).toNatClampNeg 0) (5 : Int32).toNatClampNeg 0) (6 : Int32).toNatClampNeg 0) (7 : Int32).toNatClampNeg 0))), ((b 36), .inl (J.2.1, 10, .inl (fun _ => 0)))] H := hP
  have hD : va_D A [((b 0), .inr (12, [.ref (b 1), .ref (b 2), .ref (b 3), .ref (b 4), .int 0, .int 0, .int 0, .int 0, .ref (b 9), .ref (b 10), .int 0, .ref (b 12), .int (-1), .int 0, .int 0, .int 0, .int 0, .int 0, .ref (b 19), .ref (b 20), .ref (b 21), .ref (b 22), .ref (b 23), .long 0, .long 0, .long 0, .ref (b 27), .ref (b 28), .ref (b 29), .long 0, .int 0, .int (-1), .int 0, .int 0, .int 0, .ref (b 36), .int 0, .int 1, .ref (b 39), .ref (b 40), .int 0, .ref (b 42), .ref (b 43), .int 0, .int 0, .int 0, .ref (b 47), .ref (b 48), .ref (b 49), .ref (b 50)])), ((b 39), .inl (J.2.1, 5, .inl (upd (upd (upd (upd (upd (fun _ => 0) (0 : Int32).toNatClampNeg (-1)) (1 : Int32).toNatClampNeg 0) (2 : Int32).toNatClampNeg 0) (3 : Int32).toNatClampNeg 0) (4 : Int32).toNatClampNeg 0))), ((b 40), .inl (J.2.1, 10, .inl (upd (upd (upd (upd (upd (upd (upd (upd (fun _ => 0) (0 : Int32).toNatClampNeg 0) (1 : Int32).toNatClampNeg 0) (2 : Int32).toNatClampNeg 0) (3 : Int32).toNatClampNeg 0) (4 : Int32).toNatClampNeg 0) (5 : Int32).toNatClampNeg 0) (6 : Int32).toNatClampNeg 0) (7 : Int32).toNatClampNeg 0))), ((b 36), .inl (J.2.1, 10, .inl (fun _ => 0)))] := hD
  refine lv_iinc (v := 8) (lv' := [(1, .int 8), (0, .ref (b 0))]) hx hb dX12_image_75 hl (k := 0) rfl (by decide) (by decide) rfl (fun ls hl => ?_)
  refine lv_goto (tgt := 57) hx hb dX12_image_78 (by decide) ?_
  refine lv_iload_n hx hb dX12_image_57 rfl (lv_at hl 0 rfl) ?_
  refine lv_bipush (v := 10) hx hb dX12_image_58 (by decide) ?_
  refine lv_icmp_ge (tgt := 81) hx hb dX12_image_60 (by decide) (fun c => absurd c (by decide)) (fun _ => ?_)
  refine lv_aload_n hx hb dX12_image_63 rfl (lv_at hl 1 rfl) ?_
  refine va_get (D := J.1) (ci := 12) (v := .ref (b 40)) (C := RX12) (T := TX12) (N := 50) hx hb hts inX12 hown hK.1 hP 0 rfl rfl 39 (by decide) (hts _ q_1305) (fun _ h9 => h9) rfl dX12_image_64 ?_
  refine lv_iload_n hx hb dX12_image_67 rfl (lv_at hl 0 rfl) ?_
  refine lv_aload_n hx hb dX12_image_68 rfl (lv_at hl 1 rfl) ?_
  refine va_get (D := J.1) (ci := 12) (v := .ref (b 36)) (C := RX12) (T := TX12) (N := 50) hx hb hts inX12 hown hK.1 hP 0 rfl rfl 35 (by decide) (hts _ q_1301) (fun _ h9 => h9) rfl dX12_image_69 ?_
  refine lv_iload_n hx hb dX12_image_72 rfl (lv_at hl 0 rfl) ?_
  have h22 : vp_in 8 10 := (i_in (a := 8) (by decide) (by omega) (by omega))
  refine va_iald hx hb hK.1 hP 3 0 rfl rfl h22 dX12_image_73 ?_
  refine top_i (y := 0) rfl ?_
  have h23 : vp_in 8 10 := (i_in (a := 8) (by decide) (by omega) (by omega))
  refine va_iast hx hb hK.1 hP hD hS 2 0 rfl rfl h23 dX12_image_74 (fun H locs hP hD hS => ?_)
  have hP : va_P J.1 cls [((b 0), .inr (12, [.ref (b 1), .ref (b 2), .ref (b 3), .ref (b 4), .int 0, .int 0, .int 0, .int 0, .ref (b 9), .ref (b 10), .int 0, .ref (b 12), .int (-1), .int 0, .int 0, .int 0, .int 0, .int 0, .ref (b 19), .ref (b 20), .ref (b 21), .ref (b 22), .ref (b 23), .long 0, .long 0, .long 0, .ref (b 27), .ref (b 28), .ref (b 29), .long 0, .int 0, .int (-1), .int 0, .int 0, .int 0, .ref (b 36), .int 0, .int 1, .ref (b 39), .ref (b 40), .int 0, .ref (b 42), .ref (b 43), .int 0, .int 0, .int 0, .ref (b 47), .ref (b 48), .ref (b 49), .ref (b 50)])), ((b 39), .inl (J.2.1, 5, .inl (upd (upd (upd (upd (upd (fun _ => 0) (0 : Int32).toNatClampNeg (-1)) (1 : Int32).toNatClampNeg 0) (2 : Int32).toNatClampNeg 0) (3 : Int32).toNatClampNeg 0) (4 : Int32).toNatClampNeg 0))), ((b 40), .inl (J.2.1, 10, .inl (upd (upd (upd (upd (upd (upd (upd (upd (upd (fun _ => 0) (0 : Int32).toNatClampNeg 0) (1 : Int32).toNatClampNeg 0) (2 : Int32).toNatClampNeg 0) (3 : Int32).toNatClampNeg 0) (4 : Int32).toNatClampNeg 0) (5 : Int32).toNatClampNeg 0) (6 : Int32).toNatClampNeg 0) (7 : Int32).toNatClampNeg 0) (8 : Int32).toNatClampNeg 0))), ((b 36), .inl (J.2.1, 10, .inl (fun _ => 0)))] H := hP
  have hD : va_D A [((b 0), .inr (12, [.ref (b 1), .ref (b 2), .ref (b 3), .ref (b 4), .int 0, .int 0, .int 0, .int 0, .ref (b 9), .ref (b 10), .int 0, .ref (b 12), .int (-1), .int 0, .int 0, .int 0, .int 0, .int 0, .ref (b 19), .ref (b 20), .ref (b 21), .ref (b 22), .ref (b 23), .long 0, .long 0, .long 0, .ref (b 27), .ref (b 28), .ref (b 29), .long 0, .int 0, .int (-1), .int 0, .int 0, .int 0, .ref (b 36), .int 0, .int 1, .ref (b 39), .ref (b 40), .int 0, .ref (b 42), .ref (b 43), .int 0, .int 0, .int 0, .ref (b 47), .ref (b 48), .ref (b 49), .ref (b 50)])), ((b 39), .inl (J.2.1, 5, .inl (upd (upd (upd (upd (upd (fun _ => 0) (0 : Int32).toNatClampNeg (-1)) (1 : Int32).toNatClampNeg 0) (2 : Int32).toNatClampNeg 0) (3 : Int32).toNatClampNeg 0) (4 : Int32).toNatClampNeg 0))), ((b 40), .inl (J.2.1, 10, .inl (upd (upd (upd (upd (upd (upd (upd (upd (upd (fun _ => 0) (0 : Int32).toNatClampNeg 0) (1 : Int32).toNatClampNeg 0) (2 : Int32).toNatClampNeg 0) (3 : Int32).toNatClampNeg 0) (4 : Int32).toNatClampNeg 0) (5 : Int32).toNatClampNeg 0) (6 : Int32).toNatClampNeg 0) (7 : Int32).toNatClampNeg 0) (8 : Int32).toNatClampNeg 0))), ((b 36), .inl (J.2.1, 10, .inl (fun _ => 0)))] := hD
  refine lv_iinc (v := 9) (lv' := [(1, .int 9), (0, .ref (b 0))]) hx hb dX12_image_75 hl (k := 0) rfl (by decide) (by decide) rfl (fun ls hl => ?_)
  refine lv_goto (tgt := 57) hx hb dX12_image_78 (by decide) ?_
  refine lv_iload_n hx hb dX12_image_57 rfl (lv_at hl 0 rfl) ?_
  refine lv_bipush (v := 10) hx hb dX12_image_58 (by decide) ?_
  refine lv_icmp_ge (tgt := 81) hx hb dX12_image_60 (by decide) (fun c => absurd c (by decide)) (fun _ => ?_)
  refine lv_aload_n hx hb dX12_image_63 rfl (lv_at hl 1 rfl) ?_
  refine va_get (D := J.1) (ci := 12) (v := .ref (b 40)) (C := RX12) (T := TX12) (N := 50) hx hb hts inX12 hown hK.1 hP 0 rfl rfl 39 (by decide) (hts _ q_1305) (fun _ h9 => h9) rfl dX12_image_64 ?_
  refine lv_iload_n hx hb dX12_image_67 rfl (lv_at hl 0 rfl) ?_
  refine lv_aload_n hx hb dX12_image_68 rfl (lv_at hl 1 rfl) ?_
  refine va_get (D := J.1) (ci := 12) (v := .ref (b 36)) (C := RX12) (T := TX12) (N := 50) hx hb hts inX12 hown hK.1 hP 0 rfl rfl 35 (by decide) (hts _ q_1301) (fun _ h9 => h9) rfl dX12_image_69 ?_
  refine lv_iload_n hx hb dX12_image_72 rfl (lv_at hl 0 rfl) ?_
  have h24 : vp_in 9 10 := (i_in (a := 9) (by decide) (by omega) (by omega))
  refine va_iald hx hb hK.1 hP 3 0 rfl rfl h24 dX12_image_73 ?_
  refine top_i (y := 0) rfl ?_
  have h25 : vp_in 9 10 := (i_in (a := 9) (by decide) (by omega) (by omega))
  refine va_iast hx hb hK.1 hP hD hS 2 0 rfl rfl h25 dX12_image_74 (fun H locs hP hD hS => ?_)
  have hP : va_P J.1 cls [((b 0), .inr (12, [.ref (b 1), .ref (b 2), .ref (b 3), .ref (b 4), .int 0, .int 0, .int 0, .int 0, .ref (b 9), .ref (b 10), .int 0, .ref (b 12), .int (-1), .int 0, .int 0, .int 0, .int 0, .int 0, .ref (b 19), .ref (b 20), .ref (b 21), .ref (b 22), .ref (b 23), .long 0, .long 0, .long 0, .ref (b 27), .ref (b 28), .ref (b 29), .long 0, .int 0, .int (-1), .int 0, .int 0, .int 0, .ref (b 36), .int 0, .int 1, .ref (b 39), .ref (b 40), .int 0, .ref (b 42), .ref (b 43), .int 0, .int 0, .int 0, .ref (b 47), .ref (b 48), .ref (b 49), .ref (b 50)])), ((b 39), .inl (J.2.1, 5, .inl (upd (upd (upd (upd (upd (fun _ => 0) (0 : Int32).toNatClampNeg (-1)) (1 : Int32).toNatClampNeg 0) (2 : Int32).toNatClampNeg 0) (3 : Int32).toNatClampNeg 0) (4 : Int32).toNatClampNeg 0))), ((b 40), .inl (J.2.1, 10, .inl (upd (upd (upd (upd (upd (upd (upd (upd (upd (upd (fun _ => 0) (0 : Int32).toNatClampNeg 0) (1 : Int32).toNatClampNeg 0) (2 : Int32).toNatClampNeg 0) (3 : Int32).toNatClampNeg 0) (4 : Int32).toNatClampNeg 0) (5 : Int32).toNatClampNeg 0) (6 : Int32).toNatClampNeg 0) (7 : Int32).toNatClampNeg 0) (8 : Int32).toNatClampNeg 0) (9 : Int32).toNatClampNeg 0))), ((b 36), .inl (J.2.1, 10, .inl (fun _ => 0)))] H := hP
  have hD : va_D A [((b 0), .inr (12, [.ref (b 1), .ref (b 2), .ref (b 3), .ref (b 4), .int 0, .int 0, .int 0, .int 0, .ref (b 9), .ref (b 10), .int 0, .ref (b 12), .int (-1), .int 0, .int 0, .int 0, .int 0, .int 0, .ref (b 19), .ref (b 20), .ref (b 21), .ref (b 22), .ref (b 23), .long 0, .long 0, .long 0, .ref (b 27), .ref (b 28), .ref (b 29), .long 0, .int 0, .int (-1), .int 0, .int 0, .int 0, .ref (b 36), .int 0, .int 1, .ref (b 39), .ref (b 40), .int 0, .ref (b 42), .ref (b 43), .int 0, .int 0, .int 0, .ref (b 47), .ref (b 48), .ref (b 49), .ref (b 50)])), ((b 39), .inl (J.2.1, 5, .inl (upd (upd (upd (upd (upd (fun _ => 0) (0 : Int32).toNatClampNeg (-1)) (1 : Int32).toNatClampNeg 0) (2 : Int32).toNatClampNeg 0) (3 : Int32).toNatClampNeg 0) (4 : Int32).toNatClampNeg 0))), ((b 40), .inl (J.2.1, 10, .inl (upd (upd (upd (upd (upd (upd (upd (upd (upd (upd (fun _ => 0) (0 : Int32).toNatClampNeg 0) (1 : Int32).toNatClampNeg 0) (2 : Int32).toNatClampNeg 0) (3 : Int32).toNatClampNeg 0) (4 : Int32).toNatClampNeg 0) (5 : Int32).toNatClampNeg 0) (6 : Int32).toNatClampNeg 0) (7 : Int32).toNatClampNeg 0) (8 : Int32).toNatClampNeg 0) (9 : Int32).toNatClampNeg 0))), ((b 36), .inl (J.2.1, 10, .inl (fun _ => 0)))] := hD
  refine lv_iinc (v := 10) (lv' := [(1, .int 10), (0, .ref (b 0))]) hx hb dX12_image_75 hl (k := 0) rfl (by decide) (by decide) rfl (fun ls hl => ?_)
  refine lv_goto (tgt := 57) hx hb dX12_image_78 (by decide) ?_
  refine lv_iload_n hx hb dX12_image_57 rfl (lv_at hl 0 rfl) ?_
  refine lv_bipush (v := 10) hx hb dX12_image_58 (by decide) ?_
  refine lv_icmp_ge (tgt := 81) hx hb dX12_image_60 (by decide) (fun _ => ?_) (fun c => absurd c (by decide))
  refine lv_aload_n hx hb dX12_image_81 rfl (lv_at hl 1 rfl) ?_
  refine va_get (D := J.1) (ci := 12) (v := .int (-1)) (C := RX12) (T := TX12) (N := 50) hx hb hts inX12 hown hK.1 hP 0 rfl rfl 31 (by decide) (hts _ q_1297) (fun _ h9 => h9) rfl dX12_image_82 ?_
  refine lv_if_ge (tgt := 93) hx hb dX12_image_85 (by decide) (fun c => absurd c (by decide)) (fun _ => ?_)
  refine lv_bipush (v := (-2)) hx hb dX12_image_88 (by decide) ?_
  refine lv_goto (tgt := 97) hx hb dX12_image_90 (by decide) ?_
  exact wz_i () hx hb hr hlk (by decide) (hP.sub (ws' := []) [] rfl) (hD.sub (ws' := []) [] (by decide) rfl) hS dX12_image_97
theorem dX12_back_0 : decode cX12_back 0 = .ok (.aload_n 0, 1) := by decide +kernel
theorem dX12_back_1 : decode cX12_back 1 = .ok (.getfield 357, 3) := by decide +kernel
theorem dX12_back_4 : decode cX12_back 4 = .ok (.ifCond .ne 6, 3) := by decide +kernel
theorem dX12_back_7 : decode cX12_back 7 = .ok (.bipush (-5), 2) := by decide +kernel
theorem dX12_back_9 : decode cX12_back 9 = .ok (.ireturn, 1) := by decide +kernel
set_option maxHeartbeats 4000000 in
set_option maxRecDepth 100000 in
theorem m_back (l : Launch) (J : va_J9) (b : Nat → Nat) : RC l J yX12_back cX12_back 2 (some .int) ({ frames := 0, cells := 0, slots := 0, locals := 0 }) [.ref (b 0)] [((b 0), .inr (12, [.ref (b 1), .ref (b 2), .ref (b 3), .ref (b 4), .int 0, .int 0, .int 0, .int 0, .ref (b 9), .ref (b 10), .int 0, .ref (b 12), .int (-1), .int 0, .int 0, .int 0, .int 0, .int 0, .ref (b 19), .ref (b 20), .ref (b 21), .ref (b 22), .ref (b 23), .long 0, .long 0, .long 0, .ref (b 27), .ref (b 28), .ref (b 29), .long 0, .int 0, .int (-1), .int 0, .int 0, .int 0, .ref (b 36), .int 0, .int 0, .ref (b 39), .ref (b 40), .int 0, .ref (b 42), .ref (b 43), .int 0, .int 0, .int 0, .ref (b 47), .ref (b 48), .ref (b 49), .ref (b 50)]))] (vp_Si (fun r => r = (-5))) := by
  refine rc_of (by decide) (Nat.le_of_ble_eq_true rfl) ?_
  intro p e s m below meth c ls hE hl hP hK
  obtain ⟨hx, hb, hr, hml, hown, hts, hlk, hin⟩ := hE
  have hown : s.vm.findClass RX12 = some m.cls := hown
  have hl : lv_has ls 2 [(0, .ref (b 0))] := hl
  refine lv_aload_n hx hb dX12_back_0 rfl (lv_at hl 0 rfl) ?_
  refine va_get (D := J.1) (ci := 12) (v := .int 0) (C := RX12) (T := TX12) (N := 50) hx hb hts inX12 hown hK.1 hP 0 rfl rfl 37 (by decide) (hts _ q_1303) (fun _ h9 => h9) rfl dX12_back_1 ?_
  refine lv_if_ne (tgt := 10) hx hb dX12_back_4 (by decide) (fun c => absurd c (by decide)) (fun _ => ?_)
  refine lv_bipush (v := (-5)) hx hb dX12_back_7 (by decide) ?_
  exact rz_i hx hb hr hlk (by decide) dX12_back_9
theorem dX12_undo_0 : decode cX12_undo 0 = .ok (.aload_n 0, 1) := by decide +kernel
theorem dX12_undo_1 : decode cX12_undo 1 = .ok (.getfield 92, 3) := by decide +kernel
theorem dX12_undo_4 : decode cX12_undo 4 = .ok (.ifCond .ne 6, 3) := by decide +kernel
theorem dX12_undo_7 : decode cX12_undo 7 = .ok (.bipush (-5), 2) := by decide +kernel
theorem dX12_undo_9 : decode cX12_undo 9 = .ok (.ireturn, 1) := by decide +kernel
set_option maxHeartbeats 4000000 in
set_option maxRecDepth 100000 in
theorem m_undo (l : Launch) (J : va_J9) (b : Nat → Nat) : RC l J yX12_undo cX12_undo 1 (some .int) ({ frames := 0, cells := 0, slots := 0, locals := 0 }) [.ref (b 0)] [((b 0), .inr (12, [.ref (b 1), .ref (b 2), .ref (b 3), .ref (b 4), .int 0, .int 0, .int 0, .int 0, .ref (b 9), .ref (b 10), .int 0, .ref (b 12), .int (-1), .int 0, .int 0, .int 0, .int 0, .int 0, .ref (b 19), .ref (b 20), .ref (b 21), .ref (b 22), .ref (b 23), .long 0, .long 0, .long 0, .ref (b 27), .ref (b 28), .ref (b 29), .long 0, .int 0, .int (-1), .int 0, .int 0, .int 0, .ref (b 36), .int 0, .int 0, .ref (b 39), .ref (b 40), .int 0, .ref (b 42), .ref (b 43), .int 0, .int 0, .int 0, .ref (b 47), .ref (b 48), .ref (b 49), .ref (b 50)]))] (vp_Si (fun r => r = (-5))) := by
  refine rc_of (by decide) (Nat.le_of_ble_eq_true rfl) ?_
  intro p e s m below meth c ls hE hl hP hK
  obtain ⟨hx, hb, hr, hml, hown, hts, hlk, hin⟩ := hE
  have hown : s.vm.findClass RX12 = some m.cls := hown
  have hl : lv_has ls 1 [(0, .ref (b 0))] := hl
  refine lv_aload_n hx hb dX12_undo_0 rfl (lv_at hl 0 rfl) ?_
  refine va_get (D := J.1) (ci := 12) (v := .int 0) (C := RX12) (T := TX12) (N := 50) hx hb hts inX12 hown hK.1 hP 0 rfl rfl 5 (by decide) (hts _ q_1271) (fun _ h9 => h9) rfl dX12_undo_1 ?_
  refine lv_if_ne (tgt := 10) hx hb dX12_undo_4 (by decide) (fun c => absurd c (by decide)) (fun _ => ?_)
  refine lv_bipush (v := (-5)) hx hb dX12_undo_7 (by decide) ?_
  exact rz_i hx hb hr hlk (by decide) dX12_undo_9
theorem dX12_redo_0 : decode cX12_redo 0 = .ok (.aload_n 0, 1) := by decide +kernel
theorem dX12_redo_1 : decode cX12_redo 1 = .ok (.getfield 92, 3) := by decide +kernel
theorem dX12_redo_4 : decode cX12_redo 4 = .ok (.aload_n 0, 1) := by decide +kernel
theorem dX12_redo_5 : decode cX12_redo 5 = .ok (.getfield 95, 3) := by decide +kernel
theorem dX12_redo_8 : decode cX12_redo 8 = .ok (.if_icmp .ne 6, 3) := by decide +kernel
theorem dX12_redo_11 : decode cX12_redo 11 = .ok (.bipush (-5), 2) := by decide +kernel
theorem dX12_redo_13 : decode cX12_redo 13 = .ok (.ireturn, 1) := by decide +kernel
set_option maxHeartbeats 4000000 in
set_option maxRecDepth 100000 in
theorem m_redo (l : Launch) (J : va_J9) (b : Nat → Nat) : RC l J yX12_redo cX12_redo 1 (some .int) ({ frames := 0, cells := 0, slots := 0, locals := 0 }) [.ref (b 0)] [((b 0), .inr (12, [.ref (b 1), .ref (b 2), .ref (b 3), .ref (b 4), .int 0, .int 0, .int 0, .int 0, .ref (b 9), .ref (b 10), .int 0, .ref (b 12), .int (-1), .int 0, .int 0, .int 0, .int 0, .int 0, .ref (b 19), .ref (b 20), .ref (b 21), .ref (b 22), .ref (b 23), .long 0, .long 0, .long 0, .ref (b 27), .ref (b 28), .ref (b 29), .long 0, .int 0, .int (-1), .int 0, .int 0, .int 0, .ref (b 36), .int 0, .int 0, .ref (b 39), .ref (b 40), .int 0, .ref (b 42), .ref (b 43), .int 0, .int 0, .int 0, .ref (b 47), .ref (b 48), .ref (b 49), .ref (b 50)]))] (vp_Si (fun r => r = (-5))) := by
  refine rc_of (by decide) (Nat.le_of_ble_eq_true rfl) ?_
  intro p e s m below meth c ls hE hl hP hK
  obtain ⟨hx, hb, hr, hml, hown, hts, hlk, hin⟩ := hE
  have hown : s.vm.findClass RX12 = some m.cls := hown
  have hl : lv_has ls 1 [(0, .ref (b 0))] := hl
  refine lv_aload_n hx hb dX12_redo_0 rfl (lv_at hl 0 rfl) ?_
  refine va_get (D := J.1) (ci := 12) (v := .int 0) (C := RX12) (T := TX12) (N := 50) hx hb hts inX12 hown hK.1 hP 0 rfl rfl 5 (by decide) (hts _ q_1271) (fun _ h9 => h9) rfl dX12_redo_1 ?_
  refine lv_aload_n hx hb dX12_redo_4 rfl (lv_at hl 0 rfl) ?_
  refine va_get (D := J.1) (ci := 12) (v := .int 0) (C := RX12) (T := TX12) (N := 50) hx hb hts inX12 hown hK.1 hP 0 rfl rfl 4 (by decide) (hts _ q_1270) (fun _ h9 => h9) rfl dX12_redo_5 ?_
  refine lv_icmp_ne (tgt := 14) hx hb dX12_redo_8 (by decide) (fun c => absurd c (by decide)) (fun _ => ?_)
  refine lv_bipush (v := (-5)) hx hb dX12_redo_11 (by decide) ?_
  exact rz_i hx hb hr hlk (by decide) dX12_redo_13
theorem dX12_body_0 : decode cX12_body 0 = .ok (.iload_n 1, 1) := by decide +kernel
theorem dX12_body_1 : decode cX12_body 1 = .ok (.i2l, 1) := by decide +kernel
theorem dX12_body_2 : decode cX12_body 2 = .ok (.lconst 0, 1) := by decide +kernel
theorem q_1765 : Cond.constantLong RX12 364 7 ∈ lw_g := mem_q 1765 (by decide +kernel) rfl
theorem dX12_body_3 : decode cX12_body 3 = .ok (.ldc2_w 364, 3) := by decide +kernel
theorem dX12_body_6 : decode cX12_body 6 = .ok (.invokestatic 101, 3) := by decide +kernel
theorem dX12_body_9 : decode cX12_body 9 = .ok (.ifCond .ne 5, 3) := by decide +kernel
theorem dX12_body_14 : decode cX12_body 14 = .ok (.aload_n 0, 1) := by decide +kernel
theorem dX12_body_15 : decode cX12_body 15 = .ok (.getfield 361, 3) := by decide +kernel
theorem dX12_body_18 : decode cX12_body 18 = .ok (.bipush 50, 2) := by decide +kernel
theorem dX12_body_20 : decode cX12_body 20 = .ok (.if_icmp .ne 6, 3) := by decide +kernel
theorem dX12_body_26 : decode cX12_body 26 = .ok (.aload_n 0, 1) := by decide +kernel
theorem q_1307 : Cond.fieldLink RX12 67 RX12 "bodyKind" "[I" ∈ lw_g := mem_q 1307 (by decide +kernel) rfl
theorem dX12_body_27 : decode cX12_body 27 = .ok (.getfield 67, 3) := by decide +kernel
theorem dX12_body_30 : decode cX12_body 30 = .ok (.aload_n 0, 1) := by decide +kernel
theorem dX12_body_31 : decode cX12_body 31 = .ok (.getfield 361, 3) := by decide +kernel
theorem dX12_body_34 : decode cX12_body 34 = .ok (.iload_n 1, 1) := by decide +kernel
theorem dX12_body_35 : decode cX12_body 35 = .ok (.iastore, 1) := by decide +kernel
theorem dX12_body_36 : decode cX12_body 36 = .ok (.aload_n 0, 1) := by decide +kernel
theorem dX12_body_37 : decode cX12_body 37 = .ok (.dup, 1) := by decide +kernel
theorem dX12_body_38 : decode cX12_body 38 = .ok (.getfield 361, 3) := by decide +kernel
theorem dX12_body_41 : decode cX12_body 41 = .ok (.iconst 1, 1) := by decide +kernel
theorem dX12_body_42 : decode cX12_body 42 = .ok (.iadd, 1) := by decide +kernel
theorem dX12_body_43 : decode cX12_body 43 = .ok (.putfield 361, 3) := by decide +kernel
theorem dX12_body_46 : decode cX12_body 46 = .ok (.aload_n 0, 1) := by decide +kernel
theorem dX12_body_47 : decode cX12_body 47 = .ok (.getfield 361, 3) := by decide +kernel
theorem dX12_body_50 : decode cX12_body 50 = .ok (.iconst 1, 1) := by decide +kernel
theorem dX12_body_51 : decode cX12_body 51 = .ok (.isub, 1) := by decide +kernel
theorem dX12_body_52 : decode cX12_body 52 = .ok (.ireturn, 1) := by decide +kernel
theorem dX12_body_12 : decode cX12_body 12 = .ok (.iconst (-1), 1) := by decide +kernel
theorem dX12_body_13 : decode cX12_body 13 = .ok (.ireturn, 1) := by decide +kernel
set_option maxHeartbeats 4000000 in
set_option maxRecDepth 100000 in
theorem m_body (l : Launch) (J : va_J9) (sz : Nat) (b : Nat → Nat) (x : Int32) : WC l J yX12_body cX12_body 2 (some .int) ({ frames := 1, cells := 0, slots := 0, locals := 25 }) [.ref (b 0), .int x] [((b 0), .inr (12, [.ref (b 1), .ref (b 2), .ref (b 3), .ref (b 4), .int 0, .int 0, .int 0, .int 0, .ref (b 9), .ref (b 10), .int 0, .ref (b 12), .int (-1), .int 0, .int 0, .int 0, .int 0, .int 0, .ref (b 19), .ref (b 20), .ref (b 21), .ref (b 22), .ref (b 23), .long 0, .long 0, .long 0, .ref (b 27), .ref (b 28), .ref (b 29), .long 0, .int 0, .int (-1), .int 0, .int 0, .int 0, .ref (b 36), .int 0, .int 0, .ref (b 39), .ref (b 40), .int 0, .ref (b 42), .ref (b 43), .int 0, .int 0, .int 0, .ref (b 47), .ref (b 48), .ref (b 49), .ref (b 50)])), ((b 42), .inl (J.2.1, 50, .inl (fun _ => 0)))] sz (Qi J (fun (r : Int32) (_ : Unit) => r = sp_body (x.toInt)) (fun (_ : Unit) => [])) 0 0 := by
  refine wc_of (by decide) (Nat.le_of_ble_eq_true rfl) ?_
  intro p e s m below meth c ls A hE hl hP hK hD hS hA
  obtain ⟨hx, hb, hr, hml, hown, hts, hlk, hin⟩ := hE
  have hown : s.vm.findClass RX12 = some m.cls := hown
  have hl : lv_has ls 2 [(0, .ref (b 0)), (1, .int x)] := hl
  have rg_x := i_rng x
  refine lv_iload_n hx hb dX12_body_0 rfl (lv_at hl 1 rfl) ?_
  refine lv_i2l (v := x.toInt64) hx hb dX12_body_1 rfl ?_
  refine lv_lconst (v := 0) hx hb dX12_body_2 (by decide) ?_
  refine lv_ldc2 (v := 7) hx hb hown (hts _ q_1765) dX12_body_3 ?_
  refine go_i (rn_S (As := [.long x.toInt64, .long 0, .long 7]) (rest := []) hx hb hml hown hts hK (m_within l J x.toInt64 0 7 x.toInt 0 7 (i_wide rfl) (by decide) (by decide)) kS_RX12_101 (hP.sub (ws' := []) [] rfl) ⟨Nat.le_of_ble_eq_true rfl, Nat.le_of_ble_eq_true rfl⟩ rfl rfl rfl hl.1 rfl (Nat.le_of_ble_eq_true rfl) ⟨Nat.le_of_ble_eq_true rfl, Nat.le_of_ble_eq_true rfl⟩ dX12_body_6) ?_
  refine lv_if_ne (tgt := 14) hx hb dX12_body_9 (by decide) (fun c1 => ?_) (fun c1 => ?_)
  · have j2 := b1 c1
    refine lv_aload_n hx hb dX12_body_14 rfl (lv_at hl 0 rfl) ?_
    refine va_get (D := J.1) (ci := 12) (v := .int 0) (C := RX12) (T := TX12) (N := 50) hx hb hts inX12 hown hK.1 hP 0 rfl rfl 40 (by decide) (hts _ q_1306) (fun _ h9 => h9) rfl dX12_body_15 ?_
    refine lv_bipush (v := 50) hx hb dX12_body_18 (by decide) ?_
    refine lv_icmp_ne (tgt := 26) hx hb dX12_body_20 (by decide) (fun _ => ?_) (fun c => absurd c (by decide))
    refine lv_aload_n hx hb dX12_body_26 rfl (lv_at hl 0 rfl) ?_
    refine va_get (D := J.1) (ci := 12) (v := .ref (b 42)) (C := RX12) (T := TX12) (N := 50) hx hb hts inX12 hown hK.1 hP 0 rfl rfl 41 (by decide) (hts _ q_1307) (fun _ h9 => h9) rfl dX12_body_27 ?_
    refine lv_aload_n hx hb dX12_body_30 rfl (lv_at hl 0 rfl) ?_
    refine va_get (D := J.1) (ci := 12) (v := .int 0) (C := RX12) (T := TX12) (N := 50) hx hb hts inX12 hown hK.1 hP 0 rfl rfl 40 (by decide) (hts _ q_1306) (fun _ h9 => h9) rfl dX12_body_31 ?_
    refine lv_iload_n hx hb dX12_body_34 rfl (lv_at hl 1 rfl) ?_
    have h3 : vp_in 0 50 := (i_in (a := 0) (by decide) (by omega) (by omega))
    refine va_iast hx hb hK.1 hP hD hS 1 0 rfl rfl h3 dX12_body_35 (fun H locs hP hD hS => ?_)
    have hP : va_P J.1 cls [((b 0), .inr (12, [.ref (b 1), .ref (b 2), .ref (b 3), .ref (b 4), .int 0, .int 0, .int 0, .int 0, .ref (b 9), .ref (b 10), .int 0, .ref (b 12), .int (-1), .int 0, .int 0, .int 0, .int 0, .int 0, .ref (b 19), .ref (b 20), .ref (b 21), .ref (b 22), .ref (b 23), .long 0, .long 0, .long 0, .ref (b 27), .ref (b 28), .ref (b 29), .long 0, .int 0, .int (-1), .int 0, .int 0, .int 0, .ref (b 36), .int 0, .int 0, .ref (b 39), .ref (b 40), .int 0, .ref (b 42), .ref (b 43), .int 0, .int 0, .int 0, .ref (b 47), .ref (b 48), .ref (b 49), .ref (b 50)])), ((b 42), .inl (J.2.1, 50, .inl (upd (fun _ => 0) (0 : Int32).toNatClampNeg x)))] H := hP
    have hD : va_D A [((b 0), .inr (12, [.ref (b 1), .ref (b 2), .ref (b 3), .ref (b 4), .int 0, .int 0, .int 0, .int 0, .ref (b 9), .ref (b 10), .int 0, .ref (b 12), .int (-1), .int 0, .int 0, .int 0, .int 0, .int 0, .ref (b 19), .ref (b 20), .ref (b 21), .ref (b 22), .ref (b 23), .long 0, .long 0, .long 0, .ref (b 27), .ref (b 28), .ref (b 29), .long 0, .int 0, .int (-1), .int 0, .int 0, .int 0, .ref (b 36), .int 0, .int 0, .ref (b 39), .ref (b 40), .int 0, .ref (b 42), .ref (b 43), .int 0, .int 0, .int 0, .ref (b 47), .ref (b 48), .ref (b 49), .ref (b 50)])), ((b 42), .inl (J.2.1, 50, .inl (upd (fun _ => 0) (0 : Int32).toNatClampNeg x)))] := hD
    refine lv_aload_n hx hb dX12_body_36 rfl (lv_at hl 0 rfl) ?_
    refine lv_dup hx hb dX12_body_37 rfl ?_
    refine va_get (D := J.1) (ci := 12) (v := .int 0) (C := RX12) (T := TX12) (N := 50) hx hb hts inX12 hown hK.1 hP 0 rfl rfl 40 (by decide) (hts _ q_1306) (fun _ h9 => h9) rfl dX12_body_38 ?_
    refine lv_iconst (v := 1) hx hb dX12_body_41 (by decide) ?_
    refine lv_iadd hx hb dX12_body_42 ?_
    refine top_i (y := 1) (by decide) ?_
    refine va_put (D := J.1) (ci := 12) (v := .int 1) (ty := (.int)) (C := RX12) (T := TX12) (N := 50) hx hb hts inX12 tyX12 tyX12_ok nmX12 hown hK.1 hP hD hS 0 rfl rfl 40 (by decide) (hts _ q_1306) (fun _ h9 => h9) rfl (by decide +kernel) rfl rfl (Nat.le_of_ble_eq_true rfl) dX12_body_43 (fun H locs hP hD hS => ?_)
    have hP : va_P J.1 cls [((b 0), .inr (12, [.ref (b 1), .ref (b 2), .ref (b 3), .ref (b 4), .int 0, .int 0, .int 0, .int 0, .ref (b 9), .ref (b 10), .int 0, .ref (b 12), .int (-1), .int 0, .int 0, .int 0, .int 0, .int 0, .ref (b 19), .ref (b 20), .ref (b 21), .ref (b 22), .ref (b 23), .long 0, .long 0, .long 0, .ref (b 27), .ref (b 28), .ref (b 29), .long 0, .int 0, .int (-1), .int 0, .int 0, .int 0, .ref (b 36), .int 0, .int 0, .ref (b 39), .ref (b 40), .int 1, .ref (b 42), .ref (b 43), .int 0, .int 0, .int 0, .ref (b 47), .ref (b 48), .ref (b 49), .ref (b 50)])), ((b 42), .inl (J.2.1, 50, .inl (upd (fun _ => 0) (0 : Int32).toNatClampNeg x)))] H := hP
    have hD : va_D A [((b 0), .inr (12, [.ref (b 1), .ref (b 2), .ref (b 3), .ref (b 4), .int 0, .int 0, .int 0, .int 0, .ref (b 9), .ref (b 10), .int 0, .ref (b 12), .int (-1), .int 0, .int 0, .int 0, .int 0, .int 0, .ref (b 19), .ref (b 20), .ref (b 21), .ref (b 22), .ref (b 23), .long 0, .long 0, .long 0, .ref (b 27), .ref (b 28), .ref (b 29), .long 0, .int 0, .int (-1), .int 0, .int 0, .int 0, .ref (b 36), .int 0, .int 0, .ref (b 39), .ref (b 40), .int 1, .ref (b 42), .ref (b 43), .int 0, .int 0, .int 0, .ref (b 47), .ref (b 48), .ref (b 49), .ref (b 50)])), ((b 42), .inl (J.2.1, 50, .inl (upd (fun _ => 0) (0 : Int32).toNatClampNeg x)))] := hD
    refine lv_aload_n hx hb dX12_body_46 rfl (lv_at hl 0 rfl) ?_
    refine va_get (D := J.1) (ci := 12) (v := .int 1) (C := RX12) (T := TX12) (N := 50) hx hb hts inX12 hown hK.1 hP 0 rfl rfl 40 (by decide) (hts _ q_1306) (fun _ h9 => h9) rfl dX12_body_47 ?_
    refine lv_iconst (v := 1) hx hb dX12_body_50 (by decide) ?_
    refine lv_isub hx hb dX12_body_51 ?_
    refine top_i (y := 0) (by decide) ?_
    exact wz_i () hx hb hr hlk (by unfold sp_body; (repeat' split) <;> first | rfl | (exfalso; omega)) (hP.sub (ws' := []) [] rfl) (hD.sub (ws' := []) [] (by decide) rfl) hS dX12_body_52
  · have j4 := b0 c1
    refine lv_iconst (v := (-1)) hx hb dX12_body_12 (by decide) ?_
    exact wz_i () hx hb hr hlk (by unfold sp_body; (repeat' split) <;> first | rfl | (exfalso; omega)) (hP.sub (ws' := []) [] rfl) (hD.sub (ws' := []) [] (by decide) rfl) hS dX12_body_13
theorem dX12_act_0 : decode cX12_act 0 = .ok (.aload_n 0, 1) := by decide +kernel
theorem dX12_act_1 : decode cX12_act 1 = .ok (.iconst 0, 1) := by decide +kernel
theorem q_1309 : Cond.fieldLink RX12 366 RX12 "ran" "I" ∈ lw_g := mem_q 1309 (by decide +kernel) rfl
theorem dX12_act_2 : decode cX12_act 2 = .ok (.putfield 366, 3) := by decide +kernel
theorem dX12_act_5 : decode cX12_act 5 = .ok (.aload_n 0, 1) := by decide +kernel
theorem dX12_act_6 : decode cX12_act 6 = .ok (.iload_n 1, 1) := by decide +kernel
theorem q_1770 : Cond.methodLink RX12 391 yX12_isBody ∈ lw_g := mem_q 1770 (by decide +kernel) rfl
theorem q_1772 : Cond.instanceMethod yX12_isBody ∈ lw_g := mem_q 1772 (by decide +kernel) rfl
theorem q_94 : Cond.selects RX12 yX12_isBody yX12_isBody ∈ lw_g := mem_q 94 (by decide +kernel) rfl
theorem q_1773 : Cond.code yX12_isBody cX12_isBody 2 (some .boolean) ∈ lw_g := mem_q 1773 (by decide +kernel) rfl
theorem kV_RX12_391 : CV RX12 391 RX12 yX12_isBody cX12_isBody 2 (some .boolean) 1 := cv_of q_1770 q_1772 q_94 q_115 q_1773 (by decide +kernel)
theorem dX12_act_7 : decode cX12_act 7 = .ok (.invokevirtual 391, 3) := by decide +kernel
theorem dX12_act_10 : decode cX12_act 10 = .ok (.ifCond .ne 5, 3) := by decide +kernel
theorem dX12_act_13 : decode cX12_act 13 = .ok (.iconst 0, 1) := by decide +kernel
theorem dX12_act_14 : decode cX12_act 14 = .ok (.ireturn, 1) := by decide +kernel
set_option maxHeartbeats 4000000 in
set_option maxRecDepth 100000 in
theorem m_act (l : Launch) (J : va_J9) (sz : Nat) (b : Nat → Nat) (x : Int32) (y : Int32) (k : Int32) : WC l J yX12_act cX12_act 4 (some .int) ({ frames := 2, cells := 0, slots := 0, locals := 46 }) [.ref (b 0), .int x, .int y, .int k] [((b 0), .inr (12, [.ref (b 1), .ref (b 2), .ref (b 3), .ref (b 4), .int 0, .int 0, .int 0, .int 0, .ref (b 9), .ref (b 10), .int 0, .ref (b 12), .int (-1), .int 0, .int 0, .int 0, .int 0, .int 0, .ref (b 19), .ref (b 20), .ref (b 21), .ref (b 22), .ref (b 23), .long 0, .long 0, .long 0, .ref (b 27), .ref (b 28), .ref (b 29), .long 0, .int 0, .int (-1), .int 0, .int 0, .int 0, .ref (b 36), .int 0, .int 0, .ref (b 39), .ref (b 40), .int 0, .ref (b 42), .ref (b 43), .int 0, .int 0, .int 0, .ref (b 47), .ref (b 48), .ref (b 49), .ref (b 50)]))] sz (Qi J (fun (r : Int32) (_ : Unit) => r = 0) (fun (_ : Unit) => [])) 0 0 := by
  refine wc_of (by decide) (Nat.le_of_ble_eq_true rfl) ?_
  intro p e s m below meth c ls A hE hl hP hK hD hS hA
  obtain ⟨hx, hb, hr, hml, hown, hts, hlk, hin⟩ := hE
  have hown : s.vm.findClass RX12 = some m.cls := hown
  have hl : lv_has ls 4 [(0, .ref (b 0)), (1, .int x), (2, .int y), (3, .int k)] := hl
  have rg_x := i_rng x
  have rg_y := i_rng y
  have rg_k := i_rng k
  refine lv_aload_n hx hb dX12_act_0 rfl (lv_at hl 0 rfl) ?_
  refine lv_iconst (v := 0) hx hb dX12_act_1 (by decide) ?_
  refine va_put (D := J.1) (ci := 12) (v := .int 0) (ty := (.int)) (C := RX12) (T := TX12) (N := 50) hx hb hts inX12 tyX12 tyX12_ok nmX12 hown hK.1 hP hD hS 0 rfl rfl 43 (by decide) (hts _ q_1309) (fun _ h9 => h9) rfl (by decide +kernel) rfl rfl (Nat.le_of_ble_eq_true rfl) dX12_act_2 (fun H locs hP hD hS => ?_)
  have hP : va_P J.1 cls [((b 0), .inr (12, [.ref (b 1), .ref (b 2), .ref (b 3), .ref (b 4), .int 0, .int 0, .int 0, .int 0, .ref (b 9), .ref (b 10), .int 0, .ref (b 12), .int (-1), .int 0, .int 0, .int 0, .int 0, .int 0, .ref (b 19), .ref (b 20), .ref (b 21), .ref (b 22), .ref (b 23), .long 0, .long 0, .long 0, .ref (b 27), .ref (b 28), .ref (b 29), .long 0, .int 0, .int (-1), .int 0, .int 0, .int 0, .ref (b 36), .int 0, .int 0, .ref (b 39), .ref (b 40), .int 0, .ref (b 42), .ref (b 43), .int 0, .int 0, .int 0, .ref (b 47), .ref (b 48), .ref (b 49), .ref (b 50)]))] H := hP
  have hD : va_D A [((b 0), .inr (12, [.ref (b 1), .ref (b 2), .ref (b 3), .ref (b 4), .int 0, .int 0, .int 0, .int 0, .ref (b 9), .ref (b 10), .int 0, .ref (b 12), .int (-1), .int 0, .int 0, .int 0, .int 0, .int 0, .ref (b 19), .ref (b 20), .ref (b 21), .ref (b 22), .ref (b 23), .long 0, .long 0, .long 0, .ref (b 27), .ref (b 28), .ref (b 29), .long 0, .int 0, .int (-1), .int 0, .int 0, .int 0, .ref (b 36), .int 0, .int 0, .ref (b 39), .ref (b 40), .int 0, .ref (b 42), .ref (b 43), .int 0, .int 0, .int 0, .ref (b 47), .ref (b 48), .ref (b 49), .ref (b 50)]))] := hD
  refine lv_aload_n hx hb dX12_act_5 rfl (lv_at hl 0 rfl) ?_
  refine lv_iload_n hx hb dX12_act_6 rfl (lv_at hl 1 rfl) ?_
  refine go_i (rn_V (As := [.int x]) (rest := []) hx hb hml hown hts hK (m_isBody l J b x) kV_RX12_391 hP rfl rfl rfl ⟨Nat.le_of_ble_eq_true rfl, Nat.le_of_ble_eq_true rfl⟩ rfl rfl rfl hl.1 rfl (Nat.le_of_ble_eq_true rfl) ⟨Nat.le_of_ble_eq_true rfl, Nat.le_of_ble_eq_true rfl⟩ dX12_act_7) ?_
  refine lv_if_ne (tgt := 15) hx hb dX12_act_10 (by decide) (fun c => absurd c (by decide)) (fun _ => ?_)
  refine lv_iconst (v := 0) hx hb dX12_act_13 (by decide) ?_
  exact wz_i () hx hb hr hlk (by decide) (hP.sub (ws' := []) [] rfl) (hD.sub (ws' := []) [] (by decide) rfl) hS dX12_act_14
theorem dX12_trace_0 : decode cX12_trace 0 = .ok (.iload_n 1, 1) := by decide +kernel
theorem dX12_trace_1 : decode cX12_trace 1 = .ok (.ifCond .lt 26, 3) := by decide +kernel
theorem dX12_trace_27 : decode cX12_trace 27 = .ok (.iconst (-1), 1) := by decide +kernel
theorem dX12_trace_28 : decode cX12_trace 28 = .ok (.ireturn, 1) := by decide +kernel
theorem dX12_trace_4 : decode cX12_trace 4 = .ok (.iload_n 1, 1) := by decide +kernel
theorem dX12_trace_5 : decode cX12_trace 5 = .ok (.aload_n 0, 1) := by decide +kernel
theorem dX12_trace_6 : decode cX12_trace 6 = .ok (.getfield 366, 3) := by decide +kernel
theorem dX12_trace_9 : decode cX12_trace 9 = .ok (.if_icmp .ge 18, 3) := by decide +kernel
set_option maxHeartbeats 4000000 in
set_option maxRecDepth 100000 in
theorem m_trace (l : Launch) (J : va_J9) (b : Nat → Nat) (x : Int32) : RC l J yX12_trace cX12_trace 2 (some .int) ({ frames := 0, cells := 0, slots := 0, locals := 0 }) [.ref (b 0), .int x] [((b 0), .inr (12, [.ref (b 1), .ref (b 2), .ref (b 3), .ref (b 4), .int 0, .int 0, .int 0, .int 0, .ref (b 9), .ref (b 10), .int 0, .ref (b 12), .int (-1), .int 0, .int 0, .int 0, .int 0, .int 0, .ref (b 19), .ref (b 20), .ref (b 21), .ref (b 22), .ref (b 23), .long 0, .long 0, .long 0, .ref (b 27), .ref (b 28), .ref (b 29), .long 0, .int 0, .int (-1), .int 0, .int 0, .int 0, .ref (b 36), .int 0, .int 0, .ref (b 39), .ref (b 40), .int 0, .ref (b 42), .ref (b 43), .int 0, .int 0, .int 0, .ref (b 47), .ref (b 48), .ref (b 49), .ref (b 50)]))] (vp_Si (fun r => r = (-1))) := by
  refine rc_of (by decide) (Nat.le_of_ble_eq_true rfl) ?_
  intro p e s m below meth c ls hE hl hP hK
  obtain ⟨hx, hb, hr, hml, hown, hts, hlk, hin⟩ := hE
  have hown : s.vm.findClass RX12 = some m.cls := hown
  have hl : lv_has ls 2 [(0, .ref (b 0)), (1, .int x)] := hl
  have rg_x := i_rng x
  refine lv_iload_n hx hb dX12_trace_0 rfl (lv_at hl 1 rfl) ?_
  refine lv_if_lt (tgt := 27) hx hb dX12_trace_1 (by decide) (fun c1 => ?_) (fun c1 => ?_)
  · have j2 : x.toInt < 0 := (i_lt rfl (by decide)).mp c1
    refine lv_iconst (v := (-1)) hx hb dX12_trace_27 (by decide) ?_
    exact rz_i hx hb hr hlk (by decide) dX12_trace_28
  · have j3 : ¬ (x.toInt < 0) := fun h => c1 ((i_lt rfl (by decide)).mpr h)
    refine lv_iload_n hx hb dX12_trace_4 rfl (lv_at hl 1 rfl) ?_
    refine lv_aload_n hx hb dX12_trace_5 rfl (lv_at hl 0 rfl) ?_
    refine va_get (D := J.1) (ci := 12) (v := .int 0) (C := RX12) (T := TX12) (N := 50) hx hb hts inX12 hown hK.1 hP 0 rfl rfl 43 (by decide) (hts _ q_1309) (fun _ h9 => h9) rfl dX12_trace_6 ?_
    refine lv_icmp_ge (tgt := 27) hx hb dX12_trace_9 (by decide) (fun _ => ?_) (fun c4 => absurd (show ¬ (0 ≤ x.toInt) from fun h => c4 ((i_le (by decide) rfl).mpr h)) (by omega))
    refine lv_iconst (v := (-1)) hx hb dX12_trace_27 (by decide) ?_
    exact rz_i hx hb hr hlk (by decide) dX12_trace_28
