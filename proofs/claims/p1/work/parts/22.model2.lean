theorem dX12_keep_0 : decode cX12_keep 0 = .ok (.iload_n 1, 1) := by decide +kernel
theorem dX12_keep_1 : decode cX12_keep 1 = .ok (.invokestatic 114, 3) := by decide +kernel
theorem dX12_keep_4 : decode cX12_keep 4 = .ok (.ifCond .eq 16, 3) := by decide +kernel
theorem dX12_keep_20 : decode cX12_keep 20 = .ok (.iconst (-1), 1) := by decide +kernel
theorem dX12_keep_21 : decode cX12_keep 21 = .ok (.ireturn, 1) := by decide +kernel
theorem dX12_keep_7 : decode cX12_keep 7 = .ok (.iload_n 2, 1) := by decide +kernel
theorem dX12_keep_8 : decode cX12_keep 8 = .ok (.iconst (-1), 1) := by decide +kernel
theorem dX12_keep_9 : decode cX12_keep 9 = .ok (.if_icmp .eq 13, 3) := by decide +kernel
theorem dX12_keep_22 : decode cX12_keep 22 = .ok (.aload_n 0, 1) := by decide +kernel
theorem dX12_keep_23 : decode cX12_keep 23 = .ok (.getfield 73, 3) := by decide +kernel
theorem dX12_keep_26 : decode cX12_keep 26 = .ok (.iload_n 1, 1) := by decide +kernel
theorem dX12_keep_27 : decode cX12_keep 27 = .ok (.iload_n 2, 1) := by decide +kernel
theorem dX12_keep_28 : decode cX12_keep 28 = .ok (.iastore, 1) := by decide +kernel
theorem dX12_keep_29 : decode cX12_keep 29 = .ok (.aload_n 0, 1) := by decide +kernel
theorem q_1313 : Cond.fieldLink RX12 76 RX12 "many" "[I" ∈ lw_g := mem_q 1313 (by decide +kernel) rfl
theorem dX12_keep_30 : decode cX12_keep 30 = .ok (.getfield 76, 3) := by decide +kernel
theorem dX12_keep_33 : decode cX12_keep 33 = .ok (.iload_n 1, 1) := by decide +kernel
theorem dX12_keep_34 : decode cX12_keep 34 = .ok (.iconst 0, 1) := by decide +kernel
theorem dX12_keep_35 : decode cX12_keep 35 = .ok (.iastore, 1) := by decide +kernel
theorem dX12_keep_36 : decode cX12_keep 36 = .ok (.iconst 1, 1) := by decide +kernel
theorem dX12_keep_37 : decode cX12_keep 37 = .ok (.ireturn, 1) := by decide +kernel
theorem dX12_keep_12 : decode cX12_keep 12 = .ok (.aload_n 0, 1) := by decide +kernel
theorem dX12_keep_13 : decode cX12_keep 13 = .ok (.iload_n 2, 1) := by decide +kernel
theorem dX12_keep_14 : decode cX12_keep 14 = .ok (.invokevirtual 391, 3) := by decide +kernel
theorem dX12_keep_17 : decode cX12_keep 17 = .ok (.ifCond .ne 5, 3) := by decide +kernel
set_option maxHeartbeats 4000000 in
set_option maxRecDepth 100000 in
theorem m_keep (l : Launch) (J : va_J9) (sz : Nat) (b : Nat → Nat) (g : Nat → Int32) (d : Int32) (k : Int32) (hg : ∀ k, k < 6 → g k = -1) : WC l J yX12_keep cX12_keep 3 (some .int) ({ frames := 2, cells := 0, slots := 0, locals := 46 }) [.ref (b 0), .int d, .int k] [((b 0), .inr (12, [.ref (b 1), .ref (b 2), .ref (b 3), .ref (b 4), .int 0, .int 0, .int 0, .int 0, .ref (b 9), .ref (b 10), .int 0, .ref (b 12), .int (-1), .int 0, .int 0, .int 0, .int 0, .int 0, .ref (b 19), .ref (b 20), .ref (b 21), .ref (b 22), .ref (b 23), .long 0, .long 0, .long 0, .ref (b 27), .ref (b 28), .ref (b 29), .long 0, .int 0, .int (-1), .int 0, .int 0, .int 0, .ref (b 36), .int 0, .int 0, .ref (b 39), .ref (b 40), .int 0, .ref (b 42), .ref (b 43), .int 0, .int 0, .int 0, .ref (b 47), .ref (b 48), .ref (b 49), .ref (b 50)])), ((b 47), .inl (J.2.1, 6, .inl g)), ((b 48), .inl (J.2.1, 6, .inl (fun _ => 0)))] sz (Qi J (fun (r : Int32) (_ : Unit) => r = sp_keep (d.toInt) (k.toInt)) (fun (_ : Unit) => [])) 0 0 := by
  refine wc_of (by decide) (Nat.le_of_ble_eq_true rfl) ?_
  intro p e s m below meth c ls A hE hl hP hK hD hS hA
  obtain ⟨hx, hb, hr, hml, hown, hts, hlk, hin⟩ := hE
  have hown : s.vm.findClass RX12 = some m.cls := hown
  have hl : lv_has ls 3 [(0, .ref (b 0)), (1, .int d), (2, .int k)] := hl
  have rg_d := i_rng d
  have rg_k := i_rng k
  refine lv_iload_n hx hb dX12_keep_0 rfl (lv_at hl 1 rfl) ?_
  refine go_i (rn_S (As := [.int d]) (rest := []) hx hb hml hown hts hK (m_isShelf l J d) kS_RX12_114 (hP.sub (ws' := []) [] rfl) ⟨Nat.le_of_ble_eq_true rfl, Nat.le_of_ble_eq_true rfl⟩ rfl rfl rfl hl.1 rfl (Nat.le_of_ble_eq_true rfl) ⟨Nat.le_of_ble_eq_true rfl, Nat.le_of_ble_eq_true rfl⟩ dX12_keep_1) ?_
  refine lv_if_eq (tgt := 20) hx hb dX12_keep_4 (by decide) (fun c1 => ?_) (fun c1 => ?_)
  · have j2 := b0 c1
    refine lv_iconst (v := (-1)) hx hb dX12_keep_20 (by decide) ?_
    exact wz_i () hx hb hr hlk (by unfold sp_keep; (repeat' split) <;> first | rfl | (exfalso; omega)) (hP.sub (ws' := []) [] rfl) (hD.sub (ws' := []) [] (by decide) rfl) hS dX12_keep_21
  · have j3 := b1 c1
    refine lv_iload_n hx hb dX12_keep_7 rfl (lv_at hl 2 rfl) ?_
    refine lv_iconst (v := (-1)) hx hb dX12_keep_8 (by decide) ?_
    refine lv_icmp_eq (tgt := 22) hx hb dX12_keep_9 (by decide) (fun c4 => ?_) (fun c4 => ?_)
    · have j5 : k.toInt = (-1) := (i_eq rfl (by decide)).mp c4
      refine lv_aload_n hx hb dX12_keep_22 rfl (lv_at hl 0 rfl) ?_
      refine va_get (D := J.1) (ci := 12) (v := .ref (b 47)) (C := RX12) (T := TX12) (N := 50) hx hb hts inX12 hown hK.1 hP 0 rfl rfl 46 (by decide) (hts _ q_1312) (fun _ h9 => h9) rfl dX12_keep_23 ?_
      refine lv_iload_n hx hb dX12_keep_26 rfl (lv_at hl 1 rfl) ?_
      refine lv_iload_n hx hb dX12_keep_27 rfl (lv_at hl 2 rfl) ?_
      refine top_i (y := (-1)) c4 ?_
      have h6 : vp_in d 6 := (i_in (a := d.toInt) rfl (by omega) (by omega))
      refine va_iast hx hb hK.1 hP hD hS 1 0 rfl rfl h6 dX12_keep_28 (fun H locs hP hD hS => ?_)
      have hP : va_P J.1 cls [((b 0), .inr (12, [.ref (b 1), .ref (b 2), .ref (b 3), .ref (b 4), .int 0, .int 0, .int 0, .int 0, .ref (b 9), .ref (b 10), .int 0, .ref (b 12), .int (-1), .int 0, .int 0, .int 0, .int 0, .int 0, .ref (b 19), .ref (b 20), .ref (b 21), .ref (b 22), .ref (b 23), .long 0, .long 0, .long 0, .ref (b 27), .ref (b 28), .ref (b 29), .long 0, .int 0, .int (-1), .int 0, .int 0, .int 0, .ref (b 36), .int 0, .int 0, .ref (b 39), .ref (b 40), .int 0, .ref (b 42), .ref (b 43), .int 0, .int 0, .int 0, .ref (b 47), .ref (b 48), .ref (b 49), .ref (b 50)])), ((b 47), .inl (J.2.1, 6, .inl (upd g d.toNatClampNeg (-1)))), ((b 48), .inl (J.2.1, 6, .inl (fun _ => 0)))] H := hP
      have hD : va_D A [((b 0), .inr (12, [.ref (b 1), .ref (b 2), .ref (b 3), .ref (b 4), .int 0, .int 0, .int 0, .int 0, .ref (b 9), .ref (b 10), .int 0, .ref (b 12), .int (-1), .int 0, .int 0, .int 0, .int 0, .int 0, .ref (b 19), .ref (b 20), .ref (b 21), .ref (b 22), .ref (b 23), .long 0, .long 0, .long 0, .ref (b 27), .ref (b 28), .ref (b 29), .long 0, .int 0, .int (-1), .int 0, .int 0, .int 0, .ref (b 36), .int 0, .int 0, .ref (b 39), .ref (b 40), .int 0, .ref (b 42), .ref (b 43), .int 0, .int 0, .int 0, .ref (b 47), .ref (b 48), .ref (b 49), .ref (b 50)])), ((b 47), .inl (J.2.1, 6, .inl (upd g d.toNatClampNeg (-1)))), ((b 48), .inl (J.2.1, 6, .inl (fun _ => 0)))] := hD
      refine lv_aload_n hx hb dX12_keep_29 rfl (lv_at hl 0 rfl) ?_
      refine va_get (D := J.1) (ci := 12) (v := .ref (b 48)) (C := RX12) (T := TX12) (N := 50) hx hb hts inX12 hown hK.1 hP 0 rfl rfl 47 (by decide) (hts _ q_1313) (fun _ h9 => h9) rfl dX12_keep_30 ?_
      refine lv_iload_n hx hb dX12_keep_33 rfl (lv_at hl 1 rfl) ?_
      refine lv_iconst (v := 0) hx hb dX12_keep_34 (by decide) ?_
      have h7 : vp_in d 6 := (i_in (a := d.toInt) rfl (by omega) (by omega))
      refine va_iast hx hb hK.1 hP hD hS 2 0 rfl rfl h7 dX12_keep_35 (fun H locs hP hD hS => ?_)
      have hP : va_P J.1 cls [((b 0), .inr (12, [.ref (b 1), .ref (b 2), .ref (b 3), .ref (b 4), .int 0, .int 0, .int 0, .int 0, .ref (b 9), .ref (b 10), .int 0, .ref (b 12), .int (-1), .int 0, .int 0, .int 0, .int 0, .int 0, .ref (b 19), .ref (b 20), .ref (b 21), .ref (b 22), .ref (b 23), .long 0, .long 0, .long 0, .ref (b 27), .ref (b 28), .ref (b 29), .long 0, .int 0, .int (-1), .int 0, .int 0, .int 0, .ref (b 36), .int 0, .int 0, .ref (b 39), .ref (b 40), .int 0, .ref (b 42), .ref (b 43), .int 0, .int 0, .int 0, .ref (b 47), .ref (b 48), .ref (b 49), .ref (b 50)])), ((b 47), .inl (J.2.1, 6, .inl (upd g d.toNatClampNeg (-1)))), ((b 48), .inl (J.2.1, 6, .inl (upd (fun _ => 0) d.toNatClampNeg 0)))] H := hP
      have hD : va_D A [((b 0), .inr (12, [.ref (b 1), .ref (b 2), .ref (b 3), .ref (b 4), .int 0, .int 0, .int 0, .int 0, .ref (b 9), .ref (b 10), .int 0, .ref (b 12), .int (-1), .int 0, .int 0, .int 0, .int 0, .int 0, .ref (b 19), .ref (b 20), .ref (b 21), .ref (b 22), .ref (b 23), .long 0, .long 0, .long 0, .ref (b 27), .ref (b 28), .ref (b 29), .long 0, .int 0, .int (-1), .int 0, .int 0, .int 0, .ref (b 36), .int 0, .int 0, .ref (b 39), .ref (b 40), .int 0, .ref (b 42), .ref (b 43), .int 0, .int 0, .int 0, .ref (b 47), .ref (b 48), .ref (b 49), .ref (b 50)])), ((b 47), .inl (J.2.1, 6, .inl (upd g d.toNatClampNeg (-1)))), ((b 48), .inl (J.2.1, 6, .inl (upd (fun _ => 0) d.toNatClampNeg 0)))] := hD
      refine lv_iconst (v := 1) hx hb dX12_keep_36 (by decide) ?_
      exact wz_i () hx hb hr hlk (by unfold sp_keep; (repeat' split) <;> first | rfl | (exfalso; omega)) (hP.sub (ws' := []) [] rfl) (hD.sub (ws' := []) [] (by decide) rfl) hS dX12_keep_37
    · have j8 : ¬ (k.toInt = (-1)) := fun h => c4 ((i_eq rfl (by decide)).mpr h)
      refine lv_aload_n hx hb dX12_keep_12 rfl (lv_at hl 0 rfl) ?_
      refine lv_iload_n hx hb dX12_keep_13 rfl (lv_at hl 2 rfl) ?_
      refine go_i (rn_V (As := [.int k]) (rest := []) hx hb hml hown hts hK (m_isBody l J b k) kV_RX12_391 (hP.sub (ws' := [((b 0), .inr (12, [.ref (b 1), .ref (b 2), .ref (b 3), .ref (b 4), .int 0, .int 0, .int 0, .int 0, .ref (b 9), .ref (b 10), .int 0, .ref (b 12), .int (-1), .int 0, .int 0, .int 0, .int 0, .int 0, .ref (b 19), .ref (b 20), .ref (b 21), .ref (b 22), .ref (b 23), .long 0, .long 0, .long 0, .ref (b 27), .ref (b 28), .ref (b 29), .long 0, .int 0, .int (-1), .int 0, .int 0, .int 0, .ref (b 36), .int 0, .int 0, .ref (b 39), .ref (b 40), .int 0, .ref (b 42), .ref (b 43), .int 0, .int 0, .int 0, .ref (b 47), .ref (b 48), .ref (b 49), .ref (b 50)]))]) [0] rfl) rfl rfl rfl ⟨Nat.le_of_ble_eq_true rfl, Nat.le_of_ble_eq_true rfl⟩ rfl rfl rfl hl.1 rfl (Nat.le_of_ble_eq_true rfl) ⟨Nat.le_of_ble_eq_true rfl, Nat.le_of_ble_eq_true rfl⟩ dX12_keep_14) ?_
      refine lv_if_ne (tgt := 22) hx hb dX12_keep_17 (by decide) (fun c => absurd c (by decide)) (fun _ => ?_)
      refine lv_iconst (v := (-1)) hx hb dX12_keep_20 (by decide) ?_
      exact wz_i () hx hb hr hlk (by unfold sp_keep; (repeat' split) <;> first | rfl | (exfalso; omega)) (hP.sub (ws' := []) [] rfl) (hD.sub (ws' := []) [] (by decide) rfl) hS dX12_keep_21
theorem dX12_put_0 : decode cX12_put 0 = .ok (.aload_n 0, 1) := by decide +kernel
theorem dX12_put_1 : decode cX12_put 1 = .ok (.iload_n 1, 1) := by decide +kernel
theorem dX12_put_2 : decode cX12_put 2 = .ok (.iload_n 2, 1) := by decide +kernel
theorem q_1810 : Cond.methodLink RX12 396 yX12_refusal ∈ lw_g := mem_q 1810 (by decide +kernel) rfl
theorem q_1812 : Cond.instanceMethod yX12_refusal ∈ lw_g := mem_q 1812 (by decide +kernel) rfl
theorem q_100 : Cond.selects RX12 yX12_refusal yX12_refusal ∈ lw_g := mem_q 100 (by decide +kernel) rfl
theorem q_1813 : Cond.code yX12_refusal cX12_refusal 3 (some .int) ∈ lw_g := mem_q 1813 (by decide +kernel) rfl
theorem kV_RX12_396 : CV RX12 396 RX12 yX12_refusal cX12_refusal 3 (some .int) 2 := cv_of q_1810 q_1812 q_100 q_115 q_1813 (by decide +kernel)
theorem dX12_put_3 : decode cX12_put 3 = .ok (.invokevirtual 396, 3) := by decide +kernel
theorem dX12_put_6 : decode cX12_put 6 = .ok (.istore 5, 2) := by decide +kernel
theorem dX12_put_8 : decode cX12_put 8 = .ok (.iload 5, 2) := by decide +kernel
theorem dX12_put_10 : decode cX12_put 10 = .ok (.ifCond .ne 27, 3) := by decide +kernel
theorem dX12_put_37 : decode cX12_put 37 = .ok (.iload 5, 2) := by decide +kernel
theorem dX12_put_39 : decode cX12_put 39 = .ok (.ifCond .ne 7, 3) := by decide +kernel
theorem dX12_put_46 : decode cX12_put 46 = .ok (.iload 5, 2) := by decide +kernel
theorem dX12_put_48 : decode cX12_put 48 = .ok (.ireturn, 1) := by decide +kernel
set_option maxHeartbeats 4000000 in
set_option maxRecDepth 100000 in
theorem m_put (l : Launch) (J : va_J9) (b : Nat → Nat) (g : Nat → Int32) (d : Int32) (x : Int32) (v : Int64) (hg : ∀ k, k < 6 → g k = -1) : RC l J yX12_put cX12_put 6 (some .int) ({ frames := 3, cells := 0, slots := 0, locals := 67 }) [.ref (b 0), .int d, .int x, .long v] [((b 0), .inr (12, [.ref (b 1), .ref (b 2), .ref (b 3), .ref (b 4), .int 0, .int 0, .int 0, .int 0, .ref (b 9), .ref (b 10), .int 0, .ref (b 12), .int (-1), .int 0, .int 0, .int 0, .int 0, .int 0, .ref (b 19), .ref (b 20), .ref (b 21), .ref (b 22), .ref (b 23), .long 0, .long 0, .long 0, .ref (b 27), .ref (b 28), .ref (b 29), .long 0, .int 0, .int (-1), .int 0, .int 0, .int 0, .ref (b 36), .int 0, .int 0, .ref (b 39), .ref (b 40), .int 0, .ref (b 42), .ref (b 43), .int 0, .int 0, .int 0, .ref (b 47), .ref (b 48), .ref (b 49), .ref (b 50)])), ((b 47), .inl (J.2.1, 6, .inl g))] (vp_Si (fun r => r = sp_caught (d.toInt))) := by
  refine rc_of (by decide) (Nat.le_of_ble_eq_true rfl) ?_
  intro p e s m below meth c ls hE hl hP hK
  obtain ⟨hx, hb, hr, hml, hown, hts, hlk, hin⟩ := hE
  have hown : s.vm.findClass RX12 = some m.cls := hown
  have hl : lv_has ls 6 [(0, .ref (b 0)), (1, .int d), (2, .int x), (3, .long v)] := hl
  have rg_d := i_rng d
  have rg_x := i_rng x
  by_cases hd : 0 ≤ d.toInt ∧ d.toInt ≤ 5
  · refine lv_aload_n hx hb dX12_put_0 rfl (lv_at hl 0 rfl) ?_
    refine lv_iload_n hx hb dX12_put_1 rfl (lv_at hl 1 rfl) ?_
    refine lv_iload_n hx hb dX12_put_2 rfl (lv_at hl 2 rfl) ?_
    refine go_i (rn_V (As := [.int d, .int x]) (rest := []) hx hb hml hown hts hK (m_refIn l J b g d x hd hg) kV_RX12_396 hP rfl rfl rfl ⟨Nat.le_of_ble_eq_true rfl, Nat.le_of_ble_eq_true rfl⟩ rfl rfl rfl hl.1 rfl (Nat.le_of_ble_eq_true rfl) ⟨Nat.le_of_ble_eq_true rfl, Nat.le_of_ble_eq_true rfl⟩ dX12_put_3) ?_
    refine lv_istore (lv' := [(5, .int (-11)), (0, .ref (b 0)), (1, .int d), (2, .int x), (3, .long v)]) hx hb dX12_put_6 hl (by decide) rfl (fun ls hl => ?_)
    refine lv_iload hx hb dX12_put_8 (lv_at hl 0 rfl) ?_
    refine lv_if_ne (tgt := 37) hx hb dX12_put_10 (by decide) (fun _ => ?_) (fun c => absurd c (by decide))
    refine lv_iload hx hb dX12_put_37 (lv_at hl 0 rfl) ?_
    refine lv_if_ne (tgt := 46) hx hb dX12_put_39 (by decide) (fun _ => ?_) (fun c => absurd c (by decide))
    refine lv_iload hx hb dX12_put_46 (lv_at hl 0 rfl) ?_
    exact rz_i hx hb hr hlk (by unfold sp_caught; (repeat' split) <;> first | rfl | (exfalso; omega)) dX12_put_48
  · refine lv_aload_n hx hb dX12_put_0 rfl (lv_at hl 0 rfl) ?_
    refine lv_iload_n hx hb dX12_put_1 rfl (lv_at hl 1 rfl) ?_
    refine lv_iload_n hx hb dX12_put_2 rfl (lv_at hl 2 rfl) ?_
    refine go_i (rn_V (As := [.int d, .int x]) (rest := []) hx hb hml hown hts hK (m_refOut l J b g d x hd hg) kV_RX12_396 hP rfl rfl rfl ⟨Nat.le_of_ble_eq_true rfl, Nat.le_of_ble_eq_true rfl⟩ rfl rfl rfl hl.1 rfl (Nat.le_of_ble_eq_true rfl) ⟨Nat.le_of_ble_eq_true rfl, Nat.le_of_ble_eq_true rfl⟩ dX12_put_3) ?_
    refine lv_istore (lv' := [(5, .int (-1)), (0, .ref (b 0)), (1, .int d), (2, .int x), (3, .long v)]) hx hb dX12_put_6 hl (by decide) rfl (fun ls hl => ?_)
    refine lv_iload hx hb dX12_put_8 (lv_at hl 0 rfl) ?_
    refine lv_if_ne (tgt := 37) hx hb dX12_put_10 (by decide) (fun _ => ?_) (fun c => absurd c (by decide))
    refine lv_iload hx hb dX12_put_37 (lv_at hl 0 rfl) ?_
    refine lv_if_ne (tgt := 46) hx hb dX12_put_39 (by decide) (fun _ => ?_) (fun c => absurd c (by decide))
    refine lv_iload hx hb dX12_put_46 (lv_at hl 0 rfl) ?_
    exact rz_i hx hb hr hlk (by unfold sp_caught; (repeat' split) <;> first | rfl | (exfalso; omega)) dX12_put_48
theorem dX12_element_0 : decode cX12_element 0 = .ok (.aload_n 0, 1) := by decide +kernel
theorem dX12_element_1 : decode cX12_element 1 = .ok (.iload_n 1, 1) := by decide +kernel
theorem dX12_element_2 : decode cX12_element 2 = .ok (.iload_n 2, 1) := by decide +kernel
theorem dX12_element_3 : decode cX12_element 3 = .ok (.invokevirtual 396, 3) := by decide +kernel
theorem dX12_element_6 : decode cX12_element 6 = .ok (.ifCond .eq 9, 3) := by decide +kernel
theorem dX12_element_9 : decode cX12_element 9 = .ok (.ldc2_w 289, 3) := by decide +kernel
theorem dX12_element_12 : decode cX12_element 12 = .ok (.goto 14, 3) := by decide +kernel
theorem dX12_element_26 : decode cX12_element 26 = .ok (.lreturn, 1) := by decide +kernel
set_option maxHeartbeats 4000000 in
set_option maxRecDepth 100000 in
theorem m_element (l : Launch) (J : va_J9) (b : Nat → Nat) (g : Nat → Int32) (d : Int32) (x : Int32) (hg : ∀ k, k < 6 → g k = -1) : RC l J yX12_element cX12_element 3 (some .long) ({ frames := 3, cells := 0, slots := 0, locals := 67 }) [.ref (b 0), .int d, .int x] [((b 0), .inr (12, [.ref (b 1), .ref (b 2), .ref (b 3), .ref (b 4), .int 0, .int 0, .int 0, .int 0, .ref (b 9), .ref (b 10), .int 0, .ref (b 12), .int (-1), .int 0, .int 0, .int 0, .int 0, .int 0, .ref (b 19), .ref (b 20), .ref (b 21), .ref (b 22), .ref (b 23), .long 0, .long 0, .long 0, .ref (b 27), .ref (b 28), .ref (b 29), .long 0, .int 0, .int (-1), .int 0, .int 0, .int 0, .ref (b 36), .int 0, .int 0, .ref (b 39), .ref (b 40), .int 0, .ref (b 42), .ref (b 43), .int 0, .int 0, .int 0, .ref (b 47), .ref (b 48), .ref (b 49), .ref (b 50)])), ((b 47), .inl (J.2.1, 6, .inl g))] (vp_Sl (fun r => r = (-9223372036854775808))) := by
  refine rc_of (by decide) (Nat.le_of_ble_eq_true rfl) ?_
  intro p e s m below meth c ls hE hl hP hK
  obtain ⟨hx, hb, hr, hml, hown, hts, hlk, hin⟩ := hE
  have hown : s.vm.findClass RX12 = some m.cls := hown
  have hl : lv_has ls 3 [(0, .ref (b 0)), (1, .int d), (2, .int x)] := hl
  have rg_d := i_rng d
  have rg_x := i_rng x
  by_cases hd : 0 ≤ d.toInt ∧ d.toInt ≤ 5
  · refine lv_aload_n hx hb dX12_element_0 rfl (lv_at hl 0 rfl) ?_
    refine lv_iload_n hx hb dX12_element_1 rfl (lv_at hl 1 rfl) ?_
    refine lv_iload_n hx hb dX12_element_2 rfl (lv_at hl 2 rfl) ?_
    refine go_i (rn_V (As := [.int d, .int x]) (rest := []) hx hb hml hown hts hK (m_refIn l J b g d x hd hg) kV_RX12_396 hP rfl rfl rfl ⟨Nat.le_of_ble_eq_true rfl, Nat.le_of_ble_eq_true rfl⟩ rfl rfl rfl hl.1 rfl (Nat.le_of_ble_eq_true rfl) ⟨Nat.le_of_ble_eq_true rfl, Nat.le_of_ble_eq_true rfl⟩ dX12_element_3) ?_
    refine lv_if_eq (tgt := 15) hx hb dX12_element_6 (by decide) (fun c => absurd c (by decide)) (fun _ => ?_)
    refine lv_ldc2 (v := (-9223372036854775808)) hx hb hown (hts _ q_1677) dX12_element_9 ?_
    refine lv_goto (tgt := 26) hx hb dX12_element_12 (by decide) ?_
    exact rz_l hx hb hr hlk (by decide) dX12_element_26
  · refine lv_aload_n hx hb dX12_element_0 rfl (lv_at hl 0 rfl) ?_
    refine lv_iload_n hx hb dX12_element_1 rfl (lv_at hl 1 rfl) ?_
    refine lv_iload_n hx hb dX12_element_2 rfl (lv_at hl 2 rfl) ?_
    refine go_i (rn_V (As := [.int d, .int x]) (rest := []) hx hb hml hown hts hK (m_refOut l J b g d x hd hg) kV_RX12_396 hP rfl rfl rfl ⟨Nat.le_of_ble_eq_true rfl, Nat.le_of_ble_eq_true rfl⟩ rfl rfl rfl hl.1 rfl (Nat.le_of_ble_eq_true rfl) ⟨Nat.le_of_ble_eq_true rfl, Nat.le_of_ble_eq_true rfl⟩ dX12_element_3) ?_
    refine lv_if_eq (tgt := 15) hx hb dX12_element_6 (by decide) (fun c => absurd c (by decide)) (fun _ => ?_)
    refine lv_ldc2 (v := (-9223372036854775808)) hx hb hown (hts _ q_1677) dX12_element_9 ?_
    refine lv_goto (tgt := 26) hx hb dX12_element_12 (by decide) ?_
    exact rz_l hx hb hr hlk (by decide) dX12_element_26
theorem dX12_shift_0 : decode cX12_shift 0 = .ok (.iload_n 1, 1) := by decide +kernel
theorem dX12_shift_1 : decode cX12_shift 1 = .ok (.invokestatic 114, 3) := by decide +kernel
theorem dX12_shift_4 : decode cX12_shift 4 = .ok (.ifCond .eq 10, 3) := by decide +kernel
theorem dX12_shift_14 : decode cX12_shift 14 = .ok (.iconst (-1), 1) := by decide +kernel
theorem dX12_shift_15 : decode cX12_shift 15 = .ok (.ireturn, 1) := by decide +kernel
theorem dX12_shift_7 : decode cX12_shift 7 = .ok (.iload_n 3, 1) := by decide +kernel
theorem dX12_shift_8 : decode cX12_shift 8 = .ok (.invokestatic 114, 3) := by decide +kernel
theorem dX12_shift_11 : decode cX12_shift 11 = .ok (.ifCond .ne 5, 3) := by decide +kernel
theorem dX12_shift_16 : decode cX12_shift 16 = .ok (.aload_n 0, 1) := by decide +kernel
theorem dX12_shift_17 : decode cX12_shift 17 = .ok (.getfield 73, 3) := by decide +kernel
theorem dX12_shift_20 : decode cX12_shift 20 = .ok (.iload_n 1, 1) := by decide +kernel
theorem dX12_shift_21 : decode cX12_shift 21 = .ok (.iaload, 1) := by decide +kernel
theorem dX12_shift_22 : decode cX12_shift 22 = .ok (.ifCond .lt 12, 3) := by decide +kernel
theorem dX12_shift_34 : decode cX12_shift 34 = .ok (.bipush (-11), 2) := by decide +kernel
theorem dX12_shift_36 : decode cX12_shift 36 = .ok (.ireturn, 1) := by decide +kernel
set_option maxHeartbeats 4000000 in
set_option maxRecDepth 100000 in
theorem m_shift (l : Launch) (J : va_J9) (b : Nat → Nat) (g : Nat → Int32) (d : Int32) (x : Int32) (o : Int32) (y : Int32) (n : Int32) (hg : ∀ k, k < 6 → g k = -1) : RC l J yX12_shift cX12_shift 7 (some .int) ({ frames := 2, cells := 0, slots := 0, locals := 45 }) [.ref (b 0), .int d, .int x, .int o, .int y, .int n] [((b 0), .inr (12, [.ref (b 1), .ref (b 2), .ref (b 3), .ref (b 4), .int 0, .int 0, .int 0, .int 0, .ref (b 9), .ref (b 10), .int 0, .ref (b 12), .int (-1), .int 0, .int 0, .int 0, .int 0, .int 0, .ref (b 19), .ref (b 20), .ref (b 21), .ref (b 22), .ref (b 23), .long 0, .long 0, .long 0, .ref (b 27), .ref (b 28), .ref (b 29), .long 0, .int 0, .int (-1), .int 0, .int 0, .int 0, .ref (b 36), .int 0, .int 0, .ref (b 39), .ref (b 40), .int 0, .ref (b 42), .ref (b 43), .int 0, .int 0, .int 0, .ref (b 47), .ref (b 48), .ref (b 49), .ref (b 50)])), ((b 47), .inl (J.2.1, 6, .inl g))] (vp_Si (fun r => r = sp_shift (d.toInt) (o.toInt))) := by
  refine rc_of (by decide) (Nat.le_of_ble_eq_true rfl) ?_
  intro p e s m below meth c ls hE hl hP hK
  obtain ⟨hx, hb, hr, hml, hown, hts, hlk, hin⟩ := hE
  have hown : s.vm.findClass RX12 = some m.cls := hown
  have hl : lv_has ls 7 [(0, .ref (b 0)), (1, .int d), (2, .int x), (3, .int o), (4, .int y), (5, .int n)] := hl
  have rg_d := i_rng d
  have rg_x := i_rng x
  have rg_o := i_rng o
  have rg_y := i_rng y
  have rg_n := i_rng n
  refine lv_iload_n hx hb dX12_shift_0 rfl (lv_at hl 1 rfl) ?_
  refine go_i (rn_S (As := [.int d]) (rest := []) hx hb hml hown hts hK (m_isShelf l J d) kS_RX12_114 (hP.sub (ws' := []) [] rfl) ⟨Nat.le_of_ble_eq_true rfl, Nat.le_of_ble_eq_true rfl⟩ rfl rfl rfl hl.1 rfl (Nat.le_of_ble_eq_true rfl) ⟨Nat.le_of_ble_eq_true rfl, Nat.le_of_ble_eq_true rfl⟩ dX12_shift_1) ?_
  refine lv_if_eq (tgt := 14) hx hb dX12_shift_4 (by decide) (fun c1 => ?_) (fun c1 => ?_)
  · have j2 := b0 c1
    refine lv_iconst (v := (-1)) hx hb dX12_shift_14 (by decide) ?_
    exact rz_i hx hb hr hlk (by unfold sp_shift; (repeat' split) <;> first | rfl | (exfalso; omega)) dX12_shift_15
  · have j3 := b1 c1
    refine lv_iload_n hx hb dX12_shift_7 rfl (lv_at hl 3 rfl) ?_
    refine go_i (rn_S (As := [.int o]) (rest := []) hx hb hml hown hts hK (m_isShelf l J o) kS_RX12_114 (hP.sub (ws' := []) [] rfl) ⟨Nat.le_of_ble_eq_true rfl, Nat.le_of_ble_eq_true rfl⟩ rfl rfl rfl hl.1 rfl (Nat.le_of_ble_eq_true rfl) ⟨Nat.le_of_ble_eq_true rfl, Nat.le_of_ble_eq_true rfl⟩ dX12_shift_8) ?_
    refine lv_if_ne (tgt := 16) hx hb dX12_shift_11 (by decide) (fun c4 => ?_) (fun c4 => ?_)
    · have j5 := b1 c4
      refine lv_aload_n hx hb dX12_shift_16 rfl (lv_at hl 0 rfl) ?_
      refine va_get (D := J.1) (ci := 12) (v := .ref (b 47)) (C := RX12) (T := TX12) (N := 50) hx hb hts inX12 hown hK.1 hP 0 rfl rfl 46 (by decide) (hts _ q_1312) (fun _ h9 => h9) rfl dX12_shift_17 ?_
      refine lv_iload_n hx hb dX12_shift_20 rfl (lv_at hl 1 rfl) ?_
      have h6 : vp_in d 6 := (i_in (a := d.toInt) rfl (by omega) (by omega))
      refine va_iald hx hb hK.1 hP 1 0 rfl rfl h6 dX12_shift_21 ?_
      refine top_i (y := (-1)) (hg _ (i_cl h6)) ?_
      refine lv_if_lt (tgt := 34) hx hb dX12_shift_22 (by decide) (fun _ => ?_) (fun c => absurd c (by decide))
      refine lv_bipush (v := (-11)) hx hb dX12_shift_34 (by decide) ?_
      exact rz_i hx hb hr hlk (by unfold sp_shift; (repeat' split) <;> first | rfl | (exfalso; omega)) dX12_shift_36
    · have j7 := b0 c4
      refine lv_iconst (v := (-1)) hx hb dX12_shift_14 (by decide) ?_
      exact rz_i hx hb hr hlk (by unfold sp_shift; (repeat' split) <;> first | rfl | (exfalso; omega)) dX12_shift_15
theorem dX12_taken_0 : decode cX12_taken 0 = .ok (.iload_n 1, 1) := by decide +kernel
theorem dX12_taken_1 : decode cX12_taken 1 = .ok (.invokestatic 114, 3) := by decide +kernel
theorem dX12_taken_4 : decode cX12_taken 4 = .ok (.ifCond .eq 15, 3) := by decide +kernel
theorem dX12_taken_19 : decode cX12_taken 19 = .ok (.iconst (-1), 1) := by decide +kernel
theorem dX12_taken_20 : decode cX12_taken 20 = .ok (.ireturn, 1) := by decide +kernel
theorem dX12_taken_7 : decode cX12_taken 7 = .ok (.iload_n 2, 1) := by decide +kernel
theorem dX12_taken_8 : decode cX12_taken 8 = .ok (.i2l, 1) := by decide +kernel
theorem dX12_taken_9 : decode cX12_taken 9 = .ok (.lconst 0, 1) := by decide +kernel
theorem dX12_taken_10 : decode cX12_taken 10 = .ok (.ldc2_w 364, 3) := by decide +kernel
theorem dX12_taken_13 : decode cX12_taken 13 = .ok (.invokestatic 101, 3) := by decide +kernel
theorem dX12_taken_16 : decode cX12_taken 16 = .ok (.ifCond .ne 5, 3) := by decide +kernel
theorem dX12_taken_21 : decode cX12_taken 21 = .ok (.aload_n 0, 1) := by decide +kernel
theorem dX12_taken_22 : decode cX12_taken 22 = .ok (.getfield 73, 3) := by decide +kernel
theorem dX12_taken_25 : decode cX12_taken 25 = .ok (.iload_n 1, 1) := by decide +kernel
theorem dX12_taken_26 : decode cX12_taken 26 = .ok (.iaload, 1) := by decide +kernel
theorem dX12_taken_27 : decode cX12_taken 27 = .ok (.ifCond .ge 6, 3) := by decide +kernel
theorem dX12_taken_30 : decode cX12_taken 30 = .ok (.bipush (-11), 2) := by decide +kernel
theorem dX12_taken_32 : decode cX12_taken 32 = .ok (.ireturn, 1) := by decide +kernel
set_option maxHeartbeats 4000000 in
set_option maxRecDepth 100000 in
theorem m_taken (l : Launch) (J : va_J9) (b : Nat → Nat) (g : Nat → Int32) (d : Int32) (k : Int32) (hg : ∀ k, k < 6 → g k = -1) : RC l J yX12_taken cX12_taken 4 (some .int) ({ frames := 2, cells := 0, slots := 0, locals := 45 }) [.ref (b 0), .int d, .int k] [((b 0), .inr (12, [.ref (b 1), .ref (b 2), .ref (b 3), .ref (b 4), .int 0, .int 0, .int 0, .int 0, .ref (b 9), .ref (b 10), .int 0, .ref (b 12), .int (-1), .int 0, .int 0, .int 0, .int 0, .int 0, .ref (b 19), .ref (b 20), .ref (b 21), .ref (b 22), .ref (b 23), .long 0, .long 0, .long 0, .ref (b 27), .ref (b 28), .ref (b 29), .long 0, .int 0, .int (-1), .int 0, .int 0, .int 0, .ref (b 36), .int 0, .int 0, .ref (b 39), .ref (b 40), .int 0, .ref (b 42), .ref (b 43), .int 0, .int 0, .int 0, .ref (b 47), .ref (b 48), .ref (b 49), .ref (b 50)])), ((b 47), .inl (J.2.1, 6, .inl g))] (vp_Si (fun r => r = sp_taken (d.toInt) (k.toInt))) := by
  refine rc_of (by decide) (Nat.le_of_ble_eq_true rfl) ?_
  intro p e s m below meth c ls hE hl hP hK
  obtain ⟨hx, hb, hr, hml, hown, hts, hlk, hin⟩ := hE
  have hown : s.vm.findClass RX12 = some m.cls := hown
  have hl : lv_has ls 4 [(0, .ref (b 0)), (1, .int d), (2, .int k)] := hl
  have rg_d := i_rng d
  have rg_k := i_rng k
  refine lv_iload_n hx hb dX12_taken_0 rfl (lv_at hl 1 rfl) ?_
  refine go_i (rn_S (As := [.int d]) (rest := []) hx hb hml hown hts hK (m_isShelf l J d) kS_RX12_114 (hP.sub (ws' := []) [] rfl) ⟨Nat.le_of_ble_eq_true rfl, Nat.le_of_ble_eq_true rfl⟩ rfl rfl rfl hl.1 rfl (Nat.le_of_ble_eq_true rfl) ⟨Nat.le_of_ble_eq_true rfl, Nat.le_of_ble_eq_true rfl⟩ dX12_taken_1) ?_
  refine lv_if_eq (tgt := 19) hx hb dX12_taken_4 (by decide) (fun c1 => ?_) (fun c1 => ?_)
  · have j2 := b0 c1
    refine lv_iconst (v := (-1)) hx hb dX12_taken_19 (by decide) ?_
    exact rz_i hx hb hr hlk (by unfold sp_taken; (repeat' split) <;> first | rfl | (exfalso; omega)) dX12_taken_20
  · have j3 := b1 c1
    refine lv_iload_n hx hb dX12_taken_7 rfl (lv_at hl 2 rfl) ?_
    refine lv_i2l (v := k.toInt64) hx hb dX12_taken_8 rfl ?_
    refine lv_lconst (v := 0) hx hb dX12_taken_9 (by decide) ?_
    refine lv_ldc2 (v := 7) hx hb hown (hts _ q_1765) dX12_taken_10 ?_
    refine go_i (rn_S (As := [.long k.toInt64, .long 0, .long 7]) (rest := []) hx hb hml hown hts hK (m_within l J k.toInt64 0 7 k.toInt 0 7 (i_wide rfl) (by decide) (by decide)) kS_RX12_101 (hP.sub (ws' := []) [] rfl) ⟨Nat.le_of_ble_eq_true rfl, Nat.le_of_ble_eq_true rfl⟩ rfl rfl rfl hl.1 rfl (Nat.le_of_ble_eq_true rfl) ⟨Nat.le_of_ble_eq_true rfl, Nat.le_of_ble_eq_true rfl⟩ dX12_taken_13) ?_
    refine lv_if_ne (tgt := 21) hx hb dX12_taken_16 (by decide) (fun c4 => ?_) (fun c4 => ?_)
    · have j5 := b1 c4
      refine lv_aload_n hx hb dX12_taken_21 rfl (lv_at hl 0 rfl) ?_
      refine va_get (D := J.1) (ci := 12) (v := .ref (b 47)) (C := RX12) (T := TX12) (N := 50) hx hb hts inX12 hown hK.1 hP 0 rfl rfl 46 (by decide) (hts _ q_1312) (fun _ h9 => h9) rfl dX12_taken_22 ?_
      refine lv_iload_n hx hb dX12_taken_25 rfl (lv_at hl 1 rfl) ?_
      have h6 : vp_in d 6 := (i_in (a := d.toInt) rfl (by omega) (by omega))
      refine va_iald hx hb hK.1 hP 1 0 rfl rfl h6 dX12_taken_26 ?_
      refine top_i (y := (-1)) (hg _ (i_cl h6)) ?_
      refine lv_if_ge (tgt := 33) hx hb dX12_taken_27 (by decide) (fun c => absurd c (by decide)) (fun _ => ?_)
      refine lv_bipush (v := (-11)) hx hb dX12_taken_30 (by decide) ?_
      exact rz_i hx hb hr hlk (by unfold sp_taken; (repeat' split) <;> first | rfl | (exfalso; omega)) dX12_taken_32
    · have j7 := b0 c4
      refine lv_iconst (v := (-1)) hx hb dX12_taken_19 (by decide) ?_
      exact rz_i hx hb hr hlk (by unfold sp_taken; (repeat' split) <;> first | rfl | (exfalso; omega)) dX12_taken_20
theorem dX12_count_0 : decode cX12_count 0 = .ok (.iload_n 1, 1) := by decide +kernel
theorem dX12_count_1 : decode cX12_count 1 = .ok (.tableswitch 81 0 6 #[43, 48, 53, 61, 66, 71, 76], 43) := by decide +kernel
theorem dX12_count_44 : decode cX12_count 44 = .ok (.aload_n 0, 1) := by decide +kernel
theorem dX12_count_45 : decode cX12_count 45 = .ok (.getfield 98, 3) := by decide +kernel
theorem dX12_count_48 : decode cX12_count 48 = .ok (.ireturn, 1) := by decide +kernel
theorem dX12_count_49 : decode cX12_count 49 = .ok (.aload_n 0, 1) := by decide +kernel
theorem q_1273 : Cond.fieldLink RX12 127 RX12 "paths" "I" ∈ lw_g := mem_q 1273 (by decide +kernel) rfl
theorem dX12_count_50 : decode cX12_count 50 = .ok (.getfield 127, 3) := by decide +kernel
theorem dX12_count_53 : decode cX12_count 53 = .ok (.ireturn, 1) := by decide +kernel
theorem dX12_count_54 : decode cX12_count 54 = .ok (.aload_n 0, 1) := by decide +kernel
theorem dX12_count_55 : decode cX12_count 55 = .ok (.invokevirtual 225, 3) := by decide +kernel
theorem dX12_count_58 : decode cX12_count 58 = .ok (.invokestatic 130, 3) := by decide +kernel
theorem dX12_count_61 : decode cX12_count 61 = .ok (.ireturn, 1) := by decide +kernel
theorem dX12_count_62 : decode cX12_count 62 = .ok (.aload_n 0, 1) := by decide +kernel
theorem dX12_count_63 : decode cX12_count 63 = .ok (.getfield 167, 3) := by decide +kernel
theorem dX12_count_66 : decode cX12_count 66 = .ok (.ireturn, 1) := by decide +kernel
theorem dX12_count_67 : decode cX12_count 67 = .ok (.aload_n 0, 1) := by decide +kernel
theorem dX12_count_68 : decode cX12_count 68 = .ok (.getfield 92, 3) := by decide +kernel
theorem dX12_count_71 : decode cX12_count 71 = .ok (.ireturn, 1) := by decide +kernel
theorem dX12_count_72 : decode cX12_count 72 = .ok (.aload_n 0, 1) := by decide +kernel
theorem dX12_count_73 : decode cX12_count 73 = .ok (.getfield 361, 3) := by decide +kernel
theorem dX12_count_76 : decode cX12_count 76 = .ok (.ireturn, 1) := by decide +kernel
theorem dX12_count_77 : decode cX12_count 77 = .ok (.aload_n 0, 1) := by decide +kernel
theorem dX12_count_78 : decode cX12_count 78 = .ok (.getfield 366, 3) := by decide +kernel
theorem dX12_count_81 : decode cX12_count 81 = .ok (.ireturn, 1) := by decide +kernel
theorem dX12_count_82 : decode cX12_count 82 = .ok (.iconst (-1), 1) := by decide +kernel
theorem dX12_count_83 : decode cX12_count 83 = .ok (.ireturn, 1) := by decide +kernel
set_option maxHeartbeats 4000000 in
set_option maxRecDepth 100000 in
theorem m_count (l : Launch) (J : va_J9) (b : Nat → Nat) (k : Int32) : RC l J yX12_count cX12_count 2 (some .int) ({ frames := 1, cells := 0, slots := 0, locals := 22 }) [.ref (b 0), .int k] [((b 0), .inr (12, [.ref (b 1), .ref (b 2), .ref (b 3), .ref (b 4), .int 0, .int 0, .int 0, .int 0, .ref (b 9), .ref (b 10), .int 0, .ref (b 12), .int (-1), .int 0, .int 0, .int 0, .int 0, .int 0, .ref (b 19), .ref (b 20), .ref (b 21), .ref (b 22), .ref (b 23), .long 0, .long 0, .long 0, .ref (b 27), .ref (b 28), .ref (b 29), .long 0, .int 0, .int (-1), .int 0, .int 0, .int 0, .ref (b 36), .int 0, .int 0, .ref (b 39), .ref (b 40), .int 0, .ref (b 42), .ref (b 43), .int 0, .int 0, .int 0, .ref (b 47), .ref (b 48), .ref (b 49), .ref (b 50)]))] (vp_Si (fun r => r = sp_count (k.toInt))) := by
  refine rc_of (by decide) (Nat.le_of_ble_eq_true rfl) ?_
  intro p e s m below meth c ls hE hl hP hK
  obtain ⟨hx, hb, hr, hml, hown, hts, hlk, hin⟩ := hE
  have hown : s.vm.findClass RX12 = some m.cls := hown
  have hl : lv_has ls 2 [(0, .ref (b 0)), (1, .int k)] := hl
  have rg_k := i_rng k
  refine lv_iload_n hx hb dX12_count_0 rfl (lv_at hl 1 rfl) ?_
  rcases Decidable.em (k = 0) with c1 | c1
  · have j2 : k.toInt = 0 := (i_eq rfl (by decide)).mp c1
    refine top_i (y := 0) c1 ?_
    refine lv_tableIn (tgt := 44) (off := 43) hx hb dX12_count_1 (by decide) (by decide) (by decide) (by decide) ?_
    refine lv_aload_n hx hb dX12_count_44 rfl (lv_at hl 0 rfl) ?_
    refine va_get (D := J.1) (ci := 12) (v := .int 0) (C := RX12) (T := TX12) (N := 50) hx hb hts inX12 hown hK.1 hP 0 rfl rfl 6 (by decide) (hts _ q_1272) (fun _ h9 => h9) rfl dX12_count_45 ?_
    exact rz_i hx hb hr hlk (by unfold sp_count; (repeat' split) <;> first | rfl | (exfalso; omega)) dX12_count_48
  have j3 : ¬ (k.toInt = 0) := fun h => c1 ((i_eq rfl (by decide)).mpr h)
  rcases Decidable.em (k = 1) with c4 | c4
  · have j5 : k.toInt = 1 := (i_eq rfl (by decide)).mp c4
    refine top_i (y := 1) c4 ?_
    refine lv_tableIn (tgt := 49) (off := 48) hx hb dX12_count_1 (by decide) (by decide) (by decide) (by decide) ?_
    refine lv_aload_n hx hb dX12_count_49 rfl (lv_at hl 0 rfl) ?_
    refine va_get (D := J.1) (ci := 12) (v := .int 0) (C := RX12) (T := TX12) (N := 50) hx hb hts inX12 hown hK.1 hP 0 rfl rfl 7 (by decide) (hts _ q_1273) (fun _ h9 => h9) rfl dX12_count_50 ?_
    exact rz_i hx hb hr hlk (by unfold sp_count; (repeat' split) <;> first | rfl | (exfalso; omega)) dX12_count_53
  have j6 : ¬ (k.toInt = 1) := fun h => c4 ((i_eq rfl (by decide)).mpr h)
  rcases Decidable.em (k = 2) with c7 | c7
  · have j8 : k.toInt = 2 := (i_eq rfl (by decide)).mp c7
    refine top_i (y := 2) c7 ?_
    refine lv_tableIn (tgt := 54) (off := 53) hx hb dX12_count_1 (by decide) (by decide) (by decide) (by decide) ?_
    refine lv_aload_n hx hb dX12_count_54 rfl (lv_at hl 0 rfl) ?_
    refine go_i (rn_V (As := []) (rest := []) hx hb hml hown hts hK (m_openSet l J b) kV_RX12_225 hP rfl rfl rfl ⟨Nat.le_of_ble_eq_true rfl, Nat.le_of_ble_eq_true rfl⟩ rfl rfl rfl hl.1 rfl (Nat.le_of_ble_eq_true rfl) ⟨Nat.le_of_ble_eq_true rfl, Nat.le_of_ble_eq_true rfl⟩ dX12_count_55) ?_
    refine go_i (rn_S (As := [.int 0]) (rest := []) hx hb hml hown hts hK (m_bits0 l J ) kS_RX12_130 (hP.sub (ws' := []) [] rfl) ⟨Nat.le_of_ble_eq_true rfl, Nat.le_of_ble_eq_true rfl⟩ rfl rfl rfl hl.1 rfl (Nat.le_of_ble_eq_true rfl) ⟨Nat.le_of_ble_eq_true rfl, Nat.le_of_ble_eq_true rfl⟩ dX12_count_58) ?_
    exact rz_i hx hb hr hlk (by unfold sp_count; (repeat' split) <;> first | rfl | (exfalso; omega)) dX12_count_61
  have j9 : ¬ (k.toInt = 2) := fun h => c7 ((i_eq rfl (by decide)).mpr h)
  rcases Decidable.em (k = 3) with c10 | c10
  · have j11 : k.toInt = 3 := (i_eq rfl (by decide)).mp c10
    refine top_i (y := 3) c10 ?_
    refine lv_tableIn (tgt := 62) (off := 61) hx hb dX12_count_1 (by decide) (by decide) (by decide) (by decide) ?_
    refine lv_aload_n hx hb dX12_count_62 rfl (lv_at hl 0 rfl) ?_
    refine va_get (D := J.1) (ci := 12) (v := .int 0) (C := RX12) (T := TX12) (N := 50) hx hb hts inX12 hown hK.1 hP 0 rfl rfl 10 (by decide) (hts _ q_1276) (fun _ h9 => h9) rfl dX12_count_63 ?_
    exact rz_i hx hb hr hlk (by unfold sp_count; (repeat' split) <;> first | rfl | (exfalso; omega)) dX12_count_66
  have j12 : ¬ (k.toInt = 3) := fun h => c10 ((i_eq rfl (by decide)).mpr h)
  rcases Decidable.em (k = 4) with c13 | c13
  · have j14 : k.toInt = 4 := (i_eq rfl (by decide)).mp c13
    refine top_i (y := 4) c13 ?_
    refine lv_tableIn (tgt := 67) (off := 66) hx hb dX12_count_1 (by decide) (by decide) (by decide) (by decide) ?_
    refine lv_aload_n hx hb dX12_count_67 rfl (lv_at hl 0 rfl) ?_
    refine va_get (D := J.1) (ci := 12) (v := .int 0) (C := RX12) (T := TX12) (N := 50) hx hb hts inX12 hown hK.1 hP 0 rfl rfl 5 (by decide) (hts _ q_1271) (fun _ h9 => h9) rfl dX12_count_68 ?_
    exact rz_i hx hb hr hlk (by unfold sp_count; (repeat' split) <;> first | rfl | (exfalso; omega)) dX12_count_71
  have j15 : ¬ (k.toInt = 4) := fun h => c13 ((i_eq rfl (by decide)).mpr h)
  rcases Decidable.em (k = 5) with c16 | c16
  · have j17 : k.toInt = 5 := (i_eq rfl (by decide)).mp c16
    refine top_i (y := 5) c16 ?_
    refine lv_tableIn (tgt := 72) (off := 71) hx hb dX12_count_1 (by decide) (by decide) (by decide) (by decide) ?_
    refine lv_aload_n hx hb dX12_count_72 rfl (lv_at hl 0 rfl) ?_
    refine va_get (D := J.1) (ci := 12) (v := .int 0) (C := RX12) (T := TX12) (N := 50) hx hb hts inX12 hown hK.1 hP 0 rfl rfl 40 (by decide) (hts _ q_1306) (fun _ h9 => h9) rfl dX12_count_73 ?_
    exact rz_i hx hb hr hlk (by unfold sp_count; (repeat' split) <;> first | rfl | (exfalso; omega)) dX12_count_76
  have j18 : ¬ (k.toInt = 5) := fun h => c16 ((i_eq rfl (by decide)).mpr h)
  rcases Decidable.em (k = 6) with c19 | c19
  · have j20 : k.toInt = 6 := (i_eq rfl (by decide)).mp c19
    refine top_i (y := 6) c19 ?_
    refine lv_tableIn (tgt := 77) (off := 76) hx hb dX12_count_1 (by decide) (by decide) (by decide) (by decide) ?_
    refine lv_aload_n hx hb dX12_count_77 rfl (lv_at hl 0 rfl) ?_
    refine va_get (D := J.1) (ci := 12) (v := .int 0) (C := RX12) (T := TX12) (N := 50) hx hb hts inX12 hown hK.1 hP 0 rfl rfl 43 (by decide) (hts _ q_1309) (fun _ h9 => h9) rfl dX12_count_78 ?_
    exact rz_i hx hb hr hlk (by unfold sp_count; (repeat' split) <;> first | rfl | (exfalso; omega)) dX12_count_81
  have j21 : ¬ (k.toInt = 6) := fun h => c19 ((i_eq rfl (by decide)).mpr h)
  refine lv_tableOut (tgt := 82) hx hb dX12_count_1 (by omega) (by decide) ?_
  refine lv_iconst (v := (-1)) hx hb dX12_count_82 (by decide) ?_
  exact rz_i hx hb hr hlk (by unfold sp_count; (repeat' split) <;> first | rfl | (exfalso; omega)) dX12_count_83
