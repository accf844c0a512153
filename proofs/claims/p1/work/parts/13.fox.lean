theorem dX11_shelfAt_0 : decode cX11_shelfAt 0 = .ok (.iload_n 1, 1) := by decide +kernel
theorem dX11_shelfAt_1 : decode cX11_shelfAt 1 = .ok (.ifCond .lt 18, 3) := by decide +kernel
theorem dX11_shelfAt_4 : decode cX11_shelfAt 4 = .ok (.iload_n 1, 1) := by decide +kernel
theorem dX11_shelfAt_5 : decode cX11_shelfAt 5 = .ok (.bipush 6, 2) := by decide +kernel
theorem dX11_shelfAt_7 : decode cX11_shelfAt 7 = .ok (.if_icmp .ge 12, 3) := by decide +kernel
theorem dX11_shelfAt_10 : decode cX11_shelfAt 10 = .ok (.aload_n 0, 1) := by decide +kernel
theorem q_472 : Cond.fieldLink RX11 90 RX11 "shelves" "[LFoxHoles$Shelf;" ∈ lw_g := mem_q 472 (by decide +kernel) rfl
theorem dX11_shelfAt_11 : decode cX11_shelfAt 11 = .ok (.getfield 90, 3) := by decide +kernel
theorem dX11_shelfAt_14 : decode cX11_shelfAt 14 = .ok (.iload_n 1, 1) := by decide +kernel
theorem dX11_shelfAt_15 : decode cX11_shelfAt 15 = .ok (.aaload, 1) := by decide +kernel
theorem dX11_shelfAt_16 : decode cX11_shelfAt 16 = .ok (.goto 4, 3) := by decide +kernel
theorem dX11_shelfAt_20 : decode cX11_shelfAt 20 = .ok (.areturn, 1) := by decide +kernel
set_option maxHeartbeats 4000000 in
set_option maxRecDepth 100000 in
theorem cF_shelfIn (l : Launch) (J : va_J9) (a : Nat → Nat) (f : Nat → Option Nat) (sh : Nat) (n : Int32) (hd : 0 ≤ n.toInt ∧ n.toInt ≤ 5) (hf : f n.toNatClampNeg = some sh) : RC l J yX11_shelfAt cX11_shelfAt 2 (some (.object "FoxHoles$Shelf")) ({ frames := 0, cells := 0, slots := 0, locals := 0 }) [.ref (a 0), .int n] [((a 0), .inr (11, [.ref (a 1), .ref (a 6), .ref (a 10), .ref (a 15), .ref (a 17), .ref (a 22), .ref (a 23), .ref (a 30), .ref (a 31), .ref (a 34), .int 0, .ref (a 37), .ref (a 40)])), ((a 40), .inl (J.2.2.2, 6, .inr (.inr (.inr (.inr f)))))] (va_Sq (fun r => r = (some sh))) := by
  refine rc_of (by decide) (Nat.le_of_ble_eq_true rfl) ?_
  intro p e s m below meth c ls hE hl hP hK
  obtain ⟨hx, hb, hr, hml, hown, hts, hlk, hin⟩ := hE
  have hown : s.vm.findClass RX11 = some m.cls := hown
  have hl : lv_has ls 2 [(0, .ref (a 0)), (1, .int n)] := hl
  have rg_n := i_rng n
  refine lv_iload_n hx hb dX11_shelfAt_0 rfl (lv_at hl 1 rfl) ?_
  refine lv_if_lt (tgt := 19) hx hb dX11_shelfAt_1 (by decide) (fun c1 => absurd (show n.toInt < 0 from (i_lt rfl (by decide)).mp c1) (by omega)) (fun _ => ?_)
  refine lv_iload_n hx hb dX11_shelfAt_4 rfl (lv_at hl 1 rfl) ?_
  refine lv_bipush (v := 6) hx hb dX11_shelfAt_5 (by decide) ?_
  refine lv_icmp_ge (tgt := 19) hx hb dX11_shelfAt_7 (by decide) (fun c2 => absurd (show 6 ≤ n.toInt from (i_le (by decide) rfl).mp c2) (by omega)) (fun _ => ?_)
  refine lv_aload_n hx hb dX11_shelfAt_10 rfl (lv_at hl 0 rfl) ?_
  refine va_get (D := J.1) (ci := 11) (v := .ref (a 40)) (C := RX11) (T := TX11) (N := 13) hx hb hts inX11 hown hK.1 hP 0 rfl rfl 12 (by decide) (hts _ q_472) (fun _ h9 => h9) rfl dX11_shelfAt_11 ?_
  refine lv_iload_n hx hb dX11_shelfAt_14 rfl (lv_at hl 1 rfl) ?_
  have h3 : vp_in n 6 := (i_in (a := n.toInt) rfl (by omega) (by omega))
  refine va_aldq hx hb hK.1 hP 1 2 rfl rfl h3 dX11_shelfAt_15 ?_
  refine top_q (y := sh) hf ?_
  refine lv_goto (tgt := 20) hx hb dX11_shelfAt_16 (by decide) ?_
  exact rz_a (o := (some sh)) hx hb hr hlk (Or.inr ⟨_, rfl⟩) rfl dX11_shelfAt_20
theorem dX11_shelfAt_19 : decode cX11_shelfAt 19 = .ok (.aconst_null, 1) := by decide +kernel
set_option maxHeartbeats 4000000 in
set_option maxRecDepth 100000 in
theorem cF_shelfOut (l : Launch) (J : va_J9) (a : Nat → Nat) (n : Int32) (hd : ¬ (0 ≤ n.toInt ∧ n.toInt ≤ 5)) : RC l J yX11_shelfAt cX11_shelfAt 2 (some (.object "FoxHoles$Shelf")) ({ frames := 0, cells := 0, slots := 0, locals := 0 }) [.ref (a 0), .int n] [((a 0), .inr (11, [.ref (a 1), .ref (a 6), .ref (a 10), .ref (a 15), .ref (a 17), .ref (a 22), .ref (a 23), .ref (a 30), .ref (a 31), .ref (a 34), .int 0, .ref (a 37), .ref (a 40)]))] (va_Sq (fun r => r = none)) := by
  refine rc_of (by decide) (Nat.le_of_ble_eq_true rfl) ?_
  intro p e s m below meth c ls hE hl hP hK
  obtain ⟨hx, hb, hr, hml, hown, hts, hlk, hin⟩ := hE
  have hown : s.vm.findClass RX11 = some m.cls := hown
  have hl : lv_has ls 2 [(0, .ref (a 0)), (1, .int n)] := hl
  have rg_n := i_rng n
  refine lv_iload_n hx hb dX11_shelfAt_0 rfl (lv_at hl 1 rfl) ?_
  refine lv_if_lt (tgt := 19) hx hb dX11_shelfAt_1 (by decide) (fun c1 => ?_) (fun c1 => ?_)
  · have j2 : n.toInt < 0 := (i_lt rfl (by decide)).mp c1
    refine lv_null hx hb dX11_shelfAt_19 ?_
    exact rz_a (o := none) hx hb hr hlk (Or.inl rfl) rfl dX11_shelfAt_20
  · have j3 : ¬ (n.toInt < 0) := fun h => c1 ((i_lt rfl (by decide)).mpr h)
    refine lv_iload_n hx hb dX11_shelfAt_4 rfl (lv_at hl 1 rfl) ?_
    refine lv_bipush (v := 6) hx hb dX11_shelfAt_5 (by decide) ?_
    refine lv_icmp_ge (tgt := 19) hx hb dX11_shelfAt_7 (by decide) (fun _ => ?_) (fun c4 => absurd (show ¬ (6 ≤ n.toInt) from fun h => c4 ((i_le (by decide) rfl).mpr h)) (by omega))
    refine lv_null hx hb dX11_shelfAt_19 ?_
    exact rz_a (o := none) hx hb hr hlk (Or.inl rfl) rfl dX11_shelfAt_20
theorem dX11_areTwoShelves_0 : decode cX11_areTwoShelves 0 = .ok (.iload_n 0, 1) := by decide +kernel
theorem dX11_areTwoShelves_1 : decode cX11_areTwoShelves 1 = .ok (.ifCond .lt 25, 3) := by decide +kernel
theorem dX11_areTwoShelves_26 : decode cX11_areTwoShelves 26 = .ok (.iconst 0, 1) := by decide +kernel
theorem dX11_areTwoShelves_27 : decode cX11_areTwoShelves 27 = .ok (.ireturn, 1) := by decide +kernel
theorem dX11_areTwoShelves_4 : decode cX11_areTwoShelves 4 = .ok (.iload_n 0, 1) := by decide +kernel
theorem dX11_areTwoShelves_5 : decode cX11_areTwoShelves 5 = .ok (.bipush 10, 2) := by decide +kernel
theorem dX11_areTwoShelves_7 : decode cX11_areTwoShelves 7 = .ok (.idiv, 1) := by decide +kernel
theorem dX11_areTwoShelves_8 : decode cX11_areTwoShelves 8 = .ok (.bipush 6, 2) := by decide +kernel
theorem dX11_areTwoShelves_10 : decode cX11_areTwoShelves 10 = .ok (.if_icmp .ge 16, 3) := by decide +kernel
theorem dX11_areTwoShelves_13 : decode cX11_areTwoShelves 13 = .ok (.iload_n 0, 1) := by decide +kernel
theorem dX11_areTwoShelves_14 : decode cX11_areTwoShelves 14 = .ok (.bipush 10, 2) := by decide +kernel
theorem dX11_areTwoShelves_16 : decode cX11_areTwoShelves 16 = .ok (.irem, 1) := by decide +kernel
theorem dX11_areTwoShelves_17 : decode cX11_areTwoShelves 17 = .ok (.bipush 6, 2) := by decide +kernel
theorem dX11_areTwoShelves_19 : decode cX11_areTwoShelves 19 = .ok (.if_icmp .ge 7, 3) := by decide +kernel
theorem dX11_areTwoShelves_22 : decode cX11_areTwoShelves 22 = .ok (.iconst 1, 1) := by decide +kernel
theorem dX11_areTwoShelves_23 : decode cX11_areTwoShelves 23 = .ok (.goto 4, 3) := by decide +kernel
set_option maxHeartbeats 4000000 in
set_option maxRecDepth 100000 in
theorem cF_twoShelves (l : Launch) (J : va_J9) (x : Int32) : RC l J yX11_areTwoShelves cX11_areTwoShelves 1 (some .boolean) ({ frames := 0, cells := 0, slots := 0, locals := 0 }) [.int x] [] (vp_Si (fun r => r = B01 (0 ≤ x.toInt ∧ x.toInt / 10 ≤ 5 ∧ x.toInt % 10 ≤ 5))) := by
  refine rc_of (by decide) (Nat.le_of_ble_eq_true rfl) ?_
  intro p e s m below meth c ls hE hl hP hK
  obtain ⟨hx, hb, hr, hml, hown, hts, hlk, hin⟩ := hE
  have hown : s.vm.findClass RX11 = some m.cls := hown
  have hl : lv_has ls 1 [(0, .int x)] := hl
  have rg_x := i_rng x
  refine lv_iload_n hx hb dX11_areTwoShelves_0 rfl (lv_at hl 0 rfl) ?_
  refine lv_if_lt (tgt := 26) hx hb dX11_areTwoShelves_1 (by decide) (fun c1 => ?_) (fun c1 => ?_)
  · have j2 : x.toInt < 0 := (i_lt rfl (by decide)).mp c1
    refine lv_iconst (v := 0) hx hb dX11_areTwoShelves_26 (by decide) ?_
    exact rz_z hx hb hr hlk (by decide) (b_f (by omega)) dX11_areTwoShelves_27
  · have j3 : ¬ (x.toInt < 0) := fun h => c1 ((i_lt rfl (by decide)).mpr h)
    refine lv_iload_n hx hb dX11_areTwoShelves_4 rfl (lv_at hl 0 rfl) ?_
    refine lv_bipush (v := 10) hx hb dX11_areTwoShelves_5 (by decide) ?_
    refine lv_idiv hx hb dX11_areTwoShelves_7 (by decide) ?_
    have p4 : (x / 10).toInt = x.toInt / 10 := i_div rfl (by decide) (by omega) (by omega)
    refine lv_bipush (v := 6) hx hb dX11_areTwoShelves_8 (by decide) ?_
    refine lv_icmp_ge (tgt := 26) hx hb dX11_areTwoShelves_10 (by decide) (fun c5 => ?_) (fun c5 => ?_)
    · have j6 : 6 ≤ x.toInt / 10 := (i_le (by decide) p4).mp c5
      refine lv_iconst (v := 0) hx hb dX11_areTwoShelves_26 (by decide) ?_
      exact rz_z hx hb hr hlk (by decide) (b_f (by omega)) dX11_areTwoShelves_27
    · have j7 : ¬ (6 ≤ x.toInt / 10) := fun h => c5 ((i_le (by decide) p4).mpr h)
      refine lv_iload_n hx hb dX11_areTwoShelves_13 rfl (lv_at hl 0 rfl) ?_
      refine lv_bipush (v := 10) hx hb dX11_areTwoShelves_14 (by decide) ?_
      refine lv_irem hx hb dX11_areTwoShelves_16 (by decide) ?_
      have p8 : (x - x / 10 * 10).toInt = x.toInt % 10 := i_rem rfl (by decide) (by omega) (by omega)
      refine lv_bipush (v := 6) hx hb dX11_areTwoShelves_17 (by decide) ?_
      refine lv_icmp_ge (tgt := 26) hx hb dX11_areTwoShelves_19 (by decide) (fun c9 => ?_) (fun c9 => ?_)
      · have j10 : 6 ≤ x.toInt % 10 := (i_le (by decide) p8).mp c9
        refine lv_iconst (v := 0) hx hb dX11_areTwoShelves_26 (by decide) ?_
        exact rz_z hx hb hr hlk (by decide) (b_f (by omega)) dX11_areTwoShelves_27
      · have j11 : ¬ (6 ≤ x.toInt % 10) := fun h => c9 ((i_le (by decide) p8).mpr h)
        refine lv_iconst (v := 1) hx hb dX11_areTwoShelves_22 (by decide) ?_
        refine lv_goto (tgt := 27) hx hb dX11_areTwoShelves_23 (by decide) ?_
        exact rz_z hx hb hr hlk (by decide) (b_t (by omega)) dX11_areTwoShelves_27
theorem dX11_areTwoHoles_0 : decode cX11_areTwoHoles 0 = .ok (.iload_n 1, 1) := by decide +kernel
theorem dX11_areTwoHoles_1 : decode cX11_areTwoHoles 1 = .ok (.ifCond .lt 35, 3) := by decide +kernel
theorem dX11_areTwoHoles_36 : decode cX11_areTwoHoles 36 = .ok (.iconst 0, 1) := by decide +kernel
theorem dX11_areTwoHoles_37 : decode cX11_areTwoHoles 37 = .ok (.ireturn, 1) := by decide +kernel
theorem dX11_areTwoHoles_4 : decode cX11_areTwoHoles 4 = .ok (.aload_n 0, 1) := by decide +kernel
theorem q_461 : Cond.fieldLink RX11 21 RX11 "warren" "LFoxHoles$Warren;" ∈ lw_g := mem_q 461 (by decide +kernel) rfl
theorem dX11_areTwoHoles_5 : decode cX11_areTwoHoles 5 = .ok (.getfield 21, 3) := by decide +kernel
theorem dX11_areTwoHoles_8 : decode cX11_areTwoHoles 8 = .ok (.iload_n 1, 1) := by decide +kernel
theorem dX11_areTwoHoles_9 : decode cX11_areTwoHoles 9 = .ok (.bipush 10, 2) := by decide +kernel
theorem dX11_areTwoHoles_11 : decode cX11_areTwoHoles 11 = .ok (.idiv, 1) := by decide +kernel
theorem q_594 : Cond.methodLink RX11 143 yX10_isHole ∈ lw_g := mem_q 594 (by decide +kernel) rfl
theorem kV_RX11_143 : CV RX11 143 RX10 yX10_isHole cX10_isHole 2 (some .boolean) 1 := cv_of q_594 q_595 q_596 q_105 q_597 (by decide +kernel)
theorem dX11_areTwoHoles_12 : decode cX11_areTwoHoles 12 = .ok (.invokevirtual 143, 3) := by decide +kernel
theorem dX11_areTwoHoles_15 : decode cX11_areTwoHoles 15 = .ok (.ifCond .eq 21, 3) := by decide +kernel
set_option maxHeartbeats 4000000 in
set_option maxRecDepth 100000 in
theorem cF_twoHoles (l : Launch) (J : va_J9) (a : Nat → Nat) (x : Int32) : RC l J yX11_areTwoHoles cX11_areTwoHoles 2 (some .boolean) ({ frames := 1, cells := 0, slots := 0, locals := 21 }) [.ref (a 0), .int x] [((a 0), .inr (11, [.ref (a 1), .ref (a 6), .ref (a 10), .ref (a 15), .ref (a 17), .ref (a 22), .ref (a 23), .ref (a 30), .ref (a 31), .ref (a 34), .int 0, .ref (a 37), .ref (a 40)])), ((a 6), .inr (10, [.ref (a 1), .ref (a 7), .ref (a 8), .ref (a 9), .int 0, .int 0, .int 0, .int 0, .int 1, .int 0, .int 0]))] (vp_Si (fun r => r = 0)) := by
  refine rc_of (by decide) (Nat.le_of_ble_eq_true rfl) ?_
  intro p e s m below meth c ls hE hl hP hK
  obtain ⟨hx, hb, hr, hml, hown, hts, hlk, hin⟩ := hE
  have hown : s.vm.findClass RX11 = some m.cls := hown
  have hl : lv_has ls 2 [(0, .ref (a 0)), (1, .int x)] := hl
  have rg_x := i_rng x
  refine lv_iload_n hx hb dX11_areTwoHoles_0 rfl (lv_at hl 1 rfl) ?_
  refine lv_if_lt (tgt := 36) hx hb dX11_areTwoHoles_1 (by decide) (fun c1 => ?_) (fun c1 => ?_)
  · have j2 : x.toInt < 0 := (i_lt rfl (by decide)).mp c1
    refine lv_iconst (v := 0) hx hb dX11_areTwoHoles_36 (by decide) ?_
    exact rz_z hx hb hr hlk (by decide) (by decide) dX11_areTwoHoles_37
  · have j3 : ¬ (x.toInt < 0) := fun h => c1 ((i_lt rfl (by decide)).mpr h)
    refine lv_aload_n hx hb dX11_areTwoHoles_4 rfl (lv_at hl 0 rfl) ?_
    refine va_get (D := J.1) (ci := 11) (v := .ref (a 6)) (C := RX11) (T := TX11) (N := 13) hx hb hts inX11 hown hK.1 hP 0 rfl rfl 1 (by decide) (hts _ q_461) (fun _ h9 => h9) rfl dX11_areTwoHoles_5 ?_
    refine lv_iload_n hx hb dX11_areTwoHoles_8 rfl (lv_at hl 1 rfl) ?_
    refine lv_bipush (v := 10) hx hb dX11_areTwoHoles_9 (by decide) ?_
    refine lv_idiv hx hb dX11_areTwoHoles_11 (by decide) ?_
    have p4 : (x / 10).toInt = x.toInt / 10 := i_div rfl (by decide) (by omega) (by omega)
    refine go_i (rn_V (As := [.int (x / 10)]) (rest := []) hx hb hml hown hts hK (cW_isHole l J (a 6) (a 1) (a 7) (a 8) (a 9) (x / 10)) kV_RX11_143 (hP.sub (ws' := [((a 6), .inr (10, [.ref (a 1), .ref (a 7), .ref (a 8), .ref (a 9), .int 0, .int 0, .int 0, .int 0, .int 1, .int 0, .int 0]))]) [1] rfl) rfl rfl rfl ⟨Nat.le_of_ble_eq_true rfl, Nat.le_of_ble_eq_true rfl⟩ rfl rfl rfl hl.1 rfl (Nat.le_of_ble_eq_true rfl) ⟨Nat.le_of_ble_eq_true rfl, Nat.le_of_ble_eq_true rfl⟩ dX11_areTwoHoles_12) ?_
    refine lv_if_eq (tgt := 36) hx hb dX11_areTwoHoles_15 (by decide) (fun _ => ?_) (fun c => absurd c (by decide))
    refine lv_iconst (v := 0) hx hb dX11_areTwoHoles_36 (by decide) ?_
    exact rz_z hx hb hr hlk (by decide) (by decide) dX11_areTwoHoles_37
theorem dX11_refusalOf_0 : decode cX11_refusalOf 0 = .ok (.aload_n 0, 1) := by decide +kernel
theorem q_563 : Cond.methodLink RX11 110 yX9_isEmpty ∈ lw_g := mem_q 563 (by decide +kernel) rfl
theorem q_564 : Cond.instanceMethod yX9_isEmpty ∈ lw_g := mem_q 564 (by decide +kernel) rfl
theorem q_565 : Cond.selects RX9 yX9_isEmpty yX9_isEmpty ∈ lw_g := mem_q 565 (by decide +kernel) rfl
theorem q_114 : Cond.initialized RX9 ∈ lw_g := mem_q 114 (by decide +kernel) rfl
theorem q_566 : Cond.code yX9_isEmpty cX9_isEmpty 1 (some .boolean) ∈ lw_g := mem_q 566 (by decide +kernel) rfl
theorem kV_RX11_110 : CV RX11 110 RX9 yX9_isEmpty cX9_isEmpty 1 (some .boolean) 0 := cv_of q_563 q_564 q_565 q_114 q_566 (by decide +kernel)
theorem dX11_refusalOf_1 : decode cX11_refusalOf 1 = .ok (.invokevirtual 110, 3) := by decide +kernel
theorem dX11_refusalOf_4 : decode cX11_refusalOf 4 = .ok (.ifCond .eq 6, 3) := by decide +kernel
theorem dX11_refusalOf_7 : decode cX11_refusalOf 7 = .ok (.bipush (-11), 2) := by decide +kernel
theorem dX11_refusalOf_9 : decode cX11_refusalOf 9 = .ok (.ireturn, 1) := by decide +kernel
set_option maxHeartbeats 4000000 in
set_option maxRecDepth 100000 in
theorem cF_refusal (l : Launch) (J : va_J9) (sh : Nat) (ce : Nat) : RC l J yX11_refusalOf cX11_refusalOf 1 (some .int) ({ frames := 1, cells := 0, slots := 0, locals := 20 }) [.ref sh] [(sh, .inr (9, [.ref ce, .int 0, .int 0, .int 0, .int 0]))] (vp_Si (fun r => r = (-11))) := by
  refine rc_of (by decide) (Nat.le_of_ble_eq_true rfl) ?_
  intro p e s m below meth c ls hE hl hP hK
  obtain ⟨hx, hb, hr, hml, hown, hts, hlk, hin⟩ := hE
  have hown : s.vm.findClass RX11 = some m.cls := hown
  have hl : lv_has ls 1 [(0, .ref sh)] := hl
  refine lv_aload_n hx hb dX11_refusalOf_0 rfl (lv_at hl 0 rfl) ?_
  refine go_i (rn_V (As := []) (rest := []) hx hb hml hown hts hK (cS_isEmpty l J sh ce) kV_RX11_110 hP rfl rfl rfl ⟨Nat.le_of_ble_eq_true rfl, Nat.le_of_ble_eq_true rfl⟩ rfl rfl rfl hl.1 rfl (Nat.le_of_ble_eq_true rfl) ⟨Nat.le_of_ble_eq_true rfl, Nat.le_of_ble_eq_true rfl⟩ dX11_refusalOf_1) ?_
  refine lv_if_eq (tgt := 10) hx hb dX11_refusalOf_4 (by decide) (fun c => absurd c (by decide)) (fun _ => ?_)
  refine lv_bipush (v := (-11)) hx hb dX11_refusalOf_7 (by decide) ?_
  exact rz_i hx hb hr hlk (by decide) dX11_refusalOf_9
theorem dX11_refusalOfBoth_0 : decode cX11_refusalOfBoth 0 = .ok (.aload_n 0, 1) := by decide +kernel
theorem dX11_refusalOfBoth_1 : decode cX11_refusalOfBoth 1 = .ok (.invokevirtual 110, 3) := by decide +kernel
theorem dX11_refusalOfBoth_4 : decode cX11_refusalOfBoth 4 = .ok (.ifCond .ne 10, 3) := by decide +kernel
theorem dX11_refusalOfBoth_14 : decode cX11_refusalOfBoth 14 = .ok (.bipush (-11), 2) := by decide +kernel
theorem dX11_refusalOfBoth_16 : decode cX11_refusalOfBoth 16 = .ok (.ireturn, 1) := by decide +kernel
set_option maxHeartbeats 4000000 in
set_option maxRecDepth 100000 in
theorem cF_both (l : Launch) (J : va_J9) (sh : Nat) (ce : Nat) (o : Nat) (x : Int32) : RC l J yX11_refusalOfBoth cX11_refusalOfBoth 3 (some .int) ({ frames := 1, cells := 0, slots := 0, locals := 20 }) [.ref sh, .ref o, .int x] [(sh, .inr (9, [.ref ce, .int 0, .int 0, .int 0, .int 0]))] (vp_Si (fun r => r = (-11))) := by
  refine rc_of (by decide) (Nat.le_of_ble_eq_true rfl) ?_
  intro p e s m below meth c ls hE hl hP hK
  obtain ⟨hx, hb, hr, hml, hown, hts, hlk, hin⟩ := hE
  have hown : s.vm.findClass RX11 = some m.cls := hown
  have hl : lv_has ls 3 [(0, .ref sh), (1, .ref o), (2, .int x)] := hl
  have rg_x := i_rng x
  refine lv_aload_n hx hb dX11_refusalOfBoth_0 rfl (lv_at hl 0 rfl) ?_
  refine go_i (rn_V (As := []) (rest := []) hx hb hml hown hts hK (cS_isEmpty l J sh ce) kV_RX11_110 hP rfl rfl rfl ⟨Nat.le_of_ble_eq_true rfl, Nat.le_of_ble_eq_true rfl⟩ rfl rfl rfl hl.1 rfl (Nat.le_of_ble_eq_true rfl) ⟨Nat.le_of_ble_eq_true rfl, Nat.le_of_ble_eq_true rfl⟩ dX11_refusalOfBoth_1) ?_
  refine lv_if_ne (tgt := 14) hx hb dX11_refusalOfBoth_4 (by decide) (fun _ => ?_) (fun c => absurd c (by decide))
  refine lv_bipush (v := (-11)) hx hb dX11_refusalOfBoth_14 (by decide) ?_
  exact rz_i hx hb hr hlk (by decide) dX11_refusalOfBoth_16
theorem dX11_refusalOfPlace_0 : decode cX11_refusalOfPlace 0 = .ok (.aload_n 0, 1) := by decide +kernel
theorem dX11_refusalOfPlace_1 : decode cX11_refusalOfPlace 1 = .ok (.invokevirtual 110, 3) := by decide +kernel
theorem dX11_refusalOfPlace_4 : decode cX11_refusalOfPlace 4 = .ok (.ifCond .eq 6, 3) := by decide +kernel
theorem dX11_refusalOfPlace_7 : decode cX11_refusalOfPlace 7 = .ok (.bipush (-11), 2) := by decide +kernel
theorem dX11_refusalOfPlace_9 : decode cX11_refusalOfPlace 9 = .ok (.ireturn, 1) := by decide +kernel
set_option maxHeartbeats 4000000 in
set_option maxRecDepth 100000 in
theorem cF_place (l : Launch) (J : va_J9) (sh : Nat) (ce : Nat) (x : Int32) : RC l J yX11_refusalOfPlace cX11_refusalOfPlace 2 (some .int) ({ frames := 1, cells := 0, slots := 0, locals := 20 }) [.ref sh, .int x] [(sh, .inr (9, [.ref ce, .int 0, .int 0, .int 0, .int 0]))] (vp_Si (fun r => r = (-11))) := by
  refine rc_of (by decide) (Nat.le_of_ble_eq_true rfl) ?_
  intro p e s m below meth c ls hE hl hP hK
  obtain ⟨hx, hb, hr, hml, hown, hts, hlk, hin⟩ := hE
  have hown : s.vm.findClass RX11 = some m.cls := hown
  have hl : lv_has ls 2 [(0, .ref sh), (1, .int x)] := hl
  have rg_x := i_rng x
  refine lv_aload_n hx hb dX11_refusalOfPlace_0 rfl (lv_at hl 0 rfl) ?_
  refine go_i (rn_V (As := []) (rest := []) hx hb hml hown hts hK (cS_isEmpty l J sh ce) kV_RX11_110 hP rfl rfl rfl ⟨Nat.le_of_ble_eq_true rfl, Nat.le_of_ble_eq_true rfl⟩ rfl rfl rfl hl.1 rfl (Nat.le_of_ble_eq_true rfl) ⟨Nat.le_of_ble_eq_true rfl, Nat.le_of_ble_eq_true rfl⟩ dX11_refusalOfPlace_1) ?_
  refine lv_if_eq (tgt := 10) hx hb dX11_refusalOfPlace_4 (by decide) (fun c => absurd c (by decide)) (fun _ => ?_)
  refine lv_bipush (v := (-11)) hx hb dX11_refusalOfPlace_7 (by decide) ?_
  exact rz_i hx hb hr hlk (by decide) dX11_refusalOfPlace_9
theorem dX11_refusalOfPrints_0 : decode cX11_refusalOfPrints 0 = .ok (.iload_n 1, 1) := by decide +kernel
theorem q_790 : Cond.methodLink RX11 213 yX11_areTwoShelves ∈ lw_g := mem_q 790 (by decide +kernel) rfl
theorem q_791 : Cond.static yX11_areTwoShelves ∈ lw_g := mem_q 791 (by decide +kernel) rfl
theorem q_103 : Cond.initialized RX11 ∈ lw_g := mem_q 103 (by decide +kernel) rfl
theorem q_792 : Cond.code yX11_areTwoShelves cX11_areTwoShelves 1 (some .boolean) ∈ lw_g := mem_q 792 (by decide +kernel) rfl
theorem kS_RX11_213 : CS RX11 213 yX11_areTwoShelves cX11_areTwoShelves 1 (some .boolean) 1 := cs_of q_790 q_791 q_103 q_792 (by decide +kernel)
theorem dX11_refusalOfPrints_1 : decode cX11_refusalOfPrints 1 = .ok (.invokestatic 213, 3) := by decide +kernel
theorem dX11_refusalOfPrints_4 : decode cX11_refusalOfPrints 4 = .ok (.ifCond .eq 8, 3) := by decide +kernel
theorem dX11_refusalOfPrints_7 : decode cX11_refusalOfPrints 7 = .ok (.iload_n 2, 1) := by decide +kernel
theorem dX11_refusalOfPrints_8 : decode cX11_refusalOfPrints 8 = .ok (.iload_n 3, 1) := by decide +kernel
theorem dX11_refusalOfPrints_9 : decode cX11_refusalOfPrints 9 = .ok (.if_icmp .ge 5, 3) := by decide +kernel
theorem dX11_refusalOfPrints_14 : decode cX11_refusalOfPrints 14 = .ok (.aload_n 0, 1) := by decide +kernel
theorem dX11_refusalOfPrints_15 : decode cX11_refusalOfPrints 15 = .ok (.getfield 90, 3) := by decide +kernel
theorem dX11_refusalOfPrints_18 : decode cX11_refusalOfPrints 18 = .ok (.iload_n 1, 1) := by decide +kernel
theorem dX11_refusalOfPrints_19 : decode cX11_refusalOfPrints 19 = .ok (.bipush 10, 2) := by decide +kernel
theorem dX11_refusalOfPrints_21 : decode cX11_refusalOfPrints 21 = .ok (.idiv, 1) := by decide +kernel
theorem dX11_refusalOfPrints_22 : decode cX11_refusalOfPrints 22 = .ok (.aaload, 1) := by decide +kernel
theorem dX11_refusalOfPrints_23 : decode cX11_refusalOfPrints 23 = .ok (.astore 4, 2) := by decide +kernel
theorem dX11_refusalOfPrints_25 : decode cX11_refusalOfPrints 25 = .ok (.aload 4, 2) := by decide +kernel
theorem dX11_refusalOfPrints_27 : decode cX11_refusalOfPrints 27 = .ok (.aload_n 0, 1) := by decide +kernel
theorem dX11_refusalOfPrints_28 : decode cX11_refusalOfPrints 28 = .ok (.getfield 90, 3) := by decide +kernel
theorem dX11_refusalOfPrints_31 : decode cX11_refusalOfPrints 31 = .ok (.iload_n 1, 1) := by decide +kernel
theorem dX11_refusalOfPrints_32 : decode cX11_refusalOfPrints 32 = .ok (.bipush 10, 2) := by decide +kernel
theorem dX11_refusalOfPrints_34 : decode cX11_refusalOfPrints 34 = .ok (.irem, 1) := by decide +kernel
theorem dX11_refusalOfPrints_35 : decode cX11_refusalOfPrints 35 = .ok (.aaload, 1) := by decide +kernel
theorem dX11_refusalOfPrints_36 : decode cX11_refusalOfPrints 36 = .ok (.iconst 1, 1) := by decide +kernel
theorem q_793 : Cond.methodLink RX11 216 yX11_refusalOfBoth ∈ lw_g := mem_q 793 (by decide +kernel) rfl
theorem q_794 : Cond.static yX11_refusalOfBoth ∈ lw_g := mem_q 794 (by decide +kernel) rfl
theorem q_795 : Cond.code yX11_refusalOfBoth cX11_refusalOfBoth 3 (some .int) ∈ lw_g := mem_q 795 (by decide +kernel) rfl
theorem kS_RX11_216 : CS RX11 216 yX11_refusalOfBoth cX11_refusalOfBoth 3 (some .int) 3 := cs_of q_793 q_794 q_103 q_795 (by decide +kernel)
theorem dX11_refusalOfPrints_37 : decode cX11_refusalOfPrints 37 = .ok (.invokestatic 216, 3) := by decide +kernel
theorem dX11_refusalOfPrints_40 : decode cX11_refusalOfPrints 40 = .ok (.istore 5, 2) := by decide +kernel
theorem dX11_refusalOfPrints_42 : decode cX11_refusalOfPrints 42 = .ok (.iload 5, 2) := by decide +kernel
theorem dX11_refusalOfPrints_44 : decode cX11_refusalOfPrints 44 = .ok (.ifCond .eq 6, 3) := by decide +kernel
theorem dX11_refusalOfPrints_47 : decode cX11_refusalOfPrints 47 = .ok (.iload 5, 2) := by decide +kernel
theorem dX11_refusalOfPrints_49 : decode cX11_refusalOfPrints 49 = .ok (.ireturn, 1) := by decide +kernel
theorem dX11_refusalOfPrints_12 : decode cX11_refusalOfPrints 12 = .ok (.iconst (-1), 1) := by decide +kernel
theorem dX11_refusalOfPrints_13 : decode cX11_refusalOfPrints 13 = .ok (.ireturn, 1) := by decide +kernel
set_option maxHeartbeats 4000000 in
set_option maxRecDepth 100000 in
theorem cF_prints0In (l : Launch) (J : va_J9) (a : Nat → Nat) (f : Nat → Option Nat) (sh : Nat) (ce : Nat) (s2 : Nat) (x : Int32) (k : Int32) (hd : 0 ≤ x.toInt ∧ x.toInt / 10 ≤ 5 ∧ x.toInt % 10 ≤ 5) (hf : f (x / 10).toNatClampNeg = some sh) (hg : f (x - x / 10 * 10).toNatClampNeg = some s2) : RC l J yX11_refusalOfPrints cX11_refusalOfPrints 6 (some .int) ({ frames := 2, cells := 0, slots := 0, locals := 42 }) [.ref (a 0), .int x, .int k, .int 0] [((a 0), .inr (11, [.ref (a 1), .ref (a 6), .ref (a 10), .ref (a 15), .ref (a 17), .ref (a 22), .ref (a 23), .ref (a 30), .ref (a 31), .ref (a 34), .int 0, .ref (a 37), .ref (a 40)])), ((a 40), .inl (J.2.2.2, 6, .inr (.inr (.inr (.inr f))))), (sh, .inr (9, [.ref ce, .int 0, .int 0, .int 0, .int 0]))] (vp_Si (fun r => r = sp_two (x.toInt) (k.toInt) (0))) := by
  refine rc_of (by decide) (Nat.le_of_ble_eq_true rfl) ?_
  intro p e s m below meth c ls hE hl hP hK
  obtain ⟨hx, hb, hr, hml, hown, hts, hlk, hin⟩ := hE
  have hown : s.vm.findClass RX11 = some m.cls := hown
  have hl : lv_has ls 6 [(0, .ref (a 0)), (1, .int x), (2, .int k), (3, .int 0)] := hl
  have rg_x := i_rng x
  have rg_k := i_rng k
  refine lv_iload_n hx hb dX11_refusalOfPrints_0 rfl (lv_at hl 1 rfl) ?_
  refine go_i (rn_S (As := [.int x]) (rest := []) hx hb hml hown hts hK (cF_twoShelves l J x) kS_RX11_213 (hP.sub (ws' := []) [] rfl) ⟨Nat.le_of_ble_eq_true rfl, Nat.le_of_ble_eq_true rfl⟩ rfl rfl rfl hl.1 rfl (Nat.le_of_ble_eq_true rfl) ⟨Nat.le_of_ble_eq_true rfl, Nat.le_of_ble_eq_true rfl⟩ dX11_refusalOfPrints_1) ?_
  refine lv_if_eq (tgt := 12) hx hb dX11_refusalOfPrints_4 (by decide) (fun c1 => (b0 c1 (by omega)).elim) (fun _ => ?_)
  refine lv_iload_n hx hb dX11_refusalOfPrints_7 rfl (lv_at hl 2 rfl) ?_
  refine lv_iload_n hx hb dX11_refusalOfPrints_8 rfl (lv_at hl 3 rfl) ?_
  refine lv_icmp_ge (tgt := 14) hx hb dX11_refusalOfPrints_9 (by decide) (fun c2 => ?_) (fun c2 => ?_)
  · have j3 : 0 ≤ k.toInt := (i_le (by decide) rfl).mp c2
    refine lv_aload_n hx hb dX11_refusalOfPrints_14 rfl (lv_at hl 0 rfl) ?_
    refine va_get (D := J.1) (ci := 11) (v := .ref (a 40)) (C := RX11) (T := TX11) (N := 13) hx hb hts inX11 hown hK.1 hP 0 rfl rfl 12 (by decide) (hts _ q_472) (fun _ h9 => h9) rfl dX11_refusalOfPrints_15 ?_
    refine lv_iload_n hx hb dX11_refusalOfPrints_18 rfl (lv_at hl 1 rfl) ?_
    refine lv_bipush (v := 10) hx hb dX11_refusalOfPrints_19 (by decide) ?_
    refine lv_idiv hx hb dX11_refusalOfPrints_21 (by decide) ?_
    have p4 : (x / 10).toInt = x.toInt / 10 := i_div rfl (by decide) (by omega) (by omega)
    have h5 : vp_in (x / 10) 6 := (i_in (a := x.toInt / 10) p4 (by omega) (by omega))
    refine va_aldq hx hb hK.1 hP 1 2 rfl rfl h5 dX11_refusalOfPrints_22 ?_
    refine top_q (y := sh) hf ?_
    refine lv_astore (lv' := [(4, .ref sh), (0, .ref (a 0)), (1, .int x), (2, .int k), (3, .int 0)]) hx hb dX11_refusalOfPrints_23 hl (by decide) rfl (fun ls hl => ?_)
    refine lv_aload hx hb dX11_refusalOfPrints_25 (lv_at hl 0 rfl) ?_
    refine lv_aload_n hx hb dX11_refusalOfPrints_27 rfl (lv_at hl 1 rfl) ?_
    refine va_get (D := J.1) (ci := 11) (v := .ref (a 40)) (C := RX11) (T := TX11) (N := 13) hx hb hts inX11 hown hK.1 hP 0 rfl rfl 12 (by decide) (hts _ q_472) (fun _ h9 => h9) rfl dX11_refusalOfPrints_28 ?_
    refine lv_iload_n hx hb dX11_refusalOfPrints_31 rfl (lv_at hl 2 rfl) ?_
    refine lv_bipush (v := 10) hx hb dX11_refusalOfPrints_32 (by decide) ?_
    refine lv_irem hx hb dX11_refusalOfPrints_34 (by decide) ?_
    have p6 : (x - x / 10 * 10).toInt = x.toInt % 10 := i_rem rfl (by decide) (by omega) (by omega)
    have h7 : vp_in (x - x / 10 * 10) 6 := (i_in (a := x.toInt % 10) p6 (by omega) (by omega))
    refine va_aldq hx hb hK.1 hP 1 2 rfl rfl h7 dX11_refusalOfPrints_35 ?_
    refine top_q (y := s2) hg ?_
    refine lv_iconst (v := 1) hx hb dX11_refusalOfPrints_36 (by decide) ?_
    refine go_i (rn_S (As := [.ref sh, .ref s2, .int 1]) (rest := []) hx hb hml hown hts hK (cF_both l J sh ce s2 1) kS_RX11_216 (hP.sub (ws' := [(sh, .inr (9, [.ref ce, .int 0, .int 0, .int 0, .int 0]))]) [2] rfl) ⟨Nat.le_of_ble_eq_true rfl, Nat.le_of_ble_eq_true rfl⟩ rfl rfl rfl hl.1 rfl (Nat.le_of_ble_eq_true rfl) ⟨Nat.le_of_ble_eq_true rfl, Nat.le_of_ble_eq_true rfl⟩ dX11_refusalOfPrints_37) ?_
    refine lv_istore (lv' := [(5, .int (-11)), (4, .ref sh), (0, .ref (a 0)), (1, .int x), (2, .int k), (3, .int 0)]) hx hb dX11_refusalOfPrints_40 hl (by decide) rfl (fun ls hl => ?_)
    refine lv_iload hx hb dX11_refusalOfPrints_42 (lv_at hl 0 rfl) ?_
    refine lv_if_eq (tgt := 50) hx hb dX11_refusalOfPrints_44 (by decide) (fun c => absurd c (by decide)) (fun _ => ?_)
    refine lv_iload hx hb dX11_refusalOfPrints_47 (lv_at hl 0 rfl) ?_
    exact rz_i hx hb hr hlk (by unfold sp_two; (repeat' split) <;> first | rfl | (exfalso; omega)) dX11_refusalOfPrints_49
  · have j8 : ¬ (0 ≤ k.toInt) := fun h => c2 ((i_le (by decide) rfl).mpr h)
    refine lv_iconst (v := (-1)) hx hb dX11_refusalOfPrints_12 (by decide) ?_
    exact rz_i hx hb hr hlk (by unfold sp_two; (repeat' split) <;> first | rfl | (exfalso; omega)) dX11_refusalOfPrints_13
set_option maxHeartbeats 4000000 in
set_option maxRecDepth 100000 in
theorem cF_prints0Out (l : Launch) (J : va_J9) (a : Nat → Nat) (x : Int32) (k : Int32) (hd : ¬ (0 ≤ x.toInt ∧ x.toInt / 10 ≤ 5 ∧ x.toInt % 10 ≤ 5)) : RC l J yX11_refusalOfPrints cX11_refusalOfPrints 6 (some .int) ({ frames := 1, cells := 0, slots := 0, locals := 20 }) [.ref (a 0), .int x, .int k, .int 0] [((a 0), .inr (11, [.ref (a 1), .ref (a 6), .ref (a 10), .ref (a 15), .ref (a 17), .ref (a 22), .ref (a 23), .ref (a 30), .ref (a 31), .ref (a 34), .int 0, .ref (a 37), .ref (a 40)]))] (vp_Si (fun r => r = sp_two (x.toInt) (k.toInt) (0))) := by
  refine rc_of (by decide) (Nat.le_of_ble_eq_true rfl) ?_
  intro p e s m below meth c ls hE hl hP hK
  obtain ⟨hx, hb, hr, hml, hown, hts, hlk, hin⟩ := hE
  have hown : s.vm.findClass RX11 = some m.cls := hown
  have hl : lv_has ls 6 [(0, .ref (a 0)), (1, .int x), (2, .int k), (3, .int 0)] := hl
  have rg_x := i_rng x
  have rg_k := i_rng k
  refine lv_iload_n hx hb dX11_refusalOfPrints_0 rfl (lv_at hl 1 rfl) ?_
  refine go_i (rn_S (As := [.int x]) (rest := []) hx hb hml hown hts hK (cF_twoShelves l J x) kS_RX11_213 (hP.sub (ws' := []) [] rfl) ⟨Nat.le_of_ble_eq_true rfl, Nat.le_of_ble_eq_true rfl⟩ rfl rfl rfl hl.1 rfl (Nat.le_of_ble_eq_true rfl) ⟨Nat.le_of_ble_eq_true rfl, Nat.le_of_ble_eq_true rfl⟩ dX11_refusalOfPrints_1) ?_
  refine lv_if_eq (tgt := 12) hx hb dX11_refusalOfPrints_4 (by decide) (fun _ => ?_) (fun c1 => absurd (b1 c1) (by omega))
  refine lv_iconst (v := (-1)) hx hb dX11_refusalOfPrints_12 (by decide) ?_
  exact rz_i hx hb hr hlk (by unfold sp_two; (repeat' split) <;> first | rfl | (exfalso; omega)) dX11_refusalOfPrints_13
set_option maxHeartbeats 4000000 in
set_option maxRecDepth 100000 in
theorem cF_prints1In (l : Launch) (J : va_J9) (a : Nat → Nat) (f : Nat → Option Nat) (sh : Nat) (ce : Nat) (s2 : Nat) (x : Int32) (k : Int32) (hd : 0 ≤ x.toInt ∧ x.toInt / 10 ≤ 5 ∧ x.toInt % 10 ≤ 5) (hf : f (x / 10).toNatClampNeg = some sh) (hg : f (x - x / 10 * 10).toNatClampNeg = some s2) : RC l J yX11_refusalOfPrints cX11_refusalOfPrints 6 (some .int) ({ frames := 2, cells := 0, slots := 0, locals := 42 }) [.ref (a 0), .int x, .int k, .int 1] [((a 0), .inr (11, [.ref (a 1), .ref (a 6), .ref (a 10), .ref (a 15), .ref (a 17), .ref (a 22), .ref (a 23), .ref (a 30), .ref (a 31), .ref (a 34), .int 0, .ref (a 37), .ref (a 40)])), ((a 40), .inl (J.2.2.2, 6, .inr (.inr (.inr (.inr f))))), (sh, .inr (9, [.ref ce, .int 0, .int 0, .int 0, .int 0]))] (vp_Si (fun r => r = sp_two (x.toInt) (k.toInt) (1))) := by
  refine rc_of (by decide) (Nat.le_of_ble_eq_true rfl) ?_
  intro p e s m below meth c ls hE hl hP hK
  obtain ⟨hx, hb, hr, hml, hown, hts, hlk, hin⟩ := hE
  have hown : s.vm.findClass RX11 = some m.cls := hown
  have hl : lv_has ls 6 [(0, .ref (a 0)), (1, .int x), (2, .int k), (3, .int 1)] := hl
  have rg_x := i_rng x
  have rg_k := i_rng k
  refine lv_iload_n hx hb dX11_refusalOfPrints_0 rfl (lv_at hl 1 rfl) ?_
  refine go_i (rn_S (As := [.int x]) (rest := []) hx hb hml hown hts hK (cF_twoShelves l J x) kS_RX11_213 (hP.sub (ws' := []) [] rfl) ⟨Nat.le_of_ble_eq_true rfl, Nat.le_of_ble_eq_true rfl⟩ rfl rfl rfl hl.1 rfl (Nat.le_of_ble_eq_true rfl) ⟨Nat.le_of_ble_eq_true rfl, Nat.le_of_ble_eq_true rfl⟩ dX11_refusalOfPrints_1) ?_
  refine lv_if_eq (tgt := 12) hx hb dX11_refusalOfPrints_4 (by decide) (fun c1 => (b0 c1 (by omega)).elim) (fun _ => ?_)
  refine lv_iload_n hx hb dX11_refusalOfPrints_7 rfl (lv_at hl 2 rfl) ?_
  refine lv_iload_n hx hb dX11_refusalOfPrints_8 rfl (lv_at hl 3 rfl) ?_
  refine lv_icmp_ge (tgt := 14) hx hb dX11_refusalOfPrints_9 (by decide) (fun c2 => ?_) (fun c2 => ?_)
  · have j3 : 1 ≤ k.toInt := (i_le (by decide) rfl).mp c2
    refine lv_aload_n hx hb dX11_refusalOfPrints_14 rfl (lv_at hl 0 rfl) ?_
    refine va_get (D := J.1) (ci := 11) (v := .ref (a 40)) (C := RX11) (T := TX11) (N := 13) hx hb hts inX11 hown hK.1 hP 0 rfl rfl 12 (by decide) (hts _ q_472) (fun _ h9 => h9) rfl dX11_refusalOfPrints_15 ?_
    refine lv_iload_n hx hb dX11_refusalOfPrints_18 rfl (lv_at hl 1 rfl) ?_
    refine lv_bipush (v := 10) hx hb dX11_refusalOfPrints_19 (by decide) ?_
    refine lv_idiv hx hb dX11_refusalOfPrints_21 (by decide) ?_
    have p4 : (x / 10).toInt = x.toInt / 10 := i_div rfl (by decide) (by omega) (by omega)
    have h5 : vp_in (x / 10) 6 := (i_in (a := x.toInt / 10) p4 (by omega) (by omega))
    refine va_aldq hx hb hK.1 hP 1 2 rfl rfl h5 dX11_refusalOfPrints_22 ?_
    refine top_q (y := sh) hf ?_
    refine lv_astore (lv' := [(4, .ref sh), (0, .ref (a 0)), (1, .int x), (2, .int k), (3, .int 1)]) hx hb dX11_refusalOfPrints_23 hl (by decide) rfl (fun ls hl => ?_)
    refine lv_aload hx hb dX11_refusalOfPrints_25 (lv_at hl 0 rfl) ?_
    refine lv_aload_n hx hb dX11_refusalOfPrints_27 rfl (lv_at hl 1 rfl) ?_
    refine va_get (D := J.1) (ci := 11) (v := .ref (a 40)) (C := RX11) (T := TX11) (N := 13) hx hb hts inX11 hown hK.1 hP 0 rfl rfl 12 (by decide) (hts _ q_472) (fun _ h9 => h9) rfl dX11_refusalOfPrints_28 ?_
    refine lv_iload_n hx hb dX11_refusalOfPrints_31 rfl (lv_at hl 2 rfl) ?_
    refine lv_bipush (v := 10) hx hb dX11_refusalOfPrints_32 (by decide) ?_
    refine lv_irem hx hb dX11_refusalOfPrints_34 (by decide) ?_
    have p6 : (x - x / 10 * 10).toInt = x.toInt % 10 := i_rem rfl (by decide) (by omega) (by omega)
    have h7 : vp_in (x - x / 10 * 10) 6 := (i_in (a := x.toInt % 10) p6 (by omega) (by omega))
    refine va_aldq hx hb hK.1 hP 1 2 rfl rfl h7 dX11_refusalOfPrints_35 ?_
    refine top_q (y := s2) hg ?_
    refine lv_iconst (v := 1) hx hb dX11_refusalOfPrints_36 (by decide) ?_
    refine go_i (rn_S (As := [.ref sh, .ref s2, .int 1]) (rest := []) hx hb hml hown hts hK (cF_both l J sh ce s2 1) kS_RX11_216 (hP.sub (ws' := [(sh, .inr (9, [.ref ce, .int 0, .int 0, .int 0, .int 0]))]) [2] rfl) ⟨Nat.le_of_ble_eq_true rfl, Nat.le_of_ble_eq_true rfl⟩ rfl rfl rfl hl.1 rfl (Nat.le_of_ble_eq_true rfl) ⟨Nat.le_of_ble_eq_true rfl, Nat.le_of_ble_eq_true rfl⟩ dX11_refusalOfPrints_37) ?_
    refine lv_istore (lv' := [(5, .int (-11)), (4, .ref sh), (0, .ref (a 0)), (1, .int x), (2, .int k), (3, .int 1)]) hx hb dX11_refusalOfPrints_40 hl (by decide) rfl (fun ls hl => ?_)
    refine lv_iload hx hb dX11_refusalOfPrints_42 (lv_at hl 0 rfl) ?_
    refine lv_if_eq (tgt := 50) hx hb dX11_refusalOfPrints_44 (by decide) (fun c => absurd c (by decide)) (fun _ => ?_)
    refine lv_iload hx hb dX11_refusalOfPrints_47 (lv_at hl 0 rfl) ?_
    exact rz_i hx hb hr hlk (by unfold sp_two; (repeat' split) <;> first | rfl | (exfalso; omega)) dX11_refusalOfPrints_49
  · have j8 : ¬ (1 ≤ k.toInt) := fun h => c2 ((i_le (by decide) rfl).mpr h)
    refine lv_iconst (v := (-1)) hx hb dX11_refusalOfPrints_12 (by decide) ?_
    exact rz_i hx hb hr hlk (by unfold sp_two; (repeat' split) <;> first | rfl | (exfalso; omega)) dX11_refusalOfPrints_13
set_option maxHeartbeats 4000000 in
set_option maxRecDepth 100000 in
theorem cF_prints1Out (l : Launch) (J : va_J9) (a : Nat → Nat) (x : Int32) (k : Int32) (hd : ¬ (0 ≤ x.toInt ∧ x.toInt / 10 ≤ 5 ∧ x.toInt % 10 ≤ 5)) : RC l J yX11_refusalOfPrints cX11_refusalOfPrints 6 (some .int) ({ frames := 1, cells := 0, slots := 0, locals := 20 }) [.ref (a 0), .int x, .int k, .int 1] [((a 0), .inr (11, [.ref (a 1), .ref (a 6), .ref (a 10), .ref (a 15), .ref (a 17), .ref (a 22), .ref (a 23), .ref (a 30), .ref (a 31), .ref (a 34), .int 0, .ref (a 37), .ref (a 40)]))] (vp_Si (fun r => r = sp_two (x.toInt) (k.toInt) (1))) := by
  refine rc_of (by decide) (Nat.le_of_ble_eq_true rfl) ?_
  intro p e s m below meth c ls hE hl hP hK
  obtain ⟨hx, hb, hr, hml, hown, hts, hlk, hin⟩ := hE
  have hown : s.vm.findClass RX11 = some m.cls := hown
  have hl : lv_has ls 6 [(0, .ref (a 0)), (1, .int x), (2, .int k), (3, .int 1)] := hl
  have rg_x := i_rng x
  have rg_k := i_rng k
  refine lv_iload_n hx hb dX11_refusalOfPrints_0 rfl (lv_at hl 1 rfl) ?_
  refine go_i (rn_S (As := [.int x]) (rest := []) hx hb hml hown hts hK (cF_twoShelves l J x) kS_RX11_213 (hP.sub (ws' := []) [] rfl) ⟨Nat.le_of_ble_eq_true rfl, Nat.le_of_ble_eq_true rfl⟩ rfl rfl rfl hl.1 rfl (Nat.le_of_ble_eq_true rfl) ⟨Nat.le_of_ble_eq_true rfl, Nat.le_of_ble_eq_true rfl⟩ dX11_refusalOfPrints_1) ?_
  refine lv_if_eq (tgt := 12) hx hb dX11_refusalOfPrints_4 (by decide) (fun _ => ?_) (fun c1 => absurd (b1 c1) (by omega))
  refine lv_iconst (v := (-1)) hx hb dX11_refusalOfPrints_12 (by decide) ?_
  exact rz_i hx hb hr hlk (by unfold sp_two; (repeat' split) <;> first | rfl | (exfalso; omega)) dX11_refusalOfPrints_13
