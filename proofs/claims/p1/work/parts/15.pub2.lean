theorem dX11_likely_0 : decode cX11_likely 0 = .ok (.iload_n 2, 1) := by decide +kernel
theorem dX11_likely_1 : decode cX11_likely 1 = .ok (.ifCond .lt 30, 3) := by decide +kernel
theorem q_960 : Cond.constantLong RX11 257 (-9223372036854775808) ∈ lw_g := mem_q 960 (by decide +kernel) rfl
theorem dX11_likely_31 : decode cX11_likely 31 = .ok (.ldc2_w 257, 3) := by decide +kernel
theorem dX11_likely_34 : decode cX11_likely 34 = .ok (.lreturn, 1) := by decide +kernel
theorem dX11_likely_4 : decode cX11_likely 4 = .ok (.aload_n 0, 1) := by decide +kernel
theorem dX11_likely_5 : decode cX11_likely 5 = .ok (.getfield 21, 3) := by decide +kernel
theorem dX11_likely_8 : decode cX11_likely 8 = .ok (.iload_n 2, 1) := by decide +kernel
theorem dX11_likely_9 : decode cX11_likely 9 = .ok (.bipush 100, 2) := by decide +kernel
theorem dX11_likely_11 : decode cX11_likely 11 = .ok (.idiv, 1) := by decide +kernel
theorem dX11_likely_12 : decode cX11_likely 12 = .ok (.invokevirtual 143, 3) := by decide +kernel
theorem dX11_likely_15 : decode cX11_likely 15 = .ok (.ifCond .eq 16, 3) := by decide +kernel
set_option maxHeartbeats 4000000 in
set_option maxRecDepth 100000 in
theorem c_likely (l : Launch) (J : va_J9) (a : Nat → Nat) (x : Int32) (y : Int32) (k : Int32) : RC l J yX11_likely cX11_likely 4 (some .long) ({ frames := 1, cells := 0, slots := 0, locals := 21 }) [.ref (a 0), .int x, .int y, .int k] [((a 0), .inr (11, [.ref (a 1), .ref (a 6), .ref (a 10), .ref (a 15), .ref (a 17), .ref (a 22), .ref (a 23), .ref (a 30), .ref (a 31), .ref (a 34), .int 0, .ref (a 37), .ref (a 40)])), ((a 6), .inr (10, [.ref (a 1), .ref (a 7), .ref (a 8), .ref (a 9), .int 0, .int 0, .int 0, .int 0, .int 1, .int 0, .int 0]))] (vp_Sl (fun r => r = (-9223372036854775808))) := by
  refine rc_of (by decide) (Nat.le_of_ble_eq_true rfl) ?_
  intro p e s m below meth c ls hE hl hP hK
  obtain ⟨hx, hb, hr, hml, hown, hts, hlk, hin⟩ := hE
  have hown : s.vm.findClass RX11 = some m.cls := hown
  have hl : lv_has ls 4 [(0, .ref (a 0)), (1, .int x), (2, .int y), (3, .int k)] := hl
  have rg_x := i_rng x
  have rg_y := i_rng y
  have rg_k := i_rng k
  refine lv_iload_n hx hb dX11_likely_0 rfl (lv_at hl 2 rfl) ?_
  refine lv_if_lt (tgt := 31) hx hb dX11_likely_1 (by decide) (fun c1 => ?_) (fun c1 => ?_)
  · have j2 : y.toInt < 0 := (i_lt rfl (by decide)).mp c1
    refine lv_ldc2 (v := (-9223372036854775808)) hx hb hown (hts _ q_960) dX11_likely_31 ?_
    exact rz_l hx hb hr hlk (by decide) dX11_likely_34
  · have j3 : ¬ (y.toInt < 0) := fun h => c1 ((i_lt rfl (by decide)).mpr h)
    refine lv_aload_n hx hb dX11_likely_4 rfl (lv_at hl 0 rfl) ?_
    refine va_get (D := J.1) (ci := 11) (v := .ref (a 6)) (C := RX11) (T := TX11) (N := 13) hx hb hts inX11 hown hK.1 hP 0 rfl rfl 1 (by decide) (hts _ q_461) (fun _ h9 => h9) rfl dX11_likely_5 ?_
    refine lv_iload_n hx hb dX11_likely_8 rfl (lv_at hl 2 rfl) ?_
    refine lv_bipush (v := 100) hx hb dX11_likely_9 (by decide) ?_
    refine lv_idiv hx hb dX11_likely_11 (by decide) ?_
    have p4 : (y / 100).toInt = y.toInt / 100 := i_div rfl (by decide) (by omega) (by omega)
    refine go_i (rn_V (As := [.int (y / 100)]) (rest := []) hx hb hml hown hts hK (cW_isHole l J (a 6) (a 1) (a 7) (a 8) (a 9) (y / 100)) kV_RX11_143 (hP.sub (ws' := [((a 6), .inr (10, [.ref (a 1), .ref (a 7), .ref (a 8), .ref (a 9), .int 0, .int 0, .int 0, .int 0, .int 1, .int 0, .int 0]))]) [1] rfl) rfl rfl rfl ⟨Nat.le_of_ble_eq_true rfl, Nat.le_of_ble_eq_true rfl⟩ rfl rfl rfl hl.1 rfl (Nat.le_of_ble_eq_true rfl) ⟨Nat.le_of_ble_eq_true rfl, Nat.le_of_ble_eq_true rfl⟩ dX11_likely_12) ?_
    refine lv_if_eq (tgt := 31) hx hb dX11_likely_15 (by decide) (fun _ => ?_) (fun c => absurd c (by decide))
    refine lv_ldc2 (v := (-9223372036854775808)) hx hb hown (hts _ q_960) dX11_likely_31 ?_
    exact rz_l hx hb hr hlk (by decide) dX11_likely_34
theorem dX11_mayFollow_0 : decode cX11_mayFollow 0 = .ok (.aload_n 0, 1) := by decide +kernel
theorem dX11_mayFollow_1 : decode cX11_mayFollow 1 = .ok (.iload_n 1, 1) := by decide +kernel
theorem dX11_mayFollow_2 : decode cX11_mayFollow 2 = .ok (.invokevirtual 106, 3) := by decide +kernel
theorem dX11_mayFollow_5 : decode cX11_mayFollow 5 = .ok (.astore 4, 2) := by decide +kernel
theorem dX11_mayFollow_7 : decode cX11_mayFollow 7 = .ok (.aload 4, 2) := by decide +kernel
theorem dX11_mayFollow_9 : decode cX11_mayFollow 9 = .ok (.ifnull 21, 3) := by decide +kernel
theorem dX11_mayFollow_12 : decode cX11_mayFollow 12 = .ok (.aload 4, 2) := by decide +kernel
theorem dX11_mayFollow_14 : decode cX11_mayFollow 14 = .ok (.iconst 0, 1) := by decide +kernel
theorem q_567 : Cond.methodLink RX11 114 yX9_isRowOf ∈ lw_g := mem_q 567 (by decide +kernel) rfl
theorem q_568 : Cond.instanceMethod yX9_isRowOf ∈ lw_g := mem_q 568 (by decide +kernel) rfl
theorem q_569 : Cond.selects RX9 yX9_isRowOf yX9_isRowOf ∈ lw_g := mem_q 569 (by decide +kernel) rfl
theorem q_570 : Cond.code yX9_isRowOf cX9_isRowOf 2 (some .boolean) ∈ lw_g := mem_q 570 (by decide +kernel) rfl
theorem kV_RX11_114 : CV RX11 114 RX9 yX9_isRowOf cX9_isRowOf 2 (some .boolean) 1 := cv_of q_567 q_568 q_569 q_114 q_570 (by decide +kernel)
theorem dX11_mayFollow_15 : decode cX11_mayFollow 15 = .ok (.invokevirtual 114, 3) := by decide +kernel
theorem dX11_mayFollow_18 : decode cX11_mayFollow 18 = .ok (.ifCond .eq 12, 3) := by decide +kernel
theorem dX11_mayFollow_30 : decode cX11_mayFollow 30 = .ok (.iconst 0, 1) := by decide +kernel
theorem dX11_mayFollow_31 : decode cX11_mayFollow 31 = .ok (.ireturn, 1) := by decide +kernel
set_option maxHeartbeats 4000000 in
set_option maxRecDepth 100000 in
theorem cF_followIn (l : Launch) (J : va_J9) (a : Nat → Nat) (f : Nat → Option Nat) (sh : Nat) (ce : Nat) (d : Int32) (x : Int32) (k : Int32) (hd : 0 ≤ d.toInt ∧ d.toInt ≤ 5) (hf : f d.toNatClampNeg = some sh) : RC l J yX11_mayFollow cX11_mayFollow 5 (some .boolean) ({ frames := 1, cells := 0, slots := 0, locals := 21 }) [.ref (a 0), .int d, .int x, .int k] [((a 0), .inr (11, [.ref (a 1), .ref (a 6), .ref (a 10), .ref (a 15), .ref (a 17), .ref (a 22), .ref (a 23), .ref (a 30), .ref (a 31), .ref (a 34), .int 0, .ref (a 37), .ref (a 40)])), ((a 40), .inl (J.2.2.2, 6, .inr (.inr (.inr (.inr f))))), (sh, .inr (9, [.ref ce, .int 0, .int 0, .int 0, .int 0]))] (vp_Si (fun r => r = 0)) := by
  refine rc_of (by decide) (Nat.le_of_ble_eq_true rfl) ?_
  intro p e s m below meth c ls hE hl hP hK
  obtain ⟨hx, hb, hr, hml, hown, hts, hlk, hin⟩ := hE
  have hown : s.vm.findClass RX11 = some m.cls := hown
  have hl : lv_has ls 5 [(0, .ref (a 0)), (1, .int d), (2, .int x), (3, .int k)] := hl
  have rg_d := i_rng d
  have rg_x := i_rng x
  have rg_k := i_rng k
  refine lv_aload_n hx hb dX11_mayFollow_0 rfl (lv_at hl 0 rfl) ?_
  refine lv_iload_n hx hb dX11_mayFollow_1 rfl (lv_at hl 1 rfl) ?_
  refine go_a (rn_V (As := [.int d]) (rest := []) hx hb hml hown hts hK (cF_shelfIn l J a f sh d ⟨by omega, by omega⟩ hf) kV_RX11_106 (hP.sub (ws' := [((a 0), .inr (11, [.ref (a 1), .ref (a 6), .ref (a 10), .ref (a 15), .ref (a 17), .ref (a 22), .ref (a 23), .ref (a 30), .ref (a 31), .ref (a 34), .int 0, .ref (a 37), .ref (a 40)])), ((a 40), .inl (J.2.2.2, 6, .inr (.inr (.inr (.inr f)))))]) [0, 1] rfl) rfl rfl rfl ⟨Nat.le_of_ble_eq_true rfl, Nat.le_of_ble_eq_true rfl⟩ rfl rfl rfl hl.1 rfl (Nat.le_of_ble_eq_true rfl) ⟨Nat.le_of_ble_eq_true rfl, Nat.le_of_ble_eq_true rfl⟩ dX11_mayFollow_2) ?_
  refine top_q (y := sh) rfl ?_
  refine lv_astore (lv' := [(4, .ref sh), (0, .ref (a 0)), (1, .int d), (2, .int x), (3, .int k)]) hx hb dX11_mayFollow_5 hl (by decide) rfl (fun ls hl => ?_)
  refine lv_aload hx hb dX11_mayFollow_7 (lv_at hl 0 rfl) ?_
  refine lv_ifnull hx hb dX11_mayFollow_9 ?_
  refine lv_aload hx hb dX11_mayFollow_12 (lv_at hl 0 rfl) ?_
  refine lv_iconst (v := 0) hx hb dX11_mayFollow_14 (by decide) ?_
  refine go_i (rn_V (As := [.int 0]) (rest := []) hx hb hml hown hts hK (cS_isRowOf l J sh ce 0) kV_RX11_114 (hP.sub (ws' := [(sh, .inr (9, [.ref ce, .int 0, .int 0, .int 0, .int 0]))]) [2] rfl) rfl rfl rfl ⟨Nat.le_of_ble_eq_true rfl, Nat.le_of_ble_eq_true rfl⟩ rfl rfl rfl hl.1 rfl (Nat.le_of_ble_eq_true rfl) ⟨Nat.le_of_ble_eq_true rfl, Nat.le_of_ble_eq_true rfl⟩ dX11_mayFollow_15) ?_
  refine lv_if_eq (tgt := 30) hx hb dX11_mayFollow_18 (by decide) (fun _ => ?_) (fun c => absurd c (by decide))
  refine lv_iconst (v := 0) hx hb dX11_mayFollow_30 (by decide) ?_
  exact rz_z hx hb hr hlk (by decide) (by decide) dX11_mayFollow_31
set_option maxHeartbeats 4000000 in
set_option maxRecDepth 100000 in
theorem cF_followOut (l : Launch) (J : va_J9) (a : Nat → Nat) (d : Int32) (x : Int32) (k : Int32) (hd : ¬ (0 ≤ d.toInt ∧ d.toInt ≤ 5)) : RC l J yX11_mayFollow cX11_mayFollow 5 (some .boolean) ({ frames := 1, cells := 0, slots := 0, locals := 21 }) [.ref (a 0), .int d, .int x, .int k] [((a 0), .inr (11, [.ref (a 1), .ref (a 6), .ref (a 10), .ref (a 15), .ref (a 17), .ref (a 22), .ref (a 23), .ref (a 30), .ref (a 31), .ref (a 34), .int 0, .ref (a 37), .ref (a 40)]))] (vp_Si (fun r => r = 0)) := by
  refine rc_of (by decide) (Nat.le_of_ble_eq_true rfl) ?_
  intro p e s m below meth c ls hE hl hP hK
  obtain ⟨hx, hb, hr, hml, hown, hts, hlk, hin⟩ := hE
  have hown : s.vm.findClass RX11 = some m.cls := hown
  have hl : lv_has ls 5 [(0, .ref (a 0)), (1, .int d), (2, .int x), (3, .int k)] := hl
  have rg_d := i_rng d
  have rg_x := i_rng x
  have rg_k := i_rng k
  refine lv_aload_n hx hb dX11_mayFollow_0 rfl (lv_at hl 0 rfl) ?_
  refine lv_iload_n hx hb dX11_mayFollow_1 rfl (lv_at hl 1 rfl) ?_
  refine go_a (rn_V (As := [.int d]) (rest := []) hx hb hml hown hts hK (cF_shelfOut l J a d (by omega)) kV_RX11_106 hP rfl rfl rfl ⟨Nat.le_of_ble_eq_true rfl, Nat.le_of_ble_eq_true rfl⟩ rfl rfl rfl hl.1 rfl (Nat.le_of_ble_eq_true rfl) ⟨Nat.le_of_ble_eq_true rfl, Nat.le_of_ble_eq_true rfl⟩ dX11_mayFollow_2) ?_
  refine top_n rfl ?_
  refine lv_astoreN (lv' := [(4, .null), (0, .ref (a 0)), (1, .int d), (2, .int x), (3, .int k)]) hx hb dX11_mayFollow_5 hl (by decide) rfl (fun ls hl => ?_)
  refine lv_aloadN hx hb dX11_mayFollow_7 (lv_at hl 0 rfl) ?_
  refine lv_ifnullN (tgt := 30) hx hb dX11_mayFollow_9 (by decide) ?_
  refine lv_iconst (v := 0) hx hb dX11_mayFollow_30 (by decide) ?_
  exact rz_z hx hb hr hlk (by decide) (by decide) dX11_mayFollow_31
theorem dX11_luck_0 : decode cX11_luck 0 = .ok (.aload_n 0, 1) := by decide +kernel
theorem dX11_luck_1 : decode cX11_luck 1 = .ok (.iload_n 1, 1) := by decide +kernel
theorem dX11_luck_2 : decode cX11_luck 2 = .ok (.iload_n 2, 1) := by decide +kernel
theorem dX11_luck_3 : decode cX11_luck 3 = .ok (.iload_n 3, 1) := by decide +kernel
theorem q_956 : Cond.methodLink RX11 252 yX11_mayFollow ∈ lw_g := mem_q 956 (by decide +kernel) rfl
theorem q_958 : Cond.instanceMethod yX11_mayFollow ∈ lw_g := mem_q 958 (by decide +kernel) rfl
theorem q_32 : Cond.selects RX11 yX11_mayFollow yX11_mayFollow ∈ lw_g := mem_q 32 (by decide +kernel) rfl
theorem q_959 : Cond.code yX11_mayFollow cX11_mayFollow 5 (some .boolean) ∈ lw_g := mem_q 959 (by decide +kernel) rfl
theorem kV_RX11_252 : CV RX11 252 RX11 yX11_mayFollow cX11_mayFollow 5 (some .boolean) 3 := cv_of q_956 q_958 q_32 q_103 q_959 (by decide +kernel)
theorem dX11_luck_4 : decode cX11_luck 4 = .ok (.invokevirtual 252, 3) := by decide +kernel
theorem dX11_luck_7 : decode cX11_luck 7 = .ok (.ifCond .ne 7, 3) := by decide +kernel
theorem dX11_luck_10 : decode cX11_luck 10 = .ok (.ldc2_w 257, 3) := by decide +kernel
theorem dX11_luck_13 : decode cX11_luck 13 = .ok (.lreturn, 1) := by decide +kernel
set_option maxHeartbeats 4000000 in
set_option maxRecDepth 100000 in
theorem c_luck_in (l : Launch) (J : va_J9) (a : Nat → Nat) (f : Nat → Option Nat) (sh : Nat) (ce : Nat) (d : Int32) (x : Int32) (k : Int32) (hd : 0 ≤ d.toInt ∧ d.toInt ≤ 5) (hf : f d.toNatClampNeg = some sh) : RC l J yX11_luck cX11_luck 4 (some .long) ({ frames := 2, cells := 0, slots := 0, locals := 45 }) [.ref (a 0), .int d, .int x, .int k] [((a 0), .inr (11, [.ref (a 1), .ref (a 6), .ref (a 10), .ref (a 15), .ref (a 17), .ref (a 22), .ref (a 23), .ref (a 30), .ref (a 31), .ref (a 34), .int 0, .ref (a 37), .ref (a 40)])), ((a 40), .inl (J.2.2.2, 6, .inr (.inr (.inr (.inr f))))), (sh, .inr (9, [.ref ce, .int 0, .int 0, .int 0, .int 0]))] (vp_Sl (fun r => r = (-9223372036854775808))) := by
  refine rc_of (by decide) (Nat.le_of_ble_eq_true rfl) ?_
  intro p e s m below meth c ls hE hl hP hK
  obtain ⟨hx, hb, hr, hml, hown, hts, hlk, hin⟩ := hE
  have hown : s.vm.findClass RX11 = some m.cls := hown
  have hl : lv_has ls 4 [(0, .ref (a 0)), (1, .int d), (2, .int x), (3, .int k)] := hl
  have rg_d := i_rng d
  have rg_x := i_rng x
  have rg_k := i_rng k
  refine lv_aload_n hx hb dX11_luck_0 rfl (lv_at hl 0 rfl) ?_
  refine lv_iload_n hx hb dX11_luck_1 rfl (lv_at hl 1 rfl) ?_
  refine lv_iload_n hx hb dX11_luck_2 rfl (lv_at hl 2 rfl) ?_
  refine lv_iload_n hx hb dX11_luck_3 rfl (lv_at hl 3 rfl) ?_
  refine go_i (rn_V (As := [.int d, .int x, .int k]) (rest := []) hx hb hml hown hts hK (cF_followIn l J a f sh ce d x k ⟨by omega, by omega⟩ hf) kV_RX11_252 hP rfl rfl rfl ⟨Nat.le_of_ble_eq_true rfl, Nat.le_of_ble_eq_true rfl⟩ rfl rfl rfl hl.1 rfl (Nat.le_of_ble_eq_true rfl) ⟨Nat.le_of_ble_eq_true rfl, Nat.le_of_ble_eq_true rfl⟩ dX11_luck_4) ?_
  refine lv_if_ne (tgt := 14) hx hb dX11_luck_7 (by decide) (fun c => absurd c (by decide)) (fun _ => ?_)
  refine lv_ldc2 (v := (-9223372036854775808)) hx hb hown (hts _ q_960) dX11_luck_10 ?_
  exact rz_l hx hb hr hlk (by decide) dX11_luck_13
set_option maxHeartbeats 4000000 in
set_option maxRecDepth 100000 in
theorem c_luck_out (l : Launch) (J : va_J9) (a : Nat → Nat) (d : Int32) (x : Int32) (k : Int32) (hd : ¬ (0 ≤ d.toInt ∧ d.toInt ≤ 5)) : RC l J yX11_luck cX11_luck 4 (some .long) ({ frames := 2, cells := 0, slots := 0, locals := 45 }) [.ref (a 0), .int d, .int x, .int k] [((a 0), .inr (11, [.ref (a 1), .ref (a 6), .ref (a 10), .ref (a 15), .ref (a 17), .ref (a 22), .ref (a 23), .ref (a 30), .ref (a 31), .ref (a 34), .int 0, .ref (a 37), .ref (a 40)]))] (vp_Sl (fun r => r = (-9223372036854775808))) := by
  refine rc_of (by decide) (Nat.le_of_ble_eq_true rfl) ?_
  intro p e s m below meth c ls hE hl hP hK
  obtain ⟨hx, hb, hr, hml, hown, hts, hlk, hin⟩ := hE
  have hown : s.vm.findClass RX11 = some m.cls := hown
  have hl : lv_has ls 4 [(0, .ref (a 0)), (1, .int d), (2, .int x), (3, .int k)] := hl
  have rg_d := i_rng d
  have rg_x := i_rng x
  have rg_k := i_rng k
  refine lv_aload_n hx hb dX11_luck_0 rfl (lv_at hl 0 rfl) ?_
  refine lv_iload_n hx hb dX11_luck_1 rfl (lv_at hl 1 rfl) ?_
  refine lv_iload_n hx hb dX11_luck_2 rfl (lv_at hl 2 rfl) ?_
  refine lv_iload_n hx hb dX11_luck_3 rfl (lv_at hl 3 rfl) ?_
  refine go_i (rn_V (As := [.int d, .int x, .int k]) (rest := []) hx hb hml hown hts hK (cF_followOut l J a d x k (by omega)) kV_RX11_252 hP rfl rfl rfl ⟨Nat.le_of_ble_eq_true rfl, Nat.le_of_ble_eq_true rfl⟩ rfl rfl rfl hl.1 rfl (Nat.le_of_ble_eq_true rfl) ⟨Nat.le_of_ble_eq_true rfl, Nat.le_of_ble_eq_true rfl⟩ dX11_luck_4) ?_
  refine lv_if_ne (tgt := 14) hx hb dX11_luck_7 (by decide) (fun c => absurd c (by decide)) (fun _ => ?_)
  refine lv_ldc2 (v := (-9223372036854775808)) hx hb hown (hts _ q_960) dX11_luck_10 ?_
  exact rz_l hx hb hr hlk (by decide) dX11_luck_13
theorem dX11_mean_0 : decode cX11_mean 0 = .ok (.aload_n 0, 1) := by decide +kernel
theorem dX11_mean_1 : decode cX11_mean 1 = .ok (.iload_n 1, 1) := by decide +kernel
theorem dX11_mean_2 : decode cX11_mean 2 = .ok (.iload_n 2, 1) := by decide +kernel
theorem dX11_mean_3 : decode cX11_mean 3 = .ok (.iload_n 3, 1) := by decide +kernel
theorem dX11_mean_4 : decode cX11_mean 4 = .ok (.invokevirtual 252, 3) := by decide +kernel
theorem dX11_mean_7 : decode cX11_mean 7 = .ok (.ifCond .ne 7, 3) := by decide +kernel
theorem dX11_mean_10 : decode cX11_mean 10 = .ok (.ldc2_w 257, 3) := by decide +kernel
theorem dX11_mean_13 : decode cX11_mean 13 = .ok (.lreturn, 1) := by decide +kernel
set_option maxHeartbeats 4000000 in
set_option maxRecDepth 100000 in
theorem c_mean_in (l : Launch) (J : va_J9) (a : Nat → Nat) (f : Nat → Option Nat) (sh : Nat) (ce : Nat) (d : Int32) (x : Int32) (k : Int32) (hd : 0 ≤ d.toInt ∧ d.toInt ≤ 5) (hf : f d.toNatClampNeg = some sh) : RC l J yX11_mean cX11_mean 4 (some .long) ({ frames := 2, cells := 0, slots := 0, locals := 45 }) [.ref (a 0), .int d, .int x, .int k] [((a 0), .inr (11, [.ref (a 1), .ref (a 6), .ref (a 10), .ref (a 15), .ref (a 17), .ref (a 22), .ref (a 23), .ref (a 30), .ref (a 31), .ref (a 34), .int 0, .ref (a 37), .ref (a 40)])), ((a 40), .inl (J.2.2.2, 6, .inr (.inr (.inr (.inr f))))), (sh, .inr (9, [.ref ce, .int 0, .int 0, .int 0, .int 0]))] (vp_Sl (fun r => r = (-9223372036854775808))) := by
  refine rc_of (by decide) (Nat.le_of_ble_eq_true rfl) ?_
  intro p e s m below meth c ls hE hl hP hK
  obtain ⟨hx, hb, hr, hml, hown, hts, hlk, hin⟩ := hE
  have hown : s.vm.findClass RX11 = some m.cls := hown
  have hl : lv_has ls 4 [(0, .ref (a 0)), (1, .int d), (2, .int x), (3, .int k)] := hl
  have rg_d := i_rng d
  have rg_x := i_rng x
  have rg_k := i_rng k
  refine lv_aload_n hx hb dX11_mean_0 rfl (lv_at hl 0 rfl) ?_
  refine lv_iload_n hx hb dX11_mean_1 rfl (lv_at hl 1 rfl) ?_
  refine lv_iload_n hx hb dX11_mean_2 rfl (lv_at hl 2 rfl) ?_
  refine lv_iload_n hx hb dX11_mean_3 rfl (lv_at hl 3 rfl) ?_
  refine go_i (rn_V (As := [.int d, .int x, .int k]) (rest := []) hx hb hml hown hts hK (cF_followIn l J a f sh ce d x k ⟨by omega, by omega⟩ hf) kV_RX11_252 hP rfl rfl rfl ⟨Nat.le_of_ble_eq_true rfl, Nat.le_of_ble_eq_true rfl⟩ rfl rfl rfl hl.1 rfl (Nat.le_of_ble_eq_true rfl) ⟨Nat.le_of_ble_eq_true rfl, Nat.le_of_ble_eq_true rfl⟩ dX11_mean_4) ?_
  refine lv_if_ne (tgt := 14) hx hb dX11_mean_7 (by decide) (fun c => absurd c (by decide)) (fun _ => ?_)
  refine lv_ldc2 (v := (-9223372036854775808)) hx hb hown (hts _ q_960) dX11_mean_10 ?_
  exact rz_l hx hb hr hlk (by decide) dX11_mean_13
set_option maxHeartbeats 4000000 in
set_option maxRecDepth 100000 in
theorem c_mean_out (l : Launch) (J : va_J9) (a : Nat → Nat) (d : Int32) (x : Int32) (k : Int32) (hd : ¬ (0 ≤ d.toInt ∧ d.toInt ≤ 5)) : RC l J yX11_mean cX11_mean 4 (some .long) ({ frames := 2, cells := 0, slots := 0, locals := 45 }) [.ref (a 0), .int d, .int x, .int k] [((a 0), .inr (11, [.ref (a 1), .ref (a 6), .ref (a 10), .ref (a 15), .ref (a 17), .ref (a 22), .ref (a 23), .ref (a 30), .ref (a 31), .ref (a 34), .int 0, .ref (a 37), .ref (a 40)]))] (vp_Sl (fun r => r = (-9223372036854775808))) := by
  refine rc_of (by decide) (Nat.le_of_ble_eq_true rfl) ?_
  intro p e s m below meth c ls hE hl hP hK
  obtain ⟨hx, hb, hr, hml, hown, hts, hlk, hin⟩ := hE
  have hown : s.vm.findClass RX11 = some m.cls := hown
  have hl : lv_has ls 4 [(0, .ref (a 0)), (1, .int d), (2, .int x), (3, .int k)] := hl
  have rg_d := i_rng d
  have rg_x := i_rng x
  have rg_k := i_rng k
  refine lv_aload_n hx hb dX11_mean_0 rfl (lv_at hl 0 rfl) ?_
  refine lv_iload_n hx hb dX11_mean_1 rfl (lv_at hl 1 rfl) ?_
  refine lv_iload_n hx hb dX11_mean_2 rfl (lv_at hl 2 rfl) ?_
  refine lv_iload_n hx hb dX11_mean_3 rfl (lv_at hl 3 rfl) ?_
  refine go_i (rn_V (As := [.int d, .int x, .int k]) (rest := []) hx hb hml hown hts hK (cF_followOut l J a d x k (by omega)) kV_RX11_252 hP rfl rfl rfl ⟨Nat.le_of_ble_eq_true rfl, Nat.le_of_ble_eq_true rfl⟩ rfl rfl rfl hl.1 rfl (Nat.le_of_ble_eq_true rfl) ⟨Nat.le_of_ble_eq_true rfl, Nat.le_of_ble_eq_true rfl⟩ dX11_mean_4) ?_
  refine lv_if_ne (tgt := 14) hx hb dX11_mean_7 (by decide) (fun c => absurd c (by decide)) (fun _ => ?_)
  refine lv_ldc2 (v := (-9223372036854775808)) hx hb hown (hts _ q_960) dX11_mean_10 ?_
  exact rz_l hx hb hr hlk (by decide) dX11_mean_13
theorem dX11_luckiest_0 : decode cX11_luckiest 0 = .ok (.iload_n 1, 1) := by decide +kernel
theorem dX11_luckiest_1 : decode cX11_luckiest 1 = .ok (.iconst 1, 1) := by decide +kernel
theorem dX11_luckiest_2 : decode cX11_luckiest 2 = .ok (.if_icmp .lt 19, 3) := by decide +kernel
theorem dX11_luckiest_21 : decode cX11_luckiest 21 = .ok (.ldc2_w 257, 3) := by decide +kernel
theorem dX11_luckiest_24 : decode cX11_luckiest 24 = .ok (.lreturn, 1) := by decide +kernel
theorem dX11_luckiest_5 : decode cX11_luckiest 5 = .ok (.iload_n 1, 1) := by decide +kernel
theorem dX11_luckiest_6 : decode cX11_luckiest 6 = .ok (.iconst 4, 1) := by decide +kernel
theorem dX11_luckiest_7 : decode cX11_luckiest 7 = .ok (.if_icmp .gt 14, 3) := by decide +kernel
theorem dX11_luckiest_10 : decode cX11_luckiest 10 = .ok (.iload_n 2, 1) := by decide +kernel
theorem dX11_luckiest_11 : decode cX11_luckiest 11 = .ok (.bipush (-2), 2) := by decide +kernel
theorem dX11_luckiest_13 : decode cX11_luckiest 13 = .ok (.if_icmp .lt 8, 3) := by decide +kernel
theorem dX11_luckiest_16 : decode cX11_luckiest 16 = .ok (.iload_n 2, 1) := by decide +kernel
theorem dX11_luckiest_17 : decode cX11_luckiest 17 = .ok (.iload_n 1, 1) := by decide +kernel
theorem dX11_luckiest_18 : decode cX11_luckiest 18 = .ok (.if_icmp .lt 7, 3) := by decide +kernel
theorem dX11_luckiest_25 : decode cX11_luckiest 25 = .ok (.aload_n 0, 1) := by decide +kernel
theorem q_466 : Cond.fieldLink RX11 60 RX11 "chance" "LFoxHoles$Chance;" ∈ lw_g := mem_q 466 (by decide +kernel) rfl
theorem dX11_luckiest_26 : decode cX11_luckiest 26 = .ok (.getfield 60, 3) := by decide +kernel
theorem dX11_luckiest_29 : decode cX11_luckiest 29 = .ok (.iload_n 1, 1) := by decide +kernel
theorem dX11_luckiest_30 : decode cX11_luckiest 30 = .ok (.iload_n 2, 1) := by decide +kernel
theorem q_1020 : Cond.methodLink RX11 274 yX1_ofBestRow ∈ lw_g := mem_q 1020 (by decide +kernel) rfl
theorem q_1021 : Cond.instanceMethod yX1_ofBestRow ∈ lw_g := mem_q 1021 (by decide +kernel) rfl
theorem q_1022 : Cond.selects RX1 yX1_ofBestRow yX1_ofBestRow ∈ lw_g := mem_q 1022 (by decide +kernel) rfl
theorem q_110 : Cond.initialized RX1 ∈ lw_g := mem_q 110 (by decide +kernel) rfl
theorem q_1023 : Cond.code yX1_ofBestRow cX1_ofBestRow 6 (some .long) ∈ lw_g := mem_q 1023 (by decide +kernel) rfl
theorem kV_RX11_274 : CV RX11 274 RX1 yX1_ofBestRow cX1_ofBestRow 6 (some .long) 2 := cv_of q_1020 q_1021 q_1022 q_110 q_1023 (by decide +kernel)
theorem dX11_luckiest_31 : decode cX11_luckiest 31 = .ok (.invokevirtual 274, 3) := by decide +kernel
theorem dX11_luckiest_34 : decode cX11_luckiest 34 = .ok (.lreturn, 1) := by decide +kernel
set_option maxHeartbeats 4000000 in
set_option maxRecDepth 100000 in
theorem c_luckiest (l : Launch) (J : va_J9) (a : Nat → Nat) (x : Int32) (k : Int32) : RC l J yX11_luckiest cX11_luckiest 3 (some .long) ({ frames := 3, cells := 0, slots := 0, locals := 68 }) [.ref (a 0), .int x, .int k] [((a 0), .inr (11, [.ref (a 1), .ref (a 6), .ref (a 10), .ref (a 15), .ref (a 17), .ref (a 22), .ref (a 23), .ref (a 30), .ref (a 31), .ref (a 34), .int 0, .ref (a 37), .ref (a 40)])), ((a 23), .inr (1, [.ref (a 6), .ref (a 15), .ref (a 24), .ref (a 25), .ref (a 26), .ref (a 27), .long 0, .long 0, .long 0, .ref (a 28), .ref (a 29), .long 0, .int 0, .int (-1)])), ((a 6), .inr (10, [.ref (a 1), .ref (a 7), .ref (a 8), .ref (a 9), .int 0, .int 0, .int 0, .int 0, .int 1, .int 0, .int 0]))] (vp_Sl (fun r => r = sp_luckiest (x.toInt) (k.toInt))) := by
  refine rc_of (by decide) (Nat.le_of_ble_eq_true rfl) ?_
  intro p e s m below meth c ls hE hl hP hK
  obtain ⟨hx, hb, hr, hml, hown, hts, hlk, hin⟩ := hE
  have hown : s.vm.findClass RX11 = some m.cls := hown
  have hl : lv_has ls 3 [(0, .ref (a 0)), (1, .int x), (2, .int k)] := hl
  have rg_x := i_rng x
  have rg_k := i_rng k
  refine lv_iload_n hx hb dX11_luckiest_0 rfl (lv_at hl 1 rfl) ?_
  refine lv_iconst (v := 1) hx hb dX11_luckiest_1 (by decide) ?_
  refine lv_icmp_lt (tgt := 21) hx hb dX11_luckiest_2 (by decide) (fun c1 => ?_) (fun c1 => ?_)
  · have j2 : x.toInt < 1 := (i_lt rfl (by decide)).mp c1
    refine lv_ldc2 (v := (-9223372036854775808)) hx hb hown (hts _ q_960) dX11_luckiest_21 ?_
    exact rz_l hx hb hr hlk (by unfold sp_luckiest; (repeat' split) <;> first | rfl | (exfalso; omega)) dX11_luckiest_24
  · have j3 : ¬ (x.toInt < 1) := fun h => c1 ((i_lt rfl (by decide)).mpr h)
    refine lv_iload_n hx hb dX11_luckiest_5 rfl (lv_at hl 1 rfl) ?_
    refine lv_iconst (v := 4) hx hb dX11_luckiest_6 (by decide) ?_
    refine lv_icmp_gt (tgt := 21) hx hb dX11_luckiest_7 (by decide) (fun c4 => ?_) (fun c4 => ?_)
    · have j5 : 4 < x.toInt := (i_lt (by decide) rfl).mp c4
      refine lv_ldc2 (v := (-9223372036854775808)) hx hb hown (hts _ q_960) dX11_luckiest_21 ?_
      exact rz_l hx hb hr hlk (by unfold sp_luckiest; (repeat' split) <;> first | rfl | (exfalso; omega)) dX11_luckiest_24
    · have j6 : ¬ (4 < x.toInt) := fun h => c4 ((i_lt (by decide) rfl).mpr h)
      refine lv_iload_n hx hb dX11_luckiest_10 rfl (lv_at hl 2 rfl) ?_
      refine lv_bipush (v := (-2)) hx hb dX11_luckiest_11 (by decide) ?_
      refine lv_icmp_lt (tgt := 21) hx hb dX11_luckiest_13 (by decide) (fun c7 => ?_) (fun c7 => ?_)
      · have j8 : k.toInt < (-2) := (i_lt rfl (by decide)).mp c7
        refine lv_ldc2 (v := (-9223372036854775808)) hx hb hown (hts _ q_960) dX11_luckiest_21 ?_
        exact rz_l hx hb hr hlk (by unfold sp_luckiest; (repeat' split) <;> first | rfl | (exfalso; omega)) dX11_luckiest_24
      · have j9 : ¬ (k.toInt < (-2)) := fun h => c7 ((i_lt rfl (by decide)).mpr h)
        refine lv_iload_n hx hb dX11_luckiest_16 rfl (lv_at hl 2 rfl) ?_
        refine lv_iload_n hx hb dX11_luckiest_17 rfl (lv_at hl 1 rfl) ?_
        refine lv_icmp_lt (tgt := 25) hx hb dX11_luckiest_18 (by decide) (fun c10 => ?_) (fun c10 => ?_)
        · have j11 : k.toInt < x.toInt := (i_lt rfl rfl).mp c10
          refine lv_aload_n hx hb dX11_luckiest_25 rfl (lv_at hl 0 rfl) ?_
          refine va_get (D := J.1) (ci := 11) (v := .ref (a 23)) (C := RX11) (T := TX11) (N := 13) hx hb hts inX11 hown hK.1 hP 0 rfl rfl 6 (by decide) (hts _ q_466) (fun _ h9 => h9) rfl dX11_luckiest_26 ?_
          refine lv_iload_n hx hb dX11_luckiest_29 rfl (lv_at hl 1 rfl) ?_
          refine lv_iload_n hx hb dX11_luckiest_30 rfl (lv_at hl 2 rfl) ?_
          refine go_l (rn_V (As := [.int x, .int k]) (rest := []) hx hb hml hown hts hK (cN_best l J (a 23) (a 15) (a 24) (a 25) (a 26) (a 27) (a 28) (a 29) (a 6) (a 1) (a 7) (a 8) (a 9) x k) kV_RX11_274 (hP.sub (ws' := [((a 23), .inr (1, [.ref (a 6), .ref (a 15), .ref (a 24), .ref (a 25), .ref (a 26), .ref (a 27), .long 0, .long 0, .long 0, .ref (a 28), .ref (a 29), .long 0, .int 0, .int (-1)])), ((a 6), .inr (10, [.ref (a 1), .ref (a 7), .ref (a 8), .ref (a 9), .int 0, .int 0, .int 0, .int 0, .int 1, .int 0, .int 0]))]) [1, 2] rfl) rfl rfl rfl ⟨Nat.le_of_ble_eq_true rfl, Nat.le_of_ble_eq_true rfl⟩ rfl rfl rfl hl.1 rfl (Nat.le_of_ble_eq_true rfl) ⟨Nat.le_of_ble_eq_true rfl, Nat.le_of_ble_eq_true rfl⟩ dX11_luckiest_31) ?_
          exact rz_l hx hb hr hlk (by unfold sp_luckiest; (repeat' split) <;> first | rfl | (exfalso; omega)) dX11_luckiest_34
        · have j12 : ¬ (k.toInt < x.toInt) := fun h => c10 ((i_lt rfl rfl).mpr h)
          refine lv_ldc2 (v := (-9223372036854775808)) hx hb hown (hts _ q_960) dX11_luckiest_21 ?_
          exact rz_l hx hb hr hlk (by unfold sp_luckiest; (repeat' split) <;> first | rfl | (exfalso; omega)) dX11_luckiest_24
theorem dX11_isDrawing_0 : decode cX11_isDrawing 0 = .ok (.iload_n 1, 1) := by decide +kernel
theorem dX11_isDrawing_1 : decode cX11_isDrawing 1 = .ok (.ifCond .ge 5, 3) := by decide +kernel
theorem dX11_isDrawing_6 : decode cX11_isDrawing 6 = .ok (.iload_n 1, 1) := by decide +kernel
theorem dX11_isDrawing_7 : decode cX11_isDrawing 7 = .ok (.bipush 100, 2) := by decide +kernel
theorem dX11_isDrawing_9 : decode cX11_isDrawing 9 = .ok (.idiv, 1) := by decide +kernel
theorem dX11_isDrawing_10 : decode cX11_isDrawing 10 = .ok (.istore_n 2, 1) := by decide +kernel
theorem dX11_isDrawing_11 : decode cX11_isDrawing 11 = .ok (.iload_n 1, 1) := by decide +kernel
theorem dX11_isDrawing_12 : decode cX11_isDrawing 12 = .ok (.bipush 100, 2) := by decide +kernel
theorem dX11_isDrawing_14 : decode cX11_isDrawing 14 = .ok (.irem, 1) := by decide +kernel
theorem dX11_isDrawing_15 : decode cX11_isDrawing 15 = .ok (.istore_n 3, 1) := by decide +kernel
theorem dX11_isDrawing_16 : decode cX11_isDrawing 16 = .ok (.iload_n 2, 1) := by decide +kernel
theorem dX11_isDrawing_17 : decode cX11_isDrawing 17 = .ok (.iconst 1, 1) := by decide +kernel
theorem dX11_isDrawing_18 : decode cX11_isDrawing 18 = .ok (.if_icmp .lt 24, 3) := by decide +kernel
theorem dX11_isDrawing_42 : decode cX11_isDrawing 42 = .ok (.iconst 0, 1) := by decide +kernel
theorem dX11_isDrawing_43 : decode cX11_isDrawing 43 = .ok (.ireturn, 1) := by decide +kernel
theorem dX11_isDrawing_21 : decode cX11_isDrawing 21 = .ok (.iload_n 2, 1) := by decide +kernel
theorem dX11_isDrawing_22 : decode cX11_isDrawing 22 = .ok (.bipush 60, 2) := by decide +kernel
theorem dX11_isDrawing_24 : decode cX11_isDrawing 24 = .ok (.if_icmp .gt 18, 3) := by decide +kernel
theorem dX11_isDrawing_27 : decode cX11_isDrawing 27 = .ok (.iload_n 3, 1) := by decide +kernel
theorem dX11_isDrawing_28 : decode cX11_isDrawing 28 = .ok (.iconst 1, 1) := by decide +kernel
theorem dX11_isDrawing_29 : decode cX11_isDrawing 29 = .ok (.if_icmp .lt 13, 3) := by decide +kernel
theorem dX11_isDrawing_32 : decode cX11_isDrawing 32 = .ok (.iload_n 3, 1) := by decide +kernel
theorem dX11_isDrawing_33 : decode cX11_isDrawing 33 = .ok (.bipush 30, 2) := by decide +kernel
theorem dX11_isDrawing_35 : decode cX11_isDrawing 35 = .ok (.if_icmp .gt 7, 3) := by decide +kernel
theorem dX11_isDrawing_38 : decode cX11_isDrawing 38 = .ok (.iconst 1, 1) := by decide +kernel
theorem dX11_isDrawing_39 : decode cX11_isDrawing 39 = .ok (.goto 4, 3) := by decide +kernel
theorem dX11_isDrawing_4 : decode cX11_isDrawing 4 = .ok (.iconst 0, 1) := by decide +kernel
theorem dX11_isDrawing_5 : decode cX11_isDrawing 5 = .ok (.ireturn, 1) := by decide +kernel
set_option maxHeartbeats 4000000 in
set_option maxRecDepth 100000 in
theorem cF_isDrawing (l : Launch) (J : va_J9) (a : Nat → Nat) (x : Int32) : RC l J yX11_isDrawing cX11_isDrawing 4 (some .boolean) ({ frames := 0, cells := 0, slots := 0, locals := 0 }) [.ref (a 0), .int x] [((a 0), .inr (11, [.ref (a 1), .ref (a 6), .ref (a 10), .ref (a 15), .ref (a 17), .ref (a 22), .ref (a 23), .ref (a 30), .ref (a 31), .ref (a 34), .int 0, .ref (a 37), .ref (a 40)]))] (vp_Si (fun r => r = B01 (0 ≤ x.toInt ∧ 1 ≤ x.toInt / 100 ∧ x.toInt / 100 ≤ 60 ∧ 1 ≤ x.toInt % 100 ∧ x.toInt % 100 ≤ 30))) := by
  refine rc_of (by decide) (Nat.le_of_ble_eq_true rfl) ?_
  intro p e s m below meth c ls hE hl hP hK
  obtain ⟨hx, hb, hr, hml, hown, hts, hlk, hin⟩ := hE
  have hown : s.vm.findClass RX11 = some m.cls := hown
  have hl : lv_has ls 4 [(0, .ref (a 0)), (1, .int x)] := hl
  have rg_x := i_rng x
  refine lv_iload_n hx hb dX11_isDrawing_0 rfl (lv_at hl 1 rfl) ?_
  refine lv_if_ge (tgt := 6) hx hb dX11_isDrawing_1 (by decide) (fun c1 => ?_) (fun c1 => ?_)
  · have j2 : 0 ≤ x.toInt := (i_le (by decide) rfl).mp c1
    refine lv_iload_n hx hb dX11_isDrawing_6 rfl (lv_at hl 1 rfl) ?_
    refine lv_bipush (v := 100) hx hb dX11_isDrawing_7 (by decide) ?_
    refine lv_idiv hx hb dX11_isDrawing_9 (by decide) ?_
    have p3 : (x / 100).toInt = x.toInt / 100 := i_div rfl (by decide) (by omega) (by omega)
    refine lv_istore_n (lv' := [(2, .int (x / 100)), (0, .ref (a 0)), (1, .int x)]) hx hb dX11_isDrawing_10 rfl hl (by decide) rfl (fun ls hl => ?_)
    refine lv_iload_n hx hb dX11_isDrawing_11 rfl (lv_at hl 2 rfl) ?_
    refine lv_bipush (v := 100) hx hb dX11_isDrawing_12 (by decide) ?_
    refine lv_irem hx hb dX11_isDrawing_14 (by decide) ?_
    have p4 : (x - x / 100 * 100).toInt = x.toInt % 100 := i_rem rfl (by decide) (by omega) (by omega)
    refine lv_istore_n (lv' := [(3, .int (x - x / 100 * 100)), (2, .int (x / 100)), (0, .ref (a 0)), (1, .int x)]) hx hb dX11_isDrawing_15 rfl hl (by decide) rfl (fun ls hl => ?_)
    refine lv_iload_n hx hb dX11_isDrawing_16 rfl (lv_at hl 1 rfl) ?_
    refine lv_iconst (v := 1) hx hb dX11_isDrawing_17 (by decide) ?_
    refine lv_icmp_lt (tgt := 42) hx hb dX11_isDrawing_18 (by decide) (fun c5 => ?_) (fun c5 => ?_)
    · have j6 : x.toInt / 100 < 1 := (i_lt p3 (by decide)).mp c5
      refine lv_iconst (v := 0) hx hb dX11_isDrawing_42 (by decide) ?_
      exact rz_z hx hb hr hlk (by decide) (b_f (by omega)) dX11_isDrawing_43
    · have j7 : ¬ (x.toInt / 100 < 1) := fun h => c5 ((i_lt p3 (by decide)).mpr h)
      refine lv_iload_n hx hb dX11_isDrawing_21 rfl (lv_at hl 1 rfl) ?_
      refine lv_bipush (v := 60) hx hb dX11_isDrawing_22 (by decide) ?_
      refine lv_icmp_gt (tgt := 42) hx hb dX11_isDrawing_24 (by decide) (fun c8 => ?_) (fun c8 => ?_)
      · have j9 : 60 < x.toInt / 100 := (i_lt (by decide) p3).mp c8
        refine lv_iconst (v := 0) hx hb dX11_isDrawing_42 (by decide) ?_
        exact rz_z hx hb hr hlk (by decide) (b_f (by omega)) dX11_isDrawing_43
      · have j10 : ¬ (60 < x.toInt / 100) := fun h => c8 ((i_lt (by decide) p3).mpr h)
        refine lv_iload_n hx hb dX11_isDrawing_27 rfl (lv_at hl 0 rfl) ?_
        refine lv_iconst (v := 1) hx hb dX11_isDrawing_28 (by decide) ?_
        refine lv_icmp_lt (tgt := 42) hx hb dX11_isDrawing_29 (by decide) (fun c11 => ?_) (fun c11 => ?_)
        · have j12 : x.toInt % 100 < 1 := (i_lt p4 (by decide)).mp c11
          refine lv_iconst (v := 0) hx hb dX11_isDrawing_42 (by decide) ?_
          exact rz_z hx hb hr hlk (by decide) (b_f (by omega)) dX11_isDrawing_43
        · have j13 : ¬ (x.toInt % 100 < 1) := fun h => c11 ((i_lt p4 (by decide)).mpr h)
          refine lv_iload_n hx hb dX11_isDrawing_32 rfl (lv_at hl 0 rfl) ?_
          refine lv_bipush (v := 30) hx hb dX11_isDrawing_33 (by decide) ?_
          refine lv_icmp_gt (tgt := 42) hx hb dX11_isDrawing_35 (by decide) (fun c14 => ?_) (fun c14 => ?_)
          · have j15 : 30 < x.toInt % 100 := (i_lt (by decide) p4).mp c14
            refine lv_iconst (v := 0) hx hb dX11_isDrawing_42 (by decide) ?_
            exact rz_z hx hb hr hlk (by decide) (b_f (by omega)) dX11_isDrawing_43
          · have j16 : ¬ (30 < x.toInt % 100) := fun h => c14 ((i_lt (by decide) p4).mpr h)
            refine lv_iconst (v := 1) hx hb dX11_isDrawing_38 (by decide) ?_
            refine lv_goto (tgt := 43) hx hb dX11_isDrawing_39 (by decide) ?_
            exact rz_z hx hb hr hlk (by decide) (b_t (by omega)) dX11_isDrawing_43
  · have j17 : ¬ (0 ≤ x.toInt) := fun h => c1 ((i_le (by decide) rfl).mpr h)
    refine lv_iconst (v := 0) hx hb dX11_isDrawing_4 (by decide) ?_
    exact rz_z hx hb hr hlk (by decide) (b_f (by omega)) dX11_isDrawing_5
theorem dX11_drawn_0 : decode cX11_drawn 0 = .ok (.aload_n 0, 1) := by decide +kernel
theorem dX11_drawn_1 : decode cX11_drawn 1 = .ok (.iload_n 1, 1) := by decide +kernel
theorem dX11_drawn_2 : decode cX11_drawn 2 = .ok (.invokevirtual 106, 3) := by decide +kernel
theorem dX11_drawn_5 : decode cX11_drawn 5 = .ok (.astore 5, 2) := by decide +kernel
theorem dX11_drawn_7 : decode cX11_drawn 7 = .ok (.aload 5, 2) := by decide +kernel
theorem dX11_drawn_9 : decode cX11_drawn 9 = .ok (.ifnull 22, 3) := by decide +kernel
theorem dX11_drawn_12 : decode cX11_drawn 12 = .ok (.aload_n 0, 1) := by decide +kernel
theorem dX11_drawn_13 : decode cX11_drawn 13 = .ok (.iload_n 3, 1) := by decide +kernel
theorem q_1045 : Cond.methodLink RX11 277 yX11_isDrawing ∈ lw_g := mem_q 1045 (by decide +kernel) rfl
theorem q_1047 : Cond.instanceMethod yX11_isDrawing ∈ lw_g := mem_q 1047 (by decide +kernel) rfl
theorem q_39 : Cond.selects RX11 yX11_isDrawing yX11_isDrawing ∈ lw_g := mem_q 39 (by decide +kernel) rfl
theorem q_1048 : Cond.code yX11_isDrawing cX11_isDrawing 4 (some .boolean) ∈ lw_g := mem_q 1048 (by decide +kernel) rfl
theorem kV_RX11_277 : CV RX11 277 RX11 yX11_isDrawing cX11_isDrawing 4 (some .boolean) 1 := cv_of q_1045 q_1047 q_39 q_103 q_1048 (by decide +kernel)
theorem dX11_drawn_14 : decode cX11_drawn 14 = .ok (.invokevirtual 277, 3) := by decide +kernel
theorem dX11_drawn_17 : decode cX11_drawn 17 = .ok (.ifCond .eq 14, 3) := by decide +kernel
theorem dX11_drawn_31 : decode cX11_drawn 31 = .ok (.iconst (-1), 1) := by decide +kernel
theorem dX11_drawn_32 : decode cX11_drawn 32 = .ok (.ireturn, 1) := by decide +kernel
theorem dX11_drawn_20 : decode cX11_drawn 20 = .ok (.iload 4, 2) := by decide +kernel
theorem dX11_drawn_22 : decode cX11_drawn 22 = .ok (.ifCond .lt 9, 3) := by decide +kernel
theorem dX11_drawn_25 : decode cX11_drawn 25 = .ok (.iload 4, 2) := by decide +kernel
theorem dX11_drawn_27 : decode cX11_drawn 27 = .ok (.iconst 1, 1) := by decide +kernel
theorem dX11_drawn_28 : decode cX11_drawn 28 = .ok (.if_icmp .le 5, 3) := by decide +kernel
theorem dX11_drawn_33 : decode cX11_drawn 33 = .ok (.aload 5, 2) := by decide +kernel
theorem dX11_drawn_35 : decode cX11_drawn 35 = .ok (.invokestatic 192, 3) := by decide +kernel
theorem dX11_drawn_38 : decode cX11_drawn 38 = .ok (.istore 6, 2) := by decide +kernel
theorem dX11_drawn_40 : decode cX11_drawn 40 = .ok (.iload 6, 2) := by decide +kernel
theorem dX11_drawn_42 : decode cX11_drawn 42 = .ok (.ifCond .eq 6, 3) := by decide +kernel
theorem dX11_drawn_45 : decode cX11_drawn 45 = .ok (.iload 6, 2) := by decide +kernel
theorem dX11_drawn_47 : decode cX11_drawn 47 = .ok (.ireturn, 1) := by decide +kernel
set_option maxHeartbeats 4000000 in
set_option maxRecDepth 100000 in
theorem c_drawn_in (l : Launch) (J : va_J9) (a : Nat → Nat) (f : Nat → Option Nat) (sh : Nat) (ce : Nat) (d : Int32) (y : Int32) (x : Int32) (k : Int32) (hd : 0 ≤ d.toInt ∧ d.toInt ≤ 5) (hf : f d.toNatClampNeg = some sh) : RC l J yX11_drawn cX11_drawn 7 (some .int) ({ frames := 2, cells := 0, slots := 0, locals := 40 }) [.ref (a 0), .int d, .int y, .int x, .int k] [((a 0), .inr (11, [.ref (a 1), .ref (a 6), .ref (a 10), .ref (a 15), .ref (a 17), .ref (a 22), .ref (a 23), .ref (a 30), .ref (a 31), .ref (a 34), .int 0, .ref (a 37), .ref (a 40)])), ((a 40), .inl (J.2.2.2, 6, .inr (.inr (.inr (.inr f))))), (sh, .inr (9, [.ref ce, .int 0, .int 0, .int 0, .int 0]))] (vp_Si (fun r => r = sp_drawn (d.toInt) (x.toInt) (k.toInt))) := by
  refine rc_of (by decide) (Nat.le_of_ble_eq_true rfl) ?_
  intro p e s m below meth c ls hE hl hP hK
  obtain ⟨hx, hb, hr, hml, hown, hts, hlk, hin⟩ := hE
  have hown : s.vm.findClass RX11 = some m.cls := hown
  have hl : lv_has ls 7 [(0, .ref (a 0)), (1, .int d), (2, .int y), (3, .int x), (4, .int k)] := hl
  have rg_d := i_rng d
  have rg_y := i_rng y
  have rg_x := i_rng x
  have rg_k := i_rng k
  refine lv_aload_n hx hb dX11_drawn_0 rfl (lv_at hl 0 rfl) ?_
  refine lv_iload_n hx hb dX11_drawn_1 rfl (lv_at hl 1 rfl) ?_
  refine go_a (rn_V (As := [.int d]) (rest := []) hx hb hml hown hts hK (cF_shelfIn l J a f sh d ⟨by omega, by omega⟩ hf) kV_RX11_106 (hP.sub (ws' := [((a 0), .inr (11, [.ref (a 1), .ref (a 6), .ref (a 10), .ref (a 15), .ref (a 17), .ref (a 22), .ref (a 23), .ref (a 30), .ref (a 31), .ref (a 34), .int 0, .ref (a 37), .ref (a 40)])), ((a 40), .inl (J.2.2.2, 6, .inr (.inr (.inr (.inr f)))))]) [0, 1] rfl) rfl rfl rfl ⟨Nat.le_of_ble_eq_true rfl, Nat.le_of_ble_eq_true rfl⟩ rfl rfl rfl hl.1 rfl (Nat.le_of_ble_eq_true rfl) ⟨Nat.le_of_ble_eq_true rfl, Nat.le_of_ble_eq_true rfl⟩ dX11_drawn_2) ?_
  refine top_q (y := sh) rfl ?_
  refine lv_astore (lv' := [(5, .ref sh), (0, .ref (a 0)), (1, .int d), (2, .int y), (3, .int x), (4, .int k)]) hx hb dX11_drawn_5 hl (by decide) rfl (fun ls hl => ?_)
  refine lv_aload hx hb dX11_drawn_7 (lv_at hl 0 rfl) ?_
  refine lv_ifnull hx hb dX11_drawn_9 ?_
  refine lv_aload_n hx hb dX11_drawn_12 rfl (lv_at hl 1 rfl) ?_
  refine lv_iload_n hx hb dX11_drawn_13 rfl (lv_at hl 4 rfl) ?_
  refine go_i (rn_V (As := [.int x]) (rest := []) hx hb hml hown hts hK (cF_isDrawing l J a x) kV_RX11_277 (hP.sub (ws' := [((a 0), .inr (11, [.ref (a 1), .ref (a 6), .ref (a 10), .ref (a 15), .ref (a 17), .ref (a 22), .ref (a 23), .ref (a 30), .ref (a 31), .ref (a 34), .int 0, .ref (a 37), .ref (a 40)]))]) [0] rfl) rfl rfl rfl ⟨Nat.le_of_ble_eq_true rfl, Nat.le_of_ble_eq_true rfl⟩ rfl rfl rfl hl.1 rfl (Nat.le_of_ble_eq_true rfl) ⟨Nat.le_of_ble_eq_true rfl, Nat.le_of_ble_eq_true rfl⟩ dX11_drawn_14) ?_
  refine lv_if_eq (tgt := 31) hx hb dX11_drawn_17 (by decide) (fun c1 => ?_) (fun c1 => ?_)
  · have j2 := b0 c1
    refine lv_iconst (v := (-1)) hx hb dX11_drawn_31 (by decide) ?_
    exact rz_i hx hb hr hlk (by unfold sp_drawn; (repeat' split) <;> first | rfl | (exfalso; omega)) dX11_drawn_32
  · have j3 := b1 c1
    refine lv_iload hx hb dX11_drawn_20 (lv_at hl 5 rfl) ?_
    refine lv_if_lt (tgt := 31) hx hb dX11_drawn_22 (by decide) (fun c4 => ?_) (fun c4 => ?_)
    · have j5 : k.toInt < 0 := (i_lt rfl (by decide)).mp c4
      refine lv_iconst (v := (-1)) hx hb dX11_drawn_31 (by decide) ?_
      exact rz_i hx hb hr hlk (by unfold sp_drawn; (repeat' split) <;> first | rfl | (exfalso; omega)) dX11_drawn_32
    · have j6 : ¬ (k.toInt < 0) := fun h => c4 ((i_lt rfl (by decide)).mpr h)
      refine lv_iload hx hb dX11_drawn_25 (lv_at hl 5 rfl) ?_
      refine lv_iconst (v := 1) hx hb dX11_drawn_27 (by decide) ?_
      refine lv_icmp_le (tgt := 33) hx hb dX11_drawn_28 (by decide) (fun c7 => ?_) (fun c7 => ?_)
      · have j8 : k.toInt ≤ 1 := (i_le rfl (by decide)).mp c7
        refine lv_aload hx hb dX11_drawn_33 (lv_at hl 0 rfl) ?_
        refine go_i (rn_S (As := [.ref sh]) (rest := []) hx hb hml hown hts hK (cF_refusal l J sh ce) kS_RX11_192 (hP.sub (ws' := [(sh, .inr (9, [.ref ce, .int 0, .int 0, .int 0, .int 0]))]) [2] rfl) ⟨Nat.le_of_ble_eq_true rfl, Nat.le_of_ble_eq_true rfl⟩ rfl rfl rfl hl.1 rfl (Nat.le_of_ble_eq_true rfl) ⟨Nat.le_of_ble_eq_true rfl, Nat.le_of_ble_eq_true rfl⟩ dX11_drawn_35) ?_
        refine lv_istore (lv' := [(6, .int (-11)), (5, .ref sh), (0, .ref (a 0)), (1, .int d), (2, .int y), (3, .int x), (4, .int k)]) hx hb dX11_drawn_38 hl (by decide) rfl (fun ls hl => ?_)
        refine lv_iload hx hb dX11_drawn_40 (lv_at hl 0 rfl) ?_
        refine lv_if_eq (tgt := 48) hx hb dX11_drawn_42 (by decide) (fun c => absurd c (by decide)) (fun _ => ?_)
        refine lv_iload hx hb dX11_drawn_45 (lv_at hl 0 rfl) ?_
        exact rz_i hx hb hr hlk (by unfold sp_drawn; (repeat' split) <;> first | rfl | (exfalso; omega)) dX11_drawn_47
      · have j9 : ¬ (k.toInt ≤ 1) := fun h => c7 ((i_le rfl (by decide)).mpr h)
        refine lv_iconst (v := (-1)) hx hb dX11_drawn_31 (by decide) ?_
        exact rz_i hx hb hr hlk (by unfold sp_drawn; (repeat' split) <;> first | rfl | (exfalso; omega)) dX11_drawn_32
set_option maxHeartbeats 4000000 in
set_option maxRecDepth 100000 in
theorem c_drawn_out (l : Launch) (J : va_J9) (a : Nat → Nat) (d : Int32) (y : Int32) (x : Int32) (k : Int32) (hd : ¬ (0 ≤ d.toInt ∧ d.toInt ≤ 5)) : RC l J yX11_drawn cX11_drawn 7 (some .int) ({ frames := 1, cells := 0, slots := 0, locals := 21 }) [.ref (a 0), .int d, .int y, .int x, .int k] [((a 0), .inr (11, [.ref (a 1), .ref (a 6), .ref (a 10), .ref (a 15), .ref (a 17), .ref (a 22), .ref (a 23), .ref (a 30), .ref (a 31), .ref (a 34), .int 0, .ref (a 37), .ref (a 40)]))] (vp_Si (fun r => r = sp_drawn (d.toInt) (x.toInt) (k.toInt))) := by
  refine rc_of (by decide) (Nat.le_of_ble_eq_true rfl) ?_
  intro p e s m below meth c ls hE hl hP hK
  obtain ⟨hx, hb, hr, hml, hown, hts, hlk, hin⟩ := hE
  have hown : s.vm.findClass RX11 = some m.cls := hown
  have hl : lv_has ls 7 [(0, .ref (a 0)), (1, .int d), (2, .int y), (3, .int x), (4, .int k)] := hl
  have rg_d := i_rng d
  have rg_y := i_rng y
  have rg_x := i_rng x
  have rg_k := i_rng k
  refine lv_aload_n hx hb dX11_drawn_0 rfl (lv_at hl 0 rfl) ?_
  refine lv_iload_n hx hb dX11_drawn_1 rfl (lv_at hl 1 rfl) ?_
  refine go_a (rn_V (As := [.int d]) (rest := []) hx hb hml hown hts hK (cF_shelfOut l J a d (by omega)) kV_RX11_106 hP rfl rfl rfl ⟨Nat.le_of_ble_eq_true rfl, Nat.le_of_ble_eq_true rfl⟩ rfl rfl rfl hl.1 rfl (Nat.le_of_ble_eq_true rfl) ⟨Nat.le_of_ble_eq_true rfl, Nat.le_of_ble_eq_true rfl⟩ dX11_drawn_2) ?_
  refine top_n rfl ?_
  refine lv_astoreN (lv' := [(5, .null), (0, .ref (a 0)), (1, .int d), (2, .int y), (3, .int x), (4, .int k)]) hx hb dX11_drawn_5 hl (by decide) rfl (fun ls hl => ?_)
  refine lv_aloadN hx hb dX11_drawn_7 (lv_at hl 0 rfl) ?_
  refine lv_ifnullN (tgt := 31) hx hb dX11_drawn_9 (by decide) ?_
  refine lv_iconst (v := (-1)) hx hb dX11_drawn_31 (by decide) ?_
  exact rz_i hx hb hr hlk (by unfold sp_drawn; (repeat' split) <;> first | rfl | (exfalso; omega)) dX11_drawn_32
theorem dX11_hide_0 : decode cX11_hide 0 = .ok (.aload_n 0, 1) := by decide +kernel
theorem dX11_hide_1 : decode cX11_hide 1 = .ok (.getfield 21, 3) := by decide +kernel
theorem q_1049 : Cond.methodLink RX11 280 yX10_openWeight ∈ lw_g := mem_q 1049 (by decide +kernel) rfl
theorem kV_RX11_280 : CV RX11 280 RX10 yX10_openWeight cX10_openWeight 4 (some .int) 0 := cv_of q_1049 q_1025 q_1026 q_105 q_1027 (by decide +kernel)
theorem dX11_hide_4 : decode cX11_hide 4 = .ok (.invokevirtual 280, 3) := by decide +kernel
theorem dX11_hide_7 : decode cX11_hide 7 = .ok (.ifCond .ne 6, 3) := by decide +kernel
theorem dX11_hide_10 : decode cX11_hide 10 = .ok (.bipush (-5), 2) := by decide +kernel
theorem dX11_hide_12 : decode cX11_hide 12 = .ok (.ireturn, 1) := by decide +kernel
set_option maxHeartbeats 4000000 in
set_option maxRecDepth 100000 in
theorem c_hide (l : Launch) (J : va_J9) (a : Nat → Nat) (x : Int32) : RC l J yX11_hide cX11_hide 2 (some .int) ({ frames := 2, cells := 0, slots := 0, locals := 43 }) [.ref (a 0), .int x] [((a 0), .inr (11, [.ref (a 1), .ref (a 6), .ref (a 10), .ref (a 15), .ref (a 17), .ref (a 22), .ref (a 23), .ref (a 30), .ref (a 31), .ref (a 34), .int 0, .ref (a 37), .ref (a 40)])), ((a 6), .inr (10, [.ref (a 1), .ref (a 7), .ref (a 8), .ref (a 9), .int 0, .int 0, .int 0, .int 0, .int 1, .int 0, .int 0]))] (vp_Si (fun r => r = (-5))) := by
  refine rc_of (by decide) (Nat.le_of_ble_eq_true rfl) ?_
  intro p e s m below meth c ls hE hl hP hK
  obtain ⟨hx, hb, hr, hml, hown, hts, hlk, hin⟩ := hE
  have hown : s.vm.findClass RX11 = some m.cls := hown
  have hl : lv_has ls 2 [(0, .ref (a 0)), (1, .int x)] := hl
  have rg_x := i_rng x
  refine lv_aload_n hx hb dX11_hide_0 rfl (lv_at hl 0 rfl) ?_
  refine va_get (D := J.1) (ci := 11) (v := .ref (a 6)) (C := RX11) (T := TX11) (N := 13) hx hb hts inX11 hown hK.1 hP 0 rfl rfl 1 (by decide) (hts _ q_461) (fun _ h9 => h9) rfl dX11_hide_1 ?_
  refine go_i (rn_V (As := []) (rest := []) hx hb hml hown hts hK (cW_openWeight l J (a 6) (a 1) (a 7) (a 8) (a 9)) kV_RX11_280 (hP.sub (ws' := [((a 6), .inr (10, [.ref (a 1), .ref (a 7), .ref (a 8), .ref (a 9), .int 0, .int 0, .int 0, .int 0, .int 1, .int 0, .int 0]))]) [1] rfl) rfl rfl rfl ⟨Nat.le_of_ble_eq_true rfl, Nat.le_of_ble_eq_true rfl⟩ rfl rfl rfl hl.1 rfl (Nat.le_of_ble_eq_true rfl) ⟨Nat.le_of_ble_eq_true rfl, Nat.le_of_ble_eq_true rfl⟩ dX11_hide_4) ?_
  refine lv_if_ne (tgt := 13) hx hb dX11_hide_7 (by decide) (fun c => absurd c (by decide)) (fun _ => ?_)
  refine lv_bipush (v := (-5)) hx hb dX11_hide_10 (by decide) ?_
  exact rz_i hx hb hr hlk (by decide) dX11_hide_12
theorem dX11_look_0 : decode cX11_look 0 = .ok (.aload_n 0, 1) := by decide +kernel
theorem dX11_look_1 : decode cX11_look 1 = .ok (.iload_n 1, 1) := by decide +kernel
theorem dX11_look_2 : decode cX11_look 2 = .ok (.invokevirtual 121, 3) := by decide +kernel
theorem dX11_look_5 : decode cX11_look 5 = .ok (.ifCond .ne 5, 3) := by decide +kernel
theorem dX11_look_8 : decode cX11_look 8 = .ok (.iconst (-1), 1) := by decide +kernel
theorem dX11_look_9 : decode cX11_look 9 = .ok (.ireturn, 1) := by decide +kernel
set_option maxHeartbeats 4000000 in
set_option maxRecDepth 100000 in
theorem c_look (l : Launch) (J : va_J9) (a : Nat → Nat) (x : Int32) : RC l J yX11_look cX11_look 3 (some .int) ({ frames := 2, cells := 0, slots := 0, locals := 42 }) [.ref (a 0), .int x] [((a 0), .inr (11, [.ref (a 1), .ref (a 6), .ref (a 10), .ref (a 15), .ref (a 17), .ref (a 22), .ref (a 23), .ref (a 30), .ref (a 31), .ref (a 34), .int 0, .ref (a 37), .ref (a 40)])), ((a 6), .inr (10, [.ref (a 1), .ref (a 7), .ref (a 8), .ref (a 9), .int 0, .int 0, .int 0, .int 0, .int 1, .int 0, .int 0]))] (vp_Si (fun r => r = (-1))) := by
  refine rc_of (by decide) (Nat.le_of_ble_eq_true rfl) ?_
  intro p e s m below meth c ls hE hl hP hK
  obtain ⟨hx, hb, hr, hml, hown, hts, hlk, hin⟩ := hE
  have hown : s.vm.findClass RX11 = some m.cls := hown
  have hl : lv_has ls 3 [(0, .ref (a 0)), (1, .int x)] := hl
  have rg_x := i_rng x
  refine lv_aload_n hx hb dX11_look_0 rfl (lv_at hl 0 rfl) ?_
  refine lv_iload_n hx hb dX11_look_1 rfl (lv_at hl 1 rfl) ?_
  refine go_i (rn_V (As := [.int x]) (rest := []) hx hb hml hown hts hK (cF_twoHoles l J a x) kV_RX11_121 hP rfl rfl rfl ⟨Nat.le_of_ble_eq_true rfl, Nat.le_of_ble_eq_true rfl⟩ rfl rfl rfl hl.1 rfl (Nat.le_of_ble_eq_true rfl) ⟨Nat.le_of_ble_eq_true rfl, Nat.le_of_ble_eq_true rfl⟩ dX11_look_2) ?_
  refine lv_if_ne (tgt := 10) hx hb dX11_look_5 (by decide) (fun c => absurd c (by decide)) (fun _ => ?_)
  refine lv_iconst (v := (-1)) hx hb dX11_look_8 (by decide) ?_
  exact rz_i hx hb hr hlk (by decide) dX11_look_9
theorem dX11_image_0 : decode cX11_image 0 = .ok (.aload_n 0, 1) := by decide +kernel
theorem q_469 : Cond.fieldLink RX11 78 RX11 "picture" "LFoxHoles$Deed;" ∈ lw_g := mem_q 469 (by decide +kernel) rfl
theorem dX11_image_1 : decode cX11_image 1 = .ok (.getfield 78, 3) := by decide +kernel
theorem dX11_image_4 : decode cX11_image 4 = .ok (.aload_n 0, 1) := by decide +kernel
theorem dX11_image_5 : decode cX11_image 5 = .ok (.getfield 74, 3) := by decide +kernel
theorem q_1110 : Cond.methodLink RX11 309 yX3_copy ∈ lw_g := mem_q 1110 (by decide +kernel) rfl
theorem q_1111 : Cond.instanceMethod yX3_copy ∈ lw_g := mem_q 1111 (by decide +kernel) rfl
theorem q_1112 : Cond.selects RX3 yX3_copy yX3_copy ∈ lw_g := mem_q 1112 (by decide +kernel) rfl
theorem q_112 : Cond.initialized RX3 ∈ lw_g := mem_q 112 (by decide +kernel) rfl
theorem q_1113 : Cond.code yX3_copy cX3_copy 2 none ∈ lw_g := mem_q 1113 (by decide +kernel) rfl
theorem kV_RX11_309 : CV RX11 309 RX3 yX3_copy cX3_copy 2 none 1 := cv_of q_1110 q_1111 q_1112 q_112 q_1113 (by decide +kernel)
theorem dX11_image_8 : decode cX11_image 8 = .ok (.invokevirtual 309, 3) := by decide +kernel
theorem dX11_image_11 : decode cX11_image 11 = .ok (.aload_n 0, 1) := by decide +kernel
theorem dX11_image_12 : decode cX11_image 12 = .ok (.iconst 1, 1) := by decide +kernel
theorem q_470 : Cond.fieldLink RX11 313 RX11 "pictured" "Z" ∈ lw_g := mem_q 470 (by decide +kernel) rfl
theorem dX11_image_13 : decode cX11_image 13 = .ok (.putfield 313, 3) := by decide +kernel
theorem dX11_image_16 : decode cX11_image 16 = .ok (.aload_n 0, 1) := by decide +kernel
theorem dX11_image_17 : decode cX11_image 17 = .ok (.getfield 74, 3) := by decide +kernel
theorem q_1115 : Cond.methodLink RX11 316 yX3_dayIfHidden ∈ lw_g := mem_q 1115 (by decide +kernel) rfl
theorem q_1116 : Cond.instanceMethod yX3_dayIfHidden ∈ lw_g := mem_q 1116 (by decide +kernel) rfl
theorem q_1117 : Cond.selects RX3 yX3_dayIfHidden yX3_dayIfHidden ∈ lw_g := mem_q 1117 (by decide +kernel) rfl
theorem q_1118 : Cond.code yX3_dayIfHidden cX3_dayIfHidden 1 (some .int) ∈ lw_g := mem_q 1118 (by decide +kernel) rfl
theorem kV_RX11_316 : CV RX11 316 RX3 yX3_dayIfHidden cX3_dayIfHidden 1 (some .int) 0 := cv_of q_1115 q_1116 q_1117 q_112 q_1118 (by decide +kernel)
theorem dX11_image_20 : decode cX11_image 20 = .ok (.invokevirtual 316, 3) := by decide +kernel
theorem dX11_image_23 : decode cX11_image 23 = .ok (.ireturn, 1) := by decide +kernel
set_option maxHeartbeats 4000000 in
set_option maxRecDepth 100000 in
theorem c_image (l : Launch) (J : va_J9) (sz : Nat) (a : Nat → Nat) : WC l J yX11_image cX11_image 1 (some .int) ({ frames := 2, cells := 0, slots := 0, locals := 101 }) [.ref (a 0)] [((a 0), .inr (11, [.ref (a 1), .ref (a 6), .ref (a 10), .ref (a 15), .ref (a 17), .ref (a 22), .ref (a 23), .ref (a 30), .ref (a 31), .ref (a 34), .int 0, .ref (a 37), .ref (a 40)])), ((a 34), .inr (3, [.ref (a 6), .ref (a 35), .ref (a 36), .int 0, .int 0, .int 0, .int 0, .int 0])), ((a 31), .inr (3, [.ref (a 6), .ref (a 32), .ref (a 33), .int 0, .int 0, .int 0, .int 0, .int 0])), ((a 35), .inr (4, [.ref (a 6), .int 0])), ((a 32), .inr (4, [.ref (a 6), .int 0])), ((a 36), .inl (J.2.1, 10, .inl (fun _ => 0))), ((a 33), .inl (J.2.1, 10, .inl (fun _ => 0)))] sz (Qi J (fun (r : Int32) (_ : Unit) => r = (-2)) (fun (_ : Unit) => [])) 0 0 := by
  refine wc_of (by decide) (Nat.le_of_ble_eq_true rfl) ?_
  intro p e s m below meth c ls A hE hl hP hK hD hS hA
  obtain ⟨hx, hb, hr, hml, hown, hts, hlk, hin⟩ := hE
  have hown : s.vm.findClass RX11 = some m.cls := hown
  have hl : lv_has ls 1 [(0, .ref (a 0))] := hl
  refine lv_aload_n hx hb dX11_image_0 rfl (lv_at hl 0 rfl) ?_
  refine va_get (D := J.1) (ci := 11) (v := .ref (a 34)) (C := RX11) (T := TX11) (N := 13) hx hb hts inX11 hown hK.1 hP 0 rfl rfl 9 (by decide) (hts _ q_469) (fun _ h9 => h9) rfl dX11_image_1 ?_
  refine lv_aload_n hx hb dX11_image_4 rfl (lv_at hl 0 rfl) ?_
  refine va_get (D := J.1) (ci := 11) (v := .ref (a 31)) (C := RX11) (T := TX11) (N := 13) hx hb hts inX11 hown hK.1 hP 0 rfl rfl 8 (by decide) (hts _ q_468) (fun _ h9 => h9) rfl dX11_image_5 ?_
  refine gw_v (wc := [((a 34), .inr (3, [.ref (a 6), .ref (a 35), .ref (a 36), .int 0, .int 0, .int 0, .int 0, .int 0])), ((a 31), .inr (3, [.ref (a 6), .ref (a 32), .ref (a 33), .int 0, .int 0, .int 0, .int 0, .int 0])), ((a 35), .inr (4, [.ref (a 6), .int 0])), ((a 32), .inr (4, [.ref (a 6), .int 0])), ((a 36), .inl (J.2.1, 10, .inl (fun _ => 0))), ((a 33), .inl (J.2.1, 10, .inl (fun _ => 0)))]) (wr := [((a 0), .inr (11, [.ref (a 1), .ref (a 6), .ref (a 10), .ref (a 15), .ref (a 17), .ref (a 22), .ref (a 23), .ref (a 30), .ref (a 31), .ref (a 34), .int 0, .ref (a 37), .ref (a 40)]))]) hP hD hS hA [1, 2, 3, 4, 5, 6] [0] rfl rfl (by decide) (by decide) (wn_V (As := [.ref (a 31)]) (rest := []) hx hb hml hown hts hK (cD_copy l J _ (a 34) (a 31) (a 6) (a 35) (a 36) (a 32) (a 33)) kV_RX11_309 (hP.sub (ws' := [((a 34), .inr (3, [.ref (a 6), .ref (a 35), .ref (a 36), .int 0, .int 0, .int 0, .int 0, .int 0])), ((a 31), .inr (3, [.ref (a 6), .ref (a 32), .ref (a 33), .int 0, .int 0, .int 0, .int 0, .int 0])), ((a 35), .inr (4, [.ref (a 6), .int 0])), ((a 32), .inr (4, [.ref (a 6), .int 0])), ((a 36), .inl (J.2.1, 10, .inl (fun _ => 0))), ((a 33), .inl (J.2.1, 10, .inl (fun _ => 0)))]) [1, 2, 3, 4, 5, 6] rfl) ((hD.sub (ws' := [((a 34), .inr (3, [.ref (a 6), .ref (a 35), .ref (a 36), .int 0, .int 0, .int 0, .int 0, .int 0])), ((a 31), .inr (3, [.ref (a 6), .ref (a 32), .ref (a 33), .int 0, .int 0, .int 0, .int 0, .int 0])), ((a 35), .inr (4, [.ref (a 6), .int 0])), ((a 32), .inr (4, [.ref (a 6), .int 0])), ((a 36), .inl (J.2.1, 10, .inl (fun _ => 0))), ((a 33), .inl (J.2.1, 10, .inl (fun _ => 0)))]) [1, 2, 3, 4, 5, 6] (by decide) rfl).weaken (fun _ _ _ _ => trivial)) rfl rfl rfl ⟨Nat.le_of_ble_eq_true rfl, Nat.le_of_ble_eq_true rfl⟩ rfl rfl rfl hl.1 rfl (Nat.le_of_ble_eq_true rfl) ⟨Nat.le_of_ble_eq_true rfl, Nat.le_of_ble_eq_true rfl⟩ dX11_image_8) (fun u1 H locs hw hP hD hS => ?_)
  have hP : va_P J.1 cls [((a 0), .inr (11, [.ref (a 1), .ref (a 6), .ref (a 10), .ref (a 15), .ref (a 17), .ref (a 22), .ref (a 23), .ref (a 30), .ref (a 31), .ref (a 34), .int 0, .ref (a 37), .ref (a 40)])), ((a 31), .inr (3, [.ref (a 6), .ref (a 32), .ref (a 33), .int 0, .int 0, .int 0, .int 0, .int 0]))] H := hP
  have hD : va_D A [((a 0), .inr (11, [.ref (a 1), .ref (a 6), .ref (a 10), .ref (a 15), .ref (a 17), .ref (a 22), .ref (a 23), .ref (a 30), .ref (a 31), .ref (a 34), .int 0, .ref (a 37), .ref (a 40)])), ((a 31), .inr (3, [.ref (a 6), .ref (a 32), .ref (a 33), .int 0, .int 0, .int 0, .int 0, .int 0]))] := hD
  refine W.widen (k := 0) (n := 0) (Nat.le_of_ble_eq_true rfl) (Nat.le_of_ble_eq_true rfl) ?_
  refine lv_aload_n hx hb dX11_image_11 rfl (lv_at hl 0 rfl) ?_
  refine lv_iconst (v := 1) hx hb dX11_image_12 (by decide) ?_
  refine va_put (D := J.1) (ci := 11) (v := .int 1) (ty := (.boolean)) (C := RX11) (T := TX11) (N := 13) hx hb hts inX11 tyX11 tyX11_ok nmX11 hown hK.1 hP hD hS 0 rfl rfl 10 (by decide) (hts _ q_470) (fun _ h9 => h9) rfl (by decide +kernel) rfl rfl (Nat.le_of_ble_eq_true rfl) dX11_image_13 (fun H locs hP hD hS => ?_)
  have hP : va_P J.1 cls [((a 0), .inr (11, [.ref (a 1), .ref (a 6), .ref (a 10), .ref (a 15), .ref (a 17), .ref (a 22), .ref (a 23), .ref (a 30), .ref (a 31), .ref (a 34), .int 1, .ref (a 37), .ref (a 40)])), ((a 31), .inr (3, [.ref (a 6), .ref (a 32), .ref (a 33), .int 0, .int 0, .int 0, .int 0, .int 0]))] H := hP
  have hD : va_D A [((a 0), .inr (11, [.ref (a 1), .ref (a 6), .ref (a 10), .ref (a 15), .ref (a 17), .ref (a 22), .ref (a 23), .ref (a 30), .ref (a 31), .ref (a 34), .int 1, .ref (a 37), .ref (a 40)])), ((a 31), .inr (3, [.ref (a 6), .ref (a 32), .ref (a 33), .int 0, .int 0, .int 0, .int 0, .int 0]))] := hD
  refine lv_aload_n hx hb dX11_image_16 rfl (lv_at hl 0 rfl) ?_
  refine va_get (D := J.1) (ci := 11) (v := .ref (a 31)) (C := RX11) (T := TX11) (N := 13) hx hb hts inX11 hown hK.1 hP 0 rfl rfl 8 (by decide) (hts _ q_468) (fun _ h9 => h9) rfl dX11_image_17 ?_
  refine go_i (rn_V (As := []) (rest := []) hx hb hml hown hts hK (cD_day l J (a 31) (a 6) (a 32) (a 33)) kV_RX11_316 (hP.sub (ws' := [((a 31), .inr (3, [.ref (a 6), .ref (a 32), .ref (a 33), .int 0, .int 0, .int 0, .int 0, .int 0]))]) [1] rfl) rfl rfl rfl ⟨Nat.le_of_ble_eq_true rfl, Nat.le_of_ble_eq_true rfl⟩ rfl rfl rfl hl.1 rfl (Nat.le_of_ble_eq_true rfl) ⟨Nat.le_of_ble_eq_true rfl, Nat.le_of_ble_eq_true rfl⟩ dX11_image_20) ?_
  exact wz_i () hx hb hr hlk (by decide) (hP.sub (ws' := []) [] rfl) (hD.sub (ws' := []) [] (by decide) rfl) hS dX11_image_23
theorem dX11_back_0 : decode cX11_back 0 = .ok (.aload_n 0, 1) := by decide +kernel
theorem dX11_back_1 : decode cX11_back 1 = .ok (.getfield 313, 3) := by decide +kernel
theorem dX11_back_4 : decode cX11_back 4 = .ok (.ifCond .ne 6, 3) := by decide +kernel
theorem dX11_back_7 : decode cX11_back 7 = .ok (.bipush (-5), 2) := by decide +kernel
theorem dX11_back_9 : decode cX11_back 9 = .ok (.ireturn, 1) := by decide +kernel
set_option maxHeartbeats 4000000 in
set_option maxRecDepth 100000 in
theorem c_back (l : Launch) (J : va_J9) (a : Nat → Nat) : RC l J yX11_back cX11_back 1 (some .int) ({ frames := 0, cells := 0, slots := 0, locals := 0 }) [.ref (a 0)] [((a 0), .inr (11, [.ref (a 1), .ref (a 6), .ref (a 10), .ref (a 15), .ref (a 17), .ref (a 22), .ref (a 23), .ref (a 30), .ref (a 31), .ref (a 34), .int 0, .ref (a 37), .ref (a 40)]))] (vp_Si (fun r => r = (-5))) := by
  refine rc_of (by decide) (Nat.le_of_ble_eq_true rfl) ?_
  intro p e s m below meth c ls hE hl hP hK
  obtain ⟨hx, hb, hr, hml, hown, hts, hlk, hin⟩ := hE
  have hown : s.vm.findClass RX11 = some m.cls := hown
  have hl : lv_has ls 1 [(0, .ref (a 0))] := hl
  refine lv_aload_n hx hb dX11_back_0 rfl (lv_at hl 0 rfl) ?_
  refine va_get (D := J.1) (ci := 11) (v := .int 0) (C := RX11) (T := TX11) (N := 13) hx hb hts inX11 hown hK.1 hP 0 rfl rfl 10 (by decide) (hts _ q_470) (fun _ h9 => h9) rfl dX11_back_1 ?_
  refine lv_if_ne (tgt := 10) hx hb dX11_back_4 (by decide) (fun c => absurd c (by decide)) (fun _ => ?_)
  refine lv_bipush (v := (-5)) hx hb dX11_back_7 (by decide) ?_
  exact rz_i hx hb hr hlk (by decide) dX11_back_9
theorem dX11_undo_0 : decode cX11_undo 0 = .ok (.aload_n 0, 1) := by decide +kernel
theorem dX11_undo_1 : decode cX11_undo 1 = .ok (.getfield 30, 3) := by decide +kernel
theorem q_1127 : Cond.methodLink RX11 319 yX2_takeBack ∈ lw_g := mem_q 1127 (by decide +kernel) rfl
theorem q_1128 : Cond.instanceMethod yX2_takeBack ∈ lw_g := mem_q 1128 (by decide +kernel) rfl
theorem q_1129 : Cond.selects RX2 yX2_takeBack yX2_takeBack ∈ lw_g := mem_q 1129 (by decide +kernel) rfl
theorem q_1130 : Cond.code yX2_takeBack cX2_takeBack 1 (some .int) ∈ lw_g := mem_q 1130 (by decide +kernel) rfl
theorem kV_RX11_319 : CV RX11 319 RX2 yX2_takeBack cX2_takeBack 1 (some .int) 0 := cv_of q_1127 q_1128 q_1129 q_106 q_1130 (by decide +kernel)
theorem dX11_undo_4 : decode cX11_undo 4 = .ok (.invokevirtual 319, 3) := by decide +kernel
theorem dX11_undo_7 : decode cX11_undo 7 = .ok (.istore_n 1, 1) := by decide +kernel
theorem dX11_undo_8 : decode cX11_undo 8 = .ok (.aload_n 0, 1) := by decide +kernel
theorem dX11_undo_9 : decode cX11_undo 9 = .ok (.getfield 21, 3) := by decide +kernel
theorem dX11_undo_12 : decode cX11_undo 12 = .ok (.invokevirtual 103, 3) := by decide +kernel
theorem dX11_undo_15 : decode cX11_undo 15 = .ok (.iload_n 1, 1) := by decide +kernel
theorem dX11_undo_16 : decode cX11_undo 16 = .ok (.ireturn, 1) := by decide +kernel
set_option maxHeartbeats 4000000 in
set_option maxRecDepth 100000 in
theorem c_undo (l : Launch) (J : va_J9) (a : Nat → Nat) : RC l J yX11_undo cX11_undo 2 (some .int) ({ frames := 1, cells := 0, slots := 0, locals := 23 }) [.ref (a 0)] [((a 0), .inr (11, [.ref (a 1), .ref (a 6), .ref (a 10), .ref (a 15), .ref (a 17), .ref (a 22), .ref (a 23), .ref (a 30), .ref (a 31), .ref (a 34), .int 0, .ref (a 37), .ref (a 40)])), ((a 10), .inr (2, [.ref (a 6), .ref (a 11), .ref (a 12), .ref (a 13), .ref (a 14), .int 0, .int 0])), ((a 6), .inr (10, [.ref (a 1), .ref (a 7), .ref (a 8), .ref (a 9), .int 0, .int 0, .int 0, .int 0, .int 1, .int 0, .int 0]))] (vp_Si (fun r => r = (-5))) := by
  refine rc_of (by decide) (Nat.le_of_ble_eq_true rfl) ?_
  intro p e s m below meth c ls hE hl hP hK
  obtain ⟨hx, hb, hr, hml, hown, hts, hlk, hin⟩ := hE
  have hown : s.vm.findClass RX11 = some m.cls := hown
  have hl : lv_has ls 2 [(0, .ref (a 0))] := hl
  refine lv_aload_n hx hb dX11_undo_0 rfl (lv_at hl 0 rfl) ?_
  refine va_get (D := J.1) (ci := 11) (v := .ref (a 10)) (C := RX11) (T := TX11) (N := 13) hx hb hts inX11 hown hK.1 hP 0 rfl rfl 2 (by decide) (hts _ q_462) (fun _ h9 => h9) rfl dX11_undo_1 ?_
  refine go_i (rn_V (As := []) (rest := []) hx hb hml hown hts hK (cC_takeBack l J (a 10) (a 6) (a 11) (a 12) (a 13) (a 14)) kV_RX11_319 (hP.sub (ws' := [((a 10), .inr (2, [.ref (a 6), .ref (a 11), .ref (a 12), .ref (a 13), .ref (a 14), .int 0, .int 0]))]) [1] rfl) rfl rfl rfl ⟨Nat.le_of_ble_eq_true rfl, Nat.le_of_ble_eq_true rfl⟩ rfl rfl rfl hl.1 rfl (Nat.le_of_ble_eq_true rfl) ⟨Nat.le_of_ble_eq_true rfl, Nat.le_of_ble_eq_true rfl⟩ dX11_undo_4) ?_
  refine lv_istore_n (lv' := [(1, .int (-5)), (0, .ref (a 0))]) hx hb dX11_undo_7 rfl hl (by decide) rfl (fun ls hl => ?_)
  refine lv_aload_n hx hb dX11_undo_8 rfl (lv_at hl 1 rfl) ?_
  refine va_get (D := J.1) (ci := 11) (v := .ref (a 6)) (C := RX11) (T := TX11) (N := 13) hx hb hts inX11 hown hK.1 hP 0 rfl rfl 1 (by decide) (hts _ q_461) (fun _ h9 => h9) rfl dX11_undo_9 ?_
  refine go_v (rn_V (As := []) (rest := []) hx hb hml hown hts hK (cW_settle0 l J (a 6) (a 1) (a 7) (a 8) (a 9) 0 0 0 1 0 0) kV_RX11_103 (hP.sub (ws' := [((a 6), .inr (10, [.ref (a 1), .ref (a 7), .ref (a 8), .ref (a 9), .int 0, .int 0, .int 0, .int 0, .int 1, .int 0, .int 0]))]) [2] rfl) rfl rfl rfl ⟨Nat.le_of_ble_eq_true rfl, Nat.le_of_ble_eq_true rfl⟩ rfl rfl rfl hl.1 rfl (Nat.le_of_ble_eq_true rfl) ⟨Nat.le_of_ble_eq_true rfl, Nat.le_of_ble_eq_true rfl⟩ dX11_undo_12) ?_
  refine lv_iload_n hx hb dX11_undo_15 rfl (lv_at hl 0 rfl) ?_
  exact rz_i hx hb hr hlk (by decide) dX11_undo_16
theorem dX11_redo_0 : decode cX11_redo 0 = .ok (.aload_n 0, 1) := by decide +kernel
theorem dX11_redo_1 : decode cX11_redo 1 = .ok (.getfield 30, 3) := by decide +kernel
theorem q_1136 : Cond.methodLink RX11 322 yX2_doAgain ∈ lw_g := mem_q 1136 (by decide +kernel) rfl
theorem q_1137 : Cond.instanceMethod yX2_doAgain ∈ lw_g := mem_q 1137 (by decide +kernel) rfl
theorem q_1138 : Cond.selects RX2 yX2_doAgain yX2_doAgain ∈ lw_g := mem_q 1138 (by decide +kernel) rfl
theorem q_1139 : Cond.code yX2_doAgain cX2_doAgain 1 (some .int) ∈ lw_g := mem_q 1139 (by decide +kernel) rfl
theorem kV_RX11_322 : CV RX11 322 RX2 yX2_doAgain cX2_doAgain 1 (some .int) 0 := cv_of q_1136 q_1137 q_1138 q_106 q_1139 (by decide +kernel)
theorem dX11_redo_4 : decode cX11_redo 4 = .ok (.invokevirtual 322, 3) := by decide +kernel
theorem dX11_redo_7 : decode cX11_redo 7 = .ok (.istore_n 1, 1) := by decide +kernel
theorem dX11_redo_8 : decode cX11_redo 8 = .ok (.aload_n 0, 1) := by decide +kernel
theorem dX11_redo_9 : decode cX11_redo 9 = .ok (.getfield 21, 3) := by decide +kernel
theorem dX11_redo_12 : decode cX11_redo 12 = .ok (.invokevirtual 103, 3) := by decide +kernel
theorem dX11_redo_15 : decode cX11_redo 15 = .ok (.iload_n 1, 1) := by decide +kernel
theorem dX11_redo_16 : decode cX11_redo 16 = .ok (.ireturn, 1) := by decide +kernel
set_option maxHeartbeats 4000000 in
set_option maxRecDepth 100000 in
theorem c_redo (l : Launch) (J : va_J9) (a : Nat → Nat) : RC l J yX11_redo cX11_redo 2 (some .int) ({ frames := 1, cells := 0, slots := 0, locals := 23 }) [.ref (a 0)] [((a 0), .inr (11, [.ref (a 1), .ref (a 6), .ref (a 10), .ref (a 15), .ref (a 17), .ref (a 22), .ref (a 23), .ref (a 30), .ref (a 31), .ref (a 34), .int 0, .ref (a 37), .ref (a 40)])), ((a 10), .inr (2, [.ref (a 6), .ref (a 11), .ref (a 12), .ref (a 13), .ref (a 14), .int 0, .int 0])), ((a 6), .inr (10, [.ref (a 1), .ref (a 7), .ref (a 8), .ref (a 9), .int 0, .int 0, .int 0, .int 0, .int 1, .int 0, .int 0]))] (vp_Si (fun r => r = (-5))) := by
  refine rc_of (by decide) (Nat.le_of_ble_eq_true rfl) ?_
  intro p e s m below meth c ls hE hl hP hK
  obtain ⟨hx, hb, hr, hml, hown, hts, hlk, hin⟩ := hE
  have hown : s.vm.findClass RX11 = some m.cls := hown
  have hl : lv_has ls 2 [(0, .ref (a 0))] := hl
  refine lv_aload_n hx hb dX11_redo_0 rfl (lv_at hl 0 rfl) ?_
  refine va_get (D := J.1) (ci := 11) (v := .ref (a 10)) (C := RX11) (T := TX11) (N := 13) hx hb hts inX11 hown hK.1 hP 0 rfl rfl 2 (by decide) (hts _ q_462) (fun _ h9 => h9) rfl dX11_redo_1 ?_
  refine go_i (rn_V (As := []) (rest := []) hx hb hml hown hts hK (cC_doAgain l J (a 10) (a 6) (a 11) (a 12) (a 13) (a 14)) kV_RX11_322 (hP.sub (ws' := [((a 10), .inr (2, [.ref (a 6), .ref (a 11), .ref (a 12), .ref (a 13), .ref (a 14), .int 0, .int 0]))]) [1] rfl) rfl rfl rfl ⟨Nat.le_of_ble_eq_true rfl, Nat.le_of_ble_eq_true rfl⟩ rfl rfl rfl hl.1 rfl (Nat.le_of_ble_eq_true rfl) ⟨Nat.le_of_ble_eq_true rfl, Nat.le_of_ble_eq_true rfl⟩ dX11_redo_4) ?_
  refine lv_istore_n (lv' := [(1, .int (-5)), (0, .ref (a 0))]) hx hb dX11_redo_7 rfl hl (by decide) rfl (fun ls hl => ?_)
  refine lv_aload_n hx hb dX11_redo_8 rfl (lv_at hl 1 rfl) ?_
  refine va_get (D := J.1) (ci := 11) (v := .ref (a 6)) (C := RX11) (T := TX11) (N := 13) hx hb hts inX11 hown hK.1 hP 0 rfl rfl 1 (by decide) (hts _ q_461) (fun _ h9 => h9) rfl dX11_redo_9 ?_
  refine go_v (rn_V (As := []) (rest := []) hx hb hml hown hts hK (cW_settle0 l J (a 6) (a 1) (a 7) (a 8) (a 9) 0 0 0 1 0 0) kV_RX11_103 (hP.sub (ws' := [((a 6), .inr (10, [.ref (a 1), .ref (a 7), .ref (a 8), .ref (a 9), .int 0, .int 0, .int 0, .int 0, .int 1, .int 0, .int 0]))]) [2] rfl) rfl rfl rfl ⟨Nat.le_of_ble_eq_true rfl, Nat.le_of_ble_eq_true rfl⟩ rfl rfl rfl hl.1 rfl (Nat.le_of_ble_eq_true rfl) ⟨Nat.le_of_ble_eq_true rfl, Nat.le_of_ble_eq_true rfl⟩ dX11_redo_12) ?_
  refine lv_iload_n hx hb dX11_redo_15 rfl (lv_at hl 0 rfl) ?_
  exact rz_i hx hb hr hlk (by decide) dX11_redo_16
theorem dX11_body_0 : decode cX11_body 0 = .ok (.aload_n 0, 1) := by decide +kernel
theorem q_471 : Cond.fieldLink RX11 84 RX11 "bodies" "LFoxHoles$Bodies;" ∈ lw_g := mem_q 471 (by decide +kernel) rfl
theorem dX11_body_1 : decode cX11_body 1 = .ok (.getfield 84, 3) := by decide +kernel
theorem dX11_body_4 : decode cX11_body 4 = .ok (.iload_n 1, 1) := by decide +kernel
theorem q_1144 : Cond.methodLink RX11 325 yX0_isKind ∈ lw_g := mem_q 1144 (by decide +kernel) rfl
theorem q_1145 : Cond.instanceMethod yX0_isKind ∈ lw_g := mem_q 1145 (by decide +kernel) rfl
theorem q_1146 : Cond.selects RX0 yX0_isKind yX0_isKind ∈ lw_g := mem_q 1146 (by decide +kernel) rfl
theorem q_1147 : Cond.code yX0_isKind cX0_isKind 2 (some .boolean) ∈ lw_g := mem_q 1147 (by decide +kernel) rfl
theorem kV_RX11_325 : CV RX11 325 RX0 yX0_isKind cX0_isKind 2 (some .boolean) 1 := cv_of q_1144 q_1145 q_1146 q_113 q_1147 (by decide +kernel)
theorem dX11_body_5 : decode cX11_body 5 = .ok (.invokevirtual 325, 3) := by decide +kernel
theorem dX11_body_8 : decode cX11_body 8 = .ok (.ifCond .eq 14, 3) := by decide +kernel
theorem dX11_body_22 : decode cX11_body 22 = .ok (.iconst (-1), 1) := by decide +kernel
theorem dX11_body_23 : decode cX11_body 23 = .ok (.ireturn, 1) := by decide +kernel
theorem dX11_body_11 : decode cX11_body 11 = .ok (.aload_n 0, 1) := by decide +kernel
theorem dX11_body_12 : decode cX11_body 12 = .ok (.getfield 84, 3) := by decide +kernel
theorem dX11_body_15 : decode cX11_body 15 = .ok (.iload_n 1, 1) := by decide +kernel
theorem q_1148 : Cond.methodLink RX11 328 yX0_add ∈ lw_g := mem_q 1148 (by decide +kernel) rfl
theorem q_1149 : Cond.instanceMethod yX0_add ∈ lw_g := mem_q 1149 (by decide +kernel) rfl
theorem q_1150 : Cond.selects RX0 yX0_add yX0_add ∈ lw_g := mem_q 1150 (by decide +kernel) rfl
theorem q_1151 : Cond.code yX0_add cX0_add 2 (some .int) ∈ lw_g := mem_q 1151 (by decide +kernel) rfl
theorem kV_RX11_328 : CV RX11 328 RX0 yX0_add cX0_add 2 (some .int) 1 := cv_of q_1148 q_1149 q_1150 q_113 q_1151 (by decide +kernel)
theorem dX11_body_16 : decode cX11_body 16 = .ok (.invokevirtual 328, 3) := by decide +kernel
theorem dX11_body_19 : decode cX11_body 19 = .ok (.goto 4, 3) := by decide +kernel
set_option maxHeartbeats 4000000 in
set_option maxRecDepth 100000 in
theorem c_body (l : Launch) (J : va_J9) (sz : Nat) (a : Nat → Nat) (x : Int32) : WC l J yX11_body cX11_body 2 (some .int) ({ frames := 1, cells := 0, slots := 0, locals := 21 }) [.ref (a 0), .int x] [((a 0), .inr (11, [.ref (a 1), .ref (a 6), .ref (a 10), .ref (a 15), .ref (a 17), .ref (a 22), .ref (a 23), .ref (a 30), .ref (a 31), .ref (a 34), .int 0, .ref (a 37), .ref (a 40)])), ((a 37), .inr (0, [.ref (a 38), .int 0, .ref (a 39), .int 0])), ((a 38), .inl (J.2.1, 50, .inl (fun _ => 0)))] sz (Qi J (fun (r : Int32) (_ : Unit) => r = sp_body (x.toInt)) (fun (_ : Unit) => [])) 0 0 := by
  refine wc_of (by decide) (Nat.le_of_ble_eq_true rfl) ?_
  intro p e s m below meth c ls A hE hl hP hK hD hS hA
  obtain ⟨hx, hb, hr, hml, hown, hts, hlk, hin⟩ := hE
  have hown : s.vm.findClass RX11 = some m.cls := hown
  have hl : lv_has ls 2 [(0, .ref (a 0)), (1, .int x)] := hl
  have rg_x := i_rng x
  refine lv_aload_n hx hb dX11_body_0 rfl (lv_at hl 0 rfl) ?_
  refine va_get (D := J.1) (ci := 11) (v := .ref (a 37)) (C := RX11) (T := TX11) (N := 13) hx hb hts inX11 hown hK.1 hP 0 rfl rfl 11 (by decide) (hts _ q_471) (fun _ h9 => h9) rfl dX11_body_1 ?_
  refine lv_iload_n hx hb dX11_body_4 rfl (lv_at hl 1 rfl) ?_
  refine go_i (rn_V (As := [.int x]) (rest := []) hx hb hml hown hts hK (cB_isKind l J (a 37) (a 38) (a 39) x) kV_RX11_325 (hP.sub (ws' := [((a 37), .inr (0, [.ref (a 38), .int 0, .ref (a 39), .int 0]))]) [1] rfl) rfl rfl rfl ⟨Nat.le_of_ble_eq_true rfl, Nat.le_of_ble_eq_true rfl⟩ rfl rfl rfl hl.1 rfl (Nat.le_of_ble_eq_true rfl) ⟨Nat.le_of_ble_eq_true rfl, Nat.le_of_ble_eq_true rfl⟩ dX11_body_5) ?_
  refine lv_if_eq (tgt := 22) hx hb dX11_body_8 (by decide) (fun c1 => ?_) (fun c1 => ?_)
  · have j2 := b0 c1
    refine lv_iconst (v := (-1)) hx hb dX11_body_22 (by decide) ?_
    exact wz_i () hx hb hr hlk (by unfold sp_body; (repeat' split) <;> first | rfl | (exfalso; omega)) (hP.sub (ws' := []) [] rfl) (hD.sub (ws' := []) [] (by decide) rfl) hS dX11_body_23
  · have j3 := b1 c1
    refine lv_aload_n hx hb dX11_body_11 rfl (lv_at hl 0 rfl) ?_
    refine va_get (D := J.1) (ci := 11) (v := .ref (a 37)) (C := RX11) (T := TX11) (N := 13) hx hb hts inX11 hown hK.1 hP 0 rfl rfl 11 (by decide) (hts _ q_471) (fun _ h9 => h9) rfl dX11_body_12 ?_
    refine lv_iload_n hx hb dX11_body_15 rfl (lv_at hl 1 rfl) ?_
    refine gw_i (wc := [((a 37), .inr (0, [.ref (a 38), .int 0, .ref (a 39), .int 0])), ((a 38), .inl (J.2.1, 50, .inl (fun _ => 0)))]) (wr := [((a 0), .inr (11, [.ref (a 1), .ref (a 6), .ref (a 10), .ref (a 15), .ref (a 17), .ref (a 22), .ref (a 23), .ref (a 30), .ref (a 31), .ref (a 34), .int 0, .ref (a 37), .ref (a 40)]))]) hP hD hS hA [1, 2] [0] rfl rfl (by decide) (by decide) (wn_V (As := [.int x]) (rest := []) hx hb hml hown hts hK (cB_add l J _ (a 37) (a 38) (a 39) x) kV_RX11_328 (hP.sub (ws' := [((a 37), .inr (0, [.ref (a 38), .int 0, .ref (a 39), .int 0])), ((a 38), .inl (J.2.1, 50, .inl (fun _ => 0)))]) [1, 2] rfl) ((hD.sub (ws' := [((a 37), .inr (0, [.ref (a 38), .int 0, .ref (a 39), .int 0])), ((a 38), .inl (J.2.1, 50, .inl (fun _ => 0)))]) [1, 2] (by decide) rfl).weaken (fun _ _ _ _ => trivial)) rfl rfl rfl ⟨Nat.le_of_ble_eq_true rfl, Nat.le_of_ble_eq_true rfl⟩ rfl rfl rfl hl.1 rfl (Nat.le_of_ble_eq_true rfl) ⟨Nat.le_of_ble_eq_true rfl, Nat.le_of_ble_eq_true rfl⟩ dX11_body_16) (fun r5 u4 H locs hw hP hD hS => ?_)
    subst hw
    have hP : va_P J.1 cls [((a 0), .inr (11, [.ref (a 1), .ref (a 6), .ref (a 10), .ref (a 15), .ref (a 17), .ref (a 22), .ref (a 23), .ref (a 30), .ref (a 31), .ref (a 34), .int 0, .ref (a 37), .ref (a 40)]))] H := hP
    have hD : va_D A [((a 0), .inr (11, [.ref (a 1), .ref (a 6), .ref (a 10), .ref (a 15), .ref (a 17), .ref (a 22), .ref (a 23), .ref (a 30), .ref (a 31), .ref (a 34), .int 0, .ref (a 37), .ref (a 40)]))] := hD
    refine W.widen (k := 0) (n := 0) (Nat.le_of_ble_eq_true rfl) (Nat.le_of_ble_eq_true rfl) ?_
    refine lv_goto (tgt := 23) hx hb dX11_body_19 (by decide) ?_
    exact wz_i () hx hb hr hlk (by unfold sp_body; (repeat' split) <;> first | rfl | (exfalso; omega)) (hP.sub (ws' := []) [] rfl) (hD.sub (ws' := []) [] (by decide) rfl) hS dX11_body_23
theorem dX11_act_0 : decode cX11_act 0 = .ok (.aload_n 0, 1) := by decide +kernel
theorem dX11_act_1 : decode cX11_act 1 = .ok (.getfield 84, 3) := by decide +kernel
theorem dX11_act_4 : decode cX11_act 4 = .ok (.iload_n 1, 1) := by decide +kernel
theorem dX11_act_5 : decode cX11_act 5 = .ok (.iload_n 2, 1) := by decide +kernel
theorem dX11_act_6 : decode cX11_act 6 = .ok (.iload_n 3, 1) := by decide +kernel
theorem q_1156 : Cond.methodLink RX11 331 yX0_perform ∈ lw_g := mem_q 1156 (by decide +kernel) rfl
theorem q_1157 : Cond.instanceMethod yX0_perform ∈ lw_g := mem_q 1157 (by decide +kernel) rfl
theorem q_1158 : Cond.selects RX0 yX0_perform yX0_perform ∈ lw_g := mem_q 1158 (by decide +kernel) rfl
theorem q_1159 : Cond.code yX0_perform cX0_perform 4 (some .int) ∈ lw_g := mem_q 1159 (by decide +kernel) rfl
theorem kV_RX11_331 : CV RX11 331 RX0 yX0_perform cX0_perform 4 (some .int) 3 := cv_of q_1156 q_1157 q_1158 q_113 q_1159 (by decide +kernel)
theorem dX11_act_7 : decode cX11_act 7 = .ok (.invokevirtual 331, 3) := by decide +kernel
theorem dX11_act_10 : decode cX11_act 10 = .ok (.ireturn, 1) := by decide +kernel
set_option maxHeartbeats 4000000 in
set_option maxRecDepth 100000 in
theorem c_act (l : Launch) (J : va_J9) (sz : Nat) (a : Nat → Nat) (x : Int32) (y : Int32) (k : Int32) : WC l J yX11_act cX11_act 4 (some .int) ({ frames := 2, cells := 0, slots := 0, locals := 44 }) [.ref (a 0), .int x, .int y, .int k] [((a 0), .inr (11, [.ref (a 1), .ref (a 6), .ref (a 10), .ref (a 15), .ref (a 17), .ref (a 22), .ref (a 23), .ref (a 30), .ref (a 31), .ref (a 34), .int 0, .ref (a 37), .ref (a 40)])), ((a 37), .inr (0, [.ref (a 38), .int 0, .ref (a 39), .int 0]))] sz (Qi J (fun (r : Int32) (_ : Unit) => r = 0) (fun (_ : Unit) => [])) 0 0 := by
  refine wc_of (by decide) (Nat.le_of_ble_eq_true rfl) ?_
  intro p e s m below meth c ls A hE hl hP hK hD hS hA
  obtain ⟨hx, hb, hr, hml, hown, hts, hlk, hin⟩ := hE
  have hown : s.vm.findClass RX11 = some m.cls := hown
  have hl : lv_has ls 4 [(0, .ref (a 0)), (1, .int x), (2, .int y), (3, .int k)] := hl
  have rg_x := i_rng x
  have rg_y := i_rng y
  have rg_k := i_rng k
  refine lv_aload_n hx hb dX11_act_0 rfl (lv_at hl 0 rfl) ?_
  refine va_get (D := J.1) (ci := 11) (v := .ref (a 37)) (C := RX11) (T := TX11) (N := 13) hx hb hts inX11 hown hK.1 hP 0 rfl rfl 11 (by decide) (hts _ q_471) (fun _ h9 => h9) rfl dX11_act_1 ?_
  refine lv_iload_n hx hb dX11_act_4 rfl (lv_at hl 1 rfl) ?_
  refine lv_iload_n hx hb dX11_act_5 rfl (lv_at hl 2 rfl) ?_
  refine lv_iload_n hx hb dX11_act_6 rfl (lv_at hl 3 rfl) ?_
  refine gw_i (wc := [((a 37), .inr (0, [.ref (a 38), .int 0, .ref (a 39), .int 0]))]) (wr := [((a 0), .inr (11, [.ref (a 1), .ref (a 6), .ref (a 10), .ref (a 15), .ref (a 17), .ref (a 22), .ref (a 23), .ref (a 30), .ref (a 31), .ref (a 34), .int 0, .ref (a 37), .ref (a 40)]))]) hP hD hS hA [1] [0] rfl rfl (by decide) (by decide) (wn_V (As := [.int x, .int y, .int k]) (rest := []) hx hb hml hown hts hK (cB_perform l J _ (a 37) (a 38) (a 39) x y k) kV_RX11_331 (hP.sub (ws' := [((a 37), .inr (0, [.ref (a 38), .int 0, .ref (a 39), .int 0]))]) [1] rfl) ((hD.sub (ws' := [((a 37), .inr (0, [.ref (a 38), .int 0, .ref (a 39), .int 0]))]) [1] (by decide) rfl).weaken (fun _ _ _ _ => trivial)) rfl rfl rfl ⟨Nat.le_of_ble_eq_true rfl, Nat.le_of_ble_eq_true rfl⟩ rfl rfl rfl hl.1 rfl (Nat.le_of_ble_eq_true rfl) ⟨Nat.le_of_ble_eq_true rfl, Nat.le_of_ble_eq_true rfl⟩ dX11_act_7) (fun r2 u1 H locs hw hP hD hS => ?_)
  subst hw
  have hP : va_P J.1 cls [((a 0), .inr (11, [.ref (a 1), .ref (a 6), .ref (a 10), .ref (a 15), .ref (a 17), .ref (a 22), .ref (a 23), .ref (a 30), .ref (a 31), .ref (a 34), .int 0, .ref (a 37), .ref (a 40)]))] H := hP
  have hD : va_D A [((a 0), .inr (11, [.ref (a 1), .ref (a 6), .ref (a 10), .ref (a 15), .ref (a 17), .ref (a 22), .ref (a 23), .ref (a 30), .ref (a 31), .ref (a 34), .int 0, .ref (a 37), .ref (a 40)]))] := hD
  refine W.widen (k := 0) (n := 0) (Nat.le_of_ble_eq_true rfl) (Nat.le_of_ble_eq_true rfl) ?_
  exact wz_i () hx hb hr hlk (by decide) (hP.sub (ws' := []) [] rfl) (hD.sub (ws' := []) [] (by decide) rfl) hS dX11_act_10
theorem dX11_trace_0 : decode cX11_trace 0 = .ok (.aload_n 0, 1) := by decide +kernel
theorem dX11_trace_1 : decode cX11_trace 1 = .ok (.getfield 84, 3) := by decide +kernel
theorem dX11_trace_4 : decode cX11_trace 4 = .ok (.iload_n 1, 1) := by decide +kernel
theorem q_1186 : Cond.methodLink RX11 334 yX0_ranAt ∈ lw_g := mem_q 1186 (by decide +kernel) rfl
theorem q_1187 : Cond.instanceMethod yX0_ranAt ∈ lw_g := mem_q 1187 (by decide +kernel) rfl
theorem q_1188 : Cond.selects RX0 yX0_ranAt yX0_ranAt ∈ lw_g := mem_q 1188 (by decide +kernel) rfl
theorem q_1189 : Cond.code yX0_ranAt cX0_ranAt 2 (some .int) ∈ lw_g := mem_q 1189 (by decide +kernel) rfl
theorem kV_RX11_334 : CV RX11 334 RX0 yX0_ranAt cX0_ranAt 2 (some .int) 1 := cv_of q_1186 q_1187 q_1188 q_113 q_1189 (by decide +kernel)
theorem dX11_trace_5 : decode cX11_trace 5 = .ok (.invokevirtual 334, 3) := by decide +kernel
theorem dX11_trace_8 : decode cX11_trace 8 = .ok (.ireturn, 1) := by decide +kernel
set_option maxHeartbeats 4000000 in
set_option maxRecDepth 100000 in
theorem c_trace (l : Launch) (J : va_J9) (a : Nat → Nat) (x : Int32) : RC l J yX11_trace cX11_trace 2 (some .int) ({ frames := 1, cells := 0, slots := 0, locals := 21 }) [.ref (a 0), .int x] [((a 0), .inr (11, [.ref (a 1), .ref (a 6), .ref (a 10), .ref (a 15), .ref (a 17), .ref (a 22), .ref (a 23), .ref (a 30), .ref (a 31), .ref (a 34), .int 0, .ref (a 37), .ref (a 40)])), ((a 37), .inr (0, [.ref (a 38), .int 0, .ref (a 39), .int 0]))] (vp_Si (fun r => r = (-1))) := by
  refine rc_of (by decide) (Nat.le_of_ble_eq_true rfl) ?_
  intro p e s m below meth c ls hE hl hP hK
  obtain ⟨hx, hb, hr, hml, hown, hts, hlk, hin⟩ := hE
  have hown : s.vm.findClass RX11 = some m.cls := hown
  have hl : lv_has ls 2 [(0, .ref (a 0)), (1, .int x)] := hl
  have rg_x := i_rng x
  refine lv_aload_n hx hb dX11_trace_0 rfl (lv_at hl 0 rfl) ?_
  refine va_get (D := J.1) (ci := 11) (v := .ref (a 37)) (C := RX11) (T := TX11) (N := 13) hx hb hts inX11 hown hK.1 hP 0 rfl rfl 11 (by decide) (hts _ q_471) (fun _ h9 => h9) rfl dX11_trace_1 ?_
  refine lv_iload_n hx hb dX11_trace_4 rfl (lv_at hl 1 rfl) ?_
  refine go_i (rn_V (As := [.int x]) (rest := []) hx hb hml hown hts hK (cB_ranAt l J (a 37) (a 38) (a 39) x) kV_RX11_334 (hP.sub (ws' := [((a 37), .inr (0, [.ref (a 38), .int 0, .ref (a 39), .int 0]))]) [1] rfl) rfl rfl rfl ⟨Nat.le_of_ble_eq_true rfl, Nat.le_of_ble_eq_true rfl⟩ rfl rfl rfl hl.1 rfl (Nat.le_of_ble_eq_true rfl) ⟨Nat.le_of_ble_eq_true rfl, Nat.le_of_ble_eq_true rfl⟩ dX11_trace_5) ?_
  exact rz_i hx hb hr hlk (by decide) dX11_trace_8
theorem dX11_keep_0 : decode cX11_keep 0 = .ok (.aload_n 0, 1) := by decide +kernel
theorem dX11_keep_1 : decode cX11_keep 1 = .ok (.iload_n 1, 1) := by decide +kernel
theorem dX11_keep_2 : decode cX11_keep 2 = .ok (.invokevirtual 106, 3) := by decide +kernel
theorem dX11_keep_5 : decode cX11_keep 5 = .ok (.astore_n 3, 1) := by decide +kernel
theorem dX11_keep_6 : decode cX11_keep 6 = .ok (.aload_n 3, 1) := by decide +kernel
theorem dX11_keep_7 : decode cX11_keep 7 = .ok (.ifnull 19, 3) := by decide +kernel
theorem dX11_keep_10 : decode cX11_keep 10 = .ok (.iload_n 2, 1) := by decide +kernel
theorem dX11_keep_11 : decode cX11_keep 11 = .ok (.iconst (-1), 1) := by decide +kernel
theorem dX11_keep_12 : decode cX11_keep 12 = .ok (.if_icmp .eq 16, 3) := by decide +kernel
theorem dX11_keep_28 : decode cX11_keep 28 = .ok (.iload_n 2, 1) := by decide +kernel
theorem dX11_keep_29 : decode cX11_keep 29 = .ok (.iconst (-1), 1) := by decide +kernel
theorem dX11_keep_30 : decode cX11_keep 30 = .ok (.if_icmp .ne 10, 3) := by decide +kernel
theorem dX11_keep_33 : decode cX11_keep 33 = .ok (.aload_n 3, 1) := by decide +kernel
theorem q_1195 : Cond.methodLink RX11 340 yX9_clear ∈ lw_g := mem_q 1195 (by decide +kernel) rfl
theorem q_1196 : Cond.instanceMethod yX9_clear ∈ lw_g := mem_q 1196 (by decide +kernel) rfl
theorem q_1197 : Cond.selects RX9 yX9_clear yX9_clear ∈ lw_g := mem_q 1197 (by decide +kernel) rfl
theorem q_1198 : Cond.code yX9_clear cX9_clear 1 none ∈ lw_g := mem_q 1198 (by decide +kernel) rfl
theorem kV_RX11_340 : CV RX11 340 RX9 yX9_clear cX9_clear 1 none 0 := cv_of q_1195 q_1196 q_1197 q_114 q_1198 (by decide +kernel)
theorem dX11_keep_34 : decode cX11_keep 34 = .ok (.invokevirtual 340, 3) := by decide +kernel
theorem dX11_keep_37 : decode cX11_keep 37 = .ok (.goto 8, 3) := by decide +kernel
theorem dX11_keep_45 : decode cX11_keep 45 = .ok (.iconst 1, 1) := by decide +kernel
theorem dX11_keep_46 : decode cX11_keep 46 = .ok (.ireturn, 1) := by decide +kernel
theorem dX11_keep_15 : decode cX11_keep 15 = .ok (.aload_n 0, 1) := by decide +kernel
theorem dX11_keep_16 : decode cX11_keep 16 = .ok (.getfield 84, 3) := by decide +kernel
theorem dX11_keep_19 : decode cX11_keep 19 = .ok (.iload_n 2, 1) := by decide +kernel
theorem q_1194 : Cond.methodLink RX11 337 yX0_isBody ∈ lw_g := mem_q 1194 (by decide +kernel) rfl
theorem kV_RX11_337 : CV RX11 337 RX0 yX0_isBody cX0_isBody 2 (some .boolean) 1 := cv_of q_1194 q_1161 q_1162 q_113 q_1163 (by decide +kernel)
theorem dX11_keep_20 : decode cX11_keep 20 = .ok (.invokevirtual 337, 3) := by decide +kernel
theorem dX11_keep_23 : decode cX11_keep 23 = .ok (.ifCond .ne 5, 3) := by decide +kernel
theorem dX11_keep_26 : decode cX11_keep 26 = .ok (.iconst (-1), 1) := by decide +kernel
theorem dX11_keep_27 : decode cX11_keep 27 = .ok (.ireturn, 1) := by decide +kernel
set_option maxHeartbeats 4000000 in
set_option maxRecDepth 100000 in
theorem c_keep_in (l : Launch) (J : va_J9) (sz : Nat) (a : Nat → Nat) (f : Nat → Option Nat) (sh : Nat) (ce : Nat) (d : Int32) (k : Int32) (hd : 0 ≤ d.toInt ∧ d.toInt ≤ 5) (hf : f d.toNatClampNeg = some sh) : WC l J yX11_keep cX11_keep 4 (some .int) ({ frames := 1, cells := 0, slots := 0, locals := 21 }) [.ref (a 0), .int d, .int k] [((a 0), .inr (11, [.ref (a 1), .ref (a 6), .ref (a 10), .ref (a 15), .ref (a 17), .ref (a 22), .ref (a 23), .ref (a 30), .ref (a 31), .ref (a 34), .int 0, .ref (a 37), .ref (a 40)])), ((a 40), .inl (J.2.2.2, 6, .inr (.inr (.inr (.inr f))))), (sh, .inr (9, [.ref ce, .int 0, .int 0, .int 0, .int 0])), ((a 37), .inr (0, [.ref (a 38), .int 0, .ref (a 39), .int 0]))] sz (Qi J (fun (r : Int32) (_ : Unit) => r = sp_keep (d.toInt) (k.toInt)) (fun (_ : Unit) => [])) 0 0 := by
  refine wc_of (by decide) (Nat.le_of_ble_eq_true rfl) ?_
  intro p e s m below meth c ls A hE hl hP hK hD hS hA
  obtain ⟨hx, hb, hr, hml, hown, hts, hlk, hin⟩ := hE
  have hown : s.vm.findClass RX11 = some m.cls := hown
  have hl : lv_has ls 4 [(0, .ref (a 0)), (1, .int d), (2, .int k)] := hl
  have rg_d := i_rng d
  have rg_k := i_rng k
  refine lv_aload_n hx hb dX11_keep_0 rfl (lv_at hl 0 rfl) ?_
  refine lv_iload_n hx hb dX11_keep_1 rfl (lv_at hl 1 rfl) ?_
  refine go_a (rn_V (As := [.int d]) (rest := []) hx hb hml hown hts hK (cF_shelfIn l J a f sh d ⟨by omega, by omega⟩ hf) kV_RX11_106 (hP.sub (ws' := [((a 0), .inr (11, [.ref (a 1), .ref (a 6), .ref (a 10), .ref (a 15), .ref (a 17), .ref (a 22), .ref (a 23), .ref (a 30), .ref (a 31), .ref (a 34), .int 0, .ref (a 37), .ref (a 40)])), ((a 40), .inl (J.2.2.2, 6, .inr (.inr (.inr (.inr f)))))]) [0, 1] rfl) rfl rfl rfl ⟨Nat.le_of_ble_eq_true rfl, Nat.le_of_ble_eq_true rfl⟩ rfl rfl rfl hl.1 rfl (Nat.le_of_ble_eq_true rfl) ⟨Nat.le_of_ble_eq_true rfl, Nat.le_of_ble_eq_true rfl⟩ dX11_keep_2) ?_
  refine top_q (y := sh) rfl ?_
  refine lv_astore_n (lv' := [(3, .ref sh), (0, .ref (a 0)), (1, .int d), (2, .int k)]) hx hb dX11_keep_5 rfl hl (by decide) rfl (fun ls hl => ?_)
  refine lv_aload_n hx hb dX11_keep_6 rfl (lv_at hl 0 rfl) ?_
  refine lv_ifnull hx hb dX11_keep_7 ?_
  refine lv_iload_n hx hb dX11_keep_10 rfl (lv_at hl 3 rfl) ?_
  refine lv_iconst (v := (-1)) hx hb dX11_keep_11 (by decide) ?_
  refine lv_icmp_eq (tgt := 28) hx hb dX11_keep_12 (by decide) (fun c1 => ?_) (fun c1 => ?_)
  · have j2 : k.toInt = (-1) := (i_eq rfl (by decide)).mp c1
    refine lv_iload_n hx hb dX11_keep_28 rfl (lv_at hl 3 rfl) ?_
    refine top_i (y := (-1)) c1 ?_
    refine lv_iconst (v := (-1)) hx hb dX11_keep_29 (by decide) ?_
    refine lv_icmp_ne (tgt := 40) hx hb dX11_keep_30 (by decide) (fun c => absurd c (by decide)) (fun _ => ?_)
    refine lv_aload_n hx hb dX11_keep_33 rfl (lv_at hl 0 rfl) ?_
    refine gw_v (wc := [(sh, .inr (9, [.ref ce, .int 0, .int 0, .int 0, .int 0]))]) (wr := [((a 0), .inr (11, [.ref (a 1), .ref (a 6), .ref (a 10), .ref (a 15), .ref (a 17), .ref (a 22), .ref (a 23), .ref (a 30), .ref (a 31), .ref (a 34), .int 0, .ref (a 37), .ref (a 40)])), ((a 40), .inl (J.2.2.2, 6, .inr (.inr (.inr (.inr f))))), ((a 37), .inr (0, [.ref (a 38), .int 0, .ref (a 39), .int 0]))]) hP hD hS hA [2] [0, 1, 3] rfl rfl (by decide) (by decide) (wn_V (As := []) (rest := []) hx hb hml hown hts hK (cS_clear l J _ sh ce) kV_RX11_340 (hP.sub (ws' := [(sh, .inr (9, [.ref ce, .int 0, .int 0, .int 0, .int 0]))]) [2] rfl) ((hD.sub (ws' := [(sh, .inr (9, [.ref ce, .int 0, .int 0, .int 0, .int 0]))]) [2] (by decide) rfl).weaken (fun _ _ _ _ => trivial)) rfl rfl rfl ⟨Nat.le_of_ble_eq_true rfl, Nat.le_of_ble_eq_true rfl⟩ rfl rfl rfl hl.1 rfl (Nat.le_of_ble_eq_true rfl) ⟨Nat.le_of_ble_eq_true rfl, Nat.le_of_ble_eq_true rfl⟩ dX11_keep_34) (fun u3 H locs hw hP hD hS => ?_)
    have hP : va_P J.1 cls [((a 0), .inr (11, [.ref (a 1), .ref (a 6), .ref (a 10), .ref (a 15), .ref (a 17), .ref (a 22), .ref (a 23), .ref (a 30), .ref (a 31), .ref (a 34), .int 0, .ref (a 37), .ref (a 40)])), ((a 40), .inl (J.2.2.2, 6, .inr (.inr (.inr (.inr f))))), ((a 37), .inr (0, [.ref (a 38), .int 0, .ref (a 39), .int 0]))] H := hP
    have hD : va_D A [((a 0), .inr (11, [.ref (a 1), .ref (a 6), .ref (a 10), .ref (a 15), .ref (a 17), .ref (a 22), .ref (a 23), .ref (a 30), .ref (a 31), .ref (a 34), .int 0, .ref (a 37), .ref (a 40)])), ((a 40), .inl (J.2.2.2, 6, .inr (.inr (.inr (.inr f))))), ((a 37), .inr (0, [.ref (a 38), .int 0, .ref (a 39), .int 0]))] := hD
    refine W.widen (k := 0) (n := 0) (Nat.le_of_ble_eq_true rfl) (Nat.le_of_ble_eq_true rfl) ?_
    refine lv_goto (tgt := 45) hx hb dX11_keep_37 (by decide) ?_
    refine lv_iconst (v := 1) hx hb dX11_keep_45 (by decide) ?_
    exact wz_i () hx hb hr hlk (by unfold sp_keep; (repeat' split) <;> first | rfl | (exfalso; omega)) (hP.sub (ws' := []) [] rfl) (hD.sub (ws' := []) [] (by decide) rfl) hS dX11_keep_46
  · have j4 : ¬ (k.toInt = (-1)) := fun h => c1 ((i_eq rfl (by decide)).mpr h)
    refine lv_aload_n hx hb dX11_keep_15 rfl (lv_at hl 1 rfl) ?_
    refine va_get (D := J.1) (ci := 11) (v := .ref (a 37)) (C := RX11) (T := TX11) (N := 13) hx hb hts inX11 hown hK.1 hP 0 rfl rfl 11 (by decide) (hts _ q_471) (fun _ h9 => h9) rfl dX11_keep_16 ?_
    refine lv_iload_n hx hb dX11_keep_19 rfl (lv_at hl 3 rfl) ?_
    refine go_i (rn_V (As := [.int k]) (rest := []) hx hb hml hown hts hK (cB_isBody l J (a 37) (a 38) (a 39) k) kV_RX11_337 (hP.sub (ws' := [((a 37), .inr (0, [.ref (a 38), .int 0, .ref (a 39), .int 0]))]) [3] rfl) rfl rfl rfl ⟨Nat.le_of_ble_eq_true rfl, Nat.le_of_ble_eq_true rfl⟩ rfl rfl rfl hl.1 rfl (Nat.le_of_ble_eq_true rfl) ⟨Nat.le_of_ble_eq_true rfl, Nat.le_of_ble_eq_true rfl⟩ dX11_keep_20) ?_
    refine lv_if_ne (tgt := 28) hx hb dX11_keep_23 (by decide) (fun c => absurd c (by decide)) (fun _ => ?_)
    refine lv_iconst (v := (-1)) hx hb dX11_keep_26 (by decide) ?_
    exact wz_i () hx hb hr hlk (by unfold sp_keep; (repeat' split) <;> first | rfl | (exfalso; omega)) (hP.sub (ws' := []) [] rfl) (hD.sub (ws' := []) [] (by decide) rfl) hS dX11_keep_27
set_option maxHeartbeats 4000000 in
set_option maxRecDepth 100000 in
theorem c_keep_out (l : Launch) (J : va_J9) (a : Nat → Nat) (d : Int32) (k : Int32) (hd : ¬ (0 ≤ d.toInt ∧ d.toInt ≤ 5)) : RC l J yX11_keep cX11_keep 4 (some .int) ({ frames := 1, cells := 0, slots := 0, locals := 21 }) [.ref (a 0), .int d, .int k] [((a 0), .inr (11, [.ref (a 1), .ref (a 6), .ref (a 10), .ref (a 15), .ref (a 17), .ref (a 22), .ref (a 23), .ref (a 30), .ref (a 31), .ref (a 34), .int 0, .ref (a 37), .ref (a 40)]))] (vp_Si (fun r => r = sp_keep (d.toInt) (k.toInt))) := by
  refine rc_of (by decide) (Nat.le_of_ble_eq_true rfl) ?_
  intro p e s m below meth c ls hE hl hP hK
  obtain ⟨hx, hb, hr, hml, hown, hts, hlk, hin⟩ := hE
  have hown : s.vm.findClass RX11 = some m.cls := hown
  have hl : lv_has ls 4 [(0, .ref (a 0)), (1, .int d), (2, .int k)] := hl
  have rg_d := i_rng d
  have rg_k := i_rng k
  refine lv_aload_n hx hb dX11_keep_0 rfl (lv_at hl 0 rfl) ?_
  refine lv_iload_n hx hb dX11_keep_1 rfl (lv_at hl 1 rfl) ?_
  refine go_a (rn_V (As := [.int d]) (rest := []) hx hb hml hown hts hK (cF_shelfOut l J a d (by omega)) kV_RX11_106 hP rfl rfl rfl ⟨Nat.le_of_ble_eq_true rfl, Nat.le_of_ble_eq_true rfl⟩ rfl rfl rfl hl.1 rfl (Nat.le_of_ble_eq_true rfl) ⟨Nat.le_of_ble_eq_true rfl, Nat.le_of_ble_eq_true rfl⟩ dX11_keep_2) ?_
  refine top_n rfl ?_
  refine lv_astore_nN (lv' := [(3, .null), (0, .ref (a 0)), (1, .int d), (2, .int k)]) hx hb dX11_keep_5 rfl hl (by decide) rfl (fun ls hl => ?_)
  refine lv_aload_nN hx hb dX11_keep_6 rfl (lv_at hl 0 rfl) ?_
  refine lv_ifnullN (tgt := 26) hx hb dX11_keep_7 (by decide) ?_
  refine lv_iconst (v := (-1)) hx hb dX11_keep_26 (by decide) ?_
  exact rz_i hx hb hr hlk (by unfold sp_keep; (repeat' split) <;> first | rfl | (exfalso; omega)) dX11_keep_27
theorem dX11_row_0 : decode cX11_row 0 = .ok (.aload_n 0, 1) := by decide +kernel
theorem dX11_row_1 : decode cX11_row 1 = .ok (.iload_n 1, 1) := by decide +kernel
theorem dX11_row_2 : decode cX11_row 2 = .ok (.invokevirtual 106, 3) := by decide +kernel
theorem dX11_row_5 : decode cX11_row 5 = .ok (.astore 4, 2) := by decide +kernel
theorem dX11_row_7 : decode cX11_row 7 = .ok (.aload 4, 2) := by decide +kernel
theorem dX11_row_9 : decode cX11_row 9 = .ok (.ifnull 18, 3) := by decide +kernel
theorem dX11_row_12 : decode cX11_row 12 = .ok (.iload_n 2, 1) := by decide +kernel
theorem dX11_row_13 : decode cX11_row 13 = .ok (.ifCond .lt 14, 3) := by decide +kernel
theorem dX11_row_27 : decode cX11_row 27 = .ok (.iconst (-1), 1) := by decide +kernel
theorem dX11_row_28 : decode cX11_row 28 = .ok (.ireturn, 1) := by decide +kernel
theorem dX11_row_16 : decode cX11_row 16 = .ok (.iload_n 2, 1) := by decide +kernel
theorem dX11_row_17 : decode cX11_row 17 = .ok (.iconst 5, 1) := by decide +kernel
theorem dX11_row_18 : decode cX11_row 18 = .ok (.if_icmp .ge 9, 3) := by decide +kernel
theorem dX11_row_21 : decode cX11_row 21 = .ok (.iload_n 3, 1) := by decide +kernel
theorem dX11_row_22 : decode cX11_row 22 = .ok (.bipush 60, 2) := by decide +kernel
theorem dX11_row_24 : decode cX11_row 24 = .ok (.if_icmp .le 5, 3) := by decide +kernel
theorem dX11_row_29 : decode cX11_row 29 = .ok (.iload_n 3, 1) := by decide +kernel
theorem dX11_row_30 : decode cX11_row 30 = .ok (.ifCond .ge 6, 3) := by decide +kernel
theorem dX11_row_36 : decode cX11_row 36 = .ok (.aload 4, 2) := by decide +kernel
theorem dX11_row_38 : decode cX11_row 38 = .ok (.iload_n 2, 1) := by decide +kernel
theorem dX11_row_39 : decode cX11_row 39 = .ok (.iload_n 3, 1) := by decide +kernel
theorem q_1207 : Cond.methodLink RX11 346 yX9_holdRow ∈ lw_g := mem_q 1207 (by decide +kernel) rfl
theorem q_1208 : Cond.instanceMethod yX9_holdRow ∈ lw_g := mem_q 1208 (by decide +kernel) rfl
theorem q_1209 : Cond.selects RX9 yX9_holdRow yX9_holdRow ∈ lw_g := mem_q 1209 (by decide +kernel) rfl
theorem q_1210 : Cond.code yX9_holdRow cX9_holdRow 4 none ∈ lw_g := mem_q 1210 (by decide +kernel) rfl
theorem kV_RX11_346 : CV RX11 346 RX9 yX9_holdRow cX9_holdRow 4 none 2 := cv_of q_1207 q_1208 q_1209 q_114 q_1210 (by decide +kernel)
theorem dX11_row_40 : decode cX11_row 40 = .ok (.invokevirtual 346, 3) := by decide +kernel
theorem dX11_row_43 : decode cX11_row 43 = .ok (.iconst 1, 1) := by decide +kernel
theorem dX11_row_44 : decode cX11_row 44 = .ok (.ireturn, 1) := by decide +kernel
theorem dX11_row_33 : decode cX11_row 33 = .ok (.bipush (-14), 2) := by decide +kernel
theorem dX11_row_35 : decode cX11_row 35 = .ok (.ireturn, 1) := by decide +kernel
set_option maxHeartbeats 4000000 in
set_option maxRecDepth 100000 in
theorem c_row_in (l : Launch) (J : va_J9) (sz : Nat) (a : Nat → Nat) (f : Nat → Option Nat) (sh : Nat) (ce : Nat) (d : Int32) (k : Int32) (n : Int32) (hd : 0 ≤ d.toInt ∧ d.toInt ≤ 5) (hf : f d.toNatClampNeg = some sh) : WC l J yX11_row cX11_row 5 (some .int) ({ frames := 1, cells := 0, slots := 0, locals := 23 }) [.ref (a 0), .int d, .int k, .int n] [((a 0), .inr (11, [.ref (a 1), .ref (a 6), .ref (a 10), .ref (a 15), .ref (a 17), .ref (a 22), .ref (a 23), .ref (a 30), .ref (a 31), .ref (a 34), .int 0, .ref (a 37), .ref (a 40)])), ((a 40), .inl (J.2.2.2, 6, .inr (.inr (.inr (.inr f))))), (sh, .inr (9, [.ref ce, .int 0, .int 0, .int 0, .int 0])), (ce, .inl (J.2.2.1, 60, .inr (.inl (fun _ => 0))))] sz (Qi J (fun (r : Int32) (_ : Unit) => r = sp_row (d.toInt) (k.toInt) (n.toInt)) (fun (_ : Unit) => [])) 0 0 := by
  refine wc_of (by decide) (Nat.le_of_ble_eq_true rfl) ?_
  intro p e s m below meth c ls A hE hl hP hK hD hS hA
  obtain ⟨hx, hb, hr, hml, hown, hts, hlk, hin⟩ := hE
  have hown : s.vm.findClass RX11 = some m.cls := hown
  have hl : lv_has ls 5 [(0, .ref (a 0)), (1, .int d), (2, .int k), (3, .int n)] := hl
  have rg_d := i_rng d
  have rg_k := i_rng k
  have rg_n := i_rng n
  refine lv_aload_n hx hb dX11_row_0 rfl (lv_at hl 0 rfl) ?_
  refine lv_iload_n hx hb dX11_row_1 rfl (lv_at hl 1 rfl) ?_
  refine go_a (rn_V (As := [.int d]) (rest := []) hx hb hml hown hts hK (cF_shelfIn l J a f sh d ⟨by omega, by omega⟩ hf) kV_RX11_106 (hP.sub (ws' := [((a 0), .inr (11, [.ref (a 1), .ref (a 6), .ref (a 10), .ref (a 15), .ref (a 17), .ref (a 22), .ref (a 23), .ref (a 30), .ref (a 31), .ref (a 34), .int 0, .ref (a 37), .ref (a 40)])), ((a 40), .inl (J.2.2.2, 6, .inr (.inr (.inr (.inr f)))))]) [0, 1] rfl) rfl rfl rfl ⟨Nat.le_of_ble_eq_true rfl, Nat.le_of_ble_eq_true rfl⟩ rfl rfl rfl hl.1 rfl (Nat.le_of_ble_eq_true rfl) ⟨Nat.le_of_ble_eq_true rfl, Nat.le_of_ble_eq_true rfl⟩ dX11_row_2) ?_
  refine top_q (y := sh) rfl ?_
  refine lv_astore (lv' := [(4, .ref sh), (0, .ref (a 0)), (1, .int d), (2, .int k), (3, .int n)]) hx hb dX11_row_5 hl (by decide) rfl (fun ls hl => ?_)
  refine lv_aload hx hb dX11_row_7 (lv_at hl 0 rfl) ?_
  refine lv_ifnull hx hb dX11_row_9 ?_
  refine lv_iload_n hx hb dX11_row_12 rfl (lv_at hl 3 rfl) ?_
  refine lv_if_lt (tgt := 27) hx hb dX11_row_13 (by decide) (fun c1 => ?_) (fun c1 => ?_)
  · have j2 : k.toInt < 0 := (i_lt rfl (by decide)).mp c1
    refine lv_iconst (v := (-1)) hx hb dX11_row_27 (by decide) ?_
    exact wz_i () hx hb hr hlk (by unfold sp_row; (repeat' split) <;> first | rfl | (exfalso; omega)) (hP.sub (ws' := []) [] rfl) (hD.sub (ws' := []) [] (by decide) rfl) hS dX11_row_28
  · have j3 : ¬ (k.toInt < 0) := fun h => c1 ((i_lt rfl (by decide)).mpr h)
    refine lv_iload_n hx hb dX11_row_16 rfl (lv_at hl 3 rfl) ?_
    refine lv_iconst (v := 5) hx hb dX11_row_17 (by decide) ?_
    refine lv_icmp_ge (tgt := 27) hx hb dX11_row_18 (by decide) (fun c4 => ?_) (fun c4 => ?_)
    · have j5 : 5 ≤ k.toInt := (i_le (by decide) rfl).mp c4
      refine lv_iconst (v := (-1)) hx hb dX11_row_27 (by decide) ?_
      exact wz_i () hx hb hr hlk (by unfold sp_row; (repeat' split) <;> first | rfl | (exfalso; omega)) (hP.sub (ws' := []) [] rfl) (hD.sub (ws' := []) [] (by decide) rfl) hS dX11_row_28
    · have j6 : ¬ (5 ≤ k.toInt) := fun h => c4 ((i_le (by decide) rfl).mpr h)
      refine lv_iload_n hx hb dX11_row_21 rfl (lv_at hl 4 rfl) ?_
      refine lv_bipush (v := 60) hx hb dX11_row_22 (by decide) ?_
      refine lv_icmp_le (tgt := 29) hx hb dX11_row_24 (by decide) (fun c7 => ?_) (fun c7 => ?_)
      · have j8 : n.toInt ≤ 60 := (i_le rfl (by decide)).mp c7
        refine lv_iload_n hx hb dX11_row_29 rfl (lv_at hl 4 rfl) ?_
        refine lv_if_ge (tgt := 36) hx hb dX11_row_30 (by decide) (fun c9 => ?_) (fun c9 => ?_)
        · have j10 : 0 ≤ n.toInt := (i_le (by decide) rfl).mp c9
          refine lv_aload hx hb dX11_row_36 (lv_at hl 0 rfl) ?_
          refine lv_iload_n hx hb dX11_row_38 rfl (lv_at hl 3 rfl) ?_
          refine lv_iload_n hx hb dX11_row_39 rfl (lv_at hl 4 rfl) ?_
          refine gw_v (wc := [(sh, .inr (9, [.ref ce, .int 0, .int 0, .int 0, .int 0])), (ce, .inl (J.2.2.1, 60, .inr (.inl (fun _ => 0))))]) (wr := [((a 0), .inr (11, [.ref (a 1), .ref (a 6), .ref (a 10), .ref (a 15), .ref (a 17), .ref (a 22), .ref (a 23), .ref (a 30), .ref (a 31), .ref (a 34), .int 0, .ref (a 37), .ref (a 40)])), ((a 40), .inl (J.2.2.2, 6, .inr (.inr (.inr (.inr f)))))]) hP hD hS hA [2, 3] [0, 1] rfl rfl (by decide) (by decide) (wn_V (As := [.int k, .int n]) (rest := []) hx hb hml hown hts hK (cS_holdRow l J _ sh ce k n) kV_RX11_346 (hP.sub (ws' := [(sh, .inr (9, [.ref ce, .int 0, .int 0, .int 0, .int 0])), (ce, .inl (J.2.2.1, 60, .inr (.inl (fun _ => 0))))]) [2, 3] rfl) ((hD.sub (ws' := [(sh, .inr (9, [.ref ce, .int 0, .int 0, .int 0, .int 0])), (ce, .inl (J.2.2.1, 60, .inr (.inl (fun _ => 0))))]) [2, 3] (by decide) rfl).weaken (fun _ _ _ _ => trivial)) rfl rfl rfl ⟨Nat.le_of_ble_eq_true rfl, Nat.le_of_ble_eq_true rfl⟩ rfl rfl rfl hl.1 rfl (Nat.le_of_ble_eq_true rfl) ⟨Nat.le_of_ble_eq_true rfl, Nat.le_of_ble_eq_true rfl⟩ dX11_row_40) (fun u11 H locs hw hP hD hS => ?_)
          have hP : va_P J.1 cls [((a 0), .inr (11, [.ref (a 1), .ref (a 6), .ref (a 10), .ref (a 15), .ref (a 17), .ref (a 22), .ref (a 23), .ref (a 30), .ref (a 31), .ref (a 34), .int 0, .ref (a 37), .ref (a 40)])), ((a 40), .inl (J.2.2.2, 6, .inr (.inr (.inr (.inr f)))))] H := hP
          have hD : va_D A [((a 0), .inr (11, [.ref (a 1), .ref (a 6), .ref (a 10), .ref (a 15), .ref (a 17), .ref (a 22), .ref (a 23), .ref (a 30), .ref (a 31), .ref (a 34), .int 0, .ref (a 37), .ref (a 40)])), ((a 40), .inl (J.2.2.2, 6, .inr (.inr (.inr (.inr f)))))] := hD
          refine W.widen (k := 0) (n := 0) (Nat.le_of_ble_eq_true rfl) (Nat.le_of_ble_eq_true rfl) ?_
          refine lv_iconst (v := 1) hx hb dX11_row_43 (by decide) ?_
          exact wz_i () hx hb hr hlk (by unfold sp_row; (repeat' split) <;> first | rfl | (exfalso; omega)) (hP.sub (ws' := []) [] rfl) (hD.sub (ws' := []) [] (by decide) rfl) hS dX11_row_44
        · have j12 : ¬ (0 ≤ n.toInt) := fun h => c9 ((i_le (by decide) rfl).mpr h)
          refine lv_bipush (v := (-14)) hx hb dX11_row_33 (by decide) ?_
          exact wz_i () hx hb hr hlk (by unfold sp_row; (repeat' split) <;> first | rfl | (exfalso; omega)) (hP.sub (ws' := []) [] rfl) (hD.sub (ws' := []) [] (by decide) rfl) hS dX11_row_35
      · have j13 : ¬ (n.toInt ≤ 60) := fun h => c7 ((i_le rfl (by decide)).mpr h)
        refine lv_iconst (v := (-1)) hx hb dX11_row_27 (by decide) ?_
        exact wz_i () hx hb hr hlk (by unfold sp_row; (repeat' split) <;> first | rfl | (exfalso; omega)) (hP.sub (ws' := []) [] rfl) (hD.sub (ws' := []) [] (by decide) rfl) hS dX11_row_28
set_option maxHeartbeats 4000000 in
set_option maxRecDepth 100000 in
theorem c_row_out (l : Launch) (J : va_J9) (a : Nat → Nat) (d : Int32) (k : Int32) (n : Int32) (hd : ¬ (0 ≤ d.toInt ∧ d.toInt ≤ 5)) : RC l J yX11_row cX11_row 5 (some .int) ({ frames := 1, cells := 0, slots := 0, locals := 21 }) [.ref (a 0), .int d, .int k, .int n] [((a 0), .inr (11, [.ref (a 1), .ref (a 6), .ref (a 10), .ref (a 15), .ref (a 17), .ref (a 22), .ref (a 23), .ref (a 30), .ref (a 31), .ref (a 34), .int 0, .ref (a 37), .ref (a 40)]))] (vp_Si (fun r => r = sp_row (d.toInt) (k.toInt) (n.toInt))) := by
  refine rc_of (by decide) (Nat.le_of_ble_eq_true rfl) ?_
  intro p e s m below meth c ls hE hl hP hK
  obtain ⟨hx, hb, hr, hml, hown, hts, hlk, hin⟩ := hE
  have hown : s.vm.findClass RX11 = some m.cls := hown
  have hl : lv_has ls 5 [(0, .ref (a 0)), (1, .int d), (2, .int k), (3, .int n)] := hl
  have rg_d := i_rng d
  have rg_k := i_rng k
  have rg_n := i_rng n
  refine lv_aload_n hx hb dX11_row_0 rfl (lv_at hl 0 rfl) ?_
  refine lv_iload_n hx hb dX11_row_1 rfl (lv_at hl 1 rfl) ?_
  refine go_a (rn_V (As := [.int d]) (rest := []) hx hb hml hown hts hK (cF_shelfOut l J a d (by omega)) kV_RX11_106 hP rfl rfl rfl ⟨Nat.le_of_ble_eq_true rfl, Nat.le_of_ble_eq_true rfl⟩ rfl rfl rfl hl.1 rfl (Nat.le_of_ble_eq_true rfl) ⟨Nat.le_of_ble_eq_true rfl, Nat.le_of_ble_eq_true rfl⟩ dX11_row_2) ?_
  refine top_n rfl ?_
  refine lv_astoreN (lv' := [(4, .null), (0, .ref (a 0)), (1, .int d), (2, .int k), (3, .int n)]) hx hb dX11_row_5 hl (by decide) rfl (fun ls hl => ?_)
  refine lv_aloadN hx hb dX11_row_7 (lv_at hl 0 rfl) ?_
  refine lv_ifnullN (tgt := 27) hx hb dX11_row_9 (by decide) ?_
  refine lv_iconst (v := (-1)) hx hb dX11_row_27 (by decide) ?_
  exact rz_i hx hb hr hlk (by unfold sp_row; (repeat' split) <;> first | rfl | (exfalso; omega)) dX11_row_28
theorem dX11_put_0 : decode cX11_put 0 = .ok (.aload_n 0, 1) := by decide +kernel
theorem dX11_put_1 : decode cX11_put 1 = .ok (.iload_n 1, 1) := by decide +kernel
theorem dX11_put_2 : decode cX11_put 2 = .ok (.invokevirtual 106, 3) := by decide +kernel
theorem dX11_put_5 : decode cX11_put 5 = .ok (.astore 5, 2) := by decide +kernel
theorem dX11_put_7 : decode cX11_put 7 = .ok (.aload 5, 2) := by decide +kernel
theorem dX11_put_9 : decode cX11_put 9 = .ok (.ifnonnull 5, 3) := by decide +kernel
theorem dX11_put_14 : decode cX11_put 14 = .ok (.aload 5, 2) := by decide +kernel
theorem dX11_put_16 : decode cX11_put 16 = .ok (.iload_n 2, 1) := by decide +kernel
theorem q_1215 : Cond.methodLink RX11 350 yX11_refusalOfPlace ∈ lw_g := mem_q 1215 (by decide +kernel) rfl
theorem q_1216 : Cond.static yX11_refusalOfPlace ∈ lw_g := mem_q 1216 (by decide +kernel) rfl
theorem q_1217 : Cond.code yX11_refusalOfPlace cX11_refusalOfPlace 2 (some .int) ∈ lw_g := mem_q 1217 (by decide +kernel) rfl
theorem kS_RX11_350 : CS RX11 350 yX11_refusalOfPlace cX11_refusalOfPlace 2 (some .int) 2 := cs_of q_1215 q_1216 q_103 q_1217 (by decide +kernel)
theorem dX11_put_17 : decode cX11_put 17 = .ok (.invokestatic 350, 3) := by decide +kernel
theorem dX11_put_20 : decode cX11_put 20 = .ok (.istore 6, 2) := by decide +kernel
theorem dX11_put_22 : decode cX11_put 22 = .ok (.iload 6, 2) := by decide +kernel
theorem dX11_put_24 : decode cX11_put 24 = .ok (.ifCond .eq 6, 3) := by decide +kernel
theorem dX11_put_27 : decode cX11_put 27 = .ok (.iload 6, 2) := by decide +kernel
theorem dX11_put_29 : decode cX11_put 29 = .ok (.ireturn, 1) := by decide +kernel
set_option maxHeartbeats 4000000 in
set_option maxRecDepth 100000 in
theorem c_put_in (l : Launch) (J : va_J9) (a : Nat → Nat) (f : Nat → Option Nat) (sh : Nat) (ce : Nat) (d : Int32) (x : Int32) (v : Int64) (hd : 0 ≤ d.toInt ∧ d.toInt ≤ 5) (hf : f d.toNatClampNeg = some sh) : RC l J yX11_put cX11_put 7 (some .int) ({ frames := 2, cells := 0, slots := 0, locals := 41 }) [.ref (a 0), .int d, .int x, .long v] [((a 0), .inr (11, [.ref (a 1), .ref (a 6), .ref (a 10), .ref (a 15), .ref (a 17), .ref (a 22), .ref (a 23), .ref (a 30), .ref (a 31), .ref (a 34), .int 0, .ref (a 37), .ref (a 40)])), ((a 40), .inl (J.2.2.2, 6, .inr (.inr (.inr (.inr f))))), (sh, .inr (9, [.ref ce, .int 0, .int 0, .int 0, .int 0]))] (vp_Si (fun r => r = sp_caught (d.toInt))) := by
  refine rc_of (by decide) (Nat.le_of_ble_eq_true rfl) ?_
  intro p e s m below meth c ls hE hl hP hK
  obtain ⟨hx, hb, hr, hml, hown, hts, hlk, hin⟩ := hE
  have hown : s.vm.findClass RX11 = some m.cls := hown
  have hl : lv_has ls 7 [(0, .ref (a 0)), (1, .int d), (2, .int x), (3, .long v)] := hl
  have rg_d := i_rng d
  have rg_x := i_rng x
  refine lv_aload_n hx hb dX11_put_0 rfl (lv_at hl 0 rfl) ?_
  refine lv_iload_n hx hb dX11_put_1 rfl (lv_at hl 1 rfl) ?_
  refine go_a (rn_V (As := [.int d]) (rest := []) hx hb hml hown hts hK (cF_shelfIn l J a f sh d ⟨by omega, by omega⟩ hf) kV_RX11_106 (hP.sub (ws' := [((a 0), .inr (11, [.ref (a 1), .ref (a 6), .ref (a 10), .ref (a 15), .ref (a 17), .ref (a 22), .ref (a 23), .ref (a 30), .ref (a 31), .ref (a 34), .int 0, .ref (a 37), .ref (a 40)])), ((a 40), .inl (J.2.2.2, 6, .inr (.inr (.inr (.inr f)))))]) [0, 1] rfl) rfl rfl rfl ⟨Nat.le_of_ble_eq_true rfl, Nat.le_of_ble_eq_true rfl⟩ rfl rfl rfl hl.1 rfl (Nat.le_of_ble_eq_true rfl) ⟨Nat.le_of_ble_eq_true rfl, Nat.le_of_ble_eq_true rfl⟩ dX11_put_2) ?_
  refine top_q (y := sh) rfl ?_
  refine lv_astore (lv' := [(5, .ref sh), (0, .ref (a 0)), (1, .int d), (2, .int x), (3, .long v)]) hx hb dX11_put_5 hl (by decide) rfl (fun ls hl => ?_)
  refine lv_aload hx hb dX11_put_7 (lv_at hl 0 rfl) ?_
  refine lv_ifnonnull (tgt := 14) hx hb dX11_put_9 (by decide) ?_
  refine lv_aload hx hb dX11_put_14 (lv_at hl 0 rfl) ?_
  refine lv_iload_n hx hb dX11_put_16 rfl (lv_at hl 3 rfl) ?_
  refine go_i (rn_S (As := [.ref sh, .int x]) (rest := []) hx hb hml hown hts hK (cF_place l J sh ce x) kS_RX11_350 (hP.sub (ws' := [(sh, .inr (9, [.ref ce, .int 0, .int 0, .int 0, .int 0]))]) [2] rfl) ⟨Nat.le_of_ble_eq_true rfl, Nat.le_of_ble_eq_true rfl⟩ rfl rfl rfl hl.1 rfl (Nat.le_of_ble_eq_true rfl) ⟨Nat.le_of_ble_eq_true rfl, Nat.le_of_ble_eq_true rfl⟩ dX11_put_17) ?_
  refine lv_istore (lv' := [(6, .int (-11)), (5, .ref sh), (0, .ref (a 0)), (1, .int d), (2, .int x), (3, .long v)]) hx hb dX11_put_20 hl (by decide) rfl (fun ls hl => ?_)
  refine lv_iload hx hb dX11_put_22 (lv_at hl 0 rfl) ?_
  refine lv_if_eq (tgt := 30) hx hb dX11_put_24 (by decide) (fun c => absurd c (by decide)) (fun _ => ?_)
  refine lv_iload hx hb dX11_put_27 (lv_at hl 0 rfl) ?_
  exact rz_i hx hb hr hlk (by unfold sp_caught; (repeat' split) <;> first | rfl | (exfalso; omega)) dX11_put_29
theorem dX11_put_12 : decode cX11_put 12 = .ok (.iconst (-1), 1) := by decide +kernel
theorem dX11_put_13 : decode cX11_put 13 = .ok (.ireturn, 1) := by decide +kernel
set_option maxHeartbeats 4000000 in
set_option maxRecDepth 100000 in
theorem c_put_out (l : Launch) (J : va_J9) (a : Nat → Nat) (d : Int32) (x : Int32) (v : Int64) (hd : ¬ (0 ≤ d.toInt ∧ d.toInt ≤ 5)) : RC l J yX11_put cX11_put 7 (some .int) ({ frames := 1, cells := 0, slots := 0, locals := 21 }) [.ref (a 0), .int d, .int x, .long v] [((a 0), .inr (11, [.ref (a 1), .ref (a 6), .ref (a 10), .ref (a 15), .ref (a 17), .ref (a 22), .ref (a 23), .ref (a 30), .ref (a 31), .ref (a 34), .int 0, .ref (a 37), .ref (a 40)]))] (vp_Si (fun r => r = sp_caught (d.toInt))) := by
  refine rc_of (by decide) (Nat.le_of_ble_eq_true rfl) ?_
  intro p e s m below meth c ls hE hl hP hK
  obtain ⟨hx, hb, hr, hml, hown, hts, hlk, hin⟩ := hE
  have hown : s.vm.findClass RX11 = some m.cls := hown
  have hl : lv_has ls 7 [(0, .ref (a 0)), (1, .int d), (2, .int x), (3, .long v)] := hl
  have rg_d := i_rng d
  have rg_x := i_rng x
  refine lv_aload_n hx hb dX11_put_0 rfl (lv_at hl 0 rfl) ?_
  refine lv_iload_n hx hb dX11_put_1 rfl (lv_at hl 1 rfl) ?_
  refine go_a (rn_V (As := [.int d]) (rest := []) hx hb hml hown hts hK (cF_shelfOut l J a d (by omega)) kV_RX11_106 hP rfl rfl rfl ⟨Nat.le_of_ble_eq_true rfl, Nat.le_of_ble_eq_true rfl⟩ rfl rfl rfl hl.1 rfl (Nat.le_of_ble_eq_true rfl) ⟨Nat.le_of_ble_eq_true rfl, Nat.le_of_ble_eq_true rfl⟩ dX11_put_2) ?_
  refine top_n rfl ?_
  refine lv_astoreN (lv' := [(5, .null), (0, .ref (a 0)), (1, .int d), (2, .int x), (3, .long v)]) hx hb dX11_put_5 hl (by decide) rfl (fun ls hl => ?_)
  refine lv_aloadN hx hb dX11_put_7 (lv_at hl 0 rfl) ?_
  refine lv_ifnonnullN hx hb dX11_put_9 ?_
  refine lv_iconst (v := (-1)) hx hb dX11_put_12 (by decide) ?_
  exact rz_i hx hb hr hlk (by unfold sp_caught; (repeat' split) <;> first | rfl | (exfalso; omega)) dX11_put_13
theorem dX11_element_0 : decode cX11_element 0 = .ok (.aload_n 0, 1) := by decide +kernel
theorem dX11_element_1 : decode cX11_element 1 = .ok (.iload_n 1, 1) := by decide +kernel
theorem dX11_element_2 : decode cX11_element 2 = .ok (.invokevirtual 106, 3) := by decide +kernel
theorem dX11_element_5 : decode cX11_element 5 = .ok (.astore_n 3, 1) := by decide +kernel
theorem dX11_element_6 : decode cX11_element 6 = .ok (.aload_n 3, 1) := by decide +kernel
theorem dX11_element_7 : decode cX11_element 7 = .ok (.ifnull 11, 3) := by decide +kernel
theorem dX11_element_10 : decode cX11_element 10 = .ok (.aload_n 3, 1) := by decide +kernel
theorem dX11_element_11 : decode cX11_element 11 = .ok (.iload_n 2, 1) := by decide +kernel
theorem dX11_element_12 : decode cX11_element 12 = .ok (.invokestatic 350, 3) := by decide +kernel
theorem dX11_element_15 : decode cX11_element 15 = .ok (.ifCond .eq 7, 3) := by decide +kernel
theorem dX11_element_18 : decode cX11_element 18 = .ok (.ldc2_w 257, 3) := by decide +kernel
theorem dX11_element_21 : decode cX11_element 21 = .ok (.lreturn, 1) := by decide +kernel
set_option maxHeartbeats 4000000 in
set_option maxRecDepth 100000 in
theorem c_element_in (l : Launch) (J : va_J9) (a : Nat → Nat) (f : Nat → Option Nat) (sh : Nat) (ce : Nat) (d : Int32) (x : Int32) (hd : 0 ≤ d.toInt ∧ d.toInt ≤ 5) (hf : f d.toNatClampNeg = some sh) : RC l J yX11_element cX11_element 4 (some .long) ({ frames := 2, cells := 0, slots := 0, locals := 41 }) [.ref (a 0), .int d, .int x] [((a 0), .inr (11, [.ref (a 1), .ref (a 6), .ref (a 10), .ref (a 15), .ref (a 17), .ref (a 22), .ref (a 23), .ref (a 30), .ref (a 31), .ref (a 34), .int 0, .ref (a 37), .ref (a 40)])), ((a 40), .inl (J.2.2.2, 6, .inr (.inr (.inr (.inr f))))), (sh, .inr (9, [.ref ce, .int 0, .int 0, .int 0, .int 0]))] (vp_Sl (fun r => r = (-9223372036854775808))) := by
  refine rc_of (by decide) (Nat.le_of_ble_eq_true rfl) ?_
  intro p e s m below meth c ls hE hl hP hK
  obtain ⟨hx, hb, hr, hml, hown, hts, hlk, hin⟩ := hE
  have hown : s.vm.findClass RX11 = some m.cls := hown
  have hl : lv_has ls 4 [(0, .ref (a 0)), (1, .int d), (2, .int x)] := hl
  have rg_d := i_rng d
  have rg_x := i_rng x
  refine lv_aload_n hx hb dX11_element_0 rfl (lv_at hl 0 rfl) ?_
  refine lv_iload_n hx hb dX11_element_1 rfl (lv_at hl 1 rfl) ?_
  refine go_a (rn_V (As := [.int d]) (rest := []) hx hb hml hown hts hK (cF_shelfIn l J a f sh d ⟨by omega, by omega⟩ hf) kV_RX11_106 (hP.sub (ws' := [((a 0), .inr (11, [.ref (a 1), .ref (a 6), .ref (a 10), .ref (a 15), .ref (a 17), .ref (a 22), .ref (a 23), .ref (a 30), .ref (a 31), .ref (a 34), .int 0, .ref (a 37), .ref (a 40)])), ((a 40), .inl (J.2.2.2, 6, .inr (.inr (.inr (.inr f)))))]) [0, 1] rfl) rfl rfl rfl ⟨Nat.le_of_ble_eq_true rfl, Nat.le_of_ble_eq_true rfl⟩ rfl rfl rfl hl.1 rfl (Nat.le_of_ble_eq_true rfl) ⟨Nat.le_of_ble_eq_true rfl, Nat.le_of_ble_eq_true rfl⟩ dX11_element_2) ?_
  refine top_q (y := sh) rfl ?_
  refine lv_astore_n (lv' := [(3, .ref sh), (0, .ref (a 0)), (1, .int d), (2, .int x)]) hx hb dX11_element_5 rfl hl (by decide) rfl (fun ls hl => ?_)
  refine lv_aload_n hx hb dX11_element_6 rfl (lv_at hl 0 rfl) ?_
  refine lv_ifnull hx hb dX11_element_7 ?_
  refine lv_aload_n hx hb dX11_element_10 rfl (lv_at hl 0 rfl) ?_
  refine lv_iload_n hx hb dX11_element_11 rfl (lv_at hl 3 rfl) ?_
  refine go_i (rn_S (As := [.ref sh, .int x]) (rest := []) hx hb hml hown hts hK (cF_place l J sh ce x) kS_RX11_350 (hP.sub (ws' := [(sh, .inr (9, [.ref ce, .int 0, .int 0, .int 0, .int 0]))]) [2] rfl) ⟨Nat.le_of_ble_eq_true rfl, Nat.le_of_ble_eq_true rfl⟩ rfl rfl rfl hl.1 rfl (Nat.le_of_ble_eq_true rfl) ⟨Nat.le_of_ble_eq_true rfl, Nat.le_of_ble_eq_true rfl⟩ dX11_element_12) ?_
  refine lv_if_eq (tgt := 22) hx hb dX11_element_15 (by decide) (fun c => absurd c (by decide)) (fun _ => ?_)
  refine lv_ldc2 (v := (-9223372036854775808)) hx hb hown (hts _ q_960) dX11_element_18 ?_
  exact rz_l hx hb hr hlk (by decide) dX11_element_21
set_option maxHeartbeats 4000000 in
set_option maxRecDepth 100000 in
theorem c_element_out (l : Launch) (J : va_J9) (a : Nat → Nat) (d : Int32) (x : Int32) (hd : ¬ (0 ≤ d.toInt ∧ d.toInt ≤ 5)) : RC l J yX11_element cX11_element 4 (some .long) ({ frames := 1, cells := 0, slots := 0, locals := 21 }) [.ref (a 0), .int d, .int x] [((a 0), .inr (11, [.ref (a 1), .ref (a 6), .ref (a 10), .ref (a 15), .ref (a 17), .ref (a 22), .ref (a 23), .ref (a 30), .ref (a 31), .ref (a 34), .int 0, .ref (a 37), .ref (a 40)]))] (vp_Sl (fun r => r = (-9223372036854775808))) := by
  refine rc_of (by decide) (Nat.le_of_ble_eq_true rfl) ?_
  intro p e s m below meth c ls hE hl hP hK
  obtain ⟨hx, hb, hr, hml, hown, hts, hlk, hin⟩ := hE
  have hown : s.vm.findClass RX11 = some m.cls := hown
  have hl : lv_has ls 4 [(0, .ref (a 0)), (1, .int d), (2, .int x)] := hl
  have rg_d := i_rng d
  have rg_x := i_rng x
  refine lv_aload_n hx hb dX11_element_0 rfl (lv_at hl 0 rfl) ?_
  refine lv_iload_n hx hb dX11_element_1 rfl (lv_at hl 1 rfl) ?_
  refine go_a (rn_V (As := [.int d]) (rest := []) hx hb hml hown hts hK (cF_shelfOut l J a d (by omega)) kV_RX11_106 hP rfl rfl rfl ⟨Nat.le_of_ble_eq_true rfl, Nat.le_of_ble_eq_true rfl⟩ rfl rfl rfl hl.1 rfl (Nat.le_of_ble_eq_true rfl) ⟨Nat.le_of_ble_eq_true rfl, Nat.le_of_ble_eq_true rfl⟩ dX11_element_2) ?_
  refine top_n rfl ?_
  refine lv_astore_nN (lv' := [(3, .null), (0, .ref (a 0)), (1, .int d), (2, .int x)]) hx hb dX11_element_5 rfl hl (by decide) rfl (fun ls hl => ?_)
  refine lv_aload_nN hx hb dX11_element_6 rfl (lv_at hl 0 rfl) ?_
  refine lv_ifnullN (tgt := 18) hx hb dX11_element_7 (by decide) ?_
  refine lv_ldc2 (v := (-9223372036854775808)) hx hb hown (hts _ q_960) dX11_element_18 ?_
  exact rz_l hx hb hr hlk (by decide) dX11_element_21
theorem dX11_taken_0 : decode cX11_taken 0 = .ok (.aload_n 0, 1) := by decide +kernel
theorem dX11_taken_1 : decode cX11_taken 1 = .ok (.iload_n 1, 1) := by decide +kernel
theorem dX11_taken_2 : decode cX11_taken 2 = .ok (.invokevirtual 106, 3) := by decide +kernel
theorem dX11_taken_5 : decode cX11_taken 5 = .ok (.astore_n 3, 1) := by decide +kernel
theorem dX11_taken_6 : decode cX11_taken 6 = .ok (.aload_n 3, 1) := by decide +kernel
theorem dX11_taken_7 : decode cX11_taken 7 = .ok (.ifnull 14, 3) := by decide +kernel
theorem dX11_taken_10 : decode cX11_taken 10 = .ok (.aload_n 0, 1) := by decide +kernel
theorem dX11_taken_11 : decode cX11_taken 11 = .ok (.getfield 84, 3) := by decide +kernel
theorem dX11_taken_14 : decode cX11_taken 14 = .ok (.iload_n 2, 1) := by decide +kernel
theorem dX11_taken_15 : decode cX11_taken 15 = .ok (.invokevirtual 325, 3) := by decide +kernel
theorem dX11_taken_18 : decode cX11_taken 18 = .ok (.ifCond .ne 5, 3) := by decide +kernel
theorem dX11_taken_23 : decode cX11_taken 23 = .ok (.aload_n 3, 1) := by decide +kernel
theorem dX11_taken_24 : decode cX11_taken 24 = .ok (.invokevirtual 110, 3) := by decide +kernel
theorem dX11_taken_27 : decode cX11_taken 27 = .ok (.ifCond .eq 6, 3) := by decide +kernel
theorem dX11_taken_30 : decode cX11_taken 30 = .ok (.bipush (-11), 2) := by decide +kernel
theorem dX11_taken_32 : decode cX11_taken 32 = .ok (.ireturn, 1) := by decide +kernel
theorem dX11_taken_21 : decode cX11_taken 21 = .ok (.iconst (-1), 1) := by decide +kernel
theorem dX11_taken_22 : decode cX11_taken 22 = .ok (.ireturn, 1) := by decide +kernel
set_option maxHeartbeats 4000000 in
set_option maxRecDepth 100000 in
theorem c_taken_in (l : Launch) (J : va_J9) (a : Nat → Nat) (f : Nat → Option Nat) (sh : Nat) (ce : Nat) (d : Int32) (k : Int32) (hd : 0 ≤ d.toInt ∧ d.toInt ≤ 5) (hf : f d.toNatClampNeg = some sh) : RC l J yX11_taken cX11_taken 4 (some .int) ({ frames := 1, cells := 0, slots := 0, locals := 21 }) [.ref (a 0), .int d, .int k] [((a 0), .inr (11, [.ref (a 1), .ref (a 6), .ref (a 10), .ref (a 15), .ref (a 17), .ref (a 22), .ref (a 23), .ref (a 30), .ref (a 31), .ref (a 34), .int 0, .ref (a 37), .ref (a 40)])), ((a 40), .inl (J.2.2.2, 6, .inr (.inr (.inr (.inr f))))), (sh, .inr (9, [.ref ce, .int 0, .int 0, .int 0, .int 0])), ((a 37), .inr (0, [.ref (a 38), .int 0, .ref (a 39), .int 0]))] (vp_Si (fun r => r = sp_taken (d.toInt) (k.toInt))) := by
  refine rc_of (by decide) (Nat.le_of_ble_eq_true rfl) ?_
  intro p e s m below meth c ls hE hl hP hK
  obtain ⟨hx, hb, hr, hml, hown, hts, hlk, hin⟩ := hE
  have hown : s.vm.findClass RX11 = some m.cls := hown
  have hl : lv_has ls 4 [(0, .ref (a 0)), (1, .int d), (2, .int k)] := hl
  have rg_d := i_rng d
  have rg_k := i_rng k
  refine lv_aload_n hx hb dX11_taken_0 rfl (lv_at hl 0 rfl) ?_
  refine lv_iload_n hx hb dX11_taken_1 rfl (lv_at hl 1 rfl) ?_
  refine go_a (rn_V (As := [.int d]) (rest := []) hx hb hml hown hts hK (cF_shelfIn l J a f sh d ⟨by omega, by omega⟩ hf) kV_RX11_106 (hP.sub (ws' := [((a 0), .inr (11, [.ref (a 1), .ref (a 6), .ref (a 10), .ref (a 15), .ref (a 17), .ref (a 22), .ref (a 23), .ref (a 30), .ref (a 31), .ref (a 34), .int 0, .ref (a 37), .ref (a 40)])), ((a 40), .inl (J.2.2.2, 6, .inr (.inr (.inr (.inr f)))))]) [0, 1] rfl) rfl rfl rfl ⟨Nat.le_of_ble_eq_true rfl, Nat.le_of_ble_eq_true rfl⟩ rfl rfl rfl hl.1 rfl (Nat.le_of_ble_eq_true rfl) ⟨Nat.le_of_ble_eq_true rfl, Nat.le_of_ble_eq_true rfl⟩ dX11_taken_2) ?_
  refine top_q (y := sh) rfl ?_
  refine lv_astore_n (lv' := [(3, .ref sh), (0, .ref (a 0)), (1, .int d), (2, .int k)]) hx hb dX11_taken_5 rfl hl (by decide) rfl (fun ls hl => ?_)
  refine lv_aload_n hx hb dX11_taken_6 rfl (lv_at hl 0 rfl) ?_
  refine lv_ifnull hx hb dX11_taken_7 ?_
  refine lv_aload_n hx hb dX11_taken_10 rfl (lv_at hl 1 rfl) ?_
  refine va_get (D := J.1) (ci := 11) (v := .ref (a 37)) (C := RX11) (T := TX11) (N := 13) hx hb hts inX11 hown hK.1 hP 0 rfl rfl 11 (by decide) (hts _ q_471) (fun _ h9 => h9) rfl dX11_taken_11 ?_
  refine lv_iload_n hx hb dX11_taken_14 rfl (lv_at hl 3 rfl) ?_
  refine go_i (rn_V (As := [.int k]) (rest := []) hx hb hml hown hts hK (cB_isKind l J (a 37) (a 38) (a 39) k) kV_RX11_325 (hP.sub (ws' := [((a 37), .inr (0, [.ref (a 38), .int 0, .ref (a 39), .int 0]))]) [3] rfl) rfl rfl rfl ⟨Nat.le_of_ble_eq_true rfl, Nat.le_of_ble_eq_true rfl⟩ rfl rfl rfl hl.1 rfl (Nat.le_of_ble_eq_true rfl) ⟨Nat.le_of_ble_eq_true rfl, Nat.le_of_ble_eq_true rfl⟩ dX11_taken_15) ?_
  refine lv_if_ne (tgt := 23) hx hb dX11_taken_18 (by decide) (fun c1 => ?_) (fun c1 => ?_)
  · have j2 := b1 c1
    refine lv_aload_n hx hb dX11_taken_23 rfl (lv_at hl 0 rfl) ?_
    refine go_i (rn_V (As := []) (rest := []) hx hb hml hown hts hK (cS_isEmpty l J sh ce) kV_RX11_110 (hP.sub (ws' := [(sh, .inr (9, [.ref ce, .int 0, .int 0, .int 0, .int 0]))]) [2] rfl) rfl rfl rfl ⟨Nat.le_of_ble_eq_true rfl, Nat.le_of_ble_eq_true rfl⟩ rfl rfl rfl hl.1 rfl (Nat.le_of_ble_eq_true rfl) ⟨Nat.le_of_ble_eq_true rfl, Nat.le_of_ble_eq_true rfl⟩ dX11_taken_24) ?_
    refine lv_if_eq (tgt := 33) hx hb dX11_taken_27 (by decide) (fun c => absurd c (by decide)) (fun _ => ?_)
    refine lv_bipush (v := (-11)) hx hb dX11_taken_30 (by decide) ?_
    exact rz_i hx hb hr hlk (by unfold sp_taken; (repeat' split) <;> first | rfl | (exfalso; omega)) dX11_taken_32
  · have j3 := b0 c1
    refine lv_iconst (v := (-1)) hx hb dX11_taken_21 (by decide) ?_
    exact rz_i hx hb hr hlk (by unfold sp_taken; (repeat' split) <;> first | rfl | (exfalso; omega)) dX11_taken_22
set_option maxHeartbeats 4000000 in
set_option maxRecDepth 100000 in
theorem c_taken_out (l : Launch) (J : va_J9) (a : Nat → Nat) (d : Int32) (k : Int32) (hd : ¬ (0 ≤ d.toInt ∧ d.toInt ≤ 5)) : RC l J yX11_taken cX11_taken 4 (some .int) ({ frames := 1, cells := 0, slots := 0, locals := 21 }) [.ref (a 0), .int d, .int k] [((a 0), .inr (11, [.ref (a 1), .ref (a 6), .ref (a 10), .ref (a 15), .ref (a 17), .ref (a 22), .ref (a 23), .ref (a 30), .ref (a 31), .ref (a 34), .int 0, .ref (a 37), .ref (a 40)]))] (vp_Si (fun r => r = sp_taken (d.toInt) (k.toInt))) := by
  refine rc_of (by decide) (Nat.le_of_ble_eq_true rfl) ?_
  intro p e s m below meth c ls hE hl hP hK
  obtain ⟨hx, hb, hr, hml, hown, hts, hlk, hin⟩ := hE
  have hown : s.vm.findClass RX11 = some m.cls := hown
  have hl : lv_has ls 4 [(0, .ref (a 0)), (1, .int d), (2, .int k)] := hl
  have rg_d := i_rng d
  have rg_k := i_rng k
  refine lv_aload_n hx hb dX11_taken_0 rfl (lv_at hl 0 rfl) ?_
  refine lv_iload_n hx hb dX11_taken_1 rfl (lv_at hl 1 rfl) ?_
  refine go_a (rn_V (As := [.int d]) (rest := []) hx hb hml hown hts hK (cF_shelfOut l J a d (by omega)) kV_RX11_106 hP rfl rfl rfl ⟨Nat.le_of_ble_eq_true rfl, Nat.le_of_ble_eq_true rfl⟩ rfl rfl rfl hl.1 rfl (Nat.le_of_ble_eq_true rfl) ⟨Nat.le_of_ble_eq_true rfl, Nat.le_of_ble_eq_true rfl⟩ dX11_taken_2) ?_
  refine top_n rfl ?_
  refine lv_astore_nN (lv' := [(3, .null), (0, .ref (a 0)), (1, .int d), (2, .int k)]) hx hb dX11_taken_5 rfl hl (by decide) rfl (fun ls hl => ?_)
  refine lv_aload_nN hx hb dX11_taken_6 rfl (lv_at hl 0 rfl) ?_
  refine lv_ifnullN (tgt := 21) hx hb dX11_taken_7 (by decide) ?_
  refine lv_iconst (v := (-1)) hx hb dX11_taken_21 (by decide) ?_
  exact rz_i hx hb hr hlk (by unfold sp_taken; (repeat' split) <;> first | rfl | (exfalso; omega)) dX11_taken_22
theorem dX11_count_0 : decode cX11_count 0 = .ok (.iload_n 1, 1) := by decide +kernel
theorem dX11_count_1 : decode cX11_count 1 = .ok (.tableswitch 102 0 6 #[43, 51, 59, 70, 78, 86, 94], 43) := by decide +kernel
theorem dX11_count_44 : decode cX11_count 44 = .ok (.aload_n 0, 1) := by decide +kernel
theorem dX11_count_45 : decode cX11_count 45 = .ok (.getfield 21, 3) := by decide +kernel
theorem q_181 : Cond.fieldLink RX11 388 RX10 "size" "I" ∈ lw_g := mem_q 181 (by decide +kernel) rfl
theorem dX11_count_48 : decode cX11_count 48 = .ok (.getfield 388, 3) := by decide +kernel
theorem dX11_count_51 : decode cX11_count 51 = .ok (.ireturn, 1) := by decide +kernel
theorem dX11_count_52 : decode cX11_count 52 = .ok (.aload_n 0, 1) := by decide +kernel
theorem dX11_count_53 : decode cX11_count 53 = .ok (.getfield 21, 3) := by decide +kernel
theorem q_183 : Cond.fieldLink RX11 391 RX10 "paths" "I" ∈ lw_g := mem_q 183 (by decide +kernel) rfl
theorem dX11_count_56 : decode cX11_count 56 = .ok (.getfield 391, 3) := by decide +kernel
theorem dX11_count_59 : decode cX11_count 59 = .ok (.ireturn, 1) := by decide +kernel
theorem dX11_count_60 : decode cX11_count 60 = .ok (.aload_n 0, 1) := by decide +kernel
theorem dX11_count_61 : decode cX11_count 61 = .ok (.getfield 21, 3) := by decide +kernel
theorem q_1258 : Cond.methodLink RX11 394 yX10_openOnes ∈ lw_g := mem_q 1258 (by decide +kernel) rfl
theorem kV_RX11_394 : CV RX11 394 RX10 yX10_openOnes cX10_openOnes 1 (some .int) 0 := cv_of q_1258 q_660 q_661 q_105 q_662 (by decide +kernel)
theorem dX11_count_64 : decode cX11_count 64 = .ok (.invokevirtual 394, 3) := by decide +kernel
theorem q_1259 : Cond.methodLink RX11 397 yJ6_bitCount_0f7a4 ∈ lw_g := mem_q 1259 (by decide +kernel) rfl
theorem kS_RX11_397 : CS RX11 397 yJ6_bitCount_0f7a4 cJ6_bitCount_0f7a4 1 (some .int) 1 := cs_of q_1259 q_608 q_117 q_609 (by decide +kernel)
theorem dX11_count_67 : decode cX11_count 67 = .ok (.invokestatic 397, 3) := by decide +kernel
theorem dX11_count_70 : decode cX11_count 70 = .ok (.ireturn, 1) := by decide +kernel
theorem dX11_count_71 : decode cX11_count 71 = .ok (.aload_n 0, 1) := by decide +kernel
theorem dX11_count_72 : decode cX11_count 72 = .ok (.getfield 10, 3) := by decide +kernel
theorem q_135 : Cond.fieldLink RX11 402 RX7 "tapeSize" "I" ∈ lw_g := mem_q 135 (by decide +kernel) rfl
theorem dX11_count_75 : decode cX11_count 75 = .ok (.getfield 402, 3) := by decide +kernel
theorem dX11_count_78 : decode cX11_count 78 = .ok (.ireturn, 1) := by decide +kernel
theorem dX11_count_79 : decode cX11_count 79 = .ok (.aload_n 0, 1) := by decide +kernel
theorem dX11_count_80 : decode cX11_count 80 = .ok (.getfield 30, 3) := by decide +kernel
theorem q_230 : Cond.fieldLink RX11 405 RX2 "done" "I" ∈ lw_g := mem_q 230 (by decide +kernel) rfl
theorem dX11_count_83 : decode cX11_count 83 = .ok (.getfield 405, 3) := by decide +kernel
theorem dX11_count_86 : decode cX11_count 86 = .ok (.ireturn, 1) := by decide +kernel
theorem dX11_count_87 : decode cX11_count 87 = .ok (.aload_n 0, 1) := by decide +kernel
theorem dX11_count_88 : decode cX11_count 88 = .ok (.getfield 84, 3) := by decide +kernel
theorem q_420 : Cond.fieldLink RX11 408 RX0 "size" "I" ∈ lw_g := mem_q 420 (by decide +kernel) rfl
theorem dX11_count_91 : decode cX11_count 91 = .ok (.getfield 408, 3) := by decide +kernel
theorem dX11_count_94 : decode cX11_count 94 = .ok (.ireturn, 1) := by decide +kernel
theorem dX11_count_95 : decode cX11_count 95 = .ok (.aload_n 0, 1) := by decide +kernel
theorem dX11_count_96 : decode cX11_count 96 = .ok (.getfield 84, 3) := by decide +kernel
theorem q_423 : Cond.fieldLink RX11 409 RX0 "ranSize" "I" ∈ lw_g := mem_q 423 (by decide +kernel) rfl
theorem dX11_count_99 : decode cX11_count 99 = .ok (.getfield 409, 3) := by decide +kernel
theorem dX11_count_102 : decode cX11_count 102 = .ok (.ireturn, 1) := by decide +kernel
theorem dX11_count_103 : decode cX11_count 103 = .ok (.iconst (-1), 1) := by decide +kernel
theorem dX11_count_104 : decode cX11_count 104 = .ok (.ireturn, 1) := by decide +kernel
set_option maxHeartbeats 4000000 in
set_option maxRecDepth 100000 in
theorem c_count (l : Launch) (J : va_J9) (a : Nat → Nat) (k : Int32) : RC l J yX11_count cX11_count 2 (some .int) ({ frames := 1, cells := 0, slots := 0, locals := 20 }) [.ref (a 0), .int k] [((a 0), .inr (11, [.ref (a 1), .ref (a 6), .ref (a 10), .ref (a 15), .ref (a 17), .ref (a 22), .ref (a 23), .ref (a 30), .ref (a 31), .ref (a 34), .int 0, .ref (a 37), .ref (a 40)])), ((a 6), .inr (10, [.ref (a 1), .ref (a 7), .ref (a 8), .ref (a 9), .int 0, .int 0, .int 0, .int 0, .int 1, .int 0, .int 0])), ((a 1), .inr (7, [.ref (a 2), .int 0, .ref (a 3), .int 0, .int 0, .int 0, .ref (a 4), .int 0, .ref (a 5), .int 0])), ((a 10), .inr (2, [.ref (a 6), .ref (a 11), .ref (a 12), .ref (a 13), .ref (a 14), .int 0, .int 0])), ((a 37), .inr (0, [.ref (a 38), .int 0, .ref (a 39), .int 0]))] (vp_Si (fun r => r = sp_count (k.toInt))) := by
  refine rc_of (by decide) (Nat.le_of_ble_eq_true rfl) ?_
  intro p e s m below meth c ls hE hl hP hK
  obtain ⟨hx, hb, hr, hml, hown, hts, hlk, hin⟩ := hE
  have hown : s.vm.findClass RX11 = some m.cls := hown
  have hl : lv_has ls 2 [(0, .ref (a 0)), (1, .int k)] := hl
  have rg_k := i_rng k
  refine lv_iload_n hx hb dX11_count_0 rfl (lv_at hl 1 rfl) ?_
  rcases Decidable.em (k = 0) with c1 | c1
  · have j2 : k.toInt = 0 := (i_eq rfl (by decide)).mp c1
    refine top_i (y := 0) c1 ?_
    refine lv_tableIn (tgt := 44) (off := 43) hx hb dX11_count_1 (by decide) (by decide) (by decide) (by decide) ?_
    refine lv_aload_n hx hb dX11_count_44 rfl (lv_at hl 0 rfl) ?_
    refine va_get (D := J.1) (ci := 11) (v := .ref (a 6)) (C := RX11) (T := TX11) (N := 13) hx hb hts inX11 hown hK.1 hP 0 rfl rfl 1 (by decide) (hts _ q_461) (fun _ h9 => h9) rfl dX11_count_45 ?_
    refine va_get (D := J.1) (ci := 10) (v := .int 0) (C := RX10) (T := TX10) (N := 11) hx hb hts inX10 hown hK.1 hP 1 rfl rfl 6 (by decide) (hts _ q_181) (fun _ h9 => h9) rfl dX11_count_48 ?_
    exact rz_i hx hb hr hlk (by unfold sp_count; (repeat' split) <;> first | rfl | (exfalso; omega)) dX11_count_51
  have j3 : ¬ (k.toInt = 0) := fun h => c1 ((i_eq rfl (by decide)).mpr h)
  rcases Decidable.em (k = 1) with c4 | c4
  · have j5 : k.toInt = 1 := (i_eq rfl (by decide)).mp c4
    refine top_i (y := 1) c4 ?_
    refine lv_tableIn (tgt := 52) (off := 51) hx hb dX11_count_1 (by decide) (by decide) (by decide) (by decide) ?_
    refine lv_aload_n hx hb dX11_count_52 rfl (lv_at hl 0 rfl) ?_
    refine va_get (D := J.1) (ci := 11) (v := .ref (a 6)) (C := RX11) (T := TX11) (N := 13) hx hb hts inX11 hown hK.1 hP 0 rfl rfl 1 (by decide) (hts _ q_461) (fun _ h9 => h9) rfl dX11_count_53 ?_
    refine va_get (D := J.1) (ci := 10) (v := .int 0) (C := RX10) (T := TX10) (N := 11) hx hb hts inX10 hown hK.1 hP 1 rfl rfl 7 (by decide) (hts _ q_183) (fun _ h9 => h9) rfl dX11_count_56 ?_
    exact rz_i hx hb hr hlk (by unfold sp_count; (repeat' split) <;> first | rfl | (exfalso; omega)) dX11_count_59
  have j6 : ¬ (k.toInt = 1) := fun h => c4 ((i_eq rfl (by decide)).mpr h)
  rcases Decidable.em (k = 2) with c7 | c7
  · have j8 : k.toInt = 2 := (i_eq rfl (by decide)).mp c7
    refine top_i (y := 2) c7 ?_
    refine lv_tableIn (tgt := 60) (off := 59) hx hb dX11_count_1 (by decide) (by decide) (by decide) (by decide) ?_
    refine lv_aload_n hx hb dX11_count_60 rfl (lv_at hl 0 rfl) ?_
    refine va_get (D := J.1) (ci := 11) (v := .ref (a 6)) (C := RX11) (T := TX11) (N := 13) hx hb hts inX11 hown hK.1 hP 0 rfl rfl 1 (by decide) (hts _ q_461) (fun _ h9 => h9) rfl dX11_count_61 ?_
    refine go_i (rn_V (As := []) (rest := []) hx hb hml hown hts hK (cW_openOnes l J (a 6) (a 1) (a 7) (a 8) (a 9)) kV_RX11_394 (hP.sub (ws' := [((a 6), .inr (10, [.ref (a 1), .ref (a 7), .ref (a 8), .ref (a 9), .int 0, .int 0, .int 0, .int 0, .int 1, .int 0, .int 0]))]) [1] rfl) rfl rfl rfl ⟨Nat.le_of_ble_eq_true rfl, Nat.le_of_ble_eq_true rfl⟩ rfl rfl rfl hl.1 rfl (Nat.le_of_ble_eq_true rfl) ⟨Nat.le_of_ble_eq_true rfl, Nat.le_of_ble_eq_true rfl⟩ dX11_count_64) ?_
    refine go_i (rn_S (As := [.int 0]) (rest := []) hx hb hml hown hts hK (cJ_bit0 l J ) kS_RX11_397 (hP.sub (ws' := []) [] rfl) ⟨Nat.le_of_ble_eq_true rfl, Nat.le_of_ble_eq_true rfl⟩ rfl rfl rfl hl.1 rfl (Nat.le_of_ble_eq_true rfl) ⟨Nat.le_of_ble_eq_true rfl, Nat.le_of_ble_eq_true rfl⟩ dX11_count_67) ?_
    exact rz_i hx hb hr hlk (by unfold sp_count; (repeat' split) <;> first | rfl | (exfalso; omega)) dX11_count_70
  have j9 : ¬ (k.toInt = 2) := fun h => c7 ((i_eq rfl (by decide)).mpr h)
  rcases Decidable.em (k = 3) with c10 | c10
  · have j11 : k.toInt = 3 := (i_eq rfl (by decide)).mp c10
    refine top_i (y := 3) c10 ?_
    refine lv_tableIn (tgt := 71) (off := 70) hx hb dX11_count_1 (by decide) (by decide) (by decide) (by decide) ?_
    refine lv_aload_n hx hb dX11_count_71 rfl (lv_at hl 0 rfl) ?_
    refine va_get (D := J.1) (ci := 11) (v := .ref (a 1)) (C := RX11) (T := TX11) (N := 13) hx hb hts inX11 hown hK.1 hP 0 rfl rfl 0 (by decide) (hts _ q_460) (fun _ h9 => h9) rfl dX11_count_72 ?_
    refine va_get (D := J.1) (ci := 7) (v := .int 0) (C := RX7) (T := TX7) (N := 10) hx hb hts inX7 hown hK.1 hP 2 rfl rfl 1 (by decide) (hts _ q_135) (fun _ h9 => h9) rfl dX11_count_75 ?_
    exact rz_i hx hb hr hlk (by unfold sp_count; (repeat' split) <;> first | rfl | (exfalso; omega)) dX11_count_78
  have j12 : ¬ (k.toInt = 3) := fun h => c10 ((i_eq rfl (by decide)).mpr h)
  rcases Decidable.em (k = 4) with c13 | c13
  · have j14 : k.toInt = 4 := (i_eq rfl (by decide)).mp c13
    refine top_i (y := 4) c13 ?_
    refine lv_tableIn (tgt := 79) (off := 78) hx hb dX11_count_1 (by decide) (by decide) (by decide) (by decide) ?_
    refine lv_aload_n hx hb dX11_count_79 rfl (lv_at hl 0 rfl) ?_
    refine va_get (D := J.1) (ci := 11) (v := .ref (a 10)) (C := RX11) (T := TX11) (N := 13) hx hb hts inX11 hown hK.1 hP 0 rfl rfl 2 (by decide) (hts _ q_462) (fun _ h9 => h9) rfl dX11_count_80 ?_
    refine va_get (D := J.1) (ci := 2) (v := .int 0) (C := RX2) (T := TX2) (N := 7) hx hb hts inX2 hown hK.1 hP 3 rfl rfl 6 (by decide) (hts _ q_230) (fun _ h9 => h9) rfl dX11_count_83 ?_
    exact rz_i hx hb hr hlk (by unfold sp_count; (repeat' split) <;> first | rfl | (exfalso; omega)) dX11_count_86
  have j15 : ¬ (k.toInt = 4) := fun h => c13 ((i_eq rfl (by decide)).mpr h)
  rcases Decidable.em (k = 5) with c16 | c16
  · have j17 : k.toInt = 5 := (i_eq rfl (by decide)).mp c16
    refine top_i (y := 5) c16 ?_
    refine lv_tableIn (tgt := 87) (off := 86) hx hb dX11_count_1 (by decide) (by decide) (by decide) (by decide) ?_
    refine lv_aload_n hx hb dX11_count_87 rfl (lv_at hl 0 rfl) ?_
    refine va_get (D := J.1) (ci := 11) (v := .ref (a 37)) (C := RX11) (T := TX11) (N := 13) hx hb hts inX11 hown hK.1 hP 0 rfl rfl 11 (by decide) (hts _ q_471) (fun _ h9 => h9) rfl dX11_count_88 ?_
    refine va_get (D := J.1) (ci := 0) (v := .int 0) (C := RX0) (T := TX0) (N := 4) hx hb hts inX0 hown hK.1 hP 4 rfl rfl 1 (by decide) (hts _ q_420) (fun _ h9 => h9) rfl dX11_count_91 ?_
    exact rz_i hx hb hr hlk (by unfold sp_count; (repeat' split) <;> first | rfl | (exfalso; omega)) dX11_count_94
  have j18 : ¬ (k.toInt = 5) := fun h => c16 ((i_eq rfl (by decide)).mpr h)
  rcases Decidable.em (k = 6) with c19 | c19
  · have j20 : k.toInt = 6 := (i_eq rfl (by decide)).mp c19
    refine top_i (y := 6) c19 ?_
    refine lv_tableIn (tgt := 95) (off := 94) hx hb dX11_count_1 (by decide) (by decide) (by decide) (by decide) ?_
    refine lv_aload_n hx hb dX11_count_95 rfl (lv_at hl 0 rfl) ?_
    refine va_get (D := J.1) (ci := 11) (v := .ref (a 37)) (C := RX11) (T := TX11) (N := 13) hx hb hts inX11 hown hK.1 hP 0 rfl rfl 11 (by decide) (hts _ q_471) (fun _ h9 => h9) rfl dX11_count_96 ?_
    refine va_get (D := J.1) (ci := 0) (v := .int 0) (C := RX0) (T := TX0) (N := 4) hx hb hts inX0 hown hK.1 hP 4 rfl rfl 3 (by decide) (hts _ q_423) (fun _ h9 => h9) rfl dX11_count_99 ?_
    exact rz_i hx hb hr hlk (by unfold sp_count; (repeat' split) <;> first | rfl | (exfalso; omega)) dX11_count_102
  have j21 : ¬ (k.toInt = 6) := fun h => c19 ((i_eq rfl (by decide)).mpr h)
  refine lv_tableOut (tgt := 103) hx hb dX11_count_1 (by omega) (by decide) ?_
  refine lv_iconst (v := (-1)) hx hb dX11_count_103 (by decide) ?_
  exact rz_i hx hb hr hlk (by unfold sp_count; (repeat' split) <;> first | rfl | (exfalso; omega)) dX11_count_104
theorem dX11_shift_0 : decode cX11_shift 0 = .ok (.aload_n 0, 1) := by decide +kernel
theorem dX11_shift_1 : decode cX11_shift 1 = .ok (.iload_n 1, 1) := by decide +kernel
theorem dX11_shift_2 : decode cX11_shift 2 = .ok (.invokevirtual 106, 3) := by decide +kernel
theorem dX11_shift_5 : decode cX11_shift 5 = .ok (.astore 6, 2) := by decide +kernel
theorem dX11_shift_7 : decode cX11_shift 7 = .ok (.aload_n 0, 1) := by decide +kernel
theorem dX11_shift_8 : decode cX11_shift 8 = .ok (.iload_n 3, 1) := by decide +kernel
theorem dX11_shift_9 : decode cX11_shift 9 = .ok (.invokevirtual 106, 3) := by decide +kernel
theorem dX11_shift_12 : decode cX11_shift 12 = .ok (.astore 7, 2) := by decide +kernel
theorem dX11_shift_14 : decode cX11_shift 14 = .ok (.aload 6, 2) := by decide +kernel
theorem dX11_shift_16 : decode cX11_shift 16 = .ok (.ifnull 8, 3) := by decide +kernel
theorem dX11_shift_19 : decode cX11_shift 19 = .ok (.aload 7, 2) := by decide +kernel
theorem dX11_shift_21 : decode cX11_shift 21 = .ok (.ifnonnull 5, 3) := by decide +kernel
theorem dX11_shift_26 : decode cX11_shift 26 = .ok (.aload 6, 2) := by decide +kernel
theorem dX11_shift_28 : decode cX11_shift 28 = .ok (.invokevirtual 110, 3) := by decide +kernel
theorem dX11_shift_31 : decode cX11_shift 31 = .ok (.ifCond .ne 11, 3) := by decide +kernel
theorem dX11_shift_42 : decode cX11_shift 42 = .ok (.bipush (-11), 2) := by decide +kernel
theorem dX11_shift_44 : decode cX11_shift 44 = .ok (.ireturn, 1) := by decide +kernel
set_option maxHeartbeats 4000000 in
set_option maxRecDepth 100000 in
theorem c_shift_11 (l : Launch) (J : va_J9) (a : Nat → Nat) (f : Nat → Option Nat) (sh : Nat) (ce : Nat) (s2 : Nat) (d : Int32) (x : Int32) (o : Int32) (y : Int32) (n : Int32) (hd : 0 ≤ d.toInt ∧ d.toInt ≤ 5) (ho : 0 ≤ o.toInt ∧ o.toInt ≤ 5) (hf : f d.toNatClampNeg = some sh) (hg : f o.toNatClampNeg = some s2) : RC l J yX11_shift cX11_shift 8 (some .int) ({ frames := 1, cells := 0, slots := 0, locals := 21 }) [.ref (a 0), .int d, .int x, .int o, .int y, .int n] [((a 0), .inr (11, [.ref (a 1), .ref (a 6), .ref (a 10), .ref (a 15), .ref (a 17), .ref (a 22), .ref (a 23), .ref (a 30), .ref (a 31), .ref (a 34), .int 0, .ref (a 37), .ref (a 40)])), ((a 40), .inl (J.2.2.2, 6, .inr (.inr (.inr (.inr f))))), (sh, .inr (9, [.ref ce, .int 0, .int 0, .int 0, .int 0]))] (vp_Si (fun r => r = sp_shift (d.toInt) (o.toInt))) := by
  refine rc_of (by decide) (Nat.le_of_ble_eq_true rfl) ?_
  intro p e s m below meth c ls hE hl hP hK
  obtain ⟨hx, hb, hr, hml, hown, hts, hlk, hin⟩ := hE
  have hown : s.vm.findClass RX11 = some m.cls := hown
  have hl : lv_has ls 8 [(0, .ref (a 0)), (1, .int d), (2, .int x), (3, .int o), (4, .int y), (5, .int n)] := hl
  have rg_d := i_rng d
  have rg_x := i_rng x
  have rg_o := i_rng o
  have rg_y := i_rng y
  have rg_n := i_rng n
  refine lv_aload_n hx hb dX11_shift_0 rfl (lv_at hl 0 rfl) ?_
  refine lv_iload_n hx hb dX11_shift_1 rfl (lv_at hl 1 rfl) ?_
  refine go_a (rn_V (As := [.int d]) (rest := []) hx hb hml hown hts hK (cF_shelfIn l J a f sh d ⟨by omega, by omega⟩ hf) kV_RX11_106 (hP.sub (ws' := [((a 0), .inr (11, [.ref (a 1), .ref (a 6), .ref (a 10), .ref (a 15), .ref (a 17), .ref (a 22), .ref (a 23), .ref (a 30), .ref (a 31), .ref (a 34), .int 0, .ref (a 37), .ref (a 40)])), ((a 40), .inl (J.2.2.2, 6, .inr (.inr (.inr (.inr f)))))]) [0, 1] rfl) rfl rfl rfl ⟨Nat.le_of_ble_eq_true rfl, Nat.le_of_ble_eq_true rfl⟩ rfl rfl rfl hl.1 rfl (Nat.le_of_ble_eq_true rfl) ⟨Nat.le_of_ble_eq_true rfl, Nat.le_of_ble_eq_true rfl⟩ dX11_shift_2) ?_
  refine top_q (y := sh) rfl ?_
  refine lv_astore (lv' := [(6, .ref sh), (0, .ref (a 0)), (1, .int d), (2, .int x), (3, .int o), (4, .int y), (5, .int n)]) hx hb dX11_shift_5 hl (by decide) rfl (fun ls hl => ?_)
  refine lv_aload_n hx hb dX11_shift_7 rfl (lv_at hl 1 rfl) ?_
  refine lv_iload_n hx hb dX11_shift_8 rfl (lv_at hl 4 rfl) ?_
  refine go_a (rn_V (As := [.int o]) (rest := []) hx hb hml hown hts hK (cF_shelfIn l J a f s2 o ⟨by omega, by omega⟩ hg) kV_RX11_106 (hP.sub (ws' := [((a 0), .inr (11, [.ref (a 1), .ref (a 6), .ref (a 10), .ref (a 15), .ref (a 17), .ref (a 22), .ref (a 23), .ref (a 30), .ref (a 31), .ref (a 34), .int 0, .ref (a 37), .ref (a 40)])), ((a 40), .inl (J.2.2.2, 6, .inr (.inr (.inr (.inr f)))))]) [0, 1] rfl) rfl rfl rfl ⟨Nat.le_of_ble_eq_true rfl, Nat.le_of_ble_eq_true rfl⟩ rfl rfl rfl hl.1 rfl (Nat.le_of_ble_eq_true rfl) ⟨Nat.le_of_ble_eq_true rfl, Nat.le_of_ble_eq_true rfl⟩ dX11_shift_9) ?_
  refine top_q (y := s2) rfl ?_
  refine lv_astore (lv' := [(7, .ref s2), (6, .ref sh), (0, .ref (a 0)), (1, .int d), (2, .int x), (3, .int o), (4, .int y), (5, .int n)]) hx hb dX11_shift_12 hl (by decide) rfl (fun ls hl => ?_)
  refine lv_aload hx hb dX11_shift_14 (lv_at hl 1 rfl) ?_
  refine lv_ifnull hx hb dX11_shift_16 ?_
  refine lv_aload hx hb dX11_shift_19 (lv_at hl 0 rfl) ?_
  refine lv_ifnonnull (tgt := 26) hx hb dX11_shift_21 (by decide) ?_
  refine lv_aload hx hb dX11_shift_26 (lv_at hl 1 rfl) ?_
  refine go_i (rn_V (As := []) (rest := []) hx hb hml hown hts hK (cS_isEmpty l J sh ce) kV_RX11_110 (hP.sub (ws' := [(sh, .inr (9, [.ref ce, .int 0, .int 0, .int 0, .int 0]))]) [2] rfl) rfl rfl rfl ⟨Nat.le_of_ble_eq_true rfl, Nat.le_of_ble_eq_true rfl⟩ rfl rfl rfl hl.1 rfl (Nat.le_of_ble_eq_true rfl) ⟨Nat.le_of_ble_eq_true rfl, Nat.le_of_ble_eq_true rfl⟩ dX11_shift_28) ?_
  refine lv_if_ne (tgt := 42) hx hb dX11_shift_31 (by decide) (fun _ => ?_) (fun c => absurd c (by decide))
  refine lv_bipush (v := (-11)) hx hb dX11_shift_42 (by decide) ?_
  exact rz_i hx hb hr hlk (by unfold sp_shift; (repeat' split) <;> first | rfl | (exfalso; omega)) dX11_shift_44
theorem dX11_shift_24 : decode cX11_shift 24 = .ok (.iconst (-1), 1) := by decide +kernel
theorem dX11_shift_25 : decode cX11_shift 25 = .ok (.ireturn, 1) := by decide +kernel
set_option maxHeartbeats 4000000 in
set_option maxRecDepth 100000 in
theorem c_shift_10 (l : Launch) (J : va_J9) (a : Nat → Nat) (f : Nat → Option Nat) (sh : Nat) (ce : Nat) (d : Int32) (x : Int32) (o : Int32) (y : Int32) (n : Int32) (hd : 0 ≤ d.toInt ∧ d.toInt ≤ 5) (ho : ¬ (0 ≤ o.toInt ∧ o.toInt ≤ 5)) (hf : f d.toNatClampNeg = some sh) : RC l J yX11_shift cX11_shift 8 (some .int) ({ frames := 1, cells := 0, slots := 0, locals := 21 }) [.ref (a 0), .int d, .int x, .int o, .int y, .int n] [((a 0), .inr (11, [.ref (a 1), .ref (a 6), .ref (a 10), .ref (a 15), .ref (a 17), .ref (a 22), .ref (a 23), .ref (a 30), .ref (a 31), .ref (a 34), .int 0, .ref (a 37), .ref (a 40)])), ((a 40), .inl (J.2.2.2, 6, .inr (.inr (.inr (.inr f))))), (sh, .inr (9, [.ref ce, .int 0, .int 0, .int 0, .int 0]))] (vp_Si (fun r => r = sp_shift (d.toInt) (o.toInt))) := by
  refine rc_of (by decide) (Nat.le_of_ble_eq_true rfl) ?_
  intro p e s m below meth c ls hE hl hP hK
  obtain ⟨hx, hb, hr, hml, hown, hts, hlk, hin⟩ := hE
  have hown : s.vm.findClass RX11 = some m.cls := hown
  have hl : lv_has ls 8 [(0, .ref (a 0)), (1, .int d), (2, .int x), (3, .int o), (4, .int y), (5, .int n)] := hl
  have rg_d := i_rng d
  have rg_x := i_rng x
  have rg_o := i_rng o
  have rg_y := i_rng y
  have rg_n := i_rng n
  refine lv_aload_n hx hb dX11_shift_0 rfl (lv_at hl 0 rfl) ?_
  refine lv_iload_n hx hb dX11_shift_1 rfl (lv_at hl 1 rfl) ?_
  refine go_a (rn_V (As := [.int d]) (rest := []) hx hb hml hown hts hK (cF_shelfIn l J a f sh d ⟨by omega, by omega⟩ hf) kV_RX11_106 (hP.sub (ws' := [((a 0), .inr (11, [.ref (a 1), .ref (a 6), .ref (a 10), .ref (a 15), .ref (a 17), .ref (a 22), .ref (a 23), .ref (a 30), .ref (a 31), .ref (a 34), .int 0, .ref (a 37), .ref (a 40)])), ((a 40), .inl (J.2.2.2, 6, .inr (.inr (.inr (.inr f)))))]) [0, 1] rfl) rfl rfl rfl ⟨Nat.le_of_ble_eq_true rfl, Nat.le_of_ble_eq_true rfl⟩ rfl rfl rfl hl.1 rfl (Nat.le_of_ble_eq_true rfl) ⟨Nat.le_of_ble_eq_true rfl, Nat.le_of_ble_eq_true rfl⟩ dX11_shift_2) ?_
  refine top_q (y := sh) rfl ?_
  refine lv_astore (lv' := [(6, .ref sh), (0, .ref (a 0)), (1, .int d), (2, .int x), (3, .int o), (4, .int y), (5, .int n)]) hx hb dX11_shift_5 hl (by decide) rfl (fun ls hl => ?_)
  refine lv_aload_n hx hb dX11_shift_7 rfl (lv_at hl 1 rfl) ?_
  refine lv_iload_n hx hb dX11_shift_8 rfl (lv_at hl 4 rfl) ?_
  refine go_a (rn_V (As := [.int o]) (rest := []) hx hb hml hown hts hK (cF_shelfOut l J a o (by omega)) kV_RX11_106 (hP.sub (ws' := [((a 0), .inr (11, [.ref (a 1), .ref (a 6), .ref (a 10), .ref (a 15), .ref (a 17), .ref (a 22), .ref (a 23), .ref (a 30), .ref (a 31), .ref (a 34), .int 0, .ref (a 37), .ref (a 40)]))]) [0] rfl) rfl rfl rfl ⟨Nat.le_of_ble_eq_true rfl, Nat.le_of_ble_eq_true rfl⟩ rfl rfl rfl hl.1 rfl (Nat.le_of_ble_eq_true rfl) ⟨Nat.le_of_ble_eq_true rfl, Nat.le_of_ble_eq_true rfl⟩ dX11_shift_9) ?_
  refine top_n rfl ?_
  refine lv_astoreN (lv' := [(7, .null), (6, .ref sh), (0, .ref (a 0)), (1, .int d), (2, .int x), (3, .int o), (4, .int y), (5, .int n)]) hx hb dX11_shift_12 hl (by decide) rfl (fun ls hl => ?_)
  refine lv_aload hx hb dX11_shift_14 (lv_at hl 1 rfl) ?_
  refine lv_ifnull hx hb dX11_shift_16 ?_
  refine lv_aloadN hx hb dX11_shift_19 (lv_at hl 0 rfl) ?_
  refine lv_ifnonnullN hx hb dX11_shift_21 ?_
  refine lv_iconst (v := (-1)) hx hb dX11_shift_24 (by decide) ?_
  exact rz_i hx hb hr hlk (by unfold sp_shift; (repeat' split) <;> first | rfl | (exfalso; omega)) dX11_shift_25
set_option maxHeartbeats 4000000 in
set_option maxRecDepth 100000 in
theorem c_shift_01 (l : Launch) (J : va_J9) (a : Nat → Nat) (f : Nat → Option Nat) (s2 : Nat) (d : Int32) (x : Int32) (o : Int32) (y : Int32) (n : Int32) (hd : ¬ (0 ≤ d.toInt ∧ d.toInt ≤ 5)) (ho : 0 ≤ o.toInt ∧ o.toInt ≤ 5) (hg : f o.toNatClampNeg = some s2) : RC l J yX11_shift cX11_shift 8 (some .int) ({ frames := 1, cells := 0, slots := 0, locals := 21 }) [.ref (a 0), .int d, .int x, .int o, .int y, .int n] [((a 0), .inr (11, [.ref (a 1), .ref (a 6), .ref (a 10), .ref (a 15), .ref (a 17), .ref (a 22), .ref (a 23), .ref (a 30), .ref (a 31), .ref (a 34), .int 0, .ref (a 37), .ref (a 40)])), ((a 40), .inl (J.2.2.2, 6, .inr (.inr (.inr (.inr f)))))] (vp_Si (fun r => r = sp_shift (d.toInt) (o.toInt))) := by
  refine rc_of (by decide) (Nat.le_of_ble_eq_true rfl) ?_
  intro p e s m below meth c ls hE hl hP hK
  obtain ⟨hx, hb, hr, hml, hown, hts, hlk, hin⟩ := hE
  have hown : s.vm.findClass RX11 = some m.cls := hown
  have hl : lv_has ls 8 [(0, .ref (a 0)), (1, .int d), (2, .int x), (3, .int o), (4, .int y), (5, .int n)] := hl
  have rg_d := i_rng d
  have rg_x := i_rng x
  have rg_o := i_rng o
  have rg_y := i_rng y
  have rg_n := i_rng n
  refine lv_aload_n hx hb dX11_shift_0 rfl (lv_at hl 0 rfl) ?_
  refine lv_iload_n hx hb dX11_shift_1 rfl (lv_at hl 1 rfl) ?_
  refine go_a (rn_V (As := [.int d]) (rest := []) hx hb hml hown hts hK (cF_shelfOut l J a d (by omega)) kV_RX11_106 (hP.sub (ws' := [((a 0), .inr (11, [.ref (a 1), .ref (a 6), .ref (a 10), .ref (a 15), .ref (a 17), .ref (a 22), .ref (a 23), .ref (a 30), .ref (a 31), .ref (a 34), .int 0, .ref (a 37), .ref (a 40)]))]) [0] rfl) rfl rfl rfl ⟨Nat.le_of_ble_eq_true rfl, Nat.le_of_ble_eq_true rfl⟩ rfl rfl rfl hl.1 rfl (Nat.le_of_ble_eq_true rfl) ⟨Nat.le_of_ble_eq_true rfl, Nat.le_of_ble_eq_true rfl⟩ dX11_shift_2) ?_
  refine top_n rfl ?_
  refine lv_astoreN (lv' := [(6, .null), (0, .ref (a 0)), (1, .int d), (2, .int x), (3, .int o), (4, .int y), (5, .int n)]) hx hb dX11_shift_5 hl (by decide) rfl (fun ls hl => ?_)
  refine lv_aload_n hx hb dX11_shift_7 rfl (lv_at hl 1 rfl) ?_
  refine lv_iload_n hx hb dX11_shift_8 rfl (lv_at hl 4 rfl) ?_
  refine go_a (rn_V (As := [.int o]) (rest := []) hx hb hml hown hts hK (cF_shelfIn l J a f s2 o ⟨by omega, by omega⟩ hg) kV_RX11_106 hP rfl rfl rfl ⟨Nat.le_of_ble_eq_true rfl, Nat.le_of_ble_eq_true rfl⟩ rfl rfl rfl hl.1 rfl (Nat.le_of_ble_eq_true rfl) ⟨Nat.le_of_ble_eq_true rfl, Nat.le_of_ble_eq_true rfl⟩ dX11_shift_9) ?_
  refine top_q (y := s2) rfl ?_
  refine lv_astore (lv' := [(7, .ref s2), (6, .null), (0, .ref (a 0)), (1, .int d), (2, .int x), (3, .int o), (4, .int y), (5, .int n)]) hx hb dX11_shift_12 hl (by decide) rfl (fun ls hl => ?_)
  refine lv_aloadN hx hb dX11_shift_14 (lv_at hl 1 rfl) ?_
  refine lv_ifnullN (tgt := 24) hx hb dX11_shift_16 (by decide) ?_
  refine lv_iconst (v := (-1)) hx hb dX11_shift_24 (by decide) ?_
  exact rz_i hx hb hr hlk (by unfold sp_shift; (repeat' split) <;> first | rfl | (exfalso; omega)) dX11_shift_25
set_option maxHeartbeats 4000000 in
set_option maxRecDepth 100000 in
theorem c_shift_00 (l : Launch) (J : va_J9) (a : Nat → Nat) (d : Int32) (x : Int32) (o : Int32) (y : Int32) (n : Int32) (hd : ¬ (0 ≤ d.toInt ∧ d.toInt ≤ 5)) (ho : ¬ (0 ≤ o.toInt ∧ o.toInt ≤ 5)) : RC l J yX11_shift cX11_shift 8 (some .int) ({ frames := 1, cells := 0, slots := 0, locals := 21 }) [.ref (a 0), .int d, .int x, .int o, .int y, .int n] [((a 0), .inr (11, [.ref (a 1), .ref (a 6), .ref (a 10), .ref (a 15), .ref (a 17), .ref (a 22), .ref (a 23), .ref (a 30), .ref (a 31), .ref (a 34), .int 0, .ref (a 37), .ref (a 40)]))] (vp_Si (fun r => r = sp_shift (d.toInt) (o.toInt))) := by
  refine rc_of (by decide) (Nat.le_of_ble_eq_true rfl) ?_
  intro p e s m below meth c ls hE hl hP hK
  obtain ⟨hx, hb, hr, hml, hown, hts, hlk, hin⟩ := hE
  have hown : s.vm.findClass RX11 = some m.cls := hown
  have hl : lv_has ls 8 [(0, .ref (a 0)), (1, .int d), (2, .int x), (3, .int o), (4, .int y), (5, .int n)] := hl
  have rg_d := i_rng d
  have rg_x := i_rng x
  have rg_o := i_rng o
  have rg_y := i_rng y
  have rg_n := i_rng n
  refine lv_aload_n hx hb dX11_shift_0 rfl (lv_at hl 0 rfl) ?_
  refine lv_iload_n hx hb dX11_shift_1 rfl (lv_at hl 1 rfl) ?_
  refine go_a (rn_V (As := [.int d]) (rest := []) hx hb hml hown hts hK (cF_shelfOut l J a d (by omega)) kV_RX11_106 hP rfl rfl rfl ⟨Nat.le_of_ble_eq_true rfl, Nat.le_of_ble_eq_true rfl⟩ rfl rfl rfl hl.1 rfl (Nat.le_of_ble_eq_true rfl) ⟨Nat.le_of_ble_eq_true rfl, Nat.le_of_ble_eq_true rfl⟩ dX11_shift_2) ?_
  refine top_n rfl ?_
  refine lv_astoreN (lv' := [(6, .null), (0, .ref (a 0)), (1, .int d), (2, .int x), (3, .int o), (4, .int y), (5, .int n)]) hx hb dX11_shift_5 hl (by decide) rfl (fun ls hl => ?_)
  refine lv_aload_n hx hb dX11_shift_7 rfl (lv_at hl 1 rfl) ?_
  refine lv_iload_n hx hb dX11_shift_8 rfl (lv_at hl 4 rfl) ?_
  refine go_a (rn_V (As := [.int o]) (rest := []) hx hb hml hown hts hK (cF_shelfOut l J a o (by omega)) kV_RX11_106 hP rfl rfl rfl ⟨Nat.le_of_ble_eq_true rfl, Nat.le_of_ble_eq_true rfl⟩ rfl rfl rfl hl.1 rfl (Nat.le_of_ble_eq_true rfl) ⟨Nat.le_of_ble_eq_true rfl, Nat.le_of_ble_eq_true rfl⟩ dX11_shift_9) ?_
  refine top_n rfl ?_
  refine lv_astoreN (lv' := [(7, .null), (6, .null), (0, .ref (a 0)), (1, .int d), (2, .int x), (3, .int o), (4, .int y), (5, .int n)]) hx hb dX11_shift_12 hl (by decide) rfl (fun ls hl => ?_)
  refine lv_aloadN hx hb dX11_shift_14 (lv_at hl 1 rfl) ?_
  refine lv_ifnullN (tgt := 24) hx hb dX11_shift_16 (by decide) ?_
  refine lv_iconst (v := (-1)) hx hb dX11_shift_24 (by decide) ?_
  exact rz_i hx hb hr hlk (by unfold sp_shift; (repeat' split) <;> first | rfl | (exfalso; omega)) dX11_shift_25
