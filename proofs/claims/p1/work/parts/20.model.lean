theorem dX12_within_0 : decode cX12_within 0 = .ok (.lload_n 0, 1) := by decide +kernel
theorem dX12_within_1 : decode cX12_within 1 = .ok (.lload_n 2, 1) := by decide +kernel
theorem dX12_within_2 : decode cX12_within 2 = .ok (.lcmp, 1) := by decide +kernel
theorem dX12_within_3 : decode cX12_within 3 = .ok (.ifCond .lt 14, 3) := by decide +kernel
theorem dX12_within_17 : decode cX12_within 17 = .ok (.iconst 0, 1) := by decide +kernel
theorem dX12_within_18 : decode cX12_within 18 = .ok (.ireturn, 1) := by decide +kernel
theorem dX12_within_6 : decode cX12_within 6 = .ok (.lload_n 0, 1) := by decide +kernel
theorem dX12_within_7 : decode cX12_within 7 = .ok (.lload 4, 2) := by decide +kernel
theorem dX12_within_9 : decode cX12_within 9 = .ok (.lcmp, 1) := by decide +kernel
theorem dX12_within_10 : decode cX12_within 10 = .ok (.ifCond .gt 7, 3) := by decide +kernel
theorem dX12_within_13 : decode cX12_within 13 = .ok (.iconst 1, 1) := by decide +kernel
theorem dX12_within_14 : decode cX12_within 14 = .ok (.goto 4, 3) := by decide +kernel
set_option maxHeartbeats 4000000 in
set_option maxRecDepth 100000 in
theorem m_within (l : Launch) (J : va_J9) (v : Int64) (p9 : Int64) (q9 : Int64) (v0 : Int) (p0 : Int) (q0 : Int) (hv : v.toInt = v0) (hp : p9.toInt = p0) (hq : q9.toInt = q0) : RC l J yX12_within cX12_within 6 (some .boolean) ({ frames := 0, cells := 0, slots := 0, locals := 0 }) [.long v, .long p9, .long q9] [] (vp_Si (fun r => r = B01 (p0 ≤ v0 ∧ v0 ≤ q0))) := by
  refine rc_of (by decide) (Nat.le_of_ble_eq_true rfl) ?_
  intro p e s m below meth c ls hE hl hP hK
  obtain ⟨hx, hb, hr, hml, hown, hts, hlk, hin⟩ := hE
  have hown : s.vm.findClass RX12 = some m.cls := hown
  have hl : lv_has ls 6 [(0, .long v), (2, .long p9), (4, .long q9)] := hl
  refine lv_lload_n hx hb dX12_within_0 rfl (lv_at hl 0 rfl) ?_
  refine lv_lload_n hx hb dX12_within_1 rfl (lv_at hl 1 rfl) ?_
  refine W.lcmp hx hb dX12_within_2 ?_
  refine lv_if_lt (tgt := 17) hx hb dX12_within_3 (by decide) (fun c1 => ?_) (fun c1 => ?_)
  · have j2 : v.toInt < p9.toInt := ((lg_cmp_lt _ _).trans (l_lt rfl rfl)).mp c1
    refine lv_iconst (v := 0) hx hb dX12_within_17 (by decide) ?_
    exact rz_z hx hb hr hlk (by decide) (b_f (by omega)) dX12_within_18
  · have j3 : ¬ (v.toInt < p9.toInt) := fun h => c1 (((lg_cmp_lt _ _).trans (l_lt rfl rfl)).mpr h)
    refine lv_lload_n hx hb dX12_within_6 rfl (lv_at hl 0 rfl) ?_
    refine lv_lload hx hb dX12_within_7 (lv_at hl 2 rfl) ?_
    refine W.lcmp hx hb dX12_within_9 ?_
    refine lv_if_gt (tgt := 17) hx hb dX12_within_10 (by decide) (fun c4 => ?_) (fun c4 => ?_)
    · have j5 : q9.toInt < v.toInt := ((lg_cmp_gt _ _).trans (l_lt rfl rfl)).mp c4
      refine lv_iconst (v := 0) hx hb dX12_within_17 (by decide) ?_
      exact rz_z hx hb hr hlk (by decide) (b_f (by omega)) dX12_within_18
    · have j6 : ¬ (q9.toInt < v.toInt) := fun h => c4 (((lg_cmp_gt _ _).trans (l_lt rfl rfl)).mpr h)
      refine lv_iconst (v := 1) hx hb dX12_within_13 (by decide) ?_
      refine lv_goto (tgt := 18) hx hb dX12_within_14 (by decide) ?_
      exact rz_z hx hb hr hlk (by decide) (b_t (by omega)) dX12_within_18
theorem dX12_isIn_0 : decode cX12_isIn 0 = .ok (.iload_n 0, 1) := by decide +kernel
theorem dX12_isIn_1 : decode cX12_isIn 1 = .ok (.iload_n 1, 1) := by decide +kernel
theorem dX12_isIn_2 : decode cX12_isIn 2 = .ok (.ishr, 1) := by decide +kernel
theorem dX12_isIn_3 : decode cX12_isIn 3 = .ok (.iconst 1, 1) := by decide +kernel
theorem dX12_isIn_4 : decode cX12_isIn 4 = .ok (.iand, 1) := by decide +kernel
theorem dX12_isIn_5 : decode cX12_isIn 5 = .ok (.iconst 1, 1) := by decide +kernel
theorem dX12_isIn_6 : decode cX12_isIn 6 = .ok (.if_icmp .ne 7, 3) := by decide +kernel
theorem dX12_isIn_13 : decode cX12_isIn 13 = .ok (.iconst 0, 1) := by decide +kernel
theorem dX12_isIn_14 : decode cX12_isIn 14 = .ok (.ireturn, 1) := by decide +kernel
set_option maxHeartbeats 4000000 in
set_option maxRecDepth 100000 in
theorem m_isIn0 (l : Launch) (J : va_J9) (k : Int32) : RC l J yX12_isIn cX12_isIn 2 (some .boolean) ({ frames := 0, cells := 0, slots := 0, locals := 0 }) [.int 0, .int k] [] (vp_Si (fun r => r = 0)) := by
  refine rc_of (by decide) (Nat.le_of_ble_eq_true rfl) ?_
  intro p e s m below meth c ls hE hl hP hK
  obtain ⟨hx, hb, hr, hml, hown, hts, hlk, hin⟩ := hE
  have hown : s.vm.findClass RX12 = some m.cls := hown
  have hl : lv_has ls 2 [(0, .int 0), (1, .int k)] := hl
  have rg_k := i_rng k
  refine lv_iload_n hx hb dX12_isIn_0 rfl (lv_at hl 0 rfl) ?_
  refine lv_iload_n hx hb dX12_isIn_1 rfl (lv_at hl 1 rfl) ?_
  refine lv_ishr hx hb dX12_isIn_2 ?_
  refine top_i (y := 0) (sh0 _) ?_
  refine lv_iconst (v := 1) hx hb dX12_isIn_3 (by decide) ?_
  refine lv_iand hx hb dX12_isIn_4 ?_
  refine top_i (y := 0) (by decide) ?_
  refine lv_iconst (v := 1) hx hb dX12_isIn_5 (by decide) ?_
  refine lv_icmp_ne (tgt := 13) hx hb dX12_isIn_6 (by decide) (fun _ => ?_) (fun c => absurd c (by decide))
  refine lv_iconst (v := 0) hx hb dX12_isIn_13 (by decide) ?_
  exact rz_z hx hb hr hlk (by decide) (by decide) dX12_isIn_14
theorem dX12_bitsOf_0 : decode cX12_bitsOf 0 = .ok (.iconst 0, 1) := by decide +kernel
theorem dX12_bitsOf_1 : decode cX12_bitsOf 1 = .ok (.istore_n 1, 1) := by decide +kernel
theorem dX12_bitsOf_2 : decode cX12_bitsOf 2 = .ok (.iload_n 0, 1) := by decide +kernel
theorem dX12_bitsOf_3 : decode cX12_bitsOf 3 = .ok (.istore_n 2, 1) := by decide +kernel
theorem dX12_bitsOf_4 : decode cX12_bitsOf 4 = .ok (.iload_n 2, 1) := by decide +kernel
theorem dX12_bitsOf_5 : decode cX12_bitsOf 5 = .ok (.ifCond .eq 15, 3) := by decide +kernel
theorem dX12_bitsOf_20 : decode cX12_bitsOf 20 = .ok (.iload_n 1, 1) := by decide +kernel
theorem dX12_bitsOf_21 : decode cX12_bitsOf 21 = .ok (.ireturn, 1) := by decide +kernel
set_option maxHeartbeats 4000000 in
set_option maxRecDepth 100000 in
theorem m_bits0 (l : Launch) (J : va_J9)  : RC l J yX12_bitsOf cX12_bitsOf 3 (some .int) ({ frames := 0, cells := 0, slots := 0, locals := 0 }) [.int 0] [] (vp_Si (fun r => r = 0)) := by
  refine rc_of (by decide) (Nat.le_of_ble_eq_true rfl) ?_
  intro p e s m below meth c ls hE hl hP hK
  obtain ⟨hx, hb, hr, hml, hown, hts, hlk, hin⟩ := hE
  have hown : s.vm.findClass RX12 = some m.cls := hown
  have hl : lv_has ls 3 [(0, .int 0)] := hl
  refine lv_iconst (v := 0) hx hb dX12_bitsOf_0 (by decide) ?_
  refine lv_istore_n (lv' := [(1, .int 0), (0, .int 0)]) hx hb dX12_bitsOf_1 rfl hl (by decide) rfl (fun ls hl => ?_)
  refine lv_iload_n hx hb dX12_bitsOf_2 rfl (lv_at hl 1 rfl) ?_
  refine lv_istore_n (lv' := [(2, .int 0), (1, .int 0), (0, .int 0)]) hx hb dX12_bitsOf_3 rfl hl (by decide) rfl (fun ls hl => ?_)
  refine lv_iload_n hx hb dX12_bitsOf_4 rfl (lv_at hl 0 rfl) ?_
  refine lv_if_eq (tgt := 20) hx hb dX12_bitsOf_5 (by decide) (fun _ => ?_) (fun c => absurd c (by decide))
  refine lv_iload_n hx hb dX12_bitsOf_20 rfl (lv_at hl 1 rfl) ?_
  exact rz_i hx hb hr hlk (by decide) dX12_bitsOf_21
theorem dX12_isShelf_0 : decode cX12_isShelf 0 = .ok (.iload_n 0, 1) := by decide +kernel
theorem dX12_isShelf_1 : decode cX12_isShelf 1 = .ok (.i2l, 1) := by decide +kernel
theorem dX12_isShelf_2 : decode cX12_isShelf 2 = .ok (.lconst 0, 1) := by decide +kernel
theorem q_1440 : Cond.constantLong RX12 394 5 ∈ lw_g := mem_q 1440 (by decide +kernel) rfl
theorem dX12_isShelf_3 : decode cX12_isShelf 3 = .ok (.ldc2_w 394, 3) := by decide +kernel
theorem q_1430 : Cond.methodLink RX12 101 yX12_within ∈ lw_g := mem_q 1430 (by decide +kernel) rfl
theorem q_1431 : Cond.static yX12_within ∈ lw_g := mem_q 1431 (by decide +kernel) rfl
theorem q_115 : Cond.initialized RX12 ∈ lw_g := mem_q 115 (by decide +kernel) rfl
theorem q_1432 : Cond.code yX12_within cX12_within 6 (some .boolean) ∈ lw_g := mem_q 1432 (by decide +kernel) rfl
theorem kS_RX12_101 : CS RX12 101 yX12_within cX12_within 6 (some .boolean) 3 := cs_of q_1430 q_1431 q_115 q_1432 (by decide +kernel)
theorem dX12_isShelf_6 : decode cX12_isShelf 6 = .ok (.invokestatic 101, 3) := by decide +kernel
theorem dX12_isShelf_9 : decode cX12_isShelf 9 = .ok (.ireturn, 1) := by decide +kernel
set_option maxHeartbeats 4000000 in
set_option maxRecDepth 100000 in
theorem m_isShelf (l : Launch) (J : va_J9) (d : Int32) : RC l J yX12_isShelf cX12_isShelf 1 (some .boolean) ({ frames := 1, cells := 0, slots := 0, locals := 25 }) [.int d] [] (vp_Si (fun r => r = B01 (0 ≤ d.toInt ∧ d.toInt ≤ 5))) := by
  refine rc_of (by decide) (Nat.le_of_ble_eq_true rfl) ?_
  intro p e s m below meth c ls hE hl hP hK
  obtain ⟨hx, hb, hr, hml, hown, hts, hlk, hin⟩ := hE
  have hown : s.vm.findClass RX12 = some m.cls := hown
  have hl : lv_has ls 1 [(0, .int d)] := hl
  have rg_d := i_rng d
  refine lv_iload_n hx hb dX12_isShelf_0 rfl (lv_at hl 0 rfl) ?_
  refine lv_i2l (v := d.toInt64) hx hb dX12_isShelf_1 rfl ?_
  refine lv_lconst (v := 0) hx hb dX12_isShelf_2 (by decide) ?_
  refine lv_ldc2 (v := 5) hx hb hown (hts _ q_1440) dX12_isShelf_3 ?_
  refine go_i (rn_S (As := [.long d.toInt64, .long 0, .long 5]) (rest := []) hx hb hml hown hts hK (m_within l J d.toInt64 0 5 d.toInt 0 5 (i_wide rfl) (by decide) (by decide)) kS_RX12_101 hP ⟨Nat.le_of_ble_eq_true rfl, Nat.le_of_ble_eq_true rfl⟩ rfl rfl rfl hl.1 rfl (Nat.le_of_ble_eq_true rfl) ⟨Nat.le_of_ble_eq_true rfl, Nat.le_of_ble_eq_true rfl⟩ dX12_isShelf_6) ?_
  exact rz_z hx hb hr hlk b_nar rfl dX12_isShelf_9
theorem dX12_isHole_0 : decode cX12_isHole 0 = .ok (.lload_n 1, 1) := by decide +kernel
theorem dX12_isHole_1 : decode cX12_isHole 1 = .ok (.lconst 0, 1) := by decide +kernel
theorem dX12_isHole_2 : decode cX12_isHole 2 = .ok (.aload_n 0, 1) := by decide +kernel
theorem q_1272 : Cond.fieldLink RX12 98 RX12 "holes" "I" ∈ lw_g := mem_q 1272 (by decide +kernel) rfl
theorem dX12_isHole_3 : decode cX12_isHole 3 = .ok (.getfield 98, 3) := by decide +kernel
theorem dX12_isHole_6 : decode cX12_isHole 6 = .ok (.iconst 1, 1) := by decide +kernel
theorem dX12_isHole_7 : decode cX12_isHole 7 = .ok (.isub, 1) := by decide +kernel
theorem dX12_isHole_8 : decode cX12_isHole 8 = .ok (.i2l, 1) := by decide +kernel
theorem dX12_isHole_9 : decode cX12_isHole 9 = .ok (.invokestatic 101, 3) := by decide +kernel
theorem dX12_isHole_12 : decode cX12_isHole 12 = .ok (.ireturn, 1) := by decide +kernel
set_option maxHeartbeats 4000000 in
set_option maxRecDepth 100000 in
theorem m_isHole (l : Launch) (J : va_J9) (b : Nat → Nat) (h : Int64) : RC l J yX12_isHole cX12_isHole 3 (some .boolean) ({ frames := 1, cells := 0, slots := 0, locals := 25 }) [.ref (b 0), .long h] [((b 0), .inr (12, [.ref (b 1), .ref (b 2), .ref (b 3), .ref (b 4), .int 0, .int 0, .int 0, .int 0, .ref (b 9), .ref (b 10), .int 0, .ref (b 12), .int (-1), .int 0, .int 0, .int 0, .int 0, .int 0, .ref (b 19), .ref (b 20), .ref (b 21), .ref (b 22), .ref (b 23), .long 0, .long 0, .long 0, .ref (b 27), .ref (b 28), .ref (b 29), .long 0, .int 0, .int (-1), .int 0, .int 0, .int 0, .ref (b 36), .int 0, .int 0, .ref (b 39), .ref (b 40), .int 0, .ref (b 42), .ref (b 43), .int 0, .int 0, .int 0, .ref (b 47), .ref (b 48), .ref (b 49), .ref (b 50)]))] (vp_Si (fun r => r = 0)) := by
  refine rc_of (by decide) (Nat.le_of_ble_eq_true rfl) ?_
  intro p e s m below meth c ls hE hl hP hK
  obtain ⟨hx, hb, hr, hml, hown, hts, hlk, hin⟩ := hE
  have hown : s.vm.findClass RX12 = some m.cls := hown
  have hl : lv_has ls 3 [(0, .ref (b 0)), (1, .long h)] := hl
  refine lv_lload_n hx hb dX12_isHole_0 rfl (lv_at hl 1 rfl) ?_
  refine lv_lconst (v := 0) hx hb dX12_isHole_1 (by decide) ?_
  refine lv_aload_n hx hb dX12_isHole_2 rfl (lv_at hl 0 rfl) ?_
  refine va_get (D := J.1) (ci := 12) (v := .int 0) (C := RX12) (T := TX12) (N := 50) hx hb hts inX12 hown hK.1 hP 0 rfl rfl 6 (by decide) (hts _ q_1272) (fun _ h9 => h9) rfl dX12_isHole_3 ?_
  refine lv_iconst (v := 1) hx hb dX12_isHole_6 (by decide) ?_
  refine lv_isub hx hb dX12_isHole_7 ?_
  refine top_i (y := (-1)) (by decide) ?_
  refine lv_i2l (v := (-1)) hx hb dX12_isHole_8 (by decide) ?_
  refine go_i (rn_S (As := [.long h, .long 0, .long (-1)]) (rest := []) hx hb hml hown hts hK (m_within l J h 0 (-1) h.toInt 0 (-1) rfl (by decide) (by decide)) kS_RX12_101 (hP.sub (ws' := []) [] rfl) ⟨Nat.le_of_ble_eq_true rfl, Nat.le_of_ble_eq_true rfl⟩ rfl rfl rfl hl.1 rfl (Nat.le_of_ble_eq_true rfl) ⟨Nat.le_of_ble_eq_true rfl, Nat.le_of_ble_eq_true rfl⟩ dX12_isHole_9) ?_
  exact rz_z hx hb hr hlk b_nar (b_f (by omega)).symm dX12_isHole_12
theorem dX12_isOpen_0 : decode cX12_isOpen 0 = .ok (.aload_n 0, 1) := by decide +kernel
theorem dX12_isOpen_1 : decode cX12_isOpen 1 = .ok (.lload_n 1, 1) := by decide +kernel
theorem q_1450 : Cond.methodLink RX12 105 yX12_isHole ∈ lw_g := mem_q 1450 (by decide +kernel) rfl
theorem q_1452 : Cond.instanceMethod yX12_isHole ∈ lw_g := mem_q 1452 (by decide +kernel) rfl
theorem q_49 : Cond.selects RX12 yX12_isHole yX12_isHole ∈ lw_g := mem_q 49 (by decide +kernel) rfl
theorem q_1453 : Cond.code yX12_isHole cX12_isHole 3 (some .boolean) ∈ lw_g := mem_q 1453 (by decide +kernel) rfl
theorem kV_RX12_105 : CV RX12 105 RX12 yX12_isHole cX12_isHole 3 (some .boolean) 1 := cv_of q_1450 q_1452 q_49 q_115 q_1453 (by decide +kernel)
theorem dX12_isOpen_2 : decode cX12_isOpen 2 = .ok (.invokevirtual 105, 3) := by decide +kernel
theorem dX12_isOpen_5 : decode cX12_isOpen 5 = .ok (.ifCond .eq 20, 3) := by decide +kernel
theorem dX12_isOpen_25 : decode cX12_isOpen 25 = .ok (.iconst 0, 1) := by decide +kernel
theorem dX12_isOpen_26 : decode cX12_isOpen 26 = .ok (.ireturn, 1) := by decide +kernel
set_option maxHeartbeats 4000000 in
set_option maxRecDepth 100000 in
theorem m_isOpen (l : Launch) (J : va_J9) (b : Nat → Nat) (h : Int64) : RC l J yX12_isOpen cX12_isOpen 3 (some .boolean) ({ frames := 2, cells := 0, slots := 0, locals := 47 }) [.ref (b 0), .long h] [((b 0), .inr (12, [.ref (b 1), .ref (b 2), .ref (b 3), .ref (b 4), .int 0, .int 0, .int 0, .int 0, .ref (b 9), .ref (b 10), .int 0, .ref (b 12), .int (-1), .int 0, .int 0, .int 0, .int 0, .int 0, .ref (b 19), .ref (b 20), .ref (b 21), .ref (b 22), .ref (b 23), .long 0, .long 0, .long 0, .ref (b 27), .ref (b 28), .ref (b 29), .long 0, .int 0, .int (-1), .int 0, .int 0, .int 0, .ref (b 36), .int 0, .int 0, .ref (b 39), .ref (b 40), .int 0, .ref (b 42), .ref (b 43), .int 0, .int 0, .int 0, .ref (b 47), .ref (b 48), .ref (b 49), .ref (b 50)]))] (vp_Si (fun r => r = 0)) := by
  refine rc_of (by decide) (Nat.le_of_ble_eq_true rfl) ?_
  intro p e s m below meth c ls hE hl hP hK
  obtain ⟨hx, hb, hr, hml, hown, hts, hlk, hin⟩ := hE
  have hown : s.vm.findClass RX12 = some m.cls := hown
  have hl : lv_has ls 3 [(0, .ref (b 0)), (1, .long h)] := hl
  refine lv_aload_n hx hb dX12_isOpen_0 rfl (lv_at hl 0 rfl) ?_
  refine lv_lload_n hx hb dX12_isOpen_1 rfl (lv_at hl 1 rfl) ?_
  refine go_i (rn_V (As := [.long h]) (rest := []) hx hb hml hown hts hK (m_isHole l J b h) kV_RX12_105 hP rfl rfl rfl ⟨Nat.le_of_ble_eq_true rfl, Nat.le_of_ble_eq_true rfl⟩ rfl rfl rfl hl.1 rfl (Nat.le_of_ble_eq_true rfl) ⟨Nat.le_of_ble_eq_true rfl, Nat.le_of_ble_eq_true rfl⟩ dX12_isOpen_2) ?_
  refine lv_if_eq (tgt := 25) hx hb dX12_isOpen_5 (by decide) (fun _ => ?_) (fun c => absurd c (by decide))
  refine lv_iconst (v := 0) hx hb dX12_isOpen_25 (by decide) ?_
  exact rz_z hx hb hr hlk (by decide) (by decide) dX12_isOpen_26
theorem dX12_isAb_0 : decode cX12_isAb 0 = .ok (.iload_n 1, 1) := by decide +kernel
theorem dX12_isAb_1 : decode cX12_isAb 1 = .ok (.ifCond .lt 31, 3) := by decide +kernel
theorem dX12_isAb_32 : decode cX12_isAb 32 = .ok (.iconst 0, 1) := by decide +kernel
theorem dX12_isAb_33 : decode cX12_isAb 33 = .ok (.ireturn, 1) := by decide +kernel
theorem dX12_isAb_4 : decode cX12_isAb 4 = .ok (.aload_n 0, 1) := by decide +kernel
theorem dX12_isAb_5 : decode cX12_isAb 5 = .ok (.iload_n 1, 1) := by decide +kernel
theorem dX12_isAb_6 : decode cX12_isAb 6 = .ok (.bipush 10, 2) := by decide +kernel
theorem dX12_isAb_8 : decode cX12_isAb 8 = .ok (.idiv, 1) := by decide +kernel
theorem dX12_isAb_9 : decode cX12_isAb 9 = .ok (.i2l, 1) := by decide +kernel
theorem dX12_isAb_10 : decode cX12_isAb 10 = .ok (.invokevirtual 105, 3) := by decide +kernel
theorem dX12_isAb_13 : decode cX12_isAb 13 = .ok (.ifCond .eq 19, 3) := by decide +kernel
set_option maxHeartbeats 4000000 in
set_option maxRecDepth 100000 in
theorem m_isAb (l : Launch) (J : va_J9) (b : Nat → Nat) (x : Int32) : RC l J yX12_isAb cX12_isAb 2 (some .boolean) ({ frames := 2, cells := 0, slots := 0, locals := 47 }) [.ref (b 0), .int x] [((b 0), .inr (12, [.ref (b 1), .ref (b 2), .ref (b 3), .ref (b 4), .int 0, .int 0, .int 0, .int 0, .ref (b 9), .ref (b 10), .int 0, .ref (b 12), .int (-1), .int 0, .int 0, .int 0, .int 0, .int 0, .ref (b 19), .ref (b 20), .ref (b 21), .ref (b 22), .ref (b 23), .long 0, .long 0, .long 0, .ref (b 27), .ref (b 28), .ref (b 29), .long 0, .int 0, .int (-1), .int 0, .int 0, .int 0, .ref (b 36), .int 0, .int 0, .ref (b 39), .ref (b 40), .int 0, .ref (b 42), .ref (b 43), .int 0, .int 0, .int 0, .ref (b 47), .ref (b 48), .ref (b 49), .ref (b 50)]))] (vp_Si (fun r => r = 0)) := by
  refine rc_of (by decide) (Nat.le_of_ble_eq_true rfl) ?_
  intro p e s m below meth c ls hE hl hP hK
  obtain ⟨hx, hb, hr, hml, hown, hts, hlk, hin⟩ := hE
  have hown : s.vm.findClass RX12 = some m.cls := hown
  have hl : lv_has ls 2 [(0, .ref (b 0)), (1, .int x)] := hl
  have rg_x := i_rng x
  refine lv_iload_n hx hb dX12_isAb_0 rfl (lv_at hl 1 rfl) ?_
  refine lv_if_lt (tgt := 32) hx hb dX12_isAb_1 (by decide) (fun c1 => ?_) (fun c1 => ?_)
  · have j2 : x.toInt < 0 := (i_lt rfl (by decide)).mp c1
    refine lv_iconst (v := 0) hx hb dX12_isAb_32 (by decide) ?_
    exact rz_z hx hb hr hlk (by decide) (by decide) dX12_isAb_33
  · have j3 : ¬ (x.toInt < 0) := fun h => c1 ((i_lt rfl (by decide)).mpr h)
    refine lv_aload_n hx hb dX12_isAb_4 rfl (lv_at hl 0 rfl) ?_
    refine lv_iload_n hx hb dX12_isAb_5 rfl (lv_at hl 1 rfl) ?_
    refine lv_bipush (v := 10) hx hb dX12_isAb_6 (by decide) ?_
    refine lv_idiv hx hb dX12_isAb_8 (by decide) ?_
    have p4 : (x / 10).toInt = x.toInt / 10 := i_div rfl (by decide) (by omega) (by omega)
    refine lv_i2l (v := (x / 10).toInt64) hx hb dX12_isAb_9 rfl ?_
    refine go_i (rn_V (As := [.long ((x / 10).toInt64)]) (rest := []) hx hb hml hown hts hK (m_isHole l J b ((x / 10).toInt64)) kV_RX12_105 hP rfl rfl rfl ⟨Nat.le_of_ble_eq_true rfl, Nat.le_of_ble_eq_true rfl⟩ rfl rfl rfl hl.1 rfl (Nat.le_of_ble_eq_true rfl) ⟨Nat.le_of_ble_eq_true rfl, Nat.le_of_ble_eq_true rfl⟩ dX12_isAb_10) ?_
    refine lv_if_eq (tgt := 32) hx hb dX12_isAb_13 (by decide) (fun _ => ?_) (fun c => absurd c (by decide))
    refine lv_iconst (v := 0) hx hb dX12_isAb_32 (by decide) ?_
    exact rz_z hx hb hr hlk (by decide) (by decide) dX12_isAb_33
theorem dX12_isBody_0 : decode cX12_isBody 0 = .ok (.iload_n 1, 1) := by decide +kernel
theorem dX12_isBody_1 : decode cX12_isBody 1 = .ok (.i2l, 1) := by decide +kernel
theorem dX12_isBody_2 : decode cX12_isBody 2 = .ok (.lconst 0, 1) := by decide +kernel
theorem dX12_isBody_3 : decode cX12_isBody 3 = .ok (.aload_n 0, 1) := by decide +kernel
theorem q_1306 : Cond.fieldLink RX12 361 RX12 "bodies" "I" ∈ lw_g := mem_q 1306 (by decide +kernel) rfl
theorem dX12_isBody_4 : decode cX12_isBody 4 = .ok (.getfield 361, 3) := by decide +kernel
theorem dX12_isBody_7 : decode cX12_isBody 7 = .ok (.iconst 1, 1) := by decide +kernel
theorem dX12_isBody_8 : decode cX12_isBody 8 = .ok (.isub, 1) := by decide +kernel
theorem dX12_isBody_9 : decode cX12_isBody 9 = .ok (.i2l, 1) := by decide +kernel
theorem dX12_isBody_10 : decode cX12_isBody 10 = .ok (.invokestatic 101, 3) := by decide +kernel
theorem dX12_isBody_13 : decode cX12_isBody 13 = .ok (.ireturn, 1) := by decide +kernel
set_option maxHeartbeats 4000000 in
set_option maxRecDepth 100000 in
theorem m_isBody (l : Launch) (J : va_J9) (b : Nat → Nat) (x : Int32) : RC l J yX12_isBody cX12_isBody 2 (some .boolean) ({ frames := 1, cells := 0, slots := 0, locals := 25 }) [.ref (b 0), .int x] [((b 0), .inr (12, [.ref (b 1), .ref (b 2), .ref (b 3), .ref (b 4), .int 0, .int 0, .int 0, .int 0, .ref (b 9), .ref (b 10), .int 0, .ref (b 12), .int (-1), .int 0, .int 0, .int 0, .int 0, .int 0, .ref (b 19), .ref (b 20), .ref (b 21), .ref (b 22), .ref (b 23), .long 0, .long 0, .long 0, .ref (b 27), .ref (b 28), .ref (b 29), .long 0, .int 0, .int (-1), .int 0, .int 0, .int 0, .ref (b 36), .int 0, .int 0, .ref (b 39), .ref (b 40), .int 0, .ref (b 42), .ref (b 43), .int 0, .int 0, .int 0, .ref (b 47), .ref (b 48), .ref (b 49), .ref (b 50)]))] (vp_Si (fun r => r = 0)) := by
  refine rc_of (by decide) (Nat.le_of_ble_eq_true rfl) ?_
  intro p e s m below meth c ls hE hl hP hK
  obtain ⟨hx, hb, hr, hml, hown, hts, hlk, hin⟩ := hE
  have hown : s.vm.findClass RX12 = some m.cls := hown
  have hl : lv_has ls 2 [(0, .ref (b 0)), (1, .int x)] := hl
  have rg_x := i_rng x
  refine lv_iload_n hx hb dX12_isBody_0 rfl (lv_at hl 1 rfl) ?_
  refine lv_i2l (v := x.toInt64) hx hb dX12_isBody_1 rfl ?_
  refine lv_lconst (v := 0) hx hb dX12_isBody_2 (by decide) ?_
  refine lv_aload_n hx hb dX12_isBody_3 rfl (lv_at hl 0 rfl) ?_
  refine va_get (D := J.1) (ci := 12) (v := .int 0) (C := RX12) (T := TX12) (N := 50) hx hb hts inX12 hown hK.1 hP 0 rfl rfl 40 (by decide) (hts _ q_1306) (fun _ h9 => h9) rfl dX12_isBody_4 ?_
  refine lv_iconst (v := 1) hx hb dX12_isBody_7 (by decide) ?_
  refine lv_isub hx hb dX12_isBody_8 ?_
  refine top_i (y := (-1)) (by decide) ?_
  refine lv_i2l (v := (-1)) hx hb dX12_isBody_9 (by decide) ?_
  refine go_i (rn_S (As := [.long x.toInt64, .long 0, .long (-1)]) (rest := []) hx hb hml hown hts hK (m_within l J x.toInt64 0 (-1) x.toInt 0 (-1) (i_wide rfl) (by decide) (by decide)) kS_RX12_101 (hP.sub (ws' := []) [] rfl) ⟨Nat.le_of_ble_eq_true rfl, Nat.le_of_ble_eq_true rfl⟩ rfl rfl rfl hl.1 rfl (Nat.le_of_ble_eq_true rfl) ⟨Nat.le_of_ble_eq_true rfl, Nat.le_of_ble_eq_true rfl⟩ dX12_isBody_10) ?_
  exact rz_z hx hb hr hlk b_nar (b_f (by omega)).symm dX12_isBody_13
theorem dX12_openSet_0 : decode cX12_openSet 0 = .ok (.iconst 0, 1) := by decide +kernel
theorem dX12_openSet_1 : decode cX12_openSet 1 = .ok (.istore_n 1, 1) := by decide +kernel
theorem dX12_openSet_2 : decode cX12_openSet 2 = .ok (.iconst 0, 1) := by decide +kernel
theorem dX12_openSet_3 : decode cX12_openSet 3 = .ok (.istore_n 2, 1) := by decide +kernel
theorem dX12_openSet_4 : decode cX12_openSet 4 = .ok (.iload_n 2, 1) := by decide +kernel
theorem dX12_openSet_5 : decode cX12_openSet 5 = .ok (.aload_n 0, 1) := by decide +kernel
theorem dX12_openSet_6 : decode cX12_openSet 6 = .ok (.getfield 98, 3) := by decide +kernel
theorem dX12_openSet_9 : decode cX12_openSet 9 = .ok (.if_icmp .ge 28, 3) := by decide +kernel
theorem dX12_openSet_37 : decode cX12_openSet 37 = .ok (.iload_n 1, 1) := by decide +kernel
theorem dX12_openSet_38 : decode cX12_openSet 38 = .ok (.ireturn, 1) := by decide +kernel
set_option maxHeartbeats 4000000 in
set_option maxRecDepth 100000 in
theorem m_openSet (l : Launch) (J : va_J9) (b : Nat → Nat) : RC l J yX12_openSet cX12_openSet 3 (some .int) ({ frames := 0, cells := 0, slots := 0, locals := 0 }) [.ref (b 0)] [((b 0), .inr (12, [.ref (b 1), .ref (b 2), .ref (b 3), .ref (b 4), .int 0, .int 0, .int 0, .int 0, .ref (b 9), .ref (b 10), .int 0, .ref (b 12), .int (-1), .int 0, .int 0, .int 0, .int 0, .int 0, .ref (b 19), .ref (b 20), .ref (b 21), .ref (b 22), .ref (b 23), .long 0, .long 0, .long 0, .ref (b 27), .ref (b 28), .ref (b 29), .long 0, .int 0, .int (-1), .int 0, .int 0, .int 0, .ref (b 36), .int 0, .int 0, .ref (b 39), .ref (b 40), .int 0, .ref (b 42), .ref (b 43), .int 0, .int 0, .int 0, .ref (b 47), .ref (b 48), .ref (b 49), .ref (b 50)]))] (vp_Si (fun r => r = 0)) := by
  refine rc_of (by decide) (Nat.le_of_ble_eq_true rfl) ?_
  intro p e s m below meth c ls hE hl hP hK
  obtain ⟨hx, hb, hr, hml, hown, hts, hlk, hin⟩ := hE
  have hown : s.vm.findClass RX12 = some m.cls := hown
  have hl : lv_has ls 3 [(0, .ref (b 0))] := hl
  refine lv_iconst (v := 0) hx hb dX12_openSet_0 (by decide) ?_
  refine lv_istore_n (lv' := [(1, .int 0), (0, .ref (b 0))]) hx hb dX12_openSet_1 rfl hl (by decide) rfl (fun ls hl => ?_)
  refine lv_iconst (v := 0) hx hb dX12_openSet_2 (by decide) ?_
  refine lv_istore_n (lv' := [(2, .int 0), (1, .int 0), (0, .ref (b 0))]) hx hb dX12_openSet_3 rfl hl (by decide) rfl (fun ls hl => ?_)
  refine lv_iload_n hx hb dX12_openSet_4 rfl (lv_at hl 0 rfl) ?_
  refine lv_aload_n hx hb dX12_openSet_5 rfl (lv_at hl 2 rfl) ?_
  refine va_get (D := J.1) (ci := 12) (v := .int 0) (C := RX12) (T := TX12) (N := 50) hx hb hts inX12 hown hK.1 hP 0 rfl rfl 6 (by decide) (hts _ q_1272) (fun _ h9 => h9) rfl dX12_openSet_6 ?_
  refine lv_icmp_ge (tgt := 37) hx hb dX12_openSet_9 (by decide) (fun _ => ?_) (fun c => absurd c (by decide))
  refine lv_iload_n hx hb dX12_openSet_37 rfl (lv_at hl 1 rfl) ?_
  exact rz_i hx hb hr hlk (by decide) dX12_openSet_38
theorem dX12_openWeights_0 : decode cX12_openWeights 0 = .ok (.iconst 0, 1) := by decide +kernel
theorem dX12_openWeights_1 : decode cX12_openWeights 1 = .ok (.istore_n 1, 1) := by decide +kernel
theorem dX12_openWeights_2 : decode cX12_openWeights 2 = .ok (.iconst 0, 1) := by decide +kernel
theorem dX12_openWeights_3 : decode cX12_openWeights 3 = .ok (.istore_n 2, 1) := by decide +kernel
theorem dX12_openWeights_4 : decode cX12_openWeights 4 = .ok (.iload_n 2, 1) := by decide +kernel
theorem dX12_openWeights_5 : decode cX12_openWeights 5 = .ok (.aload_n 0, 1) := by decide +kernel
theorem dX12_openWeights_6 : decode cX12_openWeights 6 = .ok (.getfield 98, 3) := by decide +kernel
theorem dX12_openWeights_9 : decode cX12_openWeights 9 = .ok (.if_icmp .ge 31, 3) := by decide +kernel
theorem dX12_openWeights_40 : decode cX12_openWeights 40 = .ok (.iload_n 1, 1) := by decide +kernel
theorem dX12_openWeights_41 : decode cX12_openWeights 41 = .ok (.ireturn, 1) := by decide +kernel
set_option maxHeartbeats 4000000 in
set_option maxRecDepth 100000 in
theorem m_openWeights (l : Launch) (J : va_J9) (b : Nat → Nat) : RC l J yX12_openWeights cX12_openWeights 3 (some .int) ({ frames := 0, cells := 0, slots := 0, locals := 0 }) [.ref (b 0)] [((b 0), .inr (12, [.ref (b 1), .ref (b 2), .ref (b 3), .ref (b 4), .int 0, .int 0, .int 0, .int 0, .ref (b 9), .ref (b 10), .int 0, .ref (b 12), .int (-1), .int 0, .int 0, .int 0, .int 0, .int 0, .ref (b 19), .ref (b 20), .ref (b 21), .ref (b 22), .ref (b 23), .long 0, .long 0, .long 0, .ref (b 27), .ref (b 28), .ref (b 29), .long 0, .int 0, .int (-1), .int 0, .int 0, .int 0, .ref (b 36), .int 0, .int 0, .ref (b 39), .ref (b 40), .int 0, .ref (b 42), .ref (b 43), .int 0, .int 0, .int 0, .ref (b 47), .ref (b 48), .ref (b 49), .ref (b 50)]))] (vp_Si (fun r => r = 0)) := by
  refine rc_of (by decide) (Nat.le_of_ble_eq_true rfl) ?_
  intro p e s m below meth c ls hE hl hP hK
  obtain ⟨hx, hb, hr, hml, hown, hts, hlk, hin⟩ := hE
  have hown : s.vm.findClass RX12 = some m.cls := hown
  have hl : lv_has ls 3 [(0, .ref (b 0))] := hl
  refine lv_iconst (v := 0) hx hb dX12_openWeights_0 (by decide) ?_
  refine lv_istore_n (lv' := [(1, .int 0), (0, .ref (b 0))]) hx hb dX12_openWeights_1 rfl hl (by decide) rfl (fun ls hl => ?_)
  refine lv_iconst (v := 0) hx hb dX12_openWeights_2 (by decide) ?_
  refine lv_istore_n (lv' := [(2, .int 0), (1, .int 0), (0, .ref (b 0))]) hx hb dX12_openWeights_3 rfl hl (by decide) rfl (fun ls hl => ?_)
  refine lv_iload_n hx hb dX12_openWeights_4 rfl (lv_at hl 0 rfl) ?_
  refine lv_aload_n hx hb dX12_openWeights_5 rfl (lv_at hl 2 rfl) ?_
  refine va_get (D := J.1) (ci := 12) (v := .int 0) (C := RX12) (T := TX12) (N := 50) hx hb hts inX12 hown hK.1 hP 0 rfl rfl 6 (by decide) (hts _ q_1272) (fun _ h9 => h9) rfl dX12_openWeights_6 ?_
  refine lv_icmp_ge (tgt := 40) hx hb dX12_openWeights_9 (by decide) (fun _ => ?_) (fun c => absurd c (by decide))
  refine lv_iload_n hx hb dX12_openWeights_40 rfl (lv_at hl 1 rfl) ?_
  exact rz_i hx hb hr hlk (by decide) dX12_openWeights_41
theorem dX12_asksLaw_0 : decode cX12_asksLaw 0 = .ok (.iconst 0, 1) := by decide +kernel
theorem dX12_asksLaw_1 : decode cX12_asksLaw 1 = .ok (.istore_n 1, 1) := by decide +kernel
theorem dX12_asksLaw_2 : decode cX12_asksLaw 2 = .ok (.iload_n 1, 1) := by decide +kernel
theorem dX12_asksLaw_3 : decode cX12_asksLaw 3 = .ok (.aload_n 0, 1) := by decide +kernel
theorem dX12_asksLaw_4 : decode cX12_asksLaw 4 = .ok (.getfield 98, 3) := by decide +kernel
theorem dX12_asksLaw_7 : decode cX12_asksLaw 7 = .ok (.if_icmp .ge 57, 3) := by decide +kernel
theorem dX12_asksLaw_64 : decode cX12_asksLaw 64 = .ok (.return_, 1) := by decide +kernel
set_option maxHeartbeats 4000000 in
set_option maxRecDepth 100000 in
theorem m_asksLaw (l : Launch) (J : va_J9) (b : Nat → Nat) : RC l J yX12_asksLaw cX12_asksLaw 3 none ({ frames := 0, cells := 0, slots := 0, locals := 0 }) [.ref (b 0)] [((b 0), .inr (12, [.ref (b 1), .ref (b 2), .ref (b 3), .ref (b 4), .int 0, .int 0, .int 0, .int 0, .ref (b 9), .ref (b 10), .int 0, .ref (b 12), .int (-1), .int 0, .int 0, .int 0, .int 0, .int 0, .ref (b 19), .ref (b 20), .ref (b 21), .ref (b 22), .ref (b 23), .long 0, .long 0, .long 0, .ref (b 27), .ref (b 28), .ref (b 29), .long 0, .int 0, .int (-1), .int 0, .int 0, .int 0, .ref (b 36), .int 0, .int 0, .ref (b 39), .ref (b 40), .int 0, .ref (b 42), .ref (b 43), .int 0, .int 0, .int 0, .ref (b 47), .ref (b 48), .ref (b 49), .ref (b 50)]))] (va_Sv (fun _ => True)) := by
  refine rc_of (by decide) (Nat.le_of_ble_eq_true rfl) ?_
  intro p e s m below meth c ls hE hl hP hK
  obtain ⟨hx, hb, hr, hml, hown, hts, hlk, hin⟩ := hE
  have hown : s.vm.findClass RX12 = some m.cls := hown
  have hl : lv_has ls 3 [(0, .ref (b 0))] := hl
  refine lv_iconst (v := 0) hx hb dX12_asksLaw_0 (by decide) ?_
  refine lv_istore_n (lv' := [(1, .int 0), (0, .ref (b 0))]) hx hb dX12_asksLaw_1 rfl hl (by decide) rfl (fun ls hl => ?_)
  refine lv_iload_n hx hb dX12_asksLaw_2 rfl (lv_at hl 0 rfl) ?_
  refine lv_aload_n hx hb dX12_asksLaw_3 rfl (lv_at hl 1 rfl) ?_
  refine va_get (D := J.1) (ci := 12) (v := .int 0) (C := RX12) (T := TX12) (N := 50) hx hb hts inX12 hown hK.1 hP 0 rfl rfl 6 (by decide) (hts _ q_1272) (fun _ h9 => h9) rfl dX12_asksLaw_4 ?_
  refine lv_icmp_ge (tgt := 64) hx hb dX12_asksLaw_7 (by decide) (fun _ => ?_) (fun c => absurd c (by decide))
  exact rz_v hx hb hr hlk dX12_asksLaw_64
theorem dX12_beginsWays_0 : decode cX12_beginsWays 0 = .ok (.iconst 0, 1) := by decide +kernel
theorem dX12_beginsWays_1 : decode cX12_beginsWays 1 = .ok (.istore_n 1, 1) := by decide +kernel
theorem dX12_beginsWays_2 : decode cX12_beginsWays 2 = .ok (.iload_n 1, 1) := by decide +kernel
theorem dX12_beginsWays_3 : decode cX12_beginsWays 3 = .ok (.aload_n 0, 1) := by decide +kernel
theorem dX12_beginsWays_4 : decode cX12_beginsWays 4 = .ok (.getfield 98, 3) := by decide +kernel
theorem dX12_beginsWays_7 : decode cX12_beginsWays 7 = .ok (.if_icmp .ge 35, 3) := by decide +kernel
theorem dX12_beginsWays_42 : decode cX12_beginsWays 42 = .ok (.return_, 1) := by decide +kernel
set_option maxHeartbeats 4000000 in
set_option maxRecDepth 100000 in
theorem m_beginsWays (l : Launch) (J : va_J9) (b : Nat → Nat) : RC l J yX12_beginsWays cX12_beginsWays 2 none ({ frames := 0, cells := 0, slots := 0, locals := 0 }) [.ref (b 0)] [((b 0), .inr (12, [.ref (b 1), .ref (b 2), .ref (b 3), .ref (b 4), .int 0, .int 0, .int 0, .int 0, .ref (b 9), .ref (b 10), .int 0, .ref (b 12), .int (-1), .int 0, .int 0, .int 0, .int 0, .int 0, .ref (b 19), .ref (b 20), .ref (b 21), .ref (b 22), .ref (b 23), .long 0, .long 0, .long 0, .ref (b 27), .ref (b 28), .ref (b 29), .long 0, .int 0, .int (-1), .int 0, .int 0, .int 0, .ref (b 36), .int 0, .int 0, .ref (b 39), .ref (b 40), .int 0, .ref (b 42), .ref (b 43), .int 0, .int 0, .int 0, .ref (b 47), .ref (b 48), .ref (b 49), .ref (b 50)]))] (va_Sv (fun _ => True)) := by
  refine rc_of (by decide) (Nat.le_of_ble_eq_true rfl) ?_
  intro p e s m below meth c ls hE hl hP hK
  obtain ⟨hx, hb, hr, hml, hown, hts, hlk, hin⟩ := hE
  have hown : s.vm.findClass RX12 = some m.cls := hown
  have hl : lv_has ls 2 [(0, .ref (b 0))] := hl
  refine lv_iconst (v := 0) hx hb dX12_beginsWays_0 (by decide) ?_
  refine lv_istore_n (lv' := [(1, .int 0), (0, .ref (b 0))]) hx hb dX12_beginsWays_1 rfl hl (by decide) rfl (fun ls hl => ?_)
  refine lv_iload_n hx hb dX12_beginsWays_2 rfl (lv_at hl 0 rfl) ?_
  refine lv_aload_n hx hb dX12_beginsWays_3 rfl (lv_at hl 1 rfl) ?_
  refine va_get (D := J.1) (ci := 12) (v := .int 0) (C := RX12) (T := TX12) (N := 50) hx hb hts inX12 hown hK.1 hP 0 rfl rfl 6 (by decide) (hts _ q_1272) (fun _ h9 => h9) rfl dX12_beginsWays_4 ?_
  refine lv_icmp_ge (tgt := 42) hx hb dX12_beginsWays_7 (by decide) (fun _ => ?_) (fun c => absurd c (by decide))
  exact rz_v hx hb hr hlk dX12_beginsWays_42
theorem dX12_allWays_0 : decode cX12_allWays 0 = .ok (.lconst 0, 1) := by decide +kernel
theorem dX12_allWays_1 : decode cX12_allWays 1 = .ok (.lstore_n 1, 1) := by decide +kernel
theorem dX12_allWays_2 : decode cX12_allWays 2 = .ok (.iconst 0, 1) := by decide +kernel
theorem dX12_allWays_3 : decode cX12_allWays 3 = .ok (.istore_n 3, 1) := by decide +kernel
theorem dX12_allWays_4 : decode cX12_allWays 4 = .ok (.iload_n 3, 1) := by decide +kernel
theorem dX12_allWays_5 : decode cX12_allWays 5 = .ok (.aload_n 0, 1) := by decide +kernel
theorem dX12_allWays_6 : decode cX12_allWays 6 = .ok (.getfield 98, 3) := by decide +kernel
theorem dX12_allWays_9 : decode cX12_allWays 9 = .ok (.if_icmp .ge 18, 3) := by decide +kernel
theorem dX12_allWays_27 : decode cX12_allWays 27 = .ok (.lload_n 1, 1) := by decide +kernel
theorem dX12_allWays_28 : decode cX12_allWays 28 = .ok (.lreturn, 1) := by decide +kernel
set_option maxHeartbeats 4000000 in
set_option maxRecDepth 100000 in
theorem m_allWays (l : Launch) (J : va_J9) (b : Nat → Nat) : RC l J yX12_allWays cX12_allWays 4 (some .long) ({ frames := 0, cells := 0, slots := 0, locals := 0 }) [.ref (b 0)] [((b 0), .inr (12, [.ref (b 1), .ref (b 2), .ref (b 3), .ref (b 4), .int 0, .int 0, .int 0, .int 0, .ref (b 9), .ref (b 10), .int 0, .ref (b 12), .int (-1), .int 0, .int 0, .int 0, .int 0, .int 0, .ref (b 19), .ref (b 20), .ref (b 21), .ref (b 22), .ref (b 23), .long 0, .long 0, .long 0, .ref (b 27), .ref (b 28), .ref (b 29), .long 0, .int 0, .int (-1), .int 0, .int 0, .int 0, .ref (b 36), .int 0, .int 0, .ref (b 39), .ref (b 40), .int 0, .ref (b 42), .ref (b 43), .int 0, .int 0, .int 0, .ref (b 47), .ref (b 48), .ref (b 49), .ref (b 50)]))] (vp_Sl (fun r => r = 0)) := by
  refine rc_of (by decide) (Nat.le_of_ble_eq_true rfl) ?_
  intro p e s m below meth c ls hE hl hP hK
  obtain ⟨hx, hb, hr, hml, hown, hts, hlk, hin⟩ := hE
  have hown : s.vm.findClass RX12 = some m.cls := hown
  have hl : lv_has ls 4 [(0, .ref (b 0))] := hl
  refine lv_lconst (v := 0) hx hb dX12_allWays_0 (by decide) ?_
  refine lv_lstore_n (lv' := [(1, .long 0), (0, .ref (b 0))]) hx hb dX12_allWays_1 rfl hl (by decide) rfl (fun ls hl => ?_)
  refine lv_iconst (v := 0) hx hb dX12_allWays_2 (by decide) ?_
  refine lv_istore_n (lv' := [(3, .int 0), (1, .long 0), (0, .ref (b 0))]) hx hb dX12_allWays_3 rfl hl (by decide) rfl (fun ls hl => ?_)
  refine lv_iload_n hx hb dX12_allWays_4 rfl (lv_at hl 0 rfl) ?_
  refine lv_aload_n hx hb dX12_allWays_5 rfl (lv_at hl 2 rfl) ?_
  refine va_get (D := J.1) (ci := 12) (v := .int 0) (C := RX12) (T := TX12) (N := 50) hx hb hts inX12 hown hK.1 hP 0 rfl rfl 6 (by decide) (hts _ q_1272) (fun _ h9 => h9) rfl dX12_allWays_6 ?_
  refine lv_icmp_ge (tgt := 27) hx hb dX12_allWays_9 (by decide) (fun _ => ?_) (fun c => absurd c (by decide))
  refine lv_lload_n hx hb dX12_allWays_27 rfl (lv_at hl 1 rfl) ?_
  exact rz_l hx hb hr hlk (by decide) dX12_allWays_28
theorem dX12_bytesIs_0 : decode cX12_bytesIs 0 = .ok (.iload_n 1, 1) := by decide +kernel
theorem q_1437 : Cond.methodLink RX12 114 yX12_isShelf ∈ lw_g := mem_q 1437 (by decide +kernel) rfl
theorem q_1438 : Cond.static yX12_isShelf ∈ lw_g := mem_q 1438 (by decide +kernel) rfl
theorem q_1439 : Cond.code yX12_isShelf cX12_isShelf 1 (some .boolean) ∈ lw_g := mem_q 1439 (by decide +kernel) rfl
theorem kS_RX12_114 : CS RX12 114 yX12_isShelf cX12_isShelf 1 (some .boolean) 1 := cs_of q_1437 q_1438 q_115 q_1439 (by decide +kernel)
theorem dX12_bytesIs_1 : decode cX12_bytesIs 1 = .ok (.invokestatic 114, 3) := by decide +kernel
theorem dX12_bytesIs_4 : decode cX12_bytesIs 4 = .ok (.ifCond .ne 7, 3) := by decide +kernel
theorem dX12_bytesIs_11 : decode cX12_bytesIs 11 = .ok (.aload_n 0, 1) := by decide +kernel
theorem q_1312 : Cond.fieldLink RX12 73 RX12 "shelf" "[I" ∈ lw_g := mem_q 1312 (by decide +kernel) rfl
theorem dX12_bytesIs_12 : decode cX12_bytesIs 12 = .ok (.getfield 73, 3) := by decide +kernel
theorem dX12_bytesIs_15 : decode cX12_bytesIs 15 = .ok (.iload_n 1, 1) := by decide +kernel
theorem dX12_bytesIs_16 : decode cX12_bytesIs 16 = .ok (.iaload, 1) := by decide +kernel
theorem dX12_bytesIs_17 : decode cX12_bytesIs 17 = .ok (.ifCond .ge 8, 3) := by decide +kernel
theorem dX12_bytesIs_20 : decode cX12_bytesIs 20 = .ok (.bipush (-11), 2) := by decide +kernel
theorem dX12_bytesIs_22 : decode cX12_bytesIs 22 = .ok (.goto 20, 3) := by decide +kernel
theorem dX12_bytesIs_42 : decode cX12_bytesIs 42 = .ok (.ireturn, 1) := by decide +kernel
set_option maxHeartbeats 4000000 in
set_option maxRecDepth 100000 in
theorem m_bytesIn (l : Launch) (J : va_J9) (b : Nat → Nat) (g : Nat → Int32) (d : Int32) (hd : 0 ≤ d.toInt ∧ d.toInt ≤ 5) (hg : ∀ k, k < 6 → g k = -1) : RC l J yX12_bytesIs cX12_bytesIs 2 (some .int) ({ frames := 2, cells := 0, slots := 0, locals := 45 }) [.ref (b 0), .int d] [((b 0), .inr (12, [.ref (b 1), .ref (b 2), .ref (b 3), .ref (b 4), .int 0, .int 0, .int 0, .int 0, .ref (b 9), .ref (b 10), .int 0, .ref (b 12), .int (-1), .int 0, .int 0, .int 0, .int 0, .int 0, .ref (b 19), .ref (b 20), .ref (b 21), .ref (b 22), .ref (b 23), .long 0, .long 0, .long 0, .ref (b 27), .ref (b 28), .ref (b 29), .long 0, .int 0, .int (-1), .int 0, .int 0, .int 0, .ref (b 36), .int 0, .int 0, .ref (b 39), .ref (b 40), .int 0, .ref (b 42), .ref (b 43), .int 0, .int 0, .int 0, .ref (b 47), .ref (b 48), .ref (b 49), .ref (b 50)])), ((b 47), .inl (J.2.1, 6, .inl g))] (vp_Si (fun r => r = (-11))) := by
  refine rc_of (by decide) (Nat.le_of_ble_eq_true rfl) ?_
  intro p e s m below meth c ls hE hl hP hK
  obtain ⟨hx, hb, hr, hml, hown, hts, hlk, hin⟩ := hE
  have hown : s.vm.findClass RX12 = some m.cls := hown
  have hl : lv_has ls 2 [(0, .ref (b 0)), (1, .int d)] := hl
  have rg_d := i_rng d
  refine lv_iload_n hx hb dX12_bytesIs_0 rfl (lv_at hl 1 rfl) ?_
  refine go_i (rn_S (As := [.int d]) (rest := []) hx hb hml hown hts hK (m_isShelf l J d) kS_RX12_114 (hP.sub (ws' := []) [] rfl) ⟨Nat.le_of_ble_eq_true rfl, Nat.le_of_ble_eq_true rfl⟩ rfl rfl rfl hl.1 rfl (Nat.le_of_ble_eq_true rfl) ⟨Nat.le_of_ble_eq_true rfl, Nat.le_of_ble_eq_true rfl⟩ dX12_bytesIs_1) ?_
  refine lv_if_ne (tgt := 11) hx hb dX12_bytesIs_4 (by decide) (fun _ => ?_) (fun c1 => (b0 c1 (by omega)).elim)
  refine lv_aload_n hx hb dX12_bytesIs_11 rfl (lv_at hl 0 rfl) ?_
  refine va_get (D := J.1) (ci := 12) (v := .ref (b 47)) (C := RX12) (T := TX12) (N := 50) hx hb hts inX12 hown hK.1 hP 0 rfl rfl 46 (by decide) (hts _ q_1312) (fun _ h9 => h9) rfl dX12_bytesIs_12 ?_
  refine lv_iload_n hx hb dX12_bytesIs_15 rfl (lv_at hl 1 rfl) ?_
  have h2 : vp_in d 6 := (i_in (a := d.toInt) rfl (by omega) (by omega))
  refine va_iald hx hb hK.1 hP 1 0 rfl rfl h2 dX12_bytesIs_16 ?_
  refine top_i (y := (-1)) (hg _ (i_cl h2)) ?_
  refine lv_if_ge (tgt := 25) hx hb dX12_bytesIs_17 (by decide) (fun c => absurd c (by decide)) (fun _ => ?_)
  refine lv_bipush (v := (-11)) hx hb dX12_bytesIs_20 (by decide) ?_
  refine lv_goto (tgt := 42) hx hb dX12_bytesIs_22 (by decide) ?_
  exact rz_i hx hb hr hlk (by decide) dX12_bytesIs_42
theorem dX12_bytesIs_7 : decode cX12_bytesIs 7 = .ok (.iconst (-1), 1) := by decide +kernel
theorem dX12_bytesIs_8 : decode cX12_bytesIs 8 = .ok (.goto 34, 3) := by decide +kernel
set_option maxHeartbeats 4000000 in
set_option maxRecDepth 100000 in
theorem m_bytesOut (l : Launch) (J : va_J9) (b : Nat → Nat) (g : Nat → Int32) (d : Int32) (hd : ¬ (0 ≤ d.toInt ∧ d.toInt ≤ 5)) (hg : ∀ k, k < 6 → g k = -1) : RC l J yX12_bytesIs cX12_bytesIs 2 (some .int) ({ frames := 2, cells := 0, slots := 0, locals := 45 }) [.ref (b 0), .int d] [((b 0), .inr (12, [.ref (b 1), .ref (b 2), .ref (b 3), .ref (b 4), .int 0, .int 0, .int 0, .int 0, .ref (b 9), .ref (b 10), .int 0, .ref (b 12), .int (-1), .int 0, .int 0, .int 0, .int 0, .int 0, .ref (b 19), .ref (b 20), .ref (b 21), .ref (b 22), .ref (b 23), .long 0, .long 0, .long 0, .ref (b 27), .ref (b 28), .ref (b 29), .long 0, .int 0, .int (-1), .int 0, .int 0, .int 0, .ref (b 36), .int 0, .int 0, .ref (b 39), .ref (b 40), .int 0, .ref (b 42), .ref (b 43), .int 0, .int 0, .int 0, .ref (b 47), .ref (b 48), .ref (b 49), .ref (b 50)])), ((b 47), .inl (J.2.1, 6, .inl g))] (vp_Si (fun r => r = (-1))) := by
  refine rc_of (by decide) (Nat.le_of_ble_eq_true rfl) ?_
  intro p e s m below meth c ls hE hl hP hK
  obtain ⟨hx, hb, hr, hml, hown, hts, hlk, hin⟩ := hE
  have hown : s.vm.findClass RX12 = some m.cls := hown
  have hl : lv_has ls 2 [(0, .ref (b 0)), (1, .int d)] := hl
  have rg_d := i_rng d
  refine lv_iload_n hx hb dX12_bytesIs_0 rfl (lv_at hl 1 rfl) ?_
  refine go_i (rn_S (As := [.int d]) (rest := []) hx hb hml hown hts hK (m_isShelf l J d) kS_RX12_114 (hP.sub (ws' := []) [] rfl) ⟨Nat.le_of_ble_eq_true rfl, Nat.le_of_ble_eq_true rfl⟩ rfl rfl rfl hl.1 rfl (Nat.le_of_ble_eq_true rfl) ⟨Nat.le_of_ble_eq_true rfl, Nat.le_of_ble_eq_true rfl⟩ dX12_bytesIs_1) ?_
  refine lv_if_ne (tgt := 11) hx hb dX12_bytesIs_4 (by decide) (fun c1 => absurd (b1 c1) (by omega)) (fun _ => ?_)
  refine lv_iconst (v := (-1)) hx hb dX12_bytesIs_7 (by decide) ?_
  refine lv_goto (tgt := 42) hx hb dX12_bytesIs_8 (by decide) ?_
  exact rz_i hx hb hr hlk (by decide) dX12_bytesIs_42
theorem dX12_refusal_0 : decode cX12_refusal 0 = .ok (.iload_n 1, 1) := by decide +kernel
theorem dX12_refusal_1 : decode cX12_refusal 1 = .ok (.invokestatic 114, 3) := by decide +kernel
theorem dX12_refusal_4 : decode cX12_refusal 4 = .ok (.ifCond .ne 5, 3) := by decide +kernel
theorem dX12_refusal_9 : decode cX12_refusal 9 = .ok (.aload_n 0, 1) := by decide +kernel
theorem dX12_refusal_10 : decode cX12_refusal 10 = .ok (.getfield 73, 3) := by decide +kernel
theorem dX12_refusal_13 : decode cX12_refusal 13 = .ok (.iload_n 1, 1) := by decide +kernel
theorem dX12_refusal_14 : decode cX12_refusal 14 = .ok (.iaload, 1) := by decide +kernel
theorem dX12_refusal_15 : decode cX12_refusal 15 = .ok (.ifCond .ge 6, 3) := by decide +kernel
theorem dX12_refusal_18 : decode cX12_refusal 18 = .ok (.bipush (-11), 2) := by decide +kernel
theorem dX12_refusal_20 : decode cX12_refusal 20 = .ok (.ireturn, 1) := by decide +kernel
set_option maxHeartbeats 4000000 in
set_option maxRecDepth 100000 in
theorem m_refIn (l : Launch) (J : va_J9) (b : Nat → Nat) (g : Nat → Int32) (d : Int32) (x : Int32) (hd : 0 ≤ d.toInt ∧ d.toInt ≤ 5) (hg : ∀ k, k < 6 → g k = -1) : RC l J yX12_refusal cX12_refusal 3 (some .int) ({ frames := 2, cells := 0, slots := 0, locals := 45 }) [.ref (b 0), .int d, .int x] [((b 0), .inr (12, [.ref (b 1), .ref (b 2), .ref (b 3), .ref (b 4), .int 0, .int 0, .int 0, .int 0, .ref (b 9), .ref (b 10), .int 0, .ref (b 12), .int (-1), .int 0, .int 0, .int 0, .int 0, .int 0, .ref (b 19), .ref (b 20), .ref (b 21), .ref (b 22), .ref (b 23), .long 0, .long 0, .long 0, .ref (b 27), .ref (b 28), .ref (b 29), .long 0, .int 0, .int (-1), .int 0, .int 0, .int 0, .ref (b 36), .int 0, .int 0, .ref (b 39), .ref (b 40), .int 0, .ref (b 42), .ref (b 43), .int 0, .int 0, .int 0, .ref (b 47), .ref (b 48), .ref (b 49), .ref (b 50)])), ((b 47), .inl (J.2.1, 6, .inl g))] (vp_Si (fun r => r = (-11))) := by
  refine rc_of (by decide) (Nat.le_of_ble_eq_true rfl) ?_
  intro p e s m below meth c ls hE hl hP hK
  obtain ⟨hx, hb, hr, hml, hown, hts, hlk, hin⟩ := hE
  have hown : s.vm.findClass RX12 = some m.cls := hown
  have hl : lv_has ls 3 [(0, .ref (b 0)), (1, .int d), (2, .int x)] := hl
  have rg_d := i_rng d
  have rg_x := i_rng x
  refine lv_iload_n hx hb dX12_refusal_0 rfl (lv_at hl 1 rfl) ?_
  refine go_i (rn_S (As := [.int d]) (rest := []) hx hb hml hown hts hK (m_isShelf l J d) kS_RX12_114 (hP.sub (ws' := []) [] rfl) ⟨Nat.le_of_ble_eq_true rfl, Nat.le_of_ble_eq_true rfl⟩ rfl rfl rfl hl.1 rfl (Nat.le_of_ble_eq_true rfl) ⟨Nat.le_of_ble_eq_true rfl, Nat.le_of_ble_eq_true rfl⟩ dX12_refusal_1) ?_
  refine lv_if_ne (tgt := 9) hx hb dX12_refusal_4 (by decide) (fun _ => ?_) (fun c1 => (b0 c1 (by omega)).elim)
  refine lv_aload_n hx hb dX12_refusal_9 rfl (lv_at hl 0 rfl) ?_
  refine va_get (D := J.1) (ci := 12) (v := .ref (b 47)) (C := RX12) (T := TX12) (N := 50) hx hb hts inX12 hown hK.1 hP 0 rfl rfl 46 (by decide) (hts _ q_1312) (fun _ h9 => h9) rfl dX12_refusal_10 ?_
  refine lv_iload_n hx hb dX12_refusal_13 rfl (lv_at hl 1 rfl) ?_
  have h2 : vp_in d 6 := (i_in (a := d.toInt) rfl (by omega) (by omega))
  refine va_iald hx hb hK.1 hP 1 0 rfl rfl h2 dX12_refusal_14 ?_
  refine top_i (y := (-1)) (hg _ (i_cl h2)) ?_
  refine lv_if_ge (tgt := 21) hx hb dX12_refusal_15 (by decide) (fun c => absurd c (by decide)) (fun _ => ?_)
  refine lv_bipush (v := (-11)) hx hb dX12_refusal_18 (by decide) ?_
  exact rz_i hx hb hr hlk (by decide) dX12_refusal_20
theorem dX12_refusal_7 : decode cX12_refusal 7 = .ok (.iconst (-1), 1) := by decide +kernel
theorem dX12_refusal_8 : decode cX12_refusal 8 = .ok (.ireturn, 1) := by decide +kernel
set_option maxHeartbeats 4000000 in
set_option maxRecDepth 100000 in
theorem m_refOut (l : Launch) (J : va_J9) (b : Nat → Nat) (g : Nat → Int32) (d : Int32) (x : Int32) (hd : ¬ (0 ≤ d.toInt ∧ d.toInt ≤ 5)) (hg : ∀ k, k < 6 → g k = -1) : RC l J yX12_refusal cX12_refusal 3 (some .int) ({ frames := 2, cells := 0, slots := 0, locals := 45 }) [.ref (b 0), .int d, .int x] [((b 0), .inr (12, [.ref (b 1), .ref (b 2), .ref (b 3), .ref (b 4), .int 0, .int 0, .int 0, .int 0, .ref (b 9), .ref (b 10), .int 0, .ref (b 12), .int (-1), .int 0, .int 0, .int 0, .int 0, .int 0, .ref (b 19), .ref (b 20), .ref (b 21), .ref (b 22), .ref (b 23), .long 0, .long 0, .long 0, .ref (b 27), .ref (b 28), .ref (b 29), .long 0, .int 0, .int (-1), .int 0, .int 0, .int 0, .ref (b 36), .int 0, .int 0, .ref (b 39), .ref (b 40), .int 0, .ref (b 42), .ref (b 43), .int 0, .int 0, .int 0, .ref (b 47), .ref (b 48), .ref (b 49), .ref (b 50)])), ((b 47), .inl (J.2.1, 6, .inl g))] (vp_Si (fun r => r = (-1))) := by
  refine rc_of (by decide) (Nat.le_of_ble_eq_true rfl) ?_
  intro p e s m below meth c ls hE hl hP hK
  obtain ⟨hx, hb, hr, hml, hown, hts, hlk, hin⟩ := hE
  have hown : s.vm.findClass RX12 = some m.cls := hown
  have hl : lv_has ls 3 [(0, .ref (b 0)), (1, .int d), (2, .int x)] := hl
  have rg_d := i_rng d
  have rg_x := i_rng x
  refine lv_iload_n hx hb dX12_refusal_0 rfl (lv_at hl 1 rfl) ?_
  refine go_i (rn_S (As := [.int d]) (rest := []) hx hb hml hown hts hK (m_isShelf l J d) kS_RX12_114 (hP.sub (ws' := []) [] rfl) ⟨Nat.le_of_ble_eq_true rfl, Nat.le_of_ble_eq_true rfl⟩ rfl rfl rfl hl.1 rfl (Nat.le_of_ble_eq_true rfl) ⟨Nat.le_of_ble_eq_true rfl, Nat.le_of_ble_eq_true rfl⟩ dX12_refusal_1) ?_
  refine lv_if_ne (tgt := 9) hx hb dX12_refusal_4 (by decide) (fun c1 => absurd (b1 c1) (by omega)) (fun _ => ?_)
  refine lv_iconst (v := (-1)) hx hb dX12_refusal_7 (by decide) ?_
  exact rz_i hx hb hr hlk (by decide) dX12_refusal_8
theorem dX12_bothIs_0 : decode cX12_bothIs 0 = .ok (.iload_n 1, 1) := by decide +kernel
theorem dX12_bothIs_1 : decode cX12_bothIs 1 = .ok (.ifCond .lt 23, 3) := by decide +kernel
theorem dX12_bothIs_24 : decode cX12_bothIs 24 = .ok (.iconst (-1), 1) := by decide +kernel
theorem dX12_bothIs_25 : decode cX12_bothIs 25 = .ok (.ireturn, 1) := by decide +kernel
theorem dX12_bothIs_4 : decode cX12_bothIs 4 = .ok (.iload_n 1, 1) := by decide +kernel
theorem dX12_bothIs_5 : decode cX12_bothIs 5 = .ok (.bipush 10, 2) := by decide +kernel
theorem dX12_bothIs_7 : decode cX12_bothIs 7 = .ok (.idiv, 1) := by decide +kernel
theorem dX12_bothIs_8 : decode cX12_bothIs 8 = .ok (.invokestatic 114, 3) := by decide +kernel
theorem dX12_bothIs_11 : decode cX12_bothIs 11 = .ok (.ifCond .eq 13, 3) := by decide +kernel
theorem dX12_bothIs_14 : decode cX12_bothIs 14 = .ok (.iload_n 1, 1) := by decide +kernel
theorem dX12_bothIs_15 : decode cX12_bothIs 15 = .ok (.bipush 10, 2) := by decide +kernel
theorem dX12_bothIs_17 : decode cX12_bothIs 17 = .ok (.irem, 1) := by decide +kernel
theorem dX12_bothIs_18 : decode cX12_bothIs 18 = .ok (.invokestatic 114, 3) := by decide +kernel
theorem dX12_bothIs_21 : decode cX12_bothIs 21 = .ok (.ifCond .ne 5, 3) := by decide +kernel
theorem dX12_bothIs_26 : decode cX12_bothIs 26 = .ok (.aload_n 0, 1) := by decide +kernel
theorem dX12_bothIs_27 : decode cX12_bothIs 27 = .ok (.getfield 73, 3) := by decide +kernel
theorem dX12_bothIs_30 : decode cX12_bothIs 30 = .ok (.iload_n 1, 1) := by decide +kernel
theorem dX12_bothIs_31 : decode cX12_bothIs 31 = .ok (.bipush 10, 2) := by decide +kernel
theorem dX12_bothIs_33 : decode cX12_bothIs 33 = .ok (.idiv, 1) := by decide +kernel
theorem dX12_bothIs_34 : decode cX12_bothIs 34 = .ok (.iaload, 1) := by decide +kernel
theorem dX12_bothIs_35 : decode cX12_bothIs 35 = .ok (.ifCond .lt 15, 3) := by decide +kernel
theorem dX12_bothIs_50 : decode cX12_bothIs 50 = .ok (.bipush (-11), 2) := by decide +kernel
theorem dX12_bothIs_52 : decode cX12_bothIs 52 = .ok (.ireturn, 1) := by decide +kernel
set_option maxHeartbeats 4000000 in
set_option maxRecDepth 100000 in
theorem m_bothIn (l : Launch) (J : va_J9) (b : Nat → Nat) (g : Nat → Int32) (x : Int32) (hd : 0 ≤ x.toInt ∧ x.toInt / 10 ≤ 5 ∧ x.toInt % 10 ≤ 5) (hg : ∀ k, k < 6 → g k = -1) : RC l J yX12_bothIs cX12_bothIs 2 (some .int) ({ frames := 2, cells := 0, slots := 0, locals := 45 }) [.ref (b 0), .int x] [((b 0), .inr (12, [.ref (b 1), .ref (b 2), .ref (b 3), .ref (b 4), .int 0, .int 0, .int 0, .int 0, .ref (b 9), .ref (b 10), .int 0, .ref (b 12), .int (-1), .int 0, .int 0, .int 0, .int 0, .int 0, .ref (b 19), .ref (b 20), .ref (b 21), .ref (b 22), .ref (b 23), .long 0, .long 0, .long 0, .ref (b 27), .ref (b 28), .ref (b 29), .long 0, .int 0, .int (-1), .int 0, .int 0, .int 0, .ref (b 36), .int 0, .int 0, .ref (b 39), .ref (b 40), .int 0, .ref (b 42), .ref (b 43), .int 0, .int 0, .int 0, .ref (b 47), .ref (b 48), .ref (b 49), .ref (b 50)])), ((b 47), .inl (J.2.1, 6, .inl g))] (vp_Si (fun r => r = (-11))) := by
  refine rc_of (by decide) (Nat.le_of_ble_eq_true rfl) ?_
  intro p e s m below meth c ls hE hl hP hK
  obtain ⟨hx, hb, hr, hml, hown, hts, hlk, hin⟩ := hE
  have hown : s.vm.findClass RX12 = some m.cls := hown
  have hl : lv_has ls 2 [(0, .ref (b 0)), (1, .int x)] := hl
  have rg_x := i_rng x
  refine lv_iload_n hx hb dX12_bothIs_0 rfl (lv_at hl 1 rfl) ?_
  refine lv_if_lt (tgt := 24) hx hb dX12_bothIs_1 (by decide) (fun c1 => ?_) (fun c1 => ?_)
  · have j2 : x.toInt < 0 := (i_lt rfl (by decide)).mp c1
    refine lv_iconst (v := (-1)) hx hb dX12_bothIs_24 (by decide) ?_
    exact rz_i hx hb hr hlk (by omega) dX12_bothIs_25
  · have j3 : ¬ (x.toInt < 0) := fun h => c1 ((i_lt rfl (by decide)).mpr h)
    refine lv_iload_n hx hb dX12_bothIs_4 rfl (lv_at hl 1 rfl) ?_
    refine lv_bipush (v := 10) hx hb dX12_bothIs_5 (by decide) ?_
    refine lv_idiv hx hb dX12_bothIs_7 (by decide) ?_
    have p4 : (x / 10).toInt = x.toInt / 10 := i_div rfl (by decide) (by omega) (by omega)
    refine go_i (rn_S (As := [.int (x / 10)]) (rest := []) hx hb hml hown hts hK (m_isShelf l J (x / 10)) kS_RX12_114 (hP.sub (ws' := []) [] rfl) ⟨Nat.le_of_ble_eq_true rfl, Nat.le_of_ble_eq_true rfl⟩ rfl rfl rfl hl.1 rfl (Nat.le_of_ble_eq_true rfl) ⟨Nat.le_of_ble_eq_true rfl, Nat.le_of_ble_eq_true rfl⟩ dX12_bothIs_8) ?_
    refine lv_if_eq (tgt := 24) hx hb dX12_bothIs_11 (by decide) (fun c5 => ?_) (fun c5 => ?_)
    · have j6 := b0 c5
      refine lv_iconst (v := (-1)) hx hb dX12_bothIs_24 (by decide) ?_
      exact rz_i hx hb hr hlk (by omega) dX12_bothIs_25
    · have j7 := b1 c5
      refine lv_iload_n hx hb dX12_bothIs_14 rfl (lv_at hl 1 rfl) ?_
      refine lv_bipush (v := 10) hx hb dX12_bothIs_15 (by decide) ?_
      refine lv_irem hx hb dX12_bothIs_17 (by decide) ?_
      have p8 : (x - x / 10 * 10).toInt = x.toInt % 10 := i_rem rfl (by decide) (by omega) (by omega)
      refine go_i (rn_S (As := [.int (x - x / 10 * 10)]) (rest := []) hx hb hml hown hts hK (m_isShelf l J (x - x / 10 * 10)) kS_RX12_114 (hP.sub (ws' := []) [] rfl) ⟨Nat.le_of_ble_eq_true rfl, Nat.le_of_ble_eq_true rfl⟩ rfl rfl rfl hl.1 rfl (Nat.le_of_ble_eq_true rfl) ⟨Nat.le_of_ble_eq_true rfl, Nat.le_of_ble_eq_true rfl⟩ dX12_bothIs_18) ?_
      refine lv_if_ne (tgt := 26) hx hb dX12_bothIs_21 (by decide) (fun c9 => ?_) (fun c9 => ?_)
      · have j10 := b1 c9
        refine lv_aload_n hx hb dX12_bothIs_26 rfl (lv_at hl 0 rfl) ?_
        refine va_get (D := J.1) (ci := 12) (v := .ref (b 47)) (C := RX12) (T := TX12) (N := 50) hx hb hts inX12 hown hK.1 hP 0 rfl rfl 46 (by decide) (hts _ q_1312) (fun _ h9 => h9) rfl dX12_bothIs_27 ?_
        refine lv_iload_n hx hb dX12_bothIs_30 rfl (lv_at hl 1 rfl) ?_
        refine lv_bipush (v := 10) hx hb dX12_bothIs_31 (by decide) ?_
        refine lv_idiv hx hb dX12_bothIs_33 (by decide) ?_
        have p11 : (x / 10).toInt = x.toInt / 10 := i_div rfl (by decide) (by omega) (by omega)
        have h12 : vp_in (x / 10) 6 := (i_in (a := x.toInt / 10) p11 (by omega) (by omega))
        refine va_iald hx hb hK.1 hP 1 0 rfl rfl h12 dX12_bothIs_34 ?_
        refine top_i (y := (-1)) (hg _ (i_cl h12)) ?_
        refine lv_if_lt (tgt := 50) hx hb dX12_bothIs_35 (by decide) (fun _ => ?_) (fun c => absurd c (by decide))
        refine lv_bipush (v := (-11)) hx hb dX12_bothIs_50 (by decide) ?_
        exact rz_i hx hb hr hlk (by decide) dX12_bothIs_52
      · have j13 := b0 c9
        refine lv_iconst (v := (-1)) hx hb dX12_bothIs_24 (by decide) ?_
        exact rz_i hx hb hr hlk (by omega) dX12_bothIs_25
set_option maxHeartbeats 4000000 in
set_option maxRecDepth 100000 in
theorem m_bothOut (l : Launch) (J : va_J9) (b : Nat → Nat) (g : Nat → Int32) (x : Int32) (hd : ¬ (0 ≤ x.toInt ∧ x.toInt / 10 ≤ 5 ∧ x.toInt % 10 ≤ 5)) (hg : ∀ k, k < 6 → g k = -1) : RC l J yX12_bothIs cX12_bothIs 2 (some .int) ({ frames := 2, cells := 0, slots := 0, locals := 45 }) [.ref (b 0), .int x] [((b 0), .inr (12, [.ref (b 1), .ref (b 2), .ref (b 3), .ref (b 4), .int 0, .int 0, .int 0, .int 0, .ref (b 9), .ref (b 10), .int 0, .ref (b 12), .int (-1), .int 0, .int 0, .int 0, .int 0, .int 0, .ref (b 19), .ref (b 20), .ref (b 21), .ref (b 22), .ref (b 23), .long 0, .long 0, .long 0, .ref (b 27), .ref (b 28), .ref (b 29), .long 0, .int 0, .int (-1), .int 0, .int 0, .int 0, .ref (b 36), .int 0, .int 0, .ref (b 39), .ref (b 40), .int 0, .ref (b 42), .ref (b 43), .int 0, .int 0, .int 0, .ref (b 47), .ref (b 48), .ref (b 49), .ref (b 50)])), ((b 47), .inl (J.2.1, 6, .inl g))] (vp_Si (fun r => r = (-1))) := by
  refine rc_of (by decide) (Nat.le_of_ble_eq_true rfl) ?_
  intro p e s m below meth c ls hE hl hP hK
  obtain ⟨hx, hb, hr, hml, hown, hts, hlk, hin⟩ := hE
  have hown : s.vm.findClass RX12 = some m.cls := hown
  have hl : lv_has ls 2 [(0, .ref (b 0)), (1, .int x)] := hl
  have rg_x := i_rng x
  refine lv_iload_n hx hb dX12_bothIs_0 rfl (lv_at hl 1 rfl) ?_
  refine lv_if_lt (tgt := 24) hx hb dX12_bothIs_1 (by decide) (fun c1 => ?_) (fun c1 => ?_)
  · have j2 : x.toInt < 0 := (i_lt rfl (by decide)).mp c1
    refine lv_iconst (v := (-1)) hx hb dX12_bothIs_24 (by decide) ?_
    exact rz_i hx hb hr hlk (by decide) dX12_bothIs_25
  · have j3 : ¬ (x.toInt < 0) := fun h => c1 ((i_lt rfl (by decide)).mpr h)
    refine lv_iload_n hx hb dX12_bothIs_4 rfl (lv_at hl 1 rfl) ?_
    refine lv_bipush (v := 10) hx hb dX12_bothIs_5 (by decide) ?_
    refine lv_idiv hx hb dX12_bothIs_7 (by decide) ?_
    have p4 : (x / 10).toInt = x.toInt / 10 := i_div rfl (by decide) (by omega) (by omega)
    refine go_i (rn_S (As := [.int (x / 10)]) (rest := []) hx hb hml hown hts hK (m_isShelf l J (x / 10)) kS_RX12_114 (hP.sub (ws' := []) [] rfl) ⟨Nat.le_of_ble_eq_true rfl, Nat.le_of_ble_eq_true rfl⟩ rfl rfl rfl hl.1 rfl (Nat.le_of_ble_eq_true rfl) ⟨Nat.le_of_ble_eq_true rfl, Nat.le_of_ble_eq_true rfl⟩ dX12_bothIs_8) ?_
    refine lv_if_eq (tgt := 24) hx hb dX12_bothIs_11 (by decide) (fun c5 => ?_) (fun c5 => ?_)
    · have j6 := b0 c5
      refine lv_iconst (v := (-1)) hx hb dX12_bothIs_24 (by decide) ?_
      exact rz_i hx hb hr hlk (by decide) dX12_bothIs_25
    · have j7 := b1 c5
      refine lv_iload_n hx hb dX12_bothIs_14 rfl (lv_at hl 1 rfl) ?_
      refine lv_bipush (v := 10) hx hb dX12_bothIs_15 (by decide) ?_
      refine lv_irem hx hb dX12_bothIs_17 (by decide) ?_
      have p8 : (x - x / 10 * 10).toInt = x.toInt % 10 := i_rem rfl (by decide) (by omega) (by omega)
      refine go_i (rn_S (As := [.int (x - x / 10 * 10)]) (rest := []) hx hb hml hown hts hK (m_isShelf l J (x - x / 10 * 10)) kS_RX12_114 (hP.sub (ws' := []) [] rfl) ⟨Nat.le_of_ble_eq_true rfl, Nat.le_of_ble_eq_true rfl⟩ rfl rfl rfl hl.1 rfl (Nat.le_of_ble_eq_true rfl) ⟨Nat.le_of_ble_eq_true rfl, Nat.le_of_ble_eq_true rfl⟩ dX12_bothIs_18) ?_
      refine lv_if_ne (tgt := 26) hx hb dX12_bothIs_21 (by decide) (fun c9 => ?_) (fun c9 => ?_)
      · have j10 := b1 c9
        refine lv_aload_n hx hb dX12_bothIs_26 rfl (lv_at hl 0 rfl) ?_
        refine va_get (D := J.1) (ci := 12) (v := .ref (b 47)) (C := RX12) (T := TX12) (N := 50) hx hb hts inX12 hown hK.1 hP 0 rfl rfl 46 (by decide) (hts _ q_1312) (fun _ h9 => h9) rfl dX12_bothIs_27 ?_
        refine lv_iload_n hx hb dX12_bothIs_30 rfl (lv_at hl 1 rfl) ?_
        refine lv_bipush (v := 10) hx hb dX12_bothIs_31 (by decide) ?_
        refine lv_idiv hx hb dX12_bothIs_33 (by decide) ?_
        have p11 : (x / 10).toInt = x.toInt / 10 := i_div rfl (by decide) (by omega) (by omega)
        have h12 : vp_in (x / 10) 6 := (i_in (a := x.toInt / 10) p11 (by omega) (by omega))
        refine va_iald hx hb hK.1 hP 1 0 rfl rfl h12 dX12_bothIs_34 ?_
        refine top_i (y := (-1)) (hg _ (i_cl h12)) ?_
        refine lv_if_lt (tgt := 50) hx hb dX12_bothIs_35 (by decide) (fun _ => ?_) (fun c => absurd c (by decide))
        refine lv_bipush (v := (-11)) hx hb dX12_bothIs_50 (by decide) ?_
        exact rz_i hx hb hr hlk (by omega) dX12_bothIs_52
      · have j13 := b0 c9
        refine lv_iconst (v := (-1)) hx hb dX12_bothIs_24 (by decide) ?_
        exact rz_i hx hb hr hlk (by decide) dX12_bothIs_25
