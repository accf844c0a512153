theorem dX10_isHole_0 : decode cX10_isHole 0 = .ok (.iload_n 1, 1) := by decide +kernel
theorem dX10_isHole_1 : decode cX10_isHole 1 = .ok (.ifCond .lt 15, 3) := by decide +kernel
theorem dX10_isHole_16 : decode cX10_isHole 16 = .ok (.iconst 0, 1) := by decide +kernel
theorem dX10_isHole_17 : decode cX10_isHole 17 = .ok (.ireturn, 1) := by decide +kernel
theorem dX10_isHole_4 : decode cX10_isHole 4 = .ok (.iload_n 1, 1) := by decide +kernel
theorem dX10_isHole_5 : decode cX10_isHole 5 = .ok (.aload_n 0, 1) := by decide +kernel
theorem q_178 : Cond.fieldLink RX10 36 RX10 "size" "I" ∈ lw_g := mem_q 178 (by decide +kernel) rfl
theorem dX10_isHole_6 : decode cX10_isHole 6 = .ok (.getfield 36, 3) := by decide +kernel
theorem dX10_isHole_9 : decode cX10_isHole 9 = .ok (.if_icmp .ge 7, 3) := by decide +kernel
set_option maxHeartbeats 4000000 in
set_option maxRecDepth 100000 in
theorem cW_isHole (l : Launch) (J : va_J9) (w : Nat) (t : Nat) (we : Nat) (jo : Nat) (la : Nat) (n : Int32) : RC l J yX10_isHole cX10_isHole 2 (some .boolean) ({ frames := 0, cells := 0, slots := 0, locals := 0 }) [.ref w, .int n] [(w, .inr (10, [.ref t, .ref we, .ref jo, .ref la, .int 0, .int 0, .int 0, .int 0, .int 1, .int 0, .int 0]))] (vp_Si (fun r => r = 0)) := by
  refine rc_of (by decide) (Nat.le_of_ble_eq_true rfl) ?_
  intro p e s m below meth c ls hE hl hP hK
  obtain ⟨hx, hb, hr, hml, hown, hts, hlk, hin⟩ := hE
  have hown : s.vm.findClass RX10 = some m.cls := hown
  have hl : lv_has ls 2 [(0, .ref w), (1, .int n)] := hl
  have rg_n := i_rng n
  refine lv_iload_n hx hb dX10_isHole_0 rfl (lv_at hl 1 rfl) ?_
  refine lv_if_lt (tgt := 16) hx hb dX10_isHole_1 (by decide) (fun c1 => ?_) (fun c1 => ?_)
  · have j2 : n.toInt < 0 := (i_lt rfl (by decide)).mp c1
    refine lv_iconst (v := 0) hx hb dX10_isHole_16 (by decide) ?_
    exact rz_z hx hb hr hlk (by decide) (by decide) dX10_isHole_17
  · have j3 : ¬ (n.toInt < 0) := fun h => c1 ((i_lt rfl (by decide)).mpr h)
    refine lv_iload_n hx hb dX10_isHole_4 rfl (lv_at hl 1 rfl) ?_
    refine lv_aload_n hx hb dX10_isHole_5 rfl (lv_at hl 0 rfl) ?_
    refine va_get (D := J.1) (ci := 10) (v := .int 0) (C := RX10) (T := TX10) (N := 11) hx hb hts inX10 hown hK.1 hP 0 rfl rfl 6 (by decide) (hts _ q_178) (fun _ h9 => h9) rfl dX10_isHole_6 ?_
    refine lv_icmp_ge (tgt := 16) hx hb dX10_isHole_9 (by decide) (fun _ => ?_) (fun c4 => absurd (show ¬ (0 ≤ n.toInt) from fun h => c4 ((i_le (by decide) rfl).mpr h)) (by omega))
    refine lv_iconst (v := 0) hx hb dX10_isHole_16 (by decide) ?_
    exact rz_z hx hb hr hlk (by decide) (by decide) dX10_isHole_17
theorem dX10_isOpen_0 : decode cX10_isOpen 0 = .ok (.aload_n 0, 1) := by decide +kernel
theorem dX10_isOpen_1 : decode cX10_isOpen 1 = .ok (.iload_n 1, 1) := by decide +kernel
theorem q_602 : Cond.methodLink RX10 39 yX10_isHole ∈ lw_g := mem_q 602 (by decide +kernel) rfl
theorem q_595 : Cond.instanceMethod yX10_isHole ∈ lw_g := mem_q 595 (by decide +kernel) rfl
theorem q_596 : Cond.selects RX10 yX10_isHole yX10_isHole ∈ lw_g := mem_q 596 (by decide +kernel) rfl
theorem q_105 : Cond.initialized RX10 ∈ lw_g := mem_q 105 (by decide +kernel) rfl
theorem q_597 : Cond.code yX10_isHole cX10_isHole 2 (some .boolean) ∈ lw_g := mem_q 597 (by decide +kernel) rfl
theorem kV_RX10_39 : CV RX10 39 RX10 yX10_isHole cX10_isHole 2 (some .boolean) 1 := cv_of q_602 q_595 q_596 q_105 q_597 (by decide +kernel)
theorem dX10_isOpen_2 : decode cX10_isOpen 2 = .ok (.invokevirtual 39, 3) := by decide +kernel
theorem dX10_isOpen_5 : decode cX10_isOpen 5 = .ok (.ifCond .eq 18, 3) := by decide +kernel
theorem dX10_isOpen_23 : decode cX10_isOpen 23 = .ok (.iconst 0, 1) := by decide +kernel
theorem dX10_isOpen_24 : decode cX10_isOpen 24 = .ok (.ireturn, 1) := by decide +kernel
set_option maxHeartbeats 4000000 in
set_option maxRecDepth 100000 in
theorem cW_isOpen (l : Launch) (J : va_J9) (w : Nat) (t : Nat) (we : Nat) (jo : Nat) (la : Nat) (n : Int32) : RC l J yX10_isOpen cX10_isOpen 2 (some .boolean) ({ frames := 1, cells := 0, slots := 0, locals := 21 }) [.ref w, .int n] [(w, .inr (10, [.ref t, .ref we, .ref jo, .ref la, .int 0, .int 0, .int 0, .int 0, .int 1, .int 0, .int 0]))] (vp_Si (fun r => r = 0)) := by
  refine rc_of (by decide) (Nat.le_of_ble_eq_true rfl) ?_
  intro p e s m below meth c ls hE hl hP hK
  obtain ⟨hx, hb, hr, hml, hown, hts, hlk, hin⟩ := hE
  have hown : s.vm.findClass RX10 = some m.cls := hown
  have hl : lv_has ls 2 [(0, .ref w), (1, .int n)] := hl
  have rg_n := i_rng n
  refine lv_aload_n hx hb dX10_isOpen_0 rfl (lv_at hl 0 rfl) ?_
  refine lv_iload_n hx hb dX10_isOpen_1 rfl (lv_at hl 1 rfl) ?_
  refine go_i (rn_V (As := [.int n]) (rest := []) hx hb hml hown hts hK (cW_isHole l J w t we jo la n) kV_RX10_39 hP rfl rfl rfl ⟨Nat.le_of_ble_eq_true rfl, Nat.le_of_ble_eq_true rfl⟩ rfl rfl rfl hl.1 rfl (Nat.le_of_ble_eq_true rfl) ⟨Nat.le_of_ble_eq_true rfl, Nat.le_of_ble_eq_true rfl⟩ dX10_isOpen_2) ?_
  refine lv_if_eq (tgt := 23) hx hb dX10_isOpen_5 (by decide) (fun _ => ?_) (fun c => absurd c (by decide))
  refine lv_iconst (v := 0) hx hb dX10_isOpen_23 (by decide) ?_
  exact rz_z hx hb hr hlk (by decide) (by decide) dX10_isOpen_24
theorem dX10_areHoles_0 : decode cX10_areHoles 0 = .ok (.iload_n 1, 1) := by decide +kernel
theorem dX10_areHoles_1 : decode cX10_areHoles 1 = .ok (.ifCond .lt 16, 3) := by decide +kernel
theorem dX10_areHoles_17 : decode cX10_areHoles 17 = .ok (.iconst 0, 1) := by decide +kernel
theorem dX10_areHoles_18 : decode cX10_areHoles 18 = .ok (.ireturn, 1) := by decide +kernel
theorem dX10_areHoles_4 : decode cX10_areHoles 4 = .ok (.iload_n 1, 1) := by decide +kernel
theorem dX10_areHoles_5 : decode cX10_areHoles 5 = .ok (.aload_n 0, 1) := by decide +kernel
theorem dX10_areHoles_6 : decode cX10_areHoles 6 = .ok (.getfield 36, 3) := by decide +kernel
theorem dX10_areHoles_9 : decode cX10_areHoles 9 = .ok (.ishr, 1) := by decide +kernel
theorem dX10_areHoles_10 : decode cX10_areHoles 10 = .ok (.ifCond .ne 7, 3) := by decide +kernel
theorem dX10_areHoles_13 : decode cX10_areHoles 13 = .ok (.iconst 1, 1) := by decide +kernel
theorem dX10_areHoles_14 : decode cX10_areHoles 14 = .ok (.goto 4, 3) := by decide +kernel
set_option maxHeartbeats 4000000 in
set_option maxRecDepth 100000 in
theorem cW_areHoles (l : Launch) (J : va_J9) (w : Nat) (t : Nat) (we : Nat) (jo : Nat) (la : Nat) (n : Int32) : RC l J yX10_areHoles cX10_areHoles 2 (some .boolean) ({ frames := 0, cells := 0, slots := 0, locals := 0 }) [.ref w, .int n] [(w, .inr (10, [.ref t, .ref we, .ref jo, .ref la, .int 0, .int 0, .int 0, .int 0, .int 1, .int 0, .int 0]))] (vp_Si (fun r => r = B01 (n.toInt = 0))) := by
  refine rc_of (by decide) (Nat.le_of_ble_eq_true rfl) ?_
  intro p e s m below meth c ls hE hl hP hK
  obtain ⟨hx, hb, hr, hml, hown, hts, hlk, hin⟩ := hE
  have hown : s.vm.findClass RX10 = some m.cls := hown
  have hl : lv_has ls 2 [(0, .ref w), (1, .int n)] := hl
  have rg_n := i_rng n
  refine lv_iload_n hx hb dX10_areHoles_0 rfl (lv_at hl 1 rfl) ?_
  refine lv_if_lt (tgt := 17) hx hb dX10_areHoles_1 (by decide) (fun c1 => ?_) (fun c1 => ?_)
  · have j2 : n.toInt < 0 := (i_lt rfl (by decide)).mp c1
    refine lv_iconst (v := 0) hx hb dX10_areHoles_17 (by decide) ?_
    exact rz_z hx hb hr hlk (by decide) (b_f (by omega)) dX10_areHoles_18
  · have j3 : ¬ (n.toInt < 0) := fun h => c1 ((i_lt rfl (by decide)).mpr h)
    refine lv_iload_n hx hb dX10_areHoles_4 rfl (lv_at hl 1 rfl) ?_
    refine lv_aload_n hx hb dX10_areHoles_5 rfl (lv_at hl 0 rfl) ?_
    refine va_get (D := J.1) (ci := 10) (v := .int 0) (C := RX10) (T := TX10) (N := 11) hx hb hts inX10 hown hK.1 hP 0 rfl rfl 6 (by decide) (hts _ q_178) (fun _ h9 => h9) rfl dX10_areHoles_6 ?_
    refine lv_ishr hx hb dX10_areHoles_9 ?_
    refine top_i (y := n) (sb_shr0 _) ?_
    refine lv_if_ne (tgt := 17) hx hb dX10_areHoles_10 (by decide) (fun c4 => ?_) (fun c4 => ?_)
    · have j5 : ¬ (n.toInt = 0) := fun h => c4 ((i_eq rfl (by decide)).mpr h)
      refine lv_iconst (v := 0) hx hb dX10_areHoles_17 (by decide) ?_
      exact rz_z hx hb hr hlk (by decide) (b_f (by omega)) dX10_areHoles_18
    · have j6 : n.toInt = 0 := (i_eq rfl (by decide)).mp c4
      refine lv_iconst (v := 1) hx hb dX10_areHoles_13 (by decide) ?_
      refine lv_goto (tgt := 18) hx hb dX10_areHoles_14 (by decide) ?_
      exact rz_z hx hb hr hlk (by decide) (b_t (by omega)) dX10_areHoles_18
theorem dX10_isWeight_0 : decode cX10_isWeight 0 = .ok (.iload_n 1, 1) := by decide +kernel
theorem dX10_isWeight_1 : decode cX10_isWeight 1 = .ok (.ifCond .lt 13, 3) := by decide +kernel
theorem dX10_isWeight_14 : decode cX10_isWeight 14 = .ok (.iconst 0, 1) := by decide +kernel
theorem dX10_isWeight_15 : decode cX10_isWeight 15 = .ok (.ireturn, 1) := by decide +kernel
theorem dX10_isWeight_4 : decode cX10_isWeight 4 = .ok (.iload_n 1, 1) := by decide +kernel
theorem dX10_isWeight_5 : decode cX10_isWeight 5 = .ok (.bipush 9, 2) := by decide +kernel
theorem dX10_isWeight_7 : decode cX10_isWeight 7 = .ok (.if_icmp .gt 7, 3) := by decide +kernel
theorem dX10_isWeight_10 : decode cX10_isWeight 10 = .ok (.iconst 1, 1) := by decide +kernel
theorem dX10_isWeight_11 : decode cX10_isWeight 11 = .ok (.goto 4, 3) := by decide +kernel
set_option maxHeartbeats 4000000 in
set_option maxRecDepth 100000 in
theorem cW_isWeight (l : Launch) (J : va_J9) (w : Nat) (t : Nat) (we : Nat) (jo : Nat) (la : Nat) (n : Int32) : RC l J yX10_isWeight cX10_isWeight 2 (some .boolean) ({ frames := 0, cells := 0, slots := 0, locals := 0 }) [.ref w, .int n] [(w, .inr (10, [.ref t, .ref we, .ref jo, .ref la, .int 0, .int 0, .int 0, .int 0, .int 1, .int 0, .int 0]))] (vp_Si (fun r => r = B01 (0 ≤ n.toInt ∧ n.toInt ≤ 9))) := by
  refine rc_of (by decide) (Nat.le_of_ble_eq_true rfl) ?_
  intro p e s m below meth c ls hE hl hP hK
  obtain ⟨hx, hb, hr, hml, hown, hts, hlk, hin⟩ := hE
  have hown : s.vm.findClass RX10 = some m.cls := hown
  have hl : lv_has ls 2 [(0, .ref w), (1, .int n)] := hl
  have rg_n := i_rng n
  refine lv_iload_n hx hb dX10_isWeight_0 rfl (lv_at hl 1 rfl) ?_
  refine lv_if_lt (tgt := 14) hx hb dX10_isWeight_1 (by decide) (fun c1 => ?_) (fun c1 => ?_)
  · have j2 : n.toInt < 0 := (i_lt rfl (by decide)).mp c1
    refine lv_iconst (v := 0) hx hb dX10_isWeight_14 (by decide) ?_
    exact rz_z hx hb hr hlk (by decide) (b_f (by omega)) dX10_isWeight_15
  · have j3 : ¬ (n.toInt < 0) := fun h => c1 ((i_lt rfl (by decide)).mpr h)
    refine lv_iload_n hx hb dX10_isWeight_4 rfl (lv_at hl 1 rfl) ?_
    refine lv_bipush (v := 9) hx hb dX10_isWeight_5 (by decide) ?_
    refine lv_icmp_gt (tgt := 14) hx hb dX10_isWeight_7 (by decide) (fun c4 => ?_) (fun c4 => ?_)
    · have j5 : 9 < n.toInt := (i_lt (by decide) rfl).mp c4
      refine lv_iconst (v := 0) hx hb dX10_isWeight_14 (by decide) ?_
      exact rz_z hx hb hr hlk (by decide) (b_f (by omega)) dX10_isWeight_15
    · have j6 : ¬ (9 < n.toInt) := fun h => c4 ((i_lt (by decide) rfl).mpr h)
      refine lv_iconst (v := 1) hx hb dX10_isWeight_10 (by decide) ?_
      refine lv_goto (tgt := 15) hx hb dX10_isWeight_11 (by decide) ?_
      exact rz_z hx hb hr hlk (by decide) (b_t (by omega)) dX10_isWeight_15
theorem dX10_openOnes_0 : decode cX10_openOnes 0 = .ok (.iconst 1, 1) := by decide +kernel
theorem dX10_openOnes_1 : decode cX10_openOnes 1 = .ok (.aload_n 0, 1) := by decide +kernel
theorem dX10_openOnes_2 : decode cX10_openOnes 2 = .ok (.getfield 36, 3) := by decide +kernel
theorem dX10_openOnes_5 : decode cX10_openOnes 5 = .ok (.ishl, 1) := by decide +kernel
theorem dX10_openOnes_6 : decode cX10_openOnes 6 = .ok (.iconst 1, 1) := by decide +kernel
theorem dX10_openOnes_7 : decode cX10_openOnes 7 = .ok (.isub, 1) := by decide +kernel
theorem dX10_openOnes_8 : decode cX10_openOnes 8 = .ok (.aload_n 0, 1) := by decide +kernel
theorem q_177 : Cond.fieldLink RX10 43 RX10 "stopped" "I" ∈ lw_g := mem_q 177 (by decide +kernel) rfl
theorem dX10_openOnes_9 : decode cX10_openOnes 9 = .ok (.getfield 43, 3) := by decide +kernel
theorem dX10_openOnes_12 : decode cX10_openOnes 12 = .ok (.iconst (-1), 1) := by decide +kernel
theorem dX10_openOnes_13 : decode cX10_openOnes 13 = .ok (.ixor, 1) := by decide +kernel
theorem dX10_openOnes_14 : decode cX10_openOnes 14 = .ok (.iand, 1) := by decide +kernel
theorem dX10_openOnes_15 : decode cX10_openOnes 15 = .ok (.ireturn, 1) := by decide +kernel
set_option maxHeartbeats 4000000 in
set_option maxRecDepth 100000 in
theorem cW_openOnes (l : Launch) (J : va_J9) (w : Nat) (t : Nat) (we : Nat) (jo : Nat) (la : Nat) : RC l J yX10_openOnes cX10_openOnes 1 (some .int) ({ frames := 0, cells := 0, slots := 0, locals := 0 }) [.ref w] [(w, .inr (10, [.ref t, .ref we, .ref jo, .ref la, .int 0, .int 0, .int 0, .int 0, .int 1, .int 0, .int 0]))] (vp_Si (fun r => r = 0)) := by
  refine rc_of (by decide) (Nat.le_of_ble_eq_true rfl) ?_
  intro p e s m below meth c ls hE hl hP hK
  obtain ⟨hx, hb, hr, hml, hown, hts, hlk, hin⟩ := hE
  have hown : s.vm.findClass RX10 = some m.cls := hown
  have hl : lv_has ls 1 [(0, .ref w)] := hl
  refine lv_iconst (v := 1) hx hb dX10_openOnes_0 (by decide) ?_
  refine lv_aload_n hx hb dX10_openOnes_1 rfl (lv_at hl 0 rfl) ?_
  refine va_get (D := J.1) (ci := 10) (v := .int 0) (C := RX10) (T := TX10) (N := 11) hx hb hts inX10 hown hK.1 hP 0 rfl rfl 6 (by decide) (hts _ q_178) (fun _ h9 => h9) rfl dX10_openOnes_2 ?_
  refine lv_ishl hx hb dX10_openOnes_5 ?_
  refine top_i (y := 1) (by decide) ?_
  refine lv_iconst (v := 1) hx hb dX10_openOnes_6 (by decide) ?_
  refine lv_isub hx hb dX10_openOnes_7 ?_
  refine top_i (y := 0) (by decide) ?_
  refine lv_aload_n hx hb dX10_openOnes_8 rfl (lv_at hl 0 rfl) ?_
  refine va_get (D := J.1) (ci := 10) (v := .int 0) (C := RX10) (T := TX10) (N := 11) hx hb hts inX10 hown hK.1 hP 0 rfl rfl 5 (by decide) (hts _ q_177) (fun _ h9 => h9) rfl dX10_openOnes_9 ?_
  refine lv_iconst (v := (-1)) hx hb dX10_openOnes_12 (by decide) ?_
  refine lv_ixor hx hb dX10_openOnes_13 ?_
  refine top_i (y := (-1)) (by decide) ?_
  refine lv_iand hx hb dX10_openOnes_14 ?_
  refine top_i (y := 0) (by decide) ?_
  exact rz_i hx hb hr hlk (by decide) dX10_openOnes_15
theorem dX10_openNear_0 : decode cX10_openNear 0 = .ok (.aload_n 0, 1) := by decide +kernel
theorem dX10_openNear_1 : decode cX10_openNear 1 = .ok (.iload_n 1, 1) := by decide +kernel
theorem q_651 : Cond.methodLink RX10 84 yX10_isOpen ∈ lw_g := mem_q 651 (by decide +kernel) rfl
theorem q_652 : Cond.instanceMethod yX10_isOpen ∈ lw_g := mem_q 652 (by decide +kernel) rfl
theorem q_653 : Cond.selects RX10 yX10_isOpen yX10_isOpen ∈ lw_g := mem_q 653 (by decide +kernel) rfl
theorem q_654 : Cond.code yX10_isOpen cX10_isOpen 2 (some .boolean) ∈ lw_g := mem_q 654 (by decide +kernel) rfl
theorem kV_RX10_84 : CV RX10 84 RX10 yX10_isOpen cX10_isOpen 2 (some .boolean) 1 := cv_of q_651 q_652 q_653 q_105 q_654 (by decide +kernel)
theorem dX10_openNear_2 : decode cX10_openNear 2 = .ok (.invokevirtual 84, 3) := by decide +kernel
theorem dX10_openNear_5 : decode cX10_openNear 5 = .ok (.ifCond .eq 17, 3) := by decide +kernel
theorem dX10_openNear_22 : decode cX10_openNear 22 = .ok (.iconst 0, 1) := by decide +kernel
theorem dX10_openNear_23 : decode cX10_openNear 23 = .ok (.ireturn, 1) := by decide +kernel
set_option maxHeartbeats 4000000 in
set_option maxRecDepth 100000 in
theorem cW_openNear (l : Launch) (J : va_J9) (w : Nat) (t : Nat) (we : Nat) (jo : Nat) (la : Nat) (n : Int32) : RC l J yX10_openNear cX10_openNear 2 (some .int) ({ frames := 2, cells := 0, slots := 0, locals := 42 }) [.ref w, .int n] [(w, .inr (10, [.ref t, .ref we, .ref jo, .ref la, .int 0, .int 0, .int 0, .int 0, .int 1, .int 0, .int 0]))] (vp_Si (fun r => r = 0)) := by
  refine rc_of (by decide) (Nat.le_of_ble_eq_true rfl) ?_
  intro p e s m below meth c ls hE hl hP hK
  obtain ⟨hx, hb, hr, hml, hown, hts, hlk, hin⟩ := hE
  have hown : s.vm.findClass RX10 = some m.cls := hown
  have hl : lv_has ls 2 [(0, .ref w), (1, .int n)] := hl
  have rg_n := i_rng n
  refine lv_aload_n hx hb dX10_openNear_0 rfl (lv_at hl 0 rfl) ?_
  refine lv_iload_n hx hb dX10_openNear_1 rfl (lv_at hl 1 rfl) ?_
  refine go_i (rn_V (As := [.int n]) (rest := []) hx hb hml hown hts hK (cW_isOpen l J w t we jo la n) kV_RX10_84 hP rfl rfl rfl ⟨Nat.le_of_ble_eq_true rfl, Nat.le_of_ble_eq_true rfl⟩ rfl rfl rfl hl.1 rfl (Nat.le_of_ble_eq_true rfl) ⟨Nat.le_of_ble_eq_true rfl, Nat.le_of_ble_eq_true rfl⟩ dX10_openNear_2) ?_
  refine lv_if_eq (tgt := 22) hx hb dX10_openNear_5 (by decide) (fun _ => ?_) (fun c => absurd c (by decide))
  refine lv_iconst (v := 0) hx hb dX10_openNear_22 (by decide) ?_
  exact rz_i hx hb hr hlk (by decide) dX10_openNear_23
theorem dX10_openWeight_0 : decode cX10_openWeight 0 = .ok (.aload_n 0, 1) := by decide +kernel
theorem q_659 : Cond.methodLink RX10 87 yX10_openOnes ∈ lw_g := mem_q 659 (by decide +kernel) rfl
theorem q_660 : Cond.instanceMethod yX10_openOnes ∈ lw_g := mem_q 660 (by decide +kernel) rfl
theorem q_661 : Cond.selects RX10 yX10_openOnes yX10_openOnes ∈ lw_g := mem_q 661 (by decide +kernel) rfl
theorem q_662 : Cond.code yX10_openOnes cX10_openOnes 1 (some .int) ∈ lw_g := mem_q 662 (by decide +kernel) rfl
theorem kV_RX10_87 : CV RX10 87 RX10 yX10_openOnes cX10_openOnes 1 (some .int) 0 := cv_of q_659 q_660 q_661 q_105 q_662 (by decide +kernel)
theorem dX10_openWeight_1 : decode cX10_openWeight 1 = .ok (.invokevirtual 87, 3) := by decide +kernel
theorem dX10_openWeight_4 : decode cX10_openWeight 4 = .ok (.istore_n 1, 1) := by decide +kernel
theorem dX10_openWeight_5 : decode cX10_openWeight 5 = .ok (.iconst 0, 1) := by decide +kernel
theorem dX10_openWeight_6 : decode cX10_openWeight 6 = .ok (.istore_n 2, 1) := by decide +kernel
theorem dX10_openWeight_7 : decode cX10_openWeight 7 = .ok (.iconst 0, 1) := by decide +kernel
theorem dX10_openWeight_8 : decode cX10_openWeight 8 = .ok (.istore_n 3, 1) := by decide +kernel
theorem dX10_openWeight_9 : decode cX10_openWeight 9 = .ok (.iload_n 3, 1) := by decide +kernel
theorem dX10_openWeight_10 : decode cX10_openWeight 10 = .ok (.aload_n 0, 1) := by decide +kernel
theorem dX10_openWeight_11 : decode cX10_openWeight 11 = .ok (.getfield 36, 3) := by decide +kernel
theorem dX10_openWeight_14 : decode cX10_openWeight 14 = .ok (.if_icmp .ge 31, 3) := by decide +kernel
theorem dX10_openWeight_45 : decode cX10_openWeight 45 = .ok (.iload_n 2, 1) := by decide +kernel
theorem dX10_openWeight_46 : decode cX10_openWeight 46 = .ok (.ireturn, 1) := by decide +kernel
set_option maxHeartbeats 4000000 in
set_option maxRecDepth 100000 in
theorem cW_openWeight (l : Launch) (J : va_J9) (w : Nat) (t : Nat) (we : Nat) (jo : Nat) (la : Nat) : RC l J yX10_openWeight cX10_openWeight 4 (some .int) ({ frames := 1, cells := 0, slots := 0, locals := 20 }) [.ref w] [(w, .inr (10, [.ref t, .ref we, .ref jo, .ref la, .int 0, .int 0, .int 0, .int 0, .int 1, .int 0, .int 0]))] (vp_Si (fun r => r = 0)) := by
  refine rc_of (by decide) (Nat.le_of_ble_eq_true rfl) ?_
  intro p e s m below meth c ls hE hl hP hK
  obtain ⟨hx, hb, hr, hml, hown, hts, hlk, hin⟩ := hE
  have hown : s.vm.findClass RX10 = some m.cls := hown
  have hl : lv_has ls 4 [(0, .ref w)] := hl
  refine lv_aload_n hx hb dX10_openWeight_0 rfl (lv_at hl 0 rfl) ?_
  refine go_i (rn_V (As := []) (rest := []) hx hb hml hown hts hK (cW_openOnes l J w t we jo la) kV_RX10_87 hP rfl rfl rfl ⟨Nat.le_of_ble_eq_true rfl, Nat.le_of_ble_eq_true rfl⟩ rfl rfl rfl hl.1 rfl (Nat.le_of_ble_eq_true rfl) ⟨Nat.le_of_ble_eq_true rfl, Nat.le_of_ble_eq_true rfl⟩ dX10_openWeight_1) ?_
  refine lv_istore_n (lv' := [(1, .int 0), (0, .ref w)]) hx hb dX10_openWeight_4 rfl hl (by decide) rfl (fun ls hl => ?_)
  refine lv_iconst (v := 0) hx hb dX10_openWeight_5 (by decide) ?_
  refine lv_istore_n (lv' := [(2, .int 0), (1, .int 0), (0, .ref w)]) hx hb dX10_openWeight_6 rfl hl (by decide) rfl (fun ls hl => ?_)
  refine lv_iconst (v := 0) hx hb dX10_openWeight_7 (by decide) ?_
  refine lv_istore_n (lv' := [(3, .int 0), (2, .int 0), (1, .int 0), (0, .ref w)]) hx hb dX10_openWeight_8 rfl hl (by decide) rfl (fun ls hl => ?_)
  refine lv_iload_n hx hb dX10_openWeight_9 rfl (lv_at hl 0 rfl) ?_
  refine lv_aload_n hx hb dX10_openWeight_10 rfl (lv_at hl 3 rfl) ?_
  refine va_get (D := J.1) (ci := 10) (v := .int 0) (C := RX10) (T := TX10) (N := 11) hx hb hts inX10 hown hK.1 hP 0 rfl rfl 6 (by decide) (hts _ q_178) (fun _ h9 => h9) rfl dX10_openWeight_11 ?_
  refine lv_icmp_ge (tgt := 45) hx hb dX10_openWeight_14 (by decide) (fun _ => ?_) (fun c => absurd c (by decide))
  refine lv_iload_n hx hb dX10_openWeight_45 rfl (lv_at hl 1 rfl) ?_
  exact rz_i hx hb hr hlk (by decide) dX10_openWeight_46
theorem dX10_leadingInto_0 : decode cX10_leadingInto 0 = .ok (.iconst 0, 1) := by decide +kernel
theorem dX10_leadingInto_1 : decode cX10_leadingInto 1 = .ok (.istore_n 3, 1) := by decide +kernel
theorem dX10_leadingInto_2 : decode cX10_leadingInto 2 = .ok (.iconst 0, 1) := by decide +kernel
theorem dX10_leadingInto_3 : decode cX10_leadingInto 3 = .ok (.istore 4, 2) := by decide +kernel
theorem dX10_leadingInto_5 : decode cX10_leadingInto 5 = .ok (.iload 4, 2) := by decide +kernel
theorem dX10_leadingInto_7 : decode cX10_leadingInto 7 = .ok (.aload_n 0, 1) := by decide +kernel
theorem dX10_leadingInto_8 : decode cX10_leadingInto 8 = .ok (.getfield 36, 3) := by decide +kernel
theorem dX10_leadingInto_11 : decode cX10_leadingInto 11 = .ok (.if_icmp .ge 37, 3) := by decide +kernel
theorem dX10_leadingInto_48 : decode cX10_leadingInto 48 = .ok (.iload_n 3, 1) := by decide +kernel
theorem dX10_leadingInto_49 : decode cX10_leadingInto 49 = .ok (.ireturn, 1) := by decide +kernel
set_option maxHeartbeats 4000000 in
set_option maxRecDepth 100000 in
theorem cW_leadingInto (l : Launch) (J : va_J9) (w : Nat) (t : Nat) (we : Nat) (jo : Nat) (la : Nat) (x : Int32) (y : Int32) : RC l J yX10_leadingInto cX10_leadingInto 5 (some .int) ({ frames := 0, cells := 0, slots := 0, locals := 0 }) [.ref w, .int x, .int y] [(w, .inr (10, [.ref t, .ref we, .ref jo, .ref la, .int 0, .int 0, .int 0, .int 0, .int 1, .int 0, .int 0]))] (vp_Si (fun r => r = 0)) := by
  refine rc_of (by decide) (Nat.le_of_ble_eq_true rfl) ?_
  intro p e s m below meth c ls hE hl hP hK
  obtain ⟨hx, hb, hr, hml, hown, hts, hlk, hin⟩ := hE
  have hown : s.vm.findClass RX10 = some m.cls := hown
  have hl : lv_has ls 5 [(0, .ref w), (1, .int x), (2, .int y)] := hl
  have rg_x := i_rng x
  have rg_y := i_rng y
  refine lv_iconst (v := 0) hx hb dX10_leadingInto_0 (by decide) ?_
  refine lv_istore_n (lv' := [(3, .int 0), (0, .ref w), (1, .int x), (2, .int y)]) hx hb dX10_leadingInto_1 rfl hl (by decide) rfl (fun ls hl => ?_)
  refine lv_iconst (v := 0) hx hb dX10_leadingInto_2 (by decide) ?_
  refine lv_istore (lv' := [(4, .int 0), (3, .int 0), (0, .ref w), (1, .int x), (2, .int y)]) hx hb dX10_leadingInto_3 hl (by decide) rfl (fun ls hl => ?_)
  refine lv_iload hx hb dX10_leadingInto_5 (lv_at hl 0 rfl) ?_
  refine lv_aload_n hx hb dX10_leadingInto_7 rfl (lv_at hl 2 rfl) ?_
  refine va_get (D := J.1) (ci := 10) (v := .int 0) (C := RX10) (T := TX10) (N := 11) hx hb hts inX10 hown hK.1 hP 0 rfl rfl 6 (by decide) (hts _ q_178) (fun _ h9 => h9) rfl dX10_leadingInto_8 ?_
  refine lv_icmp_ge (tgt := 48) hx hb dX10_leadingInto_11 (by decide) (fun _ => ?_) (fun c => absurd c (by decide))
  refine lv_iload_n hx hb dX10_leadingInto_48 rfl (lv_at hl 1 rfl) ?_
  exact rz_i hx hb hr hlk (by decide) dX10_leadingInto_49
theorem dX10_sleepsOn_0 : decode cX10_sleepsOn 0 = .ok (.iload_n 1, 1) := by decide +kernel
theorem dX10_sleepsOn_1 : decode cX10_sleepsOn 1 = .ok (.ifCond .lt 22, 3) := by decide +kernel
theorem dX10_sleepsOn_23 : decode cX10_sleepsOn 23 = .ok (.iconst 0, 1) := by decide +kernel
theorem dX10_sleepsOn_24 : decode cX10_sleepsOn 24 = .ok (.ireturn, 1) := by decide +kernel
theorem dX10_sleepsOn_4 : decode cX10_sleepsOn 4 = .ok (.aload_n 0, 1) := by decide +kernel
theorem q_190 : Cond.fieldLink RX10 77 RX10 "sleep" "I" ∈ lw_g := mem_q 190 (by decide +kernel) rfl
theorem dX10_sleepsOn_5 : decode cX10_sleepsOn 5 = .ok (.getfield 77, 3) := by decide +kernel
theorem dX10_sleepsOn_8 : decode cX10_sleepsOn 8 = .ok (.iload_n 1, 1) := by decide +kernel
theorem dX10_sleepsOn_9 : decode cX10_sleepsOn 9 = .ok (.bipush 7, 2) := by decide +kernel
theorem dX10_sleepsOn_11 : decode cX10_sleepsOn 11 = .ok (.irem, 1) := by decide +kernel
theorem dX10_sleepsOn_12 : decode cX10_sleepsOn 12 = .ok (.ishr, 1) := by decide +kernel
theorem dX10_sleepsOn_13 : decode cX10_sleepsOn 13 = .ok (.iconst 1, 1) := by decide +kernel
theorem dX10_sleepsOn_14 : decode cX10_sleepsOn 14 = .ok (.iand, 1) := by decide +kernel
theorem dX10_sleepsOn_15 : decode cX10_sleepsOn 15 = .ok (.iconst 1, 1) := by decide +kernel
theorem dX10_sleepsOn_16 : decode cX10_sleepsOn 16 = .ok (.if_icmp .ne 7, 3) := by decide +kernel
set_option maxHeartbeats 4000000 in
set_option maxRecDepth 100000 in
theorem cW_sleepsOn (l : Launch) (J : va_J9) (w : Nat) (t : Nat) (we : Nat) (jo : Nat) (la : Nat) (n : Int32) : RC l J yX10_sleepsOn cX10_sleepsOn 2 (some .boolean) ({ frames := 0, cells := 0, slots := 0, locals := 0 }) [.ref w, .int n] [(w, .inr (10, [.ref t, .ref we, .ref jo, .ref la, .int 0, .int 0, .int 0, .int 0, .int 1, .int 0, .int 0]))] (vp_Si (fun r => r = 0)) := by
  refine rc_of (by decide) (Nat.le_of_ble_eq_true rfl) ?_
  intro p e s m below meth c ls hE hl hP hK
  obtain ⟨hx, hb, hr, hml, hown, hts, hlk, hin⟩ := hE
  have hown : s.vm.findClass RX10 = some m.cls := hown
  have hl : lv_has ls 2 [(0, .ref w), (1, .int n)] := hl
  have rg_n := i_rng n
  refine lv_iload_n hx hb dX10_sleepsOn_0 rfl (lv_at hl 1 rfl) ?_
  refine lv_if_lt (tgt := 23) hx hb dX10_sleepsOn_1 (by decide) (fun c1 => ?_) (fun c1 => ?_)
  · have j2 : n.toInt < 0 := (i_lt rfl (by decide)).mp c1
    refine lv_iconst (v := 0) hx hb dX10_sleepsOn_23 (by decide) ?_
    exact rz_z hx hb hr hlk (by decide) (by decide) dX10_sleepsOn_24
  · have j3 : ¬ (n.toInt < 0) := fun h => c1 ((i_lt rfl (by decide)).mpr h)
    refine lv_aload_n hx hb dX10_sleepsOn_4 rfl (lv_at hl 0 rfl) ?_
    refine va_get (D := J.1) (ci := 10) (v := .int 0) (C := RX10) (T := TX10) (N := 11) hx hb hts inX10 hown hK.1 hP 0 rfl rfl 9 (by decide) (hts _ q_190) (fun _ h9 => h9) rfl dX10_sleepsOn_5 ?_
    refine lv_iload_n hx hb dX10_sleepsOn_8 rfl (lv_at hl 1 rfl) ?_
    refine lv_bipush (v := 7) hx hb dX10_sleepsOn_9 (by decide) ?_
    refine lv_irem hx hb dX10_sleepsOn_11 (by decide) ?_
    refine lv_ishr hx hb dX10_sleepsOn_12 ?_
    refine top_i (y := 0) (sh0 _) ?_
    refine lv_iconst (v := 1) hx hb dX10_sleepsOn_13 (by decide) ?_
    refine lv_iand hx hb dX10_sleepsOn_14 ?_
    refine top_i (y := 0) (by decide) ?_
    refine lv_iconst (v := 1) hx hb dX10_sleepsOn_15 (by decide) ?_
    refine lv_icmp_ne (tgt := 23) hx hb dX10_sleepsOn_16 (by decide) (fun _ => ?_) (fun c => absurd c (by decide))
    refine lv_iconst (v := 0) hx hb dX10_sleepsOn_23 (by decide) ?_
    exact rz_z hx hb hr hlk (by decide) (by decide) dX10_sleepsOn_24
theorem dX10_mayBecome_0 : decode cX10_mayBecome 0 = .ok (.iload_n 2, 1) := by decide +kernel
theorem dX10_mayBecome_1 : decode cX10_mayBecome 1 = .ok (.tableswitch 117 0 3 #[31, 53, 76, 96], 31) := by decide +kernel
theorem dX10_mayBecome_32 : decode cX10_mayBecome 32 = .ok (.aload_n 0, 1) := by decide +kernel
theorem dX10_mayBecome_33 : decode cX10_mayBecome 33 = .ok (.iload_n 1, 1) := by decide +kernel
theorem dX10_mayBecome_34 : decode cX10_mayBecome 34 = .ok (.invokevirtual 39, 3) := by decide +kernel
theorem dX10_mayBecome_37 : decode cX10_mayBecome 37 = .ok (.ifCond .eq 15, 3) := by decide +kernel
theorem dX10_mayBecome_52 : decode cX10_mayBecome 52 = .ok (.iconst 0, 1) := by decide +kernel
theorem dX10_mayBecome_53 : decode cX10_mayBecome 53 = .ok (.ireturn, 1) := by decide +kernel
theorem dX10_mayBecome_54 : decode cX10_mayBecome 54 = .ok (.aload_n 0, 1) := by decide +kernel
theorem dX10_mayBecome_55 : decode cX10_mayBecome 55 = .ok (.iload_n 1, 1) := by decide +kernel
theorem dX10_mayBecome_56 : decode cX10_mayBecome 56 = .ok (.invokevirtual 39, 3) := by decide +kernel
theorem dX10_mayBecome_59 : decode cX10_mayBecome 59 = .ok (.ifCond .eq 16, 3) := by decide +kernel
theorem dX10_mayBecome_75 : decode cX10_mayBecome 75 = .ok (.iconst 0, 1) := by decide +kernel
theorem dX10_mayBecome_76 : decode cX10_mayBecome 76 = .ok (.ireturn, 1) := by decide +kernel
theorem dX10_mayBecome_77 : decode cX10_mayBecome 77 = .ok (.iload_n 1, 1) := by decide +kernel
theorem dX10_mayBecome_78 : decode cX10_mayBecome 78 = .ok (.ifCond .ne 17, 3) := by decide +kernel
theorem dX10_mayBecome_95 : decode cX10_mayBecome 95 = .ok (.iconst 0, 1) := by decide +kernel
theorem dX10_mayBecome_96 : decode cX10_mayBecome 96 = .ok (.ireturn, 1) := by decide +kernel
theorem dX10_mayBecome_81 : decode cX10_mayBecome 81 = .ok (.iload_n 3, 1) := by decide +kernel
theorem dX10_mayBecome_82 : decode cX10_mayBecome 82 = .ok (.iconst 1, 1) := by decide +kernel
theorem dX10_mayBecome_83 : decode cX10_mayBecome 83 = .ok (.if_icmp .eq 8, 3) := by decide +kernel
theorem dX10_mayBecome_91 : decode cX10_mayBecome 91 = .ok (.iconst 1, 1) := by decide +kernel
theorem dX10_mayBecome_92 : decode cX10_mayBecome 92 = .ok (.goto 4, 3) := by decide +kernel
theorem dX10_mayBecome_86 : decode cX10_mayBecome 86 = .ok (.iload_n 3, 1) := by decide +kernel
theorem dX10_mayBecome_87 : decode cX10_mayBecome 87 = .ok (.iconst 2, 1) := by decide +kernel
theorem dX10_mayBecome_88 : decode cX10_mayBecome 88 = .ok (.if_icmp .ne 7, 3) := by decide +kernel
theorem dX10_mayBecome_97 : decode cX10_mayBecome 97 = .ok (.iload_n 1, 1) := by decide +kernel
theorem dX10_mayBecome_98 : decode cX10_mayBecome 98 = .ok (.ifCond .ne 18, 3) := by decide +kernel
theorem dX10_mayBecome_116 : decode cX10_mayBecome 116 = .ok (.iconst 0, 1) := by decide +kernel
theorem dX10_mayBecome_117 : decode cX10_mayBecome 117 = .ok (.ireturn, 1) := by decide +kernel
theorem dX10_mayBecome_101 : decode cX10_mayBecome 101 = .ok (.iload_n 3, 1) := by decide +kernel
theorem dX10_mayBecome_102 : decode cX10_mayBecome 102 = .ok (.ifCond .lt 14, 3) := by decide +kernel
theorem dX10_mayBecome_105 : decode cX10_mayBecome 105 = .ok (.iload_n 3, 1) := by decide +kernel
theorem dX10_mayBecome_106 : decode cX10_mayBecome 106 = .ok (.sipush 128, 3) := by decide +kernel
theorem dX10_mayBecome_109 : decode cX10_mayBecome 109 = .ok (.if_icmp .ge 7, 3) := by decide +kernel
theorem dX10_mayBecome_112 : decode cX10_mayBecome 112 = .ok (.iconst 1, 1) := by decide +kernel
theorem dX10_mayBecome_113 : decode cX10_mayBecome 113 = .ok (.goto 4, 3) := by decide +kernel
theorem dX10_mayBecome_118 : decode cX10_mayBecome 118 = .ok (.iconst 0, 1) := by decide +kernel
theorem dX10_mayBecome_119 : decode cX10_mayBecome 119 = .ok (.ireturn, 1) := by decide +kernel
set_option maxHeartbeats 4000000 in
set_option maxRecDepth 100000 in
theorem cW_mayBecome (l : Launch) (J : va_J9) (w : Nat) (t : Nat) (we : Nat) (jo : Nat) (la : Nat) (n : Int32) (k : Int32) (v : Int32) : RC l J yX10_mayBecome cX10_mayBecome 4 (some .boolean) ({ frames := 1, cells := 0, slots := 0, locals := 21 }) [.ref w, .int n, .int k, .int v] [(w, .inr (10, [.ref t, .ref we, .ref jo, .ref la, .int 0, .int 0, .int 0, .int 0, .int 1, .int 0, .int 0]))] (vp_Si (fun r => r = B01 (n.toInt = 0 ∧ (k.toInt = 2 ∧ 1 ≤ v.toInt ∧ v.toInt ≤ 2 ∨ k.toInt = 3 ∧ 0 ≤ v.toInt ∧ v.toInt ≤ 127)))) := by
  refine rc_of (by decide) (Nat.le_of_ble_eq_true rfl) ?_
  intro p e s m below meth c ls hE hl hP hK
  obtain ⟨hx, hb, hr, hml, hown, hts, hlk, hin⟩ := hE
  have hown : s.vm.findClass RX10 = some m.cls := hown
  have hl : lv_has ls 4 [(0, .ref w), (1, .int n), (2, .int k), (3, .int v)] := hl
  have rg_n := i_rng n
  have rg_k := i_rng k
  have rg_v := i_rng v
  refine lv_iload_n hx hb dX10_mayBecome_0 rfl (lv_at hl 2 rfl) ?_
  rcases Decidable.em (k = 0) with c1 | c1
  · have j2 : k.toInt = 0 := (i_eq rfl (by decide)).mp c1
    refine top_i (y := 0) c1 ?_
    refine lv_tableIn (tgt := 32) (off := 31) hx hb dX10_mayBecome_1 (by decide) (by decide) (by decide) (by decide) ?_
    refine lv_aload_n hx hb dX10_mayBecome_32 rfl (lv_at hl 0 rfl) ?_
    refine lv_iload_n hx hb dX10_mayBecome_33 rfl (lv_at hl 1 rfl) ?_
    refine go_i (rn_V (As := [.int n]) (rest := []) hx hb hml hown hts hK (cW_isHole l J w t we jo la n) kV_RX10_39 hP rfl rfl rfl ⟨Nat.le_of_ble_eq_true rfl, Nat.le_of_ble_eq_true rfl⟩ rfl rfl rfl hl.1 rfl (Nat.le_of_ble_eq_true rfl) ⟨Nat.le_of_ble_eq_true rfl, Nat.le_of_ble_eq_true rfl⟩ dX10_mayBecome_34) ?_
    refine lv_if_eq (tgt := 52) hx hb dX10_mayBecome_37 (by decide) (fun _ => ?_) (fun c => absurd c (by decide))
    refine lv_iconst (v := 0) hx hb dX10_mayBecome_52 (by decide) ?_
    exact rz_z hx hb hr hlk (by decide) (b_f (by omega)) dX10_mayBecome_53
  have j3 : ¬ (k.toInt = 0) := fun h => c1 ((i_eq rfl (by decide)).mpr h)
  rcases Decidable.em (k = 1) with c4 | c4
  · have j5 : k.toInt = 1 := (i_eq rfl (by decide)).mp c4
    refine top_i (y := 1) c4 ?_
    refine lv_tableIn (tgt := 54) (off := 53) hx hb dX10_mayBecome_1 (by decide) (by decide) (by decide) (by decide) ?_
    refine lv_aload_n hx hb dX10_mayBecome_54 rfl (lv_at hl 0 rfl) ?_
    refine lv_iload_n hx hb dX10_mayBecome_55 rfl (lv_at hl 1 rfl) ?_
    refine go_i (rn_V (As := [.int n]) (rest := []) hx hb hml hown hts hK (cW_isHole l J w t we jo la n) kV_RX10_39 hP rfl rfl rfl ⟨Nat.le_of_ble_eq_true rfl, Nat.le_of_ble_eq_true rfl⟩ rfl rfl rfl hl.1 rfl (Nat.le_of_ble_eq_true rfl) ⟨Nat.le_of_ble_eq_true rfl, Nat.le_of_ble_eq_true rfl⟩ dX10_mayBecome_56) ?_
    refine lv_if_eq (tgt := 75) hx hb dX10_mayBecome_59 (by decide) (fun _ => ?_) (fun c => absurd c (by decide))
    refine lv_iconst (v := 0) hx hb dX10_mayBecome_75 (by decide) ?_
    exact rz_z hx hb hr hlk (by decide) (b_f (by omega)) dX10_mayBecome_76
  have j6 : ¬ (k.toInt = 1) := fun h => c4 ((i_eq rfl (by decide)).mpr h)
  rcases Decidable.em (k = 2) with c7 | c7
  · have j8 : k.toInt = 2 := (i_eq rfl (by decide)).mp c7
    refine top_i (y := 2) c7 ?_
    refine lv_tableIn (tgt := 77) (off := 76) hx hb dX10_mayBecome_1 (by decide) (by decide) (by decide) (by decide) ?_
    refine lv_iload_n hx hb dX10_mayBecome_77 rfl (lv_at hl 1 rfl) ?_
    refine lv_if_ne (tgt := 95) hx hb dX10_mayBecome_78 (by decide) (fun c9 => ?_) (fun c9 => ?_)
    · have j10 : ¬ (n.toInt = 0) := fun h => c9 ((i_eq rfl (by decide)).mpr h)
      refine lv_iconst (v := 0) hx hb dX10_mayBecome_95 (by decide) ?_
      exact rz_z hx hb hr hlk (by decide) (b_f (by omega)) dX10_mayBecome_96
    · have j11 : n.toInt = 0 := (i_eq rfl (by decide)).mp c9
      refine lv_iload_n hx hb dX10_mayBecome_81 rfl (lv_at hl 3 rfl) ?_
      refine lv_iconst (v := 1) hx hb dX10_mayBecome_82 (by decide) ?_
      refine lv_icmp_eq (tgt := 91) hx hb dX10_mayBecome_83 (by decide) (fun c12 => ?_) (fun c12 => ?_)
      · have j13 : v.toInt = 1 := (i_eq rfl (by decide)).mp c12
        refine lv_iconst (v := 1) hx hb dX10_mayBecome_91 (by decide) ?_
        refine lv_goto (tgt := 96) hx hb dX10_mayBecome_92 (by decide) ?_
        exact rz_z hx hb hr hlk (by decide) (b_t (by omega)) dX10_mayBecome_96
      · have j14 : ¬ (v.toInt = 1) := fun h => c12 ((i_eq rfl (by decide)).mpr h)
        refine lv_iload_n hx hb dX10_mayBecome_86 rfl (lv_at hl 3 rfl) ?_
        refine lv_iconst (v := 2) hx hb dX10_mayBecome_87 (by decide) ?_
        refine lv_icmp_ne (tgt := 95) hx hb dX10_mayBecome_88 (by decide) (fun c15 => ?_) (fun c15 => ?_)
        · have j16 : ¬ (v.toInt = 2) := fun h => c15 ((i_eq rfl (by decide)).mpr h)
          refine lv_iconst (v := 0) hx hb dX10_mayBecome_95 (by decide) ?_
          exact rz_z hx hb hr hlk (by decide) (b_f (by omega)) dX10_mayBecome_96
        · have j17 : v.toInt = 2 := (i_eq rfl (by decide)).mp c15
          refine lv_iconst (v := 1) hx hb dX10_mayBecome_91 (by decide) ?_
          refine lv_goto (tgt := 96) hx hb dX10_mayBecome_92 (by decide) ?_
          exact rz_z hx hb hr hlk (by decide) (b_t (by omega)) dX10_mayBecome_96
  have j18 : ¬ (k.toInt = 2) := fun h => c7 ((i_eq rfl (by decide)).mpr h)
  rcases Decidable.em (k = 3) with c19 | c19
  · have j20 : k.toInt = 3 := (i_eq rfl (by decide)).mp c19
    refine top_i (y := 3) c19 ?_
    refine lv_tableIn (tgt := 97) (off := 96) hx hb dX10_mayBecome_1 (by decide) (by decide) (by decide) (by decide) ?_
    refine lv_iload_n hx hb dX10_mayBecome_97 rfl (lv_at hl 1 rfl) ?_
    refine lv_if_ne (tgt := 116) hx hb dX10_mayBecome_98 (by decide) (fun c21 => ?_) (fun c21 => ?_)
    · have j22 : ¬ (n.toInt = 0) := fun h => c21 ((i_eq rfl (by decide)).mpr h)
      refine lv_iconst (v := 0) hx hb dX10_mayBecome_116 (by decide) ?_
      exact rz_z hx hb hr hlk (by decide) (b_f (by omega)) dX10_mayBecome_117
    · have j23 : n.toInt = 0 := (i_eq rfl (by decide)).mp c21
      refine lv_iload_n hx hb dX10_mayBecome_101 rfl (lv_at hl 3 rfl) ?_
      refine lv_if_lt (tgt := 116) hx hb dX10_mayBecome_102 (by decide) (fun c24 => ?_) (fun c24 => ?_)
      · have j25 : v.toInt < 0 := (i_lt rfl (by decide)).mp c24
        refine lv_iconst (v := 0) hx hb dX10_mayBecome_116 (by decide) ?_
        exact rz_z hx hb hr hlk (by decide) (b_f (by omega)) dX10_mayBecome_117
      · have j26 : ¬ (v.toInt < 0) := fun h => c24 ((i_lt rfl (by decide)).mpr h)
        refine lv_iload_n hx hb dX10_mayBecome_105 rfl (lv_at hl 3 rfl) ?_
        refine lv_sipush (v := 128) hx hb dX10_mayBecome_106 (by decide) ?_
        refine lv_icmp_ge (tgt := 116) hx hb dX10_mayBecome_109 (by decide) (fun c27 => ?_) (fun c27 => ?_)
        · have j28 : 128 ≤ v.toInt := (i_le (by decide) rfl).mp c27
          refine lv_iconst (v := 0) hx hb dX10_mayBecome_116 (by decide) ?_
          exact rz_z hx hb hr hlk (by decide) (b_f (by omega)) dX10_mayBecome_117
        · have j29 : ¬ (128 ≤ v.toInt) := fun h => c27 ((i_le (by decide) rfl).mpr h)
          refine lv_iconst (v := 1) hx hb dX10_mayBecome_112 (by decide) ?_
          refine lv_goto (tgt := 117) hx hb dX10_mayBecome_113 (by decide) ?_
          exact rz_z hx hb hr hlk (by decide) (b_t (by omega)) dX10_mayBecome_117
  have j30 : ¬ (k.toInt = 3) := fun h => c19 ((i_eq rfl (by decide)).mpr h)
  refine lv_tableOut (tgt := 118) hx hb dX10_mayBecome_1 (by omega) (by decide) ?_
  refine lv_iconst (v := 0) hx hb dX10_mayBecome_118 (by decide) ?_
  exact rz_z hx hb hr hlk (by decide) (b_f (by omega)) dX10_mayBecome_119
set_option maxHeartbeats 4000000 in
set_option maxRecDepth 100000 in
theorem cW_mayB2 (l : Launch) (J : va_J9) (w : Nat) (t : Nat) (we : Nat) (jo : Nat) (la : Nat) (v : Int32) : RC l J yX10_mayBecome cX10_mayBecome 4 (some .boolean) ({ frames := 0, cells := 0, slots := 0, locals := 0 }) [.ref w, .int 0, .int 2, .int v] [(w, .inr (10, [.ref t, .ref we, .ref jo, .ref la, .int 0, .int 0, .int 0, .int 0, .int 1, .int 0, .int 0]))] (vp_Si (fun r => r = B01 (1 ≤ v.toInt ∧ v.toInt ≤ 2))) := by
  refine rc_of (by decide) (Nat.le_of_ble_eq_true rfl) ?_
  intro p e s m below meth c ls hE hl hP hK
  obtain ⟨hx, hb, hr, hml, hown, hts, hlk, hin⟩ := hE
  have hown : s.vm.findClass RX10 = some m.cls := hown
  have hl : lv_has ls 4 [(0, .ref w), (1, .int 0), (2, .int 2), (3, .int v)] := hl
  have rg_v := i_rng v
  refine lv_iload_n hx hb dX10_mayBecome_0 rfl (lv_at hl 2 rfl) ?_
  refine lv_tableIn (tgt := 77) (off := 76) hx hb dX10_mayBecome_1 (by decide) (by decide) (by decide) (by decide) ?_
  refine lv_iload_n hx hb dX10_mayBecome_77 rfl (lv_at hl 1 rfl) ?_
  refine lv_if_ne (tgt := 95) hx hb dX10_mayBecome_78 (by decide) (fun c => absurd c (by decide)) (fun _ => ?_)
  refine lv_iload_n hx hb dX10_mayBecome_81 rfl (lv_at hl 3 rfl) ?_
  refine lv_iconst (v := 1) hx hb dX10_mayBecome_82 (by decide) ?_
  refine lv_icmp_eq (tgt := 91) hx hb dX10_mayBecome_83 (by decide) (fun c1 => ?_) (fun c1 => ?_)
  · have j2 : v.toInt = 1 := (i_eq rfl (by decide)).mp c1
    refine lv_iconst (v := 1) hx hb dX10_mayBecome_91 (by decide) ?_
    refine lv_goto (tgt := 96) hx hb dX10_mayBecome_92 (by decide) ?_
    exact rz_z hx hb hr hlk (by decide) (b_t (by omega)) dX10_mayBecome_96
  · have j3 : ¬ (v.toInt = 1) := fun h => c1 ((i_eq rfl (by decide)).mpr h)
    refine lv_iload_n hx hb dX10_mayBecome_86 rfl (lv_at hl 3 rfl) ?_
    refine lv_iconst (v := 2) hx hb dX10_mayBecome_87 (by decide) ?_
    refine lv_icmp_ne (tgt := 95) hx hb dX10_mayBecome_88 (by decide) (fun c4 => ?_) (fun c4 => ?_)
    · have j5 : ¬ (v.toInt = 2) := fun h => c4 ((i_eq rfl (by decide)).mpr h)
      refine lv_iconst (v := 0) hx hb dX10_mayBecome_95 (by decide) ?_
      exact rz_z hx hb hr hlk (by decide) (b_f (by omega)) dX10_mayBecome_96
    · have j6 : v.toInt = 2 := (i_eq rfl (by decide)).mp c4
      refine lv_iconst (v := 1) hx hb dX10_mayBecome_91 (by decide) ?_
      refine lv_goto (tgt := 96) hx hb dX10_mayBecome_92 (by decide) ?_
      exact rz_z hx hb hr hlk (by decide) (b_t (by omega)) dX10_mayBecome_96
set_option maxHeartbeats 4000000 in
set_option maxRecDepth 100000 in
theorem cW_mayB3 (l : Launch) (J : va_J9) (w : Nat) (t : Nat) (we : Nat) (jo : Nat) (la : Nat) (v : Int32) : RC l J yX10_mayBecome cX10_mayBecome 4 (some .boolean) ({ frames := 0, cells := 0, slots := 0, locals := 0 }) [.ref w, .int 0, .int 3, .int v] [(w, .inr (10, [.ref t, .ref we, .ref jo, .ref la, .int 0, .int 0, .int 0, .int 0, .int 1, .int 0, .int 0]))] (vp_Si (fun r => r = B01 (0 ≤ v.toInt ∧ v.toInt ≤ 127))) := by
  refine rc_of (by decide) (Nat.le_of_ble_eq_true rfl) ?_
  intro p e s m below meth c ls hE hl hP hK
  obtain ⟨hx, hb, hr, hml, hown, hts, hlk, hin⟩ := hE
  have hown : s.vm.findClass RX10 = some m.cls := hown
  have hl : lv_has ls 4 [(0, .ref w), (1, .int 0), (2, .int 3), (3, .int v)] := hl
  have rg_v := i_rng v
  refine lv_iload_n hx hb dX10_mayBecome_0 rfl (lv_at hl 2 rfl) ?_
  refine lv_tableIn (tgt := 97) (off := 96) hx hb dX10_mayBecome_1 (by decide) (by decide) (by decide) (by decide) ?_
  refine lv_iload_n hx hb dX10_mayBecome_97 rfl (lv_at hl 1 rfl) ?_
  refine lv_if_ne (tgt := 116) hx hb dX10_mayBecome_98 (by decide) (fun c => absurd c (by decide)) (fun _ => ?_)
  refine lv_iload_n hx hb dX10_mayBecome_101 rfl (lv_at hl 3 rfl) ?_
  refine lv_if_lt (tgt := 116) hx hb dX10_mayBecome_102 (by decide) (fun c1 => ?_) (fun c1 => ?_)
  · have j2 : v.toInt < 0 := (i_lt rfl (by decide)).mp c1
    refine lv_iconst (v := 0) hx hb dX10_mayBecome_116 (by decide) ?_
    exact rz_z hx hb hr hlk (by decide) (b_f (by omega)) dX10_mayBecome_117
  · have j3 : ¬ (v.toInt < 0) := fun h => c1 ((i_lt rfl (by decide)).mpr h)
    refine lv_iload_n hx hb dX10_mayBecome_105 rfl (lv_at hl 3 rfl) ?_
    refine lv_sipush (v := 128) hx hb dX10_mayBecome_106 (by decide) ?_
    refine lv_icmp_ge (tgt := 116) hx hb dX10_mayBecome_109 (by decide) (fun c4 => ?_) (fun c4 => ?_)
    · have j5 : 128 ≤ v.toInt := (i_le (by decide) rfl).mp c4
      refine lv_iconst (v := 0) hx hb dX10_mayBecome_116 (by decide) ?_
      exact rz_z hx hb hr hlk (by decide) (b_f (by omega)) dX10_mayBecome_117
    · have j6 : ¬ (128 ≤ v.toInt) := fun h => c4 ((i_le (by decide) rfl).mpr h)
      refine lv_iconst (v := 1) hx hb dX10_mayBecome_112 (by decide) ?_
      refine lv_goto (tgt := 117) hx hb dX10_mayBecome_113 (by decide) ?_
      exact rz_z hx hb hr hlk (by decide) (b_t (by omega)) dX10_mayBecome_117
theorem dX10_told_0 : decode cX10_told 0 = .ok (.iload_n 2, 1) := by decide +kernel
theorem dX10_told_1 : decode cX10_told 1 = .ok (.tableswitch 72 0 2 #[27, 46, 67], 27) := by decide +kernel
theorem dX10_told_68 : decode cX10_told 68 = .ok (.aload_n 0, 1) := by decide +kernel
theorem q_184 : Cond.fieldLink RX10 21 RX10 "lookers" "I" ∈ lw_g := mem_q 184 (by decide +kernel) rfl
theorem dX10_told_69 : decode cX10_told 69 = .ok (.getfield 21, 3) := by decide +kernel
theorem dX10_told_72 : decode cX10_told 72 = .ok (.ireturn, 1) := by decide +kernel
set_option maxHeartbeats 4000000 in
set_option maxRecDepth 100000 in
theorem cW_told2 (l : Launch) (J : va_J9) (w : Nat) (t : Nat) (we : Nat) (jo : Nat) (la : Nat) (n : Int32) : RC l J yX10_told cX10_told 3 (some .int) ({ frames := 0, cells := 0, slots := 0, locals := 0 }) [.ref w, .int n, .int 2] [(w, .inr (10, [.ref t, .ref we, .ref jo, .ref la, .int 0, .int 0, .int 0, .int 0, .int 1, .int 0, .int 0]))] (vp_Si (fun r => r = 1)) := by
  refine rc_of (by decide) (Nat.le_of_ble_eq_true rfl) ?_
  intro p e s m below meth c ls hE hl hP hK
  obtain ⟨hx, hb, hr, hml, hown, hts, hlk, hin⟩ := hE
  have hown : s.vm.findClass RX10 = some m.cls := hown
  have hl : lv_has ls 3 [(0, .ref w), (1, .int n), (2, .int 2)] := hl
  have rg_n := i_rng n
  refine lv_iload_n hx hb dX10_told_0 rfl (lv_at hl 2 rfl) ?_
  refine lv_tableIn (tgt := 68) (off := 67) hx hb dX10_told_1 (by decide) (by decide) (by decide) (by decide) ?_
  refine lv_aload_n hx hb dX10_told_68 rfl (lv_at hl 0 rfl) ?_
  refine va_get (D := J.1) (ci := 10) (v := .int 1) (C := RX10) (T := TX10) (N := 11) hx hb hts inX10 hown hK.1 hP 0 rfl rfl 8 (by decide) (hts _ q_184) (fun _ h9 => h9) rfl dX10_told_69 ?_
  exact rz_i hx hb hr hlk (by decide) dX10_told_72
theorem dX10_told_73 : decode cX10_told 73 = .ok (.aload_n 0, 1) := by decide +kernel
theorem dX10_told_74 : decode cX10_told 74 = .ok (.getfield 77, 3) := by decide +kernel
theorem dX10_told_77 : decode cX10_told 77 = .ok (.ireturn, 1) := by decide +kernel
set_option maxHeartbeats 4000000 in
set_option maxRecDepth 100000 in
theorem cW_told3 (l : Launch) (J : va_J9) (w : Nat) (t : Nat) (we : Nat) (jo : Nat) (la : Nat) (n : Int32) : RC l J yX10_told cX10_told 3 (some .int) ({ frames := 0, cells := 0, slots := 0, locals := 0 }) [.ref w, .int n, .int 3] [(w, .inr (10, [.ref t, .ref we, .ref jo, .ref la, .int 0, .int 0, .int 0, .int 0, .int 1, .int 0, .int 0]))] (vp_Si (fun r => r = 0)) := by
  refine rc_of (by decide) (Nat.le_of_ble_eq_true rfl) ?_
  intro p e s m below meth c ls hE hl hP hK
  obtain ⟨hx, hb, hr, hml, hown, hts, hlk, hin⟩ := hE
  have hown : s.vm.findClass RX10 = some m.cls := hown
  have hl : lv_has ls 3 [(0, .ref w), (1, .int n), (2, .int 3)] := hl
  have rg_n := i_rng n
  refine lv_iload_n hx hb dX10_told_0 rfl (lv_at hl 2 rfl) ?_
  refine lv_tableOut (tgt := 73) hx hb dX10_told_1 (by decide) (by decide) ?_
  refine lv_aload_n hx hb dX10_told_73 rfl (lv_at hl 0 rfl) ?_
  refine va_get (D := J.1) (ci := 10) (v := .int 0) (C := RX10) (T := TX10) (N := 11) hx hb hts inX10 hown hK.1 hP 0 rfl rfl 9 (by decide) (hts _ q_190) (fun _ h9 => h9) rfl dX10_told_74 ?_
  exact rz_i hx hb hr hlk (by decide) dX10_told_77
theorem dX10_settle_0 : decode cX10_settle 0 = .ok (.aload_n 0, 1) := by decide +kernel
theorem q_176 : Cond.fieldLink RX10 29 RX10 "lawfulIsOld" "Z" ∈ lw_g := mem_q 176 (by decide +kernel) rfl
theorem dX10_settle_1 : decode cX10_settle 1 = .ok (.getfield 29, 3) := by decide +kernel
theorem dX10_settle_4 : decode cX10_settle 4 = .ok (.ifCond .ne 4, 3) := by decide +kernel
theorem dX10_settle_7 : decode cX10_settle 7 = .ok (.return_, 1) := by decide +kernel
set_option maxHeartbeats 4000000 in
set_option maxRecDepth 100000 in
theorem cW_settle0 (l : Launch) (J : va_J9) (w : Nat) (t : Nat) (we : Nat) (jo : Nat) (la : Nat) (f5 : Int32) (f6 : Int32) (f7 : Int32) (f8 : Int32) (f9 : Int32) (f10 : Int32) : RC l J yX10_settle cX10_settle 4 none ({ frames := 0, cells := 0, slots := 0, locals := 0 }) [.ref w] [(w, .inr (10, [.ref t, .ref we, .ref jo, .ref la, .int 0, .int f5, .int f6, .int f7, .int f8, .int f9, .int f10]))] (va_Sv (fun _ => True)) := by
  refine rc_of (by decide) (Nat.le_of_ble_eq_true rfl) ?_
  intro p e s m below meth c ls hE hl hP hK
  obtain ⟨hx, hb, hr, hml, hown, hts, hlk, hin⟩ := hE
  have hown : s.vm.findClass RX10 = some m.cls := hown
  have hl : lv_has ls 4 [(0, .ref w)] := hl
  refine lv_aload_n hx hb dX10_settle_0 rfl (lv_at hl 0 rfl) ?_
  refine va_get (D := J.1) (ci := 10) (v := .int 0) (C := RX10) (T := TX10) (N := 11) hx hb hts inX10 hown hK.1 hP 0 rfl rfl 4 (by decide) (hts _ q_176) (fun _ h9 => h9) rfl dX10_settle_1 ?_
  refine lv_if_ne (tgt := 8) hx hb dX10_settle_4 (by decide) (fun c => absurd c (by decide)) (fun _ => ?_)
  exact rz_v hx hb hr hlk dX10_settle_7
theorem dX10_changed_0 : decode cX10_changed 0 = .ok (.aload_n 0, 1) := by decide +kernel
theorem dX10_changed_1 : decode cX10_changed 1 = .ok (.iconst 1, 1) := by decide +kernel
theorem dX10_changed_2 : decode cX10_changed 2 = .ok (.putfield 29, 3) := by decide +kernel
theorem dX10_changed_5 : decode cX10_changed 5 = .ok (.aload_n 0, 1) := by decide +kernel
theorem dX10_changed_6 : decode cX10_changed 6 = .ok (.dup, 1) := by decide +kernel
theorem q_191 : Cond.fieldLink RX10 33 RX10 "version" "I" ∈ lw_g := mem_q 191 (by decide +kernel) rfl
theorem dX10_changed_7 : decode cX10_changed 7 = .ok (.getfield 33, 3) := by decide +kernel
theorem dX10_changed_10 : decode cX10_changed 10 = .ok (.iconst 1, 1) := by decide +kernel
theorem dX10_changed_11 : decode cX10_changed 11 = .ok (.iadd, 1) := by decide +kernel
theorem dX10_changed_12 : decode cX10_changed 12 = .ok (.putfield 33, 3) := by decide +kernel
theorem dX10_changed_15 : decode cX10_changed 15 = .ok (.return_, 1) := by decide +kernel
set_option maxHeartbeats 4000000 in
set_option maxRecDepth 100000 in
theorem cW_changed (l : Launch) (J : va_J9) (sz : Nat) (w : Nat) (t : Nat) (we : Nat) (jo : Nat) (la : Nat) (f6 : Int32) : WC l J yX10_changed cX10_changed 1 none ({ frames := 0, cells := 0, slots := 0, locals := 0 }) [.ref w] [(w, .inr (10, [.ref t, .ref we, .ref jo, .ref la, .int 0, .int 0, .int f6, .int 0, .int 1, .int 0, .int 0]))] sz (Qv J (fun (u : Unit) => True) (fun (_ : Unit) => [(w, .inr (10, [.ref t, .ref we, .ref jo, .ref la, .int 1, .int 0, .int f6, .int 0, .int 1, .int 0, .int 1]))])) 0 0 := by
  refine wc_of (by decide) (Nat.le_of_ble_eq_true rfl) ?_
  intro p e s m below meth c ls A hE hl hP hK hD hS hA
  obtain ⟨hx, hb, hr, hml, hown, hts, hlk, hin⟩ := hE
  have hown : s.vm.findClass RX10 = some m.cls := hown
  have hl : lv_has ls 1 [(0, .ref w)] := hl
  refine lv_aload_n hx hb dX10_changed_0 rfl (lv_at hl 0 rfl) ?_
  refine lv_iconst (v := 1) hx hb dX10_changed_1 (by decide) ?_
  refine va_put (D := J.1) (ci := 10) (v := .int 1) (ty := (.boolean)) (C := RX10) (T := TX10) (N := 11) hx hb hts inX10 tyX10 tyX10_ok nmX10 hown hK.1 hP hD hS 0 rfl rfl 4 (by decide) (hts _ q_176) (fun _ h9 => h9) rfl (by decide +kernel) rfl rfl (Nat.le_of_ble_eq_true rfl) dX10_changed_2 (fun H locs hP hD hS => ?_)
  have hP : va_P J.1 cls [(w, .inr (10, [.ref t, .ref we, .ref jo, .ref la, .int 1, .int 0, .int f6, .int 0, .int 1, .int 0, .int 0]))] H := hP
  have hD : va_D A [(w, .inr (10, [.ref t, .ref we, .ref jo, .ref la, .int 1, .int 0, .int f6, .int 0, .int 1, .int 0, .int 0]))] := hD
  refine lv_aload_n hx hb dX10_changed_5 rfl (lv_at hl 0 rfl) ?_
  refine lv_dup hx hb dX10_changed_6 rfl ?_
  refine va_get (D := J.1) (ci := 10) (v := .int 0) (C := RX10) (T := TX10) (N := 11) hx hb hts inX10 hown hK.1 hP 0 rfl rfl 10 (by decide) (hts _ q_191) (fun _ h9 => h9) rfl dX10_changed_7 ?_
  refine lv_iconst (v := 1) hx hb dX10_changed_10 (by decide) ?_
  refine lv_iadd hx hb dX10_changed_11 ?_
  refine top_i (y := 1) (by decide) ?_
  refine va_put (D := J.1) (ci := 10) (v := .int 1) (ty := (.int)) (C := RX10) (T := TX10) (N := 11) hx hb hts inX10 tyX10 tyX10_ok nmX10 hown hK.1 hP hD hS 0 rfl rfl 10 (by decide) (hts _ q_191) (fun _ h9 => h9) rfl (by decide +kernel) rfl rfl (Nat.le_of_ble_eq_true rfl) dX10_changed_12 (fun H locs hP hD hS => ?_)
  have hP : va_P J.1 cls [(w, .inr (10, [.ref t, .ref we, .ref jo, .ref la, .int 1, .int 0, .int f6, .int 0, .int 1, .int 0, .int 1]))] H := hP
  have hD : va_D A [(w, .inr (10, [.ref t, .ref we, .ref jo, .ref la, .int 1, .int 0, .int f6, .int 0, .int 1, .int 0, .int 1]))] := hD
  exact wz_v () hx hb hr hlk trivial hP hD hS dX10_changed_15
theorem dX10_addHole_0 : decode cX10_addHole 0 = .ok (.aload_n 0, 1) := by decide +kernel
theorem dX10_addHole_1 : decode cX10_addHole 1 = .ok (.getfield 36, 3) := by decide +kernel
theorem dX10_addHole_4 : decode cX10_addHole 4 = .ok (.bipush 10, 2) := by decide +kernel
theorem dX10_addHole_6 : decode cX10_addHole 6 = .ok (.if_icmp .lt 6, 3) := by decide +kernel
theorem dX10_addHole_12 : decode cX10_addHole 12 = .ok (.aload_n 0, 1) := by decide +kernel
theorem q_173 : Cond.fieldLink RX10 9 RX10 "weights" "[I" ∈ lw_g := mem_q 173 (by decide +kernel) rfl
theorem dX10_addHole_13 : decode cX10_addHole 13 = .ok (.getfield 9, 3) := by decide +kernel
theorem dX10_addHole_16 : decode cX10_addHole 16 = .ok (.aload_n 0, 1) := by decide +kernel
theorem dX10_addHole_17 : decode cX10_addHole 17 = .ok (.dup, 1) := by decide +kernel
theorem dX10_addHole_18 : decode cX10_addHole 18 = .ok (.getfield 36, 3) := by decide +kernel
theorem dX10_addHole_21 : decode cX10_addHole 21 = .ok (.dup_x1, 1) := by decide +kernel
theorem dX10_addHole_22 : decode cX10_addHole 22 = .ok (.iconst 1, 1) := by decide +kernel
theorem dX10_addHole_23 : decode cX10_addHole 23 = .ok (.iadd, 1) := by decide +kernel
theorem dX10_addHole_24 : decode cX10_addHole 24 = .ok (.putfield 36, 3) := by decide +kernel
theorem dX10_addHole_27 : decode cX10_addHole 27 = .ok (.iload_n 1, 1) := by decide +kernel
theorem dX10_addHole_28 : decode cX10_addHole 28 = .ok (.iastore, 1) := by decide +kernel
theorem dX10_addHole_29 : decode cX10_addHole 29 = .ok (.aload_n 0, 1) := by decide +kernel
theorem q_512 : Cond.methodLink RX10 46 yX10_changed ∈ lw_g := mem_q 512 (by decide +kernel) rfl
theorem q_513 : Cond.instanceMethod yX10_changed ∈ lw_g := mem_q 513 (by decide +kernel) rfl
theorem q_514 : Cond.selects RX10 yX10_changed yX10_changed ∈ lw_g := mem_q 514 (by decide +kernel) rfl
theorem q_515 : Cond.code yX10_changed cX10_changed 1 none ∈ lw_g := mem_q 515 (by decide +kernel) rfl
theorem kV_RX10_46 : CV RX10 46 RX10 yX10_changed cX10_changed 1 none 0 := cv_of q_512 q_513 q_514 q_105 q_515 (by decide +kernel)
theorem dX10_addHole_30 : decode cX10_addHole 30 = .ok (.invokevirtual 46, 3) := by decide +kernel
theorem dX10_addHole_33 : decode cX10_addHole 33 = .ok (.aload_n 0, 1) := by decide +kernel
theorem dX10_addHole_34 : decode cX10_addHole 34 = .ok (.getfield 36, 3) := by decide +kernel
theorem dX10_addHole_37 : decode cX10_addHole 37 = .ok (.iconst 1, 1) := by decide +kernel
theorem dX10_addHole_38 : decode cX10_addHole 38 = .ok (.isub, 1) := by decide +kernel
theorem dX10_addHole_39 : decode cX10_addHole 39 = .ok (.ireturn, 1) := by decide +kernel
set_option maxHeartbeats 4000000 in
set_option maxRecDepth 100000 in
theorem cW_addHole (l : Launch) (J : va_J9) (sz : Nat) (w : Nat) (t : Nat) (we : Nat) (jo : Nat) (la : Nat) (n : Int32) : WC l J yX10_addHole cX10_addHole 2 (some .int) ({ frames := 1, cells := 0, slots := 0, locals := 20 }) [.ref w, .int n] [(w, .inr (10, [.ref t, .ref we, .ref jo, .ref la, .int 0, .int 0, .int 0, .int 0, .int 1, .int 0, .int 0])), (we, .inl (J.2.1, 10, .inl (fun _ => 0)))] sz (Qi J (fun (r : Int32) (_ : Unit) => r = 0) (fun (_ : Unit) => [(w, .inr (10, [.ref t, .ref we, .ref jo, .ref la, .int 1, .int 0, .int 1, .int 0, .int 1, .int 0, .int 1])), (we, .inl (J.2.1, 10, .inl (upd (fun _ => 0) (0 : Int32).toNatClampNeg n)))])) 0 0 := by
  refine wc_of (by decide) (Nat.le_of_ble_eq_true rfl) ?_
  intro p e s m below meth c ls A hE hl hP hK hD hS hA
  obtain ⟨hx, hb, hr, hml, hown, hts, hlk, hin⟩ := hE
  have hown : s.vm.findClass RX10 = some m.cls := hown
  have hl : lv_has ls 2 [(0, .ref w), (1, .int n)] := hl
  have rg_n := i_rng n
  refine lv_aload_n hx hb dX10_addHole_0 rfl (lv_at hl 0 rfl) ?_
  refine va_get (D := J.1) (ci := 10) (v := .int 0) (C := RX10) (T := TX10) (N := 11) hx hb hts inX10 hown hK.1 hP 0 rfl rfl 6 (by decide) (hts _ q_178) (fun _ h9 => h9) rfl dX10_addHole_1 ?_
  refine lv_bipush (v := 10) hx hb dX10_addHole_4 (by decide) ?_
  refine lv_icmp_lt (tgt := 12) hx hb dX10_addHole_6 (by decide) (fun _ => ?_) (fun c => absurd c (by decide))
  refine lv_aload_n hx hb dX10_addHole_12 rfl (lv_at hl 0 rfl) ?_
  refine va_get (D := J.1) (ci := 10) (v := .ref we) (C := RX10) (T := TX10) (N := 11) hx hb hts inX10 hown hK.1 hP 0 rfl rfl 1 (by decide) (hts _ q_173) (fun _ h9 => h9) rfl dX10_addHole_13 ?_
  refine lv_aload_n hx hb dX10_addHole_16 rfl (lv_at hl 0 rfl) ?_
  refine lv_dup hx hb dX10_addHole_17 rfl ?_
  refine va_get (D := J.1) (ci := 10) (v := .int 0) (C := RX10) (T := TX10) (N := 11) hx hb hts inX10 hown hK.1 hP 0 rfl rfl 6 (by decide) (hts _ q_178) (fun _ h9 => h9) rfl dX10_addHole_18 ?_
  refine lv_dup_x1 hx hb dX10_addHole_21 rfl rfl ?_
  refine lv_iconst (v := 1) hx hb dX10_addHole_22 (by decide) ?_
  refine lv_iadd hx hb dX10_addHole_23 ?_
  refine top_i (y := 1) (by decide) ?_
  refine va_put (D := J.1) (ci := 10) (v := .int 1) (ty := (.int)) (C := RX10) (T := TX10) (N := 11) hx hb hts inX10 tyX10 tyX10_ok nmX10 hown hK.1 hP hD hS 0 rfl rfl 6 (by decide) (hts _ q_178) (fun _ h9 => h9) rfl (by decide +kernel) rfl rfl (Nat.le_of_ble_eq_true rfl) dX10_addHole_24 (fun H locs hP hD hS => ?_)
  have hP : va_P J.1 cls [(w, .inr (10, [.ref t, .ref we, .ref jo, .ref la, .int 0, .int 0, .int 1, .int 0, .int 1, .int 0, .int 0])), (we, .inl (J.2.1, 10, .inl (fun _ => 0)))] H := hP
  have hD : va_D A [(w, .inr (10, [.ref t, .ref we, .ref jo, .ref la, .int 0, .int 0, .int 1, .int 0, .int 1, .int 0, .int 0])), (we, .inl (J.2.1, 10, .inl (fun _ => 0)))] := hD
  refine lv_iload_n hx hb dX10_addHole_27 rfl (lv_at hl 1 rfl) ?_
  have h1 : vp_in 0 10 := (i_in (a := 0) (by decide) (by omega) (by omega))
  refine va_iast hx hb hK.1 hP hD hS 1 0 rfl rfl h1 dX10_addHole_28 (fun H locs hP hD hS => ?_)
  have hP : va_P J.1 cls [(w, .inr (10, [.ref t, .ref we, .ref jo, .ref la, .int 0, .int 0, .int 1, .int 0, .int 1, .int 0, .int 0])), (we, .inl (J.2.1, 10, .inl (upd (fun _ => 0) (0 : Int32).toNatClampNeg n)))] H := hP
  have hD : va_D A [(w, .inr (10, [.ref t, .ref we, .ref jo, .ref la, .int 0, .int 0, .int 1, .int 0, .int 1, .int 0, .int 0])), (we, .inl (J.2.1, 10, .inl (upd (fun _ => 0) (0 : Int32).toNatClampNeg n)))] := hD
  refine lv_aload_n hx hb dX10_addHole_29 rfl (lv_at hl 0 rfl) ?_
  refine gw_v (wc := [(w, .inr (10, [.ref t, .ref we, .ref jo, .ref la, .int 0, .int 0, .int 1, .int 0, .int 1, .int 0, .int 0]))]) (wr := [(we, .inl (J.2.1, 10, .inl (upd (fun _ => 0) (0 : Int32).toNatClampNeg n)))]) hP hD hS hA [0] [1] rfl rfl (by decide) (by decide) (wn_V (As := []) (rest := []) hx hb hml hown hts hK (cW_changed l J _ w t we jo la 1) kV_RX10_46 (hP.sub (ws' := [(w, .inr (10, [.ref t, .ref we, .ref jo, .ref la, .int 0, .int 0, .int 1, .int 0, .int 1, .int 0, .int 0]))]) [0] rfl) ((hD.sub (ws' := [(w, .inr (10, [.ref t, .ref we, .ref jo, .ref la, .int 0, .int 0, .int 1, .int 0, .int 1, .int 0, .int 0]))]) [0] (by decide) rfl).weaken (fun _ _ _ _ => trivial)) rfl rfl rfl ⟨Nat.le_of_ble_eq_true rfl, Nat.le_of_ble_eq_true rfl⟩ rfl rfl rfl hl.1 rfl (Nat.le_of_ble_eq_true rfl) ⟨Nat.le_of_ble_eq_true rfl, Nat.le_of_ble_eq_true rfl⟩ dX10_addHole_30) (fun u2 H locs hw hP hD hS => ?_)
  have hP : va_P J.1 cls [(we, .inl (J.2.1, 10, .inl (upd (fun _ => 0) (0 : Int32).toNatClampNeg n))), (w, .inr (10, [.ref t, .ref we, .ref jo, .ref la, .int 1, .int 0, .int 1, .int 0, .int 1, .int 0, .int 1]))] H := hP
  have hD : va_D A [(we, .inl (J.2.1, 10, .inl (upd (fun _ => 0) (0 : Int32).toNatClampNeg n))), (w, .inr (10, [.ref t, .ref we, .ref jo, .ref la, .int 1, .int 0, .int 1, .int 0, .int 1, .int 0, .int 1]))] := hD
  refine W.widen (k := 0) (n := 0) (Nat.le_of_ble_eq_true rfl) (Nat.le_of_ble_eq_true rfl) ?_
  refine lv_aload_n hx hb dX10_addHole_33 rfl (lv_at hl 0 rfl) ?_
  refine va_get (D := J.1) (ci := 10) (v := .int 1) (C := RX10) (T := TX10) (N := 11) hx hb hts inX10 hown hK.1 hP 1 rfl rfl 6 (by decide) (hts _ q_178) (fun _ h9 => h9) rfl dX10_addHole_34 ?_
  refine lv_iconst (v := 1) hx hb dX10_addHole_37 (by decide) ?_
  refine lv_isub hx hb dX10_addHole_38 ?_
  refine top_i (y := 0) (by decide) ?_
  exact wz_i () hx hb hr hlk (by decide) (hP.sub (ws' := [(w, .inr (10, [.ref t, .ref we, .ref jo, .ref la, .int 1, .int 0, .int 1, .int 0, .int 1, .int 0, .int 1])), (we, .inl (J.2.1, 10, .inl (upd (fun _ => 0) (0 : Int32).toNatClampNeg n)))]) [1, 0] rfl) (hD.sub (ws' := [(w, .inr (10, [.ref t, .ref we, .ref jo, .ref la, .int 1, .int 0, .int 1, .int 0, .int 1, .int 0, .int 1])), (we, .inl (J.2.1, 10, .inl (upd (fun _ => 0) (0 : Int32).toNatClampNeg n)))]) [1, 0] (by decide) rfl) hS dX10_addHole_39
