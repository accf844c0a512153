theorem dX11_hole_0 : decode cX11_hole 0 = .ok (.aload_n 0, 1) := by decide +kernel
theorem dX11_hole_1 : decode cX11_hole 1 = .ok (.getfield 21, 3) := by decide +kernel
theorem dX11_hole_4 : decode cX11_hole 4 = .ok (.iload_n 1, 1) := by decide +kernel
theorem q_504 : Cond.methodLink RX11 95 yX10_isWeight ∈ lw_g := mem_q 504 (by decide +kernel) rfl
theorem q_505 : Cond.instanceMethod yX10_isWeight ∈ lw_g := mem_q 505 (by decide +kernel) rfl
theorem q_506 : Cond.selects RX10 yX10_isWeight yX10_isWeight ∈ lw_g := mem_q 506 (by decide +kernel) rfl
theorem q_507 : Cond.code yX10_isWeight cX10_isWeight 2 (some .boolean) ∈ lw_g := mem_q 507 (by decide +kernel) rfl
theorem kV_RX11_95 : CV RX11 95 RX10 yX10_isWeight cX10_isWeight 2 (some .boolean) 1 := cv_of q_504 q_505 q_506 q_105 q_507 (by decide +kernel)
theorem dX11_hole_5 : decode cX11_hole 5 = .ok (.invokevirtual 95, 3) := by decide +kernel
theorem dX11_hole_8 : decode cX11_hole 8 = .ok (.ifCond .ne 5, 3) := by decide +kernel
theorem dX11_hole_13 : decode cX11_hole 13 = .ok (.aload_n 0, 1) := by decide +kernel
theorem dX11_hole_14 : decode cX11_hole 14 = .ok (.getfield 21, 3) := by decide +kernel
theorem dX11_hole_17 : decode cX11_hole 17 = .ok (.iload_n 1, 1) := by decide +kernel
theorem q_508 : Cond.methodLink RX11 99 yX10_addHole ∈ lw_g := mem_q 508 (by decide +kernel) rfl
theorem q_509 : Cond.instanceMethod yX10_addHole ∈ lw_g := mem_q 509 (by decide +kernel) rfl
theorem q_510 : Cond.selects RX10 yX10_addHole yX10_addHole ∈ lw_g := mem_q 510 (by decide +kernel) rfl
theorem q_511 : Cond.code yX10_addHole cX10_addHole 2 (some .int) ∈ lw_g := mem_q 511 (by decide +kernel) rfl
theorem kV_RX11_99 : CV RX11 99 RX10 yX10_addHole cX10_addHole 2 (some .int) 1 := cv_of q_508 q_509 q_510 q_105 q_511 (by decide +kernel)
theorem dX11_hole_18 : decode cX11_hole 18 = .ok (.invokevirtual 99, 3) := by decide +kernel
theorem dX11_hole_21 : decode cX11_hole 21 = .ok (.istore_n 2, 1) := by decide +kernel
theorem dX11_hole_22 : decode cX11_hole 22 = .ok (.aload_n 0, 1) := by decide +kernel
theorem dX11_hole_23 : decode cX11_hole 23 = .ok (.getfield 21, 3) := by decide +kernel
theorem q_516 : Cond.methodLink RX11 103 yX10_settle ∈ lw_g := mem_q 516 (by decide +kernel) rfl
theorem q_517 : Cond.instanceMethod yX10_settle ∈ lw_g := mem_q 517 (by decide +kernel) rfl
theorem q_518 : Cond.selects RX10 yX10_settle yX10_settle ∈ lw_g := mem_q 518 (by decide +kernel) rfl
theorem q_519 : Cond.code yX10_settle cX10_settle 4 none ∈ lw_g := mem_q 519 (by decide +kernel) rfl
theorem kV_RX11_103 : CV RX11 103 RX10 yX10_settle cX10_settle 4 none 0 := cv_of q_516 q_517 q_518 q_105 q_519 (by decide +kernel)
theorem dX11_hole_26 : decode cX11_hole 26 = .ok (.invokevirtual 103, 3) := by decide +kernel
theorem dX11_hole_29 : decode cX11_hole 29 = .ok (.iload_n 2, 1) := by decide +kernel
theorem dX11_hole_30 : decode cX11_hole 30 = .ok (.ireturn, 1) := by decide +kernel
theorem dX11_hole_11 : decode cX11_hole 11 = .ok (.iconst (-1), 1) := by decide +kernel
theorem dX11_hole_12 : decode cX11_hole 12 = .ok (.ireturn, 1) := by decide +kernel
set_option maxHeartbeats 4000000 in
set_option maxRecDepth 100000 in
theorem c_hole (l : Launch) (J : va_J9) (sz : Nat) (a : Nat → Nat) (x : Int32) : WC l J yX11_hole cX11_hole 3 (some .int) ({ frames := 2, cells := 0, slots := 0, locals := 51 }) [.ref (a 0), .int x] [((a 0), .inr (11, [.ref (a 1), .ref (a 6), .ref (a 10), .ref (a 15), .ref (a 17), .ref (a 22), .ref (a 23), .ref (a 30), .ref (a 31), .ref (a 34), .int 0, .ref (a 37), .ref (a 40)])), ((a 6), .inr (10, [.ref (a 1), .ref (a 7), .ref (a 8), .ref (a 9), .int 0, .int 0, .int 0, .int 0, .int 1, .int 0, .int 0])), ((a 7), .inl (J.2.1, 10, .inl (fun _ => 0))), ((a 8), .inl (J.2.1, 10, .inl (fun _ => 0))), ((a 9), .inl (J.2.1, 10, .inl (fun _ => 0))), ((a 1), .inr (7, [.ref (a 2), .int 0, .ref (a 3), .int 0, .int 0, .int 0, .ref (a 4), .int 0, .ref (a 5), .int 0]))] sz (Qi J (fun (r : Int32) (_ : Unit) => r = sp_hole (x.toInt)) (fun (_ : Unit) => [])) 0 0 := by
  refine wc_of (by decide) (Nat.le_of_ble_eq_true rfl) ?_
  intro p e s m below meth c ls A hE hl hP hK hD hS hA
  obtain ⟨hx, hb, hr, hml, hown, hts, hlk, hin⟩ := hE
  have hown : s.vm.findClass RX11 = some m.cls := hown
  have hl : lv_has ls 3 [(0, .ref (a 0)), (1, .int x)] := hl
  have rg_x := i_rng x
  refine lv_aload_n hx hb dX11_hole_0 rfl (lv_at hl 0 rfl) ?_
  refine va_get (D := J.1) (ci := 11) (v := .ref (a 6)) (C := RX11) (T := TX11) (N := 13) hx hb hts inX11 hown hK.1 hP 0 rfl rfl 1 (by decide) (hts _ q_461) (fun _ h9 => h9) rfl dX11_hole_1 ?_
  refine lv_iload_n hx hb dX11_hole_4 rfl (lv_at hl 1 rfl) ?_
  refine go_i (rn_V (As := [.int x]) (rest := []) hx hb hml hown hts hK (cW_isWeight l J (a 6) (a 1) (a 7) (a 8) (a 9) x) kV_RX11_95 (hP.sub (ws' := [((a 6), .inr (10, [.ref (a 1), .ref (a 7), .ref (a 8), .ref (a 9), .int 0, .int 0, .int 0, .int 0, .int 1, .int 0, .int 0]))]) [1] rfl) rfl rfl rfl ⟨Nat.le_of_ble_eq_true rfl, Nat.le_of_ble_eq_true rfl⟩ rfl rfl rfl hl.1 rfl (Nat.le_of_ble_eq_true rfl) ⟨Nat.le_of_ble_eq_true rfl, Nat.le_of_ble_eq_true rfl⟩ dX11_hole_5) ?_
  refine lv_if_ne (tgt := 13) hx hb dX11_hole_8 (by decide) (fun c1 => ?_) (fun c1 => ?_)
  · have j2 := b1 c1
    refine lv_aload_n hx hb dX11_hole_13 rfl (lv_at hl 0 rfl) ?_
    refine va_get (D := J.1) (ci := 11) (v := .ref (a 6)) (C := RX11) (T := TX11) (N := 13) hx hb hts inX11 hown hK.1 hP 0 rfl rfl 1 (by decide) (hts _ q_461) (fun _ h9 => h9) rfl dX11_hole_14 ?_
    refine lv_iload_n hx hb dX11_hole_17 rfl (lv_at hl 1 rfl) ?_
    refine gw_i (wc := [((a 6), .inr (10, [.ref (a 1), .ref (a 7), .ref (a 8), .ref (a 9), .int 0, .int 0, .int 0, .int 0, .int 1, .int 0, .int 0])), ((a 7), .inl (J.2.1, 10, .inl (fun _ => 0)))]) (wr := [((a 0), .inr (11, [.ref (a 1), .ref (a 6), .ref (a 10), .ref (a 15), .ref (a 17), .ref (a 22), .ref (a 23), .ref (a 30), .ref (a 31), .ref (a 34), .int 0, .ref (a 37), .ref (a 40)])), ((a 8), .inl (J.2.1, 10, .inl (fun _ => 0))), ((a 9), .inl (J.2.1, 10, .inl (fun _ => 0))), ((a 1), .inr (7, [.ref (a 2), .int 0, .ref (a 3), .int 0, .int 0, .int 0, .ref (a 4), .int 0, .ref (a 5), .int 0]))]) hP hD hS hA [1, 2] [0, 3, 4, 5] rfl rfl (by decide) (by decide) (wn_V (As := [.int x]) (rest := []) hx hb hml hown hts hK (cW_addHole l J _ (a 6) (a 1) (a 7) (a 8) (a 9) x) kV_RX11_99 (hP.sub (ws' := [((a 6), .inr (10, [.ref (a 1), .ref (a 7), .ref (a 8), .ref (a 9), .int 0, .int 0, .int 0, .int 0, .int 1, .int 0, .int 0])), ((a 7), .inl (J.2.1, 10, .inl (fun _ => 0)))]) [1, 2] rfl) ((hD.sub (ws' := [((a 6), .inr (10, [.ref (a 1), .ref (a 7), .ref (a 8), .ref (a 9), .int 0, .int 0, .int 0, .int 0, .int 1, .int 0, .int 0])), ((a 7), .inl (J.2.1, 10, .inl (fun _ => 0)))]) [1, 2] (by decide) rfl).weaken (fun _ _ _ _ => trivial)) rfl rfl rfl ⟨Nat.le_of_ble_eq_true rfl, Nat.le_of_ble_eq_true rfl⟩ rfl rfl rfl hl.1 rfl (Nat.le_of_ble_eq_true rfl) ⟨Nat.le_of_ble_eq_true rfl, Nat.le_of_ble_eq_true rfl⟩ dX11_hole_18) (fun r4 u3 H locs hw hP hD hS => ?_)
    subst hw
    have hP : va_P J.1 cls [((a 0), .inr (11, [.ref (a 1), .ref (a 6), .ref (a 10), .ref (a 15), .ref (a 17), .ref (a 22), .ref (a 23), .ref (a 30), .ref (a 31), .ref (a 34), .int 0, .ref (a 37), .ref (a 40)])), ((a 8), .inl (J.2.1, 10, .inl (fun _ => 0))), ((a 9), .inl (J.2.1, 10, .inl (fun _ => 0))), ((a 1), .inr (7, [.ref (a 2), .int 0, .ref (a 3), .int 0, .int 0, .int 0, .ref (a 4), .int 0, .ref (a 5), .int 0])), ((a 6), .inr (10, [.ref (a 1), .ref (a 7), .ref (a 8), .ref (a 9), .int 1, .int 0, .int 1, .int 0, .int 1, .int 0, .int 1])), ((a 7), .inl (J.2.1, 10, .inl (upd (fun _ => 0) (0 : Int32).toNatClampNeg x)))] H := hP
    have hD : va_D A [((a 0), .inr (11, [.ref (a 1), .ref (a 6), .ref (a 10), .ref (a 15), .ref (a 17), .ref (a 22), .ref (a 23), .ref (a 30), .ref (a 31), .ref (a 34), .int 0, .ref (a 37), .ref (a 40)])), ((a 8), .inl (J.2.1, 10, .inl (fun _ => 0))), ((a 9), .inl (J.2.1, 10, .inl (fun _ => 0))), ((a 1), .inr (7, [.ref (a 2), .int 0, .ref (a 3), .int 0, .int 0, .int 0, .ref (a 4), .int 0, .ref (a 5), .int 0])), ((a 6), .inr (10, [.ref (a 1), .ref (a 7), .ref (a 8), .ref (a 9), .int 1, .int 0, .int 1, .int 0, .int 1, .int 0, .int 1])), ((a 7), .inl (J.2.1, 10, .inl (upd (fun _ => 0) (0 : Int32).toNatClampNeg x)))] := hD
    refine W.widen (k := 0) (n := 0) (Nat.le_of_ble_eq_true rfl) (Nat.le_of_ble_eq_true rfl) ?_
    refine lv_istore_n (lv' := [(2, .int 0), (0, .ref (a 0)), (1, .int x)]) hx hb dX11_hole_21 rfl hl (by decide) rfl (fun ls hl => ?_)
    refine lv_aload_n hx hb dX11_hole_22 rfl (lv_at hl 1 rfl) ?_
    refine va_get (D := J.1) (ci := 11) (v := .ref (a 6)) (C := RX11) (T := TX11) (N := 13) hx hb hts inX11 hown hK.1 hP 0 rfl rfl 1 (by decide) (hts _ q_461) (fun _ h9 => h9) rfl dX11_hole_23 ?_
    refine gw_v (wc := [((a 6), .inr (10, [.ref (a 1), .ref (a 7), .ref (a 8), .ref (a 9), .int 1, .int 0, .int 1, .int 0, .int 1, .int 0, .int 1])), ((a 1), .inr (7, [.ref (a 2), .int 0, .ref (a 3), .int 0, .int 0, .int 0, .ref (a 4), .int 0, .ref (a 5), .int 0])), ((a 7), .inl (J.2.1, 10, .inl (upd (fun _ => 0) (0 : Int32).toNatClampNeg x))), ((a 8), .inl (J.2.1, 10, .inl (fun _ => 0))), ((a 9), .inl (J.2.1, 10, .inl (fun _ => 0)))]) (wr := [((a 0), .inr (11, [.ref (a 1), .ref (a 6), .ref (a 10), .ref (a 15), .ref (a 17), .ref (a 22), .ref (a 23), .ref (a 30), .ref (a 31), .ref (a 34), .int 0, .ref (a 37), .ref (a 40)]))]) hP hD hS hA [4, 3, 5, 1, 2] [0] rfl rfl (by decide) (by decide) (wn_V (As := []) (rest := []) hx hb hml hown hts hK (cW_settle1 l J _ (a 6) (a 1) (a 7) (a 8) (a 9) (a 2) (a 3) (a 4) (a 5) x) kV_RX11_103 (hP.sub (ws' := [((a 6), .inr (10, [.ref (a 1), .ref (a 7), .ref (a 8), .ref (a 9), .int 1, .int 0, .int 1, .int 0, .int 1, .int 0, .int 1])), ((a 1), .inr (7, [.ref (a 2), .int 0, .ref (a 3), .int 0, .int 0, .int 0, .ref (a 4), .int 0, .ref (a 5), .int 0])), ((a 7), .inl (J.2.1, 10, .inl (upd (fun _ => 0) (0 : Int32).toNatClampNeg x))), ((a 8), .inl (J.2.1, 10, .inl (fun _ => 0))), ((a 9), .inl (J.2.1, 10, .inl (fun _ => 0)))]) [4, 3, 5, 1, 2] rfl) ((hD.sub (ws' := [((a 6), .inr (10, [.ref (a 1), .ref (a 7), .ref (a 8), .ref (a 9), .int 1, .int 0, .int 1, .int 0, .int 1, .int 0, .int 1])), ((a 1), .inr (7, [.ref (a 2), .int 0, .ref (a 3), .int 0, .int 0, .int 0, .ref (a 4), .int 0, .ref (a 5), .int 0])), ((a 7), .inl (J.2.1, 10, .inl (upd (fun _ => 0) (0 : Int32).toNatClampNeg x))), ((a 8), .inl (J.2.1, 10, .inl (fun _ => 0))), ((a 9), .inl (J.2.1, 10, .inl (fun _ => 0)))]) [4, 3, 5, 1, 2] (by decide) rfl).weaken (fun _ _ _ _ => trivial)) rfl rfl rfl ⟨Nat.le_of_ble_eq_true rfl, Nat.le_of_ble_eq_true rfl⟩ rfl rfl rfl hl.1 rfl (Nat.le_of_ble_eq_true rfl) ⟨Nat.le_of_ble_eq_true rfl, Nat.le_of_ble_eq_true rfl⟩ dX11_hole_26) (fun u5 H locs hw hP hD hS => ?_)
    have hP : va_P J.1 cls [((a 0), .inr (11, [.ref (a 1), .ref (a 6), .ref (a 10), .ref (a 15), .ref (a 17), .ref (a 22), .ref (a 23), .ref (a 30), .ref (a 31), .ref (a 34), .int 0, .ref (a 37), .ref (a 40)]))] H := hP
    have hD : va_D A [((a 0), .inr (11, [.ref (a 1), .ref (a 6), .ref (a 10), .ref (a 15), .ref (a 17), .ref (a 22), .ref (a 23), .ref (a 30), .ref (a 31), .ref (a 34), .int 0, .ref (a 37), .ref (a 40)]))] := hD
    refine W.widen (k := 0) (n := 0) (Nat.le_of_ble_eq_true rfl) (Nat.le_of_ble_eq_true rfl) ?_
    refine lv_iload_n hx hb dX11_hole_29 rfl (lv_at hl 0 rfl) ?_
    exact wz_i () hx hb hr hlk (by unfold sp_hole; (repeat' split) <;> first | rfl | (exfalso; omega)) (hP.sub (ws' := []) [] rfl) (hD.sub (ws' := []) [] (by decide) rfl) hS dX11_hole_30
  · have j6 := b0 c1
    refine lv_iconst (v := (-1)) hx hb dX11_hole_11 (by decide) ?_
    exact wz_i () hx hb hr hlk (by unfold sp_hole; (repeat' split) <;> first | rfl | (exfalso; omega)) (hP.sub (ws' := []) [] rfl) (hD.sub (ws' := []) [] (by decide) rfl) hS dX11_hole_12
theorem dX11_holes_0 : decode cX11_holes 0 = .ok (.aload_n 0, 1) := by decide +kernel
theorem dX11_holes_1 : decode cX11_holes 1 = .ok (.iload_n 1, 1) := by decide +kernel
theorem q_559 : Cond.methodLink RX11 106 yX11_shelfAt ∈ lw_g := mem_q 559 (by decide +kernel) rfl
theorem q_561 : Cond.instanceMethod yX11_shelfAt ∈ lw_g := mem_q 561 (by decide +kernel) rfl
theorem q_4 : Cond.selects RX11 yX11_shelfAt yX11_shelfAt ∈ lw_g := mem_q 4 (by decide +kernel) rfl
theorem q_562 : Cond.code yX11_shelfAt cX11_shelfAt 2 (some (.object "FoxHoles$Shelf")) ∈ lw_g := mem_q 562 (by decide +kernel) rfl
theorem kV_RX11_106 : CV RX11 106 RX11 yX11_shelfAt cX11_shelfAt 2 (some (.object "FoxHoles$Shelf")) 1 := cv_of q_559 q_561 q_4 q_103 q_562 (by decide +kernel)
theorem dX11_holes_2 : decode cX11_holes 2 = .ok (.invokevirtual 106, 3) := by decide +kernel
theorem dX11_holes_5 : decode cX11_holes 5 = .ok (.astore 4, 2) := by decide +kernel
theorem dX11_holes_7 : decode cX11_holes 7 = .ok (.aload 4, 2) := by decide +kernel
theorem dX11_holes_9 : decode cX11_holes 9 = .ok (.ifnull 14, 3) := by decide +kernel
theorem dX11_holes_12 : decode cX11_holes 12 = .ok (.iload_n 3, 1) := by decide +kernel
theorem dX11_holes_13 : decode cX11_holes 13 = .ok (.iconst 1, 1) := by decide +kernel
theorem dX11_holes_14 : decode cX11_holes 14 = .ok (.if_icmp .lt 9, 3) := by decide +kernel
theorem dX11_holes_23 : decode cX11_holes 23 = .ok (.iconst (-1), 1) := by decide +kernel
theorem dX11_holes_24 : decode cX11_holes 24 = .ok (.ireturn, 1) := by decide +kernel
theorem dX11_holes_17 : decode cX11_holes 17 = .ok (.iload_n 3, 1) := by decide +kernel
theorem dX11_holes_18 : decode cX11_holes 18 = .ok (.bipush 10, 2) := by decide +kernel
theorem dX11_holes_20 : decode cX11_holes 20 = .ok (.if_icmp .le 5, 3) := by decide +kernel
theorem dX11_holes_25 : decode cX11_holes 25 = .ok (.aload 4, 2) := by decide +kernel
theorem dX11_holes_27 : decode cX11_holes 27 = .ok (.invokevirtual 110, 3) := by decide +kernel
theorem dX11_holes_30 : decode cX11_holes 30 = .ok (.ifCond .eq 5, 3) := by decide +kernel
theorem dX11_holes_33 : decode cX11_holes 33 = .ok (.iconst 0, 1) := by decide +kernel
theorem dX11_holes_34 : decode cX11_holes 34 = .ok (.ireturn, 1) := by decide +kernel
set_option maxHeartbeats 4000000 in
set_option maxRecDepth 100000 in
theorem c_holes_in (l : Launch) (J : va_J9) (a : Nat → Nat) (f : Nat → Option Nat) (sh : Nat) (ce : Nat) (d : Int32) (i : Int32) (n : Int32) (hd : 0 ≤ d.toInt ∧ d.toInt ≤ 5) (hf : f d.toNatClampNeg = some sh) : RC l J yX11_holes cX11_holes 6 (some .int) ({ frames := 1, cells := 0, slots := 0, locals := 21 }) [.ref (a 0), .int d, .int i, .int n] [((a 0), .inr (11, [.ref (a 1), .ref (a 6), .ref (a 10), .ref (a 15), .ref (a 17), .ref (a 22), .ref (a 23), .ref (a 30), .ref (a 31), .ref (a 34), .int 0, .ref (a 37), .ref (a 40)])), ((a 40), .inl (J.2.2.2, 6, .inr (.inr (.inr (.inr f))))), (sh, .inr (9, [.ref ce, .int 0, .int 0, .int 0, .int 0]))] (vp_Si (fun r => r = sp_holes (d.toInt) (n.toInt))) := by
  refine rc_of (by decide) (Nat.le_of_ble_eq_true rfl) ?_
  intro p e s m below meth c ls hE hl hP hK
  obtain ⟨hx, hb, hr, hml, hown, hts, hlk, hin⟩ := hE
  have hown : s.vm.findClass RX11 = some m.cls := hown
  have hl : lv_has ls 6 [(0, .ref (a 0)), (1, .int d), (2, .int i), (3, .int n)] := hl
  have rg_d := i_rng d
  have rg_i := i_rng i
  have rg_n := i_rng n
  refine lv_aload_n hx hb dX11_holes_0 rfl (lv_at hl 0 rfl) ?_
  refine lv_iload_n hx hb dX11_holes_1 rfl (lv_at hl 1 rfl) ?_
  refine go_a (rn_V (As := [.int d]) (rest := []) hx hb hml hown hts hK (cF_shelfIn l J a f sh d ⟨by omega, by omega⟩ hf) kV_RX11_106 (hP.sub (ws' := [((a 0), .inr (11, [.ref (a 1), .ref (a 6), .ref (a 10), .ref (a 15), .ref (a 17), .ref (a 22), .ref (a 23), .ref (a 30), .ref (a 31), .ref (a 34), .int 0, .ref (a 37), .ref (a 40)])), ((a 40), .inl (J.2.2.2, 6, .inr (.inr (.inr (.inr f)))))]) [0, 1] rfl) rfl rfl rfl ⟨Nat.le_of_ble_eq_true rfl, Nat.le_of_ble_eq_true rfl⟩ rfl rfl rfl hl.1 rfl (Nat.le_of_ble_eq_true rfl) ⟨Nat.le_of_ble_eq_true rfl, Nat.le_of_ble_eq_true rfl⟩ dX11_holes_2) ?_
  refine top_q (y := sh) rfl ?_
  refine lv_astore (lv' := [(4, .ref sh), (0, .ref (a 0)), (1, .int d), (2, .int i), (3, .int n)]) hx hb dX11_holes_5 hl (by decide) rfl (fun ls hl => ?_)
  refine lv_aload hx hb dX11_holes_7 (lv_at hl 0 rfl) ?_
  refine lv_ifnull hx hb dX11_holes_9 ?_
  refine lv_iload_n hx hb dX11_holes_12 rfl (lv_at hl 4 rfl) ?_
  refine lv_iconst (v := 1) hx hb dX11_holes_13 (by decide) ?_
  refine lv_icmp_lt (tgt := 23) hx hb dX11_holes_14 (by decide) (fun c1 => ?_) (fun c1 => ?_)
  · have j2 : n.toInt < 1 := (i_lt rfl (by decide)).mp c1
    refine lv_iconst (v := (-1)) hx hb dX11_holes_23 (by decide) ?_
    exact rz_i hx hb hr hlk (by unfold sp_holes; (repeat' split) <;> first | rfl | (exfalso; omega)) dX11_holes_24
  · have j3 : ¬ (n.toInt < 1) := fun h => c1 ((i_lt rfl (by decide)).mpr h)
    refine lv_iload_n hx hb dX11_holes_17 rfl (lv_at hl 4 rfl) ?_
    refine lv_bipush (v := 10) hx hb dX11_holes_18 (by decide) ?_
    refine lv_icmp_le (tgt := 25) hx hb dX11_holes_20 (by decide) (fun c4 => ?_) (fun c4 => ?_)
    · have j5 : n.toInt ≤ 10 := (i_le rfl (by decide)).mp c4
      refine lv_aload hx hb dX11_holes_25 (lv_at hl 0 rfl) ?_
      refine go_i (rn_V (As := []) (rest := []) hx hb hml hown hts hK (cS_isEmpty l J sh ce) kV_RX11_110 (hP.sub (ws' := [(sh, .inr (9, [.ref ce, .int 0, .int 0, .int 0, .int 0]))]) [2] rfl) rfl rfl rfl ⟨Nat.le_of_ble_eq_true rfl, Nat.le_of_ble_eq_true rfl⟩ rfl rfl rfl hl.1 rfl (Nat.le_of_ble_eq_true rfl) ⟨Nat.le_of_ble_eq_true rfl, Nat.le_of_ble_eq_true rfl⟩ dX11_holes_27) ?_
      refine lv_if_eq (tgt := 35) hx hb dX11_holes_30 (by decide) (fun c => absurd c (by decide)) (fun _ => ?_)
      refine lv_iconst (v := 0) hx hb dX11_holes_33 (by decide) ?_
      exact rz_i hx hb hr hlk (by unfold sp_holes; (repeat' split) <;> first | rfl | (exfalso; omega)) dX11_holes_34
    · have j6 : ¬ (n.toInt ≤ 10) := fun h => c4 ((i_le rfl (by decide)).mpr h)
      refine lv_iconst (v := (-1)) hx hb dX11_holes_23 (by decide) ?_
      exact rz_i hx hb hr hlk (by unfold sp_holes; (repeat' split) <;> first | rfl | (exfalso; omega)) dX11_holes_24
set_option maxHeartbeats 4000000 in
set_option maxRecDepth 100000 in
theorem c_holes_out (l : Launch) (J : va_J9) (a : Nat → Nat) (d : Int32) (i : Int32) (n : Int32) (hd : ¬ (0 ≤ d.toInt ∧ d.toInt ≤ 5)) : RC l J yX11_holes cX11_holes 6 (some .int) ({ frames := 1, cells := 0, slots := 0, locals := 21 }) [.ref (a 0), .int d, .int i, .int n] [((a 0), .inr (11, [.ref (a 1), .ref (a 6), .ref (a 10), .ref (a 15), .ref (a 17), .ref (a 22), .ref (a 23), .ref (a 30), .ref (a 31), .ref (a 34), .int 0, .ref (a 37), .ref (a 40)]))] (vp_Si (fun r => r = sp_holes (d.toInt) (n.toInt))) := by
  refine rc_of (by decide) (Nat.le_of_ble_eq_true rfl) ?_
  intro p e s m below meth c ls hE hl hP hK
  obtain ⟨hx, hb, hr, hml, hown, hts, hlk, hin⟩ := hE
  have hown : s.vm.findClass RX11 = some m.cls := hown
  have hl : lv_has ls 6 [(0, .ref (a 0)), (1, .int d), (2, .int i), (3, .int n)] := hl
  have rg_d := i_rng d
  have rg_i := i_rng i
  have rg_n := i_rng n
  refine lv_aload_n hx hb dX11_holes_0 rfl (lv_at hl 0 rfl) ?_
  refine lv_iload_n hx hb dX11_holes_1 rfl (lv_at hl 1 rfl) ?_
  refine go_a (rn_V (As := [.int d]) (rest := []) hx hb hml hown hts hK (cF_shelfOut l J a d (by omega)) kV_RX11_106 hP rfl rfl rfl ⟨Nat.le_of_ble_eq_true rfl, Nat.le_of_ble_eq_true rfl⟩ rfl rfl rfl hl.1 rfl (Nat.le_of_ble_eq_true rfl) ⟨Nat.le_of_ble_eq_true rfl, Nat.le_of_ble_eq_true rfl⟩ dX11_holes_2) ?_
  refine top_n rfl ?_
  refine lv_astoreN (lv' := [(4, .null), (0, .ref (a 0)), (1, .int d), (2, .int i), (3, .int n)]) hx hb dX11_holes_5 hl (by decide) rfl (fun ls hl => ?_)
  refine lv_aloadN hx hb dX11_holes_7 (lv_at hl 0 rfl) ?_
  refine lv_ifnullN (tgt := 23) hx hb dX11_holes_9 (by decide) ?_
  refine lv_iconst (v := (-1)) hx hb dX11_holes_23 (by decide) ?_
  exact rz_i hx hb hr hlk (by unfold sp_holes; (repeat' split) <;> first | rfl | (exfalso; omega)) dX11_holes_24
theorem dX11_path_0 : decode cX11_path 0 = .ok (.aload_n 0, 1) := by decide +kernel
theorem dX11_path_1 : decode cX11_path 1 = .ok (.iload_n 1, 1) := by decide +kernel
theorem q_590 : Cond.methodLink RX11 121 yX11_areTwoHoles ∈ lw_g := mem_q 590 (by decide +kernel) rfl
theorem q_592 : Cond.instanceMethod yX11_areTwoHoles ∈ lw_g := mem_q 592 (by decide +kernel) rfl
theorem q_5 : Cond.selects RX11 yX11_areTwoHoles yX11_areTwoHoles ∈ lw_g := mem_q 5 (by decide +kernel) rfl
theorem q_593 : Cond.code yX11_areTwoHoles cX11_areTwoHoles 2 (some .boolean) ∈ lw_g := mem_q 593 (by decide +kernel) rfl
theorem kV_RX11_121 : CV RX11 121 RX11 yX11_areTwoHoles cX11_areTwoHoles 2 (some .boolean) 1 := cv_of q_590 q_592 q_5 q_103 q_593 (by decide +kernel)
theorem dX11_path_2 : decode cX11_path 2 = .ok (.invokevirtual 121, 3) := by decide +kernel
theorem dX11_path_5 : decode cX11_path 5 = .ok (.ifCond .eq 14, 3) := by decide +kernel
theorem dX11_path_19 : decode cX11_path 19 = .ok (.iconst (-1), 1) := by decide +kernel
theorem dX11_path_20 : decode cX11_path 20 = .ok (.ireturn, 1) := by decide +kernel
set_option maxHeartbeats 4000000 in
set_option maxRecDepth 100000 in
theorem c_path (l : Launch) (J : va_J9) (a : Nat → Nat) (x : Int32) : RC l J yX11_path cX11_path 3 (some .int) ({ frames := 2, cells := 0, slots := 0, locals := 42 }) [.ref (a 0), .int x] [((a 0), .inr (11, [.ref (a 1), .ref (a 6), .ref (a 10), .ref (a 15), .ref (a 17), .ref (a 22), .ref (a 23), .ref (a 30), .ref (a 31), .ref (a 34), .int 0, .ref (a 37), .ref (a 40)])), ((a 6), .inr (10, [.ref (a 1), .ref (a 7), .ref (a 8), .ref (a 9), .int 0, .int 0, .int 0, .int 0, .int 1, .int 0, .int 0]))] (vp_Si (fun r => r = (-1))) := by
  refine rc_of (by decide) (Nat.le_of_ble_eq_true rfl) ?_
  intro p e s m below meth c ls hE hl hP hK
  obtain ⟨hx, hb, hr, hml, hown, hts, hlk, hin⟩ := hE
  have hown : s.vm.findClass RX11 = some m.cls := hown
  have hl : lv_has ls 3 [(0, .ref (a 0)), (1, .int x)] := hl
  have rg_x := i_rng x
  refine lv_aload_n hx hb dX11_path_0 rfl (lv_at hl 0 rfl) ?_
  refine lv_iload_n hx hb dX11_path_1 rfl (lv_at hl 1 rfl) ?_
  refine go_i (rn_V (As := [.int x]) (rest := []) hx hb hml hown hts hK (cF_twoHoles l J a x) kV_RX11_121 hP rfl rfl rfl ⟨Nat.le_of_ble_eq_true rfl, Nat.le_of_ble_eq_true rfl⟩ rfl rfl rfl hl.1 rfl (Nat.le_of_ble_eq_true rfl) ⟨Nat.le_of_ble_eq_true rfl, Nat.le_of_ble_eq_true rfl⟩ dX11_path_2) ?_
  refine lv_if_eq (tgt := 19) hx hb dX11_path_5 (by decide) (fun _ => ?_) (fun c => absurd c (by decide))
  refine lv_iconst (v := (-1)) hx hb dX11_path_19 (by decide) ?_
  exact rz_i hx hb hr hlk (by decide) dX11_path_20
theorem dX11_mend_0 : decode cX11_mend 0 = .ok (.aload_n 0, 1) := by decide +kernel
theorem dX11_mend_1 : decode cX11_mend 1 = .ok (.getfield 21, 3) := by decide +kernel
theorem dX11_mend_4 : decode cX11_mend 4 = .ok (.iload_n 1, 1) := by decide +kernel
theorem dX11_mend_5 : decode cX11_mend 5 = .ok (.iload_n 2, 1) := by decide +kernel
theorem dX11_mend_6 : decode cX11_mend 6 = .ok (.iload_n 3, 1) := by decide +kernel
theorem q_617 : Cond.methodLink RX11 128 yX10_mayBecome ∈ lw_g := mem_q 617 (by decide +kernel) rfl
theorem kV_RX11_128 : CV RX11 128 RX10 yX10_mayBecome cX10_mayBecome 4 (some .boolean) 3 := cv_of q_617 q_618 q_619 q_105 q_620 (by decide +kernel)
theorem dX11_mend_7 : decode cX11_mend 7 = .ok (.invokevirtual 128, 3) := by decide +kernel
theorem dX11_mend_10 : decode cX11_mend 10 = .ok (.ifCond .ne 5, 3) := by decide +kernel
theorem dX11_mend_15 : decode cX11_mend 15 = .ok (.aload_n 0, 1) := by decide +kernel
theorem dX11_mend_16 : decode cX11_mend 16 = .ok (.getfield 21, 3) := by decide +kernel
theorem dX11_mend_19 : decode cX11_mend 19 = .ok (.iload_n 1, 1) := by decide +kernel
theorem dX11_mend_20 : decode cX11_mend 20 = .ok (.iload_n 2, 1) := by decide +kernel
theorem q_621 : Cond.methodLink RX11 132 yX10_told ∈ lw_g := mem_q 621 (by decide +kernel) rfl
theorem q_622 : Cond.instanceMethod yX10_told ∈ lw_g := mem_q 622 (by decide +kernel) rfl
theorem q_623 : Cond.selects RX10 yX10_told yX10_told ∈ lw_g := mem_q 623 (by decide +kernel) rfl
theorem q_624 : Cond.code yX10_told cX10_told 3 (some .int) ∈ lw_g := mem_q 624 (by decide +kernel) rfl
theorem kV_RX11_132 : CV RX11 132 RX10 yX10_told cX10_told 3 (some .int) 2 := cv_of q_621 q_622 q_623 q_105 q_624 (by decide +kernel)
theorem dX11_mend_21 : decode cX11_mend 21 = .ok (.invokevirtual 132, 3) := by decide +kernel
theorem dX11_mend_24 : decode cX11_mend 24 = .ok (.istore 4, 2) := by decide +kernel
theorem dX11_mend_26 : decode cX11_mend 26 = .ok (.iload 4, 2) := by decide +kernel
theorem dX11_mend_28 : decode cX11_mend 28 = .ok (.iload_n 3, 1) := by decide +kernel
theorem dX11_mend_29 : decode cX11_mend 29 = .ok (.if_icmp .eq 32, 3) := by decide +kernel
theorem dX11_mend_61 : decode cX11_mend 61 = .ok (.iload 4, 2) := by decide +kernel
theorem dX11_mend_63 : decode cX11_mend 63 = .ok (.ireturn, 1) := by decide +kernel
theorem dX11_mend_32 : decode cX11_mend 32 = .ok (.aload_n 0, 1) := by decide +kernel
theorem q_462 : Cond.fieldLink RX11 30 RX11 "changes" "LFoxHoles$Changes;" ∈ lw_g := mem_q 462 (by decide +kernel) rfl
theorem dX11_mend_33 : decode cX11_mend 33 = .ok (.getfield 30, 3) := by decide +kernel
theorem dX11_mend_36 : decode cX11_mend 36 = .ok (.iload_n 1, 1) := by decide +kernel
theorem dX11_mend_37 : decode cX11_mend 37 = .ok (.iload_n 2, 1) := by decide +kernel
theorem dX11_mend_38 : decode cX11_mend 38 = .ok (.iload 4, 2) := by decide +kernel
theorem dX11_mend_40 : decode cX11_mend 40 = .ok (.iload_n 3, 1) := by decide +kernel
theorem q_625 : Cond.methodLink RX11 135 yX2_note ∈ lw_g := mem_q 625 (by decide +kernel) rfl
theorem q_626 : Cond.instanceMethod yX2_note ∈ lw_g := mem_q 626 (by decide +kernel) rfl
theorem q_627 : Cond.selects RX2 yX2_note yX2_note ∈ lw_g := mem_q 627 (by decide +kernel) rfl
theorem q_106 : Cond.initialized RX2 ∈ lw_g := mem_q 106 (by decide +kernel) rfl
theorem q_628 : Cond.code yX2_note cX2_note 5 none ∈ lw_g := mem_q 628 (by decide +kernel) rfl
theorem kV_RX11_135 : CV RX11 135 RX2 yX2_note cX2_note 5 none 4 := cv_of q_625 q_626 q_627 q_106 q_628 (by decide +kernel)
theorem dX11_mend_41 : decode cX11_mend 41 = .ok (.invokevirtual 135, 3) := by decide +kernel
theorem dX11_mend_44 : decode cX11_mend 44 = .ok (.aload_n 0, 1) := by decide +kernel
theorem dX11_mend_45 : decode cX11_mend 45 = .ok (.getfield 21, 3) := by decide +kernel
theorem dX11_mend_48 : decode cX11_mend 48 = .ok (.iload_n 1, 1) := by decide +kernel
theorem dX11_mend_49 : decode cX11_mend 49 = .ok (.iload_n 2, 1) := by decide +kernel
theorem dX11_mend_50 : decode cX11_mend 50 = .ok (.iload_n 3, 1) := by decide +kernel
theorem q_633 : Cond.methodLink RX11 139 yX10_become ∈ lw_g := mem_q 633 (by decide +kernel) rfl
theorem q_634 : Cond.instanceMethod yX10_become ∈ lw_g := mem_q 634 (by decide +kernel) rfl
theorem q_635 : Cond.selects RX10 yX10_become yX10_become ∈ lw_g := mem_q 635 (by decide +kernel) rfl
theorem q_636 : Cond.code yX10_become cX10_become 4 none ∈ lw_g := mem_q 636 (by decide +kernel) rfl
theorem kV_RX11_139 : CV RX11 139 RX10 yX10_become cX10_become 4 none 3 := cv_of q_633 q_634 q_635 q_105 q_636 (by decide +kernel)
theorem dX11_mend_51 : decode cX11_mend 51 = .ok (.invokevirtual 139, 3) := by decide +kernel
theorem dX11_mend_54 : decode cX11_mend 54 = .ok (.aload_n 0, 1) := by decide +kernel
theorem dX11_mend_55 : decode cX11_mend 55 = .ok (.getfield 21, 3) := by decide +kernel
theorem dX11_mend_58 : decode cX11_mend 58 = .ok (.invokevirtual 103, 3) := by decide +kernel
theorem dX11_mend_13 : decode cX11_mend 13 = .ok (.iconst (-1), 1) := by decide +kernel
theorem dX11_mend_14 : decode cX11_mend 14 = .ok (.ireturn, 1) := by decide +kernel
set_option maxHeartbeats 4000000 in
set_option maxRecDepth 100000 in
theorem c_mend (l : Launch) (J : va_J9) (sz : Nat) (a : Nat → Nat) (n : Int32) (k : Int32) (v : Int32) : WC l J yX11_mend cX11_mend 5 (some .int) ({ frames := 2, cells := 0, slots := 0, locals := 46 }) [.ref (a 0), .int n, .int k, .int v] [((a 0), .inr (11, [.ref (a 1), .ref (a 6), .ref (a 10), .ref (a 15), .ref (a 17), .ref (a 22), .ref (a 23), .ref (a 30), .ref (a 31), .ref (a 34), .int 0, .ref (a 37), .ref (a 40)])), ((a 6), .inr (10, [.ref (a 1), .ref (a 7), .ref (a 8), .ref (a 9), .int 0, .int 0, .int 0, .int 0, .int 1, .int 0, .int 0])), ((a 10), .inr (2, [.ref (a 6), .ref (a 11), .ref (a 12), .ref (a 13), .ref (a 14), .int 0, .int 0])), ((a 11), .inl (J.2.1, 40, .inl (fun _ => 0))), ((a 12), .inl (J.2.1, 40, .inl (fun _ => 0))), ((a 13), .inl (J.2.1, 40, .inl (fun _ => 0))), ((a 14), .inl (J.2.1, 40, .inl (fun _ => 0)))] sz (Qi J (fun (r : Int32) (_ : Unit) => r = sp_mend (n.toInt) (k.toInt) (v.toInt)) (fun (_ : Unit) => [])) 0 0 := by
  refine wc_of (by decide) (Nat.le_of_ble_eq_true rfl) ?_
  intro p e s m below meth c ls A hE hl hP hK hD hS hA
  obtain ⟨hx, hb, hr, hml, hown, hts, hlk, hin⟩ := hE
  have hown : s.vm.findClass RX11 = some m.cls := hown
  have hl : lv_has ls 5 [(0, .ref (a 0)), (1, .int n), (2, .int k), (3, .int v)] := hl
  have rg_n := i_rng n
  have rg_k := i_rng k
  have rg_v := i_rng v
  refine lv_aload_n hx hb dX11_mend_0 rfl (lv_at hl 0 rfl) ?_
  refine va_get (D := J.1) (ci := 11) (v := .ref (a 6)) (C := RX11) (T := TX11) (N := 13) hx hb hts inX11 hown hK.1 hP 0 rfl rfl 1 (by decide) (hts _ q_461) (fun _ h9 => h9) rfl dX11_mend_1 ?_
  refine lv_iload_n hx hb dX11_mend_4 rfl (lv_at hl 1 rfl) ?_
  refine lv_iload_n hx hb dX11_mend_5 rfl (lv_at hl 2 rfl) ?_
  refine lv_iload_n hx hb dX11_mend_6 rfl (lv_at hl 3 rfl) ?_
  refine go_i (rn_V (As := [.int n, .int k, .int v]) (rest := []) hx hb hml hown hts hK (cW_mayBecome l J (a 6) (a 1) (a 7) (a 8) (a 9) n k v) kV_RX11_128 (hP.sub (ws' := [((a 6), .inr (10, [.ref (a 1), .ref (a 7), .ref (a 8), .ref (a 9), .int 0, .int 0, .int 0, .int 0, .int 1, .int 0, .int 0]))]) [1] rfl) rfl rfl rfl ⟨Nat.le_of_ble_eq_true rfl, Nat.le_of_ble_eq_true rfl⟩ rfl rfl rfl hl.1 rfl (Nat.le_of_ble_eq_true rfl) ⟨Nat.le_of_ble_eq_true rfl, Nat.le_of_ble_eq_true rfl⟩ dX11_mend_7) ?_
  refine lv_if_ne (tgt := 15) hx hb dX11_mend_10 (by decide) (fun c1 => ?_) (fun c1 => ?_)
  · have j2 := b1 c1
    obtain ⟨n0, hk⟩ := j2
    have kn : n = 0 := (i_eq rfl (by decide)).mpr n0
    rcases hk with hk | hk
    · have kk : k = 2 := (i_eq rfl (by decide)).mpr hk.1
      refine lv_aload_n hx hb dX11_mend_15 rfl (lv_at hl 0 rfl) ?_
      refine va_get (D := J.1) (ci := 11) (v := .ref (a 6)) (C := RX11) (T := TX11) (N := 13) hx hb hts inX11 hown hK.1 hP 0 rfl rfl 1 (by decide) (hts _ q_461) (fun _ h9 => h9) rfl dX11_mend_16 ?_
      refine lv_iload_n hx hb dX11_mend_19 rfl (lv_at hl 1 rfl) ?_
      refine top_i (y := 0) kn ?_
      refine lv_iload_n hx hb dX11_mend_20 rfl (lv_at hl 2 rfl) ?_
      refine top_i (y := 2) kk ?_
      refine go_i (rn_V (As := [.int 0, .int 2]) (rest := []) hx hb hml hown hts hK (cW_told2 l J (a 6) (a 1) (a 7) (a 8) (a 9) 0) kV_RX11_132 (hP.sub (ws' := [((a 6), .inr (10, [.ref (a 1), .ref (a 7), .ref (a 8), .ref (a 9), .int 0, .int 0, .int 0, .int 0, .int 1, .int 0, .int 0]))]) [1] rfl) rfl rfl rfl ⟨Nat.le_of_ble_eq_true rfl, Nat.le_of_ble_eq_true rfl⟩ rfl rfl rfl hl.1 rfl (Nat.le_of_ble_eq_true rfl) ⟨Nat.le_of_ble_eq_true rfl, Nat.le_of_ble_eq_true rfl⟩ dX11_mend_21) ?_
      refine lv_istore (lv' := [(4, .int 1), (0, .ref (a 0)), (1, .int n), (2, .int k), (3, .int v)]) hx hb dX11_mend_24 hl (by decide) rfl (fun ls hl => ?_)
      refine lv_iload hx hb dX11_mend_26 (lv_at hl 0 rfl) ?_
      refine lv_iload_n hx hb dX11_mend_28 rfl (lv_at hl 4 rfl) ?_
      refine lv_icmp_eq (tgt := 61) hx hb dX11_mend_29 (by decide) (fun c3 => ?_) (fun c3 => ?_)
      · have j4 : 1 = v.toInt := (i_eq (by decide) rfl).mp c3
        refine lv_iload hx hb dX11_mend_61 (lv_at hl 0 rfl) ?_
        exact wz_i () hx hb hr hlk (by unfold sp_mend; (repeat' split) <;> first | rfl | (exfalso; omega)) (hP.sub (ws' := []) [] rfl) (hD.sub (ws' := []) [] (by decide) rfl) hS dX11_mend_63
      · have j5 : ¬ (1 = v.toInt) := fun h => c3 ((i_eq (by decide) rfl).mpr h)
        refine lv_aload_n hx hb dX11_mend_32 rfl (lv_at hl 1 rfl) ?_
        refine va_get (D := J.1) (ci := 11) (v := .ref (a 10)) (C := RX11) (T := TX11) (N := 13) hx hb hts inX11 hown hK.1 hP 0 rfl rfl 2 (by decide) (hts _ q_462) (fun _ h9 => h9) rfl dX11_mend_33 ?_
        refine lv_iload_n hx hb dX11_mend_36 rfl (lv_at hl 2 rfl) ?_
        refine top_i (y := 0) kn ?_
        refine lv_iload_n hx hb dX11_mend_37 rfl (lv_at hl 3 rfl) ?_
        refine top_i (y := 2) kk ?_
        refine lv_iload hx hb dX11_mend_38 (lv_at hl 0 rfl) ?_
        refine lv_iload_n hx hb dX11_mend_40 rfl (lv_at hl 4 rfl) ?_
        refine gw_v (wc := [((a 10), .inr (2, [.ref (a 6), .ref (a 11), .ref (a 12), .ref (a 13), .ref (a 14), .int 0, .int 0])), ((a 11), .inl (J.2.1, 40, .inl (fun _ => 0))), ((a 12), .inl (J.2.1, 40, .inl (fun _ => 0))), ((a 13), .inl (J.2.1, 40, .inl (fun _ => 0))), ((a 14), .inl (J.2.1, 40, .inl (fun _ => 0)))]) (wr := [((a 0), .inr (11, [.ref (a 1), .ref (a 6), .ref (a 10), .ref (a 15), .ref (a 17), .ref (a 22), .ref (a 23), .ref (a 30), .ref (a 31), .ref (a 34), .int 0, .ref (a 37), .ref (a 40)])), ((a 6), .inr (10, [.ref (a 1), .ref (a 7), .ref (a 8), .ref (a 9), .int 0, .int 0, .int 0, .int 0, .int 1, .int 0, .int 0]))]) hP hD hS hA [2, 3, 4, 5, 6] [0, 1] rfl rfl (by decide) (by decide) (wn_V (As := [.int 0, .int 2, .int 1, .int v]) (rest := []) hx hb hml hown hts hK (cC_note l J _ (a 10) (a 6) (a 11) (a 12) (a 13) (a 14) 0 2 1 v) kV_RX11_135 (hP.sub (ws' := [((a 10), .inr (2, [.ref (a 6), .ref (a 11), .ref (a 12), .ref (a 13), .ref (a 14), .int 0, .int 0])), ((a 11), .inl (J.2.1, 40, .inl (fun _ => 0))), ((a 12), .inl (J.2.1, 40, .inl (fun _ => 0))), ((a 13), .inl (J.2.1, 40, .inl (fun _ => 0))), ((a 14), .inl (J.2.1, 40, .inl (fun _ => 0)))]) [2, 3, 4, 5, 6] rfl) ((hD.sub (ws' := [((a 10), .inr (2, [.ref (a 6), .ref (a 11), .ref (a 12), .ref (a 13), .ref (a 14), .int 0, .int 0])), ((a 11), .inl (J.2.1, 40, .inl (fun _ => 0))), ((a 12), .inl (J.2.1, 40, .inl (fun _ => 0))), ((a 13), .inl (J.2.1, 40, .inl (fun _ => 0))), ((a 14), .inl (J.2.1, 40, .inl (fun _ => 0)))]) [2, 3, 4, 5, 6] (by decide) rfl).weaken (fun _ _ _ _ => trivial)) rfl rfl rfl ⟨Nat.le_of_ble_eq_true rfl, Nat.le_of_ble_eq_true rfl⟩ rfl rfl rfl hl.1 rfl (Nat.le_of_ble_eq_true rfl) ⟨Nat.le_of_ble_eq_true rfl, Nat.le_of_ble_eq_true rfl⟩ dX11_mend_41) (fun u6 H locs hw hP hD hS => ?_)
        have hP : va_P J.1 cls [((a 0), .inr (11, [.ref (a 1), .ref (a 6), .ref (a 10), .ref (a 15), .ref (a 17), .ref (a 22), .ref (a 23), .ref (a 30), .ref (a 31), .ref (a 34), .int 0, .ref (a 37), .ref (a 40)])), ((a 6), .inr (10, [.ref (a 1), .ref (a 7), .ref (a 8), .ref (a 9), .int 0, .int 0, .int 0, .int 0, .int 1, .int 0, .int 0]))] H := hP
        have hD : va_D A [((a 0), .inr (11, [.ref (a 1), .ref (a 6), .ref (a 10), .ref (a 15), .ref (a 17), .ref (a 22), .ref (a 23), .ref (a 30), .ref (a 31), .ref (a 34), .int 0, .ref (a 37), .ref (a 40)])), ((a 6), .inr (10, [.ref (a 1), .ref (a 7), .ref (a 8), .ref (a 9), .int 0, .int 0, .int 0, .int 0, .int 1, .int 0, .int 0]))] := hD
        refine W.widen (k := 0) (n := 0) (Nat.le_of_ble_eq_true rfl) (Nat.le_of_ble_eq_true rfl) ?_
        refine lv_aload_n hx hb dX11_mend_44 rfl (lv_at hl 1 rfl) ?_
        refine va_get (D := J.1) (ci := 11) (v := .ref (a 6)) (C := RX11) (T := TX11) (N := 13) hx hb hts inX11 hown hK.1 hP 0 rfl rfl 1 (by decide) (hts _ q_461) (fun _ h9 => h9) rfl dX11_mend_45 ?_
        refine lv_iload_n hx hb dX11_mend_48 rfl (lv_at hl 2 rfl) ?_
        refine top_i (y := 0) kn ?_
        refine lv_iload_n hx hb dX11_mend_49 rfl (lv_at hl 3 rfl) ?_
        refine top_i (y := 2) kk ?_
        refine lv_iload_n hx hb dX11_mend_50 rfl (lv_at hl 4 rfl) ?_
        refine gw_v (wc := [((a 6), .inr (10, [.ref (a 1), .ref (a 7), .ref (a 8), .ref (a 9), .int 0, .int 0, .int 0, .int 0, .int 1, .int 0, .int 0]))]) (wr := [((a 0), .inr (11, [.ref (a 1), .ref (a 6), .ref (a 10), .ref (a 15), .ref (a 17), .ref (a 22), .ref (a 23), .ref (a 30), .ref (a 31), .ref (a 34), .int 0, .ref (a 37), .ref (a 40)]))]) hP hD hS hA [1] [0] rfl rfl (by decide) (by decide) (wn_V (As := [.int 0, .int 2, .int v]) (rest := []) hx hb hml hown hts hK (cW_become2 l J _ (a 6) (a 1) (a 7) (a 8) (a 9) v ⟨by omega, by omega⟩) kV_RX11_139 (hP.sub (ws' := [((a 6), .inr (10, [.ref (a 1), .ref (a 7), .ref (a 8), .ref (a 9), .int 0, .int 0, .int 0, .int 0, .int 1, .int 0, .int 0]))]) [1] rfl) ((hD.sub (ws' := [((a 6), .inr (10, [.ref (a 1), .ref (a 7), .ref (a 8), .ref (a 9), .int 0, .int 0, .int 0, .int 0, .int 1, .int 0, .int 0]))]) [1] (by decide) rfl).weaken (fun _ _ _ _ => trivial)) rfl rfl rfl ⟨Nat.le_of_ble_eq_true rfl, Nat.le_of_ble_eq_true rfl⟩ rfl rfl rfl hl.1 rfl (Nat.le_of_ble_eq_true rfl) ⟨Nat.le_of_ble_eq_true rfl, Nat.le_of_ble_eq_true rfl⟩ dX11_mend_51) (fun u7 H locs hw hP hD hS => ?_)
        have hP : va_P J.1 cls [((a 0), .inr (11, [.ref (a 1), .ref (a 6), .ref (a 10), .ref (a 15), .ref (a 17), .ref (a 22), .ref (a 23), .ref (a 30), .ref (a 31), .ref (a 34), .int 0, .ref (a 37), .ref (a 40)])), ((a 6), .inr (10, [.ref (a 1), .ref (a 7), .ref (a 8), .ref (a 9), .int 0, .int 0, .int 0, .int 0, .int v, .int 0, .int 1]))] H := hP
        have hD : va_D A [((a 0), .inr (11, [.ref (a 1), .ref (a 6), .ref (a 10), .ref (a 15), .ref (a 17), .ref (a 22), .ref (a 23), .ref (a 30), .ref (a 31), .ref (a 34), .int 0, .ref (a 37), .ref (a 40)])), ((a 6), .inr (10, [.ref (a 1), .ref (a 7), .ref (a 8), .ref (a 9), .int 0, .int 0, .int 0, .int 0, .int v, .int 0, .int 1]))] := hD
        refine W.widen (k := 0) (n := 0) (Nat.le_of_ble_eq_true rfl) (Nat.le_of_ble_eq_true rfl) ?_
        refine lv_aload_n hx hb dX11_mend_54 rfl (lv_at hl 1 rfl) ?_
        refine va_get (D := J.1) (ci := 11) (v := .ref (a 6)) (C := RX11) (T := TX11) (N := 13) hx hb hts inX11 hown hK.1 hP 0 rfl rfl 1 (by decide) (hts _ q_461) (fun _ h9 => h9) rfl dX11_mend_55 ?_
        refine go_v (rn_V (As := []) (rest := []) hx hb hml hown hts hK (cW_settle0 l J (a 6) (a 1) (a 7) (a 8) (a 9) 0 0 0 v 0 1) kV_RX11_103 (hP.sub (ws' := [((a 6), .inr (10, [.ref (a 1), .ref (a 7), .ref (a 8), .ref (a 9), .int 0, .int 0, .int 0, .int 0, .int v, .int 0, .int 1]))]) [1] rfl) rfl rfl rfl ⟨Nat.le_of_ble_eq_true rfl, Nat.le_of_ble_eq_true rfl⟩ rfl rfl rfl hl.1 rfl (Nat.le_of_ble_eq_true rfl) ⟨Nat.le_of_ble_eq_true rfl, Nat.le_of_ble_eq_true rfl⟩ dX11_mend_58) ?_
        refine lv_iload hx hb dX11_mend_61 (lv_at hl 0 rfl) ?_
        exact wz_i () hx hb hr hlk (by unfold sp_mend; (repeat' split) <;> first | rfl | (exfalso; omega)) (hP.sub (ws' := []) [] rfl) (hD.sub (ws' := []) [] (by decide) rfl) hS dX11_mend_63
    · have kk : k = 3 := (i_eq rfl (by decide)).mpr hk.1
      refine lv_aload_n hx hb dX11_mend_15 rfl (lv_at hl 0 rfl) ?_
      refine va_get (D := J.1) (ci := 11) (v := .ref (a 6)) (C := RX11) (T := TX11) (N := 13) hx hb hts inX11 hown hK.1 hP 0 rfl rfl 1 (by decide) (hts _ q_461) (fun _ h9 => h9) rfl dX11_mend_16 ?_
      refine lv_iload_n hx hb dX11_mend_19 rfl (lv_at hl 1 rfl) ?_
      refine top_i (y := 0) kn ?_
      refine lv_iload_n hx hb dX11_mend_20 rfl (lv_at hl 2 rfl) ?_
      refine top_i (y := 3) kk ?_
      refine go_i (rn_V (As := [.int 0, .int 3]) (rest := []) hx hb hml hown hts hK (cW_told3 l J (a 6) (a 1) (a 7) (a 8) (a 9) 0) kV_RX11_132 (hP.sub (ws' := [((a 6), .inr (10, [.ref (a 1), .ref (a 7), .ref (a 8), .ref (a 9), .int 0, .int 0, .int 0, .int 0, .int 1, .int 0, .int 0]))]) [1] rfl) rfl rfl rfl ⟨Nat.le_of_ble_eq_true rfl, Nat.le_of_ble_eq_true rfl⟩ rfl rfl rfl hl.1 rfl (Nat.le_of_ble_eq_true rfl) ⟨Nat.le_of_ble_eq_true rfl, Nat.le_of_ble_eq_true rfl⟩ dX11_mend_21) ?_
      refine lv_istore (lv' := [(4, .int 0), (0, .ref (a 0)), (1, .int n), (2, .int k), (3, .int v)]) hx hb dX11_mend_24 hl (by decide) rfl (fun ls hl => ?_)
      refine lv_iload hx hb dX11_mend_26 (lv_at hl 0 rfl) ?_
      refine lv_iload_n hx hb dX11_mend_28 rfl (lv_at hl 4 rfl) ?_
      refine lv_icmp_eq (tgt := 61) hx hb dX11_mend_29 (by decide) (fun c8 => ?_) (fun c8 => ?_)
      · have j9 : 0 = v.toInt := (i_eq (by decide) rfl).mp c8
        refine lv_iload hx hb dX11_mend_61 (lv_at hl 0 rfl) ?_
        exact wz_i () hx hb hr hlk (by unfold sp_mend; (repeat' split) <;> first | rfl | (exfalso; omega)) (hP.sub (ws' := []) [] rfl) (hD.sub (ws' := []) [] (by decide) rfl) hS dX11_mend_63
      · have j10 : ¬ (0 = v.toInt) := fun h => c8 ((i_eq (by decide) rfl).mpr h)
        refine lv_aload_n hx hb dX11_mend_32 rfl (lv_at hl 1 rfl) ?_
        refine va_get (D := J.1) (ci := 11) (v := .ref (a 10)) (C := RX11) (T := TX11) (N := 13) hx hb hts inX11 hown hK.1 hP 0 rfl rfl 2 (by decide) (hts _ q_462) (fun _ h9 => h9) rfl dX11_mend_33 ?_
        refine lv_iload_n hx hb dX11_mend_36 rfl (lv_at hl 2 rfl) ?_
        refine top_i (y := 0) kn ?_
        refine lv_iload_n hx hb dX11_mend_37 rfl (lv_at hl 3 rfl) ?_
        refine top_i (y := 3) kk ?_
        refine lv_iload hx hb dX11_mend_38 (lv_at hl 0 rfl) ?_
        refine lv_iload_n hx hb dX11_mend_40 rfl (lv_at hl 4 rfl) ?_
        refine gw_v (wc := [((a 10), .inr (2, [.ref (a 6), .ref (a 11), .ref (a 12), .ref (a 13), .ref (a 14), .int 0, .int 0])), ((a 11), .inl (J.2.1, 40, .inl (fun _ => 0))), ((a 12), .inl (J.2.1, 40, .inl (fun _ => 0))), ((a 13), .inl (J.2.1, 40, .inl (fun _ => 0))), ((a 14), .inl (J.2.1, 40, .inl (fun _ => 0)))]) (wr := [((a 0), .inr (11, [.ref (a 1), .ref (a 6), .ref (a 10), .ref (a 15), .ref (a 17), .ref (a 22), .ref (a 23), .ref (a 30), .ref (a 31), .ref (a 34), .int 0, .ref (a 37), .ref (a 40)])), ((a 6), .inr (10, [.ref (a 1), .ref (a 7), .ref (a 8), .ref (a 9), .int 0, .int 0, .int 0, .int 0, .int 1, .int 0, .int 0]))]) hP hD hS hA [2, 3, 4, 5, 6] [0, 1] rfl rfl (by decide) (by decide) (wn_V (As := [.int 0, .int 3, .int 0, .int v]) (rest := []) hx hb hml hown hts hK (cC_note l J _ (a 10) (a 6) (a 11) (a 12) (a 13) (a 14) 0 3 0 v) kV_RX11_135 (hP.sub (ws' := [((a 10), .inr (2, [.ref (a 6), .ref (a 11), .ref (a 12), .ref (a 13), .ref (a 14), .int 0, .int 0])), ((a 11), .inl (J.2.1, 40, .inl (fun _ => 0))), ((a 12), .inl (J.2.1, 40, .inl (fun _ => 0))), ((a 13), .inl (J.2.1, 40, .inl (fun _ => 0))), ((a 14), .inl (J.2.1, 40, .inl (fun _ => 0)))]) [2, 3, 4, 5, 6] rfl) ((hD.sub (ws' := [((a 10), .inr (2, [.ref (a 6), .ref (a 11), .ref (a 12), .ref (a 13), .ref (a 14), .int 0, .int 0])), ((a 11), .inl (J.2.1, 40, .inl (fun _ => 0))), ((a 12), .inl (J.2.1, 40, .inl (fun _ => 0))), ((a 13), .inl (J.2.1, 40, .inl (fun _ => 0))), ((a 14), .inl (J.2.1, 40, .inl (fun _ => 0)))]) [2, 3, 4, 5, 6] (by decide) rfl).weaken (fun _ _ _ _ => trivial)) rfl rfl rfl ⟨Nat.le_of_ble_eq_true rfl, Nat.le_of_ble_eq_true rfl⟩ rfl rfl rfl hl.1 rfl (Nat.le_of_ble_eq_true rfl) ⟨Nat.le_of_ble_eq_true rfl, Nat.le_of_ble_eq_true rfl⟩ dX11_mend_41) (fun u11 H locs hw hP hD hS => ?_)
        have hP : va_P J.1 cls [((a 0), .inr (11, [.ref (a 1), .ref (a 6), .ref (a 10), .ref (a 15), .ref (a 17), .ref (a 22), .ref (a 23), .ref (a 30), .ref (a 31), .ref (a 34), .int 0, .ref (a 37), .ref (a 40)])), ((a 6), .inr (10, [.ref (a 1), .ref (a 7), .ref (a 8), .ref (a 9), .int 0, .int 0, .int 0, .int 0, .int 1, .int 0, .int 0]))] H := hP
        have hD : va_D A [((a 0), .inr (11, [.ref (a 1), .ref (a 6), .ref (a 10), .ref (a 15), .ref (a 17), .ref (a 22), .ref (a 23), .ref (a 30), .ref (a 31), .ref (a 34), .int 0, .ref (a 37), .ref (a 40)])), ((a 6), .inr (10, [.ref (a 1), .ref (a 7), .ref (a 8), .ref (a 9), .int 0, .int 0, .int 0, .int 0, .int 1, .int 0, .int 0]))] := hD
        refine W.widen (k := 0) (n := 0) (Nat.le_of_ble_eq_true rfl) (Nat.le_of_ble_eq_true rfl) ?_
        refine lv_aload_n hx hb dX11_mend_44 rfl (lv_at hl 1 rfl) ?_
        refine va_get (D := J.1) (ci := 11) (v := .ref (a 6)) (C := RX11) (T := TX11) (N := 13) hx hb hts inX11 hown hK.1 hP 0 rfl rfl 1 (by decide) (hts _ q_461) (fun _ h9 => h9) rfl dX11_mend_45 ?_
        refine lv_iload_n hx hb dX11_mend_48 rfl (lv_at hl 2 rfl) ?_
        refine top_i (y := 0) kn ?_
        refine lv_iload_n hx hb dX11_mend_49 rfl (lv_at hl 3 rfl) ?_
        refine top_i (y := 3) kk ?_
        refine lv_iload_n hx hb dX11_mend_50 rfl (lv_at hl 4 rfl) ?_
        refine gw_v (wc := [((a 6), .inr (10, [.ref (a 1), .ref (a 7), .ref (a 8), .ref (a 9), .int 0, .int 0, .int 0, .int 0, .int 1, .int 0, .int 0]))]) (wr := [((a 0), .inr (11, [.ref (a 1), .ref (a 6), .ref (a 10), .ref (a 15), .ref (a 17), .ref (a 22), .ref (a 23), .ref (a 30), .ref (a 31), .ref (a 34), .int 0, .ref (a 37), .ref (a 40)]))]) hP hD hS hA [1] [0] rfl rfl (by decide) (by decide) (wn_V (As := [.int 0, .int 3, .int v]) (rest := []) hx hb hml hown hts hK (cW_become3 l J _ (a 6) (a 1) (a 7) (a 8) (a 9) v ⟨by omega, by omega⟩) kV_RX11_139 (hP.sub (ws' := [((a 6), .inr (10, [.ref (a 1), .ref (a 7), .ref (a 8), .ref (a 9), .int 0, .int 0, .int 0, .int 0, .int 1, .int 0, .int 0]))]) [1] rfl) ((hD.sub (ws' := [((a 6), .inr (10, [.ref (a 1), .ref (a 7), .ref (a 8), .ref (a 9), .int 0, .int 0, .int 0, .int 0, .int 1, .int 0, .int 0]))]) [1] (by decide) rfl).weaken (fun _ _ _ _ => trivial)) rfl rfl rfl ⟨Nat.le_of_ble_eq_true rfl, Nat.le_of_ble_eq_true rfl⟩ rfl rfl rfl hl.1 rfl (Nat.le_of_ble_eq_true rfl) ⟨Nat.le_of_ble_eq_true rfl, Nat.le_of_ble_eq_true rfl⟩ dX11_mend_51) (fun u12 H locs hw hP hD hS => ?_)
        have hP : va_P J.1 cls [((a 0), .inr (11, [.ref (a 1), .ref (a 6), .ref (a 10), .ref (a 15), .ref (a 17), .ref (a 22), .ref (a 23), .ref (a 30), .ref (a 31), .ref (a 34), .int 0, .ref (a 37), .ref (a 40)])), ((a 6), .inr (10, [.ref (a 1), .ref (a 7), .ref (a 8), .ref (a 9), .int 0, .int 0, .int 0, .int 0, .int 1, .int v, .int 1]))] H := hP
        have hD : va_D A [((a 0), .inr (11, [.ref (a 1), .ref (a 6), .ref (a 10), .ref (a 15), .ref (a 17), .ref (a 22), .ref (a 23), .ref (a 30), .ref (a 31), .ref (a 34), .int 0, .ref (a 37), .ref (a 40)])), ((a 6), .inr (10, [.ref (a 1), .ref (a 7), .ref (a 8), .ref (a 9), .int 0, .int 0, .int 0, .int 0, .int 1, .int v, .int 1]))] := hD
        refine W.widen (k := 0) (n := 0) (Nat.le_of_ble_eq_true rfl) (Nat.le_of_ble_eq_true rfl) ?_
        refine lv_aload_n hx hb dX11_mend_54 rfl (lv_at hl 1 rfl) ?_
        refine va_get (D := J.1) (ci := 11) (v := .ref (a 6)) (C := RX11) (T := TX11) (N := 13) hx hb hts inX11 hown hK.1 hP 0 rfl rfl 1 (by decide) (hts _ q_461) (fun _ h9 => h9) rfl dX11_mend_55 ?_
        refine go_v (rn_V (As := []) (rest := []) hx hb hml hown hts hK (cW_settle0 l J (a 6) (a 1) (a 7) (a 8) (a 9) 0 0 0 1 v 1) kV_RX11_103 (hP.sub (ws' := [((a 6), .inr (10, [.ref (a 1), .ref (a 7), .ref (a 8), .ref (a 9), .int 0, .int 0, .int 0, .int 0, .int 1, .int v, .int 1]))]) [1] rfl) rfl rfl rfl ⟨Nat.le_of_ble_eq_true rfl, Nat.le_of_ble_eq_true rfl⟩ rfl rfl rfl hl.1 rfl (Nat.le_of_ble_eq_true rfl) ⟨Nat.le_of_ble_eq_true rfl, Nat.le_of_ble_eq_true rfl⟩ dX11_mend_58) ?_
        refine lv_iload hx hb dX11_mend_61 (lv_at hl 0 rfl) ?_
        exact wz_i () hx hb hr hlk (by unfold sp_mend; (repeat' split) <;> first | rfl | (exfalso; omega)) (hP.sub (ws' := []) [] rfl) (hD.sub (ws' := []) [] (by decide) rfl) hS dX11_mend_63
  · have j13 := b0 c1
    refine lv_iconst (v := (-1)) hx hb dX11_mend_13 (by decide) ?_
    exact wz_i () hx hb hr hlk (by unfold sp_mend; (repeat' split) <;> first | rfl | (exfalso; omega)) (hP.sub (ws' := []) [] rfl) (hD.sub (ws' := []) [] (by decide) rfl) hS dX11_mend_14
theorem dX11_ofAll_0 : decode cX11_ofAll 0 = .ok (.iload_n 1, 1) := by decide +kernel
theorem dX11_ofAll_1 : decode cX11_ofAll 1 = .ok (.tableswitch 90 10 14 #[35, 43, 51, 59, 82], 35) := by decide +kernel
theorem dX11_ofAll_36 : decode cX11_ofAll 36 = .ok (.aload_n 0, 1) := by decide +kernel
theorem dX11_ofAll_37 : decode cX11_ofAll 37 = .ok (.getfield 21, 3) := by decide +kernel
theorem q_187 : Cond.fieldLink RX11 162 RX10 "lookers" "I" ∈ lw_g := mem_q 187 (by decide +kernel) rfl
theorem dX11_ofAll_40 : decode cX11_ofAll 40 = .ok (.getfield 162, 3) := by decide +kernel
theorem dX11_ofAll_43 : decode cX11_ofAll 43 = .ok (.ireturn, 1) := by decide +kernel
theorem dX11_ofAll_44 : decode cX11_ofAll 44 = .ok (.aload_n 0, 1) := by decide +kernel
theorem dX11_ofAll_45 : decode cX11_ofAll 45 = .ok (.getfield 21, 3) := by decide +kernel
theorem q_188 : Cond.fieldLink RX11 166 RX10 "sleep" "I" ∈ lw_g := mem_q 188 (by decide +kernel) rfl
theorem dX11_ofAll_48 : decode cX11_ofAll 48 = .ok (.getfield 166, 3) := by decide +kernel
theorem dX11_ofAll_51 : decode cX11_ofAll 51 = .ok (.ireturn, 1) := by decide +kernel
theorem dX11_ofAll_52 : decode cX11_ofAll 52 = .ok (.aload_n 0, 1) := by decide +kernel
theorem q_468 : Cond.fieldLink RX11 74 RX11 "deed" "LFoxHoles$Deed;" ∈ lw_g := mem_q 468 (by decide +kernel) rfl
theorem dX11_ofAll_53 : decode cX11_ofAll 53 = .ok (.getfield 74, 3) := by decide +kernel
theorem q_390 : Cond.fieldLink RX11 169 RX3 "day" "I" ∈ lw_g := mem_q 390 (by decide +kernel) rfl
theorem dX11_ofAll_56 : decode cX11_ofAll 56 = .ok (.getfield 169, 3) := by decide +kernel
theorem dX11_ofAll_59 : decode cX11_ofAll 59 = .ok (.ireturn, 1) := by decide +kernel
theorem dX11_ofAll_60 : decode cX11_ofAll 60 = .ok (.aload_n 0, 1) := by decide +kernel
theorem dX11_ofAll_61 : decode cX11_ofAll 61 = .ok (.getfield 74, 3) := by decide +kernel
theorem q_388 : Cond.fieldLink RX11 172 RX3 "hidden" "Z" ∈ lw_g := mem_q 388 (by decide +kernel) rfl
theorem dX11_ofAll_64 : decode cX11_ofAll 64 = .ok (.getfield 172, 3) := by decide +kernel
theorem dX11_ofAll_67 : decode cX11_ofAll 67 = .ok (.ifCond .eq 13, 3) := by decide +kernel
theorem dX11_ofAll_80 : decode cX11_ofAll 80 = .ok (.bipush (-5), 2) := by decide +kernel
theorem dX11_ofAll_82 : decode cX11_ofAll 82 = .ok (.ireturn, 1) := by decide +kernel
theorem dX11_ofAll_83 : decode cX11_ofAll 83 = .ok (.aload_n 0, 1) := by decide +kernel
theorem dX11_ofAll_84 : decode cX11_ofAll 84 = .ok (.getfield 74, 3) := by decide +kernel
theorem q_394 : Cond.fieldLink RX11 179 RX3 "foxes" "I" ∈ lw_g := mem_q 394 (by decide +kernel) rfl
theorem dX11_ofAll_87 : decode cX11_ofAll 87 = .ok (.getfield 179, 3) := by decide +kernel
theorem dX11_ofAll_90 : decode cX11_ofAll 90 = .ok (.ireturn, 1) := by decide +kernel
theorem q_667 : Cond.constant RX11 149 (-2000000000) ∈ lw_g := mem_q 667 (by decide +kernel) rfl
theorem dX11_ofAll_91 : decode cX11_ofAll 91 = .ok (.ldc 149, 2) := by decide +kernel
theorem dX11_ofAll_93 : decode cX11_ofAll 93 = .ok (.ireturn, 1) := by decide +kernel
set_option maxHeartbeats 4000000 in
set_option maxRecDepth 100000 in
theorem cF_ofAll (l : Launch) (J : va_J9) (a : Nat → Nat) (k : Int32) : RC l J yX11_ofAll cX11_ofAll 2 (some .int) ({ frames := 0, cells := 0, slots := 0, locals := 0 }) [.ref (a 0), .int k] [((a 0), .inr (11, [.ref (a 1), .ref (a 6), .ref (a 10), .ref (a 15), .ref (a 17), .ref (a 22), .ref (a 23), .ref (a 30), .ref (a 31), .ref (a 34), .int 0, .ref (a 37), .ref (a 40)])), ((a 6), .inr (10, [.ref (a 1), .ref (a 7), .ref (a 8), .ref (a 9), .int 0, .int 0, .int 0, .int 0, .int 1, .int 0, .int 0])), ((a 31), .inr (3, [.ref (a 6), .ref (a 32), .ref (a 33), .int 0, .int 0, .int 0, .int 0, .int 0]))] (vp_Si (fun r => r = sp_of 0 (k.toInt))) := by
  refine rc_of (by decide) (Nat.le_of_ble_eq_true rfl) ?_
  intro p e s m below meth c ls hE hl hP hK
  obtain ⟨hx, hb, hr, hml, hown, hts, hlk, hin⟩ := hE
  have hown : s.vm.findClass RX11 = some m.cls := hown
  have hl : lv_has ls 2 [(0, .ref (a 0)), (1, .int k)] := hl
  have rg_k := i_rng k
  refine lv_iload_n hx hb dX11_ofAll_0 rfl (lv_at hl 1 rfl) ?_
  rcases Decidable.em (k = 10) with c1 | c1
  · have j2 : k.toInt = 10 := (i_eq rfl (by decide)).mp c1
    refine top_i (y := 10) c1 ?_
    refine lv_tableIn (tgt := 36) (off := 35) hx hb dX11_ofAll_1 (by decide) (by decide) (by decide) (by decide) ?_
    refine lv_aload_n hx hb dX11_ofAll_36 rfl (lv_at hl 0 rfl) ?_
    refine va_get (D := J.1) (ci := 11) (v := .ref (a 6)) (C := RX11) (T := TX11) (N := 13) hx hb hts inX11 hown hK.1 hP 0 rfl rfl 1 (by decide) (hts _ q_461) (fun _ h9 => h9) rfl dX11_ofAll_37 ?_
    refine va_get (D := J.1) (ci := 10) (v := .int 1) (C := RX10) (T := TX10) (N := 11) hx hb hts inX10 hown hK.1 hP 1 rfl rfl 8 (by decide) (hts _ q_187) (fun _ h9 => h9) rfl dX11_ofAll_40 ?_
    exact rz_i hx hb hr hlk (by unfold sp_of; (repeat' split) <;> first | rfl | (exfalso; omega)) dX11_ofAll_43
  have j3 : ¬ (k.toInt = 10) := fun h => c1 ((i_eq rfl (by decide)).mpr h)
  rcases Decidable.em (k = 11) with c4 | c4
  · have j5 : k.toInt = 11 := (i_eq rfl (by decide)).mp c4
    refine top_i (y := 11) c4 ?_
    refine lv_tableIn (tgt := 44) (off := 43) hx hb dX11_ofAll_1 (by decide) (by decide) (by decide) (by decide) ?_
    refine lv_aload_n hx hb dX11_ofAll_44 rfl (lv_at hl 0 rfl) ?_
    refine va_get (D := J.1) (ci := 11) (v := .ref (a 6)) (C := RX11) (T := TX11) (N := 13) hx hb hts inX11 hown hK.1 hP 0 rfl rfl 1 (by decide) (hts _ q_461) (fun _ h9 => h9) rfl dX11_ofAll_45 ?_
    refine va_get (D := J.1) (ci := 10) (v := .int 0) (C := RX10) (T := TX10) (N := 11) hx hb hts inX10 hown hK.1 hP 1 rfl rfl 9 (by decide) (hts _ q_188) (fun _ h9 => h9) rfl dX11_ofAll_48 ?_
    exact rz_i hx hb hr hlk (by unfold sp_of; (repeat' split) <;> first | rfl | (exfalso; omega)) dX11_ofAll_51
  have j6 : ¬ (k.toInt = 11) := fun h => c4 ((i_eq rfl (by decide)).mpr h)
  rcases Decidable.em (k = 12) with c7 | c7
  · have j8 : k.toInt = 12 := (i_eq rfl (by decide)).mp c7
    refine top_i (y := 12) c7 ?_
    refine lv_tableIn (tgt := 52) (off := 51) hx hb dX11_ofAll_1 (by decide) (by decide) (by decide) (by decide) ?_
    refine lv_aload_n hx hb dX11_ofAll_52 rfl (lv_at hl 0 rfl) ?_
    refine va_get (D := J.1) (ci := 11) (v := .ref (a 31)) (C := RX11) (T := TX11) (N := 13) hx hb hts inX11 hown hK.1 hP 0 rfl rfl 8 (by decide) (hts _ q_468) (fun _ h9 => h9) rfl dX11_ofAll_53 ?_
    refine va_get (D := J.1) (ci := 3) (v := .int 0) (C := RX3) (T := TX3) (N := 8) hx hb hts inX3 hown hK.1 hP 2 rfl rfl 5 (by decide) (hts _ q_390) (fun _ h9 => h9) rfl dX11_ofAll_56 ?_
    exact rz_i hx hb hr hlk (by unfold sp_of; (repeat' split) <;> first | rfl | (exfalso; omega)) dX11_ofAll_59
  have j9 : ¬ (k.toInt = 12) := fun h => c7 ((i_eq rfl (by decide)).mpr h)
  rcases Decidable.em (k = 13) with c10 | c10
  · have j11 : k.toInt = 13 := (i_eq rfl (by decide)).mp c10
    refine top_i (y := 13) c10 ?_
    refine lv_tableIn (tgt := 60) (off := 59) hx hb dX11_ofAll_1 (by decide) (by decide) (by decide) (by decide) ?_
    refine lv_aload_n hx hb dX11_ofAll_60 rfl (lv_at hl 0 rfl) ?_
    refine va_get (D := J.1) (ci := 11) (v := .ref (a 31)) (C := RX11) (T := TX11) (N := 13) hx hb hts inX11 hown hK.1 hP 0 rfl rfl 8 (by decide) (hts _ q_468) (fun _ h9 => h9) rfl dX11_ofAll_61 ?_
    refine va_get (D := J.1) (ci := 3) (v := .int 0) (C := RX3) (T := TX3) (N := 8) hx hb hts inX3 hown hK.1 hP 2 rfl rfl 4 (by decide) (hts _ q_388) (fun _ h9 => h9) rfl dX11_ofAll_64 ?_
    refine lv_if_eq (tgt := 80) hx hb dX11_ofAll_67 (by decide) (fun _ => ?_) (fun c => absurd c (by decide))
    refine lv_bipush (v := (-5)) hx hb dX11_ofAll_80 (by decide) ?_
    exact rz_i hx hb hr hlk (by unfold sp_of; (repeat' split) <;> first | rfl | (exfalso; omega)) dX11_ofAll_82
  have j12 : ¬ (k.toInt = 13) := fun h => c10 ((i_eq rfl (by decide)).mpr h)
  rcases Decidable.em (k = 14) with c13 | c13
  · have j14 : k.toInt = 14 := (i_eq rfl (by decide)).mp c13
    refine top_i (y := 14) c13 ?_
    refine lv_tableIn (tgt := 83) (off := 82) hx hb dX11_ofAll_1 (by decide) (by decide) (by decide) (by decide) ?_
    refine lv_aload_n hx hb dX11_ofAll_83 rfl (lv_at hl 0 rfl) ?_
    refine va_get (D := J.1) (ci := 11) (v := .ref (a 31)) (C := RX11) (T := TX11) (N := 13) hx hb hts inX11 hown hK.1 hP 0 rfl rfl 8 (by decide) (hts _ q_468) (fun _ h9 => h9) rfl dX11_ofAll_84 ?_
    refine va_get (D := J.1) (ci := 3) (v := .int 0) (C := RX3) (T := TX3) (N := 8) hx hb hts inX3 hown hK.1 hP 2 rfl rfl 7 (by decide) (hts _ q_394) (fun _ h9 => h9) rfl dX11_ofAll_87 ?_
    exact rz_i hx hb hr hlk (by unfold sp_of; (repeat' split) <;> first | rfl | (exfalso; omega)) dX11_ofAll_90
  have j15 : ¬ (k.toInt = 14) := fun h => c13 ((i_eq rfl (by decide)).mpr h)
  refine lv_tableOut (tgt := 91) hx hb dX11_ofAll_1 (by omega) (by decide) ?_
  refine lv_ldc (v := (-2000000000)) hx hb hown (hts _ q_667) dX11_ofAll_91 ?_
  exact rz_i hx hb hr hlk (by unfold sp_of; (repeat' split) <;> first | rfl | (exfalso; omega)) dX11_ofAll_93
theorem dX11_of_0 : decode cX11_of 0 = .ok (.iload_n 2, 1) := by decide +kernel
theorem dX11_of_1 : decode cX11_of 1 = .ok (.ifCond .lt 31, 3) := by decide +kernel
theorem dX11_of_32 : decode cX11_of 32 = .ok (.iload_n 1, 1) := by decide +kernel
theorem dX11_of_33 : decode cX11_of 33 = .ok (.ifCond .ne 11, 3) := by decide +kernel
theorem dX11_of_44 : decode cX11_of 44 = .ok (.ldc 149, 2) := by decide +kernel
theorem dX11_of_46 : decode cX11_of 46 = .ok (.ireturn, 1) := by decide +kernel
theorem dX11_of_36 : decode cX11_of 36 = .ok (.aload_n 0, 1) := by decide +kernel
theorem dX11_of_37 : decode cX11_of 37 = .ok (.iload_n 2, 1) := by decide +kernel
theorem q_668 : Cond.methodLink RX11 150 yX11_ofAll ∈ lw_g := mem_q 668 (by decide +kernel) rfl
theorem q_670 : Cond.instanceMethod yX11_ofAll ∈ lw_g := mem_q 670 (by decide +kernel) rfl
theorem q_8 : Cond.selects RX11 yX11_ofAll yX11_ofAll ∈ lw_g := mem_q 8 (by decide +kernel) rfl
theorem q_671 : Cond.code yX11_ofAll cX11_ofAll 2 (some .int) ∈ lw_g := mem_q 671 (by decide +kernel) rfl
theorem kV_RX11_150 : CV RX11 150 RX11 yX11_ofAll cX11_ofAll 2 (some .int) 1 := cv_of q_668 q_670 q_8 q_103 q_671 (by decide +kernel)
theorem dX11_of_38 : decode cX11_of 38 = .ok (.invokevirtual 150, 3) := by decide +kernel
theorem dX11_of_41 : decode cX11_of 41 = .ok (.goto 5, 3) := by decide +kernel
theorem dX11_of_4 : decode cX11_of 4 = .ok (.iload_n 2, 1) := by decide +kernel
theorem dX11_of_5 : decode cX11_of 5 = .ok (.iconst 4, 1) := by decide +kernel
theorem dX11_of_6 : decode cX11_of 6 = .ok (.if_icmp .gt 26, 3) := by decide +kernel
theorem dX11_of_9 : decode cX11_of 9 = .ok (.aload_n 0, 1) := by decide +kernel
theorem dX11_of_10 : decode cX11_of 10 = .ok (.getfield 21, 3) := by decide +kernel
theorem dX11_of_13 : decode cX11_of 13 = .ok (.iload_n 1, 1) := by decide +kernel
theorem dX11_of_14 : decode cX11_of 14 = .ok (.invokevirtual 143, 3) := by decide +kernel
theorem dX11_of_17 : decode cX11_of 17 = .ok (.ifCond .eq 12, 3) := by decide +kernel
theorem dX11_of_29 : decode cX11_of 29 = .ok (.ldc 149, 2) := by decide +kernel
theorem dX11_of_31 : decode cX11_of 31 = .ok (.ireturn, 1) := by decide +kernel
set_option maxHeartbeats 4000000 in
set_option maxRecDepth 100000 in
theorem c_of (l : Launch) (J : va_J9) (a : Nat → Nat) (n : Int32) (k : Int32) : RC l J yX11_of cX11_of 3 (some .int) ({ frames := 1, cells := 0, slots := 0, locals := 21 }) [.ref (a 0), .int n, .int k] [((a 0), .inr (11, [.ref (a 1), .ref (a 6), .ref (a 10), .ref (a 15), .ref (a 17), .ref (a 22), .ref (a 23), .ref (a 30), .ref (a 31), .ref (a 34), .int 0, .ref (a 37), .ref (a 40)])), ((a 6), .inr (10, [.ref (a 1), .ref (a 7), .ref (a 8), .ref (a 9), .int 0, .int 0, .int 0, .int 0, .int 1, .int 0, .int 0])), ((a 31), .inr (3, [.ref (a 6), .ref (a 32), .ref (a 33), .int 0, .int 0, .int 0, .int 0, .int 0]))] (vp_Si (fun r => r = sp_of (n.toInt) (k.toInt))) := by
  refine rc_of (by decide) (Nat.le_of_ble_eq_true rfl) ?_
  intro p e s m below meth c ls hE hl hP hK
  obtain ⟨hx, hb, hr, hml, hown, hts, hlk, hin⟩ := hE
  have hown : s.vm.findClass RX11 = some m.cls := hown
  have hl : lv_has ls 3 [(0, .ref (a 0)), (1, .int n), (2, .int k)] := hl
  have rg_n := i_rng n
  have rg_k := i_rng k
  refine lv_iload_n hx hb dX11_of_0 rfl (lv_at hl 2 rfl) ?_
  refine lv_if_lt (tgt := 32) hx hb dX11_of_1 (by decide) (fun c1 => ?_) (fun c1 => ?_)
  · have j2 : k.toInt < 0 := (i_lt rfl (by decide)).mp c1
    refine lv_iload_n hx hb dX11_of_32 rfl (lv_at hl 1 rfl) ?_
    refine lv_if_ne (tgt := 44) hx hb dX11_of_33 (by decide) (fun c3 => ?_) (fun c3 => ?_)
    · have j4 : ¬ (n.toInt = 0) := fun h => c3 ((i_eq rfl (by decide)).mpr h)
      refine lv_ldc (v := (-2000000000)) hx hb hown (hts _ q_667) dX11_of_44 ?_
      exact rz_i hx hb hr hlk (by unfold sp_of; (repeat' split) <;> first | rfl | (exfalso; omega)) dX11_of_46
    · have j5 : n.toInt = 0 := (i_eq rfl (by decide)).mp c3
      refine lv_aload_n hx hb dX11_of_36 rfl (lv_at hl 0 rfl) ?_
      refine lv_iload_n hx hb dX11_of_37 rfl (lv_at hl 2 rfl) ?_
      refine go_i (rn_V (As := [.int k]) (rest := []) hx hb hml hown hts hK (cF_ofAll l J a k) kV_RX11_150 hP rfl rfl rfl ⟨Nat.le_of_ble_eq_true rfl, Nat.le_of_ble_eq_true rfl⟩ rfl rfl rfl hl.1 rfl (Nat.le_of_ble_eq_true rfl) ⟨Nat.le_of_ble_eq_true rfl, Nat.le_of_ble_eq_true rfl⟩ dX11_of_38) ?_
      refine lv_goto (tgt := 46) hx hb dX11_of_41 (by decide) ?_
      exact rz_i hx hb hr hlk (by unfold sp_of; (repeat' split) <;> first | rfl | (exfalso; omega)) dX11_of_46
  · have j6 : ¬ (k.toInt < 0) := fun h => c1 ((i_lt rfl (by decide)).mpr h)
    refine lv_iload_n hx hb dX11_of_4 rfl (lv_at hl 2 rfl) ?_
    refine lv_iconst (v := 4) hx hb dX11_of_5 (by decide) ?_
    refine lv_icmp_gt (tgt := 32) hx hb dX11_of_6 (by decide) (fun c7 => ?_) (fun c7 => ?_)
    · have j8 : 4 < k.toInt := (i_lt (by decide) rfl).mp c7
      refine lv_iload_n hx hb dX11_of_32 rfl (lv_at hl 1 rfl) ?_
      refine lv_if_ne (tgt := 44) hx hb dX11_of_33 (by decide) (fun c9 => ?_) (fun c9 => ?_)
      · have j10 : ¬ (n.toInt = 0) := fun h => c9 ((i_eq rfl (by decide)).mpr h)
        refine lv_ldc (v := (-2000000000)) hx hb hown (hts _ q_667) dX11_of_44 ?_
        exact rz_i hx hb hr hlk (by unfold sp_of; (repeat' split) <;> first | rfl | (exfalso; omega)) dX11_of_46
      · have j11 : n.toInt = 0 := (i_eq rfl (by decide)).mp c9
        refine lv_aload_n hx hb dX11_of_36 rfl (lv_at hl 0 rfl) ?_
        refine lv_iload_n hx hb dX11_of_37 rfl (lv_at hl 2 rfl) ?_
        refine go_i (rn_V (As := [.int k]) (rest := []) hx hb hml hown hts hK (cF_ofAll l J a k) kV_RX11_150 hP rfl rfl rfl ⟨Nat.le_of_ble_eq_true rfl, Nat.le_of_ble_eq_true rfl⟩ rfl rfl rfl hl.1 rfl (Nat.le_of_ble_eq_true rfl) ⟨Nat.le_of_ble_eq_true rfl, Nat.le_of_ble_eq_true rfl⟩ dX11_of_38) ?_
        refine lv_goto (tgt := 46) hx hb dX11_of_41 (by decide) ?_
        exact rz_i hx hb hr hlk (by unfold sp_of; (repeat' split) <;> first | rfl | (exfalso; omega)) dX11_of_46
    · have j12 : ¬ (4 < k.toInt) := fun h => c7 ((i_lt (by decide) rfl).mpr h)
      refine lv_aload_n hx hb dX11_of_9 rfl (lv_at hl 0 rfl) ?_
      refine va_get (D := J.1) (ci := 11) (v := .ref (a 6)) (C := RX11) (T := TX11) (N := 13) hx hb hts inX11 hown hK.1 hP 0 rfl rfl 1 (by decide) (hts _ q_461) (fun _ h9 => h9) rfl dX11_of_10 ?_
      refine lv_iload_n hx hb dX11_of_13 rfl (lv_at hl 1 rfl) ?_
      refine go_i (rn_V (As := [.int n]) (rest := []) hx hb hml hown hts hK (cW_isHole l J (a 6) (a 1) (a 7) (a 8) (a 9) n) kV_RX11_143 (hP.sub (ws' := [((a 6), .inr (10, [.ref (a 1), .ref (a 7), .ref (a 8), .ref (a 9), .int 0, .int 0, .int 0, .int 0, .int 1, .int 0, .int 0]))]) [1] rfl) rfl rfl rfl ⟨Nat.le_of_ble_eq_true rfl, Nat.le_of_ble_eq_true rfl⟩ rfl rfl rfl hl.1 rfl (Nat.le_of_ble_eq_true rfl) ⟨Nat.le_of_ble_eq_true rfl, Nat.le_of_ble_eq_true rfl⟩ dX11_of_14) ?_
      refine lv_if_eq (tgt := 29) hx hb dX11_of_17 (by decide) (fun _ => ?_) (fun c => absurd c (by decide))
      refine lv_ldc (v := (-2000000000)) hx hb hown (hts _ q_667) dX11_of_29 ?_
      exact rz_i hx hb hr hlk (by unfold sp_of; (repeat' split) <;> first | rfl | (exfalso; omega)) dX11_of_31
theorem dX11_feed_0 : decode cX11_feed 0 = .ok (.iload_n 1, 1) := by decide +kernel
theorem dX11_feed_1 : decode cX11_feed 1 = .ok (.ifCond .lt 10, 3) := by decide +kernel
theorem dX11_feed_11 : decode cX11_feed 11 = .ok (.iconst (-1), 1) := by decide +kernel
theorem dX11_feed_12 : decode cX11_feed 12 = .ok (.ireturn, 1) := by decide +kernel
theorem dX11_feed_4 : decode cX11_feed 4 = .ok (.iload_n 1, 1) := by decide +kernel
theorem dX11_feed_5 : decode cX11_feed 5 = .ok (.sipush 255, 3) := by decide +kernel
theorem dX11_feed_8 : decode cX11_feed 8 = .ok (.if_icmp .le 5, 3) := by decide +kernel
theorem dX11_feed_13 : decode cX11_feed 13 = .ok (.aload_n 0, 1) := by decide +kernel
theorem q_460 : Cond.fieldLink RX11 10 RX11 "text" "LFoxHoles$Law;" ∈ lw_g := mem_q 460 (by decide +kernel) rfl
theorem dX11_feed_14 : decode cX11_feed 14 = .ok (.getfield 10, 3) := by decide +kernel
theorem dX11_feed_17 : decode cX11_feed 17 = .ok (.iload_n 1, 1) := by decide +kernel
theorem q_676 : Cond.methodLink RX11 182 yX7_write ∈ lw_g := mem_q 676 (by decide +kernel) rfl
theorem q_677 : Cond.instanceMethod yX7_write ∈ lw_g := mem_q 677 (by decide +kernel) rfl
theorem q_678 : Cond.selects RX7 yX7_write yX7_write ∈ lw_g := mem_q 678 (by decide +kernel) rfl
theorem q_679 : Cond.code yX7_write cX7_write 2 (some .int) ∈ lw_g := mem_q 679 (by decide +kernel) rfl
theorem kV_RX11_182 : CV RX11 182 RX7 yX7_write cX7_write 2 (some .int) 1 := cv_of q_676 q_677 q_678 q_104 q_679 (by decide +kernel)
theorem dX11_feed_18 : decode cX11_feed 18 = .ok (.invokevirtual 182, 3) := by decide +kernel
theorem dX11_feed_21 : decode cX11_feed 21 = .ok (.ireturn, 1) := by decide +kernel
set_option maxHeartbeats 4000000 in
set_option maxRecDepth 100000 in
theorem c_feed (l : Launch) (J : va_J9) (sz : Nat) (a : Nat → Nat) (x : Int32) : WC l J yX11_feed cX11_feed 2 (some .int) ({ frames := 1, cells := 0, slots := 0, locals := 21 }) [.ref (a 0), .int x] [((a 0), .inr (11, [.ref (a 1), .ref (a 6), .ref (a 10), .ref (a 15), .ref (a 17), .ref (a 22), .ref (a 23), .ref (a 30), .ref (a 31), .ref (a 34), .int 0, .ref (a 37), .ref (a 40)])), ((a 1), .inr (7, [.ref (a 2), .int 0, .ref (a 3), .int 0, .int 0, .int 0, .ref (a 4), .int 0, .ref (a 5), .int 0])), ((a 2), .inl (J.2.1, 120, .inl (fun _ => 0)))] sz (Qi J (fun (r : Int32) (_ : Unit) => r = sp_feed (x.toInt)) (fun (_ : Unit) => [])) 0 0 := by
  refine wc_of (by decide) (Nat.le_of_ble_eq_true rfl) ?_
  intro p e s m below meth c ls A hE hl hP hK hD hS hA
  obtain ⟨hx, hb, hr, hml, hown, hts, hlk, hin⟩ := hE
  have hown : s.vm.findClass RX11 = some m.cls := hown
  have hl : lv_has ls 2 [(0, .ref (a 0)), (1, .int x)] := hl
  have rg_x := i_rng x
  refine lv_iload_n hx hb dX11_feed_0 rfl (lv_at hl 1 rfl) ?_
  refine lv_if_lt (tgt := 11) hx hb dX11_feed_1 (by decide) (fun c1 => ?_) (fun c1 => ?_)
  · have j2 : x.toInt < 0 := (i_lt rfl (by decide)).mp c1
    refine lv_iconst (v := (-1)) hx hb dX11_feed_11 (by decide) ?_
    exact wz_i () hx hb hr hlk (by unfold sp_feed; (repeat' split) <;> first | rfl | (exfalso; omega)) (hP.sub (ws' := []) [] rfl) (hD.sub (ws' := []) [] (by decide) rfl) hS dX11_feed_12
  · have j3 : ¬ (x.toInt < 0) := fun h => c1 ((i_lt rfl (by decide)).mpr h)
    refine lv_iload_n hx hb dX11_feed_4 rfl (lv_at hl 1 rfl) ?_
    refine lv_sipush (v := 255) hx hb dX11_feed_5 (by decide) ?_
    refine lv_icmp_le (tgt := 13) hx hb dX11_feed_8 (by decide) (fun c4 => ?_) (fun c4 => ?_)
    · have j5 : x.toInt ≤ 255 := (i_le rfl (by decide)).mp c4
      refine lv_aload_n hx hb dX11_feed_13 rfl (lv_at hl 0 rfl) ?_
      refine va_get (D := J.1) (ci := 11) (v := .ref (a 1)) (C := RX11) (T := TX11) (N := 13) hx hb hts inX11 hown hK.1 hP 0 rfl rfl 0 (by decide) (hts _ q_460) (fun _ h9 => h9) rfl dX11_feed_14 ?_
      refine lv_iload_n hx hb dX11_feed_17 rfl (lv_at hl 1 rfl) ?_
      refine gw_i (wc := [((a 1), .inr (7, [.ref (a 2), .int 0, .ref (a 3), .int 0, .int 0, .int 0, .ref (a 4), .int 0, .ref (a 5), .int 0])), ((a 2), .inl (J.2.1, 120, .inl (fun _ => 0)))]) (wr := [((a 0), .inr (11, [.ref (a 1), .ref (a 6), .ref (a 10), .ref (a 15), .ref (a 17), .ref (a 22), .ref (a 23), .ref (a 30), .ref (a 31), .ref (a 34), .int 0, .ref (a 37), .ref (a 40)]))]) hP hD hS hA [1, 2] [0] rfl rfl (by decide) (by decide) (wn_V (As := [.int x]) (rest := []) hx hb hml hown hts hK (cL_write l J _ (a 1) (a 2) (a 3) (a 4) (a 5) x) kV_RX11_182 (hP.sub (ws' := [((a 1), .inr (7, [.ref (a 2), .int 0, .ref (a 3), .int 0, .int 0, .int 0, .ref (a 4), .int 0, .ref (a 5), .int 0])), ((a 2), .inl (J.2.1, 120, .inl (fun _ => 0)))]) [1, 2] rfl) ((hD.sub (ws' := [((a 1), .inr (7, [.ref (a 2), .int 0, .ref (a 3), .int 0, .int 0, .int 0, .ref (a 4), .int 0, .ref (a 5), .int 0])), ((a 2), .inl (J.2.1, 120, .inl (fun _ => 0)))]) [1, 2] (by decide) rfl).weaken (fun _ _ _ _ => trivial)) rfl rfl rfl ⟨Nat.le_of_ble_eq_true rfl, Nat.le_of_ble_eq_true rfl⟩ rfl rfl rfl hl.1 rfl (Nat.le_of_ble_eq_true rfl) ⟨Nat.le_of_ble_eq_true rfl, Nat.le_of_ble_eq_true rfl⟩ dX11_feed_18) (fun r7 u6 H locs hw hP hD hS => ?_)
      subst hw
      have hP : va_P J.1 cls [((a 0), .inr (11, [.ref (a 1), .ref (a 6), .ref (a 10), .ref (a 15), .ref (a 17), .ref (a 22), .ref (a 23), .ref (a 30), .ref (a 31), .ref (a 34), .int 0, .ref (a 37), .ref (a 40)]))] H := hP
      have hD : va_D A [((a 0), .inr (11, [.ref (a 1), .ref (a 6), .ref (a 10), .ref (a 15), .ref (a 17), .ref (a 22), .ref (a 23), .ref (a 30), .ref (a 31), .ref (a 34), .int 0, .ref (a 37), .ref (a 40)]))] := hD
      refine W.widen (k := 0) (n := 0) (Nat.le_of_ble_eq_true rfl) (Nat.le_of_ble_eq_true rfl) ?_
      exact wz_i () hx hb hr hlk (by unfold sp_feed; (repeat' split) <;> first | rfl | (exfalso; omega)) (hP.sub (ws' := []) [] rfl) (hD.sub (ws' := []) [] (by decide) rfl) hS dX11_feed_21
    · have j8 : ¬ (x.toInt ≤ 255) := fun h => c4 ((i_le rfl (by decide)).mpr h)
      refine lv_iconst (v := (-1)) hx hb dX11_feed_11 (by decide) ?_
      exact wz_i () hx hb hr hlk (by unfold sp_feed; (repeat' split) <;> first | rfl | (exfalso; omega)) (hP.sub (ws' := []) [] rfl) (hD.sub (ws' := []) [] (by decide) rfl) hS dX11_feed_12
theorem dX11_law_0 : decode cX11_law 0 = .ok (.aload_n 0, 1) := by decide +kernel
theorem dX11_law_1 : decode cX11_law 1 = .ok (.getfield 10, 3) := by decide +kernel
theorem q_684 : Cond.methodLink RX11 185 yX7_read ∈ lw_g := mem_q 684 (by decide +kernel) rfl
theorem q_685 : Cond.instanceMethod yX7_read ∈ lw_g := mem_q 685 (by decide +kernel) rfl
theorem q_686 : Cond.selects RX7 yX7_read yX7_read ∈ lw_g := mem_q 686 (by decide +kernel) rfl
theorem q_687 : Cond.code yX7_read cX7_read 1 (some .int) ∈ lw_g := mem_q 687 (by decide +kernel) rfl
theorem kV_RX11_185 : CV RX11 185 RX7 yX7_read cX7_read 1 (some .int) 0 := cv_of q_684 q_685 q_686 q_104 q_687 (by decide +kernel)
theorem dX11_law_4 : decode cX11_law 4 = .ok (.invokevirtual 185, 3) := by decide +kernel
theorem dX11_law_7 : decode cX11_law 7 = .ok (.istore_n 1, 1) := by decide +kernel
theorem dX11_law_8 : decode cX11_law 8 = .ok (.iload_n 1, 1) := by decide +kernel
theorem dX11_law_9 : decode cX11_law 9 = .ok (.iconst 1, 1) := by decide +kernel
theorem dX11_law_10 : decode cX11_law 10 = .ok (.if_icmp .ne 17, 3) := by decide +kernel
theorem dX11_law_27 : decode cX11_law 27 = .ok (.iload_n 1, 1) := by decide +kernel
theorem dX11_law_28 : decode cX11_law 28 = .ok (.ireturn, 1) := by decide +kernel
set_option maxHeartbeats 4000000 in
set_option maxRecDepth 100000 in
theorem c_law (l : Launch) (J : va_J9) (sz : Nat) (a : Nat → Nat) : WC l J yX11_law cX11_law 2 (some .int) ({ frames := 11, cells := 0, slots := 0, locals := 248 }) [.ref (a 0)] [((a 0), .inr (11, [.ref (a 1), .ref (a 6), .ref (a 10), .ref (a 15), .ref (a 17), .ref (a 22), .ref (a 23), .ref (a 30), .ref (a 31), .ref (a 34), .int 0, .ref (a 37), .ref (a 40)])), ((a 1), .inr (7, [.ref (a 2), .int 0, .ref (a 3), .int 0, .int 0, .int 0, .ref (a 4), .int 0, .ref (a 5), .int 0])), ((a 3), .inl (J.2.1, 256, .inl (fun _ => 0)))] sz (Qi J (fun (r : Int32) (_ : Unit) => r = (-100)) (fun (_ : Unit) => [])) 0 0 := by
  refine wc_of (by decide) (Nat.le_of_ble_eq_true rfl) ?_
  intro p e s m below meth c ls A hE hl hP hK hD hS hA
  obtain ⟨hx, hb, hr, hml, hown, hts, hlk, hin⟩ := hE
  have hown : s.vm.findClass RX11 = some m.cls := hown
  have hl : lv_has ls 2 [(0, .ref (a 0))] := hl
  refine lv_aload_n hx hb dX11_law_0 rfl (lv_at hl 0 rfl) ?_
  refine va_get (D := J.1) (ci := 11) (v := .ref (a 1)) (C := RX11) (T := TX11) (N := 13) hx hb hts inX11 hown hK.1 hP 0 rfl rfl 0 (by decide) (hts _ q_460) (fun _ h9 => h9) rfl dX11_law_1 ?_
  refine gw_i (wc := [((a 1), .inr (7, [.ref (a 2), .int 0, .ref (a 3), .int 0, .int 0, .int 0, .ref (a 4), .int 0, .ref (a 5), .int 0])), ((a 3), .inl (J.2.1, 256, .inl (fun _ => 0)))]) (wr := [((a 0), .inr (11, [.ref (a 1), .ref (a 6), .ref (a 10), .ref (a 15), .ref (a 17), .ref (a 22), .ref (a 23), .ref (a 30), .ref (a 31), .ref (a 34), .int 0, .ref (a 37), .ref (a 40)]))]) hP hD hS hA [1, 2] [0] rfl rfl (by decide) (by decide) (wn_V (As := []) (rest := []) hx hb hml hown hts hK (cL_read l J _ (a 1) (a 2) (a 3) (a 4) (a 5)) kV_RX11_185 (hP.sub (ws' := [((a 1), .inr (7, [.ref (a 2), .int 0, .ref (a 3), .int 0, .int 0, .int 0, .ref (a 4), .int 0, .ref (a 5), .int 0])), ((a 3), .inl (J.2.1, 256, .inl (fun _ => 0)))]) [1, 2] rfl) ((hD.sub (ws' := [((a 1), .inr (7, [.ref (a 2), .int 0, .ref (a 3), .int 0, .int 0, .int 0, .ref (a 4), .int 0, .ref (a 5), .int 0])), ((a 3), .inl (J.2.1, 256, .inl (fun _ => 0)))]) [1, 2] (by decide) rfl).weaken (fun _ _ _ _ => trivial)) rfl rfl rfl ⟨Nat.le_of_ble_eq_true rfl, Nat.le_of_ble_eq_true rfl⟩ rfl rfl rfl hl.1 rfl (Nat.le_of_ble_eq_true rfl) ⟨Nat.le_of_ble_eq_true rfl, Nat.le_of_ble_eq_true rfl⟩ dX11_law_4) (fun r2 u1 H locs hw hP hD hS => ?_)
  subst hw
  have hP : va_P J.1 cls [((a 0), .inr (11, [.ref (a 1), .ref (a 6), .ref (a 10), .ref (a 15), .ref (a 17), .ref (a 22), .ref (a 23), .ref (a 30), .ref (a 31), .ref (a 34), .int 0, .ref (a 37), .ref (a 40)]))] H := hP
  have hD : va_D A [((a 0), .inr (11, [.ref (a 1), .ref (a 6), .ref (a 10), .ref (a 15), .ref (a 17), .ref (a 22), .ref (a 23), .ref (a 30), .ref (a 31), .ref (a 34), .int 0, .ref (a 37), .ref (a 40)]))] := hD
  refine W.widen (k := 0) (n := 0) (Nat.le_of_ble_eq_true rfl) (Nat.le_of_ble_eq_true rfl) ?_
  refine lv_istore_n (lv' := [(1, .int (-100)), (0, .ref (a 0))]) hx hb dX11_law_7 rfl hl (by decide) rfl (fun ls hl => ?_)
  refine lv_iload_n hx hb dX11_law_8 rfl (lv_at hl 0 rfl) ?_
  refine lv_iconst (v := 1) hx hb dX11_law_9 (by decide) ?_
  refine lv_icmp_ne (tgt := 27) hx hb dX11_law_10 (by decide) (fun _ => ?_) (fun c => absurd c (by decide))
  refine lv_iload_n hx hb dX11_law_27 rfl (lv_at hl 0 rfl) ?_
  exact wz_i () hx hb hr hlk (by decide) (hP.sub (ws' := []) [] rfl) (hD.sub (ws' := []) [] (by decide) rfl) hS dX11_law_28
theorem dX11_mayBe_0 : decode cX11_mayBe 0 = .ok (.aload_n 0, 1) := by decide +kernel
theorem dX11_mayBe_1 : decode cX11_mayBe 1 = .ok (.iload_n 1, 1) := by decide +kernel
theorem dX11_mayBe_2 : decode cX11_mayBe 2 = .ok (.invokevirtual 106, 3) := by decide +kernel
theorem dX11_mayBe_5 : decode cX11_mayBe 5 = .ok (.astore_n 3, 1) := by decide +kernel
theorem dX11_mayBe_6 : decode cX11_mayBe 6 = .ok (.aload_n 3, 1) := by decide +kernel
theorem dX11_mayBe_7 : decode cX11_mayBe 7 = .ok (.ifnull 7, 3) := by decide +kernel
theorem dX11_mayBe_10 : decode cX11_mayBe 10 = .ok (.iload_n 2, 1) := by decide +kernel
theorem dX11_mayBe_11 : decode cX11_mayBe 11 = .ok (.ifCond .ge 5, 3) := by decide +kernel
theorem dX11_mayBe_16 : decode cX11_mayBe 16 = .ok (.aload_n 3, 1) := by decide +kernel
theorem q_734 : Cond.methodLink RX11 192 yX11_refusalOf ∈ lw_g := mem_q 734 (by decide +kernel) rfl
theorem q_735 : Cond.static yX11_refusalOf ∈ lw_g := mem_q 735 (by decide +kernel) rfl
theorem q_736 : Cond.code yX11_refusalOf cX11_refusalOf 1 (some .int) ∈ lw_g := mem_q 736 (by decide +kernel) rfl
theorem kS_RX11_192 : CS RX11 192 yX11_refusalOf cX11_refusalOf 1 (some .int) 1 := cs_of q_734 q_735 q_103 q_736 (by decide +kernel)
theorem dX11_mayBe_17 : decode cX11_mayBe 17 = .ok (.invokestatic 192, 3) := by decide +kernel
theorem dX11_mayBe_20 : decode cX11_mayBe 20 = .ok (.istore 4, 2) := by decide +kernel
theorem dX11_mayBe_22 : decode cX11_mayBe 22 = .ok (.iload 4, 2) := by decide +kernel
theorem dX11_mayBe_24 : decode cX11_mayBe 24 = .ok (.ifCond .eq 6, 3) := by decide +kernel
theorem dX11_mayBe_27 : decode cX11_mayBe 27 = .ok (.iload 4, 2) := by decide +kernel
theorem dX11_mayBe_29 : decode cX11_mayBe 29 = .ok (.ireturn, 1) := by decide +kernel
theorem dX11_mayBe_14 : decode cX11_mayBe 14 = .ok (.iconst (-1), 1) := by decide +kernel
theorem dX11_mayBe_15 : decode cX11_mayBe 15 = .ok (.ireturn, 1) := by decide +kernel
set_option maxHeartbeats 4000000 in
set_option maxRecDepth 100000 in
theorem c_mayBe_in (l : Launch) (J : va_J9) (a : Nat → Nat) (f : Nat → Option Nat) (sh : Nat) (ce : Nat) (d : Int32) (k : Int32) (hd : 0 ≤ d.toInt ∧ d.toInt ≤ 5) (hf : f d.toNatClampNeg = some sh) : RC l J yX11_mayBe cX11_mayBe 5 (some .int) ({ frames := 2, cells := 0, slots := 0, locals := 40 }) [.ref (a 0), .int d, .int k] [((a 0), .inr (11, [.ref (a 1), .ref (a 6), .ref (a 10), .ref (a 15), .ref (a 17), .ref (a 22), .ref (a 23), .ref (a 30), .ref (a 31), .ref (a 34), .int 0, .ref (a 37), .ref (a 40)])), ((a 40), .inl (J.2.2.2, 6, .inr (.inr (.inr (.inr f))))), (sh, .inr (9, [.ref ce, .int 0, .int 0, .int 0, .int 0]))] (vp_Si (fun r => r = sp_mayBe (d.toInt) (k.toInt))) := by
  refine rc_of (by decide) (Nat.le_of_ble_eq_true rfl) ?_
  intro p e s m below meth c ls hE hl hP hK
  obtain ⟨hx, hb, hr, hml, hown, hts, hlk, hin⟩ := hE
  have hown : s.vm.findClass RX11 = some m.cls := hown
  have hl : lv_has ls 5 [(0, .ref (a 0)), (1, .int d), (2, .int k)] := hl
  have rg_d := i_rng d
  have rg_k := i_rng k
  refine lv_aload_n hx hb dX11_mayBe_0 rfl (lv_at hl 0 rfl) ?_
  refine lv_iload_n hx hb dX11_mayBe_1 rfl (lv_at hl 1 rfl) ?_
  refine go_a (rn_V (As := [.int d]) (rest := []) hx hb hml hown hts hK (cF_shelfIn l J a f sh d ⟨by omega, by omega⟩ hf) kV_RX11_106 (hP.sub (ws' := [((a 0), .inr (11, [.ref (a 1), .ref (a 6), .ref (a 10), .ref (a 15), .ref (a 17), .ref (a 22), .ref (a 23), .ref (a 30), .ref (a 31), .ref (a 34), .int 0, .ref (a 37), .ref (a 40)])), ((a 40), .inl (J.2.2.2, 6, .inr (.inr (.inr (.inr f)))))]) [0, 1] rfl) rfl rfl rfl ⟨Nat.le_of_ble_eq_true rfl, Nat.le_of_ble_eq_true rfl⟩ rfl rfl rfl hl.1 rfl (Nat.le_of_ble_eq_true rfl) ⟨Nat.le_of_ble_eq_true rfl, Nat.le_of_ble_eq_true rfl⟩ dX11_mayBe_2) ?_
  refine top_q (y := sh) rfl ?_
  refine lv_astore_n (lv' := [(3, .ref sh), (0, .ref (a 0)), (1, .int d), (2, .int k)]) hx hb dX11_mayBe_5 rfl hl (by decide) rfl (fun ls hl => ?_)
  refine lv_aload_n hx hb dX11_mayBe_6 rfl (lv_at hl 0 rfl) ?_
  refine lv_ifnull hx hb dX11_mayBe_7 ?_
  refine lv_iload_n hx hb dX11_mayBe_10 rfl (lv_at hl 3 rfl) ?_
  refine lv_if_ge (tgt := 16) hx hb dX11_mayBe_11 (by decide) (fun c1 => ?_) (fun c1 => ?_)
  · have j2 : 0 ≤ k.toInt := (i_le (by decide) rfl).mp c1
    refine lv_aload_n hx hb dX11_mayBe_16 rfl (lv_at hl 0 rfl) ?_
    refine go_i (rn_S (As := [.ref sh]) (rest := []) hx hb hml hown hts hK (cF_refusal l J sh ce) kS_RX11_192 (hP.sub (ws' := [(sh, .inr (9, [.ref ce, .int 0, .int 0, .int 0, .int 0]))]) [2] rfl) ⟨Nat.le_of_ble_eq_true rfl, Nat.le_of_ble_eq_true rfl⟩ rfl rfl rfl hl.1 rfl (Nat.le_of_ble_eq_true rfl) ⟨Nat.le_of_ble_eq_true rfl, Nat.le_of_ble_eq_true rfl⟩ dX11_mayBe_17) ?_
    refine lv_istore (lv' := [(4, .int (-11)), (3, .ref sh), (0, .ref (a 0)), (1, .int d), (2, .int k)]) hx hb dX11_mayBe_20 hl (by decide) rfl (fun ls hl => ?_)
    refine lv_iload hx hb dX11_mayBe_22 (lv_at hl 0 rfl) ?_
    refine lv_if_eq (tgt := 30) hx hb dX11_mayBe_24 (by decide) (fun c => absurd c (by decide)) (fun _ => ?_)
    refine lv_iload hx hb dX11_mayBe_27 (lv_at hl 0 rfl) ?_
    exact rz_i hx hb hr hlk (by unfold sp_mayBe; (repeat' split) <;> first | rfl | (exfalso; omega)) dX11_mayBe_29
  · have j3 : ¬ (0 ≤ k.toInt) := fun h => c1 ((i_le (by decide) rfl).mpr h)
    refine lv_iconst (v := (-1)) hx hb dX11_mayBe_14 (by decide) ?_
    exact rz_i hx hb hr hlk (by unfold sp_mayBe; (repeat' split) <;> first | rfl | (exfalso; omega)) dX11_mayBe_15
set_option maxHeartbeats 4000000 in
set_option maxRecDepth 100000 in
theorem c_mayBe_out (l : Launch) (J : va_J9) (a : Nat → Nat) (d : Int32) (k : Int32) (hd : ¬ (0 ≤ d.toInt ∧ d.toInt ≤ 5)) : RC l J yX11_mayBe cX11_mayBe 5 (some .int) ({ frames := 1, cells := 0, slots := 0, locals := 21 }) [.ref (a 0), .int d, .int k] [((a 0), .inr (11, [.ref (a 1), .ref (a 6), .ref (a 10), .ref (a 15), .ref (a 17), .ref (a 22), .ref (a 23), .ref (a 30), .ref (a 31), .ref (a 34), .int 0, .ref (a 37), .ref (a 40)]))] (vp_Si (fun r => r = sp_mayBe (d.toInt) (k.toInt))) := by
  refine rc_of (by decide) (Nat.le_of_ble_eq_true rfl) ?_
  intro p e s m below meth c ls hE hl hP hK
  obtain ⟨hx, hb, hr, hml, hown, hts, hlk, hin⟩ := hE
  have hown : s.vm.findClass RX11 = some m.cls := hown
  have hl : lv_has ls 5 [(0, .ref (a 0)), (1, .int d), (2, .int k)] := hl
  have rg_d := i_rng d
  have rg_k := i_rng k
  refine lv_aload_n hx hb dX11_mayBe_0 rfl (lv_at hl 0 rfl) ?_
  refine lv_iload_n hx hb dX11_mayBe_1 rfl (lv_at hl 1 rfl) ?_
  refine go_a (rn_V (As := [.int d]) (rest := []) hx hb hml hown hts hK (cF_shelfOut l J a d (by omega)) kV_RX11_106 hP rfl rfl rfl ⟨Nat.le_of_ble_eq_true rfl, Nat.le_of_ble_eq_true rfl⟩ rfl rfl rfl hl.1 rfl (Nat.le_of_ble_eq_true rfl) ⟨Nat.le_of_ble_eq_true rfl, Nat.le_of_ble_eq_true rfl⟩ dX11_mayBe_2) ?_
  refine top_n rfl ?_
  refine lv_astore_nN (lv' := [(3, .null), (0, .ref (a 0)), (1, .int d), (2, .int k)]) hx hb dX11_mayBe_5 rfl hl (by decide) rfl (fun ls hl => ?_)
  refine lv_aload_nN hx hb dX11_mayBe_6 rfl (lv_at hl 0 rfl) ?_
  refine lv_ifnullN (tgt := 14) hx hb dX11_mayBe_7 (by decide) ?_
  refine lv_iconst (v := (-1)) hx hb dX11_mayBe_14 (by decide) ?_
  exact rz_i hx hb hr hlk (by unfold sp_mayBe; (repeat' split) <;> first | rfl | (exfalso; omega)) dX11_mayBe_15
theorem dX11_caught_0 : decode cX11_caught 0 = .ok (.aload_n 0, 1) := by decide +kernel
theorem dX11_caught_1 : decode cX11_caught 1 = .ok (.iload_n 1, 1) := by decide +kernel
theorem dX11_caught_2 : decode cX11_caught 2 = .ok (.invokevirtual 106, 3) := by decide +kernel
theorem dX11_caught_5 : decode cX11_caught 5 = .ok (.astore_n 2, 1) := by decide +kernel
theorem dX11_caught_6 : decode cX11_caught 6 = .ok (.aload_n 2, 1) := by decide +kernel
theorem dX11_caught_7 : decode cX11_caught 7 = .ok (.ifnonnull 5, 3) := by decide +kernel
theorem dX11_caught_12 : decode cX11_caught 12 = .ok (.aload_n 2, 1) := by decide +kernel
theorem dX11_caught_13 : decode cX11_caught 13 = .ok (.invokestatic 192, 3) := by decide +kernel
theorem dX11_caught_16 : decode cX11_caught 16 = .ok (.istore_n 3, 1) := by decide +kernel
theorem dX11_caught_17 : decode cX11_caught 17 = .ok (.iload_n 3, 1) := by decide +kernel
theorem dX11_caught_18 : decode cX11_caught 18 = .ok (.ifCond .eq 7, 3) := by decide +kernel
theorem dX11_caught_21 : decode cX11_caught 21 = .ok (.iload_n 3, 1) := by decide +kernel
theorem dX11_caught_22 : decode cX11_caught 22 = .ok (.goto 11, 3) := by decide +kernel
theorem dX11_caught_33 : decode cX11_caught 33 = .ok (.ireturn, 1) := by decide +kernel
set_option maxHeartbeats 4000000 in
set_option maxRecDepth 100000 in
theorem c_caught_in (l : Launch) (J : va_J9) (a : Nat → Nat) (f : Nat → Option Nat) (sh : Nat) (ce : Nat) (d : Int32) (hd : 0 ≤ d.toInt ∧ d.toInt ≤ 5) (hf : f d.toNatClampNeg = some sh) : RC l J yX11_caught cX11_caught 4 (some .int) ({ frames := 2, cells := 0, slots := 0, locals := 40 }) [.ref (a 0), .int d] [((a 0), .inr (11, [.ref (a 1), .ref (a 6), .ref (a 10), .ref (a 15), .ref (a 17), .ref (a 22), .ref (a 23), .ref (a 30), .ref (a 31), .ref (a 34), .int 0, .ref (a 37), .ref (a 40)])), ((a 40), .inl (J.2.2.2, 6, .inr (.inr (.inr (.inr f))))), (sh, .inr (9, [.ref ce, .int 0, .int 0, .int 0, .int 0]))] (vp_Si (fun r => r = sp_caught (d.toInt))) := by
  refine rc_of (by decide) (Nat.le_of_ble_eq_true rfl) ?_
  intro p e s m below meth c ls hE hl hP hK
  obtain ⟨hx, hb, hr, hml, hown, hts, hlk, hin⟩ := hE
  have hown : s.vm.findClass RX11 = some m.cls := hown
  have hl : lv_has ls 4 [(0, .ref (a 0)), (1, .int d)] := hl
  have rg_d := i_rng d
  refine lv_aload_n hx hb dX11_caught_0 rfl (lv_at hl 0 rfl) ?_
  refine lv_iload_n hx hb dX11_caught_1 rfl (lv_at hl 1 rfl) ?_
  refine go_a (rn_V (As := [.int d]) (rest := []) hx hb hml hown hts hK (cF_shelfIn l J a f sh d ⟨by omega, by omega⟩ hf) kV_RX11_106 (hP.sub (ws' := [((a 0), .inr (11, [.ref (a 1), .ref (a 6), .ref (a 10), .ref (a 15), .ref (a 17), .ref (a 22), .ref (a 23), .ref (a 30), .ref (a 31), .ref (a 34), .int 0, .ref (a 37), .ref (a 40)])), ((a 40), .inl (J.2.2.2, 6, .inr (.inr (.inr (.inr f)))))]) [0, 1] rfl) rfl rfl rfl ⟨Nat.le_of_ble_eq_true rfl, Nat.le_of_ble_eq_true rfl⟩ rfl rfl rfl hl.1 rfl (Nat.le_of_ble_eq_true rfl) ⟨Nat.le_of_ble_eq_true rfl, Nat.le_of_ble_eq_true rfl⟩ dX11_caught_2) ?_
  refine top_q (y := sh) rfl ?_
  refine lv_astore_n (lv' := [(2, .ref sh), (0, .ref (a 0)), (1, .int d)]) hx hb dX11_caught_5 rfl hl (by decide) rfl (fun ls hl => ?_)
  refine lv_aload_n hx hb dX11_caught_6 rfl (lv_at hl 0 rfl) ?_
  refine lv_ifnonnull (tgt := 12) hx hb dX11_caught_7 (by decide) ?_
  refine lv_aload_n hx hb dX11_caught_12 rfl (lv_at hl 0 rfl) ?_
  refine go_i (rn_S (As := [.ref sh]) (rest := []) hx hb hml hown hts hK (cF_refusal l J sh ce) kS_RX11_192 (hP.sub (ws' := [(sh, .inr (9, [.ref ce, .int 0, .int 0, .int 0, .int 0]))]) [2] rfl) ⟨Nat.le_of_ble_eq_true rfl, Nat.le_of_ble_eq_true rfl⟩ rfl rfl rfl hl.1 rfl (Nat.le_of_ble_eq_true rfl) ⟨Nat.le_of_ble_eq_true rfl, Nat.le_of_ble_eq_true rfl⟩ dX11_caught_13) ?_
  refine lv_istore_n (lv' := [(3, .int (-11)), (2, .ref sh), (0, .ref (a 0)), (1, .int d)]) hx hb dX11_caught_16 rfl hl (by decide) rfl (fun ls hl => ?_)
  refine lv_iload_n hx hb dX11_caught_17 rfl (lv_at hl 0 rfl) ?_
  refine lv_if_eq (tgt := 25) hx hb dX11_caught_18 (by decide) (fun c => absurd c (by decide)) (fun _ => ?_)
  refine lv_iload_n hx hb dX11_caught_21 rfl (lv_at hl 0 rfl) ?_
  refine lv_goto (tgt := 33) hx hb dX11_caught_22 (by decide) ?_
  exact rz_i hx hb hr hlk (by unfold sp_caught; (repeat' split) <;> first | rfl | (exfalso; omega)) dX11_caught_33
theorem dX11_caught_10 : decode cX11_caught 10 = .ok (.iconst (-1), 1) := by decide +kernel
theorem dX11_caught_11 : decode cX11_caught 11 = .ok (.ireturn, 1) := by decide +kernel
set_option maxHeartbeats 4000000 in
set_option maxRecDepth 100000 in
theorem c_caught_out (l : Launch) (J : va_J9) (a : Nat → Nat) (d : Int32) (hd : ¬ (0 ≤ d.toInt ∧ d.toInt ≤ 5)) : RC l J yX11_caught cX11_caught 4 (some .int) ({ frames := 1, cells := 0, slots := 0, locals := 21 }) [.ref (a 0), .int d] [((a 0), .inr (11, [.ref (a 1), .ref (a 6), .ref (a 10), .ref (a 15), .ref (a 17), .ref (a 22), .ref (a 23), .ref (a 30), .ref (a 31), .ref (a 34), .int 0, .ref (a 37), .ref (a 40)]))] (vp_Si (fun r => r = sp_caught (d.toInt))) := by
  refine rc_of (by decide) (Nat.le_of_ble_eq_true rfl) ?_
  intro p e s m below meth c ls hE hl hP hK
  obtain ⟨hx, hb, hr, hml, hown, hts, hlk, hin⟩ := hE
  have hown : s.vm.findClass RX11 = some m.cls := hown
  have hl : lv_has ls 4 [(0, .ref (a 0)), (1, .int d)] := hl
  have rg_d := i_rng d
  refine lv_aload_n hx hb dX11_caught_0 rfl (lv_at hl 0 rfl) ?_
  refine lv_iload_n hx hb dX11_caught_1 rfl (lv_at hl 1 rfl) ?_
  refine go_a (rn_V (As := [.int d]) (rest := []) hx hb hml hown hts hK (cF_shelfOut l J a d (by omega)) kV_RX11_106 hP rfl rfl rfl ⟨Nat.le_of_ble_eq_true rfl, Nat.le_of_ble_eq_true rfl⟩ rfl rfl rfl hl.1 rfl (Nat.le_of_ble_eq_true rfl) ⟨Nat.le_of_ble_eq_true rfl, Nat.le_of_ble_eq_true rfl⟩ dX11_caught_2) ?_
  refine top_n rfl ?_
  refine lv_astore_nN (lv' := [(2, .null), (0, .ref (a 0)), (1, .int d)]) hx hb dX11_caught_5 rfl hl (by decide) rfl (fun ls hl => ?_)
  refine lv_aload_nN hx hb dX11_caught_6 rfl (lv_at hl 0 rfl) ?_
  refine lv_ifnonnullN hx hb dX11_caught_7 ?_
  refine lv_iconst (v := (-1)) hx hb dX11_caught_10 (by decide) ?_
  exact rz_i hx hb hr hlk (by unfold sp_caught; (repeat' split) <;> first | rfl | (exfalso; omega)) dX11_caught_11
theorem dX11_printed_0 : decode cX11_printed 0 = .ok (.aload_n 0, 1) := by decide +kernel
theorem dX11_printed_1 : decode cX11_printed 1 = .ok (.iload_n 1, 1) := by decide +kernel
theorem dX11_printed_2 : decode cX11_printed 2 = .ok (.iload_n 2, 1) := by decide +kernel
theorem dX11_printed_3 : decode cX11_printed 3 = .ok (.iconst 0, 1) := by decide +kernel
theorem q_786 : Cond.methodLink RX11 206 yX11_refusalOfPrints ∈ lw_g := mem_q 786 (by decide +kernel) rfl
theorem q_788 : Cond.instanceMethod yX11_refusalOfPrints ∈ lw_g := mem_q 788 (by decide +kernel) rfl
theorem q_18 : Cond.selects RX11 yX11_refusalOfPrints yX11_refusalOfPrints ∈ lw_g := mem_q 18 (by decide +kernel) rfl
theorem q_789 : Cond.code yX11_refusalOfPrints cX11_refusalOfPrints 6 (some .int) ∈ lw_g := mem_q 789 (by decide +kernel) rfl
theorem kV_RX11_206 : CV RX11 206 RX11 yX11_refusalOfPrints cX11_refusalOfPrints 6 (some .int) 3 := cv_of q_786 q_788 q_18 q_103 q_789 (by decide +kernel)
theorem dX11_printed_4 : decode cX11_printed 4 = .ok (.invokevirtual 206, 3) := by decide +kernel
theorem dX11_printed_7 : decode cX11_printed 7 = .ok (.istore_n 3, 1) := by decide +kernel
theorem dX11_printed_8 : decode cX11_printed 8 = .ok (.iload_n 3, 1) := by decide +kernel
theorem dX11_printed_9 : decode cX11_printed 9 = .ok (.ifCond .eq 7, 3) := by decide +kernel
theorem dX11_printed_12 : decode cX11_printed 12 = .ok (.iload_n 3, 1) := by decide +kernel
theorem dX11_printed_13 : decode cX11_printed 13 = .ok (.goto 29, 3) := by decide +kernel
theorem dX11_printed_42 : decode cX11_printed 42 = .ok (.ireturn, 1) := by decide +kernel
set_option maxHeartbeats 4000000 in
set_option maxRecDepth 100000 in
theorem c_printed_in (l : Launch) (J : va_J9) (a : Nat → Nat) (f : Nat → Option Nat) (sh : Nat) (ce : Nat) (s2 : Nat) (x : Int32) (k : Int32) (hd : 0 ≤ x.toInt ∧ x.toInt / 10 ≤ 5 ∧ x.toInt % 10 ≤ 5) (hf : f (x / 10).toNatClampNeg = some sh) (hg : f (x - x / 10 * 10).toNatClampNeg = some s2) : RC l J yX11_printed cX11_printed 4 (some .int) ({ frames := 3, cells := 0, slots := 0, locals := 67 }) [.ref (a 0), .int x, .int k] [((a 0), .inr (11, [.ref (a 1), .ref (a 6), .ref (a 10), .ref (a 15), .ref (a 17), .ref (a 22), .ref (a 23), .ref (a 30), .ref (a 31), .ref (a 34), .int 0, .ref (a 37), .ref (a 40)])), ((a 40), .inl (J.2.2.2, 6, .inr (.inr (.inr (.inr f))))), (sh, .inr (9, [.ref ce, .int 0, .int 0, .int 0, .int 0]))] (vp_Si (fun r => r = sp_two (x.toInt) (k.toInt) (0))) := by
  refine rc_of (by decide) (Nat.le_of_ble_eq_true rfl) ?_
  intro p e s m below meth c ls hE hl hP hK
  obtain ⟨hx, hb, hr, hml, hown, hts, hlk, hin⟩ := hE
  have hown : s.vm.findClass RX11 = some m.cls := hown
  have hl : lv_has ls 4 [(0, .ref (a 0)), (1, .int x), (2, .int k)] := hl
  have rg_x := i_rng x
  have rg_k := i_rng k
  refine lv_aload_n hx hb dX11_printed_0 rfl (lv_at hl 0 rfl) ?_
  refine lv_iload_n hx hb dX11_printed_1 rfl (lv_at hl 1 rfl) ?_
  refine lv_iload_n hx hb dX11_printed_2 rfl (lv_at hl 2 rfl) ?_
  refine lv_iconst (v := 0) hx hb dX11_printed_3 (by decide) ?_
  refine go_i (rn_V (As := [.int x, .int k, .int 0]) (rest := []) hx hb hml hown hts hK (cF_prints0In l J a f sh ce s2 x k hd hf hg) kV_RX11_206 hP rfl rfl rfl ⟨Nat.le_of_ble_eq_true rfl, Nat.le_of_ble_eq_true rfl⟩ rfl rfl rfl hl.1 rfl (Nat.le_of_ble_eq_true rfl) ⟨Nat.le_of_ble_eq_true rfl, Nat.le_of_ble_eq_true rfl⟩ dX11_printed_4) ?_
  refine lv_istore_n (lv' := [(3, .int (sp_two (x.toInt) (k.toInt) (0))), (0, .ref (a 0)), (1, .int x), (2, .int k)]) hx hb dX11_printed_7 rfl hl (by decide) rfl (fun ls hl => ?_)
  refine lv_iload_n hx hb dX11_printed_8 rfl (lv_at hl 0 rfl) ?_
  refine lv_if_eq (tgt := 16) hx hb dX11_printed_9 (by decide) (fun c1 => absurd c1 (ne_two _ _ _)) (fun _ => ?_)
  refine lv_iload_n hx hb dX11_printed_12 rfl (lv_at hl 0 rfl) ?_
  refine lv_goto (tgt := 42) hx hb dX11_printed_13 (by decide) ?_
  exact rz_i hx hb hr hlk rfl dX11_printed_42
set_option maxHeartbeats 4000000 in
set_option maxRecDepth 100000 in
theorem c_printed_out (l : Launch) (J : va_J9) (a : Nat → Nat) (x : Int32) (k : Int32) (hd : ¬ (0 ≤ x.toInt ∧ x.toInt / 10 ≤ 5 ∧ x.toInt % 10 ≤ 5)) : RC l J yX11_printed cX11_printed 4 (some .int) ({ frames := 2, cells := 0, slots := 0, locals := 45 }) [.ref (a 0), .int x, .int k] [((a 0), .inr (11, [.ref (a 1), .ref (a 6), .ref (a 10), .ref (a 15), .ref (a 17), .ref (a 22), .ref (a 23), .ref (a 30), .ref (a 31), .ref (a 34), .int 0, .ref (a 37), .ref (a 40)]))] (vp_Si (fun r => r = sp_two (x.toInt) (k.toInt) (0))) := by
  refine rc_of (by decide) (Nat.le_of_ble_eq_true rfl) ?_
  intro p e s m below meth c ls hE hl hP hK
  obtain ⟨hx, hb, hr, hml, hown, hts, hlk, hin⟩ := hE
  have hown : s.vm.findClass RX11 = some m.cls := hown
  have hl : lv_has ls 4 [(0, .ref (a 0)), (1, .int x), (2, .int k)] := hl
  have rg_x := i_rng x
  have rg_k := i_rng k
  refine lv_aload_n hx hb dX11_printed_0 rfl (lv_at hl 0 rfl) ?_
  refine lv_iload_n hx hb dX11_printed_1 rfl (lv_at hl 1 rfl) ?_
  refine lv_iload_n hx hb dX11_printed_2 rfl (lv_at hl 2 rfl) ?_
  refine lv_iconst (v := 0) hx hb dX11_printed_3 (by decide) ?_
  refine go_i (rn_V (As := [.int x, .int k, .int 0]) (rest := []) hx hb hml hown hts hK (cF_prints0Out l J a x k hd) kV_RX11_206 hP rfl rfl rfl ⟨Nat.le_of_ble_eq_true rfl, Nat.le_of_ble_eq_true rfl⟩ rfl rfl rfl hl.1 rfl (Nat.le_of_ble_eq_true rfl) ⟨Nat.le_of_ble_eq_true rfl, Nat.le_of_ble_eq_true rfl⟩ dX11_printed_4) ?_
  refine lv_istore_n (lv' := [(3, .int (sp_two (x.toInt) (k.toInt) (0))), (0, .ref (a 0)), (1, .int x), (2, .int k)]) hx hb dX11_printed_7 rfl hl (by decide) rfl (fun ls hl => ?_)
  refine lv_iload_n hx hb dX11_printed_8 rfl (lv_at hl 0 rfl) ?_
  refine lv_if_eq (tgt := 16) hx hb dX11_printed_9 (by decide) (fun c1 => absurd c1 (ne_two _ _ _)) (fun _ => ?_)
  refine lv_iload_n hx hb dX11_printed_12 rfl (lv_at hl 0 rfl) ?_
  refine lv_goto (tgt := 42) hx hb dX11_printed_13 (by decide) ?_
  exact rz_i hx hb hr hlk rfl dX11_printed_42
theorem dX11_ahead_0 : decode cX11_ahead 0 = .ok (.aload_n 0, 1) := by decide +kernel
theorem dX11_ahead_1 : decode cX11_ahead 1 = .ok (.iload_n 1, 1) := by decide +kernel
theorem dX11_ahead_2 : decode cX11_ahead 2 = .ok (.iload_n 2, 1) := by decide +kernel
theorem dX11_ahead_3 : decode cX11_ahead 3 = .ok (.iconst 1, 1) := by decide +kernel
theorem dX11_ahead_4 : decode cX11_ahead 4 = .ok (.invokevirtual 206, 3) := by decide +kernel
theorem dX11_ahead_7 : decode cX11_ahead 7 = .ok (.istore_n 3, 1) := by decide +kernel
theorem dX11_ahead_8 : decode cX11_ahead 8 = .ok (.iload_n 3, 1) := by decide +kernel
theorem dX11_ahead_9 : decode cX11_ahead 9 = .ok (.ifCond .eq 7, 3) := by decide +kernel
theorem dX11_ahead_12 : decode cX11_ahead 12 = .ok (.iload_n 3, 1) := by decide +kernel
theorem dX11_ahead_13 : decode cX11_ahead 13 = .ok (.goto 29, 3) := by decide +kernel
theorem dX11_ahead_42 : decode cX11_ahead 42 = .ok (.ireturn, 1) := by decide +kernel
set_option maxHeartbeats 4000000 in
set_option maxRecDepth 100000 in
theorem c_ahead_in (l : Launch) (J : va_J9) (a : Nat → Nat) (f : Nat → Option Nat) (sh : Nat) (ce : Nat) (s2 : Nat) (x : Int32) (k : Int32) (hd : 0 ≤ x.toInt ∧ x.toInt / 10 ≤ 5 ∧ x.toInt % 10 ≤ 5) (hf : f (x / 10).toNatClampNeg = some sh) (hg : f (x - x / 10 * 10).toNatClampNeg = some s2) : RC l J yX11_ahead cX11_ahead 4 (some .int) ({ frames := 3, cells := 0, slots := 0, locals := 67 }) [.ref (a 0), .int x, .int k] [((a 0), .inr (11, [.ref (a 1), .ref (a 6), .ref (a 10), .ref (a 15), .ref (a 17), .ref (a 22), .ref (a 23), .ref (a 30), .ref (a 31), .ref (a 34), .int 0, .ref (a 37), .ref (a 40)])), ((a 40), .inl (J.2.2.2, 6, .inr (.inr (.inr (.inr f))))), (sh, .inr (9, [.ref ce, .int 0, .int 0, .int 0, .int 0]))] (vp_Si (fun r => r = sp_two (x.toInt) (k.toInt) (1))) := by
  refine rc_of (by decide) (Nat.le_of_ble_eq_true rfl) ?_
  intro p e s m below meth c ls hE hl hP hK
  obtain ⟨hx, hb, hr, hml, hown, hts, hlk, hin⟩ := hE
  have hown : s.vm.findClass RX11 = some m.cls := hown
  have hl : lv_has ls 4 [(0, .ref (a 0)), (1, .int x), (2, .int k)] := hl
  have rg_x := i_rng x
  have rg_k := i_rng k
  refine lv_aload_n hx hb dX11_ahead_0 rfl (lv_at hl 0 rfl) ?_
  refine lv_iload_n hx hb dX11_ahead_1 rfl (lv_at hl 1 rfl) ?_
  refine lv_iload_n hx hb dX11_ahead_2 rfl (lv_at hl 2 rfl) ?_
  refine lv_iconst (v := 1) hx hb dX11_ahead_3 (by decide) ?_
  refine go_i (rn_V (As := [.int x, .int k, .int 1]) (rest := []) hx hb hml hown hts hK (cF_prints1In l J a f sh ce s2 x k hd hf hg) kV_RX11_206 hP rfl rfl rfl ⟨Nat.le_of_ble_eq_true rfl, Nat.le_of_ble_eq_true rfl⟩ rfl rfl rfl hl.1 rfl (Nat.le_of_ble_eq_true rfl) ⟨Nat.le_of_ble_eq_true rfl, Nat.le_of_ble_eq_true rfl⟩ dX11_ahead_4) ?_
  refine lv_istore_n (lv' := [(3, .int (sp_two (x.toInt) (k.toInt) (1))), (0, .ref (a 0)), (1, .int x), (2, .int k)]) hx hb dX11_ahead_7 rfl hl (by decide) rfl (fun ls hl => ?_)
  refine lv_iload_n hx hb dX11_ahead_8 rfl (lv_at hl 0 rfl) ?_
  refine lv_if_eq (tgt := 16) hx hb dX11_ahead_9 (by decide) (fun c1 => absurd c1 (ne_two _ _ _)) (fun _ => ?_)
  refine lv_iload_n hx hb dX11_ahead_12 rfl (lv_at hl 0 rfl) ?_
  refine lv_goto (tgt := 42) hx hb dX11_ahead_13 (by decide) ?_
  exact rz_i hx hb hr hlk rfl dX11_ahead_42
set_option maxHeartbeats 4000000 in
set_option maxRecDepth 100000 in
theorem c_ahead_out (l : Launch) (J : va_J9) (a : Nat → Nat) (x : Int32) (k : Int32) (hd : ¬ (0 ≤ x.toInt ∧ x.toInt / 10 ≤ 5 ∧ x.toInt % 10 ≤ 5)) : RC l J yX11_ahead cX11_ahead 4 (some .int) ({ frames := 2, cells := 0, slots := 0, locals := 45 }) [.ref (a 0), .int x, .int k] [((a 0), .inr (11, [.ref (a 1), .ref (a 6), .ref (a 10), .ref (a 15), .ref (a 17), .ref (a 22), .ref (a 23), .ref (a 30), .ref (a 31), .ref (a 34), .int 0, .ref (a 37), .ref (a 40)]))] (vp_Si (fun r => r = sp_two (x.toInt) (k.toInt) (1))) := by
  refine rc_of (by decide) (Nat.le_of_ble_eq_true rfl) ?_
  intro p e s m below meth c ls hE hl hP hK
  obtain ⟨hx, hb, hr, hml, hown, hts, hlk, hin⟩ := hE
  have hown : s.vm.findClass RX11 = some m.cls := hown
  have hl : lv_has ls 4 [(0, .ref (a 0)), (1, .int x), (2, .int k)] := hl
  have rg_x := i_rng x
  have rg_k := i_rng k
  refine lv_aload_n hx hb dX11_ahead_0 rfl (lv_at hl 0 rfl) ?_
  refine lv_iload_n hx hb dX11_ahead_1 rfl (lv_at hl 1 rfl) ?_
  refine lv_iload_n hx hb dX11_ahead_2 rfl (lv_at hl 2 rfl) ?_
  refine lv_iconst (v := 1) hx hb dX11_ahead_3 (by decide) ?_
  refine go_i (rn_V (As := [.int x, .int k, .int 1]) (rest := []) hx hb hml hown hts hK (cF_prints1Out l J a x k hd) kV_RX11_206 hP rfl rfl rfl ⟨Nat.le_of_ble_eq_true rfl, Nat.le_of_ble_eq_true rfl⟩ rfl rfl rfl hl.1 rfl (Nat.le_of_ble_eq_true rfl) ⟨Nat.le_of_ble_eq_true rfl, Nat.le_of_ble_eq_true rfl⟩ dX11_ahead_4) ?_
  refine lv_istore_n (lv' := [(3, .int (sp_two (x.toInt) (k.toInt) (1))), (0, .ref (a 0)), (1, .int x), (2, .int k)]) hx hb dX11_ahead_7 rfl hl (by decide) rfl (fun ls hl => ?_)
  refine lv_iload_n hx hb dX11_ahead_8 rfl (lv_at hl 0 rfl) ?_
  refine lv_if_eq (tgt := 16) hx hb dX11_ahead_9 (by decide) (fun c1 => absurd c1 (ne_two _ _ _)) (fun _ => ?_)
  refine lv_iload_n hx hb dX11_ahead_12 rfl (lv_at hl 0 rfl) ?_
  refine lv_goto (tgt := 42) hx hb dX11_ahead_13 (by decide) ?_
  exact rz_i hx hb hr hlk rfl dX11_ahead_42
theorem dX11_judge_0 : decode cX11_judge 0 = .ok (.iload_n 1, 1) := by decide +kernel
theorem dX11_judge_1 : decode cX11_judge 1 = .ok (.invokestatic 213, 3) := by decide +kernel
theorem dX11_judge_4 : decode cX11_judge 4 = .ok (.ifCond .ne 5, 3) := by decide +kernel
theorem dX11_judge_9 : decode cX11_judge 9 = .ok (.aload_n 0, 1) := by decide +kernel
theorem dX11_judge_10 : decode cX11_judge 10 = .ok (.getfield 90, 3) := by decide +kernel
theorem dX11_judge_13 : decode cX11_judge 13 = .ok (.iload_n 1, 1) := by decide +kernel
theorem dX11_judge_14 : decode cX11_judge 14 = .ok (.bipush 10, 2) := by decide +kernel
theorem dX11_judge_16 : decode cX11_judge 16 = .ok (.idiv, 1) := by decide +kernel
theorem dX11_judge_17 : decode cX11_judge 17 = .ok (.aaload, 1) := by decide +kernel
theorem dX11_judge_18 : decode cX11_judge 18 = .ok (.astore_n 2, 1) := by decide +kernel
theorem dX11_judge_19 : decode cX11_judge 19 = .ok (.aload_n 0, 1) := by decide +kernel
theorem dX11_judge_20 : decode cX11_judge 20 = .ok (.getfield 90, 3) := by decide +kernel
theorem dX11_judge_23 : decode cX11_judge 23 = .ok (.iload_n 1, 1) := by decide +kernel
theorem dX11_judge_24 : decode cX11_judge 24 = .ok (.bipush 10, 2) := by decide +kernel
theorem dX11_judge_26 : decode cX11_judge 26 = .ok (.irem, 1) := by decide +kernel
theorem dX11_judge_27 : decode cX11_judge 27 = .ok (.aaload, 1) := by decide +kernel
theorem dX11_judge_28 : decode cX11_judge 28 = .ok (.astore_n 3, 1) := by decide +kernel
theorem dX11_judge_29 : decode cX11_judge 29 = .ok (.aload_n 2, 1) := by decide +kernel
theorem dX11_judge_30 : decode cX11_judge 30 = .ok (.aload_n 3, 1) := by decide +kernel
theorem dX11_judge_31 : decode cX11_judge 31 = .ok (.iconst 0, 1) := by decide +kernel
theorem dX11_judge_32 : decode cX11_judge 32 = .ok (.invokestatic 216, 3) := by decide +kernel
theorem dX11_judge_35 : decode cX11_judge 35 = .ok (.istore 4, 2) := by decide +kernel
theorem dX11_judge_37 : decode cX11_judge 37 = .ok (.iload 4, 2) := by decide +kernel
theorem dX11_judge_39 : decode cX11_judge 39 = .ok (.ifCond .eq 8, 3) := by decide +kernel
theorem dX11_judge_42 : decode cX11_judge 42 = .ok (.iload 4, 2) := by decide +kernel
theorem dX11_judge_44 : decode cX11_judge 44 = .ok (.goto 12, 3) := by decide +kernel
theorem dX11_judge_56 : decode cX11_judge 56 = .ok (.ireturn, 1) := by decide +kernel
set_option maxHeartbeats 4000000 in
set_option maxRecDepth 100000 in
theorem c_judge_in (l : Launch) (J : va_J9) (a : Nat → Nat) (f : Nat → Option Nat) (sh : Nat) (ce : Nat) (s2 : Nat) (x : Int32) (hd : 0 ≤ x.toInt ∧ x.toInt / 10 ≤ 5 ∧ x.toInt % 10 ≤ 5) (hf : f (x / 10).toNatClampNeg = some sh) (hg : f (x - x / 10 * 10).toNatClampNeg = some s2) : RC l J yX11_judge cX11_judge 5 (some .int) ({ frames := 2, cells := 0, slots := 0, locals := 42 }) [.ref (a 0), .int x] [((a 0), .inr (11, [.ref (a 1), .ref (a 6), .ref (a 10), .ref (a 15), .ref (a 17), .ref (a 22), .ref (a 23), .ref (a 30), .ref (a 31), .ref (a 34), .int 0, .ref (a 37), .ref (a 40)])), ((a 40), .inl (J.2.2.2, 6, .inr (.inr (.inr (.inr f))))), (sh, .inr (9, [.ref ce, .int 0, .int 0, .int 0, .int 0]))] (vp_Si (fun r => r = sp_two (x.toInt) (0) (0))) := by
  refine rc_of (by decide) (Nat.le_of_ble_eq_true rfl) ?_
  intro p e s m below meth c ls hE hl hP hK
  obtain ⟨hx, hb, hr, hml, hown, hts, hlk, hin⟩ := hE
  have hown : s.vm.findClass RX11 = some m.cls := hown
  have hl : lv_has ls 5 [(0, .ref (a 0)), (1, .int x)] := hl
  have rg_x := i_rng x
  refine lv_iload_n hx hb dX11_judge_0 rfl (lv_at hl 1 rfl) ?_
  refine go_i (rn_S (As := [.int x]) (rest := []) hx hb hml hown hts hK (cF_twoShelves l J x) kS_RX11_213 (hP.sub (ws' := []) [] rfl) ⟨Nat.le_of_ble_eq_true rfl, Nat.le_of_ble_eq_true rfl⟩ rfl rfl rfl hl.1 rfl (Nat.le_of_ble_eq_true rfl) ⟨Nat.le_of_ble_eq_true rfl, Nat.le_of_ble_eq_true rfl⟩ dX11_judge_1) ?_
  refine lv_if_ne (tgt := 9) hx hb dX11_judge_4 (by decide) (fun _ => ?_) (fun c1 => (b0 c1 (by omega)).elim)
  refine lv_aload_n hx hb dX11_judge_9 rfl (lv_at hl 0 rfl) ?_
  refine va_get (D := J.1) (ci := 11) (v := .ref (a 40)) (C := RX11) (T := TX11) (N := 13) hx hb hts inX11 hown hK.1 hP 0 rfl rfl 12 (by decide) (hts _ q_472) (fun _ h9 => h9) rfl dX11_judge_10 ?_
  refine lv_iload_n hx hb dX11_judge_13 rfl (lv_at hl 1 rfl) ?_
  refine lv_bipush (v := 10) hx hb dX11_judge_14 (by decide) ?_
  refine lv_idiv hx hb dX11_judge_16 (by decide) ?_
  have p2 : (x / 10).toInt = x.toInt / 10 := i_div rfl (by decide) (by omega) (by omega)
  have h3 : vp_in (x / 10) 6 := (i_in (a := x.toInt / 10) p2 (by omega) (by omega))
  refine va_aldq hx hb hK.1 hP 1 2 rfl rfl h3 dX11_judge_17 ?_
  refine top_q (y := sh) hf ?_
  refine lv_astore_n (lv' := [(2, .ref sh), (0, .ref (a 0)), (1, .int x)]) hx hb dX11_judge_18 rfl hl (by decide) rfl (fun ls hl => ?_)
  refine lv_aload_n hx hb dX11_judge_19 rfl (lv_at hl 1 rfl) ?_
  refine va_get (D := J.1) (ci := 11) (v := .ref (a 40)) (C := RX11) (T := TX11) (N := 13) hx hb hts inX11 hown hK.1 hP 0 rfl rfl 12 (by decide) (hts _ q_472) (fun _ h9 => h9) rfl dX11_judge_20 ?_
  refine lv_iload_n hx hb dX11_judge_23 rfl (lv_at hl 2 rfl) ?_
  refine lv_bipush (v := 10) hx hb dX11_judge_24 (by decide) ?_
  refine lv_irem hx hb dX11_judge_26 (by decide) ?_
  have p4 : (x - x / 10 * 10).toInt = x.toInt % 10 := i_rem rfl (by decide) (by omega) (by omega)
  have h5 : vp_in (x - x / 10 * 10) 6 := (i_in (a := x.toInt % 10) p4 (by omega) (by omega))
  refine va_aldq hx hb hK.1 hP 1 2 rfl rfl h5 dX11_judge_27 ?_
  refine top_q (y := s2) hg ?_
  refine lv_astore_n (lv' := [(3, .ref s2), (2, .ref sh), (0, .ref (a 0)), (1, .int x)]) hx hb dX11_judge_28 rfl hl (by decide) rfl (fun ls hl => ?_)
  refine lv_aload_n hx hb dX11_judge_29 rfl (lv_at hl 1 rfl) ?_
  refine lv_aload_n hx hb dX11_judge_30 rfl (lv_at hl 0 rfl) ?_
  refine lv_iconst (v := 0) hx hb dX11_judge_31 (by decide) ?_
  refine go_i (rn_S (As := [.ref sh, .ref s2, .int 0]) (rest := []) hx hb hml hown hts hK (cF_both l J sh ce s2 0) kS_RX11_216 (hP.sub (ws' := [(sh, .inr (9, [.ref ce, .int 0, .int 0, .int 0, .int 0]))]) [2] rfl) ⟨Nat.le_of_ble_eq_true rfl, Nat.le_of_ble_eq_true rfl⟩ rfl rfl rfl hl.1 rfl (Nat.le_of_ble_eq_true rfl) ⟨Nat.le_of_ble_eq_true rfl, Nat.le_of_ble_eq_true rfl⟩ dX11_judge_32) ?_
  refine lv_istore (lv' := [(4, .int (-11)), (3, .ref s2), (2, .ref sh), (0, .ref (a 0)), (1, .int x)]) hx hb dX11_judge_35 hl (by decide) rfl (fun ls hl => ?_)
  refine lv_iload hx hb dX11_judge_37 (lv_at hl 0 rfl) ?_
  refine lv_if_eq (tgt := 47) hx hb dX11_judge_39 (by decide) (fun c => absurd c (by decide)) (fun _ => ?_)
  refine lv_iload hx hb dX11_judge_42 (lv_at hl 0 rfl) ?_
  refine lv_goto (tgt := 56) hx hb dX11_judge_44 (by decide) ?_
  exact rz_i hx hb hr hlk (by unfold sp_two; (repeat' split) <;> first | rfl | (exfalso; omega)) dX11_judge_56
theorem dX11_judge_7 : decode cX11_judge 7 = .ok (.iconst (-1), 1) := by decide +kernel
theorem dX11_judge_8 : decode cX11_judge 8 = .ok (.ireturn, 1) := by decide +kernel
set_option maxHeartbeats 4000000 in
set_option maxRecDepth 100000 in
theorem c_judge_out (l : Launch) (J : va_J9) (a : Nat → Nat) (x : Int32) (hd : ¬ (0 ≤ x.toInt ∧ x.toInt / 10 ≤ 5 ∧ x.toInt % 10 ≤ 5)) : RC l J yX11_judge cX11_judge 5 (some .int) ({ frames := 1, cells := 0, slots := 0, locals := 20 }) [.ref (a 0), .int x] [((a 0), .inr (11, [.ref (a 1), .ref (a 6), .ref (a 10), .ref (a 15), .ref (a 17), .ref (a 22), .ref (a 23), .ref (a 30), .ref (a 31), .ref (a 34), .int 0, .ref (a 37), .ref (a 40)]))] (vp_Si (fun r => r = sp_two (x.toInt) (0) (0))) := by
  refine rc_of (by decide) (Nat.le_of_ble_eq_true rfl) ?_
  intro p e s m below meth c ls hE hl hP hK
  obtain ⟨hx, hb, hr, hml, hown, hts, hlk, hin⟩ := hE
  have hown : s.vm.findClass RX11 = some m.cls := hown
  have hl : lv_has ls 5 [(0, .ref (a 0)), (1, .int x)] := hl
  have rg_x := i_rng x
  refine lv_iload_n hx hb dX11_judge_0 rfl (lv_at hl 1 rfl) ?_
  refine go_i (rn_S (As := [.int x]) (rest := []) hx hb hml hown hts hK (cF_twoShelves l J x) kS_RX11_213 (hP.sub (ws' := []) [] rfl) ⟨Nat.le_of_ble_eq_true rfl, Nat.le_of_ble_eq_true rfl⟩ rfl rfl rfl hl.1 rfl (Nat.le_of_ble_eq_true rfl) ⟨Nat.le_of_ble_eq_true rfl, Nat.le_of_ble_eq_true rfl⟩ dX11_judge_1) ?_
  refine lv_if_ne (tgt := 9) hx hb dX11_judge_4 (by decide) (fun c1 => absurd (b1 c1) (by omega)) (fun _ => ?_)
  refine lv_iconst (v := (-1)) hx hb dX11_judge_7 (by decide) ?_
  exact rz_i hx hb hr hlk (by unfold sp_two; (repeat' split) <;> first | rfl | (exfalso; omega)) dX11_judge_8
theorem dX11_sure_0 : decode cX11_sure 0 = .ok (.iload_n 1, 1) := by decide +kernel
theorem dX11_sure_1 : decode cX11_sure 1 = .ok (.iconst (-1), 1) := by decide +kernel
theorem dX11_sure_2 : decode cX11_sure 2 = .ok (.if_icmp .ge 5, 3) := by decide +kernel
theorem dX11_sure_7 : decode cX11_sure 7 = .ok (.aload_n 0, 1) := by decide +kernel
theorem q_464 : Cond.fieldLink RX11 44 RX11 "hunt" "LFoxHoles$Hunt;" ∈ lw_g := mem_q 464 (by decide +kernel) rfl
theorem dX11_sure_8 : decode cX11_sure 8 = .ok (.getfield 44, 3) := by decide +kernel
theorem q_823 : Cond.methodLink RX11 223 yX6_mornings ∈ lw_g := mem_q 823 (by decide +kernel) rfl
theorem q_824 : Cond.instanceMethod yX6_mornings ∈ lw_g := mem_q 824 (by decide +kernel) rfl
theorem q_825 : Cond.selects RX6 yX6_mornings yX6_mornings ∈ lw_g := mem_q 825 (by decide +kernel) rfl
theorem q_826 : Cond.code yX6_mornings cX6_mornings 1 (some .int) ∈ lw_g := mem_q 826 (by decide +kernel) rfl
theorem kV_RX11_223 : CV RX11 223 RX6 yX6_mornings cX6_mornings 1 (some .int) 0 := cv_of q_823 q_824 q_825 q_108 q_826 (by decide +kernel)
theorem dX11_sure_11 : decode cX11_sure 11 = .ok (.invokevirtual 223, 3) := by decide +kernel
theorem dX11_sure_14 : decode cX11_sure 14 = .ok (.istore_n 2, 1) := by decide +kernel
theorem dX11_sure_15 : decode cX11_sure 15 = .ok (.iload_n 1, 1) := by decide +kernel
theorem dX11_sure_16 : decode cX11_sure 16 = .ok (.iconst (-1), 1) := by decide +kernel
theorem dX11_sure_17 : decode cX11_sure 17 = .ok (.if_icmp .ne 7, 3) := by decide +kernel
theorem dX11_sure_24 : decode cX11_sure 24 = .ok (.aload_n 0, 1) := by decide +kernel
theorem dX11_sure_25 : decode cX11_sure 25 = .ok (.getfield 44, 3) := by decide +kernel
theorem dX11_sure_28 : decode cX11_sure 28 = .ok (.iload_n 1, 1) := by decide +kernel
theorem q_866 : Cond.methodLink RX11 225 yX6_lookAt ∈ lw_g := mem_q 866 (by decide +kernel) rfl
theorem q_867 : Cond.instanceMethod yX6_lookAt ∈ lw_g := mem_q 867 (by decide +kernel) rfl
theorem q_868 : Cond.selects RX6 yX6_lookAt yX6_lookAt ∈ lw_g := mem_q 868 (by decide +kernel) rfl
theorem q_869 : Cond.code yX6_lookAt cX6_lookAt 7 (some .int) ∈ lw_g := mem_q 869 (by decide +kernel) rfl
theorem kV_RX11_225 : CV RX11 225 RX6 yX6_lookAt cX6_lookAt 7 (some .int) 1 := cv_of q_866 q_867 q_868 q_108 q_869 (by decide +kernel)
theorem dX11_sure_29 : decode cX11_sure 29 = .ok (.invokevirtual 225, 3) := by decide +kernel
theorem dX11_sure_32 : decode cX11_sure 32 = .ok (.ireturn, 1) := by decide +kernel
theorem dX11_sure_20 : decode cX11_sure 20 = .ok (.iload_n 2, 1) := by decide +kernel
theorem dX11_sure_21 : decode cX11_sure 21 = .ok (.goto 11, 3) := by decide +kernel
theorem dX11_sure_5 : decode cX11_sure 5 = .ok (.iconst (-1), 1) := by decide +kernel
theorem dX11_sure_6 : decode cX11_sure 6 = .ok (.ireturn, 1) := by decide +kernel
set_option maxHeartbeats 4000000 in
set_option maxRecDepth 100000 in
theorem c_sure (l : Launch) (J : va_J9) (sz : Nat) (a : Nat → Nat) (k : Int32) : WC l J yX11_sure cX11_sure 3 (some .int) ({ frames := 4, cells := 0, slots := 0, locals := 83 }) [.ref (a 0), .int k] [((a 0), .inr (11, [.ref (a 1), .ref (a 6), .ref (a 10), .ref (a 15), .ref (a 17), .ref (a 22), .ref (a 23), .ref (a 30), .ref (a 31), .ref (a 34), .int 0, .ref (a 37), .ref (a 40)])), ((a 17), .inr (6, [.ref (a 6), .ref (a 18), .ref (a 19), .int 0, .ref (a 20), .ref (a 21), .int 0, .int 0, .int 0, .int 0, .int (-1)])), ((a 6), .inr (10, [.ref (a 1), .ref (a 7), .ref (a 8), .ref (a 9), .int 0, .int 0, .int 0, .int 0, .int 1, .int 0, .int 0])), ((a 20), .inl (J.2.1, 32, .inl (fun _ => 0))), ((a 21), .inl (J.2.1, 32, .inl (fun _ => 0)))] sz (Qi J (fun (r : Int32) (_ : Unit) => r = sp_sure (k.toInt)) (fun (_ : Unit) => [])) 0 0 := by
  refine wc_of (by decide) (Nat.le_of_ble_eq_true rfl) ?_
  intro p e s m below meth c ls A hE hl hP hK hD hS hA
  obtain ⟨hx, hb, hr, hml, hown, hts, hlk, hin⟩ := hE
  have hown : s.vm.findClass RX11 = some m.cls := hown
  have hl : lv_has ls 3 [(0, .ref (a 0)), (1, .int k)] := hl
  have rg_k := i_rng k
  refine lv_iload_n hx hb dX11_sure_0 rfl (lv_at hl 1 rfl) ?_
  refine lv_iconst (v := (-1)) hx hb dX11_sure_1 (by decide) ?_
  refine lv_icmp_ge (tgt := 7) hx hb dX11_sure_2 (by decide) (fun c1 => ?_) (fun c1 => ?_)
  · have j2 : (-1) ≤ k.toInt := (i_le (by decide) rfl).mp c1
    refine lv_aload_n hx hb dX11_sure_7 rfl (lv_at hl 0 rfl) ?_
    refine va_get (D := J.1) (ci := 11) (v := .ref (a 17)) (C := RX11) (T := TX11) (N := 13) hx hb hts inX11 hown hK.1 hP 0 rfl rfl 4 (by decide) (hts _ q_464) (fun _ h9 => h9) rfl dX11_sure_8 ?_
    refine gw_i (wc := [((a 17), .inr (6, [.ref (a 6), .ref (a 18), .ref (a 19), .int 0, .ref (a 20), .ref (a 21), .int 0, .int 0, .int 0, .int 0, .int (-1)])), ((a 6), .inr (10, [.ref (a 1), .ref (a 7), .ref (a 8), .ref (a 9), .int 0, .int 0, .int 0, .int 0, .int 1, .int 0, .int 0])), ((a 20), .inl (J.2.1, 32, .inl (fun _ => 0))), ((a 21), .inl (J.2.1, 32, .inl (fun _ => 0)))]) (wr := [((a 0), .inr (11, [.ref (a 1), .ref (a 6), .ref (a 10), .ref (a 15), .ref (a 17), .ref (a 22), .ref (a 23), .ref (a 30), .ref (a 31), .ref (a 34), .int 0, .ref (a 37), .ref (a 40)]))]) hP hD hS hA [1, 2, 3, 4] [0] rfl rfl (by decide) (by decide) (wn_V (As := []) (rest := []) hx hb hml hown hts hK (cH_mornings l J _ (a 17) (a 6) (a 18) (a 19) (a 20) (a 21) (a 1) (a 7) (a 8) (a 9)) kV_RX11_223 (hP.sub (ws' := [((a 17), .inr (6, [.ref (a 6), .ref (a 18), .ref (a 19), .int 0, .ref (a 20), .ref (a 21), .int 0, .int 0, .int 0, .int 0, .int (-1)])), ((a 6), .inr (10, [.ref (a 1), .ref (a 7), .ref (a 8), .ref (a 9), .int 0, .int 0, .int 0, .int 0, .int 1, .int 0, .int 0])), ((a 20), .inl (J.2.1, 32, .inl (fun _ => 0))), ((a 21), .inl (J.2.1, 32, .inl (fun _ => 0)))]) [1, 2, 3, 4] rfl) ((hD.sub (ws' := [((a 17), .inr (6, [.ref (a 6), .ref (a 18), .ref (a 19), .int 0, .ref (a 20), .ref (a 21), .int 0, .int 0, .int 0, .int 0, .int (-1)])), ((a 6), .inr (10, [.ref (a 1), .ref (a 7), .ref (a 8), .ref (a 9), .int 0, .int 0, .int 0, .int 0, .int 1, .int 0, .int 0])), ((a 20), .inl (J.2.1, 32, .inl (fun _ => 0))), ((a 21), .inl (J.2.1, 32, .inl (fun _ => 0)))]) [1, 2, 3, 4] (by decide) rfl).weaken (fun _ _ _ _ => trivial)) rfl rfl rfl ⟨Nat.le_of_ble_eq_true rfl, Nat.le_of_ble_eq_true rfl⟩ rfl rfl rfl hl.1 rfl (Nat.le_of_ble_eq_true rfl) ⟨Nat.le_of_ble_eq_true rfl, Nat.le_of_ble_eq_true rfl⟩ dX11_sure_11) (fun r4 u3 H locs hw hP hD hS => ?_)
    subst hw
    have hP : va_P J.1 cls [((a 0), .inr (11, [.ref (a 1), .ref (a 6), .ref (a 10), .ref (a 15), .ref (a 17), .ref (a 22), .ref (a 23), .ref (a 30), .ref (a 31), .ref (a 34), .int 0, .ref (a 37), .ref (a 40)])), ((a 17), .inr (6, [.ref (a 6), .ref (a 18), .ref (a 19), .int 0, .ref (a 20), .ref (a 21), .int 0, .int 0, .int 0, .int 0, .int 0])), ((a 6), .inr (10, [.ref (a 1), .ref (a 7), .ref (a 8), .ref (a 9), .int 0, .int 0, .int 0, .int 0, .int 1, .int 0, .int 0]))] H := hP
    have hD : va_D A [((a 0), .inr (11, [.ref (a 1), .ref (a 6), .ref (a 10), .ref (a 15), .ref (a 17), .ref (a 22), .ref (a 23), .ref (a 30), .ref (a 31), .ref (a 34), .int 0, .ref (a 37), .ref (a 40)])), ((a 17), .inr (6, [.ref (a 6), .ref (a 18), .ref (a 19), .int 0, .ref (a 20), .ref (a 21), .int 0, .int 0, .int 0, .int 0, .int 0])), ((a 6), .inr (10, [.ref (a 1), .ref (a 7), .ref (a 8), .ref (a 9), .int 0, .int 0, .int 0, .int 0, .int 1, .int 0, .int 0]))] := hD
    refine W.widen (k := 0) (n := 0) (Nat.le_of_ble_eq_true rfl) (Nat.le_of_ble_eq_true rfl) ?_
    refine lv_istore_n (lv' := [(2, .int 0), (0, .ref (a 0)), (1, .int k)]) hx hb dX11_sure_14 rfl hl (by decide) rfl (fun ls hl => ?_)
    refine lv_iload_n hx hb dX11_sure_15 rfl (lv_at hl 2 rfl) ?_
    refine lv_iconst (v := (-1)) hx hb dX11_sure_16 (by decide) ?_
    refine lv_icmp_ne (tgt := 24) hx hb dX11_sure_17 (by decide) (fun c5 => ?_) (fun c5 => ?_)
    · have j6 : ¬ (k.toInt = (-1)) := fun h => c5 ((i_eq rfl (by decide)).mpr h)
      refine lv_aload_n hx hb dX11_sure_24 rfl (lv_at hl 1 rfl) ?_
      refine va_get (D := J.1) (ci := 11) (v := .ref (a 17)) (C := RX11) (T := TX11) (N := 13) hx hb hts inX11 hown hK.1 hP 0 rfl rfl 4 (by decide) (hts _ q_464) (fun _ h9 => h9) rfl dX11_sure_25 ?_
      refine lv_iload_n hx hb dX11_sure_28 rfl (lv_at hl 2 rfl) ?_
      refine go_i (rn_V (As := [.int k]) (rest := []) hx hb hml hown hts hK (cH_lookAt l J (a 17) (a 6) (a 18) (a 19) (a 20) (a 21) (a 1) (a 7) (a 8) (a 9) k) kV_RX11_225 (hP.sub (ws' := [((a 17), .inr (6, [.ref (a 6), .ref (a 18), .ref (a 19), .int 0, .ref (a 20), .ref (a 21), .int 0, .int 0, .int 0, .int 0, .int 0])), ((a 6), .inr (10, [.ref (a 1), .ref (a 7), .ref (a 8), .ref (a 9), .int 0, .int 0, .int 0, .int 0, .int 1, .int 0, .int 0]))]) [1, 2] rfl) rfl rfl rfl ⟨Nat.le_of_ble_eq_true rfl, Nat.le_of_ble_eq_true rfl⟩ rfl rfl rfl hl.1 rfl (Nat.le_of_ble_eq_true rfl) ⟨Nat.le_of_ble_eq_true rfl, Nat.le_of_ble_eq_true rfl⟩ dX11_sure_29) ?_
      exact wz_i () hx hb hr hlk (by unfold sp_sure; (repeat' split) <;> first | rfl | (exfalso; omega)) (hP.sub (ws' := []) [] rfl) (hD.sub (ws' := []) [] (by decide) rfl) hS dX11_sure_32
    · have j7 : k.toInt = (-1) := (i_eq rfl (by decide)).mp c5
      refine lv_iload_n hx hb dX11_sure_20 rfl (lv_at hl 0 rfl) ?_
      refine lv_goto (tgt := 32) hx hb dX11_sure_21 (by decide) ?_
      exact wz_i () hx hb hr hlk (by unfold sp_sure; (repeat' split) <;> first | rfl | (exfalso; omega)) (hP.sub (ws' := []) [] rfl) (hD.sub (ws' := []) [] (by decide) rfl) hS dX11_sure_32
  · have j8 : ¬ ((-1) ≤ k.toInt) := fun h => c1 ((i_le (by decide) rfl).mpr h)
    refine lv_iconst (v := (-1)) hx hb dX11_sure_5 (by decide) ?_
    exact wz_i () hx hb hr hlk (by unfold sp_sure; (repeat' split) <;> first | rfl | (exfalso; omega)) (hP.sub (ws' := []) [] rfl) (hD.sub (ws' := []) [] (by decide) rfl) hS dX11_sure_6
theorem dX11_sureFrom_0 : decode cX11_sureFrom 0 = .ok (.aload_n 0, 1) := by decide +kernel
theorem dX11_sureFrom_1 : decode cX11_sureFrom 1 = .ok (.getfield 21, 3) := by decide +kernel
theorem dX11_sureFrom_4 : decode cX11_sureFrom 4 = .ok (.iload_n 1, 1) := by decide +kernel
theorem q_879 : Cond.methodLink RX11 228 yX10_areHoles ∈ lw_g := mem_q 879 (by decide +kernel) rfl
theorem q_880 : Cond.instanceMethod yX10_areHoles ∈ lw_g := mem_q 880 (by decide +kernel) rfl
theorem q_881 : Cond.selects RX10 yX10_areHoles yX10_areHoles ∈ lw_g := mem_q 881 (by decide +kernel) rfl
theorem q_882 : Cond.code yX10_areHoles cX10_areHoles 2 (some .boolean) ∈ lw_g := mem_q 882 (by decide +kernel) rfl
theorem kV_RX11_228 : CV RX11 228 RX10 yX10_areHoles cX10_areHoles 2 (some .boolean) 1 := cv_of q_879 q_880 q_881 q_105 q_882 (by decide +kernel)
theorem dX11_sureFrom_5 : decode cX11_sureFrom 5 = .ok (.invokevirtual 228, 3) := by decide +kernel
theorem dX11_sureFrom_8 : decode cX11_sureFrom 8 = .ok (.ifCond .eq 13, 3) := by decide +kernel
theorem dX11_sureFrom_21 : decode cX11_sureFrom 21 = .ok (.iconst (-1), 1) := by decide +kernel
theorem dX11_sureFrom_22 : decode cX11_sureFrom 22 = .ok (.ireturn, 1) := by decide +kernel
theorem dX11_sureFrom_11 : decode cX11_sureFrom 11 = .ok (.iload_n 2, 1) := by decide +kernel
theorem dX11_sureFrom_12 : decode cX11_sureFrom 12 = .ok (.ifCond .lt 9, 3) := by decide +kernel
theorem dX11_sureFrom_15 : decode cX11_sureFrom 15 = .ok (.iload_n 2, 1) := by decide +kernel
theorem dX11_sureFrom_16 : decode cX11_sureFrom 16 = .ok (.bipush 7, 2) := by decide +kernel
theorem dX11_sureFrom_18 : decode cX11_sureFrom 18 = .ok (.if_icmp .lt 5, 3) := by decide +kernel
theorem dX11_sureFrom_23 : decode cX11_sureFrom 23 = .ok (.aload_n 0, 1) := by decide +kernel
theorem dX11_sureFrom_24 : decode cX11_sureFrom 24 = .ok (.getfield 44, 3) := by decide +kernel
theorem dX11_sureFrom_27 : decode cX11_sureFrom 27 = .ok (.iload_n 1, 1) := by decide +kernel
theorem dX11_sureFrom_28 : decode cX11_sureFrom 28 = .ok (.iload_n 2, 1) := by decide +kernel
theorem q_883 : Cond.methodLink RX11 231 yX6_morningsFrom ∈ lw_g := mem_q 883 (by decide +kernel) rfl
theorem q_884 : Cond.instanceMethod yX6_morningsFrom ∈ lw_g := mem_q 884 (by decide +kernel) rfl
theorem q_885 : Cond.selects RX6 yX6_morningsFrom yX6_morningsFrom ∈ lw_g := mem_q 885 (by decide +kernel) rfl
theorem q_886 : Cond.code yX6_morningsFrom cX6_morningsFrom 3 (some .int) ∈ lw_g := mem_q 886 (by decide +kernel) rfl
theorem kV_RX11_231 : CV RX11 231 RX6 yX6_morningsFrom cX6_morningsFrom 3 (some .int) 2 := cv_of q_883 q_884 q_885 q_108 q_886 (by decide +kernel)
theorem dX11_sureFrom_29 : decode cX11_sureFrom 29 = .ok (.invokevirtual 231, 3) := by decide +kernel
theorem dX11_sureFrom_32 : decode cX11_sureFrom 32 = .ok (.ireturn, 1) := by decide +kernel
set_option maxHeartbeats 4000000 in
set_option maxRecDepth 100000 in
theorem c_sureFrom (l : Launch) (J : va_J9) (sz : Nat) (a : Nat → Nat) (x : Int32) (k : Int32) : WC l J yX11_sureFrom cX11_sureFrom 3 (some .int) ({ frames := 4, cells := 0, slots := 0, locals := 85 }) [.ref (a 0), .int x, .int k] [((a 0), .inr (11, [.ref (a 1), .ref (a 6), .ref (a 10), .ref (a 15), .ref (a 17), .ref (a 22), .ref (a 23), .ref (a 30), .ref (a 31), .ref (a 34), .int 0, .ref (a 37), .ref (a 40)])), ((a 17), .inr (6, [.ref (a 6), .ref (a 18), .ref (a 19), .int 0, .ref (a 20), .ref (a 21), .int 0, .int 0, .int 0, .int 0, .int (-1)])), ((a 6), .inr (10, [.ref (a 1), .ref (a 7), .ref (a 8), .ref (a 9), .int 0, .int 0, .int 0, .int 0, .int 1, .int 0, .int 0])), ((a 20), .inl (J.2.1, 32, .inl (fun _ => 0))), ((a 21), .inl (J.2.1, 32, .inl (fun _ => 0)))] sz (Qi J (fun (r : Int32) (_ : Unit) => r = sp_sureFrom (x.toInt) (k.toInt)) (fun (_ : Unit) => [])) 0 0 := by
  refine wc_of (by decide) (Nat.le_of_ble_eq_true rfl) ?_
  intro p e s m below meth c ls A hE hl hP hK hD hS hA
  obtain ⟨hx, hb, hr, hml, hown, hts, hlk, hin⟩ := hE
  have hown : s.vm.findClass RX11 = some m.cls := hown
  have hl : lv_has ls 3 [(0, .ref (a 0)), (1, .int x), (2, .int k)] := hl
  have rg_x := i_rng x
  have rg_k := i_rng k
  refine lv_aload_n hx hb dX11_sureFrom_0 rfl (lv_at hl 0 rfl) ?_
  refine va_get (D := J.1) (ci := 11) (v := .ref (a 6)) (C := RX11) (T := TX11) (N := 13) hx hb hts inX11 hown hK.1 hP 0 rfl rfl 1 (by decide) (hts _ q_461) (fun _ h9 => h9) rfl dX11_sureFrom_1 ?_
  refine lv_iload_n hx hb dX11_sureFrom_4 rfl (lv_at hl 1 rfl) ?_
  refine go_i (rn_V (As := [.int x]) (rest := []) hx hb hml hown hts hK (cW_areHoles l J (a 6) (a 1) (a 7) (a 8) (a 9) x) kV_RX11_228 (hP.sub (ws' := [((a 6), .inr (10, [.ref (a 1), .ref (a 7), .ref (a 8), .ref (a 9), .int 0, .int 0, .int 0, .int 0, .int 1, .int 0, .int 0]))]) [2] rfl) rfl rfl rfl ⟨Nat.le_of_ble_eq_true rfl, Nat.le_of_ble_eq_true rfl⟩ rfl rfl rfl hl.1 rfl (Nat.le_of_ble_eq_true rfl) ⟨Nat.le_of_ble_eq_true rfl, Nat.le_of_ble_eq_true rfl⟩ dX11_sureFrom_5) ?_
  refine lv_if_eq (tgt := 21) hx hb dX11_sureFrom_8 (by decide) (fun c1 => ?_) (fun c1 => ?_)
  · have j2 := b0 c1
    refine lv_iconst (v := (-1)) hx hb dX11_sureFrom_21 (by decide) ?_
    exact wz_i () hx hb hr hlk (by unfold sp_sureFrom; (repeat' split) <;> first | rfl | (exfalso; omega)) (hP.sub (ws' := []) [] rfl) (hD.sub (ws' := []) [] (by decide) rfl) hS dX11_sureFrom_22
  · have j3 := b1 c1
    refine lv_iload_n hx hb dX11_sureFrom_11 rfl (lv_at hl 2 rfl) ?_
    refine lv_if_lt (tgt := 21) hx hb dX11_sureFrom_12 (by decide) (fun c4 => ?_) (fun c4 => ?_)
    · have j5 : k.toInt < 0 := (i_lt rfl (by decide)).mp c4
      refine lv_iconst (v := (-1)) hx hb dX11_sureFrom_21 (by decide) ?_
      exact wz_i () hx hb hr hlk (by unfold sp_sureFrom; (repeat' split) <;> first | rfl | (exfalso; omega)) (hP.sub (ws' := []) [] rfl) (hD.sub (ws' := []) [] (by decide) rfl) hS dX11_sureFrom_22
    · have j6 : ¬ (k.toInt < 0) := fun h => c4 ((i_lt rfl (by decide)).mpr h)
      refine lv_iload_n hx hb dX11_sureFrom_15 rfl (lv_at hl 2 rfl) ?_
      refine lv_bipush (v := 7) hx hb dX11_sureFrom_16 (by decide) ?_
      refine lv_icmp_lt (tgt := 23) hx hb dX11_sureFrom_18 (by decide) (fun c7 => ?_) (fun c7 => ?_)
      · have j8 : k.toInt < 7 := (i_lt rfl (by decide)).mp c7
        refine lv_aload_n hx hb dX11_sureFrom_23 rfl (lv_at hl 0 rfl) ?_
        refine va_get (D := J.1) (ci := 11) (v := .ref (a 17)) (C := RX11) (T := TX11) (N := 13) hx hb hts inX11 hown hK.1 hP 0 rfl rfl 4 (by decide) (hts _ q_464) (fun _ h9 => h9) rfl dX11_sureFrom_24 ?_
        refine lv_iload_n hx hb dX11_sureFrom_27 rfl (lv_at hl 1 rfl) ?_
        refine lv_iload_n hx hb dX11_sureFrom_28 rfl (lv_at hl 2 rfl) ?_
        refine gw_i (wc := [((a 17), .inr (6, [.ref (a 6), .ref (a 18), .ref (a 19), .int 0, .ref (a 20), .ref (a 21), .int 0, .int 0, .int 0, .int 0, .int (-1)])), ((a 6), .inr (10, [.ref (a 1), .ref (a 7), .ref (a 8), .ref (a 9), .int 0, .int 0, .int 0, .int 0, .int 1, .int 0, .int 0])), ((a 20), .inl (J.2.1, 32, .inl (fun _ => 0))), ((a 21), .inl (J.2.1, 32, .inl (fun _ => 0)))]) (wr := [((a 0), .inr (11, [.ref (a 1), .ref (a 6), .ref (a 10), .ref (a 15), .ref (a 17), .ref (a 22), .ref (a 23), .ref (a 30), .ref (a 31), .ref (a 34), .int 0, .ref (a 37), .ref (a 40)]))]) hP hD hS hA [1, 2, 3, 4] [0] rfl rfl (by decide) (by decide) (wn_V (As := [.int x, .int k]) (rest := []) hx hb hml hown hts hK (cH_from l J _ (a 17) (a 6) (a 18) (a 19) (a 20) (a 21) (a 1) (a 7) (a 8) (a 9) x k) kV_RX11_231 (hP.sub (ws' := [((a 17), .inr (6, [.ref (a 6), .ref (a 18), .ref (a 19), .int 0, .ref (a 20), .ref (a 21), .int 0, .int 0, .int 0, .int 0, .int (-1)])), ((a 6), .inr (10, [.ref (a 1), .ref (a 7), .ref (a 8), .ref (a 9), .int 0, .int 0, .int 0, .int 0, .int 1, .int 0, .int 0])), ((a 20), .inl (J.2.1, 32, .inl (fun _ => 0))), ((a 21), .inl (J.2.1, 32, .inl (fun _ => 0)))]) [1, 2, 3, 4] rfl) ((hD.sub (ws' := [((a 17), .inr (6, [.ref (a 6), .ref (a 18), .ref (a 19), .int 0, .ref (a 20), .ref (a 21), .int 0, .int 0, .int 0, .int 0, .int (-1)])), ((a 6), .inr (10, [.ref (a 1), .ref (a 7), .ref (a 8), .ref (a 9), .int 0, .int 0, .int 0, .int 0, .int 1, .int 0, .int 0])), ((a 20), .inl (J.2.1, 32, .inl (fun _ => 0))), ((a 21), .inl (J.2.1, 32, .inl (fun _ => 0)))]) [1, 2, 3, 4] (by decide) rfl).weaken (fun _ _ _ _ => trivial)) rfl rfl rfl ⟨Nat.le_of_ble_eq_true rfl, Nat.le_of_ble_eq_true rfl⟩ rfl rfl rfl hl.1 rfl (Nat.le_of_ble_eq_true rfl) ⟨Nat.le_of_ble_eq_true rfl, Nat.le_of_ble_eq_true rfl⟩ dX11_sureFrom_29) (fun r10 u9 H locs hw hP hD hS => ?_)
        subst hw
        have hP : va_P J.1 cls [((a 0), .inr (11, [.ref (a 1), .ref (a 6), .ref (a 10), .ref (a 15), .ref (a 17), .ref (a 22), .ref (a 23), .ref (a 30), .ref (a 31), .ref (a 34), .int 0, .ref (a 37), .ref (a 40)]))] H := hP
        have hD : va_D A [((a 0), .inr (11, [.ref (a 1), .ref (a 6), .ref (a 10), .ref (a 15), .ref (a 17), .ref (a 22), .ref (a 23), .ref (a 30), .ref (a 31), .ref (a 34), .int 0, .ref (a 37), .ref (a 40)]))] := hD
        refine W.widen (k := 0) (n := 0) (Nat.le_of_ble_eq_true rfl) (Nat.le_of_ble_eq_true rfl) ?_
        exact wz_i () hx hb hr hlk (by unfold sp_sureFrom; (repeat' split) <;> first | rfl | (exfalso; omega)) (hP.sub (ws' := []) [] rfl) (hD.sub (ws' := []) [] (by decide) rfl) hS dX11_sureFrom_32
      · have j11 : ¬ (k.toInt < 7) := fun h => c7 ((i_lt rfl (by decide)).mpr h)
        refine lv_iconst (v := (-1)) hx hb dX11_sureFrom_21 (by decide) ?_
        exact wz_i () hx hb hr hlk (by unfold sp_sureFrom; (repeat' split) <;> first | rfl | (exfalso; omega)) (hP.sub (ws' := []) [] rfl) (hD.sub (ws' := []) [] (by decide) rfl) hS dX11_sureFrom_22
theorem dX11_ring_0 : decode cX11_ring 0 = .ok (.aload_n 0, 1) := by decide +kernel
theorem q_465 : Cond.fieldLink RX11 51 RX11 "ground" "LFoxHoles$Ground;" ∈ lw_g := mem_q 465 (by decide +kernel) rfl
theorem dX11_ring_1 : decode cX11_ring 1 = .ok (.getfield 51, 3) := by decide +kernel
theorem q_891 : Cond.methodLink RX11 234 yX5_hasRing ∈ lw_g := mem_q 891 (by decide +kernel) rfl
theorem q_892 : Cond.instanceMethod yX5_hasRing ∈ lw_g := mem_q 892 (by decide +kernel) rfl
theorem q_893 : Cond.selects RX5 yX5_hasRing yX5_hasRing ∈ lw_g := mem_q 893 (by decide +kernel) rfl
theorem q_109 : Cond.initialized RX5 ∈ lw_g := mem_q 109 (by decide +kernel) rfl
theorem q_894 : Cond.code yX5_hasRing cX5_hasRing 4 (some .boolean) ∈ lw_g := mem_q 894 (by decide +kernel) rfl
theorem kV_RX11_234 : CV RX11 234 RX5 yX5_hasRing cX5_hasRing 4 (some .boolean) 0 := cv_of q_891 q_892 q_893 q_109 q_894 (by decide +kernel)
theorem dX11_ring_4 : decode cX11_ring 4 = .ok (.invokevirtual 234, 3) := by decide +kernel
theorem dX11_ring_7 : decode cX11_ring 7 = .ok (.ifCond .eq 7, 3) := by decide +kernel
theorem dX11_ring_14 : decode cX11_ring 14 = .ok (.iconst 0, 1) := by decide +kernel
theorem dX11_ring_15 : decode cX11_ring 15 = .ok (.ireturn, 1) := by decide +kernel
set_option maxHeartbeats 4000000 in
set_option maxRecDepth 100000 in
theorem c_ring (l : Launch) (J : va_J9) (a : Nat → Nat) : RC l J yX11_ring cX11_ring 1 (some .int) ({ frames := 4, cells := 0, slots := 0, locals := 86 }) [.ref (a 0)] [((a 0), .inr (11, [.ref (a 1), .ref (a 6), .ref (a 10), .ref (a 15), .ref (a 17), .ref (a 22), .ref (a 23), .ref (a 30), .ref (a 31), .ref (a 34), .int 0, .ref (a 37), .ref (a 40)])), ((a 22), .inr (5, [.ref (a 6)])), ((a 6), .inr (10, [.ref (a 1), .ref (a 7), .ref (a 8), .ref (a 9), .int 0, .int 0, .int 0, .int 0, .int 1, .int 0, .int 0]))] (vp_Si (fun r => r = 0)) := by
  refine rc_of (by decide) (Nat.le_of_ble_eq_true rfl) ?_
  intro p e s m below meth c ls hE hl hP hK
  obtain ⟨hx, hb, hr, hml, hown, hts, hlk, hin⟩ := hE
  have hown : s.vm.findClass RX11 = some m.cls := hown
  have hl : lv_has ls 1 [(0, .ref (a 0))] := hl
  refine lv_aload_n hx hb dX11_ring_0 rfl (lv_at hl 0 rfl) ?_
  refine va_get (D := J.1) (ci := 11) (v := .ref (a 22)) (C := RX11) (T := TX11) (N := 13) hx hb hts inX11 hown hK.1 hP 0 rfl rfl 5 (by decide) (hts _ q_465) (fun _ h9 => h9) rfl dX11_ring_1 ?_
  refine go_i (rn_V (As := []) (rest := []) hx hb hml hown hts hK (cG_ring l J (a 22) (a 6) (a 1) (a 7) (a 8) (a 9)) kV_RX11_234 (hP.sub (ws' := [((a 22), .inr (5, [.ref (a 6)])), ((a 6), .inr (10, [.ref (a 1), .ref (a 7), .ref (a 8), .ref (a 9), .int 0, .int 0, .int 0, .int 0, .int 1, .int 0, .int 0]))]) [1, 2] rfl) rfl rfl rfl ⟨Nat.le_of_ble_eq_true rfl, Nat.le_of_ble_eq_true rfl⟩ rfl rfl rfl hl.1 rfl (Nat.le_of_ble_eq_true rfl) ⟨Nat.le_of_ble_eq_true rfl, Nat.le_of_ble_eq_true rfl⟩ dX11_ring_4) ?_
  refine lv_if_eq (tgt := 14) hx hb dX11_ring_7 (by decide) (fun _ => ?_) (fun c => absurd c (by decide))
  refine lv_iconst (v := 0) hx hb dX11_ring_14 (by decide) ?_
  exact rz_i hx hb hr hlk (by decide) dX11_ring_15
theorem dX11_arms_0 : decode cX11_arms 0 = .ok (.aload_n 0, 1) := by decide +kernel
theorem dX11_arms_1 : decode cX11_arms 1 = .ok (.getfield 51, 3) := by decide +kernel
theorem q_905 : Cond.methodLink RX11 237 yX5_centres ∈ lw_g := mem_q 905 (by decide +kernel) rfl
theorem q_906 : Cond.instanceMethod yX5_centres ∈ lw_g := mem_q 906 (by decide +kernel) rfl
theorem q_907 : Cond.selects RX5 yX5_centres yX5_centres ∈ lw_g := mem_q 907 (by decide +kernel) rfl
theorem q_908 : Cond.code yX5_centres cX5_centres 3 (some .int) ∈ lw_g := mem_q 908 (by decide +kernel) rfl
theorem kV_RX11_237 : CV RX11 237 RX5 yX5_centres cX5_centres 3 (some .int) 0 := cv_of q_905 q_906 q_907 q_109 q_908 (by decide +kernel)
theorem dX11_arms_4 : decode cX11_arms 4 = .ok (.invokevirtual 237, 3) := by decide +kernel
theorem dX11_arms_7 : decode cX11_arms 7 = .ok (.ireturn, 1) := by decide +kernel
set_option maxHeartbeats 4000000 in
set_option maxRecDepth 100000 in
theorem c_arms (l : Launch) (J : va_J9) (a : Nat → Nat) : RC l J yX11_arms cX11_arms 1 (some .int) ({ frames := 1, cells := 0, slots := 0, locals := 22 }) [.ref (a 0)] [((a 0), .inr (11, [.ref (a 1), .ref (a 6), .ref (a 10), .ref (a 15), .ref (a 17), .ref (a 22), .ref (a 23), .ref (a 30), .ref (a 31), .ref (a 34), .int 0, .ref (a 37), .ref (a 40)])), ((a 22), .inr (5, [.ref (a 6)])), ((a 6), .inr (10, [.ref (a 1), .ref (a 7), .ref (a 8), .ref (a 9), .int 0, .int 0, .int 0, .int 0, .int 1, .int 0, .int 0]))] (vp_Si (fun r => r = 0)) := by
  refine rc_of (by decide) (Nat.le_of_ble_eq_true rfl) ?_
  intro p e s m below meth c ls hE hl hP hK
  obtain ⟨hx, hb, hr, hml, hown, hts, hlk, hin⟩ := hE
  have hown : s.vm.findClass RX11 = some m.cls := hown
  have hl : lv_has ls 1 [(0, .ref (a 0))] := hl
  refine lv_aload_n hx hb dX11_arms_0 rfl (lv_at hl 0 rfl) ?_
  refine va_get (D := J.1) (ci := 11) (v := .ref (a 22)) (C := RX11) (T := TX11) (N := 13) hx hb hts inX11 hown hK.1 hP 0 rfl rfl 5 (by decide) (hts _ q_465) (fun _ h9 => h9) rfl dX11_arms_1 ?_
  refine go_i (rn_V (As := []) (rest := []) hx hb hml hown hts hK (cG_centres l J (a 22) (a 6) (a 1) (a 7) (a 8) (a 9)) kV_RX11_237 (hP.sub (ws' := [((a 22), .inr (5, [.ref (a 6)])), ((a 6), .inr (10, [.ref (a 1), .ref (a 7), .ref (a 8), .ref (a 9), .int 0, .int 0, .int 0, .int 0, .int 1, .int 0, .int 0]))]) [1, 2] rfl) rfl rfl rfl ⟨Nat.le_of_ble_eq_true rfl, Nat.le_of_ble_eq_true rfl⟩ rfl rfl rfl hl.1 rfl (Nat.le_of_ble_eq_true rfl) ⟨Nat.le_of_ble_eq_true rfl, Nat.le_of_ble_eq_true rfl⟩ dX11_arms_4) ?_
  exact rz_i hx hb hr hlk (by decide) dX11_arms_7
theorem dX11_toStop_0 : decode cX11_toStop 0 = .ok (.iload_n 1, 1) := by decide +kernel
theorem dX11_toStop_1 : decode cX11_toStop 1 = .ok (.iconst 1, 1) := by decide +kernel
theorem dX11_toStop_2 : decode cX11_toStop 2 = .ok (.if_icmp .lt 9, 3) := by decide +kernel
theorem dX11_toStop_11 : decode cX11_toStop 11 = .ok (.iconst (-1), 1) := by decide +kernel
theorem dX11_toStop_12 : decode cX11_toStop 12 = .ok (.ireturn, 1) := by decide +kernel
theorem dX11_toStop_5 : decode cX11_toStop 5 = .ok (.iload_n 1, 1) := by decide +kernel
theorem dX11_toStop_6 : decode cX11_toStop 6 = .ok (.bipush 40, 2) := by decide +kernel
theorem dX11_toStop_8 : decode cX11_toStop 8 = .ok (.if_icmp .le 5, 3) := by decide +kernel
theorem dX11_toStop_13 : decode cX11_toStop 13 = .ok (.aload_n 0, 1) := by decide +kernel
theorem dX11_toStop_14 : decode cX11_toStop 14 = .ok (.getfield 44, 3) := by decide +kernel
theorem dX11_toStop_17 : decode cX11_toStop 17 = .ok (.iload_n 1, 1) := by decide +kernel
theorem q_922 : Cond.methodLink RX11 240 yX6_fewestStops ∈ lw_g := mem_q 922 (by decide +kernel) rfl
theorem q_923 : Cond.instanceMethod yX6_fewestStops ∈ lw_g := mem_q 923 (by decide +kernel) rfl
theorem q_924 : Cond.selects RX6 yX6_fewestStops yX6_fewestStops ∈ lw_g := mem_q 924 (by decide +kernel) rfl
theorem q_925 : Cond.code yX6_fewestStops cX6_fewestStops 7 (some .int) ∈ lw_g := mem_q 925 (by decide +kernel) rfl
theorem kV_RX11_240 : CV RX11 240 RX6 yX6_fewestStops cX6_fewestStops 7 (some .int) 1 := cv_of q_922 q_923 q_924 q_108 q_925 (by decide +kernel)
theorem dX11_toStop_18 : decode cX11_toStop 18 = .ok (.invokevirtual 240, 3) := by decide +kernel
theorem dX11_toStop_21 : decode cX11_toStop 21 = .ok (.ireturn, 1) := by decide +kernel
set_option maxHeartbeats 4000000 in
set_option maxRecDepth 100000 in
theorem c_toStop (l : Launch) (J : va_J9) (sz : Nat) (a : Nat → Nat) (n : Int32) : WC l J yX11_toStop cX11_toStop 2 (some .int) ({ frames := 3, cells := 0, slots := 0, locals := 70 }) [.ref (a 0), .int n] [((a 0), .inr (11, [.ref (a 1), .ref (a 6), .ref (a 10), .ref (a 15), .ref (a 17), .ref (a 22), .ref (a 23), .ref (a 30), .ref (a 31), .ref (a 34), .int 0, .ref (a 37), .ref (a 40)])), ((a 17), .inr (6, [.ref (a 6), .ref (a 18), .ref (a 19), .int 0, .ref (a 20), .ref (a 21), .int 0, .int 0, .int 0, .int 0, .int (-1)])), ((a 6), .inr (10, [.ref (a 1), .ref (a 7), .ref (a 8), .ref (a 9), .int 0, .int 0, .int 0, .int 0, .int 1, .int 0, .int 0]))] sz (Qi J (fun (r : Int32) (_ : Unit) => r = sp_toStop (n.toInt)) (fun (_ : Unit) => [])) 0 0 := by
  refine wc_of (by decide) (Nat.le_of_ble_eq_true rfl) ?_
  intro p e s m below meth c ls A hE hl hP hK hD hS hA
  obtain ⟨hx, hb, hr, hml, hown, hts, hlk, hin⟩ := hE
  have hown : s.vm.findClass RX11 = some m.cls := hown
  have hl : lv_has ls 2 [(0, .ref (a 0)), (1, .int n)] := hl
  have rg_n := i_rng n
  refine lv_iload_n hx hb dX11_toStop_0 rfl (lv_at hl 1 rfl) ?_
  refine lv_iconst (v := 1) hx hb dX11_toStop_1 (by decide) ?_
  refine lv_icmp_lt (tgt := 11) hx hb dX11_toStop_2 (by decide) (fun c1 => ?_) (fun c1 => ?_)
  · have j2 : n.toInt < 1 := (i_lt rfl (by decide)).mp c1
    refine lv_iconst (v := (-1)) hx hb dX11_toStop_11 (by decide) ?_
    exact wz_i () hx hb hr hlk (by unfold sp_toStop; (repeat' split) <;> first | rfl | (exfalso; omega)) (hP.sub (ws' := []) [] rfl) (hD.sub (ws' := []) [] (by decide) rfl) hS dX11_toStop_12
  · have j3 : ¬ (n.toInt < 1) := fun h => c1 ((i_lt rfl (by decide)).mpr h)
    refine lv_iload_n hx hb dX11_toStop_5 rfl (lv_at hl 1 rfl) ?_
    refine lv_bipush (v := 40) hx hb dX11_toStop_6 (by decide) ?_
    refine lv_icmp_le (tgt := 13) hx hb dX11_toStop_8 (by decide) (fun c4 => ?_) (fun c4 => ?_)
    · have j5 : n.toInt ≤ 40 := (i_le rfl (by decide)).mp c4
      refine lv_aload_n hx hb dX11_toStop_13 rfl (lv_at hl 0 rfl) ?_
      refine va_get (D := J.1) (ci := 11) (v := .ref (a 17)) (C := RX11) (T := TX11) (N := 13) hx hb hts inX11 hown hK.1 hP 0 rfl rfl 4 (by decide) (hts _ q_464) (fun _ h9 => h9) rfl dX11_toStop_14 ?_
      refine lv_iload_n hx hb dX11_toStop_17 rfl (lv_at hl 1 rfl) ?_
      refine gw_i (wc := [((a 17), .inr (6, [.ref (a 6), .ref (a 18), .ref (a 19), .int 0, .ref (a 20), .ref (a 21), .int 0, .int 0, .int 0, .int 0, .int (-1)])), ((a 6), .inr (10, [.ref (a 1), .ref (a 7), .ref (a 8), .ref (a 9), .int 0, .int 0, .int 0, .int 0, .int 1, .int 0, .int 0]))]) (wr := [((a 0), .inr (11, [.ref (a 1), .ref (a 6), .ref (a 10), .ref (a 15), .ref (a 17), .ref (a 22), .ref (a 23), .ref (a 30), .ref (a 31), .ref (a 34), .int 0, .ref (a 37), .ref (a 40)]))]) hP hD hS hA [1, 2] [0] rfl rfl (by decide) (by decide) (wn_V (As := [.int n]) (rest := []) hx hb hml hown hts hK (cH_stops l J _ (a 17) (a 6) (a 18) (a 19) (a 20) (a 21) (a 1) (a 7) (a 8) (a 9) n (by omega)) kV_RX11_240 (hP.sub (ws' := [((a 17), .inr (6, [.ref (a 6), .ref (a 18), .ref (a 19), .int 0, .ref (a 20), .ref (a 21), .int 0, .int 0, .int 0, .int 0, .int (-1)])), ((a 6), .inr (10, [.ref (a 1), .ref (a 7), .ref (a 8), .ref (a 9), .int 0, .int 0, .int 0, .int 0, .int 1, .int 0, .int 0]))]) [1, 2] rfl) ((hD.sub (ws' := [((a 17), .inr (6, [.ref (a 6), .ref (a 18), .ref (a 19), .int 0, .ref (a 20), .ref (a 21), .int 0, .int 0, .int 0, .int 0, .int (-1)])), ((a 6), .inr (10, [.ref (a 1), .ref (a 7), .ref (a 8), .ref (a 9), .int 0, .int 0, .int 0, .int 0, .int 1, .int 0, .int 0]))]) [1, 2] (by decide) rfl).weaken (fun _ _ _ _ => trivial)) rfl rfl rfl ⟨Nat.le_of_ble_eq_true rfl, Nat.le_of_ble_eq_true rfl⟩ rfl rfl rfl hl.1 rfl (Nat.le_of_ble_eq_true rfl) ⟨Nat.le_of_ble_eq_true rfl, Nat.le_of_ble_eq_true rfl⟩ dX11_toStop_18) (fun r7 u6 H locs hw hP hD hS => ?_)
      subst hw
      have hP : va_P J.1 cls [((a 0), .inr (11, [.ref (a 1), .ref (a 6), .ref (a 10), .ref (a 15), .ref (a 17), .ref (a 22), .ref (a 23), .ref (a 30), .ref (a 31), .ref (a 34), .int 0, .ref (a 37), .ref (a 40)]))] H := hP
      have hD : va_D A [((a 0), .inr (11, [.ref (a 1), .ref (a 6), .ref (a 10), .ref (a 15), .ref (a 17), .ref (a 22), .ref (a 23), .ref (a 30), .ref (a 31), .ref (a 34), .int 0, .ref (a 37), .ref (a 40)]))] := hD
      refine W.widen (k := 0) (n := 0) (Nat.le_of_ble_eq_true rfl) (Nat.le_of_ble_eq_true rfl) ?_
      exact wz_i () hx hb hr hlk (by unfold sp_toStop; (repeat' split) <;> first | rfl | (exfalso; omega)) (hP.sub (ws' := []) [] rfl) (hD.sub (ws' := []) [] (by decide) rfl) hS dX11_toStop_21
    · have j8 : ¬ (n.toInt ≤ 40) := fun h => c4 ((i_le rfl (by decide)).mpr h)
      refine lv_iconst (v := (-1)) hx hb dX11_toStop_11 (by decide) ?_
      exact wz_i () hx hb hr hlk (by unfold sp_toStop; (repeat' split) <;> first | rfl | (exfalso; omega)) (hP.sub (ws' := []) [] rfl) (hD.sub (ws' := []) [] (by decide) rfl) hS dX11_toStop_12
theorem dX11_dogs_0 : decode cX11_dogs 0 = .ok (.aload_n 0, 1) := by decide +kernel
theorem dX11_dogs_1 : decode cX11_dogs 1 = .ok (.getfield 21, 3) := by decide +kernel
theorem dX11_dogs_4 : decode cX11_dogs 4 = .ok (.iload_n 1, 1) := by decide +kernel
theorem q_938 : Cond.methodLink RX11 243 yX10_isOpen ∈ lw_g := mem_q 938 (by decide +kernel) rfl
theorem kV_RX11_243 : CV RX11 243 RX10 yX10_isOpen cX10_isOpen 2 (some .boolean) 1 := cv_of q_938 q_652 q_653 q_105 q_654 (by decide +kernel)
theorem dX11_dogs_5 : decode cX11_dogs 5 = .ok (.invokevirtual 243, 3) := by decide +kernel
theorem dX11_dogs_8 : decode cX11_dogs 8 = .ok (.ifCond .eq 14, 3) := by decide +kernel
theorem dX11_dogs_22 : decode cX11_dogs 22 = .ok (.iconst (-1), 1) := by decide +kernel
theorem dX11_dogs_23 : decode cX11_dogs 23 = .ok (.ireturn, 1) := by decide +kernel
set_option maxHeartbeats 4000000 in
set_option maxRecDepth 100000 in
theorem c_dogs (l : Launch) (J : va_J9) (a : Nat → Nat) (x : Int32) : RC l J yX11_dogs cX11_dogs 2 (some .int) ({ frames := 2, cells := 0, slots := 0, locals := 42 }) [.ref (a 0), .int x] [((a 0), .inr (11, [.ref (a 1), .ref (a 6), .ref (a 10), .ref (a 15), .ref (a 17), .ref (a 22), .ref (a 23), .ref (a 30), .ref (a 31), .ref (a 34), .int 0, .ref (a 37), .ref (a 40)])), ((a 6), .inr (10, [.ref (a 1), .ref (a 7), .ref (a 8), .ref (a 9), .int 0, .int 0, .int 0, .int 0, .int 1, .int 0, .int 0]))] (vp_Si (fun r => r = (-1))) := by
  refine rc_of (by decide) (Nat.le_of_ble_eq_true rfl) ?_
  intro p e s m below meth c ls hE hl hP hK
  obtain ⟨hx, hb, hr, hml, hown, hts, hlk, hin⟩ := hE
  have hown : s.vm.findClass RX11 = some m.cls := hown
  have hl : lv_has ls 2 [(0, .ref (a 0)), (1, .int x)] := hl
  have rg_x := i_rng x
  refine lv_aload_n hx hb dX11_dogs_0 rfl (lv_at hl 0 rfl) ?_
  refine va_get (D := J.1) (ci := 11) (v := .ref (a 6)) (C := RX11) (T := TX11) (N := 13) hx hb hts inX11 hown hK.1 hP 0 rfl rfl 1 (by decide) (hts _ q_461) (fun _ h9 => h9) rfl dX11_dogs_1 ?_
  refine lv_iload_n hx hb dX11_dogs_4 rfl (lv_at hl 1 rfl) ?_
  refine go_i (rn_V (As := [.int x]) (rest := []) hx hb hml hown hts hK (cW_isOpen l J (a 6) (a 1) (a 7) (a 8) (a 9) x) kV_RX11_243 (hP.sub (ws' := [((a 6), .inr (10, [.ref (a 1), .ref (a 7), .ref (a 8), .ref (a 9), .int 0, .int 0, .int 0, .int 0, .int 1, .int 0, .int 0]))]) [1] rfl) rfl rfl rfl ⟨Nat.le_of_ble_eq_true rfl, Nat.le_of_ble_eq_true rfl⟩ rfl rfl rfl hl.1 rfl (Nat.le_of_ble_eq_true rfl) ⟨Nat.le_of_ble_eq_true rfl, Nat.le_of_ble_eq_true rfl⟩ dX11_dogs_5) ?_
  refine lv_if_eq (tgt := 22) hx hb dX11_dogs_8 (by decide) (fun _ => ?_) (fun c => absurd c (by decide))
  refine lv_iconst (v := (-1)) hx hb dX11_dogs_22 (by decide) ?_
  exact rz_i hx hb hr hlk (by decide) dX11_dogs_23
theorem dX11_kept_0 : decode cX11_kept 0 = .ok (.aload_n 0, 1) := by decide +kernel
theorem dX11_kept_1 : decode cX11_kept 1 = .ok (.getfield 21, 3) := by decide +kernel
theorem dX11_kept_4 : decode cX11_kept 4 = .ok (.iload_n 1, 1) := by decide +kernel
theorem dX11_kept_5 : decode cX11_kept 5 = .ok (.invokevirtual 228, 3) := by decide +kernel
theorem dX11_kept_8 : decode cX11_kept 8 = .ok (.ifCond .eq 14, 3) := by decide +kernel
theorem dX11_kept_22 : decode cX11_kept 22 = .ok (.iconst (-1), 1) := by decide +kernel
theorem dX11_kept_23 : decode cX11_kept 23 = .ok (.ireturn, 1) := by decide +kernel
theorem dX11_kept_11 : decode cX11_kept 11 = .ok (.aload_n 0, 1) := by decide +kernel
theorem dX11_kept_12 : decode cX11_kept 12 = .ok (.getfield 51, 3) := by decide +kernel
theorem dX11_kept_15 : decode cX11_kept 15 = .ok (.iload_n 1, 1) := by decide +kernel
theorem q_948 : Cond.methodLink RX11 249 yX5_everWithout ∈ lw_g := mem_q 948 (by decide +kernel) rfl
theorem q_949 : Cond.instanceMethod yX5_everWithout ∈ lw_g := mem_q 949 (by decide +kernel) rfl
theorem q_950 : Cond.selects RX5 yX5_everWithout yX5_everWithout ∈ lw_g := mem_q 950 (by decide +kernel) rfl
theorem q_951 : Cond.code yX5_everWithout cX5_everWithout 4 (some .int) ∈ lw_g := mem_q 951 (by decide +kernel) rfl
theorem kV_RX11_249 : CV RX11 249 RX5 yX5_everWithout cX5_everWithout 4 (some .int) 1 := cv_of q_948 q_949 q_950 q_109 q_951 (by decide +kernel)
theorem dX11_kept_16 : decode cX11_kept 16 = .ok (.invokevirtual 249, 3) := by decide +kernel
theorem dX11_kept_19 : decode cX11_kept 19 = .ok (.goto 4, 3) := by decide +kernel
set_option maxHeartbeats 4000000 in
set_option maxRecDepth 100000 in
theorem c_kept (l : Launch) (J : va_J9) (a : Nat → Nat) (x : Int32) : RC l J yX11_kept cX11_kept 2 (some .int) ({ frames := 2, cells := 0, slots := 0, locals := 47 }) [.ref (a 0), .int x] [((a 0), .inr (11, [.ref (a 1), .ref (a 6), .ref (a 10), .ref (a 15), .ref (a 17), .ref (a 22), .ref (a 23), .ref (a 30), .ref (a 31), .ref (a 34), .int 0, .ref (a 37), .ref (a 40)])), ((a 22), .inr (5, [.ref (a 6)])), ((a 6), .inr (10, [.ref (a 1), .ref (a 7), .ref (a 8), .ref (a 9), .int 0, .int 0, .int 0, .int 0, .int 1, .int 0, .int 0]))] (vp_Si (fun r => r = sp_kept (x.toInt))) := by
  refine rc_of (by decide) (Nat.le_of_ble_eq_true rfl) ?_
  intro p e s m below meth c ls hE hl hP hK
  obtain ⟨hx, hb, hr, hml, hown, hts, hlk, hin⟩ := hE
  have hown : s.vm.findClass RX11 = some m.cls := hown
  have hl : lv_has ls 2 [(0, .ref (a 0)), (1, .int x)] := hl
  have rg_x := i_rng x
  refine lv_aload_n hx hb dX11_kept_0 rfl (lv_at hl 0 rfl) ?_
  refine va_get (D := J.1) (ci := 11) (v := .ref (a 6)) (C := RX11) (T := TX11) (N := 13) hx hb hts inX11 hown hK.1 hP 0 rfl rfl 1 (by decide) (hts _ q_461) (fun _ h9 => h9) rfl dX11_kept_1 ?_
  refine lv_iload_n hx hb dX11_kept_4 rfl (lv_at hl 1 rfl) ?_
  refine go_i (rn_V (As := [.int x]) (rest := []) hx hb hml hown hts hK (cW_areHoles l J (a 6) (a 1) (a 7) (a 8) (a 9) x) kV_RX11_228 (hP.sub (ws' := [((a 6), .inr (10, [.ref (a 1), .ref (a 7), .ref (a 8), .ref (a 9), .int 0, .int 0, .int 0, .int 0, .int 1, .int 0, .int 0]))]) [2] rfl) rfl rfl rfl ⟨Nat.le_of_ble_eq_true rfl, Nat.le_of_ble_eq_true rfl⟩ rfl rfl rfl hl.1 rfl (Nat.le_of_ble_eq_true rfl) ⟨Nat.le_of_ble_eq_true rfl, Nat.le_of_ble_eq_true rfl⟩ dX11_kept_5) ?_
  refine lv_if_eq (tgt := 22) hx hb dX11_kept_8 (by decide) (fun c1 => ?_) (fun c1 => ?_)
  · have j2 := b0 c1
    refine lv_iconst (v := (-1)) hx hb dX11_kept_22 (by decide) ?_
    exact rz_i hx hb hr hlk (by unfold sp_kept; (repeat' split) <;> first | rfl | (exfalso; omega)) dX11_kept_23
  · have j3 := b1 c1
    refine lv_aload_n hx hb dX11_kept_11 rfl (lv_at hl 0 rfl) ?_
    refine va_get (D := J.1) (ci := 11) (v := .ref (a 22)) (C := RX11) (T := TX11) (N := 13) hx hb hts inX11 hown hK.1 hP 0 rfl rfl 5 (by decide) (hts _ q_465) (fun _ h9 => h9) rfl dX11_kept_12 ?_
    refine lv_iload_n hx hb dX11_kept_15 rfl (lv_at hl 1 rfl) ?_
    refine go_i (rn_V (As := [.int x]) (rest := []) hx hb hml hown hts hK (cG_ever l J (a 22) (a 6) (a 1) (a 7) (a 8) (a 9) x) kV_RX11_249 (hP.sub (ws' := [((a 22), .inr (5, [.ref (a 6)])), ((a 6), .inr (10, [.ref (a 1), .ref (a 7), .ref (a 8), .ref (a 9), .int 0, .int 0, .int 0, .int 0, .int 1, .int 0, .int 0]))]) [1, 2] rfl) rfl rfl rfl ⟨Nat.le_of_ble_eq_true rfl, Nat.le_of_ble_eq_true rfl⟩ rfl rfl rfl hl.1 rfl (Nat.le_of_ble_eq_true rfl) ⟨Nat.le_of_ble_eq_true rfl, Nat.le_of_ble_eq_true rfl⟩ dX11_kept_16) ?_
    refine lv_goto (tgt := 23) hx hb dX11_kept_19 (by decide) ?_
    exact rz_i hx hb hr hlk (by unfold sp_kept; (repeat' split) <;> first | rfl | (exfalso; omega)) dX11_kept_23
