theorem dX12_row_0 : decode cX12_row 0 = .ok (.iload_n 1, 1) := by decide +kernel
theorem dX12_row_1 : decode cX12_row 1 = .ok (.invokestatic 114, 3) := by decide +kernel
theorem dX12_row_4 : decode cX12_row 4 = .ok (.ifCond .eq 21, 3) := by decide +kernel
theorem dX12_row_25 : decode cX12_row 25 = .ok (.iconst (-1), 1) := by decide +kernel
theorem dX12_row_26 : decode cX12_row 26 = .ok (.ireturn, 1) := by decide +kernel
theorem dX12_row_7 : decode cX12_row 7 = .ok (.iload_n 2, 1) := by decide +kernel
theorem dX12_row_8 : decode cX12_row 8 = .ok (.i2l, 1) := by decide +kernel
theorem dX12_row_9 : decode cX12_row 9 = .ok (.lconst 0, 1) := by decide +kernel
theorem dX12_row_10 : decode cX12_row 10 = .ok (.ldc2_w 154, 3) := by decide +kernel
theorem dX12_row_13 : decode cX12_row 13 = .ok (.invokestatic 101, 3) := by decide +kernel
theorem dX12_row_16 : decode cX12_row 16 = .ok (.ifCond .eq 9, 3) := by decide +kernel
theorem dX12_row_19 : decode cX12_row 19 = .ok (.iload_n 3, 1) := by decide +kernel
theorem dX12_row_20 : decode cX12_row 20 = .ok (.bipush 60, 2) := by decide +kernel
theorem dX12_row_22 : decode cX12_row 22 = .ok (.if_icmp .le 5, 3) := by decide +kernel
theorem dX12_row_27 : decode cX12_row 27 = .ok (.iload_n 3, 1) := by decide +kernel
theorem dX12_row_28 : decode cX12_row 28 = .ok (.ifCond .ge 6, 3) := by decide +kernel
theorem dX12_row_34 : decode cX12_row 34 = .ok (.aload_n 0, 1) := by decide +kernel
theorem dX12_row_35 : decode cX12_row 35 = .ok (.getfield 73, 3) := by decide +kernel
theorem dX12_row_38 : decode cX12_row 38 = .ok (.iload_n 1, 1) := by decide +kernel
theorem dX12_row_39 : decode cX12_row 39 = .ok (.bipush 50, 2) := by decide +kernel
theorem dX12_row_41 : decode cX12_row 41 = .ok (.iload_n 2, 1) := by decide +kernel
theorem dX12_row_42 : decode cX12_row 42 = .ok (.iadd, 1) := by decide +kernel
theorem dX12_row_43 : decode cX12_row 43 = .ok (.iastore, 1) := by decide +kernel
theorem dX12_row_44 : decode cX12_row 44 = .ok (.aload_n 0, 1) := by decide +kernel
theorem dX12_row_45 : decode cX12_row 45 = .ok (.getfield 76, 3) := by decide +kernel
theorem dX12_row_48 : decode cX12_row 48 = .ok (.iload_n 1, 1) := by decide +kernel
theorem dX12_row_49 : decode cX12_row 49 = .ok (.iload_n 3, 1) := by decide +kernel
theorem dX12_row_50 : decode cX12_row 50 = .ok (.iastore, 1) := by decide +kernel
theorem dX12_row_51 : decode cX12_row 51 = .ok (.bipush 60, 2) := by decide +kernel
theorem dX12_row_53 : decode cX12_row 53 = .ok (.iload_n 1, 1) := by decide +kernel
theorem dX12_row_54 : decode cX12_row 54 = .ok (.imul, 1) := by decide +kernel
theorem dX12_row_55 : decode cX12_row 55 = .ok (.istore 4, 2) := by decide +kernel
theorem dX12_row_57 : decode cX12_row 57 = .ok (.iload 4, 2) := by decide +kernel
theorem dX12_row_59 : decode cX12_row 59 = .ok (.bipush 60, 2) := by decide +kernel
theorem dX12_row_61 : decode cX12_row 61 = .ok (.iload_n 1, 1) := by decide +kernel
theorem dX12_row_62 : decode cX12_row 62 = .ok (.imul, 1) := by decide +kernel
theorem dX12_row_63 : decode cX12_row 63 = .ok (.bipush 60, 2) := by decide +kernel
theorem dX12_row_65 : decode cX12_row 65 = .ok (.iadd, 1) := by decide +kernel
theorem dX12_row_66 : decode cX12_row 66 = .ok (.if_icmp .ge 17, 3) := by decide +kernel
theorem dX12_row_83 : decode cX12_row 83 = .ok (.iconst 1, 1) := by decide +kernel
theorem dX12_row_84 : decode cX12_row 84 = .ok (.ireturn, 1) := by decide +kernel
theorem dX12_row_69 : decode cX12_row 69 = .ok (.aload_n 0, 1) := by decide +kernel
theorem q_1314 : Cond.fieldLink RX12 79 RX12 "items" "[J" ∈ lw_g := mem_q 1314 (by decide +kernel) rfl
theorem dX12_row_70 : decode cX12_row 70 = .ok (.getfield 79, 3) := by decide +kernel
theorem dX12_row_73 : decode cX12_row 73 = .ok (.iload 4, 2) := by decide +kernel
theorem dX12_row_75 : decode cX12_row 75 = .ok (.lconst 0, 1) := by decide +kernel
theorem dX12_row_76 : decode cX12_row 76 = .ok (.lastore, 1) := by decide +kernel
theorem dX12_row_77 : decode cX12_row 77 = .ok (.iinc 4 1, 3) := by decide +kernel
theorem dX12_row_80 : decode cX12_row 80 = .ok (.goto (-23), 3) := by decide +kernel
theorem dX12_row_31 : decode cX12_row 31 = .ok (.bipush (-14), 2) := by decide +kernel
theorem dX12_row_33 : decode cX12_row 33 = .ok (.ireturn, 1) := by decide +kernel
set_option maxHeartbeats 4000000 in
set_option maxRecDepth 100000 in
theorem m_row (l : Launch) (J : va_J9) (sz : Nat) (b : Nat → Nat) (g : Nat → Int32) (d : Int32) (k : Int32) (n : Int32) (hg : ∀ k, k < 6 → g k = -1) : WC l J yX12_row cX12_row 5 (some .int) ({ frames := 2, cells := 0, slots := 0, locals := 45 }) [.ref (b 0), .int d, .int k, .int n] [((b 0), .inr (12, [.ref (b 1), .ref (b 2), .ref (b 3), .ref (b 4), .int 0, .int 0, .int 0, .int 0, .ref (b 9), .ref (b 10), .int 0, .ref (b 12), .int (-1), .int 0, .int 0, .int 0, .int 0, .int 0, .ref (b 19), .ref (b 20), .ref (b 21), .ref (b 22), .ref (b 23), .long 0, .long 0, .long 0, .ref (b 27), .ref (b 28), .ref (b 29), .long 0, .int 0, .int (-1), .int 0, .int 0, .int 0, .ref (b 36), .int 0, .int 0, .ref (b 39), .ref (b 40), .int 0, .ref (b 42), .ref (b 43), .int 0, .int 0, .int 0, .ref (b 47), .ref (b 48), .ref (b 49), .ref (b 50)])), ((b 47), .inl (J.2.1, 6, .inl g)), ((b 48), .inl (J.2.1, 6, .inl (fun _ => 0))), ((b 49), .inl (J.2.2.1, 360, .inr (.inl (fun _ => 0))))] sz (Qi J (fun (r : Int32) (_ : Unit) => r = sp_row (d.toInt) (k.toInt) (n.toInt)) (fun (_ : Unit) => [])) 0 0 := by
  refine wc_of (by decide) (Nat.le_of_ble_eq_true rfl) ?_
  intro p e s m below meth c ls A hE hl hP hK hD hS hA
  obtain ⟨hx, hb, hr, hml, hown, hts, hlk, hin⟩ := hE
  have hown : s.vm.findClass RX12 = some m.cls := hown
  have hl : lv_has ls 5 [(0, .ref (b 0)), (1, .int d), (2, .int k), (3, .int n)] := hl
  have rg_d := i_rng d
  have rg_k := i_rng k
  have rg_n := i_rng n
  refine lv_iload_n hx hb dX12_row_0 rfl (lv_at hl 1 rfl) ?_
  refine go_i (rn_S (As := [.int d]) (rest := []) hx hb hml hown hts hK (m_isShelf l J d) kS_RX12_114 (hP.sub (ws' := []) [] rfl) ⟨Nat.le_of_ble_eq_true rfl, Nat.le_of_ble_eq_true rfl⟩ rfl rfl rfl hl.1 rfl (Nat.le_of_ble_eq_true rfl) ⟨Nat.le_of_ble_eq_true rfl, Nat.le_of_ble_eq_true rfl⟩ dX12_row_1) ?_
  refine lv_if_eq (tgt := 25) hx hb dX12_row_4 (by decide) (fun c1 => ?_) (fun c1 => ?_)
  · have j2 := b0 c1
    refine lv_iconst (v := (-1)) hx hb dX12_row_25 (by decide) ?_
    exact wz_i () hx hb hr hlk (by unfold sp_row; (repeat' split) <;> first | rfl | (exfalso; omega)) (hP.sub (ws' := []) [] rfl) (hD.sub (ws' := []) [] (by decide) rfl) hS dX12_row_26
  · have j3 := b1 c1
    refine lv_iload_n hx hb dX12_row_7 rfl (lv_at hl 2 rfl) ?_
    refine lv_i2l (v := k.toInt64) hx hb dX12_row_8 rfl ?_
    refine lv_lconst (v := 0) hx hb dX12_row_9 (by decide) ?_
    refine lv_ldc2 (v := 4) hx hb hown (hts _ q_1474) dX12_row_10 ?_
    refine go_i (rn_S (As := [.long k.toInt64, .long 0, .long 4]) (rest := []) hx hb hml hown hts hK (m_within l J k.toInt64 0 4 k.toInt 0 4 (i_wide rfl) (by decide) (by decide)) kS_RX12_101 (hP.sub (ws' := []) [] rfl) ⟨Nat.le_of_ble_eq_true rfl, Nat.le_of_ble_eq_true rfl⟩ rfl rfl rfl hl.1 rfl (Nat.le_of_ble_eq_true rfl) ⟨Nat.le_of_ble_eq_true rfl, Nat.le_of_ble_eq_true rfl⟩ dX12_row_13) ?_
    refine lv_if_eq (tgt := 25) hx hb dX12_row_16 (by decide) (fun c4 => ?_) (fun c4 => ?_)
    · have j5 := b0 c4
      refine lv_iconst (v := (-1)) hx hb dX12_row_25 (by decide) ?_
      exact wz_i () hx hb hr hlk (by unfold sp_row; (repeat' split) <;> first | rfl | (exfalso; omega)) (hP.sub (ws' := []) [] rfl) (hD.sub (ws' := []) [] (by decide) rfl) hS dX12_row_26
    · have j6 := b1 c4
      refine lv_iload_n hx hb dX12_row_19 rfl (lv_at hl 3 rfl) ?_
      refine lv_bipush (v := 60) hx hb dX12_row_20 (by decide) ?_
      refine lv_icmp_le (tgt := 27) hx hb dX12_row_22 (by decide) (fun c7 => ?_) (fun c7 => ?_)
      · have j8 : n.toInt ≤ 60 := (i_le rfl (by decide)).mp c7
        refine lv_iload_n hx hb dX12_row_27 rfl (lv_at hl 3 rfl) ?_
        refine lv_if_ge (tgt := 34) hx hb dX12_row_28 (by decide) (fun c9 => ?_) (fun c9 => ?_)
        · have j10 : 0 ≤ n.toInt := (i_le (by decide) rfl).mp c9
          refine lv_aload_n hx hb dX12_row_34 rfl (lv_at hl 0 rfl) ?_
          refine va_get (D := J.1) (ci := 12) (v := .ref (b 47)) (C := RX12) (T := TX12) (N := 50) hx hb hts inX12 hown hK.1 hP 0 rfl rfl 46 (by decide) (hts _ q_1312) (fun _ h9 => h9) rfl dX12_row_35 ?_
          refine lv_iload_n hx hb dX12_row_38 rfl (lv_at hl 1 rfl) ?_
          refine lv_bipush (v := 50) hx hb dX12_row_39 (by decide) ?_
          refine lv_iload_n hx hb dX12_row_41 rfl (lv_at hl 2 rfl) ?_
          refine lv_iadd hx hb dX12_row_42 ?_
          have p11 : (50 + k).toInt = 50 + k.toInt := i_add (by decide) rfl (by omega) (by omega)
          have h12 : vp_in d 6 := (i_in (a := d.toInt) rfl (by omega) (by omega))
          refine va_iast hx hb hK.1 hP hD hS 1 0 rfl rfl h12 dX12_row_43 (fun H locs hP hD hS => ?_)
          have hP : va_P J.1 cls [((b 0), .inr (12, [.ref (b 1), .ref (b 2), .ref (b 3), .ref (b 4), .int 0, .int 0, .int 0, .int 0, .ref (b 9), .ref (b 10), .int 0, .ref (b 12), .int (-1), .int 0, .int 0, .int 0, .int 0, .int 0, .ref (b 19), .ref (b 20), .ref (b 21), .ref (b 22), .ref (b 23), .long 0, .long 0, .long 0, .ref (b 27), .ref (b 28), .ref (b 29), .long 0, .int 0, .int (-1), .int 0, .int 0, .int 0, .ref (b 36), .int 0, .int 0, .ref (b 39), .ref (b 40), .int 0, .ref (b 42), .ref (b 43), .int 0, .int 0, .int 0, .ref (b 47), .ref (b 48), .ref (b 49), .ref (b 50)])), ((b 47), .inl (J.2.1, 6, .inl (upd g d.toNatClampNeg (50 + k)))), ((b 48), .inl (J.2.1, 6, .inl (fun _ => 0))), ((b 49), .inl (J.2.2.1, 360, .inr (.inl (fun _ => 0))))] H := hP
          have hD : va_D A [((b 0), .inr (12, [.ref (b 1), .ref (b 2), .ref (b 3), .ref (b 4), .int 0, .int 0, .int 0, .int 0, .ref (b 9), .ref (b 10), .int 0, .ref (b 12), .int (-1), .int 0, .int 0, .int 0, .int 0, .int 0, .ref (b 19), .ref (b 20), .ref (b 21), .ref (b 22), .ref (b 23), .long 0, .long 0, .long 0, .ref (b 27), .ref (b 28), .ref (b 29), .long 0, .int 0, .int (-1), .int 0, .int 0, .int 0, .ref (b 36), .int 0, .int 0, .ref (b 39), .ref (b 40), .int 0, .ref (b 42), .ref (b 43), .int 0, .int 0, .int 0, .ref (b 47), .ref (b 48), .ref (b 49), .ref (b 50)])), ((b 47), .inl (J.2.1, 6, .inl (upd g d.toNatClampNeg (50 + k)))), ((b 48), .inl (J.2.1, 6, .inl (fun _ => 0))), ((b 49), .inl (J.2.2.1, 360, .inr (.inl (fun _ => 0))))] := hD
          refine lv_aload_n hx hb dX12_row_44 rfl (lv_at hl 0 rfl) ?_
          refine va_get (D := J.1) (ci := 12) (v := .ref (b 48)) (C := RX12) (T := TX12) (N := 50) hx hb hts inX12 hown hK.1 hP 0 rfl rfl 47 (by decide) (hts _ q_1313) (fun _ h9 => h9) rfl dX12_row_45 ?_
          refine lv_iload_n hx hb dX12_row_48 rfl (lv_at hl 1 rfl) ?_
          refine lv_iload_n hx hb dX12_row_49 rfl (lv_at hl 3 rfl) ?_
          have h13 : vp_in d 6 := (i_in (a := d.toInt) rfl (by omega) (by omega))
          refine va_iast hx hb hK.1 hP hD hS 2 0 rfl rfl h13 dX12_row_50 (fun H locs hP hD hS => ?_)
          have hP : va_P J.1 cls [((b 0), .inr (12, [.ref (b 1), .ref (b 2), .ref (b 3), .ref (b 4), .int 0, .int 0, .int 0, .int 0, .ref (b 9), .ref (b 10), .int 0, .ref (b 12), .int (-1), .int 0, .int 0, .int 0, .int 0, .int 0, .ref (b 19), .ref (b 20), .ref (b 21), .ref (b 22), .ref (b 23), .long 0, .long 0, .long 0, .ref (b 27), .ref (b 28), .ref (b 29), .long 0, .int 0, .int (-1), .int 0, .int 0, .int 0, .ref (b 36), .int 0, .int 0, .ref (b 39), .ref (b 40), .int 0, .ref (b 42), .ref (b 43), .int 0, .int 0, .int 0, .ref (b 47), .ref (b 48), .ref (b 49), .ref (b 50)])), ((b 47), .inl (J.2.1, 6, .inl (upd g d.toNatClampNeg (50 + k)))), ((b 48), .inl (J.2.1, 6, .inl (upd (fun _ => 0) d.toNatClampNeg n))), ((b 49), .inl (J.2.2.1, 360, .inr (.inl (fun _ => 0))))] H := hP
          have hD : va_D A [((b 0), .inr (12, [.ref (b 1), .ref (b 2), .ref (b 3), .ref (b 4), .int 0, .int 0, .int 0, .int 0, .ref (b 9), .ref (b 10), .int 0, .ref (b 12), .int (-1), .int 0, .int 0, .int 0, .int 0, .int 0, .ref (b 19), .ref (b 20), .ref (b 21), .ref (b 22), .ref (b 23), .long 0, .long 0, .long 0, .ref (b 27), .ref (b 28), .ref (b 29), .long 0, .int 0, .int (-1), .int 0, .int 0, .int 0, .ref (b 36), .int 0, .int 0, .ref (b 39), .ref (b 40), .int 0, .ref (b 42), .ref (b 43), .int 0, .int 0, .int 0, .ref (b 47), .ref (b 48), .ref (b 49), .ref (b 50)])), ((b 47), .inl (J.2.1, 6, .inl (upd g d.toNatClampNeg (50 + k)))), ((b 48), .inl (J.2.1, 6, .inl (upd (fun _ => 0) d.toNatClampNeg n))), ((b 49), .inl (J.2.2.1, 360, .inr (.inl (fun _ => 0))))] := hD
          refine lv_bipush (v := 60) hx hb dX12_row_51 (by decide) ?_
          refine lv_iload_n hx hb dX12_row_53 rfl (lv_at hl 1 rfl) ?_
          refine lv_imul hx hb dX12_row_54 ?_
          have p14 : (60 * d).toInt = 60 * d.toInt := i_mul (by decide) rfl (by omega) (by omega)
          refine top_i (y := nI (60 * d.toInt.toNat)) (i_nat (by omega) (by omega)) ?_
          refine lv_istore (lv' := [(4, .int (nI (60 * d.toInt.toNat))), (0, .ref (b 0)), (1, .int d), (2, .int k), (3, .int n)]) hx hb dX12_row_55 hl (by decide) rfl (fun ls hl => ?_)
          have LP17 : ∀ (k15 i16 : Nat), i16 + k15 = (60 * d.toInt.toNat + 60) → ∀ (f18 : Nat → Int64), ∀ (H : Heap) (locs : List Loc) (ls : Array Slot), va_P J.1 cls [((b 0), .inr (12, [.ref (b 1), .ref (b 2), .ref (b 3), .ref (b 4), .int 0, .int 0, .int 0, .int 0, .ref (b 9), .ref (b 10), .int 0, .ref (b 12), .int (-1), .int 0, .int 0, .int 0, .int 0, .int 0, .ref (b 19), .ref (b 20), .ref (b 21), .ref (b 22), .ref (b 23), .long 0, .long 0, .long 0, .ref (b 27), .ref (b 28), .ref (b 29), .long 0, .int 0, .int (-1), .int 0, .int 0, .int 0, .ref (b 36), .int 0, .int 0, .ref (b 39), .ref (b 40), .int 0, .ref (b 42), .ref (b 43), .int 0, .int 0, .int 0, .ref (b 47), .ref (b 48), .ref (b 49), .ref (b 50)])), ((b 47), .inl (J.2.1, 6, .inl (upd g d.toNatClampNeg (50 + k)))), ((b 48), .inl (J.2.1, 6, .inl (upd (fun _ => 0) d.toNatClampNeg n))), ((b 49), .inl (J.2.2.1, 360, .inr (.inl f18)))] H → va_D A [((b 0), .inr (12, [.ref (b 1), .ref (b 2), .ref (b 3), .ref (b 4), .int 0, .int 0, .int 0, .int 0, .ref (b 9), .ref (b 10), .int 0, .ref (b 12), .int (-1), .int 0, .int 0, .int 0, .int 0, .int 0, .ref (b 19), .ref (b 20), .ref (b 21), .ref (b 22), .ref (b 23), .long 0, .long 0, .long 0, .ref (b 27), .ref (b 28), .ref (b 29), .long 0, .int 0, .int (-1), .int 0, .int 0, .int 0, .ref (b 36), .int 0, .int 0, .ref (b 39), .ref (b 40), .int 0, .ref (b 42), .ref (b 43), .int 0, .int 0, .int 0, .ref (b 47), .ref (b 48), .ref (b 49), .ref (b 50)])), ((b 47), .inl (J.2.1, 6, .inl (upd g d.toNatClampNeg (50 + k)))), ((b 48), .inl (J.2.1, 6, .inl (upd (fun _ => 0) d.toNatClampNeg n))), ((b 49), .inl (J.2.2.1, 360, .inr (.inl f18)))] → va_S A s.heap H locs → lv_has ls 5 [(4, .int (nI i16)), (0, .ref (b 0)), (1, .int d), (2, .int k), (3, .int n)] → W p l e ({ frames := 2, cells := 0, slots := 0, locals := 45 } : Room) s m ([.ref (b 0), .int d, .int k, .int n] : List Value).toArray below meth c H locs 0 0 (MQ below ((Qi J (fun (r : Int32) (_ : Unit) => r = sp_row (d.toInt) (k.toInt) (n.toInt)) (fun (_ : Unit) => [])) A) ([.ref (b 0), .int d, .int k, .int n] : List Value).toArray s 0 0 A) (F0 m 57 ls []) := by
            intro k15
            induction k15 with
            | zero =>
              intro i16 hi16 f18 H locs ls hP hD hS hl
              refine lv_iload hx hb dX12_row_57 (lv_at hl 0 rfl) ?_
              refine lv_bipush (v := 60) hx hb dX12_row_59 (by decide) ?_
              refine lv_iload_n hx hb dX12_row_61 rfl (lv_at hl 2 rfl) ?_
              refine lv_imul hx hb dX12_row_62 ?_
              have p19 : (60 * d).toInt = 60 * d.toInt := i_mul (by decide) rfl (by omega) (by omega)
              refine lv_bipush (v := 60) hx hb dX12_row_63 (by decide) ?_
              refine lv_iadd hx hb dX12_row_65 ?_
              have p20 : ((60 * d) + 60).toInt = (60 * d.toInt) + 60 := i_add p19 (by decide) (by omega) (by omega)
              refine lv_icmp_ge (tgt := 83) hx hb dX12_row_66 (by decide) (fun _ => ?_) (fun c21 => absurd (show ¬ ((60 * d.toInt) + 60 ≤ ((i16 : Nat) : Int)) from fun h => c21 ((i_le p20 (nI_toInt (by omega))).mpr h)) (by omega))
              refine lv_iconst (v := 1) hx hb dX12_row_83 (by decide) ?_
              exact wz_i () hx hb hr hlk (by unfold sp_row; (repeat' split) <;> first | rfl | (exfalso; omega)) (hP.sub (ws' := []) [] rfl) (hD.sub (ws' := []) [] (by decide) rfl) hS dX12_row_84
            | succ k15 ih =>
              intro i16 hi16 f18 H locs ls hP hD hS hl
              refine lv_iload hx hb dX12_row_57 (lv_at hl 0 rfl) ?_
              refine lv_bipush (v := 60) hx hb dX12_row_59 (by decide) ?_
              refine lv_iload_n hx hb dX12_row_61 rfl (lv_at hl 2 rfl) ?_
              refine lv_imul hx hb dX12_row_62 ?_
              have p22 : (60 * d).toInt = 60 * d.toInt := i_mul (by decide) rfl (by omega) (by omega)
              refine lv_bipush (v := 60) hx hb dX12_row_63 (by decide) ?_
              refine lv_iadd hx hb dX12_row_65 ?_
              have p23 : ((60 * d) + 60).toInt = (60 * d.toInt) + 60 := i_add p22 (by decide) (by omega) (by omega)
              refine lv_icmp_ge (tgt := 83) hx hb dX12_row_66 (by decide) (fun c24 => absurd (show (60 * d.toInt) + 60 ≤ ((i16 : Nat) : Int) from (i_le p23 (nI_toInt (by omega))).mp c24) (by omega)) (fun _ => ?_)
              refine lv_aload_n hx hb dX12_row_69 rfl (lv_at hl 1 rfl) ?_
              refine va_get (D := J.1) (ci := 12) (v := .ref (b 49)) (C := RX12) (T := TX12) (N := 50) hx hb hts inX12 hown hK.1 hP 0 rfl rfl 48 (by decide) (hts _ q_1314) (fun _ h9 => h9) rfl dX12_row_70 ?_
              refine lv_iload hx hb dX12_row_73 (lv_at hl 0 rfl) ?_
              refine lv_lconst (v := 0) hx hb dX12_row_75 (by decide) ?_
              have h25 : vp_in (nI i16) 360 := (i_in (a := ((i16 : Nat) : Int)) (nI_toInt (by omega)) (by omega) (by omega))
              refine va_last hx hb hK.1 hP hD hS 3 1 rfl rfl h25 dX12_row_76 (fun H locs hP hD hS => ?_)
              have hP : va_P J.1 cls [((b 0), .inr (12, [.ref (b 1), .ref (b 2), .ref (b 3), .ref (b 4), .int 0, .int 0, .int 0, .int 0, .ref (b 9), .ref (b 10), .int 0, .ref (b 12), .int (-1), .int 0, .int 0, .int 0, .int 0, .int 0, .ref (b 19), .ref (b 20), .ref (b 21), .ref (b 22), .ref (b 23), .long 0, .long 0, .long 0, .ref (b 27), .ref (b 28), .ref (b 29), .long 0, .int 0, .int (-1), .int 0, .int 0, .int 0, .ref (b 36), .int 0, .int 0, .ref (b 39), .ref (b 40), .int 0, .ref (b 42), .ref (b 43), .int 0, .int 0, .int 0, .ref (b 47), .ref (b 48), .ref (b 49), .ref (b 50)])), ((b 47), .inl (J.2.1, 6, .inl (upd g d.toNatClampNeg (50 + k)))), ((b 48), .inl (J.2.1, 6, .inl (upd (fun _ => 0) d.toNatClampNeg n))), ((b 49), .inl (J.2.2.1, 360, .inr (.inl (vp_updL f18 (nI i16).toNatClampNeg 0))))] H := hP
              have hD : va_D A [((b 0), .inr (12, [.ref (b 1), .ref (b 2), .ref (b 3), .ref (b 4), .int 0, .int 0, .int 0, .int 0, .ref (b 9), .ref (b 10), .int 0, .ref (b 12), .int (-1), .int 0, .int 0, .int 0, .int 0, .int 0, .ref (b 19), .ref (b 20), .ref (b 21), .ref (b 22), .ref (b 23), .long 0, .long 0, .long 0, .ref (b 27), .ref (b 28), .ref (b 29), .long 0, .int 0, .int (-1), .int 0, .int 0, .int 0, .ref (b 36), .int 0, .int 0, .ref (b 39), .ref (b 40), .int 0, .ref (b 42), .ref (b 43), .int 0, .int 0, .int 0, .ref (b 47), .ref (b 48), .ref (b 49), .ref (b 50)])), ((b 47), .inl (J.2.1, 6, .inl (upd g d.toNatClampNeg (50 + k)))), ((b 48), .inl (J.2.1, 6, .inl (upd (fun _ => 0) d.toNatClampNeg n))), ((b 49), .inl (J.2.2.1, 360, .inr (.inl (vp_updL f18 (nI i16).toNatClampNeg 0))))] := hD
              refine lv_iinc (v := nI (i16 + 1)) (lv' := [(4, .int (nI (i16 + 1))), (0, .ref (b 0)), (1, .int d), (2, .int k), (3, .int n)]) hx hb dX12_row_77 hl (k := 0) rfl (nI_inc _) (by decide) rfl (fun ls hl => ?_)
              refine lv_goto (tgt := 57) hx hb dX12_row_80 (by decide) ?_
              exact ih (i16 + 1) (by omega) (vp_updL f18 (nI i16).toNatClampNeg 0) _ _ ls hP hD hS (lv_sub hl [0, 1, 2, 3, 4] rfl)
          exact LP17 ((60 * d.toInt.toNat + 60) - (60 * d.toInt.toNat)) (60 * d.toInt.toNat) (by omega) (fun _ => 0) _ _ ls hP hD hS (lv_sub hl [0, 1, 2, 3, 4] rfl)
        · have j26 : ¬ (0 ≤ n.toInt) := fun h => c9 ((i_le (by decide) rfl).mpr h)
          refine lv_bipush (v := (-14)) hx hb dX12_row_31 (by decide) ?_
          exact wz_i () hx hb hr hlk (by unfold sp_row; (repeat' split) <;> first | rfl | (exfalso; omega)) (hP.sub (ws' := []) [] rfl) (hD.sub (ws' := []) [] (by decide) rfl) hS dX12_row_33
      · have j27 : ¬ (n.toInt ≤ 60) := fun h => c7 ((i_le rfl (by decide)).mpr h)
        refine lv_iconst (v := (-1)) hx hb dX12_row_25 (by decide) ?_
        exact wz_i () hx hb hr hlk (by unfold sp_row; (repeat' split) <;> first | rfl | (exfalso; omega)) (hP.sub (ws' := []) [] rfl) (hD.sub (ws' := []) [] (by decide) rfl) hS dX12_row_26
theorem dX12_asksSure_0 : decode cX12_asksSure 0 = .ok (.aload_n 0, 1) := by decide +kernel
theorem dX12_asksSure_1 : decode cX12_asksSure 1 = .ok (.invokevirtual 142, 3) := by decide +kernel
theorem dX12_asksSure_4 : decode cX12_asksSure 4 = .ok (.aload_n 0, 1) := by decide +kernel
theorem dX12_asksSure_5 : decode cX12_asksSure 5 = .ok (.invokevirtual 225, 3) := by decide +kernel
theorem dX12_asksSure_8 : decode cX12_asksSure 8 = .ok (.istore_n 1, 1) := by decide +kernel
theorem dX12_asksSure_9 : decode cX12_asksSure 9 = .ok (.iconst 0, 1) := by decide +kernel
theorem dX12_asksSure_10 : decode cX12_asksSure 10 = .ok (.istore_n 2, 1) := by decide +kernel
theorem dX12_asksSure_11 : decode cX12_asksSure 11 = .ok (.iload_n 2, 1) := by decide +kernel
theorem dX12_asksSure_12 : decode cX12_asksSure 12 = .ok (.sipush 7168, 3) := by decide +kernel
theorem dX12_asksSure_15 : decode cX12_asksSure 15 = .ok (.if_icmp .ge 30, 3) := by decide +kernel
theorem dX12_asksSure_45 : decode cX12_asksSure 45 = .ok (.iconst 1, 1) := by decide +kernel
theorem dX12_asksSure_46 : decode cX12_asksSure 46 = .ok (.istore_n 2, 1) := by decide +kernel
theorem dX12_asksSure_47 : decode cX12_asksSure 47 = .ok (.iload_n 2, 1) := by decide +kernel
theorem dX12_asksSure_48 : decode cX12_asksSure 48 = .ok (.ifCond .eq 106, 3) := by decide +kernel
theorem dX12_asksSure_51 : decode cX12_asksSure 51 = .ok (.iconst 0, 1) := by decide +kernel
theorem dX12_asksSure_52 : decode cX12_asksSure 52 = .ok (.istore_n 2, 1) := by decide +kernel
theorem dX12_asksSure_53 : decode cX12_asksSure 53 = .ok (.iconst 0, 1) := by decide +kernel
theorem dX12_asksSure_54 : decode cX12_asksSure 54 = .ok (.istore_n 3, 1) := by decide +kernel
theorem dX12_asksSure_55 : decode cX12_asksSure 55 = .ok (.iload_n 3, 1) := by decide +kernel
theorem dX12_asksSure_56 : decode cX12_asksSure 56 = .ok (.sipush 7168, 3) := by decide +kernel
theorem dX12_asksSure_59 : decode cX12_asksSure 59 = .ok (.if_icmp .ge 92, 3) := by decide +kernel
theorem dX12_asksSure_151 : decode cX12_asksSure 151 = .ok (.goto (-104), 3) := by decide +kernel
theorem dX12_asksSure_154 : decode cX12_asksSure 154 = .ok (.return_, 1) := by decide +kernel
theorem dX12_asksSure_62 : decode cX12_asksSure 62 = .ok (.iload_n 3, 1) := by decide +kernel
theorem dX12_asksSure_63 : decode cX12_asksSure 63 = .ok (.sipush 1024, 3) := by decide +kernel
theorem dX12_asksSure_66 : decode cX12_asksSure 66 = .ok (.irem, 1) := by decide +kernel
theorem dX12_asksSure_67 : decode cX12_asksSure 67 = .ok (.ifCond .eq 78, 3) := by decide +kernel
theorem dX12_asksSure_145 : decode cX12_asksSure 145 = .ok (.iinc 3 1, 3) := by decide +kernel
theorem dX12_asksSure_148 : decode cX12_asksSure 148 = .ok (.goto (-93), 3) := by decide +kernel
theorem dX12_asksSure_70 : decode cX12_asksSure 70 = .ok (.iload_n 3, 1) := by decide +kernel
theorem dX12_asksSure_71 : decode cX12_asksSure 71 = .ok (.sipush 1024, 3) := by decide +kernel
theorem dX12_asksSure_74 : decode cX12_asksSure 74 = .ok (.irem, 1) := by decide +kernel
theorem dX12_asksSure_75 : decode cX12_asksSure 75 = .ok (.iload_n 1, 1) := by decide +kernel
theorem dX12_asksSure_76 : decode cX12_asksSure 76 = .ok (.iconst (-1), 1) := by decide +kernel
theorem dX12_asksSure_77 : decode cX12_asksSure 77 = .ok (.ixor, 1) := by decide +kernel
theorem dX12_asksSure_78 : decode cX12_asksSure 78 = .ok (.iand, 1) := by decide +kernel
theorem dX12_asksSure_79 : decode cX12_asksSure 79 = .ok (.ifCond .ne 66, 3) := by decide +kernel
theorem dX12_asksSure_18 : decode cX12_asksSure 18 = .ok (.aload_n 0, 1) := by decide +kernel
theorem q_1286 : Cond.fieldLink RX12 39 RX12 "sureIn" "[I" ∈ lw_g := mem_q 1286 (by decide +kernel) rfl
theorem dX12_asksSure_19 : decode cX12_asksSure 19 = .ok (.getfield 39, 3) := by decide +kernel
theorem dX12_asksSure_22 : decode cX12_asksSure 22 = .ok (.iload_n 2, 1) := by decide +kernel
theorem dX12_asksSure_23 : decode cX12_asksSure 23 = .ok (.iload_n 2, 1) := by decide +kernel
theorem dX12_asksSure_24 : decode cX12_asksSure 24 = .ok (.sipush 1024, 3) := by decide +kernel
theorem dX12_asksSure_27 : decode cX12_asksSure 27 = .ok (.irem, 1) := by decide +kernel
theorem dX12_asksSure_28 : decode cX12_asksSure 28 = .ok (.ifCond .ne 7, 3) := by decide +kernel
theorem q_1614 : Cond.constant RX12 256 1000000 ∈ lw_g := mem_q 1614 (by decide +kernel) rfl
theorem dX12_asksSure_35 : decode cX12_asksSure 35 = .ok (.ldc_w 256, 3) := by decide +kernel
theorem dX12_asksSure_38 : decode cX12_asksSure 38 = .ok (.iastore, 1) := by decide +kernel
theorem dX12_asksSure_39 : decode cX12_asksSure 39 = .ok (.iinc 2 1, 3) := by decide +kernel
theorem dX12_asksSure_42 : decode cX12_asksSure 42 = .ok (.goto (-31), 3) := by decide +kernel
theorem dX12_asksSure_31 : decode cX12_asksSure 31 = .ok (.iconst 0, 1) := by decide +kernel
theorem dX12_asksSure_32 : decode cX12_asksSure 32 = .ok (.goto 6, 3) := by decide +kernel
set_option maxHeartbeats 4000000 in
set_option maxRecDepth 100000 in
theorem m_asksSure (l : Launch) (J : va_J9) (sz : Nat) (b : Nat → Nat) : WC l J yX12_asksSure cX12_asksSure 5 none ({ frames := 1, cells := 0, slots := 0, locals := 22 }) [.ref (b 0)] [((b 0), .inr (12, [.ref (b 1), .ref (b 2), .ref (b 3), .ref (b 4), .int 0, .int 0, .int 0, .int 0, .ref (b 9), .ref (b 10), .int 0, .ref (b 12), .int (-1), .int 0, .int 0, .int 0, .int 0, .int 0, .ref (b 19), .ref (b 20), .ref (b 21), .ref (b 22), .ref (b 23), .long 0, .long 0, .long 0, .ref (b 27), .ref (b 28), .ref (b 29), .long 0, .int 0, .int (-1), .int 0, .int 0, .int 0, .ref (b 36), .int 0, .int 0, .ref (b 39), .ref (b 40), .int 0, .ref (b 42), .ref (b 43), .int 0, .int 0, .int 0, .ref (b 47), .ref (b 48), .ref (b 49), .ref (b 50)])), ((b 21), .inl (J.2.1, 7168, .inl (fun _ => 0)))] sz (Qv J (fun (u : Nat → Int32) => ∀ k, k < 7168 → k % 1024 = 0 → u k = 0) (fun (u : Nat → Int32) => [((b 0), .inr (12, [.ref (b 1), .ref (b 2), .ref (b 3), .ref (b 4), .int 0, .int 0, .int 0, .int 0, .ref (b 9), .ref (b 10), .int 0, .ref (b 12), .int (-1), .int 0, .int 0, .int 0, .int 0, .int 0, .ref (b 19), .ref (b 20), .ref (b 21), .ref (b 22), .ref (b 23), .long 0, .long 0, .long 0, .ref (b 27), .ref (b 28), .ref (b 29), .long 0, .int 0, .int (-1), .int 0, .int 0, .int 0, .ref (b 36), .int 0, .int 0, .ref (b 39), .ref (b 40), .int 0, .ref (b 42), .ref (b 43), .int 0, .int 0, .int 0, .ref (b 47), .ref (b 48), .ref (b 49), .ref (b 50)])), ((b 21), .inl (J.2.1, 7168, .inl u))])) 0 0 := by
  refine wc_of (by decide) (Nat.le_of_ble_eq_true rfl) ?_
  intro p e s m below meth c ls A hE hl hP hK hD hS hA
  obtain ⟨hx, hb, hr, hml, hown, hts, hlk, hin⟩ := hE
  have hown : s.vm.findClass RX12 = some m.cls := hown
  have hl : lv_has ls 5 [(0, .ref (b 0))] := hl
  refine lv_aload_n hx hb dX12_asksSure_0 rfl (lv_at hl 0 rfl) ?_
  refine go_v (rn_V (As := []) (rest := []) hx hb hml hown hts hK (m_asksLaw l J b) kV_RX12_142 (hP.sub (ws' := [((b 0), .inr (12, [.ref (b 1), .ref (b 2), .ref (b 3), .ref (b 4), .int 0, .int 0, .int 0, .int 0, .ref (b 9), .ref (b 10), .int 0, .ref (b 12), .int (-1), .int 0, .int 0, .int 0, .int 0, .int 0, .ref (b 19), .ref (b 20), .ref (b 21), .ref (b 22), .ref (b 23), .long 0, .long 0, .long 0, .ref (b 27), .ref (b 28), .ref (b 29), .long 0, .int 0, .int (-1), .int 0, .int 0, .int 0, .ref (b 36), .int 0, .int 0, .ref (b 39), .ref (b 40), .int 0, .ref (b 42), .ref (b 43), .int 0, .int 0, .int 0, .ref (b 47), .ref (b 48), .ref (b 49), .ref (b 50)]))]) [0] rfl) rfl rfl rfl ⟨Nat.le_of_ble_eq_true rfl, Nat.le_of_ble_eq_true rfl⟩ rfl rfl rfl hl.1 rfl (Nat.le_of_ble_eq_true rfl) ⟨Nat.le_of_ble_eq_true rfl, Nat.le_of_ble_eq_true rfl⟩ dX12_asksSure_1) ?_
  refine lv_aload_n hx hb dX12_asksSure_4 rfl (lv_at hl 0 rfl) ?_
  refine go_i (rn_V (As := []) (rest := []) hx hb hml hown hts hK (m_openSet l J b) kV_RX12_225 (hP.sub (ws' := [((b 0), .inr (12, [.ref (b 1), .ref (b 2), .ref (b 3), .ref (b 4), .int 0, .int 0, .int 0, .int 0, .ref (b 9), .ref (b 10), .int 0, .ref (b 12), .int (-1), .int 0, .int 0, .int 0, .int 0, .int 0, .ref (b 19), .ref (b 20), .ref (b 21), .ref (b 22), .ref (b 23), .long 0, .long 0, .long 0, .ref (b 27), .ref (b 28), .ref (b 29), .long 0, .int 0, .int (-1), .int 0, .int 0, .int 0, .ref (b 36), .int 0, .int 0, .ref (b 39), .ref (b 40), .int 0, .ref (b 42), .ref (b 43), .int 0, .int 0, .int 0, .ref (b 47), .ref (b 48), .ref (b 49), .ref (b 50)]))]) [0] rfl) rfl rfl rfl ⟨Nat.le_of_ble_eq_true rfl, Nat.le_of_ble_eq_true rfl⟩ rfl rfl rfl hl.1 rfl (Nat.le_of_ble_eq_true rfl) ⟨Nat.le_of_ble_eq_true rfl, Nat.le_of_ble_eq_true rfl⟩ dX12_asksSure_5) ?_
  refine lv_istore_n (lv' := [(1, .int 0), (0, .ref (b 0))]) hx hb dX12_asksSure_8 rfl hl (by decide) rfl (fun ls hl => ?_)
  refine lv_iconst (v := 0) hx hb dX12_asksSure_9 (by decide) ?_
  refine lv_istore_n (lv' := [(2, .int 0), (1, .int 0), (0, .ref (b 0))]) hx hb dX12_asksSure_10 rfl hl (by decide) rfl (fun ls hl => ?_)
  have LP3 : ∀ (k1 i2 : Nat), i2 + k1 = 7168 → ∀ (f4 : Nat → Int32), (∀ k, k < i2 → k % 1024 = 0 → f4 k = 0) → ∀ (H : Heap) (locs : List Loc) (ls : Array Slot), va_P J.1 cls [((b 0), .inr (12, [.ref (b 1), .ref (b 2), .ref (b 3), .ref (b 4), .int 0, .int 0, .int 0, .int 0, .ref (b 9), .ref (b 10), .int 0, .ref (b 12), .int (-1), .int 0, .int 0, .int 0, .int 0, .int 0, .ref (b 19), .ref (b 20), .ref (b 21), .ref (b 22), .ref (b 23), .long 0, .long 0, .long 0, .ref (b 27), .ref (b 28), .ref (b 29), .long 0, .int 0, .int (-1), .int 0, .int 0, .int 0, .ref (b 36), .int 0, .int 0, .ref (b 39), .ref (b 40), .int 0, .ref (b 42), .ref (b 43), .int 0, .int 0, .int 0, .ref (b 47), .ref (b 48), .ref (b 49), .ref (b 50)])), ((b 21), .inl (J.2.1, 7168, .inl f4))] H → va_D A [((b 0), .inr (12, [.ref (b 1), .ref (b 2), .ref (b 3), .ref (b 4), .int 0, .int 0, .int 0, .int 0, .ref (b 9), .ref (b 10), .int 0, .ref (b 12), .int (-1), .int 0, .int 0, .int 0, .int 0, .int 0, .ref (b 19), .ref (b 20), .ref (b 21), .ref (b 22), .ref (b 23), .long 0, .long 0, .long 0, .ref (b 27), .ref (b 28), .ref (b 29), .long 0, .int 0, .int (-1), .int 0, .int 0, .int 0, .ref (b 36), .int 0, .int 0, .ref (b 39), .ref (b 40), .int 0, .ref (b 42), .ref (b 43), .int 0, .int 0, .int 0, .ref (b 47), .ref (b 48), .ref (b 49), .ref (b 50)])), ((b 21), .inl (J.2.1, 7168, .inl f4))] → va_S A s.heap H locs → lv_has ls 5 [(2, .int (nI i2)), (1, .int 0), (0, .ref (b 0))] → W p l e ({ frames := 1, cells := 0, slots := 0, locals := 22 } : Room) s m ([.ref (b 0)] : List Value).toArray below meth c H locs 0 0 (MQ below ((Qv J (fun (u : Nat → Int32) => ∀ k, k < 7168 → k % 1024 = 0 → u k = 0) (fun (u : Nat → Int32) => [((b 0), .inr (12, [.ref (b 1), .ref (b 2), .ref (b 3), .ref (b 4), .int 0, .int 0, .int 0, .int 0, .ref (b 9), .ref (b 10), .int 0, .ref (b 12), .int (-1), .int 0, .int 0, .int 0, .int 0, .int 0, .ref (b 19), .ref (b 20), .ref (b 21), .ref (b 22), .ref (b 23), .long 0, .long 0, .long 0, .ref (b 27), .ref (b 28), .ref (b 29), .long 0, .int 0, .int (-1), .int 0, .int 0, .int 0, .ref (b 36), .int 0, .int 0, .ref (b 39), .ref (b 40), .int 0, .ref (b 42), .ref (b 43), .int 0, .int 0, .int 0, .ref (b 47), .ref (b 48), .ref (b 49), .ref (b 50)])), ((b 21), .inl (J.2.1, 7168, .inl u))])) A) ([.ref (b 0)] : List Value).toArray s 0 0 A) (F0 m 11 ls []) := by
    intro k1
    induction k1 with
    | zero =>
      intro i2 hi2 f4 hinv H locs ls hP hD hS hl
      refine lv_iload_n hx hb dX12_asksSure_11 rfl (lv_at hl 0 rfl) ?_
      refine lv_sipush (v := 7168) hx hb dX12_asksSure_12 (by decide) ?_
      refine lv_icmp_ge (tgt := 45) hx hb dX12_asksSure_15 (by decide) (fun _ => ?_) (fun c5 => absurd (show ¬ (7168 ≤ ((i2 : Nat) : Int)) from fun h => c5 ((i_le (by decide) (nI_toInt (by omega))).mpr h)) (by omega))
      refine lv_iconst (v := 1) hx hb dX12_asksSure_45 (by decide) ?_
      refine lv_istore_n (lv' := [(2, .int 1), (1, .int 0), (0, .ref (b 0))]) hx hb dX12_asksSure_46 rfl hl (by decide) rfl (fun ls hl => ?_)
      refine lv_iload_n hx hb dX12_asksSure_47 rfl (lv_at hl 0 rfl) ?_
      refine lv_if_eq (tgt := 154) hx hb dX12_asksSure_48 (by decide) (fun c => absurd c (by decide)) (fun _ => ?_)
      refine lv_iconst (v := 0) hx hb dX12_asksSure_51 (by decide) ?_
      refine lv_istore_n (lv' := [(2, .int 0), (1, .int 0), (0, .ref (b 0))]) hx hb dX12_asksSure_52 rfl hl (by decide) rfl (fun ls hl => ?_)
      refine lv_iconst (v := 0) hx hb dX12_asksSure_53 (by decide) ?_
      refine lv_istore_n (lv' := [(3, .int 0), (2, .int 0), (1, .int 0), (0, .ref (b 0))]) hx hb dX12_asksSure_54 rfl hl (by decide) rfl (fun ls hl => ?_)
      have LP8 : ∀ (k6 i7 : Nat), i7 + k6 = 7168 → ∀ (H : Heap) (locs : List Loc) (ls : Array Slot), va_P J.1 cls [((b 0), .inr (12, [.ref (b 1), .ref (b 2), .ref (b 3), .ref (b 4), .int 0, .int 0, .int 0, .int 0, .ref (b 9), .ref (b 10), .int 0, .ref (b 12), .int (-1), .int 0, .int 0, .int 0, .int 0, .int 0, .ref (b 19), .ref (b 20), .ref (b 21), .ref (b 22), .ref (b 23), .long 0, .long 0, .long 0, .ref (b 27), .ref (b 28), .ref (b 29), .long 0, .int 0, .int (-1), .int 0, .int 0, .int 0, .ref (b 36), .int 0, .int 0, .ref (b 39), .ref (b 40), .int 0, .ref (b 42), .ref (b 43), .int 0, .int 0, .int 0, .ref (b 47), .ref (b 48), .ref (b 49), .ref (b 50)])), ((b 21), .inl (J.2.1, 7168, .inl f4))] H → va_D A [((b 0), .inr (12, [.ref (b 1), .ref (b 2), .ref (b 3), .ref (b 4), .int 0, .int 0, .int 0, .int 0, .ref (b 9), .ref (b 10), .int 0, .ref (b 12), .int (-1), .int 0, .int 0, .int 0, .int 0, .int 0, .ref (b 19), .ref (b 20), .ref (b 21), .ref (b 22), .ref (b 23), .long 0, .long 0, .long 0, .ref (b 27), .ref (b 28), .ref (b 29), .long 0, .int 0, .int (-1), .int 0, .int 0, .int 0, .ref (b 36), .int 0, .int 0, .ref (b 39), .ref (b 40), .int 0, .ref (b 42), .ref (b 43), .int 0, .int 0, .int 0, .ref (b 47), .ref (b 48), .ref (b 49), .ref (b 50)])), ((b 21), .inl (J.2.1, 7168, .inl f4))] → va_S A s.heap H locs → lv_has ls 5 [(3, .int (nI i7)), (2, .int 0), (1, .int 0), (0, .ref (b 0))] → W p l e ({ frames := 1, cells := 0, slots := 0, locals := 22 } : Room) s m ([.ref (b 0)] : List Value).toArray below meth c H locs 0 0 (MQ below ((Qv J (fun (u : Nat → Int32) => ∀ k, k < 7168 → k % 1024 = 0 → u k = 0) (fun (u : Nat → Int32) => [((b 0), .inr (12, [.ref (b 1), .ref (b 2), .ref (b 3), .ref (b 4), .int 0, .int 0, .int 0, .int 0, .ref (b 9), .ref (b 10), .int 0, .ref (b 12), .int (-1), .int 0, .int 0, .int 0, .int 0, .int 0, .ref (b 19), .ref (b 20), .ref (b 21), .ref (b 22), .ref (b 23), .long 0, .long 0, .long 0, .ref (b 27), .ref (b 28), .ref (b 29), .long 0, .int 0, .int (-1), .int 0, .int 0, .int 0, .ref (b 36), .int 0, .int 0, .ref (b 39), .ref (b 40), .int 0, .ref (b 42), .ref (b 43), .int 0, .int 0, .int 0, .ref (b 47), .ref (b 48), .ref (b 49), .ref (b 50)])), ((b 21), .inl (J.2.1, 7168, .inl u))])) A) ([.ref (b 0)] : List Value).toArray s 0 0 A) (F0 m 55 ls []) := by
        intro k6
        induction k6 with
        | zero =>
          intro i7 hi7 H locs ls hP hD hS hl
          refine lv_iload_n hx hb dX12_asksSure_55 rfl (lv_at hl 0 rfl) ?_
          refine lv_sipush (v := 7168) hx hb dX12_asksSure_56 (by decide) ?_
          refine lv_icmp_ge (tgt := 151) hx hb dX12_asksSure_59 (by decide) (fun _ => ?_) (fun c9 => absurd (show ¬ (7168 ≤ ((i7 : Nat) : Int)) from fun h => c9 ((i_le (by decide) (nI_toInt (by omega))).mpr h)) (by omega))
          refine lv_goto (tgt := 47) hx hb dX12_asksSure_151 (by decide) ?_
          refine lv_iload_n hx hb dX12_asksSure_47 rfl (lv_at hl 1 rfl) ?_
          refine lv_if_eq (tgt := 154) hx hb dX12_asksSure_48 (by decide) (fun _ => ?_) (fun c => absurd c (by decide))
          refine W.widen (k := 0) (n := 0) (Nat.le_of_ble_eq_true rfl) (Nat.le_of_ble_eq_true rfl) ?_
          exact wz_v f4 hx hb hr hlk (fun k hk h => hinv k (by omega) h) hP hD hS dX12_asksSure_154
        | succ k6 ih =>
          intro i7 hi7 H locs ls hP hD hS hl
          refine lv_iload_n hx hb dX12_asksSure_55 rfl (lv_at hl 0 rfl) ?_
          refine lv_sipush (v := 7168) hx hb dX12_asksSure_56 (by decide) ?_
          refine lv_icmp_ge (tgt := 151) hx hb dX12_asksSure_59 (by decide) (fun c10 => absurd (show 7168 ≤ ((i7 : Nat) : Int) from (i_le (by decide) (nI_toInt (by omega))).mp c10) (by omega)) (fun _ => ?_)
          refine lv_iload_n hx hb dX12_asksSure_62 rfl (lv_at hl 0 rfl) ?_
          refine lv_sipush (v := 1024) hx hb dX12_asksSure_63 (by decide) ?_
          refine lv_irem hx hb dX12_asksSure_66 (by decide) ?_
          have p11 : ((nI i7) - (nI i7) / 1024 * 1024).toInt = ((i7 : Nat) : Int) % 1024 := i_rem (nI_toInt (by omega)) (by decide) (by omega) (by omega)
          refine lv_if_eq (tgt := 145) hx hb dX12_asksSure_67 (by decide) (fun c12 => ?_) (fun c12 => ?_)
          · have j13 : ((i7 : Nat) : Int) % 1024 = 0 := (i_eq p11 (by decide)).mp c12
            refine lv_iinc (v := nI (i7 + 1)) (lv' := [(3, .int (nI (i7 + 1))), (2, .int 0), (1, .int 0), (0, .ref (b 0))]) hx hb dX12_asksSure_145 hl (k := 0) rfl (nI_inc _) (by decide) rfl (fun ls hl => ?_)
            refine lv_goto (tgt := 55) hx hb dX12_asksSure_148 (by decide) ?_
            exact ih (i7 + 1) (by omega) _ _ ls hP hD hS (lv_sub hl [0, 1, 2, 3] rfl)
          · have j14 : ¬ (((i7 : Nat) : Int) % 1024 = 0) := fun h => c12 ((i_eq p11 (by decide)).mpr h)
            refine lv_iload_n hx hb dX12_asksSure_70 rfl (lv_at hl 0 rfl) ?_
            refine lv_sipush (v := 1024) hx hb dX12_asksSure_71 (by decide) ?_
            refine lv_irem hx hb dX12_asksSure_74 (by decide) ?_
            have p15 : ((nI i7) - (nI i7) / 1024 * 1024).toInt = ((i7 : Nat) : Int) % 1024 := i_rem (nI_toInt (by omega)) (by decide) (by omega) (by omega)
            refine lv_iload_n hx hb dX12_asksSure_75 rfl (lv_at hl 2 rfl) ?_
            refine lv_iconst (v := (-1)) hx hb dX12_asksSure_76 (by decide) ?_
            refine lv_ixor hx hb dX12_asksSure_77 ?_
            refine top_i (y := (-1)) (by decide) ?_
            refine lv_iand hx hb dX12_asksSure_78 ?_
            refine top_i (y := (nI i7) - (nI i7) / 1024 * 1024) (andm1 _) ?_
            refine lv_if_ne (tgt := 145) hx hb dX12_asksSure_79 (by decide) (fun _ => ?_) (fun c16 => absurd (show ((i7 : Nat) : Int) % 1024 = 0 from (i_eq p15 (by decide)).mp c16) (by omega))
            refine lv_iinc (v := nI (i7 + 1)) (lv' := [(3, .int (nI (i7 + 1))), (2, .int 0), (1, .int 0), (0, .ref (b 0))]) hx hb dX12_asksSure_145 hl (k := 0) rfl (nI_inc _) (by decide) rfl (fun ls hl => ?_)
            refine lv_goto (tgt := 55) hx hb dX12_asksSure_148 (by decide) ?_
            exact ih (i7 + 1) (by omega) _ _ ls hP hD hS (lv_sub hl [0, 1, 2, 3] rfl)
      exact LP8 (7168 - 0) 0 (by omega) _ _ ls hP hD hS (lv_sub hl [0, 1, 2, 3] rfl)
    | succ k1 ih =>
      intro i2 hi2 f4 hinv H locs ls hP hD hS hl
      refine lv_iload_n hx hb dX12_asksSure_11 rfl (lv_at hl 0 rfl) ?_
      refine lv_sipush (v := 7168) hx hb dX12_asksSure_12 (by decide) ?_
      refine lv_icmp_ge (tgt := 45) hx hb dX12_asksSure_15 (by decide) (fun c17 => absurd (show 7168 ≤ ((i2 : Nat) : Int) from (i_le (by decide) (nI_toInt (by omega))).mp c17) (by omega)) (fun _ => ?_)
      refine lv_aload_n hx hb dX12_asksSure_18 rfl (lv_at hl 2 rfl) ?_
      refine va_get (D := J.1) (ci := 12) (v := .ref (b 21)) (C := RX12) (T := TX12) (N := 50) hx hb hts inX12 hown hK.1 hP 0 rfl rfl 20 (by decide) (hts _ q_1286) (fun _ h9 => h9) rfl dX12_asksSure_19 ?_
      refine lv_iload_n hx hb dX12_asksSure_22 rfl (lv_at hl 0 rfl) ?_
      refine lv_iload_n hx hb dX12_asksSure_23 rfl (lv_at hl 0 rfl) ?_
      refine lv_sipush (v := 1024) hx hb dX12_asksSure_24 (by decide) ?_
      refine lv_irem hx hb dX12_asksSure_27 (by decide) ?_
      have p18 : ((nI i2) - (nI i2) / 1024 * 1024).toInt = ((i2 : Nat) : Int) % 1024 := i_rem (nI_toInt (by omega)) (by decide) (by omega) (by omega)
      refine lv_if_ne (tgt := 35) hx hb dX12_asksSure_28 (by decide) (fun c19 => ?_) (fun c19 => ?_)
      · have j20 : ¬ (((i2 : Nat) : Int) % 1024 = 0) := fun h => c19 ((i_eq p18 (by decide)).mpr h)
        refine lv_ldcw (v := 1000000) hx hb hown (hts _ q_1614) dX12_asksSure_35 ?_
        have h21 : vp_in (nI i2) 7168 := (i_in (a := ((i2 : Nat) : Int)) (nI_toInt (by omega)) (by omega) (by omega))
        refine va_iast hx hb hK.1 hP hD hS 1 0 rfl rfl h21 dX12_asksSure_38 (fun H locs hP hD hS => ?_)
        have hP : va_P J.1 cls [((b 0), .inr (12, [.ref (b 1), .ref (b 2), .ref (b 3), .ref (b 4), .int 0, .int 0, .int 0, .int 0, .ref (b 9), .ref (b 10), .int 0, .ref (b 12), .int (-1), .int 0, .int 0, .int 0, .int 0, .int 0, .ref (b 19), .ref (b 20), .ref (b 21), .ref (b 22), .ref (b 23), .long 0, .long 0, .long 0, .ref (b 27), .ref (b 28), .ref (b 29), .long 0, .int 0, .int (-1), .int 0, .int 0, .int 0, .ref (b 36), .int 0, .int 0, .ref (b 39), .ref (b 40), .int 0, .ref (b 42), .ref (b 43), .int 0, .int 0, .int 0, .ref (b 47), .ref (b 48), .ref (b 49), .ref (b 50)])), ((b 21), .inl (J.2.1, 7168, .inl (upd f4 (nI i2).toNatClampNeg 1000000)))] H := hP
        have hD : va_D A [((b 0), .inr (12, [.ref (b 1), .ref (b 2), .ref (b 3), .ref (b 4), .int 0, .int 0, .int 0, .int 0, .ref (b 9), .ref (b 10), .int 0, .ref (b 12), .int (-1), .int 0, .int 0, .int 0, .int 0, .int 0, .ref (b 19), .ref (b 20), .ref (b 21), .ref (b 22), .ref (b 23), .long 0, .long 0, .long 0, .ref (b 27), .ref (b 28), .ref (b 29), .long 0, .int 0, .int (-1), .int 0, .int 0, .int 0, .ref (b 36), .int 0, .int 0, .ref (b 39), .ref (b 40), .int 0, .ref (b 42), .ref (b 43), .int 0, .int 0, .int 0, .ref (b 47), .ref (b 48), .ref (b 49), .ref (b 50)])), ((b 21), .inl (J.2.1, 7168, .inl (upd f4 (nI i2).toNatClampNeg 1000000)))] := hD
        refine lv_iinc (v := nI (i2 + 1)) (lv' := [(2, .int (nI (i2 + 1))), (1, .int 0), (0, .ref (b 0))]) hx hb dX12_asksSure_39 hl (k := 0) rfl (nI_inc _) (by decide) rfl (fun ls hl => ?_)
        refine lv_goto (tgt := 11) hx hb dX12_asksSure_42 (by decide) ?_
        exact ih (i2 + 1) (by omega) (upd f4 (nI i2).toNatClampNeg 1000000) (su_step (by omega) hinv (fun h => by omega)) _ _ ls hP hD hS (lv_sub hl [0, 1, 2] rfl)
      · have j22 : ((i2 : Nat) : Int) % 1024 = 0 := (i_eq p18 (by decide)).mp c19
        refine lv_iconst (v := 0) hx hb dX12_asksSure_31 (by decide) ?_
        refine lv_goto (tgt := 38) hx hb dX12_asksSure_32 (by decide) ?_
        have h23 : vp_in (nI i2) 7168 := (i_in (a := ((i2 : Nat) : Int)) (nI_toInt (by omega)) (by omega) (by omega))
        refine va_iast hx hb hK.1 hP hD hS 1 0 rfl rfl h23 dX12_asksSure_38 (fun H locs hP hD hS => ?_)
        have hP : va_P J.1 cls [((b 0), .inr (12, [.ref (b 1), .ref (b 2), .ref (b 3), .ref (b 4), .int 0, .int 0, .int 0, .int 0, .ref (b 9), .ref (b 10), .int 0, .ref (b 12), .int (-1), .int 0, .int 0, .int 0, .int 0, .int 0, .ref (b 19), .ref (b 20), .ref (b 21), .ref (b 22), .ref (b 23), .long 0, .long 0, .long 0, .ref (b 27), .ref (b 28), .ref (b 29), .long 0, .int 0, .int (-1), .int 0, .int 0, .int 0, .ref (b 36), .int 0, .int 0, .ref (b 39), .ref (b 40), .int 0, .ref (b 42), .ref (b 43), .int 0, .int 0, .int 0, .ref (b 47), .ref (b 48), .ref (b 49), .ref (b 50)])), ((b 21), .inl (J.2.1, 7168, .inl (upd f4 (nI i2).toNatClampNeg 0)))] H := hP
        have hD : va_D A [((b 0), .inr (12, [.ref (b 1), .ref (b 2), .ref (b 3), .ref (b 4), .int 0, .int 0, .int 0, .int 0, .ref (b 9), .ref (b 10), .int 0, .ref (b 12), .int (-1), .int 0, .int 0, .int 0, .int 0, .int 0, .ref (b 19), .ref (b 20), .ref (b 21), .ref (b 22), .ref (b 23), .long 0, .long 0, .long 0, .ref (b 27), .ref (b 28), .ref (b 29), .long 0, .int 0, .int (-1), .int 0, .int 0, .int 0, .ref (b 36), .int 0, .int 0, .ref (b 39), .ref (b 40), .int 0, .ref (b 42), .ref (b 43), .int 0, .int 0, .int 0, .ref (b 47), .ref (b 48), .ref (b 49), .ref (b 50)])), ((b 21), .inl (J.2.1, 7168, .inl (upd f4 (nI i2).toNatClampNeg 0)))] := hD
        refine lv_iinc (v := nI (i2 + 1)) (lv' := [(2, .int (nI (i2 + 1))), (1, .int 0), (0, .ref (b 0))]) hx hb dX12_asksSure_39 hl (k := 0) rfl (nI_inc _) (by decide) rfl (fun ls hl => ?_)
        refine lv_goto (tgt := 11) hx hb dX12_asksSure_42 (by decide) ?_
        exact ih (i2 + 1) (by omega) (upd f4 (nI i2).toNatClampNeg 0) (su_step (by omega) hinv (fun _ => rfl)) _ _ ls hP hD hS (lv_sub hl [0, 1, 2] rfl)
  exact LP3 (7168 - 0) 0 (by omega) (fun _ => 0) (fun k h => absurd h (Nat.not_lt_zero k)) _ _ ls hP hD hS (lv_sub hl [0, 1, 2] rfl)
theorem dX12_soonest_0 : decode cX12_soonest 0 = .ok (.aload_n 0, 1) := by decide +kernel
theorem dX12_soonest_1 : decode cX12_soonest 1 = .ok (.getfield 39, 3) := by decide +kernel
theorem dX12_soonest_4 : decode cX12_soonest 4 = .ok (.sipush 1024, 3) := by decide +kernel
theorem dX12_soonest_7 : decode cX12_soonest 7 = .ok (.iload_n 2, 1) := by decide +kernel
theorem dX12_soonest_8 : decode cX12_soonest 8 = .ok (.imul, 1) := by decide +kernel
theorem dX12_soonest_9 : decode cX12_soonest 9 = .ok (.iload_n 1, 1) := by decide +kernel
theorem dX12_soonest_10 : decode cX12_soonest 10 = .ok (.iadd, 1) := by decide +kernel
theorem dX12_soonest_11 : decode cX12_soonest 11 = .ok (.iaload, 1) := by decide +kernel
theorem dX12_soonest_12 : decode cX12_soonest 12 = .ok (.istore_n 3, 1) := by decide +kernel
theorem dX12_soonest_13 : decode cX12_soonest 13 = .ok (.iload_n 3, 1) := by decide +kernel
theorem dX12_soonest_14 : decode cX12_soonest 14 = .ok (.ldc_w 256, 3) := by decide +kernel
theorem dX12_soonest_17 : decode cX12_soonest 17 = .ok (.if_icmp .lt 8, 3) := by decide +kernel
theorem dX12_soonest_25 : decode cX12_soonest 25 = .ok (.iload_n 3, 1) := by decide +kernel
theorem dX12_soonest_26 : decode cX12_soonest 26 = .ok (.ireturn, 1) := by decide +kernel
set_option maxHeartbeats 4000000 in
set_option maxRecDepth 100000 in
theorem m_soonest (l : Launch) (J : va_J9) (b : Nat → Nat) (f : Nat → Int32) (t : Int32) (ht : 0 ≤ t.toInt ∧ t.toInt ≤ 6) (hs : ∀ k, k < 7168 → k % 1024 = 0 → f k = 0) : RC l J yX12_soonest cX12_soonest 4 (some .int) ({ frames := 0, cells := 0, slots := 0, locals := 0 }) [.ref (b 0), .int 0, .int t] [((b 0), .inr (12, [.ref (b 1), .ref (b 2), .ref (b 3), .ref (b 4), .int 0, .int 0, .int 0, .int 0, .ref (b 9), .ref (b 10), .int 0, .ref (b 12), .int (-1), .int 0, .int 0, .int 0, .int 0, .int 0, .ref (b 19), .ref (b 20), .ref (b 21), .ref (b 22), .ref (b 23), .long 0, .long 0, .long 0, .ref (b 27), .ref (b 28), .ref (b 29), .long 0, .int 0, .int (-1), .int 0, .int 0, .int 0, .ref (b 36), .int 0, .int 0, .ref (b 39), .ref (b 40), .int 0, .ref (b 42), .ref (b 43), .int 0, .int 0, .int 0, .ref (b 47), .ref (b 48), .ref (b 49), .ref (b 50)])), ((b 21), .inl (J.2.1, 7168, .inl f))] (vp_Si (fun r => r = 0)) := by
  refine rc_of (by decide) (Nat.le_of_ble_eq_true rfl) ?_
  intro p e s m below meth c ls hE hl hP hK
  obtain ⟨hx, hb, hr, hml, hown, hts, hlk, hin⟩ := hE
  have hown : s.vm.findClass RX12 = some m.cls := hown
  have hl : lv_has ls 4 [(0, .ref (b 0)), (1, .int 0), (2, .int t)] := hl
  have rg_t := i_rng t
  refine lv_aload_n hx hb dX12_soonest_0 rfl (lv_at hl 0 rfl) ?_
  refine va_get (D := J.1) (ci := 12) (v := .ref (b 21)) (C := RX12) (T := TX12) (N := 50) hx hb hts inX12 hown hK.1 hP 0 rfl rfl 20 (by decide) (hts _ q_1286) (fun _ h9 => h9) rfl dX12_soonest_1 ?_
  refine lv_sipush (v := 1024) hx hb dX12_soonest_4 (by decide) ?_
  refine lv_iload_n hx hb dX12_soonest_7 rfl (lv_at hl 2 rfl) ?_
  refine lv_imul hx hb dX12_soonest_8 ?_
  have p1 : (1024 * t).toInt = 1024 * t.toInt := i_mul (by decide) rfl (by omega) (by omega)
  refine lv_iload_n hx hb dX12_soonest_9 rfl (lv_at hl 1 rfl) ?_
  refine lv_iadd hx hb dX12_soonest_10 ?_
  have p2 : ((1024 * t) + 0).toInt = (1024 * t.toInt) + 0 := i_add p1 (by decide) (by omega) (by omega)
  have h3 : vp_in ((1024 * t) + 0) 7168 := (i_in (a := (1024 * t.toInt) + 0) p2 (by omega) (by omega))
  refine va_iald hx hb hK.1 hP 1 0 rfl rfl h3 dX12_soonest_11 ?_
  refine top_i (y := 0) (hs _ (i_cl h3) (by show (Int32.toInt _).toNat % 1024 = 0; omega)) ?_
  refine lv_istore_n (lv' := [(3, .int 0), (0, .ref (b 0)), (1, .int 0), (2, .int t)]) hx hb dX12_soonest_12 rfl hl (by decide) rfl (fun ls hl => ?_)
  refine lv_iload_n hx hb dX12_soonest_13 rfl (lv_at hl 0 rfl) ?_
  refine lv_ldcw (v := 1000000) hx hb hown (hts _ q_1614) dX12_soonest_14 ?_
  refine lv_icmp_lt (tgt := 25) hx hb dX12_soonest_17 (by decide) (fun _ => ?_) (fun c => absurd c (by decide))
  refine lv_iload_n hx hb dX12_soonest_25 rfl (lv_at hl 0 rfl) ?_
  exact rz_i hx hb hr hlk (by decide) dX12_soonest_26
theorem dX12_sure_0 : decode cX12_sure 0 = .ok (.iload_n 1, 1) := by decide +kernel
theorem dX12_sure_1 : decode cX12_sure 1 = .ok (.iconst (-1), 1) := by decide +kernel
theorem dX12_sure_2 : decode cX12_sure 2 = .ok (.if_icmp .ge 5, 3) := by decide +kernel
theorem dX12_sure_7 : decode cX12_sure 7 = .ok (.aload_n 0, 1) := by decide +kernel
theorem q_1610 : Cond.methodLink RX12 262 yX12_asksSure ∈ lw_g := mem_q 1610 (by decide +kernel) rfl
theorem q_1612 : Cond.instanceMethod yX12_asksSure ∈ lw_g := mem_q 1612 (by decide +kernel) rfl
theorem q_75 : Cond.selects RX12 yX12_asksSure yX12_asksSure ∈ lw_g := mem_q 75 (by decide +kernel) rfl
theorem q_1613 : Cond.code yX12_asksSure cX12_asksSure 5 none ∈ lw_g := mem_q 1613 (by decide +kernel) rfl
theorem kV_RX12_262 : CV RX12 262 RX12 yX12_asksSure cX12_asksSure 5 none 0 := cv_of q_1610 q_1612 q_75 q_115 q_1613 (by decide +kernel)
theorem dX12_sure_8 : decode cX12_sure 8 = .ok (.invokevirtual 262, 3) := by decide +kernel
theorem dX12_sure_11 : decode cX12_sure 11 = .ok (.aload_n 0, 1) := by decide +kernel
theorem dX12_sure_12 : decode cX12_sure 12 = .ok (.invokevirtual 225, 3) := by decide +kernel
theorem dX12_sure_15 : decode cX12_sure 15 = .ok (.istore_n 2, 1) := by decide +kernel
theorem dX12_sure_16 : decode cX12_sure 16 = .ok (.aload_n 0, 1) := by decide +kernel
theorem dX12_sure_17 : decode cX12_sure 17 = .ok (.iload_n 2, 1) := by decide +kernel
theorem dX12_sure_18 : decode cX12_sure 18 = .ok (.iconst 0, 1) := by decide +kernel
theorem q_1627 : Cond.methodLink RX12 265 yX12_soonest ∈ lw_g := mem_q 1627 (by decide +kernel) rfl
theorem q_1629 : Cond.instanceMethod yX12_soonest ∈ lw_g := mem_q 1629 (by decide +kernel) rfl
theorem q_79 : Cond.selects RX12 yX12_soonest yX12_soonest ∈ lw_g := mem_q 79 (by decide +kernel) rfl
theorem q_1630 : Cond.code yX12_soonest cX12_soonest 4 (some .int) ∈ lw_g := mem_q 1630 (by decide +kernel) rfl
theorem kV_RX12_265 : CV RX12 265 RX12 yX12_soonest cX12_soonest 4 (some .int) 2 := cv_of q_1627 q_1629 q_79 q_115 q_1630 (by decide +kernel)
theorem dX12_sure_19 : decode cX12_sure 19 = .ok (.invokevirtual 265, 3) := by decide +kernel
theorem dX12_sure_22 : decode cX12_sure 22 = .ok (.istore_n 3, 1) := by decide +kernel
theorem dX12_sure_23 : decode cX12_sure 23 = .ok (.iload_n 1, 1) := by decide +kernel
theorem dX12_sure_24 : decode cX12_sure 24 = .ok (.ifCond .lt 7, 3) := by decide +kernel
theorem dX12_sure_31 : decode cX12_sure 31 = .ok (.iload_n 3, 1) := by decide +kernel
theorem dX12_sure_32 : decode cX12_sure 32 = .ok (.ireturn, 1) := by decide +kernel
theorem dX12_sure_27 : decode cX12_sure 27 = .ok (.iload_n 3, 1) := by decide +kernel
theorem dX12_sure_28 : decode cX12_sure 28 = .ok (.ifCond .ge 5, 3) := by decide +kernel
theorem dX12_sure_33 : decode cX12_sure 33 = .ok (.iload_n 1, 1) := by decide +kernel
theorem dX12_sure_34 : decode cX12_sure 34 = .ok (.aload_n 0, 1) := by decide +kernel
theorem dX12_sure_35 : decode cX12_sure 35 = .ok (.getfield 11, 3) := by decide +kernel
theorem dX12_sure_38 : decode cX12_sure 38 = .ok (.bipush 20, 2) := by decide +kernel
theorem dX12_sure_40 : decode cX12_sure 40 = .ok (.iaload, 1) := by decide +kernel
theorem dX12_sure_41 : decode cX12_sure 41 = .ok (.idiv, 1) := by decide +kernel
theorem dX12_sure_42 : decode cX12_sure 42 = .ok (.istore 4, 2) := by decide +kernel
theorem dX12_sure_44 : decode cX12_sure 44 = .ok (.iload 4, 2) := by decide +kernel
theorem dX12_sure_46 : decode cX12_sure 46 = .ok (.iload_n 3, 1) := by decide +kernel
theorem dX12_sure_47 : decode cX12_sure 47 = .ok (.if_icmp .lt 6, 3) := by decide +kernel
theorem dX12_sure_50 : decode cX12_sure 50 = .ok (.bipush (-2), 2) := by decide +kernel
theorem dX12_sure_52 : decode cX12_sure 52 = .ok (.ireturn, 1) := by decide +kernel
theorem dX12_sure_5 : decode cX12_sure 5 = .ok (.iconst (-1), 1) := by decide +kernel
theorem dX12_sure_6 : decode cX12_sure 6 = .ok (.ireturn, 1) := by decide +kernel
set_option maxHeartbeats 4000000 in
set_option maxRecDepth 100000 in
theorem m_sure (l : Launch) (J : va_J9) (sz : Nat) (b : Nat → Nat) (k : Int32) : WC l J yX12_sure cX12_sure 8 (some .int) ({ frames := 2, cells := 0, slots := 0, locals := 46 }) [.ref (b 0), .int k] [((b 0), .inr (12, [.ref (b 1), .ref (b 2), .ref (b 3), .ref (b 4), .int 0, .int 0, .int 0, .int 0, .ref (b 9), .ref (b 10), .int 0, .ref (b 12), .int (-1), .int 0, .int 0, .int 0, .int 0, .int 0, .ref (b 19), .ref (b 20), .ref (b 21), .ref (b 22), .ref (b 23), .long 0, .long 0, .long 0, .ref (b 27), .ref (b 28), .ref (b 29), .long 0, .int 0, .int (-1), .int 0, .int 0, .int 0, .ref (b 36), .int 0, .int 0, .ref (b 39), .ref (b 40), .int 0, .ref (b 42), .ref (b 43), .int 0, .int 0, .int 0, .ref (b 47), .ref (b 48), .ref (b 49), .ref (b 50)])), ((b 1), .inl (J.2.1, 22, .inl (upd (fun _ => 0) (20 : Int32).toNatClampNeg 1))), ((b 21), .inl (J.2.1, 7168, .inl (fun _ => 0)))] sz (Qi J (fun (r : Int32) (_ : Unit) => r = sp_sure (k.toInt)) (fun (_ : Unit) => [])) 0 0 := by
  refine wc_of (by decide) (Nat.le_of_ble_eq_true rfl) ?_
  intro p e s m below meth c ls A hE hl hP hK hD hS hA
  obtain ⟨hx, hb, hr, hml, hown, hts, hlk, hin⟩ := hE
  have hown : s.vm.findClass RX12 = some m.cls := hown
  have hl : lv_has ls 8 [(0, .ref (b 0)), (1, .int k)] := hl
  have rg_k := i_rng k
  refine lv_iload_n hx hb dX12_sure_0 rfl (lv_at hl 1 rfl) ?_
  refine lv_iconst (v := (-1)) hx hb dX12_sure_1 (by decide) ?_
  refine lv_icmp_ge (tgt := 7) hx hb dX12_sure_2 (by decide) (fun c1 => ?_) (fun c1 => ?_)
  · have j2 : (-1) ≤ k.toInt := (i_le (by decide) rfl).mp c1
    refine lv_aload_n hx hb dX12_sure_7 rfl (lv_at hl 0 rfl) ?_
    refine gw_v (wc := [((b 0), .inr (12, [.ref (b 1), .ref (b 2), .ref (b 3), .ref (b 4), .int 0, .int 0, .int 0, .int 0, .ref (b 9), .ref (b 10), .int 0, .ref (b 12), .int (-1), .int 0, .int 0, .int 0, .int 0, .int 0, .ref (b 19), .ref (b 20), .ref (b 21), .ref (b 22), .ref (b 23), .long 0, .long 0, .long 0, .ref (b 27), .ref (b 28), .ref (b 29), .long 0, .int 0, .int (-1), .int 0, .int 0, .int 0, .ref (b 36), .int 0, .int 0, .ref (b 39), .ref (b 40), .int 0, .ref (b 42), .ref (b 43), .int 0, .int 0, .int 0, .ref (b 47), .ref (b 48), .ref (b 49), .ref (b 50)])), ((b 21), .inl (J.2.1, 7168, .inl (fun _ => 0)))]) (wr := [((b 1), .inl (J.2.1, 22, .inl (upd (fun _ => 0) (20 : Int32).toNatClampNeg 1)))]) hP hD hS hA [0, 2] [1] rfl rfl (by decide) (by decide) (wn_V (As := []) (rest := []) hx hb hml hown hts hK (m_asksSure l J _ b) kV_RX12_262 (hP.sub (ws' := [((b 0), .inr (12, [.ref (b 1), .ref (b 2), .ref (b 3), .ref (b 4), .int 0, .int 0, .int 0, .int 0, .ref (b 9), .ref (b 10), .int 0, .ref (b 12), .int (-1), .int 0, .int 0, .int 0, .int 0, .int 0, .ref (b 19), .ref (b 20), .ref (b 21), .ref (b 22), .ref (b 23), .long 0, .long 0, .long 0, .ref (b 27), .ref (b 28), .ref (b 29), .long 0, .int 0, .int (-1), .int 0, .int 0, .int 0, .ref (b 36), .int 0, .int 0, .ref (b 39), .ref (b 40), .int 0, .ref (b 42), .ref (b 43), .int 0, .int 0, .int 0, .ref (b 47), .ref (b 48), .ref (b 49), .ref (b 50)])), ((b 21), .inl (J.2.1, 7168, .inl (fun _ => 0)))]) [0, 2] rfl) ((hD.sub (ws' := [((b 0), .inr (12, [.ref (b 1), .ref (b 2), .ref (b 3), .ref (b 4), .int 0, .int 0, .int 0, .int 0, .ref (b 9), .ref (b 10), .int 0, .ref (b 12), .int (-1), .int 0, .int 0, .int 0, .int 0, .int 0, .ref (b 19), .ref (b 20), .ref (b 21), .ref (b 22), .ref (b 23), .long 0, .long 0, .long 0, .ref (b 27), .ref (b 28), .ref (b 29), .long 0, .int 0, .int (-1), .int 0, .int 0, .int 0, .ref (b 36), .int 0, .int 0, .ref (b 39), .ref (b 40), .int 0, .ref (b 42), .ref (b 43), .int 0, .int 0, .int 0, .ref (b 47), .ref (b 48), .ref (b 49), .ref (b 50)])), ((b 21), .inl (J.2.1, 7168, .inl (fun _ => 0)))]) [0, 2] (by decide) rfl).weaken (fun _ _ _ _ => trivial)) rfl rfl rfl ⟨Nat.le_of_ble_eq_true rfl, Nat.le_of_ble_eq_true rfl⟩ rfl rfl rfl hl.1 rfl (Nat.le_of_ble_eq_true rfl) ⟨Nat.le_of_ble_eq_true rfl, Nat.le_of_ble_eq_true rfl⟩ dX12_sure_8) (fun u3 H locs hw hP hD hS => ?_)
    have hP : va_P J.1 cls [((b 1), .inl (J.2.1, 22, .inl (upd (fun _ => 0) (20 : Int32).toNatClampNeg 1))), ((b 0), .inr (12, [.ref (b 1), .ref (b 2), .ref (b 3), .ref (b 4), .int 0, .int 0, .int 0, .int 0, .ref (b 9), .ref (b 10), .int 0, .ref (b 12), .int (-1), .int 0, .int 0, .int 0, .int 0, .int 0, .ref (b 19), .ref (b 20), .ref (b 21), .ref (b 22), .ref (b 23), .long 0, .long 0, .long 0, .ref (b 27), .ref (b 28), .ref (b 29), .long 0, .int 0, .int (-1), .int 0, .int 0, .int 0, .ref (b 36), .int 0, .int 0, .ref (b 39), .ref (b 40), .int 0, .ref (b 42), .ref (b 43), .int 0, .int 0, .int 0, .ref (b 47), .ref (b 48), .ref (b 49), .ref (b 50)])), ((b 21), .inl (J.2.1, 7168, .inl u3))] H := hP
    have hD : va_D A [((b 1), .inl (J.2.1, 22, .inl (upd (fun _ => 0) (20 : Int32).toNatClampNeg 1))), ((b 0), .inr (12, [.ref (b 1), .ref (b 2), .ref (b 3), .ref (b 4), .int 0, .int 0, .int 0, .int 0, .ref (b 9), .ref (b 10), .int 0, .ref (b 12), .int (-1), .int 0, .int 0, .int 0, .int 0, .int 0, .ref (b 19), .ref (b 20), .ref (b 21), .ref (b 22), .ref (b 23), .long 0, .long 0, .long 0, .ref (b 27), .ref (b 28), .ref (b 29), .long 0, .int 0, .int (-1), .int 0, .int 0, .int 0, .ref (b 36), .int 0, .int 0, .ref (b 39), .ref (b 40), .int 0, .ref (b 42), .ref (b 43), .int 0, .int 0, .int 0, .ref (b 47), .ref (b 48), .ref (b 49), .ref (b 50)])), ((b 21), .inl (J.2.1, 7168, .inl u3))] := hD
    refine W.widen (k := 0) (n := 0) (Nat.le_of_ble_eq_true rfl) (Nat.le_of_ble_eq_true rfl) ?_
    have hs := hw
    refine lv_aload_n hx hb dX12_sure_11 rfl (lv_at hl 0 rfl) ?_
    refine go_i (rn_V (As := []) (rest := []) hx hb hml hown hts hK (m_openSet l J b) kV_RX12_225 (hP.sub (ws' := [((b 0), .inr (12, [.ref (b 1), .ref (b 2), .ref (b 3), .ref (b 4), .int 0, .int 0, .int 0, .int 0, .ref (b 9), .ref (b 10), .int 0, .ref (b 12), .int (-1), .int 0, .int 0, .int 0, .int 0, .int 0, .ref (b 19), .ref (b 20), .ref (b 21), .ref (b 22), .ref (b 23), .long 0, .long 0, .long 0, .ref (b 27), .ref (b 28), .ref (b 29), .long 0, .int 0, .int (-1), .int 0, .int 0, .int 0, .ref (b 36), .int 0, .int 0, .ref (b 39), .ref (b 40), .int 0, .ref (b 42), .ref (b 43), .int 0, .int 0, .int 0, .ref (b 47), .ref (b 48), .ref (b 49), .ref (b 50)]))]) [1] rfl) rfl rfl rfl ⟨Nat.le_of_ble_eq_true rfl, Nat.le_of_ble_eq_true rfl⟩ rfl rfl rfl hl.1 rfl (Nat.le_of_ble_eq_true rfl) ⟨Nat.le_of_ble_eq_true rfl, Nat.le_of_ble_eq_true rfl⟩ dX12_sure_12) ?_
    refine lv_istore_n (lv' := [(2, .int 0), (0, .ref (b 0)), (1, .int k)]) hx hb dX12_sure_15 rfl hl (by decide) rfl (fun ls hl => ?_)
    refine lv_aload_n hx hb dX12_sure_16 rfl (lv_at hl 1 rfl) ?_
    refine lv_iload_n hx hb dX12_sure_17 rfl (lv_at hl 0 rfl) ?_
    refine lv_iconst (v := 0) hx hb dX12_sure_18 (by decide) ?_
    refine go_i (rn_V (As := [.int 0, .int 0]) (rest := []) hx hb hml hown hts hK (m_soonest l J b u3 0 (by decide) hs) kV_RX12_265 (hP.sub (ws' := [((b 0), .inr (12, [.ref (b 1), .ref (b 2), .ref (b 3), .ref (b 4), .int 0, .int 0, .int 0, .int 0, .ref (b 9), .ref (b 10), .int 0, .ref (b 12), .int (-1), .int 0, .int 0, .int 0, .int 0, .int 0, .ref (b 19), .ref (b 20), .ref (b 21), .ref (b 22), .ref (b 23), .long 0, .long 0, .long 0, .ref (b 27), .ref (b 28), .ref (b 29), .long 0, .int 0, .int (-1), .int 0, .int 0, .int 0, .ref (b 36), .int 0, .int 0, .ref (b 39), .ref (b 40), .int 0, .ref (b 42), .ref (b 43), .int 0, .int 0, .int 0, .ref (b 47), .ref (b 48), .ref (b 49), .ref (b 50)])), ((b 21), .inl (J.2.1, 7168, .inl u3))]) [1, 2] rfl) rfl rfl rfl ⟨Nat.le_of_ble_eq_true rfl, Nat.le_of_ble_eq_true rfl⟩ rfl rfl rfl hl.1 rfl (Nat.le_of_ble_eq_true rfl) ⟨Nat.le_of_ble_eq_true rfl, Nat.le_of_ble_eq_true rfl⟩ dX12_sure_19) ?_
    refine lv_istore_n (lv' := [(3, .int 0), (2, .int 0), (0, .ref (b 0)), (1, .int k)]) hx hb dX12_sure_22 rfl hl (by decide) rfl (fun ls hl => ?_)
    refine lv_iload_n hx hb dX12_sure_23 rfl (lv_at hl 3 rfl) ?_
    refine lv_if_lt (tgt := 31) hx hb dX12_sure_24 (by decide) (fun c4 => ?_) (fun c4 => ?_)
    · have j5 : k.toInt < 0 := (i_lt rfl (by decide)).mp c4
      refine lv_iload_n hx hb dX12_sure_31 rfl (lv_at hl 0 rfl) ?_
      exact wz_i () hx hb hr hlk (by unfold sp_sure; (repeat' split) <;> first | rfl | (exfalso; omega)) (hP.sub (ws' := []) [] rfl) (hD.sub (ws' := []) [] (by decide) rfl) hS dX12_sure_32
    · have j6 : ¬ (k.toInt < 0) := fun h => c4 ((i_lt rfl (by decide)).mpr h)
      refine lv_iload_n hx hb dX12_sure_27 rfl (lv_at hl 0 rfl) ?_
      refine lv_if_ge (tgt := 33) hx hb dX12_sure_28 (by decide) (fun _ => ?_) (fun c => absurd c (by decide))
      refine lv_iload_n hx hb dX12_sure_33 rfl (lv_at hl 3 rfl) ?_
      refine lv_aload_n hx hb dX12_sure_34 rfl (lv_at hl 2 rfl) ?_
      refine va_get (D := J.1) (ci := 12) (v := .ref (b 1)) (C := RX12) (T := TX12) (N := 50) hx hb hts inX12 hown hK.1 hP 1 rfl rfl 0 (by decide) (hts _ q_1266) (fun _ h9 => h9) rfl dX12_sure_35 ?_
      refine lv_bipush (v := 20) hx hb dX12_sure_38 (by decide) ?_
      have h7 : vp_in 20 22 := (i_in (a := 20) (by decide) (by omega) (by omega))
      refine va_iald hx hb hK.1 hP 0 0 rfl rfl h7 dX12_sure_40 ?_
      refine top_i (y := 1) rfl ?_
      refine lv_idiv hx hb dX12_sure_41 (by decide) ?_
      have p8 : (k / 1).toInt = k.toInt / 1 := i_div rfl (by decide) (by omega) (by omega)
      refine lv_istore (lv' := [(4, .int (k / 1)), (3, .int 0), (2, .int 0), (0, .ref (b 0)), (1, .int k)]) hx hb dX12_sure_42 hl (by decide) rfl (fun ls hl => ?_)
      refine lv_iload hx hb dX12_sure_44 (lv_at hl 0 rfl) ?_
      refine lv_iload_n hx hb dX12_sure_46 rfl (lv_at hl 1 rfl) ?_
      refine lv_icmp_lt (tgt := 53) hx hb dX12_sure_47 (by decide) (fun c9 => absurd (show k.toInt / 1 < 0 from (i_lt p8 (by decide)).mp c9) (by omega)) (fun _ => ?_)
      refine lv_bipush (v := (-2)) hx hb dX12_sure_50 (by decide) ?_
      exact wz_i () hx hb hr hlk (by unfold sp_sure; (repeat' split) <;> first | rfl | (exfalso; omega)) (hP.sub (ws' := []) [] rfl) (hD.sub (ws' := []) [] (by decide) rfl) hS dX12_sure_52
  · have j10 : ¬ ((-1) ≤ k.toInt) := fun h => c1 ((i_le (by decide) rfl).mpr h)
    refine lv_iconst (v := (-1)) hx hb dX12_sure_5 (by decide) ?_
    exact wz_i () hx hb hr hlk (by unfold sp_sure; (repeat' split) <;> first | rfl | (exfalso; omega)) (hP.sub (ws' := []) [] rfl) (hD.sub (ws' := []) [] (by decide) rfl) hS dX12_sure_6
theorem dX12_sureFrom_0 : decode cX12_sureFrom 0 = .ok (.iload_n 1, 1) := by decide +kernel
theorem dX12_sureFrom_1 : decode cX12_sureFrom 1 = .ok (.i2l, 1) := by decide +kernel
theorem dX12_sureFrom_2 : decode cX12_sureFrom 2 = .ok (.lconst 0, 1) := by decide +kernel
theorem dX12_sureFrom_3 : decode cX12_sureFrom 3 = .ok (.iconst 1, 1) := by decide +kernel
theorem dX12_sureFrom_4 : decode cX12_sureFrom 4 = .ok (.aload_n 0, 1) := by decide +kernel
theorem dX12_sureFrom_5 : decode cX12_sureFrom 5 = .ok (.getfield 98, 3) := by decide +kernel
theorem dX12_sureFrom_8 : decode cX12_sureFrom 8 = .ok (.ishl, 1) := by decide +kernel
theorem dX12_sureFrom_9 : decode cX12_sureFrom 9 = .ok (.iconst 1, 1) := by decide +kernel
theorem dX12_sureFrom_10 : decode cX12_sureFrom 10 = .ok (.isub, 1) := by decide +kernel
theorem dX12_sureFrom_11 : decode cX12_sureFrom 11 = .ok (.i2l, 1) := by decide +kernel
theorem dX12_sureFrom_12 : decode cX12_sureFrom 12 = .ok (.invokestatic 101, 3) := by decide +kernel
theorem dX12_sureFrom_15 : decode cX12_sureFrom 15 = .ok (.ifCond .eq 15, 3) := by decide +kernel
theorem dX12_sureFrom_30 : decode cX12_sureFrom 30 = .ok (.iconst (-1), 1) := by decide +kernel
theorem dX12_sureFrom_31 : decode cX12_sureFrom 31 = .ok (.ireturn, 1) := by decide +kernel
theorem dX12_sureFrom_18 : decode cX12_sureFrom 18 = .ok (.iload_n 2, 1) := by decide +kernel
theorem dX12_sureFrom_19 : decode cX12_sureFrom 19 = .ok (.i2l, 1) := by decide +kernel
theorem dX12_sureFrom_20 : decode cX12_sureFrom 20 = .ok (.lconst 0, 1) := by decide +kernel
theorem q_1609 : Cond.constantLong RX12 260 6 ∈ lw_g := mem_q 1609 (by decide +kernel) rfl
theorem dX12_sureFrom_21 : decode cX12_sureFrom 21 = .ok (.ldc2_w 260, 3) := by decide +kernel
theorem dX12_sureFrom_24 : decode cX12_sureFrom 24 = .ok (.invokestatic 101, 3) := by decide +kernel
theorem dX12_sureFrom_27 : decode cX12_sureFrom 27 = .ok (.ifCond .ne 5, 3) := by decide +kernel
theorem dX12_sureFrom_32 : decode cX12_sureFrom 32 = .ok (.aload_n 0, 1) := by decide +kernel
theorem dX12_sureFrom_33 : decode cX12_sureFrom 33 = .ok (.invokevirtual 262, 3) := by decide +kernel
theorem dX12_sureFrom_36 : decode cX12_sureFrom 36 = .ok (.aload_n 0, 1) := by decide +kernel
theorem dX12_sureFrom_37 : decode cX12_sureFrom 37 = .ok (.iload_n 1, 1) := by decide +kernel
theorem dX12_sureFrom_38 : decode cX12_sureFrom 38 = .ok (.aload_n 0, 1) := by decide +kernel
theorem dX12_sureFrom_39 : decode cX12_sureFrom 39 = .ok (.invokevirtual 225, 3) := by decide +kernel
theorem dX12_sureFrom_42 : decode cX12_sureFrom 42 = .ok (.iand, 1) := by decide +kernel
theorem dX12_sureFrom_43 : decode cX12_sureFrom 43 = .ok (.iload_n 2, 1) := by decide +kernel
theorem dX12_sureFrom_44 : decode cX12_sureFrom 44 = .ok (.invokevirtual 265, 3) := by decide +kernel
theorem dX12_sureFrom_47 : decode cX12_sureFrom 47 = .ok (.ireturn, 1) := by decide +kernel
set_option maxHeartbeats 4000000 in
set_option maxRecDepth 100000 in
theorem m_sureFrom (l : Launch) (J : va_J9) (sz : Nat) (b : Nat → Nat) (x : Int32) (k : Int32) : WC l J yX12_sureFrom cX12_sureFrom 3 (some .int) ({ frames := 2, cells := 0, slots := 0, locals := 46 }) [.ref (b 0), .int x, .int k] [((b 0), .inr (12, [.ref (b 1), .ref (b 2), .ref (b 3), .ref (b 4), .int 0, .int 0, .int 0, .int 0, .ref (b 9), .ref (b 10), .int 0, .ref (b 12), .int (-1), .int 0, .int 0, .int 0, .int 0, .int 0, .ref (b 19), .ref (b 20), .ref (b 21), .ref (b 22), .ref (b 23), .long 0, .long 0, .long 0, .ref (b 27), .ref (b 28), .ref (b 29), .long 0, .int 0, .int (-1), .int 0, .int 0, .int 0, .ref (b 36), .int 0, .int 0, .ref (b 39), .ref (b 40), .int 0, .ref (b 42), .ref (b 43), .int 0, .int 0, .int 0, .ref (b 47), .ref (b 48), .ref (b 49), .ref (b 50)])), ((b 21), .inl (J.2.1, 7168, .inl (fun _ => 0)))] sz (Qi J (fun (r : Int32) (_ : Unit) => r = sp_sureFrom (x.toInt) (k.toInt)) (fun (_ : Unit) => [])) 0 0 := by
  refine wc_of (by decide) (Nat.le_of_ble_eq_true rfl) ?_
  intro p e s m below meth c ls A hE hl hP hK hD hS hA
  obtain ⟨hx, hb, hr, hml, hown, hts, hlk, hin⟩ := hE
  have hown : s.vm.findClass RX12 = some m.cls := hown
  have hl : lv_has ls 3 [(0, .ref (b 0)), (1, .int x), (2, .int k)] := hl
  have rg_x := i_rng x
  have rg_k := i_rng k
  refine lv_iload_n hx hb dX12_sureFrom_0 rfl (lv_at hl 1 rfl) ?_
  refine lv_i2l (v := x.toInt64) hx hb dX12_sureFrom_1 rfl ?_
  refine lv_lconst (v := 0) hx hb dX12_sureFrom_2 (by decide) ?_
  refine lv_iconst (v := 1) hx hb dX12_sureFrom_3 (by decide) ?_
  refine lv_aload_n hx hb dX12_sureFrom_4 rfl (lv_at hl 0 rfl) ?_
  refine va_get (D := J.1) (ci := 12) (v := .int 0) (C := RX12) (T := TX12) (N := 50) hx hb hts inX12 hown hK.1 hP 0 rfl rfl 6 (by decide) (hts _ q_1272) (fun _ h9 => h9) rfl dX12_sureFrom_5 ?_
  refine lv_ishl hx hb dX12_sureFrom_8 ?_
  refine top_i (y := 1) (by decide) ?_
  refine lv_iconst (v := 1) hx hb dX12_sureFrom_9 (by decide) ?_
  refine lv_isub hx hb dX12_sureFrom_10 ?_
  refine top_i (y := 0) (by decide) ?_
  refine lv_i2l (v := 0) hx hb dX12_sureFrom_11 (by decide) ?_
  refine go_i (rn_S (As := [.long x.toInt64, .long 0, .long 0]) (rest := []) hx hb hml hown hts hK (m_within l J x.toInt64 0 0 x.toInt 0 0 (i_wide rfl) (by decide) (by decide)) kS_RX12_101 (hP.sub (ws' := []) [] rfl) ⟨Nat.le_of_ble_eq_true rfl, Nat.le_of_ble_eq_true rfl⟩ rfl rfl rfl hl.1 rfl (Nat.le_of_ble_eq_true rfl) ⟨Nat.le_of_ble_eq_true rfl, Nat.le_of_ble_eq_true rfl⟩ dX12_sureFrom_12) ?_
  refine lv_if_eq (tgt := 30) hx hb dX12_sureFrom_15 (by decide) (fun c1 => ?_) (fun c1 => ?_)
  · have j2 := b0 c1
    refine lv_iconst (v := (-1)) hx hb dX12_sureFrom_30 (by decide) ?_
    exact wz_i () hx hb hr hlk (by unfold sp_sureFrom; (repeat' split) <;> first | rfl | (exfalso; omega)) (hP.sub (ws' := []) [] rfl) (hD.sub (ws' := []) [] (by decide) rfl) hS dX12_sureFrom_31
  · have j3 := b1 c1
    refine lv_iload_n hx hb dX12_sureFrom_18 rfl (lv_at hl 2 rfl) ?_
    refine lv_i2l (v := k.toInt64) hx hb dX12_sureFrom_19 rfl ?_
    refine lv_lconst (v := 0) hx hb dX12_sureFrom_20 (by decide) ?_
    refine lv_ldc2 (v := 6) hx hb hown (hts _ q_1609) dX12_sureFrom_21 ?_
    refine go_i (rn_S (As := [.long k.toInt64, .long 0, .long 6]) (rest := []) hx hb hml hown hts hK (m_within l J k.toInt64 0 6 k.toInt 0 6 (i_wide rfl) (by decide) (by decide)) kS_RX12_101 (hP.sub (ws' := []) [] rfl) ⟨Nat.le_of_ble_eq_true rfl, Nat.le_of_ble_eq_true rfl⟩ rfl rfl rfl hl.1 rfl (Nat.le_of_ble_eq_true rfl) ⟨Nat.le_of_ble_eq_true rfl, Nat.le_of_ble_eq_true rfl⟩ dX12_sureFrom_24) ?_
    refine lv_if_ne (tgt := 32) hx hb dX12_sureFrom_27 (by decide) (fun c4 => ?_) (fun c4 => ?_)
    · have j5 := b1 c4
      refine lv_aload_n hx hb dX12_sureFrom_32 rfl (lv_at hl 0 rfl) ?_
      refine gw_v (wc := [((b 0), .inr (12, [.ref (b 1), .ref (b 2), .ref (b 3), .ref (b 4), .int 0, .int 0, .int 0, .int 0, .ref (b 9), .ref (b 10), .int 0, .ref (b 12), .int (-1), .int 0, .int 0, .int 0, .int 0, .int 0, .ref (b 19), .ref (b 20), .ref (b 21), .ref (b 22), .ref (b 23), .long 0, .long 0, .long 0, .ref (b 27), .ref (b 28), .ref (b 29), .long 0, .int 0, .int (-1), .int 0, .int 0, .int 0, .ref (b 36), .int 0, .int 0, .ref (b 39), .ref (b 40), .int 0, .ref (b 42), .ref (b 43), .int 0, .int 0, .int 0, .ref (b 47), .ref (b 48), .ref (b 49), .ref (b 50)])), ((b 21), .inl (J.2.1, 7168, .inl (fun _ => 0)))]) (wr := []) hP hD hS hA [0, 1] [] rfl rfl (by decide) (by decide) (wn_V (As := []) (rest := []) hx hb hml hown hts hK (m_asksSure l J _ b) kV_RX12_262 hP ((hD.sub (ws' := [((b 0), .inr (12, [.ref (b 1), .ref (b 2), .ref (b 3), .ref (b 4), .int 0, .int 0, .int 0, .int 0, .ref (b 9), .ref (b 10), .int 0, .ref (b 12), .int (-1), .int 0, .int 0, .int 0, .int 0, .int 0, .ref (b 19), .ref (b 20), .ref (b 21), .ref (b 22), .ref (b 23), .long 0, .long 0, .long 0, .ref (b 27), .ref (b 28), .ref (b 29), .long 0, .int 0, .int (-1), .int 0, .int 0, .int 0, .ref (b 36), .int 0, .int 0, .ref (b 39), .ref (b 40), .int 0, .ref (b 42), .ref (b 43), .int 0, .int 0, .int 0, .ref (b 47), .ref (b 48), .ref (b 49), .ref (b 50)])), ((b 21), .inl (J.2.1, 7168, .inl (fun _ => 0)))]) [0, 1] (by decide) rfl).weaken (fun _ _ _ _ => trivial)) rfl rfl rfl ⟨Nat.le_of_ble_eq_true rfl, Nat.le_of_ble_eq_true rfl⟩ rfl rfl rfl hl.1 rfl (Nat.le_of_ble_eq_true rfl) ⟨Nat.le_of_ble_eq_true rfl, Nat.le_of_ble_eq_true rfl⟩ dX12_sureFrom_33) (fun u6 H locs hw hP hD hS => ?_)
      have hP : va_P J.1 cls [((b 0), .inr (12, [.ref (b 1), .ref (b 2), .ref (b 3), .ref (b 4), .int 0, .int 0, .int 0, .int 0, .ref (b 9), .ref (b 10), .int 0, .ref (b 12), .int (-1), .int 0, .int 0, .int 0, .int 0, .int 0, .ref (b 19), .ref (b 20), .ref (b 21), .ref (b 22), .ref (b 23), .long 0, .long 0, .long 0, .ref (b 27), .ref (b 28), .ref (b 29), .long 0, .int 0, .int (-1), .int 0, .int 0, .int 0, .ref (b 36), .int 0, .int 0, .ref (b 39), .ref (b 40), .int 0, .ref (b 42), .ref (b 43), .int 0, .int 0, .int 0, .ref (b 47), .ref (b 48), .ref (b 49), .ref (b 50)])), ((b 21), .inl (J.2.1, 7168, .inl u6))] H := hP
      have hD : va_D A [((b 0), .inr (12, [.ref (b 1), .ref (b 2), .ref (b 3), .ref (b 4), .int 0, .int 0, .int 0, .int 0, .ref (b 9), .ref (b 10), .int 0, .ref (b 12), .int (-1), .int 0, .int 0, .int 0, .int 0, .int 0, .ref (b 19), .ref (b 20), .ref (b 21), .ref (b 22), .ref (b 23), .long 0, .long 0, .long 0, .ref (b 27), .ref (b 28), .ref (b 29), .long 0, .int 0, .int (-1), .int 0, .int 0, .int 0, .ref (b 36), .int 0, .int 0, .ref (b 39), .ref (b 40), .int 0, .ref (b 42), .ref (b 43), .int 0, .int 0, .int 0, .ref (b 47), .ref (b 48), .ref (b 49), .ref (b 50)])), ((b 21), .inl (J.2.1, 7168, .inl u6))] := hD
      refine W.widen (k := 0) (n := 0) (Nat.le_of_ble_eq_true rfl) (Nat.le_of_ble_eq_true rfl) ?_
      have hs := hw
      refine lv_aload_n hx hb dX12_sureFrom_36 rfl (lv_at hl 0 rfl) ?_
      refine lv_iload_n hx hb dX12_sureFrom_37 rfl (lv_at hl 1 rfl) ?_
      refine lv_aload_n hx hb dX12_sureFrom_38 rfl (lv_at hl 0 rfl) ?_
      refine go_i (rn_V (As := []) (rest := [.int x, .ref (b 0)]) hx hb hml hown hts hK (m_openSet l J b) kV_RX12_225 (hP.sub (ws' := [((b 0), .inr (12, [.ref (b 1), .ref (b 2), .ref (b 3), .ref (b 4), .int 0, .int 0, .int 0, .int 0, .ref (b 9), .ref (b 10), .int 0, .ref (b 12), .int (-1), .int 0, .int 0, .int 0, .int 0, .int 0, .ref (b 19), .ref (b 20), .ref (b 21), .ref (b 22), .ref (b 23), .long 0, .long 0, .long 0, .ref (b 27), .ref (b 28), .ref (b 29), .long 0, .int 0, .int (-1), .int 0, .int 0, .int 0, .ref (b 36), .int 0, .int 0, .ref (b 39), .ref (b 40), .int 0, .ref (b 42), .ref (b 43), .int 0, .int 0, .int 0, .ref (b 47), .ref (b 48), .ref (b 49), .ref (b 50)]))]) [0] rfl) rfl rfl rfl ⟨Nat.le_of_ble_eq_true rfl, Nat.le_of_ble_eq_true rfl⟩ rfl rfl rfl hl.1 rfl (Nat.le_of_ble_eq_true rfl) ⟨Nat.le_of_ble_eq_true rfl, Nat.le_of_ble_eq_true rfl⟩ dX12_sureFrom_39) ?_
      refine lv_iand hx hb dX12_sureFrom_42 ?_
      refine top_i (y := 0) (and0 _) ?_
      refine lv_iload_n hx hb dX12_sureFrom_43 rfl (lv_at hl 2 rfl) ?_
      refine go_i (rn_V (As := [.int 0, .int k]) (rest := []) hx hb hml hown hts hK (m_soonest l J b u6 k ⟨by omega, by omega⟩ hs) kV_RX12_265 hP rfl rfl rfl ⟨Nat.le_of_ble_eq_true rfl, Nat.le_of_ble_eq_true rfl⟩ rfl rfl rfl hl.1 rfl (Nat.le_of_ble_eq_true rfl) ⟨Nat.le_of_ble_eq_true rfl, Nat.le_of_ble_eq_true rfl⟩ dX12_sureFrom_44) ?_
      exact wz_i () hx hb hr hlk (by unfold sp_sureFrom; (repeat' split) <;> first | rfl | (exfalso; omega)) (hP.sub (ws' := []) [] rfl) (hD.sub (ws' := []) [] (by decide) rfl) hS dX12_sureFrom_47
    · have j7 := b0 c4
      refine lv_iconst (v := (-1)) hx hb dX12_sureFrom_30 (by decide) ?_
      exact wz_i () hx hb hr hlk (by unfold sp_sureFrom; (repeat' split) <;> first | rfl | (exfalso; omega)) (hP.sub (ws' := []) [] rfl) (hD.sub (ws' := []) [] (by decide) rfl) hS dX12_sureFrom_31
