theorem dL_law_749 : decode cL_law 749 = .ok (.aload_n 1, 1) := by decide +kernel
theorem dL_law_750 : decode cL_law 750 = .ok (.aload_n 0, 1) := by decide +kernel
theorem dL_law_751 : decode cL_law 751 = .ok (.iload_n 3, 1) := by decide +kernel
theorem dL_law_752 : decode cL_law 752 = .ok (.iconst 1, 1) := by decide +kernel
theorem dL_law_753 : decode cL_law 753 = .ok (.iadd, 1) := by decide +kernel
theorem dL_law_754 : decode cL_law 754 = .ok (.iaload, 1) := by decide +kernel
theorem dL_law_755 : decode cL_law 755 = .ok (.aload_n 0, 1) := by decide +kernel
theorem dL_law_756 : decode cL_law 756 = .ok (.iload_n 3, 1) := by decide +kernel
theorem dL_law_757 : decode cL_law 757 = .ok (.iconst 2, 1) := by decide +kernel
theorem dL_law_758 : decode cL_law 758 = .ok (.iadd, 1) := by decide +kernel
theorem dL_law_759 : decode cL_law 759 = .ok (.iaload, 1) := by decide +kernel
theorem dL_law_760 : decode cL_law 760 = .ok (.aload_n 0, 1) := by decide +kernel
theorem dL_law_761 : decode cL_law 761 = .ok (.iload_n 3, 1) := by decide +kernel
theorem dL_law_762 : decode cL_law 762 = .ok (.iconst 3, 1) := by decide +kernel
theorem dL_law_763 : decode cL_law 763 = .ok (.iadd, 1) := by decide +kernel
theorem dL_law_764 : decode cL_law 764 = .ok (.iaload, 1) := by decide +kernel
theorem q_1000 : Cond.methodLink RL 98 yX11_luck ∈ lw_g := mem_q 1000 (by decide +kernel) rfl
theorem q_1001 : Cond.instanceMethod yX11_luck ∈ lw_g := mem_q 1001 (by decide +kernel) rfl
theorem q_1002 : Cond.selects RX11 yX11_luck yX11_luck ∈ lw_g := mem_q 1002 (by decide +kernel) rfl
theorem q_1003 : Cond.code yX11_luck cX11_luck 4 (some .long) ∈ lw_g := mem_q 1003 (by decide +kernel) rfl
theorem kV_RL_98 : CV RL 98 RX11 yX11_luck cX11_luck 4 (some .long) 3 := cv_of q_1000 q_1001 q_1002 q_103 q_1003 (by decide +kernel)
theorem dL_law_765 : decode cL_law 765 = .ok (.invokevirtual 98, 3) := by decide +kernel
theorem dL_law_768 : decode cL_law 768 = .ok (.aload_n 2, 1) := by decide +kernel
theorem dL_law_769 : decode cL_law 769 = .ok (.aload_n 0, 1) := by decide +kernel
theorem dL_law_770 : decode cL_law 770 = .ok (.iload_n 3, 1) := by decide +kernel
theorem dL_law_771 : decode cL_law 771 = .ok (.iconst 1, 1) := by decide +kernel
theorem dL_law_772 : decode cL_law 772 = .ok (.iadd, 1) := by decide +kernel
theorem dL_law_773 : decode cL_law 773 = .ok (.iaload, 1) := by decide +kernel
theorem dL_law_774 : decode cL_law 774 = .ok (.aload_n 0, 1) := by decide +kernel
theorem dL_law_775 : decode cL_law 775 = .ok (.iload_n 3, 1) := by decide +kernel
theorem dL_law_776 : decode cL_law 776 = .ok (.iconst 2, 1) := by decide +kernel
theorem dL_law_777 : decode cL_law 777 = .ok (.iadd, 1) := by decide +kernel
theorem dL_law_778 : decode cL_law 778 = .ok (.iaload, 1) := by decide +kernel
theorem dL_law_779 : decode cL_law 779 = .ok (.aload_n 0, 1) := by decide +kernel
theorem dL_law_780 : decode cL_law 780 = .ok (.iload_n 3, 1) := by decide +kernel
theorem dL_law_781 : decode cL_law 781 = .ok (.iconst 3, 1) := by decide +kernel
theorem dL_law_782 : decode cL_law 782 = .ok (.iadd, 1) := by decide +kernel
theorem dL_law_783 : decode cL_law 783 = .ok (.iaload, 1) := by decide +kernel
theorem q_1701 : Cond.methodLink RL 101 yX12_luck ∈ lw_g := mem_q 1701 (by decide +kernel) rfl
theorem q_1702 : Cond.instanceMethod yX12_luck ∈ lw_g := mem_q 1702 (by decide +kernel) rfl
theorem q_1703 : Cond.selects RX12 yX12_luck yX12_luck ∈ lw_g := mem_q 1703 (by decide +kernel) rfl
theorem q_1704 : Cond.code yX12_luck cX12_luck 4 (some .long) ∈ lw_g := mem_q 1704 (by decide +kernel) rfl
theorem kV_RL_101 : CV RL 101 RX12 yX12_luck cX12_luck 4 (some .long) 3 := cv_of q_1701 q_1702 q_1703 q_115 q_1704 (by decide +kernel)
theorem dL_law_784 : decode cL_law 784 = .ok (.invokevirtual 101, 3) := by decide +kernel
theorem dL_law_787 : decode cL_law 787 = .ok (.lcmp, 1) := by decide +kernel
theorem dL_law_788 : decode cL_law 788 = .ok (.ifCond .eq 625, 3) := by decide +kernel
set_option maxHeartbeats 4000000 in
set_option maxRecDepth 100000 in
/-- luck -/
theorem lk_20 {p : Program} {l : Launch} {e : Env} {s : State} {m : MethodId} {below : List Frame} {meth : Method} {c : Code} {b : Nat} {xs : Nat → Int32} {J : va_J9} {A : Nat → Prop} {H : Heap} {locs : List Loc} {ls : Array Slot} {a bb : Nat → Nat} {f : Nat → Option Nat} {g : Nat → Int32} (E0 : LE p s m meth c b 6 xs J A) (hfx : ∀ j, j < 6 → f j = some (a (41 + j))) (hg : ∀ k, k < 6 → g k = -1) (hP : va_P J.1 cls (xW J a f ++ mW J bb g) H) (hD : va_D A (xW J a f ++ mW J bb g)) (hS : va_S A s.heap H locs) (hl : lv_has ls 4 [(3, .int 0), (2, .ref (bb 0)), (1, .ref (a 0)), (0, .ref b)]) : W p l e room_1 s m #[Value.ref b] below meth c H locs 600000 7302250 (lw_Z below #[Value.ref b] s) (F0 m 749 ls []) := by
  obtain ⟨hx, hb, hr, hml, hown, hts, hX, hbl, hlk, hK, hA, hAs⟩ := id E0
  have hbA : ¬ A b := fun h => absurd (hAs b h) (Nat.not_le.mpr hbl)
  obtain ⟨x1, e1⟩ : ∃ z : Int32, z = xs 1 := ⟨_, rfl⟩
  obtain ⟨x2, e2⟩ : ∃ z : Int32, z = xs 2 := ⟨_, rfl⟩
  obtain ⟨x3, e3⟩ : ∃ z : Int32, z = xs 3 := ⟨_, rfl⟩
  have rg_x1 := i_rng x1
  have rg_x2 := i_rng x2
  have rg_x3 := i_rng x3
  by_cases hd : 0 ≤ x1.toInt ∧ x1.toInt ≤ 5
  · obtain ⟨sh, ce, hf, hP, hD⟩ := shx hfx hP hD hd
    refine lv_aload_n hx hb dL_law_749 rfl (lv_at hl 2 rfl) ?_
    refine lv_aload_n hx hb dL_law_750 rfl (lv_at hl 3 rfl) ?_
    refine lv_iload_n hx hb dL_law_751 rfl (lv_at hl 0 rfl) ?_
    refine lv_iconst (v := 1) hx hb dL_law_752 (by decide) ?_
    refine lv_iadd hx hb dL_law_753 ?_
    refine top_i (y := 1) (by decide) ?_
    refine va_sld hx hb hX hbl hbA hS (i_in (a := 1) (by decide) (by omega) (by omega)) dL_law_754 ?_
    refine top_i (y := x1) e1.symm ?_
    refine lv_aload_n hx hb dL_law_755 rfl (lv_at hl 3 rfl) ?_
    refine lv_iload_n hx hb dL_law_756 rfl (lv_at hl 0 rfl) ?_
    refine lv_iconst (v := 2) hx hb dL_law_757 (by decide) ?_
    refine lv_iadd hx hb dL_law_758 ?_
    refine top_i (y := 2) (by decide) ?_
    refine va_sld hx hb hX hbl hbA hS (i_in (a := 2) (by decide) (by omega) (by omega)) dL_law_759 ?_
    refine top_i (y := x2) e2.symm ?_
    refine lv_aload_n hx hb dL_law_760 rfl (lv_at hl 3 rfl) ?_
    refine lv_iload_n hx hb dL_law_761 rfl (lv_at hl 0 rfl) ?_
    refine lv_iconst (v := 3) hx hb dL_law_762 (by decide) ?_
    refine lv_iadd hx hb dL_law_763 ?_
    refine top_i (y := 3) (by decide) ?_
    refine va_sld hx hb hX hbl hbA hS (i_in (a := 3) (by decide) (by omega) (by omega)) dL_law_764 ?_
    refine top_i (y := x3) e3.symm ?_
    refine go_l (rn_V (As := [.int x1, .int x2, .int x3]) (rest := []) hx hb hml hown hts hK (c_luck_in l J a f sh ce x1 x2 x3 ⟨by omega, by omega⟩ hf) kV_RL_98 (hP.sub (ws' := [((a 0), .inr (11, [.ref (a 1), .ref (a 6), .ref (a 10), .ref (a 15), .ref (a 17), .ref (a 22), .ref (a 23), .ref (a 30), .ref (a 31), .ref (a 34), .int 0, .ref (a 37), .ref (a 40)])), ((a 40), .inl (J.2.2.2, 6, .inr (.inr (.inr (.inr f))))), (sh, .inr (9, [.ref ce, .int 0, .int 0, .int 0, .int 0]))]) [0, 1, 2] rfl) rfl rfl rfl ⟨Nat.le_of_ble_eq_true rfl, Nat.le_of_ble_eq_true rfl⟩ rfl rfl rfl hl.1 rfl (Nat.le_of_ble_eq_true rfl) ⟨Nat.le_of_ble_eq_true rfl, Nat.le_of_ble_eq_true rfl⟩ dL_law_765) ?_
    refine lv_aload_n hx hb dL_law_768 rfl (lv_at hl 1 rfl) ?_
    refine lv_aload_n hx hb dL_law_769 rfl (lv_at hl 3 rfl) ?_
    refine lv_iload_n hx hb dL_law_770 rfl (lv_at hl 0 rfl) ?_
    refine lv_iconst (v := 1) hx hb dL_law_771 (by decide) ?_
    refine lv_iadd hx hb dL_law_772 ?_
    refine top_i (y := 1) (by decide) ?_
    refine va_sld hx hb hX hbl hbA hS (i_in (a := 1) (by decide) (by omega) (by omega)) dL_law_773 ?_
    refine top_i (y := x1) e1.symm ?_
    refine lv_aload_n hx hb dL_law_774 rfl (lv_at hl 3 rfl) ?_
    refine lv_iload_n hx hb dL_law_775 rfl (lv_at hl 0 rfl) ?_
    refine lv_iconst (v := 2) hx hb dL_law_776 (by decide) ?_
    refine lv_iadd hx hb dL_law_777 ?_
    refine top_i (y := 2) (by decide) ?_
    refine va_sld hx hb hX hbl hbA hS (i_in (a := 2) (by decide) (by omega) (by omega)) dL_law_778 ?_
    refine top_i (y := x2) e2.symm ?_
    refine lv_aload_n hx hb dL_law_779 rfl (lv_at hl 3 rfl) ?_
    refine lv_iload_n hx hb dL_law_780 rfl (lv_at hl 0 rfl) ?_
    refine lv_iconst (v := 3) hx hb dL_law_781 (by decide) ?_
    refine lv_iadd hx hb dL_law_782 ?_
    refine top_i (y := 3) (by decide) ?_
    refine va_sld hx hb hX hbl hbA hS (i_in (a := 3) (by decide) (by omega) (by omega)) dL_law_783 ?_
    refine top_i (y := x3) e3.symm ?_
    refine go_l (rn_V (As := [.int x1, .int x2, .int x3]) (rest := [.long (-9223372036854775808)]) hx hb hml hown hts hK (m_luck l J bb g x1 x2 x3 hg) kV_RL_101 (hP.sub (ws' := [((bb 0), .inr (12, [.ref (bb 1), .ref (bb 2), .ref (bb 3), .ref (bb 4), .int 0, .int 0, .int 0, .int 0, .ref (bb 9), .ref (bb 10), .int 0, .ref (bb 12), .int (-1), .int 0, .int 0, .int 0, .int 0, .int 0, .ref (bb 19), .ref (bb 20), .ref (bb 21), .ref (bb 22), .ref (bb 23), .long 0, .long 0, .long 0, .ref (bb 27), .ref (bb 28), .ref (bb 29), .long 0, .int 0, .int (-1), .int 0, .int 0, .int 0, .ref (bb 36), .int 0, .int 0, .ref (bb 39), .ref (bb 40), .int 0, .ref (bb 42), .ref (bb 43), .int 0, .int 0, .int 0, .ref (bb 47), .ref (bb 48), .ref (bb 49), .ref (bb 50)])), ((bb 47), .inl (J.2.1, 6, .inl g))]) [5, 16] rfl) rfl rfl rfl ⟨Nat.le_of_ble_eq_true rfl, Nat.le_of_ble_eq_true rfl⟩ rfl rfl rfl hl.1 rfl (Nat.le_of_ble_eq_true rfl) ⟨Nat.le_of_ble_eq_true rfl, Nat.le_of_ble_eq_true rfl⟩ dL_law_784) ?_
    refine W.lcmp hx hb dL_law_787 ?_
    refine top_i (y := 0) (by decide) ?_
    refine lv_if_eq (tgt := 1413) hx hb dL_law_788 (by decide) (fun _ => ?_) (fun c => absurd c (by decide))
    exact law_end E0 hS (lv_sub hl [0, 1, 2, 3] rfl)
  · refine lv_aload_n hx hb dL_law_749 rfl (lv_at hl 2 rfl) ?_
    refine lv_aload_n hx hb dL_law_750 rfl (lv_at hl 3 rfl) ?_
    refine lv_iload_n hx hb dL_law_751 rfl (lv_at hl 0 rfl) ?_
    refine lv_iconst (v := 1) hx hb dL_law_752 (by decide) ?_
    refine lv_iadd hx hb dL_law_753 ?_
    refine top_i (y := 1) (by decide) ?_
    refine va_sld hx hb hX hbl hbA hS (i_in (a := 1) (by decide) (by omega) (by omega)) dL_law_754 ?_
    refine top_i (y := x1) e1.symm ?_
    refine lv_aload_n hx hb dL_law_755 rfl (lv_at hl 3 rfl) ?_
    refine lv_iload_n hx hb dL_law_756 rfl (lv_at hl 0 rfl) ?_
    refine lv_iconst (v := 2) hx hb dL_law_757 (by decide) ?_
    refine lv_iadd hx hb dL_law_758 ?_
    refine top_i (y := 2) (by decide) ?_
    refine va_sld hx hb hX hbl hbA hS (i_in (a := 2) (by decide) (by omega) (by omega)) dL_law_759 ?_
    refine top_i (y := x2) e2.symm ?_
    refine lv_aload_n hx hb dL_law_760 rfl (lv_at hl 3 rfl) ?_
    refine lv_iload_n hx hb dL_law_761 rfl (lv_at hl 0 rfl) ?_
    refine lv_iconst (v := 3) hx hb dL_law_762 (by decide) ?_
    refine lv_iadd hx hb dL_law_763 ?_
    refine top_i (y := 3) (by decide) ?_
    refine va_sld hx hb hX hbl hbA hS (i_in (a := 3) (by decide) (by omega) (by omega)) dL_law_764 ?_
    refine top_i (y := x3) e3.symm ?_
    refine go_l (rn_V (As := [.int x1, .int x2, .int x3]) (rest := []) hx hb hml hown hts hK (c_luck_out l J a x1 x2 x3 (by omega)) kV_RL_98 (hP.sub (ws' := [((a 0), .inr (11, [.ref (a 1), .ref (a 6), .ref (a 10), .ref (a 15), .ref (a 17), .ref (a 22), .ref (a 23), .ref (a 30), .ref (a 31), .ref (a 34), .int 0, .ref (a 37), .ref (a 40)]))]) [0] rfl) rfl rfl rfl ⟨Nat.le_of_ble_eq_true rfl, Nat.le_of_ble_eq_true rfl⟩ rfl rfl rfl hl.1 rfl (Nat.le_of_ble_eq_true rfl) ⟨Nat.le_of_ble_eq_true rfl, Nat.le_of_ble_eq_true rfl⟩ dL_law_765) ?_
    refine lv_aload_n hx hb dL_law_768 rfl (lv_at hl 1 rfl) ?_
    refine lv_aload_n hx hb dL_law_769 rfl (lv_at hl 3 rfl) ?_
    refine lv_iload_n hx hb dL_law_770 rfl (lv_at hl 0 rfl) ?_
    refine lv_iconst (v := 1) hx hb dL_law_771 (by decide) ?_
    refine lv_iadd hx hb dL_law_772 ?_
    refine top_i (y := 1) (by decide) ?_
    refine va_sld hx hb hX hbl hbA hS (i_in (a := 1) (by decide) (by omega) (by omega)) dL_law_773 ?_
    refine top_i (y := x1) e1.symm ?_
    refine lv_aload_n hx hb dL_law_774 rfl (lv_at hl 3 rfl) ?_
    refine lv_iload_n hx hb dL_law_775 rfl (lv_at hl 0 rfl) ?_
    refine lv_iconst (v := 2) hx hb dL_law_776 (by decide) ?_
    refine lv_iadd hx hb dL_law_777 ?_
    refine top_i (y := 2) (by decide) ?_
    refine va_sld hx hb hX hbl hbA hS (i_in (a := 2) (by decide) (by omega) (by omega)) dL_law_778 ?_
    refine top_i (y := x2) e2.symm ?_
    refine lv_aload_n hx hb dL_law_779 rfl (lv_at hl 3 rfl) ?_
    refine lv_iload_n hx hb dL_law_780 rfl (lv_at hl 0 rfl) ?_
    refine lv_iconst (v := 3) hx hb dL_law_781 (by decide) ?_
    refine lv_iadd hx hb dL_law_782 ?_
    refine top_i (y := 3) (by decide) ?_
    refine va_sld hx hb hX hbl hbA hS (i_in (a := 3) (by decide) (by omega) (by omega)) dL_law_783 ?_
    refine top_i (y := x3) e3.symm ?_
    refine go_l (rn_V (As := [.int x1, .int x2, .int x3]) (rest := [.long (-9223372036854775808)]) hx hb hml hown hts hK (m_luck l J bb g x1 x2 x3 hg) kV_RL_101 (hP.sub (ws' := [((bb 0), .inr (12, [.ref (bb 1), .ref (bb 2), .ref (bb 3), .ref (bb 4), .int 0, .int 0, .int 0, .int 0, .ref (bb 9), .ref (bb 10), .int 0, .ref (bb 12), .int (-1), .int 0, .int 0, .int 0, .int 0, .int 0, .ref (bb 19), .ref (bb 20), .ref (bb 21), .ref (bb 22), .ref (bb 23), .long 0, .long 0, .long 0, .ref (bb 27), .ref (bb 28), .ref (bb 29), .long 0, .int 0, .int (-1), .int 0, .int 0, .int 0, .ref (bb 36), .int 0, .int 0, .ref (bb 39), .ref (bb 40), .int 0, .ref (bb 42), .ref (bb 43), .int 0, .int 0, .int 0, .ref (bb 47), .ref (bb 48), .ref (bb 49), .ref (bb 50)])), ((bb 47), .inl (J.2.1, 6, .inl g))]) [39, 50] rfl) rfl rfl rfl ⟨Nat.le_of_ble_eq_true rfl, Nat.le_of_ble_eq_true rfl⟩ rfl rfl rfl hl.1 rfl (Nat.le_of_ble_eq_true rfl) ⟨Nat.le_of_ble_eq_true rfl, Nat.le_of_ble_eq_true rfl⟩ dL_law_784) ?_
    refine W.lcmp hx hb dL_law_787 ?_
    refine top_i (y := 0) (by decide) ?_
    refine lv_if_eq (tgt := 1413) hx hb dL_law_788 (by decide) (fun _ => ?_) (fun c => absurd c (by decide))
    exact law_end E0 hS (lv_sub hl [0, 1, 2, 3] rfl)
theorem dL_law_793 : decode cL_law 793 = .ok (.aload_n 1, 1) := by decide +kernel
theorem dL_law_794 : decode cL_law 794 = .ok (.aload_n 0, 1) := by decide +kernel
theorem dL_law_795 : decode cL_law 795 = .ok (.iload_n 3, 1) := by decide +kernel
theorem dL_law_796 : decode cL_law 796 = .ok (.iconst 1, 1) := by decide +kernel
theorem dL_law_797 : decode cL_law 797 = .ok (.iadd, 1) := by decide +kernel
theorem dL_law_798 : decode cL_law 798 = .ok (.iaload, 1) := by decide +kernel
theorem dL_law_799 : decode cL_law 799 = .ok (.aload_n 0, 1) := by decide +kernel
theorem dL_law_800 : decode cL_law 800 = .ok (.iload_n 3, 1) := by decide +kernel
theorem dL_law_801 : decode cL_law 801 = .ok (.iconst 2, 1) := by decide +kernel
theorem dL_law_802 : decode cL_law 802 = .ok (.iadd, 1) := by decide +kernel
theorem dL_law_803 : decode cL_law 803 = .ok (.iaload, 1) := by decide +kernel
theorem dL_law_804 : decode cL_law 804 = .ok (.aload_n 0, 1) := by decide +kernel
theorem dL_law_805 : decode cL_law 805 = .ok (.iload_n 3, 1) := by decide +kernel
theorem dL_law_806 : decode cL_law 806 = .ok (.iconst 3, 1) := by decide +kernel
theorem dL_law_807 : decode cL_law 807 = .ok (.iadd, 1) := by decide +kernel
theorem dL_law_808 : decode cL_law 808 = .ok (.iaload, 1) := by decide +kernel
theorem q_1008 : Cond.methodLink RL 102 yX11_mean ∈ lw_g := mem_q 1008 (by decide +kernel) rfl
theorem q_1009 : Cond.instanceMethod yX11_mean ∈ lw_g := mem_q 1009 (by decide +kernel) rfl
theorem q_1010 : Cond.selects RX11 yX11_mean yX11_mean ∈ lw_g := mem_q 1010 (by decide +kernel) rfl
theorem q_1011 : Cond.code yX11_mean cX11_mean 4 (some .long) ∈ lw_g := mem_q 1011 (by decide +kernel) rfl
theorem kV_RL_102 : CV RL 102 RX11 yX11_mean cX11_mean 4 (some .long) 3 := cv_of q_1008 q_1009 q_1010 q_103 q_1011 (by decide +kernel)
theorem dL_law_809 : decode cL_law 809 = .ok (.invokevirtual 102, 3) := by decide +kernel
theorem dL_law_812 : decode cL_law 812 = .ok (.aload_n 2, 1) := by decide +kernel
theorem dL_law_813 : decode cL_law 813 = .ok (.aload_n 0, 1) := by decide +kernel
theorem dL_law_814 : decode cL_law 814 = .ok (.iload_n 3, 1) := by decide +kernel
theorem dL_law_815 : decode cL_law 815 = .ok (.iconst 1, 1) := by decide +kernel
theorem dL_law_816 : decode cL_law 816 = .ok (.iadd, 1) := by decide +kernel
theorem dL_law_817 : decode cL_law 817 = .ok (.iaload, 1) := by decide +kernel
theorem dL_law_818 : decode cL_law 818 = .ok (.aload_n 0, 1) := by decide +kernel
theorem dL_law_819 : decode cL_law 819 = .ok (.iload_n 3, 1) := by decide +kernel
theorem dL_law_820 : decode cL_law 820 = .ok (.iconst 2, 1) := by decide +kernel
theorem dL_law_821 : decode cL_law 821 = .ok (.iadd, 1) := by decide +kernel
theorem dL_law_822 : decode cL_law 822 = .ok (.iaload, 1) := by decide +kernel
theorem dL_law_823 : decode cL_law 823 = .ok (.aload_n 0, 1) := by decide +kernel
theorem dL_law_824 : decode cL_law 824 = .ok (.iload_n 3, 1) := by decide +kernel
theorem dL_law_825 : decode cL_law 825 = .ok (.iconst 3, 1) := by decide +kernel
theorem dL_law_826 : decode cL_law 826 = .ok (.iadd, 1) := by decide +kernel
theorem dL_law_827 : decode cL_law 827 = .ok (.iaload, 1) := by decide +kernel
theorem q_1709 : Cond.methodLink RL 105 yX12_mean ∈ lw_g := mem_q 1709 (by decide +kernel) rfl
theorem q_1710 : Cond.instanceMethod yX12_mean ∈ lw_g := mem_q 1710 (by decide +kernel) rfl
theorem q_1711 : Cond.selects RX12 yX12_mean yX12_mean ∈ lw_g := mem_q 1711 (by decide +kernel) rfl
theorem q_1712 : Cond.code yX12_mean cX12_mean 4 (some .long) ∈ lw_g := mem_q 1712 (by decide +kernel) rfl
theorem kV_RL_105 : CV RL 105 RX12 yX12_mean cX12_mean 4 (some .long) 3 := cv_of q_1709 q_1710 q_1711 q_115 q_1712 (by decide +kernel)
theorem dL_law_828 : decode cL_law 828 = .ok (.invokevirtual 105, 3) := by decide +kernel
theorem dL_law_831 : decode cL_law 831 = .ok (.lcmp, 1) := by decide +kernel
theorem dL_law_832 : decode cL_law 832 = .ok (.ifCond .eq 581, 3) := by decide +kernel
set_option maxHeartbeats 4000000 in
set_option maxRecDepth 100000 in
/-- mean -/
theorem lk_21 {p : Program} {l : Launch} {e : Env} {s : State} {m : MethodId} {below : List Frame} {meth : Method} {c : Code} {b : Nat} {xs : Nat → Int32} {J : va_J9} {A : Nat → Prop} {H : Heap} {locs : List Loc} {ls : Array Slot} {a bb : Nat → Nat} {f : Nat → Option Nat} {g : Nat → Int32} (E0 : LE p s m meth c b 6 xs J A) (hfx : ∀ j, j < 6 → f j = some (a (41 + j))) (hg : ∀ k, k < 6 → g k = -1) (hP : va_P J.1 cls (xW J a f ++ mW J bb g) H) (hD : va_D A (xW J a f ++ mW J bb g)) (hS : va_S A s.heap H locs) (hl : lv_has ls 4 [(3, .int 0), (2, .ref (bb 0)), (1, .ref (a 0)), (0, .ref b)]) : W p l e room_1 s m #[Value.ref b] below meth c H locs 600000 7302250 (lw_Z below #[Value.ref b] s) (F0 m 793 ls []) := by
  obtain ⟨hx, hb, hr, hml, hown, hts, hX, hbl, hlk, hK, hA, hAs⟩ := id E0
  have hbA : ¬ A b := fun h => absurd (hAs b h) (Nat.not_le.mpr hbl)
  obtain ⟨x1, e1⟩ : ∃ z : Int32, z = xs 1 := ⟨_, rfl⟩
  obtain ⟨x2, e2⟩ : ∃ z : Int32, z = xs 2 := ⟨_, rfl⟩
  obtain ⟨x3, e3⟩ : ∃ z : Int32, z = xs 3 := ⟨_, rfl⟩
  have rg_x1 := i_rng x1
  have rg_x2 := i_rng x2
  have rg_x3 := i_rng x3
  by_cases hd : 0 ≤ x1.toInt ∧ x1.toInt ≤ 5
  · obtain ⟨sh, ce, hf, hP, hD⟩ := shx hfx hP hD hd
    refine lv_aload_n hx hb dL_law_793 rfl (lv_at hl 2 rfl) ?_
    refine lv_aload_n hx hb dL_law_794 rfl (lv_at hl 3 rfl) ?_
    refine lv_iload_n hx hb dL_law_795 rfl (lv_at hl 0 rfl) ?_
    refine lv_iconst (v := 1) hx hb dL_law_796 (by decide) ?_
    refine lv_iadd hx hb dL_law_797 ?_
    refine top_i (y := 1) (by decide) ?_
    refine va_sld hx hb hX hbl hbA hS (i_in (a := 1) (by decide) (by omega) (by omega)) dL_law_798 ?_
    refine top_i (y := x1) e1.symm ?_
    refine lv_aload_n hx hb dL_law_799 rfl (lv_at hl 3 rfl) ?_
    refine lv_iload_n hx hb dL_law_800 rfl (lv_at hl 0 rfl) ?_
    refine lv_iconst (v := 2) hx hb dL_law_801 (by decide) ?_
    refine lv_iadd hx hb dL_law_802 ?_
    refine top_i (y := 2) (by decide) ?_
    refine va_sld hx hb hX hbl hbA hS (i_in (a := 2) (by decide) (by omega) (by omega)) dL_law_803 ?_
    refine top_i (y := x2) e2.symm ?_
    refine lv_aload_n hx hb dL_law_804 rfl (lv_at hl 3 rfl) ?_
    refine lv_iload_n hx hb dL_law_805 rfl (lv_at hl 0 rfl) ?_
    refine lv_iconst (v := 3) hx hb dL_law_806 (by decide) ?_
    refine lv_iadd hx hb dL_law_807 ?_
    refine top_i (y := 3) (by decide) ?_
    refine va_sld hx hb hX hbl hbA hS (i_in (a := 3) (by decide) (by omega) (by omega)) dL_law_808 ?_
    refine top_i (y := x3) e3.symm ?_
    refine go_l (rn_V (As := [.int x1, .int x2, .int x3]) (rest := []) hx hb hml hown hts hK (c_mean_in l J a f sh ce x1 x2 x3 ⟨by omega, by omega⟩ hf) kV_RL_102 (hP.sub (ws' := [((a 0), .inr (11, [.ref (a 1), .ref (a 6), .ref (a 10), .ref (a 15), .ref (a 17), .ref (a 22), .ref (a 23), .ref (a 30), .ref (a 31), .ref (a 34), .int 0, .ref (a 37), .ref (a 40)])), ((a 40), .inl (J.2.2.2, 6, .inr (.inr (.inr (.inr f))))), (sh, .inr (9, [.ref ce, .int 0, .int 0, .int 0, .int 0]))]) [0, 1, 2] rfl) rfl rfl rfl ⟨Nat.le_of_ble_eq_true rfl, Nat.le_of_ble_eq_true rfl⟩ rfl rfl rfl hl.1 rfl (Nat.le_of_ble_eq_true rfl) ⟨Nat.le_of_ble_eq_true rfl, Nat.le_of_ble_eq_true rfl⟩ dL_law_809) ?_
    refine lv_aload_n hx hb dL_law_812 rfl (lv_at hl 1 rfl) ?_
    refine lv_aload_n hx hb dL_law_813 rfl (lv_at hl 3 rfl) ?_
    refine lv_iload_n hx hb dL_law_814 rfl (lv_at hl 0 rfl) ?_
    refine lv_iconst (v := 1) hx hb dL_law_815 (by decide) ?_
    refine lv_iadd hx hb dL_law_816 ?_
    refine top_i (y := 1) (by decide) ?_
    refine va_sld hx hb hX hbl hbA hS (i_in (a := 1) (by decide) (by omega) (by omega)) dL_law_817 ?_
    refine top_i (y := x1) e1.symm ?_
    refine lv_aload_n hx hb dL_law_818 rfl (lv_at hl 3 rfl) ?_
    refine lv_iload_n hx hb dL_law_819 rfl (lv_at hl 0 rfl) ?_
    refine lv_iconst (v := 2) hx hb dL_law_820 (by decide) ?_
    refine lv_iadd hx hb dL_law_821 ?_
    refine top_i (y := 2) (by decide) ?_
    refine va_sld hx hb hX hbl hbA hS (i_in (a := 2) (by decide) (by omega) (by omega)) dL_law_822 ?_
    refine top_i (y := x2) e2.symm ?_
    refine lv_aload_n hx hb dL_law_823 rfl (lv_at hl 3 rfl) ?_
    refine lv_iload_n hx hb dL_law_824 rfl (lv_at hl 0 rfl) ?_
    refine lv_iconst (v := 3) hx hb dL_law_825 (by decide) ?_
    refine lv_iadd hx hb dL_law_826 ?_
    refine top_i (y := 3) (by decide) ?_
    refine va_sld hx hb hX hbl hbA hS (i_in (a := 3) (by decide) (by omega) (by omega)) dL_law_827 ?_
    refine top_i (y := x3) e3.symm ?_
    refine go_l (rn_V (As := [.int x1, .int x2, .int x3]) (rest := [.long (-9223372036854775808)]) hx hb hml hown hts hK (m_mean l J bb g x1 x2 x3 hg) kV_RL_105 (hP.sub (ws' := [((bb 0), .inr (12, [.ref (bb 1), .ref (bb 2), .ref (bb 3), .ref (bb 4), .int 0, .int 0, .int 0, .int 0, .ref (bb 9), .ref (bb 10), .int 0, .ref (bb 12), .int (-1), .int 0, .int 0, .int 0, .int 0, .int 0, .ref (bb 19), .ref (bb 20), .ref (bb 21), .ref (bb 22), .ref (bb 23), .long 0, .long 0, .long 0, .ref (bb 27), .ref (bb 28), .ref (bb 29), .long 0, .int 0, .int (-1), .int 0, .int 0, .int 0, .ref (bb 36), .int 0, .int 0, .ref (bb 39), .ref (bb 40), .int 0, .ref (bb 42), .ref (bb 43), .int 0, .int 0, .int 0, .ref (bb 47), .ref (bb 48), .ref (bb 49), .ref (bb 50)])), ((bb 47), .inl (J.2.1, 6, .inl g))]) [5, 16] rfl) rfl rfl rfl ⟨Nat.le_of_ble_eq_true rfl, Nat.le_of_ble_eq_true rfl⟩ rfl rfl rfl hl.1 rfl (Nat.le_of_ble_eq_true rfl) ⟨Nat.le_of_ble_eq_true rfl, Nat.le_of_ble_eq_true rfl⟩ dL_law_828) ?_
    refine W.lcmp hx hb dL_law_831 ?_
    refine top_i (y := 0) (by decide) ?_
    refine lv_if_eq (tgt := 1413) hx hb dL_law_832 (by decide) (fun _ => ?_) (fun c => absurd c (by decide))
    exact law_end E0 hS (lv_sub hl [0, 1, 2, 3] rfl)
  · refine lv_aload_n hx hb dL_law_793 rfl (lv_at hl 2 rfl) ?_
    refine lv_aload_n hx hb dL_law_794 rfl (lv_at hl 3 rfl) ?_
    refine lv_iload_n hx hb dL_law_795 rfl (lv_at hl 0 rfl) ?_
    refine lv_iconst (v := 1) hx hb dL_law_796 (by decide) ?_
    refine lv_iadd hx hb dL_law_797 ?_
    refine top_i (y := 1) (by decide) ?_
    refine va_sld hx hb hX hbl hbA hS (i_in (a := 1) (by decide) (by omega) (by omega)) dL_law_798 ?_
    refine top_i (y := x1) e1.symm ?_
    refine lv_aload_n hx hb dL_law_799 rfl (lv_at hl 3 rfl) ?_
    refine lv_iload_n hx hb dL_law_800 rfl (lv_at hl 0 rfl) ?_
    refine lv_iconst (v := 2) hx hb dL_law_801 (by decide) ?_
    refine lv_iadd hx hb dL_law_802 ?_
    refine top_i (y := 2) (by decide) ?_
    refine va_sld hx hb hX hbl hbA hS (i_in (a := 2) (by decide) (by omega) (by omega)) dL_law_803 ?_
    refine top_i (y := x2) e2.symm ?_
    refine lv_aload_n hx hb dL_law_804 rfl (lv_at hl 3 rfl) ?_
    refine lv_iload_n hx hb dL_law_805 rfl (lv_at hl 0 rfl) ?_
    refine lv_iconst (v := 3) hx hb dL_law_806 (by decide) ?_
    refine lv_iadd hx hb dL_law_807 ?_
    refine top_i (y := 3) (by decide) ?_
    refine va_sld hx hb hX hbl hbA hS (i_in (a := 3) (by decide) (by omega) (by omega)) dL_law_808 ?_
    refine top_i (y := x3) e3.symm ?_
    refine go_l (rn_V (As := [.int x1, .int x2, .int x3]) (rest := []) hx hb hml hown hts hK (c_mean_out l J a x1 x2 x3 (by omega)) kV_RL_102 (hP.sub (ws' := [((a 0), .inr (11, [.ref (a 1), .ref (a 6), .ref (a 10), .ref (a 15), .ref (a 17), .ref (a 22), .ref (a 23), .ref (a 30), .ref (a 31), .ref (a 34), .int 0, .ref (a 37), .ref (a 40)]))]) [0] rfl) rfl rfl rfl ⟨Nat.le_of_ble_eq_true rfl, Nat.le_of_ble_eq_true rfl⟩ rfl rfl rfl hl.1 rfl (Nat.le_of_ble_eq_true rfl) ⟨Nat.le_of_ble_eq_true rfl, Nat.le_of_ble_eq_true rfl⟩ dL_law_809) ?_
    refine lv_aload_n hx hb dL_law_812 rfl (lv_at hl 1 rfl) ?_
    refine lv_aload_n hx hb dL_law_813 rfl (lv_at hl 3 rfl) ?_
    refine lv_iload_n hx hb dL_law_814 rfl (lv_at hl 0 rfl) ?_
    refine lv_iconst (v := 1) hx hb dL_law_815 (by decide) ?_
    refine lv_iadd hx hb dL_law_816 ?_
    refine top_i (y := 1) (by decide) ?_
    refine va_sld hx hb hX hbl hbA hS (i_in (a := 1) (by decide) (by omega) (by omega)) dL_law_817 ?_
    refine top_i (y := x1) e1.symm ?_
    refine lv_aload_n hx hb dL_law_818 rfl (lv_at hl 3 rfl) ?_
    refine lv_iload_n hx hb dL_law_819 rfl (lv_at hl 0 rfl) ?_
    refine lv_iconst (v := 2) hx hb dL_law_820 (by decide) ?_
    refine lv_iadd hx hb dL_law_821 ?_
    refine top_i (y := 2) (by decide) ?_
    refine va_sld hx hb hX hbl hbA hS (i_in (a := 2) (by decide) (by omega) (by omega)) dL_law_822 ?_
    refine top_i (y := x2) e2.symm ?_
    refine lv_aload_n hx hb dL_law_823 rfl (lv_at hl 3 rfl) ?_
    refine lv_iload_n hx hb dL_law_824 rfl (lv_at hl 0 rfl) ?_
    refine lv_iconst (v := 3) hx hb dL_law_825 (by decide) ?_
    refine lv_iadd hx hb dL_law_826 ?_
    refine top_i (y := 3) (by decide) ?_
    refine va_sld hx hb hX hbl hbA hS (i_in (a := 3) (by decide) (by omega) (by omega)) dL_law_827 ?_
    refine top_i (y := x3) e3.symm ?_
    refine go_l (rn_V (As := [.int x1, .int x2, .int x3]) (rest := [.long (-9223372036854775808)]) hx hb hml hown hts hK (m_mean l J bb g x1 x2 x3 hg) kV_RL_105 (hP.sub (ws' := [((bb 0), .inr (12, [.ref (bb 1), .ref (bb 2), .ref (bb 3), .ref (bb 4), .int 0, .int 0, .int 0, .int 0, .ref (bb 9), .ref (bb 10), .int 0, .ref (bb 12), .int (-1), .int 0, .int 0, .int 0, .int 0, .int 0, .ref (bb 19), .ref (bb 20), .ref (bb 21), .ref (bb 22), .ref (bb 23), .long 0, .long 0, .long 0, .ref (bb 27), .ref (bb 28), .ref (bb 29), .long 0, .int 0, .int (-1), .int 0, .int 0, .int 0, .ref (bb 36), .int 0, .int 0, .ref (bb 39), .ref (bb 40), .int 0, .ref (bb 42), .ref (bb 43), .int 0, .int 0, .int 0, .ref (bb 47), .ref (bb 48), .ref (bb 49), .ref (bb 50)])), ((bb 47), .inl (J.2.1, 6, .inl g))]) [39, 50] rfl) rfl rfl rfl ⟨Nat.le_of_ble_eq_true rfl, Nat.le_of_ble_eq_true rfl⟩ rfl rfl rfl hl.1 rfl (Nat.le_of_ble_eq_true rfl) ⟨Nat.le_of_ble_eq_true rfl, Nat.le_of_ble_eq_true rfl⟩ dL_law_828) ?_
    refine W.lcmp hx hb dL_law_831 ?_
    refine top_i (y := 0) (by decide) ?_
    refine lv_if_eq (tgt := 1413) hx hb dL_law_832 (by decide) (fun _ => ?_) (fun c => absurd c (by decide))
    exact law_end E0 hS (lv_sub hl [0, 1, 2, 3] rfl)
theorem dL_law_837 : decode cL_law 837 = .ok (.aload_n 1, 1) := by decide +kernel
theorem dL_law_838 : decode cL_law 838 = .ok (.aload_n 0, 1) := by decide +kernel
theorem dL_law_839 : decode cL_law 839 = .ok (.iload_n 3, 1) := by decide +kernel
theorem dL_law_840 : decode cL_law 840 = .ok (.iconst 1, 1) := by decide +kernel
theorem dL_law_841 : decode cL_law 841 = .ok (.iadd, 1) := by decide +kernel
theorem dL_law_842 : decode cL_law 842 = .ok (.iaload, 1) := by decide +kernel
theorem dL_law_843 : decode cL_law 843 = .ok (.aload_n 0, 1) := by decide +kernel
theorem dL_law_844 : decode cL_law 844 = .ok (.iload_n 3, 1) := by decide +kernel
theorem dL_law_845 : decode cL_law 845 = .ok (.iconst 2, 1) := by decide +kernel
theorem dL_law_846 : decode cL_law 846 = .ok (.iadd, 1) := by decide +kernel
theorem dL_law_847 : decode cL_law 847 = .ok (.iaload, 1) := by decide +kernel
theorem q_1016 : Cond.methodLink RL 106 yX11_luckiest ∈ lw_g := mem_q 1016 (by decide +kernel) rfl
theorem q_1017 : Cond.instanceMethod yX11_luckiest ∈ lw_g := mem_q 1017 (by decide +kernel) rfl
theorem q_1018 : Cond.selects RX11 yX11_luckiest yX11_luckiest ∈ lw_g := mem_q 1018 (by decide +kernel) rfl
theorem q_1019 : Cond.code yX11_luckiest cX11_luckiest 3 (some .long) ∈ lw_g := mem_q 1019 (by decide +kernel) rfl
theorem kV_RL_106 : CV RL 106 RX11 yX11_luckiest cX11_luckiest 3 (some .long) 2 := cv_of q_1016 q_1017 q_1018 q_103 q_1019 (by decide +kernel)
theorem dL_law_848 : decode cL_law 848 = .ok (.invokevirtual 106, 3) := by decide +kernel
theorem dL_law_851 : decode cL_law 851 = .ok (.aload_n 2, 1) := by decide +kernel
theorem dL_law_852 : decode cL_law 852 = .ok (.aload_n 0, 1) := by decide +kernel
theorem dL_law_853 : decode cL_law 853 = .ok (.iload_n 3, 1) := by decide +kernel
theorem dL_law_854 : decode cL_law 854 = .ok (.iconst 1, 1) := by decide +kernel
theorem dL_law_855 : decode cL_law 855 = .ok (.iadd, 1) := by decide +kernel
theorem dL_law_856 : decode cL_law 856 = .ok (.iaload, 1) := by decide +kernel
theorem dL_law_857 : decode cL_law 857 = .ok (.aload_n 0, 1) := by decide +kernel
theorem dL_law_858 : decode cL_law 858 = .ok (.iload_n 3, 1) := by decide +kernel
theorem dL_law_859 : decode cL_law 859 = .ok (.iconst 2, 1) := by decide +kernel
theorem dL_law_860 : decode cL_law 860 = .ok (.iadd, 1) := by decide +kernel
theorem dL_law_861 : decode cL_law 861 = .ok (.iaload, 1) := by decide +kernel
theorem q_1713 : Cond.methodLink RL 110 yX12_luckiest ∈ lw_g := mem_q 1713 (by decide +kernel) rfl
theorem q_1714 : Cond.instanceMethod yX12_luckiest ∈ lw_g := mem_q 1714 (by decide +kernel) rfl
theorem q_1715 : Cond.selects RX12 yX12_luckiest yX12_luckiest ∈ lw_g := mem_q 1715 (by decide +kernel) rfl
theorem q_1716 : Cond.code yX12_luckiest cX12_luckiest 6 (some .long) ∈ lw_g := mem_q 1716 (by decide +kernel) rfl
theorem kV_RL_110 : CV RL 110 RX12 yX12_luckiest cX12_luckiest 6 (some .long) 2 := cv_of q_1713 q_1714 q_1715 q_115 q_1716 (by decide +kernel)
theorem dL_law_862 : decode cL_law 862 = .ok (.invokevirtual 110, 3) := by decide +kernel
theorem dL_law_865 : decode cL_law 865 = .ok (.lcmp, 1) := by decide +kernel
theorem dL_law_866 : decode cL_law 866 = .ok (.ifCond .eq 547, 3) := by decide +kernel
set_option maxHeartbeats 4000000 in
set_option maxRecDepth 100000 in
/-- luckiest -/
theorem lk_22 {p : Program} {l : Launch} {e : Env} {s : State} {m : MethodId} {below : List Frame} {meth : Method} {c : Code} {b : Nat} {xs : Nat → Int32} {J : va_J9} {A : Nat → Prop} {H : Heap} {locs : List Loc} {ls : Array Slot} {a bb : Nat → Nat} {f : Nat → Option Nat} {g : Nat → Int32} (E0 : LE p s m meth c b 6 xs J A) (hfx : ∀ j, j < 6 → f j = some (a (41 + j))) (hg : ∀ k, k < 6 → g k = -1) (hP : va_P J.1 cls (xW J a f ++ mW J bb g) H) (hD : va_D A (xW J a f ++ mW J bb g)) (hS : va_S A s.heap H locs) (hl : lv_has ls 4 [(3, .int 0), (2, .ref (bb 0)), (1, .ref (a 0)), (0, .ref b)]) : W p l e room_1 s m #[Value.ref b] below meth c H locs 600000 7302250 (lw_Z below #[Value.ref b] s) (F0 m 837 ls []) := by
  obtain ⟨hx, hb, hr, hml, hown, hts, hX, hbl, hlk, hK, hA, hAs⟩ := id E0
  have hbA : ¬ A b := fun h => absurd (hAs b h) (Nat.not_le.mpr hbl)
  obtain ⟨x1, e1⟩ : ∃ z : Int32, z = xs 1 := ⟨_, rfl⟩
  obtain ⟨x2, e2⟩ : ∃ z : Int32, z = xs 2 := ⟨_, rfl⟩
  have rg_x1 := i_rng x1
  have rg_x2 := i_rng x2
  refine lv_aload_n hx hb dL_law_837 rfl (lv_at hl 2 rfl) ?_
  refine lv_aload_n hx hb dL_law_838 rfl (lv_at hl 3 rfl) ?_
  refine lv_iload_n hx hb dL_law_839 rfl (lv_at hl 0 rfl) ?_
  refine lv_iconst (v := 1) hx hb dL_law_840 (by decide) ?_
  refine lv_iadd hx hb dL_law_841 ?_
  refine top_i (y := 1) (by decide) ?_
  refine va_sld hx hb hX hbl hbA hS (i_in (a := 1) (by decide) (by omega) (by omega)) dL_law_842 ?_
  refine top_i (y := x1) e1.symm ?_
  refine lv_aload_n hx hb dL_law_843 rfl (lv_at hl 3 rfl) ?_
  refine lv_iload_n hx hb dL_law_844 rfl (lv_at hl 0 rfl) ?_
  refine lv_iconst (v := 2) hx hb dL_law_845 (by decide) ?_
  refine lv_iadd hx hb dL_law_846 ?_
  refine top_i (y := 2) (by decide) ?_
  refine va_sld hx hb hX hbl hbA hS (i_in (a := 2) (by decide) (by omega) (by omega)) dL_law_847 ?_
  refine top_i (y := x2) e2.symm ?_
  refine go_l (rn_V (As := [.int x1, .int x2]) (rest := []) hx hb hml hown hts hK (c_luckiest l J a x1 x2) kV_RL_106 (hP.sub (ws' := [((a 0), .inr (11, [.ref (a 1), .ref (a 6), .ref (a 10), .ref (a 15), .ref (a 17), .ref (a 22), .ref (a 23), .ref (a 30), .ref (a 31), .ref (a 34), .int 0, .ref (a 37), .ref (a 40)])), ((a 23), .inr (1, [.ref (a 6), .ref (a 15), .ref (a 24), .ref (a 25), .ref (a 26), .ref (a 27), .long 0, .long 0, .long 0, .ref (a 28), .ref (a 29), .long 0, .int 0, .int (-1)])), ((a 6), .inr (10, [.ref (a 1), .ref (a 7), .ref (a 8), .ref (a 9), .int 0, .int 0, .int 0, .int 0, .int 1, .int 0, .int 0]))]) [0, 17, 4] rfl) rfl rfl rfl ⟨Nat.le_of_ble_eq_true rfl, Nat.le_of_ble_eq_true rfl⟩ rfl rfl rfl hl.1 rfl (Nat.le_of_ble_eq_true rfl) ⟨Nat.le_of_ble_eq_true rfl, Nat.le_of_ble_eq_true rfl⟩ dL_law_848) ?_
  refine lv_aload_n hx hb dL_law_851 rfl (lv_at hl 1 rfl) ?_
  refine lv_aload_n hx hb dL_law_852 rfl (lv_at hl 3 rfl) ?_
  refine lv_iload_n hx hb dL_law_853 rfl (lv_at hl 0 rfl) ?_
  refine lv_iconst (v := 1) hx hb dL_law_854 (by decide) ?_
  refine lv_iadd hx hb dL_law_855 ?_
  refine top_i (y := 1) (by decide) ?_
  refine va_sld hx hb hX hbl hbA hS (i_in (a := 1) (by decide) (by omega) (by omega)) dL_law_856 ?_
  refine top_i (y := x1) e1.symm ?_
  refine lv_aload_n hx hb dL_law_857 rfl (lv_at hl 3 rfl) ?_
  refine lv_iload_n hx hb dL_law_858 rfl (lv_at hl 0 rfl) ?_
  refine lv_iconst (v := 2) hx hb dL_law_859 (by decide) ?_
  refine lv_iadd hx hb dL_law_860 ?_
  refine top_i (y := 2) (by decide) ?_
  refine va_sld hx hb hX hbl hbA hS (i_in (a := 2) (by decide) (by omega) (by omega)) dL_law_861 ?_
  refine top_i (y := x2) e2.symm ?_
  refine go_l (rn_V (As := [.int x1, .int x2]) (rest := [.long (sp_luckiest (x1.toInt) (x2.toInt))]) hx hb hml hown hts hK (m_luckiest l J bb x1 x2) kV_RL_110 (hP.sub (ws' := [((bb 0), .inr (12, [.ref (bb 1), .ref (bb 2), .ref (bb 3), .ref (bb 4), .int 0, .int 0, .int 0, .int 0, .ref (bb 9), .ref (bb 10), .int 0, .ref (bb 12), .int (-1), .int 0, .int 0, .int 0, .int 0, .int 0, .ref (bb 19), .ref (bb 20), .ref (bb 21), .ref (bb 22), .ref (bb 23), .long 0, .long 0, .long 0, .ref (bb 27), .ref (bb 28), .ref (bb 29), .long 0, .int 0, .int (-1), .int 0, .int 0, .int 0, .ref (bb 36), .int 0, .int 0, .ref (bb 39), .ref (bb 40), .int 0, .ref (bb 42), .ref (bb 43), .int 0, .int 0, .int 0, .ref (bb 47), .ref (bb 48), .ref (bb 49), .ref (bb 50)]))]) [39] rfl) rfl rfl rfl ⟨Nat.le_of_ble_eq_true rfl, Nat.le_of_ble_eq_true rfl⟩ rfl rfl rfl hl.1 rfl (Nat.le_of_ble_eq_true rfl) ⟨Nat.le_of_ble_eq_true rfl, Nat.le_of_ble_eq_true rfl⟩ dL_law_862) ?_
  refine W.lcmp hx hb dL_law_865 ?_
  refine top_i (y := 0) (lg_self _) ?_
  refine lv_if_eq (tgt := 1413) hx hb dL_law_866 (by decide) (fun _ => ?_) (fun c => absurd c (by decide))
  exact law_end E0 hS (lv_sub hl [0, 1, 2, 3] rfl)
theorem dL_law_871 : decode cL_law 871 = .ok (.aload_n 1, 1) := by decide +kernel
theorem dL_law_872 : decode cL_law 872 = .ok (.aload_n 0, 1) := by decide +kernel
theorem dL_law_873 : decode cL_law 873 = .ok (.iload_n 3, 1) := by decide +kernel
theorem dL_law_874 : decode cL_law 874 = .ok (.iconst 1, 1) := by decide +kernel
theorem dL_law_875 : decode cL_law 875 = .ok (.iadd, 1) := by decide +kernel
theorem dL_law_876 : decode cL_law 876 = .ok (.iaload, 1) := by decide +kernel
theorem dL_law_877 : decode cL_law 877 = .ok (.aload_n 0, 1) := by decide +kernel
theorem dL_law_878 : decode cL_law 878 = .ok (.iload_n 3, 1) := by decide +kernel
theorem dL_law_879 : decode cL_law 879 = .ok (.iconst 2, 1) := by decide +kernel
theorem dL_law_880 : decode cL_law 880 = .ok (.iadd, 1) := by decide +kernel
theorem dL_law_881 : decode cL_law 881 = .ok (.iaload, 1) := by decide +kernel
theorem dL_law_882 : decode cL_law 882 = .ok (.aload_n 0, 1) := by decide +kernel
theorem dL_law_883 : decode cL_law 883 = .ok (.iload_n 3, 1) := by decide +kernel
theorem dL_law_884 : decode cL_law 884 = .ok (.iconst 3, 1) := by decide +kernel
theorem dL_law_885 : decode cL_law 885 = .ok (.iadd, 1) := by decide +kernel
theorem dL_law_886 : decode cL_law 886 = .ok (.iaload, 1) := by decide +kernel
theorem dL_law_887 : decode cL_law 887 = .ok (.aload_n 0, 1) := by decide +kernel
theorem dL_law_888 : decode cL_law 888 = .ok (.iload_n 3, 1) := by decide +kernel
theorem dL_law_889 : decode cL_law 889 = .ok (.iconst 4, 1) := by decide +kernel
theorem dL_law_890 : decode cL_law 890 = .ok (.iadd, 1) := by decide +kernel
theorem dL_law_891 : decode cL_law 891 = .ok (.iaload, 1) := by decide +kernel
theorem q_1041 : Cond.methodLink RL 111 yX11_drawn ∈ lw_g := mem_q 1041 (by decide +kernel) rfl
theorem q_1042 : Cond.instanceMethod yX11_drawn ∈ lw_g := mem_q 1042 (by decide +kernel) rfl
theorem q_1043 : Cond.selects RX11 yX11_drawn yX11_drawn ∈ lw_g := mem_q 1043 (by decide +kernel) rfl
theorem q_1044 : Cond.code yX11_drawn cX11_drawn 7 (some .int) ∈ lw_g := mem_q 1044 (by decide +kernel) rfl
theorem kV_RL_111 : CV RL 111 RX11 yX11_drawn cX11_drawn 7 (some .int) 4 := cv_of q_1041 q_1042 q_1043 q_103 q_1044 (by decide +kernel)
theorem dL_law_892 : decode cL_law 892 = .ok (.invokevirtual 111, 3) := by decide +kernel
theorem dL_law_895 : decode cL_law 895 = .ok (.aload_n 2, 1) := by decide +kernel
theorem dL_law_896 : decode cL_law 896 = .ok (.aload_n 0, 1) := by decide +kernel
theorem dL_law_897 : decode cL_law 897 = .ok (.iload_n 3, 1) := by decide +kernel
theorem dL_law_898 : decode cL_law 898 = .ok (.iconst 1, 1) := by decide +kernel
theorem dL_law_899 : decode cL_law 899 = .ok (.iadd, 1) := by decide +kernel
theorem dL_law_900 : decode cL_law 900 = .ok (.iaload, 1) := by decide +kernel
theorem dL_law_901 : decode cL_law 901 = .ok (.aload_n 0, 1) := by decide +kernel
theorem dL_law_902 : decode cL_law 902 = .ok (.iload_n 3, 1) := by decide +kernel
theorem dL_law_903 : decode cL_law 903 = .ok (.iconst 2, 1) := by decide +kernel
theorem dL_law_904 : decode cL_law 904 = .ok (.iadd, 1) := by decide +kernel
theorem dL_law_905 : decode cL_law 905 = .ok (.iaload, 1) := by decide +kernel
theorem dL_law_906 : decode cL_law 906 = .ok (.aload_n 0, 1) := by decide +kernel
theorem dL_law_907 : decode cL_law 907 = .ok (.iload_n 3, 1) := by decide +kernel
theorem dL_law_908 : decode cL_law 908 = .ok (.iconst 3, 1) := by decide +kernel
theorem dL_law_909 : decode cL_law 909 = .ok (.iadd, 1) := by decide +kernel
theorem dL_law_910 : decode cL_law 910 = .ok (.iaload, 1) := by decide +kernel
theorem dL_law_911 : decode cL_law 911 = .ok (.aload_n 0, 1) := by decide +kernel
theorem dL_law_912 : decode cL_law 912 = .ok (.iload_n 3, 1) := by decide +kernel
theorem dL_law_913 : decode cL_law 913 = .ok (.iconst 4, 1) := by decide +kernel
theorem dL_law_914 : decode cL_law 914 = .ok (.iadd, 1) := by decide +kernel
theorem dL_law_915 : decode cL_law 915 = .ok (.iaload, 1) := by decide +kernel
theorem q_1722 : Cond.methodLink RL 115 yX12_drawn ∈ lw_g := mem_q 1722 (by decide +kernel) rfl
theorem q_1723 : Cond.instanceMethod yX12_drawn ∈ lw_g := mem_q 1723 (by decide +kernel) rfl
theorem q_1724 : Cond.selects RX12 yX12_drawn yX12_drawn ∈ lw_g := mem_q 1724 (by decide +kernel) rfl
theorem q_1725 : Cond.code yX12_drawn cX12_drawn 11 (some .int) ∈ lw_g := mem_q 1725 (by decide +kernel) rfl
theorem kV_RL_115 : CV RL 115 RX12 yX12_drawn cX12_drawn 11 (some .int) 4 := cv_of q_1722 q_1723 q_1724 q_115 q_1725 (by decide +kernel)
theorem dL_law_916 : decode cL_law 916 = .ok (.invokevirtual 115, 3) := by decide +kernel
theorem dL_law_919 : decode cL_law 919 = .ok (.if_icmp .eq 494, 3) := by decide +kernel
set_option maxHeartbeats 4000000 in
set_option maxRecDepth 100000 in
/-- drawn -/
theorem lk_23 {p : Program} {l : Launch} {e : Env} {s : State} {m : MethodId} {below : List Frame} {meth : Method} {c : Code} {b : Nat} {xs : Nat → Int32} {J : va_J9} {A : Nat → Prop} {H : Heap} {locs : List Loc} {ls : Array Slot} {a bb : Nat → Nat} {f : Nat → Option Nat} {g : Nat → Int32} (E0 : LE p s m meth c b 6 xs J A) (hfx : ∀ j, j < 6 → f j = some (a (41 + j))) (hg : ∀ k, k < 6 → g k = -1) (hP : va_P J.1 cls (xW J a f ++ mW J bb g) H) (hD : va_D A (xW J a f ++ mW J bb g)) (hS : va_S A s.heap H locs) (hl : lv_has ls 4 [(3, .int 0), (2, .ref (bb 0)), (1, .ref (a 0)), (0, .ref b)]) : W p l e room_1 s m #[Value.ref b] below meth c H locs 600000 7302250 (lw_Z below #[Value.ref b] s) (F0 m 871 ls []) := by
  obtain ⟨hx, hb, hr, hml, hown, hts, hX, hbl, hlk, hK, hA, hAs⟩ := id E0
  have hbA : ¬ A b := fun h => absurd (hAs b h) (Nat.not_le.mpr hbl)
  obtain ⟨x1, e1⟩ : ∃ z : Int32, z = xs 1 := ⟨_, rfl⟩
  obtain ⟨x2, e2⟩ : ∃ z : Int32, z = xs 2 := ⟨_, rfl⟩
  obtain ⟨x3, e3⟩ : ∃ z : Int32, z = xs 3 := ⟨_, rfl⟩
  obtain ⟨x4, e4⟩ : ∃ z : Int32, z = xs 4 := ⟨_, rfl⟩
  have rg_x1 := i_rng x1
  have rg_x2 := i_rng x2
  have rg_x3 := i_rng x3
  have rg_x4 := i_rng x4
  by_cases hd : 0 ≤ x1.toInt ∧ x1.toInt ≤ 5
  · obtain ⟨sh, ce, hf, hP, hD⟩ := shx hfx hP hD hd
    refine lv_aload_n hx hb dL_law_871 rfl (lv_at hl 2 rfl) ?_
    refine lv_aload_n hx hb dL_law_872 rfl (lv_at hl 3 rfl) ?_
    refine lv_iload_n hx hb dL_law_873 rfl (lv_at hl 0 rfl) ?_
    refine lv_iconst (v := 1) hx hb dL_law_874 (by decide) ?_
    refine lv_iadd hx hb dL_law_875 ?_
    refine top_i (y := 1) (by decide) ?_
    refine va_sld hx hb hX hbl hbA hS (i_in (a := 1) (by decide) (by omega) (by omega)) dL_law_876 ?_
    refine top_i (y := x1) e1.symm ?_
    refine lv_aload_n hx hb dL_law_877 rfl (lv_at hl 3 rfl) ?_
    refine lv_iload_n hx hb dL_law_878 rfl (lv_at hl 0 rfl) ?_
    refine lv_iconst (v := 2) hx hb dL_law_879 (by decide) ?_
    refine lv_iadd hx hb dL_law_880 ?_
    refine top_i (y := 2) (by decide) ?_
    refine va_sld hx hb hX hbl hbA hS (i_in (a := 2) (by decide) (by omega) (by omega)) dL_law_881 ?_
    refine top_i (y := x2) e2.symm ?_
    refine lv_aload_n hx hb dL_law_882 rfl (lv_at hl 3 rfl) ?_
    refine lv_iload_n hx hb dL_law_883 rfl (lv_at hl 0 rfl) ?_
    refine lv_iconst (v := 3) hx hb dL_law_884 (by decide) ?_
    refine lv_iadd hx hb dL_law_885 ?_
    refine top_i (y := 3) (by decide) ?_
    refine va_sld hx hb hX hbl hbA hS (i_in (a := 3) (by decide) (by omega) (by omega)) dL_law_886 ?_
    refine top_i (y := x3) e3.symm ?_
    refine lv_aload_n hx hb dL_law_887 rfl (lv_at hl 3 rfl) ?_
    refine lv_iload_n hx hb dL_law_888 rfl (lv_at hl 0 rfl) ?_
    refine lv_iconst (v := 4) hx hb dL_law_889 (by decide) ?_
    refine lv_iadd hx hb dL_law_890 ?_
    refine top_i (y := 4) (by decide) ?_
    refine va_sld hx hb hX hbl hbA hS (i_in (a := 4) (by decide) (by omega) (by omega)) dL_law_891 ?_
    refine top_i (y := x4) e4.symm ?_
    refine go_i (rn_V (As := [.int x1, .int x2, .int x3, .int x4]) (rest := []) hx hb hml hown hts hK (c_drawn_in l J a f sh ce x1 x2 x3 x4 ⟨by omega, by omega⟩ hf) kV_RL_111 (hP.sub (ws' := [((a 0), .inr (11, [.ref (a 1), .ref (a 6), .ref (a 10), .ref (a 15), .ref (a 17), .ref (a 22), .ref (a 23), .ref (a 30), .ref (a 31), .ref (a 34), .int 0, .ref (a 37), .ref (a 40)])), ((a 40), .inl (J.2.2.2, 6, .inr (.inr (.inr (.inr f))))), (sh, .inr (9, [.ref ce, .int 0, .int 0, .int 0, .int 0]))]) [0, 1, 2] rfl) rfl rfl rfl ⟨Nat.le_of_ble_eq_true rfl, Nat.le_of_ble_eq_true rfl⟩ rfl rfl rfl hl.1 rfl (Nat.le_of_ble_eq_true rfl) ⟨Nat.le_of_ble_eq_true rfl, Nat.le_of_ble_eq_true rfl⟩ dL_law_892) ?_
    refine lv_aload_n hx hb dL_law_895 rfl (lv_at hl 1 rfl) ?_
    refine lv_aload_n hx hb dL_law_896 rfl (lv_at hl 3 rfl) ?_
    refine lv_iload_n hx hb dL_law_897 rfl (lv_at hl 0 rfl) ?_
    refine lv_iconst (v := 1) hx hb dL_law_898 (by decide) ?_
    refine lv_iadd hx hb dL_law_899 ?_
    refine top_i (y := 1) (by decide) ?_
    refine va_sld hx hb hX hbl hbA hS (i_in (a := 1) (by decide) (by omega) (by omega)) dL_law_900 ?_
    refine top_i (y := x1) e1.symm ?_
    refine lv_aload_n hx hb dL_law_901 rfl (lv_at hl 3 rfl) ?_
    refine lv_iload_n hx hb dL_law_902 rfl (lv_at hl 0 rfl) ?_
    refine lv_iconst (v := 2) hx hb dL_law_903 (by decide) ?_
    refine lv_iadd hx hb dL_law_904 ?_
    refine top_i (y := 2) (by decide) ?_
    refine va_sld hx hb hX hbl hbA hS (i_in (a := 2) (by decide) (by omega) (by omega)) dL_law_905 ?_
    refine top_i (y := x2) e2.symm ?_
    refine lv_aload_n hx hb dL_law_906 rfl (lv_at hl 3 rfl) ?_
    refine lv_iload_n hx hb dL_law_907 rfl (lv_at hl 0 rfl) ?_
    refine lv_iconst (v := 3) hx hb dL_law_908 (by decide) ?_
    refine lv_iadd hx hb dL_law_909 ?_
    refine top_i (y := 3) (by decide) ?_
    refine va_sld hx hb hX hbl hbA hS (i_in (a := 3) (by decide) (by omega) (by omega)) dL_law_910 ?_
    refine top_i (y := x3) e3.symm ?_
    refine lv_aload_n hx hb dL_law_911 rfl (lv_at hl 3 rfl) ?_
    refine lv_iload_n hx hb dL_law_912 rfl (lv_at hl 0 rfl) ?_
    refine lv_iconst (v := 4) hx hb dL_law_913 (by decide) ?_
    refine lv_iadd hx hb dL_law_914 ?_
    refine top_i (y := 4) (by decide) ?_
    refine va_sld hx hb hX hbl hbA hS (i_in (a := 4) (by decide) (by omega) (by omega)) dL_law_915 ?_
    refine top_i (y := x4) e4.symm ?_
    refine go_i (rn_V (As := [.int x1, .int x2, .int x3, .int x4]) (rest := [.int (sp_drawn (x1.toInt) (x3.toInt) (x4.toInt))]) hx hb hml hown hts hK (m_drawn l J bb g x1 x2 x3 x4 hg) kV_RL_115 (hP.sub (ws' := [((bb 0), .inr (12, [.ref (bb 1), .ref (bb 2), .ref (bb 3), .ref (bb 4), .int 0, .int 0, .int 0, .int 0, .ref (bb 9), .ref (bb 10), .int 0, .ref (bb 12), .int (-1), .int 0, .int 0, .int 0, .int 0, .int 0, .ref (bb 19), .ref (bb 20), .ref (bb 21), .ref (bb 22), .ref (bb 23), .long 0, .long 0, .long 0, .ref (bb 27), .ref (bb 28), .ref (bb 29), .long 0, .int 0, .int (-1), .int 0, .int 0, .int 0, .ref (bb 36), .int 0, .int 0, .ref (bb 39), .ref (bb 40), .int 0, .ref (bb 42), .ref (bb 43), .int 0, .int 0, .int 0, .ref (bb 47), .ref (bb 48), .ref (bb 49), .ref (bb 50)])), ((bb 47), .inl (J.2.1, 6, .inl g))]) [5, 16] rfl) rfl rfl rfl ⟨Nat.le_of_ble_eq_true rfl, Nat.le_of_ble_eq_true rfl⟩ rfl rfl rfl hl.1 rfl (Nat.le_of_ble_eq_true rfl) ⟨Nat.le_of_ble_eq_true rfl, Nat.le_of_ble_eq_true rfl⟩ dL_law_916) ?_
    refine lv_icmp_eq (tgt := 1413) hx hb dL_law_919 (by decide) (fun _ => ?_) (fun c => absurd rfl c)
    exact law_end E0 hS (lv_sub hl [0, 1, 2, 3] rfl)
  · refine lv_aload_n hx hb dL_law_871 rfl (lv_at hl 2 rfl) ?_
    refine lv_aload_n hx hb dL_law_872 rfl (lv_at hl 3 rfl) ?_
    refine lv_iload_n hx hb dL_law_873 rfl (lv_at hl 0 rfl) ?_
    refine lv_iconst (v := 1) hx hb dL_law_874 (by decide) ?_
    refine lv_iadd hx hb dL_law_875 ?_
    refine top_i (y := 1) (by decide) ?_
    refine va_sld hx hb hX hbl hbA hS (i_in (a := 1) (by decide) (by omega) (by omega)) dL_law_876 ?_
    refine top_i (y := x1) e1.symm ?_
    refine lv_aload_n hx hb dL_law_877 rfl (lv_at hl 3 rfl) ?_
    refine lv_iload_n hx hb dL_law_878 rfl (lv_at hl 0 rfl) ?_
    refine lv_iconst (v := 2) hx hb dL_law_879 (by decide) ?_
    refine lv_iadd hx hb dL_law_880 ?_
    refine top_i (y := 2) (by decide) ?_
    refine va_sld hx hb hX hbl hbA hS (i_in (a := 2) (by decide) (by omega) (by omega)) dL_law_881 ?_
    refine top_i (y := x2) e2.symm ?_
    refine lv_aload_n hx hb dL_law_882 rfl (lv_at hl 3 rfl) ?_
    refine lv_iload_n hx hb dL_law_883 rfl (lv_at hl 0 rfl) ?_
    refine lv_iconst (v := 3) hx hb dL_law_884 (by decide) ?_
    refine lv_iadd hx hb dL_law_885 ?_
    refine top_i (y := 3) (by decide) ?_
    refine va_sld hx hb hX hbl hbA hS (i_in (a := 3) (by decide) (by omega) (by omega)) dL_law_886 ?_
    refine top_i (y := x3) e3.symm ?_
    refine lv_aload_n hx hb dL_law_887 rfl (lv_at hl 3 rfl) ?_
    refine lv_iload_n hx hb dL_law_888 rfl (lv_at hl 0 rfl) ?_
    refine lv_iconst (v := 4) hx hb dL_law_889 (by decide) ?_
    refine lv_iadd hx hb dL_law_890 ?_
    refine top_i (y := 4) (by decide) ?_
    refine va_sld hx hb hX hbl hbA hS (i_in (a := 4) (by decide) (by omega) (by omega)) dL_law_891 ?_
    refine top_i (y := x4) e4.symm ?_
    refine go_i (rn_V (As := [.int x1, .int x2, .int x3, .int x4]) (rest := []) hx hb hml hown hts hK (c_drawn_out l J a x1 x2 x3 x4 (by omega)) kV_RL_111 (hP.sub (ws' := [((a 0), .inr (11, [.ref (a 1), .ref (a 6), .ref (a 10), .ref (a 15), .ref (a 17), .ref (a 22), .ref (a 23), .ref (a 30), .ref (a 31), .ref (a 34), .int 0, .ref (a 37), .ref (a 40)]))]) [0] rfl) rfl rfl rfl ⟨Nat.le_of_ble_eq_true rfl, Nat.le_of_ble_eq_true rfl⟩ rfl rfl rfl hl.1 rfl (Nat.le_of_ble_eq_true rfl) ⟨Nat.le_of_ble_eq_true rfl, Nat.le_of_ble_eq_true rfl⟩ dL_law_892) ?_
    refine lv_aload_n hx hb dL_law_895 rfl (lv_at hl 1 rfl) ?_
    refine lv_aload_n hx hb dL_law_896 rfl (lv_at hl 3 rfl) ?_
    refine lv_iload_n hx hb dL_law_897 rfl (lv_at hl 0 rfl) ?_
    refine lv_iconst (v := 1) hx hb dL_law_898 (by decide) ?_
    refine lv_iadd hx hb dL_law_899 ?_
    refine top_i (y := 1) (by decide) ?_
    refine va_sld hx hb hX hbl hbA hS (i_in (a := 1) (by decide) (by omega) (by omega)) dL_law_900 ?_
    refine top_i (y := x1) e1.symm ?_
    refine lv_aload_n hx hb dL_law_901 rfl (lv_at hl 3 rfl) ?_
    refine lv_iload_n hx hb dL_law_902 rfl (lv_at hl 0 rfl) ?_
    refine lv_iconst (v := 2) hx hb dL_law_903 (by decide) ?_
    refine lv_iadd hx hb dL_law_904 ?_
    refine top_i (y := 2) (by decide) ?_
    refine va_sld hx hb hX hbl hbA hS (i_in (a := 2) (by decide) (by omega) (by omega)) dL_law_905 ?_
    refine top_i (y := x2) e2.symm ?_
    refine lv_aload_n hx hb dL_law_906 rfl (lv_at hl 3 rfl) ?_
    refine lv_iload_n hx hb dL_law_907 rfl (lv_at hl 0 rfl) ?_
    refine lv_iconst (v := 3) hx hb dL_law_908 (by decide) ?_
    refine lv_iadd hx hb dL_law_909 ?_
    refine top_i (y := 3) (by decide) ?_
    refine va_sld hx hb hX hbl hbA hS (i_in (a := 3) (by decide) (by omega) (by omega)) dL_law_910 ?_
    refine top_i (y := x3) e3.symm ?_
    refine lv_aload_n hx hb dL_law_911 rfl (lv_at hl 3 rfl) ?_
    refine lv_iload_n hx hb dL_law_912 rfl (lv_at hl 0 rfl) ?_
    refine lv_iconst (v := 4) hx hb dL_law_913 (by decide) ?_
    refine lv_iadd hx hb dL_law_914 ?_
    refine top_i (y := 4) (by decide) ?_
    refine va_sld hx hb hX hbl hbA hS (i_in (a := 4) (by decide) (by omega) (by omega)) dL_law_915 ?_
    refine top_i (y := x4) e4.symm ?_
    refine go_i (rn_V (As := [.int x1, .int x2, .int x3, .int x4]) (rest := [.int (sp_drawn (x1.toInt) (x3.toInt) (x4.toInt))]) hx hb hml hown hts hK (m_drawn l J bb g x1 x2 x3 x4 hg) kV_RL_115 (hP.sub (ws' := [((bb 0), .inr (12, [.ref (bb 1), .ref (bb 2), .ref (bb 3), .ref (bb 4), .int 0, .int 0, .int 0, .int 0, .ref (bb 9), .ref (bb 10), .int 0, .ref (bb 12), .int (-1), .int 0, .int 0, .int 0, .int 0, .int 0, .ref (bb 19), .ref (bb 20), .ref (bb 21), .ref (bb 22), .ref (bb 23), .long 0, .long 0, .long 0, .ref (bb 27), .ref (bb 28), .ref (bb 29), .long 0, .int 0, .int (-1), .int 0, .int 0, .int 0, .ref (bb 36), .int 0, .int 0, .ref (bb 39), .ref (bb 40), .int 0, .ref (bb 42), .ref (bb 43), .int 0, .int 0, .int 0, .ref (bb 47), .ref (bb 48), .ref (bb 49), .ref (bb 50)])), ((bb 47), .inl (J.2.1, 6, .inl g))]) [39, 50] rfl) rfl rfl rfl ⟨Nat.le_of_ble_eq_true rfl, Nat.le_of_ble_eq_true rfl⟩ rfl rfl rfl hl.1 rfl (Nat.le_of_ble_eq_true rfl) ⟨Nat.le_of_ble_eq_true rfl, Nat.le_of_ble_eq_true rfl⟩ dL_law_916) ?_
    refine lv_icmp_eq (tgt := 1413) hx hb dL_law_919 (by decide) (fun _ => ?_) (fun c => absurd rfl c)
    exact law_end E0 hS (lv_sub hl [0, 1, 2, 3] rfl)
theorem dL_law_924 : decode cL_law 924 = .ok (.aload_n 1, 1) := by decide +kernel
theorem dL_law_925 : decode cL_law 925 = .ok (.aload_n 0, 1) := by decide +kernel
theorem dL_law_926 : decode cL_law 926 = .ok (.iload_n 3, 1) := by decide +kernel
theorem dL_law_927 : decode cL_law 927 = .ok (.iconst 1, 1) := by decide +kernel
theorem dL_law_928 : decode cL_law 928 = .ok (.iadd, 1) := by decide +kernel
theorem dL_law_929 : decode cL_law 929 = .ok (.iaload, 1) := by decide +kernel
theorem q_1080 : Cond.methodLink RL 116 yX11_hide ∈ lw_g := mem_q 1080 (by decide +kernel) rfl
theorem q_1081 : Cond.instanceMethod yX11_hide ∈ lw_g := mem_q 1081 (by decide +kernel) rfl
theorem q_1082 : Cond.selects RX11 yX11_hide yX11_hide ∈ lw_g := mem_q 1082 (by decide +kernel) rfl
theorem q_1083 : Cond.code yX11_hide cX11_hide 2 (some .int) ∈ lw_g := mem_q 1083 (by decide +kernel) rfl
theorem kV_RL_116 : CV RL 116 RX11 yX11_hide cX11_hide 2 (some .int) 1 := cv_of q_1080 q_1081 q_1082 q_103 q_1083 (by decide +kernel)
theorem dL_law_930 : decode cL_law 930 = .ok (.invokevirtual 116, 3) := by decide +kernel
theorem dL_law_933 : decode cL_law 933 = .ok (.aload_n 2, 1) := by decide +kernel
theorem dL_law_934 : decode cL_law 934 = .ok (.aload_n 0, 1) := by decide +kernel
theorem dL_law_935 : decode cL_law 935 = .ok (.iload_n 3, 1) := by decide +kernel
theorem dL_law_936 : decode cL_law 936 = .ok (.iconst 1, 1) := by decide +kernel
theorem dL_law_937 : decode cL_law 937 = .ok (.iadd, 1) := by decide +kernel
theorem dL_law_938 : decode cL_law 938 = .ok (.iaload, 1) := by decide +kernel
theorem q_1745 : Cond.methodLink RL 119 yX12_hide ∈ lw_g := mem_q 1745 (by decide +kernel) rfl
theorem q_1746 : Cond.instanceMethod yX12_hide ∈ lw_g := mem_q 1746 (by decide +kernel) rfl
theorem q_1747 : Cond.selects RX12 yX12_hide yX12_hide ∈ lw_g := mem_q 1747 (by decide +kernel) rfl
theorem q_1748 : Cond.code yX12_hide cX12_hide 2 (some .int) ∈ lw_g := mem_q 1748 (by decide +kernel) rfl
theorem kV_RL_119 : CV RL 119 RX12 yX12_hide cX12_hide 2 (some .int) 1 := cv_of q_1745 q_1746 q_1747 q_115 q_1748 (by decide +kernel)
theorem dL_law_939 : decode cL_law 939 = .ok (.invokevirtual 119, 3) := by decide +kernel
theorem dL_law_942 : decode cL_law 942 = .ok (.if_icmp .eq 471, 3) := by decide +kernel
set_option maxHeartbeats 4000000 in
set_option maxRecDepth 100000 in
/-- hide -/
theorem lk_24 {p : Program} {l : Launch} {e : Env} {s : State} {m : MethodId} {below : List Frame} {meth : Method} {c : Code} {b : Nat} {xs : Nat → Int32} {J : va_J9} {A : Nat → Prop} {H : Heap} {locs : List Loc} {ls : Array Slot} {a bb : Nat → Nat} {f : Nat → Option Nat} {g : Nat → Int32} (E0 : LE p s m meth c b 6 xs J A) (hfx : ∀ j, j < 6 → f j = some (a (41 + j))) (hg : ∀ k, k < 6 → g k = -1) (hP : va_P J.1 cls (xW J a f ++ mW J bb g) H) (hD : va_D A (xW J a f ++ mW J bb g)) (hS : va_S A s.heap H locs) (hl : lv_has ls 4 [(3, .int 0), (2, .ref (bb 0)), (1, .ref (a 0)), (0, .ref b)]) : W p l e room_1 s m #[Value.ref b] below meth c H locs 600000 7302250 (lw_Z below #[Value.ref b] s) (F0 m 924 ls []) := by
  obtain ⟨hx, hb, hr, hml, hown, hts, hX, hbl, hlk, hK, hA, hAs⟩ := id E0
  have hbA : ¬ A b := fun h => absurd (hAs b h) (Nat.not_le.mpr hbl)
  obtain ⟨x1, e1⟩ : ∃ z : Int32, z = xs 1 := ⟨_, rfl⟩
  have rg_x1 := i_rng x1
  refine lv_aload_n hx hb dL_law_924 rfl (lv_at hl 2 rfl) ?_
  refine lv_aload_n hx hb dL_law_925 rfl (lv_at hl 3 rfl) ?_
  refine lv_iload_n hx hb dL_law_926 rfl (lv_at hl 0 rfl) ?_
  refine lv_iconst (v := 1) hx hb dL_law_927 (by decide) ?_
  refine lv_iadd hx hb dL_law_928 ?_
  refine top_i (y := 1) (by decide) ?_
  refine va_sld hx hb hX hbl hbA hS (i_in (a := 1) (by decide) (by omega) (by omega)) dL_law_929 ?_
  refine top_i (y := x1) e1.symm ?_
  refine go_i (rn_V (As := [.int x1]) (rest := []) hx hb hml hown hts hK (c_hide l J a x1) kV_RL_116 (hP.sub (ws' := [((a 0), .inr (11, [.ref (a 1), .ref (a 6), .ref (a 10), .ref (a 15), .ref (a 17), .ref (a 22), .ref (a 23), .ref (a 30), .ref (a 31), .ref (a 34), .int 0, .ref (a 37), .ref (a 40)])), ((a 6), .inr (10, [.ref (a 1), .ref (a 7), .ref (a 8), .ref (a 9), .int 0, .int 0, .int 0, .int 0, .int 1, .int 0, .int 0]))]) [0, 4] rfl) rfl rfl rfl ⟨Nat.le_of_ble_eq_true rfl, Nat.le_of_ble_eq_true rfl⟩ rfl rfl rfl hl.1 rfl (Nat.le_of_ble_eq_true rfl) ⟨Nat.le_of_ble_eq_true rfl, Nat.le_of_ble_eq_true rfl⟩ dL_law_930) ?_
  refine lv_aload_n hx hb dL_law_933 rfl (lv_at hl 1 rfl) ?_
  refine lv_aload_n hx hb dL_law_934 rfl (lv_at hl 3 rfl) ?_
  refine lv_iload_n hx hb dL_law_935 rfl (lv_at hl 0 rfl) ?_
  refine lv_iconst (v := 1) hx hb dL_law_936 (by decide) ?_
  refine lv_iadd hx hb dL_law_937 ?_
  refine top_i (y := 1) (by decide) ?_
  refine va_sld hx hb hX hbl hbA hS (i_in (a := 1) (by decide) (by omega) (by omega)) dL_law_938 ?_
  refine top_i (y := x1) e1.symm ?_
  refine go_i (rn_V (As := [.int x1]) (rest := [.int (-5)]) hx hb hml hown hts hK (m_hide l J bb x1) kV_RL_119 (hP.sub (ws' := [((bb 0), .inr (12, [.ref (bb 1), .ref (bb 2), .ref (bb 3), .ref (bb 4), .int 0, .int 0, .int 0, .int 0, .ref (bb 9), .ref (bb 10), .int 0, .ref (bb 12), .int (-1), .int 0, .int 0, .int 0, .int 0, .int 0, .ref (bb 19), .ref (bb 20), .ref (bb 21), .ref (bb 22), .ref (bb 23), .long 0, .long 0, .long 0, .ref (bb 27), .ref (bb 28), .ref (bb 29), .long 0, .int 0, .int (-1), .int 0, .int 0, .int 0, .ref (bb 36), .int 0, .int 0, .ref (bb 39), .ref (bb 40), .int 0, .ref (bb 42), .ref (bb 43), .int 0, .int 0, .int 0, .ref (bb 47), .ref (bb 48), .ref (bb 49), .ref (bb 50)]))]) [39] rfl) rfl rfl rfl ⟨Nat.le_of_ble_eq_true rfl, Nat.le_of_ble_eq_true rfl⟩ rfl rfl rfl hl.1 rfl (Nat.le_of_ble_eq_true rfl) ⟨Nat.le_of_ble_eq_true rfl, Nat.le_of_ble_eq_true rfl⟩ dL_law_939) ?_
  refine lv_icmp_eq (tgt := 1413) hx hb dL_law_942 (by decide) (fun _ => ?_) (fun c => absurd c (by decide))
  exact law_end E0 hS (lv_sub hl [0, 1, 2, 3] rfl)
theorem dL_law_947 : decode cL_law 947 = .ok (.aload_n 1, 1) := by decide +kernel
theorem dL_law_948 : decode cL_law 948 = .ok (.aload_n 0, 1) := by decide +kernel
theorem dL_law_949 : decode cL_law 949 = .ok (.iload_n 3, 1) := by decide +kernel
theorem dL_law_950 : decode cL_law 950 = .ok (.iconst 1, 1) := by decide +kernel
theorem dL_law_951 : decode cL_law 951 = .ok (.iadd, 1) := by decide +kernel
theorem dL_law_952 : decode cL_law 952 = .ok (.iaload, 1) := by decide +kernel
theorem q_1091 : Cond.methodLink RL 120 yX11_look ∈ lw_g := mem_q 1091 (by decide +kernel) rfl
theorem q_1092 : Cond.instanceMethod yX11_look ∈ lw_g := mem_q 1092 (by decide +kernel) rfl
theorem q_1093 : Cond.selects RX11 yX11_look yX11_look ∈ lw_g := mem_q 1093 (by decide +kernel) rfl
theorem q_1094 : Cond.code yX11_look cX11_look 3 (some .int) ∈ lw_g := mem_q 1094 (by decide +kernel) rfl
theorem kV_RL_120 : CV RL 120 RX11 yX11_look cX11_look 3 (some .int) 1 := cv_of q_1091 q_1092 q_1093 q_103 q_1094 (by decide +kernel)
theorem dL_law_953 : decode cL_law 953 = .ok (.invokevirtual 120, 3) := by decide +kernel
theorem dL_law_956 : decode cL_law 956 = .ok (.aload_n 2, 1) := by decide +kernel
theorem dL_law_957 : decode cL_law 957 = .ok (.aload_n 0, 1) := by decide +kernel
theorem dL_law_958 : decode cL_law 958 = .ok (.iload_n 3, 1) := by decide +kernel
theorem dL_law_959 : decode cL_law 959 = .ok (.iconst 1, 1) := by decide +kernel
theorem dL_law_960 : decode cL_law 960 = .ok (.iadd, 1) := by decide +kernel
theorem dL_law_961 : decode cL_law 961 = .ok (.iaload, 1) := by decide +kernel
theorem q_1749 : Cond.methodLink RL 123 yX12_look ∈ lw_g := mem_q 1749 (by decide +kernel) rfl
theorem q_1750 : Cond.instanceMethod yX12_look ∈ lw_g := mem_q 1750 (by decide +kernel) rfl
theorem q_1751 : Cond.selects RX12 yX12_look yX12_look ∈ lw_g := mem_q 1751 (by decide +kernel) rfl
theorem q_1752 : Cond.code yX12_look cX12_look 4 (some .int) ∈ lw_g := mem_q 1752 (by decide +kernel) rfl
theorem kV_RL_123 : CV RL 123 RX12 yX12_look cX12_look 4 (some .int) 1 := cv_of q_1749 q_1750 q_1751 q_115 q_1752 (by decide +kernel)
theorem dL_law_962 : decode cL_law 962 = .ok (.invokevirtual 123, 3) := by decide +kernel
theorem dL_law_965 : decode cL_law 965 = .ok (.if_icmp .eq 448, 3) := by decide +kernel
set_option maxHeartbeats 4000000 in
set_option maxRecDepth 100000 in
/-- look -/
theorem lk_25 {p : Program} {l : Launch} {e : Env} {s : State} {m : MethodId} {below : List Frame} {meth : Method} {c : Code} {b : Nat} {xs : Nat → Int32} {J : va_J9} {A : Nat → Prop} {H : Heap} {locs : List Loc} {ls : Array Slot} {a bb : Nat → Nat} {f : Nat → Option Nat} {g : Nat → Int32} (E0 : LE p s m meth c b 6 xs J A) (hfx : ∀ j, j < 6 → f j = some (a (41 + j))) (hg : ∀ k, k < 6 → g k = -1) (hP : va_P J.1 cls (xW J a f ++ mW J bb g) H) (hD : va_D A (xW J a f ++ mW J bb g)) (hS : va_S A s.heap H locs) (hl : lv_has ls 4 [(3, .int 0), (2, .ref (bb 0)), (1, .ref (a 0)), (0, .ref b)]) : W p l e room_1 s m #[Value.ref b] below meth c H locs 600000 7302250 (lw_Z below #[Value.ref b] s) (F0 m 947 ls []) := by
  obtain ⟨hx, hb, hr, hml, hown, hts, hX, hbl, hlk, hK, hA, hAs⟩ := id E0
  have hbA : ¬ A b := fun h => absurd (hAs b h) (Nat.not_le.mpr hbl)
  obtain ⟨x1, e1⟩ : ∃ z : Int32, z = xs 1 := ⟨_, rfl⟩
  have rg_x1 := i_rng x1
  refine lv_aload_n hx hb dL_law_947 rfl (lv_at hl 2 rfl) ?_
  refine lv_aload_n hx hb dL_law_948 rfl (lv_at hl 3 rfl) ?_
  refine lv_iload_n hx hb dL_law_949 rfl (lv_at hl 0 rfl) ?_
  refine lv_iconst (v := 1) hx hb dL_law_950 (by decide) ?_
  refine lv_iadd hx hb dL_law_951 ?_
  refine top_i (y := 1) (by decide) ?_
  refine va_sld hx hb hX hbl hbA hS (i_in (a := 1) (by decide) (by omega) (by omega)) dL_law_952 ?_
  refine top_i (y := x1) e1.symm ?_
  refine go_i (rn_V (As := [.int x1]) (rest := []) hx hb hml hown hts hK (c_look l J a x1) kV_RL_120 (hP.sub (ws' := [((a 0), .inr (11, [.ref (a 1), .ref (a 6), .ref (a 10), .ref (a 15), .ref (a 17), .ref (a 22), .ref (a 23), .ref (a 30), .ref (a 31), .ref (a 34), .int 0, .ref (a 37), .ref (a 40)])), ((a 6), .inr (10, [.ref (a 1), .ref (a 7), .ref (a 8), .ref (a 9), .int 0, .int 0, .int 0, .int 0, .int 1, .int 0, .int 0]))]) [0, 4] rfl) rfl rfl rfl ⟨Nat.le_of_ble_eq_true rfl, Nat.le_of_ble_eq_true rfl⟩ rfl rfl rfl hl.1 rfl (Nat.le_of_ble_eq_true rfl) ⟨Nat.le_of_ble_eq_true rfl, Nat.le_of_ble_eq_true rfl⟩ dL_law_953) ?_
  refine lv_aload_n hx hb dL_law_956 rfl (lv_at hl 1 rfl) ?_
  refine lv_aload_n hx hb dL_law_957 rfl (lv_at hl 3 rfl) ?_
  refine lv_iload_n hx hb dL_law_958 rfl (lv_at hl 0 rfl) ?_
  refine lv_iconst (v := 1) hx hb dL_law_959 (by decide) ?_
  refine lv_iadd hx hb dL_law_960 ?_
  refine top_i (y := 1) (by decide) ?_
  refine va_sld hx hb hX hbl hbA hS (i_in (a := 1) (by decide) (by omega) (by omega)) dL_law_961 ?_
  refine top_i (y := x1) e1.symm ?_
  refine go_i (rn_V (As := [.int x1]) (rest := [.int (-1)]) hx hb hml hown hts hK (m_look l J bb x1) kV_RL_123 (hP.sub (ws' := [((bb 0), .inr (12, [.ref (bb 1), .ref (bb 2), .ref (bb 3), .ref (bb 4), .int 0, .int 0, .int 0, .int 0, .ref (bb 9), .ref (bb 10), .int 0, .ref (bb 12), .int (-1), .int 0, .int 0, .int 0, .int 0, .int 0, .ref (bb 19), .ref (bb 20), .ref (bb 21), .ref (bb 22), .ref (bb 23), .long 0, .long 0, .long 0, .ref (bb 27), .ref (bb 28), .ref (bb 29), .long 0, .int 0, .int (-1), .int 0, .int 0, .int 0, .ref (bb 36), .int 0, .int 0, .ref (bb 39), .ref (bb 40), .int 0, .ref (bb 42), .ref (bb 43), .int 0, .int 0, .int 0, .ref (bb 47), .ref (bb 48), .ref (bb 49), .ref (bb 50)]))]) [39] rfl) rfl rfl rfl ⟨Nat.le_of_ble_eq_true rfl, Nat.le_of_ble_eq_true rfl⟩ rfl rfl rfl hl.1 rfl (Nat.le_of_ble_eq_true rfl) ⟨Nat.le_of_ble_eq_true rfl, Nat.le_of_ble_eq_true rfl⟩ dL_law_962) ?_
  refine lv_icmp_eq (tgt := 1413) hx hb dL_law_965 (by decide) (fun _ => ?_) (fun c => absurd c (by decide))
  exact law_end E0 hS (lv_sub hl [0, 1, 2, 3] rfl)
theorem dL_law_970 : decode cL_law 970 = .ok (.aload_n 1, 1) := by decide +kernel
theorem q_1106 : Cond.methodLink RL 124 yX11_image ∈ lw_g := mem_q 1106 (by decide +kernel) rfl
theorem q_1107 : Cond.instanceMethod yX11_image ∈ lw_g := mem_q 1107 (by decide +kernel) rfl
theorem q_1108 : Cond.selects RX11 yX11_image yX11_image ∈ lw_g := mem_q 1108 (by decide +kernel) rfl
theorem q_1109 : Cond.code yX11_image cX11_image 1 (some .int) ∈ lw_g := mem_q 1109 (by decide +kernel) rfl
theorem kV_RL_124 : CV RL 124 RX11 yX11_image cX11_image 1 (some .int) 0 := cv_of q_1106 q_1107 q_1108 q_103 q_1109 (by decide +kernel)
theorem dL_law_971 : decode cL_law 971 = .ok (.invokevirtual 124, 3) := by decide +kernel
theorem dL_law_974 : decode cL_law 974 = .ok (.aload_n 2, 1) := by decide +kernel
theorem q_1753 : Cond.methodLink RL 127 yX12_image ∈ lw_g := mem_q 1753 (by decide +kernel) rfl
theorem q_1754 : Cond.instanceMethod yX12_image ∈ lw_g := mem_q 1754 (by decide +kernel) rfl
theorem q_1755 : Cond.selects RX12 yX12_image yX12_image ∈ lw_g := mem_q 1755 (by decide +kernel) rfl
theorem q_1756 : Cond.code yX12_image cX12_image 2 (some .int) ∈ lw_g := mem_q 1756 (by decide +kernel) rfl
theorem kV_RL_127 : CV RL 127 RX12 yX12_image cX12_image 2 (some .int) 0 := cv_of q_1753 q_1754 q_1755 q_115 q_1756 (by decide +kernel)
theorem dL_law_975 : decode cL_law 975 = .ok (.invokevirtual 127, 3) := by decide +kernel
theorem dL_law_978 : decode cL_law 978 = .ok (.if_icmp .eq 435, 3) := by decide +kernel
set_option maxHeartbeats 4000000 in
set_option maxRecDepth 100000 in
/-- image -/
theorem lk_26 {p : Program} {l : Launch} {e : Env} {s : State} {m : MethodId} {below : List Frame} {meth : Method} {c : Code} {b : Nat} {xs : Nat → Int32} {J : va_J9} {A : Nat → Prop} {H : Heap} {locs : List Loc} {ls : Array Slot} {a bb : Nat → Nat} {f : Nat → Option Nat} {g : Nat → Int32} (E0 : LE p s m meth c b 6 xs J A) (hfx : ∀ j, j < 6 → f j = some (a (41 + j))) (hg : ∀ k, k < 6 → g k = -1) (hP : va_P J.1 cls (xW J a f ++ mW J bb g) H) (hD : va_D A (xW J a f ++ mW J bb g)) (hS : va_S A s.heap H locs) (hl : lv_has ls 4 [(3, .int 0), (2, .ref (bb 0)), (1, .ref (a 0)), (0, .ref b)]) : W p l e room_1 s m #[Value.ref b] below meth c H locs 600000 7302250 (lw_Z below #[Value.ref b] s) (F0 m 970 ls []) := by
  obtain ⟨hx, hb, hr, hml, hown, hts, hX, hbl, hlk, hK, hA, hAs⟩ := id E0
  have hbA : ¬ A b := fun h => absurd (hAs b h) (Nat.not_le.mpr hbl)
  refine lv_aload_n hx hb dL_law_970 rfl (lv_at hl 2 rfl) ?_
  refine gw_i (wc := [((a 0), .inr (11, [.ref (a 1), .ref (a 6), .ref (a 10), .ref (a 15), .ref (a 17), .ref (a 22), .ref (a 23), .ref (a 30), .ref (a 31), .ref (a 34), .int 0, .ref (a 37), .ref (a 40)])), ((a 34), .inr (3, [.ref (a 6), .ref (a 35), .ref (a 36), .int 0, .int 0, .int 0, .int 0, .int 0])), ((a 31), .inr (3, [.ref (a 6), .ref (a 32), .ref (a 33), .int 0, .int 0, .int 0, .int 0, .int 0])), ((a 35), .inr (4, [.ref (a 6), .int 0])), ((a 32), .inr (4, [.ref (a 6), .int 0])), ((a 36), .inl (J.2.1, 10, .inl (fun _ => 0))), ((a 33), .inl (J.2.1, 10, .inl (fun _ => 0)))]) (wr := [((bb 0), .inr (12, [.ref (bb 1), .ref (bb 2), .ref (bb 3), .ref (bb 4), .int 0, .int 0, .int 0, .int 0, .ref (bb 9), .ref (bb 10), .int 0, .ref (bb 12), .int (-1), .int 0, .int 0, .int 0, .int 0, .int 0, .ref (bb 19), .ref (bb 20), .ref (bb 21), .ref (bb 22), .ref (bb 23), .long 0, .long 0, .long 0, .ref (bb 27), .ref (bb 28), .ref (bb 29), .long 0, .int 0, .int (-1), .int 0, .int 0, .int 0, .ref (bb 36), .int 0, .int 0, .ref (bb 39), .ref (bb 40), .int 0, .ref (bb 42), .ref (bb 43), .int 0, .int 0, .int 0, .ref (bb 47), .ref (bb 48), .ref (bb 49), .ref (bb 50)])), ((bb 1), .inl (J.2.1, 22, .inl (upd (fun _ => 0) (20 : Int32).toNatClampNeg 1))), ((bb 2), .inl (J.2.1, 40, .inl (fun _ => 0))), ((bb 3), .inl (J.2.1, 40, .inl (fun _ => 0))), ((bb 4), .inl (J.2.1, 40, .inl (fun _ => 0))), ((bb 10), .inl (J.2.1, 120, .inl (fun _ => 0))), ((bb 21), .inl (J.2.1, 7168, .inl (fun _ => 0))), ((bb 39), .inl (J.2.1, 5, .inl (fun _ => 0))), ((bb 40), .inl (J.2.1, 10, .inl (fun _ => 0))), ((bb 36), .inl (J.2.1, 10, .inl (fun _ => 0))), ((bb 42), .inl (J.2.1, 50, .inl (fun _ => 0))), ((bb 47), .inl (J.2.1, 6, .inl g)), ((bb 48), .inl (J.2.1, 6, .inl (fun _ => 0))), ((bb 49), .inl (J.2.2.1, 360, .inr (.inl (fun _ => 0))))]) hP hD hS hA [0, 21, 18, 22, 19, 23, 20] [39, 40, 41, 42, 43, 44, 45, 46, 47, 48, 49, 50, 51, 52] rfl rfl (by decide) (by decide) (wn_V (As := []) (rest := []) hx hb hml hown hts hK (c_image l J _ a) kV_RL_124 (hP.sub (ws' := [((a 0), .inr (11, [.ref (a 1), .ref (a 6), .ref (a 10), .ref (a 15), .ref (a 17), .ref (a 22), .ref (a 23), .ref (a 30), .ref (a 31), .ref (a 34), .int 0, .ref (a 37), .ref (a 40)])), ((a 34), .inr (3, [.ref (a 6), .ref (a 35), .ref (a 36), .int 0, .int 0, .int 0, .int 0, .int 0])), ((a 31), .inr (3, [.ref (a 6), .ref (a 32), .ref (a 33), .int 0, .int 0, .int 0, .int 0, .int 0])), ((a 35), .inr (4, [.ref (a 6), .int 0])), ((a 32), .inr (4, [.ref (a 6), .int 0])), ((a 36), .inl (J.2.1, 10, .inl (fun _ => 0))), ((a 33), .inl (J.2.1, 10, .inl (fun _ => 0)))]) [0, 21, 18, 22, 19, 23, 20] rfl) ((hD.sub (ws' := [((a 0), .inr (11, [.ref (a 1), .ref (a 6), .ref (a 10), .ref (a 15), .ref (a 17), .ref (a 22), .ref (a 23), .ref (a 30), .ref (a 31), .ref (a 34), .int 0, .ref (a 37), .ref (a 40)])), ((a 34), .inr (3, [.ref (a 6), .ref (a 35), .ref (a 36), .int 0, .int 0, .int 0, .int 0, .int 0])), ((a 31), .inr (3, [.ref (a 6), .ref (a 32), .ref (a 33), .int 0, .int 0, .int 0, .int 0, .int 0])), ((a 35), .inr (4, [.ref (a 6), .int 0])), ((a 32), .inr (4, [.ref (a 6), .int 0])), ((a 36), .inl (J.2.1, 10, .inl (fun _ => 0))), ((a 33), .inl (J.2.1, 10, .inl (fun _ => 0)))]) [0, 21, 18, 22, 19, 23, 20] (by decide) rfl).weaken (fun _ _ _ _ => trivial)) rfl rfl rfl ⟨Nat.le_of_ble_eq_true rfl, Nat.le_of_ble_eq_true rfl⟩ rfl rfl rfl hl.1 rfl (Nat.le_of_ble_eq_true rfl) ⟨Nat.le_of_ble_eq_true rfl, Nat.le_of_ble_eq_true rfl⟩ dL_law_971) (fun r2 u1 H locs hw hP hD hS => ?_)
  subst hw
  have hP : va_P J.1 cls [((bb 0), .inr (12, [.ref (bb 1), .ref (bb 2), .ref (bb 3), .ref (bb 4), .int 0, .int 0, .int 0, .int 0, .ref (bb 9), .ref (bb 10), .int 0, .ref (bb 12), .int (-1), .int 0, .int 0, .int 0, .int 0, .int 0, .ref (bb 19), .ref (bb 20), .ref (bb 21), .ref (bb 22), .ref (bb 23), .long 0, .long 0, .long 0, .ref (bb 27), .ref (bb 28), .ref (bb 29), .long 0, .int 0, .int (-1), .int 0, .int 0, .int 0, .ref (bb 36), .int 0, .int 0, .ref (bb 39), .ref (bb 40), .int 0, .ref (bb 42), .ref (bb 43), .int 0, .int 0, .int 0, .ref (bb 47), .ref (bb 48), .ref (bb 49), .ref (bb 50)])), ((bb 1), .inl (J.2.1, 22, .inl (upd (fun _ => 0) (20 : Int32).toNatClampNeg 1))), ((bb 2), .inl (J.2.1, 40, .inl (fun _ => 0))), ((bb 3), .inl (J.2.1, 40, .inl (fun _ => 0))), ((bb 4), .inl (J.2.1, 40, .inl (fun _ => 0))), ((bb 10), .inl (J.2.1, 120, .inl (fun _ => 0))), ((bb 21), .inl (J.2.1, 7168, .inl (fun _ => 0))), ((bb 39), .inl (J.2.1, 5, .inl (fun _ => 0))), ((bb 40), .inl (J.2.1, 10, .inl (fun _ => 0))), ((bb 36), .inl (J.2.1, 10, .inl (fun _ => 0))), ((bb 42), .inl (J.2.1, 50, .inl (fun _ => 0))), ((bb 47), .inl (J.2.1, 6, .inl g)), ((bb 48), .inl (J.2.1, 6, .inl (fun _ => 0))), ((bb 49), .inl (J.2.2.1, 360, .inr (.inl (fun _ => 0))))] H := hP
  have hD : va_D A [((bb 0), .inr (12, [.ref (bb 1), .ref (bb 2), .ref (bb 3), .ref (bb 4), .int 0, .int 0, .int 0, .int 0, .ref (bb 9), .ref (bb 10), .int 0, .ref (bb 12), .int (-1), .int 0, .int 0, .int 0, .int 0, .int 0, .ref (bb 19), .ref (bb 20), .ref (bb 21), .ref (bb 22), .ref (bb 23), .long 0, .long 0, .long 0, .ref (bb 27), .ref (bb 28), .ref (bb 29), .long 0, .int 0, .int (-1), .int 0, .int 0, .int 0, .ref (bb 36), .int 0, .int 0, .ref (bb 39), .ref (bb 40), .int 0, .ref (bb 42), .ref (bb 43), .int 0, .int 0, .int 0, .ref (bb 47), .ref (bb 48), .ref (bb 49), .ref (bb 50)])), ((bb 1), .inl (J.2.1, 22, .inl (upd (fun _ => 0) (20 : Int32).toNatClampNeg 1))), ((bb 2), .inl (J.2.1, 40, .inl (fun _ => 0))), ((bb 3), .inl (J.2.1, 40, .inl (fun _ => 0))), ((bb 4), .inl (J.2.1, 40, .inl (fun _ => 0))), ((bb 10), .inl (J.2.1, 120, .inl (fun _ => 0))), ((bb 21), .inl (J.2.1, 7168, .inl (fun _ => 0))), ((bb 39), .inl (J.2.1, 5, .inl (fun _ => 0))), ((bb 40), .inl (J.2.1, 10, .inl (fun _ => 0))), ((bb 36), .inl (J.2.1, 10, .inl (fun _ => 0))), ((bb 42), .inl (J.2.1, 50, .inl (fun _ => 0))), ((bb 47), .inl (J.2.1, 6, .inl g)), ((bb 48), .inl (J.2.1, 6, .inl (fun _ => 0))), ((bb 49), .inl (J.2.2.1, 360, .inr (.inl (fun _ => 0))))] := hD
  refine W.widen (k := 600000) (n := 7302250) (Nat.le_of_ble_eq_true rfl) (Nat.le_of_ble_eq_true rfl) ?_
  refine lv_aload_n hx hb dL_law_974 rfl (lv_at hl 1 rfl) ?_
  refine gw_i (wc := [((bb 0), .inr (12, [.ref (bb 1), .ref (bb 2), .ref (bb 3), .ref (bb 4), .int 0, .int 0, .int 0, .int 0, .ref (bb 9), .ref (bb 10), .int 0, .ref (bb 12), .int (-1), .int 0, .int 0, .int 0, .int 0, .int 0, .ref (bb 19), .ref (bb 20), .ref (bb 21), .ref (bb 22), .ref (bb 23), .long 0, .long 0, .long 0, .ref (bb 27), .ref (bb 28), .ref (bb 29), .long 0, .int 0, .int (-1), .int 0, .int 0, .int 0, .ref (bb 36), .int 0, .int 0, .ref (bb 39), .ref (bb 40), .int 0, .ref (bb 42), .ref (bb 43), .int 0, .int 0, .int 0, .ref (bb 47), .ref (bb 48), .ref (bb 49), .ref (bb 50)])), ((bb 39), .inl (J.2.1, 5, .inl (fun _ => 0))), ((bb 40), .inl (J.2.1, 10, .inl (fun _ => 0))), ((bb 36), .inl (J.2.1, 10, .inl (fun _ => 0)))]) (wr := [((bb 1), .inl (J.2.1, 22, .inl (upd (fun _ => 0) (20 : Int32).toNatClampNeg 1))), ((bb 2), .inl (J.2.1, 40, .inl (fun _ => 0))), ((bb 3), .inl (J.2.1, 40, .inl (fun _ => 0))), ((bb 4), .inl (J.2.1, 40, .inl (fun _ => 0))), ((bb 10), .inl (J.2.1, 120, .inl (fun _ => 0))), ((bb 21), .inl (J.2.1, 7168, .inl (fun _ => 0))), ((bb 42), .inl (J.2.1, 50, .inl (fun _ => 0))), ((bb 47), .inl (J.2.1, 6, .inl g)), ((bb 48), .inl (J.2.1, 6, .inl (fun _ => 0))), ((bb 49), .inl (J.2.2.1, 360, .inr (.inl (fun _ => 0))))]) hP hD hS hA [0, 7, 8, 9] [1, 2, 3, 4, 5, 6, 10, 11, 12, 13] rfl rfl (by decide) (by decide) (wn_V (As := []) (rest := [.int (-2)]) hx hb hml hown hts hK (m_image l J _ bb) kV_RL_127 (hP.sub (ws' := [((bb 0), .inr (12, [.ref (bb 1), .ref (bb 2), .ref (bb 3), .ref (bb 4), .int 0, .int 0, .int 0, .int 0, .ref (bb 9), .ref (bb 10), .int 0, .ref (bb 12), .int (-1), .int 0, .int 0, .int 0, .int 0, .int 0, .ref (bb 19), .ref (bb 20), .ref (bb 21), .ref (bb 22), .ref (bb 23), .long 0, .long 0, .long 0, .ref (bb 27), .ref (bb 28), .ref (bb 29), .long 0, .int 0, .int (-1), .int 0, .int 0, .int 0, .ref (bb 36), .int 0, .int 0, .ref (bb 39), .ref (bb 40), .int 0, .ref (bb 42), .ref (bb 43), .int 0, .int 0, .int 0, .ref (bb 47), .ref (bb 48), .ref (bb 49), .ref (bb 50)])), ((bb 39), .inl (J.2.1, 5, .inl (fun _ => 0))), ((bb 40), .inl (J.2.1, 10, .inl (fun _ => 0))), ((bb 36), .inl (J.2.1, 10, .inl (fun _ => 0)))]) [0, 7, 8, 9] rfl) ((hD.sub (ws' := [((bb 0), .inr (12, [.ref (bb 1), .ref (bb 2), .ref (bb 3), .ref (bb 4), .int 0, .int 0, .int 0, .int 0, .ref (bb 9), .ref (bb 10), .int 0, .ref (bb 12), .int (-1), .int 0, .int 0, .int 0, .int 0, .int 0, .ref (bb 19), .ref (bb 20), .ref (bb 21), .ref (bb 22), .ref (bb 23), .long 0, .long 0, .long 0, .ref (bb 27), .ref (bb 28), .ref (bb 29), .long 0, .int 0, .int (-1), .int 0, .int 0, .int 0, .ref (bb 36), .int 0, .int 0, .ref (bb 39), .ref (bb 40), .int 0, .ref (bb 42), .ref (bb 43), .int 0, .int 0, .int 0, .ref (bb 47), .ref (bb 48), .ref (bb 49), .ref (bb 50)])), ((bb 39), .inl (J.2.1, 5, .inl (fun _ => 0))), ((bb 40), .inl (J.2.1, 10, .inl (fun _ => 0))), ((bb 36), .inl (J.2.1, 10, .inl (fun _ => 0)))]) [0, 7, 8, 9] (by decide) rfl).weaken (fun _ _ _ _ => trivial)) rfl rfl rfl ⟨Nat.le_of_ble_eq_true rfl, Nat.le_of_ble_eq_true rfl⟩ rfl rfl rfl hl.1 rfl (Nat.le_of_ble_eq_true rfl) ⟨Nat.le_of_ble_eq_true rfl, Nat.le_of_ble_eq_true rfl⟩ dL_law_975) (fun r4 u3 H locs hw hP hD hS => ?_)
  subst hw
  have hP : va_P J.1 cls [((bb 1), .inl (J.2.1, 22, .inl (upd (fun _ => 0) (20 : Int32).toNatClampNeg 1))), ((bb 2), .inl (J.2.1, 40, .inl (fun _ => 0))), ((bb 3), .inl (J.2.1, 40, .inl (fun _ => 0))), ((bb 4), .inl (J.2.1, 40, .inl (fun _ => 0))), ((bb 10), .inl (J.2.1, 120, .inl (fun _ => 0))), ((bb 21), .inl (J.2.1, 7168, .inl (fun _ => 0))), ((bb 42), .inl (J.2.1, 50, .inl (fun _ => 0))), ((bb 47), .inl (J.2.1, 6, .inl g)), ((bb 48), .inl (J.2.1, 6, .inl (fun _ => 0))), ((bb 49), .inl (J.2.2.1, 360, .inr (.inl (fun _ => 0))))] H := hP
  have hD : va_D A [((bb 1), .inl (J.2.1, 22, .inl (upd (fun _ => 0) (20 : Int32).toNatClampNeg 1))), ((bb 2), .inl (J.2.1, 40, .inl (fun _ => 0))), ((bb 3), .inl (J.2.1, 40, .inl (fun _ => 0))), ((bb 4), .inl (J.2.1, 40, .inl (fun _ => 0))), ((bb 10), .inl (J.2.1, 120, .inl (fun _ => 0))), ((bb 21), .inl (J.2.1, 7168, .inl (fun _ => 0))), ((bb 42), .inl (J.2.1, 50, .inl (fun _ => 0))), ((bb 47), .inl (J.2.1, 6, .inl g)), ((bb 48), .inl (J.2.1, 6, .inl (fun _ => 0))), ((bb 49), .inl (J.2.2.1, 360, .inr (.inl (fun _ => 0))))] := hD
  refine W.widen (k := 600000) (n := 7302250) (Nat.le_of_ble_eq_true rfl) (Nat.le_of_ble_eq_true rfl) ?_
  refine lv_icmp_eq (tgt := 1413) hx hb dL_law_978 (by decide) (fun _ => ?_) (fun c => absurd c (by decide))
  exact law_end E0 hS (lv_sub hl [0, 1, 2, 3] rfl)
theorem dL_law_983 : decode cL_law 983 = .ok (.aload_n 1, 1) := by decide +kernel
theorem q_1119 : Cond.methodLink RL 128 yX11_back ∈ lw_g := mem_q 1119 (by decide +kernel) rfl
theorem q_1120 : Cond.instanceMethod yX11_back ∈ lw_g := mem_q 1120 (by decide +kernel) rfl
theorem q_1121 : Cond.selects RX11 yX11_back yX11_back ∈ lw_g := mem_q 1121 (by decide +kernel) rfl
theorem q_1122 : Cond.code yX11_back cX11_back 1 (some .int) ∈ lw_g := mem_q 1122 (by decide +kernel) rfl
theorem kV_RL_128 : CV RL 128 RX11 yX11_back cX11_back 1 (some .int) 0 := cv_of q_1119 q_1120 q_1121 q_103 q_1122 (by decide +kernel)
theorem dL_law_984 : decode cL_law 984 = .ok (.invokevirtual 128, 3) := by decide +kernel
theorem dL_law_987 : decode cL_law 987 = .ok (.aload_n 2, 1) := by decide +kernel
theorem q_1757 : Cond.methodLink RL 131 yX12_back ∈ lw_g := mem_q 1757 (by decide +kernel) rfl
theorem q_1758 : Cond.instanceMethod yX12_back ∈ lw_g := mem_q 1758 (by decide +kernel) rfl
theorem q_1759 : Cond.selects RX12 yX12_back yX12_back ∈ lw_g := mem_q 1759 (by decide +kernel) rfl
theorem q_1760 : Cond.code yX12_back cX12_back 2 (some .int) ∈ lw_g := mem_q 1760 (by decide +kernel) rfl
theorem kV_RL_131 : CV RL 131 RX12 yX12_back cX12_back 2 (some .int) 0 := cv_of q_1757 q_1758 q_1759 q_115 q_1760 (by decide +kernel)
theorem dL_law_988 : decode cL_law 988 = .ok (.invokevirtual 131, 3) := by decide +kernel
theorem dL_law_991 : decode cL_law 991 = .ok (.if_icmp .eq 422, 3) := by decide +kernel
set_option maxHeartbeats 4000000 in
set_option maxRecDepth 100000 in
/-- back -/
theorem lk_27 {p : Program} {l : Launch} {e : Env} {s : State} {m : MethodId} {below : List Frame} {meth : Method} {c : Code} {b : Nat} {xs : Nat → Int32} {J : va_J9} {A : Nat → Prop} {H : Heap} {locs : List Loc} {ls : Array Slot} {a bb : Nat → Nat} {f : Nat → Option Nat} {g : Nat → Int32} (E0 : LE p s m meth c b 6 xs J A) (hfx : ∀ j, j < 6 → f j = some (a (41 + j))) (hg : ∀ k, k < 6 → g k = -1) (hP : va_P J.1 cls (xW J a f ++ mW J bb g) H) (hD : va_D A (xW J a f ++ mW J bb g)) (hS : va_S A s.heap H locs) (hl : lv_has ls 4 [(3, .int 0), (2, .ref (bb 0)), (1, .ref (a 0)), (0, .ref b)]) : W p l e room_1 s m #[Value.ref b] below meth c H locs 600000 7302250 (lw_Z below #[Value.ref b] s) (F0 m 983 ls []) := by
  obtain ⟨hx, hb, hr, hml, hown, hts, hX, hbl, hlk, hK, hA, hAs⟩ := id E0
  have hbA : ¬ A b := fun h => absurd (hAs b h) (Nat.not_le.mpr hbl)
  refine lv_aload_n hx hb dL_law_983 rfl (lv_at hl 2 rfl) ?_
  refine go_i (rn_V (As := []) (rest := []) hx hb hml hown hts hK (c_back l J a) kV_RL_128 (hP.sub (ws' := [((a 0), .inr (11, [.ref (a 1), .ref (a 6), .ref (a 10), .ref (a 15), .ref (a 17), .ref (a 22), .ref (a 23), .ref (a 30), .ref (a 31), .ref (a 34), .int 0, .ref (a 37), .ref (a 40)]))]) [0] rfl) rfl rfl rfl ⟨Nat.le_of_ble_eq_true rfl, Nat.le_of_ble_eq_true rfl⟩ rfl rfl rfl hl.1 rfl (Nat.le_of_ble_eq_true rfl) ⟨Nat.le_of_ble_eq_true rfl, Nat.le_of_ble_eq_true rfl⟩ dL_law_984) ?_
  refine lv_aload_n hx hb dL_law_987 rfl (lv_at hl 1 rfl) ?_
  refine go_i (rn_V (As := []) (rest := [.int (-5)]) hx hb hml hown hts hK (m_back l J bb) kV_RL_131 (hP.sub (ws' := [((bb 0), .inr (12, [.ref (bb 1), .ref (bb 2), .ref (bb 3), .ref (bb 4), .int 0, .int 0, .int 0, .int 0, .ref (bb 9), .ref (bb 10), .int 0, .ref (bb 12), .int (-1), .int 0, .int 0, .int 0, .int 0, .int 0, .ref (bb 19), .ref (bb 20), .ref (bb 21), .ref (bb 22), .ref (bb 23), .long 0, .long 0, .long 0, .ref (bb 27), .ref (bb 28), .ref (bb 29), .long 0, .int 0, .int (-1), .int 0, .int 0, .int 0, .ref (bb 36), .int 0, .int 0, .ref (bb 39), .ref (bb 40), .int 0, .ref (bb 42), .ref (bb 43), .int 0, .int 0, .int 0, .ref (bb 47), .ref (bb 48), .ref (bb 49), .ref (bb 50)]))]) [39] rfl) rfl rfl rfl ⟨Nat.le_of_ble_eq_true rfl, Nat.le_of_ble_eq_true rfl⟩ rfl rfl rfl hl.1 rfl (Nat.le_of_ble_eq_true rfl) ⟨Nat.le_of_ble_eq_true rfl, Nat.le_of_ble_eq_true rfl⟩ dL_law_988) ?_
  refine lv_icmp_eq (tgt := 1413) hx hb dL_law_991 (by decide) (fun _ => ?_) (fun c => absurd c (by decide))
  exact law_end E0 hS (lv_sub hl [0, 1, 2, 3] rfl)
theorem dL_law_996 : decode cL_law 996 = .ok (.aload_n 1, 1) := by decide +kernel
theorem q_1123 : Cond.methodLink RL 132 yX11_undo ∈ lw_g := mem_q 1123 (by decide +kernel) rfl
theorem q_1124 : Cond.instanceMethod yX11_undo ∈ lw_g := mem_q 1124 (by decide +kernel) rfl
theorem q_1125 : Cond.selects RX11 yX11_undo yX11_undo ∈ lw_g := mem_q 1125 (by decide +kernel) rfl
theorem q_1126 : Cond.code yX11_undo cX11_undo 2 (some .int) ∈ lw_g := mem_q 1126 (by decide +kernel) rfl
theorem kV_RL_132 : CV RL 132 RX11 yX11_undo cX11_undo 2 (some .int) 0 := cv_of q_1123 q_1124 q_1125 q_103 q_1126 (by decide +kernel)
theorem dL_law_997 : decode cL_law 997 = .ok (.invokevirtual 132, 3) := by decide +kernel
theorem dL_law_1000 : decode cL_law 1000 = .ok (.aload_n 2, 1) := by decide +kernel
theorem q_1417 : Cond.methodLink RL 135 yX12_undo ∈ lw_g := mem_q 1417 (by decide +kernel) rfl
theorem q_1418 : Cond.instanceMethod yX12_undo ∈ lw_g := mem_q 1418 (by decide +kernel) rfl
theorem q_1419 : Cond.selects RX12 yX12_undo yX12_undo ∈ lw_g := mem_q 1419 (by decide +kernel) rfl
theorem q_1420 : Cond.code yX12_undo cX12_undo 1 (some .int) ∈ lw_g := mem_q 1420 (by decide +kernel) rfl
theorem kV_RL_135 : CV RL 135 RX12 yX12_undo cX12_undo 1 (some .int) 0 := cv_of q_1417 q_1418 q_1419 q_115 q_1420 (by decide +kernel)
theorem dL_law_1001 : decode cL_law 1001 = .ok (.invokevirtual 135, 3) := by decide +kernel
theorem dL_law_1004 : decode cL_law 1004 = .ok (.if_icmp .eq 409, 3) := by decide +kernel
set_option maxHeartbeats 4000000 in
set_option maxRecDepth 100000 in
/-- undo -/
theorem lk_28 {p : Program} {l : Launch} {e : Env} {s : State} {m : MethodId} {below : List Frame} {meth : Method} {c : Code} {b : Nat} {xs : Nat → Int32} {J : va_J9} {A : Nat → Prop} {H : Heap} {locs : List Loc} {ls : Array Slot} {a bb : Nat → Nat} {f : Nat → Option Nat} {g : Nat → Int32} (E0 : LE p s m meth c b 6 xs J A) (hfx : ∀ j, j < 6 → f j = some (a (41 + j))) (hg : ∀ k, k < 6 → g k = -1) (hP : va_P J.1 cls (xW J a f ++ mW J bb g) H) (hD : va_D A (xW J a f ++ mW J bb g)) (hS : va_S A s.heap H locs) (hl : lv_has ls 4 [(3, .int 0), (2, .ref (bb 0)), (1, .ref (a 0)), (0, .ref b)]) : W p l e room_1 s m #[Value.ref b] below meth c H locs 600000 7302250 (lw_Z below #[Value.ref b] s) (F0 m 996 ls []) := by
  obtain ⟨hx, hb, hr, hml, hown, hts, hX, hbl, hlk, hK, hA, hAs⟩ := id E0
  have hbA : ¬ A b := fun h => absurd (hAs b h) (Nat.not_le.mpr hbl)
  refine lv_aload_n hx hb dL_law_996 rfl (lv_at hl 2 rfl) ?_
  refine go_i (rn_V (As := []) (rest := []) hx hb hml hown hts hK (c_undo l J a) kV_RL_132 (hP.sub (ws' := [((a 0), .inr (11, [.ref (a 1), .ref (a 6), .ref (a 10), .ref (a 15), .ref (a 17), .ref (a 22), .ref (a 23), .ref (a 30), .ref (a 31), .ref (a 34), .int 0, .ref (a 37), .ref (a 40)])), ((a 10), .inr (2, [.ref (a 6), .ref (a 11), .ref (a 12), .ref (a 13), .ref (a 14), .int 0, .int 0])), ((a 6), .inr (10, [.ref (a 1), .ref (a 7), .ref (a 8), .ref (a 9), .int 0, .int 0, .int 0, .int 0, .int 1, .int 0, .int 0]))]) [0, 8, 4] rfl) rfl rfl rfl ⟨Nat.le_of_ble_eq_true rfl, Nat.le_of_ble_eq_true rfl⟩ rfl rfl rfl hl.1 rfl (Nat.le_of_ble_eq_true rfl) ⟨Nat.le_of_ble_eq_true rfl, Nat.le_of_ble_eq_true rfl⟩ dL_law_997) ?_
  refine lv_aload_n hx hb dL_law_1000 rfl (lv_at hl 1 rfl) ?_
  refine go_i (rn_V (As := []) (rest := [.int (-5)]) hx hb hml hown hts hK (m_undo l J bb) kV_RL_135 (hP.sub (ws' := [((bb 0), .inr (12, [.ref (bb 1), .ref (bb 2), .ref (bb 3), .ref (bb 4), .int 0, .int 0, .int 0, .int 0, .ref (bb 9), .ref (bb 10), .int 0, .ref (bb 12), .int (-1), .int 0, .int 0, .int 0, .int 0, .int 0, .ref (bb 19), .ref (bb 20), .ref (bb 21), .ref (bb 22), .ref (bb 23), .long 0, .long 0, .long 0, .ref (bb 27), .ref (bb 28), .ref (bb 29), .long 0, .int 0, .int (-1), .int 0, .int 0, .int 0, .ref (bb 36), .int 0, .int 0, .ref (bb 39), .ref (bb 40), .int 0, .ref (bb 42), .ref (bb 43), .int 0, .int 0, .int 0, .ref (bb 47), .ref (bb 48), .ref (bb 49), .ref (bb 50)]))]) [39] rfl) rfl rfl rfl ⟨Nat.le_of_ble_eq_true rfl, Nat.le_of_ble_eq_true rfl⟩ rfl rfl rfl hl.1 rfl (Nat.le_of_ble_eq_true rfl) ⟨Nat.le_of_ble_eq_true rfl, Nat.le_of_ble_eq_true rfl⟩ dL_law_1001) ?_
  refine lv_icmp_eq (tgt := 1413) hx hb dL_law_1004 (by decide) (fun _ => ?_) (fun c => absurd c (by decide))
  exact law_end E0 hS (lv_sub hl [0, 1, 2, 3] rfl)
theorem dL_law_1009 : decode cL_law 1009 = .ok (.aload_n 1, 1) := by decide +kernel
theorem q_1132 : Cond.methodLink RL 136 yX11_redo ∈ lw_g := mem_q 1132 (by decide +kernel) rfl
theorem q_1133 : Cond.instanceMethod yX11_redo ∈ lw_g := mem_q 1133 (by decide +kernel) rfl
theorem q_1134 : Cond.selects RX11 yX11_redo yX11_redo ∈ lw_g := mem_q 1134 (by decide +kernel) rfl
theorem q_1135 : Cond.code yX11_redo cX11_redo 2 (some .int) ∈ lw_g := mem_q 1135 (by decide +kernel) rfl
theorem kV_RL_136 : CV RL 136 RX11 yX11_redo cX11_redo 2 (some .int) 0 := cv_of q_1132 q_1133 q_1134 q_103 q_1135 (by decide +kernel)
theorem dL_law_1010 : decode cL_law 1010 = .ok (.invokevirtual 136, 3) := by decide +kernel
theorem dL_law_1013 : decode cL_law 1013 = .ok (.aload_n 2, 1) := by decide +kernel
theorem q_1421 : Cond.methodLink RL 139 yX12_redo ∈ lw_g := mem_q 1421 (by decide +kernel) rfl
theorem q_1422 : Cond.instanceMethod yX12_redo ∈ lw_g := mem_q 1422 (by decide +kernel) rfl
theorem q_1423 : Cond.selects RX12 yX12_redo yX12_redo ∈ lw_g := mem_q 1423 (by decide +kernel) rfl
theorem q_1424 : Cond.code yX12_redo cX12_redo 1 (some .int) ∈ lw_g := mem_q 1424 (by decide +kernel) rfl
theorem kV_RL_139 : CV RL 139 RX12 yX12_redo cX12_redo 1 (some .int) 0 := cv_of q_1421 q_1422 q_1423 q_115 q_1424 (by decide +kernel)
theorem dL_law_1014 : decode cL_law 1014 = .ok (.invokevirtual 139, 3) := by decide +kernel
theorem dL_law_1017 : decode cL_law 1017 = .ok (.if_icmp .eq 396, 3) := by decide +kernel
set_option maxHeartbeats 4000000 in
set_option maxRecDepth 100000 in
/-- redo -/
theorem lk_29 {p : Program} {l : Launch} {e : Env} {s : State} {m : MethodId} {below : List Frame} {meth : Method} {c : Code} {b : Nat} {xs : Nat → Int32} {J : va_J9} {A : Nat → Prop} {H : Heap} {locs : List Loc} {ls : Array Slot} {a bb : Nat → Nat} {f : Nat → Option Nat} {g : Nat → Int32} (E0 : LE p s m meth c b 6 xs J A) (hfx : ∀ j, j < 6 → f j = some (a (41 + j))) (hg : ∀ k, k < 6 → g k = -1) (hP : va_P J.1 cls (xW J a f ++ mW J bb g) H) (hD : va_D A (xW J a f ++ mW J bb g)) (hS : va_S A s.heap H locs) (hl : lv_has ls 4 [(3, .int 0), (2, .ref (bb 0)), (1, .ref (a 0)), (0, .ref b)]) : W p l e room_1 s m #[Value.ref b] below meth c H locs 600000 7302250 (lw_Z below #[Value.ref b] s) (F0 m 1009 ls []) := by
  obtain ⟨hx, hb, hr, hml, hown, hts, hX, hbl, hlk, hK, hA, hAs⟩ := id E0
  have hbA : ¬ A b := fun h => absurd (hAs b h) (Nat.not_le.mpr hbl)
  refine lv_aload_n hx hb dL_law_1009 rfl (lv_at hl 2 rfl) ?_
  refine go_i (rn_V (As := []) (rest := []) hx hb hml hown hts hK (c_redo l J a) kV_RL_136 (hP.sub (ws' := [((a 0), .inr (11, [.ref (a 1), .ref (a 6), .ref (a 10), .ref (a 15), .ref (a 17), .ref (a 22), .ref (a 23), .ref (a 30), .ref (a 31), .ref (a 34), .int 0, .ref (a 37), .ref (a 40)])), ((a 10), .inr (2, [.ref (a 6), .ref (a 11), .ref (a 12), .ref (a 13), .ref (a 14), .int 0, .int 0])), ((a 6), .inr (10, [.ref (a 1), .ref (a 7), .ref (a 8), .ref (a 9), .int 0, .int 0, .int 0, .int 0, .int 1, .int 0, .int 0]))]) [0, 8, 4] rfl) rfl rfl rfl ⟨Nat.le_of_ble_eq_true rfl, Nat.le_of_ble_eq_true rfl⟩ rfl rfl rfl hl.1 rfl (Nat.le_of_ble_eq_true rfl) ⟨Nat.le_of_ble_eq_true rfl, Nat.le_of_ble_eq_true rfl⟩ dL_law_1010) ?_
  refine lv_aload_n hx hb dL_law_1013 rfl (lv_at hl 1 rfl) ?_
  refine go_i (rn_V (As := []) (rest := [.int (-5)]) hx hb hml hown hts hK (m_redo l J bb) kV_RL_139 (hP.sub (ws' := [((bb 0), .inr (12, [.ref (bb 1), .ref (bb 2), .ref (bb 3), .ref (bb 4), .int 0, .int 0, .int 0, .int 0, .ref (bb 9), .ref (bb 10), .int 0, .ref (bb 12), .int (-1), .int 0, .int 0, .int 0, .int 0, .int 0, .ref (bb 19), .ref (bb 20), .ref (bb 21), .ref (bb 22), .ref (bb 23), .long 0, .long 0, .long 0, .ref (bb 27), .ref (bb 28), .ref (bb 29), .long 0, .int 0, .int (-1), .int 0, .int 0, .int 0, .ref (bb 36), .int 0, .int 0, .ref (bb 39), .ref (bb 40), .int 0, .ref (bb 42), .ref (bb 43), .int 0, .int 0, .int 0, .ref (bb 47), .ref (bb 48), .ref (bb 49), .ref (bb 50)]))]) [39] rfl) rfl rfl rfl ⟨Nat.le_of_ble_eq_true rfl, Nat.le_of_ble_eq_true rfl⟩ rfl rfl rfl hl.1 rfl (Nat.le_of_ble_eq_true rfl) ⟨Nat.le_of_ble_eq_true rfl, Nat.le_of_ble_eq_true rfl⟩ dL_law_1014) ?_
  refine lv_icmp_eq (tgt := 1413) hx hb dL_law_1017 (by decide) (fun _ => ?_) (fun c => absurd c (by decide))
  exact law_end E0 hS (lv_sub hl [0, 1, 2, 3] rfl)
