theorem dL_law_498 : decode cL_law 498 = .ok (.aload_n 1, 1) := by decide +kernel
theorem dL_law_499 : decode cL_law 499 = .ok (.aload_n 0, 1) := by decide +kernel
theorem dL_law_500 : decode cL_law 500 = .ok (.iload_n 3, 1) := by decide +kernel
theorem dL_law_501 : decode cL_law 501 = .ok (.iconst 1, 1) := by decide +kernel
theorem dL_law_502 : decode cL_law 502 = .ok (.iadd, 1) := by decide +kernel
theorem dL_law_503 : decode cL_law 503 = .ok (.iaload, 1) := by decide +kernel
theorem dL_law_504 : decode cL_law 504 = .ok (.aload_n 0, 1) := by decide +kernel
theorem dL_law_505 : decode cL_law 505 = .ok (.iload_n 3, 1) := by decide +kernel
theorem dL_law_506 : decode cL_law 506 = .ok (.iconst 2, 1) := by decide +kernel
theorem dL_law_507 : decode cL_law 507 = .ok (.iadd, 1) := by decide +kernel
theorem dL_law_508 : decode cL_law 508 = .ok (.iaload, 1) := by decide +kernel
theorem q_796 : Cond.methodLink RL 57 yX11_ahead ∈ lw_g := mem_q 796 (by decide +kernel) rfl
theorem q_797 : Cond.instanceMethod yX11_ahead ∈ lw_g := mem_q 797 (by decide +kernel) rfl
theorem q_798 : Cond.selects RX11 yX11_ahead yX11_ahead ∈ lw_g := mem_q 798 (by decide +kernel) rfl
theorem q_799 : Cond.code yX11_ahead cX11_ahead 4 (some .int) ∈ lw_g := mem_q 799 (by decide +kernel) rfl
theorem kV_RL_57 : CV RL 57 RX11 yX11_ahead cX11_ahead 4 (some .int) 2 := cv_of q_796 q_797 q_798 q_103 q_799 (by decide +kernel)
theorem dL_law_509 : decode cL_law 509 = .ok (.invokevirtual 57, 3) := by decide +kernel
theorem dL_law_512 : decode cL_law 512 = .ok (.aload_n 2, 1) := by decide +kernel
theorem dL_law_513 : decode cL_law 513 = .ok (.aload_n 0, 1) := by decide +kernel
theorem dL_law_514 : decode cL_law 514 = .ok (.iload_n 3, 1) := by decide +kernel
theorem dL_law_515 : decode cL_law 515 = .ok (.iconst 1, 1) := by decide +kernel
theorem dL_law_516 : decode cL_law 516 = .ok (.iadd, 1) := by decide +kernel
theorem dL_law_517 : decode cL_law 517 = .ok (.iaload, 1) := by decide +kernel
theorem dL_law_518 : decode cL_law 518 = .ok (.aload_n 0, 1) := by decide +kernel
theorem dL_law_519 : decode cL_law 519 = .ok (.iload_n 3, 1) := by decide +kernel
theorem dL_law_520 : decode cL_law 520 = .ok (.iconst 2, 1) := by decide +kernel
theorem dL_law_521 : decode cL_law 521 = .ok (.iadd, 1) := by decide +kernel
theorem dL_law_522 : decode cL_law 522 = .ok (.iaload, 1) := by decide +kernel
theorem q_1597 : Cond.methodLink RL 60 yX12_ahead ∈ lw_g := mem_q 1597 (by decide +kernel) rfl
theorem q_1598 : Cond.instanceMethod yX12_ahead ∈ lw_g := mem_q 1598 (by decide +kernel) rfl
theorem q_1599 : Cond.selects RX12 yX12_ahead yX12_ahead ∈ lw_g := mem_q 1599 (by decide +kernel) rfl
theorem q_1600 : Cond.code yX12_ahead cX12_ahead 10 (some .int) ∈ lw_g := mem_q 1600 (by decide +kernel) rfl
theorem kV_RL_60 : CV RL 60 RX12 yX12_ahead cX12_ahead 10 (some .int) 2 := cv_of q_1597 q_1598 q_1599 q_115 q_1600 (by decide +kernel)
theorem dL_law_523 : decode cL_law 523 = .ok (.invokevirtual 60, 3) := by decide +kernel
theorem dL_law_526 : decode cL_law 526 = .ok (.if_icmp .eq 887, 3) := by decide +kernel
set_option maxHeartbeats 4000000 in
set_option maxRecDepth 100000 in
/-- ahead -/
theorem lk_10 {p : Program} {l : Launch} {e : Env} {s : State} {m : MethodId} {below : List Frame} {meth : Method} {c : Code} {b : Nat} {xs : Nat → Int32} {J : va_J9} {A : Nat → Prop} {H : Heap} {locs : List Loc} {ls : Array Slot} {a bb : Nat → Nat} {f : Nat → Option Nat} {g : Nat → Int32} (E0 : LE p s m meth c b 6 xs J A) (hfx : ∀ j, j < 6 → f j = some (a (41 + j))) (hg : ∀ k, k < 6 → g k = -1) (hP : va_P J.1 cls (xW J a f ++ mW J bb g) H) (hD : va_D A (xW J a f ++ mW J bb g)) (hS : va_S A s.heap H locs) (hl : lv_has ls 4 [(3, .int 0), (2, .ref (bb 0)), (1, .ref (a 0)), (0, .ref b)]) : W p l e room_1 s m #[Value.ref b] below meth c H locs 600000 7302250 (lw_Z below #[Value.ref b] s) (F0 m 498 ls []) := by
  obtain ⟨hx, hb, hr, hml, hown, hts, hX, hbl, hlk, hK, hA, hAs⟩ := id E0
  have hbA : ¬ A b := fun h => absurd (hAs b h) (Nat.not_le.mpr hbl)
  obtain ⟨x1, e1⟩ : ∃ z : Int32, z = xs 1 := ⟨_, rfl⟩
  obtain ⟨x2, e2⟩ : ∃ z : Int32, z = xs 2 := ⟨_, rfl⟩
  have rg_x1 := i_rng x1
  have rg_x2 := i_rng x2
  by_cases hd : 0 ≤ x1.toInt ∧ x1.toInt / 10 ≤ 5 ∧ x1.toInt % 10 ≤ 5
  · have pA : (x1 / 10).toInt = x1.toInt / 10 := i_div rfl (by decide) (by omega) (by omega)
    have pB : (x1 - x1 / 10 * 10).toInt = x1.toInt % 10 := i_rem rfl (by decide) (by omega) (by omega)
    obtain ⟨s2, hg2⟩ : ∃ s2 : Nat, f (x1 - x1 / 10 * 10).toNatClampNeg = some s2 := ⟨_, hfx _ (by show (Int32.toInt _).toNat < 6; omega)⟩
    obtain ⟨sh, ce, hf, hP, hD⟩ := shx (d := x1 / 10) hfx hP hD ⟨by omega, by omega⟩
    refine lv_aload_n hx hb dL_law_498 rfl (lv_at hl 2 rfl) ?_
    refine lv_aload_n hx hb dL_law_499 rfl (lv_at hl 3 rfl) ?_
    refine lv_iload_n hx hb dL_law_500 rfl (lv_at hl 0 rfl) ?_
    refine lv_iconst (v := 1) hx hb dL_law_501 (by decide) ?_
    refine lv_iadd hx hb dL_law_502 ?_
    refine top_i (y := 1) (by decide) ?_
    refine va_sld hx hb hX hbl hbA hS (i_in (a := 1) (by decide) (by omega) (by omega)) dL_law_503 ?_
    refine top_i (y := x1) e1.symm ?_
    refine lv_aload_n hx hb dL_law_504 rfl (lv_at hl 3 rfl) ?_
    refine lv_iload_n hx hb dL_law_505 rfl (lv_at hl 0 rfl) ?_
    refine lv_iconst (v := 2) hx hb dL_law_506 (by decide) ?_
    refine lv_iadd hx hb dL_law_507 ?_
    refine top_i (y := 2) (by decide) ?_
    refine va_sld hx hb hX hbl hbA hS (i_in (a := 2) (by decide) (by omega) (by omega)) dL_law_508 ?_
    refine top_i (y := x2) e2.symm ?_
    refine go_i (rn_V (As := [.int x1, .int x2]) (rest := []) hx hb hml hown hts hK (c_ahead_in l J a f sh ce s2 x1 x2 hd hf hg2) kV_RL_57 (hP.sub (ws' := [((a 0), .inr (11, [.ref (a 1), .ref (a 6), .ref (a 10), .ref (a 15), .ref (a 17), .ref (a 22), .ref (a 23), .ref (a 30), .ref (a 31), .ref (a 34), .int 0, .ref (a 37), .ref (a 40)])), ((a 40), .inl (J.2.2.2, 6, .inr (.inr (.inr (.inr f))))), (sh, .inr (9, [.ref ce, .int 0, .int 0, .int 0, .int 0]))]) [0, 1, 2] rfl) rfl rfl rfl ⟨Nat.le_of_ble_eq_true rfl, Nat.le_of_ble_eq_true rfl⟩ rfl rfl rfl hl.1 rfl (Nat.le_of_ble_eq_true rfl) ⟨Nat.le_of_ble_eq_true rfl, Nat.le_of_ble_eq_true rfl⟩ dL_law_509) ?_
    refine lv_aload_n hx hb dL_law_512 rfl (lv_at hl 1 rfl) ?_
    refine lv_aload_n hx hb dL_law_513 rfl (lv_at hl 3 rfl) ?_
    refine lv_iload_n hx hb dL_law_514 rfl (lv_at hl 0 rfl) ?_
    refine lv_iconst (v := 1) hx hb dL_law_515 (by decide) ?_
    refine lv_iadd hx hb dL_law_516 ?_
    refine top_i (y := 1) (by decide) ?_
    refine va_sld hx hb hX hbl hbA hS (i_in (a := 1) (by decide) (by omega) (by omega)) dL_law_517 ?_
    refine top_i (y := x1) e1.symm ?_
    refine lv_aload_n hx hb dL_law_518 rfl (lv_at hl 3 rfl) ?_
    refine lv_iload_n hx hb dL_law_519 rfl (lv_at hl 0 rfl) ?_
    refine lv_iconst (v := 2) hx hb dL_law_520 (by decide) ?_
    refine lv_iadd hx hb dL_law_521 ?_
    refine top_i (y := 2) (by decide) ?_
    refine va_sld hx hb hX hbl hbA hS (i_in (a := 2) (by decide) (by omega) (by omega)) dL_law_522 ?_
    refine top_i (y := x2) e2.symm ?_
    refine go_i (rn_V (As := [.int x1, .int x2]) (rest := [.int (sp_two (x1.toInt) (x2.toInt) (1))]) hx hb hml hown hts hK (m_ahead l J bb g x1 x2 hg) kV_RL_60 (hP.sub (ws' := [((bb 0), .inr (12, [.ref (bb 1), .ref (bb 2), .ref (bb 3), .ref (bb 4), .int 0, .int 0, .int 0, .int 0, .ref (bb 9), .ref (bb 10), .int 0, .ref (bb 12), .int (-1), .int 0, .int 0, .int 0, .int 0, .int 0, .ref (bb 19), .ref (bb 20), .ref (bb 21), .ref (bb 22), .ref (bb 23), .long 0, .long 0, .long 0, .ref (bb 27), .ref (bb 28), .ref (bb 29), .long 0, .int 0, .int (-1), .int 0, .int 0, .int 0, .ref (bb 36), .int 0, .int 0, .ref (bb 39), .ref (bb 40), .int 0, .ref (bb 42), .ref (bb 43), .int 0, .int 0, .int 0, .ref (bb 47), .ref (bb 48), .ref (bb 49), .ref (bb 50)])), ((bb 47), .inl (J.2.1, 6, .inl g))]) [5, 16] rfl) rfl rfl rfl ⟨Nat.le_of_ble_eq_true rfl, Nat.le_of_ble_eq_true rfl⟩ rfl rfl rfl hl.1 rfl (Nat.le_of_ble_eq_true rfl) ⟨Nat.le_of_ble_eq_true rfl, Nat.le_of_ble_eq_true rfl⟩ dL_law_523) ?_
    refine lv_icmp_eq (tgt := 1413) hx hb dL_law_526 (by decide) (fun _ => ?_) (fun c => absurd rfl c)
    exact law_end E0 hS (lv_sub hl [0, 1, 2, 3] rfl)
  · refine lv_aload_n hx hb dL_law_498 rfl (lv_at hl 2 rfl) ?_
    refine lv_aload_n hx hb dL_law_499 rfl (lv_at hl 3 rfl) ?_
    refine lv_iload_n hx hb dL_law_500 rfl (lv_at hl 0 rfl) ?_
    refine lv_iconst (v := 1) hx hb dL_law_501 (by decide) ?_
    refine lv_iadd hx hb dL_law_502 ?_
    refine top_i (y := 1) (by decide) ?_
    refine va_sld hx hb hX hbl hbA hS (i_in (a := 1) (by decide) (by omega) (by omega)) dL_law_503 ?_
    refine top_i (y := x1) e1.symm ?_
    refine lv_aload_n hx hb dL_law_504 rfl (lv_at hl 3 rfl) ?_
    refine lv_iload_n hx hb dL_law_505 rfl (lv_at hl 0 rfl) ?_
    refine lv_iconst (v := 2) hx hb dL_law_506 (by decide) ?_
    refine lv_iadd hx hb dL_law_507 ?_
    refine top_i (y := 2) (by decide) ?_
    refine va_sld hx hb hX hbl hbA hS (i_in (a := 2) (by decide) (by omega) (by omega)) dL_law_508 ?_
    refine top_i (y := x2) e2.symm ?_
    refine go_i (rn_V (As := [.int x1, .int x2]) (rest := []) hx hb hml hown hts hK (c_ahead_out l J a x1 x2 hd) kV_RL_57 (hP.sub (ws' := [((a 0), .inr (11, [.ref (a 1), .ref (a 6), .ref (a 10), .ref (a 15), .ref (a 17), .ref (a 22), .ref (a 23), .ref (a 30), .ref (a 31), .ref (a 34), .int 0, .ref (a 37), .ref (a 40)]))]) [0] rfl) rfl rfl rfl ⟨Nat.le_of_ble_eq_true rfl, Nat.le_of_ble_eq_true rfl⟩ rfl rfl rfl hl.1 rfl (Nat.le_of_ble_eq_true rfl) ⟨Nat.le_of_ble_eq_true rfl, Nat.le_of_ble_eq_true rfl⟩ dL_law_509) ?_
    refine lv_aload_n hx hb dL_law_512 rfl (lv_at hl 1 rfl) ?_
    refine lv_aload_n hx hb dL_law_513 rfl (lv_at hl 3 rfl) ?_
    refine lv_iload_n hx hb dL_law_514 rfl (lv_at hl 0 rfl) ?_
    refine lv_iconst (v := 1) hx hb dL_law_515 (by decide) ?_
    refine lv_iadd hx hb dL_law_516 ?_
    refine top_i (y := 1) (by decide) ?_
    refine va_sld hx hb hX hbl hbA hS (i_in (a := 1) (by decide) (by omega) (by omega)) dL_law_517 ?_
    refine top_i (y := x1) e1.symm ?_
    refine lv_aload_n hx hb dL_law_518 rfl (lv_at hl 3 rfl) ?_
    refine lv_iload_n hx hb dL_law_519 rfl (lv_at hl 0 rfl) ?_
    refine lv_iconst (v := 2) hx hb dL_law_520 (by decide) ?_
    refine lv_iadd hx hb dL_law_521 ?_
    refine top_i (y := 2) (by decide) ?_
    refine va_sld hx hb hX hbl hbA hS (i_in (a := 2) (by decide) (by omega) (by omega)) dL_law_522 ?_
    refine top_i (y := x2) e2.symm ?_
    refine go_i (rn_V (As := [.int x1, .int x2]) (rest := [.int (sp_two (x1.toInt) (x2.toInt) (1))]) hx hb hml hown hts hK (m_ahead l J bb g x1 x2 hg) kV_RL_60 (hP.sub (ws' := [((bb 0), .inr (12, [.ref (bb 1), .ref (bb 2), .ref (bb 3), .ref (bb 4), .int 0, .int 0, .int 0, .int 0, .ref (bb 9), .ref (bb 10), .int 0, .ref (bb 12), .int (-1), .int 0, .int 0, .int 0, .int 0, .int 0, .ref (bb 19), .ref (bb 20), .ref (bb 21), .ref (bb 22), .ref (bb 23), .long 0, .long 0, .long 0, .ref (bb 27), .ref (bb 28), .ref (bb 29), .long 0, .int 0, .int (-1), .int 0, .int 0, .int 0, .ref (bb 36), .int 0, .int 0, .ref (bb 39), .ref (bb 40), .int 0, .ref (bb 42), .ref (bb 43), .int 0, .int 0, .int 0, .ref (bb 47), .ref (bb 48), .ref (bb 49), .ref (bb 50)])), ((bb 47), .inl (J.2.1, 6, .inl g))]) [39, 50] rfl) rfl rfl rfl ⟨Nat.le_of_ble_eq_true rfl, Nat.le_of_ble_eq_true rfl⟩ rfl rfl rfl hl.1 rfl (Nat.le_of_ble_eq_true rfl) ⟨Nat.le_of_ble_eq_true rfl, Nat.le_of_ble_eq_true rfl⟩ dL_law_523) ?_
    refine lv_icmp_eq (tgt := 1413) hx hb dL_law_526 (by decide) (fun _ => ?_) (fun c => absurd rfl c)
    exact law_end E0 hS (lv_sub hl [0, 1, 2, 3] rfl)
theorem dL_law_531 : decode cL_law 531 = .ok (.aload_n 1, 1) := by decide +kernel
theorem dL_law_532 : decode cL_law 532 = .ok (.aload_n 0, 1) := by decide +kernel
theorem dL_law_533 : decode cL_law 533 = .ok (.iload_n 3, 1) := by decide +kernel
theorem dL_law_534 : decode cL_law 534 = .ok (.iconst 1, 1) := by decide +kernel
theorem dL_law_535 : decode cL_law 535 = .ok (.iadd, 1) := by decide +kernel
theorem dL_law_536 : decode cL_law 536 = .ok (.iaload, 1) := by decide +kernel
theorem q_811 : Cond.methodLink RL 61 yX11_judge ∈ lw_g := mem_q 811 (by decide +kernel) rfl
theorem q_812 : Cond.instanceMethod yX11_judge ∈ lw_g := mem_q 812 (by decide +kernel) rfl
theorem q_813 : Cond.selects RX11 yX11_judge yX11_judge ∈ lw_g := mem_q 813 (by decide +kernel) rfl
theorem q_814 : Cond.code yX11_judge cX11_judge 5 (some .int) ∈ lw_g := mem_q 814 (by decide +kernel) rfl
theorem kV_RL_61 : CV RL 61 RX11 yX11_judge cX11_judge 5 (some .int) 1 := cv_of q_811 q_812 q_813 q_103 q_814 (by decide +kernel)
theorem dL_law_537 : decode cL_law 537 = .ok (.invokevirtual 61, 3) := by decide +kernel
theorem dL_law_540 : decode cL_law 540 = .ok (.aload_n 2, 1) := by decide +kernel
theorem dL_law_541 : decode cL_law 541 = .ok (.aload_n 0, 1) := by decide +kernel
theorem dL_law_542 : decode cL_law 542 = .ok (.iload_n 3, 1) := by decide +kernel
theorem dL_law_543 : decode cL_law 543 = .ok (.iconst 1, 1) := by decide +kernel
theorem dL_law_544 : decode cL_law 544 = .ok (.iadd, 1) := by decide +kernel
theorem dL_law_545 : decode cL_law 545 = .ok (.iaload, 1) := by decide +kernel
theorem q_1601 : Cond.methodLink RL 64 yX12_judge ∈ lw_g := mem_q 1601 (by decide +kernel) rfl
theorem q_1602 : Cond.instanceMethod yX12_judge ∈ lw_g := mem_q 1602 (by decide +kernel) rfl
theorem q_1603 : Cond.selects RX12 yX12_judge yX12_judge ∈ lw_g := mem_q 1603 (by decide +kernel) rfl
theorem q_1604 : Cond.code yX12_judge cX12_judge 8 (some .int) ∈ lw_g := mem_q 1604 (by decide +kernel) rfl
theorem kV_RL_64 : CV RL 64 RX12 yX12_judge cX12_judge 8 (some .int) 1 := cv_of q_1601 q_1602 q_1603 q_115 q_1604 (by decide +kernel)
theorem dL_law_546 : decode cL_law 546 = .ok (.invokevirtual 64, 3) := by decide +kernel
theorem dL_law_549 : decode cL_law 549 = .ok (.if_icmp .eq 864, 3) := by decide +kernel
set_option maxHeartbeats 4000000 in
set_option maxRecDepth 100000 in
/-- judge -/
theorem lk_11 {p : Program} {l : Launch} {e : Env} {s : State} {m : MethodId} {below : List Frame} {meth : Method} {c : Code} {b : Nat} {xs : Nat → Int32} {J : va_J9} {A : Nat → Prop} {H : Heap} {locs : List Loc} {ls : Array Slot} {a bb : Nat → Nat} {f : Nat → Option Nat} {g : Nat → Int32} (E0 : LE p s m meth c b 6 xs J A) (hfx : ∀ j, j < 6 → f j = some (a (41 + j))) (hg : ∀ k, k < 6 → g k = -1) (hP : va_P J.1 cls (xW J a f ++ mW J bb g) H) (hD : va_D A (xW J a f ++ mW J bb g)) (hS : va_S A s.heap H locs) (hl : lv_has ls 4 [(3, .int 0), (2, .ref (bb 0)), (1, .ref (a 0)), (0, .ref b)]) : W p l e room_1 s m #[Value.ref b] below meth c H locs 600000 7302250 (lw_Z below #[Value.ref b] s) (F0 m 531 ls []) := by
  obtain ⟨hx, hb, hr, hml, hown, hts, hX, hbl, hlk, hK, hA, hAs⟩ := id E0
  have hbA : ¬ A b := fun h => absurd (hAs b h) (Nat.not_le.mpr hbl)
  obtain ⟨x1, e1⟩ : ∃ z : Int32, z = xs 1 := ⟨_, rfl⟩
  have rg_x1 := i_rng x1
  by_cases hd : 0 ≤ x1.toInt ∧ x1.toInt / 10 ≤ 5 ∧ x1.toInt % 10 ≤ 5
  · have pA : (x1 / 10).toInt = x1.toInt / 10 := i_div rfl (by decide) (by omega) (by omega)
    have pB : (x1 - x1 / 10 * 10).toInt = x1.toInt % 10 := i_rem rfl (by decide) (by omega) (by omega)
    obtain ⟨s2, hg2⟩ : ∃ s2 : Nat, f (x1 - x1 / 10 * 10).toNatClampNeg = some s2 := ⟨_, hfx _ (by show (Int32.toInt _).toNat < 6; omega)⟩
    obtain ⟨sh, ce, hf, hP, hD⟩ := shx (d := x1 / 10) hfx hP hD ⟨by omega, by omega⟩
    refine lv_aload_n hx hb dL_law_531 rfl (lv_at hl 2 rfl) ?_
    refine lv_aload_n hx hb dL_law_532 rfl (lv_at hl 3 rfl) ?_
    refine lv_iload_n hx hb dL_law_533 rfl (lv_at hl 0 rfl) ?_
    refine lv_iconst (v := 1) hx hb dL_law_534 (by decide) ?_
    refine lv_iadd hx hb dL_law_535 ?_
    refine top_i (y := 1) (by decide) ?_
    refine va_sld hx hb hX hbl hbA hS (i_in (a := 1) (by decide) (by omega) (by omega)) dL_law_536 ?_
    refine top_i (y := x1) e1.symm ?_
    refine go_i (rn_V (As := [.int x1]) (rest := []) hx hb hml hown hts hK (c_judge_in l J a f sh ce s2 x1 hd hf hg2) kV_RL_61 (hP.sub (ws' := [((a 0), .inr (11, [.ref (a 1), .ref (a 6), .ref (a 10), .ref (a 15), .ref (a 17), .ref (a 22), .ref (a 23), .ref (a 30), .ref (a 31), .ref (a 34), .int 0, .ref (a 37), .ref (a 40)])), ((a 40), .inl (J.2.2.2, 6, .inr (.inr (.inr (.inr f))))), (sh, .inr (9, [.ref ce, .int 0, .int 0, .int 0, .int 0]))]) [0, 1, 2] rfl) rfl rfl rfl ⟨Nat.le_of_ble_eq_true rfl, Nat.le_of_ble_eq_true rfl⟩ rfl rfl rfl hl.1 rfl (Nat.le_of_ble_eq_true rfl) ⟨Nat.le_of_ble_eq_true rfl, Nat.le_of_ble_eq_true rfl⟩ dL_law_537) ?_
    refine lv_aload_n hx hb dL_law_540 rfl (lv_at hl 1 rfl) ?_
    refine lv_aload_n hx hb dL_law_541 rfl (lv_at hl 3 rfl) ?_
    refine lv_iload_n hx hb dL_law_542 rfl (lv_at hl 0 rfl) ?_
    refine lv_iconst (v := 1) hx hb dL_law_543 (by decide) ?_
    refine lv_iadd hx hb dL_law_544 ?_
    refine top_i (y := 1) (by decide) ?_
    refine va_sld hx hb hX hbl hbA hS (i_in (a := 1) (by decide) (by omega) (by omega)) dL_law_545 ?_
    refine top_i (y := x1) e1.symm ?_
    refine go_i (rn_V (As := [.int x1]) (rest := [.int (sp_two (x1.toInt) (0) (0))]) hx hb hml hown hts hK (m_judge l J bb g x1 hg) kV_RL_64 (hP.sub (ws' := [((bb 0), .inr (12, [.ref (bb 1), .ref (bb 2), .ref (bb 3), .ref (bb 4), .int 0, .int 0, .int 0, .int 0, .ref (bb 9), .ref (bb 10), .int 0, .ref (bb 12), .int (-1), .int 0, .int 0, .int 0, .int 0, .int 0, .ref (bb 19), .ref (bb 20), .ref (bb 21), .ref (bb 22), .ref (bb 23), .long 0, .long 0, .long 0, .ref (bb 27), .ref (bb 28), .ref (bb 29), .long 0, .int 0, .int (-1), .int 0, .int 0, .int 0, .ref (bb 36), .int 0, .int 0, .ref (bb 39), .ref (bb 40), .int 0, .ref (bb 42), .ref (bb 43), .int 0, .int 0, .int 0, .ref (bb 47), .ref (bb 48), .ref (bb 49), .ref (bb 50)])), ((bb 47), .inl (J.2.1, 6, .inl g))]) [5, 16] rfl) rfl rfl rfl ⟨Nat.le_of_ble_eq_true rfl, Nat.le_of_ble_eq_true rfl⟩ rfl rfl rfl hl.1 rfl (Nat.le_of_ble_eq_true rfl) ⟨Nat.le_of_ble_eq_true rfl, Nat.le_of_ble_eq_true rfl⟩ dL_law_546) ?_
    refine lv_icmp_eq (tgt := 1413) hx hb dL_law_549 (by decide) (fun _ => ?_) (fun c => absurd rfl c)
    exact law_end E0 hS (lv_sub hl [0, 1, 2, 3] rfl)
  · refine lv_aload_n hx hb dL_law_531 rfl (lv_at hl 2 rfl) ?_
    refine lv_aload_n hx hb dL_law_532 rfl (lv_at hl 3 rfl) ?_
    refine lv_iload_n hx hb dL_law_533 rfl (lv_at hl 0 rfl) ?_
    refine lv_iconst (v := 1) hx hb dL_law_534 (by decide) ?_
    refine lv_iadd hx hb dL_law_535 ?_
    refine top_i (y := 1) (by decide) ?_
    refine va_sld hx hb hX hbl hbA hS (i_in (a := 1) (by decide) (by omega) (by omega)) dL_law_536 ?_
    refine top_i (y := x1) e1.symm ?_
    refine go_i (rn_V (As := [.int x1]) (rest := []) hx hb hml hown hts hK (c_judge_out l J a x1 hd) kV_RL_61 (hP.sub (ws' := [((a 0), .inr (11, [.ref (a 1), .ref (a 6), .ref (a 10), .ref (a 15), .ref (a 17), .ref (a 22), .ref (a 23), .ref (a 30), .ref (a 31), .ref (a 34), .int 0, .ref (a 37), .ref (a 40)]))]) [0] rfl) rfl rfl rfl ⟨Nat.le_of_ble_eq_true rfl, Nat.le_of_ble_eq_true rfl⟩ rfl rfl rfl hl.1 rfl (Nat.le_of_ble_eq_true rfl) ⟨Nat.le_of_ble_eq_true rfl, Nat.le_of_ble_eq_true rfl⟩ dL_law_537) ?_
    refine lv_aload_n hx hb dL_law_540 rfl (lv_at hl 1 rfl) ?_
    refine lv_aload_n hx hb dL_law_541 rfl (lv_at hl 3 rfl) ?_
    refine lv_iload_n hx hb dL_law_542 rfl (lv_at hl 0 rfl) ?_
    refine lv_iconst (v := 1) hx hb dL_law_543 (by decide) ?_
    refine lv_iadd hx hb dL_law_544 ?_
    refine top_i (y := 1) (by decide) ?_
    refine va_sld hx hb hX hbl hbA hS (i_in (a := 1) (by decide) (by omega) (by omega)) dL_law_545 ?_
    refine top_i (y := x1) e1.symm ?_
    refine go_i (rn_V (As := [.int x1]) (rest := [.int (sp_two (x1.toInt) (0) (0))]) hx hb hml hown hts hK (m_judge l J bb g x1 hg) kV_RL_64 (hP.sub (ws' := [((bb 0), .inr (12, [.ref (bb 1), .ref (bb 2), .ref (bb 3), .ref (bb 4), .int 0, .int 0, .int 0, .int 0, .ref (bb 9), .ref (bb 10), .int 0, .ref (bb 12), .int (-1), .int 0, .int 0, .int 0, .int 0, .int 0, .ref (bb 19), .ref (bb 20), .ref (bb 21), .ref (bb 22), .ref (bb 23), .long 0, .long 0, .long 0, .ref (bb 27), .ref (bb 28), .ref (bb 29), .long 0, .int 0, .int (-1), .int 0, .int 0, .int 0, .ref (bb 36), .int 0, .int 0, .ref (bb 39), .ref (bb 40), .int 0, .ref (bb 42), .ref (bb 43), .int 0, .int 0, .int 0, .ref (bb 47), .ref (bb 48), .ref (bb 49), .ref (bb 50)])), ((bb 47), .inl (J.2.1, 6, .inl g))]) [39, 50] rfl) rfl rfl rfl ⟨Nat.le_of_ble_eq_true rfl, Nat.le_of_ble_eq_true rfl⟩ rfl rfl rfl hl.1 rfl (Nat.le_of_ble_eq_true rfl) ⟨Nat.le_of_ble_eq_true rfl, Nat.le_of_ble_eq_true rfl⟩ dL_law_546) ?_
    refine lv_icmp_eq (tgt := 1413) hx hb dL_law_549 (by decide) (fun _ => ?_) (fun c => absurd rfl c)
    exact law_end E0 hS (lv_sub hl [0, 1, 2, 3] rfl)
theorem dL_law_554 : decode cL_law 554 = .ok (.aload_n 1, 1) := by decide +kernel
theorem dL_law_555 : decode cL_law 555 = .ok (.aload_n 0, 1) := by decide +kernel
theorem dL_law_556 : decode cL_law 556 = .ok (.iload_n 3, 1) := by decide +kernel
theorem dL_law_557 : decode cL_law 557 = .ok (.iconst 1, 1) := by decide +kernel
theorem dL_law_558 : decode cL_law 558 = .ok (.iadd, 1) := by decide +kernel
theorem dL_law_559 : decode cL_law 559 = .ok (.iaload, 1) := by decide +kernel
theorem q_819 : Cond.methodLink RL 65 yX11_sure ∈ lw_g := mem_q 819 (by decide +kernel) rfl
theorem q_820 : Cond.instanceMethod yX11_sure ∈ lw_g := mem_q 820 (by decide +kernel) rfl
theorem q_821 : Cond.selects RX11 yX11_sure yX11_sure ∈ lw_g := mem_q 821 (by decide +kernel) rfl
theorem q_822 : Cond.code yX11_sure cX11_sure 3 (some .int) ∈ lw_g := mem_q 822 (by decide +kernel) rfl
theorem kV_RL_65 : CV RL 65 RX11 yX11_sure cX11_sure 3 (some .int) 1 := cv_of q_819 q_820 q_821 q_103 q_822 (by decide +kernel)
theorem dL_law_560 : decode cL_law 560 = .ok (.invokevirtual 65, 3) := by decide +kernel
theorem dL_law_563 : decode cL_law 563 = .ok (.aload_n 2, 1) := by decide +kernel
theorem dL_law_564 : decode cL_law 564 = .ok (.aload_n 0, 1) := by decide +kernel
theorem dL_law_565 : decode cL_law 565 = .ok (.iload_n 3, 1) := by decide +kernel
theorem dL_law_566 : decode cL_law 566 = .ok (.iconst 1, 1) := by decide +kernel
theorem dL_law_567 : decode cL_law 567 = .ok (.iadd, 1) := by decide +kernel
theorem dL_law_568 : decode cL_law 568 = .ok (.iaload, 1) := by decide +kernel
theorem q_1631 : Cond.methodLink RL 68 yX12_sure ∈ lw_g := mem_q 1631 (by decide +kernel) rfl
theorem q_1632 : Cond.instanceMethod yX12_sure ∈ lw_g := mem_q 1632 (by decide +kernel) rfl
theorem q_1633 : Cond.selects RX12 yX12_sure yX12_sure ∈ lw_g := mem_q 1633 (by decide +kernel) rfl
theorem q_1634 : Cond.code yX12_sure cX12_sure 8 (some .int) ∈ lw_g := mem_q 1634 (by decide +kernel) rfl
theorem kV_RL_68 : CV RL 68 RX12 yX12_sure cX12_sure 8 (some .int) 1 := cv_of q_1631 q_1632 q_1633 q_115 q_1634 (by decide +kernel)
theorem dL_law_569 : decode cL_law 569 = .ok (.invokevirtual 68, 3) := by decide +kernel
theorem dL_law_572 : decode cL_law 572 = .ok (.if_icmp .eq 841, 3) := by decide +kernel
set_option maxHeartbeats 4000000 in
set_option maxRecDepth 100000 in
/-- sure -/
theorem lk_12 {p : Program} {l : Launch} {e : Env} {s : State} {m : MethodId} {below : List Frame} {meth : Method} {c : Code} {b : Nat} {xs : Nat → Int32} {J : va_J9} {A : Nat → Prop} {H : Heap} {locs : List Loc} {ls : Array Slot} {a bb : Nat → Nat} {f : Nat → Option Nat} {g : Nat → Int32} (E0 : LE p s m meth c b 6 xs J A) (hfx : ∀ j, j < 6 → f j = some (a (41 + j))) (hg : ∀ k, k < 6 → g k = -1) (hP : va_P J.1 cls (xW J a f ++ mW J bb g) H) (hD : va_D A (xW J a f ++ mW J bb g)) (hS : va_S A s.heap H locs) (hl : lv_has ls 4 [(3, .int 0), (2, .ref (bb 0)), (1, .ref (a 0)), (0, .ref b)]) : W p l e room_1 s m #[Value.ref b] below meth c H locs 600000 7302250 (lw_Z below #[Value.ref b] s) (F0 m 554 ls []) := by
  obtain ⟨hx, hb, hr, hml, hown, hts, hX, hbl, hlk, hK, hA, hAs⟩ := id E0
  have hbA : ¬ A b := fun h => absurd (hAs b h) (Nat.not_le.mpr hbl)
  obtain ⟨x1, e1⟩ : ∃ z : Int32, z = xs 1 := ⟨_, rfl⟩
  have rg_x1 := i_rng x1
  refine lv_aload_n hx hb dL_law_554 rfl (lv_at hl 2 rfl) ?_
  refine lv_aload_n hx hb dL_law_555 rfl (lv_at hl 3 rfl) ?_
  refine lv_iload_n hx hb dL_law_556 rfl (lv_at hl 0 rfl) ?_
  refine lv_iconst (v := 1) hx hb dL_law_557 (by decide) ?_
  refine lv_iadd hx hb dL_law_558 ?_
  refine top_i (y := 1) (by decide) ?_
  refine va_sld hx hb hX hbl hbA hS (i_in (a := 1) (by decide) (by omega) (by omega)) dL_law_559 ?_
  refine top_i (y := x1) e1.symm ?_
  refine gw_i (wc := [((a 0), .inr (11, [.ref (a 1), .ref (a 6), .ref (a 10), .ref (a 15), .ref (a 17), .ref (a 22), .ref (a 23), .ref (a 30), .ref (a 31), .ref (a 34), .int 0, .ref (a 37), .ref (a 40)])), ((a 17), .inr (6, [.ref (a 6), .ref (a 18), .ref (a 19), .int 0, .ref (a 20), .ref (a 21), .int 0, .int 0, .int 0, .int 0, .int (-1)])), ((a 6), .inr (10, [.ref (a 1), .ref (a 7), .ref (a 8), .ref (a 9), .int 0, .int 0, .int 0, .int 0, .int 1, .int 0, .int 0])), ((a 20), .inl (J.2.1, 32, .inl (fun _ => 0))), ((a 21), .inl (J.2.1, 32, .inl (fun _ => 0)))]) (wr := [((bb 0), .inr (12, [.ref (bb 1), .ref (bb 2), .ref (bb 3), .ref (bb 4), .int 0, .int 0, .int 0, .int 0, .ref (bb 9), .ref (bb 10), .int 0, .ref (bb 12), .int (-1), .int 0, .int 0, .int 0, .int 0, .int 0, .ref (bb 19), .ref (bb 20), .ref (bb 21), .ref (bb 22), .ref (bb 23), .long 0, .long 0, .long 0, .ref (bb 27), .ref (bb 28), .ref (bb 29), .long 0, .int 0, .int (-1), .int 0, .int 0, .int 0, .ref (bb 36), .int 0, .int 0, .ref (bb 39), .ref (bb 40), .int 0, .ref (bb 42), .ref (bb 43), .int 0, .int 0, .int 0, .ref (bb 47), .ref (bb 48), .ref (bb 49), .ref (bb 50)])), ((bb 1), .inl (J.2.1, 22, .inl (upd (fun _ => 0) (20 : Int32).toNatClampNeg 1))), ((bb 2), .inl (J.2.1, 40, .inl (fun _ => 0))), ((bb 3), .inl (J.2.1, 40, .inl (fun _ => 0))), ((bb 4), .inl (J.2.1, 40, .inl (fun _ => 0))), ((bb 10), .inl (J.2.1, 120, .inl (fun _ => 0))), ((bb 21), .inl (J.2.1, 7168, .inl (fun _ => 0))), ((bb 39), .inl (J.2.1, 5, .inl (fun _ => 0))), ((bb 40), .inl (J.2.1, 10, .inl (fun _ => 0))), ((bb 36), .inl (J.2.1, 10, .inl (fun _ => 0))), ((bb 42), .inl (J.2.1, 50, .inl (fun _ => 0))), ((bb 47), .inl (J.2.1, 6, .inl g)), ((bb 48), .inl (J.2.1, 6, .inl (fun _ => 0))), ((bb 49), .inl (J.2.2.1, 360, .inr (.inl (fun _ => 0))))]) hP hD hS hA [0, 13, 4, 14, 15] [39, 40, 41, 42, 43, 44, 45, 46, 47, 48, 49, 50, 51, 52] rfl rfl (by decide) (by decide) (wn_V (As := [.int x1]) (rest := []) hx hb hml hown hts hK (c_sure l J _ a x1) kV_RL_65 (hP.sub (ws' := [((a 0), .inr (11, [.ref (a 1), .ref (a 6), .ref (a 10), .ref (a 15), .ref (a 17), .ref (a 22), .ref (a 23), .ref (a 30), .ref (a 31), .ref (a 34), .int 0, .ref (a 37), .ref (a 40)])), ((a 17), .inr (6, [.ref (a 6), .ref (a 18), .ref (a 19), .int 0, .ref (a 20), .ref (a 21), .int 0, .int 0, .int 0, .int 0, .int (-1)])), ((a 6), .inr (10, [.ref (a 1), .ref (a 7), .ref (a 8), .ref (a 9), .int 0, .int 0, .int 0, .int 0, .int 1, .int 0, .int 0])), ((a 20), .inl (J.2.1, 32, .inl (fun _ => 0))), ((a 21), .inl (J.2.1, 32, .inl (fun _ => 0)))]) [0, 13, 4, 14, 15] rfl) ((hD.sub (ws' := [((a 0), .inr (11, [.ref (a 1), .ref (a 6), .ref (a 10), .ref (a 15), .ref (a 17), .ref (a 22), .ref (a 23), .ref (a 30), .ref (a 31), .ref (a 34), .int 0, .ref (a 37), .ref (a 40)])), ((a 17), .inr (6, [.ref (a 6), .ref (a 18), .ref (a 19), .int 0, .ref (a 20), .ref (a 21), .int 0, .int 0, .int 0, .int 0, .int (-1)])), ((a 6), .inr (10, [.ref (a 1), .ref (a 7), .ref (a 8), .ref (a 9), .int 0, .int 0, .int 0, .int 0, .int 1, .int 0, .int 0])), ((a 20), .inl (J.2.1, 32, .inl (fun _ => 0))), ((a 21), .inl (J.2.1, 32, .inl (fun _ => 0)))]) [0, 13, 4, 14, 15] (by decide) rfl).weaken (fun _ _ _ _ => trivial)) rfl rfl rfl ⟨Nat.le_of_ble_eq_true rfl, Nat.le_of_ble_eq_true rfl⟩ rfl rfl rfl hl.1 rfl (Nat.le_of_ble_eq_true rfl) ⟨Nat.le_of_ble_eq_true rfl, Nat.le_of_ble_eq_true rfl⟩ dL_law_560) (fun r2 u1 H locs hw hP hD hS => ?_)
  subst hw
  have hP : va_P J.1 cls [((bb 0), .inr (12, [.ref (bb 1), .ref (bb 2), .ref (bb 3), .ref (bb 4), .int 0, .int 0, .int 0, .int 0, .ref (bb 9), .ref (bb 10), .int 0, .ref (bb 12), .int (-1), .int 0, .int 0, .int 0, .int 0, .int 0, .ref (bb 19), .ref (bb 20), .ref (bb 21), .ref (bb 22), .ref (bb 23), .long 0, .long 0, .long 0, .ref (bb 27), .ref (bb 28), .ref (bb 29), .long 0, .int 0, .int (-1), .int 0, .int 0, .int 0, .ref (bb 36), .int 0, .int 0, .ref (bb 39), .ref (bb 40), .int 0, .ref (bb 42), .ref (bb 43), .int 0, .int 0, .int 0, .ref (bb 47), .ref (bb 48), .ref (bb 49), .ref (bb 50)])), ((bb 1), .inl (J.2.1, 22, .inl (upd (fun _ => 0) (20 : Int32).toNatClampNeg 1))), ((bb 2), .inl (J.2.1, 40, .inl (fun _ => 0))), ((bb 3), .inl (J.2.1, 40, .inl (fun _ => 0))), ((bb 4), .inl (J.2.1, 40, .inl (fun _ => 0))), ((bb 10), .inl (J.2.1, 120, .inl (fun _ => 0))), ((bb 21), .inl (J.2.1, 7168, .inl (fun _ => 0))), ((bb 39), .inl (J.2.1, 5, .inl (fun _ => 0))), ((bb 40), .inl (J.2.1, 10, .inl (fun _ => 0))), ((bb 36), .inl (J.2.1, 10, .inl (fun _ => 0))), ((bb 42), .inl (J.2.1, 50, .inl (fun _ => 0))), ((bb 47), .inl (J.2.1, 6, .inl g)), ((bb 48), .inl (J.2.1, 6, .inl (fun _ => 0))), ((bb 49), .inl (J.2.2.1, 360, .inr (.inl (fun _ => 0))))] H := hP
  have hD : va_D A [((bb 0), .inr (12, [.ref (bb 1), .ref (bb 2), .ref (bb 3), .ref (bb 4), .int 0, .int 0, .int 0, .int 0, .ref (bb 9), .ref (bb 10), .int 0, .ref (bb 12), .int (-1), .int 0, .int 0, .int 0, .int 0, .int 0, .ref (bb 19), .ref (bb 20), .ref (bb 21), .ref (bb 22), .ref (bb 23), .long 0, .long 0, .long 0, .ref (bb 27), .ref (bb 28), .ref (bb 29), .long 0, .int 0, .int (-1), .int 0, .int 0, .int 0, .ref (bb 36), .int 0, .int 0, .ref (bb 39), .ref (bb 40), .int 0, .ref (bb 42), .ref (bb 43), .int 0, .int 0, .int 0, .ref (bb 47), .ref (bb 48), .ref (bb 49), .ref (bb 50)])), ((bb 1), .inl (J.2.1, 22, .inl (upd (fun _ => 0) (20 : Int32).toNatClampNeg 1))), ((bb 2), .inl (J.2.1, 40, .inl (fun _ => 0))), ((bb 3), .inl (J.2.1, 40, .inl (fun _ => 0))), ((bb 4), .inl (J.2.1, 40, .inl (fun _ => 0))), ((bb 10), .inl (J.2.1, 120, .inl (fun _ => 0))), ((bb 21), .inl (J.2.1, 7168, .inl (fun _ => 0))), ((bb 39), .inl (J.2.1, 5, .inl (fun _ => 0))), ((bb 40), .inl (J.2.1, 10, .inl (fun _ => 0))), ((bb 36), .inl (J.2.1, 10, .inl (fun _ => 0))), ((bb 42), .inl (J.2.1, 50, .inl (fun _ => 0))), ((bb 47), .inl (J.2.1, 6, .inl g)), ((bb 48), .inl (J.2.1, 6, .inl (fun _ => 0))), ((bb 49), .inl (J.2.2.1, 360, .inr (.inl (fun _ => 0))))] := hD
  refine W.widen (k := 600000) (n := 7302250) (Nat.le_of_ble_eq_true rfl) (Nat.le_of_ble_eq_true rfl) ?_
  refine lv_aload_n hx hb dL_law_563 rfl (lv_at hl 1 rfl) ?_
  refine lv_aload_n hx hb dL_law_564 rfl (lv_at hl 3 rfl) ?_
  refine lv_iload_n hx hb dL_law_565 rfl (lv_at hl 0 rfl) ?_
  refine lv_iconst (v := 1) hx hb dL_law_566 (by decide) ?_
  refine lv_iadd hx hb dL_law_567 ?_
  refine top_i (y := 1) (by decide) ?_
  refine va_sld hx hb hX hbl hbA hS (i_in (a := 1) (by decide) (by omega) (by omega)) dL_law_568 ?_
  refine top_i (y := x1) e1.symm ?_
  refine gw_i (wc := [((bb 0), .inr (12, [.ref (bb 1), .ref (bb 2), .ref (bb 3), .ref (bb 4), .int 0, .int 0, .int 0, .int 0, .ref (bb 9), .ref (bb 10), .int 0, .ref (bb 12), .int (-1), .int 0, .int 0, .int 0, .int 0, .int 0, .ref (bb 19), .ref (bb 20), .ref (bb 21), .ref (bb 22), .ref (bb 23), .long 0, .long 0, .long 0, .ref (bb 27), .ref (bb 28), .ref (bb 29), .long 0, .int 0, .int (-1), .int 0, .int 0, .int 0, .ref (bb 36), .int 0, .int 0, .ref (bb 39), .ref (bb 40), .int 0, .ref (bb 42), .ref (bb 43), .int 0, .int 0, .int 0, .ref (bb 47), .ref (bb 48), .ref (bb 49), .ref (bb 50)])), ((bb 1), .inl (J.2.1, 22, .inl (upd (fun _ => 0) (20 : Int32).toNatClampNeg 1))), ((bb 21), .inl (J.2.1, 7168, .inl (fun _ => 0)))]) (wr := [((bb 2), .inl (J.2.1, 40, .inl (fun _ => 0))), ((bb 3), .inl (J.2.1, 40, .inl (fun _ => 0))), ((bb 4), .inl (J.2.1, 40, .inl (fun _ => 0))), ((bb 10), .inl (J.2.1, 120, .inl (fun _ => 0))), ((bb 39), .inl (J.2.1, 5, .inl (fun _ => 0))), ((bb 40), .inl (J.2.1, 10, .inl (fun _ => 0))), ((bb 36), .inl (J.2.1, 10, .inl (fun _ => 0))), ((bb 42), .inl (J.2.1, 50, .inl (fun _ => 0))), ((bb 47), .inl (J.2.1, 6, .inl g)), ((bb 48), .inl (J.2.1, 6, .inl (fun _ => 0))), ((bb 49), .inl (J.2.2.1, 360, .inr (.inl (fun _ => 0))))]) hP hD hS hA [0, 1, 6] [2, 3, 4, 5, 7, 8, 9, 10, 11, 12, 13] rfl rfl (by decide) (by decide) (wn_V (As := [.int x1]) (rest := [.int (sp_sure (x1.toInt))]) hx hb hml hown hts hK (m_sure l J _ bb x1) kV_RL_68 (hP.sub (ws' := [((bb 0), .inr (12, [.ref (bb 1), .ref (bb 2), .ref (bb 3), .ref (bb 4), .int 0, .int 0, .int 0, .int 0, .ref (bb 9), .ref (bb 10), .int 0, .ref (bb 12), .int (-1), .int 0, .int 0, .int 0, .int 0, .int 0, .ref (bb 19), .ref (bb 20), .ref (bb 21), .ref (bb 22), .ref (bb 23), .long 0, .long 0, .long 0, .ref (bb 27), .ref (bb 28), .ref (bb 29), .long 0, .int 0, .int (-1), .int 0, .int 0, .int 0, .ref (bb 36), .int 0, .int 0, .ref (bb 39), .ref (bb 40), .int 0, .ref (bb 42), .ref (bb 43), .int 0, .int 0, .int 0, .ref (bb 47), .ref (bb 48), .ref (bb 49), .ref (bb 50)])), ((bb 1), .inl (J.2.1, 22, .inl (upd (fun _ => 0) (20 : Int32).toNatClampNeg 1))), ((bb 21), .inl (J.2.1, 7168, .inl (fun _ => 0)))]) [0, 1, 6] rfl) ((hD.sub (ws' := [((bb 0), .inr (12, [.ref (bb 1), .ref (bb 2), .ref (bb 3), .ref (bb 4), .int 0, .int 0, .int 0, .int 0, .ref (bb 9), .ref (bb 10), .int 0, .ref (bb 12), .int (-1), .int 0, .int 0, .int 0, .int 0, .int 0, .ref (bb 19), .ref (bb 20), .ref (bb 21), .ref (bb 22), .ref (bb 23), .long 0, .long 0, .long 0, .ref (bb 27), .ref (bb 28), .ref (bb 29), .long 0, .int 0, .int (-1), .int 0, .int 0, .int 0, .ref (bb 36), .int 0, .int 0, .ref (bb 39), .ref (bb 40), .int 0, .ref (bb 42), .ref (bb 43), .int 0, .int 0, .int 0, .ref (bb 47), .ref (bb 48), .ref (bb 49), .ref (bb 50)])), ((bb 1), .inl (J.2.1, 22, .inl (upd (fun _ => 0) (20 : Int32).toNatClampNeg 1))), ((bb 21), .inl (J.2.1, 7168, .inl (fun _ => 0)))]) [0, 1, 6] (by decide) rfl).weaken (fun _ _ _ _ => trivial)) rfl rfl rfl ⟨Nat.le_of_ble_eq_true rfl, Nat.le_of_ble_eq_true rfl⟩ rfl rfl rfl hl.1 rfl (Nat.le_of_ble_eq_true rfl) ⟨Nat.le_of_ble_eq_true rfl, Nat.le_of_ble_eq_true rfl⟩ dL_law_569) (fun r4 u3 H locs hw hP hD hS => ?_)
  subst hw
  have hP : va_P J.1 cls [((bb 2), .inl (J.2.1, 40, .inl (fun _ => 0))), ((bb 3), .inl (J.2.1, 40, .inl (fun _ => 0))), ((bb 4), .inl (J.2.1, 40, .inl (fun _ => 0))), ((bb 10), .inl (J.2.1, 120, .inl (fun _ => 0))), ((bb 39), .inl (J.2.1, 5, .inl (fun _ => 0))), ((bb 40), .inl (J.2.1, 10, .inl (fun _ => 0))), ((bb 36), .inl (J.2.1, 10, .inl (fun _ => 0))), ((bb 42), .inl (J.2.1, 50, .inl (fun _ => 0))), ((bb 47), .inl (J.2.1, 6, .inl g)), ((bb 48), .inl (J.2.1, 6, .inl (fun _ => 0))), ((bb 49), .inl (J.2.2.1, 360, .inr (.inl (fun _ => 0))))] H := hP
  have hD : va_D A [((bb 2), .inl (J.2.1, 40, .inl (fun _ => 0))), ((bb 3), .inl (J.2.1, 40, .inl (fun _ => 0))), ((bb 4), .inl (J.2.1, 40, .inl (fun _ => 0))), ((bb 10), .inl (J.2.1, 120, .inl (fun _ => 0))), ((bb 39), .inl (J.2.1, 5, .inl (fun _ => 0))), ((bb 40), .inl (J.2.1, 10, .inl (fun _ => 0))), ((bb 36), .inl (J.2.1, 10, .inl (fun _ => 0))), ((bb 42), .inl (J.2.1, 50, .inl (fun _ => 0))), ((bb 47), .inl (J.2.1, 6, .inl g)), ((bb 48), .inl (J.2.1, 6, .inl (fun _ => 0))), ((bb 49), .inl (J.2.2.1, 360, .inr (.inl (fun _ => 0))))] := hD
  refine W.widen (k := 600000) (n := 7302250) (Nat.le_of_ble_eq_true rfl) (Nat.le_of_ble_eq_true rfl) ?_
  refine lv_icmp_eq (tgt := 1413) hx hb dL_law_572 (by decide) (fun _ => ?_) (fun c => absurd rfl c)
  exact law_end E0 hS (lv_sub hl [0, 1, 2, 3] rfl)
theorem dL_law_577 : decode cL_law 577 = .ok (.aload_n 1, 1) := by decide +kernel
theorem dL_law_578 : decode cL_law 578 = .ok (.aload_n 0, 1) := by decide +kernel
theorem dL_law_579 : decode cL_law 579 = .ok (.iload_n 3, 1) := by decide +kernel
theorem dL_law_580 : decode cL_law 580 = .ok (.iconst 1, 1) := by decide +kernel
theorem dL_law_581 : decode cL_law 581 = .ok (.iadd, 1) := by decide +kernel
theorem dL_law_582 : decode cL_law 582 = .ok (.iaload, 1) := by decide +kernel
theorem dL_law_583 : decode cL_law 583 = .ok (.aload_n 0, 1) := by decide +kernel
theorem dL_law_584 : decode cL_law 584 = .ok (.iload_n 3, 1) := by decide +kernel
theorem dL_law_585 : decode cL_law 585 = .ok (.iconst 2, 1) := by decide +kernel
theorem dL_law_586 : decode cL_law 586 = .ok (.iadd, 1) := by decide +kernel
theorem dL_law_587 : decode cL_law 587 = .ok (.iaload, 1) := by decide +kernel
theorem q_875 : Cond.methodLink RL 69 yX11_sureFrom ∈ lw_g := mem_q 875 (by decide +kernel) rfl
theorem q_876 : Cond.instanceMethod yX11_sureFrom ∈ lw_g := mem_q 876 (by decide +kernel) rfl
theorem q_877 : Cond.selects RX11 yX11_sureFrom yX11_sureFrom ∈ lw_g := mem_q 877 (by decide +kernel) rfl
theorem q_878 : Cond.code yX11_sureFrom cX11_sureFrom 3 (some .int) ∈ lw_g := mem_q 878 (by decide +kernel) rfl
theorem kV_RL_69 : CV RL 69 RX11 yX11_sureFrom cX11_sureFrom 3 (some .int) 2 := cv_of q_875 q_876 q_877 q_103 q_878 (by decide +kernel)
theorem dL_law_588 : decode cL_law 588 = .ok (.invokevirtual 69, 3) := by decide +kernel
theorem dL_law_591 : decode cL_law 591 = .ok (.aload_n 2, 1) := by decide +kernel
theorem dL_law_592 : decode cL_law 592 = .ok (.aload_n 0, 1) := by decide +kernel
theorem dL_law_593 : decode cL_law 593 = .ok (.iload_n 3, 1) := by decide +kernel
theorem dL_law_594 : decode cL_law 594 = .ok (.iconst 1, 1) := by decide +kernel
theorem dL_law_595 : decode cL_law 595 = .ok (.iadd, 1) := by decide +kernel
theorem dL_law_596 : decode cL_law 596 = .ok (.iaload, 1) := by decide +kernel
theorem dL_law_597 : decode cL_law 597 = .ok (.aload_n 0, 1) := by decide +kernel
theorem dL_law_598 : decode cL_law 598 = .ok (.iload_n 3, 1) := by decide +kernel
theorem dL_law_599 : decode cL_law 599 = .ok (.iconst 2, 1) := by decide +kernel
theorem dL_law_600 : decode cL_law 600 = .ok (.iadd, 1) := by decide +kernel
theorem dL_law_601 : decode cL_law 601 = .ok (.iaload, 1) := by decide +kernel
theorem q_1605 : Cond.methodLink RL 72 yX12_sureFrom ∈ lw_g := mem_q 1605 (by decide +kernel) rfl
theorem q_1606 : Cond.instanceMethod yX12_sureFrom ∈ lw_g := mem_q 1606 (by decide +kernel) rfl
theorem q_1607 : Cond.selects RX12 yX12_sureFrom yX12_sureFrom ∈ lw_g := mem_q 1607 (by decide +kernel) rfl
theorem q_1608 : Cond.code yX12_sureFrom cX12_sureFrom 3 (some .int) ∈ lw_g := mem_q 1608 (by decide +kernel) rfl
theorem kV_RL_72 : CV RL 72 RX12 yX12_sureFrom cX12_sureFrom 3 (some .int) 2 := cv_of q_1605 q_1606 q_1607 q_115 q_1608 (by decide +kernel)
theorem dL_law_602 : decode cL_law 602 = .ok (.invokevirtual 72, 3) := by decide +kernel
theorem dL_law_605 : decode cL_law 605 = .ok (.if_icmp .eq 808, 3) := by decide +kernel
set_option maxHeartbeats 4000000 in
set_option maxRecDepth 100000 in
/-- sureFrom -/
theorem lk_13 {p : Program} {l : Launch} {e : Env} {s : State} {m : MethodId} {below : List Frame} {meth : Method} {c : Code} {b : Nat} {xs : Nat → Int32} {J : va_J9} {A : Nat → Prop} {H : Heap} {locs : List Loc} {ls : Array Slot} {a bb : Nat → Nat} {f : Nat → Option Nat} {g : Nat → Int32} (E0 : LE p s m meth c b 6 xs J A) (hfx : ∀ j, j < 6 → f j = some (a (41 + j))) (hg : ∀ k, k < 6 → g k = -1) (hP : va_P J.1 cls (xW J a f ++ mW J bb g) H) (hD : va_D A (xW J a f ++ mW J bb g)) (hS : va_S A s.heap H locs) (hl : lv_has ls 4 [(3, .int 0), (2, .ref (bb 0)), (1, .ref (a 0)), (0, .ref b)]) : W p l e room_1 s m #[Value.ref b] below meth c H locs 600000 7302250 (lw_Z below #[Value.ref b] s) (F0 m 577 ls []) := by
  obtain ⟨hx, hb, hr, hml, hown, hts, hX, hbl, hlk, hK, hA, hAs⟩ := id E0
  have hbA : ¬ A b := fun h => absurd (hAs b h) (Nat.not_le.mpr hbl)
  obtain ⟨x1, e1⟩ : ∃ z : Int32, z = xs 1 := ⟨_, rfl⟩
  obtain ⟨x2, e2⟩ : ∃ z : Int32, z = xs 2 := ⟨_, rfl⟩
  have rg_x1 := i_rng x1
  have rg_x2 := i_rng x2
  refine lv_aload_n hx hb dL_law_577 rfl (lv_at hl 2 rfl) ?_
  refine lv_aload_n hx hb dL_law_578 rfl (lv_at hl 3 rfl) ?_
  refine lv_iload_n hx hb dL_law_579 rfl (lv_at hl 0 rfl) ?_
  refine lv_iconst (v := 1) hx hb dL_law_580 (by decide) ?_
  refine lv_iadd hx hb dL_law_581 ?_
  refine top_i (y := 1) (by decide) ?_
  refine va_sld hx hb hX hbl hbA hS (i_in (a := 1) (by decide) (by omega) (by omega)) dL_law_582 ?_
  refine top_i (y := x1) e1.symm ?_
  refine lv_aload_n hx hb dL_law_583 rfl (lv_at hl 3 rfl) ?_
  refine lv_iload_n hx hb dL_law_584 rfl (lv_at hl 0 rfl) ?_
  refine lv_iconst (v := 2) hx hb dL_law_585 (by decide) ?_
  refine lv_iadd hx hb dL_law_586 ?_
  refine top_i (y := 2) (by decide) ?_
  refine va_sld hx hb hX hbl hbA hS (i_in (a := 2) (by decide) (by omega) (by omega)) dL_law_587 ?_
  refine top_i (y := x2) e2.symm ?_
  refine gw_i (wc := [((a 0), .inr (11, [.ref (a 1), .ref (a 6), .ref (a 10), .ref (a 15), .ref (a 17), .ref (a 22), .ref (a 23), .ref (a 30), .ref (a 31), .ref (a 34), .int 0, .ref (a 37), .ref (a 40)])), ((a 17), .inr (6, [.ref (a 6), .ref (a 18), .ref (a 19), .int 0, .ref (a 20), .ref (a 21), .int 0, .int 0, .int 0, .int 0, .int (-1)])), ((a 6), .inr (10, [.ref (a 1), .ref (a 7), .ref (a 8), .ref (a 9), .int 0, .int 0, .int 0, .int 0, .int 1, .int 0, .int 0])), ((a 20), .inl (J.2.1, 32, .inl (fun _ => 0))), ((a 21), .inl (J.2.1, 32, .inl (fun _ => 0)))]) (wr := [((bb 0), .inr (12, [.ref (bb 1), .ref (bb 2), .ref (bb 3), .ref (bb 4), .int 0, .int 0, .int 0, .int 0, .ref (bb 9), .ref (bb 10), .int 0, .ref (bb 12), .int (-1), .int 0, .int 0, .int 0, .int 0, .int 0, .ref (bb 19), .ref (bb 20), .ref (bb 21), .ref (bb 22), .ref (bb 23), .long 0, .long 0, .long 0, .ref (bb 27), .ref (bb 28), .ref (bb 29), .long 0, .int 0, .int (-1), .int 0, .int 0, .int 0, .ref (bb 36), .int 0, .int 0, .ref (bb 39), .ref (bb 40), .int 0, .ref (bb 42), .ref (bb 43), .int 0, .int 0, .int 0, .ref (bb 47), .ref (bb 48), .ref (bb 49), .ref (bb 50)])), ((bb 1), .inl (J.2.1, 22, .inl (upd (fun _ => 0) (20 : Int32).toNatClampNeg 1))), ((bb 2), .inl (J.2.1, 40, .inl (fun _ => 0))), ((bb 3), .inl (J.2.1, 40, .inl (fun _ => 0))), ((bb 4), .inl (J.2.1, 40, .inl (fun _ => 0))), ((bb 10), .inl (J.2.1, 120, .inl (fun _ => 0))), ((bb 21), .inl (J.2.1, 7168, .inl (fun _ => 0))), ((bb 39), .inl (J.2.1, 5, .inl (fun _ => 0))), ((bb 40), .inl (J.2.1, 10, .inl (fun _ => 0))), ((bb 36), .inl (J.2.1, 10, .inl (fun _ => 0))), ((bb 42), .inl (J.2.1, 50, .inl (fun _ => 0))), ((bb 47), .inl (J.2.1, 6, .inl g)), ((bb 48), .inl (J.2.1, 6, .inl (fun _ => 0))), ((bb 49), .inl (J.2.2.1, 360, .inr (.inl (fun _ => 0))))]) hP hD hS hA [0, 13, 4, 14, 15] [39, 40, 41, 42, 43, 44, 45, 46, 47, 48, 49, 50, 51, 52] rfl rfl (by decide) (by decide) (wn_V (As := [.int x1, .int x2]) (rest := []) hx hb hml hown hts hK (c_sureFrom l J _ a x1 x2) kV_RL_69 (hP.sub (ws' := [((a 0), .inr (11, [.ref (a 1), .ref (a 6), .ref (a 10), .ref (a 15), .ref (a 17), .ref (a 22), .ref (a 23), .ref (a 30), .ref (a 31), .ref (a 34), .int 0, .ref (a 37), .ref (a 40)])), ((a 17), .inr (6, [.ref (a 6), .ref (a 18), .ref (a 19), .int 0, .ref (a 20), .ref (a 21), .int 0, .int 0, .int 0, .int 0, .int (-1)])), ((a 6), .inr (10, [.ref (a 1), .ref (a 7), .ref (a 8), .ref (a 9), .int 0, .int 0, .int 0, .int 0, .int 1, .int 0, .int 0])), ((a 20), .inl (J.2.1, 32, .inl (fun _ => 0))), ((a 21), .inl (J.2.1, 32, .inl (fun _ => 0)))]) [0, 13, 4, 14, 15] rfl) ((hD.sub (ws' := [((a 0), .inr (11, [.ref (a 1), .ref (a 6), .ref (a 10), .ref (a 15), .ref (a 17), .ref (a 22), .ref (a 23), .ref (a 30), .ref (a 31), .ref (a 34), .int 0, .ref (a 37), .ref (a 40)])), ((a 17), .inr (6, [.ref (a 6), .ref (a 18), .ref (a 19), .int 0, .ref (a 20), .ref (a 21), .int 0, .int 0, .int 0, .int 0, .int (-1)])), ((a 6), .inr (10, [.ref (a 1), .ref (a 7), .ref (a 8), .ref (a 9), .int 0, .int 0, .int 0, .int 0, .int 1, .int 0, .int 0])), ((a 20), .inl (J.2.1, 32, .inl (fun _ => 0))), ((a 21), .inl (J.2.1, 32, .inl (fun _ => 0)))]) [0, 13, 4, 14, 15] (by decide) rfl).weaken (fun _ _ _ _ => trivial)) rfl rfl rfl ⟨Nat.le_of_ble_eq_true rfl, Nat.le_of_ble_eq_true rfl⟩ rfl rfl rfl hl.1 rfl (Nat.le_of_ble_eq_true rfl) ⟨Nat.le_of_ble_eq_true rfl, Nat.le_of_ble_eq_true rfl⟩ dL_law_588) (fun r2 u1 H locs hw hP hD hS => ?_)
  subst hw
  have hP : va_P J.1 cls [((bb 0), .inr (12, [.ref (bb 1), .ref (bb 2), .ref (bb 3), .ref (bb 4), .int 0, .int 0, .int 0, .int 0, .ref (bb 9), .ref (bb 10), .int 0, .ref (bb 12), .int (-1), .int 0, .int 0, .int 0, .int 0, .int 0, .ref (bb 19), .ref (bb 20), .ref (bb 21), .ref (bb 22), .ref (bb 23), .long 0, .long 0, .long 0, .ref (bb 27), .ref (bb 28), .ref (bb 29), .long 0, .int 0, .int (-1), .int 0, .int 0, .int 0, .ref (bb 36), .int 0, .int 0, .ref (bb 39), .ref (bb 40), .int 0, .ref (bb 42), .ref (bb 43), .int 0, .int 0, .int 0, .ref (bb 47), .ref (bb 48), .ref (bb 49), .ref (bb 50)])), ((bb 1), .inl (J.2.1, 22, .inl (upd (fun _ => 0) (20 : Int32).toNatClampNeg 1))), ((bb 2), .inl (J.2.1, 40, .inl (fun _ => 0))), ((bb 3), .inl (J.2.1, 40, .inl (fun _ => 0))), ((bb 4), .inl (J.2.1, 40, .inl (fun _ => 0))), ((bb 10), .inl (J.2.1, 120, .inl (fun _ => 0))), ((bb 21), .inl (J.2.1, 7168, .inl (fun _ => 0))), ((bb 39), .inl (J.2.1, 5, .inl (fun _ => 0))), ((bb 40), .inl (J.2.1, 10, .inl (fun _ => 0))), ((bb 36), .inl (J.2.1, 10, .inl (fun _ => 0))), ((bb 42), .inl (J.2.1, 50, .inl (fun _ => 0))), ((bb 47), .inl (J.2.1, 6, .inl g)), ((bb 48), .inl (J.2.1, 6, .inl (fun _ => 0))), ((bb 49), .inl (J.2.2.1, 360, .inr (.inl (fun _ => 0))))] H := hP
  have hD : va_D A [((bb 0), .inr (12, [.ref (bb 1), .ref (bb 2), .ref (bb 3), .ref (bb 4), .int 0, .int 0, .int 0, .int 0, .ref (bb 9), .ref (bb 10), .int 0, .ref (bb 12), .int (-1), .int 0, .int 0, .int 0, .int 0, .int 0, .ref (bb 19), .ref (bb 20), .ref (bb 21), .ref (bb 22), .ref (bb 23), .long 0, .long 0, .long 0, .ref (bb 27), .ref (bb 28), .ref (bb 29), .long 0, .int 0, .int (-1), .int 0, .int 0, .int 0, .ref (bb 36), .int 0, .int 0, .ref (bb 39), .ref (bb 40), .int 0, .ref (bb 42), .ref (bb 43), .int 0, .int 0, .int 0, .ref (bb 47), .ref (bb 48), .ref (bb 49), .ref (bb 50)])), ((bb 1), .inl (J.2.1, 22, .inl (upd (fun _ => 0) (20 : Int32).toNatClampNeg 1))), ((bb 2), .inl (J.2.1, 40, .inl (fun _ => 0))), ((bb 3), .inl (J.2.1, 40, .inl (fun _ => 0))), ((bb 4), .inl (J.2.1, 40, .inl (fun _ => 0))), ((bb 10), .inl (J.2.1, 120, .inl (fun _ => 0))), ((bb 21), .inl (J.2.1, 7168, .inl (fun _ => 0))), ((bb 39), .inl (J.2.1, 5, .inl (fun _ => 0))), ((bb 40), .inl (J.2.1, 10, .inl (fun _ => 0))), ((bb 36), .inl (J.2.1, 10, .inl (fun _ => 0))), ((bb 42), .inl (J.2.1, 50, .inl (fun _ => 0))), ((bb 47), .inl (J.2.1, 6, .inl g)), ((bb 48), .inl (J.2.1, 6, .inl (fun _ => 0))), ((bb 49), .inl (J.2.2.1, 360, .inr (.inl (fun _ => 0))))] := hD
  refine W.widen (k := 600000) (n := 7302250) (Nat.le_of_ble_eq_true rfl) (Nat.le_of_ble_eq_true rfl) ?_
  refine lv_aload_n hx hb dL_law_591 rfl (lv_at hl 1 rfl) ?_
  refine lv_aload_n hx hb dL_law_592 rfl (lv_at hl 3 rfl) ?_
  refine lv_iload_n hx hb dL_law_593 rfl (lv_at hl 0 rfl) ?_
  refine lv_iconst (v := 1) hx hb dL_law_594 (by decide) ?_
  refine lv_iadd hx hb dL_law_595 ?_
  refine top_i (y := 1) (by decide) ?_
  refine va_sld hx hb hX hbl hbA hS (i_in (a := 1) (by decide) (by omega) (by omega)) dL_law_596 ?_
  refine top_i (y := x1) e1.symm ?_
  refine lv_aload_n hx hb dL_law_597 rfl (lv_at hl 3 rfl) ?_
  refine lv_iload_n hx hb dL_law_598 rfl (lv_at hl 0 rfl) ?_
  refine lv_iconst (v := 2) hx hb dL_law_599 (by decide) ?_
  refine lv_iadd hx hb dL_law_600 ?_
  refine top_i (y := 2) (by decide) ?_
  refine va_sld hx hb hX hbl hbA hS (i_in (a := 2) (by decide) (by omega) (by omega)) dL_law_601 ?_
  refine top_i (y := x2) e2.symm ?_
  refine gw_i (wc := [((bb 0), .inr (12, [.ref (bb 1), .ref (bb 2), .ref (bb 3), .ref (bb 4), .int 0, .int 0, .int 0, .int 0, .ref (bb 9), .ref (bb 10), .int 0, .ref (bb 12), .int (-1), .int 0, .int 0, .int 0, .int 0, .int 0, .ref (bb 19), .ref (bb 20), .ref (bb 21), .ref (bb 22), .ref (bb 23), .long 0, .long 0, .long 0, .ref (bb 27), .ref (bb 28), .ref (bb 29), .long 0, .int 0, .int (-1), .int 0, .int 0, .int 0, .ref (bb 36), .int 0, .int 0, .ref (bb 39), .ref (bb 40), .int 0, .ref (bb 42), .ref (bb 43), .int 0, .int 0, .int 0, .ref (bb 47), .ref (bb 48), .ref (bb 49), .ref (bb 50)])), ((bb 21), .inl (J.2.1, 7168, .inl (fun _ => 0)))]) (wr := [((bb 1), .inl (J.2.1, 22, .inl (upd (fun _ => 0) (20 : Int32).toNatClampNeg 1))), ((bb 2), .inl (J.2.1, 40, .inl (fun _ => 0))), ((bb 3), .inl (J.2.1, 40, .inl (fun _ => 0))), ((bb 4), .inl (J.2.1, 40, .inl (fun _ => 0))), ((bb 10), .inl (J.2.1, 120, .inl (fun _ => 0))), ((bb 39), .inl (J.2.1, 5, .inl (fun _ => 0))), ((bb 40), .inl (J.2.1, 10, .inl (fun _ => 0))), ((bb 36), .inl (J.2.1, 10, .inl (fun _ => 0))), ((bb 42), .inl (J.2.1, 50, .inl (fun _ => 0))), ((bb 47), .inl (J.2.1, 6, .inl g)), ((bb 48), .inl (J.2.1, 6, .inl (fun _ => 0))), ((bb 49), .inl (J.2.2.1, 360, .inr (.inl (fun _ => 0))))]) hP hD hS hA [0, 6] [1, 2, 3, 4, 5, 7, 8, 9, 10, 11, 12, 13] rfl rfl (by decide) (by decide) (wn_V (As := [.int x1, .int x2]) (rest := [.int (sp_sureFrom (x1.toInt) (x2.toInt))]) hx hb hml hown hts hK (m_sureFrom l J _ bb x1 x2) kV_RL_72 (hP.sub (ws' := [((bb 0), .inr (12, [.ref (bb 1), .ref (bb 2), .ref (bb 3), .ref (bb 4), .int 0, .int 0, .int 0, .int 0, .ref (bb 9), .ref (bb 10), .int 0, .ref (bb 12), .int (-1), .int 0, .int 0, .int 0, .int 0, .int 0, .ref (bb 19), .ref (bb 20), .ref (bb 21), .ref (bb 22), .ref (bb 23), .long 0, .long 0, .long 0, .ref (bb 27), .ref (bb 28), .ref (bb 29), .long 0, .int 0, .int (-1), .int 0, .int 0, .int 0, .ref (bb 36), .int 0, .int 0, .ref (bb 39), .ref (bb 40), .int 0, .ref (bb 42), .ref (bb 43), .int 0, .int 0, .int 0, .ref (bb 47), .ref (bb 48), .ref (bb 49), .ref (bb 50)])), ((bb 21), .inl (J.2.1, 7168, .inl (fun _ => 0)))]) [0, 6] rfl) ((hD.sub (ws' := [((bb 0), .inr (12, [.ref (bb 1), .ref (bb 2), .ref (bb 3), .ref (bb 4), .int 0, .int 0, .int 0, .int 0, .ref (bb 9), .ref (bb 10), .int 0, .ref (bb 12), .int (-1), .int 0, .int 0, .int 0, .int 0, .int 0, .ref (bb 19), .ref (bb 20), .ref (bb 21), .ref (bb 22), .ref (bb 23), .long 0, .long 0, .long 0, .ref (bb 27), .ref (bb 28), .ref (bb 29), .long 0, .int 0, .int (-1), .int 0, .int 0, .int 0, .ref (bb 36), .int 0, .int 0, .ref (bb 39), .ref (bb 40), .int 0, .ref (bb 42), .ref (bb 43), .int 0, .int 0, .int 0, .ref (bb 47), .ref (bb 48), .ref (bb 49), .ref (bb 50)])), ((bb 21), .inl (J.2.1, 7168, .inl (fun _ => 0)))]) [0, 6] (by decide) rfl).weaken (fun _ _ _ _ => trivial)) rfl rfl rfl ⟨Nat.le_of_ble_eq_true rfl, Nat.le_of_ble_eq_true rfl⟩ rfl rfl rfl hl.1 rfl (Nat.le_of_ble_eq_true rfl) ⟨Nat.le_of_ble_eq_true rfl, Nat.le_of_ble_eq_true rfl⟩ dL_law_602) (fun r4 u3 H locs hw hP hD hS => ?_)
  subst hw
  have hP : va_P J.1 cls [((bb 1), .inl (J.2.1, 22, .inl (upd (fun _ => 0) (20 : Int32).toNatClampNeg 1))), ((bb 2), .inl (J.2.1, 40, .inl (fun _ => 0))), ((bb 3), .inl (J.2.1, 40, .inl (fun _ => 0))), ((bb 4), .inl (J.2.1, 40, .inl (fun _ => 0))), ((bb 10), .inl (J.2.1, 120, .inl (fun _ => 0))), ((bb 39), .inl (J.2.1, 5, .inl (fun _ => 0))), ((bb 40), .inl (J.2.1, 10, .inl (fun _ => 0))), ((bb 36), .inl (J.2.1, 10, .inl (fun _ => 0))), ((bb 42), .inl (J.2.1, 50, .inl (fun _ => 0))), ((bb 47), .inl (J.2.1, 6, .inl g)), ((bb 48), .inl (J.2.1, 6, .inl (fun _ => 0))), ((bb 49), .inl (J.2.2.1, 360, .inr (.inl (fun _ => 0))))] H := hP
  have hD : va_D A [((bb 1), .inl (J.2.1, 22, .inl (upd (fun _ => 0) (20 : Int32).toNatClampNeg 1))), ((bb 2), .inl (J.2.1, 40, .inl (fun _ => 0))), ((bb 3), .inl (J.2.1, 40, .inl (fun _ => 0))), ((bb 4), .inl (J.2.1, 40, .inl (fun _ => 0))), ((bb 10), .inl (J.2.1, 120, .inl (fun _ => 0))), ((bb 39), .inl (J.2.1, 5, .inl (fun _ => 0))), ((bb 40), .inl (J.2.1, 10, .inl (fun _ => 0))), ((bb 36), .inl (J.2.1, 10, .inl (fun _ => 0))), ((bb 42), .inl (J.2.1, 50, .inl (fun _ => 0))), ((bb 47), .inl (J.2.1, 6, .inl g)), ((bb 48), .inl (J.2.1, 6, .inl (fun _ => 0))), ((bb 49), .inl (J.2.2.1, 360, .inr (.inl (fun _ => 0))))] := hD
  refine W.widen (k := 600000) (n := 7302250) (Nat.le_of_ble_eq_true rfl) (Nat.le_of_ble_eq_true rfl) ?_
  refine lv_icmp_eq (tgt := 1413) hx hb dL_law_605 (by decide) (fun _ => ?_) (fun c => absurd rfl c)
  exact law_end E0 hS (lv_sub hl [0, 1, 2, 3] rfl)
theorem dL_law_610 : decode cL_law 610 = .ok (.aload_n 1, 1) := by decide +kernel
theorem q_887 : Cond.methodLink RL 73 yX11_ring ∈ lw_g := mem_q 887 (by decide +kernel) rfl
theorem q_888 : Cond.instanceMethod yX11_ring ∈ lw_g := mem_q 888 (by decide +kernel) rfl
theorem q_889 : Cond.selects RX11 yX11_ring yX11_ring ∈ lw_g := mem_q 889 (by decide +kernel) rfl
theorem q_890 : Cond.code yX11_ring cX11_ring 1 (some .int) ∈ lw_g := mem_q 890 (by decide +kernel) rfl
theorem kV_RL_73 : CV RL 73 RX11 yX11_ring cX11_ring 1 (some .int) 0 := cv_of q_887 q_888 q_889 q_103 q_890 (by decide +kernel)
theorem dL_law_611 : decode cL_law 611 = .ok (.invokevirtual 73, 3) := by decide +kernel
theorem dL_law_614 : decode cL_law 614 = .ok (.aload_n 2, 1) := by decide +kernel
theorem q_1639 : Cond.methodLink RL 76 yX12_ring ∈ lw_g := mem_q 1639 (by decide +kernel) rfl
theorem q_1640 : Cond.instanceMethod yX12_ring ∈ lw_g := mem_q 1640 (by decide +kernel) rfl
theorem q_1641 : Cond.selects RX12 yX12_ring yX12_ring ∈ lw_g := mem_q 1641 (by decide +kernel) rfl
theorem q_1642 : Cond.code yX12_ring cX12_ring 4 (some .int) ∈ lw_g := mem_q 1642 (by decide +kernel) rfl
theorem kV_RL_76 : CV RL 76 RX12 yX12_ring cX12_ring 4 (some .int) 0 := cv_of q_1639 q_1640 q_1641 q_115 q_1642 (by decide +kernel)
theorem dL_law_615 : decode cL_law 615 = .ok (.invokevirtual 76, 3) := by decide +kernel
theorem dL_law_618 : decode cL_law 618 = .ok (.if_icmp .eq 795, 3) := by decide +kernel
set_option maxHeartbeats 4000000 in
set_option maxRecDepth 100000 in
/-- ring -/
theorem lk_14 {p : Program} {l : Launch} {e : Env} {s : State} {m : MethodId} {below : List Frame} {meth : Method} {c : Code} {b : Nat} {xs : Nat → Int32} {J : va_J9} {A : Nat → Prop} {H : Heap} {locs : List Loc} {ls : Array Slot} {a bb : Nat → Nat} {f : Nat → Option Nat} {g : Nat → Int32} (E0 : LE p s m meth c b 6 xs J A) (hfx : ∀ j, j < 6 → f j = some (a (41 + j))) (hg : ∀ k, k < 6 → g k = -1) (hP : va_P J.1 cls (xW J a f ++ mW J bb g) H) (hD : va_D A (xW J a f ++ mW J bb g)) (hS : va_S A s.heap H locs) (hl : lv_has ls 4 [(3, .int 0), (2, .ref (bb 0)), (1, .ref (a 0)), (0, .ref b)]) : W p l e room_1 s m #[Value.ref b] below meth c H locs 600000 7302250 (lw_Z below #[Value.ref b] s) (F0 m 610 ls []) := by
  obtain ⟨hx, hb, hr, hml, hown, hts, hX, hbl, hlk, hK, hA, hAs⟩ := id E0
  have hbA : ¬ A b := fun h => absurd (hAs b h) (Nat.not_le.mpr hbl)
  refine lv_aload_n hx hb dL_law_610 rfl (lv_at hl 2 rfl) ?_
  refine go_i (rn_V (As := []) (rest := []) hx hb hml hown hts hK (c_ring l J a) kV_RL_73 (hP.sub (ws' := [((a 0), .inr (11, [.ref (a 1), .ref (a 6), .ref (a 10), .ref (a 15), .ref (a 17), .ref (a 22), .ref (a 23), .ref (a 30), .ref (a 31), .ref (a 34), .int 0, .ref (a 37), .ref (a 40)])), ((a 22), .inr (5, [.ref (a 6)])), ((a 6), .inr (10, [.ref (a 1), .ref (a 7), .ref (a 8), .ref (a 9), .int 0, .int 0, .int 0, .int 0, .int 1, .int 0, .int 0]))]) [0, 16, 4] rfl) rfl rfl rfl ⟨Nat.le_of_ble_eq_true rfl, Nat.le_of_ble_eq_true rfl⟩ rfl rfl rfl hl.1 rfl (Nat.le_of_ble_eq_true rfl) ⟨Nat.le_of_ble_eq_true rfl, Nat.le_of_ble_eq_true rfl⟩ dL_law_611) ?_
  refine lv_aload_n hx hb dL_law_614 rfl (lv_at hl 1 rfl) ?_
  refine go_i (rn_V (As := []) (rest := [.int 0]) hx hb hml hown hts hK (m_ring l J bb) kV_RL_76 (hP.sub (ws' := [((bb 0), .inr (12, [.ref (bb 1), .ref (bb 2), .ref (bb 3), .ref (bb 4), .int 0, .int 0, .int 0, .int 0, .ref (bb 9), .ref (bb 10), .int 0, .ref (bb 12), .int (-1), .int 0, .int 0, .int 0, .int 0, .int 0, .ref (bb 19), .ref (bb 20), .ref (bb 21), .ref (bb 22), .ref (bb 23), .long 0, .long 0, .long 0, .ref (bb 27), .ref (bb 28), .ref (bb 29), .long 0, .int 0, .int (-1), .int 0, .int 0, .int 0, .ref (bb 36), .int 0, .int 0, .ref (bb 39), .ref (bb 40), .int 0, .ref (bb 42), .ref (bb 43), .int 0, .int 0, .int 0, .ref (bb 47), .ref (bb 48), .ref (bb 49), .ref (bb 50)]))]) [39] rfl) rfl rfl rfl ⟨Nat.le_of_ble_eq_true rfl, Nat.le_of_ble_eq_true rfl⟩ rfl rfl rfl hl.1 rfl (Nat.le_of_ble_eq_true rfl) ⟨Nat.le_of_ble_eq_true rfl, Nat.le_of_ble_eq_true rfl⟩ dL_law_615) ?_
  refine lv_icmp_eq (tgt := 1413) hx hb dL_law_618 (by decide) (fun _ => ?_) (fun c => absurd c (by decide))
  exact law_end E0 hS (lv_sub hl [0, 1, 2, 3] rfl)
theorem dL_law_623 : decode cL_law 623 = .ok (.aload_n 1, 1) := by decide +kernel
theorem q_901 : Cond.methodLink RL 77 yX11_arms ∈ lw_g := mem_q 901 (by decide +kernel) rfl
theorem q_902 : Cond.instanceMethod yX11_arms ∈ lw_g := mem_q 902 (by decide +kernel) rfl
theorem q_903 : Cond.selects RX11 yX11_arms yX11_arms ∈ lw_g := mem_q 903 (by decide +kernel) rfl
theorem q_904 : Cond.code yX11_arms cX11_arms 1 (some .int) ∈ lw_g := mem_q 904 (by decide +kernel) rfl
theorem kV_RL_77 : CV RL 77 RX11 yX11_arms cX11_arms 1 (some .int) 0 := cv_of q_901 q_902 q_903 q_103 q_904 (by decide +kernel)
theorem dL_law_624 : decode cL_law 624 = .ok (.invokevirtual 77, 3) := by decide +kernel
theorem dL_law_627 : decode cL_law 627 = .ok (.aload_n 2, 1) := by decide +kernel
theorem q_1643 : Cond.methodLink RL 80 yX12_arms ∈ lw_g := mem_q 1643 (by decide +kernel) rfl
theorem q_1644 : Cond.instanceMethod yX12_arms ∈ lw_g := mem_q 1644 (by decide +kernel) rfl
theorem q_1645 : Cond.selects RX12 yX12_arms yX12_arms ∈ lw_g := mem_q 1645 (by decide +kernel) rfl
theorem q_1646 : Cond.code yX12_arms cX12_arms 4 (some .int) ∈ lw_g := mem_q 1646 (by decide +kernel) rfl
theorem kV_RL_80 : CV RL 80 RX12 yX12_arms cX12_arms 4 (some .int) 0 := cv_of q_1643 q_1644 q_1645 q_115 q_1646 (by decide +kernel)
theorem dL_law_628 : decode cL_law 628 = .ok (.invokevirtual 80, 3) := by decide +kernel
theorem dL_law_631 : decode cL_law 631 = .ok (.if_icmp .eq 782, 3) := by decide +kernel
set_option maxHeartbeats 4000000 in
set_option maxRecDepth 100000 in
/-- arms -/
theorem lk_15 {p : Program} {l : Launch} {e : Env} {s : State} {m : MethodId} {below : List Frame} {meth : Method} {c : Code} {b : Nat} {xs : Nat → Int32} {J : va_J9} {A : Nat → Prop} {H : Heap} {locs : List Loc} {ls : Array Slot} {a bb : Nat → Nat} {f : Nat → Option Nat} {g : Nat → Int32} (E0 : LE p s m meth c b 6 xs J A) (hfx : ∀ j, j < 6 → f j = some (a (41 + j))) (hg : ∀ k, k < 6 → g k = -1) (hP : va_P J.1 cls (xW J a f ++ mW J bb g) H) (hD : va_D A (xW J a f ++ mW J bb g)) (hS : va_S A s.heap H locs) (hl : lv_has ls 4 [(3, .int 0), (2, .ref (bb 0)), (1, .ref (a 0)), (0, .ref b)]) : W p l e room_1 s m #[Value.ref b] below meth c H locs 600000 7302250 (lw_Z below #[Value.ref b] s) (F0 m 623 ls []) := by
  obtain ⟨hx, hb, hr, hml, hown, hts, hX, hbl, hlk, hK, hA, hAs⟩ := id E0
  have hbA : ¬ A b := fun h => absurd (hAs b h) (Nat.not_le.mpr hbl)
  refine lv_aload_n hx hb dL_law_623 rfl (lv_at hl 2 rfl) ?_
  refine go_i (rn_V (As := []) (rest := []) hx hb hml hown hts hK (c_arms l J a) kV_RL_77 (hP.sub (ws' := [((a 0), .inr (11, [.ref (a 1), .ref (a 6), .ref (a 10), .ref (a 15), .ref (a 17), .ref (a 22), .ref (a 23), .ref (a 30), .ref (a 31), .ref (a 34), .int 0, .ref (a 37), .ref (a 40)])), ((a 22), .inr (5, [.ref (a 6)])), ((a 6), .inr (10, [.ref (a 1), .ref (a 7), .ref (a 8), .ref (a 9), .int 0, .int 0, .int 0, .int 0, .int 1, .int 0, .int 0]))]) [0, 16, 4] rfl) rfl rfl rfl ⟨Nat.le_of_ble_eq_true rfl, Nat.le_of_ble_eq_true rfl⟩ rfl rfl rfl hl.1 rfl (Nat.le_of_ble_eq_true rfl) ⟨Nat.le_of_ble_eq_true rfl, Nat.le_of_ble_eq_true rfl⟩ dL_law_624) ?_
  refine lv_aload_n hx hb dL_law_627 rfl (lv_at hl 1 rfl) ?_
  refine go_i (rn_V (As := []) (rest := [.int 0]) hx hb hml hown hts hK (m_arms l J bb) kV_RL_80 (hP.sub (ws' := [((bb 0), .inr (12, [.ref (bb 1), .ref (bb 2), .ref (bb 3), .ref (bb 4), .int 0, .int 0, .int 0, .int 0, .ref (bb 9), .ref (bb 10), .int 0, .ref (bb 12), .int (-1), .int 0, .int 0, .int 0, .int 0, .int 0, .ref (bb 19), .ref (bb 20), .ref (bb 21), .ref (bb 22), .ref (bb 23), .long 0, .long 0, .long 0, .ref (bb 27), .ref (bb 28), .ref (bb 29), .long 0, .int 0, .int (-1), .int 0, .int 0, .int 0, .ref (bb 36), .int 0, .int 0, .ref (bb 39), .ref (bb 40), .int 0, .ref (bb 42), .ref (bb 43), .int 0, .int 0, .int 0, .ref (bb 47), .ref (bb 48), .ref (bb 49), .ref (bb 50)]))]) [39] rfl) rfl rfl rfl ⟨Nat.le_of_ble_eq_true rfl, Nat.le_of_ble_eq_true rfl⟩ rfl rfl rfl hl.1 rfl (Nat.le_of_ble_eq_true rfl) ⟨Nat.le_of_ble_eq_true rfl, Nat.le_of_ble_eq_true rfl⟩ dL_law_628) ?_
  refine lv_icmp_eq (tgt := 1413) hx hb dL_law_631 (by decide) (fun _ => ?_) (fun c => absurd c (by decide))
  exact law_end E0 hS (lv_sub hl [0, 1, 2, 3] rfl)
theorem dL_law_636 : decode cL_law 636 = .ok (.aload_n 1, 1) := by decide +kernel
theorem dL_law_637 : decode cL_law 637 = .ok (.aload_n 0, 1) := by decide +kernel
theorem dL_law_638 : decode cL_law 638 = .ok (.iload_n 3, 1) := by decide +kernel
theorem dL_law_639 : decode cL_law 639 = .ok (.iconst 1, 1) := by decide +kernel
theorem dL_law_640 : decode cL_law 640 = .ok (.iadd, 1) := by decide +kernel
theorem dL_law_641 : decode cL_law 641 = .ok (.iaload, 1) := by decide +kernel
theorem q_918 : Cond.methodLink RL 81 yX11_toStop ∈ lw_g := mem_q 918 (by decide +kernel) rfl
theorem q_919 : Cond.instanceMethod yX11_toStop ∈ lw_g := mem_q 919 (by decide +kernel) rfl
theorem q_920 : Cond.selects RX11 yX11_toStop yX11_toStop ∈ lw_g := mem_q 920 (by decide +kernel) rfl
theorem q_921 : Cond.code yX11_toStop cX11_toStop 2 (some .int) ∈ lw_g := mem_q 921 (by decide +kernel) rfl
theorem kV_RL_81 : CV RL 81 RX11 yX11_toStop cX11_toStop 2 (some .int) 1 := cv_of q_918 q_919 q_920 q_103 q_921 (by decide +kernel)
theorem dL_law_642 : decode cL_law 642 = .ok (.invokevirtual 81, 3) := by decide +kernel
theorem dL_law_645 : decode cL_law 645 = .ok (.aload_n 2, 1) := by decide +kernel
theorem dL_law_646 : decode cL_law 646 = .ok (.aload_n 0, 1) := by decide +kernel
theorem dL_law_647 : decode cL_law 647 = .ok (.iload_n 3, 1) := by decide +kernel
theorem dL_law_648 : decode cL_law 648 = .ok (.iconst 1, 1) := by decide +kernel
theorem dL_law_649 : decode cL_law 649 = .ok (.iadd, 1) := by decide +kernel
theorem dL_law_650 : decode cL_law 650 = .ok (.iaload, 1) := by decide +kernel
theorem q_1651 : Cond.methodLink RL 84 yX12_toStop ∈ lw_g := mem_q 1651 (by decide +kernel) rfl
theorem q_1652 : Cond.instanceMethod yX12_toStop ∈ lw_g := mem_q 1652 (by decide +kernel) rfl
theorem q_1653 : Cond.selects RX12 yX12_toStop yX12_toStop ∈ lw_g := mem_q 1653 (by decide +kernel) rfl
theorem q_1654 : Cond.code yX12_toStop cX12_toStop 5 (some .int) ∈ lw_g := mem_q 1654 (by decide +kernel) rfl
theorem kV_RL_84 : CV RL 84 RX12 yX12_toStop cX12_toStop 5 (some .int) 1 := cv_of q_1651 q_1652 q_1653 q_115 q_1654 (by decide +kernel)
theorem dL_law_651 : decode cL_law 651 = .ok (.invokevirtual 84, 3) := by decide +kernel
theorem dL_law_654 : decode cL_law 654 = .ok (.if_icmp .eq 759, 3) := by decide +kernel
set_option maxHeartbeats 4000000 in
set_option maxRecDepth 100000 in
/-- toStop -/
theorem lk_16 {p : Program} {l : Launch} {e : Env} {s : State} {m : MethodId} {below : List Frame} {meth : Method} {c : Code} {b : Nat} {xs : Nat → Int32} {J : va_J9} {A : Nat → Prop} {H : Heap} {locs : List Loc} {ls : Array Slot} {a bb : Nat → Nat} {f : Nat → Option Nat} {g : Nat → Int32} (E0 : LE p s m meth c b 6 xs J A) (hfx : ∀ j, j < 6 → f j = some (a (41 + j))) (hg : ∀ k, k < 6 → g k = -1) (hP : va_P J.1 cls (xW J a f ++ mW J bb g) H) (hD : va_D A (xW J a f ++ mW J bb g)) (hS : va_S A s.heap H locs) (hl : lv_has ls 4 [(3, .int 0), (2, .ref (bb 0)), (1, .ref (a 0)), (0, .ref b)]) : W p l e room_1 s m #[Value.ref b] below meth c H locs 600000 7302250 (lw_Z below #[Value.ref b] s) (F0 m 636 ls []) := by
  obtain ⟨hx, hb, hr, hml, hown, hts, hX, hbl, hlk, hK, hA, hAs⟩ := id E0
  have hbA : ¬ A b := fun h => absurd (hAs b h) (Nat.not_le.mpr hbl)
  obtain ⟨x1, e1⟩ : ∃ z : Int32, z = xs 1 := ⟨_, rfl⟩
  have rg_x1 := i_rng x1
  refine lv_aload_n hx hb dL_law_636 rfl (lv_at hl 2 rfl) ?_
  refine lv_aload_n hx hb dL_law_637 rfl (lv_at hl 3 rfl) ?_
  refine lv_iload_n hx hb dL_law_638 rfl (lv_at hl 0 rfl) ?_
  refine lv_iconst (v := 1) hx hb dL_law_639 (by decide) ?_
  refine lv_iadd hx hb dL_law_640 ?_
  refine top_i (y := 1) (by decide) ?_
  refine va_sld hx hb hX hbl hbA hS (i_in (a := 1) (by decide) (by omega) (by omega)) dL_law_641 ?_
  refine top_i (y := x1) e1.symm ?_
  refine gw_i (wc := [((a 0), .inr (11, [.ref (a 1), .ref (a 6), .ref (a 10), .ref (a 15), .ref (a 17), .ref (a 22), .ref (a 23), .ref (a 30), .ref (a 31), .ref (a 34), .int 0, .ref (a 37), .ref (a 40)])), ((a 17), .inr (6, [.ref (a 6), .ref (a 18), .ref (a 19), .int 0, .ref (a 20), .ref (a 21), .int 0, .int 0, .int 0, .int 0, .int (-1)])), ((a 6), .inr (10, [.ref (a 1), .ref (a 7), .ref (a 8), .ref (a 9), .int 0, .int 0, .int 0, .int 0, .int 1, .int 0, .int 0]))]) (wr := [((bb 0), .inr (12, [.ref (bb 1), .ref (bb 2), .ref (bb 3), .ref (bb 4), .int 0, .int 0, .int 0, .int 0, .ref (bb 9), .ref (bb 10), .int 0, .ref (bb 12), .int (-1), .int 0, .int 0, .int 0, .int 0, .int 0, .ref (bb 19), .ref (bb 20), .ref (bb 21), .ref (bb 22), .ref (bb 23), .long 0, .long 0, .long 0, .ref (bb 27), .ref (bb 28), .ref (bb 29), .long 0, .int 0, .int (-1), .int 0, .int 0, .int 0, .ref (bb 36), .int 0, .int 0, .ref (bb 39), .ref (bb 40), .int 0, .ref (bb 42), .ref (bb 43), .int 0, .int 0, .int 0, .ref (bb 47), .ref (bb 48), .ref (bb 49), .ref (bb 50)])), ((bb 1), .inl (J.2.1, 22, .inl (upd (fun _ => 0) (20 : Int32).toNatClampNeg 1))), ((bb 2), .inl (J.2.1, 40, .inl (fun _ => 0))), ((bb 3), .inl (J.2.1, 40, .inl (fun _ => 0))), ((bb 4), .inl (J.2.1, 40, .inl (fun _ => 0))), ((bb 10), .inl (J.2.1, 120, .inl (fun _ => 0))), ((bb 21), .inl (J.2.1, 7168, .inl (fun _ => 0))), ((bb 39), .inl (J.2.1, 5, .inl (fun _ => 0))), ((bb 40), .inl (J.2.1, 10, .inl (fun _ => 0))), ((bb 36), .inl (J.2.1, 10, .inl (fun _ => 0))), ((bb 42), .inl (J.2.1, 50, .inl (fun _ => 0))), ((bb 47), .inl (J.2.1, 6, .inl g)), ((bb 48), .inl (J.2.1, 6, .inl (fun _ => 0))), ((bb 49), .inl (J.2.2.1, 360, .inr (.inl (fun _ => 0))))]) hP hD hS hA [0, 13, 4] [39, 40, 41, 42, 43, 44, 45, 46, 47, 48, 49, 50, 51, 52] rfl rfl (by decide) (by decide) (wn_V (As := [.int x1]) (rest := []) hx hb hml hown hts hK (c_toStop l J _ a x1) kV_RL_81 (hP.sub (ws' := [((a 0), .inr (11, [.ref (a 1), .ref (a 6), .ref (a 10), .ref (a 15), .ref (a 17), .ref (a 22), .ref (a 23), .ref (a 30), .ref (a 31), .ref (a 34), .int 0, .ref (a 37), .ref (a 40)])), ((a 17), .inr (6, [.ref (a 6), .ref (a 18), .ref (a 19), .int 0, .ref (a 20), .ref (a 21), .int 0, .int 0, .int 0, .int 0, .int (-1)])), ((a 6), .inr (10, [.ref (a 1), .ref (a 7), .ref (a 8), .ref (a 9), .int 0, .int 0, .int 0, .int 0, .int 1, .int 0, .int 0]))]) [0, 13, 4] rfl) ((hD.sub (ws' := [((a 0), .inr (11, [.ref (a 1), .ref (a 6), .ref (a 10), .ref (a 15), .ref (a 17), .ref (a 22), .ref (a 23), .ref (a 30), .ref (a 31), .ref (a 34), .int 0, .ref (a 37), .ref (a 40)])), ((a 17), .inr (6, [.ref (a 6), .ref (a 18), .ref (a 19), .int 0, .ref (a 20), .ref (a 21), .int 0, .int 0, .int 0, .int 0, .int (-1)])), ((a 6), .inr (10, [.ref (a 1), .ref (a 7), .ref (a 8), .ref (a 9), .int 0, .int 0, .int 0, .int 0, .int 1, .int 0, .int 0]))]) [0, 13, 4] (by decide) rfl).weaken (fun _ _ _ _ => trivial)) rfl rfl rfl ⟨Nat.le_of_ble_eq_true rfl, Nat.le_of_ble_eq_true rfl⟩ rfl rfl rfl hl.1 rfl (Nat.le_of_ble_eq_true rfl) ⟨Nat.le_of_ble_eq_true rfl, Nat.le_of_ble_eq_true rfl⟩ dL_law_642) (fun r2 u1 H locs hw hP hD hS => ?_)
  subst hw
  have hP : va_P J.1 cls [((bb 0), .inr (12, [.ref (bb 1), .ref (bb 2), .ref (bb 3), .ref (bb 4), .int 0, .int 0, .int 0, .int 0, .ref (bb 9), .ref (bb 10), .int 0, .ref (bb 12), .int (-1), .int 0, .int 0, .int 0, .int 0, .int 0, .ref (bb 19), .ref (bb 20), .ref (bb 21), .ref (bb 22), .ref (bb 23), .long 0, .long 0, .long 0, .ref (bb 27), .ref (bb 28), .ref (bb 29), .long 0, .int 0, .int (-1), .int 0, .int 0, .int 0, .ref (bb 36), .int 0, .int 0, .ref (bb 39), .ref (bb 40), .int 0, .ref (bb 42), .ref (bb 43), .int 0, .int 0, .int 0, .ref (bb 47), .ref (bb 48), .ref (bb 49), .ref (bb 50)])), ((bb 1), .inl (J.2.1, 22, .inl (upd (fun _ => 0) (20 : Int32).toNatClampNeg 1))), ((bb 2), .inl (J.2.1, 40, .inl (fun _ => 0))), ((bb 3), .inl (J.2.1, 40, .inl (fun _ => 0))), ((bb 4), .inl (J.2.1, 40, .inl (fun _ => 0))), ((bb 10), .inl (J.2.1, 120, .inl (fun _ => 0))), ((bb 21), .inl (J.2.1, 7168, .inl (fun _ => 0))), ((bb 39), .inl (J.2.1, 5, .inl (fun _ => 0))), ((bb 40), .inl (J.2.1, 10, .inl (fun _ => 0))), ((bb 36), .inl (J.2.1, 10, .inl (fun _ => 0))), ((bb 42), .inl (J.2.1, 50, .inl (fun _ => 0))), ((bb 47), .inl (J.2.1, 6, .inl g)), ((bb 48), .inl (J.2.1, 6, .inl (fun _ => 0))), ((bb 49), .inl (J.2.2.1, 360, .inr (.inl (fun _ => 0))))] H := hP
  have hD : va_D A [((bb 0), .inr (12, [.ref (bb 1), .ref (bb 2), .ref (bb 3), .ref (bb 4), .int 0, .int 0, .int 0, .int 0, .ref (bb 9), .ref (bb 10), .int 0, .ref (bb 12), .int (-1), .int 0, .int 0, .int 0, .int 0, .int 0, .ref (bb 19), .ref (bb 20), .ref (bb 21), .ref (bb 22), .ref (bb 23), .long 0, .long 0, .long 0, .ref (bb 27), .ref (bb 28), .ref (bb 29), .long 0, .int 0, .int (-1), .int 0, .int 0, .int 0, .ref (bb 36), .int 0, .int 0, .ref (bb 39), .ref (bb 40), .int 0, .ref (bb 42), .ref (bb 43), .int 0, .int 0, .int 0, .ref (bb 47), .ref (bb 48), .ref (bb 49), .ref (bb 50)])), ((bb 1), .inl (J.2.1, 22, .inl (upd (fun _ => 0) (20 : Int32).toNatClampNeg 1))), ((bb 2), .inl (J.2.1, 40, .inl (fun _ => 0))), ((bb 3), .inl (J.2.1, 40, .inl (fun _ => 0))), ((bb 4), .inl (J.2.1, 40, .inl (fun _ => 0))), ((bb 10), .inl (J.2.1, 120, .inl (fun _ => 0))), ((bb 21), .inl (J.2.1, 7168, .inl (fun _ => 0))), ((bb 39), .inl (J.2.1, 5, .inl (fun _ => 0))), ((bb 40), .inl (J.2.1, 10, .inl (fun _ => 0))), ((bb 36), .inl (J.2.1, 10, .inl (fun _ => 0))), ((bb 42), .inl (J.2.1, 50, .inl (fun _ => 0))), ((bb 47), .inl (J.2.1, 6, .inl g)), ((bb 48), .inl (J.2.1, 6, .inl (fun _ => 0))), ((bb 49), .inl (J.2.2.1, 360, .inr (.inl (fun _ => 0))))] := hD
  refine W.widen (k := 600000) (n := 7302250) (Nat.le_of_ble_eq_true rfl) (Nat.le_of_ble_eq_true rfl) ?_
  refine lv_aload_n hx hb dL_law_645 rfl (lv_at hl 1 rfl) ?_
  refine lv_aload_n hx hb dL_law_646 rfl (lv_at hl 3 rfl) ?_
  refine lv_iload_n hx hb dL_law_647 rfl (lv_at hl 0 rfl) ?_
  refine lv_iconst (v := 1) hx hb dL_law_648 (by decide) ?_
  refine lv_iadd hx hb dL_law_649 ?_
  refine top_i (y := 1) (by decide) ?_
  refine va_sld hx hb hX hbl hbA hS (i_in (a := 1) (by decide) (by omega) (by omega)) dL_law_650 ?_
  refine top_i (y := x1) e1.symm ?_
  refine go_i (rn_V (As := [.int x1]) (rest := [.int (sp_toStop (x1.toInt))]) hx hb hml hown hts hK (m_toStop l J bb x1) kV_RL_84 (hP.sub (ws' := [((bb 0), .inr (12, [.ref (bb 1), .ref (bb 2), .ref (bb 3), .ref (bb 4), .int 0, .int 0, .int 0, .int 0, .ref (bb 9), .ref (bb 10), .int 0, .ref (bb 12), .int (-1), .int 0, .int 0, .int 0, .int 0, .int 0, .ref (bb 19), .ref (bb 20), .ref (bb 21), .ref (bb 22), .ref (bb 23), .long 0, .long 0, .long 0, .ref (bb 27), .ref (bb 28), .ref (bb 29), .long 0, .int 0, .int (-1), .int 0, .int 0, .int 0, .ref (bb 36), .int 0, .int 0, .ref (bb 39), .ref (bb 40), .int 0, .ref (bb 42), .ref (bb 43), .int 0, .int 0, .int 0, .ref (bb 47), .ref (bb 48), .ref (bb 49), .ref (bb 50)]))]) [0] rfl) rfl rfl rfl ⟨Nat.le_of_ble_eq_true rfl, Nat.le_of_ble_eq_true rfl⟩ rfl rfl rfl hl.1 rfl (Nat.le_of_ble_eq_true rfl) ⟨Nat.le_of_ble_eq_true rfl, Nat.le_of_ble_eq_true rfl⟩ dL_law_651) ?_
  refine lv_icmp_eq (tgt := 1413) hx hb dL_law_654 (by decide) (fun _ => ?_) (fun c => absurd rfl c)
  exact law_end E0 hS (lv_sub hl [0, 1, 2, 3] rfl)
theorem dL_law_659 : decode cL_law 659 = .ok (.aload_n 1, 1) := by decide +kernel
theorem dL_law_660 : decode cL_law 660 = .ok (.aload_n 0, 1) := by decide +kernel
theorem dL_law_661 : decode cL_law 661 = .ok (.iload_n 3, 1) := by decide +kernel
theorem dL_law_662 : decode cL_law 662 = .ok (.iconst 1, 1) := by decide +kernel
theorem dL_law_663 : decode cL_law 663 = .ok (.iadd, 1) := by decide +kernel
theorem dL_law_664 : decode cL_law 664 = .ok (.iaload, 1) := by decide +kernel
theorem q_934 : Cond.methodLink RL 85 yX11_dogs ∈ lw_g := mem_q 934 (by decide +kernel) rfl
theorem q_935 : Cond.instanceMethod yX11_dogs ∈ lw_g := mem_q 935 (by decide +kernel) rfl
theorem q_936 : Cond.selects RX11 yX11_dogs yX11_dogs ∈ lw_g := mem_q 936 (by decide +kernel) rfl
theorem q_937 : Cond.code yX11_dogs cX11_dogs 2 (some .int) ∈ lw_g := mem_q 937 (by decide +kernel) rfl
theorem kV_RL_85 : CV RL 85 RX11 yX11_dogs cX11_dogs 2 (some .int) 1 := cv_of q_934 q_935 q_936 q_103 q_937 (by decide +kernel)
theorem dL_law_665 : decode cL_law 665 = .ok (.invokevirtual 85, 3) := by decide +kernel
theorem dL_law_668 : decode cL_law 668 = .ok (.aload_n 2, 1) := by decide +kernel
theorem dL_law_669 : decode cL_law 669 = .ok (.aload_n 0, 1) := by decide +kernel
theorem dL_law_670 : decode cL_law 670 = .ok (.iload_n 3, 1) := by decide +kernel
theorem dL_law_671 : decode cL_law 671 = .ok (.iconst 1, 1) := by decide +kernel
theorem dL_law_672 : decode cL_law 672 = .ok (.iadd, 1) := by decide +kernel
theorem dL_law_673 : decode cL_law 673 = .ok (.iaload, 1) := by decide +kernel
theorem q_1660 : Cond.methodLink RL 88 yX12_dogs ∈ lw_g := mem_q 1660 (by decide +kernel) rfl
theorem q_1661 : Cond.instanceMethod yX12_dogs ∈ lw_g := mem_q 1661 (by decide +kernel) rfl
theorem q_1662 : Cond.selects RX12 yX12_dogs yX12_dogs ∈ lw_g := mem_q 1662 (by decide +kernel) rfl
theorem q_1663 : Cond.code yX12_dogs cX12_dogs 7 (some .int) ∈ lw_g := mem_q 1663 (by decide +kernel) rfl
theorem kV_RL_88 : CV RL 88 RX12 yX12_dogs cX12_dogs 7 (some .int) 1 := cv_of q_1660 q_1661 q_1662 q_115 q_1663 (by decide +kernel)
theorem dL_law_674 : decode cL_law 674 = .ok (.invokevirtual 88, 3) := by decide +kernel
theorem dL_law_677 : decode cL_law 677 = .ok (.if_icmp .eq 736, 3) := by decide +kernel
set_option maxHeartbeats 4000000 in
set_option maxRecDepth 100000 in
/-- dogs -/
theorem lk_17 {p : Program} {l : Launch} {e : Env} {s : State} {m : MethodId} {below : List Frame} {meth : Method} {c : Code} {b : Nat} {xs : Nat → Int32} {J : va_J9} {A : Nat → Prop} {H : Heap} {locs : List Loc} {ls : Array Slot} {a bb : Nat → Nat} {f : Nat → Option Nat} {g : Nat → Int32} (E0 : LE p s m meth c b 6 xs J A) (hfx : ∀ j, j < 6 → f j = some (a (41 + j))) (hg : ∀ k, k < 6 → g k = -1) (hP : va_P J.1 cls (xW J a f ++ mW J bb g) H) (hD : va_D A (xW J a f ++ mW J bb g)) (hS : va_S A s.heap H locs) (hl : lv_has ls 4 [(3, .int 0), (2, .ref (bb 0)), (1, .ref (a 0)), (0, .ref b)]) : W p l e room_1 s m #[Value.ref b] below meth c H locs 600000 7302250 (lw_Z below #[Value.ref b] s) (F0 m 659 ls []) := by
  obtain ⟨hx, hb, hr, hml, hown, hts, hX, hbl, hlk, hK, hA, hAs⟩ := id E0
  have hbA : ¬ A b := fun h => absurd (hAs b h) (Nat.not_le.mpr hbl)
  obtain ⟨x1, e1⟩ : ∃ z : Int32, z = xs 1 := ⟨_, rfl⟩
  have rg_x1 := i_rng x1
  refine lv_aload_n hx hb dL_law_659 rfl (lv_at hl 2 rfl) ?_
  refine lv_aload_n hx hb dL_law_660 rfl (lv_at hl 3 rfl) ?_
  refine lv_iload_n hx hb dL_law_661 rfl (lv_at hl 0 rfl) ?_
  refine lv_iconst (v := 1) hx hb dL_law_662 (by decide) ?_
  refine lv_iadd hx hb dL_law_663 ?_
  refine top_i (y := 1) (by decide) ?_
  refine va_sld hx hb hX hbl hbA hS (i_in (a := 1) (by decide) (by omega) (by omega)) dL_law_664 ?_
  refine top_i (y := x1) e1.symm ?_
  refine go_i (rn_V (As := [.int x1]) (rest := []) hx hb hml hown hts hK (c_dogs l J a x1) kV_RL_85 (hP.sub (ws' := [((a 0), .inr (11, [.ref (a 1), .ref (a 6), .ref (a 10), .ref (a 15), .ref (a 17), .ref (a 22), .ref (a 23), .ref (a 30), .ref (a 31), .ref (a 34), .int 0, .ref (a 37), .ref (a 40)])), ((a 6), .inr (10, [.ref (a 1), .ref (a 7), .ref (a 8), .ref (a 9), .int 0, .int 0, .int 0, .int 0, .int 1, .int 0, .int 0]))]) [0, 4] rfl) rfl rfl rfl ⟨Nat.le_of_ble_eq_true rfl, Nat.le_of_ble_eq_true rfl⟩ rfl rfl rfl hl.1 rfl (Nat.le_of_ble_eq_true rfl) ⟨Nat.le_of_ble_eq_true rfl, Nat.le_of_ble_eq_true rfl⟩ dL_law_665) ?_
  refine lv_aload_n hx hb dL_law_668 rfl (lv_at hl 1 rfl) ?_
  refine lv_aload_n hx hb dL_law_669 rfl (lv_at hl 3 rfl) ?_
  refine lv_iload_n hx hb dL_law_670 rfl (lv_at hl 0 rfl) ?_
  refine lv_iconst (v := 1) hx hb dL_law_671 (by decide) ?_
  refine lv_iadd hx hb dL_law_672 ?_
  refine top_i (y := 1) (by decide) ?_
  refine va_sld hx hb hX hbl hbA hS (i_in (a := 1) (by decide) (by omega) (by omega)) dL_law_673 ?_
  refine top_i (y := x1) e1.symm ?_
  refine go_i (rn_V (As := [.int x1]) (rest := [.int (-1)]) hx hb hml hown hts hK (m_dogs l J bb x1) kV_RL_88 (hP.sub (ws' := [((bb 0), .inr (12, [.ref (bb 1), .ref (bb 2), .ref (bb 3), .ref (bb 4), .int 0, .int 0, .int 0, .int 0, .ref (bb 9), .ref (bb 10), .int 0, .ref (bb 12), .int (-1), .int 0, .int 0, .int 0, .int 0, .int 0, .ref (bb 19), .ref (bb 20), .ref (bb 21), .ref (bb 22), .ref (bb 23), .long 0, .long 0, .long 0, .ref (bb 27), .ref (bb 28), .ref (bb 29), .long 0, .int 0, .int (-1), .int 0, .int 0, .int 0, .ref (bb 36), .int 0, .int 0, .ref (bb 39), .ref (bb 40), .int 0, .ref (bb 42), .ref (bb 43), .int 0, .int 0, .int 0, .ref (bb 47), .ref (bb 48), .ref (bb 49), .ref (bb 50)]))]) [39] rfl) rfl rfl rfl ⟨Nat.le_of_ble_eq_true rfl, Nat.le_of_ble_eq_true rfl⟩ rfl rfl rfl hl.1 rfl (Nat.le_of_ble_eq_true rfl) ⟨Nat.le_of_ble_eq_true rfl, Nat.le_of_ble_eq_true rfl⟩ dL_law_674) ?_
  refine lv_icmp_eq (tgt := 1413) hx hb dL_law_677 (by decide) (fun _ => ?_) (fun c => absurd c (by decide))
  exact law_end E0 hS (lv_sub hl [0, 1, 2, 3] rfl)
theorem dL_law_682 : decode cL_law 682 = .ok (.aload_n 1, 1) := by decide +kernel
theorem dL_law_683 : decode cL_law 683 = .ok (.aload_n 0, 1) := by decide +kernel
theorem dL_law_684 : decode cL_law 684 = .ok (.iload_n 3, 1) := by decide +kernel
theorem dL_law_685 : decode cL_law 685 = .ok (.iconst 1, 1) := by decide +kernel
theorem dL_law_686 : decode cL_law 686 = .ok (.iadd, 1) := by decide +kernel
theorem dL_law_687 : decode cL_law 687 = .ok (.iaload, 1) := by decide +kernel
theorem q_944 : Cond.methodLink RL 89 yX11_kept ∈ lw_g := mem_q 944 (by decide +kernel) rfl
theorem q_945 : Cond.instanceMethod yX11_kept ∈ lw_g := mem_q 945 (by decide +kernel) rfl
theorem q_946 : Cond.selects RX11 yX11_kept yX11_kept ∈ lw_g := mem_q 946 (by decide +kernel) rfl
theorem q_947 : Cond.code yX11_kept cX11_kept 2 (some .int) ∈ lw_g := mem_q 947 (by decide +kernel) rfl
theorem kV_RL_89 : CV RL 89 RX11 yX11_kept cX11_kept 2 (some .int) 1 := cv_of q_944 q_945 q_946 q_103 q_947 (by decide +kernel)
theorem dL_law_688 : decode cL_law 688 = .ok (.invokevirtual 89, 3) := by decide +kernel
theorem dL_law_691 : decode cL_law 691 = .ok (.aload_n 2, 1) := by decide +kernel
theorem dL_law_692 : decode cL_law 692 = .ok (.aload_n 0, 1) := by decide +kernel
theorem dL_law_693 : decode cL_law 693 = .ok (.iload_n 3, 1) := by decide +kernel
theorem dL_law_694 : decode cL_law 694 = .ok (.iconst 1, 1) := by decide +kernel
theorem dL_law_695 : decode cL_law 695 = .ok (.iadd, 1) := by decide +kernel
theorem dL_law_696 : decode cL_law 696 = .ok (.iaload, 1) := by decide +kernel
theorem q_1664 : Cond.methodLink RL 92 yX12_kept ∈ lw_g := mem_q 1664 (by decide +kernel) rfl
theorem q_1665 : Cond.instanceMethod yX12_kept ∈ lw_g := mem_q 1665 (by decide +kernel) rfl
theorem q_1666 : Cond.selects RX12 yX12_kept yX12_kept ∈ lw_g := mem_q 1666 (by decide +kernel) rfl
theorem q_1667 : Cond.code yX12_kept cX12_kept 5 (some .int) ∈ lw_g := mem_q 1667 (by decide +kernel) rfl
theorem kV_RL_92 : CV RL 92 RX12 yX12_kept cX12_kept 5 (some .int) 1 := cv_of q_1664 q_1665 q_1666 q_115 q_1667 (by decide +kernel)
theorem dL_law_697 : decode cL_law 697 = .ok (.invokevirtual 92, 3) := by decide +kernel
theorem dL_law_700 : decode cL_law 700 = .ok (.if_icmp .eq 713, 3) := by decide +kernel
set_option maxHeartbeats 4000000 in
set_option maxRecDepth 100000 in
/-- kept -/
theorem lk_18 {p : Program} {l : Launch} {e : Env} {s : State} {m : MethodId} {below : List Frame} {meth : Method} {c : Code} {b : Nat} {xs : Nat → Int32} {J : va_J9} {A : Nat → Prop} {H : Heap} {locs : List Loc} {ls : Array Slot} {a bb : Nat → Nat} {f : Nat → Option Nat} {g : Nat → Int32} (E0 : LE p s m meth c b 6 xs J A) (hfx : ∀ j, j < 6 → f j = some (a (41 + j))) (hg : ∀ k, k < 6 → g k = -1) (hP : va_P J.1 cls (xW J a f ++ mW J bb g) H) (hD : va_D A (xW J a f ++ mW J bb g)) (hS : va_S A s.heap H locs) (hl : lv_has ls 4 [(3, .int 0), (2, .ref (bb 0)), (1, .ref (a 0)), (0, .ref b)]) : W p l e room_1 s m #[Value.ref b] below meth c H locs 600000 7302250 (lw_Z below #[Value.ref b] s) (F0 m 682 ls []) := by
  obtain ⟨hx, hb, hr, hml, hown, hts, hX, hbl, hlk, hK, hA, hAs⟩ := id E0
  have hbA : ¬ A b := fun h => absurd (hAs b h) (Nat.not_le.mpr hbl)
  obtain ⟨x1, e1⟩ : ∃ z : Int32, z = xs 1 := ⟨_, rfl⟩
  have rg_x1 := i_rng x1
  refine lv_aload_n hx hb dL_law_682 rfl (lv_at hl 2 rfl) ?_
  refine lv_aload_n hx hb dL_law_683 rfl (lv_at hl 3 rfl) ?_
  refine lv_iload_n hx hb dL_law_684 rfl (lv_at hl 0 rfl) ?_
  refine lv_iconst (v := 1) hx hb dL_law_685 (by decide) ?_
  refine lv_iadd hx hb dL_law_686 ?_
  refine top_i (y := 1) (by decide) ?_
  refine va_sld hx hb hX hbl hbA hS (i_in (a := 1) (by decide) (by omega) (by omega)) dL_law_687 ?_
  refine top_i (y := x1) e1.symm ?_
  refine go_i (rn_V (As := [.int x1]) (rest := []) hx hb hml hown hts hK (c_kept l J a x1) kV_RL_89 (hP.sub (ws' := [((a 0), .inr (11, [.ref (a 1), .ref (a 6), .ref (a 10), .ref (a 15), .ref (a 17), .ref (a 22), .ref (a 23), .ref (a 30), .ref (a 31), .ref (a 34), .int 0, .ref (a 37), .ref (a 40)])), ((a 22), .inr (5, [.ref (a 6)])), ((a 6), .inr (10, [.ref (a 1), .ref (a 7), .ref (a 8), .ref (a 9), .int 0, .int 0, .int 0, .int 0, .int 1, .int 0, .int 0]))]) [0, 16, 4] rfl) rfl rfl rfl ⟨Nat.le_of_ble_eq_true rfl, Nat.le_of_ble_eq_true rfl⟩ rfl rfl rfl hl.1 rfl (Nat.le_of_ble_eq_true rfl) ⟨Nat.le_of_ble_eq_true rfl, Nat.le_of_ble_eq_true rfl⟩ dL_law_688) ?_
  refine lv_aload_n hx hb dL_law_691 rfl (lv_at hl 1 rfl) ?_
  refine lv_aload_n hx hb dL_law_692 rfl (lv_at hl 3 rfl) ?_
  refine lv_iload_n hx hb dL_law_693 rfl (lv_at hl 0 rfl) ?_
  refine lv_iconst (v := 1) hx hb dL_law_694 (by decide) ?_
  refine lv_iadd hx hb dL_law_695 ?_
  refine top_i (y := 1) (by decide) ?_
  refine va_sld hx hb hX hbl hbA hS (i_in (a := 1) (by decide) (by omega) (by omega)) dL_law_696 ?_
  refine top_i (y := x1) e1.symm ?_
  refine go_i (rn_V (As := [.int x1]) (rest := [.int (sp_kept (x1.toInt))]) hx hb hml hown hts hK (m_kept l J bb x1) kV_RL_92 (hP.sub (ws' := [((bb 0), .inr (12, [.ref (bb 1), .ref (bb 2), .ref (bb 3), .ref (bb 4), .int 0, .int 0, .int 0, .int 0, .ref (bb 9), .ref (bb 10), .int 0, .ref (bb 12), .int (-1), .int 0, .int 0, .int 0, .int 0, .int 0, .ref (bb 19), .ref (bb 20), .ref (bb 21), .ref (bb 22), .ref (bb 23), .long 0, .long 0, .long 0, .ref (bb 27), .ref (bb 28), .ref (bb 29), .long 0, .int 0, .int (-1), .int 0, .int 0, .int 0, .ref (bb 36), .int 0, .int 0, .ref (bb 39), .ref (bb 40), .int 0, .ref (bb 42), .ref (bb 43), .int 0, .int 0, .int 0, .ref (bb 47), .ref (bb 48), .ref (bb 49), .ref (bb 50)]))]) [39] rfl) rfl rfl rfl ⟨Nat.le_of_ble_eq_true rfl, Nat.le_of_ble_eq_true rfl⟩ rfl rfl rfl hl.1 rfl (Nat.le_of_ble_eq_true rfl) ⟨Nat.le_of_ble_eq_true rfl, Nat.le_of_ble_eq_true rfl⟩ dL_law_697) ?_
  refine lv_icmp_eq (tgt := 1413) hx hb dL_law_700 (by decide) (fun _ => ?_) (fun c => absurd rfl c)
  exact law_end E0 hS (lv_sub hl [0, 1, 2, 3] rfl)
theorem dL_law_705 : decode cL_law 705 = .ok (.aload_n 1, 1) := by decide +kernel
theorem dL_law_706 : decode cL_law 706 = .ok (.aload_n 0, 1) := by decide +kernel
theorem dL_law_707 : decode cL_law 707 = .ok (.iload_n 3, 1) := by decide +kernel
theorem dL_law_708 : decode cL_law 708 = .ok (.iconst 1, 1) := by decide +kernel
theorem dL_law_709 : decode cL_law 709 = .ok (.iadd, 1) := by decide +kernel
theorem dL_law_710 : decode cL_law 710 = .ok (.iaload, 1) := by decide +kernel
theorem dL_law_711 : decode cL_law 711 = .ok (.aload_n 0, 1) := by decide +kernel
theorem dL_law_712 : decode cL_law 712 = .ok (.iload_n 3, 1) := by decide +kernel
theorem dL_law_713 : decode cL_law 713 = .ok (.iconst 2, 1) := by decide +kernel
theorem dL_law_714 : decode cL_law 714 = .ok (.iadd, 1) := by decide +kernel
theorem dL_law_715 : decode cL_law 715 = .ok (.iaload, 1) := by decide +kernel
theorem dL_law_716 : decode cL_law 716 = .ok (.aload_n 0, 1) := by decide +kernel
theorem dL_law_717 : decode cL_law 717 = .ok (.iload_n 3, 1) := by decide +kernel
theorem dL_law_718 : decode cL_law 718 = .ok (.iconst 3, 1) := by decide +kernel
theorem dL_law_719 : decode cL_law 719 = .ok (.iadd, 1) := by decide +kernel
theorem dL_law_720 : decode cL_law 720 = .ok (.iaload, 1) := by decide +kernel
theorem q_952 : Cond.methodLink RL 93 yX11_likely ∈ lw_g := mem_q 952 (by decide +kernel) rfl
theorem q_953 : Cond.instanceMethod yX11_likely ∈ lw_g := mem_q 953 (by decide +kernel) rfl
theorem q_954 : Cond.selects RX11 yX11_likely yX11_likely ∈ lw_g := mem_q 954 (by decide +kernel) rfl
theorem q_955 : Cond.code yX11_likely cX11_likely 4 (some .long) ∈ lw_g := mem_q 955 (by decide +kernel) rfl
theorem kV_RL_93 : CV RL 93 RX11 yX11_likely cX11_likely 4 (some .long) 3 := cv_of q_952 q_953 q_954 q_103 q_955 (by decide +kernel)
theorem dL_law_721 : decode cL_law 721 = .ok (.invokevirtual 93, 3) := by decide +kernel
theorem dL_law_724 : decode cL_law 724 = .ok (.aload_n 2, 1) := by decide +kernel
theorem dL_law_725 : decode cL_law 725 = .ok (.aload_n 0, 1) := by decide +kernel
theorem dL_law_726 : decode cL_law 726 = .ok (.iload_n 3, 1) := by decide +kernel
theorem dL_law_727 : decode cL_law 727 = .ok (.iconst 1, 1) := by decide +kernel
theorem dL_law_728 : decode cL_law 728 = .ok (.iadd, 1) := by decide +kernel
theorem dL_law_729 : decode cL_law 729 = .ok (.iaload, 1) := by decide +kernel
theorem dL_law_730 : decode cL_law 730 = .ok (.aload_n 0, 1) := by decide +kernel
theorem dL_law_731 : decode cL_law 731 = .ok (.iload_n 3, 1) := by decide +kernel
theorem dL_law_732 : decode cL_law 732 = .ok (.iconst 2, 1) := by decide +kernel
theorem dL_law_733 : decode cL_law 733 = .ok (.iadd, 1) := by decide +kernel
theorem dL_law_734 : decode cL_law 734 = .ok (.iaload, 1) := by decide +kernel
theorem dL_law_735 : decode cL_law 735 = .ok (.aload_n 0, 1) := by decide +kernel
theorem dL_law_736 : decode cL_law 736 = .ok (.iload_n 3, 1) := by decide +kernel
theorem dL_law_737 : decode cL_law 737 = .ok (.iconst 3, 1) := by decide +kernel
theorem dL_law_738 : decode cL_law 738 = .ok (.iadd, 1) := by decide +kernel
theorem dL_law_739 : decode cL_law 739 = .ok (.iaload, 1) := by decide +kernel
theorem q_1668 : Cond.methodLink RL 97 yX12_likely ∈ lw_g := mem_q 1668 (by decide +kernel) rfl
theorem q_1669 : Cond.instanceMethod yX12_likely ∈ lw_g := mem_q 1669 (by decide +kernel) rfl
theorem q_1670 : Cond.selects RX12 yX12_likely yX12_likely ∈ lw_g := mem_q 1670 (by decide +kernel) rfl
theorem q_1671 : Cond.code yX12_likely cX12_likely 6 (some .long) ∈ lw_g := mem_q 1671 (by decide +kernel) rfl
theorem kV_RL_97 : CV RL 97 RX12 yX12_likely cX12_likely 6 (some .long) 3 := cv_of q_1668 q_1669 q_1670 q_115 q_1671 (by decide +kernel)
theorem dL_law_740 : decode cL_law 740 = .ok (.invokevirtual 97, 3) := by decide +kernel
theorem dL_law_743 : decode cL_law 743 = .ok (.lcmp, 1) := by decide +kernel
theorem dL_law_744 : decode cL_law 744 = .ok (.ifCond .eq 669, 3) := by decide +kernel
set_option maxHeartbeats 4000000 in
set_option maxRecDepth 100000 in
/-- likely -/
theorem lk_19 {p : Program} {l : Launch} {e : Env} {s : State} {m : MethodId} {below : List Frame} {meth : Method} {c : Code} {b : Nat} {xs : Nat → Int32} {J : va_J9} {A : Nat → Prop} {H : Heap} {locs : List Loc} {ls : Array Slot} {a bb : Nat → Nat} {f : Nat → Option Nat} {g : Nat → Int32} (E0 : LE p s m meth c b 6 xs J A) (hfx : ∀ j, j < 6 → f j = some (a (41 + j))) (hg : ∀ k, k < 6 → g k = -1) (hP : va_P J.1 cls (xW J a f ++ mW J bb g) H) (hD : va_D A (xW J a f ++ mW J bb g)) (hS : va_S A s.heap H locs) (hl : lv_has ls 4 [(3, .int 0), (2, .ref (bb 0)), (1, .ref (a 0)), (0, .ref b)]) : W p l e room_1 s m #[Value.ref b] below meth c H locs 600000 7302250 (lw_Z below #[Value.ref b] s) (F0 m 705 ls []) := by
  obtain ⟨hx, hb, hr, hml, hown, hts, hX, hbl, hlk, hK, hA, hAs⟩ := id E0
  have hbA : ¬ A b := fun h => absurd (hAs b h) (Nat.not_le.mpr hbl)
  obtain ⟨x1, e1⟩ : ∃ z : Int32, z = xs 1 := ⟨_, rfl⟩
  obtain ⟨x2, e2⟩ : ∃ z : Int32, z = xs 2 := ⟨_, rfl⟩
  obtain ⟨x3, e3⟩ : ∃ z : Int32, z = xs 3 := ⟨_, rfl⟩
  have rg_x1 := i_rng x1
  have rg_x2 := i_rng x2
  have rg_x3 := i_rng x3
  refine lv_aload_n hx hb dL_law_705 rfl (lv_at hl 2 rfl) ?_
  refine lv_aload_n hx hb dL_law_706 rfl (lv_at hl 3 rfl) ?_
  refine lv_iload_n hx hb dL_law_707 rfl (lv_at hl 0 rfl) ?_
  refine lv_iconst (v := 1) hx hb dL_law_708 (by decide) ?_
  refine lv_iadd hx hb dL_law_709 ?_
  refine top_i (y := 1) (by decide) ?_
  refine va_sld hx hb hX hbl hbA hS (i_in (a := 1) (by decide) (by omega) (by omega)) dL_law_710 ?_
  refine top_i (y := x1) e1.symm ?_
  refine lv_aload_n hx hb dL_law_711 rfl (lv_at hl 3 rfl) ?_
  refine lv_iload_n hx hb dL_law_712 rfl (lv_at hl 0 rfl) ?_
  refine lv_iconst (v := 2) hx hb dL_law_713 (by decide) ?_
  refine lv_iadd hx hb dL_law_714 ?_
  refine top_i (y := 2) (by decide) ?_
  refine va_sld hx hb hX hbl hbA hS (i_in (a := 2) (by decide) (by omega) (by omega)) dL_law_715 ?_
  refine top_i (y := x2) e2.symm ?_
  refine lv_aload_n hx hb dL_law_716 rfl (lv_at hl 3 rfl) ?_
  refine lv_iload_n hx hb dL_law_717 rfl (lv_at hl 0 rfl) ?_
  refine lv_iconst (v := 3) hx hb dL_law_718 (by decide) ?_
  refine lv_iadd hx hb dL_law_719 ?_
  refine top_i (y := 3) (by decide) ?_
  refine va_sld hx hb hX hbl hbA hS (i_in (a := 3) (by decide) (by omega) (by omega)) dL_law_720 ?_
  refine top_i (y := x3) e3.symm ?_
  refine go_l (rn_V (As := [.int x1, .int x2, .int x3]) (rest := []) hx hb hml hown hts hK (c_likely l J a x1 x2 x3) kV_RL_93 (hP.sub (ws' := [((a 0), .inr (11, [.ref (a 1), .ref (a 6), .ref (a 10), .ref (a 15), .ref (a 17), .ref (a 22), .ref (a 23), .ref (a 30), .ref (a 31), .ref (a 34), .int 0, .ref (a 37), .ref (a 40)])), ((a 6), .inr (10, [.ref (a 1), .ref (a 7), .ref (a 8), .ref (a 9), .int 0, .int 0, .int 0, .int 0, .int 1, .int 0, .int 0]))]) [0, 4] rfl) rfl rfl rfl ⟨Nat.le_of_ble_eq_true rfl, Nat.le_of_ble_eq_true rfl⟩ rfl rfl rfl hl.1 rfl (Nat.le_of_ble_eq_true rfl) ⟨Nat.le_of_ble_eq_true rfl, Nat.le_of_ble_eq_true rfl⟩ dL_law_721) ?_
  refine lv_aload_n hx hb dL_law_724 rfl (lv_at hl 1 rfl) ?_
  refine lv_aload_n hx hb dL_law_725 rfl (lv_at hl 3 rfl) ?_
  refine lv_iload_n hx hb dL_law_726 rfl (lv_at hl 0 rfl) ?_
  refine lv_iconst (v := 1) hx hb dL_law_727 (by decide) ?_
  refine lv_iadd hx hb dL_law_728 ?_
  refine top_i (y := 1) (by decide) ?_
  refine va_sld hx hb hX hbl hbA hS (i_in (a := 1) (by decide) (by omega) (by omega)) dL_law_729 ?_
  refine top_i (y := x1) e1.symm ?_
  refine lv_aload_n hx hb dL_law_730 rfl (lv_at hl 3 rfl) ?_
  refine lv_iload_n hx hb dL_law_731 rfl (lv_at hl 0 rfl) ?_
  refine lv_iconst (v := 2) hx hb dL_law_732 (by decide) ?_
  refine lv_iadd hx hb dL_law_733 ?_
  refine top_i (y := 2) (by decide) ?_
  refine va_sld hx hb hX hbl hbA hS (i_in (a := 2) (by decide) (by omega) (by omega)) dL_law_734 ?_
  refine top_i (y := x2) e2.symm ?_
  refine lv_aload_n hx hb dL_law_735 rfl (lv_at hl 3 rfl) ?_
  refine lv_iload_n hx hb dL_law_736 rfl (lv_at hl 0 rfl) ?_
  refine lv_iconst (v := 3) hx hb dL_law_737 (by decide) ?_
  refine lv_iadd hx hb dL_law_738 ?_
  refine top_i (y := 3) (by decide) ?_
  refine va_sld hx hb hX hbl hbA hS (i_in (a := 3) (by decide) (by omega) (by omega)) dL_law_739 ?_
  refine top_i (y := x3) e3.symm ?_
  refine go_l (rn_V (As := [.int x1, .int x2, .int x3]) (rest := [.long (-9223372036854775808)]) hx hb hml hown hts hK (m_likely l J bb x1 x2 x3) kV_RL_97 (hP.sub (ws' := [((bb 0), .inr (12, [.ref (bb 1), .ref (bb 2), .ref (bb 3), .ref (bb 4), .int 0, .int 0, .int 0, .int 0, .ref (bb 9), .ref (bb 10), .int 0, .ref (bb 12), .int (-1), .int 0, .int 0, .int 0, .int 0, .int 0, .ref (bb 19), .ref (bb 20), .ref (bb 21), .ref (bb 22), .ref (bb 23), .long 0, .long 0, .long 0, .ref (bb 27), .ref (bb 28), .ref (bb 29), .long 0, .int 0, .int (-1), .int 0, .int 0, .int 0, .ref (bb 36), .int 0, .int 0, .ref (bb 39), .ref (bb 40), .int 0, .ref (bb 42), .ref (bb 43), .int 0, .int 0, .int 0, .ref (bb 47), .ref (bb 48), .ref (bb 49), .ref (bb 50)]))]) [39] rfl) rfl rfl rfl ⟨Nat.le_of_ble_eq_true rfl, Nat.le_of_ble_eq_true rfl⟩ rfl rfl rfl hl.1 rfl (Nat.le_of_ble_eq_true rfl) ⟨Nat.le_of_ble_eq_true rfl, Nat.le_of_ble_eq_true rfl⟩ dL_law_740) ?_
  refine W.lcmp hx hb dL_law_743 ?_
  refine top_i (y := 0) (by decide) ?_
  refine lv_if_eq (tgt := 1413) hx hb dL_law_744 (by decide) (fun _ => ?_) (fun c => absurd c (by decide))
  exact law_end E0 hS (lv_sub hl [0, 1, 2, 3] rfl)
