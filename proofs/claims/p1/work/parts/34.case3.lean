theorem dL_law_1022 : decode cL_law 1022 = .ok (.aload_n 1, 1) := by decide +kernel
theorem dL_law_1023 : decode cL_law 1023 = .ok (.aload_n 0, 1) := by decide +kernel
theorem dL_law_1024 : decode cL_law 1024 = .ok (.iload_n 3, 1) := by decide +kernel
theorem dL_law_1025 : decode cL_law 1025 = .ok (.iconst 1, 1) := by decide +kernel
theorem dL_law_1026 : decode cL_law 1026 = .ok (.iadd, 1) := by decide +kernel
theorem dL_law_1027 : decode cL_law 1027 = .ok (.iaload, 1) := by decide +kernel
theorem q_1140 : Cond.methodLink RL 140 yX11_body ∈ lw_g := mem_q 1140 (by decide +kernel) rfl
theorem q_1141 : Cond.instanceMethod yX11_body ∈ lw_g := mem_q 1141 (by decide +kernel) rfl
theorem q_1142 : Cond.selects RX11 yX11_body yX11_body ∈ lw_g := mem_q 1142 (by decide +kernel) rfl
theorem q_1143 : Cond.code yX11_body cX11_body 2 (some .int) ∈ lw_g := mem_q 1143 (by decide +kernel) rfl
theorem kV_RL_140 : CV RL 140 RX11 yX11_body cX11_body 2 (some .int) 1 := cv_of q_1140 q_1141 q_1142 q_103 q_1143 (by decide +kernel)
theorem dL_law_1028 : decode cL_law 1028 = .ok (.invokevirtual 140, 3) := by decide +kernel
theorem dL_law_1031 : decode cL_law 1031 = .ok (.aload_n 2, 1) := by decide +kernel
theorem dL_law_1032 : decode cL_law 1032 = .ok (.aload_n 0, 1) := by decide +kernel
theorem dL_law_1033 : decode cL_law 1033 = .ok (.iload_n 3, 1) := by decide +kernel
theorem dL_law_1034 : decode cL_law 1034 = .ok (.iconst 1, 1) := by decide +kernel
theorem dL_law_1035 : decode cL_law 1035 = .ok (.iadd, 1) := by decide +kernel
theorem dL_law_1036 : decode cL_law 1036 = .ok (.iaload, 1) := by decide +kernel
theorem q_1761 : Cond.methodLink RL 143 yX12_body ∈ lw_g := mem_q 1761 (by decide +kernel) rfl
theorem q_1762 : Cond.instanceMethod yX12_body ∈ lw_g := mem_q 1762 (by decide +kernel) rfl
theorem q_1763 : Cond.selects RX12 yX12_body yX12_body ∈ lw_g := mem_q 1763 (by decide +kernel) rfl
theorem q_1764 : Cond.code yX12_body cX12_body 2 (some .int) ∈ lw_g := mem_q 1764 (by decide +kernel) rfl
theorem kV_RL_143 : CV RL 143 RX12 yX12_body cX12_body 2 (some .int) 1 := cv_of q_1761 q_1762 q_1763 q_115 q_1764 (by decide +kernel)
theorem dL_law_1037 : decode cL_law 1037 = .ok (.invokevirtual 143, 3) := by decide +kernel
theorem dL_law_1040 : decode cL_law 1040 = .ok (.if_icmp .eq 373, 3) := by decide +kernel
set_option maxHeartbeats 4000000 in
set_option maxRecDepth 100000 in
/-- body -/
theorem lk_30 {p : Program} {l : Launch} {e : Env} {s : State} {m : MethodId} {below : List Frame} {meth : Method} {c : Code} {b : Nat} {xs : Nat → Int32} {J : va_J9} {A : Nat → Prop} {H : Heap} {locs : List Loc} {ls : Array Slot} {a bb : Nat → Nat} {f : Nat → Option Nat} {g : Nat → Int32} (E0 : LE p s m meth c b 6 xs J A) (hfx : ∀ j, j < 6 → f j = some (a (41 + j))) (hg : ∀ k, k < 6 → g k = -1) (hP : va_P J.1 cls (xW J a f ++ mW J bb g) H) (hD : va_D A (xW J a f ++ mW J bb g)) (hS : va_S A s.heap H locs) (hl : lv_has ls 4 [(3, .int 0), (2, .ref (bb 0)), (1, .ref (a 0)), (0, .ref b)]) : W p l e room_1 s m #[Value.ref b] below meth c H locs 600000 7302250 (lw_Z below #[Value.ref b] s) (F0 m 1022 ls []) := by
  obtain ⟨hx, hb, hr, hml, hown, hts, hX, hbl, hlk, hK, hA, hAs⟩ := id E0
  have hbA : ¬ A b := fun h => absurd (hAs b h) (Nat.not_le.mpr hbl)
  obtain ⟨x1, e1⟩ : ∃ z : Int32, z = xs 1 := ⟨_, rfl⟩
  have rg_x1 := i_rng x1
  refine lv_aload_n hx hb dL_law_1022 rfl (lv_at hl 2 rfl) ?_
  refine lv_aload_n hx hb dL_law_1023 rfl (lv_at hl 3 rfl) ?_
  refine lv_iload_n hx hb dL_law_1024 rfl (lv_at hl 0 rfl) ?_
  refine lv_iconst (v := 1) hx hb dL_law_1025 (by decide) ?_
  refine lv_iadd hx hb dL_law_1026 ?_
  refine top_i (y := 1) (by decide) ?_
  refine va_sld hx hb hX hbl hbA hS (i_in (a := 1) (by decide) (by omega) (by omega)) dL_law_1027 ?_
  refine top_i (y := x1) e1.symm ?_
  refine gw_i (wc := [((a 0), .inr (11, [.ref (a 1), .ref (a 6), .ref (a 10), .ref (a 15), .ref (a 17), .ref (a 22), .ref (a 23), .ref (a 30), .ref (a 31), .ref (a 34), .int 0, .ref (a 37), .ref (a 40)])), ((a 37), .inr (0, [.ref (a 38), .int 0, .ref (a 39), .int 0])), ((a 38), .inl (J.2.1, 50, .inl (fun _ => 0)))]) (wr := [((bb 0), .inr (12, [.ref (bb 1), .ref (bb 2), .ref (bb 3), .ref (bb 4), .int 0, .int 0, .int 0, .int 0, .ref (bb 9), .ref (bb 10), .int 0, .ref (bb 12), .int (-1), .int 0, .int 0, .int 0, .int 0, .int 0, .ref (bb 19), .ref (bb 20), .ref (bb 21), .ref (bb 22), .ref (bb 23), .long 0, .long 0, .long 0, .ref (bb 27), .ref (bb 28), .ref (bb 29), .long 0, .int 0, .int (-1), .int 0, .int 0, .int 0, .ref (bb 36), .int 0, .int 0, .ref (bb 39), .ref (bb 40), .int 0, .ref (bb 42), .ref (bb 43), .int 0, .int 0, .int 0, .ref (bb 47), .ref (bb 48), .ref (bb 49), .ref (bb 50)])), ((bb 1), .inl (J.2.1, 22, .inl (upd (fun _ => 0) (20 : Int32).toNatClampNeg 1))), ((bb 2), .inl (J.2.1, 40, .inl (fun _ => 0))), ((bb 3), .inl (J.2.1, 40, .inl (fun _ => 0))), ((bb 4), .inl (J.2.1, 40, .inl (fun _ => 0))), ((bb 10), .inl (J.2.1, 120, .inl (fun _ => 0))), ((bb 21), .inl (J.2.1, 7168, .inl (fun _ => 0))), ((bb 39), .inl (J.2.1, 5, .inl (fun _ => 0))), ((bb 40), .inl (J.2.1, 10, .inl (fun _ => 0))), ((bb 36), .inl (J.2.1, 10, .inl (fun _ => 0))), ((bb 42), .inl (J.2.1, 50, .inl (fun _ => 0))), ((bb 47), .inl (J.2.1, 6, .inl g)), ((bb 48), .inl (J.2.1, 6, .inl (fun _ => 0))), ((bb 49), .inl (J.2.2.1, 360, .inr (.inl (fun _ => 0))))]) hP hD hS hA [0, 24, 25] [39, 40, 41, 42, 43, 44, 45, 46, 47, 48, 49, 50, 51, 52] rfl rfl (by decide) (by decide) (wn_V (As := [.int x1]) (rest := []) hx hb hml hown hts hK (c_body l J _ a x1) kV_RL_140 (hP.sub (ws' := [((a 0), .inr (11, [.ref (a 1), .ref (a 6), .ref (a 10), .ref (a 15), .ref (a 17), .ref (a 22), .ref (a 23), .ref (a 30), .ref (a 31), .ref (a 34), .int 0, .ref (a 37), .ref (a 40)])), ((a 37), .inr (0, [.ref (a 38), .int 0, .ref (a 39), .int 0])), ((a 38), .inl (J.2.1, 50, .inl (fun _ => 0)))]) [0, 24, 25] rfl) ((hD.sub (ws' := [((a 0), .inr (11, [.ref (a 1), .ref (a 6), .ref (a 10), .ref (a 15), .ref (a 17), .ref (a 22), .ref (a 23), .ref (a 30), .ref (a 31), .ref (a 34), .int 0, .ref (a 37), .ref (a 40)])), ((a 37), .inr (0, [.ref (a 38), .int 0, .ref (a 39), .int 0])), ((a 38), .inl (J.2.1, 50, .inl (fun _ => 0)))]) [0, 24, 25] (by decide) rfl).weaken (fun _ _ _ _ => trivial)) rfl rfl rfl ⟨Nat.le_of_ble_eq_true rfl, Nat.le_of_ble_eq_true rfl⟩ rfl rfl rfl hl.1 rfl (Nat.le_of_ble_eq_true rfl) ⟨Nat.le_of_ble_eq_true rfl, Nat.le_of_ble_eq_true rfl⟩ dL_law_1028) (fun r2 u1 H locs hw hP hD hS => ?_)
  subst hw
  have hP : va_P J.1 cls [((bb 0), .inr (12, [.ref (bb 1), .ref (bb 2), .ref (bb 3), .ref (bb 4), .int 0, .int 0, .int 0, .int 0, .ref (bb 9), .ref (bb 10), .int 0, .ref (bb 12), .int (-1), .int 0, .int 0, .int 0, .int 0, .int 0, .ref (bb 19), .ref (bb 20), .ref (bb 21), .ref (bb 22), .ref (bb 23), .long 0, .long 0, .long 0, .ref (bb 27), .ref (bb 28), .ref (bb 29), .long 0, .int 0, .int (-1), .int 0, .int 0, .int 0, .ref (bb 36), .int 0, .int 0, .ref (bb 39), .ref (bb 40), .int 0, .ref (bb 42), .ref (bb 43), .int 0, .int 0, .int 0, .ref (bb 47), .ref (bb 48), .ref (bb 49), .ref (bb 50)])), ((bb 1), .inl (J.2.1, 22, .inl (upd (fun _ => 0) (20 : Int32).toNatClampNeg 1))), ((bb 2), .inl (J.2.1, 40, .inl (fun _ => 0))), ((bb 3), .inl (J.2.1, 40, .inl (fun _ => 0))), ((bb 4), .inl (J.2.1, 40, .inl (fun _ => 0))), ((bb 10), .inl (J.2.1, 120, .inl (fun _ => 0))), ((bb 21), .inl (J.2.1, 7168, .inl (fun _ => 0))), ((bb 39), .inl (J.2.1, 5, .inl (fun _ => 0))), ((bb 40), .inl (J.2.1, 10, .inl (fun _ => 0))), ((bb 36), .inl (J.2.1, 10, .inl (fun _ => 0))), ((bb 42), .inl (J.2.1, 50, .inl (fun _ => 0))), ((bb 47), .inl (J.2.1, 6, .inl g)), ((bb 48), .inl (J.2.1, 6, .inl (fun _ => 0))), ((bb 49), .inl (J.2.2.1, 360, .inr (.inl (fun _ => 0))))] H := hP
  have hD : va_D A [((bb 0), .inr (12, [.ref (bb 1), .ref (bb 2), .ref (bb 3), .ref (bb 4), .int 0, .int 0, .int 0, .int 0, .ref (bb 9), .ref (bb 10), .int 0, .ref (bb 12), .int (-1), .int 0, .int 0, .int 0, .int 0, .int 0, .ref (bb 19), .ref (bb 20), .ref (bb 21), .ref (bb 22), .ref (bb 23), .long 0, .long 0, .long 0, .ref (bb 27), .ref (bb 28), .ref (bb 29), .long 0, .int 0, .int (-1), .int 0, .int 0, .int 0, .ref (bb 36), .int 0, .int 0, .ref (bb 39), .ref (bb 40), .int 0, .ref (bb 42), .ref (bb 43), .int 0, .int 0, .int 0, .ref (bb 47), .ref (bb 48), .ref (bb 49), .ref (bb 50)])), ((bb 1), .inl (J.2.1, 22, .inl (upd (fun _ => 0) (20 : Int32).toNatClampNeg 1))), ((bb 2), .inl (J.2.1, 40, .inl (fun _ => 0))), ((bb 3), .inl (J.2.1, 40, .inl (fun _ => 0))), ((bb 4), .inl (J.2.1, 40, .inl (fun _ => 0))), ((bb 10), .inl (J.2.1, 120, .inl (fun _ => 0))), ((bb 21), .inl (J.2.1, 7168, .inl (fun _ => 0))), ((bb 39), .inl (J.2.1, 5, .inl (fun _ => 0))), ((bb 40), .inl (J.2.1, 10, .inl (fun _ => 0))), ((bb 36), .inl (J.2.1, 10, .inl (fun _ => 0))), ((bb 42), .inl (J.2.1, 50, .inl (fun _ => 0))), ((bb 47), .inl (J.2.1, 6, .inl g)), ((bb 48), .inl (J.2.1, 6, .inl (fun _ => 0))), ((bb 49), .inl (J.2.2.1, 360, .inr (.inl (fun _ => 0))))] := hD
  refine W.widen (k := 600000) (n := 7302250) (Nat.le_of_ble_eq_true rfl) (Nat.le_of_ble_eq_true rfl) ?_
  refine lv_aload_n hx hb dL_law_1031 rfl (lv_at hl 1 rfl) ?_
  refine lv_aload_n hx hb dL_law_1032 rfl (lv_at hl 3 rfl) ?_
  refine lv_iload_n hx hb dL_law_1033 rfl (lv_at hl 0 rfl) ?_
  refine lv_iconst (v := 1) hx hb dL_law_1034 (by decide) ?_
  refine lv_iadd hx hb dL_law_1035 ?_
  refine top_i (y := 1) (by decide) ?_
  refine va_sld hx hb hX hbl hbA hS (i_in (a := 1) (by decide) (by omega) (by omega)) dL_law_1036 ?_
  refine top_i (y := x1) e1.symm ?_
  refine gw_i (wc := [((bb 0), .inr (12, [.ref (bb 1), .ref (bb 2), .ref (bb 3), .ref (bb 4), .int 0, .int 0, .int 0, .int 0, .ref (bb 9), .ref (bb 10), .int 0, .ref (bb 12), .int (-1), .int 0, .int 0, .int 0, .int 0, .int 0, .ref (bb 19), .ref (bb 20), .ref (bb 21), .ref (bb 22), .ref (bb 23), .long 0, .long 0, .long 0, .ref (bb 27), .ref (bb 28), .ref (bb 29), .long 0, .int 0, .int (-1), .int 0, .int 0, .int 0, .ref (bb 36), .int 0, .int 0, .ref (bb 39), .ref (bb 40), .int 0, .ref (bb 42), .ref (bb 43), .int 0, .int 0, .int 0, .ref (bb 47), .ref (bb 48), .ref (bb 49), .ref (bb 50)])), ((bb 42), .inl (J.2.1, 50, .inl (fun _ => 0)))]) (wr := [((bb 1), .inl (J.2.1, 22, .inl (upd (fun _ => 0) (20 : Int32).toNatClampNeg 1))), ((bb 2), .inl (J.2.1, 40, .inl (fun _ => 0))), ((bb 3), .inl (J.2.1, 40, .inl (fun _ => 0))), ((bb 4), .inl (J.2.1, 40, .inl (fun _ => 0))), ((bb 10), .inl (J.2.1, 120, .inl (fun _ => 0))), ((bb 21), .inl (J.2.1, 7168, .inl (fun _ => 0))), ((bb 39), .inl (J.2.1, 5, .inl (fun _ => 0))), ((bb 40), .inl (J.2.1, 10, .inl (fun _ => 0))), ((bb 36), .inl (J.2.1, 10, .inl (fun _ => 0))), ((bb 47), .inl (J.2.1, 6, .inl g)), ((bb 48), .inl (J.2.1, 6, .inl (fun _ => 0))), ((bb 49), .inl (J.2.2.1, 360, .inr (.inl (fun _ => 0))))]) hP hD hS hA [0, 10] [1, 2, 3, 4, 5, 6, 7, 8, 9, 11, 12, 13] rfl rfl (by decide) (by decide) (wn_V (As := [.int x1]) (rest := [.int (sp_body (x1.toInt))]) hx hb hml hown hts hK (m_body l J _ bb x1) kV_RL_143 (hP.sub (ws' := [((bb 0), .inr (12, [.ref (bb 1), .ref (bb 2), .ref (bb 3), .ref (bb 4), .int 0, .int 0, .int 0, .int 0, .ref (bb 9), .ref (bb 10), .int 0, .ref (bb 12), .int (-1), .int 0, .int 0, .int 0, .int 0, .int 0, .ref (bb 19), .ref (bb 20), .ref (bb 21), .ref (bb 22), .ref (bb 23), .long 0, .long 0, .long 0, .ref (bb 27), .ref (bb 28), .ref (bb 29), .long 0, .int 0, .int (-1), .int 0, .int 0, .int 0, .ref (bb 36), .int 0, .int 0, .ref (bb 39), .ref (bb 40), .int 0, .ref (bb 42), .ref (bb 43), .int 0, .int 0, .int 0, .ref (bb 47), .ref (bb 48), .ref (bb 49), .ref (bb 50)])), ((bb 42), .inl (J.2.1, 50, .inl (fun _ => 0)))]) [0, 10] rfl) ((hD.sub (ws' := [((bb 0), .inr (12, [.ref (bb 1), .ref (bb 2), .ref (bb 3), .ref (bb 4), .int 0, .int 0, .int 0, .int 0, .ref (bb 9), .ref (bb 10), .int 0, .ref (bb 12), .int (-1), .int 0, .int 0, .int 0, .int 0, .int 0, .ref (bb 19), .ref (bb 20), .ref (bb 21), .ref (bb 22), .ref (bb 23), .long 0, .long 0, .long 0, .ref (bb 27), .ref (bb 28), .ref (bb 29), .long 0, .int 0, .int (-1), .int 0, .int 0, .int 0, .ref (bb 36), .int 0, .int 0, .ref (bb 39), .ref (bb 40), .int 0, .ref (bb 42), .ref (bb 43), .int 0, .int 0, .int 0, .ref (bb 47), .ref (bb 48), .ref (bb 49), .ref (bb 50)])), ((bb 42), .inl (J.2.1, 50, .inl (fun _ => 0)))]) [0, 10] (by decide) rfl).weaken (fun _ _ _ _ => trivial)) rfl rfl rfl ⟨Nat.le_of_ble_eq_true rfl, Nat.le_of_ble_eq_true rfl⟩ rfl rfl rfl hl.1 rfl (Nat.le_of_ble_eq_true rfl) ⟨Nat.le_of_ble_eq_true rfl, Nat.le_of_ble_eq_true rfl⟩ dL_law_1037) (fun r4 u3 H locs hw hP hD hS => ?_)
  subst hw
  have hP : va_P J.1 cls [((bb 1), .inl (J.2.1, 22, .inl (upd (fun _ => 0) (20 : Int32).toNatClampNeg 1))), ((bb 2), .inl (J.2.1, 40, .inl (fun _ => 0))), ((bb 3), .inl (J.2.1, 40, .inl (fun _ => 0))), ((bb 4), .inl (J.2.1, 40, .inl (fun _ => 0))), ((bb 10), .inl (J.2.1, 120, .inl (fun _ => 0))), ((bb 21), .inl (J.2.1, 7168, .inl (fun _ => 0))), ((bb 39), .inl (J.2.1, 5, .inl (fun _ => 0))), ((bb 40), .inl (J.2.1, 10, .inl (fun _ => 0))), ((bb 36), .inl (J.2.1, 10, .inl (fun _ => 0))), ((bb 47), .inl (J.2.1, 6, .inl g)), ((bb 48), .inl (J.2.1, 6, .inl (fun _ => 0))), ((bb 49), .inl (J.2.2.1, 360, .inr (.inl (fun _ => 0))))] H := hP
  have hD : va_D A [((bb 1), .inl (J.2.1, 22, .inl (upd (fun _ => 0) (20 : Int32).toNatClampNeg 1))), ((bb 2), .inl (J.2.1, 40, .inl (fun _ => 0))), ((bb 3), .inl (J.2.1, 40, .inl (fun _ => 0))), ((bb 4), .inl (J.2.1, 40, .inl (fun _ => 0))), ((bb 10), .inl (J.2.1, 120, .inl (fun _ => 0))), ((bb 21), .inl (J.2.1, 7168, .inl (fun _ => 0))), ((bb 39), .inl (J.2.1, 5, .inl (fun _ => 0))), ((bb 40), .inl (J.2.1, 10, .inl (fun _ => 0))), ((bb 36), .inl (J.2.1, 10, .inl (fun _ => 0))), ((bb 47), .inl (J.2.1, 6, .inl g)), ((bb 48), .inl (J.2.1, 6, .inl (fun _ => 0))), ((bb 49), .inl (J.2.2.1, 360, .inr (.inl (fun _ => 0))))] := hD
  refine W.widen (k := 600000) (n := 7302250) (Nat.le_of_ble_eq_true rfl) (Nat.le_of_ble_eq_true rfl) ?_
  refine lv_icmp_eq (tgt := 1413) hx hb dL_law_1040 (by decide) (fun _ => ?_) (fun c => absurd rfl c)
  exact law_end E0 hS (lv_sub hl [0, 1, 2, 3] rfl)
theorem dL_law_1045 : decode cL_law 1045 = .ok (.aload_n 1, 1) := by decide +kernel
theorem dL_law_1046 : decode cL_law 1046 = .ok (.aload_n 0, 1) := by decide +kernel
theorem dL_law_1047 : decode cL_law 1047 = .ok (.iload_n 3, 1) := by decide +kernel
theorem dL_law_1048 : decode cL_law 1048 = .ok (.iconst 1, 1) := by decide +kernel
theorem dL_law_1049 : decode cL_law 1049 = .ok (.iadd, 1) := by decide +kernel
theorem dL_law_1050 : decode cL_law 1050 = .ok (.iaload, 1) := by decide +kernel
theorem dL_law_1051 : decode cL_law 1051 = .ok (.aload_n 0, 1) := by decide +kernel
theorem dL_law_1052 : decode cL_law 1052 = .ok (.iload_n 3, 1) := by decide +kernel
theorem dL_law_1053 : decode cL_law 1053 = .ok (.iconst 2, 1) := by decide +kernel
theorem dL_law_1054 : decode cL_law 1054 = .ok (.iadd, 1) := by decide +kernel
theorem dL_law_1055 : decode cL_law 1055 = .ok (.iaload, 1) := by decide +kernel
theorem dL_law_1056 : decode cL_law 1056 = .ok (.aload_n 0, 1) := by decide +kernel
theorem dL_law_1057 : decode cL_law 1057 = .ok (.iload_n 3, 1) := by decide +kernel
theorem dL_law_1058 : decode cL_law 1058 = .ok (.iconst 3, 1) := by decide +kernel
theorem dL_law_1059 : decode cL_law 1059 = .ok (.iadd, 1) := by decide +kernel
theorem dL_law_1060 : decode cL_law 1060 = .ok (.iaload, 1) := by decide +kernel
theorem q_1152 : Cond.methodLink RL 144 yX11_act ∈ lw_g := mem_q 1152 (by decide +kernel) rfl
theorem q_1153 : Cond.instanceMethod yX11_act ∈ lw_g := mem_q 1153 (by decide +kernel) rfl
theorem q_1154 : Cond.selects RX11 yX11_act yX11_act ∈ lw_g := mem_q 1154 (by decide +kernel) rfl
theorem q_1155 : Cond.code yX11_act cX11_act 4 (some .int) ∈ lw_g := mem_q 1155 (by decide +kernel) rfl
theorem kV_RL_144 : CV RL 144 RX11 yX11_act cX11_act 4 (some .int) 3 := cv_of q_1152 q_1153 q_1154 q_103 q_1155 (by decide +kernel)
theorem dL_law_1061 : decode cL_law 1061 = .ok (.invokevirtual 144, 3) := by decide +kernel
theorem dL_law_1064 : decode cL_law 1064 = .ok (.aload_n 2, 1) := by decide +kernel
theorem dL_law_1065 : decode cL_law 1065 = .ok (.aload_n 0, 1) := by decide +kernel
theorem dL_law_1066 : decode cL_law 1066 = .ok (.iload_n 3, 1) := by decide +kernel
theorem dL_law_1067 : decode cL_law 1067 = .ok (.iconst 1, 1) := by decide +kernel
theorem dL_law_1068 : decode cL_law 1068 = .ok (.iadd, 1) := by decide +kernel
theorem dL_law_1069 : decode cL_law 1069 = .ok (.iaload, 1) := by decide +kernel
theorem dL_law_1070 : decode cL_law 1070 = .ok (.aload_n 0, 1) := by decide +kernel
theorem dL_law_1071 : decode cL_law 1071 = .ok (.iload_n 3, 1) := by decide +kernel
theorem dL_law_1072 : decode cL_law 1072 = .ok (.iconst 2, 1) := by decide +kernel
theorem dL_law_1073 : decode cL_law 1073 = .ok (.iadd, 1) := by decide +kernel
theorem dL_law_1074 : decode cL_law 1074 = .ok (.iaload, 1) := by decide +kernel
theorem dL_law_1075 : decode cL_law 1075 = .ok (.aload_n 0, 1) := by decide +kernel
theorem dL_law_1076 : decode cL_law 1076 = .ok (.iload_n 3, 1) := by decide +kernel
theorem dL_law_1077 : decode cL_law 1077 = .ok (.iconst 3, 1) := by decide +kernel
theorem dL_law_1078 : decode cL_law 1078 = .ok (.iadd, 1) := by decide +kernel
theorem dL_law_1079 : decode cL_law 1079 = .ok (.iaload, 1) := by decide +kernel
theorem q_1766 : Cond.methodLink RL 147 yX12_act ∈ lw_g := mem_q 1766 (by decide +kernel) rfl
theorem q_1767 : Cond.instanceMethod yX12_act ∈ lw_g := mem_q 1767 (by decide +kernel) rfl
theorem q_1768 : Cond.selects RX12 yX12_act yX12_act ∈ lw_g := mem_q 1768 (by decide +kernel) rfl
theorem q_1769 : Cond.code yX12_act cX12_act 4 (some .int) ∈ lw_g := mem_q 1769 (by decide +kernel) rfl
theorem kV_RL_147 : CV RL 147 RX12 yX12_act cX12_act 4 (some .int) 3 := cv_of q_1766 q_1767 q_1768 q_115 q_1769 (by decide +kernel)
theorem dL_law_1080 : decode cL_law 1080 = .ok (.invokevirtual 147, 3) := by decide +kernel
theorem dL_law_1083 : decode cL_law 1083 = .ok (.if_icmp .eq 330, 3) := by decide +kernel
set_option maxHeartbeats 4000000 in
set_option maxRecDepth 100000 in
/-- act -/
theorem lk_31 {p : Program} {l : Launch} {e : Env} {s : State} {m : MethodId} {below : List Frame} {meth : Method} {c : Code} {b : Nat} {xs : Nat → Int32} {J : va_J9} {A : Nat → Prop} {H : Heap} {locs : List Loc} {ls : Array Slot} {a bb : Nat → Nat} {f : Nat → Option Nat} {g : Nat → Int32} (E0 : LE p s m meth c b 6 xs J A) (hfx : ∀ j, j < 6 → f j = some (a (41 + j))) (hg : ∀ k, k < 6 → g k = -1) (hP : va_P J.1 cls (xW J a f ++ mW J bb g) H) (hD : va_D A (xW J a f ++ mW J bb g)) (hS : va_S A s.heap H locs) (hl : lv_has ls 4 [(3, .int 0), (2, .ref (bb 0)), (1, .ref (a 0)), (0, .ref b)]) : W p l e room_1 s m #[Value.ref b] below meth c H locs 600000 7302250 (lw_Z below #[Value.ref b] s) (F0 m 1045 ls []) := by
  obtain ⟨hx, hb, hr, hml, hown, hts, hX, hbl, hlk, hK, hA, hAs⟩ := id E0
  have hbA : ¬ A b := fun h => absurd (hAs b h) (Nat.not_le.mpr hbl)
  obtain ⟨x1, e1⟩ : ∃ z : Int32, z = xs 1 := ⟨_, rfl⟩
  obtain ⟨x2, e2⟩ : ∃ z : Int32, z = xs 2 := ⟨_, rfl⟩
  obtain ⟨x3, e3⟩ : ∃ z : Int32, z = xs 3 := ⟨_, rfl⟩
  have rg_x1 := i_rng x1
  have rg_x2 := i_rng x2
  have rg_x3 := i_rng x3
  refine lv_aload_n hx hb dL_law_1045 rfl (lv_at hl 2 rfl) ?_
  refine lv_aload_n hx hb dL_law_1046 rfl (lv_at hl 3 rfl) ?_
  refine lv_iload_n hx hb dL_law_1047 rfl (lv_at hl 0 rfl) ?_
  refine lv_iconst (v := 1) hx hb dL_law_1048 (by decide) ?_
  refine lv_iadd hx hb dL_law_1049 ?_
  refine top_i (y := 1) (by decide) ?_
  refine va_sld hx hb hX hbl hbA hS (i_in (a := 1) (by decide) (by omega) (by omega)) dL_law_1050 ?_
  refine top_i (y := x1) e1.symm ?_
  refine lv_aload_n hx hb dL_law_1051 rfl (lv_at hl 3 rfl) ?_
  refine lv_iload_n hx hb dL_law_1052 rfl (lv_at hl 0 rfl) ?_
  refine lv_iconst (v := 2) hx hb dL_law_1053 (by decide) ?_
  refine lv_iadd hx hb dL_law_1054 ?_
  refine top_i (y := 2) (by decide) ?_
  refine va_sld hx hb hX hbl hbA hS (i_in (a := 2) (by decide) (by omega) (by omega)) dL_law_1055 ?_
  refine top_i (y := x2) e2.symm ?_
  refine lv_aload_n hx hb dL_law_1056 rfl (lv_at hl 3 rfl) ?_
  refine lv_iload_n hx hb dL_law_1057 rfl (lv_at hl 0 rfl) ?_
  refine lv_iconst (v := 3) hx hb dL_law_1058 (by decide) ?_
  refine lv_iadd hx hb dL_law_1059 ?_
  refine top_i (y := 3) (by decide) ?_
  refine va_sld hx hb hX hbl hbA hS (i_in (a := 3) (by decide) (by omega) (by omega)) dL_law_1060 ?_
  refine top_i (y := x3) e3.symm ?_
  refine gw_i (wc := [((a 0), .inr (11, [.ref (a 1), .ref (a 6), .ref (a 10), .ref (a 15), .ref (a 17), .ref (a 22), .ref (a 23), .ref (a 30), .ref (a 31), .ref (a 34), .int 0, .ref (a 37), .ref (a 40)])), ((a 37), .inr (0, [.ref (a 38), .int 0, .ref (a 39), .int 0]))]) (wr := [((bb 0), .inr (12, [.ref (bb 1), .ref (bb 2), .ref (bb 3), .ref (bb 4), .int 0, .int 0, .int 0, .int 0, .ref (bb 9), .ref (bb 10), .int 0, .ref (bb 12), .int (-1), .int 0, .int 0, .int 0, .int 0, .int 0, .ref (bb 19), .ref (bb 20), .ref (bb 21), .ref (bb 22), .ref (bb 23), .long 0, .long 0, .long 0, .ref (bb 27), .ref (bb 28), .ref (bb 29), .long 0, .int 0, .int (-1), .int 0, .int 0, .int 0, .ref (bb 36), .int 0, .int 0, .ref (bb 39), .ref (bb 40), .int 0, .ref (bb 42), .ref (bb 43), .int 0, .int 0, .int 0, .ref (bb 47), .ref (bb 48), .ref (bb 49), .ref (bb 50)])), ((bb 1), .inl (J.2.1, 22, .inl (upd (fun _ => 0) (20 : Int32).toNatClampNeg 1))), ((bb 2), .inl (J.2.1, 40, .inl (fun _ => 0))), ((bb 3), .inl (J.2.1, 40, .inl (fun _ => 0))), ((bb 4), .inl (J.2.1, 40, .inl (fun _ => 0))), ((bb 10), .inl (J.2.1, 120, .inl (fun _ => 0))), ((bb 21), .inl (J.2.1, 7168, .inl (fun _ => 0))), ((bb 39), .inl (J.2.1, 5, .inl (fun _ => 0))), ((bb 40), .inl (J.2.1, 10, .inl (fun _ => 0))), ((bb 36), .inl (J.2.1, 10, .inl (fun _ => 0))), ((bb 42), .inl (J.2.1, 50, .inl (fun _ => 0))), ((bb 47), .inl (J.2.1, 6, .inl g)), ((bb 48), .inl (J.2.1, 6, .inl (fun _ => 0))), ((bb 49), .inl (J.2.2.1, 360, .inr (.inl (fun _ => 0))))]) hP hD hS hA [0, 24] [39, 40, 41, 42, 43, 44, 45, 46, 47, 48, 49, 50, 51, 52] rfl rfl (by decide) (by decide) (wn_V (As := [.int x1, .int x2, .int x3]) (rest := []) hx hb hml hown hts hK (c_act l J _ a x1 x2 x3) kV_RL_144 (hP.sub (ws' := [((a 0), .inr (11, [.ref (a 1), .ref (a 6), .ref (a 10), .ref (a 15), .ref (a 17), .ref (a 22), .ref (a 23), .ref (a 30), .ref (a 31), .ref (a 34), .int 0, .ref (a 37), .ref (a 40)])), ((a 37), .inr (0, [.ref (a 38), .int 0, .ref (a 39), .int 0]))]) [0, 24] rfl) ((hD.sub (ws' := [((a 0), .inr (11, [.ref (a 1), .ref (a 6), .ref (a 10), .ref (a 15), .ref (a 17), .ref (a 22), .ref (a 23), .ref (a 30), .ref (a 31), .ref (a 34), .int 0, .ref (a 37), .ref (a 40)])), ((a 37), .inr (0, [.ref (a 38), .int 0, .ref (a 39), .int 0]))]) [0, 24] (by decide) rfl).weaken (fun _ _ _ _ => trivial)) rfl rfl rfl ⟨Nat.le_of_ble_eq_true rfl, Nat.le_of_ble_eq_true rfl⟩ rfl rfl rfl hl.1 rfl (Nat.le_of_ble_eq_true rfl) ⟨Nat.le_of_ble_eq_true rfl, Nat.le_of_ble_eq_true rfl⟩ dL_law_1061) (fun r2 u1 H locs hw hP hD hS => ?_)
  subst hw
  have hP : va_P J.1 cls [((bb 0), .inr (12, [.ref (bb 1), .ref (bb 2), .ref (bb 3), .ref (bb 4), .int 0, .int 0, .int 0, .int 0, .ref (bb 9), .ref (bb 10), .int 0, .ref (bb 12), .int (-1), .int 0, .int 0, .int 0, .int 0, .int 0, .ref (bb 19), .ref (bb 20), .ref (bb 21), .ref (bb 22), .ref (bb 23), .long 0, .long 0, .long 0, .ref (bb 27), .ref (bb 28), .ref (bb 29), .long 0, .int 0, .int (-1), .int 0, .int 0, .int 0, .ref (bb 36), .int 0, .int 0, .ref (bb 39), .ref (bb 40), .int 0, .ref (bb 42), .ref (bb 43), .int 0, .int 0, .int 0, .ref (bb 47), .ref (bb 48), .ref (bb 49), .ref (bb 50)])), ((bb 1), .inl (J.2.1, 22, .inl (upd (fun _ => 0) (20 : Int32).toNatClampNeg 1))), ((bb 2), .inl (J.2.1, 40, .inl (fun _ => 0))), ((bb 3), .inl (J.2.1, 40, .inl (fun _ => 0))), ((bb 4), .inl (J.2.1, 40, .inl (fun _ => 0))), ((bb 10), .inl (J.2.1, 120, .inl (fun _ => 0))), ((bb 21), .inl (J.2.1, 7168, .inl (fun _ => 0))), ((bb 39), .inl (J.2.1, 5, .inl (fun _ => 0))), ((bb 40), .inl (J.2.1, 10, .inl (fun _ => 0))), ((bb 36), .inl (J.2.1, 10, .inl (fun _ => 0))), ((bb 42), .inl (J.2.1, 50, .inl (fun _ => 0))), ((bb 47), .inl (J.2.1, 6, .inl g)), ((bb 48), .inl (J.2.1, 6, .inl (fun _ => 0))), ((bb 49), .inl (J.2.2.1, 360, .inr (.inl (fun _ => 0))))] H := hP
  have hD : va_D A [((bb 0), .inr (12, [.ref (bb 1), .ref (bb 2), .ref (bb 3), .ref (bb 4), .int 0, .int 0, .int 0, .int 0, .ref (bb 9), .ref (bb 10), .int 0, .ref (bb 12), .int (-1), .int 0, .int 0, .int 0, .int 0, .int 0, .ref (bb 19), .ref (bb 20), .ref (bb 21), .ref (bb 22), .ref (bb 23), .long 0, .long 0, .long 0, .ref (bb 27), .ref (bb 28), .ref (bb 29), .long 0, .int 0, .int (-1), .int 0, .int 0, .int 0, .ref (bb 36), .int 0, .int 0, .ref (bb 39), .ref (bb 40), .int 0, .ref (bb 42), .ref (bb 43), .int 0, .int 0, .int 0, .ref (bb 47), .ref (bb 48), .ref (bb 49), .ref (bb 50)])), ((bb 1), .inl (J.2.1, 22, .inl (upd (fun _ => 0) (20 : Int32).toNatClampNeg 1))), ((bb 2), .inl (J.2.1, 40, .inl (fun _ => 0))), ((bb 3), .inl (J.2.1, 40, .inl (fun _ => 0))), ((bb 4), .inl (J.2.1, 40, .inl (fun _ => 0))), ((bb 10), .inl (J.2.1, 120, .inl (fun _ => 0))), ((bb 21), .inl (J.2.1, 7168, .inl (fun _ => 0))), ((bb 39), .inl (J.2.1, 5, .inl (fun _ => 0))), ((bb 40), .inl (J.2.1, 10, .inl (fun _ => 0))), ((bb 36), .inl (J.2.1, 10, .inl (fun _ => 0))), ((bb 42), .inl (J.2.1, 50, .inl (fun _ => 0))), ((bb 47), .inl (J.2.1, 6, .inl g)), ((bb 48), .inl (J.2.1, 6, .inl (fun _ => 0))), ((bb 49), .inl (J.2.2.1, 360, .inr (.inl (fun _ => 0))))] := hD
  refine W.widen (k := 600000) (n := 7302250) (Nat.le_of_ble_eq_true rfl) (Nat.le_of_ble_eq_true rfl) ?_
  refine lv_aload_n hx hb dL_law_1064 rfl (lv_at hl 1 rfl) ?_
  refine lv_aload_n hx hb dL_law_1065 rfl (lv_at hl 3 rfl) ?_
  refine lv_iload_n hx hb dL_law_1066 rfl (lv_at hl 0 rfl) ?_
  refine lv_iconst (v := 1) hx hb dL_law_1067 (by decide) ?_
  refine lv_iadd hx hb dL_law_1068 ?_
  refine top_i (y := 1) (by decide) ?_
  refine va_sld hx hb hX hbl hbA hS (i_in (a := 1) (by decide) (by omega) (by omega)) dL_law_1069 ?_
  refine top_i (y := x1) e1.symm ?_
  refine lv_aload_n hx hb dL_law_1070 rfl (lv_at hl 3 rfl) ?_
  refine lv_iload_n hx hb dL_law_1071 rfl (lv_at hl 0 rfl) ?_
  refine lv_iconst (v := 2) hx hb dL_law_1072 (by decide) ?_
  refine lv_iadd hx hb dL_law_1073 ?_
  refine top_i (y := 2) (by decide) ?_
  refine va_sld hx hb hX hbl hbA hS (i_in (a := 2) (by decide) (by omega) (by omega)) dL_law_1074 ?_
  refine top_i (y := x2) e2.symm ?_
  refine lv_aload_n hx hb dL_law_1075 rfl (lv_at hl 3 rfl) ?_
  refine lv_iload_n hx hb dL_law_1076 rfl (lv_at hl 0 rfl) ?_
  refine lv_iconst (v := 3) hx hb dL_law_1077 (by decide) ?_
  refine lv_iadd hx hb dL_law_1078 ?_
  refine top_i (y := 3) (by decide) ?_
  refine va_sld hx hb hX hbl hbA hS (i_in (a := 3) (by decide) (by omega) (by omega)) dL_law_1079 ?_
  refine top_i (y := x3) e3.symm ?_
  refine gw_i (wc := [((bb 0), .inr (12, [.ref (bb 1), .ref (bb 2), .ref (bb 3), .ref (bb 4), .int 0, .int 0, .int 0, .int 0, .ref (bb 9), .ref (bb 10), .int 0, .ref (bb 12), .int (-1), .int 0, .int 0, .int 0, .int 0, .int 0, .ref (bb 19), .ref (bb 20), .ref (bb 21), .ref (bb 22), .ref (bb 23), .long 0, .long 0, .long 0, .ref (bb 27), .ref (bb 28), .ref (bb 29), .long 0, .int 0, .int (-1), .int 0, .int 0, .int 0, .ref (bb 36), .int 0, .int 0, .ref (bb 39), .ref (bb 40), .int 0, .ref (bb 42), .ref (bb 43), .int 0, .int 0, .int 0, .ref (bb 47), .ref (bb 48), .ref (bb 49), .ref (bb 50)]))]) (wr := [((bb 1), .inl (J.2.1, 22, .inl (upd (fun _ => 0) (20 : Int32).toNatClampNeg 1))), ((bb 2), .inl (J.2.1, 40, .inl (fun _ => 0))), ((bb 3), .inl (J.2.1, 40, .inl (fun _ => 0))), ((bb 4), .inl (J.2.1, 40, .inl (fun _ => 0))), ((bb 10), .inl (J.2.1, 120, .inl (fun _ => 0))), ((bb 21), .inl (J.2.1, 7168, .inl (fun _ => 0))), ((bb 39), .inl (J.2.1, 5, .inl (fun _ => 0))), ((bb 40), .inl (J.2.1, 10, .inl (fun _ => 0))), ((bb 36), .inl (J.2.1, 10, .inl (fun _ => 0))), ((bb 42), .inl (J.2.1, 50, .inl (fun _ => 0))), ((bb 47), .inl (J.2.1, 6, .inl g)), ((bb 48), .inl (J.2.1, 6, .inl (fun _ => 0))), ((bb 49), .inl (J.2.2.1, 360, .inr (.inl (fun _ => 0))))]) hP hD hS hA [0] [1, 2, 3, 4, 5, 6, 7, 8, 9, 10, 11, 12, 13] rfl rfl (by decide) (by decide) (wn_V (As := [.int x1, .int x2, .int x3]) (rest := [.int 0]) hx hb hml hown hts hK (m_act l J _ bb x1 x2 x3) kV_RL_147 (hP.sub (ws' := [((bb 0), .inr (12, [.ref (bb 1), .ref (bb 2), .ref (bb 3), .ref (bb 4), .int 0, .int 0, .int 0, .int 0, .ref (bb 9), .ref (bb 10), .int 0, .ref (bb 12), .int (-1), .int 0, .int 0, .int 0, .int 0, .int 0, .ref (bb 19), .ref (bb 20), .ref (bb 21), .ref (bb 22), .ref (bb 23), .long 0, .long 0, .long 0, .ref (bb 27), .ref (bb 28), .ref (bb 29), .long 0, .int 0, .int (-1), .int 0, .int 0, .int 0, .ref (bb 36), .int 0, .int 0, .ref (bb 39), .ref (bb 40), .int 0, .ref (bb 42), .ref (bb 43), .int 0, .int 0, .int 0, .ref (bb 47), .ref (bb 48), .ref (bb 49), .ref (bb 50)]))]) [0] rfl) ((hD.sub (ws' := [((bb 0), .inr (12, [.ref (bb 1), .ref (bb 2), .ref (bb 3), .ref (bb 4), .int 0, .int 0, .int 0, .int 0, .ref (bb 9), .ref (bb 10), .int 0, .ref (bb 12), .int (-1), .int 0, .int 0, .int 0, .int 0, .int 0, .ref (bb 19), .ref (bb 20), .ref (bb 21), .ref (bb 22), .ref (bb 23), .long 0, .long 0, .long 0, .ref (bb 27), .ref (bb 28), .ref (bb 29), .long 0, .int 0, .int (-1), .int 0, .int 0, .int 0, .ref (bb 36), .int 0, .int 0, .ref (bb 39), .ref (bb 40), .int 0, .ref (bb 42), .ref (bb 43), .int 0, .int 0, .int 0, .ref (bb 47), .ref (bb 48), .ref (bb 49), .ref (bb 50)]))]) [0] (by decide) rfl).weaken (fun _ _ _ _ => trivial)) rfl rfl rfl ⟨Nat.le_of_ble_eq_true rfl, Nat.le_of_ble_eq_true rfl⟩ rfl rfl rfl hl.1 rfl (Nat.le_of_ble_eq_true rfl) ⟨Nat.le_of_ble_eq_true rfl, Nat.le_of_ble_eq_true rfl⟩ dL_law_1080) (fun r4 u3 H locs hw hP hD hS => ?_)
  subst hw
  have hP : va_P J.1 cls [((bb 1), .inl (J.2.1, 22, .inl (upd (fun _ => 0) (20 : Int32).toNatClampNeg 1))), ((bb 2), .inl (J.2.1, 40, .inl (fun _ => 0))), ((bb 3), .inl (J.2.1, 40, .inl (fun _ => 0))), ((bb 4), .inl (J.2.1, 40, .inl (fun _ => 0))), ((bb 10), .inl (J.2.1, 120, .inl (fun _ => 0))), ((bb 21), .inl (J.2.1, 7168, .inl (fun _ => 0))), ((bb 39), .inl (J.2.1, 5, .inl (fun _ => 0))), ((bb 40), .inl (J.2.1, 10, .inl (fun _ => 0))), ((bb 36), .inl (J.2.1, 10, .inl (fun _ => 0))), ((bb 42), .inl (J.2.1, 50, .inl (fun _ => 0))), ((bb 47), .inl (J.2.1, 6, .inl g)), ((bb 48), .inl (J.2.1, 6, .inl (fun _ => 0))), ((bb 49), .inl (J.2.2.1, 360, .inr (.inl (fun _ => 0))))] H := hP
  have hD : va_D A [((bb 1), .inl (J.2.1, 22, .inl (upd (fun _ => 0) (20 : Int32).toNatClampNeg 1))), ((bb 2), .inl (J.2.1, 40, .inl (fun _ => 0))), ((bb 3), .inl (J.2.1, 40, .inl (fun _ => 0))), ((bb 4), .inl (J.2.1, 40, .inl (fun _ => 0))), ((bb 10), .inl (J.2.1, 120, .inl (fun _ => 0))), ((bb 21), .inl (J.2.1, 7168, .inl (fun _ => 0))), ((bb 39), .inl (J.2.1, 5, .inl (fun _ => 0))), ((bb 40), .inl (J.2.1, 10, .inl (fun _ => 0))), ((bb 36), .inl (J.2.1, 10, .inl (fun _ => 0))), ((bb 42), .inl (J.2.1, 50, .inl (fun _ => 0))), ((bb 47), .inl (J.2.1, 6, .inl g)), ((bb 48), .inl (J.2.1, 6, .inl (fun _ => 0))), ((bb 49), .inl (J.2.2.1, 360, .inr (.inl (fun _ => 0))))] := hD
  refine W.widen (k := 600000) (n := 7302250) (Nat.le_of_ble_eq_true rfl) (Nat.le_of_ble_eq_true rfl) ?_
  refine lv_icmp_eq (tgt := 1413) hx hb dL_law_1083 (by decide) (fun _ => ?_) (fun c => absurd c (by decide))
  exact law_end E0 hS (lv_sub hl [0, 1, 2, 3] rfl)
theorem dL_law_1088 : decode cL_law 1088 = .ok (.aload_n 1, 1) := by decide +kernel
theorem dL_law_1089 : decode cL_law 1089 = .ok (.aload_n 0, 1) := by decide +kernel
theorem dL_law_1090 : decode cL_law 1090 = .ok (.iload_n 3, 1) := by decide +kernel
theorem dL_law_1091 : decode cL_law 1091 = .ok (.iconst 1, 1) := by decide +kernel
theorem dL_law_1092 : decode cL_law 1092 = .ok (.iadd, 1) := by decide +kernel
theorem dL_law_1093 : decode cL_law 1093 = .ok (.iaload, 1) := by decide +kernel
theorem q_1182 : Cond.methodLink RL 148 yX11_trace ∈ lw_g := mem_q 1182 (by decide +kernel) rfl
theorem q_1183 : Cond.instanceMethod yX11_trace ∈ lw_g := mem_q 1183 (by decide +kernel) rfl
theorem q_1184 : Cond.selects RX11 yX11_trace yX11_trace ∈ lw_g := mem_q 1184 (by decide +kernel) rfl
theorem q_1185 : Cond.code yX11_trace cX11_trace 2 (some .int) ∈ lw_g := mem_q 1185 (by decide +kernel) rfl
theorem kV_RL_148 : CV RL 148 RX11 yX11_trace cX11_trace 2 (some .int) 1 := cv_of q_1182 q_1183 q_1184 q_103 q_1185 (by decide +kernel)
theorem dL_law_1094 : decode cL_law 1094 = .ok (.invokevirtual 148, 3) := by decide +kernel
theorem dL_law_1097 : decode cL_law 1097 = .ok (.aload_n 2, 1) := by decide +kernel
theorem dL_law_1098 : decode cL_law 1098 = .ok (.aload_n 0, 1) := by decide +kernel
theorem dL_law_1099 : decode cL_law 1099 = .ok (.iload_n 3, 1) := by decide +kernel
theorem dL_law_1100 : decode cL_law 1100 = .ok (.iconst 1, 1) := by decide +kernel
theorem dL_law_1101 : decode cL_law 1101 = .ok (.iadd, 1) := by decide +kernel
theorem dL_law_1102 : decode cL_law 1102 = .ok (.iaload, 1) := by decide +kernel
theorem q_1794 : Cond.methodLink RL 151 yX12_trace ∈ lw_g := mem_q 1794 (by decide +kernel) rfl
theorem q_1795 : Cond.instanceMethod yX12_trace ∈ lw_g := mem_q 1795 (by decide +kernel) rfl
theorem q_1796 : Cond.selects RX12 yX12_trace yX12_trace ∈ lw_g := mem_q 1796 (by decide +kernel) rfl
theorem q_1797 : Cond.code yX12_trace cX12_trace 2 (some .int) ∈ lw_g := mem_q 1797 (by decide +kernel) rfl
theorem kV_RL_151 : CV RL 151 RX12 yX12_trace cX12_trace 2 (some .int) 1 := cv_of q_1794 q_1795 q_1796 q_115 q_1797 (by decide +kernel)
theorem dL_law_1103 : decode cL_law 1103 = .ok (.invokevirtual 151, 3) := by decide +kernel
theorem dL_law_1106 : decode cL_law 1106 = .ok (.if_icmp .eq 307, 3) := by decide +kernel
set_option maxHeartbeats 4000000 in
set_option maxRecDepth 100000 in
/-- trace -/
theorem lk_32 {p : Program} {l : Launch} {e : Env} {s : State} {m : MethodId} {below : List Frame} {meth : Method} {c : Code} {b : Nat} {xs : Nat → Int32} {J : va_J9} {A : Nat → Prop} {H : Heap} {locs : List Loc} {ls : Array Slot} {a bb : Nat → Nat} {f : Nat → Option Nat} {g : Nat → Int32} (E0 : LE p s m meth c b 6 xs J A) (hfx : ∀ j, j < 6 → f j = some (a (41 + j))) (hg : ∀ k, k < 6 → g k = -1) (hP : va_P J.1 cls (xW J a f ++ mW J bb g) H) (hD : va_D A (xW J a f ++ mW J bb g)) (hS : va_S A s.heap H locs) (hl : lv_has ls 4 [(3, .int 0), (2, .ref (bb 0)), (1, .ref (a 0)), (0, .ref b)]) : W p l e room_1 s m #[Value.ref b] below meth c H locs 600000 7302250 (lw_Z below #[Value.ref b] s) (F0 m 1088 ls []) := by
  obtain ⟨hx, hb, hr, hml, hown, hts, hX, hbl, hlk, hK, hA, hAs⟩ := id E0
  have hbA : ¬ A b := fun h => absurd (hAs b h) (Nat.not_le.mpr hbl)
  obtain ⟨x1, e1⟩ : ∃ z : Int32, z = xs 1 := ⟨_, rfl⟩
  have rg_x1 := i_rng x1
  refine lv_aload_n hx hb dL_law_1088 rfl (lv_at hl 2 rfl) ?_
  refine lv_aload_n hx hb dL_law_1089 rfl (lv_at hl 3 rfl) ?_
  refine lv_iload_n hx hb dL_law_1090 rfl (lv_at hl 0 rfl) ?_
  refine lv_iconst (v := 1) hx hb dL_law_1091 (by decide) ?_
  refine lv_iadd hx hb dL_law_1092 ?_
  refine top_i (y := 1) (by decide) ?_
  refine va_sld hx hb hX hbl hbA hS (i_in (a := 1) (by decide) (by omega) (by omega)) dL_law_1093 ?_
  refine top_i (y := x1) e1.symm ?_
  refine go_i (rn_V (As := [.int x1]) (rest := []) hx hb hml hown hts hK (c_trace l J a x1) kV_RL_148 (hP.sub (ws' := [((a 0), .inr (11, [.ref (a 1), .ref (a 6), .ref (a 10), .ref (a 15), .ref (a 17), .ref (a 22), .ref (a 23), .ref (a 30), .ref (a 31), .ref (a 34), .int 0, .ref (a 37), .ref (a 40)])), ((a 37), .inr (0, [.ref (a 38), .int 0, .ref (a 39), .int 0]))]) [0, 24] rfl) rfl rfl rfl ⟨Nat.le_of_ble_eq_true rfl, Nat.le_of_ble_eq_true rfl⟩ rfl rfl rfl hl.1 rfl (Nat.le_of_ble_eq_true rfl) ⟨Nat.le_of_ble_eq_true rfl, Nat.le_of_ble_eq_true rfl⟩ dL_law_1094) ?_
  refine lv_aload_n hx hb dL_law_1097 rfl (lv_at hl 1 rfl) ?_
  refine lv_aload_n hx hb dL_law_1098 rfl (lv_at hl 3 rfl) ?_
  refine lv_iload_n hx hb dL_law_1099 rfl (lv_at hl 0 rfl) ?_
  refine lv_iconst (v := 1) hx hb dL_law_1100 (by decide) ?_
  refine lv_iadd hx hb dL_law_1101 ?_
  refine top_i (y := 1) (by decide) ?_
  refine va_sld hx hb hX hbl hbA hS (i_in (a := 1) (by decide) (by omega) (by omega)) dL_law_1102 ?_
  refine top_i (y := x1) e1.symm ?_
  refine go_i (rn_V (As := [.int x1]) (rest := [.int (-1)]) hx hb hml hown hts hK (m_trace l J bb x1) kV_RL_151 (hP.sub (ws' := [((bb 0), .inr (12, [.ref (bb 1), .ref (bb 2), .ref (bb 3), .ref (bb 4), .int 0, .int 0, .int 0, .int 0, .ref (bb 9), .ref (bb 10), .int 0, .ref (bb 12), .int (-1), .int 0, .int 0, .int 0, .int 0, .int 0, .ref (bb 19), .ref (bb 20), .ref (bb 21), .ref (bb 22), .ref (bb 23), .long 0, .long 0, .long 0, .ref (bb 27), .ref (bb 28), .ref (bb 29), .long 0, .int 0, .int (-1), .int 0, .int 0, .int 0, .ref (bb 36), .int 0, .int 0, .ref (bb 39), .ref (bb 40), .int 0, .ref (bb 42), .ref (bb 43), .int 0, .int 0, .int 0, .ref (bb 47), .ref (bb 48), .ref (bb 49), .ref (bb 50)]))]) [39] rfl) rfl rfl rfl ⟨Nat.le_of_ble_eq_true rfl, Nat.le_of_ble_eq_true rfl⟩ rfl rfl rfl hl.1 rfl (Nat.le_of_ble_eq_true rfl) ⟨Nat.le_of_ble_eq_true rfl, Nat.le_of_ble_eq_true rfl⟩ dL_law_1103) ?_
  refine lv_icmp_eq (tgt := 1413) hx hb dL_law_1106 (by decide) (fun _ => ?_) (fun c => absurd c (by decide))
  exact law_end E0 hS (lv_sub hl [0, 1, 2, 3] rfl)
theorem dL_law_1111 : decode cL_law 1111 = .ok (.aload_n 1, 1) := by decide +kernel
theorem dL_law_1112 : decode cL_law 1112 = .ok (.aload_n 0, 1) := by decide +kernel
theorem dL_law_1113 : decode cL_law 1113 = .ok (.iload_n 3, 1) := by decide +kernel
theorem dL_law_1114 : decode cL_law 1114 = .ok (.iconst 1, 1) := by decide +kernel
theorem dL_law_1115 : decode cL_law 1115 = .ok (.iadd, 1) := by decide +kernel
theorem dL_law_1116 : decode cL_law 1116 = .ok (.iaload, 1) := by decide +kernel
theorem dL_law_1117 : decode cL_law 1117 = .ok (.aload_n 0, 1) := by decide +kernel
theorem dL_law_1118 : decode cL_law 1118 = .ok (.iload_n 3, 1) := by decide +kernel
theorem dL_law_1119 : decode cL_law 1119 = .ok (.iconst 2, 1) := by decide +kernel
theorem dL_law_1120 : decode cL_law 1120 = .ok (.iadd, 1) := by decide +kernel
theorem dL_law_1121 : decode cL_law 1121 = .ok (.iaload, 1) := by decide +kernel
theorem q_1190 : Cond.methodLink RL 152 yX11_keep ∈ lw_g := mem_q 1190 (by decide +kernel) rfl
theorem q_1191 : Cond.instanceMethod yX11_keep ∈ lw_g := mem_q 1191 (by decide +kernel) rfl
theorem q_1192 : Cond.selects RX11 yX11_keep yX11_keep ∈ lw_g := mem_q 1192 (by decide +kernel) rfl
theorem q_1193 : Cond.code yX11_keep cX11_keep 4 (some .int) ∈ lw_g := mem_q 1193 (by decide +kernel) rfl
theorem kV_RL_152 : CV RL 152 RX11 yX11_keep cX11_keep 4 (some .int) 2 := cv_of q_1190 q_1191 q_1192 q_103 q_1193 (by decide +kernel)
theorem dL_law_1122 : decode cL_law 1122 = .ok (.invokevirtual 152, 3) := by decide +kernel
theorem dL_law_1125 : decode cL_law 1125 = .ok (.aload_n 2, 1) := by decide +kernel
theorem dL_law_1126 : decode cL_law 1126 = .ok (.aload_n 0, 1) := by decide +kernel
theorem dL_law_1127 : decode cL_law 1127 = .ok (.iload_n 3, 1) := by decide +kernel
theorem dL_law_1128 : decode cL_law 1128 = .ok (.iconst 1, 1) := by decide +kernel
theorem dL_law_1129 : decode cL_law 1129 = .ok (.iadd, 1) := by decide +kernel
theorem dL_law_1130 : decode cL_law 1130 = .ok (.iaload, 1) := by decide +kernel
theorem dL_law_1131 : decode cL_law 1131 = .ok (.aload_n 0, 1) := by decide +kernel
theorem dL_law_1132 : decode cL_law 1132 = .ok (.iload_n 3, 1) := by decide +kernel
theorem dL_law_1133 : decode cL_law 1133 = .ok (.iconst 2, 1) := by decide +kernel
theorem dL_law_1134 : decode cL_law 1134 = .ok (.iadd, 1) := by decide +kernel
theorem dL_law_1135 : decode cL_law 1135 = .ok (.iaload, 1) := by decide +kernel
theorem q_1798 : Cond.methodLink RL 155 yX12_keep ∈ lw_g := mem_q 1798 (by decide +kernel) rfl
theorem q_1799 : Cond.instanceMethod yX12_keep ∈ lw_g := mem_q 1799 (by decide +kernel) rfl
theorem q_1800 : Cond.selects RX12 yX12_keep yX12_keep ∈ lw_g := mem_q 1800 (by decide +kernel) rfl
theorem q_1801 : Cond.code yX12_keep cX12_keep 3 (some .int) ∈ lw_g := mem_q 1801 (by decide +kernel) rfl
theorem kV_RL_155 : CV RL 155 RX12 yX12_keep cX12_keep 3 (some .int) 2 := cv_of q_1798 q_1799 q_1800 q_115 q_1801 (by decide +kernel)
theorem dL_law_1136 : decode cL_law 1136 = .ok (.invokevirtual 155, 3) := by decide +kernel
theorem dL_law_1139 : decode cL_law 1139 = .ok (.if_icmp .eq 274, 3) := by decide +kernel
set_option maxHeartbeats 4000000 in
set_option maxRecDepth 100000 in
/-- keep -/
theorem lk_33 {p : Program} {l : Launch} {e : Env} {s : State} {m : MethodId} {below : List Frame} {meth : Method} {c : Code} {b : Nat} {xs : Nat → Int32} {J : va_J9} {A : Nat → Prop} {H : Heap} {locs : List Loc} {ls : Array Slot} {a bb : Nat → Nat} {f : Nat → Option Nat} {g : Nat → Int32} (E0 : LE p s m meth c b 6 xs J A) (hfx : ∀ j, j < 6 → f j = some (a (41 + j))) (hg : ∀ k, k < 6 → g k = -1) (hP : va_P J.1 cls (xW J a f ++ mW J bb g) H) (hD : va_D A (xW J a f ++ mW J bb g)) (hS : va_S A s.heap H locs) (hl : lv_has ls 4 [(3, .int 0), (2, .ref (bb 0)), (1, .ref (a 0)), (0, .ref b)]) : W p l e room_1 s m #[Value.ref b] below meth c H locs 600000 7302250 (lw_Z below #[Value.ref b] s) (F0 m 1111 ls []) := by
  obtain ⟨hx, hb, hr, hml, hown, hts, hX, hbl, hlk, hK, hA, hAs⟩ := id E0
  have hbA : ¬ A b := fun h => absurd (hAs b h) (Nat.not_le.mpr hbl)
  obtain ⟨x1, e1⟩ : ∃ z : Int32, z = xs 1 := ⟨_, rfl⟩
  obtain ⟨x2, e2⟩ : ∃ z : Int32, z = xs 2 := ⟨_, rfl⟩
  have rg_x1 := i_rng x1
  have rg_x2 := i_rng x2
  by_cases hd : 0 ≤ x1.toInt ∧ x1.toInt ≤ 5
  · obtain ⟨sh, ce, hf, hP, hD⟩ := shx hfx hP hD hd
    refine lv_aload_n hx hb dL_law_1111 rfl (lv_at hl 2 rfl) ?_
    refine lv_aload_n hx hb dL_law_1112 rfl (lv_at hl 3 rfl) ?_
    refine lv_iload_n hx hb dL_law_1113 rfl (lv_at hl 0 rfl) ?_
    refine lv_iconst (v := 1) hx hb dL_law_1114 (by decide) ?_
    refine lv_iadd hx hb dL_law_1115 ?_
    refine top_i (y := 1) (by decide) ?_
    refine va_sld hx hb hX hbl hbA hS (i_in (a := 1) (by decide) (by omega) (by omega)) dL_law_1116 ?_
    refine top_i (y := x1) e1.symm ?_
    refine lv_aload_n hx hb dL_law_1117 rfl (lv_at hl 3 rfl) ?_
    refine lv_iload_n hx hb dL_law_1118 rfl (lv_at hl 0 rfl) ?_
    refine lv_iconst (v := 2) hx hb dL_law_1119 (by decide) ?_
    refine lv_iadd hx hb dL_law_1120 ?_
    refine top_i (y := 2) (by decide) ?_
    refine va_sld hx hb hX hbl hbA hS (i_in (a := 2) (by decide) (by omega) (by omega)) dL_law_1121 ?_
    refine top_i (y := x2) e2.symm ?_
    refine gw_i (wc := [((a 0), .inr (11, [.ref (a 1), .ref (a 6), .ref (a 10), .ref (a 15), .ref (a 17), .ref (a 22), .ref (a 23), .ref (a 30), .ref (a 31), .ref (a 34), .int 0, .ref (a 37), .ref (a 40)])), ((a 40), .inl (J.2.2.2, 6, .inr (.inr (.inr (.inr f))))), (sh, .inr (9, [.ref ce, .int 0, .int 0, .int 0, .int 0])), ((a 37), .inr (0, [.ref (a 38), .int 0, .ref (a 39), .int 0]))]) (wr := [((bb 0), .inr (12, [.ref (bb 1), .ref (bb 2), .ref (bb 3), .ref (bb 4), .int 0, .int 0, .int 0, .int 0, .ref (bb 9), .ref (bb 10), .int 0, .ref (bb 12), .int (-1), .int 0, .int 0, .int 0, .int 0, .int 0, .ref (bb 19), .ref (bb 20), .ref (bb 21), .ref (bb 22), .ref (bb 23), .long 0, .long 0, .long 0, .ref (bb 27), .ref (bb 28), .ref (bb 29), .long 0, .int 0, .int (-1), .int 0, .int 0, .int 0, .ref (bb 36), .int 0, .int 0, .ref (bb 39), .ref (bb 40), .int 0, .ref (bb 42), .ref (bb 43), .int 0, .int 0, .int 0, .ref (bb 47), .ref (bb 48), .ref (bb 49), .ref (bb 50)])), ((bb 1), .inl (J.2.1, 22, .inl (upd (fun _ => 0) (20 : Int32).toNatClampNeg 1))), ((bb 2), .inl (J.2.1, 40, .inl (fun _ => 0))), ((bb 3), .inl (J.2.1, 40, .inl (fun _ => 0))), ((bb 4), .inl (J.2.1, 40, .inl (fun _ => 0))), ((bb 10), .inl (J.2.1, 120, .inl (fun _ => 0))), ((bb 21), .inl (J.2.1, 7168, .inl (fun _ => 0))), ((bb 39), .inl (J.2.1, 5, .inl (fun _ => 0))), ((bb 40), .inl (J.2.1, 10, .inl (fun _ => 0))), ((bb 36), .inl (J.2.1, 10, .inl (fun _ => 0))), ((bb 42), .inl (J.2.1, 50, .inl (fun _ => 0))), ((bb 47), .inl (J.2.1, 6, .inl g)), ((bb 48), .inl (J.2.1, 6, .inl (fun _ => 0))), ((bb 49), .inl (J.2.2.1, 360, .inr (.inl (fun _ => 0))))]) hP hD hS hA [0, 1, 2, 4] [5, 6, 7, 8, 9, 10, 11, 12, 13, 14, 15, 16, 17, 18] rfl rfl (by decide) (by decide) (wn_V (As := [.int x1, .int x2]) (rest := []) hx hb hml hown hts hK (c_keep_in l J _ a f sh ce x1 x2 ⟨by omega, by omega⟩ hf) kV_RL_152 (hP.sub (ws' := [((a 0), .inr (11, [.ref (a 1), .ref (a 6), .ref (a 10), .ref (a 15), .ref (a 17), .ref (a 22), .ref (a 23), .ref (a 30), .ref (a 31), .ref (a 34), .int 0, .ref (a 37), .ref (a 40)])), ((a 40), .inl (J.2.2.2, 6, .inr (.inr (.inr (.inr f))))), (sh, .inr (9, [.ref ce, .int 0, .int 0, .int 0, .int 0])), ((a 37), .inr (0, [.ref (a 38), .int 0, .ref (a 39), .int 0]))]) [0, 1, 2, 4] rfl) ((hD.sub (ws' := [((a 0), .inr (11, [.ref (a 1), .ref (a 6), .ref (a 10), .ref (a 15), .ref (a 17), .ref (a 22), .ref (a 23), .ref (a 30), .ref (a 31), .ref (a 34), .int 0, .ref (a 37), .ref (a 40)])), ((a 40), .inl (J.2.2.2, 6, .inr (.inr (.inr (.inr f))))), (sh, .inr (9, [.ref ce, .int 0, .int 0, .int 0, .int 0])), ((a 37), .inr (0, [.ref (a 38), .int 0, .ref (a 39), .int 0]))]) [0, 1, 2, 4] (by decide) rfl).weaken (fun _ _ _ _ => trivial)) rfl rfl rfl ⟨Nat.le_of_ble_eq_true rfl, Nat.le_of_ble_eq_true rfl⟩ rfl rfl rfl hl.1 rfl (Nat.le_of_ble_eq_true rfl) ⟨Nat.le_of_ble_eq_true rfl, Nat.le_of_ble_eq_true rfl⟩ dL_law_1122) (fun r2 u1 H locs hw hP hD hS => ?_)
    subst hw
    have hP : va_P J.1 cls [((bb 0), .inr (12, [.ref (bb 1), .ref (bb 2), .ref (bb 3), .ref (bb 4), .int 0, .int 0, .int 0, .int 0, .ref (bb 9), .ref (bb 10), .int 0, .ref (bb 12), .int (-1), .int 0, .int 0, .int 0, .int 0, .int 0, .ref (bb 19), .ref (bb 20), .ref (bb 21), .ref (bb 22), .ref (bb 23), .long 0, .long 0, .long 0, .ref (bb 27), .ref (bb 28), .ref (bb 29), .long 0, .int 0, .int (-1), .int 0, .int 0, .int 0, .ref (bb 36), .int 0, .int 0, .ref (bb 39), .ref (bb 40), .int 0, .ref (bb 42), .ref (bb 43), .int 0, .int 0, .int 0, .ref (bb 47), .ref (bb 48), .ref (bb 49), .ref (bb 50)])), ((bb 1), .inl (J.2.1, 22, .inl (upd (fun _ => 0) (20 : Int32).toNatClampNeg 1))), ((bb 2), .inl (J.2.1, 40, .inl (fun _ => 0))), ((bb 3), .inl (J.2.1, 40, .inl (fun _ => 0))), ((bb 4), .inl (J.2.1, 40, .inl (fun _ => 0))), ((bb 10), .inl (J.2.1, 120, .inl (fun _ => 0))), ((bb 21), .inl (J.2.1, 7168, .inl (fun _ => 0))), ((bb 39), .inl (J.2.1, 5, .inl (fun _ => 0))), ((bb 40), .inl (J.2.1, 10, .inl (fun _ => 0))), ((bb 36), .inl (J.2.1, 10, .inl (fun _ => 0))), ((bb 42), .inl (J.2.1, 50, .inl (fun _ => 0))), ((bb 47), .inl (J.2.1, 6, .inl g)), ((bb 48), .inl (J.2.1, 6, .inl (fun _ => 0))), ((bb 49), .inl (J.2.2.1, 360, .inr (.inl (fun _ => 0))))] H := hP
    have hD : va_D A [((bb 0), .inr (12, [.ref (bb 1), .ref (bb 2), .ref (bb 3), .ref (bb 4), .int 0, .int 0, .int 0, .int 0, .ref (bb 9), .ref (bb 10), .int 0, .ref (bb 12), .int (-1), .int 0, .int 0, .int 0, .int 0, .int 0, .ref (bb 19), .ref (bb 20), .ref (bb 21), .ref (bb 22), .ref (bb 23), .long 0, .long 0, .long 0, .ref (bb 27), .ref (bb 28), .ref (bb 29), .long 0, .int 0, .int (-1), .int 0, .int 0, .int 0, .ref (bb 36), .int 0, .int 0, .ref (bb 39), .ref (bb 40), .int 0, .ref (bb 42), .ref (bb 43), .int 0, .int 0, .int 0, .ref (bb 47), .ref (bb 48), .ref (bb 49), .ref (bb 50)])), ((bb 1), .inl (J.2.1, 22, .inl (upd (fun _ => 0) (20 : Int32).toNatClampNeg 1))), ((bb 2), .inl (J.2.1, 40, .inl (fun _ => 0))), ((bb 3), .inl (J.2.1, 40, .inl (fun _ => 0))), ((bb 4), .inl (J.2.1, 40, .inl (fun _ => 0))), ((bb 10), .inl (J.2.1, 120, .inl (fun _ => 0))), ((bb 21), .inl (J.2.1, 7168, .inl (fun _ => 0))), ((bb 39), .inl (J.2.1, 5, .inl (fun _ => 0))), ((bb 40), .inl (J.2.1, 10, .inl (fun _ => 0))), ((bb 36), .inl (J.2.1, 10, .inl (fun _ => 0))), ((bb 42), .inl (J.2.1, 50, .inl (fun _ => 0))), ((bb 47), .inl (J.2.1, 6, .inl g)), ((bb 48), .inl (J.2.1, 6, .inl (fun _ => 0))), ((bb 49), .inl (J.2.2.1, 360, .inr (.inl (fun _ => 0))))] := hD
    refine W.widen (k := 600000) (n := 7302250) (Nat.le_of_ble_eq_true rfl) (Nat.le_of_ble_eq_true rfl) ?_
    refine lv_aload_n hx hb dL_law_1125 rfl (lv_at hl 1 rfl) ?_
    refine lv_aload_n hx hb dL_law_1126 rfl (lv_at hl 3 rfl) ?_
    refine lv_iload_n hx hb dL_law_1127 rfl (lv_at hl 0 rfl) ?_
    refine lv_iconst (v := 1) hx hb dL_law_1128 (by decide) ?_
    refine lv_iadd hx hb dL_law_1129 ?_
    refine top_i (y := 1) (by decide) ?_
    refine va_sld hx hb hX hbl hbA hS (i_in (a := 1) (by decide) (by omega) (by omega)) dL_law_1130 ?_
    refine top_i (y := x1) e1.symm ?_
    refine lv_aload_n hx hb dL_law_1131 rfl (lv_at hl 3 rfl) ?_
    refine lv_iload_n hx hb dL_law_1132 rfl (lv_at hl 0 rfl) ?_
    refine lv_iconst (v := 2) hx hb dL_law_1133 (by decide) ?_
    refine lv_iadd hx hb dL_law_1134 ?_
    refine top_i (y := 2) (by decide) ?_
    refine va_sld hx hb hX hbl hbA hS (i_in (a := 2) (by decide) (by omega) (by omega)) dL_law_1135 ?_
    refine top_i (y := x2) e2.symm ?_
    refine gw_i (wc := [((bb 0), .inr (12, [.ref (bb 1), .ref (bb 2), .ref (bb 3), .ref (bb 4), .int 0, .int 0, .int 0, .int 0, .ref (bb 9), .ref (bb 10), .int 0, .ref (bb 12), .int (-1), .int 0, .int 0, .int 0, .int 0, .int 0, .ref (bb 19), .ref (bb 20), .ref (bb 21), .ref (bb 22), .ref (bb 23), .long 0, .long 0, .long 0, .ref (bb 27), .ref (bb 28), .ref (bb 29), .long 0, .int 0, .int (-1), .int 0, .int 0, .int 0, .ref (bb 36), .int 0, .int 0, .ref (bb 39), .ref (bb 40), .int 0, .ref (bb 42), .ref (bb 43), .int 0, .int 0, .int 0, .ref (bb 47), .ref (bb 48), .ref (bb 49), .ref (bb 50)])), ((bb 47), .inl (J.2.1, 6, .inl g)), ((bb 48), .inl (J.2.1, 6, .inl (fun _ => 0)))]) (wr := [((bb 1), .inl (J.2.1, 22, .inl (upd (fun _ => 0) (20 : Int32).toNatClampNeg 1))), ((bb 2), .inl (J.2.1, 40, .inl (fun _ => 0))), ((bb 3), .inl (J.2.1, 40, .inl (fun _ => 0))), ((bb 4), .inl (J.2.1, 40, .inl (fun _ => 0))), ((bb 10), .inl (J.2.1, 120, .inl (fun _ => 0))), ((bb 21), .inl (J.2.1, 7168, .inl (fun _ => 0))), ((bb 39), .inl (J.2.1, 5, .inl (fun _ => 0))), ((bb 40), .inl (J.2.1, 10, .inl (fun _ => 0))), ((bb 36), .inl (J.2.1, 10, .inl (fun _ => 0))), ((bb 42), .inl (J.2.1, 50, .inl (fun _ => 0))), ((bb 49), .inl (J.2.2.1, 360, .inr (.inl (fun _ => 0))))]) hP hD hS hA [0, 11, 12] [1, 2, 3, 4, 5, 6, 7, 8, 9, 10, 13] rfl rfl (by decide) (by decide) (wn_V (As := [.int x1, .int x2]) (rest := [.int (sp_keep (x1.toInt) (x2.toInt))]) hx hb hml hown hts hK (m_keep l J _ bb g x1 x2 hg) kV_RL_155 (hP.sub (ws' := [((bb 0), .inr (12, [.ref (bb 1), .ref (bb 2), .ref (bb 3), .ref (bb 4), .int 0, .int 0, .int 0, .int 0, .ref (bb 9), .ref (bb 10), .int 0, .ref (bb 12), .int (-1), .int 0, .int 0, .int 0, .int 0, .int 0, .ref (bb 19), .ref (bb 20), .ref (bb 21), .ref (bb 22), .ref (bb 23), .long 0, .long 0, .long 0, .ref (bb 27), .ref (bb 28), .ref (bb 29), .long 0, .int 0, .int (-1), .int 0, .int 0, .int 0, .ref (bb 36), .int 0, .int 0, .ref (bb 39), .ref (bb 40), .int 0, .ref (bb 42), .ref (bb 43), .int 0, .int 0, .int 0, .ref (bb 47), .ref (bb 48), .ref (bb 49), .ref (bb 50)])), ((bb 47), .inl (J.2.1, 6, .inl g)), ((bb 48), .inl (J.2.1, 6, .inl (fun _ => 0)))]) [0, 11, 12] rfl) ((hD.sub (ws' := [((bb 0), .inr (12, [.ref (bb 1), .ref (bb 2), .ref (bb 3), .ref (bb 4), .int 0, .int 0, .int 0, .int 0, .ref (bb 9), .ref (bb 10), .int 0, .ref (bb 12), .int (-1), .int 0, .int 0, .int 0, .int 0, .int 0, .ref (bb 19), .ref (bb 20), .ref (bb 21), .ref (bb 22), .ref (bb 23), .long 0, .long 0, .long 0, .ref (bb 27), .ref (bb 28), .ref (bb 29), .long 0, .int 0, .int (-1), .int 0, .int 0, .int 0, .ref (bb 36), .int 0, .int 0, .ref (bb 39), .ref (bb 40), .int 0, .ref (bb 42), .ref (bb 43), .int 0, .int 0, .int 0, .ref (bb 47), .ref (bb 48), .ref (bb 49), .ref (bb 50)])), ((bb 47), .inl (J.2.1, 6, .inl g)), ((bb 48), .inl (J.2.1, 6, .inl (fun _ => 0)))]) [0, 11, 12] (by decide) rfl).weaken (fun _ _ _ _ => trivial)) rfl rfl rfl ⟨Nat.le_of_ble_eq_true rfl, Nat.le_of_ble_eq_true rfl⟩ rfl rfl rfl hl.1 rfl (Nat.le_of_ble_eq_true rfl) ⟨Nat.le_of_ble_eq_true rfl, Nat.le_of_ble_eq_true rfl⟩ dL_law_1136) (fun r4 u3 H locs hw hP hD hS => ?_)
    subst hw
    have hP : va_P J.1 cls [((bb 1), .inl (J.2.1, 22, .inl (upd (fun _ => 0) (20 : Int32).toNatClampNeg 1))), ((bb 2), .inl (J.2.1, 40, .inl (fun _ => 0))), ((bb 3), .inl (J.2.1, 40, .inl (fun _ => 0))), ((bb 4), .inl (J.2.1, 40, .inl (fun _ => 0))), ((bb 10), .inl (J.2.1, 120, .inl (fun _ => 0))), ((bb 21), .inl (J.2.1, 7168, .inl (fun _ => 0))), ((bb 39), .inl (J.2.1, 5, .inl (fun _ => 0))), ((bb 40), .inl (J.2.1, 10, .inl (fun _ => 0))), ((bb 36), .inl (J.2.1, 10, .inl (fun _ => 0))), ((bb 42), .inl (J.2.1, 50, .inl (fun _ => 0))), ((bb 49), .inl (J.2.2.1, 360, .inr (.inl (fun _ => 0))))] H := hP
    have hD : va_D A [((bb 1), .inl (J.2.1, 22, .inl (upd (fun _ => 0) (20 : Int32).toNatClampNeg 1))), ((bb 2), .inl (J.2.1, 40, .inl (fun _ => 0))), ((bb 3), .inl (J.2.1, 40, .inl (fun _ => 0))), ((bb 4), .inl (J.2.1, 40, .inl (fun _ => 0))), ((bb 10), .inl (J.2.1, 120, .inl (fun _ => 0))), ((bb 21), .inl (J.2.1, 7168, .inl (fun _ => 0))), ((bb 39), .inl (J.2.1, 5, .inl (fun _ => 0))), ((bb 40), .inl (J.2.1, 10, .inl (fun _ => 0))), ((bb 36), .inl (J.2.1, 10, .inl (fun _ => 0))), ((bb 42), .inl (J.2.1, 50, .inl (fun _ => 0))), ((bb 49), .inl (J.2.2.1, 360, .inr (.inl (fun _ => 0))))] := hD
    refine W.widen (k := 600000) (n := 7302250) (Nat.le_of_ble_eq_true rfl) (Nat.le_of_ble_eq_true rfl) ?_
    refine lv_icmp_eq (tgt := 1413) hx hb dL_law_1139 (by decide) (fun _ => ?_) (fun c => absurd rfl c)
    exact law_end E0 hS (lv_sub hl [0, 1, 2, 3] rfl)
  · refine lv_aload_n hx hb dL_law_1111 rfl (lv_at hl 2 rfl) ?_
    refine lv_aload_n hx hb dL_law_1112 rfl (lv_at hl 3 rfl) ?_
    refine lv_iload_n hx hb dL_law_1113 rfl (lv_at hl 0 rfl) ?_
    refine lv_iconst (v := 1) hx hb dL_law_1114 (by decide) ?_
    refine lv_iadd hx hb dL_law_1115 ?_
    refine top_i (y := 1) (by decide) ?_
    refine va_sld hx hb hX hbl hbA hS (i_in (a := 1) (by decide) (by omega) (by omega)) dL_law_1116 ?_
    refine top_i (y := x1) e1.symm ?_
    refine lv_aload_n hx hb dL_law_1117 rfl (lv_at hl 3 rfl) ?_
    refine lv_iload_n hx hb dL_law_1118 rfl (lv_at hl 0 rfl) ?_
    refine lv_iconst (v := 2) hx hb dL_law_1119 (by decide) ?_
    refine lv_iadd hx hb dL_law_1120 ?_
    refine top_i (y := 2) (by decide) ?_
    refine va_sld hx hb hX hbl hbA hS (i_in (a := 2) (by decide) (by omega) (by omega)) dL_law_1121 ?_
    refine top_i (y := x2) e2.symm ?_
    refine go_i (rn_V (As := [.int x1, .int x2]) (rest := []) hx hb hml hown hts hK (c_keep_out l J a x1 x2 (by omega)) kV_RL_152 (hP.sub (ws' := [((a 0), .inr (11, [.ref (a 1), .ref (a 6), .ref (a 10), .ref (a 15), .ref (a 17), .ref (a 22), .ref (a 23), .ref (a 30), .ref (a 31), .ref (a 34), .int 0, .ref (a 37), .ref (a 40)]))]) [0] rfl) rfl rfl rfl ⟨Nat.le_of_ble_eq_true rfl, Nat.le_of_ble_eq_true rfl⟩ rfl rfl rfl hl.1 rfl (Nat.le_of_ble_eq_true rfl) ⟨Nat.le_of_ble_eq_true rfl, Nat.le_of_ble_eq_true rfl⟩ dL_law_1122) ?_
    refine lv_aload_n hx hb dL_law_1125 rfl (lv_at hl 1 rfl) ?_
    refine lv_aload_n hx hb dL_law_1126 rfl (lv_at hl 3 rfl) ?_
    refine lv_iload_n hx hb dL_law_1127 rfl (lv_at hl 0 rfl) ?_
    refine lv_iconst (v := 1) hx hb dL_law_1128 (by decide) ?_
    refine lv_iadd hx hb dL_law_1129 ?_
    refine top_i (y := 1) (by decide) ?_
    refine va_sld hx hb hX hbl hbA hS (i_in (a := 1) (by decide) (by omega) (by omega)) dL_law_1130 ?_
    refine top_i (y := x1) e1.symm ?_
    refine lv_aload_n hx hb dL_law_1131 rfl (lv_at hl 3 rfl) ?_
    refine lv_iload_n hx hb dL_law_1132 rfl (lv_at hl 0 rfl) ?_
    refine lv_iconst (v := 2) hx hb dL_law_1133 (by decide) ?_
    refine lv_iadd hx hb dL_law_1134 ?_
    refine top_i (y := 2) (by decide) ?_
    refine va_sld hx hb hX hbl hbA hS (i_in (a := 2) (by decide) (by omega) (by omega)) dL_law_1135 ?_
    refine top_i (y := x2) e2.symm ?_
    refine gw_i (wc := [((bb 0), .inr (12, [.ref (bb 1), .ref (bb 2), .ref (bb 3), .ref (bb 4), .int 0, .int 0, .int 0, .int 0, .ref (bb 9), .ref (bb 10), .int 0, .ref (bb 12), .int (-1), .int 0, .int 0, .int 0, .int 0, .int 0, .ref (bb 19), .ref (bb 20), .ref (bb 21), .ref (bb 22), .ref (bb 23), .long 0, .long 0, .long 0, .ref (bb 27), .ref (bb 28), .ref (bb 29), .long 0, .int 0, .int (-1), .int 0, .int 0, .int 0, .ref (bb 36), .int 0, .int 0, .ref (bb 39), .ref (bb 40), .int 0, .ref (bb 42), .ref (bb 43), .int 0, .int 0, .int 0, .ref (bb 47), .ref (bb 48), .ref (bb 49), .ref (bb 50)])), ((bb 47), .inl (J.2.1, 6, .inl g)), ((bb 48), .inl (J.2.1, 6, .inl (fun _ => 0)))]) (wr := [((bb 1), .inl (J.2.1, 22, .inl (upd (fun _ => 0) (20 : Int32).toNatClampNeg 1))), ((bb 2), .inl (J.2.1, 40, .inl (fun _ => 0))), ((bb 3), .inl (J.2.1, 40, .inl (fun _ => 0))), ((bb 4), .inl (J.2.1, 40, .inl (fun _ => 0))), ((bb 10), .inl (J.2.1, 120, .inl (fun _ => 0))), ((bb 21), .inl (J.2.1, 7168, .inl (fun _ => 0))), ((bb 39), .inl (J.2.1, 5, .inl (fun _ => 0))), ((bb 40), .inl (J.2.1, 10, .inl (fun _ => 0))), ((bb 36), .inl (J.2.1, 10, .inl (fun _ => 0))), ((bb 42), .inl (J.2.1, 50, .inl (fun _ => 0))), ((bb 49), .inl (J.2.2.1, 360, .inr (.inl (fun _ => 0))))]) hP hD hS hA [39, 50, 51] [40, 41, 42, 43, 44, 45, 46, 47, 48, 49, 52] rfl rfl (by decide) (by decide) (wn_V (As := [.int x1, .int x2]) (rest := [.int (sp_keep (x1.toInt) (x2.toInt))]) hx hb hml hown hts hK (m_keep l J _ bb g x1 x2 hg) kV_RL_155 (hP.sub (ws' := [((bb 0), .inr (12, [.ref (bb 1), .ref (bb 2), .ref (bb 3), .ref (bb 4), .int 0, .int 0, .int 0, .int 0, .ref (bb 9), .ref (bb 10), .int 0, .ref (bb 12), .int (-1), .int 0, .int 0, .int 0, .int 0, .int 0, .ref (bb 19), .ref (bb 20), .ref (bb 21), .ref (bb 22), .ref (bb 23), .long 0, .long 0, .long 0, .ref (bb 27), .ref (bb 28), .ref (bb 29), .long 0, .int 0, .int (-1), .int 0, .int 0, .int 0, .ref (bb 36), .int 0, .int 0, .ref (bb 39), .ref (bb 40), .int 0, .ref (bb 42), .ref (bb 43), .int 0, .int 0, .int 0, .ref (bb 47), .ref (bb 48), .ref (bb 49), .ref (bb 50)])), ((bb 47), .inl (J.2.1, 6, .inl g)), ((bb 48), .inl (J.2.1, 6, .inl (fun _ => 0)))]) [39, 50, 51] rfl) ((hD.sub (ws' := [((bb 0), .inr (12, [.ref (bb 1), .ref (bb 2), .ref (bb 3), .ref (bb 4), .int 0, .int 0, .int 0, .int 0, .ref (bb 9), .ref (bb 10), .int 0, .ref (bb 12), .int (-1), .int 0, .int 0, .int 0, .int 0, .int 0, .ref (bb 19), .ref (bb 20), .ref (bb 21), .ref (bb 22), .ref (bb 23), .long 0, .long 0, .long 0, .ref (bb 27), .ref (bb 28), .ref (bb 29), .long 0, .int 0, .int (-1), .int 0, .int 0, .int 0, .ref (bb 36), .int 0, .int 0, .ref (bb 39), .ref (bb 40), .int 0, .ref (bb 42), .ref (bb 43), .int 0, .int 0, .int 0, .ref (bb 47), .ref (bb 48), .ref (bb 49), .ref (bb 50)])), ((bb 47), .inl (J.2.1, 6, .inl g)), ((bb 48), .inl (J.2.1, 6, .inl (fun _ => 0)))]) [39, 50, 51] (by decide) rfl).weaken (fun _ _ _ _ => trivial)) rfl rfl rfl ⟨Nat.le_of_ble_eq_true rfl, Nat.le_of_ble_eq_true rfl⟩ rfl rfl rfl hl.1 rfl (Nat.le_of_ble_eq_true rfl) ⟨Nat.le_of_ble_eq_true rfl, Nat.le_of_ble_eq_true rfl⟩ dL_law_1136) (fun r6 u5 H locs hw hP hD hS => ?_)
    subst hw
    have hP : va_P J.1 cls [((bb 1), .inl (J.2.1, 22, .inl (upd (fun _ => 0) (20 : Int32).toNatClampNeg 1))), ((bb 2), .inl (J.2.1, 40, .inl (fun _ => 0))), ((bb 3), .inl (J.2.1, 40, .inl (fun _ => 0))), ((bb 4), .inl (J.2.1, 40, .inl (fun _ => 0))), ((bb 10), .inl (J.2.1, 120, .inl (fun _ => 0))), ((bb 21), .inl (J.2.1, 7168, .inl (fun _ => 0))), ((bb 39), .inl (J.2.1, 5, .inl (fun _ => 0))), ((bb 40), .inl (J.2.1, 10, .inl (fun _ => 0))), ((bb 36), .inl (J.2.1, 10, .inl (fun _ => 0))), ((bb 42), .inl (J.2.1, 50, .inl (fun _ => 0))), ((bb 49), .inl (J.2.2.1, 360, .inr (.inl (fun _ => 0))))] H := hP
    have hD : va_D A [((bb 1), .inl (J.2.1, 22, .inl (upd (fun _ => 0) (20 : Int32).toNatClampNeg 1))), ((bb 2), .inl (J.2.1, 40, .inl (fun _ => 0))), ((bb 3), .inl (J.2.1, 40, .inl (fun _ => 0))), ((bb 4), .inl (J.2.1, 40, .inl (fun _ => 0))), ((bb 10), .inl (J.2.1, 120, .inl (fun _ => 0))), ((bb 21), .inl (J.2.1, 7168, .inl (fun _ => 0))), ((bb 39), .inl (J.2.1, 5, .inl (fun _ => 0))), ((bb 40), .inl (J.2.1, 10, .inl (fun _ => 0))), ((bb 36), .inl (J.2.1, 10, .inl (fun _ => 0))), ((bb 42), .inl (J.2.1, 50, .inl (fun _ => 0))), ((bb 49), .inl (J.2.2.1, 360, .inr (.inl (fun _ => 0))))] := hD
    refine W.widen (k := 600000) (n := 7302250) (Nat.le_of_ble_eq_true rfl) (Nat.le_of_ble_eq_true rfl) ?_
    refine lv_icmp_eq (tgt := 1413) hx hb dL_law_1139 (by decide) (fun _ => ?_) (fun c => absurd rfl c)
    exact law_end E0 hS (lv_sub hl [0, 1, 2, 3] rfl)
theorem dL_law_1144 : decode cL_law 1144 = .ok (.aload_n 1, 1) := by decide +kernel
theorem dL_law_1145 : decode cL_law 1145 = .ok (.aload_n 0, 1) := by decide +kernel
theorem dL_law_1146 : decode cL_law 1146 = .ok (.iload_n 3, 1) := by decide +kernel
theorem dL_law_1147 : decode cL_law 1147 = .ok (.iconst 1, 1) := by decide +kernel
theorem dL_law_1148 : decode cL_law 1148 = .ok (.iadd, 1) := by decide +kernel
theorem dL_law_1149 : decode cL_law 1149 = .ok (.iaload, 1) := by decide +kernel
theorem dL_law_1150 : decode cL_law 1150 = .ok (.aload_n 0, 1) := by decide +kernel
theorem dL_law_1151 : decode cL_law 1151 = .ok (.iload_n 3, 1) := by decide +kernel
theorem dL_law_1152 : decode cL_law 1152 = .ok (.iconst 2, 1) := by decide +kernel
theorem dL_law_1153 : decode cL_law 1153 = .ok (.iadd, 1) := by decide +kernel
theorem dL_law_1154 : decode cL_law 1154 = .ok (.iaload, 1) := by decide +kernel
theorem dL_law_1155 : decode cL_law 1155 = .ok (.aload_n 0, 1) := by decide +kernel
theorem dL_law_1156 : decode cL_law 1156 = .ok (.iload_n 3, 1) := by decide +kernel
theorem dL_law_1157 : decode cL_law 1157 = .ok (.iconst 3, 1) := by decide +kernel
theorem dL_law_1158 : decode cL_law 1158 = .ok (.iadd, 1) := by decide +kernel
theorem dL_law_1159 : decode cL_law 1159 = .ok (.iaload, 1) := by decide +kernel
theorem q_1203 : Cond.methodLink RL 156 yX11_row ∈ lw_g := mem_q 1203 (by decide +kernel) rfl
theorem q_1204 : Cond.instanceMethod yX11_row ∈ lw_g := mem_q 1204 (by decide +kernel) rfl
theorem q_1205 : Cond.selects RX11 yX11_row yX11_row ∈ lw_g := mem_q 1205 (by decide +kernel) rfl
theorem q_1206 : Cond.code yX11_row cX11_row 5 (some .int) ∈ lw_g := mem_q 1206 (by decide +kernel) rfl
theorem kV_RL_156 : CV RL 156 RX11 yX11_row cX11_row 5 (some .int) 3 := cv_of q_1203 q_1204 q_1205 q_103 q_1206 (by decide +kernel)
theorem dL_law_1160 : decode cL_law 1160 = .ok (.invokevirtual 156, 3) := by decide +kernel
theorem dL_law_1163 : decode cL_law 1163 = .ok (.aload_n 2, 1) := by decide +kernel
theorem dL_law_1164 : decode cL_law 1164 = .ok (.aload_n 0, 1) := by decide +kernel
theorem dL_law_1165 : decode cL_law 1165 = .ok (.iload_n 3, 1) := by decide +kernel
theorem dL_law_1166 : decode cL_law 1166 = .ok (.iconst 1, 1) := by decide +kernel
theorem dL_law_1167 : decode cL_law 1167 = .ok (.iadd, 1) := by decide +kernel
theorem dL_law_1168 : decode cL_law 1168 = .ok (.iaload, 1) := by decide +kernel
theorem dL_law_1169 : decode cL_law 1169 = .ok (.aload_n 0, 1) := by decide +kernel
theorem dL_law_1170 : decode cL_law 1170 = .ok (.iload_n 3, 1) := by decide +kernel
theorem dL_law_1171 : decode cL_law 1171 = .ok (.iconst 2, 1) := by decide +kernel
theorem dL_law_1172 : decode cL_law 1172 = .ok (.iadd, 1) := by decide +kernel
theorem dL_law_1173 : decode cL_law 1173 = .ok (.iaload, 1) := by decide +kernel
theorem dL_law_1174 : decode cL_law 1174 = .ok (.aload_n 0, 1) := by decide +kernel
theorem dL_law_1175 : decode cL_law 1175 = .ok (.iload_n 3, 1) := by decide +kernel
theorem dL_law_1176 : decode cL_law 1176 = .ok (.iconst 3, 1) := by decide +kernel
theorem dL_law_1177 : decode cL_law 1177 = .ok (.iadd, 1) := by decide +kernel
theorem dL_law_1178 : decode cL_law 1178 = .ok (.iaload, 1) := by decide +kernel
theorem q_1802 : Cond.methodLink RL 159 yX12_row ∈ lw_g := mem_q 1802 (by decide +kernel) rfl
theorem q_1803 : Cond.instanceMethod yX12_row ∈ lw_g := mem_q 1803 (by decide +kernel) rfl
theorem q_1804 : Cond.selects RX12 yX12_row yX12_row ∈ lw_g := mem_q 1804 (by decide +kernel) rfl
theorem q_1805 : Cond.code yX12_row cX12_row 5 (some .int) ∈ lw_g := mem_q 1805 (by decide +kernel) rfl
theorem kV_RL_159 : CV RL 159 RX12 yX12_row cX12_row 5 (some .int) 3 := cv_of q_1802 q_1803 q_1804 q_115 q_1805 (by decide +kernel)
theorem dL_law_1179 : decode cL_law 1179 = .ok (.invokevirtual 159, 3) := by decide +kernel
theorem dL_law_1182 : decode cL_law 1182 = .ok (.if_icmp .eq 231, 3) := by decide +kernel
set_option maxHeartbeats 4000000 in
set_option maxRecDepth 100000 in
/-- row -/
theorem lk_34 {p : Program} {l : Launch} {e : Env} {s : State} {m : MethodId} {below : List Frame} {meth : Method} {c : Code} {b : Nat} {xs : Nat → Int32} {J : va_J9} {A : Nat → Prop} {H : Heap} {locs : List Loc} {ls : Array Slot} {a bb : Nat → Nat} {f : Nat → Option Nat} {g : Nat → Int32} (E0 : LE p s m meth c b 6 xs J A) (hfx : ∀ j, j < 6 → f j = some (a (41 + j))) (hg : ∀ k, k < 6 → g k = -1) (hP : va_P J.1 cls (xW J a f ++ mW J bb g) H) (hD : va_D A (xW J a f ++ mW J bb g)) (hS : va_S A s.heap H locs) (hl : lv_has ls 4 [(3, .int 0), (2, .ref (bb 0)), (1, .ref (a 0)), (0, .ref b)]) : W p l e room_1 s m #[Value.ref b] below meth c H locs 600000 7302250 (lw_Z below #[Value.ref b] s) (F0 m 1144 ls []) := by
  obtain ⟨hx, hb, hr, hml, hown, hts, hX, hbl, hlk, hK, hA, hAs⟩ := id E0
  have hbA : ¬ A b := fun h => absurd (hAs b h) (Nat.not_le.mpr hbl)
  obtain ⟨x1, e1⟩ : ∃ z : Int32, z = xs 1 := ⟨_, rfl⟩
  obtain ⟨x2, e2⟩ : ∃ z : Int32, z = xs 2 := ⟨_, rfl⟩
  obtain ⟨x3, e3⟩ : ∃ z : Int32, z = xs 3 := ⟨_, rfl⟩
  have rg_x1 := i_rng x1
  have rg_x2 := i_rng x2
  have rg_x3 := i_rng x3
  by_cases hd : 0 ≤ x1.toInt ∧ x1.toInt ≤ 5
  · obtain ⟨sh, ce, hf, hP, hD⟩ := shx hfx hP hD hd
    refine lv_aload_n hx hb dL_law_1144 rfl (lv_at hl 2 rfl) ?_
    refine lv_aload_n hx hb dL_law_1145 rfl (lv_at hl 3 rfl) ?_
    refine lv_iload_n hx hb dL_law_1146 rfl (lv_at hl 0 rfl) ?_
    refine lv_iconst (v := 1) hx hb dL_law_1147 (by decide) ?_
    refine lv_iadd hx hb dL_law_1148 ?_
    refine top_i (y := 1) (by decide) ?_
    refine va_sld hx hb hX hbl hbA hS (i_in (a := 1) (by decide) (by omega) (by omega)) dL_law_1149 ?_
    refine top_i (y := x1) e1.symm ?_
    refine lv_aload_n hx hb dL_law_1150 rfl (lv_at hl 3 rfl) ?_
    refine lv_iload_n hx hb dL_law_1151 rfl (lv_at hl 0 rfl) ?_
    refine lv_iconst (v := 2) hx hb dL_law_1152 (by decide) ?_
    refine lv_iadd hx hb dL_law_1153 ?_
    refine top_i (y := 2) (by decide) ?_
    refine va_sld hx hb hX hbl hbA hS (i_in (a := 2) (by decide) (by omega) (by omega)) dL_law_1154 ?_
    refine top_i (y := x2) e2.symm ?_
    refine lv_aload_n hx hb dL_law_1155 rfl (lv_at hl 3 rfl) ?_
    refine lv_iload_n hx hb dL_law_1156 rfl (lv_at hl 0 rfl) ?_
    refine lv_iconst (v := 3) hx hb dL_law_1157 (by decide) ?_
    refine lv_iadd hx hb dL_law_1158 ?_
    refine top_i (y := 3) (by decide) ?_
    refine va_sld hx hb hX hbl hbA hS (i_in (a := 3) (by decide) (by omega) (by omega)) dL_law_1159 ?_
    refine top_i (y := x3) e3.symm ?_
    refine gw_i (wc := [((a 0), .inr (11, [.ref (a 1), .ref (a 6), .ref (a 10), .ref (a 15), .ref (a 17), .ref (a 22), .ref (a 23), .ref (a 30), .ref (a 31), .ref (a 34), .int 0, .ref (a 37), .ref (a 40)])), ((a 40), .inl (J.2.2.2, 6, .inr (.inr (.inr (.inr f))))), (sh, .inr (9, [.ref ce, .int 0, .int 0, .int 0, .int 0])), (ce, .inl (J.2.2.1, 60, .inr (.inl (fun _ => 0))))]) (wr := [((bb 0), .inr (12, [.ref (bb 1), .ref (bb 2), .ref (bb 3), .ref (bb 4), .int 0, .int 0, .int 0, .int 0, .ref (bb 9), .ref (bb 10), .int 0, .ref (bb 12), .int (-1), .int 0, .int 0, .int 0, .int 0, .int 0, .ref (bb 19), .ref (bb 20), .ref (bb 21), .ref (bb 22), .ref (bb 23), .long 0, .long 0, .long 0, .ref (bb 27), .ref (bb 28), .ref (bb 29), .long 0, .int 0, .int (-1), .int 0, .int 0, .int 0, .ref (bb 36), .int 0, .int 0, .ref (bb 39), .ref (bb 40), .int 0, .ref (bb 42), .ref (bb 43), .int 0, .int 0, .int 0, .ref (bb 47), .ref (bb 48), .ref (bb 49), .ref (bb 50)])), ((bb 1), .inl (J.2.1, 22, .inl (upd (fun _ => 0) (20 : Int32).toNatClampNeg 1))), ((bb 2), .inl (J.2.1, 40, .inl (fun _ => 0))), ((bb 3), .inl (J.2.1, 40, .inl (fun _ => 0))), ((bb 4), .inl (J.2.1, 40, .inl (fun _ => 0))), ((bb 10), .inl (J.2.1, 120, .inl (fun _ => 0))), ((bb 21), .inl (J.2.1, 7168, .inl (fun _ => 0))), ((bb 39), .inl (J.2.1, 5, .inl (fun _ => 0))), ((bb 40), .inl (J.2.1, 10, .inl (fun _ => 0))), ((bb 36), .inl (J.2.1, 10, .inl (fun _ => 0))), ((bb 42), .inl (J.2.1, 50, .inl (fun _ => 0))), ((bb 47), .inl (J.2.1, 6, .inl g)), ((bb 48), .inl (J.2.1, 6, .inl (fun _ => 0))), ((bb 49), .inl (J.2.2.1, 360, .inr (.inl (fun _ => 0))))]) hP hD hS hA [0, 1, 2, 3] [5, 6, 7, 8, 9, 10, 11, 12, 13, 14, 15, 16, 17, 18] rfl rfl (by decide) (by decide) (wn_V (As := [.int x1, .int x2, .int x3]) (rest := []) hx hb hml hown hts hK (c_row_in l J _ a f sh ce x1 x2 x3 ⟨by omega, by omega⟩ hf) kV_RL_156 (hP.sub (ws' := [((a 0), .inr (11, [.ref (a 1), .ref (a 6), .ref (a 10), .ref (a 15), .ref (a 17), .ref (a 22), .ref (a 23), .ref (a 30), .ref (a 31), .ref (a 34), .int 0, .ref (a 37), .ref (a 40)])), ((a 40), .inl (J.2.2.2, 6, .inr (.inr (.inr (.inr f))))), (sh, .inr (9, [.ref ce, .int 0, .int 0, .int 0, .int 0])), (ce, .inl (J.2.2.1, 60, .inr (.inl (fun _ => 0))))]) [0, 1, 2, 3] rfl) ((hD.sub (ws' := [((a 0), .inr (11, [.ref (a 1), .ref (a 6), .ref (a 10), .ref (a 15), .ref (a 17), .ref (a 22), .ref (a 23), .ref (a 30), .ref (a 31), .ref (a 34), .int 0, .ref (a 37), .ref (a 40)])), ((a 40), .inl (J.2.2.2, 6, .inr (.inr (.inr (.inr f))))), (sh, .inr (9, [.ref ce, .int 0, .int 0, .int 0, .int 0])), (ce, .inl (J.2.2.1, 60, .inr (.inl (fun _ => 0))))]) [0, 1, 2, 3] (by decide) rfl).weaken (fun _ _ _ _ => trivial)) rfl rfl rfl ⟨Nat.le_of_ble_eq_true rfl, Nat.le_of_ble_eq_true rfl⟩ rfl rfl rfl hl.1 rfl (Nat.le_of_ble_eq_true rfl) ⟨Nat.le_of_ble_eq_true rfl, Nat.le_of_ble_eq_true rfl⟩ dL_law_1160) (fun r2 u1 H locs hw hP hD hS => ?_)
    subst hw
    have hP : va_P J.1 cls [((bb 0), .inr (12, [.ref (bb 1), .ref (bb 2), .ref (bb 3), .ref (bb 4), .int 0, .int 0, .int 0, .int 0, .ref (bb 9), .ref (bb 10), .int 0, .ref (bb 12), .int (-1), .int 0, .int 0, .int 0, .int 0, .int 0, .ref (bb 19), .ref (bb 20), .ref (bb 21), .ref (bb 22), .ref (bb 23), .long 0, .long 0, .long 0, .ref (bb 27), .ref (bb 28), .ref (bb 29), .long 0, .int 0, .int (-1), .int 0, .int 0, .int 0, .ref (bb 36), .int 0, .int 0, .ref (bb 39), .ref (bb 40), .int 0, .ref (bb 42), .ref (bb 43), .int 0, .int 0, .int 0, .ref (bb 47), .ref (bb 48), .ref (bb 49), .ref (bb 50)])), ((bb 1), .inl (J.2.1, 22, .inl (upd (fun _ => 0) (20 : Int32).toNatClampNeg 1))), ((bb 2), .inl (J.2.1, 40, .inl (fun _ => 0))), ((bb 3), .inl (J.2.1, 40, .inl (fun _ => 0))), ((bb 4), .inl (J.2.1, 40, .inl (fun _ => 0))), ((bb 10), .inl (J.2.1, 120, .inl (fun _ => 0))), ((bb 21), .inl (J.2.1, 7168, .inl (fun _ => 0))), ((bb 39), .inl (J.2.1, 5, .inl (fun _ => 0))), ((bb 40), .inl (J.2.1, 10, .inl (fun _ => 0))), ((bb 36), .inl (J.2.1, 10, .inl (fun _ => 0))), ((bb 42), .inl (J.2.1, 50, .inl (fun _ => 0))), ((bb 47), .inl (J.2.1, 6, .inl g)), ((bb 48), .inl (J.2.1, 6, .inl (fun _ => 0))), ((bb 49), .inl (J.2.2.1, 360, .inr (.inl (fun _ => 0))))] H := hP
    have hD : va_D A [((bb 0), .inr (12, [.ref (bb 1), .ref (bb 2), .ref (bb 3), .ref (bb 4), .int 0, .int 0, .int 0, .int 0, .ref (bb 9), .ref (bb 10), .int 0, .ref (bb 12), .int (-1), .int 0, .int 0, .int 0, .int 0, .int 0, .ref (bb 19), .ref (bb 20), .ref (bb 21), .ref (bb 22), .ref (bb 23), .long 0, .long 0, .long 0, .ref (bb 27), .ref (bb 28), .ref (bb 29), .long 0, .int 0, .int (-1), .int 0, .int 0, .int 0, .ref (bb 36), .int 0, .int 0, .ref (bb 39), .ref (bb 40), .int 0, .ref (bb 42), .ref (bb 43), .int 0, .int 0, .int 0, .ref (bb 47), .ref (bb 48), .ref (bb 49), .ref (bb 50)])), ((bb 1), .inl (J.2.1, 22, .inl (upd (fun _ => 0) (20 : Int32).toNatClampNeg 1))), ((bb 2), .inl (J.2.1, 40, .inl (fun _ => 0))), ((bb 3), .inl (J.2.1, 40, .inl (fun _ => 0))), ((bb 4), .inl (J.2.1, 40, .inl (fun _ => 0))), ((bb 10), .inl (J.2.1, 120, .inl (fun _ => 0))), ((bb 21), .inl (J.2.1, 7168, .inl (fun _ => 0))), ((bb 39), .inl (J.2.1, 5, .inl (fun _ => 0))), ((bb 40), .inl (J.2.1, 10, .inl (fun _ => 0))), ((bb 36), .inl (J.2.1, 10, .inl (fun _ => 0))), ((bb 42), .inl (J.2.1, 50, .inl (fun _ => 0))), ((bb 47), .inl (J.2.1, 6, .inl g)), ((bb 48), .inl (J.2.1, 6, .inl (fun _ => 0))), ((bb 49), .inl (J.2.2.1, 360, .inr (.inl (fun _ => 0))))] := hD
    refine W.widen (k := 600000) (n := 7302250) (Nat.le_of_ble_eq_true rfl) (Nat.le_of_ble_eq_true rfl) ?_
    refine lv_aload_n hx hb dL_law_1163 rfl (lv_at hl 1 rfl) ?_
    refine lv_aload_n hx hb dL_law_1164 rfl (lv_at hl 3 rfl) ?_
    refine lv_iload_n hx hb dL_law_1165 rfl (lv_at hl 0 rfl) ?_
    refine lv_iconst (v := 1) hx hb dL_law_1166 (by decide) ?_
    refine lv_iadd hx hb dL_law_1167 ?_
    refine top_i (y := 1) (by decide) ?_
    refine va_sld hx hb hX hbl hbA hS (i_in (a := 1) (by decide) (by omega) (by omega)) dL_law_1168 ?_
    refine top_i (y := x1) e1.symm ?_
    refine lv_aload_n hx hb dL_law_1169 rfl (lv_at hl 3 rfl) ?_
    refine lv_iload_n hx hb dL_law_1170 rfl (lv_at hl 0 rfl) ?_
    refine lv_iconst (v := 2) hx hb dL_law_1171 (by decide) ?_
    refine lv_iadd hx hb dL_law_1172 ?_
    refine top_i (y := 2) (by decide) ?_
    refine va_sld hx hb hX hbl hbA hS (i_in (a := 2) (by decide) (by omega) (by omega)) dL_law_1173 ?_
    refine top_i (y := x2) e2.symm ?_
    refine lv_aload_n hx hb dL_law_1174 rfl (lv_at hl 3 rfl) ?_
    refine lv_iload_n hx hb dL_law_1175 rfl (lv_at hl 0 rfl) ?_
    refine lv_iconst (v := 3) hx hb dL_law_1176 (by decide) ?_
    refine lv_iadd hx hb dL_law_1177 ?_
    refine top_i (y := 3) (by decide) ?_
    refine va_sld hx hb hX hbl hbA hS (i_in (a := 3) (by decide) (by omega) (by omega)) dL_law_1178 ?_
    refine top_i (y := x3) e3.symm ?_
    refine gw_i (wc := [((bb 0), .inr (12, [.ref (bb 1), .ref (bb 2), .ref (bb 3), .ref (bb 4), .int 0, .int 0, .int 0, .int 0, .ref (bb 9), .ref (bb 10), .int 0, .ref (bb 12), .int (-1), .int 0, .int 0, .int 0, .int 0, .int 0, .ref (bb 19), .ref (bb 20), .ref (bb 21), .ref (bb 22), .ref (bb 23), .long 0, .long 0, .long 0, .ref (bb 27), .ref (bb 28), .ref (bb 29), .long 0, .int 0, .int (-1), .int 0, .int 0, .int 0, .ref (bb 36), .int 0, .int 0, .ref (bb 39), .ref (bb 40), .int 0, .ref (bb 42), .ref (bb 43), .int 0, .int 0, .int 0, .ref (bb 47), .ref (bb 48), .ref (bb 49), .ref (bb 50)])), ((bb 47), .inl (J.2.1, 6, .inl g)), ((bb 48), .inl (J.2.1, 6, .inl (fun _ => 0))), ((bb 49), .inl (J.2.2.1, 360, .inr (.inl (fun _ => 0))))]) (wr := [((bb 1), .inl (J.2.1, 22, .inl (upd (fun _ => 0) (20 : Int32).toNatClampNeg 1))), ((bb 2), .inl (J.2.1, 40, .inl (fun _ => 0))), ((bb 3), .inl (J.2.1, 40, .inl (fun _ => 0))), ((bb 4), .inl (J.2.1, 40, .inl (fun _ => 0))), ((bb 10), .inl (J.2.1, 120, .inl (fun _ => 0))), ((bb 21), .inl (J.2.1, 7168, .inl (fun _ => 0))), ((bb 39), .inl (J.2.1, 5, .inl (fun _ => 0))), ((bb 40), .inl (J.2.1, 10, .inl (fun _ => 0))), ((bb 36), .inl (J.2.1, 10, .inl (fun _ => 0))), ((bb 42), .inl (J.2.1, 50, .inl (fun _ => 0)))]) hP hD hS hA [0, 11, 12, 13] [1, 2, 3, 4, 5, 6, 7, 8, 9, 10] rfl rfl (by decide) (by decide) (wn_V (As := [.int x1, .int x2, .int x3]) (rest := [.int (sp_row (x1.toInt) (x2.toInt) (x3.toInt))]) hx hb hml hown hts hK (m_row l J _ bb g x1 x2 x3 hg) kV_RL_159 (hP.sub (ws' := [((bb 0), .inr (12, [.ref (bb 1), .ref (bb 2), .ref (bb 3), .ref (bb 4), .int 0, .int 0, .int 0, .int 0, .ref (bb 9), .ref (bb 10), .int 0, .ref (bb 12), .int (-1), .int 0, .int 0, .int 0, .int 0, .int 0, .ref (bb 19), .ref (bb 20), .ref (bb 21), .ref (bb 22), .ref (bb 23), .long 0, .long 0, .long 0, .ref (bb 27), .ref (bb 28), .ref (bb 29), .long 0, .int 0, .int (-1), .int 0, .int 0, .int 0, .ref (bb 36), .int 0, .int 0, .ref (bb 39), .ref (bb 40), .int 0, .ref (bb 42), .ref (bb 43), .int 0, .int 0, .int 0, .ref (bb 47), .ref (bb 48), .ref (bb 49), .ref (bb 50)])), ((bb 47), .inl (J.2.1, 6, .inl g)), ((bb 48), .inl (J.2.1, 6, .inl (fun _ => 0))), ((bb 49), .inl (J.2.2.1, 360, .inr (.inl (fun _ => 0))))]) [0, 11, 12, 13] rfl) ((hD.sub (ws' := [((bb 0), .inr (12, [.ref (bb 1), .ref (bb 2), .ref (bb 3), .ref (bb 4), .int 0, .int 0, .int 0, .int 0, .ref (bb 9), .ref (bb 10), .int 0, .ref (bb 12), .int (-1), .int 0, .int 0, .int 0, .int 0, .int 0, .ref (bb 19), .ref (bb 20), .ref (bb 21), .ref (bb 22), .ref (bb 23), .long 0, .long 0, .long 0, .ref (bb 27), .ref (bb 28), .ref (bb 29), .long 0, .int 0, .int (-1), .int 0, .int 0, .int 0, .ref (bb 36), .int 0, .int 0, .ref (bb 39), .ref (bb 40), .int 0, .ref (bb 42), .ref (bb 43), .int 0, .int 0, .int 0, .ref (bb 47), .ref (bb 48), .ref (bb 49), .ref (bb 50)])), ((bb 47), .inl (J.2.1, 6, .inl g)), ((bb 48), .inl (J.2.1, 6, .inl (fun _ => 0))), ((bb 49), .inl (J.2.2.1, 360, .inr (.inl (fun _ => 0))))]) [0, 11, 12, 13] (by decide) rfl).weaken (fun _ _ _ _ => trivial)) rfl rfl rfl ⟨Nat.le_of_ble_eq_true rfl, Nat.le_of_ble_eq_true rfl⟩ rfl rfl rfl hl.1 rfl (Nat.le_of_ble_eq_true rfl) ⟨Nat.le_of_ble_eq_true rfl, Nat.le_of_ble_eq_true rfl⟩ dL_law_1179) (fun r4 u3 H locs hw hP hD hS => ?_)
    subst hw
    have hP : va_P J.1 cls [((bb 1), .inl (J.2.1, 22, .inl (upd (fun _ => 0) (20 : Int32).toNatClampNeg 1))), ((bb 2), .inl (J.2.1, 40, .inl (fun _ => 0))), ((bb 3), .inl (J.2.1, 40, .inl (fun _ => 0))), ((bb 4), .inl (J.2.1, 40, .inl (fun _ => 0))), ((bb 10), .inl (J.2.1, 120, .inl (fun _ => 0))), ((bb 21), .inl (J.2.1, 7168, .inl (fun _ => 0))), ((bb 39), .inl (J.2.1, 5, .inl (fun _ => 0))), ((bb 40), .inl (J.2.1, 10, .inl (fun _ => 0))), ((bb 36), .inl (J.2.1, 10, .inl (fun _ => 0))), ((bb 42), .inl (J.2.1, 50, .inl (fun _ => 0)))] H := hP
    have hD : va_D A [((bb 1), .inl (J.2.1, 22, .inl (upd (fun _ => 0) (20 : Int32).toNatClampNeg 1))), ((bb 2), .inl (J.2.1, 40, .inl (fun _ => 0))), ((bb 3), .inl (J.2.1, 40, .inl (fun _ => 0))), ((bb 4), .inl (J.2.1, 40, .inl (fun _ => 0))), ((bb 10), .inl (J.2.1, 120, .inl (fun _ => 0))), ((bb 21), .inl (J.2.1, 7168, .inl (fun _ => 0))), ((bb 39), .inl (J.2.1, 5, .inl (fun _ => 0))), ((bb 40), .inl (J.2.1, 10, .inl (fun _ => 0))), ((bb 36), .inl (J.2.1, 10, .inl (fun _ => 0))), ((bb 42), .inl (J.2.1, 50, .inl (fun _ => 0)))] := hD
    refine W.widen (k := 600000) (n := 7302250) (Nat.le_of_ble_eq_true rfl) (Nat.le_of_ble_eq_true rfl) ?_
    refine lv_icmp_eq (tgt := 1413) hx hb dL_law_1182 (by decide) (fun _ => ?_) (fun c => absurd rfl c)
    exact law_end E0 hS (lv_sub hl [0, 1, 2, 3] rfl)
  · refine lv_aload_n hx hb dL_law_1144 rfl (lv_at hl 2 rfl) ?_
    refine lv_aload_n hx hb dL_law_1145 rfl (lv_at hl 3 rfl) ?_
    refine lv_iload_n hx hb dL_law_1146 rfl (lv_at hl 0 rfl) ?_
    refine lv_iconst (v := 1) hx hb dL_law_1147 (by decide) ?_
    refine lv_iadd hx hb dL_law_1148 ?_
    refine top_i (y := 1) (by decide) ?_
    refine va_sld hx hb hX hbl hbA hS (i_in (a := 1) (by decide) (by omega) (by omega)) dL_law_1149 ?_
    refine top_i (y := x1) e1.symm ?_
    refine lv_aload_n hx hb dL_law_1150 rfl (lv_at hl 3 rfl) ?_
    refine lv_iload_n hx hb dL_law_1151 rfl (lv_at hl 0 rfl) ?_
    refine lv_iconst (v := 2) hx hb dL_law_1152 (by decide) ?_
    refine lv_iadd hx hb dL_law_1153 ?_
    refine top_i (y := 2) (by decide) ?_
    refine va_sld hx hb hX hbl hbA hS (i_in (a := 2) (by decide) (by omega) (by omega)) dL_law_1154 ?_
    refine top_i (y := x2) e2.symm ?_
    refine lv_aload_n hx hb dL_law_1155 rfl (lv_at hl 3 rfl) ?_
    refine lv_iload_n hx hb dL_law_1156 rfl (lv_at hl 0 rfl) ?_
    refine lv_iconst (v := 3) hx hb dL_law_1157 (by decide) ?_
    refine lv_iadd hx hb dL_law_1158 ?_
    refine top_i (y := 3) (by decide) ?_
    refine va_sld hx hb hX hbl hbA hS (i_in (a := 3) (by decide) (by omega) (by omega)) dL_law_1159 ?_
    refine top_i (y := x3) e3.symm ?_
    refine go_i (rn_V (As := [.int x1, .int x2, .int x3]) (rest := []) hx hb hml hown hts hK (c_row_out l J a x1 x2 x3 (by omega)) kV_RL_156 (hP.sub (ws' := [((a 0), .inr (11, [.ref (a 1), .ref (a 6), .ref (a 10), .ref (a 15), .ref (a 17), .ref (a 22), .ref (a 23), .ref (a 30), .ref (a 31), .ref (a 34), .int 0, .ref (a 37), .ref (a 40)]))]) [0] rfl) rfl rfl rfl ⟨Nat.le_of_ble_eq_true rfl, Nat.le_of_ble_eq_true rfl⟩ rfl rfl rfl hl.1 rfl (Nat.le_of_ble_eq_true rfl) ⟨Nat.le_of_ble_eq_true rfl, Nat.le_of_ble_eq_true rfl⟩ dL_law_1160) ?_
    refine lv_aload_n hx hb dL_law_1163 rfl (lv_at hl 1 rfl) ?_
    refine lv_aload_n hx hb dL_law_1164 rfl (lv_at hl 3 rfl) ?_
    refine lv_iload_n hx hb dL_law_1165 rfl (lv_at hl 0 rfl) ?_
    refine lv_iconst (v := 1) hx hb dL_law_1166 (by decide) ?_
    refine lv_iadd hx hb dL_law_1167 ?_
    refine top_i (y := 1) (by decide) ?_
    refine va_sld hx hb hX hbl hbA hS (i_in (a := 1) (by decide) (by omega) (by omega)) dL_law_1168 ?_
    refine top_i (y := x1) e1.symm ?_
    refine lv_aload_n hx hb dL_law_1169 rfl (lv_at hl 3 rfl) ?_
    refine lv_iload_n hx hb dL_law_1170 rfl (lv_at hl 0 rfl) ?_
    refine lv_iconst (v := 2) hx hb dL_law_1171 (by decide) ?_
    refine lv_iadd hx hb dL_law_1172 ?_
    refine top_i (y := 2) (by decide) ?_
    refine va_sld hx hb hX hbl hbA hS (i_in (a := 2) (by decide) (by omega) (by omega)) dL_law_1173 ?_
    refine top_i (y := x2) e2.symm ?_
    refine lv_aload_n hx hb dL_law_1174 rfl (lv_at hl 3 rfl) ?_
    refine lv_iload_n hx hb dL_law_1175 rfl (lv_at hl 0 rfl) ?_
    refine lv_iconst (v := 3) hx hb dL_law_1176 (by decide) ?_
    refine lv_iadd hx hb dL_law_1177 ?_
    refine top_i (y := 3) (by decide) ?_
    refine va_sld hx hb hX hbl hbA hS (i_in (a := 3) (by decide) (by omega) (by omega)) dL_law_1178 ?_
    refine top_i (y := x3) e3.symm ?_
    refine gw_i (wc := [((bb 0), .inr (12, [.ref (bb 1), .ref (bb 2), .ref (bb 3), .ref (bb 4), .int 0, .int 0, .int 0, .int 0, .ref (bb 9), .ref (bb 10), .int 0, .ref (bb 12), .int (-1), .int 0, .int 0, .int 0, .int 0, .int 0, .ref (bb 19), .ref (bb 20), .ref (bb 21), .ref (bb 22), .ref (bb 23), .long 0, .long 0, .long 0, .ref (bb 27), .ref (bb 28), .ref (bb 29), .long 0, .int 0, .int (-1), .int 0, .int 0, .int 0, .ref (bb 36), .int 0, .int 0, .ref (bb 39), .ref (bb 40), .int 0, .ref (bb 42), .ref (bb 43), .int 0, .int 0, .int 0, .ref (bb 47), .ref (bb 48), .ref (bb 49), .ref (bb 50)])), ((bb 47), .inl (J.2.1, 6, .inl g)), ((bb 48), .inl (J.2.1, 6, .inl (fun _ => 0))), ((bb 49), .inl (J.2.2.1, 360, .inr (.inl (fun _ => 0))))]) (wr := [((bb 1), .inl (J.2.1, 22, .inl (upd (fun _ => 0) (20 : Int32).toNatClampNeg 1))), ((bb 2), .inl (J.2.1, 40, .inl (fun _ => 0))), ((bb 3), .inl (J.2.1, 40, .inl (fun _ => 0))), ((bb 4), .inl (J.2.1, 40, .inl (fun _ => 0))), ((bb 10), .inl (J.2.1, 120, .inl (fun _ => 0))), ((bb 21), .inl (J.2.1, 7168, .inl (fun _ => 0))), ((bb 39), .inl (J.2.1, 5, .inl (fun _ => 0))), ((bb 40), .inl (J.2.1, 10, .inl (fun _ => 0))), ((bb 36), .inl (J.2.1, 10, .inl (fun _ => 0))), ((bb 42), .inl (J.2.1, 50, .inl (fun _ => 0)))]) hP hD hS hA [39, 50, 51, 52] [40, 41, 42, 43, 44, 45, 46, 47, 48, 49] rfl rfl (by decide) (by decide) (wn_V (As := [.int x1, .int x2, .int x3]) (rest := [.int (sp_row (x1.toInt) (x2.toInt) (x3.toInt))]) hx hb hml hown hts hK (m_row l J _ bb g x1 x2 x3 hg) kV_RL_159 (hP.sub (ws' := [((bb 0), .inr (12, [.ref (bb 1), .ref (bb 2), .ref (bb 3), .ref (bb 4), .int 0, .int 0, .int 0, .int 0, .ref (bb 9), .ref (bb 10), .int 0, .ref (bb 12), .int (-1), .int 0, .int 0, .int 0, .int 0, .int 0, .ref (bb 19), .ref (bb 20), .ref (bb 21), .ref (bb 22), .ref (bb 23), .long 0, .long 0, .long 0, .ref (bb 27), .ref (bb 28), .ref (bb 29), .long 0, .int 0, .int (-1), .int 0, .int 0, .int 0, .ref (bb 36), .int 0, .int 0, .ref (bb 39), .ref (bb 40), .int 0, .ref (bb 42), .ref (bb 43), .int 0, .int 0, .int 0, .ref (bb 47), .ref (bb 48), .ref (bb 49), .ref (bb 50)])), ((bb 47), .inl (J.2.1, 6, .inl g)), ((bb 48), .inl (J.2.1, 6, .inl (fun _ => 0))), ((bb 49), .inl (J.2.2.1, 360, .inr (.inl (fun _ => 0))))]) [39, 50, 51, 52] rfl) ((hD.sub (ws' := [((bb 0), .inr (12, [.ref (bb 1), .ref (bb 2), .ref (bb 3), .ref (bb 4), .int 0, .int 0, .int 0, .int 0, .ref (bb 9), .ref (bb 10), .int 0, .ref (bb 12), .int (-1), .int 0, .int 0, .int 0, .int 0, .int 0, .ref (bb 19), .ref (bb 20), .ref (bb 21), .ref (bb 22), .ref (bb 23), .long 0, .long 0, .long 0, .ref (bb 27), .ref (bb 28), .ref (bb 29), .long 0, .int 0, .int (-1), .int 0, .int 0, .int 0, .ref (bb 36), .int 0, .int 0, .ref (bb 39), .ref (bb 40), .int 0, .ref (bb 42), .ref (bb 43), .int 0, .int 0, .int 0, .ref (bb 47), .ref (bb 48), .ref (bb 49), .ref (bb 50)])), ((bb 47), .inl (J.2.1, 6, .inl g)), ((bb 48), .inl (J.2.1, 6, .inl (fun _ => 0))), ((bb 49), .inl (J.2.2.1, 360, .inr (.inl (fun _ => 0))))]) [39, 50, 51, 52] (by decide) rfl).weaken (fun _ _ _ _ => trivial)) rfl rfl rfl ⟨Nat.le_of_ble_eq_true rfl, Nat.le_of_ble_eq_true rfl⟩ rfl rfl rfl hl.1 rfl (Nat.le_of_ble_eq_true rfl) ⟨Nat.le_of_ble_eq_true rfl, Nat.le_of_ble_eq_true rfl⟩ dL_law_1179) (fun r6 u5 H locs hw hP hD hS => ?_)
    subst hw
    have hP : va_P J.1 cls [((bb 1), .inl (J.2.1, 22, .inl (upd (fun _ => 0) (20 : Int32).toNatClampNeg 1))), ((bb 2), .inl (J.2.1, 40, .inl (fun _ => 0))), ((bb 3), .inl (J.2.1, 40, .inl (fun _ => 0))), ((bb 4), .inl (J.2.1, 40, .inl (fun _ => 0))), ((bb 10), .inl (J.2.1, 120, .inl (fun _ => 0))), ((bb 21), .inl (J.2.1, 7168, .inl (fun _ => 0))), ((bb 39), .inl (J.2.1, 5, .inl (fun _ => 0))), ((bb 40), .inl (J.2.1, 10, .inl (fun _ => 0))), ((bb 36), .inl (J.2.1, 10, .inl (fun _ => 0))), ((bb 42), .inl (J.2.1, 50, .inl (fun _ => 0)))] H := hP
    have hD : va_D A [((bb 1), .inl (J.2.1, 22, .inl (upd (fun _ => 0) (20 : Int32).toNatClampNeg 1))), ((bb 2), .inl (J.2.1, 40, .inl (fun _ => 0))), ((bb 3), .inl (J.2.1, 40, .inl (fun _ => 0))), ((bb 4), .inl (J.2.1, 40, .inl (fun _ => 0))), ((bb 10), .inl (J.2.1, 120, .inl (fun _ => 0))), ((bb 21), .inl (J.2.1, 7168, .inl (fun _ => 0))), ((bb 39), .inl (J.2.1, 5, .inl (fun _ => 0))), ((bb 40), .inl (J.2.1, 10, .inl (fun _ => 0))), ((bb 36), .inl (J.2.1, 10, .inl (fun _ => 0))), ((bb 42), .inl (J.2.1, 50, .inl (fun _ => 0)))] := hD
    refine W.widen (k := 600000) (n := 7302250) (Nat.le_of_ble_eq_true rfl) (Nat.le_of_ble_eq_true rfl) ?_
    refine lv_icmp_eq (tgt := 1413) hx hb dL_law_1182 (by decide) (fun _ => ?_) (fun c => absurd rfl c)
    exact law_end E0 hS (lv_sub hl [0, 1, 2, 3] rfl)
theorem dL_law_1187 : decode cL_law 1187 = .ok (.aload_n 1, 1) := by decide +kernel
theorem dL_law_1188 : decode cL_law 1188 = .ok (.aload_n 0, 1) := by decide +kernel
theorem dL_law_1189 : decode cL_law 1189 = .ok (.iload_n 3, 1) := by decide +kernel
theorem dL_law_1190 : decode cL_law 1190 = .ok (.iconst 1, 1) := by decide +kernel
theorem dL_law_1191 : decode cL_law 1191 = .ok (.iadd, 1) := by decide +kernel
theorem dL_law_1192 : decode cL_law 1192 = .ok (.iaload, 1) := by decide +kernel
theorem dL_law_1193 : decode cL_law 1193 = .ok (.aload_n 0, 1) := by decide +kernel
theorem dL_law_1194 : decode cL_law 1194 = .ok (.iload_n 3, 1) := by decide +kernel
theorem dL_law_1195 : decode cL_law 1195 = .ok (.iconst 2, 1) := by decide +kernel
theorem dL_law_1196 : decode cL_law 1196 = .ok (.iadd, 1) := by decide +kernel
theorem dL_law_1197 : decode cL_law 1197 = .ok (.iaload, 1) := by decide +kernel
theorem dL_law_1198 : decode cL_law 1198 = .ok (.aload_n 0, 1) := by decide +kernel
theorem dL_law_1199 : decode cL_law 1199 = .ok (.iload_n 3, 1) := by decide +kernel
theorem dL_law_1200 : decode cL_law 1200 = .ok (.iconst 3, 1) := by decide +kernel
theorem dL_law_1201 : decode cL_law 1201 = .ok (.iadd, 1) := by decide +kernel
theorem dL_law_1202 : decode cL_law 1202 = .ok (.iaload, 1) := by decide +kernel
theorem dL_law_1203 : decode cL_law 1203 = .ok (.i2l, 1) := by decide +kernel
theorem dL_law_1204 : decode cL_law 1204 = .ok (.bipush 32, 2) := by decide +kernel
theorem dL_law_1206 : decode cL_law 1206 = .ok (.lshl, 1) := by decide +kernel
theorem dL_law_1207 : decode cL_law 1207 = .ok (.aload_n 0, 1) := by decide +kernel
theorem dL_law_1208 : decode cL_law 1208 = .ok (.iload_n 3, 1) := by decide +kernel
theorem dL_law_1209 : decode cL_law 1209 = .ok (.iconst 4, 1) := by decide +kernel
theorem dL_law_1210 : decode cL_law 1210 = .ok (.iadd, 1) := by decide +kernel
theorem dL_law_1211 : decode cL_law 1211 = .ok (.iaload, 1) := by decide +kernel
theorem dL_law_1212 : decode cL_law 1212 = .ok (.i2l, 1) := by decide +kernel
theorem q_1840 : Cond.constantLong RL 160 4294967295 ∈ lw_g := mem_q 1840 (by decide +kernel) rfl
theorem dL_law_1213 : decode cL_law 1213 = .ok (.ldc2_w 160, 3) := by decide +kernel
theorem dL_law_1216 : decode cL_law 1216 = .ok (.land, 1) := by decide +kernel
theorem dL_law_1217 : decode cL_law 1217 = .ok (.lor, 1) := by decide +kernel
theorem q_1211 : Cond.methodLink RL 162 yX11_put ∈ lw_g := mem_q 1211 (by decide +kernel) rfl
theorem q_1212 : Cond.instanceMethod yX11_put ∈ lw_g := mem_q 1212 (by decide +kernel) rfl
theorem q_1213 : Cond.selects RX11 yX11_put yX11_put ∈ lw_g := mem_q 1213 (by decide +kernel) rfl
theorem q_1214 : Cond.code yX11_put cX11_put 7 (some .int) ∈ lw_g := mem_q 1214 (by decide +kernel) rfl
theorem kV_RL_162 : CV RL 162 RX11 yX11_put cX11_put 7 (some .int) 3 := cv_of q_1211 q_1212 q_1213 q_103 q_1214 (by decide +kernel)
theorem dL_law_1218 : decode cL_law 1218 = .ok (.invokevirtual 162, 3) := by decide +kernel
theorem dL_law_1221 : decode cL_law 1221 = .ok (.aload_n 2, 1) := by decide +kernel
theorem dL_law_1222 : decode cL_law 1222 = .ok (.aload_n 0, 1) := by decide +kernel
theorem dL_law_1223 : decode cL_law 1223 = .ok (.iload_n 3, 1) := by decide +kernel
theorem dL_law_1224 : decode cL_law 1224 = .ok (.iconst 1, 1) := by decide +kernel
theorem dL_law_1225 : decode cL_law 1225 = .ok (.iadd, 1) := by decide +kernel
theorem dL_law_1226 : decode cL_law 1226 = .ok (.iaload, 1) := by decide +kernel
theorem dL_law_1227 : decode cL_law 1227 = .ok (.aload_n 0, 1) := by decide +kernel
theorem dL_law_1228 : decode cL_law 1228 = .ok (.iload_n 3, 1) := by decide +kernel
theorem dL_law_1229 : decode cL_law 1229 = .ok (.iconst 2, 1) := by decide +kernel
theorem dL_law_1230 : decode cL_law 1230 = .ok (.iadd, 1) := by decide +kernel
theorem dL_law_1231 : decode cL_law 1231 = .ok (.iaload, 1) := by decide +kernel
theorem dL_law_1232 : decode cL_law 1232 = .ok (.aload_n 0, 1) := by decide +kernel
theorem dL_law_1233 : decode cL_law 1233 = .ok (.iload_n 3, 1) := by decide +kernel
theorem dL_law_1234 : decode cL_law 1234 = .ok (.iconst 3, 1) := by decide +kernel
theorem dL_law_1235 : decode cL_law 1235 = .ok (.iadd, 1) := by decide +kernel
theorem dL_law_1236 : decode cL_law 1236 = .ok (.iaload, 1) := by decide +kernel
theorem dL_law_1237 : decode cL_law 1237 = .ok (.i2l, 1) := by decide +kernel
theorem dL_law_1238 : decode cL_law 1238 = .ok (.bipush 32, 2) := by decide +kernel
theorem dL_law_1240 : decode cL_law 1240 = .ok (.lshl, 1) := by decide +kernel
theorem dL_law_1241 : decode cL_law 1241 = .ok (.aload_n 0, 1) := by decide +kernel
theorem dL_law_1242 : decode cL_law 1242 = .ok (.iload_n 3, 1) := by decide +kernel
theorem dL_law_1243 : decode cL_law 1243 = .ok (.iconst 4, 1) := by decide +kernel
theorem dL_law_1244 : decode cL_law 1244 = .ok (.iadd, 1) := by decide +kernel
theorem dL_law_1245 : decode cL_law 1245 = .ok (.iaload, 1) := by decide +kernel
theorem dL_law_1246 : decode cL_law 1246 = .ok (.i2l, 1) := by decide +kernel
theorem dL_law_1247 : decode cL_law 1247 = .ok (.ldc2_w 160, 3) := by decide +kernel
theorem dL_law_1250 : decode cL_law 1250 = .ok (.land, 1) := by decide +kernel
theorem dL_law_1251 : decode cL_law 1251 = .ok (.lor, 1) := by decide +kernel
theorem q_1806 : Cond.methodLink RL 166 yX12_put ∈ lw_g := mem_q 1806 (by decide +kernel) rfl
theorem q_1807 : Cond.instanceMethod yX12_put ∈ lw_g := mem_q 1807 (by decide +kernel) rfl
theorem q_1808 : Cond.selects RX12 yX12_put yX12_put ∈ lw_g := mem_q 1808 (by decide +kernel) rfl
theorem q_1809 : Cond.code yX12_put cX12_put 6 (some .int) ∈ lw_g := mem_q 1809 (by decide +kernel) rfl
theorem kV_RL_166 : CV RL 166 RX12 yX12_put cX12_put 6 (some .int) 3 := cv_of q_1806 q_1807 q_1808 q_115 q_1809 (by decide +kernel)
theorem dL_law_1252 : decode cL_law 1252 = .ok (.invokevirtual 166, 3) := by decide +kernel
theorem dL_law_1255 : decode cL_law 1255 = .ok (.if_icmp .eq 158, 3) := by decide +kernel
set_option maxHeartbeats 4000000 in
set_option maxRecDepth 100000 in
/-- put -/
theorem lk_35 {p : Program} {l : Launch} {e : Env} {s : State} {m : MethodId} {below : List Frame} {meth : Method} {c : Code} {b : Nat} {xs : Nat → Int32} {J : va_J9} {A : Nat → Prop} {H : Heap} {locs : List Loc} {ls : Array Slot} {a bb : Nat → Nat} {f : Nat → Option Nat} {g : Nat → Int32} (E0 : LE p s m meth c b 6 xs J A) (hfx : ∀ j, j < 6 → f j = some (a (41 + j))) (hg : ∀ k, k < 6 → g k = -1) (hP : va_P J.1 cls (xW J a f ++ mW J bb g) H) (hD : va_D A (xW J a f ++ mW J bb g)) (hS : va_S A s.heap H locs) (hl : lv_has ls 4 [(3, .int 0), (2, .ref (bb 0)), (1, .ref (a 0)), (0, .ref b)]) : W p l e room_1 s m #[Value.ref b] below meth c H locs 600000 7302250 (lw_Z below #[Value.ref b] s) (F0 m 1187 ls []) := by
  obtain ⟨hx, hb, hr, hml, hown, hts, hX, hbl, hlk, hK, hA, hAs⟩ := id E0
  have hbA : ¬ A b := fun h => absurd (hAs b h) (Nat.not_le.mpr hbl)
  obtain ⟨x1, e1⟩ : ∃ z : Int32, z = xs 1 := ⟨_, rfl⟩
  obtain ⟨x2, e2⟩ : ∃ z : Int32, z = xs 2 := ⟨_, rfl⟩
  obtain ⟨x3, e3⟩ : ∃ z : Int32, z = xs 3 := ⟨_, rfl⟩
  obtain ⟨x4, e4⟩ : ∃ z : Int32, z = xs 4 := ⟨_, rfl⟩
  have rg_x1 := i_rng x1
  have rg_x2 := i_rng x2
  have rg_x3 := i_rng x3
  have rg_x4 := i_rng x4
  by_cases hd : 0 ≤ x1.toInt ∧ x1.toInt ≤ 5
  · obtain ⟨sh, ce, hf, hP, hD⟩ := shx hfx hP hD hd
    refine lv_aload_n hx hb dL_law_1187 rfl (lv_at hl 2 rfl) ?_
    refine lv_aload_n hx hb dL_law_1188 rfl (lv_at hl 3 rfl) ?_
    refine lv_iload_n hx hb dL_law_1189 rfl (lv_at hl 0 rfl) ?_
    refine lv_iconst (v := 1) hx hb dL_law_1190 (by decide) ?_
    refine lv_iadd hx hb dL_law_1191 ?_
    refine top_i (y := 1) (by decide) ?_
    refine va_sld hx hb hX hbl hbA hS (i_in (a := 1) (by decide) (by omega) (by omega)) dL_law_1192 ?_
    refine top_i (y := x1) e1.symm ?_
    refine lv_aload_n hx hb dL_law_1193 rfl (lv_at hl 3 rfl) ?_
    refine lv_iload_n hx hb dL_law_1194 rfl (lv_at hl 0 rfl) ?_
    refine lv_iconst (v := 2) hx hb dL_law_1195 (by decide) ?_
    refine lv_iadd hx hb dL_law_1196 ?_
    refine top_i (y := 2) (by decide) ?_
    refine va_sld hx hb hX hbl hbA hS (i_in (a := 2) (by decide) (by omega) (by omega)) dL_law_1197 ?_
    refine top_i (y := x2) e2.symm ?_
    refine lv_aload_n hx hb dL_law_1198 rfl (lv_at hl 3 rfl) ?_
    refine lv_iload_n hx hb dL_law_1199 rfl (lv_at hl 0 rfl) ?_
    refine lv_iconst (v := 3) hx hb dL_law_1200 (by decide) ?_
    refine lv_iadd hx hb dL_law_1201 ?_
    refine top_i (y := 3) (by decide) ?_
    refine va_sld hx hb hX hbl hbA hS (i_in (a := 3) (by decide) (by omega) (by omega)) dL_law_1202 ?_
    refine top_i (y := x3) e3.symm ?_
    refine lv_i2l (v := x3.toInt64) hx hb dL_law_1203 rfl ?_
    refine lv_bipush (v := 32) hx hb dL_law_1204 (by decide) ?_
    refine lv_lshl (v := x3.toInt64 <<< ((32 : Int32).toInt64 &&& 63)) hx hb dL_law_1206 rfl ?_
    refine lv_aload_n hx hb dL_law_1207 rfl (lv_at hl 3 rfl) ?_
    refine lv_iload_n hx hb dL_law_1208 rfl (lv_at hl 0 rfl) ?_
    refine lv_iconst (v := 4) hx hb dL_law_1209 (by decide) ?_
    refine lv_iadd hx hb dL_law_1210 ?_
    refine top_i (y := 4) (by decide) ?_
    refine va_sld hx hb hX hbl hbA hS (i_in (a := 4) (by decide) (by omega) (by omega)) dL_law_1211 ?_
    refine top_i (y := x4) e4.symm ?_
    refine lv_i2l (v := x4.toInt64) hx hb dL_law_1212 rfl ?_
    refine lv_ldc2 (v := 4294967295) hx hb hown (hts _ q_1840) dL_law_1213 ?_
    refine lv_land hx hb dL_law_1216 ?_
    refine lv_lor hx hb dL_law_1217 ?_
    refine lv_topl (fun y1 ey1 => ?_)
    refine go_i (rn_V (As := [.int x1, .int x2, .long y1]) (rest := []) hx hb hml hown hts hK (c_put_in l J a f sh ce x1 x2 y1 ⟨by omega, by omega⟩ hf) kV_RL_162 (hP.sub (ws' := [((a 0), .inr (11, [.ref (a 1), .ref (a 6), .ref (a 10), .ref (a 15), .ref (a 17), .ref (a 22), .ref (a 23), .ref (a 30), .ref (a 31), .ref (a 34), .int 0, .ref (a 37), .ref (a 40)])), ((a 40), .inl (J.2.2.2, 6, .inr (.inr (.inr (.inr f))))), (sh, .inr (9, [.ref ce, .int 0, .int 0, .int 0, .int 0]))]) [0, 1, 2] rfl) rfl rfl rfl ⟨Nat.le_of_ble_eq_true rfl, Nat.le_of_ble_eq_true rfl⟩ rfl rfl rfl hl.1 rfl (Nat.le_of_ble_eq_true rfl) ⟨Nat.le_of_ble_eq_true rfl, Nat.le_of_ble_eq_true rfl⟩ dL_law_1218) ?_
    refine lv_aload_n hx hb dL_law_1221 rfl (lv_at hl 1 rfl) ?_
    refine lv_aload_n hx hb dL_law_1222 rfl (lv_at hl 3 rfl) ?_
    refine lv_iload_n hx hb dL_law_1223 rfl (lv_at hl 0 rfl) ?_
    refine lv_iconst (v := 1) hx hb dL_law_1224 (by decide) ?_
    refine lv_iadd hx hb dL_law_1225 ?_
    refine top_i (y := 1) (by decide) ?_
    refine va_sld hx hb hX hbl hbA hS (i_in (a := 1) (by decide) (by omega) (by omega)) dL_law_1226 ?_
    refine top_i (y := x1) e1.symm ?_
    refine lv_aload_n hx hb dL_law_1227 rfl (lv_at hl 3 rfl) ?_
    refine lv_iload_n hx hb dL_law_1228 rfl (lv_at hl 0 rfl) ?_
    refine lv_iconst (v := 2) hx hb dL_law_1229 (by decide) ?_
    refine lv_iadd hx hb dL_law_1230 ?_
    refine top_i (y := 2) (by decide) ?_
    refine va_sld hx hb hX hbl hbA hS (i_in (a := 2) (by decide) (by omega) (by omega)) dL_law_1231 ?_
    refine top_i (y := x2) e2.symm ?_
    refine lv_aload_n hx hb dL_law_1232 rfl (lv_at hl 3 rfl) ?_
    refine lv_iload_n hx hb dL_law_1233 rfl (lv_at hl 0 rfl) ?_
    refine lv_iconst (v := 3) hx hb dL_law_1234 (by decide) ?_
    refine lv_iadd hx hb dL_law_1235 ?_
    refine top_i (y := 3) (by decide) ?_
    refine va_sld hx hb hX hbl hbA hS (i_in (a := 3) (by decide) (by omega) (by omega)) dL_law_1236 ?_
    refine top_i (y := x3) e3.symm ?_
    refine lv_i2l (v := x3.toInt64) hx hb dL_law_1237 rfl ?_
    refine lv_bipush (v := 32) hx hb dL_law_1238 (by decide) ?_
    refine lv_lshl (v := x3.toInt64 <<< ((32 : Int32).toInt64 &&& 63)) hx hb dL_law_1240 rfl ?_
    refine lv_aload_n hx hb dL_law_1241 rfl (lv_at hl 3 rfl) ?_
    refine lv_iload_n hx hb dL_law_1242 rfl (lv_at hl 0 rfl) ?_
    refine lv_iconst (v := 4) hx hb dL_law_1243 (by decide) ?_
    refine lv_iadd hx hb dL_law_1244 ?_
    refine top_i (y := 4) (by decide) ?_
    refine va_sld hx hb hX hbl hbA hS (i_in (a := 4) (by decide) (by omega) (by omega)) dL_law_1245 ?_
    refine top_i (y := x4) e4.symm ?_
    refine lv_i2l (v := x4.toInt64) hx hb dL_law_1246 rfl ?_
    refine lv_ldc2 (v := 4294967295) hx hb hown (hts _ q_1840) dL_law_1247 ?_
    refine lv_land hx hb dL_law_1250 ?_
    refine lv_lor hx hb dL_law_1251 ?_
    refine lv_topl (fun y2 ey2 => ?_)
    refine go_i (rn_V (As := [.int x1, .int x2, .long y2]) (rest := [.int (sp_caught (x1.toInt))]) hx hb hml hown hts hK (m_put l J bb g x1 x2 y2 hg) kV_RL_166 (hP.sub (ws' := [((bb 0), .inr (12, [.ref (bb 1), .ref (bb 2), .ref (bb 3), .ref (bb 4), .int 0, .int 0, .int 0, .int 0, .ref (bb 9), .ref (bb 10), .int 0, .ref (bb 12), .int (-1), .int 0, .int 0, .int 0, .int 0, .int 0, .ref (bb 19), .ref (bb 20), .ref (bb 21), .ref (bb 22), .ref (bb 23), .long 0, .long 0, .long 0, .ref (bb 27), .ref (bb 28), .ref (bb 29), .long 0, .int 0, .int (-1), .int 0, .int 0, .int 0, .ref (bb 36), .int 0, .int 0, .ref (bb 39), .ref (bb 40), .int 0, .ref (bb 42), .ref (bb 43), .int 0, .int 0, .int 0, .ref (bb 47), .ref (bb 48), .ref (bb 49), .ref (bb 50)])), ((bb 47), .inl (J.2.1, 6, .inl g))]) [5, 16] rfl) rfl rfl rfl ⟨Nat.le_of_ble_eq_true rfl, Nat.le_of_ble_eq_true rfl⟩ rfl rfl rfl hl.1 rfl (Nat.le_of_ble_eq_true rfl) ⟨Nat.le_of_ble_eq_true rfl, Nat.le_of_ble_eq_true rfl⟩ dL_law_1252) ?_
    refine lv_icmp_eq (tgt := 1413) hx hb dL_law_1255 (by decide) (fun _ => ?_) (fun c => absurd rfl c)
    exact law_end E0 hS (lv_sub hl [0, 1, 2, 3] rfl)
  · refine lv_aload_n hx hb dL_law_1187 rfl (lv_at hl 2 rfl) ?_
    refine lv_aload_n hx hb dL_law_1188 rfl (lv_at hl 3 rfl) ?_
    refine lv_iload_n hx hb dL_law_1189 rfl (lv_at hl 0 rfl) ?_
    refine lv_iconst (v := 1) hx hb dL_law_1190 (by decide) ?_
    refine lv_iadd hx hb dL_law_1191 ?_
    refine top_i (y := 1) (by decide) ?_
    refine va_sld hx hb hX hbl hbA hS (i_in (a := 1) (by decide) (by omega) (by omega)) dL_law_1192 ?_
    refine top_i (y := x1) e1.symm ?_
    refine lv_aload_n hx hb dL_law_1193 rfl (lv_at hl 3 rfl) ?_
    refine lv_iload_n hx hb dL_law_1194 rfl (lv_at hl 0 rfl) ?_
    refine lv_iconst (v := 2) hx hb dL_law_1195 (by decide) ?_
    refine lv_iadd hx hb dL_law_1196 ?_
    refine top_i (y := 2) (by decide) ?_
    refine va_sld hx hb hX hbl hbA hS (i_in (a := 2) (by decide) (by omega) (by omega)) dL_law_1197 ?_
    refine top_i (y := x2) e2.symm ?_
    refine lv_aload_n hx hb dL_law_1198 rfl (lv_at hl 3 rfl) ?_
    refine lv_iload_n hx hb dL_law_1199 rfl (lv_at hl 0 rfl) ?_
    refine lv_iconst (v := 3) hx hb dL_law_1200 (by decide) ?_
    refine lv_iadd hx hb dL_law_1201 ?_
    refine top_i (y := 3) (by decide) ?_
    refine va_sld hx hb hX hbl hbA hS (i_in (a := 3) (by decide) (by omega) (by omega)) dL_law_1202 ?_
    refine top_i (y := x3) e3.symm ?_
    refine lv_i2l (v := x3.toInt64) hx hb dL_law_1203 rfl ?_
    refine lv_bipush (v := 32) hx hb dL_law_1204 (by decide) ?_
    refine lv_lshl (v := x3.toInt64 <<< ((32 : Int32).toInt64 &&& 63)) hx hb dL_law_1206 rfl ?_
    refine lv_aload_n hx hb dL_law_1207 rfl (lv_at hl 3 rfl) ?_
    refine lv_iload_n hx hb dL_law_1208 rfl (lv_at hl 0 rfl) ?_
    refine lv_iconst (v := 4) hx hb dL_law_1209 (by decide) ?_
    refine lv_iadd hx hb dL_law_1210 ?_
    refine top_i (y := 4) (by decide) ?_
    refine va_sld hx hb hX hbl hbA hS (i_in (a := 4) (by decide) (by omega) (by omega)) dL_law_1211 ?_
    refine top_i (y := x4) e4.symm ?_
    refine lv_i2l (v := x4.toInt64) hx hb dL_law_1212 rfl ?_
    refine lv_ldc2 (v := 4294967295) hx hb hown (hts _ q_1840) dL_law_1213 ?_
    refine lv_land hx hb dL_law_1216 ?_
    refine lv_lor hx hb dL_law_1217 ?_
    refine lv_topl (fun y3 ey3 => ?_)
    refine go_i (rn_V (As := [.int x1, .int x2, .long y3]) (rest := []) hx hb hml hown hts hK (c_put_out l J a x1 x2 y3 (by omega)) kV_RL_162 (hP.sub (ws' := [((a 0), .inr (11, [.ref (a 1), .ref (a 6), .ref (a 10), .ref (a 15), .ref (a 17), .ref (a 22), .ref (a 23), .ref (a 30), .ref (a 31), .ref (a 34), .int 0, .ref (a 37), .ref (a 40)]))]) [0] rfl) rfl rfl rfl ⟨Nat.le_of_ble_eq_true rfl, Nat.le_of_ble_eq_true rfl⟩ rfl rfl rfl hl.1 rfl (Nat.le_of_ble_eq_true rfl) ⟨Nat.le_of_ble_eq_true rfl, Nat.le_of_ble_eq_true rfl⟩ dL_law_1218) ?_
    refine lv_aload_n hx hb dL_law_1221 rfl (lv_at hl 1 rfl) ?_
    refine lv_aload_n hx hb dL_law_1222 rfl (lv_at hl 3 rfl) ?_
    refine lv_iload_n hx hb dL_law_1223 rfl (lv_at hl 0 rfl) ?_
    refine lv_iconst (v := 1) hx hb dL_law_1224 (by decide) ?_
    refine lv_iadd hx hb dL_law_1225 ?_
    refine top_i (y := 1) (by decide) ?_
    refine va_sld hx hb hX hbl hbA hS (i_in (a := 1) (by decide) (by omega) (by omega)) dL_law_1226 ?_
    refine top_i (y := x1) e1.symm ?_
    refine lv_aload_n hx hb dL_law_1227 rfl (lv_at hl 3 rfl) ?_
    refine lv_iload_n hx hb dL_law_1228 rfl (lv_at hl 0 rfl) ?_
    refine lv_iconst (v := 2) hx hb dL_law_1229 (by decide) ?_
    refine lv_iadd hx hb dL_law_1230 ?_
    refine top_i (y := 2) (by decide) ?_
    refine va_sld hx hb hX hbl hbA hS (i_in (a := 2) (by decide) (by omega) (by omega)) dL_law_1231 ?_
    refine top_i (y := x2) e2.symm ?_
    refine lv_aload_n hx hb dL_law_1232 rfl (lv_at hl 3 rfl) ?_
    refine lv_iload_n hx hb dL_law_1233 rfl (lv_at hl 0 rfl) ?_
    refine lv_iconst (v := 3) hx hb dL_law_1234 (by decide) ?_
    refine lv_iadd hx hb dL_law_1235 ?_
    refine top_i (y := 3) (by decide) ?_
    refine va_sld hx hb hX hbl hbA hS (i_in (a := 3) (by decide) (by omega) (by omega)) dL_law_1236 ?_
    refine top_i (y := x3) e3.symm ?_
    refine lv_i2l (v := x3.toInt64) hx hb dL_law_1237 rfl ?_
    refine lv_bipush (v := 32) hx hb dL_law_1238 (by decide) ?_
    refine lv_lshl (v := x3.toInt64 <<< ((32 : Int32).toInt64 &&& 63)) hx hb dL_law_1240 rfl ?_
    refine lv_aload_n hx hb dL_law_1241 rfl (lv_at hl 3 rfl) ?_
    refine lv_iload_n hx hb dL_law_1242 rfl (lv_at hl 0 rfl) ?_
    refine lv_iconst (v := 4) hx hb dL_law_1243 (by decide) ?_
    refine lv_iadd hx hb dL_law_1244 ?_
    refine top_i (y := 4) (by decide) ?_
    refine va_sld hx hb hX hbl hbA hS (i_in (a := 4) (by decide) (by omega) (by omega)) dL_law_1245 ?_
    refine top_i (y := x4) e4.symm ?_
    refine lv_i2l (v := x4.toInt64) hx hb dL_law_1246 rfl ?_
    refine lv_ldc2 (v := 4294967295) hx hb hown (hts _ q_1840) dL_law_1247 ?_
    refine lv_land hx hb dL_law_1250 ?_
    refine lv_lor hx hb dL_law_1251 ?_
    refine lv_topl (fun y4 ey4 => ?_)
    refine go_i (rn_V (As := [.int x1, .int x2, .long y4]) (rest := [.int (sp_caught (x1.toInt))]) hx hb hml hown hts hK (m_put l J bb g x1 x2 y4 hg) kV_RL_166 (hP.sub (ws' := [((bb 0), .inr (12, [.ref (bb 1), .ref (bb 2), .ref (bb 3), .ref (bb 4), .int 0, .int 0, .int 0, .int 0, .ref (bb 9), .ref (bb 10), .int 0, .ref (bb 12), .int (-1), .int 0, .int 0, .int 0, .int 0, .int 0, .ref (bb 19), .ref (bb 20), .ref (bb 21), .ref (bb 22), .ref (bb 23), .long 0, .long 0, .long 0, .ref (bb 27), .ref (bb 28), .ref (bb 29), .long 0, .int 0, .int (-1), .int 0, .int 0, .int 0, .ref (bb 36), .int 0, .int 0, .ref (bb 39), .ref (bb 40), .int 0, .ref (bb 42), .ref (bb 43), .int 0, .int 0, .int 0, .ref (bb 47), .ref (bb 48), .ref (bb 49), .ref (bb 50)])), ((bb 47), .inl (J.2.1, 6, .inl g))]) [39, 50] rfl) rfl rfl rfl ⟨Nat.le_of_ble_eq_true rfl, Nat.le_of_ble_eq_true rfl⟩ rfl rfl rfl hl.1 rfl (Nat.le_of_ble_eq_true rfl) ⟨Nat.le_of_ble_eq_true rfl, Nat.le_of_ble_eq_true rfl⟩ dL_law_1252) ?_
    refine lv_icmp_eq (tgt := 1413) hx hb dL_law_1255 (by decide) (fun _ => ?_) (fun c => absurd rfl c)
    exact law_end E0 hS (lv_sub hl [0, 1, 2, 3] rfl)
theorem dL_law_1260 : decode cL_law 1260 = .ok (.aload_n 1, 1) := by decide +kernel
theorem dL_law_1261 : decode cL_law 1261 = .ok (.aload_n 0, 1) := by decide +kernel
theorem dL_law_1262 : decode cL_law 1262 = .ok (.iload_n 3, 1) := by decide +kernel
theorem dL_law_1263 : decode cL_law 1263 = .ok (.iconst 1, 1) := by decide +kernel
theorem dL_law_1264 : decode cL_law 1264 = .ok (.iadd, 1) := by decide +kernel
theorem dL_law_1265 : decode cL_law 1265 = .ok (.iaload, 1) := by decide +kernel
theorem dL_law_1266 : decode cL_law 1266 = .ok (.aload_n 0, 1) := by decide +kernel
theorem dL_law_1267 : decode cL_law 1267 = .ok (.iload_n 3, 1) := by decide +kernel
theorem dL_law_1268 : decode cL_law 1268 = .ok (.iconst 2, 1) := by decide +kernel
theorem dL_law_1269 : decode cL_law 1269 = .ok (.iadd, 1) := by decide +kernel
theorem dL_law_1270 : decode cL_law 1270 = .ok (.iaload, 1) := by decide +kernel
theorem q_1231 : Cond.methodLink RL 167 yX11_element ∈ lw_g := mem_q 1231 (by decide +kernel) rfl
theorem q_1232 : Cond.instanceMethod yX11_element ∈ lw_g := mem_q 1232 (by decide +kernel) rfl
theorem q_1233 : Cond.selects RX11 yX11_element yX11_element ∈ lw_g := mem_q 1233 (by decide +kernel) rfl
theorem q_1234 : Cond.code yX11_element cX11_element 4 (some .long) ∈ lw_g := mem_q 1234 (by decide +kernel) rfl
theorem kV_RL_167 : CV RL 167 RX11 yX11_element cX11_element 4 (some .long) 2 := cv_of q_1231 q_1232 q_1233 q_103 q_1234 (by decide +kernel)
theorem dL_law_1271 : decode cL_law 1271 = .ok (.invokevirtual 167, 3) := by decide +kernel
theorem dL_law_1274 : decode cL_law 1274 = .ok (.aload_n 2, 1) := by decide +kernel
theorem dL_law_1275 : decode cL_law 1275 = .ok (.aload_n 0, 1) := by decide +kernel
theorem dL_law_1276 : decode cL_law 1276 = .ok (.iload_n 3, 1) := by decide +kernel
theorem dL_law_1277 : decode cL_law 1277 = .ok (.iconst 1, 1) := by decide +kernel
theorem dL_law_1278 : decode cL_law 1278 = .ok (.iadd, 1) := by decide +kernel
theorem dL_law_1279 : decode cL_law 1279 = .ok (.iaload, 1) := by decide +kernel
theorem dL_law_1280 : decode cL_law 1280 = .ok (.aload_n 0, 1) := by decide +kernel
theorem dL_law_1281 : decode cL_law 1281 = .ok (.iload_n 3, 1) := by decide +kernel
theorem dL_law_1282 : decode cL_law 1282 = .ok (.iconst 2, 1) := by decide +kernel
theorem dL_law_1283 : decode cL_law 1283 = .ok (.iadd, 1) := by decide +kernel
theorem dL_law_1284 : decode cL_law 1284 = .ok (.iaload, 1) := by decide +kernel
theorem q_1817 : Cond.methodLink RL 170 yX12_element ∈ lw_g := mem_q 1817 (by decide +kernel) rfl
theorem q_1818 : Cond.instanceMethod yX12_element ∈ lw_g := mem_q 1818 (by decide +kernel) rfl
theorem q_1819 : Cond.selects RX12 yX12_element yX12_element ∈ lw_g := mem_q 1819 (by decide +kernel) rfl
theorem q_1820 : Cond.code yX12_element cX12_element 3 (some .long) ∈ lw_g := mem_q 1820 (by decide +kernel) rfl
theorem kV_RL_170 : CV RL 170 RX12 yX12_element cX12_element 3 (some .long) 2 := cv_of q_1817 q_1818 q_1819 q_115 q_1820 (by decide +kernel)
theorem dL_law_1285 : decode cL_law 1285 = .ok (.invokevirtual 170, 3) := by decide +kernel
theorem dL_law_1288 : decode cL_law 1288 = .ok (.lcmp, 1) := by decide +kernel
theorem dL_law_1289 : decode cL_law 1289 = .ok (.ifCond .eq 124, 3) := by decide +kernel
set_option maxHeartbeats 4000000 in
set_option maxRecDepth 100000 in
/-- element -/
theorem lk_36 {p : Program} {l : Launch} {e : Env} {s : State} {m : MethodId} {below : List Frame} {meth : Method} {c : Code} {b : Nat} {xs : Nat → Int32} {J : va_J9} {A : Nat → Prop} {H : Heap} {locs : List Loc} {ls : Array Slot} {a bb : Nat → Nat} {f : Nat → Option Nat} {g : Nat → Int32} (E0 : LE p s m meth c b 6 xs J A) (hfx : ∀ j, j < 6 → f j = some (a (41 + j))) (hg : ∀ k, k < 6 → g k = -1) (hP : va_P J.1 cls (xW J a f ++ mW J bb g) H) (hD : va_D A (xW J a f ++ mW J bb g)) (hS : va_S A s.heap H locs) (hl : lv_has ls 4 [(3, .int 0), (2, .ref (bb 0)), (1, .ref (a 0)), (0, .ref b)]) : W p l e room_1 s m #[Value.ref b] below meth c H locs 600000 7302250 (lw_Z below #[Value.ref b] s) (F0 m 1260 ls []) := by
  obtain ⟨hx, hb, hr, hml, hown, hts, hX, hbl, hlk, hK, hA, hAs⟩ := id E0
  have hbA : ¬ A b := fun h => absurd (hAs b h) (Nat.not_le.mpr hbl)
  obtain ⟨x1, e1⟩ : ∃ z : Int32, z = xs 1 := ⟨_, rfl⟩
  obtain ⟨x2, e2⟩ : ∃ z : Int32, z = xs 2 := ⟨_, rfl⟩
  have rg_x1 := i_rng x1
  have rg_x2 := i_rng x2
  by_cases hd : 0 ≤ x1.toInt ∧ x1.toInt ≤ 5
  · obtain ⟨sh, ce, hf, hP, hD⟩ := shx hfx hP hD hd
    refine lv_aload_n hx hb dL_law_1260 rfl (lv_at hl 2 rfl) ?_
    refine lv_aload_n hx hb dL_law_1261 rfl (lv_at hl 3 rfl) ?_
    refine lv_iload_n hx hb dL_law_1262 rfl (lv_at hl 0 rfl) ?_
    refine lv_iconst (v := 1) hx hb dL_law_1263 (by decide) ?_
    refine lv_iadd hx hb dL_law_1264 ?_
    refine top_i (y := 1) (by decide) ?_
    refine va_sld hx hb hX hbl hbA hS (i_in (a := 1) (by decide) (by omega) (by omega)) dL_law_1265 ?_
    refine top_i (y := x1) e1.symm ?_
    refine lv_aload_n hx hb dL_law_1266 rfl (lv_at hl 3 rfl) ?_
    refine lv_iload_n hx hb dL_law_1267 rfl (lv_at hl 0 rfl) ?_
    refine lv_iconst (v := 2) hx hb dL_law_1268 (by decide) ?_
    refine lv_iadd hx hb dL_law_1269 ?_
    refine top_i (y := 2) (by decide) ?_
    refine va_sld hx hb hX hbl hbA hS (i_in (a := 2) (by decide) (by omega) (by omega)) dL_law_1270 ?_
    refine top_i (y := x2) e2.symm ?_
    refine go_l (rn_V (As := [.int x1, .int x2]) (rest := []) hx hb hml hown hts hK (c_element_in l J a f sh ce x1 x2 ⟨by omega, by omega⟩ hf) kV_RL_167 (hP.sub (ws' := [((a 0), .inr (11, [.ref (a 1), .ref (a 6), .ref (a 10), .ref (a 15), .ref (a 17), .ref (a 22), .ref (a 23), .ref (a 30), .ref (a 31), .ref (a 34), .int 0, .ref (a 37), .ref (a 40)])), ((a 40), .inl (J.2.2.2, 6, .inr (.inr (.inr (.inr f))))), (sh, .inr (9, [.ref ce, .int 0, .int 0, .int 0, .int 0]))]) [0, 1, 2] rfl) rfl rfl rfl ⟨Nat.le_of_ble_eq_true rfl, Nat.le_of_ble_eq_true rfl⟩ rfl rfl rfl hl.1 rfl (Nat.le_of_ble_eq_true rfl) ⟨Nat.le_of_ble_eq_true rfl, Nat.le_of_ble_eq_true rfl⟩ dL_law_1271) ?_
    refine lv_aload_n hx hb dL_law_1274 rfl (lv_at hl 1 rfl) ?_
    refine lv_aload_n hx hb dL_law_1275 rfl (lv_at hl 3 rfl) ?_
    refine lv_iload_n hx hb dL_law_1276 rfl (lv_at hl 0 rfl) ?_
    refine lv_iconst (v := 1) hx hb dL_law_1277 (by decide) ?_
    refine lv_iadd hx hb dL_law_1278 ?_
    refine top_i (y := 1) (by decide) ?_
    refine va_sld hx hb hX hbl hbA hS (i_in (a := 1) (by decide) (by omega) (by omega)) dL_law_1279 ?_
    refine top_i (y := x1) e1.symm ?_
    refine lv_aload_n hx hb dL_law_1280 rfl (lv_at hl 3 rfl) ?_
    refine lv_iload_n hx hb dL_law_1281 rfl (lv_at hl 0 rfl) ?_
    refine lv_iconst (v := 2) hx hb dL_law_1282 (by decide) ?_
    refine lv_iadd hx hb dL_law_1283 ?_
    refine top_i (y := 2) (by decide) ?_
    refine va_sld hx hb hX hbl hbA hS (i_in (a := 2) (by decide) (by omega) (by omega)) dL_law_1284 ?_
    refine top_i (y := x2) e2.symm ?_
    refine go_l (rn_V (As := [.int x1, .int x2]) (rest := [.long (-9223372036854775808)]) hx hb hml hown hts hK (m_element l J bb g x1 x2 hg) kV_RL_170 (hP.sub (ws' := [((bb 0), .inr (12, [.ref (bb 1), .ref (bb 2), .ref (bb 3), .ref (bb 4), .int 0, .int 0, .int 0, .int 0, .ref (bb 9), .ref (bb 10), .int 0, .ref (bb 12), .int (-1), .int 0, .int 0, .int 0, .int 0, .int 0, .ref (bb 19), .ref (bb 20), .ref (bb 21), .ref (bb 22), .ref (bb 23), .long 0, .long 0, .long 0, .ref (bb 27), .ref (bb 28), .ref (bb 29), .long 0, .int 0, .int (-1), .int 0, .int 0, .int 0, .ref (bb 36), .int 0, .int 0, .ref (bb 39), .ref (bb 40), .int 0, .ref (bb 42), .ref (bb 43), .int 0, .int 0, .int 0, .ref (bb 47), .ref (bb 48), .ref (bb 49), .ref (bb 50)])), ((bb 47), .inl (J.2.1, 6, .inl g))]) [5, 16] rfl) rfl rfl rfl ⟨Nat.le_of_ble_eq_true rfl, Nat.le_of_ble_eq_true rfl⟩ rfl rfl rfl hl.1 rfl (Nat.le_of_ble_eq_true rfl) ⟨Nat.le_of_ble_eq_true rfl, Nat.le_of_ble_eq_true rfl⟩ dL_law_1285) ?_
    refine W.lcmp hx hb dL_law_1288 ?_
    refine top_i (y := 0) (by decide) ?_
    refine lv_if_eq (tgt := 1413) hx hb dL_law_1289 (by decide) (fun _ => ?_) (fun c => absurd c (by decide))
    exact law_end E0 hS (lv_sub hl [0, 1, 2, 3] rfl)
  · refine lv_aload_n hx hb dL_law_1260 rfl (lv_at hl 2 rfl) ?_
    refine lv_aload_n hx hb dL_law_1261 rfl (lv_at hl 3 rfl) ?_
    refine lv_iload_n hx hb dL_law_1262 rfl (lv_at hl 0 rfl) ?_
    refine lv_iconst (v := 1) hx hb dL_law_1263 (by decide) ?_
    refine lv_iadd hx hb dL_law_1264 ?_
    refine top_i (y := 1) (by decide) ?_
    refine va_sld hx hb hX hbl hbA hS (i_in (a := 1) (by decide) (by omega) (by omega)) dL_law_1265 ?_
    refine top_i (y := x1) e1.symm ?_
    refine lv_aload_n hx hb dL_law_1266 rfl (lv_at hl 3 rfl) ?_
    refine lv_iload_n hx hb dL_law_1267 rfl (lv_at hl 0 rfl) ?_
    refine lv_iconst (v := 2) hx hb dL_law_1268 (by decide) ?_
    refine lv_iadd hx hb dL_law_1269 ?_
    refine top_i (y := 2) (by decide) ?_
    refine va_sld hx hb hX hbl hbA hS (i_in (a := 2) (by decide) (by omega) (by omega)) dL_law_1270 ?_
    refine top_i (y := x2) e2.symm ?_
    refine go_l (rn_V (As := [.int x1, .int x2]) (rest := []) hx hb hml hown hts hK (c_element_out l J a x1 x2 (by omega)) kV_RL_167 (hP.sub (ws' := [((a 0), .inr (11, [.ref (a 1), .ref (a 6), .ref (a 10), .ref (a 15), .ref (a 17), .ref (a 22), .ref (a 23), .ref (a 30), .ref (a 31), .ref (a 34), .int 0, .ref (a 37), .ref (a 40)]))]) [0] rfl) rfl rfl rfl ⟨Nat.le_of_ble_eq_true rfl, Nat.le_of_ble_eq_true rfl⟩ rfl rfl rfl hl.1 rfl (Nat.le_of_ble_eq_true rfl) ⟨Nat.le_of_ble_eq_true rfl, Nat.le_of_ble_eq_true rfl⟩ dL_law_1271) ?_
    refine lv_aload_n hx hb dL_law_1274 rfl (lv_at hl 1 rfl) ?_
    refine lv_aload_n hx hb dL_law_1275 rfl (lv_at hl 3 rfl) ?_
    refine lv_iload_n hx hb dL_law_1276 rfl (lv_at hl 0 rfl) ?_
    refine lv_iconst (v := 1) hx hb dL_law_1277 (by decide) ?_
    refine lv_iadd hx hb dL_law_1278 ?_
    refine top_i (y := 1) (by decide) ?_
    refine va_sld hx hb hX hbl hbA hS (i_in (a := 1) (by decide) (by omega) (by omega)) dL_law_1279 ?_
    refine top_i (y := x1) e1.symm ?_
    refine lv_aload_n hx hb dL_law_1280 rfl (lv_at hl 3 rfl) ?_
    refine lv_iload_n hx hb dL_law_1281 rfl (lv_at hl 0 rfl) ?_
    refine lv_iconst (v := 2) hx hb dL_law_1282 (by decide) ?_
    refine lv_iadd hx hb dL_law_1283 ?_
    refine top_i (y := 2) (by decide) ?_
    refine va_sld hx hb hX hbl hbA hS (i_in (a := 2) (by decide) (by omega) (by omega)) dL_law_1284 ?_
    refine top_i (y := x2) e2.symm ?_
    refine go_l (rn_V (As := [.int x1, .int x2]) (rest := [.long (-9223372036854775808)]) hx hb hml hown hts hK (m_element l J bb g x1 x2 hg) kV_RL_170 (hP.sub (ws' := [((bb 0), .inr (12, [.ref (bb 1), .ref (bb 2), .ref (bb 3), .ref (bb 4), .int 0, .int 0, .int 0, .int 0, .ref (bb 9), .ref (bb 10), .int 0, .ref (bb 12), .int (-1), .int 0, .int 0, .int 0, .int 0, .int 0, .ref (bb 19), .ref (bb 20), .ref (bb 21), .ref (bb 22), .ref (bb 23), .long 0, .long 0, .long 0, .ref (bb 27), .ref (bb 28), .ref (bb 29), .long 0, .int 0, .int (-1), .int 0, .int 0, .int 0, .ref (bb 36), .int 0, .int 0, .ref (bb 39), .ref (bb 40), .int 0, .ref (bb 42), .ref (bb 43), .int 0, .int 0, .int 0, .ref (bb 47), .ref (bb 48), .ref (bb 49), .ref (bb 50)])), ((bb 47), .inl (J.2.1, 6, .inl g))]) [39, 50] rfl) rfl rfl rfl ⟨Nat.le_of_ble_eq_true rfl, Nat.le_of_ble_eq_true rfl⟩ rfl rfl rfl hl.1 rfl (Nat.le_of_ble_eq_true rfl) ⟨Nat.le_of_ble_eq_true rfl, Nat.le_of_ble_eq_true rfl⟩ dL_law_1285) ?_
    refine W.lcmp hx hb dL_law_1288 ?_
    refine top_i (y := 0) (by decide) ?_
    refine lv_if_eq (tgt := 1413) hx hb dL_law_1289 (by decide) (fun _ => ?_) (fun c => absurd c (by decide))
    exact law_end E0 hS (lv_sub hl [0, 1, 2, 3] rfl)
theorem dL_law_1294 : decode cL_law 1294 = .ok (.aload_n 1, 1) := by decide +kernel
theorem dL_law_1295 : decode cL_law 1295 = .ok (.aload_n 0, 1) := by decide +kernel
theorem dL_law_1296 : decode cL_law 1296 = .ok (.iload_n 3, 1) := by decide +kernel
theorem dL_law_1297 : decode cL_law 1297 = .ok (.iconst 1, 1) := by decide +kernel
theorem dL_law_1298 : decode cL_law 1298 = .ok (.iadd, 1) := by decide +kernel
theorem dL_law_1299 : decode cL_law 1299 = .ok (.iaload, 1) := by decide +kernel
theorem dL_law_1300 : decode cL_law 1300 = .ok (.aload_n 0, 1) := by decide +kernel
theorem dL_law_1301 : decode cL_law 1301 = .ok (.iload_n 3, 1) := by decide +kernel
theorem dL_law_1302 : decode cL_law 1302 = .ok (.iconst 2, 1) := by decide +kernel
theorem dL_law_1303 : decode cL_law 1303 = .ok (.iadd, 1) := by decide +kernel
theorem dL_law_1304 : decode cL_law 1304 = .ok (.iaload, 1) := by decide +kernel
theorem dL_law_1305 : decode cL_law 1305 = .ok (.aload_n 0, 1) := by decide +kernel
theorem dL_law_1306 : decode cL_law 1306 = .ok (.iload_n 3, 1) := by decide +kernel
theorem dL_law_1307 : decode cL_law 1307 = .ok (.iconst 3, 1) := by decide +kernel
theorem dL_law_1308 : decode cL_law 1308 = .ok (.iadd, 1) := by decide +kernel
theorem dL_law_1309 : decode cL_law 1309 = .ok (.iaload, 1) := by decide +kernel
theorem dL_law_1310 : decode cL_law 1310 = .ok (.aload_n 0, 1) := by decide +kernel
theorem dL_law_1311 : decode cL_law 1311 = .ok (.iload_n 3, 1) := by decide +kernel
theorem dL_law_1312 : decode cL_law 1312 = .ok (.iconst 4, 1) := by decide +kernel
theorem dL_law_1313 : decode cL_law 1313 = .ok (.iadd, 1) := by decide +kernel
theorem dL_law_1314 : decode cL_law 1314 = .ok (.iaload, 1) := by decide +kernel
theorem dL_law_1315 : decode cL_law 1315 = .ok (.aload_n 0, 1) := by decide +kernel
theorem dL_law_1316 : decode cL_law 1316 = .ok (.iload_n 3, 1) := by decide +kernel
theorem dL_law_1317 : decode cL_law 1317 = .ok (.iconst 5, 1) := by decide +kernel
theorem dL_law_1318 : decode cL_law 1318 = .ok (.iadd, 1) := by decide +kernel
theorem dL_law_1319 : decode cL_law 1319 = .ok (.iaload, 1) := by decide +kernel
theorem q_1236 : Cond.methodLink RL 171 yX11_shift ∈ lw_g := mem_q 1236 (by decide +kernel) rfl
theorem q_1237 : Cond.instanceMethod yX11_shift ∈ lw_g := mem_q 1237 (by decide +kernel) rfl
theorem q_1238 : Cond.selects RX11 yX11_shift yX11_shift ∈ lw_g := mem_q 1238 (by decide +kernel) rfl
theorem q_1239 : Cond.code yX11_shift cX11_shift 8 (some .int) ∈ lw_g := mem_q 1239 (by decide +kernel) rfl
theorem kV_RL_171 : CV RL 171 RX11 yX11_shift cX11_shift 8 (some .int) 5 := cv_of q_1236 q_1237 q_1238 q_103 q_1239 (by decide +kernel)
theorem dL_law_1320 : decode cL_law 1320 = .ok (.invokevirtual 171, 3) := by decide +kernel
theorem dL_law_1323 : decode cL_law 1323 = .ok (.aload_n 2, 1) := by decide +kernel
theorem dL_law_1324 : decode cL_law 1324 = .ok (.aload_n 0, 1) := by decide +kernel
theorem dL_law_1325 : decode cL_law 1325 = .ok (.iload_n 3, 1) := by decide +kernel
theorem dL_law_1326 : decode cL_law 1326 = .ok (.iconst 1, 1) := by decide +kernel
theorem dL_law_1327 : decode cL_law 1327 = .ok (.iadd, 1) := by decide +kernel
theorem dL_law_1328 : decode cL_law 1328 = .ok (.iaload, 1) := by decide +kernel
theorem dL_law_1329 : decode cL_law 1329 = .ok (.aload_n 0, 1) := by decide +kernel
theorem dL_law_1330 : decode cL_law 1330 = .ok (.iload_n 3, 1) := by decide +kernel
theorem dL_law_1331 : decode cL_law 1331 = .ok (.iconst 2, 1) := by decide +kernel
theorem dL_law_1332 : decode cL_law 1332 = .ok (.iadd, 1) := by decide +kernel
theorem dL_law_1333 : decode cL_law 1333 = .ok (.iaload, 1) := by decide +kernel
theorem dL_law_1334 : decode cL_law 1334 = .ok (.aload_n 0, 1) := by decide +kernel
theorem dL_law_1335 : decode cL_law 1335 = .ok (.iload_n 3, 1) := by decide +kernel
theorem dL_law_1336 : decode cL_law 1336 = .ok (.iconst 3, 1) := by decide +kernel
theorem dL_law_1337 : decode cL_law 1337 = .ok (.iadd, 1) := by decide +kernel
theorem dL_law_1338 : decode cL_law 1338 = .ok (.iaload, 1) := by decide +kernel
theorem dL_law_1339 : decode cL_law 1339 = .ok (.aload_n 0, 1) := by decide +kernel
theorem dL_law_1340 : decode cL_law 1340 = .ok (.iload_n 3, 1) := by decide +kernel
theorem dL_law_1341 : decode cL_law 1341 = .ok (.iconst 4, 1) := by decide +kernel
theorem dL_law_1342 : decode cL_law 1342 = .ok (.iadd, 1) := by decide +kernel
theorem dL_law_1343 : decode cL_law 1343 = .ok (.iaload, 1) := by decide +kernel
theorem dL_law_1344 : decode cL_law 1344 = .ok (.aload_n 0, 1) := by decide +kernel
theorem dL_law_1345 : decode cL_law 1345 = .ok (.iload_n 3, 1) := by decide +kernel
theorem dL_law_1346 : decode cL_law 1346 = .ok (.iconst 5, 1) := by decide +kernel
theorem dL_law_1347 : decode cL_law 1347 = .ok (.iadd, 1) := by decide +kernel
theorem dL_law_1348 : decode cL_law 1348 = .ok (.iaload, 1) := by decide +kernel
theorem q_1821 : Cond.methodLink RL 175 yX12_shift ∈ lw_g := mem_q 1821 (by decide +kernel) rfl
theorem q_1822 : Cond.instanceMethod yX12_shift ∈ lw_g := mem_q 1822 (by decide +kernel) rfl
theorem q_1823 : Cond.selects RX12 yX12_shift yX12_shift ∈ lw_g := mem_q 1823 (by decide +kernel) rfl
theorem q_1824 : Cond.code yX12_shift cX12_shift 7 (some .int) ∈ lw_g := mem_q 1824 (by decide +kernel) rfl
theorem kV_RL_175 : CV RL 175 RX12 yX12_shift cX12_shift 7 (some .int) 5 := cv_of q_1821 q_1822 q_1823 q_115 q_1824 (by decide +kernel)
theorem dL_law_1349 : decode cL_law 1349 = .ok (.invokevirtual 175, 3) := by decide +kernel
theorem dL_law_1352 : decode cL_law 1352 = .ok (.if_icmp .eq 61, 3) := by decide +kernel
set_option maxHeartbeats 4000000 in
set_option maxRecDepth 100000 in
/-- shift -/
theorem lk_37 {p : Program} {l : Launch} {e : Env} {s : State} {m : MethodId} {below : List Frame} {meth : Method} {c : Code} {b : Nat} {xs : Nat → Int32} {J : va_J9} {A : Nat → Prop} {H : Heap} {locs : List Loc} {ls : Array Slot} {a bb : Nat → Nat} {f : Nat → Option Nat} {g : Nat → Int32} (E0 : LE p s m meth c b 6 xs J A) (hfx : ∀ j, j < 6 → f j = some (a (41 + j))) (hg : ∀ k, k < 6 → g k = -1) (hP : va_P J.1 cls (xW J a f ++ mW J bb g) H) (hD : va_D A (xW J a f ++ mW J bb g)) (hS : va_S A s.heap H locs) (hl : lv_has ls 4 [(3, .int 0), (2, .ref (bb 0)), (1, .ref (a 0)), (0, .ref b)]) : W p l e room_1 s m #[Value.ref b] below meth c H locs 600000 7302250 (lw_Z below #[Value.ref b] s) (F0 m 1294 ls []) := by
  obtain ⟨hx, hb, hr, hml, hown, hts, hX, hbl, hlk, hK, hA, hAs⟩ := id E0
  have hbA : ¬ A b := fun h => absurd (hAs b h) (Nat.not_le.mpr hbl)
  obtain ⟨x1, e1⟩ : ∃ z : Int32, z = xs 1 := ⟨_, rfl⟩
  obtain ⟨x2, e2⟩ : ∃ z : Int32, z = xs 2 := ⟨_, rfl⟩
  obtain ⟨x3, e3⟩ : ∃ z : Int32, z = xs 3 := ⟨_, rfl⟩
  obtain ⟨x4, e4⟩ : ∃ z : Int32, z = xs 4 := ⟨_, rfl⟩
  obtain ⟨x5, e5⟩ : ∃ z : Int32, z = xs 5 := ⟨_, rfl⟩
  have rg_x1 := i_rng x1
  have rg_x2 := i_rng x2
  have rg_x3 := i_rng x3
  have rg_x4 := i_rng x4
  have rg_x5 := i_rng x5
  by_cases ho : 0 ≤ x3.toInt ∧ x3.toInt ≤ 5
  · obtain ⟨s2, hg2⟩ : ∃ s2 : Nat, f x3.toNatClampNeg = some s2 := ⟨_, hfx _ (by show (Int32.toInt _).toNat < 6; omega)⟩
    by_cases hd : 0 ≤ x1.toInt ∧ x1.toInt ≤ 5
    · obtain ⟨sh, ce, hf, hP, hD⟩ := shx hfx hP hD hd
      refine lv_aload_n hx hb dL_law_1294 rfl (lv_at hl 2 rfl) ?_
      refine lv_aload_n hx hb dL_law_1295 rfl (lv_at hl 3 rfl) ?_
      refine lv_iload_n hx hb dL_law_1296 rfl (lv_at hl 0 rfl) ?_
      refine lv_iconst (v := 1) hx hb dL_law_1297 (by decide) ?_
      refine lv_iadd hx hb dL_law_1298 ?_
      refine top_i (y := 1) (by decide) ?_
      refine va_sld hx hb hX hbl hbA hS (i_in (a := 1) (by decide) (by omega) (by omega)) dL_law_1299 ?_
      refine top_i (y := x1) e1.symm ?_
      refine lv_aload_n hx hb dL_law_1300 rfl (lv_at hl 3 rfl) ?_
      refine lv_iload_n hx hb dL_law_1301 rfl (lv_at hl 0 rfl) ?_
      refine lv_iconst (v := 2) hx hb dL_law_1302 (by decide) ?_
      refine lv_iadd hx hb dL_law_1303 ?_
      refine top_i (y := 2) (by decide) ?_
      refine va_sld hx hb hX hbl hbA hS (i_in (a := 2) (by decide) (by omega) (by omega)) dL_law_1304 ?_
      refine top_i (y := x2) e2.symm ?_
      refine lv_aload_n hx hb dL_law_1305 rfl (lv_at hl 3 rfl) ?_
      refine lv_iload_n hx hb dL_law_1306 rfl (lv_at hl 0 rfl) ?_
      refine lv_iconst (v := 3) hx hb dL_law_1307 (by decide) ?_
      refine lv_iadd hx hb dL_law_1308 ?_
      refine top_i (y := 3) (by decide) ?_
      refine va_sld hx hb hX hbl hbA hS (i_in (a := 3) (by decide) (by omega) (by omega)) dL_law_1309 ?_
      refine top_i (y := x3) e3.symm ?_
      refine lv_aload_n hx hb dL_law_1310 rfl (lv_at hl 3 rfl) ?_
      refine lv_iload_n hx hb dL_law_1311 rfl (lv_at hl 0 rfl) ?_
      refine lv_iconst (v := 4) hx hb dL_law_1312 (by decide) ?_
      refine lv_iadd hx hb dL_law_1313 ?_
      refine top_i (y := 4) (by decide) ?_
      refine va_sld hx hb hX hbl hbA hS (i_in (a := 4) (by decide) (by omega) (by omega)) dL_law_1314 ?_
      refine top_i (y := x4) e4.symm ?_
      refine lv_aload_n hx hb dL_law_1315 rfl (lv_at hl 3 rfl) ?_
      refine lv_iload_n hx hb dL_law_1316 rfl (lv_at hl 0 rfl) ?_
      refine lv_iconst (v := 5) hx hb dL_law_1317 (by decide) ?_
      refine lv_iadd hx hb dL_law_1318 ?_
      refine top_i (y := 5) (by decide) ?_
      refine va_sld hx hb hX hbl hbA hS (i_in (a := 5) (by decide) (by omega) (by omega)) dL_law_1319 ?_
      refine top_i (y := x5) e5.symm ?_
      refine go_i (rn_V (As := [.int x1, .int x2, .int x3, .int x4, .int x5]) (rest := []) hx hb hml hown hts hK (c_shift_11 l J a f sh ce s2 x1 x2 x3 x4 x5 hd ho hf hg2) kV_RL_171 (hP.sub (ws' := [((a 0), .inr (11, [.ref (a 1), .ref (a 6), .ref (a 10), .ref (a 15), .ref (a 17), .ref (a 22), .ref (a 23), .ref (a 30), .ref (a 31), .ref (a 34), .int 0, .ref (a 37), .ref (a 40)])), ((a 40), .inl (J.2.2.2, 6, .inr (.inr (.inr (.inr f))))), (sh, .inr (9, [.ref ce, .int 0, .int 0, .int 0, .int 0]))]) [0, 1, 2] rfl) rfl rfl rfl ⟨Nat.le_of_ble_eq_true rfl, Nat.le_of_ble_eq_true rfl⟩ rfl rfl rfl hl.1 rfl (Nat.le_of_ble_eq_true rfl) ⟨Nat.le_of_ble_eq_true rfl, Nat.le_of_ble_eq_true rfl⟩ dL_law_1320) ?_
      refine lv_aload_n hx hb dL_law_1323 rfl (lv_at hl 1 rfl) ?_
      refine lv_aload_n hx hb dL_law_1324 rfl (lv_at hl 3 rfl) ?_
      refine lv_iload_n hx hb dL_law_1325 rfl (lv_at hl 0 rfl) ?_
      refine lv_iconst (v := 1) hx hb dL_law_1326 (by decide) ?_
      refine lv_iadd hx hb dL_law_1327 ?_
      refine top_i (y := 1) (by decide) ?_
      refine va_sld hx hb hX hbl hbA hS (i_in (a := 1) (by decide) (by omega) (by omega)) dL_law_1328 ?_
      refine top_i (y := x1) e1.symm ?_
      refine lv_aload_n hx hb dL_law_1329 rfl (lv_at hl 3 rfl) ?_
      refine lv_iload_n hx hb dL_law_1330 rfl (lv_at hl 0 rfl) ?_
      refine lv_iconst (v := 2) hx hb dL_law_1331 (by decide) ?_
      refine lv_iadd hx hb dL_law_1332 ?_
      refine top_i (y := 2) (by decide) ?_
      refine va_sld hx hb hX hbl hbA hS (i_in (a := 2) (by decide) (by omega) (by omega)) dL_law_1333 ?_
      refine top_i (y := x2) e2.symm ?_
      refine lv_aload_n hx hb dL_law_1334 rfl (lv_at hl 3 rfl) ?_
      refine lv_iload_n hx hb dL_law_1335 rfl (lv_at hl 0 rfl) ?_
      refine lv_iconst (v := 3) hx hb dL_law_1336 (by decide) ?_
      refine lv_iadd hx hb dL_law_1337 ?_
      refine top_i (y := 3) (by decide) ?_
      refine va_sld hx hb hX hbl hbA hS (i_in (a := 3) (by decide) (by omega) (by omega)) dL_law_1338 ?_
      refine top_i (y := x3) e3.symm ?_
      refine lv_aload_n hx hb dL_law_1339 rfl (lv_at hl 3 rfl) ?_
      refine lv_iload_n hx hb dL_law_1340 rfl (lv_at hl 0 rfl) ?_
      refine lv_iconst (v := 4) hx hb dL_law_1341 (by decide) ?_
      refine lv_iadd hx hb dL_law_1342 ?_
      refine top_i (y := 4) (by decide) ?_
      refine va_sld hx hb hX hbl hbA hS (i_in (a := 4) (by decide) (by omega) (by omega)) dL_law_1343 ?_
      refine top_i (y := x4) e4.symm ?_
      refine lv_aload_n hx hb dL_law_1344 rfl (lv_at hl 3 rfl) ?_
      refine lv_iload_n hx hb dL_law_1345 rfl (lv_at hl 0 rfl) ?_
      refine lv_iconst (v := 5) hx hb dL_law_1346 (by decide) ?_
      refine lv_iadd hx hb dL_law_1347 ?_
      refine top_i (y := 5) (by decide) ?_
      refine va_sld hx hb hX hbl hbA hS (i_in (a := 5) (by decide) (by omega) (by omega)) dL_law_1348 ?_
      refine top_i (y := x5) e5.symm ?_
      refine go_i (rn_V (As := [.int x1, .int x2, .int x3, .int x4, .int x5]) (rest := [.int (sp_shift (x1.toInt) (x3.toInt))]) hx hb hml hown hts hK (m_shift l J bb g x1 x2 x3 x4 x5 hg) kV_RL_175 (hP.sub (ws' := [((bb 0), .inr (12, [.ref (bb 1), .ref (bb 2), .ref (bb 3), .ref (bb 4), .int 0, .int 0, .int 0, .int 0, .ref (bb 9), .ref (bb 10), .int 0, .ref (bb 12), .int (-1), .int 0, .int 0, .int 0, .int 0, .int 0, .ref (bb 19), .ref (bb 20), .ref (bb 21), .ref (bb 22), .ref (bb 23), .long 0, .long 0, .long 0, .ref (bb 27), .ref (bb 28), .ref (bb 29), .long 0, .int 0, .int (-1), .int 0, .int 0, .int 0, .ref (bb 36), .int 0, .int 0, .ref (bb 39), .ref (bb 40), .int 0, .ref (bb 42), .ref (bb 43), .int 0, .int 0, .int 0, .ref (bb 47), .ref (bb 48), .ref (bb 49), .ref (bb 50)])), ((bb 47), .inl (J.2.1, 6, .inl g))]) [5, 16] rfl) rfl rfl rfl ⟨Nat.le_of_ble_eq_true rfl, Nat.le_of_ble_eq_true rfl⟩ rfl rfl rfl hl.1 rfl (Nat.le_of_ble_eq_true rfl) ⟨Nat.le_of_ble_eq_true rfl, Nat.le_of_ble_eq_true rfl⟩ dL_law_1349) ?_
      refine lv_icmp_eq (tgt := 1413) hx hb dL_law_1352 (by decide) (fun _ => ?_) (fun c => absurd rfl c)
      exact law_end E0 hS (lv_sub hl [0, 1, 2, 3] rfl)
    · refine lv_aload_n hx hb dL_law_1294 rfl (lv_at hl 2 rfl) ?_
      refine lv_aload_n hx hb dL_law_1295 rfl (lv_at hl 3 rfl) ?_
      refine lv_iload_n hx hb dL_law_1296 rfl (lv_at hl 0 rfl) ?_
      refine lv_iconst (v := 1) hx hb dL_law_1297 (by decide) ?_
      refine lv_iadd hx hb dL_law_1298 ?_
      refine top_i (y := 1) (by decide) ?_
      refine va_sld hx hb hX hbl hbA hS (i_in (a := 1) (by decide) (by omega) (by omega)) dL_law_1299 ?_
      refine top_i (y := x1) e1.symm ?_
      refine lv_aload_n hx hb dL_law_1300 rfl (lv_at hl 3 rfl) ?_
      refine lv_iload_n hx hb dL_law_1301 rfl (lv_at hl 0 rfl) ?_
      refine lv_iconst (v := 2) hx hb dL_law_1302 (by decide) ?_
      refine lv_iadd hx hb dL_law_1303 ?_
      refine top_i (y := 2) (by decide) ?_
      refine va_sld hx hb hX hbl hbA hS (i_in (a := 2) (by decide) (by omega) (by omega)) dL_law_1304 ?_
      refine top_i (y := x2) e2.symm ?_
      refine lv_aload_n hx hb dL_law_1305 rfl (lv_at hl 3 rfl) ?_
      refine lv_iload_n hx hb dL_law_1306 rfl (lv_at hl 0 rfl) ?_
      refine lv_iconst (v := 3) hx hb dL_law_1307 (by decide) ?_
      refine lv_iadd hx hb dL_law_1308 ?_
      refine top_i (y := 3) (by decide) ?_
      refine va_sld hx hb hX hbl hbA hS (i_in (a := 3) (by decide) (by omega) (by omega)) dL_law_1309 ?_
      refine top_i (y := x3) e3.symm ?_
      refine lv_aload_n hx hb dL_law_1310 rfl (lv_at hl 3 rfl) ?_
      refine lv_iload_n hx hb dL_law_1311 rfl (lv_at hl 0 rfl) ?_
      refine lv_iconst (v := 4) hx hb dL_law_1312 (by decide) ?_
      refine lv_iadd hx hb dL_law_1313 ?_
      refine top_i (y := 4) (by decide) ?_
      refine va_sld hx hb hX hbl hbA hS (i_in (a := 4) (by decide) (by omega) (by omega)) dL_law_1314 ?_
      refine top_i (y := x4) e4.symm ?_
      refine lv_aload_n hx hb dL_law_1315 rfl (lv_at hl 3 rfl) ?_
      refine lv_iload_n hx hb dL_law_1316 rfl (lv_at hl 0 rfl) ?_
      refine lv_iconst (v := 5) hx hb dL_law_1317 (by decide) ?_
      refine lv_iadd hx hb dL_law_1318 ?_
      refine top_i (y := 5) (by decide) ?_
      refine va_sld hx hb hX hbl hbA hS (i_in (a := 5) (by decide) (by omega) (by omega)) dL_law_1319 ?_
      refine top_i (y := x5) e5.symm ?_
      refine go_i (rn_V (As := [.int x1, .int x2, .int x3, .int x4, .int x5]) (rest := []) hx hb hml hown hts hK (c_shift_01 l J a f s2 x1 x2 x3 x4 x5 hd ho hg2) kV_RL_171 (hP.sub (ws' := [((a 0), .inr (11, [.ref (a 1), .ref (a 6), .ref (a 10), .ref (a 15), .ref (a 17), .ref (a 22), .ref (a 23), .ref (a 30), .ref (a 31), .ref (a 34), .int 0, .ref (a 37), .ref (a 40)])), ((a 40), .inl (J.2.2.2, 6, .inr (.inr (.inr (.inr f)))))]) [0, 26] rfl) rfl rfl rfl ⟨Nat.le_of_ble_eq_true rfl, Nat.le_of_ble_eq_true rfl⟩ rfl rfl rfl hl.1 rfl (Nat.le_of_ble_eq_true rfl) ⟨Nat.le_of_ble_eq_true rfl, Nat.le_of_ble_eq_true rfl⟩ dL_law_1320) ?_
      refine lv_aload_n hx hb dL_law_1323 rfl (lv_at hl 1 rfl) ?_
      refine lv_aload_n hx hb dL_law_1324 rfl (lv_at hl 3 rfl) ?_
      refine lv_iload_n hx hb dL_law_1325 rfl (lv_at hl 0 rfl) ?_
      refine lv_iconst (v := 1) hx hb dL_law_1326 (by decide) ?_
      refine lv_iadd hx hb dL_law_1327 ?_
      refine top_i (y := 1) (by decide) ?_
      refine va_sld hx hb hX hbl hbA hS (i_in (a := 1) (by decide) (by omega) (by omega)) dL_law_1328 ?_
      refine top_i (y := x1) e1.symm ?_
      refine lv_aload_n hx hb dL_law_1329 rfl (lv_at hl 3 rfl) ?_
      refine lv_iload_n hx hb dL_law_1330 rfl (lv_at hl 0 rfl) ?_
      refine lv_iconst (v := 2) hx hb dL_law_1331 (by decide) ?_
      refine lv_iadd hx hb dL_law_1332 ?_
      refine top_i (y := 2) (by decide) ?_
      refine va_sld hx hb hX hbl hbA hS (i_in (a := 2) (by decide) (by omega) (by omega)) dL_law_1333 ?_
      refine top_i (y := x2) e2.symm ?_
      refine lv_aload_n hx hb dL_law_1334 rfl (lv_at hl 3 rfl) ?_
      refine lv_iload_n hx hb dL_law_1335 rfl (lv_at hl 0 rfl) ?_
      refine lv_iconst (v := 3) hx hb dL_law_1336 (by decide) ?_
      refine lv_iadd hx hb dL_law_1337 ?_
      refine top_i (y := 3) (by decide) ?_
      refine va_sld hx hb hX hbl hbA hS (i_in (a := 3) (by decide) (by omega) (by omega)) dL_law_1338 ?_
      refine top_i (y := x3) e3.symm ?_
      refine lv_aload_n hx hb dL_law_1339 rfl (lv_at hl 3 rfl) ?_
      refine lv_iload_n hx hb dL_law_1340 rfl (lv_at hl 0 rfl) ?_
      refine lv_iconst (v := 4) hx hb dL_law_1341 (by decide) ?_
      refine lv_iadd hx hb dL_law_1342 ?_
      refine top_i (y := 4) (by decide) ?_
      refine va_sld hx hb hX hbl hbA hS (i_in (a := 4) (by decide) (by omega) (by omega)) dL_law_1343 ?_
      refine top_i (y := x4) e4.symm ?_
      refine lv_aload_n hx hb dL_law_1344 rfl (lv_at hl 3 rfl) ?_
      refine lv_iload_n hx hb dL_law_1345 rfl (lv_at hl 0 rfl) ?_
      refine lv_iconst (v := 5) hx hb dL_law_1346 (by decide) ?_
      refine lv_iadd hx hb dL_law_1347 ?_
      refine top_i (y := 5) (by decide) ?_
      refine va_sld hx hb hX hbl hbA hS (i_in (a := 5) (by decide) (by omega) (by omega)) dL_law_1348 ?_
      refine top_i (y := x5) e5.symm ?_
      refine go_i (rn_V (As := [.int x1, .int x2, .int x3, .int x4, .int x5]) (rest := [.int (sp_shift (x1.toInt) (x3.toInt))]) hx hb hml hown hts hK (m_shift l J bb g x1 x2 x3 x4 x5 hg) kV_RL_175 (hP.sub (ws' := [((bb 0), .inr (12, [.ref (bb 1), .ref (bb 2), .ref (bb 3), .ref (bb 4), .int 0, .int 0, .int 0, .int 0, .ref (bb 9), .ref (bb 10), .int 0, .ref (bb 12), .int (-1), .int 0, .int 0, .int 0, .int 0, .int 0, .ref (bb 19), .ref (bb 20), .ref (bb 21), .ref (bb 22), .ref (bb 23), .long 0, .long 0, .long 0, .ref (bb 27), .ref (bb 28), .ref (bb 29), .long 0, .int 0, .int (-1), .int 0, .int 0, .int 0, .ref (bb 36), .int 0, .int 0, .ref (bb 39), .ref (bb 40), .int 0, .ref (bb 42), .ref (bb 43), .int 0, .int 0, .int 0, .ref (bb 47), .ref (bb 48), .ref (bb 49), .ref (bb 50)])), ((bb 47), .inl (J.2.1, 6, .inl g))]) [39, 50] rfl) rfl rfl rfl ⟨Nat.le_of_ble_eq_true rfl, Nat.le_of_ble_eq_true rfl⟩ rfl rfl rfl hl.1 rfl (Nat.le_of_ble_eq_true rfl) ⟨Nat.le_of_ble_eq_true rfl, Nat.le_of_ble_eq_true rfl⟩ dL_law_1349) ?_
      refine lv_icmp_eq (tgt := 1413) hx hb dL_law_1352 (by decide) (fun _ => ?_) (fun c => absurd rfl c)
      exact law_end E0 hS (lv_sub hl [0, 1, 2, 3] rfl)
  · by_cases hd : 0 ≤ x1.toInt ∧ x1.toInt ≤ 5
    · obtain ⟨sh, ce, hf, hP, hD⟩ := shx hfx hP hD hd
      refine lv_aload_n hx hb dL_law_1294 rfl (lv_at hl 2 rfl) ?_
      refine lv_aload_n hx hb dL_law_1295 rfl (lv_at hl 3 rfl) ?_
      refine lv_iload_n hx hb dL_law_1296 rfl (lv_at hl 0 rfl) ?_
      refine lv_iconst (v := 1) hx hb dL_law_1297 (by decide) ?_
      refine lv_iadd hx hb dL_law_1298 ?_
      refine top_i (y := 1) (by decide) ?_
      refine va_sld hx hb hX hbl hbA hS (i_in (a := 1) (by decide) (by omega) (by omega)) dL_law_1299 ?_
      refine top_i (y := x1) e1.symm ?_
      refine lv_aload_n hx hb dL_law_1300 rfl (lv_at hl 3 rfl) ?_
      refine lv_iload_n hx hb dL_law_1301 rfl (lv_at hl 0 rfl) ?_
      refine lv_iconst (v := 2) hx hb dL_law_1302 (by decide) ?_
      refine lv_iadd hx hb dL_law_1303 ?_
      refine top_i (y := 2) (by decide) ?_
      refine va_sld hx hb hX hbl hbA hS (i_in (a := 2) (by decide) (by omega) (by omega)) dL_law_1304 ?_
      refine top_i (y := x2) e2.symm ?_
      refine lv_aload_n hx hb dL_law_1305 rfl (lv_at hl 3 rfl) ?_
      refine lv_iload_n hx hb dL_law_1306 rfl (lv_at hl 0 rfl) ?_
      refine lv_iconst (v := 3) hx hb dL_law_1307 (by decide) ?_
      refine lv_iadd hx hb dL_law_1308 ?_
      refine top_i (y := 3) (by decide) ?_
      refine va_sld hx hb hX hbl hbA hS (i_in (a := 3) (by decide) (by omega) (by omega)) dL_law_1309 ?_
      refine top_i (y := x3) e3.symm ?_
      refine lv_aload_n hx hb dL_law_1310 rfl (lv_at hl 3 rfl) ?_
      refine lv_iload_n hx hb dL_law_1311 rfl (lv_at hl 0 rfl) ?_
      refine lv_iconst (v := 4) hx hb dL_law_1312 (by decide) ?_
      refine lv_iadd hx hb dL_law_1313 ?_
      refine top_i (y := 4) (by decide) ?_
      refine va_sld hx hb hX hbl hbA hS (i_in (a := 4) (by decide) (by omega) (by omega)) dL_law_1314 ?_
      refine top_i (y := x4) e4.symm ?_
      refine lv_aload_n hx hb dL_law_1315 rfl (lv_at hl 3 rfl) ?_
      refine lv_iload_n hx hb dL_law_1316 rfl (lv_at hl 0 rfl) ?_
      refine lv_iconst (v := 5) hx hb dL_law_1317 (by decide) ?_
      refine lv_iadd hx hb dL_law_1318 ?_
      refine top_i (y := 5) (by decide) ?_
      refine va_sld hx hb hX hbl hbA hS (i_in (a := 5) (by decide) (by omega) (by omega)) dL_law_1319 ?_
      refine top_i (y := x5) e5.symm ?_
      refine go_i (rn_V (As := [.int x1, .int x2, .int x3, .int x4, .int x5]) (rest := []) hx hb hml hown hts hK (c_shift_10 l J a f sh ce x1 x2 x3 x4 x5 hd ho hf) kV_RL_171 (hP.sub (ws' := [((a 0), .inr (11, [.ref (a 1), .ref (a 6), .ref (a 10), .ref (a 15), .ref (a 17), .ref (a 22), .ref (a 23), .ref (a 30), .ref (a 31), .ref (a 34), .int 0, .ref (a 37), .ref (a 40)])), ((a 40), .inl (J.2.2.2, 6, .inr (.inr (.inr (.inr f))))), (sh, .inr (9, [.ref ce, .int 0, .int 0, .int 0, .int 0]))]) [0, 1, 2] rfl) rfl rfl rfl ⟨Nat.le_of_ble_eq_true rfl, Nat.le_of_ble_eq_true rfl⟩ rfl rfl rfl hl.1 rfl (Nat.le_of_ble_eq_true rfl) ⟨Nat.le_of_ble_eq_true rfl, Nat.le_of_ble_eq_true rfl⟩ dL_law_1320) ?_
      refine lv_aload_n hx hb dL_law_1323 rfl (lv_at hl 1 rfl) ?_
      refine lv_aload_n hx hb dL_law_1324 rfl (lv_at hl 3 rfl) ?_
      refine lv_iload_n hx hb dL_law_1325 rfl (lv_at hl 0 rfl) ?_
      refine lv_iconst (v := 1) hx hb dL_law_1326 (by decide) ?_
      refine lv_iadd hx hb dL_law_1327 ?_
      refine top_i (y := 1) (by decide) ?_
      refine va_sld hx hb hX hbl hbA hS (i_in (a := 1) (by decide) (by omega) (by omega)) dL_law_1328 ?_
      refine top_i (y := x1) e1.symm ?_
      refine lv_aload_n hx hb dL_law_1329 rfl (lv_at hl 3 rfl) ?_
      refine lv_iload_n hx hb dL_law_1330 rfl (lv_at hl 0 rfl) ?_
      refine lv_iconst (v := 2) hx hb dL_law_1331 (by decide) ?_
      refine lv_iadd hx hb dL_law_1332 ?_
      refine top_i (y := 2) (by decide) ?_
      refine va_sld hx hb hX hbl hbA hS (i_in (a := 2) (by decide) (by omega) (by omega)) dL_law_1333 ?_
      refine top_i (y := x2) e2.symm ?_
      refine lv_aload_n hx hb dL_law_1334 rfl (lv_at hl 3 rfl) ?_
      refine lv_iload_n hx hb dL_law_1335 rfl (lv_at hl 0 rfl) ?_
      refine lv_iconst (v := 3) hx hb dL_law_1336 (by decide) ?_
      refine lv_iadd hx hb dL_law_1337 ?_
      refine top_i (y := 3) (by decide) ?_
      refine va_sld hx hb hX hbl hbA hS (i_in (a := 3) (by decide) (by omega) (by omega)) dL_law_1338 ?_
      refine top_i (y := x3) e3.symm ?_
      refine lv_aload_n hx hb dL_law_1339 rfl (lv_at hl 3 rfl) ?_
      refine lv_iload_n hx hb dL_law_1340 rfl (lv_at hl 0 rfl) ?_
      refine lv_iconst (v := 4) hx hb dL_law_1341 (by decide) ?_
      refine lv_iadd hx hb dL_law_1342 ?_
      refine top_i (y := 4) (by decide) ?_
      refine va_sld hx hb hX hbl hbA hS (i_in (a := 4) (by decide) (by omega) (by omega)) dL_law_1343 ?_
      refine top_i (y := x4) e4.symm ?_
      refine lv_aload_n hx hb dL_law_1344 rfl (lv_at hl 3 rfl) ?_
      refine lv_iload_n hx hb dL_law_1345 rfl (lv_at hl 0 rfl) ?_
      refine lv_iconst (v := 5) hx hb dL_law_1346 (by decide) ?_
      refine lv_iadd hx hb dL_law_1347 ?_
      refine top_i (y := 5) (by decide) ?_
      refine va_sld hx hb hX hbl hbA hS (i_in (a := 5) (by decide) (by omega) (by omega)) dL_law_1348 ?_
      refine top_i (y := x5) e5.symm ?_
      refine go_i (rn_V (As := [.int x1, .int x2, .int x3, .int x4, .int x5]) (rest := [.int (sp_shift (x1.toInt) (x3.toInt))]) hx hb hml hown hts hK (m_shift l J bb g x1 x2 x3 x4 x5 hg) kV_RL_175 (hP.sub (ws' := [((bb 0), .inr (12, [.ref (bb 1), .ref (bb 2), .ref (bb 3), .ref (bb 4), .int 0, .int 0, .int 0, .int 0, .ref (bb 9), .ref (bb 10), .int 0, .ref (bb 12), .int (-1), .int 0, .int 0, .int 0, .int 0, .int 0, .ref (bb 19), .ref (bb 20), .ref (bb 21), .ref (bb 22), .ref (bb 23), .long 0, .long 0, .long 0, .ref (bb 27), .ref (bb 28), .ref (bb 29), .long 0, .int 0, .int (-1), .int 0, .int 0, .int 0, .ref (bb 36), .int 0, .int 0, .ref (bb 39), .ref (bb 40), .int 0, .ref (bb 42), .ref (bb 43), .int 0, .int 0, .int 0, .ref (bb 47), .ref (bb 48), .ref (bb 49), .ref (bb 50)])), ((bb 47), .inl (J.2.1, 6, .inl g))]) [5, 16] rfl) rfl rfl rfl ⟨Nat.le_of_ble_eq_true rfl, Nat.le_of_ble_eq_true rfl⟩ rfl rfl rfl hl.1 rfl (Nat.le_of_ble_eq_true rfl) ⟨Nat.le_of_ble_eq_true rfl, Nat.le_of_ble_eq_true rfl⟩ dL_law_1349) ?_
      refine lv_icmp_eq (tgt := 1413) hx hb dL_law_1352 (by decide) (fun _ => ?_) (fun c => absurd rfl c)
      exact law_end E0 hS (lv_sub hl [0, 1, 2, 3] rfl)
    · refine lv_aload_n hx hb dL_law_1294 rfl (lv_at hl 2 rfl) ?_
      refine lv_aload_n hx hb dL_law_1295 rfl (lv_at hl 3 rfl) ?_
      refine lv_iload_n hx hb dL_law_1296 rfl (lv_at hl 0 rfl) ?_
      refine lv_iconst (v := 1) hx hb dL_law_1297 (by decide) ?_
      refine lv_iadd hx hb dL_law_1298 ?_
      refine top_i (y := 1) (by decide) ?_
      refine va_sld hx hb hX hbl hbA hS (i_in (a := 1) (by decide) (by omega) (by omega)) dL_law_1299 ?_
      refine top_i (y := x1) e1.symm ?_
      refine lv_aload_n hx hb dL_law_1300 rfl (lv_at hl 3 rfl) ?_
      refine lv_iload_n hx hb dL_law_1301 rfl (lv_at hl 0 rfl) ?_
      refine lv_iconst (v := 2) hx hb dL_law_1302 (by decide) ?_
      refine lv_iadd hx hb dL_law_1303 ?_
      refine top_i (y := 2) (by decide) ?_
      refine va_sld hx hb hX hbl hbA hS (i_in (a := 2) (by decide) (by omega) (by omega)) dL_law_1304 ?_
      refine top_i (y := x2) e2.symm ?_
      refine lv_aload_n hx hb dL_law_1305 rfl (lv_at hl 3 rfl) ?_
      refine lv_iload_n hx hb dL_law_1306 rfl (lv_at hl 0 rfl) ?_
      refine lv_iconst (v := 3) hx hb dL_law_1307 (by decide) ?_
      refine lv_iadd hx hb dL_law_1308 ?_
      refine top_i (y := 3) (by decide) ?_
      refine va_sld hx hb hX hbl hbA hS (i_in (a := 3) (by decide) (by omega) (by omega)) dL_law_1309 ?_
      refine top_i (y := x3) e3.symm ?_
      refine lv_aload_n hx hb dL_law_1310 rfl (lv_at hl 3 rfl) ?_
      refine lv_iload_n hx hb dL_law_1311 rfl (lv_at hl 0 rfl) ?_
      refine lv_iconst (v := 4) hx hb dL_law_1312 (by decide) ?_
      refine lv_iadd hx hb dL_law_1313 ?_
      refine top_i (y := 4) (by decide) ?_
      refine va_sld hx hb hX hbl hbA hS (i_in (a := 4) (by decide) (by omega) (by omega)) dL_law_1314 ?_
      refine top_i (y := x4) e4.symm ?_
      refine lv_aload_n hx hb dL_law_1315 rfl (lv_at hl 3 rfl) ?_
      refine lv_iload_n hx hb dL_law_1316 rfl (lv_at hl 0 rfl) ?_
      refine lv_iconst (v := 5) hx hb dL_law_1317 (by decide) ?_
      refine lv_iadd hx hb dL_law_1318 ?_
      refine top_i (y := 5) (by decide) ?_
      refine va_sld hx hb hX hbl hbA hS (i_in (a := 5) (by decide) (by omega) (by omega)) dL_law_1319 ?_
      refine top_i (y := x5) e5.symm ?_
      refine go_i (rn_V (As := [.int x1, .int x2, .int x3, .int x4, .int x5]) (rest := []) hx hb hml hown hts hK (c_shift_00 l J a x1 x2 x3 x4 x5 hd ho) kV_RL_171 (hP.sub (ws' := [((a 0), .inr (11, [.ref (a 1), .ref (a 6), .ref (a 10), .ref (a 15), .ref (a 17), .ref (a 22), .ref (a 23), .ref (a 30), .ref (a 31), .ref (a 34), .int 0, .ref (a 37), .ref (a 40)]))]) [0] rfl) rfl rfl rfl ⟨Nat.le_of_ble_eq_true rfl, Nat.le_of_ble_eq_true rfl⟩ rfl rfl rfl hl.1 rfl (Nat.le_of_ble_eq_true rfl) ⟨Nat.le_of_ble_eq_true rfl, Nat.le_of_ble_eq_true rfl⟩ dL_law_1320) ?_
      refine lv_aload_n hx hb dL_law_1323 rfl (lv_at hl 1 rfl) ?_
      refine lv_aload_n hx hb dL_law_1324 rfl (lv_at hl 3 rfl) ?_
      refine lv_iload_n hx hb dL_law_1325 rfl (lv_at hl 0 rfl) ?_
      refine lv_iconst (v := 1) hx hb dL_law_1326 (by decide) ?_
      refine lv_iadd hx hb dL_law_1327 ?_
      refine top_i (y := 1) (by decide) ?_
      refine va_sld hx hb hX hbl hbA hS (i_in (a := 1) (by decide) (by omega) (by omega)) dL_law_1328 ?_
      refine top_i (y := x1) e1.symm ?_
      refine lv_aload_n hx hb dL_law_1329 rfl (lv_at hl 3 rfl) ?_
      refine lv_iload_n hx hb dL_law_1330 rfl (lv_at hl 0 rfl) ?_
      refine lv_iconst (v := 2) hx hb dL_law_1331 (by decide) ?_
      refine lv_iadd hx hb dL_law_1332 ?_
      refine top_i (y := 2) (by decide) ?_
      refine va_sld hx hb hX hbl hbA hS (i_in (a := 2) (by decide) (by omega) (by omega)) dL_law_1333 ?_
      refine top_i (y := x2) e2.symm ?_
      refine lv_aload_n hx hb dL_law_1334 rfl (lv_at hl 3 rfl) ?_
      refine lv_iload_n hx hb dL_law_1335 rfl (lv_at hl 0 rfl) ?_
      refine lv_iconst (v := 3) hx hb dL_law_1336 (by decide) ?_
      refine lv_iadd hx hb dL_law_1337 ?_
      refine top_i (y := 3) (by decide) ?_
      refine va_sld hx hb hX hbl hbA hS (i_in (a := 3) (by decide) (by omega) (by omega)) dL_law_1338 ?_
      refine top_i (y := x3) e3.symm ?_
      refine lv_aload_n hx hb dL_law_1339 rfl (lv_at hl 3 rfl) ?_
      refine lv_iload_n hx hb dL_law_1340 rfl (lv_at hl 0 rfl) ?_
      refine lv_iconst (v := 4) hx hb dL_law_1341 (by decide) ?_
      refine lv_iadd hx hb dL_law_1342 ?_
      refine top_i (y := 4) (by decide) ?_
      refine va_sld hx hb hX hbl hbA hS (i_in (a := 4) (by decide) (by omega) (by omega)) dL_law_1343 ?_
      refine top_i (y := x4) e4.symm ?_
      refine lv_aload_n hx hb dL_law_1344 rfl (lv_at hl 3 rfl) ?_
      refine lv_iload_n hx hb dL_law_1345 rfl (lv_at hl 0 rfl) ?_
      refine lv_iconst (v := 5) hx hb dL_law_1346 (by decide) ?_
      refine lv_iadd hx hb dL_law_1347 ?_
      refine top_i (y := 5) (by decide) ?_
      refine va_sld hx hb hX hbl hbA hS (i_in (a := 5) (by decide) (by omega) (by omega)) dL_law_1348 ?_
      refine top_i (y := x5) e5.symm ?_
      refine go_i (rn_V (As := [.int x1, .int x2, .int x3, .int x4, .int x5]) (rest := [.int (sp_shift (x1.toInt) (x3.toInt))]) hx hb hml hown hts hK (m_shift l J bb g x1 x2 x3 x4 x5 hg) kV_RL_175 (hP.sub (ws' := [((bb 0), .inr (12, [.ref (bb 1), .ref (bb 2), .ref (bb 3), .ref (bb 4), .int 0, .int 0, .int 0, .int 0, .ref (bb 9), .ref (bb 10), .int 0, .ref (bb 12), .int (-1), .int 0, .int 0, .int 0, .int 0, .int 0, .ref (bb 19), .ref (bb 20), .ref (bb 21), .ref (bb 22), .ref (bb 23), .long 0, .long 0, .long 0, .ref (bb 27), .ref (bb 28), .ref (bb 29), .long 0, .int 0, .int (-1), .int 0, .int 0, .int 0, .ref (bb 36), .int 0, .int 0, .ref (bb 39), .ref (bb 40), .int 0, .ref (bb 42), .ref (bb 43), .int 0, .int 0, .int 0, .ref (bb 47), .ref (bb 48), .ref (bb 49), .ref (bb 50)])), ((bb 47), .inl (J.2.1, 6, .inl g))]) [39, 50] rfl) rfl rfl rfl ⟨Nat.le_of_ble_eq_true rfl, Nat.le_of_ble_eq_true rfl⟩ rfl rfl rfl hl.1 rfl (Nat.le_of_ble_eq_true rfl) ⟨Nat.le_of_ble_eq_true rfl, Nat.le_of_ble_eq_true rfl⟩ dL_law_1349) ?_
      refine lv_icmp_eq (tgt := 1413) hx hb dL_law_1352 (by decide) (fun _ => ?_) (fun c => absurd rfl c)
      exact law_end E0 hS (lv_sub hl [0, 1, 2, 3] rfl)
theorem dL_law_1357 : decode cL_law 1357 = .ok (.aload_n 1, 1) := by decide +kernel
theorem dL_law_1358 : decode cL_law 1358 = .ok (.aload_n 0, 1) := by decide +kernel
theorem dL_law_1359 : decode cL_law 1359 = .ok (.iload_n 3, 1) := by decide +kernel
theorem dL_law_1360 : decode cL_law 1360 = .ok (.iconst 1, 1) := by decide +kernel
theorem dL_law_1361 : decode cL_law 1361 = .ok (.iadd, 1) := by decide +kernel
theorem dL_law_1362 : decode cL_law 1362 = .ok (.iaload, 1) := by decide +kernel
theorem dL_law_1363 : decode cL_law 1363 = .ok (.aload_n 0, 1) := by decide +kernel
theorem dL_law_1364 : decode cL_law 1364 = .ok (.iload_n 3, 1) := by decide +kernel
theorem dL_law_1365 : decode cL_law 1365 = .ok (.iconst 2, 1) := by decide +kernel
theorem dL_law_1366 : decode cL_law 1366 = .ok (.iadd, 1) := by decide +kernel
theorem dL_law_1367 : decode cL_law 1367 = .ok (.iaload, 1) := by decide +kernel
theorem q_1241 : Cond.methodLink RL 176 yX11_taken ∈ lw_g := mem_q 1241 (by decide +kernel) rfl
theorem q_1242 : Cond.instanceMethod yX11_taken ∈ lw_g := mem_q 1242 (by decide +kernel) rfl
theorem q_1243 : Cond.selects RX11 yX11_taken yX11_taken ∈ lw_g := mem_q 1243 (by decide +kernel) rfl
theorem q_1244 : Cond.code yX11_taken cX11_taken 4 (some .int) ∈ lw_g := mem_q 1244 (by decide +kernel) rfl
theorem kV_RL_176 : CV RL 176 RX11 yX11_taken cX11_taken 4 (some .int) 2 := cv_of q_1241 q_1242 q_1243 q_103 q_1244 (by decide +kernel)
theorem dL_law_1368 : decode cL_law 1368 = .ok (.invokevirtual 176, 3) := by decide +kernel
theorem dL_law_1371 : decode cL_law 1371 = .ok (.aload_n 2, 1) := by decide +kernel
theorem dL_law_1372 : decode cL_law 1372 = .ok (.aload_n 0, 1) := by decide +kernel
theorem dL_law_1373 : decode cL_law 1373 = .ok (.iload_n 3, 1) := by decide +kernel
theorem dL_law_1374 : decode cL_law 1374 = .ok (.iconst 1, 1) := by decide +kernel
theorem dL_law_1375 : decode cL_law 1375 = .ok (.iadd, 1) := by decide +kernel
theorem dL_law_1376 : decode cL_law 1376 = .ok (.iaload, 1) := by decide +kernel
theorem dL_law_1377 : decode cL_law 1377 = .ok (.aload_n 0, 1) := by decide +kernel
theorem dL_law_1378 : decode cL_law 1378 = .ok (.iload_n 3, 1) := by decide +kernel
theorem dL_law_1379 : decode cL_law 1379 = .ok (.iconst 2, 1) := by decide +kernel
theorem dL_law_1380 : decode cL_law 1380 = .ok (.iadd, 1) := by decide +kernel
theorem dL_law_1381 : decode cL_law 1381 = .ok (.iaload, 1) := by decide +kernel
theorem q_1825 : Cond.methodLink RL 179 yX12_taken ∈ lw_g := mem_q 1825 (by decide +kernel) rfl
theorem q_1826 : Cond.instanceMethod yX12_taken ∈ lw_g := mem_q 1826 (by decide +kernel) rfl
theorem q_1827 : Cond.selects RX12 yX12_taken yX12_taken ∈ lw_g := mem_q 1827 (by decide +kernel) rfl
theorem q_1828 : Cond.code yX12_taken cX12_taken 4 (some .int) ∈ lw_g := mem_q 1828 (by decide +kernel) rfl
theorem kV_RL_179 : CV RL 179 RX12 yX12_taken cX12_taken 4 (some .int) 2 := cv_of q_1825 q_1826 q_1827 q_115 q_1828 (by decide +kernel)
theorem dL_law_1382 : decode cL_law 1382 = .ok (.invokevirtual 179, 3) := by decide +kernel
theorem dL_law_1385 : decode cL_law 1385 = .ok (.if_icmp .eq 28, 3) := by decide +kernel
set_option maxHeartbeats 4000000 in
set_option maxRecDepth 100000 in
/-- taken -/
theorem lk_38 {p : Program} {l : Launch} {e : Env} {s : State} {m : MethodId} {below : List Frame} {meth : Method} {c : Code} {b : Nat} {xs : Nat → Int32} {J : va_J9} {A : Nat → Prop} {H : Heap} {locs : List Loc} {ls : Array Slot} {a bb : Nat → Nat} {f : Nat → Option Nat} {g : Nat → Int32} (E0 : LE p s m meth c b 6 xs J A) (hfx : ∀ j, j < 6 → f j = some (a (41 + j))) (hg : ∀ k, k < 6 → g k = -1) (hP : va_P J.1 cls (xW J a f ++ mW J bb g) H) (hD : va_D A (xW J a f ++ mW J bb g)) (hS : va_S A s.heap H locs) (hl : lv_has ls 4 [(3, .int 0), (2, .ref (bb 0)), (1, .ref (a 0)), (0, .ref b)]) : W p l e room_1 s m #[Value.ref b] below meth c H locs 600000 7302250 (lw_Z below #[Value.ref b] s) (F0 m 1357 ls []) := by
  obtain ⟨hx, hb, hr, hml, hown, hts, hX, hbl, hlk, hK, hA, hAs⟩ := id E0
  have hbA : ¬ A b := fun h => absurd (hAs b h) (Nat.not_le.mpr hbl)
  obtain ⟨x1, e1⟩ : ∃ z : Int32, z = xs 1 := ⟨_, rfl⟩
  obtain ⟨x2, e2⟩ : ∃ z : Int32, z = xs 2 := ⟨_, rfl⟩
  have rg_x1 := i_rng x1
  have rg_x2 := i_rng x2
  by_cases hd : 0 ≤ x1.toInt ∧ x1.toInt ≤ 5
  · obtain ⟨sh, ce, hf, hP, hD⟩ := shx hfx hP hD hd
    refine lv_aload_n hx hb dL_law_1357 rfl (lv_at hl 2 rfl) ?_
    refine lv_aload_n hx hb dL_law_1358 rfl (lv_at hl 3 rfl) ?_
    refine lv_iload_n hx hb dL_law_1359 rfl (lv_at hl 0 rfl) ?_
    refine lv_iconst (v := 1) hx hb dL_law_1360 (by decide) ?_
    refine lv_iadd hx hb dL_law_1361 ?_
    refine top_i (y := 1) (by decide) ?_
    refine va_sld hx hb hX hbl hbA hS (i_in (a := 1) (by decide) (by omega) (by omega)) dL_law_1362 ?_
    refine top_i (y := x1) e1.symm ?_
    refine lv_aload_n hx hb dL_law_1363 rfl (lv_at hl 3 rfl) ?_
    refine lv_iload_n hx hb dL_law_1364 rfl (lv_at hl 0 rfl) ?_
    refine lv_iconst (v := 2) hx hb dL_law_1365 (by decide) ?_
    refine lv_iadd hx hb dL_law_1366 ?_
    refine top_i (y := 2) (by decide) ?_
    refine va_sld hx hb hX hbl hbA hS (i_in (a := 2) (by decide) (by omega) (by omega)) dL_law_1367 ?_
    refine top_i (y := x2) e2.symm ?_
    refine go_i (rn_V (As := [.int x1, .int x2]) (rest := []) hx hb hml hown hts hK (c_taken_in l J a f sh ce x1 x2 ⟨by omega, by omega⟩ hf) kV_RL_176 (hP.sub (ws' := [((a 0), .inr (11, [.ref (a 1), .ref (a 6), .ref (a 10), .ref (a 15), .ref (a 17), .ref (a 22), .ref (a 23), .ref (a 30), .ref (a 31), .ref (a 34), .int 0, .ref (a 37), .ref (a 40)])), ((a 40), .inl (J.2.2.2, 6, .inr (.inr (.inr (.inr f))))), (sh, .inr (9, [.ref ce, .int 0, .int 0, .int 0, .int 0])), ((a 37), .inr (0, [.ref (a 38), .int 0, .ref (a 39), .int 0]))]) [0, 1, 2, 4] rfl) rfl rfl rfl ⟨Nat.le_of_ble_eq_true rfl, Nat.le_of_ble_eq_true rfl⟩ rfl rfl rfl hl.1 rfl (Nat.le_of_ble_eq_true rfl) ⟨Nat.le_of_ble_eq_true rfl, Nat.le_of_ble_eq_true rfl⟩ dL_law_1368) ?_
    refine lv_aload_n hx hb dL_law_1371 rfl (lv_at hl 1 rfl) ?_
    refine lv_aload_n hx hb dL_law_1372 rfl (lv_at hl 3 rfl) ?_
    refine lv_iload_n hx hb dL_law_1373 rfl (lv_at hl 0 rfl) ?_
    refine lv_iconst (v := 1) hx hb dL_law_1374 (by decide) ?_
    refine lv_iadd hx hb dL_law_1375 ?_
    refine top_i (y := 1) (by decide) ?_
    refine va_sld hx hb hX hbl hbA hS (i_in (a := 1) (by decide) (by omega) (by omega)) dL_law_1376 ?_
    refine top_i (y := x1) e1.symm ?_
    refine lv_aload_n hx hb dL_law_1377 rfl (lv_at hl 3 rfl) ?_
    refine lv_iload_n hx hb dL_law_1378 rfl (lv_at hl 0 rfl) ?_
    refine lv_iconst (v := 2) hx hb dL_law_1379 (by decide) ?_
    refine lv_iadd hx hb dL_law_1380 ?_
    refine top_i (y := 2) (by decide) ?_
    refine va_sld hx hb hX hbl hbA hS (i_in (a := 2) (by decide) (by omega) (by omega)) dL_law_1381 ?_
    refine top_i (y := x2) e2.symm ?_
    refine go_i (rn_V (As := [.int x1, .int x2]) (rest := [.int (sp_taken (x1.toInt) (x2.toInt))]) hx hb hml hown hts hK (m_taken l J bb g x1 x2 hg) kV_RL_179 (hP.sub (ws' := [((bb 0), .inr (12, [.ref (bb 1), .ref (bb 2), .ref (bb 3), .ref (bb 4), .int 0, .int 0, .int 0, .int 0, .ref (bb 9), .ref (bb 10), .int 0, .ref (bb 12), .int (-1), .int 0, .int 0, .int 0, .int 0, .int 0, .ref (bb 19), .ref (bb 20), .ref (bb 21), .ref (bb 22), .ref (bb 23), .long 0, .long 0, .long 0, .ref (bb 27), .ref (bb 28), .ref (bb 29), .long 0, .int 0, .int (-1), .int 0, .int 0, .int 0, .ref (bb 36), .int 0, .int 0, .ref (bb 39), .ref (bb 40), .int 0, .ref (bb 42), .ref (bb 43), .int 0, .int 0, .int 0, .ref (bb 47), .ref (bb 48), .ref (bb 49), .ref (bb 50)])), ((bb 47), .inl (J.2.1, 6, .inl g))]) [5, 16] rfl) rfl rfl rfl ⟨Nat.le_of_ble_eq_true rfl, Nat.le_of_ble_eq_true rfl⟩ rfl rfl rfl hl.1 rfl (Nat.le_of_ble_eq_true rfl) ⟨Nat.le_of_ble_eq_true rfl, Nat.le_of_ble_eq_true rfl⟩ dL_law_1382) ?_
    refine lv_icmp_eq (tgt := 1413) hx hb dL_law_1385 (by decide) (fun _ => ?_) (fun c => absurd rfl c)
    exact law_end E0 hS (lv_sub hl [0, 1, 2, 3] rfl)
  · refine lv_aload_n hx hb dL_law_1357 rfl (lv_at hl 2 rfl) ?_
    refine lv_aload_n hx hb dL_law_1358 rfl (lv_at hl 3 rfl) ?_
    refine lv_iload_n hx hb dL_law_1359 rfl (lv_at hl 0 rfl) ?_
    refine lv_iconst (v := 1) hx hb dL_law_1360 (by decide) ?_
    refine lv_iadd hx hb dL_law_1361 ?_
    refine top_i (y := 1) (by decide) ?_
    refine va_sld hx hb hX hbl hbA hS (i_in (a := 1) (by decide) (by omega) (by omega)) dL_law_1362 ?_
    refine top_i (y := x1) e1.symm ?_
    refine lv_aload_n hx hb dL_law_1363 rfl (lv_at hl 3 rfl) ?_
    refine lv_iload_n hx hb dL_law_1364 rfl (lv_at hl 0 rfl) ?_
    refine lv_iconst (v := 2) hx hb dL_law_1365 (by decide) ?_
    refine lv_iadd hx hb dL_law_1366 ?_
    refine top_i (y := 2) (by decide) ?_
    refine va_sld hx hb hX hbl hbA hS (i_in (a := 2) (by decide) (by omega) (by omega)) dL_law_1367 ?_
    refine top_i (y := x2) e2.symm ?_
    refine go_i (rn_V (As := [.int x1, .int x2]) (rest := []) hx hb hml hown hts hK (c_taken_out l J a x1 x2 (by omega)) kV_RL_176 (hP.sub (ws' := [((a 0), .inr (11, [.ref (a 1), .ref (a 6), .ref (a 10), .ref (a 15), .ref (a 17), .ref (a 22), .ref (a 23), .ref (a 30), .ref (a 31), .ref (a 34), .int 0, .ref (a 37), .ref (a 40)]))]) [0] rfl) rfl rfl rfl ⟨Nat.le_of_ble_eq_true rfl, Nat.le_of_ble_eq_true rfl⟩ rfl rfl rfl hl.1 rfl (Nat.le_of_ble_eq_true rfl) ⟨Nat.le_of_ble_eq_true rfl, Nat.le_of_ble_eq_true rfl⟩ dL_law_1368) ?_
    refine lv_aload_n hx hb dL_law_1371 rfl (lv_at hl 1 rfl) ?_
    refine lv_aload_n hx hb dL_law_1372 rfl (lv_at hl 3 rfl) ?_
    refine lv_iload_n hx hb dL_law_1373 rfl (lv_at hl 0 rfl) ?_
    refine lv_iconst (v := 1) hx hb dL_law_1374 (by decide) ?_
    refine lv_iadd hx hb dL_law_1375 ?_
    refine top_i (y := 1) (by decide) ?_
    refine va_sld hx hb hX hbl hbA hS (i_in (a := 1) (by decide) (by omega) (by omega)) dL_law_1376 ?_
    refine top_i (y := x1) e1.symm ?_
    refine lv_aload_n hx hb dL_law_1377 rfl (lv_at hl 3 rfl) ?_
    refine lv_iload_n hx hb dL_law_1378 rfl (lv_at hl 0 rfl) ?_
    refine lv_iconst (v := 2) hx hb dL_law_1379 (by decide) ?_
    refine lv_iadd hx hb dL_law_1380 ?_
    refine top_i (y := 2) (by decide) ?_
    refine va_sld hx hb hX hbl hbA hS (i_in (a := 2) (by decide) (by omega) (by omega)) dL_law_1381 ?_
    refine top_i (y := x2) e2.symm ?_
    refine go_i (rn_V (As := [.int x1, .int x2]) (rest := [.int (sp_taken (x1.toInt) (x2.toInt))]) hx hb hml hown hts hK (m_taken l J bb g x1 x2 hg) kV_RL_179 (hP.sub (ws' := [((bb 0), .inr (12, [.ref (bb 1), .ref (bb 2), .ref (bb 3), .ref (bb 4), .int 0, .int 0, .int 0, .int 0, .ref (bb 9), .ref (bb 10), .int 0, .ref (bb 12), .int (-1), .int 0, .int 0, .int 0, .int 0, .int 0, .ref (bb 19), .ref (bb 20), .ref (bb 21), .ref (bb 22), .ref (bb 23), .long 0, .long 0, .long 0, .ref (bb 27), .ref (bb 28), .ref (bb 29), .long 0, .int 0, .int (-1), .int 0, .int 0, .int 0, .ref (bb 36), .int 0, .int 0, .ref (bb 39), .ref (bb 40), .int 0, .ref (bb 42), .ref (bb 43), .int 0, .int 0, .int 0, .ref (bb 47), .ref (bb 48), .ref (bb 49), .ref (bb 50)])), ((bb 47), .inl (J.2.1, 6, .inl g))]) [39, 50] rfl) rfl rfl rfl ⟨Nat.le_of_ble_eq_true rfl, Nat.le_of_ble_eq_true rfl⟩ rfl rfl rfl hl.1 rfl (Nat.le_of_ble_eq_true rfl) ⟨Nat.le_of_ble_eq_true rfl, Nat.le_of_ble_eq_true rfl⟩ dL_law_1382) ?_
    refine lv_icmp_eq (tgt := 1413) hx hb dL_law_1385 (by decide) (fun _ => ?_) (fun c => absurd rfl c)
    exact law_end E0 hS (lv_sub hl [0, 1, 2, 3] rfl)
theorem dL_law_1390 : decode cL_law 1390 = .ok (.aload_n 1, 1) := by decide +kernel
theorem dL_law_1391 : decode cL_law 1391 = .ok (.aload_n 0, 1) := by decide +kernel
theorem dL_law_1392 : decode cL_law 1392 = .ok (.iload_n 3, 1) := by decide +kernel
theorem dL_law_1393 : decode cL_law 1393 = .ok (.iconst 1, 1) := by decide +kernel
theorem dL_law_1394 : decode cL_law 1394 = .ok (.iadd, 1) := by decide +kernel
theorem dL_law_1395 : decode cL_law 1395 = .ok (.iaload, 1) := by decide +kernel
theorem q_1254 : Cond.methodLink RL 180 yX11_count ∈ lw_g := mem_q 1254 (by decide +kernel) rfl
theorem q_1255 : Cond.instanceMethod yX11_count ∈ lw_g := mem_q 1255 (by decide +kernel) rfl
theorem q_1256 : Cond.selects RX11 yX11_count yX11_count ∈ lw_g := mem_q 1256 (by decide +kernel) rfl
theorem q_1257 : Cond.code yX11_count cX11_count 2 (some .int) ∈ lw_g := mem_q 1257 (by decide +kernel) rfl
theorem kV_RL_180 : CV RL 180 RX11 yX11_count cX11_count 2 (some .int) 1 := cv_of q_1254 q_1255 q_1256 q_103 q_1257 (by decide +kernel)
theorem dL_law_1396 : decode cL_law 1396 = .ok (.invokevirtual 180, 3) := by decide +kernel
theorem dL_law_1399 : decode cL_law 1399 = .ok (.aload_n 2, 1) := by decide +kernel
theorem dL_law_1400 : decode cL_law 1400 = .ok (.aload_n 0, 1) := by decide +kernel
theorem dL_law_1401 : decode cL_law 1401 = .ok (.iload_n 3, 1) := by decide +kernel
theorem dL_law_1402 : decode cL_law 1402 = .ok (.iconst 1, 1) := by decide +kernel
theorem dL_law_1403 : decode cL_law 1403 = .ok (.iadd, 1) := by decide +kernel
theorem dL_law_1404 : decode cL_law 1404 = .ok (.iaload, 1) := by decide +kernel
theorem q_1836 : Cond.methodLink RL 183 yX12_count ∈ lw_g := mem_q 1836 (by decide +kernel) rfl
theorem q_1837 : Cond.instanceMethod yX12_count ∈ lw_g := mem_q 1837 (by decide +kernel) rfl
theorem q_1838 : Cond.selects RX12 yX12_count yX12_count ∈ lw_g := mem_q 1838 (by decide +kernel) rfl
theorem q_1839 : Cond.code yX12_count cX12_count 2 (some .int) ∈ lw_g := mem_q 1839 (by decide +kernel) rfl
theorem kV_RL_183 : CV RL 183 RX12 yX12_count cX12_count 2 (some .int) 1 := cv_of q_1836 q_1837 q_1838 q_115 q_1839 (by decide +kernel)
theorem dL_law_1405 : decode cL_law 1405 = .ok (.invokevirtual 183, 3) := by decide +kernel
theorem dL_law_1408 : decode cL_law 1408 = .ok (.if_icmp .eq 5, 3) := by decide +kernel
set_option maxHeartbeats 4000000 in
set_option maxRecDepth 100000 in
/-- count -/
theorem lk_39 {p : Program} {l : Launch} {e : Env} {s : State} {m : MethodId} {below : List Frame} {meth : Method} {c : Code} {b : Nat} {xs : Nat → Int32} {J : va_J9} {A : Nat → Prop} {H : Heap} {locs : List Loc} {ls : Array Slot} {a bb : Nat → Nat} {f : Nat → Option Nat} {g : Nat → Int32} (E0 : LE p s m meth c b 6 xs J A) (hfx : ∀ j, j < 6 → f j = some (a (41 + j))) (hg : ∀ k, k < 6 → g k = -1) (hP : va_P J.1 cls (xW J a f ++ mW J bb g) H) (hD : va_D A (xW J a f ++ mW J bb g)) (hS : va_S A s.heap H locs) (hl : lv_has ls 4 [(3, .int 0), (2, .ref (bb 0)), (1, .ref (a 0)), (0, .ref b)]) : W p l e room_1 s m #[Value.ref b] below meth c H locs 600000 7302250 (lw_Z below #[Value.ref b] s) (F0 m 1390 ls []) := by
  obtain ⟨hx, hb, hr, hml, hown, hts, hX, hbl, hlk, hK, hA, hAs⟩ := id E0
  have hbA : ¬ A b := fun h => absurd (hAs b h) (Nat.not_le.mpr hbl)
  obtain ⟨x1, e1⟩ : ∃ z : Int32, z = xs 1 := ⟨_, rfl⟩
  have rg_x1 := i_rng x1
  refine lv_aload_n hx hb dL_law_1390 rfl (lv_at hl 2 rfl) ?_
  refine lv_aload_n hx hb dL_law_1391 rfl (lv_at hl 3 rfl) ?_
  refine lv_iload_n hx hb dL_law_1392 rfl (lv_at hl 0 rfl) ?_
  refine lv_iconst (v := 1) hx hb dL_law_1393 (by decide) ?_
  refine lv_iadd hx hb dL_law_1394 ?_
  refine top_i (y := 1) (by decide) ?_
  refine va_sld hx hb hX hbl hbA hS (i_in (a := 1) (by decide) (by omega) (by omega)) dL_law_1395 ?_
  refine top_i (y := x1) e1.symm ?_
  refine go_i (rn_V (As := [.int x1]) (rest := []) hx hb hml hown hts hK (c_count l J a x1) kV_RL_180 (hP.sub (ws' := [((a 0), .inr (11, [.ref (a 1), .ref (a 6), .ref (a 10), .ref (a 15), .ref (a 17), .ref (a 22), .ref (a 23), .ref (a 30), .ref (a 31), .ref (a 34), .int 0, .ref (a 37), .ref (a 40)])), ((a 6), .inr (10, [.ref (a 1), .ref (a 7), .ref (a 8), .ref (a 9), .int 0, .int 0, .int 0, .int 0, .int 1, .int 0, .int 0])), ((a 1), .inr (7, [.ref (a 2), .int 0, .ref (a 3), .int 0, .int 0, .int 0, .ref (a 4), .int 0, .ref (a 5), .int 0])), ((a 10), .inr (2, [.ref (a 6), .ref (a 11), .ref (a 12), .ref (a 13), .ref (a 14), .int 0, .int 0])), ((a 37), .inr (0, [.ref (a 38), .int 0, .ref (a 39), .int 0]))]) [0, 4, 1, 8, 24] rfl) rfl rfl rfl ⟨Nat.le_of_ble_eq_true rfl, Nat.le_of_ble_eq_true rfl⟩ rfl rfl rfl hl.1 rfl (Nat.le_of_ble_eq_true rfl) ⟨Nat.le_of_ble_eq_true rfl, Nat.le_of_ble_eq_true rfl⟩ dL_law_1396) ?_
  refine lv_aload_n hx hb dL_law_1399 rfl (lv_at hl 1 rfl) ?_
  refine lv_aload_n hx hb dL_law_1400 rfl (lv_at hl 3 rfl) ?_
  refine lv_iload_n hx hb dL_law_1401 rfl (lv_at hl 0 rfl) ?_
  refine lv_iconst (v := 1) hx hb dL_law_1402 (by decide) ?_
  refine lv_iadd hx hb dL_law_1403 ?_
  refine top_i (y := 1) (by decide) ?_
  refine va_sld hx hb hX hbl hbA hS (i_in (a := 1) (by decide) (by omega) (by omega)) dL_law_1404 ?_
  refine top_i (y := x1) e1.symm ?_
  refine go_i (rn_V (As := [.int x1]) (rest := [.int (sp_count (x1.toInt))]) hx hb hml hown hts hK (m_count l J bb x1) kV_RL_183 (hP.sub (ws' := [((bb 0), .inr (12, [.ref (bb 1), .ref (bb 2), .ref (bb 3), .ref (bb 4), .int 0, .int 0, .int 0, .int 0, .ref (bb 9), .ref (bb 10), .int 0, .ref (bb 12), .int (-1), .int 0, .int 0, .int 0, .int 0, .int 0, .ref (bb 19), .ref (bb 20), .ref (bb 21), .ref (bb 22), .ref (bb 23), .long 0, .long 0, .long 0, .ref (bb 27), .ref (bb 28), .ref (bb 29), .long 0, .int 0, .int (-1), .int 0, .int 0, .int 0, .ref (bb 36), .int 0, .int 0, .ref (bb 39), .ref (bb 40), .int 0, .ref (bb 42), .ref (bb 43), .int 0, .int 0, .int 0, .ref (bb 47), .ref (bb 48), .ref (bb 49), .ref (bb 50)]))]) [39] rfl) rfl rfl rfl ⟨Nat.le_of_ble_eq_true rfl, Nat.le_of_ble_eq_true rfl⟩ rfl rfl rfl hl.1 rfl (Nat.le_of_ble_eq_true rfl) ⟨Nat.le_of_ble_eq_true rfl, Nat.le_of_ble_eq_true rfl⟩ dL_law_1405) ?_
  refine lv_icmp_eq (tgt := 1413) hx hb dL_law_1408 (by decide) (fun _ => ?_) (fun c => absurd rfl c)
  exact law_end E0 hS (lv_sub hl [0, 1, 2, 3] rfl)
