theorem dL_law_208 : decode cL_law 208 = .ok (.aload_n 1, 1) := by decide +kernel
theorem dL_law_209 : decode cL_law 209 = .ok (.aload_n 0, 1) := by decide +kernel
theorem dL_law_210 : decode cL_law 210 = .ok (.iload_n 3, 1) := by decide +kernel
theorem dL_law_211 : decode cL_law 211 = .ok (.iconst 1, 1) := by decide +kernel
theorem dL_law_212 : decode cL_law 212 = .ok (.iadd, 1) := by decide +kernel
theorem dL_law_213 : decode cL_law 213 = .ok (.iaload, 1) := by decide +kernel
theorem q_500 : Cond.methodLink RL 13 yX11_hole ∈ lw_g := mem_q 500 (by decide +kernel) rfl
theorem q_501 : Cond.instanceMethod yX11_hole ∈ lw_g := mem_q 501 (by decide +kernel) rfl
theorem q_502 : Cond.selects RX11 yX11_hole yX11_hole ∈ lw_g := mem_q 502 (by decide +kernel) rfl
theorem q_503 : Cond.code yX11_hole cX11_hole 3 (some .int) ∈ lw_g := mem_q 503 (by decide +kernel) rfl
theorem kV_RL_13 : CV RL 13 RX11 yX11_hole cX11_hole 3 (some .int) 1 := cv_of q_500 q_501 q_502 q_103 q_503 (by decide +kernel)
theorem dL_law_214 : decode cL_law 214 = .ok (.invokevirtual 13, 3) := by decide +kernel
theorem dL_law_217 : decode cL_law 217 = .ok (.aload_n 2, 1) := by decide +kernel
theorem dL_law_218 : decode cL_law 218 = .ok (.aload_n 0, 1) := by decide +kernel
theorem dL_law_219 : decode cL_law 219 = .ok (.iload_n 3, 1) := by decide +kernel
theorem dL_law_220 : decode cL_law 220 = .ok (.iconst 1, 1) := by decide +kernel
theorem dL_law_221 : decode cL_law 221 = .ok (.iadd, 1) := by decide +kernel
theorem dL_law_222 : decode cL_law 222 = .ok (.iaload, 1) := by decide +kernel
theorem q_1425 : Cond.methodLink RL 17 yX12_hole ∈ lw_g := mem_q 1425 (by decide +kernel) rfl
theorem q_1426 : Cond.instanceMethod yX12_hole ∈ lw_g := mem_q 1426 (by decide +kernel) rfl
theorem q_1427 : Cond.selects RX12 yX12_hole yX12_hole ∈ lw_g := mem_q 1427 (by decide +kernel) rfl
theorem q_1428 : Cond.code yX12_hole cX12_hole 2 (some .int) ∈ lw_g := mem_q 1428 (by decide +kernel) rfl
theorem kV_RL_17 : CV RL 17 RX12 yX12_hole cX12_hole 2 (some .int) 1 := cv_of q_1425 q_1426 q_1427 q_115 q_1428 (by decide +kernel)
theorem dL_law_223 : decode cL_law 223 = .ok (.invokevirtual 17, 3) := by decide +kernel
theorem dL_law_226 : decode cL_law 226 = .ok (.if_icmp .eq 1187, 3) := by decide +kernel
set_option maxHeartbeats 4000000 in
set_option maxRecDepth 100000 in
/-- hole -/
theorem lk_0 {p : Program} {l : Launch} {e : Env} {s : State} {m : MethodId} {below : List Frame} {meth : Method} {c : Code} {b : Nat} {xs : Nat → Int32} {J : va_J9} {A : Nat → Prop} {H : Heap} {locs : List Loc} {ls : Array Slot} {a bb : Nat → Nat} {f : Nat → Option Nat} {g : Nat → Int32} (E0 : LE p s m meth c b 6 xs J A) (hfx : ∀ j, j < 6 → f j = some (a (41 + j))) (hg : ∀ k, k < 6 → g k = -1) (hP : va_P J.1 cls (xW J a f ++ mW J bb g) H) (hD : va_D A (xW J a f ++ mW J bb g)) (hS : va_S A s.heap H locs) (hl : lv_has ls 4 [(3, .int 0), (2, .ref (bb 0)), (1, .ref (a 0)), (0, .ref b)]) : W p l e room_1 s m #[Value.ref b] below meth c H locs 600000 7302250 (lw_Z below #[Value.ref b] s) (F0 m 208 ls []) := by
  obtain ⟨hx, hb, hr, hml, hown, hts, hX, hbl, hlk, hK, hA, hAs⟩ := id E0
  have hbA : ¬ A b := fun h => absurd (hAs b h) (Nat.not_le.mpr hbl)
  obtain ⟨x1, e1⟩ : ∃ z : Int32, z = xs 1 := ⟨_, rfl⟩
  have rg_x1 := i_rng x1
  refine lv_aload_n hx hb dL_law_208 rfl (lv_at hl 2 rfl) ?_
  refine lv_aload_n hx hb dL_law_209 rfl (lv_at hl 3 rfl) ?_
  refine lv_iload_n hx hb dL_law_210 rfl (lv_at hl 0 rfl) ?_
  refine lv_iconst (v := 1) hx hb dL_law_211 (by decide) ?_
  refine lv_iadd hx hb dL_law_212 ?_
  refine top_i (y := 1) (by decide) ?_
  refine va_sld hx hb hX hbl hbA hS (i_in (a := 1) (by decide) (by omega) (by omega)) dL_law_213 ?_
  refine top_i (y := x1) e1.symm ?_
  refine gw_i (wc := [((a 0), .inr (11, [.ref (a 1), .ref (a 6), .ref (a 10), .ref (a 15), .ref (a 17), .ref (a 22), .ref (a 23), .ref (a 30), .ref (a 31), .ref (a 34), .int 0, .ref (a 37), .ref (a 40)])), ((a 6), .inr (10, [.ref (a 1), .ref (a 7), .ref (a 8), .ref (a 9), .int 0, .int 0, .int 0, .int 0, .int 1, .int 0, .int 0])), ((a 7), .inl (J.2.1, 10, .inl (fun _ => 0))), ((a 8), .inl (J.2.1, 10, .inl (fun _ => 0))), ((a 9), .inl (J.2.1, 10, .inl (fun _ => 0))), ((a 1), .inr (7, [.ref (a 2), .int 0, .ref (a 3), .int 0, .int 0, .int 0, .ref (a 4), .int 0, .ref (a 5), .int 0]))]) (wr := [((bb 0), .inr (12, [.ref (bb 1), .ref (bb 2), .ref (bb 3), .ref (bb 4), .int 0, .int 0, .int 0, .int 0, .ref (bb 9), .ref (bb 10), .int 0, .ref (bb 12), .int (-1), .int 0, .int 0, .int 0, .int 0, .int 0, .ref (bb 19), .ref (bb 20), .ref (bb 21), .ref (bb 22), .ref (bb 23), .long 0, .long 0, .long 0, .ref (bb 27), .ref (bb 28), .ref (bb 29), .long 0, .int 0, .int (-1), .int 0, .int 0, .int 0, .ref (bb 36), .int 0, .int 0, .ref (bb 39), .ref (bb 40), .int 0, .ref (bb 42), .ref (bb 43), .int 0, .int 0, .int 0, .ref (bb 47), .ref (bb 48), .ref (bb 49), .ref (bb 50)])), ((bb 1), .inl (J.2.1, 22, .inl (upd (fun _ => 0) (20 : Int32).toNatClampNeg 1))), ((bb 2), .inl (J.2.1, 40, .inl (fun _ => 0))), ((bb 3), .inl (J.2.1, 40, .inl (fun _ => 0))), ((bb 4), .inl (J.2.1, 40, .inl (fun _ => 0))), ((bb 10), .inl (J.2.1, 120, .inl (fun _ => 0))), ((bb 21), .inl (J.2.1, 7168, .inl (fun _ => 0))), ((bb 39), .inl (J.2.1, 5, .inl (fun _ => 0))), ((bb 40), .inl (J.2.1, 10, .inl (fun _ => 0))), ((bb 36), .inl (J.2.1, 10, .inl (fun _ => 0))), ((bb 42), .inl (J.2.1, 50, .inl (fun _ => 0))), ((bb 47), .inl (J.2.1, 6, .inl g)), ((bb 48), .inl (J.2.1, 6, .inl (fun _ => 0))), ((bb 49), .inl (J.2.2.1, 360, .inr (.inl (fun _ => 0))))]) hP hD hS hA [0, 4, 5, 6, 7, 1] [39, 40, 41, 42, 43, 44, 45, 46, 47, 48, 49, 50, 51, 52] rfl rfl (by decide) (by decide) (wn_V (As := [.int x1]) (rest := []) hx hb hml hown hts hK (c_hole l J _ a x1) kV_RL_13 (hP.sub (ws' := [((a 0), .inr (11, [.ref (a 1), .ref (a 6), .ref (a 10), .ref (a 15), .ref (a 17), .ref (a 22), .ref (a 23), .ref (a 30), .ref (a 31), .ref (a 34), .int 0, .ref (a 37), .ref (a 40)])), ((a 6), .inr (10, [.ref (a 1), .ref (a 7), .ref (a 8), .ref (a 9), .int 0, .int 0, .int 0, .int 0, .int 1, .int 0, .int 0])), ((a 7), .inl (J.2.1, 10, .inl (fun _ => 0))), ((a 8), .inl (J.2.1, 10, .inl (fun _ => 0))), ((a 9), .inl (J.2.1, 10, .inl (fun _ => 0))), ((a 1), .inr (7, [.ref (a 2), .int 0, .ref (a 3), .int 0, .int 0, .int 0, .ref (a 4), .int 0, .ref (a 5), .int 0]))]) [0, 4, 5, 6, 7, 1] rfl) ((hD.sub (ws' := [((a 0), .inr (11, [.ref (a 1), .ref (a 6), .ref (a 10), .ref (a 15), .ref (a 17), .ref (a 22), .ref (a 23), .ref (a 30), .ref (a 31), .ref (a 34), .int 0, .ref (a 37), .ref (a 40)])), ((a 6), .inr (10, [.ref (a 1), .ref (a 7), .ref (a 8), .ref (a 9), .int 0, .int 0, .int 0, .int 0, .int 1, .int 0, .int 0])), ((a 7), .inl (J.2.1, 10, .inl (fun _ => 0))), ((a 8), .inl (J.2.1, 10, .inl (fun _ => 0))), ((a 9), .inl (J.2.1, 10, .inl (fun _ => 0))), ((a 1), .inr (7, [.ref (a 2), .int 0, .ref (a 3), .int 0, .int 0, .int 0, .ref (a 4), .int 0, .ref (a 5), .int 0]))]) [0, 4, 5, 6, 7, 1] (by decide) rfl).weaken (fun _ _ _ _ => trivial)) rfl rfl rfl ⟨Nat.le_of_ble_eq_true rfl, Nat.le_of_ble_eq_true rfl⟩ rfl rfl rfl hl.1 rfl (Nat.le_of_ble_eq_true rfl) ⟨Nat.le_of_ble_eq_true rfl, Nat.le_of_ble_eq_true rfl⟩ dL_law_214) (fun r2 u1 H locs hw hP hD hS => ?_)
  subst hw
  have hP : va_P J.1 cls [((bb 0), .inr (12, [.ref (bb 1), .ref (bb 2), .ref (bb 3), .ref (bb 4), .int 0, .int 0, .int 0, .int 0, .ref (bb 9), .ref (bb 10), .int 0, .ref (bb 12), .int (-1), .int 0, .int 0, .int 0, .int 0, .int 0, .ref (bb 19), .ref (bb 20), .ref (bb 21), .ref (bb 22), .ref (bb 23), .long 0, .long 0, .long 0, .ref (bb 27), .ref (bb 28), .ref (bb 29), .long 0, .int 0, .int (-1), .int 0, .int 0, .int 0, .ref (bb 36), .int 0, .int 0, .ref (bb 39), .ref (bb 40), .int 0, .ref (bb 42), .ref (bb 43), .int 0, .int 0, .int 0, .ref (bb 47), .ref (bb 48), .ref (bb 49), .ref (bb 50)])), ((bb 1), .inl (J.2.1, 22, .inl (upd (fun _ => 0) (20 : Int32).toNatClampNeg 1))), ((bb 2), .inl (J.2.1, 40, .inl (fun _ => 0))), ((bb 3), .inl (J.2.1, 40, .inl (fun _ => 0))), ((bb 4), .inl (J.2.1, 40, .inl (fun _ => 0))), ((bb 10), .inl (J.2.1, 120, .inl (fun _ => 0))), ((bb 21), .inl (J.2.1, 7168, .inl (fun _ => 0))), ((bb 39), .inl (J.2.1, 5, .inl (fun _ => 0))), ((bb 40), .inl (J.2.1, 10, .inl (fun _ => 0))), ((bb 36), .inl (J.2.1, 10, .inl (fun _ => 0))), ((bb 42), .inl (J.2.1, 50, .inl (fun _ => 0))), ((bb 47), .inl (J.2.1, 6, .inl g)), ((bb 48), .inl (J.2.1, 6, .inl (fun _ => 0))), ((bb 49), .inl (J.2.2.1, 360, .inr (.inl (fun _ => 0))))] H := hP
  have hD : va_D A [((bb 0), .inr (12, [.ref (bb 1), .ref (bb 2), .ref (bb 3), .ref (bb 4), .int 0, .int 0, .int 0, .int 0, .ref (bb 9), .ref (bb 10), .int 0, .ref (bb 12), .int (-1), .int 0, .int 0, .int 0, .int 0, .int 0, .ref (bb 19), .ref (bb 20), .ref (bb 21), .ref (bb 22), .ref (bb 23), .long 0, .long 0, .long 0, .ref (bb 27), .ref (bb 28), .ref (bb 29), .long 0, .int 0, .int (-1), .int 0, .int 0, .int 0, .ref (bb 36), .int 0, .int 0, .ref (bb 39), .ref (bb 40), .int 0, .ref (bb 42), .ref (bb 43), .int 0, .int 0, .int 0, .ref (bb 47), .ref (bb 48), .ref (bb 49), .ref (bb 50)])), ((bb 1), .inl (J.2.1, 22, .inl (upd (fun _ => 0) (20 : Int32).toNatClampNeg 1))), ((bb 2), .inl (J.2.1, 40, .inl (fun _ => 0))), ((bb 3), .inl (J.2.1, 40, .inl (fun _ => 0))), ((bb 4), .inl (J.2.1, 40, .inl (fun _ => 0))), ((bb 10), .inl (J.2.1, 120, .inl (fun _ => 0))), ((bb 21), .inl (J.2.1, 7168, .inl (fun _ => 0))), ((bb 39), .inl (J.2.1, 5, .inl (fun _ => 0))), ((bb 40), .inl (J.2.1, 10, .inl (fun _ => 0))), ((bb 36), .inl (J.2.1, 10, .inl (fun _ => 0))), ((bb 42), .inl (J.2.1, 50, .inl (fun _ => 0))), ((bb 47), .inl (J.2.1, 6, .inl g)), ((bb 48), .inl (J.2.1, 6, .inl (fun _ => 0))), ((bb 49), .inl (J.2.2.1, 360, .inr (.inl (fun _ => 0))))] := hD
  refine W.widen (k := 600000) (n := 7302250) (Nat.le_of_ble_eq_true rfl) (Nat.le_of_ble_eq_true rfl) ?_
  refine lv_aload_n hx hb dL_law_217 rfl (lv_at hl 1 rfl) ?_
  refine lv_aload_n hx hb dL_law_218 rfl (lv_at hl 3 rfl) ?_
  refine lv_iload_n hx hb dL_law_219 rfl (lv_at hl 0 rfl) ?_
  refine lv_iconst (v := 1) hx hb dL_law_220 (by decide) ?_
  refine lv_iadd hx hb dL_law_221 ?_
  refine top_i (y := 1) (by decide) ?_
  refine va_sld hx hb hX hbl hbA hS (i_in (a := 1) (by decide) (by omega) (by omega)) dL_law_222 ?_
  refine top_i (y := x1) e1.symm ?_
  refine gw_i (wc := [((bb 0), .inr (12, [.ref (bb 1), .ref (bb 2), .ref (bb 3), .ref (bb 4), .int 0, .int 0, .int 0, .int 0, .ref (bb 9), .ref (bb 10), .int 0, .ref (bb 12), .int (-1), .int 0, .int 0, .int 0, .int 0, .int 0, .ref (bb 19), .ref (bb 20), .ref (bb 21), .ref (bb 22), .ref (bb 23), .long 0, .long 0, .long 0, .ref (bb 27), .ref (bb 28), .ref (bb 29), .long 0, .int 0, .int (-1), .int 0, .int 0, .int 0, .ref (bb 36), .int 0, .int 0, .ref (bb 39), .ref (bb 40), .int 0, .ref (bb 42), .ref (bb 43), .int 0, .int 0, .int 0, .ref (bb 47), .ref (bb 48), .ref (bb 49), .ref (bb 50)])), ((bb 1), .inl (J.2.1, 22, .inl (upd (fun _ => 0) (20 : Int32).toNatClampNeg 1)))]) (wr := [((bb 2), .inl (J.2.1, 40, .inl (fun _ => 0))), ((bb 3), .inl (J.2.1, 40, .inl (fun _ => 0))), ((bb 4), .inl (J.2.1, 40, .inl (fun _ => 0))), ((bb 10), .inl (J.2.1, 120, .inl (fun _ => 0))), ((bb 21), .inl (J.2.1, 7168, .inl (fun _ => 0))), ((bb 39), .inl (J.2.1, 5, .inl (fun _ => 0))), ((bb 40), .inl (J.2.1, 10, .inl (fun _ => 0))), ((bb 36), .inl (J.2.1, 10, .inl (fun _ => 0))), ((bb 42), .inl (J.2.1, 50, .inl (fun _ => 0))), ((bb 47), .inl (J.2.1, 6, .inl g)), ((bb 48), .inl (J.2.1, 6, .inl (fun _ => 0))), ((bb 49), .inl (J.2.2.1, 360, .inr (.inl (fun _ => 0))))]) hP hD hS hA [0, 1] [2, 3, 4, 5, 6, 7, 8, 9, 10, 11, 12, 13] rfl rfl (by decide) (by decide) (wn_V (As := [.int x1]) (rest := [.int (sp_hole (x1.toInt))]) hx hb hml hown hts hK (m_hole l J _ bb x1) kV_RL_17 (hP.sub (ws' := [((bb 0), .inr (12, [.ref (bb 1), .ref (bb 2), .ref (bb 3), .ref (bb 4), .int 0, .int 0, .int 0, .int 0, .ref (bb 9), .ref (bb 10), .int 0, .ref (bb 12), .int (-1), .int 0, .int 0, .int 0, .int 0, .int 0, .ref (bb 19), .ref (bb 20), .ref (bb 21), .ref (bb 22), .ref (bb 23), .long 0, .long 0, .long 0, .ref (bb 27), .ref (bb 28), .ref (bb 29), .long 0, .int 0, .int (-1), .int 0, .int 0, .int 0, .ref (bb 36), .int 0, .int 0, .ref (bb 39), .ref (bb 40), .int 0, .ref (bb 42), .ref (bb 43), .int 0, .int 0, .int 0, .ref (bb 47), .ref (bb 48), .ref (bb 49), .ref (bb 50)])), ((bb 1), .inl (J.2.1, 22, .inl (upd (fun _ => 0) (20 : Int32).toNatClampNeg 1)))]) [0, 1] rfl) ((hD.sub (ws' := [((bb 0), .inr (12, [.ref (bb 1), .ref (bb 2), .ref (bb 3), .ref (bb 4), .int 0, .int 0, .int 0, .int 0, .ref (bb 9), .ref (bb 10), .int 0, .ref (bb 12), .int (-1), .int 0, .int 0, .int 0, .int 0, .int 0, .ref (bb 19), .ref (bb 20), .ref (bb 21), .ref (bb 22), .ref (bb 23), .long 0, .long 0, .long 0, .ref (bb 27), .ref (bb 28), .ref (bb 29), .long 0, .int 0, .int (-1), .int 0, .int 0, .int 0, .ref (bb 36), .int 0, .int 0, .ref (bb 39), .ref (bb 40), .int 0, .ref (bb 42), .ref (bb 43), .int 0, .int 0, .int 0, .ref (bb 47), .ref (bb 48), .ref (bb 49), .ref (bb 50)])), ((bb 1), .inl (J.2.1, 22, .inl (upd (fun _ => 0) (20 : Int32).toNatClampNeg 1)))]) [0, 1] (by decide) rfl).weaken (fun _ _ _ _ => trivial)) rfl rfl rfl ⟨Nat.le_of_ble_eq_true rfl, Nat.le_of_ble_eq_true rfl⟩ rfl rfl rfl hl.1 rfl (Nat.le_of_ble_eq_true rfl) ⟨Nat.le_of_ble_eq_true rfl, Nat.le_of_ble_eq_true rfl⟩ dL_law_223) (fun r4 u3 H locs hw hP hD hS => ?_)
  subst hw
  have hP : va_P J.1 cls [((bb 2), .inl (J.2.1, 40, .inl (fun _ => 0))), ((bb 3), .inl (J.2.1, 40, .inl (fun _ => 0))), ((bb 4), .inl (J.2.1, 40, .inl (fun _ => 0))), ((bb 10), .inl (J.2.1, 120, .inl (fun _ => 0))), ((bb 21), .inl (J.2.1, 7168, .inl (fun _ => 0))), ((bb 39), .inl (J.2.1, 5, .inl (fun _ => 0))), ((bb 40), .inl (J.2.1, 10, .inl (fun _ => 0))), ((bb 36), .inl (J.2.1, 10, .inl (fun _ => 0))), ((bb 42), .inl (J.2.1, 50, .inl (fun _ => 0))), ((bb 47), .inl (J.2.1, 6, .inl g)), ((bb 48), .inl (J.2.1, 6, .inl (fun _ => 0))), ((bb 49), .inl (J.2.2.1, 360, .inr (.inl (fun _ => 0))))] H := hP
  have hD : va_D A [((bb 2), .inl (J.2.1, 40, .inl (fun _ => 0))), ((bb 3), .inl (J.2.1, 40, .inl (fun _ => 0))), ((bb 4), .inl (J.2.1, 40, .inl (fun _ => 0))), ((bb 10), .inl (J.2.1, 120, .inl (fun _ => 0))), ((bb 21), .inl (J.2.1, 7168, .inl (fun _ => 0))), ((bb 39), .inl (J.2.1, 5, .inl (fun _ => 0))), ((bb 40), .inl (J.2.1, 10, .inl (fun _ => 0))), ((bb 36), .inl (J.2.1, 10, .inl (fun _ => 0))), ((bb 42), .inl (J.2.1, 50, .inl (fun _ => 0))), ((bb 47), .inl (J.2.1, 6, .inl g)), ((bb 48), .inl (J.2.1, 6, .inl (fun _ => 0))), ((bb 49), .inl (J.2.2.1, 360, .inr (.inl (fun _ => 0))))] := hD
  refine W.widen (k := 600000) (n := 7302250) (Nat.le_of_ble_eq_true rfl) (Nat.le_of_ble_eq_true rfl) ?_
  refine lv_icmp_eq (tgt := 1413) hx hb dL_law_226 (by decide) (fun _ => ?_) (fun c => absurd rfl c)
  exact law_end E0 hS (lv_sub hl [0, 1, 2, 3] rfl)
theorem dL_law_231 : decode cL_law 231 = .ok (.aload_n 1, 1) := by decide +kernel
theorem dL_law_232 : decode cL_law 232 = .ok (.aload_n 0, 1) := by decide +kernel
theorem dL_law_233 : decode cL_law 233 = .ok (.iload_n 3, 1) := by decide +kernel
theorem dL_law_234 : decode cL_law 234 = .ok (.iconst 1, 1) := by decide +kernel
theorem dL_law_235 : decode cL_law 235 = .ok (.iadd, 1) := by decide +kernel
theorem dL_law_236 : decode cL_law 236 = .ok (.iaload, 1) := by decide +kernel
theorem dL_law_237 : decode cL_law 237 = .ok (.aload_n 0, 1) := by decide +kernel
theorem dL_law_238 : decode cL_law 238 = .ok (.iload_n 3, 1) := by decide +kernel
theorem dL_law_239 : decode cL_law 239 = .ok (.iconst 2, 1) := by decide +kernel
theorem dL_law_240 : decode cL_law 240 = .ok (.iadd, 1) := by decide +kernel
theorem dL_law_241 : decode cL_law 241 = .ok (.iaload, 1) := by decide +kernel
theorem dL_law_242 : decode cL_law 242 = .ok (.aload_n 0, 1) := by decide +kernel
theorem dL_law_243 : decode cL_law 243 = .ok (.iload_n 3, 1) := by decide +kernel
theorem dL_law_244 : decode cL_law 244 = .ok (.iconst 3, 1) := by decide +kernel
theorem dL_law_245 : decode cL_law 245 = .ok (.iadd, 1) := by decide +kernel
theorem dL_law_246 : decode cL_law 246 = .ok (.iaload, 1) := by decide +kernel
theorem q_555 : Cond.methodLink RL 18 yX11_holes ∈ lw_g := mem_q 555 (by decide +kernel) rfl
theorem q_556 : Cond.instanceMethod yX11_holes ∈ lw_g := mem_q 556 (by decide +kernel) rfl
theorem q_557 : Cond.selects RX11 yX11_holes yX11_holes ∈ lw_g := mem_q 557 (by decide +kernel) rfl
theorem q_558 : Cond.code yX11_holes cX11_holes 6 (some .int) ∈ lw_g := mem_q 558 (by decide +kernel) rfl
theorem kV_RL_18 : CV RL 18 RX11 yX11_holes cX11_holes 6 (some .int) 3 := cv_of q_555 q_556 q_557 q_103 q_558 (by decide +kernel)
theorem dL_law_247 : decode cL_law 247 = .ok (.invokevirtual 18, 3) := by decide +kernel
theorem dL_law_250 : decode cL_law 250 = .ok (.aload_n 2, 1) := by decide +kernel
theorem dL_law_251 : decode cL_law 251 = .ok (.aload_n 0, 1) := by decide +kernel
theorem dL_law_252 : decode cL_law 252 = .ok (.iload_n 3, 1) := by decide +kernel
theorem dL_law_253 : decode cL_law 253 = .ok (.iconst 1, 1) := by decide +kernel
theorem dL_law_254 : decode cL_law 254 = .ok (.iadd, 1) := by decide +kernel
theorem dL_law_255 : decode cL_law 255 = .ok (.iaload, 1) := by decide +kernel
theorem dL_law_256 : decode cL_law 256 = .ok (.aload_n 0, 1) := by decide +kernel
theorem dL_law_257 : decode cL_law 257 = .ok (.iload_n 3, 1) := by decide +kernel
theorem dL_law_258 : decode cL_law 258 = .ok (.iconst 2, 1) := by decide +kernel
theorem dL_law_259 : decode cL_law 259 = .ok (.iadd, 1) := by decide +kernel
theorem dL_law_260 : decode cL_law 260 = .ok (.iaload, 1) := by decide +kernel
theorem dL_law_261 : decode cL_law 261 = .ok (.aload_n 0, 1) := by decide +kernel
theorem dL_law_262 : decode cL_law 262 = .ok (.iload_n 3, 1) := by decide +kernel
theorem dL_law_263 : decode cL_law 263 = .ok (.iconst 3, 1) := by decide +kernel
theorem dL_law_264 : decode cL_law 264 = .ok (.iadd, 1) := by decide +kernel
theorem dL_law_265 : decode cL_law 265 = .ok (.iaload, 1) := by decide +kernel
theorem q_1433 : Cond.methodLink RL 22 yX12_holes ∈ lw_g := mem_q 1433 (by decide +kernel) rfl
theorem q_1434 : Cond.instanceMethod yX12_holes ∈ lw_g := mem_q 1434 (by decide +kernel) rfl
theorem q_1435 : Cond.selects RX12 yX12_holes yX12_holes ∈ lw_g := mem_q 1435 (by decide +kernel) rfl
theorem q_1436 : Cond.code yX12_holes cX12_holes 6 (some .int) ∈ lw_g := mem_q 1436 (by decide +kernel) rfl
theorem kV_RL_22 : CV RL 22 RX12 yX12_holes cX12_holes 6 (some .int) 3 := cv_of q_1433 q_1434 q_1435 q_115 q_1436 (by decide +kernel)
theorem dL_law_266 : decode cL_law 266 = .ok (.invokevirtual 22, 3) := by decide +kernel
theorem dL_law_269 : decode cL_law 269 = .ok (.if_icmp .eq 1144, 3) := by decide +kernel
set_option maxHeartbeats 4000000 in
set_option maxRecDepth 100000 in
/-- holes -/
theorem lk_1 {p : Program} {l : Launch} {e : Env} {s : State} {m : MethodId} {below : List Frame} {meth : Method} {c : Code} {b : Nat} {xs : Nat → Int32} {J : va_J9} {A : Nat → Prop} {H : Heap} {locs : List Loc} {ls : Array Slot} {a bb : Nat → Nat} {f : Nat → Option Nat} {g : Nat → Int32} (E0 : LE p s m meth c b 6 xs J A) (hfx : ∀ j, j < 6 → f j = some (a (41 + j))) (hg : ∀ k, k < 6 → g k = -1) (hP : va_P J.1 cls (xW J a f ++ mW J bb g) H) (hD : va_D A (xW J a f ++ mW J bb g)) (hS : va_S A s.heap H locs) (hl : lv_has ls 4 [(3, .int 0), (2, .ref (bb 0)), (1, .ref (a 0)), (0, .ref b)]) : W p l e room_1 s m #[Value.ref b] below meth c H locs 600000 7302250 (lw_Z below #[Value.ref b] s) (F0 m 231 ls []) := by
  obtain ⟨hx, hb, hr, hml, hown, hts, hX, hbl, hlk, hK, hA, hAs⟩ := id E0
  have hbA : ¬ A b := fun h => absurd (hAs b h) (Nat.not_le.mpr hbl)
  obtain ⟨x1, e1⟩ : ∃ z : Int32, z = xs 1 := ⟨_, rfl⟩
  obtain ⟨x2, e2⟩ : ∃ z : Int32, z = xs 2 := ⟨_, rfl⟩
  obtain ⟨x3, e3⟩ : ∃ z : Int32, z = xs 3 := ⟨_, rfl⟩
  have rg_x1 := i_rng x1
  have rg_x2 := i_rng x2
  have rg_x3 := i_rng x3
  by_cases hd : 0 ≤ x1.toInt ∧ x1.toInt ≤ 5
  · obtain ⟨sh, ce, hf, hP, hD⟩ := shx hfx hP hD hd
    refine lv_aload_n hx hb dL_law_231 rfl (lv_at hl 2 rfl) ?_
    refine lv_aload_n hx hb dL_law_232 rfl (lv_at hl 3 rfl) ?_
    refine lv_iload_n hx hb dL_law_233 rfl (lv_at hl 0 rfl) ?_
    refine lv_iconst (v := 1) hx hb dL_law_234 (by decide) ?_
    refine lv_iadd hx hb dL_law_235 ?_
    refine top_i (y := 1) (by decide) ?_
    refine va_sld hx hb hX hbl hbA hS (i_in (a := 1) (by decide) (by omega) (by omega)) dL_law_236 ?_
    refine top_i (y := x1) e1.symm ?_
    refine lv_aload_n hx hb dL_law_237 rfl (lv_at hl 3 rfl) ?_
    refine lv_iload_n hx hb dL_law_238 rfl (lv_at hl 0 rfl) ?_
    refine lv_iconst (v := 2) hx hb dL_law_239 (by decide) ?_
    refine lv_iadd hx hb dL_law_240 ?_
    refine top_i (y := 2) (by decide) ?_
    refine va_sld hx hb hX hbl hbA hS (i_in (a := 2) (by decide) (by omega) (by omega)) dL_law_241 ?_
    refine top_i (y := x2) e2.symm ?_
    refine lv_aload_n hx hb dL_law_242 rfl (lv_at hl 3 rfl) ?_
    refine lv_iload_n hx hb dL_law_243 rfl (lv_at hl 0 rfl) ?_
    refine lv_iconst (v := 3) hx hb dL_law_244 (by decide) ?_
    refine lv_iadd hx hb dL_law_245 ?_
    refine top_i (y := 3) (by decide) ?_
    refine va_sld hx hb hX hbl hbA hS (i_in (a := 3) (by decide) (by omega) (by omega)) dL_law_246 ?_
    refine top_i (y := x3) e3.symm ?_
    refine go_i (rn_V (As := [.int x1, .int x2, .int x3]) (rest := []) hx hb hml hown hts hK (c_holes_in l J a f sh ce x1 x2 x3 ⟨by omega, by omega⟩ hf) kV_RL_18 (hP.sub (ws' := [((a 0), .inr (11, [.ref (a 1), .ref (a 6), .ref (a 10), .ref (a 15), .ref (a 17), .ref (a 22), .ref (a 23), .ref (a 30), .ref (a 31), .ref (a 34), .int 0, .ref (a 37), .ref (a 40)])), ((a 40), .inl (J.2.2.2, 6, .inr (.inr (.inr (.inr f))))), (sh, .inr (9, [.ref ce, .int 0, .int 0, .int 0, .int 0]))]) [0, 1, 2] rfl) rfl rfl rfl ⟨Nat.le_of_ble_eq_true rfl, Nat.le_of_ble_eq_true rfl⟩ rfl rfl rfl hl.1 rfl (Nat.le_of_ble_eq_true rfl) ⟨Nat.le_of_ble_eq_true rfl, Nat.le_of_ble_eq_true rfl⟩ dL_law_247) ?_
    refine lv_aload_n hx hb dL_law_250 rfl (lv_at hl 1 rfl) ?_
    refine lv_aload_n hx hb dL_law_251 rfl (lv_at hl 3 rfl) ?_
    refine lv_iload_n hx hb dL_law_252 rfl (lv_at hl 0 rfl) ?_
    refine lv_iconst (v := 1) hx hb dL_law_253 (by decide) ?_
    refine lv_iadd hx hb dL_law_254 ?_
    refine top_i (y := 1) (by decide) ?_
    refine va_sld hx hb hX hbl hbA hS (i_in (a := 1) (by decide) (by omega) (by omega)) dL_law_255 ?_
    refine top_i (y := x1) e1.symm ?_
    refine lv_aload_n hx hb dL_law_256 rfl (lv_at hl 3 rfl) ?_
    refine lv_iload_n hx hb dL_law_257 rfl (lv_at hl 0 rfl) ?_
    refine lv_iconst (v := 2) hx hb dL_law_258 (by decide) ?_
    refine lv_iadd hx hb dL_law_259 ?_
    refine top_i (y := 2) (by decide) ?_
    refine va_sld hx hb hX hbl hbA hS (i_in (a := 2) (by decide) (by omega) (by omega)) dL_law_260 ?_
    refine top_i (y := x2) e2.symm ?_
    refine lv_aload_n hx hb dL_law_261 rfl (lv_at hl 3 rfl) ?_
    refine lv_iload_n hx hb dL_law_262 rfl (lv_at hl 0 rfl) ?_
    refine lv_iconst (v := 3) hx hb dL_law_263 (by decide) ?_
    refine lv_iadd hx hb dL_law_264 ?_
    refine top_i (y := 3) (by decide) ?_
    refine va_sld hx hb hX hbl hbA hS (i_in (a := 3) (by decide) (by omega) (by omega)) dL_law_265 ?_
    refine top_i (y := x3) e3.symm ?_
    refine go_i (rn_V (As := [.int x1, .int x2, .int x3]) (rest := [.int (sp_holes (x1.toInt) (x3.toInt))]) hx hb hml hown hts hK (m_holes l J bb g x1 x2 x3 hg) kV_RL_22 (hP.sub (ws' := [((bb 0), .inr (12, [.ref (bb 1), .ref (bb 2), .ref (bb 3), .ref (bb 4), .int 0, .int 0, .int 0, .int 0, .ref (bb 9), .ref (bb 10), .int 0, .ref (bb 12), .int (-1), .int 0, .int 0, .int 0, .int 0, .int 0, .ref (bb 19), .ref (bb 20), .ref (bb 21), .ref (bb 22), .ref (bb 23), .long 0, .long 0, .long 0, .ref (bb 27), .ref (bb 28), .ref (bb 29), .long 0, .int 0, .int (-1), .int 0, .int 0, .int 0, .ref (bb 36), .int 0, .int 0, .ref (bb 39), .ref (bb 40), .int 0, .ref (bb 42), .ref (bb 43), .int 0, .int 0, .int 0, .ref (bb 47), .ref (bb 48), .ref (bb 49), .ref (bb 50)])), ((bb 47), .inl (J.2.1, 6, .inl g))]) [5, 16] rfl) rfl rfl rfl ⟨Nat.le_of_ble_eq_true rfl, Nat.le_of_ble_eq_true rfl⟩ rfl rfl rfl hl.1 rfl (Nat.le_of_ble_eq_true rfl) ⟨Nat.le_of_ble_eq_true rfl, Nat.le_of_ble_eq_true rfl⟩ dL_law_266) ?_
    refine lv_icmp_eq (tgt := 1413) hx hb dL_law_269 (by decide) (fun _ => ?_) (fun c => absurd rfl c)
    exact law_end E0 hS (lv_sub hl [0, 1, 2, 3] rfl)
  · refine lv_aload_n hx hb dL_law_231 rfl (lv_at hl 2 rfl) ?_
    refine lv_aload_n hx hb dL_law_232 rfl (lv_at hl 3 rfl) ?_
    refine lv_iload_n hx hb dL_law_233 rfl (lv_at hl 0 rfl) ?_
    refine lv_iconst (v := 1) hx hb dL_law_234 (by decide) ?_
    refine lv_iadd hx hb dL_law_235 ?_
    refine top_i (y := 1) (by decide) ?_
    refine va_sld hx hb hX hbl hbA hS (i_in (a := 1) (by decide) (by omega) (by omega)) dL_law_236 ?_
    refine top_i (y := x1) e1.symm ?_
    refine lv_aload_n hx hb dL_law_237 rfl (lv_at hl 3 rfl) ?_
    refine lv_iload_n hx hb dL_law_238 rfl (lv_at hl 0 rfl) ?_
    refine lv_iconst (v := 2) hx hb dL_law_239 (by decide) ?_
    refine lv_iadd hx hb dL_law_240 ?_
    refine top_i (y := 2) (by decide) ?_
    refine va_sld hx hb hX hbl hbA hS (i_in (a := 2) (by decide) (by omega) (by omega)) dL_law_241 ?_
    refine top_i (y := x2) e2.symm ?_
    refine lv_aload_n hx hb dL_law_242 rfl (lv_at hl 3 rfl) ?_
    refine lv_iload_n hx hb dL_law_243 rfl (lv_at hl 0 rfl) ?_
    refine lv_iconst (v := 3) hx hb dL_law_244 (by decide) ?_
    refine lv_iadd hx hb dL_law_245 ?_
    refine top_i (y := 3) (by decide) ?_
    refine va_sld hx hb hX hbl hbA hS (i_in (a := 3) (by decide) (by omega) (by omega)) dL_law_246 ?_
    refine top_i (y := x3) e3.symm ?_
    refine go_i (rn_V (As := [.int x1, .int x2, .int x3]) (rest := []) hx hb hml hown hts hK (c_holes_out l J a x1 x2 x3 (by omega)) kV_RL_18 (hP.sub (ws' := [((a 0), .inr (11, [.ref (a 1), .ref (a 6), .ref (a 10), .ref (a 15), .ref (a 17), .ref (a 22), .ref (a 23), .ref (a 30), .ref (a 31), .ref (a 34), .int 0, .ref (a 37), .ref (a 40)]))]) [0] rfl) rfl rfl rfl ⟨Nat.le_of_ble_eq_true rfl, Nat.le_of_ble_eq_true rfl⟩ rfl rfl rfl hl.1 rfl (Nat.le_of_ble_eq_true rfl) ⟨Nat.le_of_ble_eq_true rfl, Nat.le_of_ble_eq_true rfl⟩ dL_law_247) ?_
    refine lv_aload_n hx hb dL_law_250 rfl (lv_at hl 1 rfl) ?_
    refine lv_aload_n hx hb dL_law_251 rfl (lv_at hl 3 rfl) ?_
    refine lv_iload_n hx hb dL_law_252 rfl (lv_at hl 0 rfl) ?_
    refine lv_iconst (v := 1) hx hb dL_law_253 (by decide) ?_
    refine lv_iadd hx hb dL_law_254 ?_
    refine top_i (y := 1) (by decide) ?_
    refine va_sld hx hb hX hbl hbA hS (i_in (a := 1) (by decide) (by omega) (by omega)) dL_law_255 ?_
    refine top_i (y := x1) e1.symm ?_
    refine lv_aload_n hx hb dL_law_256 rfl (lv_at hl 3 rfl) ?_
    refine lv_iload_n hx hb dL_law_257 rfl (lv_at hl 0 rfl) ?_
    refine lv_iconst (v := 2) hx hb dL_law_258 (by decide) ?_
    refine lv_iadd hx hb dL_law_259 ?_
    refine top_i (y := 2) (by decide) ?_
    refine va_sld hx hb hX hbl hbA hS (i_in (a := 2) (by decide) (by omega) (by omega)) dL_law_260 ?_
    refine top_i (y := x2) e2.symm ?_
    refine lv_aload_n hx hb dL_law_261 rfl (lv_at hl 3 rfl) ?_
    refine lv_iload_n hx hb dL_law_262 rfl (lv_at hl 0 rfl) ?_
    refine lv_iconst (v := 3) hx hb dL_law_263 (by decide) ?_
    refine lv_iadd hx hb dL_law_264 ?_
    refine top_i (y := 3) (by decide) ?_
    refine va_sld hx hb hX hbl hbA hS (i_in (a := 3) (by decide) (by omega) (by omega)) dL_law_265 ?_
    refine top_i (y := x3) e3.symm ?_
    refine go_i (rn_V (As := [.int x1, .int x2, .int x3]) (rest := [.int (sp_holes (x1.toInt) (x3.toInt))]) hx hb hml hown hts hK (m_holes l J bb g x1 x2 x3 hg) kV_RL_22 (hP.sub (ws' := [((bb 0), .inr (12, [.ref (bb 1), .ref (bb 2), .ref (bb 3), .ref (bb 4), .int 0, .int 0, .int 0, .int 0, .ref (bb 9), .ref (bb 10), .int 0, .ref (bb 12), .int (-1), .int 0, .int 0, .int 0, .int 0, .int 0, .ref (bb 19), .ref (bb 20), .ref (bb 21), .ref (bb 22), .ref (bb 23), .long 0, .long 0, .long 0, .ref (bb 27), .ref (bb 28), .ref (bb 29), .long 0, .int 0, .int (-1), .int 0, .int 0, .int 0, .ref (bb 36), .int 0, .int 0, .ref (bb 39), .ref (bb 40), .int 0, .ref (bb 42), .ref (bb 43), .int 0, .int 0, .int 0, .ref (bb 47), .ref (bb 48), .ref (bb 49), .ref (bb 50)])), ((bb 47), .inl (J.2.1, 6, .inl g))]) [39, 50] rfl) rfl rfl rfl ⟨Nat.le_of_ble_eq_true rfl, Nat.le_of_ble_eq_true rfl⟩ rfl rfl rfl hl.1 rfl (Nat.le_of_ble_eq_true rfl) ⟨Nat.le_of_ble_eq_true rfl, Nat.le_of_ble_eq_true rfl⟩ dL_law_266) ?_
    refine lv_icmp_eq (tgt := 1413) hx hb dL_law_269 (by decide) (fun _ => ?_) (fun c => absurd rfl c)
    exact law_end E0 hS (lv_sub hl [0, 1, 2, 3] rfl)
theorem dL_law_274 : decode cL_law 274 = .ok (.aload_n 1, 1) := by decide +kernel
theorem dL_law_275 : decode cL_law 275 = .ok (.aload_n 0, 1) := by decide +kernel
theorem dL_law_276 : decode cL_law 276 = .ok (.iload_n 3, 1) := by decide +kernel
theorem dL_law_277 : decode cL_law 277 = .ok (.iconst 1, 1) := by decide +kernel
theorem dL_law_278 : decode cL_law 278 = .ok (.iadd, 1) := by decide +kernel
theorem dL_law_279 : decode cL_law 279 = .ok (.iaload, 1) := by decide +kernel
theorem q_586 : Cond.methodLink RL 23 yX11_path ∈ lw_g := mem_q 586 (by decide +kernel) rfl
theorem q_587 : Cond.instanceMethod yX11_path ∈ lw_g := mem_q 587 (by decide +kernel) rfl
theorem q_588 : Cond.selects RX11 yX11_path yX11_path ∈ lw_g := mem_q 588 (by decide +kernel) rfl
theorem q_589 : Cond.code yX11_path cX11_path 3 (some .int) ∈ lw_g := mem_q 589 (by decide +kernel) rfl
theorem kV_RL_23 : CV RL 23 RX11 yX11_path cX11_path 3 (some .int) 1 := cv_of q_586 q_587 q_588 q_103 q_589 (by decide +kernel)
theorem dL_law_280 : decode cL_law 280 = .ok (.invokevirtual 23, 3) := by decide +kernel
theorem dL_law_283 : decode cL_law 283 = .ok (.aload_n 2, 1) := by decide +kernel
theorem dL_law_284 : decode cL_law 284 = .ok (.aload_n 0, 1) := by decide +kernel
theorem dL_law_285 : decode cL_law 285 = .ok (.iload_n 3, 1) := by decide +kernel
theorem dL_law_286 : decode cL_law 286 = .ok (.iconst 1, 1) := by decide +kernel
theorem dL_law_287 : decode cL_law 287 = .ok (.iadd, 1) := by decide +kernel
theorem dL_law_288 : decode cL_law 288 = .ok (.iaload, 1) := by decide +kernel
theorem q_1442 : Cond.methodLink RL 26 yX12_path ∈ lw_g := mem_q 1442 (by decide +kernel) rfl
theorem q_1443 : Cond.instanceMethod yX12_path ∈ lw_g := mem_q 1443 (by decide +kernel) rfl
theorem q_1444 : Cond.selects RX12 yX12_path yX12_path ∈ lw_g := mem_q 1444 (by decide +kernel) rfl
theorem q_1445 : Cond.code yX12_path cX12_path 2 (some .int) ∈ lw_g := mem_q 1445 (by decide +kernel) rfl
theorem kV_RL_26 : CV RL 26 RX12 yX12_path cX12_path 2 (some .int) 1 := cv_of q_1442 q_1443 q_1444 q_115 q_1445 (by decide +kernel)
theorem dL_law_289 : decode cL_law 289 = .ok (.invokevirtual 26, 3) := by decide +kernel
theorem dL_law_292 : decode cL_law 292 = .ok (.if_icmp .eq 1121, 3) := by decide +kernel
set_option maxHeartbeats 4000000 in
set_option maxRecDepth 100000 in
/-- path -/
theorem lk_2 {p : Program} {l : Launch} {e : Env} {s : State} {m : MethodId} {below : List Frame} {meth : Method} {c : Code} {b : Nat} {xs : Nat → Int32} {J : va_J9} {A : Nat → Prop} {H : Heap} {locs : List Loc} {ls : Array Slot} {a bb : Nat → Nat} {f : Nat → Option Nat} {g : Nat → Int32} (E0 : LE p s m meth c b 6 xs J A) (hfx : ∀ j, j < 6 → f j = some (a (41 + j))) (hg : ∀ k, k < 6 → g k = -1) (hP : va_P J.1 cls (xW J a f ++ mW J bb g) H) (hD : va_D A (xW J a f ++ mW J bb g)) (hS : va_S A s.heap H locs) (hl : lv_has ls 4 [(3, .int 0), (2, .ref (bb 0)), (1, .ref (a 0)), (0, .ref b)]) : W p l e room_1 s m #[Value.ref b] below meth c H locs 600000 7302250 (lw_Z below #[Value.ref b] s) (F0 m 274 ls []) := by
  obtain ⟨hx, hb, hr, hml, hown, hts, hX, hbl, hlk, hK, hA, hAs⟩ := id E0
  have hbA : ¬ A b := fun h => absurd (hAs b h) (Nat.not_le.mpr hbl)
  obtain ⟨x1, e1⟩ : ∃ z : Int32, z = xs 1 := ⟨_, rfl⟩
  have rg_x1 := i_rng x1
  refine lv_aload_n hx hb dL_law_274 rfl (lv_at hl 2 rfl) ?_
  refine lv_aload_n hx hb dL_law_275 rfl (lv_at hl 3 rfl) ?_
  refine lv_iload_n hx hb dL_law_276 rfl (lv_at hl 0 rfl) ?_
  refine lv_iconst (v := 1) hx hb dL_law_277 (by decide) ?_
  refine lv_iadd hx hb dL_law_278 ?_
  refine top_i (y := 1) (by decide) ?_
  refine va_sld hx hb hX hbl hbA hS (i_in (a := 1) (by decide) (by omega) (by omega)) dL_law_279 ?_
  refine top_i (y := x1) e1.symm ?_
  refine go_i (rn_V (As := [.int x1]) (rest := []) hx hb hml hown hts hK (c_path l J a x1) kV_RL_23 (hP.sub (ws' := [((a 0), .inr (11, [.ref (a 1), .ref (a 6), .ref (a 10), .ref (a 15), .ref (a 17), .ref (a 22), .ref (a 23), .ref (a 30), .ref (a 31), .ref (a 34), .int 0, .ref (a 37), .ref (a 40)])), ((a 6), .inr (10, [.ref (a 1), .ref (a 7), .ref (a 8), .ref (a 9), .int 0, .int 0, .int 0, .int 0, .int 1, .int 0, .int 0]))]) [0, 4] rfl) rfl rfl rfl ⟨Nat.le_of_ble_eq_true rfl, Nat.le_of_ble_eq_true rfl⟩ rfl rfl rfl hl.1 rfl (Nat.le_of_ble_eq_true rfl) ⟨Nat.le_of_ble_eq_true rfl, Nat.le_of_ble_eq_true rfl⟩ dL_law_280) ?_
  refine lv_aload_n hx hb dL_law_283 rfl (lv_at hl 1 rfl) ?_
  refine lv_aload_n hx hb dL_law_284 rfl (lv_at hl 3 rfl) ?_
  refine lv_iload_n hx hb dL_law_285 rfl (lv_at hl 0 rfl) ?_
  refine lv_iconst (v := 1) hx hb dL_law_286 (by decide) ?_
  refine lv_iadd hx hb dL_law_287 ?_
  refine top_i (y := 1) (by decide) ?_
  refine va_sld hx hb hX hbl hbA hS (i_in (a := 1) (by decide) (by omega) (by omega)) dL_law_288 ?_
  refine top_i (y := x1) e1.symm ?_
  refine go_i (rn_V (As := [.int x1]) (rest := [.int (-1)]) hx hb hml hown hts hK (m_path l J bb x1) kV_RL_26 (hP.sub (ws' := [((bb 0), .inr (12, [.ref (bb 1), .ref (bb 2), .ref (bb 3), .ref (bb 4), .int 0, .int 0, .int 0, .int 0, .ref (bb 9), .ref (bb 10), .int 0, .ref (bb 12), .int (-1), .int 0, .int 0, .int 0, .int 0, .int 0, .ref (bb 19), .ref (bb 20), .ref (bb 21), .ref (bb 22), .ref (bb 23), .long 0, .long 0, .long 0, .ref (bb 27), .ref (bb 28), .ref (bb 29), .long 0, .int 0, .int (-1), .int 0, .int 0, .int 0, .ref (bb 36), .int 0, .int 0, .ref (bb 39), .ref (bb 40), .int 0, .ref (bb 42), .ref (bb 43), .int 0, .int 0, .int 0, .ref (bb 47), .ref (bb 48), .ref (bb 49), .ref (bb 50)]))]) [39] rfl) rfl rfl rfl ⟨Nat.le_of_ble_eq_true rfl, Nat.le_of_ble_eq_true rfl⟩ rfl rfl rfl hl.1 rfl (Nat.le_of_ble_eq_true rfl) ⟨Nat.le_of_ble_eq_true rfl, Nat.le_of_ble_eq_true rfl⟩ dL_law_289) ?_
  refine lv_icmp_eq (tgt := 1413) hx hb dL_law_292 (by decide) (fun _ => ?_) (fun c => absurd c (by decide))
  exact law_end E0 hS (lv_sub hl [0, 1, 2, 3] rfl)
theorem dL_law_297 : decode cL_law 297 = .ok (.aload_n 1, 1) := by decide +kernel
theorem dL_law_298 : decode cL_law 298 = .ok (.aload_n 0, 1) := by decide +kernel
theorem dL_law_299 : decode cL_law 299 = .ok (.iload_n 3, 1) := by decide +kernel
theorem dL_law_300 : decode cL_law 300 = .ok (.iconst 1, 1) := by decide +kernel
theorem dL_law_301 : decode cL_law 301 = .ok (.iadd, 1) := by decide +kernel
theorem dL_law_302 : decode cL_law 302 = .ok (.iaload, 1) := by decide +kernel
theorem dL_law_303 : decode cL_law 303 = .ok (.aload_n 0, 1) := by decide +kernel
theorem dL_law_304 : decode cL_law 304 = .ok (.iload_n 3, 1) := by decide +kernel
theorem dL_law_305 : decode cL_law 305 = .ok (.iconst 2, 1) := by decide +kernel
theorem dL_law_306 : decode cL_law 306 = .ok (.iadd, 1) := by decide +kernel
theorem dL_law_307 : decode cL_law 307 = .ok (.iaload, 1) := by decide +kernel
theorem dL_law_308 : decode cL_law 308 = .ok (.aload_n 0, 1) := by decide +kernel
theorem dL_law_309 : decode cL_law 309 = .ok (.iload_n 3, 1) := by decide +kernel
theorem dL_law_310 : decode cL_law 310 = .ok (.iconst 3, 1) := by decide +kernel
theorem dL_law_311 : decode cL_law 311 = .ok (.iadd, 1) := by decide +kernel
theorem dL_law_312 : decode cL_law 312 = .ok (.iaload, 1) := by decide +kernel
theorem q_613 : Cond.methodLink RL 27 yX11_mend ∈ lw_g := mem_q 613 (by decide +kernel) rfl
theorem q_614 : Cond.instanceMethod yX11_mend ∈ lw_g := mem_q 614 (by decide +kernel) rfl
theorem q_615 : Cond.selects RX11 yX11_mend yX11_mend ∈ lw_g := mem_q 615 (by decide +kernel) rfl
theorem q_616 : Cond.code yX11_mend cX11_mend 5 (some .int) ∈ lw_g := mem_q 616 (by decide +kernel) rfl
theorem kV_RL_27 : CV RL 27 RX11 yX11_mend cX11_mend 5 (some .int) 3 := cv_of q_613 q_614 q_615 q_103 q_616 (by decide +kernel)
theorem dL_law_313 : decode cL_law 313 = .ok (.invokevirtual 27, 3) := by decide +kernel
theorem dL_law_316 : decode cL_law 316 = .ok (.aload_n 2, 1) := by decide +kernel
theorem dL_law_317 : decode cL_law 317 = .ok (.aload_n 0, 1) := by decide +kernel
theorem dL_law_318 : decode cL_law 318 = .ok (.iload_n 3, 1) := by decide +kernel
theorem dL_law_319 : decode cL_law 319 = .ok (.iconst 1, 1) := by decide +kernel
theorem dL_law_320 : decode cL_law 320 = .ok (.iadd, 1) := by decide +kernel
theorem dL_law_321 : decode cL_law 321 = .ok (.iaload, 1) := by decide +kernel
theorem dL_law_322 : decode cL_law 322 = .ok (.aload_n 0, 1) := by decide +kernel
theorem dL_law_323 : decode cL_law 323 = .ok (.iload_n 3, 1) := by decide +kernel
theorem dL_law_324 : decode cL_law 324 = .ok (.iconst 2, 1) := by decide +kernel
theorem dL_law_325 : decode cL_law 325 = .ok (.iadd, 1) := by decide +kernel
theorem dL_law_326 : decode cL_law 326 = .ok (.iaload, 1) := by decide +kernel
theorem dL_law_327 : decode cL_law 327 = .ok (.aload_n 0, 1) := by decide +kernel
theorem dL_law_328 : decode cL_law 328 = .ok (.iload_n 3, 1) := by decide +kernel
theorem dL_law_329 : decode cL_law 329 = .ok (.iconst 3, 1) := by decide +kernel
theorem dL_law_330 : decode cL_law 330 = .ok (.iadd, 1) := by decide +kernel
theorem dL_law_331 : decode cL_law 331 = .ok (.iaload, 1) := by decide +kernel
theorem q_1460 : Cond.methodLink RL 30 yX12_mend ∈ lw_g := mem_q 1460 (by decide +kernel) rfl
theorem q_1461 : Cond.instanceMethod yX12_mend ∈ lw_g := mem_q 1461 (by decide +kernel) rfl
theorem q_1462 : Cond.selects RX12 yX12_mend yX12_mend ∈ lw_g := mem_q 1462 (by decide +kernel) rfl
theorem q_1463 : Cond.code yX12_mend cX12_mend 4 (some .int) ∈ lw_g := mem_q 1463 (by decide +kernel) rfl
theorem kV_RL_30 : CV RL 30 RX12 yX12_mend cX12_mend 4 (some .int) 3 := cv_of q_1460 q_1461 q_1462 q_115 q_1463 (by decide +kernel)
theorem dL_law_332 : decode cL_law 332 = .ok (.invokevirtual 30, 3) := by decide +kernel
theorem dL_law_335 : decode cL_law 335 = .ok (.if_icmp .eq 1078, 3) := by decide +kernel
set_option maxHeartbeats 4000000 in
set_option maxRecDepth 100000 in
/-- mend -/
theorem lk_3 {p : Program} {l : Launch} {e : Env} {s : State} {m : MethodId} {below : List Frame} {meth : Method} {c : Code} {b : Nat} {xs : Nat → Int32} {J : va_J9} {A : Nat → Prop} {H : Heap} {locs : List Loc} {ls : Array Slot} {a bb : Nat → Nat} {f : Nat → Option Nat} {g : Nat → Int32} (E0 : LE p s m meth c b 6 xs J A) (hfx : ∀ j, j < 6 → f j = some (a (41 + j))) (hg : ∀ k, k < 6 → g k = -1) (hP : va_P J.1 cls (xW J a f ++ mW J bb g) H) (hD : va_D A (xW J a f ++ mW J bb g)) (hS : va_S A s.heap H locs) (hl : lv_has ls 4 [(3, .int 0), (2, .ref (bb 0)), (1, .ref (a 0)), (0, .ref b)]) : W p l e room_1 s m #[Value.ref b] below meth c H locs 600000 7302250 (lw_Z below #[Value.ref b] s) (F0 m 297 ls []) := by
  obtain ⟨hx, hb, hr, hml, hown, hts, hX, hbl, hlk, hK, hA, hAs⟩ := id E0
  have hbA : ¬ A b := fun h => absurd (hAs b h) (Nat.not_le.mpr hbl)
  obtain ⟨x1, e1⟩ : ∃ z : Int32, z = xs 1 := ⟨_, rfl⟩
  obtain ⟨x2, e2⟩ : ∃ z : Int32, z = xs 2 := ⟨_, rfl⟩
  obtain ⟨x3, e3⟩ : ∃ z : Int32, z = xs 3 := ⟨_, rfl⟩
  have rg_x1 := i_rng x1
  have rg_x2 := i_rng x2
  have rg_x3 := i_rng x3
  refine lv_aload_n hx hb dL_law_297 rfl (lv_at hl 2 rfl) ?_
  refine lv_aload_n hx hb dL_law_298 rfl (lv_at hl 3 rfl) ?_
  refine lv_iload_n hx hb dL_law_299 rfl (lv_at hl 0 rfl) ?_
  refine lv_iconst (v := 1) hx hb dL_law_300 (by decide) ?_
  refine lv_iadd hx hb dL_law_301 ?_
  refine top_i (y := 1) (by decide) ?_
  refine va_sld hx hb hX hbl hbA hS (i_in (a := 1) (by decide) (by omega) (by omega)) dL_law_302 ?_
  refine top_i (y := x1) e1.symm ?_
  refine lv_aload_n hx hb dL_law_303 rfl (lv_at hl 3 rfl) ?_
  refine lv_iload_n hx hb dL_law_304 rfl (lv_at hl 0 rfl) ?_
  refine lv_iconst (v := 2) hx hb dL_law_305 (by decide) ?_
  refine lv_iadd hx hb dL_law_306 ?_
  refine top_i (y := 2) (by decide) ?_
  refine va_sld hx hb hX hbl hbA hS (i_in (a := 2) (by decide) (by omega) (by omega)) dL_law_307 ?_
  refine top_i (y := x2) e2.symm ?_
  refine lv_aload_n hx hb dL_law_308 rfl (lv_at hl 3 rfl) ?_
  refine lv_iload_n hx hb dL_law_309 rfl (lv_at hl 0 rfl) ?_
  refine lv_iconst (v := 3) hx hb dL_law_310 (by decide) ?_
  refine lv_iadd hx hb dL_law_311 ?_
  refine top_i (y := 3) (by decide) ?_
  refine va_sld hx hb hX hbl hbA hS (i_in (a := 3) (by decide) (by omega) (by omega)) dL_law_312 ?_
  refine top_i (y := x3) e3.symm ?_
  refine gw_i (wc := [((a 0), .inr (11, [.ref (a 1), .ref (a 6), .ref (a 10), .ref (a 15), .ref (a 17), .ref (a 22), .ref (a 23), .ref (a 30), .ref (a 31), .ref (a 34), .int 0, .ref (a 37), .ref (a 40)])), ((a 6), .inr (10, [.ref (a 1), .ref (a 7), .ref (a 8), .ref (a 9), .int 0, .int 0, .int 0, .int 0, .int 1, .int 0, .int 0])), ((a 10), .inr (2, [.ref (a 6), .ref (a 11), .ref (a 12), .ref (a 13), .ref (a 14), .int 0, .int 0])), ((a 11), .inl (J.2.1, 40, .inl (fun _ => 0))), ((a 12), .inl (J.2.1, 40, .inl (fun _ => 0))), ((a 13), .inl (J.2.1, 40, .inl (fun _ => 0))), ((a 14), .inl (J.2.1, 40, .inl (fun _ => 0)))]) (wr := [((bb 0), .inr (12, [.ref (bb 1), .ref (bb 2), .ref (bb 3), .ref (bb 4), .int 0, .int 0, .int 0, .int 0, .ref (bb 9), .ref (bb 10), .int 0, .ref (bb 12), .int (-1), .int 0, .int 0, .int 0, .int 0, .int 0, .ref (bb 19), .ref (bb 20), .ref (bb 21), .ref (bb 22), .ref (bb 23), .long 0, .long 0, .long 0, .ref (bb 27), .ref (bb 28), .ref (bb 29), .long 0, .int 0, .int (-1), .int 0, .int 0, .int 0, .ref (bb 36), .int 0, .int 0, .ref (bb 39), .ref (bb 40), .int 0, .ref (bb 42), .ref (bb 43), .int 0, .int 0, .int 0, .ref (bb 47), .ref (bb 48), .ref (bb 49), .ref (bb 50)])), ((bb 1), .inl (J.2.1, 22, .inl (upd (fun _ => 0) (20 : Int32).toNatClampNeg 1))), ((bb 2), .inl (J.2.1, 40, .inl (fun _ => 0))), ((bb 3), .inl (J.2.1, 40, .inl (fun _ => 0))), ((bb 4), .inl (J.2.1, 40, .inl (fun _ => 0))), ((bb 10), .inl (J.2.1, 120, .inl (fun _ => 0))), ((bb 21), .inl (J.2.1, 7168, .inl (fun _ => 0))), ((bb 39), .inl (J.2.1, 5, .inl (fun _ => 0))), ((bb 40), .inl (J.2.1, 10, .inl (fun _ => 0))), ((bb 36), .inl (J.2.1, 10, .inl (fun _ => 0))), ((bb 42), .inl (J.2.1, 50, .inl (fun _ => 0))), ((bb 47), .inl (J.2.1, 6, .inl g)), ((bb 48), .inl (J.2.1, 6, .inl (fun _ => 0))), ((bb 49), .inl (J.2.2.1, 360, .inr (.inl (fun _ => 0))))]) hP hD hS hA [0, 4, 8, 9, 10, 11, 12] [39, 40, 41, 42, 43, 44, 45, 46, 47, 48, 49, 50, 51, 52] rfl rfl (by decide) (by decide) (wn_V (As := [.int x1, .int x2, .int x3]) (rest := []) hx hb hml hown hts hK (c_mend l J _ a x1 x2 x3) kV_RL_27 (hP.sub (ws' := [((a 0), .inr (11, [.ref (a 1), .ref (a 6), .ref (a 10), .ref (a 15), .ref (a 17), .ref (a 22), .ref (a 23), .ref (a 30), .ref (a 31), .ref (a 34), .int 0, .ref (a 37), .ref (a 40)])), ((a 6), .inr (10, [.ref (a 1), .ref (a 7), .ref (a 8), .ref (a 9), .int 0, .int 0, .int 0, .int 0, .int 1, .int 0, .int 0])), ((a 10), .inr (2, [.ref (a 6), .ref (a 11), .ref (a 12), .ref (a 13), .ref (a 14), .int 0, .int 0])), ((a 11), .inl (J.2.1, 40, .inl (fun _ => 0))), ((a 12), .inl (J.2.1, 40, .inl (fun _ => 0))), ((a 13), .inl (J.2.1, 40, .inl (fun _ => 0))), ((a 14), .inl (J.2.1, 40, .inl (fun _ => 0)))]) [0, 4, 8, 9, 10, 11, 12] rfl) ((hD.sub (ws' := [((a 0), .inr (11, [.ref (a 1), .ref (a 6), .ref (a 10), .ref (a 15), .ref (a 17), .ref (a 22), .ref (a 23), .ref (a 30), .ref (a 31), .ref (a 34), .int 0, .ref (a 37), .ref (a 40)])), ((a 6), .inr (10, [.ref (a 1), .ref (a 7), .ref (a 8), .ref (a 9), .int 0, .int 0, .int 0, .int 0, .int 1, .int 0, .int 0])), ((a 10), .inr (2, [.ref (a 6), .ref (a 11), .ref (a 12), .ref (a 13), .ref (a 14), .int 0, .int 0])), ((a 11), .inl (J.2.1, 40, .inl (fun _ => 0))), ((a 12), .inl (J.2.1, 40, .inl (fun _ => 0))), ((a 13), .inl (J.2.1, 40, .inl (fun _ => 0))), ((a 14), .inl (J.2.1, 40, .inl (fun _ => 0)))]) [0, 4, 8, 9, 10, 11, 12] (by decide) rfl).weaken (fun _ _ _ _ => trivial)) rfl rfl rfl ⟨Nat.le_of_ble_eq_true rfl, Nat.le_of_ble_eq_true rfl⟩ rfl rfl rfl hl.1 rfl (Nat.le_of_ble_eq_true rfl) ⟨Nat.le_of_ble_eq_true rfl, Nat.le_of_ble_eq_true rfl⟩ dL_law_313) (fun r2 u1 H locs hw hP hD hS => ?_)
  subst hw
  have hP : va_P J.1 cls [((bb 0), .inr (12, [.ref (bb 1), .ref (bb 2), .ref (bb 3), .ref (bb 4), .int 0, .int 0, .int 0, .int 0, .ref (bb 9), .ref (bb 10), .int 0, .ref (bb 12), .int (-1), .int 0, .int 0, .int 0, .int 0, .int 0, .ref (bb 19), .ref (bb 20), .ref (bb 21), .ref (bb 22), .ref (bb 23), .long 0, .long 0, .long 0, .ref (bb 27), .ref (bb 28), .ref (bb 29), .long 0, .int 0, .int (-1), .int 0, .int 0, .int 0, .ref (bb 36), .int 0, .int 0, .ref (bb 39), .ref (bb 40), .int 0, .ref (bb 42), .ref (bb 43), .int 0, .int 0, .int 0, .ref (bb 47), .ref (bb 48), .ref (bb 49), .ref (bb 50)])), ((bb 1), .inl (J.2.1, 22, .inl (upd (fun _ => 0) (20 : Int32).toNatClampNeg 1))), ((bb 2), .inl (J.2.1, 40, .inl (fun _ => 0))), ((bb 3), .inl (J.2.1, 40, .inl (fun _ => 0))), ((bb 4), .inl (J.2.1, 40, .inl (fun _ => 0))), ((bb 10), .inl (J.2.1, 120, .inl (fun _ => 0))), ((bb 21), .inl (J.2.1, 7168, .inl (fun _ => 0))), ((bb 39), .inl (J.2.1, 5, .inl (fun _ => 0))), ((bb 40), .inl (J.2.1, 10, .inl (fun _ => 0))), ((bb 36), .inl (J.2.1, 10, .inl (fun _ => 0))), ((bb 42), .inl (J.2.1, 50, .inl (fun _ => 0))), ((bb 47), .inl (J.2.1, 6, .inl g)), ((bb 48), .inl (J.2.1, 6, .inl (fun _ => 0))), ((bb 49), .inl (J.2.2.1, 360, .inr (.inl (fun _ => 0))))] H := hP
  have hD : va_D A [((bb 0), .inr (12, [.ref (bb 1), .ref (bb 2), .ref (bb 3), .ref (bb 4), .int 0, .int 0, .int 0, .int 0, .ref (bb 9), .ref (bb 10), .int 0, .ref (bb 12), .int (-1), .int 0, .int 0, .int 0, .int 0, .int 0, .ref (bb 19), .ref (bb 20), .ref (bb 21), .ref (bb 22), .ref (bb 23), .long 0, .long 0, .long 0, .ref (bb 27), .ref (bb 28), .ref (bb 29), .long 0, .int 0, .int (-1), .int 0, .int 0, .int 0, .ref (bb 36), .int 0, .int 0, .ref (bb 39), .ref (bb 40), .int 0, .ref (bb 42), .ref (bb 43), .int 0, .int 0, .int 0, .ref (bb 47), .ref (bb 48), .ref (bb 49), .ref (bb 50)])), ((bb 1), .inl (J.2.1, 22, .inl (upd (fun _ => 0) (20 : Int32).toNatClampNeg 1))), ((bb 2), .inl (J.2.1, 40, .inl (fun _ => 0))), ((bb 3), .inl (J.2.1, 40, .inl (fun _ => 0))), ((bb 4), .inl (J.2.1, 40, .inl (fun _ => 0))), ((bb 10), .inl (J.2.1, 120, .inl (fun _ => 0))), ((bb 21), .inl (J.2.1, 7168, .inl (fun _ => 0))), ((bb 39), .inl (J.2.1, 5, .inl (fun _ => 0))), ((bb 40), .inl (J.2.1, 10, .inl (fun _ => 0))), ((bb 36), .inl (J.2.1, 10, .inl (fun _ => 0))), ((bb 42), .inl (J.2.1, 50, .inl (fun _ => 0))), ((bb 47), .inl (J.2.1, 6, .inl g)), ((bb 48), .inl (J.2.1, 6, .inl (fun _ => 0))), ((bb 49), .inl (J.2.2.1, 360, .inr (.inl (fun _ => 0))))] := hD
  refine W.widen (k := 600000) (n := 7302250) (Nat.le_of_ble_eq_true rfl) (Nat.le_of_ble_eq_true rfl) ?_
  refine lv_aload_n hx hb dL_law_316 rfl (lv_at hl 1 rfl) ?_
  refine lv_aload_n hx hb dL_law_317 rfl (lv_at hl 3 rfl) ?_
  refine lv_iload_n hx hb dL_law_318 rfl (lv_at hl 0 rfl) ?_
  refine lv_iconst (v := 1) hx hb dL_law_319 (by decide) ?_
  refine lv_iadd hx hb dL_law_320 ?_
  refine top_i (y := 1) (by decide) ?_
  refine va_sld hx hb hX hbl hbA hS (i_in (a := 1) (by decide) (by omega) (by omega)) dL_law_321 ?_
  refine top_i (y := x1) e1.symm ?_
  refine lv_aload_n hx hb dL_law_322 rfl (lv_at hl 3 rfl) ?_
  refine lv_iload_n hx hb dL_law_323 rfl (lv_at hl 0 rfl) ?_
  refine lv_iconst (v := 2) hx hb dL_law_324 (by decide) ?_
  refine lv_iadd hx hb dL_law_325 ?_
  refine top_i (y := 2) (by decide) ?_
  refine va_sld hx hb hX hbl hbA hS (i_in (a := 2) (by decide) (by omega) (by omega)) dL_law_326 ?_
  refine top_i (y := x2) e2.symm ?_
  refine lv_aload_n hx hb dL_law_327 rfl (lv_at hl 3 rfl) ?_
  refine lv_iload_n hx hb dL_law_328 rfl (lv_at hl 0 rfl) ?_
  refine lv_iconst (v := 3) hx hb dL_law_329 (by decide) ?_
  refine lv_iadd hx hb dL_law_330 ?_
  refine top_i (y := 3) (by decide) ?_
  refine va_sld hx hb hX hbl hbA hS (i_in (a := 3) (by decide) (by omega) (by omega)) dL_law_331 ?_
  refine top_i (y := x3) e3.symm ?_
  refine gw_i (wc := [((bb 0), .inr (12, [.ref (bb 1), .ref (bb 2), .ref (bb 3), .ref (bb 4), .int 0, .int 0, .int 0, .int 0, .ref (bb 9), .ref (bb 10), .int 0, .ref (bb 12), .int (-1), .int 0, .int 0, .int 0, .int 0, .int 0, .ref (bb 19), .ref (bb 20), .ref (bb 21), .ref (bb 22), .ref (bb 23), .long 0, .long 0, .long 0, .ref (bb 27), .ref (bb 28), .ref (bb 29), .long 0, .int 0, .int (-1), .int 0, .int 0, .int 0, .ref (bb 36), .int 0, .int 0, .ref (bb 39), .ref (bb 40), .int 0, .ref (bb 42), .ref (bb 43), .int 0, .int 0, .int 0, .ref (bb 47), .ref (bb 48), .ref (bb 49), .ref (bb 50)])), ((bb 1), .inl (J.2.1, 22, .inl (upd (fun _ => 0) (20 : Int32).toNatClampNeg 1))), ((bb 2), .inl (J.2.1, 40, .inl (fun _ => 0))), ((bb 3), .inl (J.2.1, 40, .inl (fun _ => 0))), ((bb 4), .inl (J.2.1, 40, .inl (fun _ => 0)))]) (wr := [((bb 10), .inl (J.2.1, 120, .inl (fun _ => 0))), ((bb 21), .inl (J.2.1, 7168, .inl (fun _ => 0))), ((bb 39), .inl (J.2.1, 5, .inl (fun _ => 0))), ((bb 40), .inl (J.2.1, 10, .inl (fun _ => 0))), ((bb 36), .inl (J.2.1, 10, .inl (fun _ => 0))), ((bb 42), .inl (J.2.1, 50, .inl (fun _ => 0))), ((bb 47), .inl (J.2.1, 6, .inl g)), ((bb 48), .inl (J.2.1, 6, .inl (fun _ => 0))), ((bb 49), .inl (J.2.2.1, 360, .inr (.inl (fun _ => 0))))]) hP hD hS hA [0, 1, 2, 3, 4] [5, 6, 7, 8, 9, 10, 11, 12, 13] rfl rfl (by decide) (by decide) (wn_V (As := [.int x1, .int x2, .int x3]) (rest := [.int (sp_mend (x1.toInt) (x2.toInt) (x3.toInt))]) hx hb hml hown hts hK (m_mend l J _ bb x1 x2 x3) kV_RL_30 (hP.sub (ws' := [((bb 0), .inr (12, [.ref (bb 1), .ref (bb 2), .ref (bb 3), .ref (bb 4), .int 0, .int 0, .int 0, .int 0, .ref (bb 9), .ref (bb 10), .int 0, .ref (bb 12), .int (-1), .int 0, .int 0, .int 0, .int 0, .int 0, .ref (bb 19), .ref (bb 20), .ref (bb 21), .ref (bb 22), .ref (bb 23), .long 0, .long 0, .long 0, .ref (bb 27), .ref (bb 28), .ref (bb 29), .long 0, .int 0, .int (-1), .int 0, .int 0, .int 0, .ref (bb 36), .int 0, .int 0, .ref (bb 39), .ref (bb 40), .int 0, .ref (bb 42), .ref (bb 43), .int 0, .int 0, .int 0, .ref (bb 47), .ref (bb 48), .ref (bb 49), .ref (bb 50)])), ((bb 1), .inl (J.2.1, 22, .inl (upd (fun _ => 0) (20 : Int32).toNatClampNeg 1))), ((bb 2), .inl (J.2.1, 40, .inl (fun _ => 0))), ((bb 3), .inl (J.2.1, 40, .inl (fun _ => 0))), ((bb 4), .inl (J.2.1, 40, .inl (fun _ => 0)))]) [0, 1, 2, 3, 4] rfl) ((hD.sub (ws' := [((bb 0), .inr (12, [.ref (bb 1), .ref (bb 2), .ref (bb 3), .ref (bb 4), .int 0, .int 0, .int 0, .int 0, .ref (bb 9), .ref (bb 10), .int 0, .ref (bb 12), .int (-1), .int 0, .int 0, .int 0, .int 0, .int 0, .ref (bb 19), .ref (bb 20), .ref (bb 21), .ref (bb 22), .ref (bb 23), .long 0, .long 0, .long 0, .ref (bb 27), .ref (bb 28), .ref (bb 29), .long 0, .int 0, .int (-1), .int 0, .int 0, .int 0, .ref (bb 36), .int 0, .int 0, .ref (bb 39), .ref (bb 40), .int 0, .ref (bb 42), .ref (bb 43), .int 0, .int 0, .int 0, .ref (bb 47), .ref (bb 48), .ref (bb 49), .ref (bb 50)])), ((bb 1), .inl (J.2.1, 22, .inl (upd (fun _ => 0) (20 : Int32).toNatClampNeg 1))), ((bb 2), .inl (J.2.1, 40, .inl (fun _ => 0))), ((bb 3), .inl (J.2.1, 40, .inl (fun _ => 0))), ((bb 4), .inl (J.2.1, 40, .inl (fun _ => 0)))]) [0, 1, 2, 3, 4] (by decide) rfl).weaken (fun _ _ _ _ => trivial)) rfl rfl rfl ⟨Nat.le_of_ble_eq_true rfl, Nat.le_of_ble_eq_true rfl⟩ rfl rfl rfl hl.1 rfl (Nat.le_of_ble_eq_true rfl) ⟨Nat.le_of_ble_eq_true rfl, Nat.le_of_ble_eq_true rfl⟩ dL_law_332) (fun r4 u3 H locs hw hP hD hS => ?_)
  subst hw
  have hP : va_P J.1 cls [((bb 10), .inl (J.2.1, 120, .inl (fun _ => 0))), ((bb 21), .inl (J.2.1, 7168, .inl (fun _ => 0))), ((bb 39), .inl (J.2.1, 5, .inl (fun _ => 0))), ((bb 40), .inl (J.2.1, 10, .inl (fun _ => 0))), ((bb 36), .inl (J.2.1, 10, .inl (fun _ => 0))), ((bb 42), .inl (J.2.1, 50, .inl (fun _ => 0))), ((bb 47), .inl (J.2.1, 6, .inl g)), ((bb 48), .inl (J.2.1, 6, .inl (fun _ => 0))), ((bb 49), .inl (J.2.2.1, 360, .inr (.inl (fun _ => 0))))] H := hP
  have hD : va_D A [((bb 10), .inl (J.2.1, 120, .inl (fun _ => 0))), ((bb 21), .inl (J.2.1, 7168, .inl (fun _ => 0))), ((bb 39), .inl (J.2.1, 5, .inl (fun _ => 0))), ((bb 40), .inl (J.2.1, 10, .inl (fun _ => 0))), ((bb 36), .inl (J.2.1, 10, .inl (fun _ => 0))), ((bb 42), .inl (J.2.1, 50, .inl (fun _ => 0))), ((bb 47), .inl (J.2.1, 6, .inl g)), ((bb 48), .inl (J.2.1, 6, .inl (fun _ => 0))), ((bb 49), .inl (J.2.2.1, 360, .inr (.inl (fun _ => 0))))] := hD
  refine W.widen (k := 600000) (n := 7302250) (Nat.le_of_ble_eq_true rfl) (Nat.le_of_ble_eq_true rfl) ?_
  refine lv_icmp_eq (tgt := 1413) hx hb dL_law_335 (by decide) (fun _ => ?_) (fun c => absurd rfl c)
  exact law_end E0 hS (lv_sub hl [0, 1, 2, 3] rfl)
theorem dL_law_340 : decode cL_law 340 = .ok (.aload_n 1, 1) := by decide +kernel
theorem dL_law_341 : decode cL_law 341 = .ok (.aload_n 0, 1) := by decide +kernel
theorem dL_law_342 : decode cL_law 342 = .ok (.iload_n 3, 1) := by decide +kernel
theorem dL_law_343 : decode cL_law 343 = .ok (.iconst 1, 1) := by decide +kernel
theorem dL_law_344 : decode cL_law 344 = .ok (.iadd, 1) := by decide +kernel
theorem dL_law_345 : decode cL_law 345 = .ok (.iaload, 1) := by decide +kernel
theorem dL_law_346 : decode cL_law 346 = .ok (.aload_n 0, 1) := by decide +kernel
theorem dL_law_347 : decode cL_law 347 = .ok (.iload_n 3, 1) := by decide +kernel
theorem dL_law_348 : decode cL_law 348 = .ok (.iconst 2, 1) := by decide +kernel
theorem dL_law_349 : decode cL_law 349 = .ok (.iadd, 1) := by decide +kernel
theorem dL_law_350 : decode cL_law 350 = .ok (.iaload, 1) := by decide +kernel
theorem q_638 : Cond.methodLink RL 31 yX11_of ∈ lw_g := mem_q 638 (by decide +kernel) rfl
theorem q_639 : Cond.instanceMethod yX11_of ∈ lw_g := mem_q 639 (by decide +kernel) rfl
theorem q_640 : Cond.selects RX11 yX11_of yX11_of ∈ lw_g := mem_q 640 (by decide +kernel) rfl
theorem q_641 : Cond.code yX11_of cX11_of 3 (some .int) ∈ lw_g := mem_q 641 (by decide +kernel) rfl
theorem kV_RL_31 : CV RL 31 RX11 yX11_of cX11_of 3 (some .int) 2 := cv_of q_638 q_639 q_640 q_103 q_641 (by decide +kernel)
theorem dL_law_351 : decode cL_law 351 = .ok (.invokevirtual 31, 3) := by decide +kernel
theorem dL_law_354 : decode cL_law 354 = .ok (.aload_n 2, 1) := by decide +kernel
theorem dL_law_355 : decode cL_law 355 = .ok (.aload_n 0, 1) := by decide +kernel
theorem dL_law_356 : decode cL_law 356 = .ok (.iload_n 3, 1) := by decide +kernel
theorem dL_law_357 : decode cL_law 357 = .ok (.iconst 1, 1) := by decide +kernel
theorem dL_law_358 : decode cL_law 358 = .ok (.iadd, 1) := by decide +kernel
theorem dL_law_359 : decode cL_law 359 = .ok (.iaload, 1) := by decide +kernel
theorem dL_law_360 : decode cL_law 360 = .ok (.aload_n 0, 1) := by decide +kernel
theorem dL_law_361 : decode cL_law 361 = .ok (.iload_n 3, 1) := by decide +kernel
theorem dL_law_362 : decode cL_law 362 = .ok (.iconst 2, 1) := by decide +kernel
theorem dL_law_363 : decode cL_law 363 = .ok (.iadd, 1) := by decide +kernel
theorem dL_law_364 : decode cL_law 364 = .ok (.iaload, 1) := by decide +kernel
theorem q_1470 : Cond.methodLink RL 35 yX12_of ∈ lw_g := mem_q 1470 (by decide +kernel) rfl
theorem q_1471 : Cond.instanceMethod yX12_of ∈ lw_g := mem_q 1471 (by decide +kernel) rfl
theorem q_1472 : Cond.selects RX12 yX12_of yX12_of ∈ lw_g := mem_q 1472 (by decide +kernel) rfl
theorem q_1473 : Cond.code yX12_of cX12_of 3 (some .int) ∈ lw_g := mem_q 1473 (by decide +kernel) rfl
theorem kV_RL_35 : CV RL 35 RX12 yX12_of cX12_of 3 (some .int) 2 := cv_of q_1470 q_1471 q_1472 q_115 q_1473 (by decide +kernel)
theorem dL_law_365 : decode cL_law 365 = .ok (.invokevirtual 35, 3) := by decide +kernel
theorem dL_law_368 : decode cL_law 368 = .ok (.if_icmp .eq 1045, 3) := by decide +kernel
set_option maxHeartbeats 4000000 in
set_option maxRecDepth 100000 in
/-- of -/
theorem lk_4 {p : Program} {l : Launch} {e : Env} {s : State} {m : MethodId} {below : List Frame} {meth : Method} {c : Code} {b : Nat} {xs : Nat → Int32} {J : va_J9} {A : Nat → Prop} {H : Heap} {locs : List Loc} {ls : Array Slot} {a bb : Nat → Nat} {f : Nat → Option Nat} {g : Nat → Int32} (E0 : LE p s m meth c b 6 xs J A) (hfx : ∀ j, j < 6 → f j = some (a (41 + j))) (hg : ∀ k, k < 6 → g k = -1) (hP : va_P J.1 cls (xW J a f ++ mW J bb g) H) (hD : va_D A (xW J a f ++ mW J bb g)) (hS : va_S A s.heap H locs) (hl : lv_has ls 4 [(3, .int 0), (2, .ref (bb 0)), (1, .ref (a 0)), (0, .ref b)]) : W p l e room_1 s m #[Value.ref b] below meth c H locs 600000 7302250 (lw_Z below #[Value.ref b] s) (F0 m 340 ls []) := by
  obtain ⟨hx, hb, hr, hml, hown, hts, hX, hbl, hlk, hK, hA, hAs⟩ := id E0
  have hbA : ¬ A b := fun h => absurd (hAs b h) (Nat.not_le.mpr hbl)
  obtain ⟨x1, e1⟩ : ∃ z : Int32, z = xs 1 := ⟨_, rfl⟩
  obtain ⟨x2, e2⟩ : ∃ z : Int32, z = xs 2 := ⟨_, rfl⟩
  have rg_x1 := i_rng x1
  have rg_x2 := i_rng x2
  refine lv_aload_n hx hb dL_law_340 rfl (lv_at hl 2 rfl) ?_
  refine lv_aload_n hx hb dL_law_341 rfl (lv_at hl 3 rfl) ?_
  refine lv_iload_n hx hb dL_law_342 rfl (lv_at hl 0 rfl) ?_
  refine lv_iconst (v := 1) hx hb dL_law_343 (by decide) ?_
  refine lv_iadd hx hb dL_law_344 ?_
  refine top_i (y := 1) (by decide) ?_
  refine va_sld hx hb hX hbl hbA hS (i_in (a := 1) (by decide) (by omega) (by omega)) dL_law_345 ?_
  refine top_i (y := x1) e1.symm ?_
  refine lv_aload_n hx hb dL_law_346 rfl (lv_at hl 3 rfl) ?_
  refine lv_iload_n hx hb dL_law_347 rfl (lv_at hl 0 rfl) ?_
  refine lv_iconst (v := 2) hx hb dL_law_348 (by decide) ?_
  refine lv_iadd hx hb dL_law_349 ?_
  refine top_i (y := 2) (by decide) ?_
  refine va_sld hx hb hX hbl hbA hS (i_in (a := 2) (by decide) (by omega) (by omega)) dL_law_350 ?_
  refine top_i (y := x2) e2.symm ?_
  refine go_i (rn_V (As := [.int x1, .int x2]) (rest := []) hx hb hml hown hts hK (c_of l J a x1 x2) kV_RL_31 (hP.sub (ws' := [((a 0), .inr (11, [.ref (a 1), .ref (a 6), .ref (a 10), .ref (a 15), .ref (a 17), .ref (a 22), .ref (a 23), .ref (a 30), .ref (a 31), .ref (a 34), .int 0, .ref (a 37), .ref (a 40)])), ((a 6), .inr (10, [.ref (a 1), .ref (a 7), .ref (a 8), .ref (a 9), .int 0, .int 0, .int 0, .int 0, .int 1, .int 0, .int 0])), ((a 31), .inr (3, [.ref (a 6), .ref (a 32), .ref (a 33), .int 0, .int 0, .int 0, .int 0, .int 0]))]) [0, 4, 18] rfl) rfl rfl rfl ⟨Nat.le_of_ble_eq_true rfl, Nat.le_of_ble_eq_true rfl⟩ rfl rfl rfl hl.1 rfl (Nat.le_of_ble_eq_true rfl) ⟨Nat.le_of_ble_eq_true rfl, Nat.le_of_ble_eq_true rfl⟩ dL_law_351) ?_
  refine lv_aload_n hx hb dL_law_354 rfl (lv_at hl 1 rfl) ?_
  refine lv_aload_n hx hb dL_law_355 rfl (lv_at hl 3 rfl) ?_
  refine lv_iload_n hx hb dL_law_356 rfl (lv_at hl 0 rfl) ?_
  refine lv_iconst (v := 1) hx hb dL_law_357 (by decide) ?_
  refine lv_iadd hx hb dL_law_358 ?_
  refine top_i (y := 1) (by decide) ?_
  refine va_sld hx hb hX hbl hbA hS (i_in (a := 1) (by decide) (by omega) (by omega)) dL_law_359 ?_
  refine top_i (y := x1) e1.symm ?_
  refine lv_aload_n hx hb dL_law_360 rfl (lv_at hl 3 rfl) ?_
  refine lv_iload_n hx hb dL_law_361 rfl (lv_at hl 0 rfl) ?_
  refine lv_iconst (v := 2) hx hb dL_law_362 (by decide) ?_
  refine lv_iadd hx hb dL_law_363 ?_
  refine top_i (y := 2) (by decide) ?_
  refine va_sld hx hb hX hbl hbA hS (i_in (a := 2) (by decide) (by omega) (by omega)) dL_law_364 ?_
  refine top_i (y := x2) e2.symm ?_
  refine go_i (rn_V (As := [.int x1, .int x2]) (rest := [.int (sp_of (x1.toInt) (x2.toInt))]) hx hb hml hown hts hK (m_of l J bb x1 x2) kV_RL_35 (hP.sub (ws' := [((bb 0), .inr (12, [.ref (bb 1), .ref (bb 2), .ref (bb 3), .ref (bb 4), .int 0, .int 0, .int 0, .int 0, .ref (bb 9), .ref (bb 10), .int 0, .ref (bb 12), .int (-1), .int 0, .int 0, .int 0, .int 0, .int 0, .ref (bb 19), .ref (bb 20), .ref (bb 21), .ref (bb 22), .ref (bb 23), .long 0, .long 0, .long 0, .ref (bb 27), .ref (bb 28), .ref (bb 29), .long 0, .int 0, .int (-1), .int 0, .int 0, .int 0, .ref (bb 36), .int 0, .int 0, .ref (bb 39), .ref (bb 40), .int 0, .ref (bb 42), .ref (bb 43), .int 0, .int 0, .int 0, .ref (bb 47), .ref (bb 48), .ref (bb 49), .ref (bb 50)])), ((bb 1), .inl (J.2.1, 22, .inl (upd (fun _ => 0) (20 : Int32).toNatClampNeg 1)))]) [39, 40] rfl) rfl rfl rfl ⟨Nat.le_of_ble_eq_true rfl, Nat.le_of_ble_eq_true rfl⟩ rfl rfl rfl hl.1 rfl (Nat.le_of_ble_eq_true rfl) ⟨Nat.le_of_ble_eq_true rfl, Nat.le_of_ble_eq_true rfl⟩ dL_law_365) ?_
  refine lv_icmp_eq (tgt := 1413) hx hb dL_law_368 (by decide) (fun _ => ?_) (fun c => absurd rfl c)
  exact law_end E0 hS (lv_sub hl [0, 1, 2, 3] rfl)
theorem dL_law_373 : decode cL_law 373 = .ok (.aload_n 1, 1) := by decide +kernel
theorem dL_law_374 : decode cL_law 374 = .ok (.aload_n 0, 1) := by decide +kernel
theorem dL_law_375 : decode cL_law 375 = .ok (.iload_n 3, 1) := by decide +kernel
theorem dL_law_376 : decode cL_law 376 = .ok (.iconst 1, 1) := by decide +kernel
theorem dL_law_377 : decode cL_law 377 = .ok (.iadd, 1) := by decide +kernel
theorem dL_law_378 : decode cL_law 378 = .ok (.iaload, 1) := by decide +kernel
theorem q_672 : Cond.methodLink RL 36 yX11_feed ∈ lw_g := mem_q 672 (by decide +kernel) rfl
theorem q_673 : Cond.instanceMethod yX11_feed ∈ lw_g := mem_q 673 (by decide +kernel) rfl
theorem q_674 : Cond.selects RX11 yX11_feed yX11_feed ∈ lw_g := mem_q 674 (by decide +kernel) rfl
theorem q_675 : Cond.code yX11_feed cX11_feed 2 (some .int) ∈ lw_g := mem_q 675 (by decide +kernel) rfl
theorem kV_RL_36 : CV RL 36 RX11 yX11_feed cX11_feed 2 (some .int) 1 := cv_of q_672 q_673 q_674 q_103 q_675 (by decide +kernel)
theorem dL_law_379 : decode cL_law 379 = .ok (.invokevirtual 36, 3) := by decide +kernel
theorem dL_law_382 : decode cL_law 382 = .ok (.aload_n 2, 1) := by decide +kernel
theorem dL_law_383 : decode cL_law 383 = .ok (.aload_n 0, 1) := by decide +kernel
theorem dL_law_384 : decode cL_law 384 = .ok (.iload_n 3, 1) := by decide +kernel
theorem dL_law_385 : decode cL_law 385 = .ok (.iconst 1, 1) := by decide +kernel
theorem dL_law_386 : decode cL_law 386 = .ok (.iadd, 1) := by decide +kernel
theorem dL_law_387 : decode cL_law 387 = .ok (.iaload, 1) := by decide +kernel
theorem q_1540 : Cond.methodLink RL 39 yX12_feed ∈ lw_g := mem_q 1540 (by decide +kernel) rfl
theorem q_1541 : Cond.instanceMethod yX12_feed ∈ lw_g := mem_q 1541 (by decide +kernel) rfl
theorem q_1542 : Cond.selects RX12 yX12_feed yX12_feed ∈ lw_g := mem_q 1542 (by decide +kernel) rfl
theorem q_1543 : Cond.code yX12_feed cX12_feed 2 (some .int) ∈ lw_g := mem_q 1543 (by decide +kernel) rfl
theorem kV_RL_39 : CV RL 39 RX12 yX12_feed cX12_feed 2 (some .int) 1 := cv_of q_1540 q_1541 q_1542 q_115 q_1543 (by decide +kernel)
theorem dL_law_388 : decode cL_law 388 = .ok (.invokevirtual 39, 3) := by decide +kernel
theorem dL_law_391 : decode cL_law 391 = .ok (.if_icmp .eq 1022, 3) := by decide +kernel
set_option maxHeartbeats 4000000 in
set_option maxRecDepth 100000 in
/-- feed -/
theorem lk_5 {p : Program} {l : Launch} {e : Env} {s : State} {m : MethodId} {below : List Frame} {meth : Method} {c : Code} {b : Nat} {xs : Nat → Int32} {J : va_J9} {A : Nat → Prop} {H : Heap} {locs : List Loc} {ls : Array Slot} {a bb : Nat → Nat} {f : Nat → Option Nat} {g : Nat → Int32} (E0 : LE p s m meth c b 6 xs J A) (hfx : ∀ j, j < 6 → f j = some (a (41 + j))) (hg : ∀ k, k < 6 → g k = -1) (hP : va_P J.1 cls (xW J a f ++ mW J bb g) H) (hD : va_D A (xW J a f ++ mW J bb g)) (hS : va_S A s.heap H locs) (hl : lv_has ls 4 [(3, .int 0), (2, .ref (bb 0)), (1, .ref (a 0)), (0, .ref b)]) : W p l e room_1 s m #[Value.ref b] below meth c H locs 600000 7302250 (lw_Z below #[Value.ref b] s) (F0 m 373 ls []) := by
  obtain ⟨hx, hb, hr, hml, hown, hts, hX, hbl, hlk, hK, hA, hAs⟩ := id E0
  have hbA : ¬ A b := fun h => absurd (hAs b h) (Nat.not_le.mpr hbl)
  obtain ⟨x1, e1⟩ : ∃ z : Int32, z = xs 1 := ⟨_, rfl⟩
  have rg_x1 := i_rng x1
  refine lv_aload_n hx hb dL_law_373 rfl (lv_at hl 2 rfl) ?_
  refine lv_aload_n hx hb dL_law_374 rfl (lv_at hl 3 rfl) ?_
  refine lv_iload_n hx hb dL_law_375 rfl (lv_at hl 0 rfl) ?_
  refine lv_iconst (v := 1) hx hb dL_law_376 (by decide) ?_
  refine lv_iadd hx hb dL_law_377 ?_
  refine top_i (y := 1) (by decide) ?_
  refine va_sld hx hb hX hbl hbA hS (i_in (a := 1) (by decide) (by omega) (by omega)) dL_law_378 ?_
  refine top_i (y := x1) e1.symm ?_
  refine gw_i (wc := [((a 0), .inr (11, [.ref (a 1), .ref (a 6), .ref (a 10), .ref (a 15), .ref (a 17), .ref (a 22), .ref (a 23), .ref (a 30), .ref (a 31), .ref (a 34), .int 0, .ref (a 37), .ref (a 40)])), ((a 1), .inr (7, [.ref (a 2), .int 0, .ref (a 3), .int 0, .int 0, .int 0, .ref (a 4), .int 0, .ref (a 5), .int 0])), ((a 2), .inl (J.2.1, 120, .inl (fun _ => 0)))]) (wr := [((bb 0), .inr (12, [.ref (bb 1), .ref (bb 2), .ref (bb 3), .ref (bb 4), .int 0, .int 0, .int 0, .int 0, .ref (bb 9), .ref (bb 10), .int 0, .ref (bb 12), .int (-1), .int 0, .int 0, .int 0, .int 0, .int 0, .ref (bb 19), .ref (bb 20), .ref (bb 21), .ref (bb 22), .ref (bb 23), .long 0, .long 0, .long 0, .ref (bb 27), .ref (bb 28), .ref (bb 29), .long 0, .int 0, .int (-1), .int 0, .int 0, .int 0, .ref (bb 36), .int 0, .int 0, .ref (bb 39), .ref (bb 40), .int 0, .ref (bb 42), .ref (bb 43), .int 0, .int 0, .int 0, .ref (bb 47), .ref (bb 48), .ref (bb 49), .ref (bb 50)])), ((bb 1), .inl (J.2.1, 22, .inl (upd (fun _ => 0) (20 : Int32).toNatClampNeg 1))), ((bb 2), .inl (J.2.1, 40, .inl (fun _ => 0))), ((bb 3), .inl (J.2.1, 40, .inl (fun _ => 0))), ((bb 4), .inl (J.2.1, 40, .inl (fun _ => 0))), ((bb 10), .inl (J.2.1, 120, .inl (fun _ => 0))), ((bb 21), .inl (J.2.1, 7168, .inl (fun _ => 0))), ((bb 39), .inl (J.2.1, 5, .inl (fun _ => 0))), ((bb 40), .inl (J.2.1, 10, .inl (fun _ => 0))), ((bb 36), .inl (J.2.1, 10, .inl (fun _ => 0))), ((bb 42), .inl (J.2.1, 50, .inl (fun _ => 0))), ((bb 47), .inl (J.2.1, 6, .inl g)), ((bb 48), .inl (J.2.1, 6, .inl (fun _ => 0))), ((bb 49), .inl (J.2.2.1, 360, .inr (.inl (fun _ => 0))))]) hP hD hS hA [0, 1, 2] [39, 40, 41, 42, 43, 44, 45, 46, 47, 48, 49, 50, 51, 52] rfl rfl (by decide) (by decide) (wn_V (As := [.int x1]) (rest := []) hx hb hml hown hts hK (c_feed l J _ a x1) kV_RL_36 (hP.sub (ws' := [((a 0), .inr (11, [.ref (a 1), .ref (a 6), .ref (a 10), .ref (a 15), .ref (a 17), .ref (a 22), .ref (a 23), .ref (a 30), .ref (a 31), .ref (a 34), .int 0, .ref (a 37), .ref (a 40)])), ((a 1), .inr (7, [.ref (a 2), .int 0, .ref (a 3), .int 0, .int 0, .int 0, .ref (a 4), .int 0, .ref (a 5), .int 0])), ((a 2), .inl (J.2.1, 120, .inl (fun _ => 0)))]) [0, 1, 2] rfl) ((hD.sub (ws' := [((a 0), .inr (11, [.ref (a 1), .ref (a 6), .ref (a 10), .ref (a 15), .ref (a 17), .ref (a 22), .ref (a 23), .ref (a 30), .ref (a 31), .ref (a 34), .int 0, .ref (a 37), .ref (a 40)])), ((a 1), .inr (7, [.ref (a 2), .int 0, .ref (a 3), .int 0, .int 0, .int 0, .ref (a 4), .int 0, .ref (a 5), .int 0])), ((a 2), .inl (J.2.1, 120, .inl (fun _ => 0)))]) [0, 1, 2] (by decide) rfl).weaken (fun _ _ _ _ => trivial)) rfl rfl rfl ⟨Nat.le_of_ble_eq_true rfl, Nat.le_of_ble_eq_true rfl⟩ rfl rfl rfl hl.1 rfl (Nat.le_of_ble_eq_true rfl) ⟨Nat.le_of_ble_eq_true rfl, Nat.le_of_ble_eq_true rfl⟩ dL_law_379) (fun r2 u1 H locs hw hP hD hS => ?_)
  subst hw
  have hP : va_P J.1 cls [((bb 0), .inr (12, [.ref (bb 1), .ref (bb 2), .ref (bb 3), .ref (bb 4), .int 0, .int 0, .int 0, .int 0, .ref (bb 9), .ref (bb 10), .int 0, .ref (bb 12), .int (-1), .int 0, .int 0, .int 0, .int 0, .int 0, .ref (bb 19), .ref (bb 20), .ref (bb 21), .ref (bb 22), .ref (bb 23), .long 0, .long 0, .long 0, .ref (bb 27), .ref (bb 28), .ref (bb 29), .long 0, .int 0, .int (-1), .int 0, .int 0, .int 0, .ref (bb 36), .int 0, .int 0, .ref (bb 39), .ref (bb 40), .int 0, .ref (bb 42), .ref (bb 43), .int 0, .int 0, .int 0, .ref (bb 47), .ref (bb 48), .ref (bb 49), .ref (bb 50)])), ((bb 1), .inl (J.2.1, 22, .inl (upd (fun _ => 0) (20 : Int32).toNatClampNeg 1))), ((bb 2), .inl (J.2.1, 40, .inl (fun _ => 0))), ((bb 3), .inl (J.2.1, 40, .inl (fun _ => 0))), ((bb 4), .inl (J.2.1, 40, .inl (fun _ => 0))), ((bb 10), .inl (J.2.1, 120, .inl (fun _ => 0))), ((bb 21), .inl (J.2.1, 7168, .inl (fun _ => 0))), ((bb 39), .inl (J.2.1, 5, .inl (fun _ => 0))), ((bb 40), .inl (J.2.1, 10, .inl (fun _ => 0))), ((bb 36), .inl (J.2.1, 10, .inl (fun _ => 0))), ((bb 42), .inl (J.2.1, 50, .inl (fun _ => 0))), ((bb 47), .inl (J.2.1, 6, .inl g)), ((bb 48), .inl (J.2.1, 6, .inl (fun _ => 0))), ((bb 49), .inl (J.2.2.1, 360, .inr (.inl (fun _ => 0))))] H := hP
  have hD : va_D A [((bb 0), .inr (12, [.ref (bb 1), .ref (bb 2), .ref (bb 3), .ref (bb 4), .int 0, .int 0, .int 0, .int 0, .ref (bb 9), .ref (bb 10), .int 0, .ref (bb 12), .int (-1), .int 0, .int 0, .int 0, .int 0, .int 0, .ref (bb 19), .ref (bb 20), .ref (bb 21), .ref (bb 22), .ref (bb 23), .long 0, .long 0, .long 0, .ref (bb 27), .ref (bb 28), .ref (bb 29), .long 0, .int 0, .int (-1), .int 0, .int 0, .int 0, .ref (bb 36), .int 0, .int 0, .ref (bb 39), .ref (bb 40), .int 0, .ref (bb 42), .ref (bb 43), .int 0, .int 0, .int 0, .ref (bb 47), .ref (bb 48), .ref (bb 49), .ref (bb 50)])), ((bb 1), .inl (J.2.1, 22, .inl (upd (fun _ => 0) (20 : Int32).toNatClampNeg 1))), ((bb 2), .inl (J.2.1, 40, .inl (fun _ => 0))), ((bb 3), .inl (J.2.1, 40, .inl (fun _ => 0))), ((bb 4), .inl (J.2.1, 40, .inl (fun _ => 0))), ((bb 10), .inl (J.2.1, 120, .inl (fun _ => 0))), ((bb 21), .inl (J.2.1, 7168, .inl (fun _ => 0))), ((bb 39), .inl (J.2.1, 5, .inl (fun _ => 0))), ((bb 40), .inl (J.2.1, 10, .inl (fun _ => 0))), ((bb 36), .inl (J.2.1, 10, .inl (fun _ => 0))), ((bb 42), .inl (J.2.1, 50, .inl (fun _ => 0))), ((bb 47), .inl (J.2.1, 6, .inl g)), ((bb 48), .inl (J.2.1, 6, .inl (fun _ => 0))), ((bb 49), .inl (J.2.2.1, 360, .inr (.inl (fun _ => 0))))] := hD
  refine W.widen (k := 600000) (n := 7302250) (Nat.le_of_ble_eq_true rfl) (Nat.le_of_ble_eq_true rfl) ?_
  refine lv_aload_n hx hb dL_law_382 rfl (lv_at hl 1 rfl) ?_
  refine lv_aload_n hx hb dL_law_383 rfl (lv_at hl 3 rfl) ?_
  refine lv_iload_n hx hb dL_law_384 rfl (lv_at hl 0 rfl) ?_
  refine lv_iconst (v := 1) hx hb dL_law_385 (by decide) ?_
  refine lv_iadd hx hb dL_law_386 ?_
  refine top_i (y := 1) (by decide) ?_
  refine va_sld hx hb hX hbl hbA hS (i_in (a := 1) (by decide) (by omega) (by omega)) dL_law_387 ?_
  refine top_i (y := x1) e1.symm ?_
  refine gw_i (wc := [((bb 0), .inr (12, [.ref (bb 1), .ref (bb 2), .ref (bb 3), .ref (bb 4), .int 0, .int 0, .int 0, .int 0, .ref (bb 9), .ref (bb 10), .int 0, .ref (bb 12), .int (-1), .int 0, .int 0, .int 0, .int 0, .int 0, .ref (bb 19), .ref (bb 20), .ref (bb 21), .ref (bb 22), .ref (bb 23), .long 0, .long 0, .long 0, .ref (bb 27), .ref (bb 28), .ref (bb 29), .long 0, .int 0, .int (-1), .int 0, .int 0, .int 0, .ref (bb 36), .int 0, .int 0, .ref (bb 39), .ref (bb 40), .int 0, .ref (bb 42), .ref (bb 43), .int 0, .int 0, .int 0, .ref (bb 47), .ref (bb 48), .ref (bb 49), .ref (bb 50)])), ((bb 10), .inl (J.2.1, 120, .inl (fun _ => 0)))]) (wr := [((bb 1), .inl (J.2.1, 22, .inl (upd (fun _ => 0) (20 : Int32).toNatClampNeg 1))), ((bb 2), .inl (J.2.1, 40, .inl (fun _ => 0))), ((bb 3), .inl (J.2.1, 40, .inl (fun _ => 0))), ((bb 4), .inl (J.2.1, 40, .inl (fun _ => 0))), ((bb 21), .inl (J.2.1, 7168, .inl (fun _ => 0))), ((bb 39), .inl (J.2.1, 5, .inl (fun _ => 0))), ((bb 40), .inl (J.2.1, 10, .inl (fun _ => 0))), ((bb 36), .inl (J.2.1, 10, .inl (fun _ => 0))), ((bb 42), .inl (J.2.1, 50, .inl (fun _ => 0))), ((bb 47), .inl (J.2.1, 6, .inl g)), ((bb 48), .inl (J.2.1, 6, .inl (fun _ => 0))), ((bb 49), .inl (J.2.2.1, 360, .inr (.inl (fun _ => 0))))]) hP hD hS hA [0, 5] [1, 2, 3, 4, 6, 7, 8, 9, 10, 11, 12, 13] rfl rfl (by decide) (by decide) (wn_V (As := [.int x1]) (rest := [.int (sp_feed (x1.toInt))]) hx hb hml hown hts hK (m_feed l J _ bb x1) kV_RL_39 (hP.sub (ws' := [((bb 0), .inr (12, [.ref (bb 1), .ref (bb 2), .ref (bb 3), .ref (bb 4), .int 0, .int 0, .int 0, .int 0, .ref (bb 9), .ref (bb 10), .int 0, .ref (bb 12), .int (-1), .int 0, .int 0, .int 0, .int 0, .int 0, .ref (bb 19), .ref (bb 20), .ref (bb 21), .ref (bb 22), .ref (bb 23), .long 0, .long 0, .long 0, .ref (bb 27), .ref (bb 28), .ref (bb 29), .long 0, .int 0, .int (-1), .int 0, .int 0, .int 0, .ref (bb 36), .int 0, .int 0, .ref (bb 39), .ref (bb 40), .int 0, .ref (bb 42), .ref (bb 43), .int 0, .int 0, .int 0, .ref (bb 47), .ref (bb 48), .ref (bb 49), .ref (bb 50)])), ((bb 10), .inl (J.2.1, 120, .inl (fun _ => 0)))]) [0, 5] rfl) ((hD.sub (ws' := [((bb 0), .inr (12, [.ref (bb 1), .ref (bb 2), .ref (bb 3), .ref (bb 4), .int 0, .int 0, .int 0, .int 0, .ref (bb 9), .ref (bb 10), .int 0, .ref (bb 12), .int (-1), .int 0, .int 0, .int 0, .int 0, .int 0, .ref (bb 19), .ref (bb 20), .ref (bb 21), .ref (bb 22), .ref (bb 23), .long 0, .long 0, .long 0, .ref (bb 27), .ref (bb 28), .ref (bb 29), .long 0, .int 0, .int (-1), .int 0, .int 0, .int 0, .ref (bb 36), .int 0, .int 0, .ref (bb 39), .ref (bb 40), .int 0, .ref (bb 42), .ref (bb 43), .int 0, .int 0, .int 0, .ref (bb 47), .ref (bb 48), .ref (bb 49), .ref (bb 50)])), ((bb 10), .inl (J.2.1, 120, .inl (fun _ => 0)))]) [0, 5] (by decide) rfl).weaken (fun _ _ _ _ => trivial)) rfl rfl rfl ⟨Nat.le_of_ble_eq_true rfl, Nat.le_of_ble_eq_true rfl⟩ rfl rfl rfl hl.1 rfl (Nat.le_of_ble_eq_true rfl) ⟨Nat.le_of_ble_eq_true rfl, Nat.le_of_ble_eq_true rfl⟩ dL_law_388) (fun r4 u3 H locs hw hP hD hS => ?_)
  subst hw
  have hP : va_P J.1 cls [((bb 1), .inl (J.2.1, 22, .inl (upd (fun _ => 0) (20 : Int32).toNatClampNeg 1))), ((bb 2), .inl (J.2.1, 40, .inl (fun _ => 0))), ((bb 3), .inl (J.2.1, 40, .inl (fun _ => 0))), ((bb 4), .inl (J.2.1, 40, .inl (fun _ => 0))), ((bb 21), .inl (J.2.1, 7168, .inl (fun _ => 0))), ((bb 39), .inl (J.2.1, 5, .inl (fun _ => 0))), ((bb 40), .inl (J.2.1, 10, .inl (fun _ => 0))), ((bb 36), .inl (J.2.1, 10, .inl (fun _ => 0))), ((bb 42), .inl (J.2.1, 50, .inl (fun _ => 0))), ((bb 47), .inl (J.2.1, 6, .inl g)), ((bb 48), .inl (J.2.1, 6, .inl (fun _ => 0))), ((bb 49), .inl (J.2.2.1, 360, .inr (.inl (fun _ => 0))))] H := hP
  have hD : va_D A [((bb 1), .inl (J.2.1, 22, .inl (upd (fun _ => 0) (20 : Int32).toNatClampNeg 1))), ((bb 2), .inl (J.2.1, 40, .inl (fun _ => 0))), ((bb 3), .inl (J.2.1, 40, .inl (fun _ => 0))), ((bb 4), .inl (J.2.1, 40, .inl (fun _ => 0))), ((bb 21), .inl (J.2.1, 7168, .inl (fun _ => 0))), ((bb 39), .inl (J.2.1, 5, .inl (fun _ => 0))), ((bb 40), .inl (J.2.1, 10, .inl (fun _ => 0))), ((bb 36), .inl (J.2.1, 10, .inl (fun _ => 0))), ((bb 42), .inl (J.2.1, 50, .inl (fun _ => 0))), ((bb 47), .inl (J.2.1, 6, .inl g)), ((bb 48), .inl (J.2.1, 6, .inl (fun _ => 0))), ((bb 49), .inl (J.2.2.1, 360, .inr (.inl (fun _ => 0))))] := hD
  refine W.widen (k := 600000) (n := 7302250) (Nat.le_of_ble_eq_true rfl) (Nat.le_of_ble_eq_true rfl) ?_
  refine lv_icmp_eq (tgt := 1413) hx hb dL_law_391 (by decide) (fun _ => ?_) (fun c => absurd rfl c)
  exact law_end E0 hS (lv_sub hl [0, 1, 2, 3] rfl)
theorem dL_law_396 : decode cL_law 396 = .ok (.aload_n 1, 1) := by decide +kernel
theorem q_680 : Cond.methodLink RL 40 yX11_law ∈ lw_g := mem_q 680 (by decide +kernel) rfl
theorem q_681 : Cond.instanceMethod yX11_law ∈ lw_g := mem_q 681 (by decide +kernel) rfl
theorem q_682 : Cond.selects RX11 yX11_law yX11_law ∈ lw_g := mem_q 682 (by decide +kernel) rfl
theorem q_683 : Cond.code yX11_law cX11_law 2 (some .int) ∈ lw_g := mem_q 683 (by decide +kernel) rfl
theorem kV_RL_40 : CV RL 40 RX11 yX11_law cX11_law 2 (some .int) 0 := cv_of q_680 q_681 q_682 q_103 q_683 (by decide +kernel)
theorem dL_law_397 : decode cL_law 397 = .ok (.invokevirtual 40, 3) := by decide +kernel
theorem dL_law_400 : decode cL_law 400 = .ok (.aload_n 2, 1) := by decide +kernel
theorem q_1545 : Cond.methodLink RL 44 yX12_law ∈ lw_g := mem_q 1545 (by decide +kernel) rfl
theorem q_1546 : Cond.instanceMethod yX12_law ∈ lw_g := mem_q 1546 (by decide +kernel) rfl
theorem q_1547 : Cond.selects RX12 yX12_law yX12_law ∈ lw_g := mem_q 1547 (by decide +kernel) rfl
theorem q_1548 : Cond.code yX12_law cX12_law 4 (some .int) ∈ lw_g := mem_q 1548 (by decide +kernel) rfl
theorem kV_RL_44 : CV RL 44 RX12 yX12_law cX12_law 4 (some .int) 0 := cv_of q_1545 q_1546 q_1547 q_115 q_1548 (by decide +kernel)
theorem dL_law_401 : decode cL_law 401 = .ok (.invokevirtual 44, 3) := by decide +kernel
theorem dL_law_404 : decode cL_law 404 = .ok (.if_icmp .eq 1009, 3) := by decide +kernel
set_option maxHeartbeats 4000000 in
set_option maxRecDepth 100000 in
/-- law -/
theorem lk_6 {p : Program} {l : Launch} {e : Env} {s : State} {m : MethodId} {below : List Frame} {meth : Method} {c : Code} {b : Nat} {xs : Nat → Int32} {J : va_J9} {A : Nat → Prop} {H : Heap} {locs : List Loc} {ls : Array Slot} {a bb : Nat → Nat} {f : Nat → Option Nat} {g : Nat → Int32} (E0 : LE p s m meth c b 6 xs J A) (hfx : ∀ j, j < 6 → f j = some (a (41 + j))) (hg : ∀ k, k < 6 → g k = -1) (hP : va_P J.1 cls (xW J a f ++ mW J bb g) H) (hD : va_D A (xW J a f ++ mW J bb g)) (hS : va_S A s.heap H locs) (hl : lv_has ls 4 [(3, .int 0), (2, .ref (bb 0)), (1, .ref (a 0)), (0, .ref b)]) : W p l e room_1 s m #[Value.ref b] below meth c H locs 600000 7302250 (lw_Z below #[Value.ref b] s) (F0 m 396 ls []) := by
  obtain ⟨hx, hb, hr, hml, hown, hts, hX, hbl, hlk, hK, hA, hAs⟩ := id E0
  have hbA : ¬ A b := fun h => absurd (hAs b h) (Nat.not_le.mpr hbl)
  refine lv_aload_n hx hb dL_law_396 rfl (lv_at hl 2 rfl) ?_
  refine gw_i (wc := [((a 0), .inr (11, [.ref (a 1), .ref (a 6), .ref (a 10), .ref (a 15), .ref (a 17), .ref (a 22), .ref (a 23), .ref (a 30), .ref (a 31), .ref (a 34), .int 0, .ref (a 37), .ref (a 40)])), ((a 1), .inr (7, [.ref (a 2), .int 0, .ref (a 3), .int 0, .int 0, .int 0, .ref (a 4), .int 0, .ref (a 5), .int 0])), ((a 3), .inl (J.2.1, 256, .inl (fun _ => 0)))]) (wr := [((bb 0), .inr (12, [.ref (bb 1), .ref (bb 2), .ref (bb 3), .ref (bb 4), .int 0, .int 0, .int 0, .int 0, .ref (bb 9), .ref (bb 10), .int 0, .ref (bb 12), .int (-1), .int 0, .int 0, .int 0, .int 0, .int 0, .ref (bb 19), .ref (bb 20), .ref (bb 21), .ref (bb 22), .ref (bb 23), .long 0, .long 0, .long 0, .ref (bb 27), .ref (bb 28), .ref (bb 29), .long 0, .int 0, .int (-1), .int 0, .int 0, .int 0, .ref (bb 36), .int 0, .int 0, .ref (bb 39), .ref (bb 40), .int 0, .ref (bb 42), .ref (bb 43), .int 0, .int 0, .int 0, .ref (bb 47), .ref (bb 48), .ref (bb 49), .ref (bb 50)])), ((bb 1), .inl (J.2.1, 22, .inl (upd (fun _ => 0) (20 : Int32).toNatClampNeg 1))), ((bb 2), .inl (J.2.1, 40, .inl (fun _ => 0))), ((bb 3), .inl (J.2.1, 40, .inl (fun _ => 0))), ((bb 4), .inl (J.2.1, 40, .inl (fun _ => 0))), ((bb 10), .inl (J.2.1, 120, .inl (fun _ => 0))), ((bb 21), .inl (J.2.1, 7168, .inl (fun _ => 0))), ((bb 39), .inl (J.2.1, 5, .inl (fun _ => 0))), ((bb 40), .inl (J.2.1, 10, .inl (fun _ => 0))), ((bb 36), .inl (J.2.1, 10, .inl (fun _ => 0))), ((bb 42), .inl (J.2.1, 50, .inl (fun _ => 0))), ((bb 47), .inl (J.2.1, 6, .inl g)), ((bb 48), .inl (J.2.1, 6, .inl (fun _ => 0))), ((bb 49), .inl (J.2.2.1, 360, .inr (.inl (fun _ => 0))))]) hP hD hS hA [0, 1, 3] [39, 40, 41, 42, 43, 44, 45, 46, 47, 48, 49, 50, 51, 52] rfl rfl (by decide) (by decide) (wn_V (As := []) (rest := []) hx hb hml hown hts hK (c_law l J _ a) kV_RL_40 (hP.sub (ws' := [((a 0), .inr (11, [.ref (a 1), .ref (a 6), .ref (a 10), .ref (a 15), .ref (a 17), .ref (a 22), .ref (a 23), .ref (a 30), .ref (a 31), .ref (a 34), .int 0, .ref (a 37), .ref (a 40)])), ((a 1), .inr (7, [.ref (a 2), .int 0, .ref (a 3), .int 0, .int 0, .int 0, .ref (a 4), .int 0, .ref (a 5), .int 0])), ((a 3), .inl (J.2.1, 256, .inl (fun _ => 0)))]) [0, 1, 3] rfl) ((hD.sub (ws' := [((a 0), .inr (11, [.ref (a 1), .ref (a 6), .ref (a 10), .ref (a 15), .ref (a 17), .ref (a 22), .ref (a 23), .ref (a 30), .ref (a 31), .ref (a 34), .int 0, .ref (a 37), .ref (a 40)])), ((a 1), .inr (7, [.ref (a 2), .int 0, .ref (a 3), .int 0, .int 0, .int 0, .ref (a 4), .int 0, .ref (a 5), .int 0])), ((a 3), .inl (J.2.1, 256, .inl (fun _ => 0)))]) [0, 1, 3] (by decide) rfl).weaken (fun _ _ _ _ => trivial)) rfl rfl rfl ⟨Nat.le_of_ble_eq_true rfl, Nat.le_of_ble_eq_true rfl⟩ rfl rfl rfl hl.1 rfl (Nat.le_of_ble_eq_true rfl) ⟨Nat.le_of_ble_eq_true rfl, Nat.le_of_ble_eq_true rfl⟩ dL_law_397) (fun r2 u1 H locs hw hP hD hS => ?_)
  subst hw
  have hP : va_P J.1 cls [((bb 0), .inr (12, [.ref (bb 1), .ref (bb 2), .ref (bb 3), .ref (bb 4), .int 0, .int 0, .int 0, .int 0, .ref (bb 9), .ref (bb 10), .int 0, .ref (bb 12), .int (-1), .int 0, .int 0, .int 0, .int 0, .int 0, .ref (bb 19), .ref (bb 20), .ref (bb 21), .ref (bb 22), .ref (bb 23), .long 0, .long 0, .long 0, .ref (bb 27), .ref (bb 28), .ref (bb 29), .long 0, .int 0, .int (-1), .int 0, .int 0, .int 0, .ref (bb 36), .int 0, .int 0, .ref (bb 39), .ref (bb 40), .int 0, .ref (bb 42), .ref (bb 43), .int 0, .int 0, .int 0, .ref (bb 47), .ref (bb 48), .ref (bb 49), .ref (bb 50)])), ((bb 1), .inl (J.2.1, 22, .inl (upd (fun _ => 0) (20 : Int32).toNatClampNeg 1))), ((bb 2), .inl (J.2.1, 40, .inl (fun _ => 0))), ((bb 3), .inl (J.2.1, 40, .inl (fun _ => 0))), ((bb 4), .inl (J.2.1, 40, .inl (fun _ => 0))), ((bb 10), .inl (J.2.1, 120, .inl (fun _ => 0))), ((bb 21), .inl (J.2.1, 7168, .inl (fun _ => 0))), ((bb 39), .inl (J.2.1, 5, .inl (fun _ => 0))), ((bb 40), .inl (J.2.1, 10, .inl (fun _ => 0))), ((bb 36), .inl (J.2.1, 10, .inl (fun _ => 0))), ((bb 42), .inl (J.2.1, 50, .inl (fun _ => 0))), ((bb 47), .inl (J.2.1, 6, .inl g)), ((bb 48), .inl (J.2.1, 6, .inl (fun _ => 0))), ((bb 49), .inl (J.2.2.1, 360, .inr (.inl (fun _ => 0))))] H := hP
  have hD : va_D A [((bb 0), .inr (12, [.ref (bb 1), .ref (bb 2), .ref (bb 3), .ref (bb 4), .int 0, .int 0, .int 0, .int 0, .ref (bb 9), .ref (bb 10), .int 0, .ref (bb 12), .int (-1), .int 0, .int 0, .int 0, .int 0, .int 0, .ref (bb 19), .ref (bb 20), .ref (bb 21), .ref (bb 22), .ref (bb 23), .long 0, .long 0, .long 0, .ref (bb 27), .ref (bb 28), .ref (bb 29), .long 0, .int 0, .int (-1), .int 0, .int 0, .int 0, .ref (bb 36), .int 0, .int 0, .ref (bb 39), .ref (bb 40), .int 0, .ref (bb 42), .ref (bb 43), .int 0, .int 0, .int 0, .ref (bb 47), .ref (bb 48), .ref (bb 49), .ref (bb 50)])), ((bb 1), .inl (J.2.1, 22, .inl (upd (fun _ => 0) (20 : Int32).toNatClampNeg 1))), ((bb 2), .inl (J.2.1, 40, .inl (fun _ => 0))), ((bb 3), .inl (J.2.1, 40, .inl (fun _ => 0))), ((bb 4), .inl (J.2.1, 40, .inl (fun _ => 0))), ((bb 10), .inl (J.2.1, 120, .inl (fun _ => 0))), ((bb 21), .inl (J.2.1, 7168, .inl (fun _ => 0))), ((bb 39), .inl (J.2.1, 5, .inl (fun _ => 0))), ((bb 40), .inl (J.2.1, 10, .inl (fun _ => 0))), ((bb 36), .inl (J.2.1, 10, .inl (fun _ => 0))), ((bb 42), .inl (J.2.1, 50, .inl (fun _ => 0))), ((bb 47), .inl (J.2.1, 6, .inl g)), ((bb 48), .inl (J.2.1, 6, .inl (fun _ => 0))), ((bb 49), .inl (J.2.2.1, 360, .inr (.inl (fun _ => 0))))] := hD
  refine W.widen (k := 600000) (n := 7302250) (Nat.le_of_ble_eq_true rfl) (Nat.le_of_ble_eq_true rfl) ?_
  refine lv_aload_n hx hb dL_law_400 rfl (lv_at hl 1 rfl) ?_
  refine gw_i (wc := [((bb 0), .inr (12, [.ref (bb 1), .ref (bb 2), .ref (bb 3), .ref (bb 4), .int 0, .int 0, .int 0, .int 0, .ref (bb 9), .ref (bb 10), .int 0, .ref (bb 12), .int (-1), .int 0, .int 0, .int 0, .int 0, .int 0, .ref (bb 19), .ref (bb 20), .ref (bb 21), .ref (bb 22), .ref (bb 23), .long 0, .long 0, .long 0, .ref (bb 27), .ref (bb 28), .ref (bb 29), .long 0, .int 0, .int (-1), .int 0, .int 0, .int 0, .ref (bb 36), .int 0, .int 0, .ref (bb 39), .ref (bb 40), .int 0, .ref (bb 42), .ref (bb 43), .int 0, .int 0, .int 0, .ref (bb 47), .ref (bb 48), .ref (bb 49), .ref (bb 50)]))]) (wr := [((bb 1), .inl (J.2.1, 22, .inl (upd (fun _ => 0) (20 : Int32).toNatClampNeg 1))), ((bb 2), .inl (J.2.1, 40, .inl (fun _ => 0))), ((bb 3), .inl (J.2.1, 40, .inl (fun _ => 0))), ((bb 4), .inl (J.2.1, 40, .inl (fun _ => 0))), ((bb 10), .inl (J.2.1, 120, .inl (fun _ => 0))), ((bb 21), .inl (J.2.1, 7168, .inl (fun _ => 0))), ((bb 39), .inl (J.2.1, 5, .inl (fun _ => 0))), ((bb 40), .inl (J.2.1, 10, .inl (fun _ => 0))), ((bb 36), .inl (J.2.1, 10, .inl (fun _ => 0))), ((bb 42), .inl (J.2.1, 50, .inl (fun _ => 0))), ((bb 47), .inl (J.2.1, 6, .inl g)), ((bb 48), .inl (J.2.1, 6, .inl (fun _ => 0))), ((bb 49), .inl (J.2.2.1, 360, .inr (.inl (fun _ => 0))))]) hP hD hS hA [0] [1, 2, 3, 4, 5, 6, 7, 8, 9, 10, 11, 12, 13] rfl rfl (by decide) (by decide) (wn_V (As := []) (rest := [.int (-100)]) hx hb hml hown hts hK (m_law l J _ bb) kV_RL_44 (hP.sub (ws' := [((bb 0), .inr (12, [.ref (bb 1), .ref (bb 2), .ref (bb 3), .ref (bb 4), .int 0, .int 0, .int 0, .int 0, .ref (bb 9), .ref (bb 10), .int 0, .ref (bb 12), .int (-1), .int 0, .int 0, .int 0, .int 0, .int 0, .ref (bb 19), .ref (bb 20), .ref (bb 21), .ref (bb 22), .ref (bb 23), .long 0, .long 0, .long 0, .ref (bb 27), .ref (bb 28), .ref (bb 29), .long 0, .int 0, .int (-1), .int 0, .int 0, .int 0, .ref (bb 36), .int 0, .int 0, .ref (bb 39), .ref (bb 40), .int 0, .ref (bb 42), .ref (bb 43), .int 0, .int 0, .int 0, .ref (bb 47), .ref (bb 48), .ref (bb 49), .ref (bb 50)]))]) [0] rfl) ((hD.sub (ws' := [((bb 0), .inr (12, [.ref (bb 1), .ref (bb 2), .ref (bb 3), .ref (bb 4), .int 0, .int 0, .int 0, .int 0, .ref (bb 9), .ref (bb 10), .int 0, .ref (bb 12), .int (-1), .int 0, .int 0, .int 0, .int 0, .int 0, .ref (bb 19), .ref (bb 20), .ref (bb 21), .ref (bb 22), .ref (bb 23), .long 0, .long 0, .long 0, .ref (bb 27), .ref (bb 28), .ref (bb 29), .long 0, .int 0, .int (-1), .int 0, .int 0, .int 0, .ref (bb 36), .int 0, .int 0, .ref (bb 39), .ref (bb 40), .int 0, .ref (bb 42), .ref (bb 43), .int 0, .int 0, .int 0, .ref (bb 47), .ref (bb 48), .ref (bb 49), .ref (bb 50)]))]) [0] (by decide) rfl).weaken (fun _ _ _ _ => trivial)) rfl rfl rfl ⟨Nat.le_of_ble_eq_true rfl, Nat.le_of_ble_eq_true rfl⟩ rfl rfl rfl hl.1 rfl (Nat.le_of_ble_eq_true rfl) ⟨Nat.le_of_ble_eq_true rfl, Nat.le_of_ble_eq_true rfl⟩ dL_law_401) (fun r4 u3 H locs hw hP hD hS => ?_)
  subst hw
  have hP : va_P J.1 cls [((bb 1), .inl (J.2.1, 22, .inl (upd (fun _ => 0) (20 : Int32).toNatClampNeg 1))), ((bb 2), .inl (J.2.1, 40, .inl (fun _ => 0))), ((bb 3), .inl (J.2.1, 40, .inl (fun _ => 0))), ((bb 4), .inl (J.2.1, 40, .inl (fun _ => 0))), ((bb 10), .inl (J.2.1, 120, .inl (fun _ => 0))), ((bb 21), .inl (J.2.1, 7168, .inl (fun _ => 0))), ((bb 39), .inl (J.2.1, 5, .inl (fun _ => 0))), ((bb 40), .inl (J.2.1, 10, .inl (fun _ => 0))), ((bb 36), .inl (J.2.1, 10, .inl (fun _ => 0))), ((bb 42), .inl (J.2.1, 50, .inl (fun _ => 0))), ((bb 47), .inl (J.2.1, 6, .inl g)), ((bb 48), .inl (J.2.1, 6, .inl (fun _ => 0))), ((bb 49), .inl (J.2.2.1, 360, .inr (.inl (fun _ => 0))))] H := hP
  have hD : va_D A [((bb 1), .inl (J.2.1, 22, .inl (upd (fun _ => 0) (20 : Int32).toNatClampNeg 1))), ((bb 2), .inl (J.2.1, 40, .inl (fun _ => 0))), ((bb 3), .inl (J.2.1, 40, .inl (fun _ => 0))), ((bb 4), .inl (J.2.1, 40, .inl (fun _ => 0))), ((bb 10), .inl (J.2.1, 120, .inl (fun _ => 0))), ((bb 21), .inl (J.2.1, 7168, .inl (fun _ => 0))), ((bb 39), .inl (J.2.1, 5, .inl (fun _ => 0))), ((bb 40), .inl (J.2.1, 10, .inl (fun _ => 0))), ((bb 36), .inl (J.2.1, 10, .inl (fun _ => 0))), ((bb 42), .inl (J.2.1, 50, .inl (fun _ => 0))), ((bb 47), .inl (J.2.1, 6, .inl g)), ((bb 48), .inl (J.2.1, 6, .inl (fun _ => 0))), ((bb 49), .inl (J.2.2.1, 360, .inr (.inl (fun _ => 0))))] := hD
  refine W.widen (k := 600000) (n := 7302250) (Nat.le_of_ble_eq_true rfl) (Nat.le_of_ble_eq_true rfl) ?_
  refine lv_icmp_eq (tgt := 1413) hx hb dL_law_404 (by decide) (fun _ => ?_) (fun c => absurd c (by decide))
  exact law_end E0 hS (lv_sub hl [0, 1, 2, 3] rfl)
theorem dL_law_409 : decode cL_law 409 = .ok (.aload_n 1, 1) := by decide +kernel
theorem dL_law_410 : decode cL_law 410 = .ok (.aload_n 0, 1) := by decide +kernel
theorem dL_law_411 : decode cL_law 411 = .ok (.iload_n 3, 1) := by decide +kernel
theorem dL_law_412 : decode cL_law 412 = .ok (.iconst 1, 1) := by decide +kernel
theorem dL_law_413 : decode cL_law 413 = .ok (.iadd, 1) := by decide +kernel
theorem dL_law_414 : decode cL_law 414 = .ok (.iaload, 1) := by decide +kernel
theorem dL_law_415 : decode cL_law 415 = .ok (.aload_n 0, 1) := by decide +kernel
theorem dL_law_416 : decode cL_law 416 = .ok (.iload_n 3, 1) := by decide +kernel
theorem dL_law_417 : decode cL_law 417 = .ok (.iconst 2, 1) := by decide +kernel
theorem dL_law_418 : decode cL_law 418 = .ok (.iadd, 1) := by decide +kernel
theorem dL_law_419 : decode cL_law 419 = .ok (.iaload, 1) := by decide +kernel
theorem q_730 : Cond.methodLink RL 45 yX11_mayBe ∈ lw_g := mem_q 730 (by decide +kernel) rfl
theorem q_731 : Cond.instanceMethod yX11_mayBe ∈ lw_g := mem_q 731 (by decide +kernel) rfl
theorem q_732 : Cond.selects RX11 yX11_mayBe yX11_mayBe ∈ lw_g := mem_q 732 (by decide +kernel) rfl
theorem q_733 : Cond.code yX11_mayBe cX11_mayBe 5 (some .int) ∈ lw_g := mem_q 733 (by decide +kernel) rfl
theorem kV_RL_45 : CV RL 45 RX11 yX11_mayBe cX11_mayBe 5 (some .int) 2 := cv_of q_730 q_731 q_732 q_103 q_733 (by decide +kernel)
theorem dL_law_420 : decode cL_law 420 = .ok (.invokevirtual 45, 3) := by decide +kernel
theorem dL_law_423 : decode cL_law 423 = .ok (.aload_n 2, 1) := by decide +kernel
theorem dL_law_424 : decode cL_law 424 = .ok (.aload_n 0, 1) := by decide +kernel
theorem dL_law_425 : decode cL_law 425 = .ok (.iload_n 3, 1) := by decide +kernel
theorem dL_law_426 : decode cL_law 426 = .ok (.iconst 1, 1) := by decide +kernel
theorem dL_law_427 : decode cL_law 427 = .ok (.iadd, 1) := by decide +kernel
theorem dL_law_428 : decode cL_law 428 = .ok (.iaload, 1) := by decide +kernel
theorem dL_law_429 : decode cL_law 429 = .ok (.aload_n 0, 1) := by decide +kernel
theorem dL_law_430 : decode cL_law 430 = .ok (.iload_n 3, 1) := by decide +kernel
theorem dL_law_431 : decode cL_law 431 = .ok (.iconst 2, 1) := by decide +kernel
theorem dL_law_432 : decode cL_law 432 = .ok (.iadd, 1) := by decide +kernel
theorem dL_law_433 : decode cL_law 433 = .ok (.iaload, 1) := by decide +kernel
theorem q_1549 : Cond.methodLink RL 48 yX12_mayBe ∈ lw_g := mem_q 1549 (by decide +kernel) rfl
theorem q_1550 : Cond.instanceMethod yX12_mayBe ∈ lw_g := mem_q 1550 (by decide +kernel) rfl
theorem q_1551 : Cond.selects RX12 yX12_mayBe yX12_mayBe ∈ lw_g := mem_q 1551 (by decide +kernel) rfl
theorem q_1552 : Cond.code yX12_mayBe cX12_mayBe 3 (some .int) ∈ lw_g := mem_q 1552 (by decide +kernel) rfl
theorem kV_RL_48 : CV RL 48 RX12 yX12_mayBe cX12_mayBe 3 (some .int) 2 := cv_of q_1549 q_1550 q_1551 q_115 q_1552 (by decide +kernel)
theorem dL_law_434 : decode cL_law 434 = .ok (.invokevirtual 48, 3) := by decide +kernel
theorem dL_law_437 : decode cL_law 437 = .ok (.if_icmp .eq 976, 3) := by decide +kernel
set_option maxHeartbeats 4000000 in
set_option maxRecDepth 100000 in
/-- mayBe -/
theorem lk_7 {p : Program} {l : Launch} {e : Env} {s : State} {m : MethodId} {below : List Frame} {meth : Method} {c : Code} {b : Nat} {xs : Nat → Int32} {J : va_J9} {A : Nat → Prop} {H : Heap} {locs : List Loc} {ls : Array Slot} {a bb : Nat → Nat} {f : Nat → Option Nat} {g : Nat → Int32} (E0 : LE p s m meth c b 6 xs J A) (hfx : ∀ j, j < 6 → f j = some (a (41 + j))) (hg : ∀ k, k < 6 → g k = -1) (hP : va_P J.1 cls (xW J a f ++ mW J bb g) H) (hD : va_D A (xW J a f ++ mW J bb g)) (hS : va_S A s.heap H locs) (hl : lv_has ls 4 [(3, .int 0), (2, .ref (bb 0)), (1, .ref (a 0)), (0, .ref b)]) : W p l e room_1 s m #[Value.ref b] below meth c H locs 600000 7302250 (lw_Z below #[Value.ref b] s) (F0 m 409 ls []) := by
  obtain ⟨hx, hb, hr, hml, hown, hts, hX, hbl, hlk, hK, hA, hAs⟩ := id E0
  have hbA : ¬ A b := fun h => absurd (hAs b h) (Nat.not_le.mpr hbl)
  obtain ⟨x1, e1⟩ : ∃ z : Int32, z = xs 1 := ⟨_, rfl⟩
  obtain ⟨x2, e2⟩ : ∃ z : Int32, z = xs 2 := ⟨_, rfl⟩
  have rg_x1 := i_rng x1
  have rg_x2 := i_rng x2
  by_cases hd : 0 ≤ x1.toInt ∧ x1.toInt ≤ 5
  · obtain ⟨sh, ce, hf, hP, hD⟩ := shx hfx hP hD hd
    refine lv_aload_n hx hb dL_law_409 rfl (lv_at hl 2 rfl) ?_
    refine lv_aload_n hx hb dL_law_410 rfl (lv_at hl 3 rfl) ?_
    refine lv_iload_n hx hb dL_law_411 rfl (lv_at hl 0 rfl) ?_
    refine lv_iconst (v := 1) hx hb dL_law_412 (by decide) ?_
    refine lv_iadd hx hb dL_law_413 ?_
    refine top_i (y := 1) (by decide) ?_
    refine va_sld hx hb hX hbl hbA hS (i_in (a := 1) (by decide) (by omega) (by omega)) dL_law_414 ?_
    refine top_i (y := x1) e1.symm ?_
    refine lv_aload_n hx hb dL_law_415 rfl (lv_at hl 3 rfl) ?_
    refine lv_iload_n hx hb dL_law_416 rfl (lv_at hl 0 rfl) ?_
    refine lv_iconst (v := 2) hx hb dL_law_417 (by decide) ?_
    refine lv_iadd hx hb dL_law_418 ?_
    refine top_i (y := 2) (by decide) ?_
    refine va_sld hx hb hX hbl hbA hS (i_in (a := 2) (by decide) (by omega) (by omega)) dL_law_419 ?_
    refine top_i (y := x2) e2.symm ?_
    refine go_i (rn_V (As := [.int x1, .int x2]) (rest := []) hx hb hml hown hts hK (c_mayBe_in l J a f sh ce x1 x2 ⟨by omega, by omega⟩ hf) kV_RL_45 (hP.sub (ws' := [((a 0), .inr (11, [.ref (a 1), .ref (a 6), .ref (a 10), .ref (a 15), .ref (a 17), .ref (a 22), .ref (a 23), .ref (a 30), .ref (a 31), .ref (a 34), .int 0, .ref (a 37), .ref (a 40)])), ((a 40), .inl (J.2.2.2, 6, .inr (.inr (.inr (.inr f))))), (sh, .inr (9, [.ref ce, .int 0, .int 0, .int 0, .int 0]))]) [0, 1, 2] rfl) rfl rfl rfl ⟨Nat.le_of_ble_eq_true rfl, Nat.le_of_ble_eq_true rfl⟩ rfl rfl rfl hl.1 rfl (Nat.le_of_ble_eq_true rfl) ⟨Nat.le_of_ble_eq_true rfl, Nat.le_of_ble_eq_true rfl⟩ dL_law_420) ?_
    refine lv_aload_n hx hb dL_law_423 rfl (lv_at hl 1 rfl) ?_
    refine lv_aload_n hx hb dL_law_424 rfl (lv_at hl 3 rfl) ?_
    refine lv_iload_n hx hb dL_law_425 rfl (lv_at hl 0 rfl) ?_
    refine lv_iconst (v := 1) hx hb dL_law_426 (by decide) ?_
    refine lv_iadd hx hb dL_law_427 ?_
    refine top_i (y := 1) (by decide) ?_
    refine va_sld hx hb hX hbl hbA hS (i_in (a := 1) (by decide) (by omega) (by omega)) dL_law_428 ?_
    refine top_i (y := x1) e1.symm ?_
    refine lv_aload_n hx hb dL_law_429 rfl (lv_at hl 3 rfl) ?_
    refine lv_iload_n hx hb dL_law_430 rfl (lv_at hl 0 rfl) ?_
    refine lv_iconst (v := 2) hx hb dL_law_431 (by decide) ?_
    refine lv_iadd hx hb dL_law_432 ?_
    refine top_i (y := 2) (by decide) ?_
    refine va_sld hx hb hX hbl hbA hS (i_in (a := 2) (by decide) (by omega) (by omega)) dL_law_433 ?_
    refine top_i (y := x2) e2.symm ?_
    refine go_i (rn_V (As := [.int x1, .int x2]) (rest := [.int (sp_mayBe (x1.toInt) (x2.toInt))]) hx hb hml hown hts hK (m_mayBe l J bb g x1 x2 hg) kV_RL_48 (hP.sub (ws' := [((bb 0), .inr (12, [.ref (bb 1), .ref (bb 2), .ref (bb 3), .ref (bb 4), .int 0, .int 0, .int 0, .int 0, .ref (bb 9), .ref (bb 10), .int 0, .ref (bb 12), .int (-1), .int 0, .int 0, .int 0, .int 0, .int 0, .ref (bb 19), .ref (bb 20), .ref (bb 21), .ref (bb 22), .ref (bb 23), .long 0, .long 0, .long 0, .ref (bb 27), .ref (bb 28), .ref (bb 29), .long 0, .int 0, .int (-1), .int 0, .int 0, .int 0, .ref (bb 36), .int 0, .int 0, .ref (bb 39), .ref (bb 40), .int 0, .ref (bb 42), .ref (bb 43), .int 0, .int 0, .int 0, .ref (bb 47), .ref (bb 48), .ref (bb 49), .ref (bb 50)])), ((bb 47), .inl (J.2.1, 6, .inl g))]) [5, 16] rfl) rfl rfl rfl ⟨Nat.le_of_ble_eq_true rfl, Nat.le_of_ble_eq_true rfl⟩ rfl rfl rfl hl.1 rfl (Nat.le_of_ble_eq_true rfl) ⟨Nat.le_of_ble_eq_true rfl, Nat.le_of_ble_eq_true rfl⟩ dL_law_434) ?_
    refine lv_icmp_eq (tgt := 1413) hx hb dL_law_437 (by decide) (fun _ => ?_) (fun c => absurd rfl c)
    exact law_end E0 hS (lv_sub hl [0, 1, 2, 3] rfl)
  · refine lv_aload_n hx hb dL_law_409 rfl (lv_at hl 2 rfl) ?_
    refine lv_aload_n hx hb dL_law_410 rfl (lv_at hl 3 rfl) ?_
    refine lv_iload_n hx hb dL_law_411 rfl (lv_at hl 0 rfl) ?_
    refine lv_iconst (v := 1) hx hb dL_law_412 (by decide) ?_
    refine lv_iadd hx hb dL_law_413 ?_
    refine top_i (y := 1) (by decide) ?_
    refine va_sld hx hb hX hbl hbA hS (i_in (a := 1) (by decide) (by omega) (by omega)) dL_law_414 ?_
    refine top_i (y := x1) e1.symm ?_
    refine lv_aload_n hx hb dL_law_415 rfl (lv_at hl 3 rfl) ?_
    refine lv_iload_n hx hb dL_law_416 rfl (lv_at hl 0 rfl) ?_
    refine lv_iconst (v := 2) hx hb dL_law_417 (by decide) ?_
    refine lv_iadd hx hb dL_law_418 ?_
    refine top_i (y := 2) (by decide) ?_
    refine va_sld hx hb hX hbl hbA hS (i_in (a := 2) (by decide) (by omega) (by omega)) dL_law_419 ?_
    refine top_i (y := x2) e2.symm ?_
    refine go_i (rn_V (As := [.int x1, .int x2]) (rest := []) hx hb hml hown hts hK (c_mayBe_out l J a x1 x2 (by omega)) kV_RL_45 (hP.sub (ws' := [((a 0), .inr (11, [.ref (a 1), .ref (a 6), .ref (a 10), .ref (a 15), .ref (a 17), .ref (a 22), .ref (a 23), .ref (a 30), .ref (a 31), .ref (a 34), .int 0, .ref (a 37), .ref (a 40)]))]) [0] rfl) rfl rfl rfl ⟨Nat.le_of_ble_eq_true rfl, Nat.le_of_ble_eq_true rfl⟩ rfl rfl rfl hl.1 rfl (Nat.le_of_ble_eq_true rfl) ⟨Nat.le_of_ble_eq_true rfl, Nat.le_of_ble_eq_true rfl⟩ dL_law_420) ?_
    refine lv_aload_n hx hb dL_law_423 rfl (lv_at hl 1 rfl) ?_
    refine lv_aload_n hx hb dL_law_424 rfl (lv_at hl 3 rfl) ?_
    refine lv_iload_n hx hb dL_law_425 rfl (lv_at hl 0 rfl) ?_
    refine lv_iconst (v := 1) hx hb dL_law_426 (by decide) ?_
    refine lv_iadd hx hb dL_law_427 ?_
    refine top_i (y := 1) (by decide) ?_
    refine va_sld hx hb hX hbl hbA hS (i_in (a := 1) (by decide) (by omega) (by omega)) dL_law_428 ?_
    refine top_i (y := x1) e1.symm ?_
    refine lv_aload_n hx hb dL_law_429 rfl (lv_at hl 3 rfl) ?_
    refine lv_iload_n hx hb dL_law_430 rfl (lv_at hl 0 rfl) ?_
    refine lv_iconst (v := 2) hx hb dL_law_431 (by decide) ?_
    refine lv_iadd hx hb dL_law_432 ?_
    refine top_i (y := 2) (by decide) ?_
    refine va_sld hx hb hX hbl hbA hS (i_in (a := 2) (by decide) (by omega) (by omega)) dL_law_433 ?_
    refine top_i (y := x2) e2.symm ?_
    refine go_i (rn_V (As := [.int x1, .int x2]) (rest := [.int (sp_mayBe (x1.toInt) (x2.toInt))]) hx hb hml hown hts hK (m_mayBe l J bb g x1 x2 hg) kV_RL_48 (hP.sub (ws' := [((bb 0), .inr (12, [.ref (bb 1), .ref (bb 2), .ref (bb 3), .ref (bb 4), .int 0, .int 0, .int 0, .int 0, .ref (bb 9), .ref (bb 10), .int 0, .ref (bb 12), .int (-1), .int 0, .int 0, .int 0, .int 0, .int 0, .ref (bb 19), .ref (bb 20), .ref (bb 21), .ref (bb 22), .ref (bb 23), .long 0, .long 0, .long 0, .ref (bb 27), .ref (bb 28), .ref (bb 29), .long 0, .int 0, .int (-1), .int 0, .int 0, .int 0, .ref (bb 36), .int 0, .int 0, .ref (bb 39), .ref (bb 40), .int 0, .ref (bb 42), .ref (bb 43), .int 0, .int 0, .int 0, .ref (bb 47), .ref (bb 48), .ref (bb 49), .ref (bb 50)])), ((bb 47), .inl (J.2.1, 6, .inl g))]) [39, 50] rfl) rfl rfl rfl ⟨Nat.le_of_ble_eq_true rfl, Nat.le_of_ble_eq_true rfl⟩ rfl rfl rfl hl.1 rfl (Nat.le_of_ble_eq_true rfl) ⟨Nat.le_of_ble_eq_true rfl, Nat.le_of_ble_eq_true rfl⟩ dL_law_434) ?_
    refine lv_icmp_eq (tgt := 1413) hx hb dL_law_437 (by decide) (fun _ => ?_) (fun c => absurd rfl c)
    exact law_end E0 hS (lv_sub hl [0, 1, 2, 3] rfl)
theorem dL_law_442 : decode cL_law 442 = .ok (.aload_n 1, 1) := by decide +kernel
theorem dL_law_443 : decode cL_law 443 = .ok (.aload_n 0, 1) := by decide +kernel
theorem dL_law_444 : decode cL_law 444 = .ok (.iload_n 3, 1) := by decide +kernel
theorem dL_law_445 : decode cL_law 445 = .ok (.iconst 1, 1) := by decide +kernel
theorem dL_law_446 : decode cL_law 446 = .ok (.iadd, 1) := by decide +kernel
theorem dL_law_447 : decode cL_law 447 = .ok (.iaload, 1) := by decide +kernel
theorem q_773 : Cond.methodLink RL 49 yX11_caught ∈ lw_g := mem_q 773 (by decide +kernel) rfl
theorem q_774 : Cond.instanceMethod yX11_caught ∈ lw_g := mem_q 774 (by decide +kernel) rfl
theorem q_775 : Cond.selects RX11 yX11_caught yX11_caught ∈ lw_g := mem_q 775 (by decide +kernel) rfl
theorem q_776 : Cond.code yX11_caught cX11_caught 4 (some .int) ∈ lw_g := mem_q 776 (by decide +kernel) rfl
theorem kV_RL_49 : CV RL 49 RX11 yX11_caught cX11_caught 4 (some .int) 1 := cv_of q_773 q_774 q_775 q_103 q_776 (by decide +kernel)
theorem dL_law_448 : decode cL_law 448 = .ok (.invokevirtual 49, 3) := by decide +kernel
theorem dL_law_451 : decode cL_law 451 = .ok (.aload_n 2, 1) := by decide +kernel
theorem dL_law_452 : decode cL_law 452 = .ok (.aload_n 0, 1) := by decide +kernel
theorem dL_law_453 : decode cL_law 453 = .ok (.iload_n 3, 1) := by decide +kernel
theorem dL_law_454 : decode cL_law 454 = .ok (.iconst 1, 1) := by decide +kernel
theorem dL_law_455 : decode cL_law 455 = .ok (.iadd, 1) := by decide +kernel
theorem dL_law_456 : decode cL_law 456 = .ok (.iaload, 1) := by decide +kernel
theorem q_1585 : Cond.methodLink RL 52 yX12_caught ∈ lw_g := mem_q 1585 (by decide +kernel) rfl
theorem q_1586 : Cond.instanceMethod yX12_caught ∈ lw_g := mem_q 1586 (by decide +kernel) rfl
theorem q_1587 : Cond.selects RX12 yX12_caught yX12_caught ∈ lw_g := mem_q 1587 (by decide +kernel) rfl
theorem q_1588 : Cond.code yX12_caught cX12_caught 3 (some .int) ∈ lw_g := mem_q 1588 (by decide +kernel) rfl
theorem kV_RL_52 : CV RL 52 RX12 yX12_caught cX12_caught 3 (some .int) 1 := cv_of q_1585 q_1586 q_1587 q_115 q_1588 (by decide +kernel)
theorem dL_law_457 : decode cL_law 457 = .ok (.invokevirtual 52, 3) := by decide +kernel
theorem dL_law_460 : decode cL_law 460 = .ok (.if_icmp .eq 953, 3) := by decide +kernel
set_option maxHeartbeats 4000000 in
set_option maxRecDepth 100000 in
/-- caught -/
theorem lk_8 {p : Program} {l : Launch} {e : Env} {s : State} {m : MethodId} {below : List Frame} {meth : Method} {c : Code} {b : Nat} {xs : Nat → Int32} {J : va_J9} {A : Nat → Prop} {H : Heap} {locs : List Loc} {ls : Array Slot} {a bb : Nat → Nat} {f : Nat → Option Nat} {g : Nat → Int32} (E0 : LE p s m meth c b 6 xs J A) (hfx : ∀ j, j < 6 → f j = some (a (41 + j))) (hg : ∀ k, k < 6 → g k = -1) (hP : va_P J.1 cls (xW J a f ++ mW J bb g) H) (hD : va_D A (xW J a f ++ mW J bb g)) (hS : va_S A s.heap H locs) (hl : lv_has ls 4 [(3, .int 0), (2, .ref (bb 0)), (1, .ref (a 0)), (0, .ref b)]) : W p l e room_1 s m #[Value.ref b] below meth c H locs 600000 7302250 (lw_Z below #[Value.ref b] s) (F0 m 442 ls []) := by
  obtain ⟨hx, hb, hr, hml, hown, hts, hX, hbl, hlk, hK, hA, hAs⟩ := id E0
  have hbA : ¬ A b := fun h => absurd (hAs b h) (Nat.not_le.mpr hbl)
  obtain ⟨x1, e1⟩ : ∃ z : Int32, z = xs 1 := ⟨_, rfl⟩
  have rg_x1 := i_rng x1
  by_cases hd : 0 ≤ x1.toInt ∧ x1.toInt ≤ 5
  · obtain ⟨sh, ce, hf, hP, hD⟩ := shx hfx hP hD hd
    refine lv_aload_n hx hb dL_law_442 rfl (lv_at hl 2 rfl) ?_
    refine lv_aload_n hx hb dL_law_443 rfl (lv_at hl 3 rfl) ?_
    refine lv_iload_n hx hb dL_law_444 rfl (lv_at hl 0 rfl) ?_
    refine lv_iconst (v := 1) hx hb dL_law_445 (by decide) ?_
    refine lv_iadd hx hb dL_law_446 ?_
    refine top_i (y := 1) (by decide) ?_
    refine va_sld hx hb hX hbl hbA hS (i_in (a := 1) (by decide) (by omega) (by omega)) dL_law_447 ?_
    refine top_i (y := x1) e1.symm ?_
    refine go_i (rn_V (As := [.int x1]) (rest := []) hx hb hml hown hts hK (c_caught_in l J a f sh ce x1 ⟨by omega, by omega⟩ hf) kV_RL_49 (hP.sub (ws' := [((a 0), .inr (11, [.ref (a 1), .ref (a 6), .ref (a 10), .ref (a 15), .ref (a 17), .ref (a 22), .ref (a 23), .ref (a 30), .ref (a 31), .ref (a 34), .int 0, .ref (a 37), .ref (a 40)])), ((a 40), .inl (J.2.2.2, 6, .inr (.inr (.inr (.inr f))))), (sh, .inr (9, [.ref ce, .int 0, .int 0, .int 0, .int 0]))]) [0, 1, 2] rfl) rfl rfl rfl ⟨Nat.le_of_ble_eq_true rfl, Nat.le_of_ble_eq_true rfl⟩ rfl rfl rfl hl.1 rfl (Nat.le_of_ble_eq_true rfl) ⟨Nat.le_of_ble_eq_true rfl, Nat.le_of_ble_eq_true rfl⟩ dL_law_448) ?_
    refine lv_aload_n hx hb dL_law_451 rfl (lv_at hl 1 rfl) ?_
    refine lv_aload_n hx hb dL_law_452 rfl (lv_at hl 3 rfl) ?_
    refine lv_iload_n hx hb dL_law_453 rfl (lv_at hl 0 rfl) ?_
    refine lv_iconst (v := 1) hx hb dL_law_454 (by decide) ?_
    refine lv_iadd hx hb dL_law_455 ?_
    refine top_i (y := 1) (by decide) ?_
    refine va_sld hx hb hX hbl hbA hS (i_in (a := 1) (by decide) (by omega) (by omega)) dL_law_456 ?_
    refine top_i (y := x1) e1.symm ?_
    refine go_i (rn_V (As := [.int x1]) (rest := [.int (sp_caught (x1.toInt))]) hx hb hml hown hts hK (m_caught l J bb g x1 hg) kV_RL_52 (hP.sub (ws' := [((bb 0), .inr (12, [.ref (bb 1), .ref (bb 2), .ref (bb 3), .ref (bb 4), .int 0, .int 0, .int 0, .int 0, .ref (bb 9), .ref (bb 10), .int 0, .ref (bb 12), .int (-1), .int 0, .int 0, .int 0, .int 0, .int 0, .ref (bb 19), .ref (bb 20), .ref (bb 21), .ref (bb 22), .ref (bb 23), .long 0, .long 0, .long 0, .ref (bb 27), .ref (bb 28), .ref (bb 29), .long 0, .int 0, .int (-1), .int 0, .int 0, .int 0, .ref (bb 36), .int 0, .int 0, .ref (bb 39), .ref (bb 40), .int 0, .ref (bb 42), .ref (bb 43), .int 0, .int 0, .int 0, .ref (bb 47), .ref (bb 48), .ref (bb 49), .ref (bb 50)])), ((bb 47), .inl (J.2.1, 6, .inl g))]) [5, 16] rfl) rfl rfl rfl ⟨Nat.le_of_ble_eq_true rfl, Nat.le_of_ble_eq_true rfl⟩ rfl rfl rfl hl.1 rfl (Nat.le_of_ble_eq_true rfl) ⟨Nat.le_of_ble_eq_true rfl, Nat.le_of_ble_eq_true rfl⟩ dL_law_457) ?_
    refine lv_icmp_eq (tgt := 1413) hx hb dL_law_460 (by decide) (fun _ => ?_) (fun c => absurd rfl c)
    exact law_end E0 hS (lv_sub hl [0, 1, 2, 3] rfl)
  · refine lv_aload_n hx hb dL_law_442 rfl (lv_at hl 2 rfl) ?_
    refine lv_aload_n hx hb dL_law_443 rfl (lv_at hl 3 rfl) ?_
    refine lv_iload_n hx hb dL_law_444 rfl (lv_at hl 0 rfl) ?_
    refine lv_iconst (v := 1) hx hb dL_law_445 (by decide) ?_
    refine lv_iadd hx hb dL_law_446 ?_
    refine top_i (y := 1) (by decide) ?_
    refine va_sld hx hb hX hbl hbA hS (i_in (a := 1) (by decide) (by omega) (by omega)) dL_law_447 ?_
    refine top_i (y := x1) e1.symm ?_
    refine go_i (rn_V (As := [.int x1]) (rest := []) hx hb hml hown hts hK (c_caught_out l J a x1 (by omega)) kV_RL_49 (hP.sub (ws' := [((a 0), .inr (11, [.ref (a 1), .ref (a 6), .ref (a 10), .ref (a 15), .ref (a 17), .ref (a 22), .ref (a 23), .ref (a 30), .ref (a 31), .ref (a 34), .int 0, .ref (a 37), .ref (a 40)]))]) [0] rfl) rfl rfl rfl ⟨Nat.le_of_ble_eq_true rfl, Nat.le_of_ble_eq_true rfl⟩ rfl rfl rfl hl.1 rfl (Nat.le_of_ble_eq_true rfl) ⟨Nat.le_of_ble_eq_true rfl, Nat.le_of_ble_eq_true rfl⟩ dL_law_448) ?_
    refine lv_aload_n hx hb dL_law_451 rfl (lv_at hl 1 rfl) ?_
    refine lv_aload_n hx hb dL_law_452 rfl (lv_at hl 3 rfl) ?_
    refine lv_iload_n hx hb dL_law_453 rfl (lv_at hl 0 rfl) ?_
    refine lv_iconst (v := 1) hx hb dL_law_454 (by decide) ?_
    refine lv_iadd hx hb dL_law_455 ?_
    refine top_i (y := 1) (by decide) ?_
    refine va_sld hx hb hX hbl hbA hS (i_in (a := 1) (by decide) (by omega) (by omega)) dL_law_456 ?_
    refine top_i (y := x1) e1.symm ?_
    refine go_i (rn_V (As := [.int x1]) (rest := [.int (sp_caught (x1.toInt))]) hx hb hml hown hts hK (m_caught l J bb g x1 hg) kV_RL_52 (hP.sub (ws' := [((bb 0), .inr (12, [.ref (bb 1), .ref (bb 2), .ref (bb 3), .ref (bb 4), .int 0, .int 0, .int 0, .int 0, .ref (bb 9), .ref (bb 10), .int 0, .ref (bb 12), .int (-1), .int 0, .int 0, .int 0, .int 0, .int 0, .ref (bb 19), .ref (bb 20), .ref (bb 21), .ref (bb 22), .ref (bb 23), .long 0, .long 0, .long 0, .ref (bb 27), .ref (bb 28), .ref (bb 29), .long 0, .int 0, .int (-1), .int 0, .int 0, .int 0, .ref (bb 36), .int 0, .int 0, .ref (bb 39), .ref (bb 40), .int 0, .ref (bb 42), .ref (bb 43), .int 0, .int 0, .int 0, .ref (bb 47), .ref (bb 48), .ref (bb 49), .ref (bb 50)])), ((bb 47), .inl (J.2.1, 6, .inl g))]) [39, 50] rfl) rfl rfl rfl ⟨Nat.le_of_ble_eq_true rfl, Nat.le_of_ble_eq_true rfl⟩ rfl rfl rfl hl.1 rfl (Nat.le_of_ble_eq_true rfl) ⟨Nat.le_of_ble_eq_true rfl, Nat.le_of_ble_eq_true rfl⟩ dL_law_457) ?_
    refine lv_icmp_eq (tgt := 1413) hx hb dL_law_460 (by decide) (fun _ => ?_) (fun c => absurd rfl c)
    exact law_end E0 hS (lv_sub hl [0, 1, 2, 3] rfl)
theorem dL_law_465 : decode cL_law 465 = .ok (.aload_n 1, 1) := by decide +kernel
theorem dL_law_466 : decode cL_law 466 = .ok (.aload_n 0, 1) := by decide +kernel
theorem dL_law_467 : decode cL_law 467 = .ok (.iload_n 3, 1) := by decide +kernel
theorem dL_law_468 : decode cL_law 468 = .ok (.iconst 1, 1) := by decide +kernel
theorem dL_law_469 : decode cL_law 469 = .ok (.iadd, 1) := by decide +kernel
theorem dL_law_470 : decode cL_law 470 = .ok (.iaload, 1) := by decide +kernel
theorem dL_law_471 : decode cL_law 471 = .ok (.aload_n 0, 1) := by decide +kernel
theorem dL_law_472 : decode cL_law 472 = .ok (.iload_n 3, 1) := by decide +kernel
theorem dL_law_473 : decode cL_law 473 = .ok (.iconst 2, 1) := by decide +kernel
theorem dL_law_474 : decode cL_law 474 = .ok (.iadd, 1) := by decide +kernel
theorem dL_law_475 : decode cL_law 475 = .ok (.iaload, 1) := by decide +kernel
theorem q_782 : Cond.methodLink RL 53 yX11_printed ∈ lw_g := mem_q 782 (by decide +kernel) rfl
theorem q_783 : Cond.instanceMethod yX11_printed ∈ lw_g := mem_q 783 (by decide +kernel) rfl
theorem q_784 : Cond.selects RX11 yX11_printed yX11_printed ∈ lw_g := mem_q 784 (by decide +kernel) rfl
theorem q_785 : Cond.code yX11_printed cX11_printed 4 (some .int) ∈ lw_g := mem_q 785 (by decide +kernel) rfl
theorem kV_RL_53 : CV RL 53 RX11 yX11_printed cX11_printed 4 (some .int) 2 := cv_of q_782 q_783 q_784 q_103 q_785 (by decide +kernel)
theorem dL_law_476 : decode cL_law 476 = .ok (.invokevirtual 53, 3) := by decide +kernel
theorem dL_law_479 : decode cL_law 479 = .ok (.aload_n 2, 1) := by decide +kernel
theorem dL_law_480 : decode cL_law 480 = .ok (.aload_n 0, 1) := by decide +kernel
theorem dL_law_481 : decode cL_law 481 = .ok (.iload_n 3, 1) := by decide +kernel
theorem dL_law_482 : decode cL_law 482 = .ok (.iconst 1, 1) := by decide +kernel
theorem dL_law_483 : decode cL_law 483 = .ok (.iadd, 1) := by decide +kernel
theorem dL_law_484 : decode cL_law 484 = .ok (.iaload, 1) := by decide +kernel
theorem dL_law_485 : decode cL_law 485 = .ok (.aload_n 0, 1) := by decide +kernel
theorem dL_law_486 : decode cL_law 486 = .ok (.iload_n 3, 1) := by decide +kernel
theorem dL_law_487 : decode cL_law 487 = .ok (.iconst 2, 1) := by decide +kernel
theorem dL_law_488 : decode cL_law 488 = .ok (.iadd, 1) := by decide +kernel
theorem dL_law_489 : decode cL_law 489 = .ok (.iaload, 1) := by decide +kernel
theorem q_1589 : Cond.methodLink RL 56 yX12_printed ∈ lw_g := mem_q 1589 (by decide +kernel) rfl
theorem q_1590 : Cond.instanceMethod yX12_printed ∈ lw_g := mem_q 1590 (by decide +kernel) rfl
theorem q_1591 : Cond.selects RX12 yX12_printed yX12_printed ∈ lw_g := mem_q 1591 (by decide +kernel) rfl
theorem q_1592 : Cond.code yX12_printed cX12_printed 3 (some .int) ∈ lw_g := mem_q 1592 (by decide +kernel) rfl
theorem kV_RL_56 : CV RL 56 RX12 yX12_printed cX12_printed 3 (some .int) 2 := cv_of q_1589 q_1590 q_1591 q_115 q_1592 (by decide +kernel)
theorem dL_law_490 : decode cL_law 490 = .ok (.invokevirtual 56, 3) := by decide +kernel
theorem dL_law_493 : decode cL_law 493 = .ok (.if_icmp .eq 920, 3) := by decide +kernel
set_option maxHeartbeats 4000000 in
set_option maxRecDepth 100000 in
/-- printed -/
theorem lk_9 {p : Program} {l : Launch} {e : Env} {s : State} {m : MethodId} {below : List Frame} {meth : Method} {c : Code} {b : Nat} {xs : Nat → Int32} {J : va_J9} {A : Nat → Prop} {H : Heap} {locs : List Loc} {ls : Array Slot} {a bb : Nat → Nat} {f : Nat → Option Nat} {g : Nat → Int32} (E0 : LE p s m meth c b 6 xs J A) (hfx : ∀ j, j < 6 → f j = some (a (41 + j))) (hg : ∀ k, k < 6 → g k = -1) (hP : va_P J.1 cls (xW J a f ++ mW J bb g) H) (hD : va_D A (xW J a f ++ mW J bb g)) (hS : va_S A s.heap H locs) (hl : lv_has ls 4 [(3, .int 0), (2, .ref (bb 0)), (1, .ref (a 0)), (0, .ref b)]) : W p l e room_1 s m #[Value.ref b] below meth c H locs 600000 7302250 (lw_Z below #[Value.ref b] s) (F0 m 465 ls []) := by
  obtain ⟨hx, hb, hr, hml, hown, hts, hX, hbl, hlk, hK, hA, hAs⟩ := id E0
  have hbA : ¬ A b := fun h => absurd (hAs b h) (Nat.not_le.mpr hbl)
  obtain ⟨x1, e1⟩ : ∃ z : Int32, z = xs 1 := ⟨_, rfl⟩
  obtain ⟨x2, e2⟩ : ∃ z : Int32, z = xs 2 := ⟨_, rfl⟩
  have rg_x1 := i_rng x1
  have rg_x2 := i_rng x2
  by_cases hd : 0 ≤ x1.toInt ∧ x1.toInt / 10 ≤ 5 ∧ x1.toInt % 10 ≤ 5
  · have pA : (x1 / 10).toInt = x1.toInt / 10 := i_div rfl (by decide) (by omega) (by omega)
    have pB : (x1 - x1 / 10 * 10).toInt = x1.toInt % 10 := i_rem rfl (by decide) (by omega) (by omega)
    obtain ⟨s2, hg2⟩ : ∃ s2 : Nat, f (x1 - x1 / 10 * 10).toNatClampNeg = some s2 := ⟨_, hfx _ (by show (Int32.toInt _).toNat < 6; omega)⟩
    obtain ⟨sh, ce, hf, hP, hD⟩ := shx (d := x1 / 10) hfx hP hD ⟨by omega, by omega⟩
    refine lv_aload_n hx hb dL_law_465 rfl (lv_at hl 2 rfl) ?_
    refine lv_aload_n hx hb dL_law_466 rfl (lv_at hl 3 rfl) ?_
    refine lv_iload_n hx hb dL_law_467 rfl (lv_at hl 0 rfl) ?_
    refine lv_iconst (v := 1) hx hb dL_law_468 (by decide) ?_
    refine lv_iadd hx hb dL_law_469 ?_
    refine top_i (y := 1) (by decide) ?_
    refine va_sld hx hb hX hbl hbA hS (i_in (a := 1) (by decide) (by omega) (by omega)) dL_law_470 ?_
    refine top_i (y := x1) e1.symm ?_
    refine lv_aload_n hx hb dL_law_471 rfl (lv_at hl 3 rfl) ?_
    refine lv_iload_n hx hb dL_law_472 rfl (lv_at hl 0 rfl) ?_
    refine lv_iconst (v := 2) hx hb dL_law_473 (by decide) ?_
    refine lv_iadd hx hb dL_law_474 ?_
    refine top_i (y := 2) (by decide) ?_
    refine va_sld hx hb hX hbl hbA hS (i_in (a := 2) (by decide) (by omega) (by omega)) dL_law_475 ?_
    refine top_i (y := x2) e2.symm ?_
    refine go_i (rn_V (As := [.int x1, .int x2]) (rest := []) hx hb hml hown hts hK (c_printed_in l J a f sh ce s2 x1 x2 hd hf hg2) kV_RL_53 (hP.sub (ws' := [((a 0), .inr (11, [.ref (a 1), .ref (a 6), .ref (a 10), .ref (a 15), .ref (a 17), .ref (a 22), .ref (a 23), .ref (a 30), .ref (a 31), .ref (a 34), .int 0, .ref (a 37), .ref (a 40)])), ((a 40), .inl (J.2.2.2, 6, .inr (.inr (.inr (.inr f))))), (sh, .inr (9, [.ref ce, .int 0, .int 0, .int 0, .int 0]))]) [0, 1, 2] rfl) rfl rfl rfl ⟨Nat.le_of_ble_eq_true rfl, Nat.le_of_ble_eq_true rfl⟩ rfl rfl rfl hl.1 rfl (Nat.le_of_ble_eq_true rfl) ⟨Nat.le_of_ble_eq_true rfl, Nat.le_of_ble_eq_true rfl⟩ dL_law_476) ?_
    refine lv_aload_n hx hb dL_law_479 rfl (lv_at hl 1 rfl) ?_
    refine lv_aload_n hx hb dL_law_480 rfl (lv_at hl 3 rfl) ?_
    refine lv_iload_n hx hb dL_law_481 rfl (lv_at hl 0 rfl) ?_
    refine lv_iconst (v := 1) hx hb dL_law_482 (by decide) ?_
    refine lv_iadd hx hb dL_law_483 ?_
    refine top_i (y := 1) (by decide) ?_
    refine va_sld hx hb hX hbl hbA hS (i_in (a := 1) (by decide) (by omega) (by omega)) dL_law_484 ?_
    refine top_i (y := x1) e1.symm ?_
    refine lv_aload_n hx hb dL_law_485 rfl (lv_at hl 3 rfl) ?_
    refine lv_iload_n hx hb dL_law_486 rfl (lv_at hl 0 rfl) ?_
    refine lv_iconst (v := 2) hx hb dL_law_487 (by decide) ?_
    refine lv_iadd hx hb dL_law_488 ?_
    refine top_i (y := 2) (by decide) ?_
    refine va_sld hx hb hX hbl hbA hS (i_in (a := 2) (by decide) (by omega) (by omega)) dL_law_489 ?_
    refine top_i (y := x2) e2.symm ?_
    refine go_i (rn_V (As := [.int x1, .int x2]) (rest := [.int (sp_two (x1.toInt) (x2.toInt) (0))]) hx hb hml hown hts hK (m_printed l J bb g x1 x2 hg) kV_RL_56 (hP.sub (ws' := [((bb 0), .inr (12, [.ref (bb 1), .ref (bb 2), .ref (bb 3), .ref (bb 4), .int 0, .int 0, .int 0, .int 0, .ref (bb 9), .ref (bb 10), .int 0, .ref (bb 12), .int (-1), .int 0, .int 0, .int 0, .int 0, .int 0, .ref (bb 19), .ref (bb 20), .ref (bb 21), .ref (bb 22), .ref (bb 23), .long 0, .long 0, .long 0, .ref (bb 27), .ref (bb 28), .ref (bb 29), .long 0, .int 0, .int (-1), .int 0, .int 0, .int 0, .ref (bb 36), .int 0, .int 0, .ref (bb 39), .ref (bb 40), .int 0, .ref (bb 42), .ref (bb 43), .int 0, .int 0, .int 0, .ref (bb 47), .ref (bb 48), .ref (bb 49), .ref (bb 50)])), ((bb 47), .inl (J.2.1, 6, .inl g))]) [5, 16] rfl) rfl rfl rfl ⟨Nat.le_of_ble_eq_true rfl, Nat.le_of_ble_eq_true rfl⟩ rfl rfl rfl hl.1 rfl (Nat.le_of_ble_eq_true rfl) ⟨Nat.le_of_ble_eq_true rfl, Nat.le_of_ble_eq_true rfl⟩ dL_law_490) ?_
    refine lv_icmp_eq (tgt := 1413) hx hb dL_law_493 (by decide) (fun _ => ?_) (fun c => absurd rfl c)
    exact law_end E0 hS (lv_sub hl [0, 1, 2, 3] rfl)
  · refine lv_aload_n hx hb dL_law_465 rfl (lv_at hl 2 rfl) ?_
    refine lv_aload_n hx hb dL_law_466 rfl (lv_at hl 3 rfl) ?_
    refine lv_iload_n hx hb dL_law_467 rfl (lv_at hl 0 rfl) ?_
    refine lv_iconst (v := 1) hx hb dL_law_468 (by decide) ?_
    refine lv_iadd hx hb dL_law_469 ?_
    refine top_i (y := 1) (by decide) ?_
    refine va_sld hx hb hX hbl hbA hS (i_in (a := 1) (by decide) (by omega) (by omega)) dL_law_470 ?_
    refine top_i (y := x1) e1.symm ?_
    refine lv_aload_n hx hb dL_law_471 rfl (lv_at hl 3 rfl) ?_
    refine lv_iload_n hx hb dL_law_472 rfl (lv_at hl 0 rfl) ?_
    refine lv_iconst (v := 2) hx hb dL_law_473 (by decide) ?_
    refine lv_iadd hx hb dL_law_474 ?_
    refine top_i (y := 2) (by decide) ?_
    refine va_sld hx hb hX hbl hbA hS (i_in (a := 2) (by decide) (by omega) (by omega)) dL_law_475 ?_
    refine top_i (y := x2) e2.symm ?_
    refine go_i (rn_V (As := [.int x1, .int x2]) (rest := []) hx hb hml hown hts hK (c_printed_out l J a x1 x2 hd) kV_RL_53 (hP.sub (ws' := [((a 0), .inr (11, [.ref (a 1), .ref (a 6), .ref (a 10), .ref (a 15), .ref (a 17), .ref (a 22), .ref (a 23), .ref (a 30), .ref (a 31), .ref (a 34), .int 0, .ref (a 37), .ref (a 40)]))]) [0] rfl) rfl rfl rfl ⟨Nat.le_of_ble_eq_true rfl, Nat.le_of_ble_eq_true rfl⟩ rfl rfl rfl hl.1 rfl (Nat.le_of_ble_eq_true rfl) ⟨Nat.le_of_ble_eq_true rfl, Nat.le_of_ble_eq_true rfl⟩ dL_law_476) ?_
    refine lv_aload_n hx hb dL_law_479 rfl (lv_at hl 1 rfl) ?_
    refine lv_aload_n hx hb dL_law_480 rfl (lv_at hl 3 rfl) ?_
    refine lv_iload_n hx hb dL_law_481 rfl (lv_at hl 0 rfl) ?_
    refine lv_iconst (v := 1) hx hb dL_law_482 (by decide) ?_
    refine lv_iadd hx hb dL_law_483 ?_
    refine top_i (y := 1) (by decide) ?_
    refine va_sld hx hb hX hbl hbA hS (i_in (a := 1) (by decide) (by omega) (by omega)) dL_law_484 ?_
    refine top_i (y := x1) e1.symm ?_
    refine lv_aload_n hx hb dL_law_485 rfl (lv_at hl 3 rfl) ?_
    refine lv_iload_n hx hb dL_law_486 rfl (lv_at hl 0 rfl) ?_
    refine lv_iconst (v := 2) hx hb dL_law_487 (by decide) ?_
    refine lv_iadd hx hb dL_law_488 ?_
    refine top_i (y := 2) (by decide) ?_
    refine va_sld hx hb hX hbl hbA hS (i_in (a := 2) (by decide) (by omega) (by omega)) dL_law_489 ?_
    refine top_i (y := x2) e2.symm ?_
    refine go_i (rn_V (As := [.int x1, .int x2]) (rest := [.int (sp_two (x1.toInt) (x2.toInt) (0))]) hx hb hml hown hts hK (m_printed l J bb g x1 x2 hg) kV_RL_56 (hP.sub (ws' := [((bb 0), .inr (12, [.ref (bb 1), .ref (bb 2), .ref (bb 3), .ref (bb 4), .int 0, .int 0, .int 0, .int 0, .ref (bb 9), .ref (bb 10), .int 0, .ref (bb 12), .int (-1), .int 0, .int 0, .int 0, .int 0, .int 0, .ref (bb 19), .ref (bb 20), .ref (bb 21), .ref (bb 22), .ref (bb 23), .long 0, .long 0, .long 0, .ref (bb 27), .ref (bb 28), .ref (bb 29), .long 0, .int 0, .int (-1), .int 0, .int 0, .int 0, .ref (bb 36), .int 0, .int 0, .ref (bb 39), .ref (bb 40), .int 0, .ref (bb 42), .ref (bb 43), .int 0, .int 0, .int 0, .ref (bb 47), .ref (bb 48), .ref (bb 49), .ref (bb 50)])), ((bb 47), .inl (J.2.1, 6, .inl g))]) [39, 50] rfl) rfl rfl rfl ⟨Nat.le_of_ble_eq_true rfl, Nat.le_of_ble_eq_true rfl⟩ rfl rfl rfl hl.1 rfl (Nat.le_of_ble_eq_true rfl) ⟨Nat.le_of_ble_eq_true rfl, Nat.le_of_ble_eq_true rfl⟩ dL_law_490) ?_
    refine lv_icmp_eq (tgt := 1413) hx hb dL_law_493 (by decide) (fun _ => ?_) (fun c => absurd rfl c)
    exact law_end E0 hS (lv_sub hl [0, 1, 2, 3] rfl)
