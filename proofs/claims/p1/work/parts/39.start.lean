theorem q_119 : Cond.classLink RL 7 RX11 ∈ lw_g := mem_q 119 (by decide +kernel) rfl
theorem dL_law_0 : decode cL_law 0 = .ok (.new 7, 3) := by decide +kernel
theorem dL_law_3 : decode cL_law 3 = .ok (.dup, 1) := by decide +kernel
theorem q_121 : Cond.methodLink RL 9 yX11_init ∈ lw_g := mem_q 121 (by decide +kernel) rfl
theorem q_122 : Cond.instanceMethod yX11_init ∈ lw_g := mem_q 122 (by decide +kernel) rfl
theorem q_123 : Cond.code yX11_init cX11_init 2 none ∈ lw_g := mem_q 123 (by decide +kernel) rfl
theorem kI_RL_9 : CN RL 9 yX11_init cX11_init 2 0 := cn_of q_121 q_122 q_103 q_123 rfl (by decide +kernel)
theorem dL_law_4 : decode cL_law 4 = .ok (.invokespecial 9, 3) := by decide +kernel
theorem dL_law_7 : decode cL_law 7 = .ok (.astore_n 1, 1) := by decide +kernel
theorem q_1260 : Cond.classLink RL 10 RX12 ∈ lw_g := mem_q 1260 (by decide +kernel) rfl
theorem dL_law_8 : decode cL_law 8 = .ok (.new 10, 3) := by decide +kernel
theorem dL_law_11 : decode cL_law 11 = .ok (.dup, 1) := by decide +kernel
theorem q_1262 : Cond.methodLink RL 12 yX12_init ∈ lw_g := mem_q 1262 (by decide +kernel) rfl
theorem q_1263 : Cond.instanceMethod yX12_init ∈ lw_g := mem_q 1263 (by decide +kernel) rfl
theorem q_1264 : Cond.code yX12_init cX12_init 2 none ∈ lw_g := mem_q 1264 (by decide +kernel) rfl
theorem kI_RL_12 : CN RL 12 yX12_init cX12_init 2 0 := cn_of q_1262 q_1263 q_115 q_1264 rfl (by decide +kernel)
theorem dL_law_12 : decode cL_law 12 = .ok (.invokespecial 12, 3) := by decide +kernel
theorem dL_law_15 : decode cL_law 15 = .ok (.astore_n 2, 1) := by decide +kernel
theorem dL_law_16 : decode cL_law 16 = .ok (.iconst 0, 1) := by decide +kernel
theorem dL_law_17 : decode cL_law 17 = .ok (.istore_n 3, 1) := by decide +kernel
theorem dL_law_27 : decode cL_law 27 = .ok (.aload_n 0, 1) := by decide +kernel
theorem dL_law_28 : decode cL_law 28 = .ok (.iload_n 3, 1) := by decide +kernel
theorem dL_law_29 : decode cL_law 29 = .ok (.iaload, 1) := by decide +kernel
theorem dL_law_30 : decode cL_law 30 = .ok (.bipush 63, 2) := by decide +kernel
theorem dL_law_32 : decode cL_law 32 = .ok (.iand, 1) := by decide +kernel
theorem dL_law_33 : decode cL_law 33 = .ok (.tableswitch 1380 0 39 #[175, 198, 241, 264, 307, 340, 363, 376, 409, 432, 465, 498, 521, 544, 577, 590, 603, 626, 649, 672, 716, 760, 804, 838, 891, 914, 937, 950, 963, 976, 989, 1012, 1055, 1078, 1111, 1154, 1227, 1261, 1324, 1357], 175) := by decide +kernel
set_option maxHeartbeats 8000000 in
set_option maxRecDepth 100000 in
theorem whole_start {p : Program} {e : Env} {s : State} {m : MethodId} {below : List Frame} {meth : Method} {c : Code} (l : Launch) (hflags : l.flags = flags0) {b L : Nat} {xs : Nat → Int32} (hL : L ≤ 6) (C0 : lw_At p s m meth c b L xs) : W p l e room_1 s m #[Value.ref b] below meth c s.heap [] 0 0 (lw_Z below #[Value.ref b] s) (entryFrame m ([Value.ref b] : List Value).toArray 4) := by
  obtain ⟨hx, hb, hr, hml, hown, hts0, hX, hbl, hlk, hgv⟩ := id C0
  obtain ⟨J, hK⟩ := law_known hts0
  have hts : ∀ w ∈ lw_g, w.before #[Value.ref b] s = true := fun w h => hts0 w (List.mem_filter.mp h).1
  have hown : s.vm.findClass RL = some m.cls := hown
  have hb : c.code = cL_law := hb
  obtain ⟨A, hA0⟩ : ∃ A : Nat → Prop, A = fun q => s.heap.size ≤ q := ⟨_, rfl⟩
  have hA : ∀ q, s.heap.size ≤ q → A q := fun q h => by rw [hA0]; exact h
  have hAs : ∀ q, A q → s.heap.size ≤ q := fun q h => by rw [hA0] at h; exact h
  have hbA : ¬ A b := fun h => absurd (hAs b h) (Nat.not_le.mpr hbl)
  have hS : va_S A s.heap s.heap [] := va_S.rf
  have hP : va_P J.1 cls [] s.heap := fun k q h => by simp at h
  have hD : va_D A [] := ⟨fun i j p q h => by simp at h, fun k q h => by simp at h⟩
  obtain ⟨x0, e0⟩ : ∃ z : Int32, z = xs 0 := ⟨_, rfl⟩
  have hl := lv_entry ([.ref b]) (n := 4) (Nat.le_of_ble_eq_true rfl)
  rw [lg_entry_eq]
  generalize (lg_sl ([.ref b]) ++ List.replicate (4 - (lg_sl ([.ref b])).length) Slot.unset).toArray = ls at hl ⊢
  have hl : lv_has ls 4 [(0, .ref b)] := hl
  refine va_new (D := J.1) (ci := 11) (fs := [.null, .null, .null, .null, .null, .null, .null, .null, .null, .null, .int 0, .null, .null]) (C := RX11) (T := TX11) (N := 13) hx hb hts inX11 tyX11 tyX11_ok hown (hts _ q_119) (hts _ q_120) (hts _ q_103) hK.1 hP hD hS hA rfl (fun j hj => by rcases (show j = 0 ∨ j = 1 ∨ j = 2 ∨ j = 3 ∨ j = 4 ∨ j = 5 ∨ j = 6 ∨ j = 7 ∨ j = 8 ∨ j = 9 ∨ j = 10 ∨ j = 11 ∨ j = 12 by omega) with rfl | rfl | rfl | rfl | rfl | rfl | rfl | rfl | rfl | rfl | rfl | rfl | rfl <;> rfl) (Nat.le_of_ble_eq_true rfl) (Nat.le_of_ble_eq_true rfl) dL_law_0 (fun n1 H hP hD hS => ?_)
  have hP : va_P J.1 cls [(n1, .inr (11, [.null, .null, .null, .null, .null, .null, .null, .null, .null, .null, .int 0, .null, .null]))] H := hP
  have hD : va_D A [(n1, .inr (11, [.null, .null, .null, .null, .null, .null, .null, .null, .null, .null, .int 0, .null, .null]))] := hD
  refine W.widen (k := 1) (n := 13) (Nat.le_of_ble_eq_true rfl) (Nat.le_of_ble_eq_true rfl) ?_
  refine lv_dup hx hb dL_law_3 rfl ?_
  refine gw_v (wc := [(n1, .inr (11, [.null, .null, .null, .null, .null, .null, .null, .null, .null, .null, .int 0, .null, .null]))]) (wr := []) hP hD hS hA [0] [] rfl rfl (by decide) (by decide) (wn_I (As := []) (rest := [.ref n1]) hx hb hml hown hts hK (n_Fox l J _ n1) kI_RL_9 hP ((hD.sub (ws' := [(n1, .inr (11, [.null, .null, .null, .null, .null, .null, .null, .null, .null, .null, .int 0, .null, .null]))]) [0] (by decide) rfl).weaken (fun _ _ _ _ => trivial)) ⟨Nat.le_of_ble_eq_true rfl, Nat.le_of_ble_eq_true rfl⟩ rfl rfl rfl hl.1 rfl (Nat.le_of_ble_eq_true rfl) ⟨Nat.le_of_ble_eq_true rfl, Nat.le_of_ble_eq_true rfl⟩ dL_law_4) (fun u2 H locs hw hP hD hS => ?_)
  have hP : va_P J.1 cls [((u2.1 0), .inr (11, [.ref (u2.1 1), .ref (u2.1 6), .ref (u2.1 10), .ref (u2.1 15), .ref (u2.1 17), .ref (u2.1 22), .ref (u2.1 23), .ref (u2.1 30), .ref (u2.1 31), .ref (u2.1 34), .int 0, .ref (u2.1 37), .ref (u2.1 40)])), ((u2.1 1), .inr (7, [.ref (u2.1 2), .int 0, .ref (u2.1 3), .int 0, .int 0, .int 0, .ref (u2.1 4), .int 0, .ref (u2.1 5), .int 0])), ((u2.1 2), .inl (J.2.1, 120, .inl (fun _ => 0))), ((u2.1 3), .inl (J.2.1, 256, .inl (fun _ => 0))), ((u2.1 6), .inr (10, [.ref (u2.1 1), .ref (u2.1 7), .ref (u2.1 8), .ref (u2.1 9), .int 0, .int 0, .int 0, .int 0, .int 1, .int 0, .int 0])), ((u2.1 7), .inl (J.2.1, 10, .inl (fun _ => 0))), ((u2.1 8), .inl (J.2.1, 10, .inl (fun _ => 0))), ((u2.1 9), .inl (J.2.1, 10, .inl (fun _ => 0))), ((u2.1 10), .inr (2, [.ref (u2.1 6), .ref (u2.1 11), .ref (u2.1 12), .ref (u2.1 13), .ref (u2.1 14), .int 0, .int 0])), ((u2.1 11), .inl (J.2.1, 40, .inl (fun _ => 0))), ((u2.1 12), .inl (J.2.1, 40, .inl (fun _ => 0))), ((u2.1 13), .inl (J.2.1, 40, .inl (fun _ => 0))), ((u2.1 14), .inl (J.2.1, 40, .inl (fun _ => 0))), ((u2.1 17), .inr (6, [.ref (u2.1 6), .ref (u2.1 18), .ref (u2.1 19), .int 0, .ref (u2.1 20), .ref (u2.1 21), .int 0, .int 0, .int 0, .int 0, .int (-1)])), ((u2.1 20), .inl (J.2.1, 32, .inl (fun _ => 0))), ((u2.1 21), .inl (J.2.1, 32, .inl (fun _ => 0))), ((u2.1 22), .inr (5, [.ref (u2.1 6)])), ((u2.1 23), .inr (1, [.ref (u2.1 6), .ref (u2.1 15), .ref (u2.1 24), .ref (u2.1 25), .ref (u2.1 26), .ref (u2.1 27), .long 0, .long 0, .long 0, .ref (u2.1 28), .ref (u2.1 29), .long 0, .int 0, .int (-1)])), ((u2.1 31), .inr (3, [.ref (u2.1 6), .ref (u2.1 32), .ref (u2.1 33), .int 0, .int 0, .int 0, .int 0, .int 0])), ((u2.1 32), .inr (4, [.ref (u2.1 6), .int 0])), ((u2.1 33), .inl (J.2.1, 10, .inl (fun _ => 0))), ((u2.1 34), .inr (3, [.ref (u2.1 6), .ref (u2.1 35), .ref (u2.1 36), .int 0, .int 0, .int 0, .int 0, .int 0])), ((u2.1 35), .inr (4, [.ref (u2.1 6), .int 0])), ((u2.1 36), .inl (J.2.1, 10, .inl (fun _ => 0))), ((u2.1 37), .inr (0, [.ref (u2.1 38), .int 0, .ref (u2.1 39), .int 0])), ((u2.1 38), .inl (J.2.1, 50, .inl (fun _ => 0))), ((u2.1 40), .inl (J.2.2.2, 6, .inr (.inr (.inr (.inr u2.2))))), ((u2.1 41), .inr (9, [.ref (u2.1 47), .int 0, .int 0, .int 0, .int 0])), ((u2.1 42), .inr (9, [.ref (u2.1 48), .int 0, .int 0, .int 0, .int 0])), ((u2.1 43), .inr (9, [.ref (u2.1 49), .int 0, .int 0, .int 0, .int 0])), ((u2.1 44), .inr (9, [.ref (u2.1 50), .int 0, .int 0, .int 0, .int 0])), ((u2.1 45), .inr (9, [.ref (u2.1 51), .int 0, .int 0, .int 0, .int 0])), ((u2.1 46), .inr (9, [.ref (u2.1 52), .int 0, .int 0, .int 0, .int 0])), ((u2.1 47), .inl (J.2.2.1, 60, .inr (.inl (fun _ => 0)))), ((u2.1 48), .inl (J.2.2.1, 60, .inr (.inl (fun _ => 0)))), ((u2.1 49), .inl (J.2.2.1, 60, .inr (.inl (fun _ => 0)))), ((u2.1 50), .inl (J.2.2.1, 60, .inr (.inl (fun _ => 0)))), ((u2.1 51), .inl (J.2.2.1, 60, .inr (.inl (fun _ => 0)))), ((u2.1 52), .inl (J.2.2.1, 60, .inr (.inl (fun _ => 0))))] H := hP
  have hD : va_D A [((u2.1 0), .inr (11, [.ref (u2.1 1), .ref (u2.1 6), .ref (u2.1 10), .ref (u2.1 15), .ref (u2.1 17), .ref (u2.1 22), .ref (u2.1 23), .ref (u2.1 30), .ref (u2.1 31), .ref (u2.1 34), .int 0, .ref (u2.1 37), .ref (u2.1 40)])), ((u2.1 1), .inr (7, [.ref (u2.1 2), .int 0, .ref (u2.1 3), .int 0, .int 0, .int 0, .ref (u2.1 4), .int 0, .ref (u2.1 5), .int 0])), ((u2.1 2), .inl (J.2.1, 120, .inl (fun _ => 0))), ((u2.1 3), .inl (J.2.1, 256, .inl (fun _ => 0))), ((u2.1 6), .inr (10, [.ref (u2.1 1), .ref (u2.1 7), .ref (u2.1 8), .ref (u2.1 9), .int 0, .int 0, .int 0, .int 0, .int 1, .int 0, .int 0])), ((u2.1 7), .inl (J.2.1, 10, .inl (fun _ => 0))), ((u2.1 8), .inl (J.2.1, 10, .inl (fun _ => 0))), ((u2.1 9), .inl (J.2.1, 10, .inl (fun _ => 0))), ((u2.1 10), .inr (2, [.ref (u2.1 6), .ref (u2.1 11), .ref (u2.1 12), .ref (u2.1 13), .ref (u2.1 14), .int 0, .int 0])), ((u2.1 11), .inl (J.2.1, 40, .inl (fun _ => 0))), ((u2.1 12), .inl (J.2.1, 40, .inl (fun _ => 0))), ((u2.1 13), .inl (J.2.1, 40, .inl (fun _ => 0))), ((u2.1 14), .inl (J.2.1, 40, .inl (fun _ => 0))), ((u2.1 17), .inr (6, [.ref (u2.1 6), .ref (u2.1 18), .ref (u2.1 19), .int 0, .ref (u2.1 20), .ref (u2.1 21), .int 0, .int 0, .int 0, .int 0, .int (-1)])), ((u2.1 20), .inl (J.2.1, 32, .inl (fun _ => 0))), ((u2.1 21), .inl (J.2.1, 32, .inl (fun _ => 0))), ((u2.1 22), .inr (5, [.ref (u2.1 6)])), ((u2.1 23), .inr (1, [.ref (u2.1 6), .ref (u2.1 15), .ref (u2.1 24), .ref (u2.1 25), .ref (u2.1 26), .ref (u2.1 27), .long 0, .long 0, .long 0, .ref (u2.1 28), .ref (u2.1 29), .long 0, .int 0, .int (-1)])), ((u2.1 31), .inr (3, [.ref (u2.1 6), .ref (u2.1 32), .ref (u2.1 33), .int 0, .int 0, .int 0, .int 0, .int 0])), ((u2.1 32), .inr (4, [.ref (u2.1 6), .int 0])), ((u2.1 33), .inl (J.2.1, 10, .inl (fun _ => 0))), ((u2.1 34), .inr (3, [.ref (u2.1 6), .ref (u2.1 35), .ref (u2.1 36), .int 0, .int 0, .int 0, .int 0, .int 0])), ((u2.1 35), .inr (4, [.ref (u2.1 6), .int 0])), ((u2.1 36), .inl (J.2.1, 10, .inl (fun _ => 0))), ((u2.1 37), .inr (0, [.ref (u2.1 38), .int 0, .ref (u2.1 39), .int 0])), ((u2.1 38), .inl (J.2.1, 50, .inl (fun _ => 0))), ((u2.1 40), .inl (J.2.2.2, 6, .inr (.inr (.inr (.inr u2.2))))), ((u2.1 41), .inr (9, [.ref (u2.1 47), .int 0, .int 0, .int 0, .int 0])), ((u2.1 42), .inr (9, [.ref (u2.1 48), .int 0, .int 0, .int 0, .int 0])), ((u2.1 43), .inr (9, [.ref (u2.1 49), .int 0, .int 0, .int 0, .int 0])), ((u2.1 44), .inr (9, [.ref (u2.1 50), .int 0, .int 0, .int 0, .int 0])), ((u2.1 45), .inr (9, [.ref (u2.1 51), .int 0, .int 0, .int 0, .int 0])), ((u2.1 46), .inr (9, [.ref (u2.1 52), .int 0, .int 0, .int 0, .int 0])), ((u2.1 47), .inl (J.2.2.1, 60, .inr (.inl (fun _ => 0)))), ((u2.1 48), .inl (J.2.2.1, 60, .inr (.inl (fun _ => 0)))), ((u2.1 49), .inl (J.2.2.1, 60, .inr (.inl (fun _ => 0)))), ((u2.1 50), .inl (J.2.2.1, 60, .inr (.inl (fun _ => 0)))), ((u2.1 51), .inl (J.2.2.1, 60, .inr (.inl (fun _ => 0)))), ((u2.1 52), .inl (J.2.2.1, 60, .inr (.inl (fun _ => 0))))] := hD
  refine W.widen (k := 57) (n := 16077) (Nat.le_of_ble_eq_true rfl) (Nat.le_of_ble_eq_true rfl) ?_
  obtain ⟨ea, hfx⟩ := hw
  refine lv_astore_n (lv' := [(1, .ref n1), (0, .ref b)]) hx hb dL_law_7 rfl hl (by decide) rfl (fun ls hl => ?_)
  refine va_new (D := J.1) (ci := 12) (fs := [.null, .null, .null, .null, .int 0, .int 0, .int 0, .int 0, .null, .null, .int 0, .null, .int 0, .int 0, .int 0, .int 0, .int 0, .int 0, .null, .null, .null, .null, .null, .long 0, .long 0, .long 0, .null, .null, .null, .long 0, .int 0, .int 0, .int 0, .int 0, .int 0, .null, .int 0, .int 0, .null, .null, .int 0, .null, .null, .int 0, .int 0, .int 0, .null, .null, .null, .null]) (C := RX12) (T := TX12) (N := 50) hx hb hts inX12 tyX12 tyX12_ok hown (hts _ q_1260) (hts _ q_1261) (hts _ q_115) hK.1 hP hD hS hA rfl (fun j hj => by rcases (show j = 0 ∨ j = 1 ∨ j = 2 ∨ j = 3 ∨ j = 4 ∨ j = 5 ∨ j = 6 ∨ j = 7 ∨ j = 8 ∨ j = 9 ∨ j = 10 ∨ j = 11 ∨ j = 12 ∨ j = 13 ∨ j = 14 ∨ j = 15 ∨ j = 16 ∨ j = 17 ∨ j = 18 ∨ j = 19 ∨ j = 20 ∨ j = 21 ∨ j = 22 ∨ j = 23 ∨ j = 24 ∨ j = 25 ∨ j = 26 ∨ j = 27 ∨ j = 28 ∨ j = 29 ∨ j = 30 ∨ j = 31 ∨ j = 32 ∨ j = 33 ∨ j = 34 ∨ j = 35 ∨ j = 36 ∨ j = 37 ∨ j = 38 ∨ j = 39 ∨ j = 40 ∨ j = 41 ∨ j = 42 ∨ j = 43 ∨ j = 44 ∨ j = 45 ∨ j = 46 ∨ j = 47 ∨ j = 48 ∨ j = 49 by omega) with rfl | rfl | rfl | rfl | rfl | rfl | rfl | rfl | rfl | rfl | rfl | rfl | rfl | rfl | rfl | rfl | rfl | rfl | rfl | rfl | rfl | rfl | rfl | rfl | rfl | rfl | rfl | rfl | rfl | rfl | rfl | rfl | rfl | rfl | rfl | rfl | rfl | rfl | rfl | rfl | rfl | rfl | rfl | rfl | rfl | rfl | rfl | rfl | rfl | rfl <;> rfl) (Nat.le_of_ble_eq_true rfl) (Nat.le_of_ble_eq_true rfl) dL_law_8 (fun n3 H hP hD hS => ?_)
  have hP : va_P J.1 cls [((u2.1 0), .inr (11, [.ref (u2.1 1), .ref (u2.1 6), .ref (u2.1 10), .ref (u2.1 15), .ref (u2.1 17), .ref (u2.1 22), .ref (u2.1 23), .ref (u2.1 30), .ref (u2.1 31), .ref (u2.1 34), .int 0, .ref (u2.1 37), .ref (u2.1 40)])), ((u2.1 1), .inr (7, [.ref (u2.1 2), .int 0, .ref (u2.1 3), .int 0, .int 0, .int 0, .ref (u2.1 4), .int 0, .ref (u2.1 5), .int 0])), ((u2.1 2), .inl (J.2.1, 120, .inl (fun _ => 0))), ((u2.1 3), .inl (J.2.1, 256, .inl (fun _ => 0))), ((u2.1 6), .inr (10, [.ref (u2.1 1), .ref (u2.1 7), .ref (u2.1 8), .ref (u2.1 9), .int 0, .int 0, .int 0, .int 0, .int 1, .int 0, .int 0])), ((u2.1 7), .inl (J.2.1, 10, .inl (fun _ => 0))), ((u2.1 8), .inl (J.2.1, 10, .inl (fun _ => 0))), ((u2.1 9), .inl (J.2.1, 10, .inl (fun _ => 0))), ((u2.1 10), .inr (2, [.ref (u2.1 6), .ref (u2.1 11), .ref (u2.1 12), .ref (u2.1 13), .ref (u2.1 14), .int 0, .int 0])), ((u2.1 11), .inl (J.2.1, 40, .inl (fun _ => 0))), ((u2.1 12), .inl (J.2.1, 40, .inl (fun _ => 0))), ((u2.1 13), .inl (J.2.1, 40, .inl (fun _ => 0))), ((u2.1 14), .inl (J.2.1, 40, .inl (fun _ => 0))), ((u2.1 17), .inr (6, [.ref (u2.1 6), .ref (u2.1 18), .ref (u2.1 19), .int 0, .ref (u2.1 20), .ref (u2.1 21), .int 0, .int 0, .int 0, .int 0, .int (-1)])), ((u2.1 20), .inl (J.2.1, 32, .inl (fun _ => 0))), ((u2.1 21), .inl (J.2.1, 32, .inl (fun _ => 0))), ((u2.1 22), .inr (5, [.ref (u2.1 6)])), ((u2.1 23), .inr (1, [.ref (u2.1 6), .ref (u2.1 15), .ref (u2.1 24), .ref (u2.1 25), .ref (u2.1 26), .ref (u2.1 27), .long 0, .long 0, .long 0, .ref (u2.1 28), .ref (u2.1 29), .long 0, .int 0, .int (-1)])), ((u2.1 31), .inr (3, [.ref (u2.1 6), .ref (u2.1 32), .ref (u2.1 33), .int 0, .int 0, .int 0, .int 0, .int 0])), ((u2.1 32), .inr (4, [.ref (u2.1 6), .int 0])), ((u2.1 33), .inl (J.2.1, 10, .inl (fun _ => 0))), ((u2.1 34), .inr (3, [.ref (u2.1 6), .ref (u2.1 35), .ref (u2.1 36), .int 0, .int 0, .int 0, .int 0, .int 0])), ((u2.1 35), .inr (4, [.ref (u2.1 6), .int 0])), ((u2.1 36), .inl (J.2.1, 10, .inl (fun _ => 0))), ((u2.1 37), .inr (0, [.ref (u2.1 38), .int 0, .ref (u2.1 39), .int 0])), ((u2.1 38), .inl (J.2.1, 50, .inl (fun _ => 0))), ((u2.1 40), .inl (J.2.2.2, 6, .inr (.inr (.inr (.inr u2.2))))), ((u2.1 41), .inr (9, [.ref (u2.1 47), .int 0, .int 0, .int 0, .int 0])), ((u2.1 42), .inr (9, [.ref (u2.1 48), .int 0, .int 0, .int 0, .int 0])), ((u2.1 43), .inr (9, [.ref (u2.1 49), .int 0, .int 0, .int 0, .int 0])), ((u2.1 44), .inr (9, [.ref (u2.1 50), .int 0, .int 0, .int 0, .int 0])), ((u2.1 45), .inr (9, [.ref (u2.1 51), .int 0, .int 0, .int 0, .int 0])), ((u2.1 46), .inr (9, [.ref (u2.1 52), .int 0, .int 0, .int 0, .int 0])), ((u2.1 47), .inl (J.2.2.1, 60, .inr (.inl (fun _ => 0)))), ((u2.1 48), .inl (J.2.2.1, 60, .inr (.inl (fun _ => 0)))), ((u2.1 49), .inl (J.2.2.1, 60, .inr (.inl (fun _ => 0)))), ((u2.1 50), .inl (J.2.2.1, 60, .inr (.inl (fun _ => 0)))), ((u2.1 51), .inl (J.2.2.1, 60, .inr (.inl (fun _ => 0)))), ((u2.1 52), .inl (J.2.2.1, 60, .inr (.inl (fun _ => 0)))), (n3, .inr (12, [.null, .null, .null, .null, .int 0, .int 0, .int 0, .int 0, .null, .null, .int 0, .null, .int 0, .int 0, .int 0, .int 0, .int 0, .int 0, .null, .null, .null, .null, .null, .long 0, .long 0, .long 0, .null, .null, .null, .long 0, .int 0, .int 0, .int 0, .int 0, .int 0, .null, .int 0, .int 0, .null, .null, .int 0, .null, .null, .int 0, .int 0, .int 0, .null, .null, .null, .null]))] H := hP
  have hD : va_D A [((u2.1 0), .inr (11, [.ref (u2.1 1), .ref (u2.1 6), .ref (u2.1 10), .ref (u2.1 15), .ref (u2.1 17), .ref (u2.1 22), .ref (u2.1 23), .ref (u2.1 30), .ref (u2.1 31), .ref (u2.1 34), .int 0, .ref (u2.1 37), .ref (u2.1 40)])), ((u2.1 1), .inr (7, [.ref (u2.1 2), .int 0, .ref (u2.1 3), .int 0, .int 0, .int 0, .ref (u2.1 4), .int 0, .ref (u2.1 5), .int 0])), ((u2.1 2), .inl (J.2.1, 120, .inl (fun _ => 0))), ((u2.1 3), .inl (J.2.1, 256, .inl (fun _ => 0))), ((u2.1 6), .inr (10, [.ref (u2.1 1), .ref (u2.1 7), .ref (u2.1 8), .ref (u2.1 9), .int 0, .int 0, .int 0, .int 0, .int 1, .int 0, .int 0])), ((u2.1 7), .inl (J.2.1, 10, .inl (fun _ => 0))), ((u2.1 8), .inl (J.2.1, 10, .inl (fun _ => 0))), ((u2.1 9), .inl (J.2.1, 10, .inl (fun _ => 0))), ((u2.1 10), .inr (2, [.ref (u2.1 6), .ref (u2.1 11), .ref (u2.1 12), .ref (u2.1 13), .ref (u2.1 14), .int 0, .int 0])), ((u2.1 11), .inl (J.2.1, 40, .inl (fun _ => 0))), ((u2.1 12), .inl (J.2.1, 40, .inl (fun _ => 0))), ((u2.1 13), .inl (J.2.1, 40, .inl (fun _ => 0))), ((u2.1 14), .inl (J.2.1, 40, .inl (fun _ => 0))), ((u2.1 17), .inr (6, [.ref (u2.1 6), .ref (u2.1 18), .ref (u2.1 19), .int 0, .ref (u2.1 20), .ref (u2.1 21), .int 0, .int 0, .int 0, .int 0, .int (-1)])), ((u2.1 20), .inl (J.2.1, 32, .inl (fun _ => 0))), ((u2.1 21), .inl (J.2.1, 32, .inl (fun _ => 0))), ((u2.1 22), .inr (5, [.ref (u2.1 6)])), ((u2.1 23), .inr (1, [.ref (u2.1 6), .ref (u2.1 15), .ref (u2.1 24), .ref (u2.1 25), .ref (u2.1 26), .ref (u2.1 27), .long 0, .long 0, .long 0, .ref (u2.1 28), .ref (u2.1 29), .long 0, .int 0, .int (-1)])), ((u2.1 31), .inr (3, [.ref (u2.1 6), .ref (u2.1 32), .ref (u2.1 33), .int 0, .int 0, .int 0, .int 0, .int 0])), ((u2.1 32), .inr (4, [.ref (u2.1 6), .int 0])), ((u2.1 33), .inl (J.2.1, 10, .inl (fun _ => 0))), ((u2.1 34), .inr (3, [.ref (u2.1 6), .ref (u2.1 35), .ref (u2.1 36), .int 0, .int 0, .int 0, .int 0, .int 0])), ((u2.1 35), .inr (4, [.ref (u2.1 6), .int 0])), ((u2.1 36), .inl (J.2.1, 10, .inl (fun _ => 0))), ((u2.1 37), .inr (0, [.ref (u2.1 38), .int 0, .ref (u2.1 39), .int 0])), ((u2.1 38), .inl (J.2.1, 50, .inl (fun _ => 0))), ((u2.1 40), .inl (J.2.2.2, 6, .inr (.inr (.inr (.inr u2.2))))), ((u2.1 41), .inr (9, [.ref (u2.1 47), .int 0, .int 0, .int 0, .int 0])), ((u2.1 42), .inr (9, [.ref (u2.1 48), .int 0, .int 0, .int 0, .int 0])), ((u2.1 43), .inr (9, [.ref (u2.1 49), .int 0, .int 0, .int 0, .int 0])), ((u2.1 44), .inr (9, [.ref (u2.1 50), .int 0, .int 0, .int 0, .int 0])), ((u2.1 45), .inr (9, [.ref (u2.1 51), .int 0, .int 0, .int 0, .int 0])), ((u2.1 46), .inr (9, [.ref (u2.1 52), .int 0, .int 0, .int 0, .int 0])), ((u2.1 47), .inl (J.2.2.1, 60, .inr (.inl (fun _ => 0)))), ((u2.1 48), .inl (J.2.2.1, 60, .inr (.inl (fun _ => 0)))), ((u2.1 49), .inl (J.2.2.1, 60, .inr (.inl (fun _ => 0)))), ((u2.1 50), .inl (J.2.2.1, 60, .inr (.inl (fun _ => 0)))), ((u2.1 51), .inl (J.2.2.1, 60, .inr (.inl (fun _ => 0)))), ((u2.1 52), .inl (J.2.2.1, 60, .inr (.inl (fun _ => 0)))), (n3, .inr (12, [.null, .null, .null, .null, .int 0, .int 0, .int 0, .int 0, .null, .null, .int 0, .null, .int 0, .int 0, .int 0, .int 0, .int 0, .int 0, .null, .null, .null, .null, .null, .long 0, .long 0, .long 0, .null, .null, .null, .long 0, .int 0, .int 0, .int 0, .int 0, .int 0, .null, .int 0, .int 0, .null, .null, .int 0, .null, .null, .int 0, .int 0, .int 0, .null, .null, .null, .null]))] := hD
  refine W.widen (k := 58) (n := 16127) (Nat.le_of_ble_eq_true rfl) (Nat.le_of_ble_eq_true rfl) ?_
  refine lv_dup hx hb dL_law_11 rfl ?_
  refine gw_v (wc := [(n3, .inr (12, [.null, .null, .null, .null, .int 0, .int 0, .int 0, .int 0, .null, .null, .int 0, .null, .int 0, .int 0, .int 0, .int 0, .int 0, .int 0, .null, .null, .null, .null, .null, .long 0, .long 0, .long 0, .null, .null, .null, .long 0, .int 0, .int 0, .int 0, .int 0, .int 0, .null, .int 0, .int 0, .null, .null, .int 0, .null, .null, .int 0, .int 0, .int 0, .null, .null, .null, .null]))]) (wr := [((u2.1 0), .inr (11, [.ref (u2.1 1), .ref (u2.1 6), .ref (u2.1 10), .ref (u2.1 15), .ref (u2.1 17), .ref (u2.1 22), .ref (u2.1 23), .ref (u2.1 30), .ref (u2.1 31), .ref (u2.1 34), .int 0, .ref (u2.1 37), .ref (u2.1 40)])), ((u2.1 1), .inr (7, [.ref (u2.1 2), .int 0, .ref (u2.1 3), .int 0, .int 0, .int 0, .ref (u2.1 4), .int 0, .ref (u2.1 5), .int 0])), ((u2.1 2), .inl (J.2.1, 120, .inl (fun _ => 0))), ((u2.1 3), .inl (J.2.1, 256, .inl (fun _ => 0))), ((u2.1 6), .inr (10, [.ref (u2.1 1), .ref (u2.1 7), .ref (u2.1 8), .ref (u2.1 9), .int 0, .int 0, .int 0, .int 0, .int 1, .int 0, .int 0])), ((u2.1 7), .inl (J.2.1, 10, .inl (fun _ => 0))), ((u2.1 8), .inl (J.2.1, 10, .inl (fun _ => 0))), ((u2.1 9), .inl (J.2.1, 10, .inl (fun _ => 0))), ((u2.1 10), .inr (2, [.ref (u2.1 6), .ref (u2.1 11), .ref (u2.1 12), .ref (u2.1 13), .ref (u2.1 14), .int 0, .int 0])), ((u2.1 11), .inl (J.2.1, 40, .inl (fun _ => 0))), ((u2.1 12), .inl (J.2.1, 40, .inl (fun _ => 0))), ((u2.1 13), .inl (J.2.1, 40, .inl (fun _ => 0))), ((u2.1 14), .inl (J.2.1, 40, .inl (fun _ => 0))), ((u2.1 17), .inr (6, [.ref (u2.1 6), .ref (u2.1 18), .ref (u2.1 19), .int 0, .ref (u2.1 20), .ref (u2.1 21), .int 0, .int 0, .int 0, .int 0, .int (-1)])), ((u2.1 20), .inl (J.2.1, 32, .inl (fun _ => 0))), ((u2.1 21), .inl (J.2.1, 32, .inl (fun _ => 0))), ((u2.1 22), .inr (5, [.ref (u2.1 6)])), ((u2.1 23), .inr (1, [.ref (u2.1 6), .ref (u2.1 15), .ref (u2.1 24), .ref (u2.1 25), .ref (u2.1 26), .ref (u2.1 27), .long 0, .long 0, .long 0, .ref (u2.1 28), .ref (u2.1 29), .long 0, .int 0, .int (-1)])), ((u2.1 31), .inr (3, [.ref (u2.1 6), .ref (u2.1 32), .ref (u2.1 33), .int 0, .int 0, .int 0, .int 0, .int 0])), ((u2.1 32), .inr (4, [.ref (u2.1 6), .int 0])), ((u2.1 33), .inl (J.2.1, 10, .inl (fun _ => 0))), ((u2.1 34), .inr (3, [.ref (u2.1 6), .ref (u2.1 35), .ref (u2.1 36), .int 0, .int 0, .int 0, .int 0, .int 0])), ((u2.1 35), .inr (4, [.ref (u2.1 6), .int 0])), ((u2.1 36), .inl (J.2.1, 10, .inl (fun _ => 0))), ((u2.1 37), .inr (0, [.ref (u2.1 38), .int 0, .ref (u2.1 39), .int 0])), ((u2.1 38), .inl (J.2.1, 50, .inl (fun _ => 0))), ((u2.1 40), .inl (J.2.2.2, 6, .inr (.inr (.inr (.inr u2.2))))), ((u2.1 41), .inr (9, [.ref (u2.1 47), .int 0, .int 0, .int 0, .int 0])), ((u2.1 42), .inr (9, [.ref (u2.1 48), .int 0, .int 0, .int 0, .int 0])), ((u2.1 43), .inr (9, [.ref (u2.1 49), .int 0, .int 0, .int 0, .int 0])), ((u2.1 44), .inr (9, [.ref (u2.1 50), .int 0, .int 0, .int 0, .int 0])), ((u2.1 45), .inr (9, [.ref (u2.1 51), .int 0, .int 0, .int 0, .int 0])), ((u2.1 46), .inr (9, [.ref (u2.1 52), .int 0, .int 0, .int 0, .int 0])), ((u2.1 47), .inl (J.2.2.1, 60, .inr (.inl (fun _ => 0)))), ((u2.1 48), .inl (J.2.2.1, 60, .inr (.inl (fun _ => 0)))), ((u2.1 49), .inl (J.2.2.1, 60, .inr (.inl (fun _ => 0)))), ((u2.1 50), .inl (J.2.2.1, 60, .inr (.inl (fun _ => 0)))), ((u2.1 51), .inl (J.2.2.1, 60, .inr (.inl (fun _ => 0)))), ((u2.1 52), .inl (J.2.2.1, 60, .inr (.inl (fun _ => 0))))]) hP hD hS hA [39] [0, 1, 2, 3, 4, 5, 6, 7, 8, 9, 10, 11, 12, 13, 14, 15, 16, 17, 18, 19, 20, 21, 22, 23, 24, 25, 26, 27, 28, 29, 30, 31, 32, 33, 34, 35, 36, 37, 38] rfl rfl (by decide) (by decide) (wn_I (As := []) (rest := [.ref n3]) hx hb hml hown hts hK (n_Model l J _ n3) kI_RL_12 (hP.sub (ws' := [(n3, .inr (12, [.null, .null, .null, .null, .int 0, .int 0, .int 0, .int 0, .null, .null, .int 0, .null, .int 0, .int 0, .int 0, .int 0, .int 0, .int 0, .null, .null, .null, .null, .null, .long 0, .long 0, .long 0, .null, .null, .null, .long 0, .int 0, .int 0, .int 0, .int 0, .int 0, .null, .int 0, .int 0, .null, .null, .int 0, .null, .null, .int 0, .int 0, .int 0, .null, .null, .null, .null]))]) [39] rfl) ((hD.sub (ws' := [(n3, .inr (12, [.null, .null, .null, .null, .int 0, .int 0, .int 0, .int 0, .null, .null, .int 0, .null, .int 0, .int 0, .int 0, .int 0, .int 0, .int 0, .null, .null, .null, .null, .null, .long 0, .long 0, .long 0, .null, .null, .null, .long 0, .int 0, .int 0, .int 0, .int 0, .int 0, .null, .int 0, .int 0, .null, .null, .int 0, .null, .null, .int 0, .int 0, .int 0, .null, .null, .null, .null]))]) [39] (by decide) rfl).weaken (fun _ _ _ _ => trivial)) ⟨Nat.le_of_ble_eq_true rfl, Nat.le_of_ble_eq_true rfl⟩ rfl rfl rfl hl.1 rfl (Nat.le_of_ble_eq_true rfl) ⟨Nat.le_of_ble_eq_true rfl, Nat.le_of_ble_eq_true rfl⟩ dL_law_12) (fun u4 H locs hw hP hD hS => ?_)
  have hP : va_P J.1 cls [((u2.1 0), .inr (11, [.ref (u2.1 1), .ref (u2.1 6), .ref (u2.1 10), .ref (u2.1 15), .ref (u2.1 17), .ref (u2.1 22), .ref (u2.1 23), .ref (u2.1 30), .ref (u2.1 31), .ref (u2.1 34), .int 0, .ref (u2.1 37), .ref (u2.1 40)])), ((u2.1 1), .inr (7, [.ref (u2.1 2), .int 0, .ref (u2.1 3), .int 0, .int 0, .int 0, .ref (u2.1 4), .int 0, .ref (u2.1 5), .int 0])), ((u2.1 2), .inl (J.2.1, 120, .inl (fun _ => 0))), ((u2.1 3), .inl (J.2.1, 256, .inl (fun _ => 0))), ((u2.1 6), .inr (10, [.ref (u2.1 1), .ref (u2.1 7), .ref (u2.1 8), .ref (u2.1 9), .int 0, .int 0, .int 0, .int 0, .int 1, .int 0, .int 0])), ((u2.1 7), .inl (J.2.1, 10, .inl (fun _ => 0))), ((u2.1 8), .inl (J.2.1, 10, .inl (fun _ => 0))), ((u2.1 9), .inl (J.2.1, 10, .inl (fun _ => 0))), ((u2.1 10), .inr (2, [.ref (u2.1 6), .ref (u2.1 11), .ref (u2.1 12), .ref (u2.1 13), .ref (u2.1 14), .int 0, .int 0])), ((u2.1 11), .inl (J.2.1, 40, .inl (fun _ => 0))), ((u2.1 12), .inl (J.2.1, 40, .inl (fun _ => 0))), ((u2.1 13), .inl (J.2.1, 40, .inl (fun _ => 0))), ((u2.1 14), .inl (J.2.1, 40, .inl (fun _ => 0))), ((u2.1 17), .inr (6, [.ref (u2.1 6), .ref (u2.1 18), .ref (u2.1 19), .int 0, .ref (u2.1 20), .ref (u2.1 21), .int 0, .int 0, .int 0, .int 0, .int (-1)])), ((u2.1 20), .inl (J.2.1, 32, .inl (fun _ => 0))), ((u2.1 21), .inl (J.2.1, 32, .inl (fun _ => 0))), ((u2.1 22), .inr (5, [.ref (u2.1 6)])), ((u2.1 23), .inr (1, [.ref (u2.1 6), .ref (u2.1 15), .ref (u2.1 24), .ref (u2.1 25), .ref (u2.1 26), .ref (u2.1 27), .long 0, .long 0, .long 0, .ref (u2.1 28), .ref (u2.1 29), .long 0, .int 0, .int (-1)])), ((u2.1 31), .inr (3, [.ref (u2.1 6), .ref (u2.1 32), .ref (u2.1 33), .int 0, .int 0, .int 0, .int 0, .int 0])), ((u2.1 32), .inr (4, [.ref (u2.1 6), .int 0])), ((u2.1 33), .inl (J.2.1, 10, .inl (fun _ => 0))), ((u2.1 34), .inr (3, [.ref (u2.1 6), .ref (u2.1 35), .ref (u2.1 36), .int 0, .int 0, .int 0, .int 0, .int 0])), ((u2.1 35), .inr (4, [.ref (u2.1 6), .int 0])), ((u2.1 36), .inl (J.2.1, 10, .inl (fun _ => 0))), ((u2.1 37), .inr (0, [.ref (u2.1 38), .int 0, .ref (u2.1 39), .int 0])), ((u2.1 38), .inl (J.2.1, 50, .inl (fun _ => 0))), ((u2.1 40), .inl (J.2.2.2, 6, .inr (.inr (.inr (.inr u2.2))))), ((u2.1 41), .inr (9, [.ref (u2.1 47), .int 0, .int 0, .int 0, .int 0])), ((u2.1 42), .inr (9, [.ref (u2.1 48), .int 0, .int 0, .int 0, .int 0])), ((u2.1 43), .inr (9, [.ref (u2.1 49), .int 0, .int 0, .int 0, .int 0])), ((u2.1 44), .inr (9, [.ref (u2.1 50), .int 0, .int 0, .int 0, .int 0])), ((u2.1 45), .inr (9, [.ref (u2.1 51), .int 0, .int 0, .int 0, .int 0])), ((u2.1 46), .inr (9, [.ref (u2.1 52), .int 0, .int 0, .int 0, .int 0])), ((u2.1 47), .inl (J.2.2.1, 60, .inr (.inl (fun _ => 0)))), ((u2.1 48), .inl (J.2.2.1, 60, .inr (.inl (fun _ => 0)))), ((u2.1 49), .inl (J.2.2.1, 60, .inr (.inl (fun _ => 0)))), ((u2.1 50), .inl (J.2.2.1, 60, .inr (.inl (fun _ => 0)))), ((u2.1 51), .inl (J.2.2.1, 60, .inr (.inl (fun _ => 0)))), ((u2.1 52), .inl (J.2.2.1, 60, .inr (.inl (fun _ => 0)))), ((u4.1 0), .inr (12, [.ref (u4.1 1), .ref (u4.1 2), .ref (u4.1 3), .ref (u4.1 4), .int 0, .int 0, .int 0, .int 0, .ref (u4.1 9), .ref (u4.1 10), .int 0, .ref (u4.1 12), .int (-1), .int 0, .int 0, .int 0, .int 0, .int 0, .ref (u4.1 19), .ref (u4.1 20), .ref (u4.1 21), .ref (u4.1 22), .ref (u4.1 23), .long 0, .long 0, .long 0, .ref (u4.1 27), .ref (u4.1 28), .ref (u4.1 29), .long 0, .int 0, .int (-1), .int 0, .int 0, .int 0, .ref (u4.1 36), .int 0, .int 0, .ref (u4.1 39), .ref (u4.1 40), .int 0, .ref (u4.1 42), .ref (u4.1 43), .int 0, .int 0, .int 0, .ref (u4.1 47), .ref (u4.1 48), .ref (u4.1 49), .ref (u4.1 50)])), ((u4.1 1), .inl (J.2.1, 22, .inl (upd (fun _ => 0) (20 : Int32).toNatClampNeg 1))), ((u4.1 2), .inl (J.2.1, 40, .inl (fun _ => 0))), ((u4.1 3), .inl (J.2.1, 40, .inl (fun _ => 0))), ((u4.1 4), .inl (J.2.1, 40, .inl (fun _ => 0))), ((u4.1 10), .inl (J.2.1, 120, .inl (fun _ => 0))), ((u4.1 21), .inl (J.2.1, 7168, .inl (fun _ => 0))), ((u4.1 39), .inl (J.2.1, 5, .inl (fun _ => 0))), ((u4.1 40), .inl (J.2.1, 10, .inl (fun _ => 0))), ((u4.1 36), .inl (J.2.1, 10, .inl (fun _ => 0))), ((u4.1 42), .inl (J.2.1, 50, .inl (fun _ => 0))), ((u4.1 47), .inl (J.2.1, 6, .inl u4.2)), ((u4.1 48), .inl (J.2.1, 6, .inl (fun _ => 0))), ((u4.1 49), .inl (J.2.2.1, 360, .inr (.inl (fun _ => 0))))] H := hP
  have hD : va_D A [((u2.1 0), .inr (11, [.ref (u2.1 1), .ref (u2.1 6), .ref (u2.1 10), .ref (u2.1 15), .ref (u2.1 17), .ref (u2.1 22), .ref (u2.1 23), .ref (u2.1 30), .ref (u2.1 31), .ref (u2.1 34), .int 0, .ref (u2.1 37), .ref (u2.1 40)])), ((u2.1 1), .inr (7, [.ref (u2.1 2), .int 0, .ref (u2.1 3), .int 0, .int 0, .int 0, .ref (u2.1 4), .int 0, .ref (u2.1 5), .int 0])), ((u2.1 2), .inl (J.2.1, 120, .inl (fun _ => 0))), ((u2.1 3), .inl (J.2.1, 256, .inl (fun _ => 0))), ((u2.1 6), .inr (10, [.ref (u2.1 1), .ref (u2.1 7), .ref (u2.1 8), .ref (u2.1 9), .int 0, .int 0, .int 0, .int 0, .int 1, .int 0, .int 0])), ((u2.1 7), .inl (J.2.1, 10, .inl (fun _ => 0))), ((u2.1 8), .inl (J.2.1, 10, .inl (fun _ => 0))), ((u2.1 9), .inl (J.2.1, 10, .inl (fun _ => 0))), ((u2.1 10), .inr (2, [.ref (u2.1 6), .ref (u2.1 11), .ref (u2.1 12), .ref (u2.1 13), .ref (u2.1 14), .int 0, .int 0])), ((u2.1 11), .inl (J.2.1, 40, .inl (fun _ => 0))), ((u2.1 12), .inl (J.2.1, 40, .inl (fun _ => 0))), ((u2.1 13), .inl (J.2.1, 40, .inl (fun _ => 0))), ((u2.1 14), .inl (J.2.1, 40, .inl (fun _ => 0))), ((u2.1 17), .inr (6, [.ref (u2.1 6), .ref (u2.1 18), .ref (u2.1 19), .int 0, .ref (u2.1 20), .ref (u2.1 21), .int 0, .int 0, .int 0, .int 0, .int (-1)])), ((u2.1 20), .inl (J.2.1, 32, .inl (fun _ => 0))), ((u2.1 21), .inl (J.2.1, 32, .inl (fun _ => 0))), ((u2.1 22), .inr (5, [.ref (u2.1 6)])), ((u2.1 23), .inr (1, [.ref (u2.1 6), .ref (u2.1 15), .ref (u2.1 24), .ref (u2.1 25), .ref (u2.1 26), .ref (u2.1 27), .long 0, .long 0, .long 0, .ref (u2.1 28), .ref (u2.1 29), .long 0, .int 0, .int (-1)])), ((u2.1 31), .inr (3, [.ref (u2.1 6), .ref (u2.1 32), .ref (u2.1 33), .int 0, .int 0, .int 0, .int 0, .int 0])), ((u2.1 32), .inr (4, [.ref (u2.1 6), .int 0])), ((u2.1 33), .inl (J.2.1, 10, .inl (fun _ => 0))), ((u2.1 34), .inr (3, [.ref (u2.1 6), .ref (u2.1 35), .ref (u2.1 36), .int 0, .int 0, .int 0, .int 0, .int 0])), ((u2.1 35), .inr (4, [.ref (u2.1 6), .int 0])), ((u2.1 36), .inl (J.2.1, 10, .inl (fun _ => 0))), ((u2.1 37), .inr (0, [.ref (u2.1 38), .int 0, .ref (u2.1 39), .int 0])), ((u2.1 38), .inl (J.2.1, 50, .inl (fun _ => 0))), ((u2.1 40), .inl (J.2.2.2, 6, .inr (.inr (.inr (.inr u2.2))))), ((u2.1 41), .inr (9, [.ref (u2.1 47), .int 0, .int 0, .int 0, .int 0])), ((u2.1 42), .inr (9, [.ref (u2.1 48), .int 0, .int 0, .int 0, .int 0])), ((u2.1 43), .inr (9, [.ref (u2.1 49), .int 0, .int 0, .int 0, .int 0])), ((u2.1 44), .inr (9, [.ref (u2.1 50), .int 0, .int 0, .int 0, .int 0])), ((u2.1 45), .inr (9, [.ref (u2.1 51), .int 0, .int 0, .int 0, .int 0])), ((u2.1 46), .inr (9, [.ref (u2.1 52), .int 0, .int 0, .int 0, .int 0])), ((u2.1 47), .inl (J.2.2.1, 60, .inr (.inl (fun _ => 0)))), ((u2.1 48), .inl (J.2.2.1, 60, .inr (.inl (fun _ => 0)))), ((u2.1 49), .inl (J.2.2.1, 60, .inr (.inl (fun _ => 0)))), ((u2.1 50), .inl (J.2.2.1, 60, .inr (.inl (fun _ => 0)))), ((u2.1 51), .inl (J.2.2.1, 60, .inr (.inl (fun _ => 0)))), ((u2.1 52), .inl (J.2.2.1, 60, .inr (.inl (fun _ => 0)))), ((u4.1 0), .inr (12, [.ref (u4.1 1), .ref (u4.1 2), .ref (u4.1 3), .ref (u4.1 4), .int 0, .int 0, .int 0, .int 0, .ref (u4.1 9), .ref (u4.1 10), .int 0, .ref (u4.1 12), .int (-1), .int 0, .int 0, .int 0, .int 0, .int 0, .ref (u4.1 19), .ref (u4.1 20), .ref (u4.1 21), .ref (u4.1 22), .ref (u4.1 23), .long 0, .long 0, .long 0, .ref (u4.1 27), .ref (u4.1 28), .ref (u4.1 29), .long 0, .int 0, .int (-1), .int 0, .int 0, .int 0, .ref (u4.1 36), .int 0, .int 0, .ref (u4.1 39), .ref (u4.1 40), .int 0, .ref (u4.1 42), .ref (u4.1 43), .int 0, .int 0, .int 0, .ref (u4.1 47), .ref (u4.1 48), .ref (u4.1 49), .ref (u4.1 50)])), ((u4.1 1), .inl (J.2.1, 22, .inl (upd (fun _ => 0) (20 : Int32).toNatClampNeg 1))), ((u4.1 2), .inl (J.2.1, 40, .inl (fun _ => 0))), ((u4.1 3), .inl (J.2.1, 40, .inl (fun _ => 0))), ((u4.1 4), .inl (J.2.1, 40, .inl (fun _ => 0))), ((u4.1 10), .inl (J.2.1, 120, .inl (fun _ => 0))), ((u4.1 21), .inl (J.2.1, 7168, .inl (fun _ => 0))), ((u4.1 39), .inl (J.2.1, 5, .inl (fun _ => 0))), ((u4.1 40), .inl (J.2.1, 10, .inl (fun _ => 0))), ((u4.1 36), .inl (J.2.1, 10, .inl (fun _ => 0))), ((u4.1 42), .inl (J.2.1, 50, .inl (fun _ => 0))), ((u4.1 47), .inl (J.2.1, 6, .inl u4.2)), ((u4.1 48), .inl (J.2.1, 6, .inl (fun _ => 0))), ((u4.1 49), .inl (J.2.2.1, 360, .inr (.inl (fun _ => 0))))] := hD
  refine W.widen (k := 82) (n := 24311) (Nat.le_of_ble_eq_true rfl) (Nat.le_of_ble_eq_true rfl) ?_
  obtain ⟨eb, hg⟩ := hw
  refine lv_astore_n (lv' := [(2, .ref n3), (1, .ref n1), (0, .ref b)]) hx hb dL_law_15 rfl hl (by decide) rfl (fun ls hl => ?_)
  refine lv_iconst (v := 0) hx hb dL_law_16 (by decide) ?_
  refine lv_istore_n (lv' := [(3, .int 0), (2, .ref n3), (1, .ref n1), (0, .ref b)]) hx hb dL_law_17 rfl hl (by decide) rfl (fun ls hl => ?_)
  refine W.widen (k := 600000) (n := 7302250) (Nat.le_of_ble_eq_true rfl) (Nat.le_of_ble_eq_true rfl) ?_
  have hP : va_P J.1 cls (xW J u2.1 u2.2 ++ mW J u4.1 u4.2) H := hP
  have hD : va_D A (xW J u2.1 u2.2 ++ mW J u4.1 u4.2) := hD
  rcases (show L = 0 ∨ L = 1 ∨ L = 2 ∨ L = 3 ∨ L = 4 ∨ L = 5 ∨ L = 6 by omega) with rfl | rfl | rfl | rfl | rfl | rfl | rfl
  · refine lv_iload_n hx hb dL_law_18 rfl (lv_at hl 0 rfl) ?_
    refine lv_aload_n hx hb dL_law_19 rfl (lv_at hl 3 rfl) ?_
    refine va_slen hx hb hX hbl hbA hS dL_law_20 ?_
    refine top_i (y := 0) (by decide) ?_
    refine lv_bipush (v := 6) hx hb dL_law_21 (by decide) ?_
    refine lv_isub hx hb dL_law_23 ?_
    refine top_i (y := (-6)) (by decide) ?_
    refine lv_icmp_gt (tgt := 1419) hx hb dL_law_24 (by decide) (fun _ => ?_) (fun c => absurd c (by decide))
    refine lv_iconst (v := 1) hx hb dL_law_1419 (by decide) ?_
    refine va_forget (fun q hq => hAs _ (hS.2.2 q hq)) ?_
    refine W.widen (k := 600000) (n := 7302250) (Nat.le_of_ble_eq_true rfl) (Nat.le_of_ble_eq_true rfl) ?_
    exact lw_ret hx hb hr hlk dL_law_1420
  · refine lv_iload_n hx hb dL_law_18 rfl (lv_at hl 0 rfl) ?_
    refine lv_aload_n hx hb dL_law_19 rfl (lv_at hl 3 rfl) ?_
    refine va_slen hx hb hX hbl hbA hS dL_law_20 ?_
    refine top_i (y := 1) (by decide) ?_
    refine lv_bipush (v := 6) hx hb dL_law_21 (by decide) ?_
    refine lv_isub hx hb dL_law_23 ?_
    refine top_i (y := (-5)) (by decide) ?_
    refine lv_icmp_gt (tgt := 1419) hx hb dL_law_24 (by decide) (fun _ => ?_) (fun c => absurd c (by decide))
    refine lv_iconst (v := 1) hx hb dL_law_1419 (by decide) ?_
    refine va_forget (fun q hq => hAs _ (hS.2.2 q hq)) ?_
    refine W.widen (k := 600000) (n := 7302250) (Nat.le_of_ble_eq_true rfl) (Nat.le_of_ble_eq_true rfl) ?_
    exact lw_ret hx hb hr hlk dL_law_1420
  · refine lv_iload_n hx hb dL_law_18 rfl (lv_at hl 0 rfl) ?_
    refine lv_aload_n hx hb dL_law_19 rfl (lv_at hl 3 rfl) ?_
    refine va_slen hx hb hX hbl hbA hS dL_law_20 ?_
    refine top_i (y := 2) (by decide) ?_
    refine lv_bipush (v := 6) hx hb dL_law_21 (by decide) ?_
    refine lv_isub hx hb dL_law_23 ?_
    refine top_i (y := (-4)) (by decide) ?_
    refine lv_icmp_gt (tgt := 1419) hx hb dL_law_24 (by decide) (fun _ => ?_) (fun c => absurd c (by decide))
    refine lv_iconst (v := 1) hx hb dL_law_1419 (by decide) ?_
    refine va_forget (fun q hq => hAs _ (hS.2.2 q hq)) ?_
    refine W.widen (k := 600000) (n := 7302250) (Nat.le_of_ble_eq_true rfl) (Nat.le_of_ble_eq_true rfl) ?_
    exact lw_ret hx hb hr hlk dL_law_1420
  · refine lv_iload_n hx hb dL_law_18 rfl (lv_at hl 0 rfl) ?_
    refine lv_aload_n hx hb dL_law_19 rfl (lv_at hl 3 rfl) ?_
    refine va_slen hx hb hX hbl hbA hS dL_law_20 ?_
    refine top_i (y := 3) (by decide) ?_
    refine lv_bipush (v := 6) hx hb dL_law_21 (by decide) ?_
    refine lv_isub hx hb dL_law_23 ?_
    refine top_i (y := (-3)) (by decide) ?_
    refine lv_icmp_gt (tgt := 1419) hx hb dL_law_24 (by decide) (fun _ => ?_) (fun c => absurd c (by decide))
    refine lv_iconst (v := 1) hx hb dL_law_1419 (by decide) ?_
    refine va_forget (fun q hq => hAs _ (hS.2.2 q hq)) ?_
    refine W.widen (k := 600000) (n := 7302250) (Nat.le_of_ble_eq_true rfl) (Nat.le_of_ble_eq_true rfl) ?_
    exact lw_ret hx hb hr hlk dL_law_1420
  · refine lv_iload_n hx hb dL_law_18 rfl (lv_at hl 0 rfl) ?_
    refine lv_aload_n hx hb dL_law_19 rfl (lv_at hl 3 rfl) ?_
    refine va_slen hx hb hX hbl hbA hS dL_law_20 ?_
    refine top_i (y := 4) (by decide) ?_
    refine lv_bipush (v := 6) hx hb dL_law_21 (by decide) ?_
    refine lv_isub hx hb dL_law_23 ?_
    refine top_i (y := (-2)) (by decide) ?_
    refine lv_icmp_gt (tgt := 1419) hx hb dL_law_24 (by decide) (fun _ => ?_) (fun c => absurd c (by decide))
    refine lv_iconst (v := 1) hx hb dL_law_1419 (by decide) ?_
    refine va_forget (fun q hq => hAs _ (hS.2.2 q hq)) ?_
    refine W.widen (k := 600000) (n := 7302250) (Nat.le_of_ble_eq_true rfl) (Nat.le_of_ble_eq_true rfl) ?_
    exact lw_ret hx hb hr hlk dL_law_1420
  · refine lv_iload_n hx hb dL_law_18 rfl (lv_at hl 0 rfl) ?_
    refine lv_aload_n hx hb dL_law_19 rfl (lv_at hl 3 rfl) ?_
    refine va_slen hx hb hX hbl hbA hS dL_law_20 ?_
    refine top_i (y := 5) (by decide) ?_
    refine lv_bipush (v := 6) hx hb dL_law_21 (by decide) ?_
    refine lv_isub hx hb dL_law_23 ?_
    refine top_i (y := (-1)) (by decide) ?_
    refine lv_icmp_gt (tgt := 1419) hx hb dL_law_24 (by decide) (fun _ => ?_) (fun c => absurd c (by decide))
    refine lv_iconst (v := 1) hx hb dL_law_1419 (by decide) ?_
    refine va_forget (fun q hq => hAs _ (hS.2.2 q hq)) ?_
    refine W.widen (k := 600000) (n := 7302250) (Nat.le_of_ble_eq_true rfl) (Nat.le_of_ble_eq_true rfl) ?_
    exact lw_ret hx hb hr hlk dL_law_1420
  · refine lv_iload_n hx hb dL_law_18 rfl (lv_at hl 0 rfl) ?_
    refine lv_aload_n hx hb dL_law_19 rfl (lv_at hl 3 rfl) ?_
    refine va_slen hx hb hX hbl hbA hS dL_law_20 ?_
    refine top_i (y := 6) (by decide) ?_
    refine lv_bipush (v := 6) hx hb dL_law_21 (by decide) ?_
    refine lv_isub hx hb dL_law_23 ?_
    refine top_i (y := 0) (by decide) ?_
    refine lv_icmp_gt (tgt := 1419) hx hb dL_law_24 (by decide) (fun c => absurd c (by decide)) (fun _ => ?_)
    refine lv_aload_n hx hb dL_law_27 rfl (lv_at hl 3 rfl) ?_
    refine lv_iload_n hx hb dL_law_28 rfl (lv_at hl 0 rfl) ?_
    refine va_sld hx hb hX hbl hbA hS (i_in (a := 0) (by decide) (by omega) (by omega)) dL_law_29 ?_
    refine top_i (y := x0) e0.symm ?_
    refine lv_bipush (v := 63) hx hb dL_law_30 (by decide) ?_
    refine lv_iand hx hb dL_law_32 ?_
    obtain ⟨j, hj, ej⟩ := pk_andE x0 (m := 63) 6 (by decide)
    refine top_i (y := nI j) ej ?_
    have E0 : LE p s m meth c b 6 xs J A := ⟨hx, hb, hr, hml, hown, hts, hX, hbl, hlk, hK, hA, hAs⟩
    have hl : lv_has ls 4 [(3, .int 0), (2, .ref (u4.1 0)), (1, .ref (u2.1 0)), (0, .ref b)] := by rw [ea, eb]; exact lv_sub hl [0, 1, 2, 3] rfl
    by_cases h40 : j < 40
    · rcases (show j = 0 ∨ j = 1 ∨ j = 2 ∨ j = 3 ∨ j = 4 ∨ j = 5 ∨ j = 6 ∨ j = 7 ∨ j = 8 ∨ j = 9 ∨ j = 10 ∨ j = 11 ∨ j = 12 ∨ j = 13 ∨ j = 14 ∨ j = 15 ∨ j = 16 ∨ j = 17 ∨ j = 18 ∨ j = 19 ∨ j = 20 ∨ j = 21 ∨ j = 22 ∨ j = 23 ∨ j = 24 ∨ j = 25 ∨ j = 26 ∨ j = 27 ∨ j = 28 ∨ j = 29 ∨ j = 30 ∨ j = 31 ∨ j = 32 ∨ j = 33 ∨ j = 34 ∨ j = 35 ∨ j = 36 ∨ j = 37 ∨ j = 38 ∨ j = 39 by omega) with rfl | rfl | rfl | rfl | rfl | rfl | rfl | rfl | rfl | rfl | rfl | rfl | rfl | rfl | rfl | rfl | rfl | rfl | rfl | rfl | rfl | rfl | rfl | rfl | rfl | rfl | rfl | rfl | rfl | rfl | rfl | rfl | rfl | rfl | rfl | rfl | rfl | rfl | rfl | rfl
      · refine lv_tableIn (tgt := 208) (off := 175) hx hb dL_law_33 (by decide) (by decide) (by decide) (by decide) ?_
        exact lk_0 E0 hfx hg hP hD hS hl
      · refine lv_tableIn (tgt := 231) (off := 198) hx hb dL_law_33 (by decide) (by decide) (by decide) (by decide) ?_
        exact lk_1 E0 hfx hg hP hD hS hl
      · refine lv_tableIn (tgt := 274) (off := 241) hx hb dL_law_33 (by decide) (by decide) (by decide) (by decide) ?_
        exact lk_2 E0 hfx hg hP hD hS hl
      · refine lv_tableIn (tgt := 297) (off := 264) hx hb dL_law_33 (by decide) (by decide) (by decide) (by decide) ?_
        exact lk_3 E0 hfx hg hP hD hS hl
      · refine lv_tableIn (tgt := 340) (off := 307) hx hb dL_law_33 (by decide) (by decide) (by decide) (by decide) ?_
        exact lk_4 E0 hfx hg hP hD hS hl
      · refine lv_tableIn (tgt := 373) (off := 340) hx hb dL_law_33 (by decide) (by decide) (by decide) (by decide) ?_
        exact lk_5 E0 hfx hg hP hD hS hl
      · refine lv_tableIn (tgt := 396) (off := 363) hx hb dL_law_33 (by decide) (by decide) (by decide) (by decide) ?_
        exact lk_6 E0 hfx hg hP hD hS hl
      · refine lv_tableIn (tgt := 409) (off := 376) hx hb dL_law_33 (by decide) (by decide) (by decide) (by decide) ?_
        exact lk_7 E0 hfx hg hP hD hS hl
      · refine lv_tableIn (tgt := 442) (off := 409) hx hb dL_law_33 (by decide) (by decide) (by decide) (by decide) ?_
        exact lk_8 E0 hfx hg hP hD hS hl
      · refine lv_tableIn (tgt := 465) (off := 432) hx hb dL_law_33 (by decide) (by decide) (by decide) (by decide) ?_
        exact lk_9 E0 hfx hg hP hD hS hl
      · refine lv_tableIn (tgt := 498) (off := 465) hx hb dL_law_33 (by decide) (by decide) (by decide) (by decide) ?_
        exact lk_10 E0 hfx hg hP hD hS hl
      · refine lv_tableIn (tgt := 531) (off := 498) hx hb dL_law_33 (by decide) (by decide) (by decide) (by decide) ?_
        exact lk_11 E0 hfx hg hP hD hS hl
      · refine lv_tableIn (tgt := 554) (off := 521) hx hb dL_law_33 (by decide) (by decide) (by decide) (by decide) ?_
        exact lk_12 E0 hfx hg hP hD hS hl
      · refine lv_tableIn (tgt := 577) (off := 544) hx hb dL_law_33 (by decide) (by decide) (by decide) (by decide) ?_
        exact lk_13 E0 hfx hg hP hD hS hl
      · refine lv_tableIn (tgt := 610) (off := 577) hx hb dL_law_33 (by decide) (by decide) (by decide) (by decide) ?_
        exact lk_14 E0 hfx hg hP hD hS hl
      · refine lv_tableIn (tgt := 623) (off := 590) hx hb dL_law_33 (by decide) (by decide) (by decide) (by decide) ?_
        exact lk_15 E0 hfx hg hP hD hS hl
      · refine lv_tableIn (tgt := 636) (off := 603) hx hb dL_law_33 (by decide) (by decide) (by decide) (by decide) ?_
        exact lk_16 E0 hfx hg hP hD hS hl
      · refine lv_tableIn (tgt := 659) (off := 626) hx hb dL_law_33 (by decide) (by decide) (by decide) (by decide) ?_
        exact lk_17 E0 hfx hg hP hD hS hl
      · refine lv_tableIn (tgt := 682) (off := 649) hx hb dL_law_33 (by decide) (by decide) (by decide) (by decide) ?_
        exact lk_18 E0 hfx hg hP hD hS hl
      · refine lv_tableIn (tgt := 705) (off := 672) hx hb dL_law_33 (by decide) (by decide) (by decide) (by decide) ?_
        exact lk_19 E0 hfx hg hP hD hS hl
      · refine lv_tableIn (tgt := 749) (off := 716) hx hb dL_law_33 (by decide) (by decide) (by decide) (by decide) ?_
        exact lk_20 E0 hfx hg hP hD hS hl
      · refine lv_tableIn (tgt := 793) (off := 760) hx hb dL_law_33 (by decide) (by decide) (by decide) (by decide) ?_
        exact lk_21 E0 hfx hg hP hD hS hl
      · refine lv_tableIn (tgt := 837) (off := 804) hx hb dL_law_33 (by decide) (by decide) (by decide) (by decide) ?_
        exact lk_22 E0 hfx hg hP hD hS hl
      · refine lv_tableIn (tgt := 871) (off := 838) hx hb dL_law_33 (by decide) (by decide) (by decide) (by decide) ?_
        exact lk_23 E0 hfx hg hP hD hS hl
      · refine lv_tableIn (tgt := 924) (off := 891) hx hb dL_law_33 (by decide) (by decide) (by decide) (by decide) ?_
        exact lk_24 E0 hfx hg hP hD hS hl
      · refine lv_tableIn (tgt := 947) (off := 914) hx hb dL_law_33 (by decide) (by decide) (by decide) (by decide) ?_
        exact lk_25 E0 hfx hg hP hD hS hl
      · refine lv_tableIn (tgt := 970) (off := 937) hx hb dL_law_33 (by decide) (by decide) (by decide) (by decide) ?_
        exact lk_26 E0 hfx hg hP hD hS hl
      · refine lv_tableIn (tgt := 983) (off := 950) hx hb dL_law_33 (by decide) (by decide) (by decide) (by decide) ?_
        exact lk_27 E0 hfx hg hP hD hS hl
      · refine lv_tableIn (tgt := 996) (off := 963) hx hb dL_law_33 (by decide) (by decide) (by decide) (by decide) ?_
        exact lk_28 E0 hfx hg hP hD hS hl
      · refine lv_tableIn (tgt := 1009) (off := 976) hx hb dL_law_33 (by decide) (by decide) (by decide) (by decide) ?_
        exact lk_29 E0 hfx hg hP hD hS hl
      · refine lv_tableIn (tgt := 1022) (off := 989) hx hb dL_law_33 (by decide) (by decide) (by decide) (by decide) ?_
        exact lk_30 E0 hfx hg hP hD hS hl
      · refine lv_tableIn (tgt := 1045) (off := 1012) hx hb dL_law_33 (by decide) (by decide) (by decide) (by decide) ?_
        exact lk_31 E0 hfx hg hP hD hS hl
      · refine lv_tableIn (tgt := 1088) (off := 1055) hx hb dL_law_33 (by decide) (by decide) (by decide) (by decide) ?_
        exact lk_32 E0 hfx hg hP hD hS hl
      · refine lv_tableIn (tgt := 1111) (off := 1078) hx hb dL_law_33 (by decide) (by decide) (by decide) (by decide) ?_
        exact lk_33 E0 hfx hg hP hD hS hl
      · refine lv_tableIn (tgt := 1144) (off := 1111) hx hb dL_law_33 (by decide) (by decide) (by decide) (by decide) ?_
        exact lk_34 E0 hfx hg hP hD hS hl
      · refine lv_tableIn (tgt := 1187) (off := 1154) hx hb dL_law_33 (by decide) (by decide) (by decide) (by decide) ?_
        exact lk_35 E0 hfx hg hP hD hS hl
      · refine lv_tableIn (tgt := 1260) (off := 1227) hx hb dL_law_33 (by decide) (by decide) (by decide) (by decide) ?_
        exact lk_36 E0 hfx hg hP hD hS hl
      · refine lv_tableIn (tgt := 1294) (off := 1261) hx hb dL_law_33 (by decide) (by decide) (by decide) (by decide) ?_
        exact lk_37 E0 hfx hg hP hD hS hl
      · refine lv_tableIn (tgt := 1357) (off := 1324) hx hb dL_law_33 (by decide) (by decide) (by decide) (by decide) ?_
        exact lk_38 E0 hfx hg hP hD hS hl
      · refine lv_tableIn (tgt := 1390) (off := 1357) hx hb dL_law_33 (by decide) (by decide) (by decide) (by decide) ?_
        exact lk_39 E0 hfx hg hP hD hS hl
    · refine lv_tableOut (tgt := 1413) hx hb dL_law_33 (by rw [nI_toInt (by omega)]; omega) (by decide) ?_
      exact law_end E0 hS hl
