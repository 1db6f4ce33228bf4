theorem k_X8_init : yX8_init.cls ≠ "java/lang/invoke/MethodHandle" ∧ yX8_init.cls ≠ "java/lang/invoke/VarHandle" ∧ (parseMethodDescriptor yX8_init.desc).map (fun d => d.parameters.length) = some 0 := by decide +kernel
theorem k_X9_init : yX9_init.cls ≠ "java/lang/invoke/MethodHandle" ∧ yX9_init.cls ≠ "java/lang/invoke/VarHandle" ∧ (parseMethodDescriptor yX9_init.desc).map (fun d => d.parameters.length) = some 0 := by decide +kernel
set_option maxHeartbeats 4000000 in
set_option maxRecDepth 100000 in
theorem whole_start {p : Program} {e : Env} {s : State} {m : MethodId} {below : List Frame} {meth : Method} {c : Code} (l : Launch) (hflags : l.flags = flags0) {b L : Nat} {xs : Nat → Int32} (hL : L ≤ 2048) (C0 : lw_At p s m meth c b L xs) : W p l e room_1 s m #[Value.ref b] below meth c s.heap [] 0 0 (lw_Z below #[Value.ref b] s) (entryFrame m ([Value.ref b] : List Value).toArray 9) := by
  obtain ⟨hx, hb, hr, hml, hown, hts, hX, hbl, hlocks, hgv⟩ := id C0
  have hst : l.stackTraces = false := by unfold Launch.stackTraces; rw [hflags]; decide +kernel
  obtain ⟨D, ct, ad, hE, hO⟩ := z_env hts hgv
  have hC : lwC p l s m meth c D ct ad b L xs := ⟨hx, hb, hr, hml, hown, hts, hX, hbl, hlocks, hE, hst, hL⟩
  have hK := hE.1
  have hA : ∀ q : Nat, s.heap.size ≤ q → (fun q : Nat => s.heap.size ≤ q) q := fun _ h => h
  have hS : va_S (fun q : Nat => s.heap.size ≤ q) s.heap s.heap [] := va_S.rf
  have hP : va_P D vwCl [] s.heap := fun k q h => by simp at h
  have hD : va_D (fun q : Nat => s.heap.size ≤ q) [] := ⟨fun i j p q h => by simp at h, fun k q h => by simp at h⟩
  have hl := lv_entry ([.ref b]) (n := 9) (Nat.le_of_ble_eq_true rfl)
  rw [lg_entry_eq]
  generalize (lg_sl ([.ref b]) ++ List.replicate (9 - (lg_sl ([.ref b])).length) Slot.unset).toArray = ls at hl ⊢
  have hl : lv_has ls 9 [(0, .ref b)] := hl
  have hf_0 : (Cond.classLink RL 8 RX8).before #[Value.ref b] s = true := hts _ (zin [67] (by decide +kernel) _ (List.mem_singleton.mpr rfl))
  have hf_1 : (Cond.instantiable RX8 3).before #[Value.ref b] s = true := hts _ (zin [68] (by decide +kernel) _ (List.mem_singleton.mpr rfl))
  have hf_2 : (Cond.initialized RX8).before #[Value.ref b] s = true := hts _ (zin [45] (by decide +kernel) _ (List.mem_singleton.mpr rfl))
  have hf_3 : (Cond.classLink RL 85 RX9).before #[Value.ref b] s = true := hts _ (zin [983] (by decide +kernel) _ (List.mem_singleton.mpr rfl))
  have hf_4 : (Cond.instantiable RX9 11).before #[Value.ref b] s = true := hts _ (zin [984] (by decide +kernel) _ (List.mem_singleton.mpr rfl))
  have hf_5 : (Cond.initialized RX9).before #[Value.ref b] s = true := hts _ (zin [52] (by decide +kernel) _ (List.mem_singleton.mpr rfl))
  have hf_6 : (Cond.arrayClass .long).before #[Value.ref b] s = true := hts _ (zin [185] (by decide +kernel) _ (List.mem_singleton.mpr rfl))
  have hin_X8 := in_uX8
  have hin_X9 := in_uX9
  refine va_new (D := D) (ci := 6) (fs := [.null, .null, .null]) (C := RX8) (T := TX8) (N := 3) hx hb hts hin_X8 tyX8 tyX8_ok hown hf_0 hf_1 hf_2 hK hP hD hS hA rfl (fun j hj => by rcases (show j = 0 ∨ j = 1 ∨ j = 2 by omega) with rfl | rfl | rfl <;> rfl) (Nat.le_of_ble_eq_true rfl) (Nat.le_of_ble_eq_true rfl) dL_law_0 (fun q_0 H hP hD hS => ?_)
  have hP : va_P D vwCl (f8W q_0) H := hP
  have hD : va_D (fun q : Nat => s.heap.size ≤ q) (f8W q_0) := hD
  refine W.eq (g2 := F0 m 3 ls [.ref q_0]) rfl ?_
  refine lv_dup hx hb dL_law_3 rfl ?_
  refine z_callIx (ret := none) (b := q_0) (As := []) (rest := [.ref q_0]) ([] : va_W) ([] : va_W) hO hx hb hml hown (fun w h => hts w (in_X8_init w h)) hl hE hS hA (zr0 ([] : va_W) hP) (zr0D ([] : va_W) hD) (c_X8_init l D ct ad q_0) gdL_X8_init rfl k_X8_init ⟨Nat.le_of_ble_eq_true rfl, Nat.le_of_ble_eq_true rfl⟩ (hts (.initialized RX8) (by decide +kernel)) (hts (.methodLink RL 84 yX8_init) (by decide +kernel)) (hts (.instanceMethod yX8_init) (by decide +kernel)) rfl rfl (Nat.le_of_ble_eq_true rfl) ⟨Nat.le_of_ble_eq_true rfl, Nat.le_of_ble_eq_true rfl⟩ dL_law_4 rfl (fun v w1 H locs hpost hP hD hS => ?_)
  obtain ⟨a, r, q, b2, hx0_4, rfl, rfl⟩ := hpost
  have hP := zr0' hP
  have hD := zr0D' hD
  have hP : va_P D vwCl (x8W q_0 a r q ++ (svW ct r b2 0 0 (fun _ => zM0) ++ (sobjW a ++ (gridW ct a zM0 ++ (benchW ct a zM0 ++ (logW ct a zM0 ++ (txtW ct q (fun _ => 0) 0 0 0 .null 0 0))))))) H := hP
  have hD : va_D (fun q : Nat => s.heap.size ≤ q) (x8W q_0 a r q ++ (svW ct r b2 0 0 (fun _ => zM0) ++ (sobjW a ++ (gridW ct a zM0 ++ (benchW ct a zM0 ++ (logW ct a zM0 ++ (txtW ct q (fun _ => 0) 0 0 0 .null 0 0))))))) := hD
  refine W.eq (g2 := F0 m 7 ls [.ref q_0]) rfl ?_
  refine lv_astore_n (lv' := [(1, .ref q_0), (0, .ref b)]) hx hb dL_law_7 rfl hl (by decide) rfl (fun ls hl => ?_)
  refine va_new (D := D) (ci := 7) (fs := [.null, .null, .null, .int (zI 0), .null, .int (zI 0), .int (zI 0), .int (zI 0), .int (zI 0), .null, .long (zJ 0)]) (C := RX9) (T := TX9) (N := 11) hx hb hts hin_X9 tyX9 tyX9_ok hown hf_3 hf_4 hf_5 hK hP hD hS hA rfl (fun j hj => by rcases (show j = 0 ∨ j = 1 ∨ j = 2 ∨ j = 3 ∨ j = 4 ∨ j = 5 ∨ j = 6 ∨ j = 7 ∨ j = 8 ∨ j = 9 ∨ j = 10 by omega) with rfl | rfl | rfl | rfl | rfl | rfl | rfl | rfl | rfl | rfl | rfl <;> rfl) (Nat.le_of_ble_eq_true rfl) (Nat.le_of_ble_eq_true rfl) dL_law_8 (fun q_8 H hP hD hS => ?_)
  have hP : va_P D vwCl (x8W q_0 a r q ++ (svW ct r b2 0 0 (fun _ => zM0) ++ (sobjW a ++ (gridW ct a zM0 ++ (benchW ct a zM0 ++ (logW ct a zM0 ++ (txtW ct q (fun _ => 0) 0 0 0 .null 0 0 ++ (f9W q_8)))))))) H := hP
  have hD : va_D (fun q : Nat => s.heap.size ≤ q) (x8W q_0 a r q ++ (svW ct r b2 0 0 (fun _ => zM0) ++ (sobjW a ++ (gridW ct a zM0 ++ (benchW ct a zM0 ++ (logW ct a zM0 ++ (txtW ct q (fun _ => 0) 0 0 0 .null 0 0 ++ (f9W q_8)))))))) := hD
  refine W.eq (g2 := F0 m 11 ls [.ref q_8]) rfl ?_
  refine lv_dup hx hb dL_law_11 rfl ?_
  refine z_callI (ret := none) (b := q_8) (As := []) (rest := [.ref q_8]) (x8W q_0 a r q ++ (svW ct r b2 0 0 (fun _ => zM0) ++ (sobjW a ++ (gridW ct a zM0 ++ (benchW ct a zM0 ++ (logW ct a zM0 ++ (txtW ct q (fun _ => 0) 0 0 0 .null 0 0))))))) ([] : va_W) hx hb hml hown (fun w h => hts w (in_X9_init w h)) hl hE hS hA (zr0 (x8W q_0 a r q ++ (svW ct r b2 0 0 (fun _ => zM0) ++ (sobjW a ++ (gridW ct a zM0 ++ (benchW ct a zM0 ++ (logW ct a zM0 ++ (txtW ct q (fun _ => 0) 0 0 0 .null 0 0))))))) hP) (zr0D (x8W q_0 a r q ++ (svW ct r b2 0 0 (fun _ => zM0) ++ (sobjW a ++ (gridW ct a zM0 ++ (benchW ct a zM0 ++ (logW ct a zM0 ++ (txtW ct q (fun _ => 0) 0 0 0 .null 0 0))))))) hD) (c_X9_init l D ct ad q_8) gdL_X9_init rfl k_X9_init ⟨Nat.le_of_ble_eq_true rfl, Nat.le_of_ble_eq_true rfl⟩ (hts (.initialized RX9) (by decide +kernel)) (hts (.methodLink RL 87 yX9_init) (by decide +kernel)) (hts (.instanceMethod yX9_init) (by decide +kernel)) rfl rfl (Nat.le_of_ble_eq_true rfl) ⟨Nat.le_of_ble_eq_true rfl, Nat.le_of_ble_eq_true rfl⟩ dL_law_12 rfl (fun v w1 H locs hpost hP hD hS => ?_)
  obtain ⟨mb, hx0_12, rfl, rfl⟩ := hpost
  have hP := zr0' hP
  have hD := zr0D' hD
  have hP : va_P D vwCl (x8W q_0 a r q ++ (svW ct r b2 0 0 (fun _ => zM0) ++ (sobjW a ++ (gridW ct a zM0 ++ (benchW ct a zM0 ++ (logW ct a zM0 ++ (txtW ct q (fun _ => 0) 0 0 0 .null 0 0 ++ (moW mb 0 0 0 0 0 0 ++ (jrW ct (mb 1) 94 zM0 ++ (jrW ct (mb 2) 94 (fun _ => 0) ++ (jrW ct (mb 3) 376 (fun _ => 0) ++ (irW ct (mb 4) 150 (fun _ => 0) ++ (irW ct (mb 5) 2 (fun _ => 0)))))))))))))) H := hP
  have hD : va_D (fun q : Nat => s.heap.size ≤ q) (x8W q_0 a r q ++ (svW ct r b2 0 0 (fun _ => zM0) ++ (sobjW a ++ (gridW ct a zM0 ++ (benchW ct a zM0 ++ (logW ct a zM0 ++ (txtW ct q (fun _ => 0) 0 0 0 .null 0 0 ++ (moW mb 0 0 0 0 0 0 ++ (jrW ct (mb 1) 94 zM0 ++ (jrW ct (mb 2) 94 (fun _ => 0) ++ (jrW ct (mb 3) 376 (fun _ => 0) ++ (irW ct (mb 4) 150 (fun _ => 0) ++ (irW ct (mb 5) 2 (fun _ => 0)))))))))))))) := hD
  refine W.eq (g2 := F0 m 15 ls [.ref q_8]) rfl ?_
  have hP9_12 := hP
  have hD9_12 := hD
  have hl9_12 := hl
  have hS9_12 := hS
  subst hx0_12
  have hP : va_P D vwCl (x8W q_0 a r q ++ (svW ct r b2 0 0 (fun _ => zM0) ++ (sobjW a ++ (gridW ct a zM0 ++ (benchW ct a zM0 ++ (logW ct a zM0 ++ (txtW ct q (fun _ => 0) 0 0 0 .null 0 0 ++ (moW mb 0 0 0 0 0 0 ++ (jrW ct (mb 1) 94 zM0 ++ (jrW ct (mb 2) 94 (fun _ => 0) ++ (jrW ct (mb 3) 376 (fun _ => 0) ++ (irW ct (mb 4) 150 (fun _ => 0) ++ (irW ct (mb 5) 2 (fun _ => 0)))))))))))))) H := hP9_12
  have hD : va_D (fun q : Nat => s.heap.size ≤ q) (x8W q_0 a r q ++ (svW ct r b2 0 0 (fun _ => zM0) ++ (sobjW a ++ (gridW ct a zM0 ++ (benchW ct a zM0 ++ (logW ct a zM0 ++ (txtW ct q (fun _ => 0) 0 0 0 .null 0 0 ++ (moW mb 0 0 0 0 0 0 ++ (jrW ct (mb 1) 94 zM0 ++ (jrW ct (mb 2) 94 (fun _ => 0) ++ (jrW ct (mb 3) 376 (fun _ => 0) ++ (irW ct (mb 4) 150 (fun _ => 0) ++ (irW ct (mb 5) 2 (fun _ => 0)))))))))))))) := hD9_12
  have hl : lv_has ls 9 [(1, .ref q_0), (0, .ref b)] := hl9_12
  have hS := hS9_12
  refine W.eq (g2 := F0 m 15 ls [.ref (mb 0)]) rfl ?_
  refine lv_astore_n (lv' := [(2, .ref (mb 0)), (1, .ref q_0), (0, .ref b)]) hx hb dL_law_15 rfl hl (by decide) rfl (fun ls hl => ?_)
  refine z_iconst hx hb dL_law_16 ?_
  refine z_newJ (N' := 1) hx hb hf_6 hK hP hD hS hA rfl (by decide) (Nat.le_of_ble_eq_true rfl) (Nat.le_of_ble_eq_true rfl) dL_law_17 (fun q_17 H hP hD hS => ?_)
  have hP : va_P D vwCl (x8W q_0 a r q ++ (svW ct r b2 0 0 (fun _ => zM0) ++ (sobjW a ++ (gridW ct a zM0 ++ (benchW ct a zM0 ++ (logW ct a zM0 ++ (txtW ct q (fun _ => 0) 0 0 0 .null 0 0 ++ (moW mb 0 0 0 0 0 0 ++ (jrW ct (mb 1) 94 zM0 ++ (jrW ct (mb 2) 94 (fun _ => 0) ++ (jrW ct (mb 3) 376 (fun _ => 0) ++ (irW ct (mb 4) 150 (fun _ => 0) ++ (irW ct (mb 5) 2 (fun _ => 0) ++ (jrW ct q_17 1 (fun _ => 0))))))))))))))) H := hP
  have hD : va_D (fun q : Nat => s.heap.size ≤ q) (x8W q_0 a r q ++ (svW ct r b2 0 0 (fun _ => zM0) ++ (sobjW a ++ (gridW ct a zM0 ++ (benchW ct a zM0 ++ (logW ct a zM0 ++ (txtW ct q (fun _ => 0) 0 0 0 .null 0 0 ++ (moW mb 0 0 0 0 0 0 ++ (jrW ct (mb 1) 94 zM0 ++ (jrW ct (mb 2) 94 (fun _ => 0) ++ (jrW ct (mb 3) 376 (fun _ => 0) ++ (irW ct (mb 4) 150 (fun _ => 0) ++ (irW ct (mb 5) 2 (fun _ => 0) ++ (jrW ct q_17 1 (fun _ => 0))))))))))))))) := hD
  refine lv_astore_n (lv' := [(3, .ref q_17), (2, .ref (mb 0)), (1, .ref q_0), (0, .ref b)]) hx hb dL_law_19 rfl hl (by decide) rfl (fun ls hl => ?_)
  refine z_iconst hx hb dL_law_20 ?_
  refine lv_istore (lv' := [(4, .int (zI 0)), (3, .ref q_17), (2, .ref (mb 0)), (1, .ref q_0), (0, .ref b)]) hx hb dL_law_21 hl (by decide) rfl (fun ls hl => ?_)
  have hP := hP.sub (ws' := x8W q_0 a r q ++ (svW ct r b2 0 0 (fun _ => zM0) ++ (sobjW a ++ (gridW ct a zM0 ++ (benchW ct a zM0 ++ (logW ct a zM0 ++ (txtW ct q (fun _ => 0) 0 0 0 .null 0 0 ++ (jrW ct q_17 1 (fun _ => 0) ++ (moW mb 0 0 0 0 0 0 ++ (jrW ct (mb 1) 94 zM0 ++ (jrW ct (mb 2) 94 (fun _ => 0) ++ (jrW ct (mb 3) 376 (fun _ => 0) ++ (irW ct (mb 4) 150 (fun _ => 0) ++ (irW ct (mb 5) 2 (fun _ => 0))))))))))))))) [0, 1, 2, 3, 4, 5, 6, 7, 8, 9, 10, 11, 12, 13, 14, 15, 16, 17, 18, 19, 20, 21, 22, 23, 24, 25, 26, 27, 28, 29, 30, 31, 32, 33, 34, 35, 36, 37, 38, 39, 40, 41, 42, 43, 44, 45, 46, 47, 48, 49, 50, 51, 52, 53, 54, 55, 56, 57, 58, 59, 66, 60, 61, 62, 63, 64, 65] rfl
  have hD := hD.sub (ws' := x8W q_0 a r q ++ (svW ct r b2 0 0 (fun _ => zM0) ++ (sobjW a ++ (gridW ct a zM0 ++ (benchW ct a zM0 ++ (logW ct a zM0 ++ (txtW ct q (fun _ => 0) 0 0 0 .null 0 0 ++ (jrW ct q_17 1 (fun _ => 0) ++ (moW mb 0 0 0 0 0 0 ++ (jrW ct (mb 1) 94 zM0 ++ (jrW ct (mb 2) 94 (fun _ => 0) ++ (jrW ct (mb 3) 376 (fun _ => 0) ++ (irW ct (mb 4) 150 (fun _ => 0) ++ (irW ct (mb 5) 2 (fun _ => 0))))))))))))))) [0, 1, 2, 3, 4, 5, 6, 7, 8, 9, 10, 11, 12, 13, 14, 15, 16, 17, 18, 19, 20, 21, 22, 23, 24, 25, 26, 27, 28, 29, 30, 31, 32, 33, 34, 35, 36, 37, 38, 39, 40, 41, 42, 43, 44, 45, 46, 47, 48, 49, 50, 51, 52, 53, 54, 55, 56, 57, 58, 59, 66, 60, 61, 62, 63, 64, 65] (by decide) rfl
  exact law_loop p l e s m below meth c D ct ad b L xs q_0 a r q b2 q_17 mb hC L 0 _ _ (by omega) (by omega) (show 67 + L + 1 ≤ 601024 ∧ 1415 + 6 * L + 6 ≤ 7293034 by omega) H _ ls ⟨0, 0, (fun _ => zM0), zM0, (fun _ => 0), 0, 0, 0, 0, 0, .null, (fun _ => 0), (fun _ => 0), (fun _ => 0), (fun _ => 0), 0, 0, 0, 0, lwR_0, hP, hD, hS, lv_sub hl [4, 3, 2, 1, 0] rfl⟩
