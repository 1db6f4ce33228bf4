theorem k_X8_init : yX8_init.cls ≠ "java/lang/invoke/MethodHandle" ∧ yX8_init.cls ≠ "java/lang/invoke/VarHandle" ∧ (parseMethodDescriptor yX8_init.desc).map (fun d => d.parameters.length) = some 0 := by decide +kernel
theorem k_X8_runCommands : yX8_runCommands.cls ≠ "java/lang/invoke/MethodHandle" ∧ yX8_runCommands.cls ≠ "java/lang/invoke/VarHandle" ∧ (parseMethodDescriptor yX8_runCommands.desc).map (fun d => d.parameters.length) = some 0 := by decide +kernel
set_option maxHeartbeats 4000000 in
set_option maxRecDepth 100000 in
theorem whole_start {p : Program} {e : Env} {s : State} {m : MethodId} {below : List Frame} {meth : Method} {c : Code} (l : Launch) (hflags : l.flags = flags0) {b L : Nat} {xs : Nat → Int32} (hL : L ≤ 260) (C0 : lw_At p s m meth c b L xs) : W p l e room_1 s m #[Value.ref b] below meth c s.heap [] 0 0 (lw_Z below #[Value.ref b] s) (entryFrame m ([Value.ref b] : List Value).toArray 13) := by
  obtain ⟨hx, hb, hr, hml, hown, hts, hX, hbl, hlocks, hgv⟩ := id C0
  have hst : l.stackTraces = false := by unfold Launch.stackTraces; rw [hflags]; decide +kernel
  obtain ⟨D, ct, ad, hE, hO, q67⟩ := z_env hX hbl hL hts hgv
  subst q67
  have hC : lwC p l s m meth c D ct ad (ad 67) := ⟨hx, hb, hr, hml, hown, hts, hlocks, hE, hst⟩
  have hK := hE.1
  have hA : ∀ q : Nat, s.heap.size ≤ q → (fun q : Nat => s.heap.size ≤ q) q := fun _ h => h
  have hS : va_S (fun q : Nat => s.heap.size ≤ q) s.heap s.heap [] := va_S.rf
  have hP : va_P D vwCl [] s.heap := fun k q h => by simp at h
  have hD : va_D (fun q : Nat => s.heap.size ≤ q) [] := ⟨fun i j p q h => by simp at h, fun k q h => by simp at h⟩
  have ht0 : tInv (fun _ => 0) 0 := ⟨by omega, fun k h1 h2 => by omega⟩
  have hl := lv_entry ([.ref (ad 67)]) (n := 13) (Nat.le_of_ble_eq_true rfl)
  rw [lg_entry_eq]
  generalize (lg_sl ([.ref (ad 67)]) ++ List.replicate (13 - (lg_sl ([.ref (ad 67)])).length) Slot.unset).toArray = ls at hl ⊢
  have hl : lv_has ls 13 [(0, .ref (ad 67))] := hl
  have hf_0 : (Cond.classLink RL 10 RX8).before #[Value.ref (ad 67)] s = true := hts _ (zin [24] (by decide +kernel) _ (List.mem_singleton.mpr rfl))
  have hf_1 : (Cond.instantiable RX8 3).before #[Value.ref (ad 67)] s = true := hts _ (zin [25] (by decide +kernel) _ (List.mem_singleton.mpr rfl))
  have hf_2 : (Cond.initialized RX8).before #[Value.ref (ad 67)] s = true := hts _ (zin [4] (by decide +kernel) _ (List.mem_singleton.mpr rfl))
  have hf_3 : (Cond.constant RL 20 (-2100000002)).before #[Value.ref (ad 67)] s = true := hts _ (zin [657] (by decide +kernel) _ (List.mem_singleton.mpr rfl))
  have hin_X8 := in_uX8
  refine va_new (D := D) (ci := 6) (fs := [.null, .null, .null]) (C := RX8) (T := TX8) (N := 3) hx hb hts hin_X8 tyX8 tyX8_ok hown hf_0 hf_1 hf_2 hK hP hD hS hA rfl (fun j hj => by rcases (show j = 0 ∨ j = 1 ∨ j = 2 by omega) with rfl | rfl | rfl <;> rfl) (Nat.le_of_ble_eq_true rfl) (Nat.le_of_ble_eq_true rfl) dL_law_0 (fun q_0 H hP hD hS => ?_)
  have hP : va_P D vwCl (f8W q_0) H := hP
  have hD : va_D (fun q : Nat => s.heap.size ≤ q) (f8W q_0) := hD
  refine W.eq (g2 := F0 m 3 ls [.ref q_0]) rfl ?_
  refine lv_dup hx hb dL_law_3 rfl ?_
  refine z_callIx (ret := none) (b := q_0) (As := []) (rest := [.ref q_0]) ([] : va_W) ([] : va_W) hO hx hb hml hown (fun w h => hts w (in_X8_init w h)) hl hE hS hA (zr0 ([] : va_W) hP) (zr0D ([] : va_W) hD) (c_X8_init l D ct ad q_0) gdL_X8_init rfl k_X8_init ⟨Nat.le_of_ble_eq_true rfl, Nat.le_of_ble_eq_true rfl⟩ (hts (.initialized RX8) (zin [4] (by decide +kernel) _ (List.mem_singleton.mpr rfl))) (hts (.methodLink RL 192 yX8_init) (zin [26] (by decide +kernel) _ (List.mem_singleton.mpr rfl))) (hts (.instanceMethod yX8_init) (zin [27] (by decide +kernel) _ (List.mem_singleton.mpr rfl))) rfl rfl (Nat.le_of_ble_eq_true rfl) ⟨Nat.le_of_ble_eq_true rfl, Nat.le_of_ble_eq_true rfl⟩ dL_law_4 rfl (fun v w1 H locs hpost hP hD hS => ?_)
  obtain ⟨a, r, q, b2, hx0_4, rfl, rfl⟩ := hpost
  have hP := zr0' hP
  have hD := zr0D' hD
  have hP : va_P D vwCl (x8W q_0 a r q ++ (svW ct r b2 0 0 (fun _ => zM0) ++ (sobjW a ++ (gridW ct a zM0 ++ (benchW ct a zM0 ++ (logW ct a zM0 ++ (txtW ct q (fun _ => 0) 0 0 0 .null 0 0))))))) H := hP
  have hD : va_D (fun q : Nat => s.heap.size ≤ q) (x8W q_0 a r q ++ (svW ct r b2 0 0 (fun _ => zM0) ++ (sobjW a ++ (gridW ct a zM0 ++ (benchW ct a zM0 ++ (logW ct a zM0 ++ (txtW ct q (fun _ => 0) 0 0 0 .null 0 0))))))) := hD
  refine W.eq (g2 := F0 m 7 ls [.ref q_0]) rfl ?_
  refine lv_astore_n (lv' := [(1, .ref q_0), (0, .ref (ad 67))]) hx hb dL_law_7 rfl hl (by decide) rfl (fun ls hl => ?_)
  obtain ⟨nx0, hnx0⟩ : ∃ z : Int, z = 0 := ⟨_, rfl⟩
  obtain ⟨sz0, hsz0⟩ : ∃ z : Int, z = 0 := ⟨_, rfl⟩
  have hP : va_P D vwCl (x8W q_0 a r q ++ (svW ct r b2 nx0 sz0 (fun _ => zM0) ++ (sobjW a ++ (gridW ct a zM0 ++ (benchW ct a zM0 ++ (logW ct a zM0 ++ (txtW ct q (fun _ => 0) 0 0 0 .null 0 0))))))) H := by rw [hnx0, hsz0]; exact hP
  have hD : va_D (fun q : Nat => s.heap.size ≤ q) (x8W q_0 a r q ++ (svW ct r b2 nx0 sz0 (fun _ => zM0) ++ (sobjW a ++ (gridW ct a zM0 ++ (benchW ct a zM0 ++ (logW ct a zM0 ++ (txtW ct q (fun _ => 0) 0 0 0 .null 0 0))))))) := by rw [hnx0, hsz0]; exact hD
  refine lv_aload_n hx hb dL_law_8 rfl (lv_at hl 0 rfl) ?_
  refine z_callS (As := [.ref q_0]) (rest := []) ([] : va_W) ([] : va_W) hx hb hml hown (fun w h => hts w (inL_193 w h)) hl hE hS hA (zr0 ([] : va_W) hP) (zr0D ([] : va_W) hD) (c_L_refuses l D ct ad q_0 a r q b2 nx0 sz0 (fun _ => zM0) zM0 (fun _ => 0) 0 0 0 0 0 .null sInv_0 ht0 (by omega) (by omega) hst) gdL_193 rfl k_L_refuses ⟨Nat.le_of_ble_eq_true rfl, Nat.le_of_ble_eq_true rfl⟩ rfl (Nat.le_of_ble_eq_true rfl) ⟨Nat.le_of_ble_eq_true rfl, Nat.le_of_ble_eq_true rfl⟩ dL_law_9 rfl (fun v w1 H locs hpost hP hD hS => ?_)
  obtain ⟨rfl, rfl⟩ := hpost
  have hP := zr0' hP
  have hD := zr0D' hD
  have hP : va_P D vwCl (x8W q_0 a r q ++ (svW ct r b2 nx0 sz0 (fun _ => zM0) ++ (sobjW a ++ (gridW ct a zM0 ++ (benchW ct a zM0 ++ (logW ct a zM0 ++ (txtW ct q (fun _ => 0) 0 0 0 .null 0 0))))))) H := hP
  have hD : va_D (fun q : Nat => s.heap.size ≤ q) (x8W q_0 a r q ++ (svW ct r b2 nx0 sz0 (fun _ => zM0) ++ (sobjW a ++ (gridW ct a zM0 ++ (benchW ct a zM0 ++ (logW ct a zM0 ++ (txtW ct q (fun _ => 0) 0 0 0 .null 0 0))))))) := hD
  refine W.eq (g2 := F0 m 12 ls [.int (zI 1)]) rfl ?_
  refine z_if_eq (tgt := 45) hx hb dL_law_12 (by decide) (by omega) (fun hc_12 => ?_) (fun hc_12 => ?_)
  · have hc_12 := hc_12
    omega
  have hc_12 := hc_12
  refine lv_aload_n hx hb dL_law_15 rfl (lv_at hl 0 rfl) ?_
  refine z_callSW (As := [.ref q_0]) (rest := []) ([] : va_W) ([] : va_W) hx hb hml hown (fun w h => hts w (inL_164 w h)) hl hE hS hA (zr0 ([] : va_W) hP) (zr0D ([] : va_W) hD) (c_L_undo_no l D ct ad q_0 a r q b2 nx0 sz0 (fun _ => zM0) zM0 (fun _ => 0) 0 0 0 0 0 .null sInv_0 hst hsz0) gdL_164 rfl k_L_undo ⟨Nat.le_of_ble_eq_true rfl, Nat.le_of_ble_eq_true rfl⟩ rfl (Nat.le_of_ble_eq_true rfl) ⟨Nat.le_of_ble_eq_true rfl, Nat.le_of_ble_eq_true rfl⟩ dL_law_16 rfl (fun v w1 H locs hpost hP hD hS => ?_)
  obtain ⟨rfl, rfl⟩ := hpost
  have hP := zr0' hP
  have hD := zr0D' hD
  have hP : va_P D vwCl (x8W q_0 a r q ++ (svW ct r b2 nx0 sz0 (fun _ => zM0) ++ (sobjW a ++ (gridW ct a zM0 ++ (benchW ct a zM0 ++ (logW ct a zM0 ++ (txtW ct q (fun _ => 0) 0 0 0 .null 0 0))))))) H := hP
  have hD : va_D (fun q : Nat => s.heap.size ≤ q) (x8W q_0 a r q ++ (svW ct r b2 nx0 sz0 (fun _ => zM0) ++ (sobjW a ++ (gridW ct a zM0 ++ (benchW ct a zM0 ++ (logW ct a zM0 ++ (txtW ct q (fun _ => 0) 0 0 0 .null 0 0))))))) := hD
  refine W.eq (g2 := F0 m 19 ls [.int (zI (-2100000002))]) rfl ?_
  refine z_ldc hx hb (-2100000002) hown hf_3 (by decide) dL_law_19 ?_
  refine z_icmp_ne (tgt := 45) hx hb dL_law_21 (by decide) (by omega) (by omega) (fun hc_21 => ?_) (fun hc_21 => ?_)
  · have hc_21 := hc_21
    omega
  have hc_21 := hc_21
  refine lv_aload_n hx hb dL_law_24 rfl (lv_at hl 0 rfl) ?_
  refine z_callS (As := [.ref q_0]) (rest := []) ([] : va_W) ([] : va_W) hx hb hml hown (fun w h => hts w (inL_197 w h)) hl hE hS hA (zr0 ([] : va_W) hP) (zr0D ([] : va_W) hD) (c_L_sound l D ct ad q_0 a r q b2 nx0 sz0 (fun _ => zM0) zM0 (fun _ => 0) 0 0 0 0 0 .null LInv_0 ht0) gdL_197 rfl k_L_sound ⟨Nat.le_of_ble_eq_true rfl, Nat.le_of_ble_eq_true rfl⟩ rfl (Nat.le_of_ble_eq_true rfl) ⟨Nat.le_of_ble_eq_true rfl, Nat.le_of_ble_eq_true rfl⟩ dL_law_25 rfl (fun v w1 H locs hpost hP hD hS => ?_)
  obtain ⟨rfl, rfl⟩ := hpost
  have hP := zr0' hP
  have hD := zr0D' hD
  have hP : va_P D vwCl (x8W q_0 a r q ++ (svW ct r b2 nx0 sz0 (fun _ => zM0) ++ (sobjW a ++ (gridW ct a zM0 ++ (benchW ct a zM0 ++ (logW ct a zM0 ++ (txtW ct q (fun _ => 0) 0 0 0 .null 0 0))))))) H := hP
  have hD : va_D (fun q : Nat => s.heap.size ≤ q) (x8W q_0 a r q ++ (svW ct r b2 nx0 sz0 (fun _ => zM0) ++ (sobjW a ++ (gridW ct a zM0 ++ (benchW ct a zM0 ++ (logW ct a zM0 ++ (txtW ct q (fun _ => 0) 0 0 0 .null 0 0))))))) := hD
  refine W.eq (g2 := F0 m 28 ls [.int (zI 1)]) rfl ?_
  refine z_if_eq (tgt := 45) hx hb dL_law_28 (by decide) (by omega) (fun hc_28 => ?_) (fun hc_28 => ?_)
  · have hc_28 := hc_28
    omega
  have hc_28 := hc_28
  refine lv_aload_n hx hb dL_law_31 rfl (lv_at hl 0 rfl) ?_
  refine z_callV (C := RX8) (q0 := 0) (ci := 6) (As := []) (rest := []) ([] : va_W) ([] : va_W) hx hb hml hown (fun w h => hts w (inL_200 w h)) hl hE hS hA (zr0 ([] : va_W) hP) (zr0D ([] : va_W) hD) (c_X8_runCommands_ok l D ct ad q_0 a r q b2 nx0 sz0 (fun _ => zM0) zM0 (fun _ => 0) 0 0 0 0 0 .null sInv_0 ht0 (by omega) (by omega) tf_0) gdL_200 rfl rfl k_X8_runCommands ⟨Nat.le_of_ble_eq_true rfl, Nat.le_of_ble_eq_true rfl⟩ rfl rfl rfl rfl (Nat.le_of_ble_eq_true rfl) ⟨Nat.le_of_ble_eq_true rfl, Nat.le_of_ble_eq_true rfl⟩ dL_law_32 rfl (fun v w1 H locs hpost hP hD hS => ?_)
  obtain ⟨pl2_32, wd2_32, m1_32, m2_32, hx0_32, rfl, rfl⟩ := hpost
  have hP := zr0' hP
  have hD := zr0D' hD
  have hP : va_P D vwCl (x8W q_0 a r q ++ (svW ct r b2 ((nx0 + 1) % 4) (min (sz0 + 1) 4) (updS (fun _ => zM0) nx0 zM0) ++ (sobjW a ++ (gridW ct a ((run (fun _ => 0) 0 zM0 0 0).1) ++ (benchW ct a ((run (fun _ => 0) 0 zM0 0 0).1) ++ (logW ct a ((run (fun _ => 0) 0 zM0 0 0).1) ++ (txtW ct q (fun _ => 0) 0 pl2_32 (-1) wd2_32 m1_32 m2_32))))))) H := hP
  have hD : va_D (fun q : Nat => s.heap.size ≤ q) (x8W q_0 a r q ++ (svW ct r b2 ((nx0 + 1) % 4) (min (sz0 + 1) 4) (updS (fun _ => zM0) nx0 zM0) ++ (sobjW a ++ (gridW ct a ((run (fun _ => 0) 0 zM0 0 0).1) ++ (benchW ct a ((run (fun _ => 0) 0 zM0 0 0).1) ++ (logW ct a ((run (fun _ => 0) 0 zM0 0 0).1) ++ (txtW ct q (fun _ => 0) 0 pl2_32 (-1) wd2_32 m1_32 m2_32))))))) := hD
  refine W.eq (g2 := F0 m 35 ls [.int (zI ((run (fun _ => 0) 0 zM0 0 0).2))]) rfl ?_
  refine z_canI (show (run (fun _ => 0) 0 zM0 0 0).2 = 0 from (by rw [run_0])) ?_
  have eW9 : (run (fun _ => 0) 0 zM0 0 0).1 = zM0 := (by rw [run_0])
  rw [eW9] at hP hD
  have hP : va_P D vwCl (x8W q_0 a r q ++ (svW ct r b2 ((nx0 + 1) % 4) (min (sz0 + 1) 4) (updS (fun _ => zM0) nx0 zM0) ++ (sobjW a ++ (gridW ct a zM0 ++ (benchW ct a zM0 ++ (logW ct a zM0 ++ (txtW ct q (fun _ => 0) 0 pl2_32 (-1) wd2_32 m1_32 m2_32))))))) H := hP
  have hD : va_D (fun q : Nat => s.heap.size ≤ q) (x8W q_0 a r q ++ (svW ct r b2 ((nx0 + 1) % 4) (min (sz0 + 1) 4) (updS (fun _ => zM0) nx0 zM0) ++ (sobjW a ++ (gridW ct a zM0 ++ (benchW ct a zM0 ++ (logW ct a zM0 ++ (txtW ct q (fun _ => 0) 0 pl2_32 (-1) wd2_32 m1_32 m2_32))))))) := hD
  refine z_if_ne (tgt := 45) hx hb dL_law_35 (by decide) (by omega) (fun hc_35 => ?_) (fun hc_35 => ?_)
  · have hc_35 := hc_35
    omega
  have hc_35 := hc_35
  refine lv_aload_n hx hb dL_law_38 rfl (lv_at hl 0 rfl) ?_
  refine z_callSW (As := [.ref q_0]) (rest := []) ([] : va_W) ([] : va_W) hx hb hml hown (fun w h => hts w (inL_164 w h)) hl hE hS hA (zr0 ([] : va_W) hP) (zr0D ([] : va_W) hD) (c_L_undo_ok l D ct ad q_0 a r q b2 ((nx0 + 1) % 4) (min (sz0 + 1) 4) (updS (fun _ => zM0) nx0 zM0) zM0 (fun _ => 0) 0 pl2_32 (-1) m1_32 m2_32 wd2_32 sInv_0 (by omega) (by omega)) gdL_164 rfl k_L_undo ⟨Nat.le_of_ble_eq_true rfl, Nat.le_of_ble_eq_true rfl⟩ rfl (Nat.le_of_ble_eq_true rfl) ⟨Nat.le_of_ble_eq_true rfl, Nat.le_of_ble_eq_true rfl⟩ dL_law_39 rfl (fun v w1 H locs hpost hP hD hS => ?_)
  obtain ⟨rfl, rfl⟩ := hpost
  have hP := zr0' hP
  have hD := zr0D' hD
  have hP : va_P D vwCl (x8W q_0 a r q ++ (svW ct r b2 ((((nx0 + 1) % 4) + 3) % 4) ((min (sz0 + 1) 4) - 1) (updS (fun _ => zM0) nx0 zM0) ++ (sobjW a ++ (gridW ct a ((updS (fun _ => zM0) nx0 zM0) ((((nx0 + 1) % 4) + 3) % 4).toNat) ++ (benchW ct a ((updS (fun _ => zM0) nx0 zM0) ((((nx0 + 1) % 4) + 3) % 4).toNat) ++ (logW ct a ((updS (fun _ => zM0) nx0 zM0) ((((nx0 + 1) % 4) + 3) % 4).toNat) ++ (txtW ct q (fun _ => 0) 0 pl2_32 (-1) wd2_32 m1_32 m2_32))))))) H := hP
  have hD : va_D (fun q : Nat => s.heap.size ≤ q) (x8W q_0 a r q ++ (svW ct r b2 ((((nx0 + 1) % 4) + 3) % 4) ((min (sz0 + 1) 4) - 1) (updS (fun _ => zM0) nx0 zM0) ++ (sobjW a ++ (gridW ct a ((updS (fun _ => zM0) nx0 zM0) ((((nx0 + 1) % 4) + 3) % 4).toNat) ++ (benchW ct a ((updS (fun _ => zM0) nx0 zM0) ((((nx0 + 1) % 4) + 3) % 4).toNat) ++ (logW ct a ((updS (fun _ => zM0) nx0 zM0) ((((nx0 + 1) % 4) + 3) % 4).toNat) ++ (txtW ct q (fun _ => 0) 0 pl2_32 (-1) wd2_32 m1_32 m2_32))))))) := hD
  refine W.eq (g2 := F0 m 42 ls [.int (zI ((min (sz0 + 1) 4) - 1))]) rfl ?_
  refine z_canI (show (min (sz0 + 1) 4) - 1 = 0 from (by omega)) ?_
  have eW9 : ((updS (fun _ => zM0) nx0 zM0) ((((nx0 + 1) % 4) + 3) % 4).toNat) = zM0 := (updS_back (nx := nx0) (by omega))
  rw [eW9] at hP hD
  have hP : va_P D vwCl (x8W q_0 a r q ++ (svW ct r b2 ((((nx0 + 1) % 4) + 3) % 4) ((min (sz0 + 1) 4) - 1) (updS (fun _ => zM0) nx0 zM0) ++ (sobjW a ++ (gridW ct a zM0 ++ (benchW ct a zM0 ++ (logW ct a zM0 ++ (txtW ct q (fun _ => 0) 0 pl2_32 (-1) wd2_32 m1_32 m2_32))))))) H := hP
  have hD : va_D (fun q : Nat => s.heap.size ≤ q) (x8W q_0 a r q ++ (svW ct r b2 ((((nx0 + 1) % 4) + 3) % 4) ((min (sz0 + 1) 4) - 1) (updS (fun _ => zM0) nx0 zM0) ++ (sobjW a ++ (gridW ct a zM0 ++ (benchW ct a zM0 ++ (logW ct a zM0 ++ (txtW ct q (fun _ => 0) 0 pl2_32 (-1) wd2_32 m1_32 m2_32))))))) := hD
  refine z_if_eq (tgt := 47) hx hb dL_law_42 (by decide) (by omega) (fun hc_42 => ?_) (fun hc_42 => ?_)
  · have hc_42 := hc_42
    refine z_iconst hx hb dL_law_47 ?_
    refine lv_istore_n (lv' := [(2, .int (zI 0)), (1, .ref q_0), (0, .ref (ad 67))]) hx hb dL_law_48 rfl hl (by decide) rfl (fun ls hl => ?_)
    exact law_loop l D ct ad q_0 a r q b2 (fun _ => 0) 0 pl2_32 (-1) m1_32 m2_32 wd2_32 ht0 46 0 _ _ ((((nx0 + 1) % 4) + 3) % 4) ((min (sz0 + 1) 4) - 1) (updS (fun _ => zM0) nx0 zM0) zM0 (by decide) (by decide) LInv_0 (by omega) (by omega) (by decide) (show 91 + 46 + 41 ≤ 604022 ∧ 873 + 6 * 46 + 250 ≤ 7289401 by omega) p e s m below meth c (ad 67) H _ ls hC hP hD hS (lv_sub hl [2, 1, 0] rfl)
  · have hc_42 := hc_42
    omega
