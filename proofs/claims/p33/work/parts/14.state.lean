theorem k_X1_copyFrom : yX1_copyFrom.cls ≠ "java/lang/invoke/MethodHandle" ∧ yX1_copyFrom.cls ≠ "java/lang/invoke/VarHandle" ∧ (parseMethodDescriptor yX1_copyFrom.desc).map (fun d => d.parameters.length) = some 1 := by decide +kernel
theorem k_X3_copyFrom : yX3_copyFrom.cls ≠ "java/lang/invoke/MethodHandle" ∧ yX3_copyFrom.cls ≠ "java/lang/invoke/VarHandle" ∧ (parseMethodDescriptor yX3_copyFrom.desc).map (fun d => d.parameters.length) = some 1 := by decide +kernel
theorem k_X4_copyFrom : yX4_copyFrom.cls ≠ "java/lang/invoke/MethodHandle" ∧ yX4_copyFrom.cls ≠ "java/lang/invoke/VarHandle" ∧ (parseMethodDescriptor yX4_copyFrom.desc).map (fun d => d.parameters.length) = some 1 := by decide +kernel
set_option maxHeartbeats 4000000 in
set_option maxRecDepth 100000 in
theorem c_X6_copyFrom (l : Launch) (D : va_G) (ct ad : Nat → Nat) (a b : Nat → Nat) (M N : Int → Int)  : ZM l yX6_copyFrom wsX6_copyFrom ({ frames := 2, cells := 0, slots := 0, locals := 39 } : Room) D ct ad [.ref (a 0), .ref (b 0)] (sobjW a ++ (sobjW b ++ (gridW ct a M ++ (gridW ct b N ++ (benchW ct a M ++ (benchW ct b N ++ (logW ct a M ++ (logW ct b N)))))))) (zD none (sobjW a ++ (sobjW b ++ (gridW ct a N ++ (gridW ct b N ++ (benchW ct a N ++ (benchW ct b N ++ (logW ct a N ++ (logW ct b N))))))))) := by
  refine ZM.of (cc := cX6_copyFrom) (maxL := 2) (ret := none) (by decide +kernel) rfl (Nat.le_of_ble_eq_true rfl) ?_
  intro p e s m below meth c A ls hx hb hr hts hown hlocks hml hname hE hP hD hA hS hl
  have hK := hE.1
  have hf_0 := hts (.fieldLink RX6 12 "RodGrids$State" "grid" "LRodGrids$Grid;") (by decide +kernel)
  have hf_1 := hts (.fieldLink RX6 21 "RodGrids$State" "bench" "LRodGrids$Bench;") (by decide +kernel)
  have hf_2 := hts (.fieldLink RX6 28 "RodGrids$State" "log" "LRodGrids$DayLog;") (by decide +kernel)
  have hin_X6 : ∀ z ∈ u_ws RX6 TX6 3, z ∈ wsX6_copyFrom := by decide +kernel
  have hl : lv_has ls 2 [(0, .ref (a 0)), (1, .ref (b 0))] := hl
  refine lv_aload_n hx hb dX6_copyFrom_0 rfl (lv_at hl 0 rfl) ?_
  refine va_get (D := D) (ci := 5) (v := .ref (a 1)) (C := RX6) (T := TX6) (N := 3) hx hb hts hin_X6 hown hK hP 0 rfl rfl 0 (by decide) hf_0 (fun _ h9 => h9) rfl dX6_copyFrom_1 ?_
  refine lv_aload_n hx hb dX6_copyFrom_4 rfl (lv_at hl 1 rfl) ?_
  refine va_get (D := D) (ci := 5) (v := .ref (b 1)) (C := RX6) (T := TX6) (N := 3) hx hb hts hin_X6 hown hK hP 1 rfl rfl 0 (by decide) hf_0 (fun _ h9 => h9) rfl dX6_copyFrom_5 ?_
  refine z_callV (C := RX4) (q0 := 0) (ci := 3) (As := [.ref (b 1)]) (rest := []) (sobjW a ++ (sobjW b)) (benchW ct a M ++ (benchW ct b N ++ (logW ct a M ++ (logW ct b N)))) hx hb hml hown hts hl hE hS hA hP hD (c_X4_copyFrom l D ct ad a b M N) gX6_copyFrom_X4_copyFrom rfl rfl k_X4_copyFrom ⟨Nat.le_of_ble_eq_true rfl, Nat.le_of_ble_eq_true rfl⟩ rfl rfl rfl rfl (Nat.le_of_ble_eq_true rfl) ⟨Nat.le_of_ble_eq_true rfl, Nat.le_of_ble_eq_true rfl⟩ dX6_copyFrom_8 rfl (fun v w1 H locs hpost hP hD hS => ?_)
  obtain ⟨rfl, rfl⟩ := hpost
  have hP : va_P D vwCl (sobjW a ++ (sobjW b ++ (gridW ct a N ++ (gridW ct b N ++ (benchW ct a M ++ (benchW ct b N ++ (logW ct a M ++ (logW ct b N)))))))) H := hP
  have hD : va_D A (sobjW a ++ (sobjW b ++ (gridW ct a N ++ (gridW ct b N ++ (benchW ct a M ++ (benchW ct b N ++ (logW ct a M ++ (logW ct b N)))))))) := hD
  refine W.eq (g2 := F0 m 11 ls []) rfl ?_
  refine lv_aload_n hx hb dX6_copyFrom_11 rfl (lv_at hl 0 rfl) ?_
  refine va_get (D := D) (ci := 5) (v := .ref (a 6)) (C := RX6) (T := TX6) (N := 3) hx hb hts hin_X6 hown hK hP 0 rfl rfl 1 (by decide) hf_1 (fun _ h9 => h9) rfl dX6_copyFrom_12 ?_
  refine lv_aload_n hx hb dX6_copyFrom_15 rfl (lv_at hl 1 rfl) ?_
  refine va_get (D := D) (ci := 5) (v := .ref (b 6)) (C := RX6) (T := TX6) (N := 3) hx hb hts hin_X6 hown hK hP 1 rfl rfl 1 (by decide) hf_1 (fun _ h9 => h9) rfl dX6_copyFrom_16 ?_
  refine z_callV (C := RX1) (q0 := 0) (ci := 0) (As := [.ref (b 6)]) (rest := []) (sobjW a ++ (sobjW b ++ (gridW ct a N ++ (gridW ct b N)))) (logW ct a M ++ (logW ct b N)) hx hb hml hown hts hl hE hS hA hP hD (c_X1_copyFrom l D ct ad a b M N) gX6_copyFrom_X1_copyFrom rfl rfl k_X1_copyFrom ⟨Nat.le_of_ble_eq_true rfl, Nat.le_of_ble_eq_true rfl⟩ rfl rfl rfl rfl (Nat.le_of_ble_eq_true rfl) ⟨Nat.le_of_ble_eq_true rfl, Nat.le_of_ble_eq_true rfl⟩ dX6_copyFrom_19 rfl (fun v w1 H locs hpost hP hD hS => ?_)
  obtain ⟨rfl, rfl⟩ := hpost
  have hP : va_P D vwCl (sobjW a ++ (sobjW b ++ (gridW ct a N ++ (gridW ct b N ++ (benchW ct a N ++ (benchW ct b N ++ (logW ct a M ++ (logW ct b N)))))))) H := hP
  have hD : va_D A (sobjW a ++ (sobjW b ++ (gridW ct a N ++ (gridW ct b N ++ (benchW ct a N ++ (benchW ct b N ++ (logW ct a M ++ (logW ct b N)))))))) := hD
  refine W.eq (g2 := F0 m 22 ls []) rfl ?_
  refine lv_aload_n hx hb dX6_copyFrom_22 rfl (lv_at hl 0 rfl) ?_
  refine va_get (D := D) (ci := 5) (v := .ref (a 9)) (C := RX6) (T := TX6) (N := 3) hx hb hts hin_X6 hown hK hP 0 rfl rfl 2 (by decide) hf_2 (fun _ h9 => h9) rfl dX6_copyFrom_23 ?_
  refine lv_aload_n hx hb dX6_copyFrom_26 rfl (lv_at hl 1 rfl) ?_
  refine va_get (D := D) (ci := 5) (v := .ref (b 9)) (C := RX6) (T := TX6) (N := 3) hx hb hts hin_X6 hown hK hP 1 rfl rfl 2 (by decide) hf_2 (fun _ h9 => h9) rfl dX6_copyFrom_27 ?_
  refine z_callV (C := RX3) (q0 := 0) (ci := 2) (As := [.ref (b 9)]) (rest := []) (sobjW a ++ (sobjW b ++ (gridW ct a N ++ (gridW ct b N ++ (benchW ct a N ++ (benchW ct b N)))))) ([] : va_W) hx hb hml hown hts hl hE hS hA (zr0 (sobjW a ++ (sobjW b ++ (gridW ct a N ++ (gridW ct b N ++ (benchW ct a N ++ (benchW ct b N)))))) hP) (zr0D (sobjW a ++ (sobjW b ++ (gridW ct a N ++ (gridW ct b N ++ (benchW ct a N ++ (benchW ct b N)))))) hD) (c_X3_copyFrom l D ct ad a b M N) gX6_copyFrom_X3_copyFrom rfl rfl k_X3_copyFrom ⟨Nat.le_of_ble_eq_true rfl, Nat.le_of_ble_eq_true rfl⟩ rfl rfl rfl rfl (Nat.le_of_ble_eq_true rfl) ⟨Nat.le_of_ble_eq_true rfl, Nat.le_of_ble_eq_true rfl⟩ dX6_copyFrom_30 rfl (fun v w1 H locs hpost hP hD hS => ?_)
  obtain ⟨rfl, rfl⟩ := hpost
  have hP := zr0' hP
  have hD := zr0D' hD
  have hP : va_P D vwCl (sobjW a ++ (sobjW b ++ (gridW ct a N ++ (gridW ct b N ++ (benchW ct a N ++ (benchW ct b N ++ (logW ct a N ++ (logW ct b N)))))))) H := hP
  have hD : va_D A (sobjW a ++ (sobjW b ++ (gridW ct a N ++ (gridW ct b N ++ (benchW ct a N ++ (benchW ct b N ++ (logW ct a N ++ (logW ct b N)))))))) := hD
  refine W.eq (g2 := F0 m 33 ls []) rfl ?_
  exact z_vret hx hb hr hlocks hP hD hS ⟨Nat.le_of_ble_eq_true rfl, Nat.le_of_ble_eq_true rfl⟩ dX6_copyFrom_33 (⟨rfl, rfl⟩)
theorem k_X1_lossBy : yX1_lossBy.cls ≠ "java/lang/invoke/MethodHandle" ∧ yX1_lossBy.cls ≠ "java/lang/invoke/VarHandle" ∧ (parseMethodDescriptor yX1_lossBy.desc).map (fun d => d.parameters.length) = some 1 := by decide +kernel
set_option maxHeartbeats 4000000 in
set_option maxRecDepth 100000 in
theorem c_X6_rateWith (l : Launch) (D : va_G) (ct ad : Nat → Nat) (a : Nat → Nat) (M : Int → Int) (n q d : Int) (hI : gInv M) (hB : bInv M) (h1 : -500 ≤ n ∧ n ≤ 500) (h2 : -9022500 ≤ q ∧ q ≤ 9022500) (h3 : 0 ≤ d ∧ d ≤ 192) : ZM l yX6_rateWith wsX6_rateWith ({ frames := 2, cells := 0, slots := 0, locals := 48 } : Room) D ct ad [.ref (a 0), .int (zI n), .long (zJ q), .int (zI d)] (sobjW a ++ (gridW ct a M ++ (benchW ct a M ++ (logW ct a M)))) (zD (some (.int (zI (sp_rate M (q + 10 * n) d)))) (sobjW a ++ (gridW ct a M ++ (benchW ct a M ++ (logW ct a M))))) := by
  refine ZM.of (cc := cX6_rateWith) (maxL := 11) (ret := (some .int)) (by decide +kernel) rfl (Nat.le_of_ble_eq_true rfl) ?_
  intro p e s m below meth c A ls hx hb hr hts hown hlocks hml hname hE hP hD hA hS hl
  have hK := hE.1
  have hf_0 := hts (.fieldLink RX6 21 "RodGrids$State" "bench" "LRodGrids$Bench;") (by decide +kernel)
  have hf_1 := hts (.fieldLink RX6 85 "RodGrids$Bench" "settings" "[I") (by decide +kernel)
  have hf_2 := hts (.constantLong RX6 96 (10)) (by decide +kernel)
  have hf_3 := hts (.constantLong RX6 102 (43200000)) (by decide +kernel)
  have hf_4 := hts (.constantLong RX6 108 (-1000000000)) (by decide +kernel)
  have hf_5 := hts (.constantLong RX6 110 (1000000000)) (by decide +kernel)
  have hin_X1 : ∀ z ∈ u_ws RX1 TX1 12, z ∈ wsX6_rateWith := by decide +kernel
  have hin_X6 : ∀ z ∈ u_ws RX6 TX6 3, z ∈ wsX6_rateWith := by decide +kernel
  have hl : lv_has ls 11 [(0, .ref (a 0)), (1, .int (zI n)), (2, .long (zJ q)), (4, .int (zI d))] := hl
  have i3 := hI.1
  have i4 := hI.2.1
  have j0 := hB.1
  have j1 := hB.2.1
  have j2 := hB.2.2.1
  have j4 := hB.2.2.2.2
  have qa := (sp_arcB hB h3).2.2
  have qd := divC (a := 43200000 * (M 0 - (q + 10 * n))) (b := M 0) (by omega) (by omega)
  refine lv_aload_n hx hb dX6_rateWith_0 rfl (lv_at hl 0 rfl) ?_
  refine va_get (D := D) (ci := 5) (v := .ref (a 6)) (C := RX6) (T := TX6) (N := 3) hx hb hts hin_X6 hown hK hP 0 rfl rfl 1 (by decide) hf_0 (fun _ h9 => h9) rfl dX6_rateWith_1 ?_
  refine va_get (D := D) (ci := 0) (v := .ref (a 8)) (C := RX1) (T := TX1) (N := 12) hx hb hts hin_X1 hown hK hP 6 rfl rfl 1 (by decide) hf_1 (fun _ h9 => h9) rfl dX6_rateWith_4 ?_
  refine z_iconst hx hb dX6_rateWith_7 ?_
  refine z_iald (g := fun x => M x) (v := M 0) hx hb hK hP 8 rfl (by decide) (by omega) rfl dX6_rateWith_8 ?_
  refine z_i2l hx hb dX6_rateWith_9 (by omega) ?_
  refine lv_lstore (lv' := [(5, .long (zJ (M 0))), (0, .ref (a 0)), (1, .int (zI n)), (2, .long (zJ q)), (4, .int (zI d))]) hx hb dX6_rateWith_10 hl (by decide) rfl (fun ls hl => ?_)
  refine lv_lload_n hx hb dX6_rateWith_12 rfl (lv_at hl 3 rfl) ?_
  refine z_ldc2 hx hb 10 hown hf_2 (by decide) dX6_rateWith_13 ?_
  refine lv_iload_n hx hb dX6_rateWith_16 rfl (lv_at hl 2 rfl) ?_
  refine z_i2l hx hb dX6_rateWith_17 (by omega) ?_
  refine z_lmul hx hb dX6_rateWith_18 ?_
  refine z_ladd hx hb dX6_rateWith_19 ?_
  refine lv_lstore (lv' := [(7, .long (zJ (q + (10 * n)))), (5, .long (zJ (M 0))), (0, .ref (a 0)), (1, .int (zI n)), (2, .long (zJ q)), (4, .int (zI d))]) hx hb dX6_rateWith_20 hl (by decide) rfl (fun ls hl => ?_)
  refine z_ldc2 hx hb 43200000 hown hf_3 (by decide) dX6_rateWith_22 ?_
  refine lv_lload hx hb dX6_rateWith_25 (lv_at hl 1 rfl) ?_
  refine lv_lload hx hb dX6_rateWith_27 (lv_at hl 0 rfl) ?_
  refine z_lsub hx hb dX6_rateWith_29 ?_
  refine z_lmul hx hb dX6_rateWith_30 ?_
  refine lv_lload hx hb dX6_rateWith_31 (lv_at hl 1 rfl) ?_
  refine z_callSN (host := RX8) (As := [.long (zJ (43200000 * ((M 0) - (q + (10 * n))))), .long (zJ (M 0))]) (rest := []) ([] : va_W) (sobjW a ++ (gridW ct a M ++ (benchW ct a M ++ (logW ct a M)))) hx hb hml hown hts hl hE hS hA hP hD (c_X8_floorOf l D ct ad (43200000 * ((M 0) - (q + (10 * n)))) (M 0) (by omega) (by omega)) ggX6_rateWith_X8_floorOf rfl k_X8_floorOf ⟨Nat.le_of_ble_eq_true rfl, Nat.le_of_ble_eq_true rfl⟩ (hE.2.1.1 _ (List.mem_of_getElem? (i := 15) rfl)) (hts (.initialized RX8) (by decide +kernel)) (hts (.static yX8_floorOf) (by decide +kernel)) rfl (Nat.le_of_ble_eq_true rfl) ⟨Nat.le_of_ble_eq_true rfl, Nat.le_of_ble_eq_true rfl⟩ dX6_rateWith_33 rfl (fun v w1 H locs hpost hP hD hS => ?_)
  obtain ⟨rfl, rfl⟩ := hpost
  have hP : va_P D vwCl (sobjW a ++ (gridW ct a M ++ (benchW ct a M ++ (logW ct a M)))) H := hP
  have hD : va_D A (sobjW a ++ (gridW ct a M ++ (benchW ct a M ++ (logW ct a M)))) := hD
  refine W.eq (g2 := F0 m 36 ls [.long (zJ ((43200000 * ((M 0) - (q + (10 * n)))) / (M 0)))]) rfl ?_
  refine lv_lstore (lv' := [(9, .long (zJ ((43200000 * ((M 0) - (q + (10 * n)))) / (M 0)))), (7, .long (zJ (q + (10 * n)))), (5, .long (zJ (M 0))), (0, .ref (a 0)), (1, .int (zI n)), (2, .long (zJ q)), (4, .int (zI d))]) hx hb dX6_rateWith_36 hl (by decide) rfl (fun ls hl => ?_)
  refine lv_lload hx hb dX6_rateWith_38 (lv_at hl 0 rfl) ?_
  refine z_ldc2 hx hb (-1000000000) hown hf_4 (by decide) dX6_rateWith_40 ?_
  refine z_ldc2 hx hb 1000000000 hown hf_5 (by decide) dX6_rateWith_43 ?_
  refine z_callSN (host := RX8) (As := [.long (zJ ((43200000 * ((M 0) - (q + (10 * n)))) / (M 0))), .long (zJ (-1000000000)), .long (zJ 1000000000)]) (rest := []) ([] : va_W) (sobjW a ++ (gridW ct a M ++ (benchW ct a M ++ (logW ct a M)))) hx hb hml hown hts hl hE hS hA hP hD (c_X8_clamp l D ct ad ((43200000 * ((M 0) - (q + (10 * n)))) / (M 0)) (-1000000000) 1000000000 (by omega) (by omega) (by omega)) ggX6_rateWith_X8_clamp rfl k_X8_clamp ⟨Nat.le_of_ble_eq_true rfl, Nat.le_of_ble_eq_true rfl⟩ (hE.2.1.1 _ (List.mem_of_getElem? (i := 16) rfl)) (hts (.initialized RX8) (by decide +kernel)) (hts (.static yX8_clamp) (by decide +kernel)) rfl (Nat.le_of_ble_eq_true rfl) ⟨Nat.le_of_ble_eq_true rfl, Nat.le_of_ble_eq_true rfl⟩ dX6_rateWith_46 rfl (fun v w1 H locs hpost hP hD hS => ?_)
  obtain ⟨rfl, rfl⟩ := hpost
  have hP : va_P D vwCl (sobjW a ++ (gridW ct a M ++ (benchW ct a M ++ (logW ct a M)))) H := hP
  have hD : va_D A (sobjW a ++ (gridW ct a M ++ (benchW ct a M ++ (logW ct a M)))) := hD
  refine W.eq (g2 := F0 m 49 ls [.long (zJ (max (-1000000000) (min 1000000000 ((43200000 * ((M 0) - (q + (10 * n)))) / (M 0)))))]) rfl ?_
  refine z_l2i hx hb dX6_rateWith_49 ?_
  refine lv_aload_n hx hb dX6_rateWith_50 rfl (lv_at hl 3 rfl) ?_
  refine va_get (D := D) (ci := 5) (v := .ref (a 6)) (C := RX6) (T := TX6) (N := 3) hx hb hts hin_X6 hown hK hP 0 rfl rfl 1 (by decide) hf_0 (fun _ h9 => h9) rfl dX6_rateWith_51 ?_
  refine lv_iload hx hb dX6_rateWith_54 (lv_at hl 6 rfl) ?_
  refine z_callV (C := RX1) (q0 := 0) (ci := 0) (As := [.int (zI d)]) (rest := [.int (zI (max (-1000000000) (min 1000000000 ((43200000 * ((M 0) - (q + (10 * n)))) / (M 0)))))]) (sobjW a ++ (gridW ct a M)) (logW ct a M) hx hb hml hown hts hl hE hS hA hP hD (c_X1_lossBy l D ct ad a M d (by assumption) (by omega)) gX6_rateWith_X1_lossBy rfl rfl k_X1_lossBy ⟨Nat.le_of_ble_eq_true rfl, Nat.le_of_ble_eq_true rfl⟩ rfl rfl rfl rfl (Nat.le_of_ble_eq_true rfl) ⟨Nat.le_of_ble_eq_true rfl, Nat.le_of_ble_eq_true rfl⟩ dX6_rateWith_56 rfl (fun v w1 H locs hpost hP hD hS => ?_)
  obtain ⟨rfl, rfl⟩ := hpost
  have hP : va_P D vwCl (sobjW a ++ (gridW ct a M ++ (benchW ct a M ++ (logW ct a M)))) H := hP
  have hD : va_D A (sobjW a ++ (gridW ct a M ++ (benchW ct a M ++ (logW ct a M)))) := hD
  refine W.eq (g2 := F0 m 59 ls [.int (zI (sp_loss M d)), .int (zI (max (-1000000000) (min 1000000000 ((43200000 * ((M 0) - (q + (10 * n)))) / (M 0)))))]) rfl ?_
  refine z_isub hx hb dX6_rateWith_59 ?_
  exact z_iret hx hb hr hlocks hP hD hS ⟨Nat.le_of_ble_eq_true rfl, Nat.le_of_ble_eq_true rfl⟩ dX6_rateWith_60 (⟨congrArg (fun z => some (Value.int (zI z))) (rfl), rfl⟩)
theorem k_X4_lengthOfRods : yX4_lengthOfRods.cls ≠ "java/lang/invoke/MethodHandle" ∧ yX4_lengthOfRods.cls ≠ "java/lang/invoke/VarHandle" ∧ (parseMethodDescriptor yX4_lengthOfRods.desc).map (fun d => d.parameters.length) = some 1 := by decide +kernel
theorem k_X6_rateWith : yX6_rateWith.cls ≠ "java/lang/invoke/MethodHandle" ∧ yX6_rateWith.cls ≠ "java/lang/invoke/VarHandle" ∧ (parseMethodDescriptor yX6_rateWith.desc).map (fun d => d.parameters.length) = some 3 := by decide +kernel
set_option maxHeartbeats 4000000 in
set_option maxRecDepth 100000 in
theorem c_X6_rateFor (l : Launch) (D : va_G) (ct ad : Nat → Nat) (a : Nat → Nat) (M : Int → Int) (t d : Int) (hI : gInv M) (hB : bInv M) (h1 : -300 ≤ t ∧ t ≤ 600) (h3 : 0 ≤ d ∧ d ≤ 192) : ZM l yX6_rateFor wsX6_rateFor ({ frames := 3, cells := 0, slots := 0, locals := 78 } : Room) D ct ad [.ref (a 0), .int (zI t), .int (zI d)] (sobjW a ++ (gridW ct a M ++ (benchW ct a M ++ (logW ct a M)))) (zD (some (.int (zI (sp_rate M (sp_len M t) d)))) (sobjW a ++ (gridW ct a M ++ (benchW ct a M ++ (logW ct a M))))) := by
  refine ZM.of (cc := cX6_rateFor) (maxL := 3) (ret := (some .int)) (by decide +kernel) rfl (Nat.le_of_ble_eq_true rfl) ?_
  intro p e s m below meth c A ls hx hb hr hts hown hlocks hml hname hE hP hD hA hS hl
  have hK := hE.1
  have hf_0 := hts (.fieldLink RX6 21 "RodGrids$State" "bench" "LRodGrids$Bench;") (by decide +kernel)
  have hf_1 := hts (.fieldLink RX6 55 "RodGrids$Bench" "nut" "I") (by decide +kernel)
  have hf_2 := hts (.fieldLink RX6 12 "RodGrids$State" "grid" "LRodGrids$Grid;") (by decide +kernel)
  have hin_X1 : ∀ z ∈ u_ws RX1 TX1 12, z ∈ wsX6_rateFor := by decide +kernel
  have hin_X6 : ∀ z ∈ u_ws RX6 TX6 3, z ∈ wsX6_rateFor := by decide +kernel
  have hl : lv_has ls 3 [(0, .ref (a 0)), (1, .int (zI t)), (2, .int (zI d))] := hl
  have i3 := hI.1
  have i4 := hI.2.1
  have j0 := hB.1
  have j1 := hB.2.1
  have j2 := hB.2.2.1
  have j4 := hB.2.2.2.2
  have ql := sp_lenB hI hB h1
  refine lv_aload_n hx hb dX6_rateFor_0 rfl (lv_at hl 0 rfl) ?_
  refine lv_aload_n hx hb dX6_rateFor_1 rfl (lv_at hl 0 rfl) ?_
  refine va_get (D := D) (ci := 5) (v := .ref (a 6)) (C := RX6) (T := TX6) (N := 3) hx hb hts hin_X6 hown hK hP 0 rfl rfl 1 (by decide) hf_0 (fun _ h9 => h9) rfl dX6_rateFor_2 ?_
  refine va_get (D := D) (ci := 0) (v := .int (zI (M 7))) (C := RX1) (T := TX1) (N := 12) hx hb hts hin_X1 hown hK hP 6 rfl rfl 4 (by decide) hf_1 (fun _ h9 => h9) rfl dX6_rateFor_5 ?_
  refine lv_aload_n hx hb dX6_rateFor_8 rfl (lv_at hl 0 rfl) ?_
  refine va_get (D := D) (ci := 5) (v := .ref (a 1)) (C := RX6) (T := TX6) (N := 3) hx hb hts hin_X6 hown hK hP 0 rfl rfl 0 (by decide) hf_2 (fun _ h9 => h9) rfl dX6_rateFor_9 ?_
  refine lv_iload_n hx hb dX6_rateFor_12 rfl (lv_at hl 1 rfl) ?_
  refine z_callV (C := RX4) (q0 := 0) (ci := 3) (As := [.int (zI t)]) (rest := [.int (zI (M 7)), .ref (a 0)]) (sobjW a) (benchW ct a M ++ (logW ct a M)) hx hb hml hown hts hl hE hS hA hP hD (c_X4_lengthOfRods l D ct ad a M t (by assumption) (by omega)) gX6_rateFor_X4_lengthOfRods rfl rfl k_X4_lengthOfRods ⟨Nat.le_of_ble_eq_true rfl, Nat.le_of_ble_eq_true rfl⟩ rfl rfl rfl rfl (Nat.le_of_ble_eq_true rfl) ⟨Nat.le_of_ble_eq_true rfl, Nat.le_of_ble_eq_true rfl⟩ dX6_rateFor_13 rfl (fun v w1 H locs hpost hP hD hS => ?_)
  obtain ⟨rfl, rfl⟩ := hpost
  have hP : va_P D vwCl (sobjW a ++ (gridW ct a M ++ (benchW ct a M ++ (logW ct a M)))) H := hP
  have hD : va_D A (sobjW a ++ (gridW ct a M ++ (benchW ct a M ++ (logW ct a M)))) := hD
  refine W.eq (g2 := F0 m 16 ls [.long (zJ (sp_rods M t)), .int (zI (M 7)), .ref (a 0)]) rfl ?_
  refine lv_iload_n hx hb dX6_rateFor_16 rfl (lv_at hl 2 rfl) ?_
  refine z_callV (C := RX6) (q0 := 0) (ci := 5) (As := [.int (zI (M 7)), .long (zJ (sp_rods M t)), .int (zI d)]) (rest := []) ([] : va_W) ([] : va_W) hx hb hml hown hts hl hE hS hA (zr0 ([] : va_W) hP) (zr0D ([] : va_W) hD) (c_X6_rateWith l D ct ad a M (M 7) (sp_rods M t) d (by assumption) (by assumption) (by omega) (by omega) (by omega)) gX6_rateFor_X6_rateWith rfl rfl k_X6_rateWith ⟨Nat.le_of_ble_eq_true rfl, Nat.le_of_ble_eq_true rfl⟩ rfl rfl rfl rfl (Nat.le_of_ble_eq_true rfl) ⟨Nat.le_of_ble_eq_true rfl, Nat.le_of_ble_eq_true rfl⟩ dX6_rateFor_17 rfl (fun v w1 H locs hpost hP hD hS => ?_)
  obtain ⟨rfl, rfl⟩ := hpost
  have hP := zr0' hP
  have hD := zr0D' hD
  have hP : va_P D vwCl (sobjW a ++ (gridW ct a M ++ (benchW ct a M ++ (logW ct a M)))) H := hP
  have hD : va_D A (sobjW a ++ (gridW ct a M ++ (benchW ct a M ++ (logW ct a M)))) := hD
  refine W.eq (g2 := F0 m 20 ls [.int (zI (sp_rate M ((sp_rods M t) + 10 * (M 7)) d))]) rfl ?_
  exact z_iret hx hb hr hlocks hP hD hS ⟨Nat.le_of_ble_eq_true rfl, Nat.le_of_ble_eq_true rfl⟩ dX6_rateFor_20 (⟨congrArg (fun z => some (Value.int (zI z))) (rfl), rfl⟩)
set_option maxHeartbeats 4000000 in
set_option maxRecDepth 100000 in
theorem c_X6_lengthNow (l : Launch) (D : va_G) (ct ad : Nat → Nat) (a : Nat → Nat) (M : Int → Int) (hI : gInv M) (hB : bInv M) : ZM l yX6_lengthNow wsX6_lengthNow ({ frames := 3, cells := 0, slots := 0, locals := 73 } : Room) D ct ad [.ref (a 0)] (sobjW a ++ (gridW ct a M ++ (benchW ct a M ++ (logW ct a M)))) (zD (some (.int (zI (sp_len M (M 6))))) (sobjW a ++ (gridW ct a M ++ (benchW ct a M ++ (logW ct a M))))) := by
  refine ZM.of (cc := cX6_lengthNow) (maxL := 1) (ret := (some .int)) (by decide +kernel) rfl (Nat.le_of_ble_eq_true rfl) ?_
  intro p e s m below meth c A ls hx hb hr hts hown hlocks hml hname hE hP hD hA hS hl
  have hK := hE.1
  have hf_0 := hts (.fieldLink RX6 12 "RodGrids$State" "grid" "LRodGrids$Grid;") (by decide +kernel)
  have hf_1 := hts (.fieldLink RX6 21 "RodGrids$State" "bench" "LRodGrids$Bench;") (by decide +kernel)
  have hf_2 := hts (.fieldLink RX6 52 "RodGrids$Bench" "warmth" "I") (by decide +kernel)
  have hf_3 := hts (.constantLong RX6 96 (10)) (by decide +kernel)
  have hf_4 := hts (.fieldLink RX6 55 "RodGrids$Bench" "nut" "I") (by decide +kernel)
  have hin_X1 : ∀ z ∈ u_ws RX1 TX1 12, z ∈ wsX6_lengthNow := by decide +kernel
  have hin_X6 : ∀ z ∈ u_ws RX6 TX6 3, z ∈ wsX6_lengthNow := by decide +kernel
  have hl : lv_has ls 1 [(0, .ref (a 0))] := hl
  have i3 := hI.1
  have i4 := hI.2.1
  have j0 := hB.1
  have j1 := hB.2.1
  have j2 := hB.2.2.1
  have j4 := hB.2.2.2.2
  have ql := sp_lenB hI hB j1.2.1
  refine lv_aload_n hx hb dX6_lengthNow_0 rfl (lv_at hl 0 rfl) ?_
  refine va_get (D := D) (ci := 5) (v := .ref (a 1)) (C := RX6) (T := TX6) (N := 3) hx hb hts hin_X6 hown hK hP 0 rfl rfl 0 (by decide) hf_0 (fun _ h9 => h9) rfl dX6_lengthNow_1 ?_
  refine lv_aload_n hx hb dX6_lengthNow_4 rfl (lv_at hl 0 rfl) ?_
  refine va_get (D := D) (ci := 5) (v := .ref (a 6)) (C := RX6) (T := TX6) (N := 3) hx hb hts hin_X6 hown hK hP 0 rfl rfl 1 (by decide) hf_1 (fun _ h9 => h9) rfl dX6_lengthNow_5 ?_
  refine va_get (D := D) (ci := 0) (v := .int (zI (M 6))) (C := RX1) (T := TX1) (N := 12) hx hb hts hin_X1 hown hK hP 6 rfl rfl 3 (by decide) hf_2 (fun _ h9 => h9) rfl dX6_lengthNow_8 ?_
  refine z_callV (C := RX4) (q0 := 0) (ci := 3) (As := [.int (zI (M 6))]) (rest := []) (sobjW a) (benchW ct a M ++ (logW ct a M)) hx hb hml hown hts hl hE hS hA hP hD (c_X4_lengthOfRods l D ct ad a M (M 6) (by assumption) (by omega)) gX6_lengthNow_X4_lengthOfRods rfl rfl k_X4_lengthOfRods ⟨Nat.le_of_ble_eq_true rfl, Nat.le_of_ble_eq_true rfl⟩ rfl rfl rfl rfl (Nat.le_of_ble_eq_true rfl) ⟨Nat.le_of_ble_eq_true rfl, Nat.le_of_ble_eq_true rfl⟩ dX6_lengthNow_11 rfl (fun v w1 H locs hpost hP hD hS => ?_)
  obtain ⟨rfl, rfl⟩ := hpost
  have hP : va_P D vwCl (sobjW a ++ (gridW ct a M ++ (benchW ct a M ++ (logW ct a M)))) H := hP
  have hD : va_D A (sobjW a ++ (gridW ct a M ++ (benchW ct a M ++ (logW ct a M)))) := hD
  refine W.eq (g2 := F0 m 14 ls [.long (zJ (sp_rods M (M 6)))]) rfl ?_
  refine z_ldc2 hx hb 10 hown hf_3 (by decide) dX6_lengthNow_14 ?_
  refine lv_aload_n hx hb dX6_lengthNow_17 rfl (lv_at hl 0 rfl) ?_
  refine va_get (D := D) (ci := 5) (v := .ref (a 6)) (C := RX6) (T := TX6) (N := 3) hx hb hts hin_X6 hown hK hP 0 rfl rfl 1 (by decide) hf_1 (fun _ h9 => h9) rfl dX6_lengthNow_18 ?_
  refine va_get (D := D) (ci := 0) (v := .int (zI (M 7))) (C := RX1) (T := TX1) (N := 12) hx hb hts hin_X1 hown hK hP 6 rfl rfl 4 (by decide) hf_4 (fun _ h9 => h9) rfl dX6_lengthNow_21 ?_
  refine z_i2l hx hb dX6_lengthNow_24 (by omega) ?_
  refine z_lmul hx hb dX6_lengthNow_25 ?_
  refine z_ladd hx hb dX6_lengthNow_26 ?_
  refine z_l2i hx hb dX6_lengthNow_27 ?_
  exact z_iret hx hb hr hlocks hP hD hS ⟨Nat.le_of_ble_eq_true rfl, Nat.le_of_ble_eq_true rfl⟩ dX6_lengthNow_28 (⟨congrArg (fun z => some (Value.int (zI z))) (rfl), rfl⟩)
theorem k_X6_lengthNow : yX6_lengthNow.cls ≠ "java/lang/invoke/MethodHandle" ∧ yX6_lengthNow.cls ≠ "java/lang/invoke/VarHandle" ∧ (parseMethodDescriptor yX6_lengthNow.desc).map (fun d => d.parameters.length) = some 0 := by decide +kernel
theorem k_X6_rateFor : yX6_rateFor.cls ≠ "java/lang/invoke/MethodHandle" ∧ yX6_rateFor.cls ≠ "java/lang/invoke/VarHandle" ∧ (parseMethodDescriptor yX6_rateFor.desc).map (fun d => d.parameters.length) = some 2 := by decide +kernel
set_option maxHeartbeats 4000000 in
set_option maxRecDepth 100000 in
theorem c_X6_wholeValue (l : Launch) (D : va_G) (ct ad : Nat → Nat) (a : Nat → Nat) (M : Int → Int) (w : Int) (hI : gInv M) (hB : bInv M) (h1 : 0 ≤ w ∧ w ≤ 16) : ZM l yX6_wholeValue wsX6_wholeValue ({ frames := 4, cells := 0, slots := 0, locals := 100 } : Room) D ct ad [.ref (a 0), .int (zI w)] (sobjW a ++ (gridW ct a M ++ (benchW ct a M ++ (logW ct a M)))) (zD (some (.int (zI (sp_whole M w)))) (sobjW a ++ (gridW ct a M ++ (benchW ct a M ++ (logW ct a M))))) := by
  refine ZM.of (cc := cX6_wholeValue) (maxL := 2) (ret := (some .int)) (by decide +kernel) rfl (Nat.le_of_ble_eq_true rfl) ?_
  intro p e s m below meth c A ls hx hb hr hts hown hlocks hml hname hE hP hD hA hS hl
  have hK := hE.1
  have hf_0 := hts (.fieldLink RX6 12 "RodGrids$State" "grid" "LRodGrids$Grid;") (by decide +kernel)
  have hf_1 := hts (.fieldLink RX6 42 "RodGrids$Grid" "metals" "I") (by decide +kernel)
  have hf_2 := hts (.fieldLink RX6 46 "RodGrids$Grid" "rods" "I") (by decide +kernel)
  have hf_3 := hts (.fieldLink RX6 21 "RodGrids$State" "bench" "LRodGrids$Bench;") (by decide +kernel)
  have hf_4 := hts (.fieldLink RX6 49 "RodGrids$Bench" "shelfNumber" "I") (by decide +kernel)
  have hf_5 := hts (.fieldLink RX6 52 "RodGrids$Bench" "warmth" "I") (by decide +kernel)
  have hf_6 := hts (.fieldLink RX6 55 "RodGrids$Bench" "nut" "I") (by decide +kernel)
  have hf_7 := hts (.fieldLink RX6 58 "RodGrids$Bench" "drive" "I") (by decide +kernel)
  have hf_8 := hts (.fieldLink RX6 76 "RodGrids$Bench" "time" "I") (by decide +kernel)
  have hf_9 := hts (.fieldLink RX6 79 "RodGrids$Bench" "went" "I") (by decide +kernel)
  have hf_10 := hts (.fieldLink RX6 82 "RodGrids$Bench" "stood" "I") (by decide +kernel)
  have hf_11 := hts (.fieldLink RX6 85 "RodGrids$Bench" "settings" "[I") (by decide +kernel)
  have hf_12 := hts (.fieldLink RX6 28 "RodGrids$State" "log" "LRodGrids$DayLog;") (by decide +kernel)
  have hf_13 := hts (.fieldLink RX6 89 "RodGrids$DayLog" "days" "I") (by decide +kernel)
  have hin_X1 : ∀ z ∈ u_ws RX1 TX1 12, z ∈ wsX6_wholeValue := by decide +kernel
  have hin_X3 : ∀ z ∈ u_ws RX3 TX3 2, z ∈ wsX6_wholeValue := by decide +kernel
  have hin_X4 : ∀ z ∈ u_ws RX4 TX4 6, z ∈ wsX6_wholeValue := by decide +kernel
  have hin_X6 : ∀ z ∈ u_ws RX6 TX6 3, z ∈ wsX6_wholeValue := by decide +kernel
  have hl : lv_has ls 2 [(0, .ref (a 0)), (1, .int (zI w))] := hl
  have i3 := hI.1
  have i4 := hI.2.1
  have j0 := hB.1
  have j1 := hB.2.1
  have j2 := hB.2.2.1
  have j4 := hB.2.2.2.2
  have ql := sp_lenB hI hB j1.2.1
  refine lv_iload_n hx hb dX6_wholeValue_0 rfl (lv_at hl 1 rfl) ?_
  rcases (show w = 0 ∨ w = 1 ∨ w = 2 ∨ w = 3 ∨ w = 4 ∨ w = 5 ∨ w = 6 ∨ w = 7 ∨ w = 8 ∨ w = 9 ∨ w = 10 ∨ w = 11 ∨ w = 12 ∨ w = 13 ∨ w = 14 ∨ w = 15 ∨ (w < 0 ∨ 15 < w) from (by omega)) with hc_1 | hc_1 | hc_1 | hc_1 | hc_1 | hc_1 | hc_1 | hc_1 | hc_1 | hc_1 | hc_1 | hc_1 | hc_1 | hc_1 | hc_1 | hc_1 | hc_1
  · refine z_tabIn (off := 79) (tgt := 80) hx hb dX6_wholeValue_1 0 hc_1 (by decide) (by decide) rfl (by decide) ?_
    refine lv_aload_n hx hb dX6_wholeValue_80 rfl (lv_at hl 0 rfl) ?_
    refine va_get (D := D) (ci := 5) (v := .ref (a 1)) (C := RX6) (T := TX6) (N := 3) hx hb hts hin_X6 hown hK hP 0 rfl rfl 0 (by decide) hf_0 (fun _ h9 => h9) rfl dX6_wholeValue_81 ?_
    refine va_get (D := D) (ci := 3) (v := .int (zI (M 3))) (C := RX4) (T := TX4) (N := 6) hx hb hts hin_X4 hown hK hP 1 rfl rfl 0 (by decide) hf_1 (fun _ h9 => h9) rfl dX6_wholeValue_84 ?_
    exact z_iret hx hb hr hlocks hP hD hS ⟨Nat.le_of_ble_eq_true rfl, Nat.le_of_ble_eq_true rfl⟩ dX6_wholeValue_87 (⟨congrArg (fun z => some (Value.int (zI z))) (by unfold sp_whole; first | (subst hc_1; rfl) | (obtain rfl : w = 16 := (by omega); rfl)), rfl⟩)
  · refine z_tabIn (off := 87) (tgt := 88) hx hb dX6_wholeValue_1 1 hc_1 (by decide) (by decide) rfl (by decide) ?_
    refine lv_aload_n hx hb dX6_wholeValue_88 rfl (lv_at hl 0 rfl) ?_
    refine va_get (D := D) (ci := 5) (v := .ref (a 1)) (C := RX6) (T := TX6) (N := 3) hx hb hts hin_X6 hown hK hP 0 rfl rfl 0 (by decide) hf_0 (fun _ h9 => h9) rfl dX6_wholeValue_89 ?_
    refine va_get (D := D) (ci := 3) (v := .int (zI (M 4))) (C := RX4) (T := TX4) (N := 6) hx hb hts hin_X4 hown hK hP 1 rfl rfl 2 (by decide) hf_2 (fun _ h9 => h9) rfl dX6_wholeValue_92 ?_
    exact z_iret hx hb hr hlocks hP hD hS ⟨Nat.le_of_ble_eq_true rfl, Nat.le_of_ble_eq_true rfl⟩ dX6_wholeValue_95 (⟨congrArg (fun z => some (Value.int (zI z))) (by unfold sp_whole; first | (subst hc_1; rfl) | (obtain rfl : w = 16 := (by omega); rfl)), rfl⟩)
  · refine z_tabIn (off := 95) (tgt := 96) hx hb dX6_wholeValue_1 2 hc_1 (by decide) (by decide) rfl (by decide) ?_
    refine lv_aload_n hx hb dX6_wholeValue_96 rfl (lv_at hl 0 rfl) ?_
    refine va_get (D := D) (ci := 5) (v := .ref (a 6)) (C := RX6) (T := TX6) (N := 3) hx hb hts hin_X6 hown hK hP 0 rfl rfl 1 (by decide) hf_3 (fun _ h9 => h9) rfl dX6_wholeValue_97 ?_
    refine va_get (D := D) (ci := 0) (v := .int (zI (M 5))) (C := RX1) (T := TX1) (N := 12) hx hb hts hin_X1 hown hK hP 6 rfl rfl 2 (by decide) hf_4 (fun _ h9 => h9) rfl dX6_wholeValue_100 ?_
    exact z_iret hx hb hr hlocks hP hD hS ⟨Nat.le_of_ble_eq_true rfl, Nat.le_of_ble_eq_true rfl⟩ dX6_wholeValue_103 (⟨congrArg (fun z => some (Value.int (zI z))) (by unfold sp_whole; first | (subst hc_1; rfl) | (obtain rfl : w = 16 := (by omega); rfl)), rfl⟩)
  · refine z_tabIn (off := 103) (tgt := 104) hx hb dX6_wholeValue_1 3 hc_1 (by decide) (by decide) rfl (by decide) ?_
    refine lv_aload_n hx hb dX6_wholeValue_104 rfl (lv_at hl 0 rfl) ?_
    refine va_get (D := D) (ci := 5) (v := .ref (a 6)) (C := RX6) (T := TX6) (N := 3) hx hb hts hin_X6 hown hK hP 0 rfl rfl 1 (by decide) hf_3 (fun _ h9 => h9) rfl dX6_wholeValue_105 ?_
    refine va_get (D := D) (ci := 0) (v := .int (zI (M 6))) (C := RX1) (T := TX1) (N := 12) hx hb hts hin_X1 hown hK hP 6 rfl rfl 3 (by decide) hf_5 (fun _ h9 => h9) rfl dX6_wholeValue_108 ?_
    exact z_iret hx hb hr hlocks hP hD hS ⟨Nat.le_of_ble_eq_true rfl, Nat.le_of_ble_eq_true rfl⟩ dX6_wholeValue_111 (⟨congrArg (fun z => some (Value.int (zI z))) (by unfold sp_whole; first | (subst hc_1; rfl) | (obtain rfl : w = 16 := (by omega); rfl)), rfl⟩)
  · refine z_tabIn (off := 111) (tgt := 112) hx hb dX6_wholeValue_1 4 hc_1 (by decide) (by decide) rfl (by decide) ?_
    refine lv_aload_n hx hb dX6_wholeValue_112 rfl (lv_at hl 0 rfl) ?_
    refine va_get (D := D) (ci := 5) (v := .ref (a 6)) (C := RX6) (T := TX6) (N := 3) hx hb hts hin_X6 hown hK hP 0 rfl rfl 1 (by decide) hf_3 (fun _ h9 => h9) rfl dX6_wholeValue_113 ?_
    refine va_get (D := D) (ci := 0) (v := .int (zI (M 7))) (C := RX1) (T := TX1) (N := 12) hx hb hts hin_X1 hown hK hP 6 rfl rfl 4 (by decide) hf_6 (fun _ h9 => h9) rfl dX6_wholeValue_116 ?_
    exact z_iret hx hb hr hlocks hP hD hS ⟨Nat.le_of_ble_eq_true rfl, Nat.le_of_ble_eq_true rfl⟩ dX6_wholeValue_119 (⟨congrArg (fun z => some (Value.int (zI z))) (by unfold sp_whole; first | (subst hc_1; rfl) | (obtain rfl : w = 16 := (by omega); rfl)), rfl⟩)
  · refine z_tabIn (off := 119) (tgt := 120) hx hb dX6_wholeValue_1 5 hc_1 (by decide) (by decide) rfl (by decide) ?_
    refine lv_aload_n hx hb dX6_wholeValue_120 rfl (lv_at hl 0 rfl) ?_
    refine va_get (D := D) (ci := 5) (v := .ref (a 6)) (C := RX6) (T := TX6) (N := 3) hx hb hts hin_X6 hown hK hP 0 rfl rfl 1 (by decide) hf_3 (fun _ h9 => h9) rfl dX6_wholeValue_121 ?_
    refine va_get (D := D) (ci := 0) (v := .int (zI (M 8))) (C := RX1) (T := TX1) (N := 12) hx hb hts hin_X1 hown hK hP 6 rfl rfl 5 (by decide) hf_7 (fun _ h9 => h9) rfl dX6_wholeValue_124 ?_
    exact z_iret hx hb hr hlocks hP hD hS ⟨Nat.le_of_ble_eq_true rfl, Nat.le_of_ble_eq_true rfl⟩ dX6_wholeValue_127 (⟨congrArg (fun z => some (Value.int (zI z))) (by unfold sp_whole; first | (subst hc_1; rfl) | (obtain rfl : w = 16 := (by omega); rfl)), rfl⟩)
  · refine z_tabIn (off := 127) (tgt := 128) hx hb dX6_wholeValue_1 6 hc_1 (by decide) (by decide) rfl (by decide) ?_
    refine lv_aload_n hx hb dX6_wholeValue_128 rfl (lv_at hl 0 rfl) ?_
    refine va_get (D := D) (ci := 5) (v := .ref (a 6)) (C := RX6) (T := TX6) (N := 3) hx hb hts hin_X6 hown hK hP 0 rfl rfl 1 (by decide) hf_3 (fun _ h9 => h9) rfl dX6_wholeValue_129 ?_
    refine lv_aload_n hx hb dX6_wholeValue_132 rfl (lv_at hl 0 rfl) ?_
    refine va_get (D := D) (ci := 5) (v := .ref (a 6)) (C := RX6) (T := TX6) (N := 3) hx hb hts hin_X6 hown hK hP 0 rfl rfl 1 (by decide) hf_3 (fun _ h9 => h9) rfl dX6_wholeValue_133 ?_
    refine va_get (D := D) (ci := 0) (v := .int (zI (M 8))) (C := RX1) (T := TX1) (N := 12) hx hb hts hin_X1 hown hK hP 6 rfl rfl 5 (by decide) hf_7 (fun _ h9 => h9) rfl dX6_wholeValue_136 ?_
    refine z_callV (C := RX1) (q0 := 0) (ci := 0) (As := [.int (zI (M 8))]) (rest := []) (sobjW a ++ (gridW ct a M)) (logW ct a M) hx hb hml hown hts hl hE hS hA hP hD (c_X1_arcBy l D ct ad a M (M 8) (by assumption) (by omega)) gX6_wholeValue_X1_arcBy rfl rfl k_X1_arcBy ⟨Nat.le_of_ble_eq_true rfl, Nat.le_of_ble_eq_true rfl⟩ rfl rfl rfl rfl (Nat.le_of_ble_eq_true rfl) ⟨Nat.le_of_ble_eq_true rfl, Nat.le_of_ble_eq_true rfl⟩ dX6_wholeValue_139 rfl (fun v w1 H locs hpost hP hD hS => ?_)
    obtain ⟨rfl, rfl⟩ := hpost
    have hP : va_P D vwCl (sobjW a ++ (gridW ct a M ++ (benchW ct a M ++ (logW ct a M)))) H := hP
    have hD : va_D A (sobjW a ++ (gridW ct a M ++ (benchW ct a M ++ (logW ct a M)))) := hD
    refine W.eq (g2 := F0 m 142 ls [.int (zI (sp_arc M (M 8)))]) rfl ?_
    exact z_iret hx hb hr hlocks hP hD hS ⟨Nat.le_of_ble_eq_true rfl, Nat.le_of_ble_eq_true rfl⟩ dX6_wholeValue_142 (⟨congrArg (fun z => some (Value.int (zI z))) (by unfold sp_whole; first | (subst hc_1; rfl) | (obtain rfl : w = 16 := (by omega); rfl)), rfl⟩)
  · refine z_tabIn (off := 142) (tgt := 143) hx hb dX6_wholeValue_1 7 hc_1 (by decide) (by decide) rfl (by decide) ?_
    refine lv_aload_n hx hb dX6_wholeValue_143 rfl (lv_at hl 0 rfl) ?_
    refine va_get (D := D) (ci := 5) (v := .ref (a 6)) (C := RX6) (T := TX6) (N := 3) hx hb hts hin_X6 hown hK hP 0 rfl rfl 1 (by decide) hf_3 (fun _ h9 => h9) rfl dX6_wholeValue_144 ?_
    refine lv_aload_n hx hb dX6_wholeValue_147 rfl (lv_at hl 0 rfl) ?_
    refine va_get (D := D) (ci := 5) (v := .ref (a 6)) (C := RX6) (T := TX6) (N := 3) hx hb hts hin_X6 hown hK hP 0 rfl rfl 1 (by decide) hf_3 (fun _ h9 => h9) rfl dX6_wholeValue_148 ?_
    refine va_get (D := D) (ci := 0) (v := .int (zI (M 8))) (C := RX1) (T := TX1) (N := 12) hx hb hts hin_X1 hown hK hP 6 rfl rfl 5 (by decide) hf_7 (fun _ h9 => h9) rfl dX6_wholeValue_151 ?_
    refine z_callV (C := RX1) (q0 := 0) (ci := 0) (As := [.int (zI (M 8))]) (rest := []) (sobjW a ++ (gridW ct a M)) (logW ct a M) hx hb hml hown hts hl hE hS hA hP hD (c_X1_lossBy l D ct ad a M (M 8) (by assumption) (by omega)) gX6_wholeValue_X1_lossBy rfl rfl k_X1_lossBy ⟨Nat.le_of_ble_eq_true rfl, Nat.le_of_ble_eq_true rfl⟩ rfl rfl rfl rfl (Nat.le_of_ble_eq_true rfl) ⟨Nat.le_of_ble_eq_true rfl, Nat.le_of_ble_eq_true rfl⟩ dX6_wholeValue_154 rfl (fun v w1 H locs hpost hP hD hS => ?_)
    obtain ⟨rfl, rfl⟩ := hpost
    have hP : va_P D vwCl (sobjW a ++ (gridW ct a M ++ (benchW ct a M ++ (logW ct a M)))) H := hP
    have hD : va_D A (sobjW a ++ (gridW ct a M ++ (benchW ct a M ++ (logW ct a M)))) := hD
    refine W.eq (g2 := F0 m 157 ls [.int (zI (sp_loss M (M 8)))]) rfl ?_
    exact z_iret hx hb hr hlocks hP hD hS ⟨Nat.le_of_ble_eq_true rfl, Nat.le_of_ble_eq_true rfl⟩ dX6_wholeValue_157 (⟨congrArg (fun z => some (Value.int (zI z))) (by unfold sp_whole; first | (subst hc_1; rfl) | (obtain rfl : w = 16 := (by omega); rfl)), rfl⟩)
  · refine z_tabIn (off := 157) (tgt := 158) hx hb dX6_wholeValue_1 8 hc_1 (by decide) (by decide) rfl (by decide) ?_
    refine lv_aload_n hx hb dX6_wholeValue_158 rfl (lv_at hl 0 rfl) ?_
    refine z_callV (C := RX6) (q0 := 0) (ci := 5) (As := []) (rest := []) ([] : va_W) ([] : va_W) hx hb hml hown hts hl hE hS hA (zr0 ([] : va_W) hP) (zr0D ([] : va_W) hD) (c_X6_lengthNow l D ct ad a M (by assumption) (by assumption)) gX6_wholeValue_X6_lengthNow rfl rfl k_X6_lengthNow ⟨Nat.le_of_ble_eq_true rfl, Nat.le_of_ble_eq_true rfl⟩ rfl rfl rfl rfl (Nat.le_of_ble_eq_true rfl) ⟨Nat.le_of_ble_eq_true rfl, Nat.le_of_ble_eq_true rfl⟩ dX6_wholeValue_159 rfl (fun v w1 H locs hpost hP hD hS => ?_)
    obtain ⟨rfl, rfl⟩ := hpost
    have hP := zr0' hP
    have hD := zr0D' hD
    have hP : va_P D vwCl (sobjW a ++ (gridW ct a M ++ (benchW ct a M ++ (logW ct a M)))) H := hP
    have hD : va_D A (sobjW a ++ (gridW ct a M ++ (benchW ct a M ++ (logW ct a M)))) := hD
    refine W.eq (g2 := F0 m 162 ls [.int (zI (sp_len M (M 6)))]) rfl ?_
    exact z_iret hx hb hr hlocks hP hD hS ⟨Nat.le_of_ble_eq_true rfl, Nat.le_of_ble_eq_true rfl⟩ dX6_wholeValue_162 (⟨congrArg (fun z => some (Value.int (zI z))) (by unfold sp_whole; first | (subst hc_1; rfl) | (obtain rfl : w = 16 := (by omega); rfl)), rfl⟩)
  · refine z_tabIn (off := 162) (tgt := 163) hx hb dX6_wholeValue_1 9 hc_1 (by decide) (by decide) rfl (by decide) ?_
    refine lv_aload_n hx hb dX6_wholeValue_163 rfl (lv_at hl 0 rfl) ?_
    refine lv_aload_n hx hb dX6_wholeValue_164 rfl (lv_at hl 0 rfl) ?_
    refine va_get (D := D) (ci := 5) (v := .ref (a 6)) (C := RX6) (T := TX6) (N := 3) hx hb hts hin_X6 hown hK hP 0 rfl rfl 1 (by decide) hf_3 (fun _ h9 => h9) rfl dX6_wholeValue_165 ?_
    refine va_get (D := D) (ci := 0) (v := .int (zI (M 6))) (C := RX1) (T := TX1) (N := 12) hx hb hts hin_X1 hown hK hP 6 rfl rfl 3 (by decide) hf_5 (fun _ h9 => h9) rfl dX6_wholeValue_168 ?_
    refine lv_aload_n hx hb dX6_wholeValue_171 rfl (lv_at hl 0 rfl) ?_
    refine va_get (D := D) (ci := 5) (v := .ref (a 6)) (C := RX6) (T := TX6) (N := 3) hx hb hts hin_X6 hown hK hP 0 rfl rfl 1 (by decide) hf_3 (fun _ h9 => h9) rfl dX6_wholeValue_172 ?_
    refine va_get (D := D) (ci := 0) (v := .int (zI (M 8))) (C := RX1) (T := TX1) (N := 12) hx hb hts hin_X1 hown hK hP 6 rfl rfl 5 (by decide) hf_7 (fun _ h9 => h9) rfl dX6_wholeValue_175 ?_
    refine z_callV (C := RX6) (q0 := 0) (ci := 5) (As := [.int (zI (M 6)), .int (zI (M 8))]) (rest := []) ([] : va_W) ([] : va_W) hx hb hml hown hts hl hE hS hA (zr0 ([] : va_W) hP) (zr0D ([] : va_W) hD) (c_X6_rateFor l D ct ad a M (M 6) (M 8) (by assumption) (by assumption) (by omega) (by omega)) gX6_wholeValue_X6_rateFor rfl rfl k_X6_rateFor ⟨Nat.le_of_ble_eq_true rfl, Nat.le_of_ble_eq_true rfl⟩ rfl rfl rfl rfl (Nat.le_of_ble_eq_true rfl) ⟨Nat.le_of_ble_eq_true rfl, Nat.le_of_ble_eq_true rfl⟩ dX6_wholeValue_178 rfl (fun v w1 H locs hpost hP hD hS => ?_)
    obtain ⟨rfl, rfl⟩ := hpost
    have hP := zr0' hP
    have hD := zr0D' hD
    have hP : va_P D vwCl (sobjW a ++ (gridW ct a M ++ (benchW ct a M ++ (logW ct a M)))) H := hP
    have hD : va_D A (sobjW a ++ (gridW ct a M ++ (benchW ct a M ++ (logW ct a M)))) := hD
    refine W.eq (g2 := F0 m 181 ls [.int (zI (sp_rate M (sp_len M (M 6)) (M 8)))]) rfl ?_
    exact z_iret hx hb hr hlocks hP hD hS ⟨Nat.le_of_ble_eq_true rfl, Nat.le_of_ble_eq_true rfl⟩ dX6_wholeValue_181 (⟨congrArg (fun z => some (Value.int (zI z))) (by unfold sp_whole; first | (subst hc_1; rfl) | (obtain rfl : w = 16 := (by omega); rfl)), rfl⟩)
  · refine z_tabIn (off := 181) (tgt := 182) hx hb dX6_wholeValue_1 10 hc_1 (by decide) (by decide) rfl (by decide) ?_
    refine lv_aload_n hx hb dX6_wholeValue_182 rfl (lv_at hl 0 rfl) ?_
    refine va_get (D := D) (ci := 5) (v := .ref (a 6)) (C := RX6) (T := TX6) (N := 3) hx hb hts hin_X6 hown hK hP 0 rfl rfl 1 (by decide) hf_3 (fun _ h9 => h9) rfl dX6_wholeValue_183 ?_
    refine va_get (D := D) (ci := 0) (v := .int (zI (M 9))) (C := RX1) (T := TX1) (N := 12) hx hb hts hin_X1 hown hK hP 6 rfl rfl 6 (by decide) hf_8 (fun _ h9 => h9) rfl dX6_wholeValue_186 ?_
    exact z_iret hx hb hr hlocks hP hD hS ⟨Nat.le_of_ble_eq_true rfl, Nat.le_of_ble_eq_true rfl⟩ dX6_wholeValue_189 (⟨congrArg (fun z => some (Value.int (zI z))) (by unfold sp_whole; first | (subst hc_1; rfl) | (obtain rfl : w = 16 := (by omega); rfl)), rfl⟩)
  · refine z_tabIn (off := 189) (tgt := 190) hx hb dX6_wholeValue_1 11 hc_1 (by decide) (by decide) rfl (by decide) ?_
    refine lv_aload_n hx hb dX6_wholeValue_190 rfl (lv_at hl 0 rfl) ?_
    refine va_get (D := D) (ci := 5) (v := .ref (a 6)) (C := RX6) (T := TX6) (N := 3) hx hb hts hin_X6 hown hK hP 0 rfl rfl 1 (by decide) hf_3 (fun _ h9 => h9) rfl dX6_wholeValue_191 ?_
    refine va_get (D := D) (ci := 0) (v := .int (zI (M 10))) (C := RX1) (T := TX1) (N := 12) hx hb hts hin_X1 hown hK hP 6 rfl rfl 7 (by decide) hf_9 (fun _ h9 => h9) rfl dX6_wholeValue_194 ?_
    exact z_iret hx hb hr hlocks hP hD hS ⟨Nat.le_of_ble_eq_true rfl, Nat.le_of_ble_eq_true rfl⟩ dX6_wholeValue_197 (⟨congrArg (fun z => some (Value.int (zI z))) (by unfold sp_whole; first | (subst hc_1; rfl) | (obtain rfl : w = 16 := (by omega); rfl)), rfl⟩)
  · refine z_tabIn (off := 197) (tgt := 198) hx hb dX6_wholeValue_1 12 hc_1 (by decide) (by decide) rfl (by decide) ?_
    refine lv_aload_n hx hb dX6_wholeValue_198 rfl (lv_at hl 0 rfl) ?_
    refine va_get (D := D) (ci := 5) (v := .ref (a 6)) (C := RX6) (T := TX6) (N := 3) hx hb hts hin_X6 hown hK hP 0 rfl rfl 1 (by decide) hf_3 (fun _ h9 => h9) rfl dX6_wholeValue_199 ?_
    refine va_get (D := D) (ci := 0) (v := .int (zI (M 11))) (C := RX1) (T := TX1) (N := 12) hx hb hts hin_X1 hown hK hP 6 rfl rfl 8 (by decide) hf_10 (fun _ h9 => h9) rfl dX6_wholeValue_202 ?_
    exact z_iret hx hb hr hlocks hP hD hS ⟨Nat.le_of_ble_eq_true rfl, Nat.le_of_ble_eq_true rfl⟩ dX6_wholeValue_205 (⟨congrArg (fun z => some (Value.int (zI z))) (by unfold sp_whole; first | (subst hc_1; rfl) | (obtain rfl : w = 16 := (by omega); rfl)), rfl⟩)
  · refine z_tabIn (off := 205) (tgt := 206) hx hb dX6_wholeValue_1 13 hc_1 (by decide) (by decide) rfl (by decide) ?_
    refine lv_aload_n hx hb dX6_wholeValue_206 rfl (lv_at hl 0 rfl) ?_
    refine va_get (D := D) (ci := 5) (v := .ref (a 6)) (C := RX6) (T := TX6) (N := 3) hx hb hts hin_X6 hown hK hP 0 rfl rfl 1 (by decide) hf_3 (fun _ h9 => h9) rfl dX6_wholeValue_207 ?_
    refine va_get (D := D) (ci := 0) (v := .ref (a 8)) (C := RX1) (T := TX1) (N := 12) hx hb hts hin_X1 hown hK hP 6 rfl rfl 1 (by decide) hf_11 (fun _ h9 => h9) rfl dX6_wholeValue_210 ?_
    refine z_iconst hx hb dX6_wholeValue_213 ?_
    refine z_iald (g := fun x => M x) (v := M 0) hx hb hK hP 8 rfl (by decide) (by omega) rfl dX6_wholeValue_214 ?_
    exact z_iret hx hb hr hlocks hP hD hS ⟨Nat.le_of_ble_eq_true rfl, Nat.le_of_ble_eq_true rfl⟩ dX6_wholeValue_215 (⟨congrArg (fun z => some (Value.int (zI z))) (by unfold sp_whole; first | (subst hc_1; rfl) | (obtain rfl : w = 16 := (by omega); rfl)), rfl⟩)
  · refine z_tabIn (off := 215) (tgt := 216) hx hb dX6_wholeValue_1 14 hc_1 (by decide) (by decide) rfl (by decide) ?_
    refine lv_aload_n hx hb dX6_wholeValue_216 rfl (lv_at hl 0 rfl) ?_
    refine va_get (D := D) (ci := 5) (v := .ref (a 6)) (C := RX6) (T := TX6) (N := 3) hx hb hts hin_X6 hown hK hP 0 rfl rfl 1 (by decide) hf_3 (fun _ h9 => h9) rfl dX6_wholeValue_217 ?_
    refine va_get (D := D) (ci := 0) (v := .ref (a 8)) (C := RX1) (T := TX1) (N := 12) hx hb hts hin_X1 hown hK hP 6 rfl rfl 1 (by decide) hf_11 (fun _ h9 => h9) rfl dX6_wholeValue_220 ?_
    refine z_iconst hx hb dX6_wholeValue_223 ?_
    refine z_iald (g := fun x => M x) (v := M 1) hx hb hK hP 8 rfl (by decide) (by omega) rfl dX6_wholeValue_224 ?_
    exact z_iret hx hb hr hlocks hP hD hS ⟨Nat.le_of_ble_eq_true rfl, Nat.le_of_ble_eq_true rfl⟩ dX6_wholeValue_225 (⟨congrArg (fun z => some (Value.int (zI z))) (by unfold sp_whole; first | (subst hc_1; rfl) | (obtain rfl : w = 16 := (by omega); rfl)), rfl⟩)
  · refine z_tabIn (off := 225) (tgt := 226) hx hb dX6_wholeValue_1 15 hc_1 (by decide) (by decide) rfl (by decide) ?_
    refine lv_aload_n hx hb dX6_wholeValue_226 rfl (lv_at hl 0 rfl) ?_
    refine va_get (D := D) (ci := 5) (v := .ref (a 6)) (C := RX6) (T := TX6) (N := 3) hx hb hts hin_X6 hown hK hP 0 rfl rfl 1 (by decide) hf_3 (fun _ h9 => h9) rfl dX6_wholeValue_227 ?_
    refine va_get (D := D) (ci := 0) (v := .ref (a 8)) (C := RX1) (T := TX1) (N := 12) hx hb hts hin_X1 hown hK hP 6 rfl rfl 1 (by decide) hf_11 (fun _ h9 => h9) rfl dX6_wholeValue_230 ?_
    refine z_iconst hx hb dX6_wholeValue_233 ?_
    refine z_iald (g := fun x => M x) (v := M 2) hx hb hK hP 8 rfl (by decide) (by omega) rfl dX6_wholeValue_234 ?_
    exact z_iret hx hb hr hlocks hP hD hS ⟨Nat.le_of_ble_eq_true rfl, Nat.le_of_ble_eq_true rfl⟩ dX6_wholeValue_235 (⟨congrArg (fun z => some (Value.int (zI z))) (by unfold sp_whole; first | (subst hc_1; rfl) | (obtain rfl : w = 16 := (by omega); rfl)), rfl⟩)
  · refine z_tabOut (tgt := 236) hx hb dX6_wholeValue_1 (by omega) (by omega) (by decide) ?_
    refine lv_aload_n hx hb dX6_wholeValue_236 rfl (lv_at hl 0 rfl) ?_
    refine va_get (D := D) (ci := 5) (v := .ref (a 9)) (C := RX6) (T := TX6) (N := 3) hx hb hts hin_X6 hown hK hP 0 rfl rfl 2 (by decide) hf_12 (fun _ h9 => h9) rfl dX6_wholeValue_237 ?_
    refine va_get (D := D) (ci := 2) (v := .int (zI (M 15))) (C := RX3) (T := TX3) (N := 2) hx hb hts hin_X3 hown hK hP 9 rfl rfl 0 (by decide) hf_13 (fun _ h9 => h9) rfl dX6_wholeValue_240 ?_
    exact z_iret hx hb hr hlocks hP hD hS ⟨Nat.le_of_ble_eq_true rfl, Nat.le_of_ble_eq_true rfl⟩ dX6_wholeValue_243 (⟨congrArg (fun z => some (Value.int (zI z))) (by unfold sp_whole; first | (subst hc_1; rfl) | (obtain rfl : w = 16 := (by omega); rfl)), rfl⟩)
theorem k_X3_append : yX3_append.cls ≠ "java/lang/invoke/MethodHandle" ∧ yX3_append.cls ≠ "java/lang/invoke/VarHandle" ∧ (parseMethodDescriptor yX3_append.desc).map (fun d => d.parameters.length) = some 4 := by decide +kernel
set_option maxHeartbeats 4000000 in
set_option maxRecDepth 100000 in
theorem c_X6_endDay (l : Launch) (D : va_G) (ct ad : Nat → Nat) (a : Nat → Nat) (M : Int → Int) (r : Int) (hI : gInv M) (hB : bInv M) (h1 : -2147483648 ≤ r ∧ r ≤ 2147483647) (hr9 : r = sp_rateM M) : ZM l yX6_endDay wsX6_endDay ({ frames := 2, cells := 0, slots := 0, locals := 43 } : Room) D ct ad [.ref (a 0), .int (zI r)] (sobjW a ++ (gridW ct a M ++ (benchW ct a M ++ (logW ct a M)))) (zD none (sobjW a ++ (gridW ct a (sp_end M) ++ (benchW ct a (sp_end M) ++ (logW ct a (sp_end M)))))) := by
  refine ZM.of (cc := cX6_endDay) (maxL := 2) (ret := none) (by decide +kernel) rfl (Nat.le_of_ble_eq_true rfl) ?_
  intro p e s m below meth c A ls hx hb hr hts hown hlocks hml hname hE hP hD hA hS hl
  have hK := hE.1
  have hf_0 := hts (.fieldLink RX6 28 "RodGrids$State" "log" "LRodGrids$DayLog;") (by decide +kernel)
  have hf_1 := hts (.fieldLink RX6 21 "RodGrids$State" "bench" "LRodGrids$Bench;") (by decide +kernel)
  have hf_2 := hts (.fieldLink RX6 52 "RodGrids$Bench" "warmth" "I") (by decide +kernel)
  have hf_3 := hts (.fieldLink RX6 119 "RodGrids$Bench" "rateSum" "J") (by decide +kernel)
  have hf_4 := hts (.fieldLink RX6 130 "RodGrids$Bench" "rateSumBefore" "J") (by decide +kernel)
  have hf_5 := hts (.fieldLink RX6 79 "RodGrids$Bench" "went" "I") (by decide +kernel)
  have hf_6 := hts (.fieldLink RX6 133 "RodGrids$Bench" "wentBefore" "I") (by decide +kernel)
  have hin_X1 : ∀ z ∈ u_ws RX1 TX1 12, z ∈ wsX6_endDay := by decide +kernel
  have hin_X6 : ∀ z ∈ u_ws RX6 TX6 3, z ∈ wsX6_endDay := by decide +kernel
  have hl : lv_has ls 2 [(0, .ref (a 0)), (1, .int (zI r))] := hl
  have i3 := hI.1
  have i4 := hI.2.1
  have j0 := hB.1
  have j1 := hB.2.1
  have j2 := hB.2.2.1
  have j4 := hB.2.2.2.2
  refine lv_aload_n hx hb dX6_endDay_0 rfl (lv_at hl 0 rfl) ?_
  refine va_get (D := D) (ci := 5) (v := .ref (a 9)) (C := RX6) (T := TX6) (N := 3) hx hb hts hin_X6 hown hK hP 0 rfl rfl 2 (by decide) hf_0 (fun _ h9 => h9) rfl dX6_endDay_1 ?_
  refine lv_aload_n hx hb dX6_endDay_4 rfl (lv_at hl 0 rfl) ?_
  refine va_get (D := D) (ci := 5) (v := .ref (a 6)) (C := RX6) (T := TX6) (N := 3) hx hb hts hin_X6 hown hK hP 0 rfl rfl 1 (by decide) hf_1 (fun _ h9 => h9) rfl dX6_endDay_5 ?_
  refine va_get (D := D) (ci := 0) (v := .int (zI (M 6))) (C := RX1) (T := TX1) (N := 12) hx hb hts hin_X1 hown hK hP 6 rfl rfl 3 (by decide) hf_2 (fun _ h9 => h9) rfl dX6_endDay_8 ?_
  refine lv_iload_n hx hb dX6_endDay_11 rfl (lv_at hl 1 rfl) ?_
  refine lv_aload_n hx hb dX6_endDay_12 rfl (lv_at hl 0 rfl) ?_
  refine va_get (D := D) (ci := 5) (v := .ref (a 6)) (C := RX6) (T := TX6) (N := 3) hx hb hts hin_X6 hown hK hP 0 rfl rfl 1 (by decide) hf_1 (fun _ h9 => h9) rfl dX6_endDay_13 ?_
  refine va_get (D := D) (ci := 0) (v := .long (zJ (M 12))) (C := RX1) (T := TX1) (N := 12) hx hb hts hin_X1 hown hK hP 6 rfl rfl 9 (by decide) hf_3 (fun _ h9 => h9) rfl dX6_endDay_16 ?_
  refine lv_aload_n hx hb dX6_endDay_19 rfl (lv_at hl 0 rfl) ?_
  refine va_get (D := D) (ci := 5) (v := .ref (a 6)) (C := RX6) (T := TX6) (N := 3) hx hb hts hin_X6 hown hK hP 0 rfl rfl 1 (by decide) hf_1 (fun _ h9 => h9) rfl dX6_endDay_20 ?_
  refine va_get (D := D) (ci := 0) (v := .long (zJ (M 13))) (C := RX1) (T := TX1) (N := 12) hx hb hts hin_X1 hown hK hP 6 rfl rfl 10 (by decide) hf_4 (fun _ h9 => h9) rfl dX6_endDay_23 ?_
  refine z_lsub hx hb dX6_endDay_26 ?_
  refine lv_aload_n hx hb dX6_endDay_27 rfl (lv_at hl 0 rfl) ?_
  refine va_get (D := D) (ci := 5) (v := .ref (a 6)) (C := RX6) (T := TX6) (N := 3) hx hb hts hin_X6 hown hK hP 0 rfl rfl 1 (by decide) hf_1 (fun _ h9 => h9) rfl dX6_endDay_28 ?_
  refine va_get (D := D) (ci := 0) (v := .int (zI (M 10))) (C := RX1) (T := TX1) (N := 12) hx hb hts hin_X1 hown hK hP 6 rfl rfl 7 (by decide) hf_5 (fun _ h9 => h9) rfl dX6_endDay_31 ?_
  refine lv_aload_n hx hb dX6_endDay_34 rfl (lv_at hl 0 rfl) ?_
  refine va_get (D := D) (ci := 5) (v := .ref (a 6)) (C := RX6) (T := TX6) (N := 3) hx hb hts hin_X6 hown hK hP 0 rfl rfl 1 (by decide) hf_1 (fun _ h9 => h9) rfl dX6_endDay_35 ?_
  refine va_get (D := D) (ci := 0) (v := .int (zI (M 14))) (C := RX1) (T := TX1) (N := 12) hx hb hts hin_X1 hown hK hP 6 rfl rfl 11 (by decide) hf_6 (fun _ h9 => h9) rfl dX6_endDay_38 ?_
  refine z_isub hx hb dX6_endDay_41 ?_
  refine z_callV (C := RX3) (q0 := 0) (ci := 2) (As := [.int (zI (M 6)), .int (zI r), .long (zJ ((M 12) - (M 13))), .int (zI ((M 10) - (M 14)))]) (rest := []) (sobjW a ++ (gridW ct a M ++ (benchW ct a M))) ([] : va_W) hx hb hml hown hts hl hE hS hA (zr0 (sobjW a ++ (gridW ct a M ++ (benchW ct a M))) hP) (zr0D (sobjW a ++ (gridW ct a M ++ (benchW ct a M))) hD) (c_X3_append l D ct ad a M (M 6) r ((M 12) - (M 13)) ((M 10) - (M 14)) (by omega) (by omega) (by omega) (by omega)) gX6_endDay_X3_append rfl rfl k_X3_append ⟨Nat.le_of_ble_eq_true rfl, Nat.le_of_ble_eq_true rfl⟩ rfl rfl rfl rfl (Nat.le_of_ble_eq_true rfl) ⟨Nat.le_of_ble_eq_true rfl, Nat.le_of_ble_eq_true rfl⟩ dX6_endDay_42 rfl (fun v w1 H locs hpost hP hD hS => ?_)
  obtain ⟨rfl, rfl⟩ := hpost
  have hP := zr0' hP
  have hD := zr0D' hD
  have hP : va_P D vwCl (sobjW a ++ (gridW ct a M ++ (benchW ct a M ++ (logW ct a (st_day M (M 6) r ((M 12) - (M 13)) ((M 10) - (M 14))))))) H := hP
  have hD : va_D A (sobjW a ++ (gridW ct a M ++ (benchW ct a M ++ (logW ct a (st_day M (M 6) r ((M 12) - (M 13)) ((M 10) - (M 14))))))) := hD
  have hP : va_P D vwCl (sobjW a ++ (gridW ct a (st_day M (M 6) r ((M 12) - (M 13)) ((M 10) - (M 14))) ++ (benchW ct a (st_day M (M 6) r ((M 12) - (M 13)) ((M 10) - (M 14))) ++ (logW ct a (st_day M (M 6) r ((M 12) - (M 13)) ((M 10) - (M 14))))))) H := by rw [gridW_day, benchW_day]; exact hP
  have hD : va_D A (sobjW a ++ (gridW ct a (st_day M (M 6) r ((M 12) - (M 13)) ((M 10) - (M 14))) ++ (benchW ct a (st_day M (M 6) r ((M 12) - (M 13)) ((M 10) - (M 14))) ++ (logW ct a (st_day M (M 6) r ((M 12) - (M 13)) ((M 10) - (M 14))))))) := by rw [gridW_day, benchW_day]; exact hD
  refine W.eq (g2 := F0 m 45 ls []) rfl ?_
  obtain ⟨Nd, hNd⟩ : ∃ z : Int → Int, z = st_day M (M 6) r ((M 12) - (M 13)) ((M 10) - (M 14)) := ⟨_, rfl⟩
  have hP : va_P D vwCl (sobjW a ++ (gridW ct a Nd ++ (benchW ct a Nd ++ (logW ct a Nd)))) H := by rw [hNd]; exact hP
  have hD : va_D A (sobjW a ++ (gridW ct a Nd ++ (benchW ct a Nd ++ (logW ct a Nd)))) := by rw [hNd]; exact hD
  have d12 : Nd 12 = M 12 := by rw [hNd]; exact day_n (by decide) (by omega)
  have d10 : Nd 10 = M 10 := by rw [hNd]; exact day_n (by decide) (by omega)
  refine lv_aload_n hx hb dX6_endDay_45 rfl (lv_at hl 0 rfl) ?_
  refine va_get (D := D) (ci := 5) (v := .ref (a 6)) (C := RX6) (T := TX6) (N := 3) hx hb hts hin_X6 hown hK hP 0 rfl rfl 1 (by decide) hf_1 (fun _ h9 => h9) rfl dX6_endDay_46 ?_
  refine lv_aload_n hx hb dX6_endDay_49 rfl (lv_at hl 0 rfl) ?_
  refine va_get (D := D) (ci := 5) (v := .ref (a 6)) (C := RX6) (T := TX6) (N := 3) hx hb hts hin_X6 hown hK hP 0 rfl rfl 1 (by decide) hf_1 (fun _ h9 => h9) rfl dX6_endDay_50 ?_
  refine va_get (D := D) (ci := 0) (v := .long (zJ (Nd 12))) (C := RX1) (T := TX1) (N := 12) hx hb hts hin_X1 hown hK hP 6 rfl rfl 9 (by decide) hf_3 (fun _ h9 => h9) rfl dX6_endDay_53 ?_
  refine z_put (ct := ct) (ad := ad) (ci := 0) (v := .long (zJ (Nd 12))) (ty := tyX1 10) (C := RX1) (T := TX1) (N := 12) (w2 := sobjW a ++ (gridW ct a (up Nd 13 (Nd 12)) ++ (benchW ct a (up Nd 13 (Nd 12)) ++ (logW ct a (up Nd 13 (Nd 12)))))) hx hb hts hin_X1 tyX1 tyX1_ok nmX1 hown hE hP hD hS 6 rfl rfl 10 (by decide) hf_4 (fun _ h9 => h9) rfl (by decide +kernel) rfl rfl (Nat.le_of_ble_eq_true rfl) dX6_endDay_56 ((congrArg (fun z => sobjW a ++ (gridW ct a Nd ++ (z ++ (logW ct a Nd)))) (set_bench_13 ct a Nd (Nd 12))).trans (by rw [gridW_up (M := Nd) (j := 13) (v := (Nd 12)) (by omega), logW_up (M := Nd) (j := 13) (v := (Nd 12)) (by omega)])) (fun H locs hP hD hS => ?_)
  refine lv_aload_n hx hb dX6_endDay_59 rfl (lv_at hl 0 rfl) ?_
  refine va_get (D := D) (ci := 5) (v := .ref (a 6)) (C := RX6) (T := TX6) (N := 3) hx hb hts hin_X6 hown hK hP 0 rfl rfl 1 (by decide) hf_1 (fun _ h9 => h9) rfl dX6_endDay_60 ?_
  refine lv_aload_n hx hb dX6_endDay_63 rfl (lv_at hl 0 rfl) ?_
  refine va_get (D := D) (ci := 5) (v := .ref (a 6)) (C := RX6) (T := TX6) (N := 3) hx hb hts hin_X6 hown hK hP 0 rfl rfl 1 (by decide) hf_1 (fun _ h9 => h9) rfl dX6_endDay_64 ?_
  refine va_get (D := D) (ci := 0) (v := .int (zI (Nd 10))) (C := RX1) (T := TX1) (N := 12) hx hb hts hin_X1 hown hK hP 6 rfl rfl 7 (by decide) hf_5 (fun _ h9 => h9) rfl dX6_endDay_67 ?_
  refine z_put (ct := ct) (ad := ad) (ci := 0) (v := .int (zI (Nd 10))) (ty := tyX1 11) (C := RX1) (T := TX1) (N := 12) (w2 := sobjW a ++ (gridW ct a (up (up Nd 13 (Nd 12)) 14 (Nd 10)) ++ (benchW ct a (up (up Nd 13 (Nd 12)) 14 (Nd 10)) ++ (logW ct a (up (up Nd 13 (Nd 12)) 14 (Nd 10)))))) hx hb hts hin_X1 tyX1 tyX1_ok nmX1 hown hE hP hD hS 6 rfl rfl 11 (by decide) hf_6 (fun _ h9 => h9) rfl (by decide +kernel) rfl rfl (Nat.le_of_ble_eq_true rfl) dX6_endDay_70 ((congrArg (fun z => sobjW a ++ (gridW ct a (up Nd 13 (Nd 12)) ++ (z ++ (logW ct a (up Nd 13 (Nd 12)))))) (set_bench_14 ct a (up Nd 13 (Nd 12)) (Nd 10))).trans (by rw [gridW_up (M := (up Nd 13 (Nd 12))) (j := 14) (v := (Nd 10)) (by omega), logW_up (M := (up Nd 13 (Nd 12))) (j := 14) (v := (Nd 10)) (by omega)])) (fun H locs hP hD hS => ?_)
  exact z_vret hx hb hr hlocks hP hD hS ⟨Nat.le_of_ble_eq_true rfl, Nat.le_of_ble_eq_true rfl⟩ dX6_endDay_73 (⟨rfl, by rw [d12, d10, hNd, hr9]; rfl⟩)
theorem k_X1_errorOfClock : yX1_errorOfClock.cls ≠ "java/lang/invoke/MethodHandle" ∧ yX1_errorOfClock.cls ≠ "java/lang/invoke/VarHandle" ∧ (parseMethodDescriptor yX1_errorOfClock.desc).map (fun d => d.parameters.length) = some 0 := by decide +kernel
theorem k_X1_warmthAfterHour : yX1_warmthAfterHour.cls ≠ "java/lang/invoke/MethodHandle" ∧ yX1_warmthAfterHour.cls ≠ "java/lang/invoke/VarHandle" ∧ (parseMethodDescriptor yX1_warmthAfterHour.desc).map (fun d => d.parameters.length) = some 1 := by decide +kernel
theorem k_X6_endDay : yX6_endDay.cls ≠ "java/lang/invoke/MethodHandle" ∧ yX6_endDay.cls ≠ "java/lang/invoke/VarHandle" ∧ (parseMethodDescriptor yX6_endDay.desc).map (fun d => d.parameters.length) = some 1 := by decide +kernel
set_option maxHeartbeats 4000000 in
set_option maxRecDepth 100000 in
theorem c_X6_passHours (l : Launch) (D : va_G) (ct ad : Nat → Nat) (a : Nat → Nat) (M : Int → Int) (h : Int) (hI : gInv M) (hB : bInv M) (h1 : 0 ≤ h ∧ h ≤ 500) (h9 : M 9 + h ≤ 100500) : ZM l yX6_passHours wsX6_passHours ({ frames := 4, cells := 0, slots := 0, locals := 100 } : Room) D ct ad [.ref (a 0), .int (zI h)] (sobjW a ++ (gridW ct a M ++ (benchW ct a M ++ (logW ct a M)))) (zD (some (.int (zI (sp_err (sp_pass M h.toNat))))) (sobjW a ++ (gridW ct a (sp_pass M h.toNat) ++ (benchW ct a (sp_pass M h.toNat) ++ (logW ct a (sp_pass M h.toNat)))))) := by
  refine ZM.of (cc := cX6_passHours) (maxL := 3) (ret := (some .int)) (by decide +kernel) rfl (Nat.le_of_ble_eq_true rfl) ?_
  intro p e s m below meth c A ls hx hb hr hts hown hlocks hml hname hE hP hD hA hS hl
  have hK := hE.1
  have hf_0 := hts (.fieldLink RX6 21 "RodGrids$State" "bench" "LRodGrids$Bench;") (by decide +kernel)
  have hf_1 := hts (.fieldLink RX6 52 "RodGrids$Bench" "warmth" "I") (by decide +kernel)
  have hf_2 := hts (.fieldLink RX6 58 "RodGrids$Bench" "drive" "I") (by decide +kernel)
  have hf_3 := hts (.fieldLink RX6 82 "RodGrids$Bench" "stood" "I") (by decide +kernel)
  have hf_4 := hts (.fieldLink RX6 76 "RodGrids$Bench" "time" "I") (by decide +kernel)
  have hf_5 := hts (.fieldLink RX6 119 "RodGrids$Bench" "rateSum" "J") (by decide +kernel)
  have hf_6 := hts (.fieldLink RX6 79 "RodGrids$Bench" "went" "I") (by decide +kernel)
  have hin_X1 : ∀ z ∈ u_ws RX1 TX1 12, z ∈ wsX6_passHours := by decide +kernel
  have hin_X6 : ∀ z ∈ u_ws RX6 TX6 3, z ∈ wsX6_passHours := by decide +kernel
  have hl : lv_has ls 3 [(0, .ref (a 0)), (1, .int (zI h))] := hl
  have i3 := hI.1
  have i4 := hI.2.1
  have j0 := hB.1
  have j1 := hB.2.1
  have j2 := hB.2.2.1
  have j4 := hB.2.2.2.2
  refine z_iconst hx hb dX6_passHours_0 ?_
  refine lv_istore_n (lv' := [(2, .int (zI 0)), (0, .ref (a 0)), (1, .int (zI h))]) hx hb dX6_passHours_1 rfl hl (by decide) rfl (fun ls hl => ?_)
  refine z_loop (σ := Int × (Int → Int)) (fun x => (h - x.1).toNat) (fun x => (0 ≤ x.1 ∧ x.1 ≤ h) ∧ (x.2 = sp_pass M x.1.toNat)) (fun x => sobjW a ++ (gridW ct a x.2 ++ (benchW ct a x.2 ++ (logW ct a x.2)))) (fun x => [(0, .ref (a 0)), (1, .int (zI h)), (2, .int (zI x.1))]) (fun x => []) (0, M) ⟨(show 0 ≤ 0 ∧ 0 ≤ h from (by omega)), (show M = sp_pass M (0 : Int).toNat from (by rfl))⟩ hP hD hS (lv_sub hl [1, 2, 0] rfl) rfl ?_
  rintro ⟨i, N⟩ hI_2 ih_2 H locs ls hP hD hS hl
  obtain ⟨hi, hN⟩ := hI_2
  have hi : 0 ≤ i ∧ i ≤ h := hi
  have hN : N = sp_pass M i.toNat := hN
  have hP : va_P D vwCl (sobjW a ++ (gridW ct a N ++ (benchW ct a N ++ (logW ct a N)))) H := hP
  have hD : va_D A (sobjW a ++ (gridW ct a N ++ (benchW ct a N ++ (logW ct a N)))) := hD
  have hl : lv_has ls 3 [(0, .ref (a 0)), (1, .int (zI h)), (2, .int (zI i))] := hl
  have qN := sp_passI hI hB i.toNat (by omega)
  rw [← hN] at qN
  obtain ⟨gN, bN, t9⟩ := qN
  have l1 := bN.1
  have l2 := bN.2.1
  have l3 := bN.2.2.1
  have l5 := bN.2.2.2.2
  refine lv_iload_n hx hb dX6_passHours_2 rfl (lv_at hl 2 rfl) ?_
  refine lv_iload_n hx hb dX6_passHours_3 rfl (lv_at hl 1 rfl) ?_
  refine z_icmp_ge (tgt := 165) hx hb dX6_passHours_4 (by decide) (by omega) (by omega) (fun hc_4 => ?_) (fun hc_4 => ?_)
  · have hc_4 := hc_4
    refine lv_aload_n hx hb dX6_passHours_165 rfl (lv_at hl 0 rfl) ?_
    refine va_get (D := D) (ci := 5) (v := .ref (a 6)) (C := RX6) (T := TX6) (N := 3) hx hb hts hin_X6 hown hK hP 0 rfl rfl 1 (by decide) hf_0 (fun _ h9 => h9) rfl dX6_passHours_166 ?_
    refine z_callV (C := RX1) (q0 := 0) (ci := 0) (As := []) (rest := []) (sobjW a ++ (gridW ct a N)) (logW ct a N) hx hb hml hown hts hl hE hS hA hP hD (c_X1_errorOfClock l D ct ad a N (by assumption)) gX6_passHours_X1_errorOfClock rfl rfl k_X1_errorOfClock ⟨Nat.le_of_ble_eq_true rfl, Nat.le_of_ble_eq_true rfl⟩ rfl rfl rfl rfl (Nat.le_of_ble_eq_true rfl) ⟨Nat.le_of_ble_eq_true rfl, Nat.le_of_ble_eq_true rfl⟩ dX6_passHours_169 rfl (fun v w1 H locs hpost hP hD hS => ?_)
    obtain ⟨rfl, rfl⟩ := hpost
    have hP : va_P D vwCl (sobjW a ++ (gridW ct a N ++ (benchW ct a N ++ (logW ct a N)))) H := hP
    have hD : va_D A (sobjW a ++ (gridW ct a N ++ (benchW ct a N ++ (logW ct a N)))) := hD
    refine W.eq (g2 := F0 m 172 ls [.int (zI (sp_err N))]) rfl ?_
    exact z_iret hx hb hr hlocks hP hD hS ⟨Nat.le_of_ble_eq_true rfl, Nat.le_of_ble_eq_true rfl⟩ dX6_passHours_172 (⟨congrArg (fun z => some (Value.int (zI z))) (by rw [hN, show i = h by omega]), by rw [hN, show i = h by omega]⟩)
  · have hc_4 := hc_4
    refine lv_aload_n hx hb dX6_passHours_7 rfl (lv_at hl 0 rfl) ?_
    refine va_get (D := D) (ci := 5) (v := .ref (a 6)) (C := RX6) (T := TX6) (N := 3) hx hb hts hin_X6 hown hK hP 0 rfl rfl 1 (by decide) hf_0 (fun _ h9 => h9) rfl dX6_passHours_8 ?_
    refine lv_aload_n hx hb dX6_passHours_11 rfl (lv_at hl 0 rfl) ?_
    refine va_get (D := D) (ci := 5) (v := .ref (a 6)) (C := RX6) (T := TX6) (N := 3) hx hb hts hin_X6 hown hK hP 0 rfl rfl 1 (by decide) hf_0 (fun _ h9 => h9) rfl dX6_passHours_12 ?_
    refine lv_aload_n hx hb dX6_passHours_15 rfl (lv_at hl 0 rfl) ?_
    refine va_get (D := D) (ci := 5) (v := .ref (a 6)) (C := RX6) (T := TX6) (N := 3) hx hb hts hin_X6 hown hK hP 0 rfl rfl 1 (by decide) hf_0 (fun _ h9 => h9) rfl dX6_passHours_16 ?_
    refine va_get (D := D) (ci := 0) (v := .int (zI (N 6))) (C := RX1) (T := TX1) (N := 12) hx hb hts hin_X1 hown hK hP 6 rfl rfl 3 (by decide) hf_1 (fun _ h9 => h9) rfl dX6_passHours_19 ?_
    refine z_callV (C := RX1) (q0 := 0) (ci := 0) (As := [.int (zI (N 6))]) (rest := [.ref (a 6)]) (sobjW a ++ (gridW ct a N)) (logW ct a N) hx hb hml hown hts hl hE hS hA hP hD (c_X1_warmthAfterHour l D ct ad a N (N 6) (by assumption) (by omega)) gX6_passHours_X1_warmthAfterHour rfl rfl k_X1_warmthAfterHour ⟨Nat.le_of_ble_eq_true rfl, Nat.le_of_ble_eq_true rfl⟩ rfl rfl rfl rfl (Nat.le_of_ble_eq_true rfl) ⟨Nat.le_of_ble_eq_true rfl, Nat.le_of_ble_eq_true rfl⟩ dX6_passHours_22 rfl (fun v w1 H locs hpost hP hD hS => ?_)
    obtain ⟨rfl, rfl⟩ := hpost
    have hP : va_P D vwCl (sobjW a ++ (gridW ct a N ++ (benchW ct a N ++ (logW ct a N)))) H := hP
    have hD : va_D A (sobjW a ++ (gridW ct a N ++ (benchW ct a N ++ (logW ct a N)))) := hD
    refine W.eq (g2 := F0 m 25 ls [.int (zI (sp_warm N (N 6))), .ref (a 6)]) rfl ?_
    refine z_put (ct := ct) (ad := ad) (ci := 0) (v := .int (zI (sp_warm N (N 6)))) (ty := tyX1 3) (C := RX1) (T := TX1) (N := 12) (w2 := sobjW a ++ (gridW ct a (up N 6 (sp_warm N (N 6))) ++ (benchW ct a (up N 6 (sp_warm N (N 6))) ++ (logW ct a (up N 6 (sp_warm N (N 6))))))) hx hb hts hin_X1 tyX1 tyX1_ok nmX1 hown hE hP hD hS 6 rfl rfl 3 (by decide) hf_1 (fun _ h9 => h9) rfl (by decide +kernel) rfl rfl (Nat.le_of_ble_eq_true rfl) dX6_passHours_25 ((congrArg (fun z => sobjW a ++ (gridW ct a N ++ (z ++ (logW ct a N)))) (set_bench_6 ct a N (sp_warm N (N 6)))).trans (by rw [gridW_up (M := N) (j := 6) (v := (sp_warm N (N 6))) (by omega), logW_up (M := N) (j := 6) (v := (sp_warm N (N 6))) (by omega)])) (fun H locs hP hD hS => ?_)
    obtain ⟨N1, hN1⟩ : ∃ z : Int → Int, z = up N 6 (sp_warm N (N 6)) := ⟨_, rfl⟩
    have hP : va_P D vwCl (sobjW a ++ (gridW ct a N1 ++ (benchW ct a N1 ++ (logW ct a N1)))) H := by rw [hN1]; exact hP
    have hD : va_D A (sobjW a ++ (gridW ct a N1 ++ (benchW ct a N1 ++ (logW ct a N1)))) := by rw [hN1]; exact hD
    have eN1 : N1 = sp_h1 N := hN1
    have g1 : gInv N1 := by rw [eN1]; exact gInv_h1 gN
    have b1 : bInv N1 := by rw [eN1]; exact bInv_h1 bN
    have k1 := b1.1
    have k2 := b1.2.1
    have k3 := b1.2.2.1
    have k5 := b1.2.2.2.2
    have n9 : N1 9 = N 9 := by rw [eN1]; exact h1_n (by decide)
    have r1 := sp_rateB (len := sp_len N1 (N1 6)) b1 k2.2.2.2
    refine lv_aload_n hx hb dX6_passHours_28 rfl (lv_at hl 0 rfl) ?_
    refine va_get (D := D) (ci := 5) (v := .ref (a 6)) (C := RX6) (T := TX6) (N := 3) hx hb hts hin_X6 hown hK hP 0 rfl rfl 1 (by decide) hf_0 (fun _ h9 => h9) rfl dX6_passHours_29 ?_
    refine va_get (D := D) (ci := 0) (v := .int (zI (N1 8))) (C := RX1) (T := TX1) (N := 12) hx hb hts hin_X1 hown hK hP 6 rfl rfl 5 (by decide) hf_2 (fun _ h9 => h9) rfl dX6_passHours_32 ?_
    refine z_if_le (tgt := 98) hx hb dX6_passHours_35 (by decide) (by omega) (fun hc_35 => ?_) (fun hc_35 => ?_)
    · have hc_35 := hc_35
      refine lv_aload_n hx hb dX6_passHours_98 rfl (lv_at hl 0 rfl) ?_
      refine va_get (D := D) (ci := 5) (v := .ref (a 6)) (C := RX6) (T := TX6) (N := 3) hx hb hts hin_X6 hown hK hP 0 rfl rfl 1 (by decide) hf_0 (fun _ h9 => h9) rfl dX6_passHours_99 ?_
      refine lv_dup hx hb dX6_passHours_102 rfl ?_
      refine va_get (D := D) (ci := 0) (v := .int (zI (N1 11))) (C := RX1) (T := TX1) (N := 12) hx hb hts hin_X1 hown hK hP 6 rfl rfl 8 (by decide) hf_3 (fun _ h9 => h9) rfl dX6_passHours_103 ?_
      refine z_iconst hx hb dX6_passHours_106 ?_
      refine z_iadd hx hb dX6_passHours_107 ?_
      refine z_put (ct := ct) (ad := ad) (ci := 0) (v := .int (zI ((N1 11) + 1))) (ty := tyX1 8) (C := RX1) (T := TX1) (N := 12) (w2 := sobjW a ++ (gridW ct a (up N1 11 ((N1 11) + 1)) ++ (benchW ct a (up N1 11 ((N1 11) + 1)) ++ (logW ct a (up N1 11 ((N1 11) + 1)))))) hx hb hts hin_X1 tyX1 tyX1_ok nmX1 hown hE hP hD hS 6 rfl rfl 8 (by decide) hf_3 (fun _ h9 => h9) rfl (by decide +kernel) rfl rfl (Nat.le_of_ble_eq_true rfl) dX6_passHours_108 ((congrArg (fun z => sobjW a ++ (gridW ct a N1 ++ (z ++ (logW ct a N1)))) (set_bench_11 ct a N1 ((N1 11) + 1))).trans (by rw [gridW_up (M := N1) (j := 11) (v := ((N1 11) + 1)) (by omega), logW_up (M := N1) (j := 11) (v := ((N1 11) + 1)) (by omega)])) (fun H locs hP hD hS => ?_)
      refine lv_aload_n hx hb dX6_passHours_111 rfl (lv_at hl 0 rfl) ?_
      refine va_get (D := D) (ci := 5) (v := .ref (a 6)) (C := RX6) (T := TX6) (N := 3) hx hb hts hin_X6 hown hK hP 0 rfl rfl 1 (by decide) hf_0 (fun _ h9 => h9) rfl dX6_passHours_112 ?_
      refine lv_dup hx hb dX6_passHours_115 rfl ?_
      refine va_get (D := D) (ci := 0) (v := .int (zI (N1 9))) (C := RX1) (T := TX1) (N := 12) hx hb hts hin_X1 hown hK hP 6 rfl rfl 6 (by decide) hf_4 (fun _ h9 => h9) rfl dX6_passHours_116 ?_
      refine z_iconst hx hb dX6_passHours_119 ?_
      refine z_iadd hx hb dX6_passHours_120 ?_
      refine z_put (ct := ct) (ad := ad) (ci := 0) (v := .int (zI ((N1 9) + 1))) (ty := tyX1 6) (C := RX1) (T := TX1) (N := 12) (w2 := sobjW a ++ (gridW ct a (up (up N1 11 ((N1 11) + 1)) 9 ((N1 9) + 1)) ++ (benchW ct a (up (up N1 11 ((N1 11) + 1)) 9 ((N1 9) + 1)) ++ (logW ct a (up (up N1 11 ((N1 11) + 1)) 9 ((N1 9) + 1)))))) hx hb hts hin_X1 tyX1 tyX1_ok nmX1 hown hE hP hD hS 6 rfl rfl 6 (by decide) hf_4 (fun _ h9 => h9) rfl (by decide +kernel) rfl rfl (Nat.le_of_ble_eq_true rfl) dX6_passHours_121 ((congrArg (fun z => sobjW a ++ (gridW ct a (up N1 11 ((N1 11) + 1)) ++ (z ++ (logW ct a (up N1 11 ((N1 11) + 1)))))) (set_bench_9 ct a (up N1 11 ((N1 11) + 1)) ((N1 9) + 1))).trans (by rw [gridW_up (M := (up N1 11 ((N1 11) + 1))) (j := 9) (v := ((N1 9) + 1)) (by omega), logW_up (M := (up N1 11 ((N1 11) + 1))) (j := 9) (v := ((N1 9) + 1)) (by omega)])) (fun H locs hP hD hS => ?_)
      obtain ⟨N3, hN3⟩ : ∃ z : Int → Int, z = up (up N1 11 ((N1 11) + 1)) 9 ((N1 9) + 1) := ⟨_, rfl⟩
      have hP : va_P D vwCl (sobjW a ++ (gridW ct a N3 ++ (benchW ct a N3 ++ (logW ct a N3)))) H := by rw [hN3]; exact hP
      have hD : va_D A (sobjW a ++ (gridW ct a N3 ++ (benchW ct a N3 ++ (logW ct a N3)))) := by rw [hN3]; exact hD
      have eN3 : N3 = sp_h3 N1 := by rw [hN3]; unfold sp_h3 sp_h2; rw [if_neg (by omega)]; all_goals rfl
      have g3 : gInv N3 := by rw [eN3]; exact gInv_h3 g1
      have b3 : bInv N3 := by rw [eN3]; exact bInv_h3 b1 (by omega)
      have m1 := b3.1
      have m2 := b3.2.1
      have m3 := b3.2.2.1
      have m5 := b3.2.2.2.2
      have e9 : N3 9 = N1 9 + 1 := by rw [eN3]; exact h3_9
      have r3 := sp_rateB (len := sp_len N3 (N3 6)) b3 m2.2.2.2
      refine lv_aload_n hx hb dX6_passHours_124 rfl (lv_at hl 0 rfl) ?_
      refine va_get (D := D) (ci := 5) (v := .ref (a 6)) (C := RX6) (T := TX6) (N := 3) hx hb hts hin_X6 hown hK hP 0 rfl rfl 1 (by decide) hf_0 (fun _ h9 => h9) rfl dX6_passHours_125 ?_
      refine va_get (D := D) (ci := 0) (v := .int (zI (N3 9))) (C := RX1) (T := TX1) (N := 12) hx hb hts hin_X1 hown hK hP 6 rfl rfl 6 (by decide) hf_4 (fun _ h9 => h9) rfl dX6_passHours_128 ?_
      refine z_bipush hx hb dX6_passHours_131 (by decide) ?_
      refine z_irem hx hb dX6_passHours_133 (by omega) (by omega) ?_
      refine z_if_ne (tgt := 159) hx hb dX6_passHours_134 (by decide) (by omega) (fun hc_134 => ?_) (fun hc_134 => ?_)
      · have hc_134 := hc_134
        refine z_iinc (k := 2) (lv' := [(2, .int (zI (i + 1))), (0, .ref (a 0)), (1, .int (zI h))]) hx hb dX6_passHours_159 hl rfl (by decide) rfl (fun ls hl => ?_)
        refine lv_goto (tgt := 2) hx hb dX6_passHours_162 (by decide) ?_
        exact ih_2 (i + 1, N3) ⟨(show 0 ≤ (i + 1) ∧ (i + 1) ≤ h from (by omega)), (show N3 = sp_pass M (i + 1).toNat from (by rw [sp_passS hi.1, ← hN, sp_hour, ← eN1, ← eN3]; first | exact (if_pos (by omega)).symm | exact (if_neg (by omega)).symm))⟩ (show (h - (i + 1)).toNat < (h - i).toNat from (by omega)) _ _ _ hP hD hS (lv_sub hl [1, 2, 0] rfl)
      · have hc_134 := hc_134
        refine lv_aload_n hx hb dX6_passHours_137 rfl (lv_at hl 0 rfl) ?_
        refine lv_aload_n hx hb dX6_passHours_138 rfl (lv_at hl 0 rfl) ?_
        refine lv_aload_n hx hb dX6_passHours_139 rfl (lv_at hl 0 rfl) ?_
        refine va_get (D := D) (ci := 5) (v := .ref (a 6)) (C := RX6) (T := TX6) (N := 3) hx hb hts hin_X6 hown hK hP 0 rfl rfl 1 (by decide) hf_0 (fun _ h9 => h9) rfl dX6_passHours_140 ?_
        refine va_get (D := D) (ci := 0) (v := .int (zI (N3 6))) (C := RX1) (T := TX1) (N := 12) hx hb hts hin_X1 hown hK hP 6 rfl rfl 3 (by decide) hf_1 (fun _ h9 => h9) rfl dX6_passHours_143 ?_
        refine lv_aload_n hx hb dX6_passHours_146 rfl (lv_at hl 0 rfl) ?_
        refine va_get (D := D) (ci := 5) (v := .ref (a 6)) (C := RX6) (T := TX6) (N := 3) hx hb hts hin_X6 hown hK hP 0 rfl rfl 1 (by decide) hf_0 (fun _ h9 => h9) rfl dX6_passHours_147 ?_
        refine va_get (D := D) (ci := 0) (v := .int (zI (N3 8))) (C := RX1) (T := TX1) (N := 12) hx hb hts hin_X1 hown hK hP 6 rfl rfl 5 (by decide) hf_2 (fun _ h9 => h9) rfl dX6_passHours_150 ?_
        refine z_callV (C := RX6) (q0 := 0) (ci := 5) (As := [.int (zI (N3 6)), .int (zI (N3 8))]) (rest := [.ref (a 0)]) ([] : va_W) ([] : va_W) hx hb hml hown hts hl hE hS hA (zr0 ([] : va_W) hP) (zr0D ([] : va_W) hD) (c_X6_rateFor l D ct ad a N3 (N3 6) (N3 8) (by assumption) (by assumption) (by omega) (by omega)) gX6_passHours_X6_rateFor rfl rfl k_X6_rateFor ⟨Nat.le_of_ble_eq_true rfl, Nat.le_of_ble_eq_true rfl⟩ rfl rfl rfl rfl (Nat.le_of_ble_eq_true rfl) ⟨Nat.le_of_ble_eq_true rfl, Nat.le_of_ble_eq_true rfl⟩ dX6_passHours_153 rfl (fun v w1 H locs hpost hP hD hS => ?_)
        obtain ⟨rfl, rfl⟩ := hpost
        have hP := zr0' hP
        have hD := zr0D' hD
        have hP : va_P D vwCl (sobjW a ++ (gridW ct a N3 ++ (benchW ct a N3 ++ (logW ct a N3)))) H := hP
        have hD : va_D A (sobjW a ++ (gridW ct a N3 ++ (benchW ct a N3 ++ (logW ct a N3)))) := hD
        refine W.eq (g2 := F0 m 156 ls [.int (zI (sp_rate N3 (sp_len N3 (N3 6)) (N3 8))), .ref (a 0)]) rfl ?_
        refine z_callV (C := RX6) (q0 := 0) (ci := 5) (As := [.int (zI (sp_rate N3 (sp_len N3 (N3 6)) (N3 8)))]) (rest := []) ([] : va_W) ([] : va_W) hx hb hml hown hts hl hE hS hA (zr0 ([] : va_W) hP) (zr0D ([] : va_W) hD) (c_X6_endDay l D ct ad a N3 (sp_rate N3 (sp_len N3 (N3 6)) (N3 8)) (by assumption) (by assumption) (by omega) rfl) gX6_passHours_X6_endDay rfl rfl k_X6_endDay ⟨Nat.le_of_ble_eq_true rfl, Nat.le_of_ble_eq_true rfl⟩ rfl rfl rfl rfl (Nat.le_of_ble_eq_true rfl) ⟨Nat.le_of_ble_eq_true rfl, Nat.le_of_ble_eq_true rfl⟩ dX6_passHours_156 rfl (fun v w1 H locs hpost hP hD hS => ?_)
        obtain ⟨rfl, rfl⟩ := hpost
        have hP := zr0' hP
        have hD := zr0D' hD
        have hP : va_P D vwCl (sobjW a ++ (gridW ct a (sp_end N3) ++ (benchW ct a (sp_end N3) ++ (logW ct a (sp_end N3))))) H := hP
        have hD : va_D A (sobjW a ++ (gridW ct a (sp_end N3) ++ (benchW ct a (sp_end N3) ++ (logW ct a (sp_end N3))))) := hD
        refine W.eq (g2 := F0 m 159 ls []) rfl ?_
        refine z_iinc (k := 2) (lv' := [(2, .int (zI (i + 1))), (0, .ref (a 0)), (1, .int (zI h))]) hx hb dX6_passHours_159 hl rfl (by decide) rfl (fun ls hl => ?_)
        refine lv_goto (tgt := 2) hx hb dX6_passHours_162 (by decide) ?_
        exact ih_2 (i + 1, sp_end N3) ⟨(show 0 ≤ (i + 1) ∧ (i + 1) ≤ h from (by omega)), (show (sp_end N3) = sp_pass M (i + 1).toNat from (by rw [sp_passS hi.1, ← hN, sp_hour, ← eN1, ← eN3]; first | exact (if_pos (by omega)).symm | exact (if_neg (by omega)).symm))⟩ (show (h - (i + 1)).toNat < (h - i).toNat from (by omega)) _ _ _ hP hD hS (lv_sub hl [1, 2, 0] rfl)
    · have hc_35 := hc_35
      refine lv_aload_n hx hb dX6_passHours_38 rfl (lv_at hl 0 rfl) ?_
      refine va_get (D := D) (ci := 5) (v := .ref (a 6)) (C := RX6) (T := TX6) (N := 3) hx hb hts hin_X6 hown hK hP 0 rfl rfl 1 (by decide) hf_0 (fun _ h9 => h9) rfl dX6_passHours_39 ?_
      refine lv_dup hx hb dX6_passHours_42 rfl ?_
      refine va_get (D := D) (ci := 0) (v := .long (zJ (N1 12))) (C := RX1) (T := TX1) (N := 12) hx hb hts hin_X1 hown hK hP 6 rfl rfl 9 (by decide) hf_5 (fun _ h9 => h9) rfl dX6_passHours_43 ?_
      refine lv_aload_n hx hb dX6_passHours_46 rfl (lv_at hl 0 rfl) ?_
      refine lv_aload_n hx hb dX6_passHours_47 rfl (lv_at hl 0 rfl) ?_
      refine va_get (D := D) (ci := 5) (v := .ref (a 6)) (C := RX6) (T := TX6) (N := 3) hx hb hts hin_X6 hown hK hP 0 rfl rfl 1 (by decide) hf_0 (fun _ h9 => h9) rfl dX6_passHours_48 ?_
      refine va_get (D := D) (ci := 0) (v := .int (zI (N1 6))) (C := RX1) (T := TX1) (N := 12) hx hb hts hin_X1 hown hK hP 6 rfl rfl 3 (by decide) hf_1 (fun _ h9 => h9) rfl dX6_passHours_51 ?_
      refine lv_aload_n hx hb dX6_passHours_54 rfl (lv_at hl 0 rfl) ?_
      refine va_get (D := D) (ci := 5) (v := .ref (a 6)) (C := RX6) (T := TX6) (N := 3) hx hb hts hin_X6 hown hK hP 0 rfl rfl 1 (by decide) hf_0 (fun _ h9 => h9) rfl dX6_passHours_55 ?_
      refine va_get (D := D) (ci := 0) (v := .int (zI (N1 8))) (C := RX1) (T := TX1) (N := 12) hx hb hts hin_X1 hown hK hP 6 rfl rfl 5 (by decide) hf_2 (fun _ h9 => h9) rfl dX6_passHours_58 ?_
      refine z_callV (C := RX6) (q0 := 0) (ci := 5) (As := [.int (zI (N1 6)), .int (zI (N1 8))]) (rest := [.long (zJ (N1 12)), .ref (a 6)]) ([] : va_W) ([] : va_W) hx hb hml hown hts hl hE hS hA (zr0 ([] : va_W) hP) (zr0D ([] : va_W) hD) (c_X6_rateFor l D ct ad a N1 (N1 6) (N1 8) (by assumption) (by assumption) (by omega) (by omega)) gX6_passHours_X6_rateFor rfl rfl k_X6_rateFor ⟨Nat.le_of_ble_eq_true rfl, Nat.le_of_ble_eq_true rfl⟩ rfl rfl rfl rfl (Nat.le_of_ble_eq_true rfl) ⟨Nat.le_of_ble_eq_true rfl, Nat.le_of_ble_eq_true rfl⟩ dX6_passHours_61 rfl (fun v w1 H locs hpost hP hD hS => ?_)
      obtain ⟨rfl, rfl⟩ := hpost
      have hP := zr0' hP
      have hD := zr0D' hD
      have hP : va_P D vwCl (sobjW a ++ (gridW ct a N1 ++ (benchW ct a N1 ++ (logW ct a N1)))) H := hP
      have hD : va_D A (sobjW a ++ (gridW ct a N1 ++ (benchW ct a N1 ++ (logW ct a N1)))) := hD
      refine W.eq (g2 := F0 m 64 ls [.int (zI (sp_rate N1 (sp_len N1 (N1 6)) (N1 8))), .long (zJ (N1 12)), .ref (a 6)]) rfl ?_
      refine z_i2l hx hb dX6_passHours_64 (by omega) ?_
      refine z_ladd hx hb dX6_passHours_65 ?_
      refine z_put (ct := ct) (ad := ad) (ci := 0) (v := .long (zJ ((N1 12) + (sp_rate N1 (sp_len N1 (N1 6)) (N1 8))))) (ty := tyX1 9) (C := RX1) (T := TX1) (N := 12) (w2 := sobjW a ++ (gridW ct a (up N1 12 ((N1 12) + (sp_rate N1 (sp_len N1 (N1 6)) (N1 8)))) ++ (benchW ct a (up N1 12 ((N1 12) + (sp_rate N1 (sp_len N1 (N1 6)) (N1 8)))) ++ (logW ct a (up N1 12 ((N1 12) + (sp_rate N1 (sp_len N1 (N1 6)) (N1 8)))))))) hx hb hts hin_X1 tyX1 tyX1_ok nmX1 hown hE hP hD hS 6 rfl rfl 9 (by decide) hf_5 (fun _ h9 => h9) rfl (by decide +kernel) rfl rfl (Nat.le_of_ble_eq_true rfl) dX6_passHours_66 ((congrArg (fun z => sobjW a ++ (gridW ct a N1 ++ (z ++ (logW ct a N1)))) (set_bench_12 ct a N1 ((N1 12) + (sp_rate N1 (sp_len N1 (N1 6)) (N1 8))))).trans (by rw [gridW_up (M := N1) (j := 12) (v := ((N1 12) + (sp_rate N1 (sp_len N1 (N1 6)) (N1 8)))) (by omega), logW_up (M := N1) (j := 12) (v := ((N1 12) + (sp_rate N1 (sp_len N1 (N1 6)) (N1 8)))) (by omega)])) (fun H locs hP hD hS => ?_)
      refine lv_aload_n hx hb dX6_passHours_69 rfl (lv_at hl 0 rfl) ?_
      refine va_get (D := D) (ci := 5) (v := .ref (a 6)) (C := RX6) (T := TX6) (N := 3) hx hb hts hin_X6 hown hK hP 0 rfl rfl 1 (by decide) hf_0 (fun _ h9 => h9) rfl dX6_passHours_70 ?_
      refine lv_dup hx hb dX6_passHours_73 rfl ?_
      refine va_get (D := D) (ci := 0) (v := .int (zI (N1 10))) (C := RX1) (T := TX1) (N := 12) hx hb hts hin_X1 hown hK hP 6 rfl rfl 7 (by decide) hf_6 (fun _ h9 => h9) rfl dX6_passHours_74 ?_
      refine z_iconst hx hb dX6_passHours_77 ?_
      refine z_iadd hx hb dX6_passHours_78 ?_
      refine z_put (ct := ct) (ad := ad) (ci := 0) (v := .int (zI ((N1 10) + 1))) (ty := tyX1 7) (C := RX1) (T := TX1) (N := 12) (w2 := sobjW a ++ (gridW ct a (up (up N1 12 ((N1 12) + (sp_rate N1 (sp_len N1 (N1 6)) (N1 8)))) 10 ((N1 10) + 1)) ++ (benchW ct a (up (up N1 12 ((N1 12) + (sp_rate N1 (sp_len N1 (N1 6)) (N1 8)))) 10 ((N1 10) + 1)) ++ (logW ct a (up (up N1 12 ((N1 12) + (sp_rate N1 (sp_len N1 (N1 6)) (N1 8)))) 10 ((N1 10) + 1)))))) hx hb hts hin_X1 tyX1 tyX1_ok nmX1 hown hE hP hD hS 6 rfl rfl 7 (by decide) hf_6 (fun _ h9 => h9) rfl (by decide +kernel) rfl rfl (Nat.le_of_ble_eq_true rfl) dX6_passHours_79 ((congrArg (fun z => sobjW a ++ (gridW ct a (up N1 12 ((N1 12) + (sp_rate N1 (sp_len N1 (N1 6)) (N1 8)))) ++ (z ++ (logW ct a (up N1 12 ((N1 12) + (sp_rate N1 (sp_len N1 (N1 6)) (N1 8)))))))) (set_bench_10 ct a (up N1 12 ((N1 12) + (sp_rate N1 (sp_len N1 (N1 6)) (N1 8)))) ((N1 10) + 1))).trans (by rw [gridW_up (M := (up N1 12 ((N1 12) + (sp_rate N1 (sp_len N1 (N1 6)) (N1 8))))) (j := 10) (v := ((N1 10) + 1)) (by omega), logW_up (M := (up N1 12 ((N1 12) + (sp_rate N1 (sp_len N1 (N1 6)) (N1 8))))) (j := 10) (v := ((N1 10) + 1)) (by omega)])) (fun H locs hP hD hS => ?_)
      refine lv_aload_n hx hb dX6_passHours_82 rfl (lv_at hl 0 rfl) ?_
      refine va_get (D := D) (ci := 5) (v := .ref (a 6)) (C := RX6) (T := TX6) (N := 3) hx hb hts hin_X6 hown hK hP 0 rfl rfl 1 (by decide) hf_0 (fun _ h9 => h9) rfl dX6_passHours_83 ?_
      refine lv_dup hx hb dX6_passHours_86 rfl ?_
      refine va_get (D := D) (ci := 0) (v := .int (zI (N1 8))) (C := RX1) (T := TX1) (N := 12) hx hb hts hin_X1 hown hK hP 6 rfl rfl 5 (by decide) hf_2 (fun _ h9 => h9) rfl dX6_passHours_87 ?_
      refine z_iconst hx hb dX6_passHours_90 ?_
      refine z_isub hx hb dX6_passHours_91 ?_
      refine z_put (ct := ct) (ad := ad) (ci := 0) (v := .int (zI ((N1 8) - 1))) (ty := tyX1 5) (C := RX1) (T := TX1) (N := 12) (w2 := sobjW a ++ (gridW ct a (up (up (up N1 12 ((N1 12) + (sp_rate N1 (sp_len N1 (N1 6)) (N1 8)))) 10 ((N1 10) + 1)) 8 ((N1 8) - 1)) ++ (benchW ct a (up (up (up N1 12 ((N1 12) + (sp_rate N1 (sp_len N1 (N1 6)) (N1 8)))) 10 ((N1 10) + 1)) 8 ((N1 8) - 1)) ++ (logW ct a (up (up (up N1 12 ((N1 12) + (sp_rate N1 (sp_len N1 (N1 6)) (N1 8)))) 10 ((N1 10) + 1)) 8 ((N1 8) - 1)))))) hx hb hts hin_X1 tyX1 tyX1_ok nmX1 hown hE hP hD hS 6 rfl rfl 5 (by decide) hf_2 (fun _ h9 => h9) rfl (by decide +kernel) rfl rfl (Nat.le_of_ble_eq_true rfl) dX6_passHours_92 ((congrArg (fun z => sobjW a ++ (gridW ct a (up (up N1 12 ((N1 12) + (sp_rate N1 (sp_len N1 (N1 6)) (N1 8)))) 10 ((N1 10) + 1)) ++ (z ++ (logW ct a (up (up N1 12 ((N1 12) + (sp_rate N1 (sp_len N1 (N1 6)) (N1 8)))) 10 ((N1 10) + 1)))))) (set_bench_8 ct a (up (up N1 12 ((N1 12) + (sp_rate N1 (sp_len N1 (N1 6)) (N1 8)))) 10 ((N1 10) + 1)) ((N1 8) - 1))).trans (by rw [gridW_up (M := (up (up N1 12 ((N1 12) + (sp_rate N1 (sp_len N1 (N1 6)) (N1 8)))) 10 ((N1 10) + 1))) (j := 8) (v := ((N1 8) - 1)) (by omega), logW_up (M := (up (up N1 12 ((N1 12) + (sp_rate N1 (sp_len N1 (N1 6)) (N1 8)))) 10 ((N1 10) + 1))) (j := 8) (v := ((N1 8) - 1)) (by omega)])) (fun H locs hP hD hS => ?_)
      refine lv_goto (tgt := 111) hx hb dX6_passHours_95 (by decide) ?_
      refine lv_aload_n hx hb dX6_passHours_111 rfl (lv_at hl 0 rfl) ?_
      refine va_get (D := D) (ci := 5) (v := .ref (a 6)) (C := RX6) (T := TX6) (N := 3) hx hb hts hin_X6 hown hK hP 0 rfl rfl 1 (by decide) hf_0 (fun _ h9 => h9) rfl dX6_passHours_112 ?_
      refine lv_dup hx hb dX6_passHours_115 rfl ?_
      refine va_get (D := D) (ci := 0) (v := .int (zI (N1 9))) (C := RX1) (T := TX1) (N := 12) hx hb hts hin_X1 hown hK hP 6 rfl rfl 6 (by decide) hf_4 (fun _ h9 => h9) rfl dX6_passHours_116 ?_
      refine z_iconst hx hb dX6_passHours_119 ?_
      refine z_iadd hx hb dX6_passHours_120 ?_
      refine z_put (ct := ct) (ad := ad) (ci := 0) (v := .int (zI ((N1 9) + 1))) (ty := tyX1 6) (C := RX1) (T := TX1) (N := 12) (w2 := sobjW a ++ (gridW ct a (up (up (up (up N1 12 ((N1 12) + (sp_rate N1 (sp_len N1 (N1 6)) (N1 8)))) 10 ((N1 10) + 1)) 8 ((N1 8) - 1)) 9 ((N1 9) + 1)) ++ (benchW ct a (up (up (up (up N1 12 ((N1 12) + (sp_rate N1 (sp_len N1 (N1 6)) (N1 8)))) 10 ((N1 10) + 1)) 8 ((N1 8) - 1)) 9 ((N1 9) + 1)) ++ (logW ct a (up (up (up (up N1 12 ((N1 12) + (sp_rate N1 (sp_len N1 (N1 6)) (N1 8)))) 10 ((N1 10) + 1)) 8 ((N1 8) - 1)) 9 ((N1 9) + 1)))))) hx hb hts hin_X1 tyX1 tyX1_ok nmX1 hown hE hP hD hS 6 rfl rfl 6 (by decide) hf_4 (fun _ h9 => h9) rfl (by decide +kernel) rfl rfl (Nat.le_of_ble_eq_true rfl) dX6_passHours_121 ((congrArg (fun z => sobjW a ++ (gridW ct a (up (up (up N1 12 ((N1 12) + (sp_rate N1 (sp_len N1 (N1 6)) (N1 8)))) 10 ((N1 10) + 1)) 8 ((N1 8) - 1)) ++ (z ++ (logW ct a (up (up (up N1 12 ((N1 12) + (sp_rate N1 (sp_len N1 (N1 6)) (N1 8)))) 10 ((N1 10) + 1)) 8 ((N1 8) - 1)))))) (set_bench_9 ct a (up (up (up N1 12 ((N1 12) + (sp_rate N1 (sp_len N1 (N1 6)) (N1 8)))) 10 ((N1 10) + 1)) 8 ((N1 8) - 1)) ((N1 9) + 1))).trans (by rw [gridW_up (M := (up (up (up N1 12 ((N1 12) + (sp_rate N1 (sp_len N1 (N1 6)) (N1 8)))) 10 ((N1 10) + 1)) 8 ((N1 8) - 1))) (j := 9) (v := ((N1 9) + 1)) (by omega), logW_up (M := (up (up (up N1 12 ((N1 12) + (sp_rate N1 (sp_len N1 (N1 6)) (N1 8)))) 10 ((N1 10) + 1)) 8 ((N1 8) - 1))) (j := 9) (v := ((N1 9) + 1)) (by omega)])) (fun H locs hP hD hS => ?_)
      obtain ⟨N3, hN3⟩ : ∃ z : Int → Int, z = up (up (up (up N1 12 ((N1 12) + (sp_rate N1 (sp_len N1 (N1 6)) (N1 8)))) 10 ((N1 10) + 1)) 8 ((N1 8) - 1)) 9 ((N1 9) + 1) := ⟨_, rfl⟩
      have hP : va_P D vwCl (sobjW a ++ (gridW ct a N3 ++ (benchW ct a N3 ++ (logW ct a N3)))) H := by rw [hN3]; exact hP
      have hD : va_D A (sobjW a ++ (gridW ct a N3 ++ (benchW ct a N3 ++ (logW ct a N3)))) := by rw [hN3]; exact hD
      have eN3 : N3 = sp_h3 N1 := by rw [hN3]; unfold sp_h3 sp_h2; rw [if_pos (by omega)]; all_goals rfl
      have g3 : gInv N3 := by rw [eN3]; exact gInv_h3 g1
      have b3 : bInv N3 := by rw [eN3]; exact bInv_h3 b1 (by omega)
      have m1 := b3.1
      have m2 := b3.2.1
      have m3 := b3.2.2.1
      have m5 := b3.2.2.2.2
      have e9 : N3 9 = N1 9 + 1 := by rw [eN3]; exact h3_9
      have r3 := sp_rateB (len := sp_len N3 (N3 6)) b3 m2.2.2.2
      refine lv_aload_n hx hb dX6_passHours_124 rfl (lv_at hl 0 rfl) ?_
      refine va_get (D := D) (ci := 5) (v := .ref (a 6)) (C := RX6) (T := TX6) (N := 3) hx hb hts hin_X6 hown hK hP 0 rfl rfl 1 (by decide) hf_0 (fun _ h9 => h9) rfl dX6_passHours_125 ?_
      refine va_get (D := D) (ci := 0) (v := .int (zI (N3 9))) (C := RX1) (T := TX1) (N := 12) hx hb hts hin_X1 hown hK hP 6 rfl rfl 6 (by decide) hf_4 (fun _ h9 => h9) rfl dX6_passHours_128 ?_
      refine z_bipush hx hb dX6_passHours_131 (by decide) ?_
      refine z_irem hx hb dX6_passHours_133 (by omega) (by omega) ?_
      refine z_if_ne (tgt := 159) hx hb dX6_passHours_134 (by decide) (by omega) (fun hc_134 => ?_) (fun hc_134 => ?_)
      · have hc_134 := hc_134
        refine z_iinc (k := 2) (lv' := [(2, .int (zI (i + 1))), (0, .ref (a 0)), (1, .int (zI h))]) hx hb dX6_passHours_159 hl rfl (by decide) rfl (fun ls hl => ?_)
        refine lv_goto (tgt := 2) hx hb dX6_passHours_162 (by decide) ?_
        exact ih_2 (i + 1, N3) ⟨(show 0 ≤ (i + 1) ∧ (i + 1) ≤ h from (by omega)), (show N3 = sp_pass M (i + 1).toNat from (by rw [sp_passS hi.1, ← hN, sp_hour, ← eN1, ← eN3]; first | exact (if_pos (by omega)).symm | exact (if_neg (by omega)).symm))⟩ (show (h - (i + 1)).toNat < (h - i).toNat from (by omega)) _ _ _ hP hD hS (lv_sub hl [1, 2, 0] rfl)
      · have hc_134 := hc_134
        refine lv_aload_n hx hb dX6_passHours_137 rfl (lv_at hl 0 rfl) ?_
        refine lv_aload_n hx hb dX6_passHours_138 rfl (lv_at hl 0 rfl) ?_
        refine lv_aload_n hx hb dX6_passHours_139 rfl (lv_at hl 0 rfl) ?_
        refine va_get (D := D) (ci := 5) (v := .ref (a 6)) (C := RX6) (T := TX6) (N := 3) hx hb hts hin_X6 hown hK hP 0 rfl rfl 1 (by decide) hf_0 (fun _ h9 => h9) rfl dX6_passHours_140 ?_
        refine va_get (D := D) (ci := 0) (v := .int (zI (N3 6))) (C := RX1) (T := TX1) (N := 12) hx hb hts hin_X1 hown hK hP 6 rfl rfl 3 (by decide) hf_1 (fun _ h9 => h9) rfl dX6_passHours_143 ?_
        refine lv_aload_n hx hb dX6_passHours_146 rfl (lv_at hl 0 rfl) ?_
        refine va_get (D := D) (ci := 5) (v := .ref (a 6)) (C := RX6) (T := TX6) (N := 3) hx hb hts hin_X6 hown hK hP 0 rfl rfl 1 (by decide) hf_0 (fun _ h9 => h9) rfl dX6_passHours_147 ?_
        refine va_get (D := D) (ci := 0) (v := .int (zI (N3 8))) (C := RX1) (T := TX1) (N := 12) hx hb hts hin_X1 hown hK hP 6 rfl rfl 5 (by decide) hf_2 (fun _ h9 => h9) rfl dX6_passHours_150 ?_
        refine z_callV (C := RX6) (q0 := 0) (ci := 5) (As := [.int (zI (N3 6)), .int (zI (N3 8))]) (rest := [.ref (a 0)]) ([] : va_W) ([] : va_W) hx hb hml hown hts hl hE hS hA (zr0 ([] : va_W) hP) (zr0D ([] : va_W) hD) (c_X6_rateFor l D ct ad a N3 (N3 6) (N3 8) (by assumption) (by assumption) (by omega) (by omega)) gX6_passHours_X6_rateFor rfl rfl k_X6_rateFor ⟨Nat.le_of_ble_eq_true rfl, Nat.le_of_ble_eq_true rfl⟩ rfl rfl rfl rfl (Nat.le_of_ble_eq_true rfl) ⟨Nat.le_of_ble_eq_true rfl, Nat.le_of_ble_eq_true rfl⟩ dX6_passHours_153 rfl (fun v w1 H locs hpost hP hD hS => ?_)
        obtain ⟨rfl, rfl⟩ := hpost
        have hP := zr0' hP
        have hD := zr0D' hD
        have hP : va_P D vwCl (sobjW a ++ (gridW ct a N3 ++ (benchW ct a N3 ++ (logW ct a N3)))) H := hP
        have hD : va_D A (sobjW a ++ (gridW ct a N3 ++ (benchW ct a N3 ++ (logW ct a N3)))) := hD
        refine W.eq (g2 := F0 m 156 ls [.int (zI (sp_rate N3 (sp_len N3 (N3 6)) (N3 8))), .ref (a 0)]) rfl ?_
        refine z_callV (C := RX6) (q0 := 0) (ci := 5) (As := [.int (zI (sp_rate N3 (sp_len N3 (N3 6)) (N3 8)))]) (rest := []) ([] : va_W) ([] : va_W) hx hb hml hown hts hl hE hS hA (zr0 ([] : va_W) hP) (zr0D ([] : va_W) hD) (c_X6_endDay l D ct ad a N3 (sp_rate N3 (sp_len N3 (N3 6)) (N3 8)) (by assumption) (by assumption) (by omega) rfl) gX6_passHours_X6_endDay rfl rfl k_X6_endDay ⟨Nat.le_of_ble_eq_true rfl, Nat.le_of_ble_eq_true rfl⟩ rfl rfl rfl rfl (Nat.le_of_ble_eq_true rfl) ⟨Nat.le_of_ble_eq_true rfl, Nat.le_of_ble_eq_true rfl⟩ dX6_passHours_156 rfl (fun v w1 H locs hpost hP hD hS => ?_)
        obtain ⟨rfl, rfl⟩ := hpost
        have hP := zr0' hP
        have hD := zr0D' hD
        have hP : va_P D vwCl (sobjW a ++ (gridW ct a (sp_end N3) ++ (benchW ct a (sp_end N3) ++ (logW ct a (sp_end N3))))) H := hP
        have hD : va_D A (sobjW a ++ (gridW ct a (sp_end N3) ++ (benchW ct a (sp_end N3) ++ (logW ct a (sp_end N3))))) := hD
        refine W.eq (g2 := F0 m 159 ls []) rfl ?_
        refine z_iinc (k := 2) (lv' := [(2, .int (zI (i + 1))), (0, .ref (a 0)), (1, .int (zI h))]) hx hb dX6_passHours_159 hl rfl (by decide) rfl (fun ls hl => ?_)
        refine lv_goto (tgt := 2) hx hb dX6_passHours_162 (by decide) ?_
        exact ih_2 (i + 1, sp_end N3) ⟨(show 0 ≤ (i + 1) ∧ (i + 1) ≤ h from (by omega)), (show (sp_end N3) = sp_pass M (i + 1).toNat from (by rw [sp_passS hi.1, ← hN, sp_hour, ← eN1, ← eN3]; first | exact (if_pos (by omega)).symm | exact (if_neg (by omega)).symm))⟩ (show (h - (i + 1)).toNat < (h - i).toNat from (by omega)) _ _ _ hP hD hS (lv_sub hl [1, 2, 0] rfl)
