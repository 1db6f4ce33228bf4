theorem k_X4_checkMetal : yX4_checkMetal.cls ≠ "java/lang/invoke/MethodHandle" ∧ yX4_checkMetal.cls ≠ "java/lang/invoke/VarHandle" ∧ (parseMethodDescriptor yX4_checkMetal.desc).map (fun d => d.parameters.length) = some 1 := by decide +kernel
set_option maxHeartbeats 4000000 in
set_option maxRecDepth 100000 in
theorem c_X8_stretch (l : Launch) (D : va_G) (ct ad : Nat → Nat) (u : Nat) (a r q : Nat → Nat) (b : Nat → Nat → Nat) (nx sz : Int) (S : Nat → Int → Int) (M TX : Int → Int) (tl pl ft n1 n2 : Int) (wd : Value) (k : Int) (hs : sInv M) (h1 : -2147483648 ≤ k ∧ k ≤ 2147483647) (hok : 0 ≤ k ∧ k < M 3) : ZM l yX8_stretch wsX8_stretch ({ frames := 3, cells := 0, slots := 0, locals := 64 } : Room) D ct ad [.ref u, .int (zI k)] (x8W u a r q ++ (svW ct r b nx sz S ++ (sobjW a ++ (gridW ct a M ++ (benchW ct a M ++ (logW ct a M ++ (txtW ct q TX tl pl ft wd n1 n2))))))) (zD (some (.int (zI (M (16 + k))))) (x8W u a r q ++ (svW ct r b nx sz S ++ (sobjW a ++ (gridW ct a M ++ (benchW ct a M ++ (logW ct a M ++ (txtW ct q TX tl pl ft wd n1 n2)))))))) := by
  refine ZM.of (cc := cX8_stretch) (maxL := 2) (ret := (some .int)) (by decide +kernel) rfl (Nat.le_of_ble_eq_true rfl) ?_
  intro p e s m below meth c A ls hx hb hr hts hown hlocks hml hname hE hP hD hA hS hl
  have hK := hE.1
  have hf_0 := hts (.fieldLink RX8 10 "RodGrids" "state" "LRodGrids$State;") (by decide +kernel)
  have hf_1 := hts (.fieldLink RX8 30 "RodGrids$State" "grid" "LRodGrids$Grid;") (by decide +kernel)
  have hin_X6 : ∀ z ∈ u_ws RX6 TX6 3, z ∈ wsX8_stretch := by decide +kernel
  have hin_X8 : ∀ z ∈ u_ws RX8 TX8 3, z ∈ wsX8_stretch := by decide +kernel
  have hl : lv_has ls 2 [(0, .ref u), (1, .int (zI k))] := hl
  have hI := hs.1
  have hB := hs.2.1
  have ha := hs.2.2
  have i3 := hI.1
  have i4 := hI.2.1
  have j0 := hB.1
  have j1 := hB.2.1
  have j2 := hB.2.2.1
  have j4 := hB.2.2.2.2
  refine lv_aload_n hx hb dX8_stretch_0 rfl (lv_at hl 0 rfl) ?_
  refine va_get (D := D) (ci := 6) (v := .ref (a 0)) (C := RX8) (T := TX8) (N := 3) hx hb hts hin_X8 hown hK hP 0 rfl rfl 0 (by decide) hf_0 (fun _ h9 => h9) rfl dX8_stretch_1 ?_
  refine va_get (D := D) (ci := 5) (v := .ref (a 1)) (C := RX6) (T := TX6) (N := 3) hx hb hts hin_X6 hown hK hP 47 rfl rfl 0 (by decide) hf_1 (fun _ h9 => h9) rfl dX8_stretch_4 ?_
  refine lv_iload_n hx hb dX8_stretch_7 rfl (lv_at hl 1 rfl) ?_
  refine z_callV (C := RX4) (q0 := 0) (ci := 3) (As := [.int (zI k)]) (rest := []) (x8W u a r q ++ (svW ct r b nx sz S ++ (sobjW a))) (benchW ct a M ++ (logW ct a M ++ (txtW ct q TX tl pl ft wd n1 n2))) hx hb hml hown hts hl hE hS hA hP hD (c_X4_checkMetal l D ct ad a M k (by assumption) (by omega)) gX8_stretch_X4_checkMetal rfl rfl k_X4_checkMetal ⟨Nat.le_of_ble_eq_true rfl, Nat.le_of_ble_eq_true rfl⟩ rfl rfl rfl rfl (Nat.le_of_ble_eq_true rfl) ⟨Nat.le_of_ble_eq_true rfl, Nat.le_of_ble_eq_true rfl⟩ dX8_stretch_8 rfl (fun v w1 H locs hpost hP hD hS => ?_)
  obtain ⟨rfl, rfl⟩ := hpost
  have hP : va_P D vwCl (x8W u a r q ++ (svW ct r b nx sz S ++ (sobjW a ++ (gridW ct a M ++ (benchW ct a M ++ (logW ct a M ++ (txtW ct q TX tl pl ft wd n1 n2))))))) H := hP
  have hD : va_D A (x8W u a r q ++ (svW ct r b nx sz S ++ (sobjW a ++ (gridW ct a M ++ (benchW ct a M ++ (logW ct a M ++ (txtW ct q TX tl pl ft wd n1 n2))))))) := hD
  refine W.eq (g2 := F0 m 11 ls [.int (zI (if 0 ≤ k ∧ k < M 3 then 0 else 1))]) rfl ?_
  refine z_callS (As := [.int (zI (if 0 ≤ k ∧ k < M 3 then 0 else 1))]) (rest := []) ([] : va_W) (x8W u a r q ++ (svW ct r b nx sz S ++ (sobjW a ++ (gridW ct a M ++ (benchW ct a M ++ (logW ct a M ++ (txtW ct q TX tl pl ft wd n1 n2))))))) hx hb hml hown hts hl hE hS hA hP hD (c_X8_refuse l D ct ad (if 0 ≤ k ∧ k < M 3 then 0 else 1) (if_pos hok)) gX8_stretch_X8_refuse rfl k_X8_refuse ⟨Nat.le_of_ble_eq_true rfl, Nat.le_of_ble_eq_true rfl⟩ rfl (Nat.le_of_ble_eq_true rfl) ⟨Nat.le_of_ble_eq_true rfl, Nat.le_of_ble_eq_true rfl⟩ dX8_stretch_11 rfl (fun v w1 H locs hpost hP hD hS => ?_)
  obtain ⟨rfl, rfl⟩ := hpost
  have hP : va_P D vwCl (x8W u a r q ++ (svW ct r b nx sz S ++ (sobjW a ++ (gridW ct a M ++ (benchW ct a M ++ (logW ct a M ++ (txtW ct q TX tl pl ft wd n1 n2))))))) H := hP
  have hD : va_D A (x8W u a r q ++ (svW ct r b nx sz S ++ (sobjW a ++ (gridW ct a M ++ (benchW ct a M ++ (logW ct a M ++ (txtW ct q TX tl pl ft wd n1 n2))))))) := hD
  refine W.eq (g2 := F0 m 14 ls []) rfl ?_
  refine lv_aload_n hx hb dX8_stretch_14 rfl (lv_at hl 0 rfl) ?_
  refine va_get (D := D) (ci := 6) (v := .ref (a 0)) (C := RX8) (T := TX8) (N := 3) hx hb hts hin_X8 hown hK hP 0 rfl rfl 0 (by decide) hf_0 (fun _ h9 => h9) rfl dX8_stretch_15 ?_
  refine va_get (D := D) (ci := 5) (v := .ref (a 1)) (C := RX6) (T := TX6) (N := 3) hx hb hts hin_X6 hown hK hP 47 rfl rfl 0 (by decide) hf_1 (fun _ h9 => h9) rfl dX8_stretch_18 ?_
  refine lv_iload_n hx hb dX8_stretch_21 rfl (lv_at hl 1 rfl) ?_
  refine z_callV (C := RX4) (q0 := 0) (ci := 3) (As := [.int (zI k)]) (rest := []) (x8W u a r q ++ (svW ct r b nx sz S ++ (sobjW a))) (benchW ct a M ++ (logW ct a M ++ (txtW ct q TX tl pl ft wd n1 n2))) hx hb hml hown hts hl hE hS hA hP hD (c_X4_stretchOf l D ct ad a M k (by assumption) (by omega)) gX8_stretch_X4_stretchOf rfl rfl k_X4_stretchOf ⟨Nat.le_of_ble_eq_true rfl, Nat.le_of_ble_eq_true rfl⟩ rfl rfl rfl rfl (Nat.le_of_ble_eq_true rfl) ⟨Nat.le_of_ble_eq_true rfl, Nat.le_of_ble_eq_true rfl⟩ dX8_stretch_22 rfl (fun v w1 H locs hpost hP hD hS => ?_)
  obtain ⟨rfl, rfl⟩ := hpost
  have hP : va_P D vwCl (x8W u a r q ++ (svW ct r b nx sz S ++ (sobjW a ++ (gridW ct a M ++ (benchW ct a M ++ (logW ct a M ++ (txtW ct q TX tl pl ft wd n1 n2))))))) H := hP
  have hD : va_D A (x8W u a r q ++ (svW ct r b nx sz S ++ (sobjW a ++ (gridW ct a M ++ (benchW ct a M ++ (logW ct a M ++ (txtW ct q TX tl pl ft wd n1 n2))))))) := hD
  refine W.eq (g2 := F0 m 25 ls [.int (zI (M (16 + k)))]) rfl ?_
  exact z_iret hx hb hr hlocks hP hD hS ⟨Nat.le_of_ble_eq_true rfl, Nat.le_of_ble_eq_true rfl⟩ dX8_stretch_25 (⟨congrArg (fun z => some (Value.int (zI z))) (rfl), rfl⟩)
set_option maxHeartbeats 4000000 in
set_option maxRecDepth 100000 in
theorem c_X8_shelf (l : Launch) (D : va_G) (ct ad : Nat → Nat) (u : Nat) (a r q : Nat → Nat) (b : Nat → Nat → Nat) (nx sz : Int) (S : Nat → Int → Int) (M TX : Int → Int) (tl pl ft n1 n2 : Int) (wd : Value) (k : Int) (hs : sInv M) (h1 : -2147483648 ≤ k ∧ k ≤ 2147483647) (hok : ck_shelf k = 0) : ZM l yX8_shelf wsX8_shelf ({ frames := 2, cells := 0, slots := 0, locals := 43 } : Room) D ct ad [.ref u, .int (zI k)] (x8W u a r q ++ (svW ct r b nx sz S ++ (sobjW a ++ (gridW ct a M ++ (benchW ct a M ++ (logW ct a M ++ (txtW ct q TX tl pl ft wd n1 n2))))))) (zD (some (.int (zI (M (49 + k))))) (x8W u a r q ++ (svW ct r b nx sz S ++ (sobjW a ++ (gridW ct a M ++ (benchW ct a M ++ (logW ct a M ++ (txtW ct q TX tl pl ft wd n1 n2)))))))) := by
  refine ZM.of (cc := cX8_shelf) (maxL := 2) (ret := (some .int)) (by decide +kernel) rfl (Nat.le_of_ble_eq_true rfl) ?_
  intro p e s m below meth c A ls hx hb hr hts hown hlocks hml hname hE hP hD hA hS hl
  have hK := hE.1
  have hf_0 := hts (.fieldLink RX8 10 "RodGrids" "state" "LRodGrids$State;") (by decide +kernel)
  have hf_1 := hts (.fieldLink RX8 77 "RodGrids$State" "bench" "LRodGrids$Bench;") (by decide +kernel)
  have hin_X6 : ∀ z ∈ u_ws RX6 TX6 3, z ∈ wsX8_shelf := by decide +kernel
  have hin_X8 : ∀ z ∈ u_ws RX8 TX8 3, z ∈ wsX8_shelf := by decide +kernel
  have hl : lv_has ls 2 [(0, .ref u), (1, .int (zI k))] := hl
  have hI := hs.1
  have hB := hs.2.1
  have ha := hs.2.2
  have i3 := hI.1
  have i4 := hI.2.1
  have j0 := hB.1
  have j1 := hB.2.1
  have j2 := hB.2.2.1
  have j4 := hB.2.2.2.2
  have okf : 0 ≤ k ∧ k ≤ 4 := by have q9 := hok; unfold ck_shelf at q9; (repeat' split at q9) <;> omega
  refine lv_aload_n hx hb dX8_shelf_0 rfl (lv_at hl 0 rfl) ?_
  refine va_get (D := D) (ci := 6) (v := .ref (a 0)) (C := RX8) (T := TX8) (N := 3) hx hb hts hin_X8 hown hK hP 0 rfl rfl 0 (by decide) hf_0 (fun _ h9 => h9) rfl dX8_shelf_1 ?_
  refine va_get (D := D) (ci := 5) (v := .ref (a 6)) (C := RX6) (T := TX6) (N := 3) hx hb hts hin_X6 hown hK hP 47 rfl rfl 1 (by decide) hf_1 (fun _ h9 => h9) rfl dX8_shelf_4 ?_
  refine lv_iload_n hx hb dX8_shelf_7 rfl (lv_at hl 1 rfl) ?_
  refine z_callV (C := RX1) (q0 := 0) (ci := 0) (As := [.int (zI k)]) (rest := []) (x8W u a r q ++ (svW ct r b nx sz S ++ (sobjW a ++ (gridW ct a M)))) (logW ct a M ++ (txtW ct q TX tl pl ft wd n1 n2)) hx hb hml hown hts hl hE hS hA hP hD (c_X1_checkShelf l D ct ad a M k (by omega)) gX8_shelf_X1_checkShelf rfl rfl k_X1_checkShelf ⟨Nat.le_of_ble_eq_true rfl, Nat.le_of_ble_eq_true rfl⟩ rfl rfl rfl rfl (Nat.le_of_ble_eq_true rfl) ⟨Nat.le_of_ble_eq_true rfl, Nat.le_of_ble_eq_true rfl⟩ dX8_shelf_8 rfl (fun v w1 H locs hpost hP hD hS => ?_)
  obtain ⟨rfl, rfl⟩ := hpost
  have hP : va_P D vwCl (x8W u a r q ++ (svW ct r b nx sz S ++ (sobjW a ++ (gridW ct a M ++ (benchW ct a M ++ (logW ct a M ++ (txtW ct q TX tl pl ft wd n1 n2))))))) H := hP
  have hD : va_D A (x8W u a r q ++ (svW ct r b nx sz S ++ (sobjW a ++ (gridW ct a M ++ (benchW ct a M ++ (logW ct a M ++ (txtW ct q TX tl pl ft wd n1 n2))))))) := hD
  refine W.eq (g2 := F0 m 11 ls [.int (zI (ck_shelf k))]) rfl ?_
  refine z_callS (As := [.int (zI (ck_shelf k))]) (rest := []) ([] : va_W) (x8W u a r q ++ (svW ct r b nx sz S ++ (sobjW a ++ (gridW ct a M ++ (benchW ct a M ++ (logW ct a M ++ (txtW ct q TX tl pl ft wd n1 n2))))))) hx hb hml hown hts hl hE hS hA hP hD (c_X8_refuse l D ct ad (ck_shelf k) hok) gX8_shelf_X8_refuse rfl k_X8_refuse ⟨Nat.le_of_ble_eq_true rfl, Nat.le_of_ble_eq_true rfl⟩ rfl (Nat.le_of_ble_eq_true rfl) ⟨Nat.le_of_ble_eq_true rfl, Nat.le_of_ble_eq_true rfl⟩ dX8_shelf_11 rfl (fun v w1 H locs hpost hP hD hS => ?_)
  obtain ⟨rfl, rfl⟩ := hpost
  have hP : va_P D vwCl (x8W u a r q ++ (svW ct r b nx sz S ++ (sobjW a ++ (gridW ct a M ++ (benchW ct a M ++ (logW ct a M ++ (txtW ct q TX tl pl ft wd n1 n2))))))) H := hP
  have hD : va_D A (x8W u a r q ++ (svW ct r b nx sz S ++ (sobjW a ++ (gridW ct a M ++ (benchW ct a M ++ (logW ct a M ++ (txtW ct q TX tl pl ft wd n1 n2))))))) := hD
  refine W.eq (g2 := F0 m 14 ls []) rfl ?_
  refine lv_aload_n hx hb dX8_shelf_14 rfl (lv_at hl 0 rfl) ?_
  refine va_get (D := D) (ci := 6) (v := .ref (a 0)) (C := RX8) (T := TX8) (N := 3) hx hb hts hin_X8 hown hK hP 0 rfl rfl 0 (by decide) hf_0 (fun _ h9 => h9) rfl dX8_shelf_15 ?_
  refine va_get (D := D) (ci := 5) (v := .ref (a 6)) (C := RX6) (T := TX6) (N := 3) hx hb hts hin_X6 hown hK hP 47 rfl rfl 1 (by decide) hf_1 (fun _ h9 => h9) rfl dX8_shelf_18 ?_
  refine lv_iload_n hx hb dX8_shelf_21 rfl (lv_at hl 1 rfl) ?_
  refine z_callV (C := RX1) (q0 := 0) (ci := 0) (As := [.int (zI k)]) (rest := []) (x8W u a r q ++ (svW ct r b nx sz S ++ (sobjW a ++ (gridW ct a M)))) (logW ct a M ++ (txtW ct q TX tl pl ft wd n1 n2)) hx hb hml hown hts hl hE hS hA hP hD (c_X1_shelfWarmth l D ct ad a M k (by omega)) gX8_shelf_X1_shelfWarmth rfl rfl k_X1_shelfWarmth ⟨Nat.le_of_ble_eq_true rfl, Nat.le_of_ble_eq_true rfl⟩ rfl rfl rfl rfl (Nat.le_of_ble_eq_true rfl) ⟨Nat.le_of_ble_eq_true rfl, Nat.le_of_ble_eq_true rfl⟩ dX8_shelf_22 rfl (fun v w1 H locs hpost hP hD hS => ?_)
  obtain ⟨rfl, rfl⟩ := hpost
  have hP : va_P D vwCl (x8W u a r q ++ (svW ct r b nx sz S ++ (sobjW a ++ (gridW ct a M ++ (benchW ct a M ++ (logW ct a M ++ (txtW ct q TX tl pl ft wd n1 n2))))))) H := hP
  have hD : va_D A (x8W u a r q ++ (svW ct r b nx sz S ++ (sobjW a ++ (gridW ct a M ++ (benchW ct a M ++ (logW ct a M ++ (txtW ct q TX tl pl ft wd n1 n2))))))) := hD
  refine W.eq (g2 := F0 m 25 ls [.int (zI (M (49 + k)))]) rfl ?_
  exact z_iret hx hb hr hlocks hP hD hS ⟨Nat.le_of_ble_eq_true rfl, Nat.le_of_ble_eq_true rfl⟩ dX8_shelf_25 (⟨congrArg (fun z => some (Value.int (zI z))) (rfl), rfl⟩)
theorem k_X4_rodValue : yX4_rodValue.cls ≠ "java/lang/invoke/MethodHandle" ∧ yX4_rodValue.cls ≠ "java/lang/invoke/VarHandle" ∧ (parseMethodDescriptor yX4_rodValue.desc).map (fun d => d.parameters.length) = some 3 := by decide +kernel
set_option maxHeartbeats 4000000 in
set_option maxRecDepth 100000 in
theorem c_X8_rod (l : Launch) (D : va_G) (ct ad : Nat → Nat) (u : Nat) (a r q : Nat → Nat) (b : Nat → Nat → Nat) (nx sz : Int) (S : Nat → Int → Int) (M TX : Int → Int) (tl pl ft n1 n2 : Int) (wd : Value) (k w : Int) (hs : sInv M) (h1 : -2147483648 ≤ k ∧ k ≤ 2147483647) (h2 : -2147483648 ≤ w ∧ w ≤ 2147483647) (hok : (0 ≤ k ∧ k < M 4) ∧ 0 ≤ w ∧ w ≤ 4) : ZM l yX8_rod wsX8_rod ({ frames := 3, cells := 0, slots := 0, locals := 72 } : Room) D ct ad [.ref u, .int (zI k), .int (zI w)] (x8W u a r q ++ (svW ct r b nx sz S ++ (sobjW a ++ (gridW ct a M ++ (benchW ct a M ++ (logW ct a M ++ (txtW ct q TX tl pl ft wd n1 n2))))))) (zD (some (.int (zI (sp_rodv M k w (M 6))))) (x8W u a r q ++ (svW ct r b nx sz S ++ (sobjW a ++ (gridW ct a M ++ (benchW ct a M ++ (logW ct a M ++ (txtW ct q TX tl pl ft wd n1 n2)))))))) := by
  refine ZM.of (cc := cX8_rod) (maxL := 3) (ret := (some .int)) (by decide +kernel) rfl (Nat.le_of_ble_eq_true rfl) ?_
  intro p e s m below meth c A ls hx hb hr hts hown hlocks hml hname hE hP hD hA hS hl
  have hK := hE.1
  have hf_0 := hts (.fieldLink RX8 10 "RodGrids" "state" "LRodGrids$State;") (by decide +kernel)
  have hf_1 := hts (.fieldLink RX8 30 "RodGrids$State" "grid" "LRodGrids$Grid;") (by decide +kernel)
  have hf_2 := hts (.fieldLink RX8 77 "RodGrids$State" "bench" "LRodGrids$Bench;") (by decide +kernel)
  have hf_3 := hts (.fieldLink RX8 121 "RodGrids$Bench" "warmth" "I") (by decide +kernel)
  have hin_X1 : ∀ z ∈ u_ws RX1 TX1 12, z ∈ wsX8_rod := by decide +kernel
  have hin_X6 : ∀ z ∈ u_ws RX6 TX6 3, z ∈ wsX8_rod := by decide +kernel
  have hin_X8 : ∀ z ∈ u_ws RX8 TX8 3, z ∈ wsX8_rod := by decide +kernel
  have hl : lv_has ls 3 [(0, .ref u), (1, .int (zI k)), (2, .int (zI w))] := hl
  have hI := hs.1
  have hB := hs.2.1
  have ha := hs.2.2
  have i3 := hI.1
  have i4 := hI.2.1
  have j0 := hB.1
  have j1 := hB.2.1
  have j2 := hB.2.2.1
  have j4 := hB.2.2.2.2
  refine lv_aload_n hx hb dX8_rod_0 rfl (lv_at hl 0 rfl) ?_
  refine va_get (D := D) (ci := 6) (v := .ref (a 0)) (C := RX8) (T := TX8) (N := 3) hx hb hts hin_X8 hown hK hP 0 rfl rfl 0 (by decide) hf_0 (fun _ h9 => h9) rfl dX8_rod_1 ?_
  refine va_get (D := D) (ci := 5) (v := .ref (a 1)) (C := RX6) (T := TX6) (N := 3) hx hb hts hin_X6 hown hK hP 47 rfl rfl 0 (by decide) hf_1 (fun _ h9 => h9) rfl dX8_rod_4 ?_
  refine lv_iload_n hx hb dX8_rod_7 rfl (lv_at hl 1 rfl) ?_
  refine z_callV (C := RX4) (q0 := 0) (ci := 3) (As := [.int (zI k)]) (rest := []) (x8W u a r q ++ (svW ct r b nx sz S ++ (sobjW a))) (benchW ct a M ++ (logW ct a M ++ (txtW ct q TX tl pl ft wd n1 n2))) hx hb hml hown hts hl hE hS hA hP hD (c_X4_checkRod l D ct ad a M k (by assumption) (by omega)) gX8_rod_X4_checkRod rfl rfl k_X4_checkRod ⟨Nat.le_of_ble_eq_true rfl, Nat.le_of_ble_eq_true rfl⟩ rfl rfl rfl rfl (Nat.le_of_ble_eq_true rfl) ⟨Nat.le_of_ble_eq_true rfl, Nat.le_of_ble_eq_true rfl⟩ dX8_rod_8 rfl (fun v w1 H locs hpost hP hD hS => ?_)
  obtain ⟨rfl, rfl⟩ := hpost
  have hP : va_P D vwCl (x8W u a r q ++ (svW ct r b nx sz S ++ (sobjW a ++ (gridW ct a M ++ (benchW ct a M ++ (logW ct a M ++ (txtW ct q TX tl pl ft wd n1 n2))))))) H := hP
  have hD : va_D A (x8W u a r q ++ (svW ct r b nx sz S ++ (sobjW a ++ (gridW ct a M ++ (benchW ct a M ++ (logW ct a M ++ (txtW ct q TX tl pl ft wd n1 n2))))))) := hD
  refine W.eq (g2 := F0 m 11 ls [.int (zI (if 0 ≤ k ∧ k < M 4 then 0 else 1))]) rfl ?_
  refine z_callS (As := [.int (zI (if 0 ≤ k ∧ k < M 4 then 0 else 1))]) (rest := []) ([] : va_W) (x8W u a r q ++ (svW ct r b nx sz S ++ (sobjW a ++ (gridW ct a M ++ (benchW ct a M ++ (logW ct a M ++ (txtW ct q TX tl pl ft wd n1 n2))))))) hx hb hml hown hts hl hE hS hA hP hD (c_X8_refuse l D ct ad (if 0 ≤ k ∧ k < M 4 then 0 else 1) (by first | exact if_pos hok.1 | rfl)) gX8_rod_X8_refuse rfl k_X8_refuse ⟨Nat.le_of_ble_eq_true rfl, Nat.le_of_ble_eq_true rfl⟩ rfl (Nat.le_of_ble_eq_true rfl) ⟨Nat.le_of_ble_eq_true rfl, Nat.le_of_ble_eq_true rfl⟩ dX8_rod_11 rfl (fun v w1 H locs hpost hP hD hS => ?_)
  obtain ⟨rfl, rfl⟩ := hpost
  have hP : va_P D vwCl (x8W u a r q ++ (svW ct r b nx sz S ++ (sobjW a ++ (gridW ct a M ++ (benchW ct a M ++ (logW ct a M ++ (txtW ct q TX tl pl ft wd n1 n2))))))) H := hP
  have hD : va_D A (x8W u a r q ++ (svW ct r b nx sz S ++ (sobjW a ++ (gridW ct a M ++ (benchW ct a M ++ (logW ct a M ++ (txtW ct q TX tl pl ft wd n1 n2))))))) := hD
  refine W.eq (g2 := F0 m 14 ls []) rfl ?_
  refine lv_iload_n hx hb dX8_rod_14 rfl (lv_at hl 2 rfl) ?_
  refine z_iconst hx hb dX8_rod_15 ?_
  refine z_iconst hx hb dX8_rod_16 ?_
  refine z_callS (As := [.int (zI w), .int (zI 0), .int (zI 4)]) (rest := []) ([] : va_W) (x8W u a r q ++ (svW ct r b nx sz S ++ (sobjW a ++ (gridW ct a M ++ (benchW ct a M ++ (logW ct a M ++ (txtW ct q TX tl pl ft wd n1 n2))))))) hx hb hml hown hts hl hE hS hA hP hD (c_X8_within l D ct ad w 0 4 (by omega) (by omega) (by omega)) gX8_rod_X8_within rfl k_X8_within ⟨Nat.le_of_ble_eq_true rfl, Nat.le_of_ble_eq_true rfl⟩ rfl (Nat.le_of_ble_eq_true rfl) ⟨Nat.le_of_ble_eq_true rfl, Nat.le_of_ble_eq_true rfl⟩ dX8_rod_17 rfl (fun v w1 H locs hpost hP hD hS => ?_)
  obtain ⟨rfl, rfl⟩ := hpost
  have hP : va_P D vwCl (x8W u a r q ++ (svW ct r b nx sz S ++ (sobjW a ++ (gridW ct a M ++ (benchW ct a M ++ (logW ct a M ++ (txtW ct q TX tl pl ft wd n1 n2))))))) H := hP
  have hD : va_D A (x8W u a r q ++ (svW ct r b nx sz S ++ (sobjW a ++ (gridW ct a M ++ (benchW ct a M ++ (logW ct a M ++ (txtW ct q TX tl pl ft wd n1 n2))))))) := hD
  refine W.eq (g2 := F0 m 20 ls [.int (zI (zB (0 ≤ w ∧ w ≤ 4)))]) rfl ?_
  refine zb_if_eq (tgt := 27) hx hb dX8_rod_20 (by decide) (fun hc_20 => ?_) (fun hc_20 => ?_)
  · have hc_20 := hc_20
    exact absurd hok.2 hc_20
  · have hc_20 := hc_20
    refine z_iconst hx hb dX8_rod_23 ?_
    refine lv_goto (tgt := 28) hx hb dX8_rod_24 (by decide) ?_
    refine z_callS (As := [.int (zI 0)]) (rest := []) ([] : va_W) (x8W u a r q ++ (svW ct r b nx sz S ++ (sobjW a ++ (gridW ct a M ++ (benchW ct a M ++ (logW ct a M ++ (txtW ct q TX tl pl ft wd n1 n2))))))) hx hb hml hown hts hl hE hS hA hP hD (c_X8_refuse l D ct ad 0 (by first | exact if_pos hok.1 | rfl)) gX8_rod_X8_refuse rfl k_X8_refuse ⟨Nat.le_of_ble_eq_true rfl, Nat.le_of_ble_eq_true rfl⟩ rfl (Nat.le_of_ble_eq_true rfl) ⟨Nat.le_of_ble_eq_true rfl, Nat.le_of_ble_eq_true rfl⟩ dX8_rod_28 rfl (fun v w1 H locs hpost hP hD hS => ?_)
    obtain ⟨rfl, rfl⟩ := hpost
    have hP : va_P D vwCl (x8W u a r q ++ (svW ct r b nx sz S ++ (sobjW a ++ (gridW ct a M ++ (benchW ct a M ++ (logW ct a M ++ (txtW ct q TX tl pl ft wd n1 n2))))))) H := hP
    have hD : va_D A (x8W u a r q ++ (svW ct r b nx sz S ++ (sobjW a ++ (gridW ct a M ++ (benchW ct a M ++ (logW ct a M ++ (txtW ct q TX tl pl ft wd n1 n2))))))) := hD
    refine W.eq (g2 := F0 m 31 ls []) rfl ?_
    refine lv_aload_n hx hb dX8_rod_31 rfl (lv_at hl 0 rfl) ?_
    refine va_get (D := D) (ci := 6) (v := .ref (a 0)) (C := RX8) (T := TX8) (N := 3) hx hb hts hin_X8 hown hK hP 0 rfl rfl 0 (by decide) hf_0 (fun _ h9 => h9) rfl dX8_rod_32 ?_
    refine va_get (D := D) (ci := 5) (v := .ref (a 1)) (C := RX6) (T := TX6) (N := 3) hx hb hts hin_X6 hown hK hP 47 rfl rfl 0 (by decide) hf_1 (fun _ h9 => h9) rfl dX8_rod_35 ?_
    refine lv_iload_n hx hb dX8_rod_38 rfl (lv_at hl 1 rfl) ?_
    refine lv_iload_n hx hb dX8_rod_39 rfl (lv_at hl 2 rfl) ?_
    refine lv_aload_n hx hb dX8_rod_40 rfl (lv_at hl 0 rfl) ?_
    refine va_get (D := D) (ci := 6) (v := .ref (a 0)) (C := RX8) (T := TX8) (N := 3) hx hb hts hin_X8 hown hK hP 0 rfl rfl 0 (by decide) hf_0 (fun _ h9 => h9) rfl dX8_rod_41 ?_
    refine va_get (D := D) (ci := 5) (v := .ref (a 6)) (C := RX6) (T := TX6) (N := 3) hx hb hts hin_X6 hown hK hP 47 rfl rfl 1 (by decide) hf_2 (fun _ h9 => h9) rfl dX8_rod_44 ?_
    refine va_get (D := D) (ci := 0) (v := .int (zI (M 6))) (C := RX1) (T := TX1) (N := 12) hx hb hts hin_X1 hown hK hP 53 rfl rfl 3 (by decide) hf_3 (fun _ h9 => h9) rfl dX8_rod_47 ?_
    refine z_callV (C := RX4) (q0 := 0) (ci := 3) (As := [.int (zI k), .int (zI w), .int (zI (M 6))]) (rest := []) (x8W u a r q ++ (svW ct r b nx sz S ++ (sobjW a))) (benchW ct a M ++ (logW ct a M ++ (txtW ct q TX tl pl ft wd n1 n2))) hx hb hml hown hts hl hE hS hA hP hD (c_X4_rodValue l D ct ad a M k w (M 6) (by assumption) (by omega) (by omega) (by omega)) gX8_rod_X4_rodValue rfl rfl k_X4_rodValue ⟨Nat.le_of_ble_eq_true rfl, Nat.le_of_ble_eq_true rfl⟩ rfl rfl rfl rfl (Nat.le_of_ble_eq_true rfl) ⟨Nat.le_of_ble_eq_true rfl, Nat.le_of_ble_eq_true rfl⟩ dX8_rod_50 rfl (fun v w1 H locs hpost hP hD hS => ?_)
    obtain ⟨rfl, rfl⟩ := hpost
    have hP : va_P D vwCl (x8W u a r q ++ (svW ct r b nx sz S ++ (sobjW a ++ (gridW ct a M ++ (benchW ct a M ++ (logW ct a M ++ (txtW ct q TX tl pl ft wd n1 n2))))))) H := hP
    have hD : va_D A (x8W u a r q ++ (svW ct r b nx sz S ++ (sobjW a ++ (gridW ct a M ++ (benchW ct a M ++ (logW ct a M ++ (txtW ct q TX tl pl ft wd n1 n2))))))) := hD
    refine W.eq (g2 := F0 m 53 ls [.int (zI (sp_rodv M k w (M 6)))]) rfl ?_
    exact z_iret hx hb hr hlocks hP hD hS ⟨Nat.le_of_ble_eq_true rfl, Nat.le_of_ble_eq_true rfl⟩ dX8_rod_53 (⟨congrArg (fun z => some (Value.int (zI z))) (rfl), rfl⟩)
theorem k_X6_wholeValue : yX6_wholeValue.cls ≠ "java/lang/invoke/MethodHandle" ∧ yX6_wholeValue.cls ≠ "java/lang/invoke/VarHandle" ∧ (parseMethodDescriptor yX6_wholeValue.desc).map (fun d => d.parameters.length) = some 1 := by decide +kernel
set_option maxHeartbeats 4000000 in
set_option maxRecDepth 100000 in
theorem c_X8_whole (l : Launch) (D : va_G) (ct ad : Nat → Nat) (u : Nat) (a r q : Nat → Nat) (b : Nat → Nat → Nat) (nx sz : Int) (S : Nat → Int → Int) (M TX : Int → Int) (tl pl ft n1 n2 : Int) (wd : Value) (w : Int) (hs : sInv M) (h1 : -2147483648 ≤ w ∧ w ≤ 2147483647) (hok : 0 ≤ w ∧ w ≤ 17) : ZM l yX8_whole wsX8_whole ({ frames := 5, cells := 0, slots := 0, locals := 121 } : Room) D ct ad [.ref u, .int (zI w)] (x8W u a r q ++ (svW ct r b nx sz S ++ (sobjW a ++ (gridW ct a M ++ (benchW ct a M ++ (logW ct a M ++ (txtW ct q TX tl pl ft wd n1 n2))))))) (zD (some (.int (zI (sp_wh M tl w)))) (x8W u a r q ++ (svW ct r b nx sz S ++ (sobjW a ++ (gridW ct a M ++ (benchW ct a M ++ (logW ct a M ++ (txtW ct q TX tl pl ft wd n1 n2)))))))) := by
  refine ZM.of (cc := cX8_whole) (maxL := 2) (ret := (some .int)) (by decide +kernel) rfl (Nat.le_of_ble_eq_true rfl) ?_
  intro p e s m below meth c A ls hx hb hr hts hown hlocks hml hname hE hP hD hA hS hl
  have hK := hE.1
  have hf_0 := hts (.fieldLink RX8 10 "RodGrids" "state" "LRodGrids$State;") (by decide +kernel)
  have hf_1 := hts (.fieldLink RX8 26 "RodGrids" "text" "LRodGrids$CommandText;") (by decide +kernel)
  have hf_2 := hts (.fieldLink RX8 137 "RodGrids$CommandText" "length" "I") (by decide +kernel)
  have hin_X2 : ∀ z ∈ u_ws RX2 TX2 7, z ∈ wsX8_whole := by decide +kernel
  have hin_X8 : ∀ z ∈ u_ws RX8 TX8 3, z ∈ wsX8_whole := by decide +kernel
  have hl : lv_has ls 2 [(0, .ref u), (1, .int (zI w))] := hl
  have hI := hs.1
  have hB := hs.2.1
  have ha := hs.2.2
  have i3 := hI.1
  have i4 := hI.2.1
  have j0 := hB.1
  have j1 := hB.2.1
  have j2 := hB.2.2.1
  have j4 := hB.2.2.2.2
  refine lv_iload_n hx hb dX8_whole_0 rfl (lv_at hl 1 rfl) ?_
  refine z_iconst hx hb dX8_whole_1 ?_
  refine z_bipush hx hb dX8_whole_2 (by decide) ?_
  refine z_callS (As := [.int (zI w), .int (zI 0), .int (zI 17)]) (rest := []) ([] : va_W) (x8W u a r q ++ (svW ct r b nx sz S ++ (sobjW a ++ (gridW ct a M ++ (benchW ct a M ++ (logW ct a M ++ (txtW ct q TX tl pl ft wd n1 n2))))))) hx hb hml hown hts hl hE hS hA hP hD (c_X8_within l D ct ad w 0 17 (by omega) (by omega) (by omega)) gX8_whole_X8_within rfl k_X8_within ⟨Nat.le_of_ble_eq_true rfl, Nat.le_of_ble_eq_true rfl⟩ rfl (Nat.le_of_ble_eq_true rfl) ⟨Nat.le_of_ble_eq_true rfl, Nat.le_of_ble_eq_true rfl⟩ dX8_whole_4 rfl (fun v w1 H locs hpost hP hD hS => ?_)
  obtain ⟨rfl, rfl⟩ := hpost
  have hP : va_P D vwCl (x8W u a r q ++ (svW ct r b nx sz S ++ (sobjW a ++ (gridW ct a M ++ (benchW ct a M ++ (logW ct a M ++ (txtW ct q TX tl pl ft wd n1 n2))))))) H := hP
  have hD : va_D A (x8W u a r q ++ (svW ct r b nx sz S ++ (sobjW a ++ (gridW ct a M ++ (benchW ct a M ++ (logW ct a M ++ (txtW ct q TX tl pl ft wd n1 n2))))))) := hD
  refine W.eq (g2 := F0 m 7 ls [.int (zI (zB (0 ≤ w ∧ w ≤ 17)))]) rfl ?_
  refine zb_if_eq (tgt := 14) hx hb dX8_whole_7 (by decide) (fun hc_7 => ?_) (fun hc_7 => ?_)
  · have hc_7 := hc_7
    exact absurd hok hc_7
  · have hc_7 := hc_7
    refine z_iconst hx hb dX8_whole_10 ?_
    refine lv_goto (tgt := 15) hx hb dX8_whole_11 (by decide) ?_
    refine z_callS (As := [.int (zI 0)]) (rest := []) ([] : va_W) (x8W u a r q ++ (svW ct r b nx sz S ++ (sobjW a ++ (gridW ct a M ++ (benchW ct a M ++ (logW ct a M ++ (txtW ct q TX tl pl ft wd n1 n2))))))) hx hb hml hown hts hl hE hS hA hP hD (c_X8_refuse l D ct ad 0 rfl) gX8_whole_X8_refuse rfl k_X8_refuse ⟨Nat.le_of_ble_eq_true rfl, Nat.le_of_ble_eq_true rfl⟩ rfl (Nat.le_of_ble_eq_true rfl) ⟨Nat.le_of_ble_eq_true rfl, Nat.le_of_ble_eq_true rfl⟩ dX8_whole_15 rfl (fun v w1 H locs hpost hP hD hS => ?_)
    obtain ⟨rfl, rfl⟩ := hpost
    have hP : va_P D vwCl (x8W u a r q ++ (svW ct r b nx sz S ++ (sobjW a ++ (gridW ct a M ++ (benchW ct a M ++ (logW ct a M ++ (txtW ct q TX tl pl ft wd n1 n2))))))) H := hP
    have hD : va_D A (x8W u a r q ++ (svW ct r b nx sz S ++ (sobjW a ++ (gridW ct a M ++ (benchW ct a M ++ (logW ct a M ++ (txtW ct q TX tl pl ft wd n1 n2))))))) := hD
    refine W.eq (g2 := F0 m 18 ls []) rfl ?_
    refine lv_iload_n hx hb dX8_whole_18 rfl (lv_at hl 1 rfl) ?_
    refine z_bipush hx hb dX8_whole_19 (by decide) ?_
    refine z_icmp_ne (tgt := 34) hx hb dX8_whole_21 (by decide) (by omega) (by omega) (fun hc_21 => ?_) (fun hc_21 => ?_)
    · have hc_21 := hc_21
      refine lv_aload_n hx hb dX8_whole_34 rfl (lv_at hl 0 rfl) ?_
      refine va_get (D := D) (ci := 6) (v := .ref (a 0)) (C := RX8) (T := TX8) (N := 3) hx hb hts hin_X8 hown hK hP 0 rfl rfl 0 (by decide) hf_0 (fun _ h9 => h9) rfl dX8_whole_35 ?_
      refine lv_iload_n hx hb dX8_whole_38 rfl (lv_at hl 1 rfl) ?_
      refine z_callV (C := RX6) (q0 := 0) (ci := 5) (As := [.int (zI w)]) (rest := []) (x8W u a r q ++ (svW ct r b nx sz S)) (txtW ct q TX tl pl ft wd n1 n2) hx hb hml hown hts hl hE hS hA hP hD (c_X6_wholeValue l D ct ad a M w (by assumption) (by assumption) (by omega)) gX8_whole_X6_wholeValue rfl rfl k_X6_wholeValue ⟨Nat.le_of_ble_eq_true rfl, Nat.le_of_ble_eq_true rfl⟩ rfl rfl rfl rfl (Nat.le_of_ble_eq_true rfl) ⟨Nat.le_of_ble_eq_true rfl, Nat.le_of_ble_eq_true rfl⟩ dX8_whole_39 rfl (fun v w1 H locs hpost hP hD hS => ?_)
      obtain ⟨rfl, rfl⟩ := hpost
      have hP : va_P D vwCl (x8W u a r q ++ (svW ct r b nx sz S ++ (sobjW a ++ (gridW ct a M ++ (benchW ct a M ++ (logW ct a M ++ (txtW ct q TX tl pl ft wd n1 n2))))))) H := hP
      have hD : va_D A (x8W u a r q ++ (svW ct r b nx sz S ++ (sobjW a ++ (gridW ct a M ++ (benchW ct a M ++ (logW ct a M ++ (txtW ct q TX tl pl ft wd n1 n2))))))) := hD
      refine W.eq (g2 := F0 m 42 ls [.int (zI (sp_whole M w))]) rfl ?_
      exact z_iret hx hb hr hlocks hP hD hS ⟨Nat.le_of_ble_eq_true rfl, Nat.le_of_ble_eq_true rfl⟩ dX8_whole_42 (⟨congrArg (fun z => some (Value.int (zI z))) (by unfold sp_wh; first | rw [if_pos (by omega)] | rw [if_neg (by omega)]), rfl⟩)
    · have hc_21 := hc_21
      refine lv_aload_n hx hb dX8_whole_24 rfl (lv_at hl 0 rfl) ?_
      refine va_get (D := D) (ci := 6) (v := .ref (q 0)) (C := RX8) (T := TX8) (N := 3) hx hb hts hin_X8 hown hK hP 0 rfl rfl 2 (by decide) hf_1 (fun _ h9 => h9) rfl dX8_whole_25 ?_
      refine va_get (D := D) (ci := 1) (v := .int (zI tl)) (C := RX2) (T := TX2) (N := 7) hx hb hts hin_X2 hown hK hP 58 rfl rfl 1 (by decide) hf_2 (fun _ h9 => h9) rfl dX8_whole_28 ?_
      refine lv_goto (tgt := 42) hx hb dX8_whole_31 (by decide) ?_
      exact z_iret hx hb hr hlocks hP hD hS ⟨Nat.le_of_ble_eq_true rfl, Nat.le_of_ble_eq_true rfl⟩ dX8_whole_42 (⟨congrArg (fun z => some (Value.int (zI z))) (by unfold sp_wh; first | rw [if_pos (by omega)] | rw [if_neg (by omega)]), rfl⟩)
set_option maxHeartbeats 4000000 in
set_option maxRecDepth 100000 in
theorem c_X8_balance (l : Launch) (D : va_G) (ct ad : Nat → Nat) (u : Nat) (a r q : Nat → Nat) (b : Nat → Nat → Nat) (nx sz : Int) (S : Nat → Int → Int) (M TX : Int → Int) (tl pl ft n1 n2 : Int) (wd : Value) (hs : sInv M) : ZM l yX8_balance wsX8_balance ({ frames := 3, cells := 0, slots := 0, locals := 65 } : Room) D ct ad [.ref u] (x8W u a r q ++ (svW ct r b nx sz S ++ (sobjW a ++ (gridW ct a M ++ (benchW ct a M ++ (logW ct a M ++ (txtW ct q TX tl pl ft wd n1 n2))))))) (zD (some (.long (zJ (sp_bal M)))) (x8W u a r q ++ (svW ct r b nx sz S ++ (sobjW a ++ (gridW ct a M ++ (benchW ct a M ++ (logW ct a M ++ (txtW ct q TX tl pl ft wd n1 n2)))))))) := by
  refine ZM.of (cc := cX8_balance) (maxL := 1) (ret := (some .long)) (by decide +kernel) rfl (Nat.le_of_ble_eq_true rfl) ?_
  intro p e s m below meth c A ls hx hb hr hts hown hlocks hml hname hE hP hD hA hS hl
  have hK := hE.1
  have hf_0 := hts (.fieldLink RX8 10 "RodGrids" "state" "LRodGrids$State;") (by decide +kernel)
  have hf_1 := hts (.fieldLink RX8 30 "RodGrids$State" "grid" "LRodGrids$Grid;") (by decide +kernel)
  have hin_X6 : ∀ z ∈ u_ws RX6 TX6 3, z ∈ wsX8_balance := by decide +kernel
  have hin_X8 : ∀ z ∈ u_ws RX8 TX8 3, z ∈ wsX8_balance := by decide +kernel
  have hl : lv_has ls 1 [(0, .ref u)] := hl
  have hI := hs.1
  have hB := hs.2.1
  have ha := hs.2.2
  have i3 := hI.1
  have i4 := hI.2.1
  have j0 := hB.1
  have j1 := hB.2.1
  have j2 := hB.2.2.1
  have j4 := hB.2.2.2.2
  refine lv_aload_n hx hb dX8_balance_0 rfl (lv_at hl 0 rfl) ?_
  refine va_get (D := D) (ci := 6) (v := .ref (a 0)) (C := RX8) (T := TX8) (N := 3) hx hb hts hin_X8 hown hK hP 0 rfl rfl 0 (by decide) hf_0 (fun _ h9 => h9) rfl dX8_balance_1 ?_
  refine va_get (D := D) (ci := 5) (v := .ref (a 1)) (C := RX6) (T := TX6) (N := 3) hx hb hts hin_X6 hown hK hP 47 rfl rfl 0 (by decide) hf_1 (fun _ h9 => h9) rfl dX8_balance_4 ?_
  refine z_callV (C := RX4) (q0 := 0) (ci := 3) (As := []) (rest := []) (x8W u a r q ++ (svW ct r b nx sz S ++ (sobjW a))) (benchW ct a M ++ (logW ct a M ++ (txtW ct q TX tl pl ft wd n1 n2))) hx hb hml hown hts hl hE hS hA hP hD (c_X4_balanceOfRods l D ct ad a M (by assumption)) gX8_balance_X4_balanceOfRods rfl rfl k_X4_balanceOfRods ⟨Nat.le_of_ble_eq_true rfl, Nat.le_of_ble_eq_true rfl⟩ rfl rfl rfl rfl (Nat.le_of_ble_eq_true rfl) ⟨Nat.le_of_ble_eq_true rfl, Nat.le_of_ble_eq_true rfl⟩ dX8_balance_7 rfl (fun v w1 H locs hpost hP hD hS => ?_)
  obtain ⟨rfl, rfl⟩ := hpost
  have hP : va_P D vwCl (x8W u a r q ++ (svW ct r b nx sz S ++ (sobjW a ++ (gridW ct a M ++ (benchW ct a M ++ (logW ct a M ++ (txtW ct q TX tl pl ft wd n1 n2))))))) H := hP
  have hD : va_D A (x8W u a r q ++ (svW ct r b nx sz S ++ (sobjW a ++ (gridW ct a M ++ (benchW ct a M ++ (logW ct a M ++ (txtW ct q TX tl pl ft wd n1 n2))))))) := hD
  refine W.eq (g2 := F0 m 10 ls [.long (zJ (sp_balN M (M 4).toNat))]) rfl ?_
  exact z_lret hx hb hr hlocks hP hD hS ⟨Nat.le_of_ble_eq_true rfl, Nat.le_of_ble_eq_true rfl⟩ dX8_balance_10 (⟨congrArg (fun z => some (Value.long (zJ z))) (rfl), rfl⟩)
set_option maxHeartbeats 4000000 in
set_option maxRecDepth 100000 in
theorem c_X8_rates (l : Launch) (D : va_G) (ct ad : Nat → Nat) (u : Nat) (a r q : Nat → Nat) (b : Nat → Nat → Nat) (nx sz : Int) (S : Nat → Int → Int) (M TX : Int → Int) (tl pl ft n1 n2 : Int) (wd : Value) (hs : sInv M) : ZM l yX8_rates wsX8_rates ({ frames := 0, cells := 0, slots := 0, locals := 0 } : Room) D ct ad [.ref u] (x8W u a r q ++ (svW ct r b nx sz S ++ (sobjW a ++ (gridW ct a M ++ (benchW ct a M ++ (logW ct a M ++ (txtW ct q TX tl pl ft wd n1 n2))))))) (zD (some (.long (zJ (M 12)))) (x8W u a r q ++ (svW ct r b nx sz S ++ (sobjW a ++ (gridW ct a M ++ (benchW ct a M ++ (logW ct a M ++ (txtW ct q TX tl pl ft wd n1 n2)))))))) := by
  refine ZM.of (cc := cX8_rates) (maxL := 1) (ret := (some .long)) (by decide +kernel) rfl (Nat.le_of_ble_eq_true rfl) ?_
  intro p e s m below meth c A ls hx hb hr hts hown hlocks hml hname hE hP hD hA hS hl
  have hK := hE.1
  have hf_0 := hts (.fieldLink RX8 10 "RodGrids" "state" "LRodGrids$State;") (by decide +kernel)
  have hf_1 := hts (.fieldLink RX8 77 "RodGrids$State" "bench" "LRodGrids$Bench;") (by decide +kernel)
  have hf_2 := hts (.fieldLink RX8 147 "RodGrids$Bench" "rateSum" "J") (by decide +kernel)
  have hin_X1 : ∀ z ∈ u_ws RX1 TX1 12, z ∈ wsX8_rates := by decide +kernel
  have hin_X6 : ∀ z ∈ u_ws RX6 TX6 3, z ∈ wsX8_rates := by decide +kernel
  have hin_X8 : ∀ z ∈ u_ws RX8 TX8 3, z ∈ wsX8_rates := by decide +kernel
  have hl : lv_has ls 1 [(0, .ref u)] := hl
  have hI := hs.1
  have hB := hs.2.1
  have ha := hs.2.2
  have i3 := hI.1
  have i4 := hI.2.1
  have j0 := hB.1
  have j1 := hB.2.1
  have j2 := hB.2.2.1
  have j4 := hB.2.2.2.2
  refine lv_aload_n hx hb dX8_rates_0 rfl (lv_at hl 0 rfl) ?_
  refine va_get (D := D) (ci := 6) (v := .ref (a 0)) (C := RX8) (T := TX8) (N := 3) hx hb hts hin_X8 hown hK hP 0 rfl rfl 0 (by decide) hf_0 (fun _ h9 => h9) rfl dX8_rates_1 ?_
  refine va_get (D := D) (ci := 5) (v := .ref (a 6)) (C := RX6) (T := TX6) (N := 3) hx hb hts hin_X6 hown hK hP 47 rfl rfl 1 (by decide) hf_1 (fun _ h9 => h9) rfl dX8_rates_4 ?_
  refine va_get (D := D) (ci := 0) (v := .long (zJ (M 12))) (C := RX1) (T := TX1) (N := 12) hx hb hts hin_X1 hown hK hP 53 rfl rfl 9 (by decide) hf_2 (fun _ h9 => h9) rfl dX8_rates_7 ?_
  exact z_lret hx hb hr hlocks hP hD hS ⟨Nat.le_of_ble_eq_true rfl, Nat.le_of_ble_eq_true rfl⟩ dX8_rates_10 (⟨congrArg (fun z => some (Value.long (zJ z))) (rfl), rfl⟩)
theorem k_X3_dayValue : yX3_dayValue.cls ≠ "java/lang/invoke/MethodHandle" ∧ yX3_dayValue.cls ≠ "java/lang/invoke/VarHandle" ∧ (parseMethodDescriptor yX3_dayValue.desc).map (fun d => d.parameters.length) = some 2 := by decide +kernel
set_option maxHeartbeats 4000000 in
set_option maxRecDepth 100000 in
theorem c_X8_day (l : Launch) (D : va_G) (ct ad : Nat → Nat) (u : Nat) (a r q : Nat → Nat) (b : Nat → Nat → Nat) (nx sz : Int) (S : Nat → Int → Int) (M TX : Int → Int) (tl pl ft n1 n2 : Int) (wd : Value) (k w : Int) (hs : sInv M) (h1 : -2147483648 ≤ k ∧ k ≤ 2147483647) (h2 : -2147483648 ≤ w ∧ w ≤ 2147483647) (hok : 0 ≤ k ∧ 0 ≤ w ∧ w ≤ 3) : ZM l yX8_day wsX8_day ({ frames := 2, cells := 0, slots := 0, locals := 45 } : Room) D ct ad [.ref u, .int (zI k), .int (zI w)] (x8W u a r q ++ (svW ct r b nx sz S ++ (sobjW a ++ (gridW ct a M ++ (benchW ct a M ++ (logW ct a M ++ (txtW ct q TX tl pl ft wd n1 n2))))))) (zD (some (.long (zJ (sp_dayv M k w)))) (x8W u a r q ++ (svW ct r b nx sz S ++ (sobjW a ++ (gridW ct a M ++ (benchW ct a M ++ (logW ct a M ++ (txtW ct q TX tl pl ft wd n1 n2)))))))) := by
  refine ZM.of (cc := cX8_day) (maxL := 3) (ret := (some .long)) (by decide +kernel) rfl (Nat.le_of_ble_eq_true rfl) ?_
  intro p e s m below meth c A ls hx hb hr hts hown hlocks hml hname hE hP hD hA hS hl
  have hK := hE.1
  have hf_0 := hts (.fieldLink RX8 10 "RodGrids" "state" "LRodGrids$State;") (by decide +kernel)
  have hf_1 := hts (.fieldLink RX8 158 "RodGrids$State" "log" "LRodGrids$DayLog;") (by decide +kernel)
  have hin_X6 : ∀ z ∈ u_ws RX6 TX6 3, z ∈ wsX8_day := by decide +kernel
  have hin_X8 : ∀ z ∈ u_ws RX8 TX8 3, z ∈ wsX8_day := by decide +kernel
  have hl : lv_has ls 3 [(0, .ref u), (1, .int (zI k)), (2, .int (zI w))] := hl
  have hI := hs.1
  have hB := hs.2.1
  have ha := hs.2.2
  have i3 := hI.1
  have i4 := hI.2.1
  have j0 := hB.1
  have j1 := hB.2.1
  have j2 := hB.2.2.1
  have j4 := hB.2.2.2.2
  refine lv_iload_n hx hb dX8_day_0 rfl (lv_at hl 1 rfl) ?_
  refine z_if_lt (tgt := 17) hx hb dX8_day_1 (by decide) (by omega) (fun hc_1 => ?_) (fun hc_1 => ?_)
  · have hc_1 := hc_1
    omega
  · have hc_1 := hc_1
    refine lv_iload_n hx hb dX8_day_4 rfl (lv_at hl 2 rfl) ?_
    refine z_iconst hx hb dX8_day_5 ?_
    refine z_iconst hx hb dX8_day_6 ?_
    refine z_callS (As := [.int (zI w), .int (zI 0), .int (zI 3)]) (rest := []) ([] : va_W) (x8W u a r q ++ (svW ct r b nx sz S ++ (sobjW a ++ (gridW ct a M ++ (benchW ct a M ++ (logW ct a M ++ (txtW ct q TX tl pl ft wd n1 n2))))))) hx hb hml hown hts hl hE hS hA hP hD (c_X8_within l D ct ad w 0 3 (by omega) (by omega) (by omega)) gX8_day_X8_within rfl k_X8_within ⟨Nat.le_of_ble_eq_true rfl, Nat.le_of_ble_eq_true rfl⟩ rfl (Nat.le_of_ble_eq_true rfl) ⟨Nat.le_of_ble_eq_true rfl, Nat.le_of_ble_eq_true rfl⟩ dX8_day_7 rfl (fun v w1 H locs hpost hP hD hS => ?_)
    obtain ⟨rfl, rfl⟩ := hpost
    have hP : va_P D vwCl (x8W u a r q ++ (svW ct r b nx sz S ++ (sobjW a ++ (gridW ct a M ++ (benchW ct a M ++ (logW ct a M ++ (txtW ct q TX tl pl ft wd n1 n2))))))) H := hP
    have hD : va_D A (x8W u a r q ++ (svW ct r b nx sz S ++ (sobjW a ++ (gridW ct a M ++ (benchW ct a M ++ (logW ct a M ++ (txtW ct q TX tl pl ft wd n1 n2))))))) := hD
    refine W.eq (g2 := F0 m 10 ls [.int (zI (zB (0 ≤ w ∧ w ≤ 3)))]) rfl ?_
    refine zb_if_eq (tgt := 17) hx hb dX8_day_10 (by decide) (fun hc_10 => ?_) (fun hc_10 => ?_)
    · have hc_10 := hc_10
      exact absurd hok.2 hc_10
    · have hc_10 := hc_10
      refine z_iconst hx hb dX8_day_13 ?_
      refine lv_goto (tgt := 18) hx hb dX8_day_14 (by decide) ?_
      refine z_callS (As := [.int (zI 0)]) (rest := []) ([] : va_W) (x8W u a r q ++ (svW ct r b nx sz S ++ (sobjW a ++ (gridW ct a M ++ (benchW ct a M ++ (logW ct a M ++ (txtW ct q TX tl pl ft wd n1 n2))))))) hx hb hml hown hts hl hE hS hA hP hD (c_X8_refuse l D ct ad 0 rfl) gX8_day_X8_refuse rfl k_X8_refuse ⟨Nat.le_of_ble_eq_true rfl, Nat.le_of_ble_eq_true rfl⟩ rfl (Nat.le_of_ble_eq_true rfl) ⟨Nat.le_of_ble_eq_true rfl, Nat.le_of_ble_eq_true rfl⟩ dX8_day_18 rfl (fun v w1 H locs hpost hP hD hS => ?_)
      obtain ⟨rfl, rfl⟩ := hpost
      have hP : va_P D vwCl (x8W u a r q ++ (svW ct r b nx sz S ++ (sobjW a ++ (gridW ct a M ++ (benchW ct a M ++ (logW ct a M ++ (txtW ct q TX tl pl ft wd n1 n2))))))) H := hP
      have hD : va_D A (x8W u a r q ++ (svW ct r b nx sz S ++ (sobjW a ++ (gridW ct a M ++ (benchW ct a M ++ (logW ct a M ++ (txtW ct q TX tl pl ft wd n1 n2))))))) := hD
      refine W.eq (g2 := F0 m 21 ls []) rfl ?_
      refine lv_aload_n hx hb dX8_day_21 rfl (lv_at hl 0 rfl) ?_
      refine va_get (D := D) (ci := 6) (v := .ref (a 0)) (C := RX8) (T := TX8) (N := 3) hx hb hts hin_X8 hown hK hP 0 rfl rfl 0 (by decide) hf_0 (fun _ h9 => h9) rfl dX8_day_22 ?_
      refine va_get (D := D) (ci := 5) (v := .ref (a 9)) (C := RX6) (T := TX6) (N := 3) hx hb hts hin_X6 hown hK hP 47 rfl rfl 2 (by decide) hf_1 (fun _ h9 => h9) rfl dX8_day_25 ?_
      refine lv_iload_n hx hb dX8_day_28 rfl (lv_at hl 1 rfl) ?_
      refine lv_iload_n hx hb dX8_day_29 rfl (lv_at hl 2 rfl) ?_
      refine z_callV (C := RX3) (q0 := 0) (ci := 2) (As := [.int (zI k), .int (zI w)]) (rest := []) (x8W u a r q ++ (svW ct r b nx sz S ++ (sobjW a ++ (gridW ct a M ++ (benchW ct a M))))) (txtW ct q TX tl pl ft wd n1 n2) hx hb hml hown hts hl hE hS hA hP hD (c_X3_dayValue l D ct ad a M k w (by omega) (by omega) (by omega)) gX8_day_X3_dayValue rfl rfl k_X3_dayValue ⟨Nat.le_of_ble_eq_true rfl, Nat.le_of_ble_eq_true rfl⟩ rfl rfl rfl rfl (Nat.le_of_ble_eq_true rfl) ⟨Nat.le_of_ble_eq_true rfl, Nat.le_of_ble_eq_true rfl⟩ dX8_day_30 rfl (fun v w1 H locs hpost hP hD hS => ?_)
      obtain ⟨rfl, rfl⟩ := hpost
      have hP : va_P D vwCl (x8W u a r q ++ (svW ct r b nx sz S ++ (sobjW a ++ (gridW ct a M ++ (benchW ct a M ++ (logW ct a M ++ (txtW ct q TX tl pl ft wd n1 n2))))))) H := hP
      have hD : va_D A (x8W u a r q ++ (svW ct r b nx sz S ++ (sobjW a ++ (gridW ct a M ++ (benchW ct a M ++ (logW ct a M ++ (txtW ct q TX tl pl ft wd n1 n2))))))) := hD
      refine W.eq (g2 := F0 m 33 ls [.long (zJ (if 0 ≤ k ∧ k < M 15 then M (54 + (k * 4 + w)) else -2000000000))]) rfl ?_
      exact z_lret hx hb hr hlocks hP hD hS ⟨Nat.le_of_ble_eq_true rfl, Nat.le_of_ble_eq_true rfl⟩ dX8_day_33 (⟨congrArg (fun z => some (Value.long (zJ z))) (by unfold sp_dayv; by_cases z9 : k < M 15; (rw [if_pos (by omega), if_pos z9]; exact congrArg M (by omega)); (rw [if_neg (by omega), if_neg z9])), rfl⟩)
set_option maxHeartbeats 4000000 in
set_option maxRecDepth 100000 in
theorem c_X8_rateAt (l : Launch) (D : va_G) (ct ad : Nat → Nat) (u : Nat) (a r q : Nat → Nat) (b : Nat → Nat → Nat) (nx sz : Int) (S : Nat → Int → Int) (M TX : Int → Int) (tl pl ft n1 n2 : Int) (wd : Value) (t : Int) (hs : sInv M) (h1 : -2147483648 ≤ t ∧ t ≤ 2147483647) (hok : -300 ≤ t ∧ t ≤ 600) : ZM l yX8_rateAt wsX8_rateAt ({ frames := 4, cells := 0, slots := 0, locals := 100 } : Room) D ct ad [.ref u, .int (zI t)] (x8W u a r q ++ (svW ct r b nx sz S ++ (sobjW a ++ (gridW ct a M ++ (benchW ct a M ++ (logW ct a M ++ (txtW ct q TX tl pl ft wd n1 n2))))))) (zD (some (.int (zI (sp_rt M t)))) (x8W u a r q ++ (svW ct r b nx sz S ++ (sobjW a ++ (gridW ct a M ++ (benchW ct a M ++ (logW ct a M ++ (txtW ct q TX tl pl ft wd n1 n2)))))))) := by
  refine ZM.of (cc := cX8_rateAt) (maxL := 2) (ret := (some .int)) (by decide +kernel) rfl (Nat.le_of_ble_eq_true rfl) ?_
  intro p e s m below meth c A ls hx hb hr hts hown hlocks hml hname hE hP hD hA hS hl
  have hK := hE.1
  have hf_0 := hts (.fieldLink RX8 10 "RodGrids" "state" "LRodGrids$State;") (by decide +kernel)
  have hf_1 := hts (.fieldLink RX8 77 "RodGrids$State" "bench" "LRodGrids$Bench;") (by decide +kernel)
  have hf_2 := hts (.fieldLink RX8 175 "RodGrids$Bench" "drive" "I") (by decide +kernel)
  have hin_X1 : ∀ z ∈ u_ws RX1 TX1 12, z ∈ wsX8_rateAt := by decide +kernel
  have hin_X6 : ∀ z ∈ u_ws RX6 TX6 3, z ∈ wsX8_rateAt := by decide +kernel
  have hin_X8 : ∀ z ∈ u_ws RX8 TX8 3, z ∈ wsX8_rateAt := by decide +kernel
  have hl : lv_has ls 2 [(0, .ref u), (1, .int (zI t))] := hl
  have hI := hs.1
  have hB := hs.2.1
  have ha := hs.2.2
  have i3 := hI.1
  have i4 := hI.2.1
  have j0 := hB.1
  have j1 := hB.2.1
  have j2 := hB.2.2.1
  have j4 := hB.2.2.2.2
  refine lv_iload_n hx hb dX8_rateAt_0 rfl (lv_at hl 1 rfl) ?_
  refine z_callS (As := [.int (zI t)]) (rest := []) ([] : va_W) (x8W u a r q ++ (svW ct r b nx sz S ++ (sobjW a ++ (gridW ct a M ++ (benchW ct a M ++ (logW ct a M ++ (txtW ct q TX tl pl ft wd n1 n2))))))) hx hb hml hown hts hl hE hS hA hP hD (c_X8_isWarmth l D ct ad t (by omega)) gX8_rateAt_X8_isWarmth rfl k_X8_isWarmth ⟨Nat.le_of_ble_eq_true rfl, Nat.le_of_ble_eq_true rfl⟩ rfl (Nat.le_of_ble_eq_true rfl) ⟨Nat.le_of_ble_eq_true rfl, Nat.le_of_ble_eq_true rfl⟩ dX8_rateAt_1 rfl (fun v w1 H locs hpost hP hD hS => ?_)
  obtain ⟨rfl, rfl⟩ := hpost
  have hP : va_P D vwCl (x8W u a r q ++ (svW ct r b nx sz S ++ (sobjW a ++ (gridW ct a M ++ (benchW ct a M ++ (logW ct a M ++ (txtW ct q TX tl pl ft wd n1 n2))))))) H := hP
  have hD : va_D A (x8W u a r q ++ (svW ct r b nx sz S ++ (sobjW a ++ (gridW ct a M ++ (benchW ct a M ++ (logW ct a M ++ (txtW ct q TX tl pl ft wd n1 n2))))))) := hD
  refine W.eq (g2 := F0 m 4 ls [.int (zI (zB (-300 ≤ t ∧ t ≤ 600)))]) rfl ?_
  refine zb_if_eq (tgt := 11) hx hb dX8_rateAt_4 (by decide) (fun hc_4 => ?_) (fun hc_4 => ?_)
  · have hc_4 := hc_4
    exact absurd hok hc_4
  · have hc_4 := hc_4
    refine z_iconst hx hb dX8_rateAt_7 ?_
    refine lv_goto (tgt := 12) hx hb dX8_rateAt_8 (by decide) ?_
    refine z_callS (As := [.int (zI 0)]) (rest := []) ([] : va_W) (x8W u a r q ++ (svW ct r b nx sz S ++ (sobjW a ++ (gridW ct a M ++ (benchW ct a M ++ (logW ct a M ++ (txtW ct q TX tl pl ft wd n1 n2))))))) hx hb hml hown hts hl hE hS hA hP hD (c_X8_refuse l D ct ad 0 rfl) gX8_rateAt_X8_refuse rfl k_X8_refuse ⟨Nat.le_of_ble_eq_true rfl, Nat.le_of_ble_eq_true rfl⟩ rfl (Nat.le_of_ble_eq_true rfl) ⟨Nat.le_of_ble_eq_true rfl, Nat.le_of_ble_eq_true rfl⟩ dX8_rateAt_12 rfl (fun v w1 H locs hpost hP hD hS => ?_)
    obtain ⟨rfl, rfl⟩ := hpost
    have hP : va_P D vwCl (x8W u a r q ++ (svW ct r b nx sz S ++ (sobjW a ++ (gridW ct a M ++ (benchW ct a M ++ (logW ct a M ++ (txtW ct q TX tl pl ft wd n1 n2))))))) H := hP
    have hD : va_D A (x8W u a r q ++ (svW ct r b nx sz S ++ (sobjW a ++ (gridW ct a M ++ (benchW ct a M ++ (logW ct a M ++ (txtW ct q TX tl pl ft wd n1 n2))))))) := hD
    refine W.eq (g2 := F0 m 15 ls []) rfl ?_
    refine lv_aload_n hx hb dX8_rateAt_15 rfl (lv_at hl 0 rfl) ?_
    refine va_get (D := D) (ci := 6) (v := .ref (a 0)) (C := RX8) (T := TX8) (N := 3) hx hb hts hin_X8 hown hK hP 0 rfl rfl 0 (by decide) hf_0 (fun _ h9 => h9) rfl dX8_rateAt_16 ?_
    refine lv_iload_n hx hb dX8_rateAt_19 rfl (lv_at hl 1 rfl) ?_
    refine lv_aload_n hx hb dX8_rateAt_20 rfl (lv_at hl 0 rfl) ?_
    refine va_get (D := D) (ci := 6) (v := .ref (a 0)) (C := RX8) (T := TX8) (N := 3) hx hb hts hin_X8 hown hK hP 0 rfl rfl 0 (by decide) hf_0 (fun _ h9 => h9) rfl dX8_rateAt_21 ?_
    refine va_get (D := D) (ci := 5) (v := .ref (a 6)) (C := RX6) (T := TX6) (N := 3) hx hb hts hin_X6 hown hK hP 47 rfl rfl 1 (by decide) hf_1 (fun _ h9 => h9) rfl dX8_rateAt_24 ?_
    refine va_get (D := D) (ci := 0) (v := .int (zI (M 8))) (C := RX1) (T := TX1) (N := 12) hx hb hts hin_X1 hown hK hP 53 rfl rfl 5 (by decide) hf_2 (fun _ h9 => h9) rfl dX8_rateAt_27 ?_
    refine z_callV (C := RX6) (q0 := 0) (ci := 5) (As := [.int (zI t), .int (zI (M 8))]) (rest := []) (x8W u a r q ++ (svW ct r b nx sz S)) (txtW ct q TX tl pl ft wd n1 n2) hx hb hml hown hts hl hE hS hA hP hD (c_X6_rateFor l D ct ad a M t (M 8) (by assumption) (by assumption) (by omega) (by omega)) gX8_rateAt_X6_rateFor rfl rfl k_X6_rateFor ⟨Nat.le_of_ble_eq_true rfl, Nat.le_of_ble_eq_true rfl⟩ rfl rfl rfl rfl (Nat.le_of_ble_eq_true rfl) ⟨Nat.le_of_ble_eq_true rfl, Nat.le_of_ble_eq_true rfl⟩ dX8_rateAt_30 rfl (fun v w1 H locs hpost hP hD hS => ?_)
    obtain ⟨rfl, rfl⟩ := hpost
    have hP : va_P D vwCl (x8W u a r q ++ (svW ct r b nx sz S ++ (sobjW a ++ (gridW ct a M ++ (benchW ct a M ++ (logW ct a M ++ (txtW ct q TX tl pl ft wd n1 n2))))))) H := hP
    have hD : va_D A (x8W u a r q ++ (svW ct r b nx sz S ++ (sobjW a ++ (gridW ct a M ++ (benchW ct a M ++ (logW ct a M ++ (txtW ct q TX tl pl ft wd n1 n2))))))) := hD
    refine W.eq (g2 := F0 m 33 ls [.int (zI (sp_rate M (sp_len M t) (M 8)))]) rfl ?_
    exact z_iret hx hb hr hlocks hP hD hS ⟨Nat.le_of_ble_eq_true rfl, Nat.le_of_ble_eq_true rfl⟩ dX8_rateAt_33 (⟨congrArg (fun z => some (Value.int (zI z))) (rfl), rfl⟩)
theorem k_X4_nearestMatch : yX4_nearestMatch.cls ≠ "java/lang/invoke/MethodHandle" ∧ yX4_nearestMatch.cls ≠ "java/lang/invoke/VarHandle" ∧ (parseMethodDescriptor yX4_nearestMatch.desc).map (fun d => d.parameters.length) = some 1 := by decide +kernel
set_option maxHeartbeats 4000000 in
set_option maxRecDepth 100000 in
theorem c_X8_matchLength (l : Launch) (D : va_G) (ct ad : Nat → Nat) (u : Nat) (a r q : Nat → Nat) (b : Nat → Nat → Nat) (nx sz : Int) (S : Nat → Int → Int) (M TX : Int → Int) (tl pl ft n1 n2 : Int) (wd : Value) (k : Int) (hs : sInv M) (h1 : -2147483648 ≤ k ∧ k ≤ 2147483647) (hok : 0 ≤ k ∧ k < M 4) : ZM l yX8_matchLength wsX8_matchLength ({ frames := 4, cells := 0, slots := 0, locals := 97 } : Room) D ct ad [.ref u, .int (zI k)] (x8W u a r q ++ (svW ct r b nx sz S ++ (sobjW a ++ (gridW ct a M ++ (benchW ct a M ++ (logW ct a M ++ (txtW ct q TX tl pl ft wd n1 n2))))))) (zD (some (.int (zI (sp_match M k)))) (x8W u a r q ++ (svW ct r b nx sz S ++ (sobjW a ++ (gridW ct a M ++ (benchW ct a M ++ (logW ct a M ++ (txtW ct q TX tl pl ft wd n1 n2)))))))) := by
  refine ZM.of (cc := cX8_matchLength) (maxL := 2) (ret := (some .int)) (by decide +kernel) rfl (Nat.le_of_ble_eq_true rfl) ?_
  intro p e s m below meth c A ls hx hb hr hts hown hlocks hml hname hE hP hD hA hS hl
  have hK := hE.1
  have hf_0 := hts (.fieldLink RX8 10 "RodGrids" "state" "LRodGrids$State;") (by decide +kernel)
  have hf_1 := hts (.fieldLink RX8 30 "RodGrids$State" "grid" "LRodGrids$Grid;") (by decide +kernel)
  have hin_X6 : ∀ z ∈ u_ws RX6 TX6 3, z ∈ wsX8_matchLength := by decide +kernel
  have hin_X8 : ∀ z ∈ u_ws RX8 TX8 3, z ∈ wsX8_matchLength := by decide +kernel
  have hl : lv_has ls 2 [(0, .ref u), (1, .int (zI k))] := hl
  have hI := hs.1
  have hB := hs.2.1
  have ha := hs.2.2
  have i3 := hI.1
  have i4 := hI.2.1
  have j0 := hB.1
  have j1 := hB.2.1
  have j2 := hB.2.2.1
  have j4 := hB.2.2.2.2
  refine lv_aload_n hx hb dX8_matchLength_0 rfl (lv_at hl 0 rfl) ?_
  refine va_get (D := D) (ci := 6) (v := .ref (a 0)) (C := RX8) (T := TX8) (N := 3) hx hb hts hin_X8 hown hK hP 0 rfl rfl 0 (by decide) hf_0 (fun _ h9 => h9) rfl dX8_matchLength_1 ?_
  refine va_get (D := D) (ci := 5) (v := .ref (a 1)) (C := RX6) (T := TX6) (N := 3) hx hb hts hin_X6 hown hK hP 47 rfl rfl 0 (by decide) hf_1 (fun _ h9 => h9) rfl dX8_matchLength_4 ?_
  refine lv_iload_n hx hb dX8_matchLength_7 rfl (lv_at hl 1 rfl) ?_
  refine z_callV (C := RX4) (q0 := 0) (ci := 3) (As := [.int (zI k)]) (rest := []) (x8W u a r q ++ (svW ct r b nx sz S ++ (sobjW a))) (benchW ct a M ++ (logW ct a M ++ (txtW ct q TX tl pl ft wd n1 n2))) hx hb hml hown hts hl hE hS hA hP hD (c_X4_checkRod l D ct ad a M k (by assumption) (by omega)) gX8_matchLength_X4_checkRod rfl rfl k_X4_checkRod ⟨Nat.le_of_ble_eq_true rfl, Nat.le_of_ble_eq_true rfl⟩ rfl rfl rfl rfl (Nat.le_of_ble_eq_true rfl) ⟨Nat.le_of_ble_eq_true rfl, Nat.le_of_ble_eq_true rfl⟩ dX8_matchLength_8 rfl (fun v w1 H locs hpost hP hD hS => ?_)
  obtain ⟨rfl, rfl⟩ := hpost
  have hP : va_P D vwCl (x8W u a r q ++ (svW ct r b nx sz S ++ (sobjW a ++ (gridW ct a M ++ (benchW ct a M ++ (logW ct a M ++ (txtW ct q TX tl pl ft wd n1 n2))))))) H := hP
  have hD : va_D A (x8W u a r q ++ (svW ct r b nx sz S ++ (sobjW a ++ (gridW ct a M ++ (benchW ct a M ++ (logW ct a M ++ (txtW ct q TX tl pl ft wd n1 n2))))))) := hD
  refine W.eq (g2 := F0 m 11 ls [.int (zI (if 0 ≤ k ∧ k < M 4 then 0 else 1))]) rfl ?_
  refine z_callS (As := [.int (zI (if 0 ≤ k ∧ k < M 4 then 0 else 1))]) (rest := []) ([] : va_W) (x8W u a r q ++ (svW ct r b nx sz S ++ (sobjW a ++ (gridW ct a M ++ (benchW ct a M ++ (logW ct a M ++ (txtW ct q TX tl pl ft wd n1 n2))))))) hx hb hml hown hts hl hE hS hA hP hD (c_X8_refuse l D ct ad (if 0 ≤ k ∧ k < M 4 then 0 else 1) (if_pos hok)) gX8_matchLength_X8_refuse rfl k_X8_refuse ⟨Nat.le_of_ble_eq_true rfl, Nat.le_of_ble_eq_true rfl⟩ rfl (Nat.le_of_ble_eq_true rfl) ⟨Nat.le_of_ble_eq_true rfl, Nat.le_of_ble_eq_true rfl⟩ dX8_matchLength_11 rfl (fun v w1 H locs hpost hP hD hS => ?_)
  obtain ⟨rfl, rfl⟩ := hpost
  have hP : va_P D vwCl (x8W u a r q ++ (svW ct r b nx sz S ++ (sobjW a ++ (gridW ct a M ++ (benchW ct a M ++ (logW ct a M ++ (txtW ct q TX tl pl ft wd n1 n2))))))) H := hP
  have hD : va_D A (x8W u a r q ++ (svW ct r b nx sz S ++ (sobjW a ++ (gridW ct a M ++ (benchW ct a M ++ (logW ct a M ++ (txtW ct q TX tl pl ft wd n1 n2))))))) := hD
  refine W.eq (g2 := F0 m 14 ls []) rfl ?_
  refine lv_aload_n hx hb dX8_matchLength_14 rfl (lv_at hl 0 rfl) ?_
  refine va_get (D := D) (ci := 6) (v := .ref (a 0)) (C := RX8) (T := TX8) (N := 3) hx hb hts hin_X8 hown hK hP 0 rfl rfl 0 (by decide) hf_0 (fun _ h9 => h9) rfl dX8_matchLength_15 ?_
  refine va_get (D := D) (ci := 5) (v := .ref (a 1)) (C := RX6) (T := TX6) (N := 3) hx hb hts hin_X6 hown hK hP 47 rfl rfl 0 (by decide) hf_1 (fun _ h9 => h9) rfl dX8_matchLength_18 ?_
  refine lv_iload_n hx hb dX8_matchLength_21 rfl (lv_at hl 1 rfl) ?_
  refine z_callV (C := RX4) (q0 := 0) (ci := 3) (As := [.int (zI k)]) (rest := []) (x8W u a r q ++ (svW ct r b nx sz S ++ (sobjW a))) (benchW ct a M ++ (logW ct a M ++ (txtW ct q TX tl pl ft wd n1 n2))) hx hb hml hown hts hl hE hS hA hP hD (c_X4_nearestMatch l D ct ad a M k (by assumption) (by omega)) gX8_matchLength_X4_nearestMatch rfl rfl k_X4_nearestMatch ⟨Nat.le_of_ble_eq_true rfl, Nat.le_of_ble_eq_true rfl⟩ rfl rfl rfl rfl (Nat.le_of_ble_eq_true rfl) ⟨Nat.le_of_ble_eq_true rfl, Nat.le_of_ble_eq_true rfl⟩ dX8_matchLength_22 rfl (fun v w1 H locs hpost hP hD hS => ?_)
  obtain ⟨rfl, rfl⟩ := hpost
  have hP : va_P D vwCl (x8W u a r q ++ (svW ct r b nx sz S ++ (sobjW a ++ (gridW ct a M ++ (benchW ct a M ++ (logW ct a M ++ (txtW ct q TX tl pl ft wd n1 n2))))))) H := hP
  have hD : va_D A (x8W u a r q ++ (svW ct r b nx sz S ++ (sobjW a ++ (gridW ct a M ++ (benchW ct a M ++ (logW ct a M ++ (txtW ct q TX tl pl ft wd n1 n2))))))) := hD
  refine W.eq (g2 := F0 m 25 ls [.int (zI (sp_match M k))]) rfl ?_
  exact z_iret hx hb hr hlocks hP hD hS ⟨Nat.le_of_ble_eq_true rfl, Nat.le_of_ble_eq_true rfl⟩ dX8_matchLength_25 (⟨congrArg (fun z => some (Value.int (zI z))) (rfl), rfl⟩)
theorem k_X6_nearestNut : yX6_nearestNut.cls ≠ "java/lang/invoke/MethodHandle" ∧ yX6_nearestNut.cls ≠ "java/lang/invoke/VarHandle" ∧ (parseMethodDescriptor yX6_nearestNut.desc).map (fun d => d.parameters.length) = some 0 := by decide +kernel
set_option maxHeartbeats 4000000 in
set_option maxRecDepth 100000 in
theorem c_X8_bestNut (l : Launch) (D : va_G) (ct ad : Nat → Nat) (u : Nat) (a r q : Nat → Nat) (b : Nat → Nat → Nat) (nx sz : Int) (S : Nat → Int → Int) (M TX : Int → Int) (tl pl ft n1 n2 : Int) (wd : Value) (hs : sInv M) : ZM l yX8_bestNut wsX8_bestNut ({ frames := 5, cells := 0, slots := 0, locals := 128 } : Room) D ct ad [.ref u] (x8W u a r q ++ (svW ct r b nx sz S ++ (sobjW a ++ (gridW ct a M ++ (benchW ct a M ++ (logW ct a M ++ (txtW ct q TX tl pl ft wd n1 n2))))))) (zD (some (.int (zI (sp_best M)))) (x8W u a r q ++ (svW ct r b nx sz S ++ (sobjW a ++ (gridW ct a M ++ (benchW ct a M ++ (logW ct a M ++ (txtW ct q TX tl pl ft wd n1 n2)))))))) := by
  refine ZM.of (cc := cX8_bestNut) (maxL := 1) (ret := (some .int)) (by decide +kernel) rfl (Nat.le_of_ble_eq_true rfl) ?_
  intro p e s m below meth c A ls hx hb hr hts hown hlocks hml hname hE hP hD hA hS hl
  have hK := hE.1
  have hf_0 := hts (.fieldLink RX8 10 "RodGrids" "state" "LRodGrids$State;") (by decide +kernel)
  have hin_X8 : ∀ z ∈ u_ws RX8 TX8 3, z ∈ wsX8_bestNut := by decide +kernel
  have hl : lv_has ls 1 [(0, .ref u)] := hl
  have hI := hs.1
  have hB := hs.2.1
  have ha := hs.2.2
  have i3 := hI.1
  have i4 := hI.2.1
  have j0 := hB.1
  have j1 := hB.2.1
  have j2 := hB.2.2.1
  have j4 := hB.2.2.2.2
  refine lv_aload_n hx hb dX8_bestNut_0 rfl (lv_at hl 0 rfl) ?_
  refine va_get (D := D) (ci := 6) (v := .ref (a 0)) (C := RX8) (T := TX8) (N := 3) hx hb hts hin_X8 hown hK hP 0 rfl rfl 0 (by decide) hf_0 (fun _ h9 => h9) rfl dX8_bestNut_1 ?_
  refine z_callV (C := RX6) (q0 := 0) (ci := 5) (As := []) (rest := []) (x8W u a r q ++ (svW ct r b nx sz S)) (txtW ct q TX tl pl ft wd n1 n2) hx hb hml hown hts hl hE hS hA hP hD (c_X6_nearestNut l D ct ad a M (by assumption) (by assumption)) gX8_bestNut_X6_nearestNut rfl rfl k_X6_nearestNut ⟨Nat.le_of_ble_eq_true rfl, Nat.le_of_ble_eq_true rfl⟩ rfl rfl rfl rfl (Nat.le_of_ble_eq_true rfl) ⟨Nat.le_of_ble_eq_true rfl, Nat.le_of_ble_eq_true rfl⟩ dX8_bestNut_4 rfl (fun v w1 H locs hpost hP hD hS => ?_)
  obtain ⟨rfl, rfl⟩ := hpost
  have hP : va_P D vwCl (x8W u a r q ++ (svW ct r b nx sz S ++ (sobjW a ++ (gridW ct a M ++ (benchW ct a M ++ (logW ct a M ++ (txtW ct q TX tl pl ft wd n1 n2))))))) H := hP
  have hD : va_D A (x8W u a r q ++ (svW ct r b nx sz S ++ (sobjW a ++ (gridW ct a M ++ (benchW ct a M ++ (logW ct a M ++ (txtW ct q TX tl pl ft wd n1 n2))))))) := hD
  refine W.eq (g2 := F0 m 7 ls [.int (zI (sp_best M))]) rfl ?_
  exact z_iret hx hb hr hlocks hP hD hS ⟨Nat.le_of_ble_eq_true rfl, Nat.le_of_ble_eq_true rfl⟩ dX8_bestNut_7 (⟨congrArg (fun z => some (Value.int (zI z))) (rfl), rfl⟩)
theorem k_X6_spreadOfRates : yX6_spreadOfRates.cls ≠ "java/lang/invoke/MethodHandle" ∧ yX6_spreadOfRates.cls ≠ "java/lang/invoke/VarHandle" ∧ (parseMethodDescriptor yX6_spreadOfRates.desc).map (fun d => d.parameters.length) = some 2 := by decide +kernel
set_option maxHeartbeats 4000000 in
set_option maxRecDepth 100000 in
theorem c_X8_rangeOfRates (l : Launch) (D : va_G) (ct ad : Nat → Nat) (u : Nat) (a r q : Nat → Nat) (b : Nat → Nat → Nat) (nx sz : Int) (S : Nat → Int → Int) (M TX : Int → Int) (tl pl ft n1 n2 : Int) (wd : Value) (lo hi : Int) (hs : sInv M) (h1 : -2147483648 ≤ lo ∧ lo ≤ 2147483647) (h2 : -2147483648 ≤ hi ∧ hi ≤ 2147483647) (hok : -300 ≤ lo ∧ lo ≤ hi ∧ hi ≤ 600) : ZM l yX8_rangeOfRates wsX8_rangeOfRates ({ frames := 5, cells := 0, slots := 0, locals := 126 } : Room) D ct ad [.ref u, .int (zI lo), .int (zI hi)] (x8W u a r q ++ (svW ct r b nx sz S ++ (sobjW a ++ (gridW ct a M ++ (benchW ct a M ++ (logW ct a M ++ (txtW ct q TX tl pl ft wd n1 n2))))))) (zD (some (.int (zI (sp_range M lo hi)))) (x8W u a r q ++ (svW ct r b nx sz S ++ (sobjW a ++ (gridW ct a M ++ (benchW ct a M ++ (logW ct a M ++ (txtW ct q TX tl pl ft wd n1 n2)))))))) := by
  refine ZM.of (cc := cX8_rangeOfRates) (maxL := 3) (ret := (some .int)) (by decide +kernel) rfl (Nat.le_of_ble_eq_true rfl) ?_
  intro p e s m below meth c A ls hx hb hr hts hown hlocks hml hname hE hP hD hA hS hl
  have hK := hE.1
  have hf_0 := hts (.fieldLink RX8 10 "RodGrids" "state" "LRodGrids$State;") (by decide +kernel)
  have hin_X8 : ∀ z ∈ u_ws RX8 TX8 3, z ∈ wsX8_rangeOfRates := by decide +kernel
  have hl : lv_has ls 3 [(0, .ref u), (1, .int (zI lo)), (2, .int (zI hi))] := hl
  have hI := hs.1
  have hB := hs.2.1
  have ha := hs.2.2
  have i3 := hI.1
  have i4 := hI.2.1
  have j0 := hB.1
  have j1 := hB.2.1
  have j2 := hB.2.2.1
  have j4 := hB.2.2.2.2
  refine lv_iload_n hx hb dX8_rangeOfRates_0 rfl (lv_at hl 1 rfl) ?_
  refine z_callS (As := [.int (zI lo)]) (rest := []) ([] : va_W) (x8W u a r q ++ (svW ct r b nx sz S ++ (sobjW a ++ (gridW ct a M ++ (benchW ct a M ++ (logW ct a M ++ (txtW ct q TX tl pl ft wd n1 n2))))))) hx hb hml hown hts hl hE hS hA hP hD (c_X8_isWarmth l D ct ad lo (by omega)) gX8_rangeOfRates_X8_isWarmth rfl k_X8_isWarmth ⟨Nat.le_of_ble_eq_true rfl, Nat.le_of_ble_eq_true rfl⟩ rfl (Nat.le_of_ble_eq_true rfl) ⟨Nat.le_of_ble_eq_true rfl, Nat.le_of_ble_eq_true rfl⟩ dX8_rangeOfRates_1 rfl (fun v w1 H locs hpost hP hD hS => ?_)
  obtain ⟨rfl, rfl⟩ := hpost
  have hP : va_P D vwCl (x8W u a r q ++ (svW ct r b nx sz S ++ (sobjW a ++ (gridW ct a M ++ (benchW ct a M ++ (logW ct a M ++ (txtW ct q TX tl pl ft wd n1 n2))))))) H := hP
  have hD : va_D A (x8W u a r q ++ (svW ct r b nx sz S ++ (sobjW a ++ (gridW ct a M ++ (benchW ct a M ++ (logW ct a M ++ (txtW ct q TX tl pl ft wd n1 n2))))))) := hD
  refine W.eq (g2 := F0 m 4 ls [.int (zI (zB (-300 ≤ lo ∧ lo ≤ 600)))]) rfl ?_
  refine zb_if_eq (tgt := 22) hx hb dX8_rangeOfRates_4 (by decide) (fun hc_4 => ?_) (fun hc_4 => ?_)
  · have hc_4 := hc_4
    omega
  · have hc_4 := hc_4
    refine lv_iload_n hx hb dX8_rangeOfRates_7 rfl (lv_at hl 2 rfl) ?_
    refine lv_iload_n hx hb dX8_rangeOfRates_8 rfl (lv_at hl 1 rfl) ?_
    refine z_sipush hx hb dX8_rangeOfRates_9 (by decide) ?_
    refine z_callS (As := [.int (zI hi), .int (zI lo), .int (zI 600)]) (rest := []) ([] : va_W) (x8W u a r q ++ (svW ct r b nx sz S ++ (sobjW a ++ (gridW ct a M ++ (benchW ct a M ++ (logW ct a M ++ (txtW ct q TX tl pl ft wd n1 n2))))))) hx hb hml hown hts hl hE hS hA hP hD (c_X8_within l D ct ad hi lo 600 (by omega) (by omega) (by omega)) gX8_rangeOfRates_X8_within rfl k_X8_within ⟨Nat.le_of_ble_eq_true rfl, Nat.le_of_ble_eq_true rfl⟩ rfl (Nat.le_of_ble_eq_true rfl) ⟨Nat.le_of_ble_eq_true rfl, Nat.le_of_ble_eq_true rfl⟩ dX8_rangeOfRates_12 rfl (fun v w1 H locs hpost hP hD hS => ?_)
    obtain ⟨rfl, rfl⟩ := hpost
    have hP : va_P D vwCl (x8W u a r q ++ (svW ct r b nx sz S ++ (sobjW a ++ (gridW ct a M ++ (benchW ct a M ++ (logW ct a M ++ (txtW ct q TX tl pl ft wd n1 n2))))))) H := hP
    have hD : va_D A (x8W u a r q ++ (svW ct r b nx sz S ++ (sobjW a ++ (gridW ct a M ++ (benchW ct a M ++ (logW ct a M ++ (txtW ct q TX tl pl ft wd n1 n2))))))) := hD
    refine W.eq (g2 := F0 m 15 ls [.int (zI (zB (lo ≤ hi ∧ hi ≤ 600)))]) rfl ?_
    refine zb_if_eq (tgt := 22) hx hb dX8_rangeOfRates_15 (by decide) (fun hc_15 => ?_) (fun hc_15 => ?_)
    · have hc_15 := hc_15
      omega
    · have hc_15 := hc_15
      refine z_iconst hx hb dX8_rangeOfRates_18 ?_
      refine lv_goto (tgt := 23) hx hb dX8_rangeOfRates_19 (by decide) ?_
      refine z_callS (As := [.int (zI 0)]) (rest := []) ([] : va_W) (x8W u a r q ++ (svW ct r b nx sz S ++ (sobjW a ++ (gridW ct a M ++ (benchW ct a M ++ (logW ct a M ++ (txtW ct q TX tl pl ft wd n1 n2))))))) hx hb hml hown hts hl hE hS hA hP hD (c_X8_refuse l D ct ad 0 rfl) gX8_rangeOfRates_X8_refuse rfl k_X8_refuse ⟨Nat.le_of_ble_eq_true rfl, Nat.le_of_ble_eq_true rfl⟩ rfl (Nat.le_of_ble_eq_true rfl) ⟨Nat.le_of_ble_eq_true rfl, Nat.le_of_ble_eq_true rfl⟩ dX8_rangeOfRates_23 rfl (fun v w1 H locs hpost hP hD hS => ?_)
      obtain ⟨rfl, rfl⟩ := hpost
      have hP : va_P D vwCl (x8W u a r q ++ (svW ct r b nx sz S ++ (sobjW a ++ (gridW ct a M ++ (benchW ct a M ++ (logW ct a M ++ (txtW ct q TX tl pl ft wd n1 n2))))))) H := hP
      have hD : va_D A (x8W u a r q ++ (svW ct r b nx sz S ++ (sobjW a ++ (gridW ct a M ++ (benchW ct a M ++ (logW ct a M ++ (txtW ct q TX tl pl ft wd n1 n2))))))) := hD
      refine W.eq (g2 := F0 m 26 ls []) rfl ?_
      refine lv_aload_n hx hb dX8_rangeOfRates_26 rfl (lv_at hl 0 rfl) ?_
      refine va_get (D := D) (ci := 6) (v := .ref (a 0)) (C := RX8) (T := TX8) (N := 3) hx hb hts hin_X8 hown hK hP 0 rfl rfl 0 (by decide) hf_0 (fun _ h9 => h9) rfl dX8_rangeOfRates_27 ?_
      refine lv_iload_n hx hb dX8_rangeOfRates_30 rfl (lv_at hl 1 rfl) ?_
      refine lv_iload_n hx hb dX8_rangeOfRates_31 rfl (lv_at hl 2 rfl) ?_
      refine z_callV (C := RX6) (q0 := 0) (ci := 5) (As := [.int (zI lo), .int (zI hi)]) (rest := []) (x8W u a r q ++ (svW ct r b nx sz S)) (txtW ct q TX tl pl ft wd n1 n2) hx hb hml hown hts hl hE hS hA hP hD (c_X6_spreadOfRates l D ct ad a M lo hi (by assumption) (by assumption) (by omega)) gX8_rangeOfRates_X6_spreadOfRates rfl rfl k_X6_spreadOfRates ⟨Nat.le_of_ble_eq_true rfl, Nat.le_of_ble_eq_true rfl⟩ rfl rfl rfl rfl (Nat.le_of_ble_eq_true rfl) ⟨Nat.le_of_ble_eq_true rfl, Nat.le_of_ble_eq_true rfl⟩ dX8_rangeOfRates_32 rfl (fun v w1 H locs hpost hP hD hS => ?_)
      obtain ⟨rfl, rfl⟩ := hpost
      have hP : va_P D vwCl (x8W u a r q ++ (svW ct r b nx sz S ++ (sobjW a ++ (gridW ct a M ++ (benchW ct a M ++ (logW ct a M ++ (txtW ct q TX tl pl ft wd n1 n2))))))) H := hP
      have hD : va_D A (x8W u a r q ++ (svW ct r b nx sz S ++ (sobjW a ++ (gridW ct a M ++ (benchW ct a M ++ (logW ct a M ++ (txtW ct q TX tl pl ft wd n1 n2))))))) := hD
      refine W.eq (g2 := F0 m 35 ls [.int (zI (sp_range M lo hi))]) rfl ?_
      exact z_iret hx hb hr hlocks hP hD hS ⟨Nat.le_of_ble_eq_true rfl, Nat.le_of_ble_eq_true rfl⟩ dX8_rangeOfRates_35 (⟨congrArg (fun z => some (Value.int (zI z))) (rfl), rfl⟩)
theorem k_X6_changeOfRates : yX6_changeOfRates.cls ≠ "java/lang/invoke/MethodHandle" ∧ yX6_changeOfRates.cls ≠ "java/lang/invoke/VarHandle" ∧ (parseMethodDescriptor yX6_changeOfRates.desc).map (fun d => d.parameters.length) = some 1 := by decide +kernel
set_option maxHeartbeats 4000000 in
set_option maxRecDepth 100000 in
theorem c_X8_changeWithin (l : Launch) (D : va_G) (ct ad : Nat → Nat) (u : Nat) (a r q : Nat → Nat) (b : Nat → Nat → Nat) (nx sz : Int) (S : Nat → Int → Int) (M TX : Int → Int) (tl pl ft n1 n2 : Int) (wd : Value) (n : Int) (hs : sInv M) (h1 : -2147483648 ≤ n ∧ n ≤ 2147483647) (hok : 0 ≤ n ∧ n ≤ 500) : ZM l yX8_changeWithin wsX8_changeWithin ({ frames := 5, cells := 0, slots := 0, locals := 126 } : Room) D ct ad [.ref u, .int (zI n)] (x8W u a r q ++ (svW ct r b nx sz S ++ (sobjW a ++ (gridW ct a M ++ (benchW ct a M ++ (logW ct a M ++ (txtW ct q TX tl pl ft wd n1 n2))))))) (zD (some (.long (zJ (sp_cs M (min n (M 8)).toNat)))) (x8W u a r q ++ (svW ct r b nx sz S ++ (sobjW a ++ (gridW ct a M ++ (benchW ct a M ++ (logW ct a M ++ (txtW ct q TX tl pl ft wd n1 n2)))))))) := by
  refine ZM.of (cc := cX8_changeWithin) (maxL := 2) (ret := (some .long)) (by decide +kernel) rfl (Nat.le_of_ble_eq_true rfl) ?_
  intro p e s m below meth c A ls hx hb hr hts hown hlocks hml hname hE hP hD hA hS hl
  have hK := hE.1
  have hf_0 := hts (.fieldLink RX8 10 "RodGrids" "state" "LRodGrids$State;") (by decide +kernel)
  have hin_X8 : ∀ z ∈ u_ws RX8 TX8 3, z ∈ wsX8_changeWithin := by decide +kernel
  have hl : lv_has ls 2 [(0, .ref u), (1, .int (zI n))] := hl
  have hI := hs.1
  have hB := hs.2.1
  have ha := hs.2.2
  have i3 := hI.1
  have i4 := hI.2.1
  have j0 := hB.1
  have j1 := hB.2.1
  have j2 := hB.2.2.1
  have j4 := hB.2.2.2.2
  refine lv_iload_n hx hb dX8_changeWithin_0 rfl (lv_at hl 1 rfl) ?_
  refine z_iconst hx hb dX8_changeWithin_1 ?_
  refine z_sipush hx hb dX8_changeWithin_2 (by decide) ?_
  refine z_callS (As := [.int (zI n), .int (zI 0), .int (zI 500)]) (rest := []) ([] : va_W) (x8W u a r q ++ (svW ct r b nx sz S ++ (sobjW a ++ (gridW ct a M ++ (benchW ct a M ++ (logW ct a M ++ (txtW ct q TX tl pl ft wd n1 n2))))))) hx hb hml hown hts hl hE hS hA hP hD (c_X8_within l D ct ad n 0 500 (by omega) (by omega) (by omega)) gX8_changeWithin_X8_within rfl k_X8_within ⟨Nat.le_of_ble_eq_true rfl, Nat.le_of_ble_eq_true rfl⟩ rfl (Nat.le_of_ble_eq_true rfl) ⟨Nat.le_of_ble_eq_true rfl, Nat.le_of_ble_eq_true rfl⟩ dX8_changeWithin_5 rfl (fun v w1 H locs hpost hP hD hS => ?_)
  obtain ⟨rfl, rfl⟩ := hpost
  have hP : va_P D vwCl (x8W u a r q ++ (svW ct r b nx sz S ++ (sobjW a ++ (gridW ct a M ++ (benchW ct a M ++ (logW ct a M ++ (txtW ct q TX tl pl ft wd n1 n2))))))) H := hP
  have hD : va_D A (x8W u a r q ++ (svW ct r b nx sz S ++ (sobjW a ++ (gridW ct a M ++ (benchW ct a M ++ (logW ct a M ++ (txtW ct q TX tl pl ft wd n1 n2))))))) := hD
  refine W.eq (g2 := F0 m 8 ls [.int (zI (zB (0 ≤ n ∧ n ≤ 500)))]) rfl ?_
  refine zb_if_eq (tgt := 15) hx hb dX8_changeWithin_8 (by decide) (fun hc_8 => ?_) (fun hc_8 => ?_)
  · have hc_8 := hc_8
    exact absurd hok hc_8
  · have hc_8 := hc_8
    refine z_iconst hx hb dX8_changeWithin_11 ?_
    refine lv_goto (tgt := 16) hx hb dX8_changeWithin_12 (by decide) ?_
    refine z_callS (As := [.int (zI 0)]) (rest := []) ([] : va_W) (x8W u a r q ++ (svW ct r b nx sz S ++ (sobjW a ++ (gridW ct a M ++ (benchW ct a M ++ (logW ct a M ++ (txtW ct q TX tl pl ft wd n1 n2))))))) hx hb hml hown hts hl hE hS hA hP hD (c_X8_refuse l D ct ad 0 rfl) gX8_changeWithin_X8_refuse rfl k_X8_refuse ⟨Nat.le_of_ble_eq_true rfl, Nat.le_of_ble_eq_true rfl⟩ rfl (Nat.le_of_ble_eq_true rfl) ⟨Nat.le_of_ble_eq_true rfl, Nat.le_of_ble_eq_true rfl⟩ dX8_changeWithin_16 rfl (fun v w1 H locs hpost hP hD hS => ?_)
    obtain ⟨rfl, rfl⟩ := hpost
    have hP : va_P D vwCl (x8W u a r q ++ (svW ct r b nx sz S ++ (sobjW a ++ (gridW ct a M ++ (benchW ct a M ++ (logW ct a M ++ (txtW ct q TX tl pl ft wd n1 n2))))))) H := hP
    have hD : va_D A (x8W u a r q ++ (svW ct r b nx sz S ++ (sobjW a ++ (gridW ct a M ++ (benchW ct a M ++ (logW ct a M ++ (txtW ct q TX tl pl ft wd n1 n2))))))) := hD
    refine W.eq (g2 := F0 m 19 ls []) rfl ?_
    refine lv_aload_n hx hb dX8_changeWithin_19 rfl (lv_at hl 0 rfl) ?_
    refine va_get (D := D) (ci := 6) (v := .ref (a 0)) (C := RX8) (T := TX8) (N := 3) hx hb hts hin_X8 hown hK hP 0 rfl rfl 0 (by decide) hf_0 (fun _ h9 => h9) rfl dX8_changeWithin_20 ?_
    refine lv_iload_n hx hb dX8_changeWithin_23 rfl (lv_at hl 1 rfl) ?_
    refine z_callV (C := RX6) (q0 := 0) (ci := 5) (As := [.int (zI n)]) (rest := []) (x8W u a r q ++ (svW ct r b nx sz S)) (txtW ct q TX tl pl ft wd n1 n2) hx hb hml hown hts hl hE hS hA hP hD (c_X6_changeOfRates l D ct ad a M n (by assumption) (by assumption) (by omega)) gX8_changeWithin_X6_changeOfRates rfl rfl k_X6_changeOfRates ⟨Nat.le_of_ble_eq_true rfl, Nat.le_of_ble_eq_true rfl⟩ rfl rfl rfl rfl (Nat.le_of_ble_eq_true rfl) ⟨Nat.le_of_ble_eq_true rfl, Nat.le_of_ble_eq_true rfl⟩ dX8_changeWithin_24 rfl (fun v w1 H locs hpost hP hD hS => ?_)
    obtain ⟨rfl, rfl⟩ := hpost
    have hP : va_P D vwCl (x8W u a r q ++ (svW ct r b nx sz S ++ (sobjW a ++ (gridW ct a M ++ (benchW ct a M ++ (logW ct a M ++ (txtW ct q TX tl pl ft wd n1 n2))))))) H := hP
    have hD : va_D A (x8W u a r q ++ (svW ct r b nx sz S ++ (sobjW a ++ (gridW ct a M ++ (benchW ct a M ++ (logW ct a M ++ (txtW ct q TX tl pl ft wd n1 n2))))))) := hD
    refine W.eq (g2 := F0 m 27 ls [.long (zJ (sp_cs M (min n (M 8)).toNat))]) rfl ?_
    exact z_lret hx hb hr hlocks hP hD hS ⟨Nat.le_of_ble_eq_true rfl, Nat.le_of_ble_eq_true rfl⟩ dX8_changeWithin_27 (⟨congrArg (fun z => some (Value.long (zJ z))) (rfl), rfl⟩)
theorem k_X2_append : yX2_append.cls ≠ "java/lang/invoke/MethodHandle" ∧ yX2_append.cls ≠ "java/lang/invoke/VarHandle" ∧ (parseMethodDescriptor yX2_append.desc).map (fun d => d.parameters.length) = some 1 := by decide +kernel
theorem k_X2_checkByte : yX2_checkByte.cls ≠ "java/lang/invoke/MethodHandle" ∧ yX2_checkByte.cls ≠ "java/lang/invoke/VarHandle" ∧ (parseMethodDescriptor yX2_checkByte.desc).map (fun d => d.parameters.length) = some 1 := by decide +kernel
set_option maxHeartbeats 4000000 in
set_option maxRecDepth 100000 in
theorem c_X8_type (l : Launch) (D : va_G) (ct ad : Nat → Nat) (u : Nat) (a r q : Nat → Nat) (b : Nat → Nat → Nat) (nx sz : Int) (S : Nat → Int → Int) (M TX : Int → Int) (tl pl ft n1 n2 : Int) (wd : Value) (v : Int) (hs : sInv M) (ht : tInv TX tl) (h1 : -2147483648 ≤ v ∧ v ≤ 2147483647) (hok : (0 ≤ v ∧ v ≤ 127) ∧ tl < 150) : ZM l yX8_type wsX8_type ({ frames := 2, cells := 0, slots := 0, locals := 43 } : Room) D ct ad [.ref u, .int (zI v)] (x8W u a r q ++ (svW ct r b nx sz S ++ (sobjW a ++ (gridW ct a M ++ (benchW ct a M ++ (logW ct a M ++ (txtW ct q TX tl pl ft wd n1 n2))))))) (zD (some (.int (zI (tl + 1)))) (x8W u a r q ++ (svW ct r b nx sz S ++ (sobjW a ++ (gridW ct a M ++ (benchW ct a M ++ (logW ct a M ++ (txtW ct q (up TX tl v) (tl + 1) pl ft wd n1 n2)))))))) := by
  refine ZM.of (cc := cX8_type) (maxL := 2) (ret := (some .int)) (by decide +kernel) rfl (Nat.le_of_ble_eq_true rfl) ?_
  intro p e s m below meth c A ls hx hb hr hts hown hlocks hml hname hE hP hD hA hS hl
  have hK := hE.1
  have hf_0 := hts (.fieldLink RX8 26 "RodGrids" "text" "LRodGrids$CommandText;") (by decide +kernel)
  have hin_X8 : ∀ z ∈ u_ws RX8 TX8 3, z ∈ wsX8_type := by decide +kernel
  have hl : lv_has ls 2 [(0, .ref u), (1, .int (zI v))] := hl
  have hI := hs.1
  have hB := hs.2.1
  have ha := hs.2.2
  have i3 := hI.1
  have i4 := hI.2.1
  have j0 := hB.1
  have j1 := hB.2.1
  have j2 := hB.2.2.1
  have j4 := hB.2.2.2.2
  have t1 := ht.1
  refine lv_aload_n hx hb dX8_type_0 rfl (lv_at hl 0 rfl) ?_
  refine va_get (D := D) (ci := 6) (v := .ref (q 0)) (C := RX8) (T := TX8) (N := 3) hx hb hts hin_X8 hown hK hP 0 rfl rfl 2 (by decide) hf_0 (fun _ h9 => h9) rfl dX8_type_1 ?_
  refine lv_iload_n hx hb dX8_type_4 rfl (lv_at hl 1 rfl) ?_
  refine z_callV (C := RX2) (q0 := 0) (ci := 1) (As := [.int (zI v)]) (rest := []) (x8W u a r q ++ (svW ct r b nx sz S ++ (sobjW a ++ (gridW ct a M ++ (benchW ct a M ++ (logW ct a M)))))) ([] : va_W) hx hb hml hown hts hl hE hS hA (zr0 (x8W u a r q ++ (svW ct r b nx sz S ++ (sobjW a ++ (gridW ct a M ++ (benchW ct a M ++ (logW ct a M)))))) hP) (zr0D (x8W u a r q ++ (svW ct r b nx sz S ++ (sobjW a ++ (gridW ct a M ++ (benchW ct a M ++ (logW ct a M)))))) hD) (c_X2_checkByte l D ct ad q TX tl pl ft n1 n2 wd v (by assumption) (by omega)) gX8_type_X2_checkByte rfl rfl k_X2_checkByte ⟨Nat.le_of_ble_eq_true rfl, Nat.le_of_ble_eq_true rfl⟩ rfl rfl rfl rfl (Nat.le_of_ble_eq_true rfl) ⟨Nat.le_of_ble_eq_true rfl, Nat.le_of_ble_eq_true rfl⟩ dX8_type_5 rfl (fun v w1 H locs hpost hP hD hS => ?_)
  obtain ⟨rfl, rfl⟩ := hpost
  have hP := zr0' hP
  have hD := zr0D' hD
  have hP : va_P D vwCl (x8W u a r q ++ (svW ct r b nx sz S ++ (sobjW a ++ (gridW ct a M ++ (benchW ct a M ++ (logW ct a M ++ (txtW ct q TX tl pl ft wd n1 n2))))))) H := hP
  have hD : va_D A (x8W u a r q ++ (svW ct r b nx sz S ++ (sobjW a ++ (gridW ct a M ++ (benchW ct a M ++ (logW ct a M ++ (txtW ct q TX tl pl ft wd n1 n2))))))) := hD
  refine W.eq (g2 := F0 m 8 ls [.int (zI (if 0 ≤ v ∧ v ≤ 127 then (if tl < 150 then 0 else 3) else 2))]) rfl ?_
  refine z_callS (As := [.int (zI (if 0 ≤ v ∧ v ≤ 127 then (if tl < 150 then 0 else 3) else 2))]) (rest := []) ([] : va_W) (x8W u a r q ++ (svW ct r b nx sz S ++ (sobjW a ++ (gridW ct a M ++ (benchW ct a M ++ (logW ct a M ++ (txtW ct q TX tl pl ft wd n1 n2))))))) hx hb hml hown hts hl hE hS hA hP hD (c_X8_refuse l D ct ad (if 0 ≤ v ∧ v ≤ 127 then (if tl < 150 then 0 else 3) else 2) (by rw [if_pos hok.1, if_pos hok.2])) gX8_type_X8_refuse rfl k_X8_refuse ⟨Nat.le_of_ble_eq_true rfl, Nat.le_of_ble_eq_true rfl⟩ rfl (Nat.le_of_ble_eq_true rfl) ⟨Nat.le_of_ble_eq_true rfl, Nat.le_of_ble_eq_true rfl⟩ dX8_type_8 rfl (fun v w1 H locs hpost hP hD hS => ?_)
  obtain ⟨rfl, rfl⟩ := hpost
  have hP : va_P D vwCl (x8W u a r q ++ (svW ct r b nx sz S ++ (sobjW a ++ (gridW ct a M ++ (benchW ct a M ++ (logW ct a M ++ (txtW ct q TX tl pl ft wd n1 n2))))))) H := hP
  have hD : va_D A (x8W u a r q ++ (svW ct r b nx sz S ++ (sobjW a ++ (gridW ct a M ++ (benchW ct a M ++ (logW ct a M ++ (txtW ct q TX tl pl ft wd n1 n2))))))) := hD
  refine W.eq (g2 := F0 m 11 ls []) rfl ?_
  refine lv_aload_n hx hb dX8_type_11 rfl (lv_at hl 0 rfl) ?_
  refine va_get (D := D) (ci := 6) (v := .ref (q 0)) (C := RX8) (T := TX8) (N := 3) hx hb hts hin_X8 hown hK hP 0 rfl rfl 2 (by decide) hf_0 (fun _ h9 => h9) rfl dX8_type_12 ?_
  refine lv_iload_n hx hb dX8_type_15 rfl (lv_at hl 1 rfl) ?_
  refine z_callV (C := RX2) (q0 := 0) (ci := 1) (As := [.int (zI v)]) (rest := []) (x8W u a r q ++ (svW ct r b nx sz S ++ (sobjW a ++ (gridW ct a M ++ (benchW ct a M ++ (logW ct a M)))))) ([] : va_W) hx hb hml hown hts hl hE hS hA (zr0 (x8W u a r q ++ (svW ct r b nx sz S ++ (sobjW a ++ (gridW ct a M ++ (benchW ct a M ++ (logW ct a M)))))) hP) (zr0D (x8W u a r q ++ (svW ct r b nx sz S ++ (sobjW a ++ (gridW ct a M ++ (benchW ct a M ++ (logW ct a M)))))) hD) (c_X2_append l D ct ad q TX tl pl ft n1 n2 wd v (by assumption) (by omega)) gX8_type_X2_append rfl rfl k_X2_append ⟨Nat.le_of_ble_eq_true rfl, Nat.le_of_ble_eq_true rfl⟩ rfl rfl rfl rfl (Nat.le_of_ble_eq_true rfl) ⟨Nat.le_of_ble_eq_true rfl, Nat.le_of_ble_eq_true rfl⟩ dX8_type_16 rfl (fun v w1 H locs hpost hP hD hS => ?_)
  obtain ⟨rfl, rfl⟩ := hpost
  have hP := zr0' hP
  have hD := zr0D' hD
  have hP : va_P D vwCl (x8W u a r q ++ (svW ct r b nx sz S ++ (sobjW a ++ (gridW ct a M ++ (benchW ct a M ++ (logW ct a M ++ (txtW ct q (up TX tl v) (tl + 1) pl ft wd n1 n2))))))) H := hP
  have hD : va_D A (x8W u a r q ++ (svW ct r b nx sz S ++ (sobjW a ++ (gridW ct a M ++ (benchW ct a M ++ (logW ct a M ++ (txtW ct q (up TX tl v) (tl + 1) pl ft wd n1 n2))))))) := hD
  refine W.eq (g2 := F0 m 19 ls [.int (zI (tl + 1))]) rfl ?_
  exact z_iret hx hb hr hlocks hP hD hS ⟨Nat.le_of_ble_eq_true rfl, Nat.le_of_ble_eq_true rfl⟩ dX8_type_19 (⟨congrArg (fun z => some (Value.int (zI z))) (rfl), rfl⟩)
theorem k_X5_popInto : yX5_popInto.cls ≠ "java/lang/invoke/MethodHandle" ∧ yX5_popInto.cls ≠ "java/lang/invoke/VarHandle" ∧ (parseMethodDescriptor yX5_popInto.desc).map (fun d => d.parameters.length) = some 1 := by decide +kernel
set_option maxHeartbeats 4000000 in
set_option maxRecDepth 100000 in
theorem c_X8_undo (l : Launch) (D : va_G) (ct ad : Nat → Nat) (u : Nat) (a r q : Nat → Nat) (b : Nat → Nat → Nat) (nx sz : Int) (S : Nat → Int → Int) (M TX : Int → Int) (tl pl ft n1 n2 : Int) (wd : Value) (hs : sInv M) (hn : 0 ≤ nx ∧ nx ≤ 3) (hsz : 1 ≤ sz ∧ sz ≤ 4) : ZM l yX8_undo wsX8_undo ({ frames := 4, cells := 0, slots := 0, locals := 82 } : Room) D ct ad [.ref u] (x8W u a r q ++ (svW ct r b nx sz S ++ (sobjW a ++ (gridW ct a M ++ (benchW ct a M ++ (logW ct a M ++ (txtW ct q TX tl pl ft wd n1 n2))))))) (zD (some (.int (zI (sz - 1)))) (x8W u a r q ++ (svW ct r b ((nx + 3) % 4) (sz - 1) S ++ (sobjW a ++ (gridW ct a (S ((nx + 3) % 4).toNat) ++ (benchW ct a (S ((nx + 3) % 4).toNat) ++ (logW ct a (S ((nx + 3) % 4).toNat) ++ (txtW ct q TX tl pl ft wd n1 n2)))))))) := by
  refine ZM.of (cc := cX8_undo) (maxL := 1) (ret := (some .int)) (by decide +kernel) rfl (Nat.le_of_ble_eq_true rfl) ?_
  intro p e s m below meth c A ls hx hb hr hts hown hlocks hml hname hE hP hD hA hS hl
  have hK := hE.1
  have hf_0 := hts (.fieldLink RX8 19 "RodGrids" "saved" "LRodGrids$SavedStates;") (by decide +kernel)
  have hf_1 := hts (.fieldLink RX8 231 "RodGrids$SavedStates" "size" "I") (by decide +kernel)
  have hf_2 := hts (.fieldLink RX8 10 "RodGrids" "state" "LRodGrids$State;") (by decide +kernel)
  have hin_X5 : ∀ z ∈ u_ws RX5 TX5 3, z ∈ wsX8_undo := by decide +kernel
  have hin_X8 : ∀ z ∈ u_ws RX8 TX8 3, z ∈ wsX8_undo := by decide +kernel
  have hl : lv_has ls 1 [(0, .ref u)] := hl
  have hI := hs.1
  have hB := hs.2.1
  have ha := hs.2.2
  have i3 := hI.1
  have i4 := hI.2.1
  have j0 := hB.1
  have j1 := hB.2.1
  have j2 := hB.2.2.1
  have j4 := hB.2.2.2.2
  refine lv_aload_n hx hb dX8_undo_0 rfl (lv_at hl 0 rfl) ?_
  refine va_get (D := D) (ci := 6) (v := .ref (r 0)) (C := RX8) (T := TX8) (N := 3) hx hb hts hin_X8 hown hK hP 0 rfl rfl 1 (by decide) hf_0 (fun _ h9 => h9) rfl dX8_undo_1 ?_
  refine va_get (D := D) (ci := 4) (v := .int (zI sz)) (C := RX5) (T := TX5) (N := 3) hx hb hts hin_X5 hown hK hP 1 rfl rfl 2 (by decide) hf_1 (fun _ h9 => h9) rfl dX8_undo_4 ?_
  refine z_if_le (tgt := 14) hx hb dX8_undo_7 (by decide) (by omega) (fun hc_7 => ?_) (fun hc_7 => ?_)
  · have hc_7 := hc_7
    omega
  · have hc_7 := hc_7
    refine z_iconst hx hb dX8_undo_10 ?_
    refine lv_goto (tgt := 15) hx hb dX8_undo_11 (by decide) ?_
    refine z_callS (As := [.int (zI 0)]) (rest := []) ([] : va_W) (x8W u a r q ++ (svW ct r b nx sz S ++ (sobjW a ++ (gridW ct a M ++ (benchW ct a M ++ (logW ct a M ++ (txtW ct q TX tl pl ft wd n1 n2))))))) hx hb hml hown hts hl hE hS hA hP hD (c_X8_refuse l D ct ad 0 rfl) gX8_undo_X8_refuse rfl k_X8_refuse ⟨Nat.le_of_ble_eq_true rfl, Nat.le_of_ble_eq_true rfl⟩ rfl (Nat.le_of_ble_eq_true rfl) ⟨Nat.le_of_ble_eq_true rfl, Nat.le_of_ble_eq_true rfl⟩ dX8_undo_15 rfl (fun v w1 H locs hpost hP hD hS => ?_)
    obtain ⟨rfl, rfl⟩ := hpost
    have hP : va_P D vwCl (x8W u a r q ++ (svW ct r b nx sz S ++ (sobjW a ++ (gridW ct a M ++ (benchW ct a M ++ (logW ct a M ++ (txtW ct q TX tl pl ft wd n1 n2))))))) H := hP
    have hD : va_D A (x8W u a r q ++ (svW ct r b nx sz S ++ (sobjW a ++ (gridW ct a M ++ (benchW ct a M ++ (logW ct a M ++ (txtW ct q TX tl pl ft wd n1 n2))))))) := hD
    refine W.eq (g2 := F0 m 18 ls []) rfl ?_
    refine lv_aload_n hx hb dX8_undo_18 rfl (lv_at hl 0 rfl) ?_
    refine va_get (D := D) (ci := 6) (v := .ref (r 0)) (C := RX8) (T := TX8) (N := 3) hx hb hts hin_X8 hown hK hP 0 rfl rfl 1 (by decide) hf_0 (fun _ h9 => h9) rfl dX8_undo_19 ?_
    refine lv_aload_n hx hb dX8_undo_22 rfl (lv_at hl 0 rfl) ?_
    refine va_get (D := D) (ci := 6) (v := .ref (a 0)) (C := RX8) (T := TX8) (N := 3) hx hb hts hin_X8 hown hK hP 0 rfl rfl 0 (by decide) hf_2 (fun _ h9 => h9) rfl dX8_undo_23 ?_
    refine z_callV (C := RX5) (q0 := 0) (ci := 4) (As := [.ref (a 0)]) (rest := []) (x8W u a r q) (txtW ct q TX tl pl ft wd n1 n2) hx hb hml hown hts hl hE hS hA hP hD (c_X5_popInto l D ct ad r a b nx sz S M (by omega) (by omega)) gX8_undo_X5_popInto rfl rfl k_X5_popInto ⟨Nat.le_of_ble_eq_true rfl, Nat.le_of_ble_eq_true rfl⟩ rfl rfl rfl rfl (Nat.le_of_ble_eq_true rfl) ⟨Nat.le_of_ble_eq_true rfl, Nat.le_of_ble_eq_true rfl⟩ dX8_undo_26 rfl (fun v w1 H locs hpost hP hD hS => ?_)
    obtain ⟨rfl, rfl⟩ := hpost
    have hP : va_P D vwCl (x8W u a r q ++ (svW ct r b ((nx + 3) % 4) (sz - 1) S ++ (sobjW a ++ (gridW ct a (S ((nx + 3) % 4).toNat) ++ (benchW ct a (S ((nx + 3) % 4).toNat) ++ (logW ct a (S ((nx + 3) % 4).toNat) ++ (txtW ct q TX tl pl ft wd n1 n2))))))) H := hP
    have hD : va_D A (x8W u a r q ++ (svW ct r b ((nx + 3) % 4) (sz - 1) S ++ (sobjW a ++ (gridW ct a (S ((nx + 3) % 4).toNat) ++ (benchW ct a (S ((nx + 3) % 4).toNat) ++ (logW ct a (S ((nx + 3) % 4).toNat) ++ (txtW ct q TX tl pl ft wd n1 n2))))))) := hD
    refine W.eq (g2 := F0 m 29 ls [.int (zI (sz - 1))]) rfl ?_
    exact z_iret hx hb hr hlocks hP hD hS ⟨Nat.le_of_ble_eq_true rfl, Nat.le_of_ble_eq_true rfl⟩ dX8_undo_29 (⟨congrArg (fun z => some (Value.int (zI z))) (rfl), rfl⟩)
