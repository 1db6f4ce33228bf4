set_option maxHeartbeats 4000000 in
set_option maxRecDepth 100000 in
theorem c_X4_hasMetal (l : Launch) (D : va_G) (ct ad : Nat → Nat) (a : Nat → Nat) (M : Int → Int) (k : Int) (hI : gInv M) (h1 : -2147483648 ≤ k ∧ k ≤ 2147483647) : ZM l yX4_hasMetal wsX4_hasMetal ({ frames := 1, cells := 0, slots := 0, locals := 22 } : Room) D ct ad [.ref (a 1), .int (zI k)] (gridW ct a M) (zD (some (.int (zI (zB (0 ≤ k ∧ k < M 3))))) (gridW ct a M)) := by
  refine ZM.of (cc := cX4_hasMetal) (maxL := 2) (ret := (some .boolean)) (by decide +kernel) rfl (Nat.le_of_ble_eq_true rfl) ?_
  intro p e s m below meth c A ls hx hb hr hts hown hlocks hml hname hE hP hD hA hS hl
  have hK := hE.1
  have hf_0 := hts (.fieldLink RX4 9 "RodGrids$Grid" "metals" "I") (by decide +kernel)
  have hin_X4 : ∀ z ∈ u_ws RX4 TX4 6, z ∈ wsX4_hasMetal := by decide +kernel
  have hl : lv_has ls 2 [(0, .ref (a 1)), (1, .int (zI k))] := hl
  have i3 := hI.1
  have i4 := hI.2.1
  refine lv_iload_n hx hb dX4_hasMetal_0 rfl (lv_at hl 1 rfl) ?_
  refine z_iconst hx hb dX4_hasMetal_1 ?_
  refine lv_aload_n hx hb dX4_hasMetal_2 rfl (lv_at hl 0 rfl) ?_
  refine va_get (D := D) (ci := 3) (v := .int (zI (M 3))) (C := RX4) (T := TX4) (N := 6) hx hb hts hin_X4 hown hK hP 0 rfl rfl 0 (by decide) hf_0 (fun _ h9 => h9) rfl dX4_hasMetal_3 ?_
  refine z_iconst hx hb dX4_hasMetal_6 ?_
  refine z_isub hx hb dX4_hasMetal_7 ?_
  refine z_callSN (host := RX8) (As := [.int (zI k), .int (zI 0), .int (zI ((M 3) - 1))]) (rest := []) ([] : va_W) (gridW ct a M) hx hb hml hown hts hl hE hS hA hP hD (c_X8_within l D ct ad k 0 ((M 3) - 1) (by omega) (by omega) (by omega)) ggX4_hasMetal_X8_within rfl k_X8_within ⟨Nat.le_of_ble_eq_true rfl, Nat.le_of_ble_eq_true rfl⟩ (hE.2.1.1 _ (List.mem_of_getElem? (i := 11) rfl)) (hts (.initialized RX8) (by decide +kernel)) (hts (.static yX8_within) (by decide +kernel)) rfl (Nat.le_of_ble_eq_true rfl) ⟨Nat.le_of_ble_eq_true rfl, Nat.le_of_ble_eq_true rfl⟩ dX4_hasMetal_8 rfl (fun v w1 H locs hpost hP hD hS => ?_)
  obtain ⟨rfl, rfl⟩ := hpost
  have hP : va_P D vwCl (gridW ct a M) H := hP
  have hD : va_D A (gridW ct a M) := hD
  refine W.eq (g2 := F0 m 11 ls [.int (zI (zB (0 ≤ k ∧ k ≤ ((M 3) - 1))))]) rfl ?_
  exact z_zret hx hb hr (by first | rfl | exact zB_nar) hlocks hP hD hS ⟨Nat.le_of_ble_eq_true rfl, Nat.le_of_ble_eq_true rfl⟩ dX4_hasMetal_11 (⟨congrArg (fun z => some (Value.int (zI z))) (by first | exact (zB_t (by omega)).symm | exact (zB_f (by omega)).symm | exact zB_c (by omega)), rfl⟩)
set_option maxHeartbeats 4000000 in
set_option maxRecDepth 100000 in
theorem c_X4_hasRod (l : Launch) (D : va_G) (ct ad : Nat → Nat) (a : Nat → Nat) (M : Int → Int) (k : Int) (hI : gInv M) (h1 : -2147483648 ≤ k ∧ k ≤ 2147483647) : ZM l yX4_hasRod wsX4_hasRod ({ frames := 1, cells := 0, slots := 0, locals := 22 } : Room) D ct ad [.ref (a 1), .int (zI k)] (gridW ct a M) (zD (some (.int (zI (zB (0 ≤ k ∧ k < M 4))))) (gridW ct a M)) := by
  refine ZM.of (cc := cX4_hasRod) (maxL := 2) (ret := (some .boolean)) (by decide +kernel) rfl (Nat.le_of_ble_eq_true rfl) ?_
  intro p e s m below meth c A ls hx hb hr hts hown hlocks hml hname hE hP hD hA hS hl
  have hK := hE.1
  have hf_0 := hts (.fieldLink RX4 34 "RodGrids$Grid" "rods" "I") (by decide +kernel)
  have hin_X4 : ∀ z ∈ u_ws RX4 TX4 6, z ∈ wsX4_hasRod := by decide +kernel
  have hl : lv_has ls 2 [(0, .ref (a 1)), (1, .int (zI k))] := hl
  have i3 := hI.1
  have i4 := hI.2.1
  refine lv_iload_n hx hb dX4_hasRod_0 rfl (lv_at hl 1 rfl) ?_
  refine z_iconst hx hb dX4_hasRod_1 ?_
  refine lv_aload_n hx hb dX4_hasRod_2 rfl (lv_at hl 0 rfl) ?_
  refine va_get (D := D) (ci := 3) (v := .int (zI (M 4))) (C := RX4) (T := TX4) (N := 6) hx hb hts hin_X4 hown hK hP 0 rfl rfl 2 (by decide) hf_0 (fun _ h9 => h9) rfl dX4_hasRod_3 ?_
  refine z_iconst hx hb dX4_hasRod_6 ?_
  refine z_isub hx hb dX4_hasRod_7 ?_
  refine z_callSN (host := RX8) (As := [.int (zI k), .int (zI 0), .int (zI ((M 4) - 1))]) (rest := []) ([] : va_W) (gridW ct a M) hx hb hml hown hts hl hE hS hA hP hD (c_X8_within l D ct ad k 0 ((M 4) - 1) (by omega) (by omega) (by omega)) ggX4_hasRod_X8_within rfl k_X8_within ⟨Nat.le_of_ble_eq_true rfl, Nat.le_of_ble_eq_true rfl⟩ (hE.2.1.1 _ (List.mem_of_getElem? (i := 11) rfl)) (hts (.initialized RX8) (by decide +kernel)) (hts (.static yX8_within) (by decide +kernel)) rfl (Nat.le_of_ble_eq_true rfl) ⟨Nat.le_of_ble_eq_true rfl, Nat.le_of_ble_eq_true rfl⟩ dX4_hasRod_8 rfl (fun v w1 H locs hpost hP hD hS => ?_)
  obtain ⟨rfl, rfl⟩ := hpost
  have hP : va_P D vwCl (gridW ct a M) H := hP
  have hD : va_D A (gridW ct a M) := hD
  refine W.eq (g2 := F0 m 11 ls [.int (zI (zB (0 ≤ k ∧ k ≤ ((M 4) - 1))))]) rfl ?_
  exact z_zret hx hb hr (by first | rfl | exact zB_nar) hlocks hP hD hS ⟨Nat.le_of_ble_eq_true rfl, Nat.le_of_ble_eq_true rfl⟩ dX4_hasRod_11 (⟨congrArg (fun z => some (Value.int (zI z))) (by first | exact (zB_t (by omega)).symm | exact (zB_f (by omega)).symm | exact zB_c (by omega)), rfl⟩)
theorem k_X4_hasMetal : yX4_hasMetal.cls ≠ "java/lang/invoke/MethodHandle" ∧ yX4_hasMetal.cls ≠ "java/lang/invoke/VarHandle" ∧ (parseMethodDescriptor yX4_hasMetal.desc).map (fun d => d.parameters.length) = some 1 := by decide +kernel
set_option maxHeartbeats 4000000 in
set_option maxRecDepth 100000 in
theorem c_X4_checkMetal (l : Launch) (D : va_G) (ct ad : Nat → Nat) (a : Nat → Nat) (M : Int → Int) (k : Int) (hI : gInv M) (h1 : -2147483648 ≤ k ∧ k ≤ 2147483647) : ZM l yX4_checkMetal wsX4_checkMetal ({ frames := 2, cells := 0, slots := 0, locals := 43 } : Room) D ct ad [.ref (a 1), .int (zI k)] (gridW ct a M) (zD (some (.int (zI (if 0 ≤ k ∧ k < M 3 then 0 else 1)))) (gridW ct a M)) := by
  refine ZM.of (cc := cX4_checkMetal) (maxL := 2) (ret := (some .int)) (by decide +kernel) rfl (Nat.le_of_ble_eq_true rfl) ?_
  intro p e s m below meth c A ls hx hb hr hts hown hlocks hml hname hE hP hD hA hS hl
  have hK := hE.1
  have hl : lv_has ls 2 [(0, .ref (a 1)), (1, .int (zI k))] := hl
  have i3 := hI.1
  have i4 := hI.2.1
  refine lv_aload_n hx hb dX4_checkMetal_0 rfl (lv_at hl 0 rfl) ?_
  refine lv_iload_n hx hb dX4_checkMetal_1 rfl (lv_at hl 1 rfl) ?_
  refine z_callV (C := RX4) (q0 := 0) (ci := 3) (As := [.int (zI k)]) (rest := []) ([] : va_W) ([] : va_W) hx hb hml hown hts hl hE hS hA (zr0 ([] : va_W) hP) (zr0D ([] : va_W) hD) (c_X4_hasMetal l D ct ad a M k (by assumption) (by omega)) gX4_checkMetal_X4_hasMetal rfl rfl k_X4_hasMetal ⟨Nat.le_of_ble_eq_true rfl, Nat.le_of_ble_eq_true rfl⟩ rfl rfl rfl rfl (Nat.le_of_ble_eq_true rfl) ⟨Nat.le_of_ble_eq_true rfl, Nat.le_of_ble_eq_true rfl⟩ dX4_checkMetal_2 rfl (fun v w1 H locs hpost hP hD hS => ?_)
  obtain ⟨rfl, rfl⟩ := hpost
  have hP := zr0' hP
  have hD := zr0D' hD
  have hP : va_P D vwCl (gridW ct a M) H := hP
  have hD : va_D A (gridW ct a M) := hD
  refine W.eq (g2 := F0 m 5 ls [.int (zI (zB (0 ≤ k ∧ k < M 3)))]) rfl ?_
  refine zb_if_eq (tgt := 12) hx hb dX4_checkMetal_5 (by decide) (fun hc_5 => ?_) (fun hc_5 => ?_)
  · have hc_5 := hc_5
    refine z_iconst hx hb dX4_checkMetal_12 ?_
    exact z_iret hx hb hr hlocks hP hD hS ⟨Nat.le_of_ble_eq_true rfl, Nat.le_of_ble_eq_true rfl⟩ dX4_checkMetal_13 (⟨congrArg (fun z => some (Value.int (zI z))) (by split <;> omega), rfl⟩)
  · have hc_5 := hc_5
    refine z_iconst hx hb dX4_checkMetal_8 ?_
    refine lv_goto (tgt := 13) hx hb dX4_checkMetal_9 (by decide) ?_
    exact z_iret hx hb hr hlocks hP hD hS ⟨Nat.le_of_ble_eq_true rfl, Nat.le_of_ble_eq_true rfl⟩ dX4_checkMetal_13 (⟨congrArg (fun z => some (Value.int (zI z))) (by split <;> omega), rfl⟩)
theorem k_X4_hasRod : yX4_hasRod.cls ≠ "java/lang/invoke/MethodHandle" ∧ yX4_hasRod.cls ≠ "java/lang/invoke/VarHandle" ∧ (parseMethodDescriptor yX4_hasRod.desc).map (fun d => d.parameters.length) = some 1 := by decide +kernel
set_option maxHeartbeats 4000000 in
set_option maxRecDepth 100000 in
theorem c_X4_checkRod (l : Launch) (D : va_G) (ct ad : Nat → Nat) (a : Nat → Nat) (M : Int → Int) (k : Int) (hI : gInv M) (h1 : -2147483648 ≤ k ∧ k ≤ 2147483647) : ZM l yX4_checkRod wsX4_checkRod ({ frames := 2, cells := 0, slots := 0, locals := 43 } : Room) D ct ad [.ref (a 1), .int (zI k)] (gridW ct a M) (zD (some (.int (zI (if 0 ≤ k ∧ k < M 4 then 0 else 1)))) (gridW ct a M)) := by
  refine ZM.of (cc := cX4_checkRod) (maxL := 2) (ret := (some .int)) (by decide +kernel) rfl (Nat.le_of_ble_eq_true rfl) ?_
  intro p e s m below meth c A ls hx hb hr hts hown hlocks hml hname hE hP hD hA hS hl
  have hK := hE.1
  have hl : lv_has ls 2 [(0, .ref (a 1)), (1, .int (zI k))] := hl
  have i3 := hI.1
  have i4 := hI.2.1
  refine lv_aload_n hx hb dX4_checkRod_0 rfl (lv_at hl 0 rfl) ?_
  refine lv_iload_n hx hb dX4_checkRod_1 rfl (lv_at hl 1 rfl) ?_
  refine z_callV (C := RX4) (q0 := 0) (ci := 3) (As := [.int (zI k)]) (rest := []) ([] : va_W) ([] : va_W) hx hb hml hown hts hl hE hS hA (zr0 ([] : va_W) hP) (zr0D ([] : va_W) hD) (c_X4_hasRod l D ct ad a M k (by assumption) (by omega)) gX4_checkRod_X4_hasRod rfl rfl k_X4_hasRod ⟨Nat.le_of_ble_eq_true rfl, Nat.le_of_ble_eq_true rfl⟩ rfl rfl rfl rfl (Nat.le_of_ble_eq_true rfl) ⟨Nat.le_of_ble_eq_true rfl, Nat.le_of_ble_eq_true rfl⟩ dX4_checkRod_2 rfl (fun v w1 H locs hpost hP hD hS => ?_)
  obtain ⟨rfl, rfl⟩ := hpost
  have hP := zr0' hP
  have hD := zr0D' hD
  have hP : va_P D vwCl (gridW ct a M) H := hP
  have hD : va_D A (gridW ct a M) := hD
  refine W.eq (g2 := F0 m 5 ls [.int (zI (zB (0 ≤ k ∧ k < M 4)))]) rfl ?_
  refine zb_if_eq (tgt := 12) hx hb dX4_checkRod_5 (by decide) (fun hc_5 => ?_) (fun hc_5 => ?_)
  · have hc_5 := hc_5
    refine z_iconst hx hb dX4_checkRod_12 ?_
    exact z_iret hx hb hr hlocks hP hD hS ⟨Nat.le_of_ble_eq_true rfl, Nat.le_of_ble_eq_true rfl⟩ dX4_checkRod_13 (⟨congrArg (fun z => some (Value.int (zI z))) (by split <;> omega), rfl⟩)
  · have hc_5 := hc_5
    refine z_iconst hx hb dX4_checkRod_8 ?_
    refine lv_goto (tgt := 13) hx hb dX4_checkRod_9 (by decide) ?_
    exact z_iret hx hb hr hlocks hP hD hS ⟨Nat.le_of_ble_eq_true rfl, Nat.le_of_ble_eq_true rfl⟩ dX4_checkRod_13 (⟨congrArg (fun z => some (Value.int (zI z))) (by split <;> omega), rfl⟩)
set_option maxHeartbeats 4000000 in
set_option maxRecDepth 100000 in
theorem c_X4_checkNewMetal (l : Launch) (D : va_G) (ct ad : Nat → Nat) (a : Nat → Nat) (M : Int → Int) (v : Int) (hI : gInv M) (h1 : -2147483648 ≤ v ∧ v ≤ 2147483647) : ZM l yX4_checkNewMetal wsX4_checkNewMetal ({ frames := 1, cells := 0, slots := 0, locals := 22 } : Room) D ct ad [.ref (a 1), .int (zI v)] (gridW ct a M) (zD (some (.int (zI (ck_metal M v)))) (gridW ct a M)) := by
  refine ZM.of (cc := cX4_checkNewMetal) (maxL := 2) (ret := (some .int)) (by decide +kernel) rfl (Nat.le_of_ble_eq_true rfl) ?_
  intro p e s m below meth c A ls hx hb hr hts hown hlocks hml hname hE hP hD hA hS hl
  have hK := hE.1
  have hf_0 := hts (.fieldLink RX4 9 "RodGrids$Grid" "metals" "I") (by decide +kernel)
  have hin_X4 : ∀ z ∈ u_ws RX4 TX4 6, z ∈ wsX4_checkNewMetal := by decide +kernel
  have hl : lv_has ls 2 [(0, .ref (a 1)), (1, .int (zI v))] := hl
  have i3 := hI.1
  have i4 := hI.2.1
  refine lv_iload_n hx hb dX4_checkNewMetal_0 rfl (lv_at hl 1 rfl) ?_
  refine z_iconst hx hb dX4_checkNewMetal_1 ?_
  refine z_sipush hx hb dX4_checkNewMetal_2 (by decide) ?_
  refine z_callSN (host := RX8) (As := [.int (zI v), .int (zI 0), .int (zI 500)]) (rest := []) ([] : va_W) (gridW ct a M) hx hb hml hown hts hl hE hS hA hP hD (c_X8_within l D ct ad v 0 500 (by omega) (by omega) (by omega)) ggX4_checkNewMetal_X8_within rfl k_X8_within ⟨Nat.le_of_ble_eq_true rfl, Nat.le_of_ble_eq_true rfl⟩ (hE.2.1.1 _ (List.mem_of_getElem? (i := 11) rfl)) (hts (.initialized RX8) (by decide +kernel)) (hts (.static yX8_within) (by decide +kernel)) rfl (Nat.le_of_ble_eq_true rfl) ⟨Nat.le_of_ble_eq_true rfl, Nat.le_of_ble_eq_true rfl⟩ dX4_checkNewMetal_5 rfl (fun v w1 H locs hpost hP hD hS => ?_)
  obtain ⟨rfl, rfl⟩ := hpost
  have hP : va_P D vwCl (gridW ct a M) H := hP
  have hD : va_D A (gridW ct a M) := hD
  refine W.eq (g2 := F0 m 8 ls [.int (zI (zB (0 ≤ v ∧ v ≤ 500)))]) rfl ?_
  refine zb_if_ne (tgt := 13) hx hb dX4_checkNewMetal_8 (by decide) (fun hc_8 => ?_) (fun hc_8 => ?_)
  · have hc_8 := hc_8
    refine lv_aload_n hx hb dX4_checkNewMetal_13 rfl (lv_at hl 0 rfl) ?_
    refine va_get (D := D) (ci := 3) (v := .int (zI (M 3))) (C := RX4) (T := TX4) (N := 6) hx hb hts hin_X4 hown hK hP 0 rfl rfl 0 (by decide) hf_0 (fun _ h9 => h9) rfl dX4_checkNewMetal_14 ?_
    refine z_bipush hx hb dX4_checkNewMetal_17 (by decide) ?_
    refine z_icmp_ge (tgt := 26) hx hb dX4_checkNewMetal_19 (by decide) (by omega) (by omega) (fun hc_19 => ?_) (fun hc_19 => ?_)
    · have hc_19 := hc_19
      refine z_iconst hx hb dX4_checkNewMetal_26 ?_
      exact z_iret hx hb hr hlocks hP hD hS ⟨Nat.le_of_ble_eq_true rfl, Nat.le_of_ble_eq_true rfl⟩ dX4_checkNewMetal_27 (⟨congrArg (fun z => some (Value.int (zI z))) (by unfold ck_metal; (repeat' split) <;> omega), rfl⟩)
    · have hc_19 := hc_19
      refine z_iconst hx hb dX4_checkNewMetal_22 ?_
      refine lv_goto (tgt := 27) hx hb dX4_checkNewMetal_23 (by decide) ?_
      exact z_iret hx hb hr hlocks hP hD hS ⟨Nat.le_of_ble_eq_true rfl, Nat.le_of_ble_eq_true rfl⟩ dX4_checkNewMetal_27 (⟨congrArg (fun z => some (Value.int (zI z))) (by unfold ck_metal; (repeat' split) <;> omega), rfl⟩)
  · have hc_8 := hc_8
    refine z_iconst hx hb dX4_checkNewMetal_11 ?_
    exact z_iret hx hb hr hlocks hP hD hS ⟨Nat.le_of_ble_eq_true rfl, Nat.le_of_ble_eq_true rfl⟩ dX4_checkNewMetal_12 (⟨congrArg (fun z => some (Value.int (zI z))) (by unfold ck_metal; (repeat' split) <;> omega), rfl⟩)
set_option maxHeartbeats 4000000 in
set_option maxRecDepth 100000 in
theorem c_X4_checkStretch (l : Launch) (D : va_G) (ct ad : Nat → Nat) (a : Nat → Nat) (M : Int → Int) (k v : Int) (hI : gInv M) (h1 : -2147483648 ≤ k ∧ k ≤ 2147483647) (h2 : -2147483648 ≤ v ∧ v ≤ 2147483647) : ZM l yX4_checkStretch wsX4_checkStretch ({ frames := 2, cells := 0, slots := 0, locals := 43 } : Room) D ct ad [.ref (a 1), .int (zI k), .int (zI v)] (gridW ct a M) (zD (some (.int (zI (ck_stretch M k v)))) (gridW ct a M)) := by
  refine ZM.of (cc := cX4_checkStretch) (maxL := 3) (ret := (some .int)) (by decide +kernel) rfl (Nat.le_of_ble_eq_true rfl) ?_
  intro p e s m below meth c A ls hx hb hr hts hown hlocks hml hname hE hP hD hA hS hl
  have hK := hE.1
  have hl : lv_has ls 3 [(0, .ref (a 1)), (1, .int (zI k)), (2, .int (zI v))] := hl
  have i3 := hI.1
  have i4 := hI.2.1
  refine lv_aload_n hx hb dX4_checkStretch_0 rfl (lv_at hl 0 rfl) ?_
  refine lv_iload_n hx hb dX4_checkStretch_1 rfl (lv_at hl 1 rfl) ?_
  refine z_callV (C := RX4) (q0 := 0) (ci := 3) (As := [.int (zI k)]) (rest := []) ([] : va_W) ([] : va_W) hx hb hml hown hts hl hE hS hA (zr0 ([] : va_W) hP) (zr0D ([] : va_W) hD) (c_X4_hasMetal l D ct ad a M k (by assumption) (by omega)) gX4_checkStretch_X4_hasMetal rfl rfl k_X4_hasMetal ⟨Nat.le_of_ble_eq_true rfl, Nat.le_of_ble_eq_true rfl⟩ rfl rfl rfl rfl (Nat.le_of_ble_eq_true rfl) ⟨Nat.le_of_ble_eq_true rfl, Nat.le_of_ble_eq_true rfl⟩ dX4_checkStretch_2 rfl (fun v w1 H locs hpost hP hD hS => ?_)
  obtain ⟨rfl, rfl⟩ := hpost
  have hP := zr0' hP
  have hD := zr0D' hD
  have hP : va_P D vwCl (gridW ct a M) H := hP
  have hD : va_D A (gridW ct a M) := hD
  refine W.eq (g2 := F0 m 5 ls [.int (zI (zB (0 ≤ k ∧ k < M 3)))]) rfl ?_
  refine zb_if_ne (tgt := 10) hx hb dX4_checkStretch_5 (by decide) (fun hc_5 => ?_) (fun hc_5 => ?_)
  · have hc_5 := hc_5
    refine lv_iload_n hx hb dX4_checkStretch_10 rfl (lv_at hl 2 rfl) ?_
    refine z_iconst hx hb dX4_checkStretch_11 ?_
    refine z_sipush hx hb dX4_checkStretch_12 (by decide) ?_
    refine z_callSN (host := RX8) (As := [.int (zI v), .int (zI 0), .int (zI 500)]) (rest := []) ([] : va_W) (gridW ct a M) hx hb hml hown hts hl hE hS hA hP hD (c_X8_within l D ct ad v 0 500 (by omega) (by omega) (by omega)) ggX4_checkStretch_X8_within rfl k_X8_within ⟨Nat.le_of_ble_eq_true rfl, Nat.le_of_ble_eq_true rfl⟩ (hE.2.1.1 _ (List.mem_of_getElem? (i := 11) rfl)) (hts (.initialized RX8) (by decide +kernel)) (hts (.static yX8_within) (by decide +kernel)) rfl (Nat.le_of_ble_eq_true rfl) ⟨Nat.le_of_ble_eq_true rfl, Nat.le_of_ble_eq_true rfl⟩ dX4_checkStretch_15 rfl (fun v w1 H locs hpost hP hD hS => ?_)
    obtain ⟨rfl, rfl⟩ := hpost
    have hP : va_P D vwCl (gridW ct a M) H := hP
    have hD : va_D A (gridW ct a M) := hD
    refine W.eq (g2 := F0 m 18 ls [.int (zI (zB (0 ≤ v ∧ v ≤ 500)))]) rfl ?_
    refine zb_if_eq (tgt := 25) hx hb dX4_checkStretch_18 (by decide) (fun hc_18 => ?_) (fun hc_18 => ?_)
    · have hc_18 := hc_18
      refine z_iconst hx hb dX4_checkStretch_25 ?_
      exact z_iret hx hb hr hlocks hP hD hS ⟨Nat.le_of_ble_eq_true rfl, Nat.le_of_ble_eq_true rfl⟩ dX4_checkStretch_26 (⟨congrArg (fun z => some (Value.int (zI z))) (by unfold ck_stretch; (repeat' split) <;> omega), rfl⟩)
    · have hc_18 := hc_18
      refine z_iconst hx hb dX4_checkStretch_21 ?_
      refine lv_goto (tgt := 26) hx hb dX4_checkStretch_22 (by decide) ?_
      exact z_iret hx hb hr hlocks hP hD hS ⟨Nat.le_of_ble_eq_true rfl, Nat.le_of_ble_eq_true rfl⟩ dX4_checkStretch_26 (⟨congrArg (fun z => some (Value.int (zI z))) (by unfold ck_stretch; (repeat' split) <;> omega), rfl⟩)
  · have hc_5 := hc_5
    refine z_iconst hx hb dX4_checkStretch_8 ?_
    exact z_iret hx hb hr hlocks hP hD hS ⟨Nat.le_of_ble_eq_true rfl, Nat.le_of_ble_eq_true rfl⟩ dX4_checkStretch_9 (⟨congrArg (fun z => some (Value.int (zI z))) (by unfold ck_stretch; (repeat' split) <;> omega), rfl⟩)
set_option maxHeartbeats 4000000 in
set_option maxRecDepth 100000 in
theorem c_X4_checkNewRod (l : Launch) (D : va_G) (ct ad : Nat → Nat) (a : Nat → Nat) (M : Int → Int) (k d n : Int) (hI : gInv M) (h1 : -2147483648 ≤ k ∧ k ≤ 2147483647) (h2 : -2147483648 ≤ d ∧ d ≤ 2147483647) (h3 : -2147483648 ≤ n ∧ n ≤ 2147483647) : ZM l yX4_checkNewRod wsX4_checkNewRod ({ frames := 2, cells := 0, slots := 0, locals := 43 } : Room) D ct ad [.ref (a 1), .int (zI k), .int (zI d), .int (zI n)] (gridW ct a M) (zD (some (.int (zI (ck_rod M k d n)))) (gridW ct a M)) := by
  refine ZM.of (cc := cX4_checkNewRod) (maxL := 4) (ret := (some .int)) (by decide +kernel) rfl (Nat.le_of_ble_eq_true rfl) ?_
  intro p e s m below meth c A ls hx hb hr hts hown hlocks hml hname hE hP hD hA hS hl
  have hK := hE.1
  have hf_0 := hts (.constant RX4 48 (1000000)) (by decide +kernel)
  have hf_1 := hts (.fieldLink RX4 34 "RodGrids$Grid" "rods" "I") (by decide +kernel)
  have hin_X4 : ∀ z ∈ u_ws RX4 TX4 6, z ∈ wsX4_checkNewRod := by decide +kernel
  have hl : lv_has ls 4 [(0, .ref (a 1)), (1, .int (zI k)), (2, .int (zI d)), (3, .int (zI n))] := hl
  have i3 := hI.1
  have i4 := hI.2.1
  refine lv_aload_n hx hb dX4_checkNewRod_0 rfl (lv_at hl 0 rfl) ?_
  refine lv_iload_n hx hb dX4_checkNewRod_1 rfl (lv_at hl 1 rfl) ?_
  refine z_callV (C := RX4) (q0 := 0) (ci := 3) (As := [.int (zI k)]) (rest := []) ([] : va_W) ([] : va_W) hx hb hml hown hts hl hE hS hA (zr0 ([] : va_W) hP) (zr0D ([] : va_W) hD) (c_X4_hasMetal l D ct ad a M k (by assumption) (by omega)) gX4_checkNewRod_X4_hasMetal rfl rfl k_X4_hasMetal ⟨Nat.le_of_ble_eq_true rfl, Nat.le_of_ble_eq_true rfl⟩ rfl rfl rfl rfl (Nat.le_of_ble_eq_true rfl) ⟨Nat.le_of_ble_eq_true rfl, Nat.le_of_ble_eq_true rfl⟩ dX4_checkNewRod_2 rfl (fun v w1 H locs hpost hP hD hS => ?_)
  obtain ⟨rfl, rfl⟩ := hpost
  have hP := zr0' hP
  have hD := zr0D' hD
  have hP : va_P D vwCl (gridW ct a M) H := hP
  have hD : va_D A (gridW ct a M) := hD
  refine W.eq (g2 := F0 m 5 ls [.int (zI (zB (0 ≤ k ∧ k < M 3)))]) rfl ?_
  refine zb_if_ne (tgt := 10) hx hb dX4_checkNewRod_5 (by decide) (fun hc_5 => ?_) (fun hc_5 => ?_)
  · have hc_5 := hc_5
    refine lv_iload_n hx hb dX4_checkNewRod_10 rfl (lv_at hl 2 rfl) ?_
    refine z_iconst hx hb dX4_checkNewRod_11 ?_
    refine z_icmp_eq (tgt := 20) hx hb dX4_checkNewRod_12 (by decide) (by omega) (by omega) (fun hc_12 => ?_) (fun hc_12 => ?_)
    · have hc_12 := hc_12
      refine lv_iload_n hx hb dX4_checkNewRod_20 rfl (lv_at hl 3 rfl) ?_
      refine z_iconst hx hb dX4_checkNewRod_21 ?_
      refine z_ldc hx hb 1000000 hown hf_0 (by decide) dX4_checkNewRod_22 ?_
      refine z_callSN (host := RX8) (As := [.int (zI n), .int (zI 1), .int (zI 1000000)]) (rest := []) ([] : va_W) (gridW ct a M) hx hb hml hown hts hl hE hS hA hP hD (c_X8_within l D ct ad n 1 1000000 (by omega) (by omega) (by omega)) ggX4_checkNewRod_X8_within rfl k_X8_within ⟨Nat.le_of_ble_eq_true rfl, Nat.le_of_ble_eq_true rfl⟩ (hE.2.1.1 _ (List.mem_of_getElem? (i := 11) rfl)) (hts (.initialized RX8) (by decide +kernel)) (hts (.static yX8_within) (by decide +kernel)) rfl (Nat.le_of_ble_eq_true rfl) ⟨Nat.le_of_ble_eq_true rfl, Nat.le_of_ble_eq_true rfl⟩ dX4_checkNewRod_24 rfl (fun v w1 H locs hpost hP hD hS => ?_)
      obtain ⟨rfl, rfl⟩ := hpost
      have hP : va_P D vwCl (gridW ct a M) H := hP
      have hD : va_D A (gridW ct a M) := hD
      refine W.eq (g2 := F0 m 27 ls [.int (zI (zB (1 ≤ n ∧ n ≤ 1000000)))]) rfl ?_
      refine zb_if_ne (tgt := 32) hx hb dX4_checkNewRod_27 (by decide) (fun hc_27 => ?_) (fun hc_27 => ?_)
      · have hc_27 := hc_27
        refine lv_aload_n hx hb dX4_checkNewRod_32 rfl (lv_at hl 0 rfl) ?_
        refine va_get (D := D) (ci := 3) (v := .int (zI (M 4))) (C := RX4) (T := TX4) (N := 6) hx hb hts hin_X4 hown hK hP 0 rfl rfl 2 (by decide) hf_1 (fun _ h9 => h9) rfl dX4_checkNewRod_33 ?_
        refine z_bipush hx hb dX4_checkNewRod_36 (by decide) ?_
        refine z_icmp_ge (tgt := 45) hx hb dX4_checkNewRod_38 (by decide) (by omega) (by omega) (fun hc_38 => ?_) (fun hc_38 => ?_)
        · have hc_38 := hc_38
          refine z_iconst hx hb dX4_checkNewRod_45 ?_
          exact z_iret hx hb hr hlocks hP hD hS ⟨Nat.le_of_ble_eq_true rfl, Nat.le_of_ble_eq_true rfl⟩ dX4_checkNewRod_46 (⟨congrArg (fun z => some (Value.int (zI z))) (by unfold ck_rod; (repeat' split) <;> omega), rfl⟩)
        · have hc_38 := hc_38
          refine z_iconst hx hb dX4_checkNewRod_41 ?_
          refine lv_goto (tgt := 46) hx hb dX4_checkNewRod_42 (by decide) ?_
          exact z_iret hx hb hr hlocks hP hD hS ⟨Nat.le_of_ble_eq_true rfl, Nat.le_of_ble_eq_true rfl⟩ dX4_checkNewRod_46 (⟨congrArg (fun z => some (Value.int (zI z))) (by unfold ck_rod; (repeat' split) <;> omega), rfl⟩)
      · have hc_27 := hc_27
        refine z_iconst hx hb dX4_checkNewRod_30 ?_
        exact z_iret hx hb hr hlocks hP hD hS ⟨Nat.le_of_ble_eq_true rfl, Nat.le_of_ble_eq_true rfl⟩ dX4_checkNewRod_31 (⟨congrArg (fun z => some (Value.int (zI z))) (by unfold ck_rod; (repeat' split) <;> omega), rfl⟩)
    · have hc_12 := hc_12
      refine lv_iload_n hx hb dX4_checkNewRod_15 rfl (lv_at hl 2 rfl) ?_
      refine z_iconst hx hb dX4_checkNewRod_16 ?_
      refine z_icmp_ne (tgt := 30) hx hb dX4_checkNewRod_17 (by decide) (by omega) (by omega) (fun hc_17 => ?_) (fun hc_17 => ?_)
      · have hc_17 := hc_17
        refine z_iconst hx hb dX4_checkNewRod_30 ?_
        exact z_iret hx hb hr hlocks hP hD hS ⟨Nat.le_of_ble_eq_true rfl, Nat.le_of_ble_eq_true rfl⟩ dX4_checkNewRod_31 (⟨congrArg (fun z => some (Value.int (zI z))) (by unfold ck_rod; (repeat' split) <;> omega), rfl⟩)
      · have hc_17 := hc_17
        refine lv_iload_n hx hb dX4_checkNewRod_20 rfl (lv_at hl 3 rfl) ?_
        refine z_iconst hx hb dX4_checkNewRod_21 ?_
        refine z_ldc hx hb 1000000 hown hf_0 (by decide) dX4_checkNewRod_22 ?_
        refine z_callSN (host := RX8) (As := [.int (zI n), .int (zI 1), .int (zI 1000000)]) (rest := []) ([] : va_W) (gridW ct a M) hx hb hml hown hts hl hE hS hA hP hD (c_X8_within l D ct ad n 1 1000000 (by omega) (by omega) (by omega)) ggX4_checkNewRod_X8_within rfl k_X8_within ⟨Nat.le_of_ble_eq_true rfl, Nat.le_of_ble_eq_true rfl⟩ (hE.2.1.1 _ (List.mem_of_getElem? (i := 11) rfl)) (hts (.initialized RX8) (by decide +kernel)) (hts (.static yX8_within) (by decide +kernel)) rfl (Nat.le_of_ble_eq_true rfl) ⟨Nat.le_of_ble_eq_true rfl, Nat.le_of_ble_eq_true rfl⟩ dX4_checkNewRod_24 rfl (fun v w1 H locs hpost hP hD hS => ?_)
        obtain ⟨rfl, rfl⟩ := hpost
        have hP : va_P D vwCl (gridW ct a M) H := hP
        have hD : va_D A (gridW ct a M) := hD
        refine W.eq (g2 := F0 m 27 ls [.int (zI (zB (1 ≤ n ∧ n ≤ 1000000)))]) rfl ?_
        refine zb_if_ne (tgt := 32) hx hb dX4_checkNewRod_27 (by decide) (fun hc_27 => ?_) (fun hc_27 => ?_)
        · have hc_27 := hc_27
          refine lv_aload_n hx hb dX4_checkNewRod_32 rfl (lv_at hl 0 rfl) ?_
          refine va_get (D := D) (ci := 3) (v := .int (zI (M 4))) (C := RX4) (T := TX4) (N := 6) hx hb hts hin_X4 hown hK hP 0 rfl rfl 2 (by decide) hf_1 (fun _ h9 => h9) rfl dX4_checkNewRod_33 ?_
          refine z_bipush hx hb dX4_checkNewRod_36 (by decide) ?_
          refine z_icmp_ge (tgt := 45) hx hb dX4_checkNewRod_38 (by decide) (by omega) (by omega) (fun hc_38 => ?_) (fun hc_38 => ?_)
          · have hc_38 := hc_38
            refine z_iconst hx hb dX4_checkNewRod_45 ?_
            exact z_iret hx hb hr hlocks hP hD hS ⟨Nat.le_of_ble_eq_true rfl, Nat.le_of_ble_eq_true rfl⟩ dX4_checkNewRod_46 (⟨congrArg (fun z => some (Value.int (zI z))) (by unfold ck_rod; (repeat' split) <;> omega), rfl⟩)
          · have hc_38 := hc_38
            refine z_iconst hx hb dX4_checkNewRod_41 ?_
            refine lv_goto (tgt := 46) hx hb dX4_checkNewRod_42 (by decide) ?_
            exact z_iret hx hb hr hlocks hP hD hS ⟨Nat.le_of_ble_eq_true rfl, Nat.le_of_ble_eq_true rfl⟩ dX4_checkNewRod_46 (⟨congrArg (fun z => some (Value.int (zI z))) (by unfold ck_rod; (repeat' split) <;> omega), rfl⟩)
        · have hc_27 := hc_27
          refine z_iconst hx hb dX4_checkNewRod_30 ?_
          exact z_iret hx hb hr hlocks hP hD hS ⟨Nat.le_of_ble_eq_true rfl, Nat.le_of_ble_eq_true rfl⟩ dX4_checkNewRod_31 (⟨congrArg (fun z => some (Value.int (zI z))) (by unfold ck_rod; (repeat' split) <;> omega), rfl⟩)
  · have hc_5 := hc_5
    refine z_iconst hx hb dX4_checkNewRod_8 ?_
    exact z_iret hx hb hr hlocks hP hD hS ⟨Nat.le_of_ble_eq_true rfl, Nat.le_of_ble_eq_true rfl⟩ dX4_checkNewRod_9 (⟨congrArg (fun z => some (Value.int (zI z))) (by unfold ck_rod; (repeat' split) <;> omega), rfl⟩)
set_option maxHeartbeats 4000000 in
set_option maxRecDepth 100000 in
theorem c_X4_checkLength (l : Launch) (D : va_G) (ct ad : Nat → Nat) (a : Nat → Nat) (M : Int → Int) (k n : Int) (hI : gInv M) (h1 : -2147483648 ≤ k ∧ k ≤ 2147483647) (h2 : -2147483648 ≤ n ∧ n ≤ 2147483647) : ZM l yX4_checkLength wsX4_checkLength ({ frames := 2, cells := 0, slots := 0, locals := 43 } : Room) D ct ad [.ref (a 1), .int (zI k), .int (zI n)] (gridW ct a M) (zD (some (.int (zI (ck_length M k n)))) (gridW ct a M)) := by
  refine ZM.of (cc := cX4_checkLength) (maxL := 3) (ret := (some .int)) (by decide +kernel) rfl (Nat.le_of_ble_eq_true rfl) ?_
  intro p e s m below meth c A ls hx hb hr hts hown hlocks hml hname hE hP hD hA hS hl
  have hK := hE.1
  have hf_0 := hts (.constant RX4 48 (1000000)) (by decide +kernel)
  have hl : lv_has ls 3 [(0, .ref (a 1)), (1, .int (zI k)), (2, .int (zI n))] := hl
  have i3 := hI.1
  have i4 := hI.2.1
  refine lv_aload_n hx hb dX4_checkLength_0 rfl (lv_at hl 0 rfl) ?_
  refine lv_iload_n hx hb dX4_checkLength_1 rfl (lv_at hl 1 rfl) ?_
  refine z_callV (C := RX4) (q0 := 0) (ci := 3) (As := [.int (zI k)]) (rest := []) ([] : va_W) ([] : va_W) hx hb hml hown hts hl hE hS hA (zr0 ([] : va_W) hP) (zr0D ([] : va_W) hD) (c_X4_hasRod l D ct ad a M k (by assumption) (by omega)) gX4_checkLength_X4_hasRod rfl rfl k_X4_hasRod ⟨Nat.le_of_ble_eq_true rfl, Nat.le_of_ble_eq_true rfl⟩ rfl rfl rfl rfl (Nat.le_of_ble_eq_true rfl) ⟨Nat.le_of_ble_eq_true rfl, Nat.le_of_ble_eq_true rfl⟩ dX4_checkLength_2 rfl (fun v w1 H locs hpost hP hD hS => ?_)
  obtain ⟨rfl, rfl⟩ := hpost
  have hP := zr0' hP
  have hD := zr0D' hD
  have hP : va_P D vwCl (gridW ct a M) H := hP
  have hD : va_D A (gridW ct a M) := hD
  refine W.eq (g2 := F0 m 5 ls [.int (zI (zB (0 ≤ k ∧ k < M 4)))]) rfl ?_
  refine zb_if_ne (tgt := 10) hx hb dX4_checkLength_5 (by decide) (fun hc_5 => ?_) (fun hc_5 => ?_)
  · have hc_5 := hc_5
    refine lv_iload_n hx hb dX4_checkLength_10 rfl (lv_at hl 2 rfl) ?_
    refine z_iconst hx hb dX4_checkLength_11 ?_
    refine z_ldc hx hb 1000000 hown hf_0 (by decide) dX4_checkLength_12 ?_
    refine z_callSN (host := RX8) (As := [.int (zI n), .int (zI 1), .int (zI 1000000)]) (rest := []) ([] : va_W) (gridW ct a M) hx hb hml hown hts hl hE hS hA hP hD (c_X8_within l D ct ad n 1 1000000 (by omega) (by omega) (by omega)) ggX4_checkLength_X8_within rfl k_X8_within ⟨Nat.le_of_ble_eq_true rfl, Nat.le_of_ble_eq_true rfl⟩ (hE.2.1.1 _ (List.mem_of_getElem? (i := 11) rfl)) (hts (.initialized RX8) (by decide +kernel)) (hts (.static yX8_within) (by decide +kernel)) rfl (Nat.le_of_ble_eq_true rfl) ⟨Nat.le_of_ble_eq_true rfl, Nat.le_of_ble_eq_true rfl⟩ dX4_checkLength_14 rfl (fun v w1 H locs hpost hP hD hS => ?_)
    obtain ⟨rfl, rfl⟩ := hpost
    have hP : va_P D vwCl (gridW ct a M) H := hP
    have hD : va_D A (gridW ct a M) := hD
    refine W.eq (g2 := F0 m 17 ls [.int (zI (zB (1 ≤ n ∧ n ≤ 1000000)))]) rfl ?_
    refine zb_if_eq (tgt := 24) hx hb dX4_checkLength_17 (by decide) (fun hc_17 => ?_) (fun hc_17 => ?_)
    · have hc_17 := hc_17
      refine z_iconst hx hb dX4_checkLength_24 ?_
      exact z_iret hx hb hr hlocks hP hD hS ⟨Nat.le_of_ble_eq_true rfl, Nat.le_of_ble_eq_true rfl⟩ dX4_checkLength_25 (⟨congrArg (fun z => some (Value.int (zI z))) (by unfold ck_length; (repeat' split) <;> omega), rfl⟩)
    · have hc_17 := hc_17
      refine z_iconst hx hb dX4_checkLength_20 ?_
      refine lv_goto (tgt := 25) hx hb dX4_checkLength_21 (by decide) ?_
      exact z_iret hx hb hr hlocks hP hD hS ⟨Nat.le_of_ble_eq_true rfl, Nat.le_of_ble_eq_true rfl⟩ dX4_checkLength_25 (⟨congrArg (fun z => some (Value.int (zI z))) (by unfold ck_length; (repeat' split) <;> omega), rfl⟩)
  · have hc_5 := hc_5
    refine z_iconst hx hb dX4_checkLength_8 ?_
    exact z_iret hx hb hr hlocks hP hD hS ⟨Nat.le_of_ble_eq_true rfl, Nat.le_of_ble_eq_true rfl⟩ dX4_checkLength_9 (⟨congrArg (fun z => some (Value.int (zI z))) (by unfold ck_length; (repeat' split) <;> omega), rfl⟩)
set_option maxHeartbeats 4000000 in
set_option maxRecDepth 100000 in
theorem c_X4_stretchOf (l : Launch) (D : va_G) (ct ad : Nat → Nat) (a : Nat → Nat) (M : Int → Int) (k : Int) (hI : gInv M) (h1 : 0 ≤ k ∧ k < M 3) : ZM l yX4_stretchOf wsX4_stretchOf ({ frames := 0, cells := 0, slots := 0, locals := 0 } : Room) D ct ad [.ref (a 1), .int (zI k)] (gridW ct a M) (zD (some (.int (zI (M (16 + k))))) (gridW ct a M)) := by
  refine ZM.of (cc := cX4_stretchOf) (maxL := 2) (ret := (some .int)) (by decide +kernel) rfl (Nat.le_of_ble_eq_true rfl) ?_
  intro p e s m below meth c A ls hx hb hr hts hown hlocks hml hname hE hP hD hA hS hl
  have hK := hE.1
  have hf_0 := hts (.fieldLink RX4 9 "RodGrids$Grid" "metals" "I") (by decide +kernel)
  have hf_1 := hts (.fieldLink RX4 15 "RodGrids$Grid" "stretches" "[I") (by decide +kernel)
  have hin_X4 : ∀ z ∈ u_ws RX4 TX4 6, z ∈ wsX4_stretchOf := by decide +kernel
  have hl : lv_has ls 2 [(0, .ref (a 1)), (1, .int (zI k))] := hl
  have i3 := hI.1
  have i4 := hI.2.1
  refine lv_iload_n hx hb dX4_stretchOf_0 rfl (lv_at hl 1 rfl) ?_
  refine z_if_lt (tgt := 21) hx hb dX4_stretchOf_1 (by decide) (by omega) (fun hc_1 => ?_) (fun hc_1 => ?_)
  · have hc_1 := hc_1
    omega
  · have hc_1 := hc_1
    refine lv_iload_n hx hb dX4_stretchOf_4 rfl (lv_at hl 1 rfl) ?_
    refine lv_aload_n hx hb dX4_stretchOf_5 rfl (lv_at hl 0 rfl) ?_
    refine va_get (D := D) (ci := 3) (v := .int (zI (M 3))) (C := RX4) (T := TX4) (N := 6) hx hb hts hin_X4 hown hK hP 0 rfl rfl 0 (by decide) hf_0 (fun _ h9 => h9) rfl dX4_stretchOf_6 ?_
    refine z_icmp_ge (tgt := 21) hx hb dX4_stretchOf_9 (by decide) (by omega) (by omega) (fun hc_9 => ?_) (fun hc_9 => ?_)
    · have hc_9 := hc_9
      omega
    · have hc_9 := hc_9
      refine lv_aload_n hx hb dX4_stretchOf_12 rfl (lv_at hl 0 rfl) ?_
      refine va_get (D := D) (ci := 3) (v := .ref (a 2)) (C := RX4) (T := TX4) (N := 6) hx hb hts hin_X4 hown hK hP 0 rfl rfl 1 (by decide) hf_1 (fun _ h9 => h9) rfl dX4_stretchOf_13 ?_
      refine lv_iload_n hx hb dX4_stretchOf_16 rfl (lv_at hl 1 rfl) ?_
      refine z_iald (g := fun x => M (16 + x)) (v := M (16 + k)) hx hb hK hP 1 rfl (by decide) (by omega) rfl dX4_stretchOf_17 ?_
      refine lv_goto (tgt := 22) hx hb dX4_stretchOf_18 (by decide) ?_
      exact z_iret hx hb hr hlocks hP hD hS ⟨Nat.le_of_ble_eq_true rfl, Nat.le_of_ble_eq_true rfl⟩ dX4_stretchOf_22 (⟨congrArg (fun z => some (Value.int (zI z))) (rfl), rfl⟩)
theorem k_X4_stretchOf : yX4_stretchOf.cls ≠ "java/lang/invoke/MethodHandle" ∧ yX4_stretchOf.cls ≠ "java/lang/invoke/VarHandle" ∧ (parseMethodDescriptor yX4_stretchOf.desc).map (fun d => d.parameters.length) = some 1 := by decide +kernel
set_option maxHeartbeats 4000000 in
set_option maxRecDepth 100000 in
theorem c_X4_stretching (l : Launch) (D : va_G) (ct ad : Nat → Nat) (a : Nat → Nat) (M : Int → Int) (r t : Int) (hI : gInv M) (hr : 0 ≤ r ∧ r < M 4) (ht : -300 ≤ t ∧ t ≤ 600) : ZM l yX4_stretching wsX4_stretching ({ frames := 1, cells := 0, slots := 0, locals := 25 } : Room) D ct ad [.ref (a 1), .int (zI r), .int (zI t)] (gridW ct a M) (zD (some (.long (zJ (sp_str M r t)))) (gridW ct a M)) := by
  refine ZM.of (cc := cX4_stretching) (maxL := 5) (ret := (some .long)) (by decide +kernel) rfl (Nat.le_of_ble_eq_true rfl) ?_
  intro p e s m below meth c A ls hx hb hr hts hown hlocks hml hname hE hP hD hA hS hl
  have hK := hE.1
  have hf_0 := hts (.fieldLink RX4 25 "RodGrids$Grid" "lengths" "[I") (by decide +kernel)
  have hf_1 := hts (.fieldLink RX4 19 "RodGrids$Grid" "rodMetals" "[I") (by decide +kernel)
  have hf_2 := hts (.constantLong RX4 57 (100000000)) (by decide +kernel)
  have hin_X4 : ∀ z ∈ u_ws RX4 TX4 6, z ∈ wsX4_stretching := by decide +kernel
  have hl : lv_has ls 5 [(0, .ref (a 1)), (1, .int (zI r)), (2, .int (zI t))] := hl
  have i3 := hI.1
  have i4 := hI.2.1
  have q := hI.2.2.2.1 r (by omega) (by omega)
  have q1 := hI.2.2.2.2 r (by omega) (by omega)
  have q2 := hI.2.2.1 (M (22 + 3 * r)) (by omega) (by omega)
  have q3 := sp_strB hI (show 0 ≤ r ∧ r < 9 by omega) ht
  refine lv_aload_n hx hb dX4_stretching_0 rfl (lv_at hl 0 rfl) ?_
  refine va_get (D := D) (ci := 3) (v := .ref (a 5)) (C := RX4) (T := TX4) (N := 6) hx hb hts hin_X4 hown hK hP 0 rfl rfl 5 (by decide) hf_0 (fun _ h9 => h9) rfl dX4_stretching_1 ?_
  refine lv_iload_n hx hb dX4_stretching_4 rfl (lv_at hl 1 rfl) ?_
  refine z_iald (g := fun x => M (24 + 3 * x)) (v := M (24 + 3 * r)) hx hb hK hP 4 rfl (by decide) (by omega) rfl dX4_stretching_5 ?_
  refine z_i2l hx hb dX4_stretching_6 (by omega) ?_
  refine lv_aload_n hx hb dX4_stretching_7 rfl (lv_at hl 0 rfl) ?_
  refine lv_aload_n hx hb dX4_stretching_8 rfl (lv_at hl 0 rfl) ?_
  refine va_get (D := D) (ci := 3) (v := .ref (a 3)) (C := RX4) (T := TX4) (N := 6) hx hb hts hin_X4 hown hK hP 0 rfl rfl 3 (by decide) hf_1 (fun _ h9 => h9) rfl dX4_stretching_9 ?_
  refine lv_iload_n hx hb dX4_stretching_12 rfl (lv_at hl 1 rfl) ?_
  refine z_iald (g := fun x => M (22 + 3 * x)) (v := M (22 + 3 * r)) hx hb hK hP 2 rfl (by decide) (by omega) rfl dX4_stretching_13 ?_
  refine z_callV (C := RX4) (q0 := 0) (ci := 3) (As := [.int (zI (M (22 + 3 * r)))]) (rest := [.long (zJ (M (24 + 3 * r)))]) ([] : va_W) ([] : va_W) hx hb hml hown hts hl hE hS hA (zr0 ([] : va_W) hP) (zr0D ([] : va_W) hD) (c_X4_stretchOf l D ct ad a M (M (22 + 3 * r)) (by assumption) (by omega)) gX4_stretching_X4_stretchOf rfl rfl k_X4_stretchOf ⟨Nat.le_of_ble_eq_true rfl, Nat.le_of_ble_eq_true rfl⟩ rfl rfl rfl rfl (Nat.le_of_ble_eq_true rfl) ⟨Nat.le_of_ble_eq_true rfl, Nat.le_of_ble_eq_true rfl⟩ dX4_stretching_14 rfl (fun v w1 H locs hpost hP hD hS => ?_)
  obtain ⟨rfl, rfl⟩ := hpost
  have hP := zr0' hP
  have hD := zr0D' hD
  have hP : va_P D vwCl (gridW ct a M) H := hP
  have hD : va_D A (gridW ct a M) := hD
  refine W.eq (g2 := F0 m 17 ls [.int (zI (M (16 + (M (22 + 3 * r))))), .long (zJ (M (24 + 3 * r)))]) rfl ?_
  refine z_i2l hx hb dX4_stretching_17 (by omega) ?_
  refine z_lmul hx hb dX4_stretching_18 ?_
  refine lv_iload_n hx hb dX4_stretching_19 rfl (lv_at hl 2 rfl) ?_
  refine z_sipush hx hb dX4_stretching_20 (by decide) ?_
  refine z_isub hx hb dX4_stretching_23 ?_
  refine z_i2l hx hb dX4_stretching_24 (by omega) ?_
  refine z_lmul hx hb dX4_stretching_25 ?_
  refine lv_lstore_n (lv' := [(3, .long (zJ (((M (24 + 3 * r)) * (M (16 + (M (22 + 3 * r))))) * (t - 200)))), (0, .ref (a 1)), (1, .int (zI r)), (2, .int (zI t))]) hx hb dX4_stretching_26 rfl hl (by decide) rfl (fun ls hl => ?_)
  refine lv_lload_n hx hb dX4_stretching_27 rfl (lv_at hl 0 rfl) ?_
  refine z_ldc2 hx hb 100000000 hown hf_2 (by decide) dX4_stretching_28 ?_
  refine z_callS (As := [.long (zJ (((M (24 + 3 * r)) * (M (16 + (M (22 + 3 * r))))) * (t - 200))), .long (zJ 100000000)]) (rest := []) ([] : va_W) (gridW ct a M) hx hb hml hown hts hl hE hS hA hP hD (c_J9_floorDiv_f86c9 l D ct ad (((M (24 + 3 * r)) * (M (16 + (M (22 + 3 * r))))) * (t - 200)) 100000000 (by omega) (by omega)) gX4_stretching_J9_floorDiv_f86c9 rfl k_J9_floorDiv_f86c9 ⟨Nat.le_of_ble_eq_true rfl, Nat.le_of_ble_eq_true rfl⟩ rfl (Nat.le_of_ble_eq_true rfl) ⟨Nat.le_of_ble_eq_true rfl, Nat.le_of_ble_eq_true rfl⟩ dX4_stretching_31 rfl (fun v w1 H locs hpost hP hD hS => ?_)
  obtain ⟨rfl, rfl⟩ := hpost
  have hP : va_P D vwCl (gridW ct a M) H := hP
  have hD : va_D A (gridW ct a M) := hD
  refine W.eq (g2 := F0 m 34 ls [.long (zJ ((((M (24 + 3 * r)) * (M (16 + (M (22 + 3 * r))))) * (t - 200)) / 100000000))]) rfl ?_
  exact z_lret hx hb hr hlocks hP hD hS ⟨Nat.le_of_ble_eq_true rfl, Nat.le_of_ble_eq_true rfl⟩ dX4_stretching_34 (⟨congrArg (fun z => some (Value.long (zJ z))) (rfl), rfl⟩)
theorem k_X4_stretching : yX4_stretching.cls ≠ "java/lang/invoke/MethodHandle" ∧ yX4_stretching.cls ≠ "java/lang/invoke/VarHandle" ∧ (parseMethodDescriptor yX4_stretching.desc).map (fun d => d.parameters.length) = some 2 := by decide +kernel
set_option maxHeartbeats 4000000 in
set_option maxRecDepth 100000 in
theorem c_X4_lengthOfRods (l : Launch) (D : va_G) (ct ad : Nat → Nat) (a : Nat → Nat) (M : Int → Int) (t : Int) (hI : gInv M) (ht : -300 ≤ t ∧ t ≤ 600) : ZM l yX4_lengthOfRods wsX4_lengthOfRods ({ frames := 2, cells := 0, slots := 0, locals := 49 } : Room) D ct ad [.ref (a 1), .int (zI t)] (gridW ct a M) (zD (some (.long (zJ (sp_rods M t)))) (gridW ct a M)) := by
  refine ZM.of (cc := cX4_lengthOfRods) (maxL := 5) (ret := (some .long)) (by decide +kernel) rfl (Nat.le_of_ble_eq_true rfl) ?_
  intro p e s m below meth c A ls hx hb hr hts hown hlocks hml hname hE hP hD hA hS hl
  have hK := hE.1
  have hf_0 := hts (.fieldLink RX4 34 "RodGrids$Grid" "rods" "I") (by decide +kernel)
  have hf_1 := hts (.fieldLink RX4 22 "RodGrids$Grid" "directions" "[I") (by decide +kernel)
  have hf_2 := hts (.fieldLink RX4 25 "RodGrids$Grid" "lengths" "[I") (by decide +kernel)
  have hin_X4 : ∀ z ∈ u_ws RX4 TX4 6, z ∈ wsX4_lengthOfRods := by decide +kernel
  have hl : lv_has ls 5 [(0, .ref (a 1)), (1, .int (zI t))] := hl
  have i3 := hI.1
  have i4 := hI.2.1
  refine z_lconst (z := 0) hx hb dX4_lengthOfRods_0 rfl ?_
  refine lv_lstore_n (lv' := [(2, .long (zJ 0)), (0, .ref (a 1)), (1, .int (zI t))]) hx hb dX4_lengthOfRods_1 rfl hl (by decide) rfl (fun ls hl => ?_)
  refine z_iconst hx hb dX4_lengthOfRods_2 ?_
  refine lv_istore (lv' := [(4, .int (zI 0)), (2, .long (zJ 0)), (0, .ref (a 1)), (1, .int (zI t))]) hx hb dX4_lengthOfRods_3 hl (by decide) rfl (fun ls hl => ?_)
  refine z_loop (σ := Int × Int) (fun x => (M 4 - x.1).toNat) (fun x => (0 ≤ x.1 ∧ x.1 ≤ M 4) ∧ (x.2 = sp_rodsN M t x.1.toNat)) (fun x => gridW ct a M) (fun x => [(0, .ref (a 1)), (1, .int (zI t)), (2, .long (zJ x.2)), (4, .int (zI x.1))]) (fun x => []) (0, 0) ⟨(show 0 ≤ 0 ∧ 0 ≤ M 4 from (by omega)), (show 0 = sp_rodsN M t (0 : Int).toNat from (by rfl))⟩ hP hD hS (lv_sub hl [2, 3, 1, 0] rfl) rfl ?_
  rintro ⟨i, s_⟩ hI_5 ih_5 H locs ls hP hD hS hl
  obtain ⟨hi, hs⟩ := hI_5
  have hi : 0 ≤ i ∧ i ≤ M 4 := hi
  have hs : s_ = sp_rodsN M t i.toNat := hs
  have hP : va_P D vwCl (gridW ct a M) H := hP
  have hD : va_D A (gridW ct a M) := hD
  have hl : lv_has ls 5 [(0, .ref (a 1)), (1, .int (zI t)), (2, .long (zJ s_)), (4, .int (zI i))] := hl
  refine lv_iload hx hb dX4_lengthOfRods_5 (lv_at hl 3 rfl) ?_
  refine lv_aload_n hx hb dX4_lengthOfRods_7 rfl (lv_at hl 0 rfl) ?_
  refine va_get (D := D) (ci := 3) (v := .int (zI (M 4))) (C := RX4) (T := TX4) (N := 6) hx hb hts hin_X4 hown hK hP 0 rfl rfl 2 (by decide) hf_0 (fun _ h9 => h9) rfl dX4_lengthOfRods_8 ?_
  refine z_icmp_ge (tgt := 48) hx hb dX4_lengthOfRods_11 (by decide) (by omega) (by omega) (fun hc_11 => ?_) (fun hc_11 => ?_)
  · have hc_11 := hc_11
    refine lv_lload_n hx hb dX4_lengthOfRods_48 rfl (lv_at hl 2 rfl) ?_
    exact z_lret hx hb hr hlocks hP hD hS ⟨Nat.le_of_ble_eq_true rfl, Nat.le_of_ble_eq_true rfl⟩ dX4_lengthOfRods_49 (⟨congrArg (fun z => some (Value.long (zJ z))) (by rw [hs, show i = M 4 by omega]; rfl), rfl⟩)
  · have hc_11 := hc_11
    have q := hI.2.2.2.1 i (by omega) (by omega)
    refine lv_lload_n hx hb dX4_lengthOfRods_14 rfl (lv_at hl 2 rfl) ?_
    refine lv_aload_n hx hb dX4_lengthOfRods_15 rfl (lv_at hl 0 rfl) ?_
    refine va_get (D := D) (ci := 3) (v := .ref (a 4)) (C := RX4) (T := TX4) (N := 6) hx hb hts hin_X4 hown hK hP 0 rfl rfl 4 (by decide) hf_1 (fun _ h9 => h9) rfl dX4_lengthOfRods_16 ?_
    refine lv_iload hx hb dX4_lengthOfRods_19 (lv_at hl 3 rfl) ?_
    refine z_iald (g := fun x => M (23 + 3 * x)) (v := M (23 + 3 * i)) hx hb hK hP 3 rfl (by decide) (by omega) rfl dX4_lengthOfRods_21 ?_
    refine z_i2l hx hb dX4_lengthOfRods_22 (by omega) ?_
    refine lv_aload_n hx hb dX4_lengthOfRods_23 rfl (lv_at hl 0 rfl) ?_
    refine va_get (D := D) (ci := 3) (v := .ref (a 5)) (C := RX4) (T := TX4) (N := 6) hx hb hts hin_X4 hown hK hP 0 rfl rfl 5 (by decide) hf_2 (fun _ h9 => h9) rfl dX4_lengthOfRods_24 ?_
    refine lv_iload hx hb dX4_lengthOfRods_27 (lv_at hl 3 rfl) ?_
    refine z_iald (g := fun x => M (24 + 3 * x)) (v := M (24 + 3 * i)) hx hb hK hP 4 rfl (by decide) (by omega) rfl dX4_lengthOfRods_29 ?_
    refine z_i2l hx hb dX4_lengthOfRods_30 (by omega) ?_
    refine lv_aload_n hx hb dX4_lengthOfRods_31 rfl (lv_at hl 0 rfl) ?_
    refine lv_iload hx hb dX4_lengthOfRods_32 (lv_at hl 3 rfl) ?_
    refine lv_iload_n hx hb dX4_lengthOfRods_34 rfl (lv_at hl 1 rfl) ?_
    refine z_callV (C := RX4) (q0 := 0) (ci := 3) (As := [.int (zI i), .int (zI t)]) (rest := [.long (zJ (M (24 + 3 * i))), .long (zJ (M (23 + 3 * i))), .long (zJ s_)]) ([] : va_W) ([] : va_W) hx hb hml hown hts hl hE hS hA (zr0 ([] : va_W) hP) (zr0D ([] : va_W) hD) (c_X4_stretching l D ct ad a M i t (by assumption) (by omega) (by omega)) gX4_lengthOfRods_X4_stretching rfl rfl k_X4_stretching ⟨Nat.le_of_ble_eq_true rfl, Nat.le_of_ble_eq_true rfl⟩ rfl rfl rfl rfl (Nat.le_of_ble_eq_true rfl) ⟨Nat.le_of_ble_eq_true rfl, Nat.le_of_ble_eq_true rfl⟩ dX4_lengthOfRods_35 rfl (fun v w1 H locs hpost hP hD hS => ?_)
    obtain ⟨rfl, rfl⟩ := hpost
    have hP := zr0' hP
    have hD := zr0D' hD
    have hP : va_P D vwCl (gridW ct a M) H := hP
    have hD : va_D A (gridW ct a M) := hD
    refine W.eq (g2 := F0 m 38 ls [.long (zJ (sp_str M i t)), .long (zJ (M (24 + 3 * i))), .long (zJ (M (23 + 3 * i))), .long (zJ s_)]) rfl ?_
    refine z_ladd hx hb dX4_lengthOfRods_38 ?_
    refine z_lmul hx hb dX4_lengthOfRods_39 ?_
    refine z_ladd hx hb dX4_lengthOfRods_40 ?_
    refine lv_lstore_n (lv' := [(2, .long (zJ (s_ + ((M (23 + 3 * i)) * ((M (24 + 3 * i)) + (sp_str M i t)))))), (0, .ref (a 1)), (1, .int (zI t)), (4, .int (zI i))]) hx hb dX4_lengthOfRods_41 rfl hl (by decide) rfl (fun ls hl => ?_)
    refine z_iinc (k := 3) (lv' := [(4, .int (zI (i + 1))), (2, .long (zJ (s_ + ((M (23 + 3 * i)) * ((M (24 + 3 * i)) + (sp_str M i t)))))), (0, .ref (a 1)), (1, .int (zI t))]) hx hb dX4_lengthOfRods_42 hl rfl (by decide) rfl (fun ls hl => ?_)
    refine lv_goto (tgt := 5) hx hb dX4_lengthOfRods_45 (by decide) ?_
    exact ih_5 (i + 1, s_ + ((M (23 + 3 * i)) * ((M (24 + 3 * i)) + (sp_str M i t)))) ⟨(show 0 ≤ (i + 1) ∧ (i + 1) ≤ M 4 from (by omega)), (show (s_ + ((M (23 + 3 * i)) * ((M (24 + 3 * i)) + (sp_str M i t)))) = sp_rodsN M t (i + 1).toNat from (by rw [sp_rodsS (by omega), hs]))⟩ (show (M 4 - (i + 1)).toNat < (M 4 - i).toNat from (by omega)) _ _ _ hP hD hS (lv_sub hl [2, 3, 1, 0] rfl)
set_option maxHeartbeats 4000000 in
set_option maxRecDepth 100000 in
theorem c_X4_sumOfLengths (l : Launch) (D : va_G) (ct ad : Nat → Nat) (a : Nat → Nat) (M : Int → Int) (hI : gInv M) : ZM l yX4_sumOfLengths wsX4_sumOfLengths ({ frames := 0, cells := 0, slots := 0, locals := 0 } : Room) D ct ad [.ref (a 1)] (gridW ct a M) (zD (some (.long (zJ (sp_sumN M (M 4).toNat)))) (gridW ct a M)) := by
  refine ZM.of (cc := cX4_sumOfLengths) (maxL := 4) (ret := (some .long)) (by decide +kernel) rfl (Nat.le_of_ble_eq_true rfl) ?_
  intro p e s m below meth c A ls hx hb hr hts hown hlocks hml hname hE hP hD hA hS hl
  have hK := hE.1
  have hf_0 := hts (.fieldLink RX4 34 "RodGrids$Grid" "rods" "I") (by decide +kernel)
  have hf_1 := hts (.fieldLink RX4 25 "RodGrids$Grid" "lengths" "[I") (by decide +kernel)
  have hin_X4 : ∀ z ∈ u_ws RX4 TX4 6, z ∈ wsX4_sumOfLengths := by decide +kernel
  have hl : lv_has ls 4 [(0, .ref (a 1))] := hl
  have i3 := hI.1
  have i4 := hI.2.1
  refine z_lconst (z := 0) hx hb dX4_sumOfLengths_0 rfl ?_
  refine lv_lstore_n (lv' := [(1, .long (zJ 0)), (0, .ref (a 1))]) hx hb dX4_sumOfLengths_1 rfl hl (by decide) rfl (fun ls hl => ?_)
  refine z_iconst hx hb dX4_sumOfLengths_2 ?_
  refine lv_istore_n (lv' := [(3, .int (zI 0)), (1, .long (zJ 0)), (0, .ref (a 1))]) hx hb dX4_sumOfLengths_3 rfl hl (by decide) rfl (fun ls hl => ?_)
  refine z_loop (σ := Int × Int) (fun x => (M 4 - x.1).toNat) (fun x => (0 ≤ x.1 ∧ x.1 ≤ M 4) ∧ (x.2 = sp_sumN M x.1.toNat)) (fun x => gridW ct a M) (fun x => [(0, .ref (a 1)), (1, .long (zJ x.2)), (3, .int (zI x.1))]) (fun x => []) (0, 0) ⟨(show 0 ≤ 0 ∧ 0 ≤ M 4 from (by omega)), (show 0 = sp_sumN M (0 : Int).toNat from (by rfl))⟩ hP hD hS (lv_sub hl [2, 1, 0] rfl) rfl ?_
  rintro ⟨i, s_⟩ hI_4 ih_4 H locs ls hP hD hS hl
  obtain ⟨hi, hs⟩ := hI_4
  have hi : 0 ≤ i ∧ i ≤ M 4 := hi
  have hs : s_ = sp_sumN M i.toNat := hs
  have hP : va_P D vwCl (gridW ct a M) H := hP
  have hD : va_D A (gridW ct a M) := hD
  have hl : lv_has ls 4 [(0, .ref (a 1)), (1, .long (zJ s_)), (3, .int (zI i))] := hl
  refine lv_iload_n hx hb dX4_sumOfLengths_4 rfl (lv_at hl 2 rfl) ?_
  refine lv_aload_n hx hb dX4_sumOfLengths_5 rfl (lv_at hl 0 rfl) ?_
  refine va_get (D := D) (ci := 3) (v := .int (zI (M 4))) (C := RX4) (T := TX4) (N := 6) hx hb hts hin_X4 hown hK hP 0 rfl rfl 2 (by decide) hf_0 (fun _ h9 => h9) rfl dX4_sumOfLengths_6 ?_
  refine z_icmp_ge (tgt := 28) hx hb dX4_sumOfLengths_9 (by decide) (by omega) (by omega) (fun hc_9 => ?_) (fun hc_9 => ?_)
  · have hc_9 := hc_9
    refine lv_lload_n hx hb dX4_sumOfLengths_28 rfl (lv_at hl 1 rfl) ?_
    exact z_lret hx hb hr hlocks hP hD hS ⟨Nat.le_of_ble_eq_true rfl, Nat.le_of_ble_eq_true rfl⟩ dX4_sumOfLengths_29 (⟨congrArg (fun z => some (Value.long (zJ z))) (by rw [hs, show i = M 4 by omega]), rfl⟩)
  · have hc_9 := hc_9
    have q := hI.2.2.2.1 i (by omega) (by omega)
    refine lv_lload_n hx hb dX4_sumOfLengths_12 rfl (lv_at hl 1 rfl) ?_
    refine lv_aload_n hx hb dX4_sumOfLengths_13 rfl (lv_at hl 0 rfl) ?_
    refine va_get (D := D) (ci := 3) (v := .ref (a 5)) (C := RX4) (T := TX4) (N := 6) hx hb hts hin_X4 hown hK hP 0 rfl rfl 5 (by decide) hf_1 (fun _ h9 => h9) rfl dX4_sumOfLengths_14 ?_
    refine lv_iload_n hx hb dX4_sumOfLengths_17 rfl (lv_at hl 2 rfl) ?_
    refine z_iald (g := fun x => M (24 + 3 * x)) (v := M (24 + 3 * i)) hx hb hK hP 4 rfl (by decide) (by omega) rfl dX4_sumOfLengths_18 ?_
    refine z_i2l hx hb dX4_sumOfLengths_19 (by omega) ?_
    refine z_ladd hx hb dX4_sumOfLengths_20 ?_
    refine lv_lstore_n (lv' := [(1, .long (zJ (s_ + (M (24 + 3 * i))))), (0, .ref (a 1)), (3, .int (zI i))]) hx hb dX4_sumOfLengths_21 rfl hl (by decide) rfl (fun ls hl => ?_)
    refine z_iinc (k := 2) (lv' := [(3, .int (zI (i + 1))), (1, .long (zJ (s_ + (M (24 + 3 * i))))), (0, .ref (a 1))]) hx hb dX4_sumOfLengths_22 hl rfl (by decide) rfl (fun ls hl => ?_)
    refine lv_goto (tgt := 4) hx hb dX4_sumOfLengths_25 (by decide) ?_
    exact ih_4 (i + 1, s_ + (M (24 + 3 * i))) ⟨(show 0 ≤ (i + 1) ∧ (i + 1) ≤ M 4 from (by omega)), (show (s_ + (M (24 + 3 * i))) = sp_sumN M (i + 1).toNat from (by rw [sp_sumS (by omega), hs]))⟩ (show (M 4 - (i + 1)).toNat < (M 4 - i).toNat from (by omega)) _ _ _ hP hD hS (lv_sub hl [2, 1, 0] rfl)
set_option maxHeartbeats 4000000 in
set_option maxRecDepth 100000 in
theorem c_X4_balanceOfRod (l : Launch) (D : va_G) (ct ad : Nat → Nat) (a : Nat → Nat) (M : Int → Int) (r : Int) (hI : gInv M) (hr : 0 ≤ r ∧ r < M 4) : ZM l yX4_balanceOfRod wsX4_balanceOfRod ({ frames := 1, cells := 0, slots := 0, locals := 21 } : Room) D ct ad [.ref (a 1), .int (zI r)] (gridW ct a M) (zD (some (.long (zJ (sp_bal1 M r)))) (gridW ct a M)) := by
  refine ZM.of (cc := cX4_balanceOfRod) (maxL := 2) (ret := (some .long)) (by decide +kernel) rfl (Nat.le_of_ble_eq_true rfl) ?_
  intro p e s m below meth c A ls hx hb hr hts hown hlocks hml hname hE hP hD hA hS hl
  have hK := hE.1
  have hf_0 := hts (.fieldLink RX4 22 "RodGrids$Grid" "directions" "[I") (by decide +kernel)
  have hf_1 := hts (.fieldLink RX4 25 "RodGrids$Grid" "lengths" "[I") (by decide +kernel)
  have hf_2 := hts (.fieldLink RX4 19 "RodGrids$Grid" "rodMetals" "[I") (by decide +kernel)
  have hin_X4 : ∀ z ∈ u_ws RX4 TX4 6, z ∈ wsX4_balanceOfRod := by decide +kernel
  have hl : lv_has ls 2 [(0, .ref (a 1)), (1, .int (zI r))] := hl
  have i3 := hI.1
  have i4 := hI.2.1
  have q := hI.2.2.2.1 r (by omega) (by omega)
  have q1 := hI.2.2.2.2 r (by omega) (by omega)
  have q2 := hI.2.2.1 (M (22 + 3 * r)) (by omega) (by omega)
  refine lv_aload_n hx hb dX4_balanceOfRod_0 rfl (lv_at hl 0 rfl) ?_
  refine va_get (D := D) (ci := 3) (v := .ref (a 4)) (C := RX4) (T := TX4) (N := 6) hx hb hts hin_X4 hown hK hP 0 rfl rfl 4 (by decide) hf_0 (fun _ h9 => h9) rfl dX4_balanceOfRod_1 ?_
  refine lv_iload_n hx hb dX4_balanceOfRod_4 rfl (lv_at hl 1 rfl) ?_
  refine z_iald (g := fun x => M (23 + 3 * x)) (v := M (23 + 3 * r)) hx hb hK hP 3 rfl (by decide) (by omega) rfl dX4_balanceOfRod_5 ?_
  refine z_i2l hx hb dX4_balanceOfRod_6 (by omega) ?_
  refine lv_aload_n hx hb dX4_balanceOfRod_7 rfl (lv_at hl 0 rfl) ?_
  refine va_get (D := D) (ci := 3) (v := .ref (a 5)) (C := RX4) (T := TX4) (N := 6) hx hb hts hin_X4 hown hK hP 0 rfl rfl 5 (by decide) hf_1 (fun _ h9 => h9) rfl dX4_balanceOfRod_8 ?_
  refine lv_iload_n hx hb dX4_balanceOfRod_11 rfl (lv_at hl 1 rfl) ?_
  refine z_iald (g := fun x => M (24 + 3 * x)) (v := M (24 + 3 * r)) hx hb hK hP 4 rfl (by decide) (by omega) rfl dX4_balanceOfRod_12 ?_
  refine z_i2l hx hb dX4_balanceOfRod_13 (by omega) ?_
  refine z_lmul hx hb dX4_balanceOfRod_14 ?_
  refine lv_aload_n hx hb dX4_balanceOfRod_15 rfl (lv_at hl 0 rfl) ?_
  refine lv_aload_n hx hb dX4_balanceOfRod_16 rfl (lv_at hl 0 rfl) ?_
  refine va_get (D := D) (ci := 3) (v := .ref (a 3)) (C := RX4) (T := TX4) (N := 6) hx hb hts hin_X4 hown hK hP 0 rfl rfl 3 (by decide) hf_2 (fun _ h9 => h9) rfl dX4_balanceOfRod_17 ?_
  refine lv_iload_n hx hb dX4_balanceOfRod_20 rfl (lv_at hl 1 rfl) ?_
  refine z_iald (g := fun x => M (22 + 3 * x)) (v := M (22 + 3 * r)) hx hb hK hP 2 rfl (by decide) (by omega) rfl dX4_balanceOfRod_21 ?_
  refine z_callV (C := RX4) (q0 := 0) (ci := 3) (As := [.int (zI (M (22 + 3 * r)))]) (rest := [.long (zJ ((M (23 + 3 * r)) * (M (24 + 3 * r))))]) ([] : va_W) ([] : va_W) hx hb hml hown hts hl hE hS hA (zr0 ([] : va_W) hP) (zr0D ([] : va_W) hD) (c_X4_stretchOf l D ct ad a M (M (22 + 3 * r)) (by assumption) (by omega)) gX4_balanceOfRod_X4_stretchOf rfl rfl k_X4_stretchOf ⟨Nat.le_of_ble_eq_true rfl, Nat.le_of_ble_eq_true rfl⟩ rfl rfl rfl rfl (Nat.le_of_ble_eq_true rfl) ⟨Nat.le_of_ble_eq_true rfl, Nat.le_of_ble_eq_true rfl⟩ dX4_balanceOfRod_22 rfl (fun v w1 H locs hpost hP hD hS => ?_)
  obtain ⟨rfl, rfl⟩ := hpost
  have hP := zr0' hP
  have hD := zr0D' hD
  have hP : va_P D vwCl (gridW ct a M) H := hP
  have hD : va_D A (gridW ct a M) := hD
  refine W.eq (g2 := F0 m 25 ls [.int (zI (M (16 + (M (22 + 3 * r))))), .long (zJ ((M (23 + 3 * r)) * (M (24 + 3 * r))))]) rfl ?_
  refine z_i2l hx hb dX4_balanceOfRod_25 (by omega) ?_
  refine z_lmul hx hb dX4_balanceOfRod_26 ?_
  exact z_lret hx hb hr hlocks hP hD hS ⟨Nat.le_of_ble_eq_true rfl, Nat.le_of_ble_eq_true rfl⟩ dX4_balanceOfRod_27 (⟨congrArg (fun z => some (Value.long (zJ z))) (rfl), rfl⟩)
theorem k_X4_balanceOfRod : yX4_balanceOfRod.cls ≠ "java/lang/invoke/MethodHandle" ∧ yX4_balanceOfRod.cls ≠ "java/lang/invoke/VarHandle" ∧ (parseMethodDescriptor yX4_balanceOfRod.desc).map (fun d => d.parameters.length) = some 1 := by decide +kernel
set_option maxHeartbeats 4000000 in
set_option maxRecDepth 100000 in
theorem c_X4_balanceOfRods (l : Launch) (D : va_G) (ct ad : Nat → Nat) (a : Nat → Nat) (M : Int → Int) (hI : gInv M) : ZM l yX4_balanceOfRods wsX4_balanceOfRods ({ frames := 2, cells := 0, slots := 0, locals := 42 } : Room) D ct ad [.ref (a 1)] (gridW ct a M) (zD (some (.long (zJ (sp_balN M (M 4).toNat)))) (gridW ct a M)) := by
  refine ZM.of (cc := cX4_balanceOfRods) (maxL := 4) (ret := (some .long)) (by decide +kernel) rfl (Nat.le_of_ble_eq_true rfl) ?_
  intro p e s m below meth c A ls hx hb hr hts hown hlocks hml hname hE hP hD hA hS hl
  have hK := hE.1
  have hf_0 := hts (.fieldLink RX4 34 "RodGrids$Grid" "rods" "I") (by decide +kernel)
  have hin_X4 : ∀ z ∈ u_ws RX4 TX4 6, z ∈ wsX4_balanceOfRods := by decide +kernel
  have hl : lv_has ls 4 [(0, .ref (a 1))] := hl
  have i3 := hI.1
  have i4 := hI.2.1
  refine z_lconst (z := 0) hx hb dX4_balanceOfRods_0 rfl ?_
  refine lv_lstore_n (lv' := [(1, .long (zJ 0)), (0, .ref (a 1))]) hx hb dX4_balanceOfRods_1 rfl hl (by decide) rfl (fun ls hl => ?_)
  refine z_iconst hx hb dX4_balanceOfRods_2 ?_
  refine lv_istore_n (lv' := [(3, .int (zI 0)), (1, .long (zJ 0)), (0, .ref (a 1))]) hx hb dX4_balanceOfRods_3 rfl hl (by decide) rfl (fun ls hl => ?_)
  refine z_loop (σ := Int × Int) (fun x => (M 4 - x.1).toNat) (fun x => (0 ≤ x.1 ∧ x.1 ≤ M 4) ∧ (x.2 = sp_balN M x.1.toNat)) (fun x => gridW ct a M) (fun x => [(0, .ref (a 1)), (1, .long (zJ x.2)), (3, .int (zI x.1))]) (fun x => []) (0, 0) ⟨(show 0 ≤ 0 ∧ 0 ≤ M 4 from (by omega)), (show 0 = sp_balN M (0 : Int).toNat from (by rfl))⟩ hP hD hS (lv_sub hl [2, 1, 0] rfl) rfl ?_
  rintro ⟨i, s_⟩ hI_4 ih_4 H locs ls hP hD hS hl
  obtain ⟨hi, hs⟩ := hI_4
  have hi : 0 ≤ i ∧ i ≤ M 4 := hi
  have hs : s_ = sp_balN M i.toNat := hs
  have hP : va_P D vwCl (gridW ct a M) H := hP
  have hD : va_D A (gridW ct a M) := hD
  have hl : lv_has ls 4 [(0, .ref (a 1)), (1, .long (zJ s_)), (3, .int (zI i))] := hl
  refine lv_iload_n hx hb dX4_balanceOfRods_4 rfl (lv_at hl 2 rfl) ?_
  refine lv_aload_n hx hb dX4_balanceOfRods_5 rfl (lv_at hl 0 rfl) ?_
  refine va_get (D := D) (ci := 3) (v := .int (zI (M 4))) (C := RX4) (T := TX4) (N := 6) hx hb hts hin_X4 hown hK hP 0 rfl rfl 2 (by decide) hf_0 (fun _ h9 => h9) rfl dX4_balanceOfRods_6 ?_
  refine z_icmp_ge (tgt := 26) hx hb dX4_balanceOfRods_9 (by decide) (by omega) (by omega) (fun hc_9 => ?_) (fun hc_9 => ?_)
  · have hc_9 := hc_9
    refine lv_lload_n hx hb dX4_balanceOfRods_26 rfl (lv_at hl 1 rfl) ?_
    exact z_lret hx hb hr hlocks hP hD hS ⟨Nat.le_of_ble_eq_true rfl, Nat.le_of_ble_eq_true rfl⟩ dX4_balanceOfRods_27 (⟨congrArg (fun z => some (Value.long (zJ z))) (by rw [hs, show i = M 4 by omega]), rfl⟩)
  · have hc_9 := hc_9
    refine lv_lload_n hx hb dX4_balanceOfRods_12 rfl (lv_at hl 1 rfl) ?_
    refine lv_aload_n hx hb dX4_balanceOfRods_13 rfl (lv_at hl 0 rfl) ?_
    refine lv_iload_n hx hb dX4_balanceOfRods_14 rfl (lv_at hl 2 rfl) ?_
    refine z_callV (C := RX4) (q0 := 0) (ci := 3) (As := [.int (zI i)]) (rest := [.long (zJ s_)]) ([] : va_W) ([] : va_W) hx hb hml hown hts hl hE hS hA (zr0 ([] : va_W) hP) (zr0D ([] : va_W) hD) (c_X4_balanceOfRod l D ct ad a M i (by assumption) (by omega)) gX4_balanceOfRods_X4_balanceOfRod rfl rfl k_X4_balanceOfRod ⟨Nat.le_of_ble_eq_true rfl, Nat.le_of_ble_eq_true rfl⟩ rfl rfl rfl rfl (Nat.le_of_ble_eq_true rfl) ⟨Nat.le_of_ble_eq_true rfl, Nat.le_of_ble_eq_true rfl⟩ dX4_balanceOfRods_15 rfl (fun v w1 H locs hpost hP hD hS => ?_)
    obtain ⟨rfl, rfl⟩ := hpost
    have hP := zr0' hP
    have hD := zr0D' hD
    have hP : va_P D vwCl (gridW ct a M) H := hP
    have hD : va_D A (gridW ct a M) := hD
    refine W.eq (g2 := F0 m 18 ls [.long (zJ (sp_bal1 M i)), .long (zJ s_)]) rfl ?_
    refine z_ladd hx hb dX4_balanceOfRods_18 ?_
    refine lv_lstore_n (lv' := [(1, .long (zJ (s_ + (sp_bal1 M i)))), (0, .ref (a 1)), (3, .int (zI i))]) hx hb dX4_balanceOfRods_19 rfl hl (by decide) rfl (fun ls hl => ?_)
    refine z_iinc (k := 2) (lv' := [(3, .int (zI (i + 1))), (1, .long (zJ (s_ + (sp_bal1 M i)))), (0, .ref (a 1))]) hx hb dX4_balanceOfRods_20 hl rfl (by decide) rfl (fun ls hl => ?_)
    refine lv_goto (tgt := 4) hx hb dX4_balanceOfRods_23 (by decide) ?_
    exact ih_4 (i + 1, s_ + (sp_bal1 M i)) ⟨(show 0 ≤ (i + 1) ∧ (i + 1) ≤ M 4 from (by omega)), (show (s_ + (sp_bal1 M i)) = sp_balN M (i + 1).toNat from (by rw [sp_balS (by omega), hs]))⟩ (show (M 4 - (i + 1)).toNat < (M 4 - i).toNat from (by omega)) _ _ _ hP hD hS (lv_sub hl [2, 1, 0] rfl)
set_option maxHeartbeats 4000000 in
set_option maxRecDepth 100000 in
theorem c_X4_appendMetal (l : Launch) (D : va_G) (ct ad : Nat → Nat) (a : Nat → Nat) (M : Int → Int) (v : Int) (hI : gInv M) (h1 : M 3 < 6) : ZM l yX4_appendMetal wsX4_appendMetal ({ frames := 0, cells := 0, slots := 0, locals := 0 } : Room) D ct ad [.ref (a 1), .int (zI v)] (gridW ct a M) (zD (some (.int (zI (M 3)))) (gridW ct a (st_metal M v))) := by
  refine ZM.of (cc := cX4_appendMetal) (maxL := 2) (ret := (some .int)) (by decide +kernel) rfl (Nat.le_of_ble_eq_true rfl) ?_
  intro p e s m below meth c A ls hx hb hr hts hown hlocks hml hname hE hP hD hA hS hl
  have hK := hE.1
  have hf_0 := hts (.fieldLink RX4 15 "RodGrids$Grid" "stretches" "[I") (by decide +kernel)
  have hf_1 := hts (.fieldLink RX4 9 "RodGrids$Grid" "metals" "I") (by decide +kernel)
  have hin_X4 : ∀ z ∈ u_ws RX4 TX4 6, z ∈ wsX4_appendMetal := by decide +kernel
  have hl : lv_has ls 2 [(0, .ref (a 1)), (1, .int (zI v))] := hl
  have i3 := hI.1
  have i4 := hI.2.1
  refine lv_aload_n hx hb dX4_appendMetal_0 rfl (lv_at hl 0 rfl) ?_
  refine va_get (D := D) (ci := 3) (v := .ref (a 2)) (C := RX4) (T := TX4) (N := 6) hx hb hts hin_X4 hown hK hP 0 rfl rfl 1 (by decide) hf_0 (fun _ h9 => h9) rfl dX4_appendMetal_1 ?_
  refine lv_aload_n hx hb dX4_appendMetal_4 rfl (lv_at hl 0 rfl) ?_
  refine va_get (D := D) (ci := 3) (v := .int (zI (M 3))) (C := RX4) (T := TX4) (N := 6) hx hb hts hin_X4 hown hK hP 0 rfl rfl 0 (by decide) hf_1 (fun _ h9 => h9) rfl dX4_appendMetal_5 ?_
  refine lv_iload_n hx hb dX4_appendMetal_8 rfl (lv_at hl 1 rfl) ?_
  refine z_iast (g := fun x => M (16 + x)) (w2 := gridW ct a (up M (16 + (M 3)) v)) hx hb hK hP hD hS 1 rfl (by decide) (by omega) dX4_appendMetal_9 (set_grid_a1 ct a M (M 3) v (by omega)) (fun H locs hP hD hS => ?_)
  refine lv_aload_n hx hb dX4_appendMetal_10 rfl (lv_at hl 0 rfl) ?_
  refine lv_dup hx hb dX4_appendMetal_11 rfl ?_
  refine va_get (D := D) (ci := 3) (v := .int (zI (M 3))) (C := RX4) (T := TX4) (N := 6) hx hb hts hin_X4 hown hK hP 0 rfl rfl 0 (by decide) hf_1 (fun _ h9 => h9) (congrArg (fun z => some (Value.int (zI z))) (show (up M (16 + (M 3)) v) 3 = M 3 from by rw [up_n (by omega)])) dX4_appendMetal_12 ?_
  refine z_iconst hx hb dX4_appendMetal_15 ?_
  refine z_iadd hx hb dX4_appendMetal_16 ?_
  refine z_put (ct := ct) (ad := ad) (ci := 3) (v := .int (zI ((M 3) + 1))) (ty := tyX4 0) (C := RX4) (T := TX4) (N := 6) (w2 := gridW ct a (up (up M (16 + (M 3)) v) 3 ((M 3) + 1))) hx hb hts hin_X4 tyX4 tyX4_ok nmX4 hown hE hP hD hS 0 rfl rfl 0 (by decide) hf_1 (fun _ h9 => h9) rfl (by decide +kernel) rfl rfl (Nat.le_of_ble_eq_true rfl) dX4_appendMetal_17 (set_grid_3 ct a (up M (16 + (M 3)) v) ((M 3) + 1)) (fun H locs hP hD hS => ?_)
  refine lv_aload_n hx hb dX4_appendMetal_20 rfl (lv_at hl 0 rfl) ?_
  refine va_get (D := D) (ci := 3) (v := .int (zI ((M 3) + 1))) (C := RX4) (T := TX4) (N := 6) hx hb hts hin_X4 hown hK hP 0 rfl rfl 0 (by decide) hf_1 (fun _ h9 => h9) rfl dX4_appendMetal_21 ?_
  refine z_iconst hx hb dX4_appendMetal_24 ?_
  refine z_isub hx hb dX4_appendMetal_25 ?_
  exact z_iret hx hb hr hlocks hP hD hS ⟨Nat.le_of_ble_eq_true rfl, Nat.le_of_ble_eq_true rfl⟩ dX4_appendMetal_26 (⟨congrArg (fun z => some (Value.int (zI z))) (by omega), rfl⟩)
set_option maxHeartbeats 4000000 in
set_option maxRecDepth 100000 in
theorem c_X4_changeStretch (l : Launch) (D : va_G) (ct ad : Nat → Nat) (a : Nat → Nat) (M : Int → Int) (k v : Int) (hI : gInv M) (h1 : 0 ≤ k ∧ k < M 3) : ZM l yX4_changeStretch wsX4_changeStretch ({ frames := 0, cells := 0, slots := 0, locals := 0 } : Room) D ct ad [.ref (a 1), .int (zI k), .int (zI v)] (gridW ct a M) (zD (some (.int (zI (M (16 + k))))) (gridW ct a (up M (16 + k) v))) := by
  refine ZM.of (cc := cX4_changeStretch) (maxL := 4) (ret := (some .int)) (by decide +kernel) rfl (Nat.le_of_ble_eq_true rfl) ?_
  intro p e s m below meth c A ls hx hb hr hts hown hlocks hml hname hE hP hD hA hS hl
  have hK := hE.1
  have hf_0 := hts (.fieldLink RX4 15 "RodGrids$Grid" "stretches" "[I") (by decide +kernel)
  have hin_X4 : ∀ z ∈ u_ws RX4 TX4 6, z ∈ wsX4_changeStretch := by decide +kernel
  have hl : lv_has ls 4 [(0, .ref (a 1)), (1, .int (zI k)), (2, .int (zI v))] := hl
  have i3 := hI.1
  have i4 := hI.2.1
  refine lv_aload_n hx hb dX4_changeStretch_0 rfl (lv_at hl 0 rfl) ?_
  refine va_get (D := D) (ci := 3) (v := .ref (a 2)) (C := RX4) (T := TX4) (N := 6) hx hb hts hin_X4 hown hK hP 0 rfl rfl 1 (by decide) hf_0 (fun _ h9 => h9) rfl dX4_changeStretch_1 ?_
  refine lv_iload_n hx hb dX4_changeStretch_4 rfl (lv_at hl 1 rfl) ?_
  refine z_iald (g := fun x => M (16 + x)) (v := M (16 + k)) hx hb hK hP 1 rfl (by decide) (by omega) rfl dX4_changeStretch_5 ?_
  refine lv_istore_n (lv' := [(3, .int (zI (M (16 + k)))), (0, .ref (a 1)), (1, .int (zI k)), (2, .int (zI v))]) hx hb dX4_changeStretch_6 rfl hl (by decide) rfl (fun ls hl => ?_)
  refine lv_aload_n hx hb dX4_changeStretch_7 rfl (lv_at hl 1 rfl) ?_
  refine va_get (D := D) (ci := 3) (v := .ref (a 2)) (C := RX4) (T := TX4) (N := 6) hx hb hts hin_X4 hown hK hP 0 rfl rfl 1 (by decide) hf_0 (fun _ h9 => h9) rfl dX4_changeStretch_8 ?_
  refine lv_iload_n hx hb dX4_changeStretch_11 rfl (lv_at hl 2 rfl) ?_
  refine lv_iload_n hx hb dX4_changeStretch_12 rfl (lv_at hl 3 rfl) ?_
  refine z_iast (g := fun x => M (16 + x)) (w2 := gridW ct a (up M (16 + k) v)) hx hb hK hP hD hS 1 rfl (by decide) (by omega) dX4_changeStretch_13 (set_grid_a1 ct a M k v (by omega)) (fun H locs hP hD hS => ?_)
  refine lv_iload_n hx hb dX4_changeStretch_14 rfl (lv_at hl 0 rfl) ?_
  exact z_iret hx hb hr hlocks hP hD hS ⟨Nat.le_of_ble_eq_true rfl, Nat.le_of_ble_eq_true rfl⟩ dX4_changeStretch_15 (⟨congrArg (fun z => some (Value.int (zI z))) (rfl), rfl⟩)
set_option maxHeartbeats 4000000 in
set_option maxRecDepth 100000 in
theorem c_X4_appendRod (l : Launch) (D : va_G) (ct ad : Nat → Nat) (a : Nat → Nat) (M : Int → Int) (k d n : Int) (hI : gInv M) (h1 : M 4 < 9) : ZM l yX4_appendRod wsX4_appendRod ({ frames := 0, cells := 0, slots := 0, locals := 0 } : Room) D ct ad [.ref (a 1), .int (zI k), .int (zI d), .int (zI n)] (gridW ct a M) (zD (some (.int (zI (M 4)))) (gridW ct a (st_rod M k d n))) := by
  refine ZM.of (cc := cX4_appendRod) (maxL := 4) (ret := (some .int)) (by decide +kernel) rfl (Nat.le_of_ble_eq_true rfl) ?_
  intro p e s m below meth c A ls hx hb hr hts hown hlocks hml hname hE hP hD hA hS hl
  have hK := hE.1
  have hf_0 := hts (.fieldLink RX4 19 "RodGrids$Grid" "rodMetals" "[I") (by decide +kernel)
  have hf_1 := hts (.fieldLink RX4 34 "RodGrids$Grid" "rods" "I") (by decide +kernel)
  have hf_2 := hts (.fieldLink RX4 22 "RodGrids$Grid" "directions" "[I") (by decide +kernel)
  have hf_3 := hts (.fieldLink RX4 25 "RodGrids$Grid" "lengths" "[I") (by decide +kernel)
  have hin_X4 : ∀ z ∈ u_ws RX4 TX4 6, z ∈ wsX4_appendRod := by decide +kernel
  have hl : lv_has ls 4 [(0, .ref (a 1)), (1, .int (zI k)), (2, .int (zI d)), (3, .int (zI n))] := hl
  have i3 := hI.1
  have i4 := hI.2.1
  refine lv_aload_n hx hb dX4_appendRod_0 rfl (lv_at hl 0 rfl) ?_
  refine va_get (D := D) (ci := 3) (v := .ref (a 3)) (C := RX4) (T := TX4) (N := 6) hx hb hts hin_X4 hown hK hP 0 rfl rfl 3 (by decide) hf_0 (fun _ h9 => h9) rfl dX4_appendRod_1 ?_
  refine lv_aload_n hx hb dX4_appendRod_4 rfl (lv_at hl 0 rfl) ?_
  refine va_get (D := D) (ci := 3) (v := .int (zI (M 4))) (C := RX4) (T := TX4) (N := 6) hx hb hts hin_X4 hown hK hP 0 rfl rfl 2 (by decide) hf_1 (fun _ h9 => h9) rfl dX4_appendRod_5 ?_
  refine lv_iload_n hx hb dX4_appendRod_8 rfl (lv_at hl 1 rfl) ?_
  refine z_iast (g := fun x => M (22 + 3 * x)) (w2 := gridW ct a (up M (22 + 3 * (M 4)) k)) hx hb hK hP hD hS 2 rfl (by decide) (by omega) dX4_appendRod_9 (set_grid_a2 ct a M (M 4) k (by omega)) (fun H locs hP hD hS => ?_)
  refine lv_aload_n hx hb dX4_appendRod_10 rfl (lv_at hl 0 rfl) ?_
  refine va_get (D := D) (ci := 3) (v := .ref (a 4)) (C := RX4) (T := TX4) (N := 6) hx hb hts hin_X4 hown hK hP 0 rfl rfl 4 (by decide) hf_2 (fun _ h9 => h9) rfl dX4_appendRod_11 ?_
  refine lv_aload_n hx hb dX4_appendRod_14 rfl (lv_at hl 0 rfl) ?_
  refine va_get (D := D) (ci := 3) (v := .int (zI (M 4))) (C := RX4) (T := TX4) (N := 6) hx hb hts hin_X4 hown hK hP 0 rfl rfl 2 (by decide) hf_1 (fun _ h9 => h9) (congrArg (fun z => some (Value.int (zI z))) (show (up M (22 + 3 * (M 4)) k) 4 = M 4 from by rw [up_n (by omega)])) dX4_appendRod_15 ?_
  refine lv_iload_n hx hb dX4_appendRod_18 rfl (lv_at hl 2 rfl) ?_
  refine z_iast (g := fun x => (up M (22 + 3 * (M 4)) k) (23 + 3 * x)) (w2 := gridW ct a (up (up M (22 + 3 * (M 4)) k) (23 + 3 * (M 4)) d)) hx hb hK hP hD hS 3 rfl (by decide) (by omega) dX4_appendRod_19 (set_grid_a3 ct a (up M (22 + 3 * (M 4)) k) (M 4) d (by omega)) (fun H locs hP hD hS => ?_)
  refine lv_aload_n hx hb dX4_appendRod_20 rfl (lv_at hl 0 rfl) ?_
  refine va_get (D := D) (ci := 3) (v := .ref (a 5)) (C := RX4) (T := TX4) (N := 6) hx hb hts hin_X4 hown hK hP 0 rfl rfl 5 (by decide) hf_3 (fun _ h9 => h9) rfl dX4_appendRod_21 ?_
  refine lv_aload_n hx hb dX4_appendRod_24 rfl (lv_at hl 0 rfl) ?_
  refine va_get (D := D) (ci := 3) (v := .int (zI (M 4))) (C := RX4) (T := TX4) (N := 6) hx hb hts hin_X4 hown hK hP 0 rfl rfl 2 (by decide) hf_1 (fun _ h9 => h9) (congrArg (fun z => some (Value.int (zI z))) (show (up (up M (22 + 3 * (M 4)) k) (23 + 3 * (M 4)) d) 4 = M 4 from by rw [up_n (by omega), up_n (by omega)])) dX4_appendRod_25 ?_
  refine lv_iload_n hx hb dX4_appendRod_28 rfl (lv_at hl 3 rfl) ?_
  refine z_iast (g := fun x => (up (up M (22 + 3 * (M 4)) k) (23 + 3 * (M 4)) d) (24 + 3 * x)) (w2 := gridW ct a (up (up (up M (22 + 3 * (M 4)) k) (23 + 3 * (M 4)) d) (24 + 3 * (M 4)) n)) hx hb hK hP hD hS 4 rfl (by decide) (by omega) dX4_appendRod_29 (set_grid_a4 ct a (up (up M (22 + 3 * (M 4)) k) (23 + 3 * (M 4)) d) (M 4) n (by omega)) (fun H locs hP hD hS => ?_)
  refine lv_aload_n hx hb dX4_appendRod_30 rfl (lv_at hl 0 rfl) ?_
  refine lv_dup hx hb dX4_appendRod_31 rfl ?_
  refine va_get (D := D) (ci := 3) (v := .int (zI (M 4))) (C := RX4) (T := TX4) (N := 6) hx hb hts hin_X4 hown hK hP 0 rfl rfl 2 (by decide) hf_1 (fun _ h9 => h9) (congrArg (fun z => some (Value.int (zI z))) (show (up (up (up M (22 + 3 * (M 4)) k) (23 + 3 * (M 4)) d) (24 + 3 * (M 4)) n) 4 = M 4 from by rw [up_n (by omega), up_n (by omega), up_n (by omega)])) dX4_appendRod_32 ?_
  refine z_iconst hx hb dX4_appendRod_35 ?_
  refine z_iadd hx hb dX4_appendRod_36 ?_
  refine z_put (ct := ct) (ad := ad) (ci := 3) (v := .int (zI ((M 4) + 1))) (ty := tyX4 2) (C := RX4) (T := TX4) (N := 6) (w2 := gridW ct a (up (up (up (up M (22 + 3 * (M 4)) k) (23 + 3 * (M 4)) d) (24 + 3 * (M 4)) n) 4 ((M 4) + 1))) hx hb hts hin_X4 tyX4 tyX4_ok nmX4 hown hE hP hD hS 0 rfl rfl 2 (by decide) hf_1 (fun _ h9 => h9) rfl (by decide +kernel) rfl rfl (Nat.le_of_ble_eq_true rfl) dX4_appendRod_37 (set_grid_4 ct a (up (up (up M (22 + 3 * (M 4)) k) (23 + 3 * (M 4)) d) (24 + 3 * (M 4)) n) ((M 4) + 1)) (fun H locs hP hD hS => ?_)
  refine lv_aload_n hx hb dX4_appendRod_40 rfl (lv_at hl 0 rfl) ?_
  refine va_get (D := D) (ci := 3) (v := .int (zI ((M 4) + 1))) (C := RX4) (T := TX4) (N := 6) hx hb hts hin_X4 hown hK hP 0 rfl rfl 2 (by decide) hf_1 (fun _ h9 => h9) rfl dX4_appendRod_41 ?_
  refine z_iconst hx hb dX4_appendRod_44 ?_
  refine z_isub hx hb dX4_appendRod_45 ?_
  exact z_iret hx hb hr hlocks hP hD hS ⟨Nat.le_of_ble_eq_true rfl, Nat.le_of_ble_eq_true rfl⟩ dX4_appendRod_46 (⟨congrArg (fun z => some (Value.int (zI z))) (by omega), rfl⟩)
set_option maxHeartbeats 4000000 in
set_option maxRecDepth 100000 in
theorem c_X4_changeLength (l : Launch) (D : va_G) (ct ad : Nat → Nat) (a : Nat → Nat) (M : Int → Int) (r n : Int) (hI : gInv M) (h1 : 0 ≤ r ∧ r < M 4) : ZM l yX4_changeLength wsX4_changeLength ({ frames := 0, cells := 0, slots := 0, locals := 0 } : Room) D ct ad [.ref (a 1), .int (zI r), .int (zI n)] (gridW ct a M) (zD (some (.int (zI (M (24 + 3 * r))))) (gridW ct a (up M (24 + 3 * r) n))) := by
  refine ZM.of (cc := cX4_changeLength) (maxL := 4) (ret := (some .int)) (by decide +kernel) rfl (Nat.le_of_ble_eq_true rfl) ?_
  intro p e s m below meth c A ls hx hb hr hts hown hlocks hml hname hE hP hD hA hS hl
  have hK := hE.1
  have hf_0 := hts (.fieldLink RX4 25 "RodGrids$Grid" "lengths" "[I") (by decide +kernel)
  have hin_X4 : ∀ z ∈ u_ws RX4 TX4 6, z ∈ wsX4_changeLength := by decide +kernel
  have hl : lv_has ls 4 [(0, .ref (a 1)), (1, .int (zI r)), (2, .int (zI n))] := hl
  have i3 := hI.1
  have i4 := hI.2.1
  refine lv_aload_n hx hb dX4_changeLength_0 rfl (lv_at hl 0 rfl) ?_
  refine va_get (D := D) (ci := 3) (v := .ref (a 5)) (C := RX4) (T := TX4) (N := 6) hx hb hts hin_X4 hown hK hP 0 rfl rfl 5 (by decide) hf_0 (fun _ h9 => h9) rfl dX4_changeLength_1 ?_
  refine lv_iload_n hx hb dX4_changeLength_4 rfl (lv_at hl 1 rfl) ?_
  refine z_iald (g := fun x => M (24 + 3 * x)) (v := M (24 + 3 * r)) hx hb hK hP 4 rfl (by decide) (by omega) rfl dX4_changeLength_5 ?_
  refine lv_istore_n (lv' := [(3, .int (zI (M (24 + 3 * r)))), (0, .ref (a 1)), (1, .int (zI r)), (2, .int (zI n))]) hx hb dX4_changeLength_6 rfl hl (by decide) rfl (fun ls hl => ?_)
  refine lv_aload_n hx hb dX4_changeLength_7 rfl (lv_at hl 1 rfl) ?_
  refine va_get (D := D) (ci := 3) (v := .ref (a 5)) (C := RX4) (T := TX4) (N := 6) hx hb hts hin_X4 hown hK hP 0 rfl rfl 5 (by decide) hf_0 (fun _ h9 => h9) rfl dX4_changeLength_8 ?_
  refine lv_iload_n hx hb dX4_changeLength_11 rfl (lv_at hl 2 rfl) ?_
  refine lv_iload_n hx hb dX4_changeLength_12 rfl (lv_at hl 3 rfl) ?_
  refine z_iast (g := fun x => M (24 + 3 * x)) (w2 := gridW ct a (up M (24 + 3 * r) n)) hx hb hK hP hD hS 4 rfl (by decide) (by omega) dX4_changeLength_13 (set_grid_a4 ct a M r n (by omega)) (fun H locs hP hD hS => ?_)
  refine lv_iload_n hx hb dX4_changeLength_14 rfl (lv_at hl 0 rfl) ?_
  exact z_iret hx hb hr hlocks hP hD hS ⟨Nat.le_of_ble_eq_true rfl, Nat.le_of_ble_eq_true rfl⟩ dX4_changeLength_15 (⟨congrArg (fun z => some (Value.int (zI z))) (rfl), rfl⟩)
set_option maxHeartbeats 4000000 in
set_option maxRecDepth 100000 in
theorem c_X4_dropRod (l : Launch) (D : va_G) (ct ad : Nat → Nat) (a : Nat → Nat) (M : Int → Int) (r : Int) (hI : gInv M) (h1 : 0 ≤ r ∧ r < M 4) : ZM l yX4_dropRod wsX4_dropRod ({ frames := 0, cells := 0, slots := 0, locals := 0 } : Room) D ct ad [.ref (a 1), .int (zI r)] (gridW ct a M) (zD (some (.int (zI (M 4 - 1)))) (gridW ct a (st_drop M r))) := by
  refine ZM.of (cc := cX4_dropRod) (maxL := 3) (ret := (some .int)) (by decide +kernel) rfl (Nat.le_of_ble_eq_true rfl) ?_
  intro p e s m below meth c A ls hx hb hr hts hown hlocks hml hname hE hP hD hA hS hl
  have hK := hE.1
  have hf_0 := hts (.fieldLink RX4 34 "RodGrids$Grid" "rods" "I") (by decide +kernel)
  have hf_1 := hts (.fieldLink RX4 19 "RodGrids$Grid" "rodMetals" "[I") (by decide +kernel)
  have hf_2 := hts (.fieldLink RX4 22 "RodGrids$Grid" "directions" "[I") (by decide +kernel)
  have hf_3 := hts (.fieldLink RX4 25 "RodGrids$Grid" "lengths" "[I") (by decide +kernel)
  have hin_X4 : ∀ z ∈ u_ws RX4 TX4 6, z ∈ wsX4_dropRod := by decide +kernel
  have hl : lv_has ls 3 [(0, .ref (a 1)), (1, .int (zI r))] := hl
  have i3 := hI.1
  have i4 := hI.2.1
  refine lv_iload_n hx hb dX4_dropRod_0 rfl (lv_at hl 1 rfl) ?_
  refine z_iconst hx hb dX4_dropRod_1 ?_
  refine z_iadd hx hb dX4_dropRod_2 ?_
  refine lv_istore_n (lv' := [(2, .int (zI (r + 1))), (0, .ref (a 1)), (1, .int (zI r))]) hx hb dX4_dropRod_3 rfl hl (by decide) rfl (fun ls hl => ?_)
  refine z_loop (σ := Int × (Int → Int)) (fun x => (M 4 - x.1).toNat) (fun x => (r ≤ x.1 ∧ x.1 + 1 ≤ M 4) ∧ (x.2 = st_move M r x.1)) (fun x => gridW ct a x.2) (fun x => [(0, .ref (a 1)), (1, .int (zI r)), (2, .int (zI (x.1 + 1)))]) (fun x => []) (r, M) ⟨(show r ≤ r ∧ r + 1 ≤ M 4 from (by omega)), (show M = st_move M r r from (by rw [st_move0]))⟩ hP hD hS (lv_sub hl [1, 2, 0] rfl) rfl ?_
  rintro ⟨i, N⟩ hI_4 ih_4 H locs ls hP hD hS hl
  obtain ⟨hi, hN⟩ := hI_4
  have hi : r ≤ i ∧ i + 1 ≤ M 4 := hi
  have hN : N = st_move M r i := hN
  have hP : va_P D vwCl (gridW ct a N) H := hP
  have hD : va_D A (gridW ct a N) := hD
  have hl : lv_has ls 3 [(0, .ref (a 1)), (1, .int (zI r)), (2, .int (zI (i + 1)))] := hl
  have hN4 : N 4 = M 4 := by rw [hN]; exact if_neg (by omega)
  refine lv_iload_n hx hb dX4_dropRod_4 rfl (lv_at hl 2 rfl) ?_
  refine lv_aload_n hx hb dX4_dropRod_5 rfl (lv_at hl 0 rfl) ?_
  refine va_get (D := D) (ci := 3) (v := .int (zI (N 4))) (C := RX4) (T := TX4) (N := 6) hx hb hts hin_X4 hown hK hP 0 rfl rfl 2 (by decide) hf_0 (fun _ h9 => h9) rfl dX4_dropRod_6 ?_
  refine z_icmp_ge (tgt := 60) hx hb dX4_dropRod_9 (by decide) (by omega) (by omega) (fun hc_9 => ?_) (fun hc_9 => ?_)
  · have hc_9 := hc_9
    refine lv_aload_n hx hb dX4_dropRod_60 rfl (lv_at hl 0 rfl) ?_
    refine lv_dup hx hb dX4_dropRod_61 rfl ?_
    refine va_get (D := D) (ci := 3) (v := .int (zI (N 4))) (C := RX4) (T := TX4) (N := 6) hx hb hts hin_X4 hown hK hP 0 rfl rfl 2 (by decide) hf_0 (fun _ h9 => h9) rfl dX4_dropRod_62 ?_
    refine z_iconst hx hb dX4_dropRod_65 ?_
    refine z_isub hx hb dX4_dropRod_66 ?_
    refine z_put (ct := ct) (ad := ad) (ci := 3) (v := .int (zI ((N 4) - 1))) (ty := tyX4 2) (C := RX4) (T := TX4) (N := 6) (w2 := gridW ct a (up N 4 ((N 4) - 1))) hx hb hts hin_X4 tyX4 tyX4_ok nmX4 hown hE hP hD hS 0 rfl rfl 2 (by decide) hf_0 (fun _ h9 => h9) rfl (by decide +kernel) rfl rfl (Nat.le_of_ble_eq_true rfl) dX4_dropRod_67 (set_grid_4 ct a N ((N 4) - 1)) (fun H locs hP hD hS => ?_)
    refine lv_aload_n hx hb dX4_dropRod_70 rfl (lv_at hl 0 rfl) ?_
    refine va_get (D := D) (ci := 3) (v := .int (zI ((N 4) - 1))) (C := RX4) (T := TX4) (N := 6) hx hb hts hin_X4 hown hK hP 0 rfl rfl 2 (by decide) hf_0 (fun _ h9 => h9) rfl dX4_dropRod_71 ?_
    exact z_iret hx hb hr hlocks hP hD hS ⟨Nat.le_of_ble_eq_true rfl, Nat.le_of_ble_eq_true rfl⟩ dX4_dropRod_74 (⟨congrArg (fun z => some (Value.int (zI z))) (by omega), by unfold st_drop; rw [hN4, show M 4 - 1 = i by omega, hN]⟩)
  · have hc_9 := hc_9
    refine lv_aload_n hx hb dX4_dropRod_12 rfl (lv_at hl 0 rfl) ?_
    refine va_get (D := D) (ci := 3) (v := .ref (a 3)) (C := RX4) (T := TX4) (N := 6) hx hb hts hin_X4 hown hK hP 0 rfl rfl 3 (by decide) hf_1 (fun _ h9 => h9) rfl dX4_dropRod_13 ?_
    refine lv_iload_n hx hb dX4_dropRod_16 rfl (lv_at hl 2 rfl) ?_
    refine z_iconst hx hb dX4_dropRod_17 ?_
    refine z_isub hx hb dX4_dropRod_18 ?_
    refine lv_aload_n hx hb dX4_dropRod_19 rfl (lv_at hl 0 rfl) ?_
    refine va_get (D := D) (ci := 3) (v := .ref (a 3)) (C := RX4) (T := TX4) (N := 6) hx hb hts hin_X4 hown hK hP 0 rfl rfl 3 (by decide) hf_1 (fun _ h9 => h9) rfl dX4_dropRod_20 ?_
    refine lv_iload_n hx hb dX4_dropRod_23 rfl (lv_at hl 2 rfl) ?_
    refine z_iald (g := fun x => N (22 + 3 * x)) (v := N (22 + 3 * (i + 1))) hx hb hK hP 2 rfl (by decide) (by omega) rfl dX4_dropRod_24 ?_
    refine z_iast (g := fun x => N (22 + 3 * x)) (w2 := gridW ct a (up N (22 + 3 * ((i + 1) - 1)) (N (22 + 3 * (i + 1))))) hx hb hK hP hD hS 2 rfl (by decide) (by omega) dX4_dropRod_25 (set_grid_a2 ct a N ((i + 1) - 1) (N (22 + 3 * (i + 1))) (by omega)) (fun H locs hP hD hS => ?_)
    refine lv_aload_n hx hb dX4_dropRod_26 rfl (lv_at hl 0 rfl) ?_
    refine va_get (D := D) (ci := 3) (v := .ref (a 4)) (C := RX4) (T := TX4) (N := 6) hx hb hts hin_X4 hown hK hP 0 rfl rfl 4 (by decide) hf_2 (fun _ h9 => h9) rfl dX4_dropRod_27 ?_
    refine lv_iload_n hx hb dX4_dropRod_30 rfl (lv_at hl 2 rfl) ?_
    refine z_iconst hx hb dX4_dropRod_31 ?_
    refine z_isub hx hb dX4_dropRod_32 ?_
    refine lv_aload_n hx hb dX4_dropRod_33 rfl (lv_at hl 0 rfl) ?_
    refine va_get (D := D) (ci := 3) (v := .ref (a 4)) (C := RX4) (T := TX4) (N := 6) hx hb hts hin_X4 hown hK hP 0 rfl rfl 4 (by decide) hf_2 (fun _ h9 => h9) rfl dX4_dropRod_34 ?_
    refine lv_iload_n hx hb dX4_dropRod_37 rfl (lv_at hl 2 rfl) ?_
    refine z_iald (g := fun x => (up N (22 + 3 * ((i + 1) - 1)) (N (22 + 3 * (i + 1)))) (23 + 3 * x)) (v := (up N (22 + 3 * ((i + 1) - 1)) (N (22 + 3 * (i + 1)))) (23 + 3 * (i + 1))) hx hb hK hP 3 rfl (by decide) (by omega) rfl dX4_dropRod_38 ?_
    refine z_iast (g := fun x => (up N (22 + 3 * ((i + 1) - 1)) (N (22 + 3 * (i + 1)))) (23 + 3 * x)) (w2 := gridW ct a (up (up N (22 + 3 * ((i + 1) - 1)) (N (22 + 3 * (i + 1)))) (23 + 3 * ((i + 1) - 1)) ((up N (22 + 3 * ((i + 1) - 1)) (N (22 + 3 * (i + 1)))) (23 + 3 * (i + 1))))) hx hb hK hP hD hS 3 rfl (by decide) (by omega) dX4_dropRod_39 (set_grid_a3 ct a (up N (22 + 3 * ((i + 1) - 1)) (N (22 + 3 * (i + 1)))) ((i + 1) - 1) ((up N (22 + 3 * ((i + 1) - 1)) (N (22 + 3 * (i + 1)))) (23 + 3 * (i + 1))) (by omega)) (fun H locs hP hD hS => ?_)
    refine lv_aload_n hx hb dX4_dropRod_40 rfl (lv_at hl 0 rfl) ?_
    refine va_get (D := D) (ci := 3) (v := .ref (a 5)) (C := RX4) (T := TX4) (N := 6) hx hb hts hin_X4 hown hK hP 0 rfl rfl 5 (by decide) hf_3 (fun _ h9 => h9) rfl dX4_dropRod_41 ?_
    refine lv_iload_n hx hb dX4_dropRod_44 rfl (lv_at hl 2 rfl) ?_
    refine z_iconst hx hb dX4_dropRod_45 ?_
    refine z_isub hx hb dX4_dropRod_46 ?_
    refine lv_aload_n hx hb dX4_dropRod_47 rfl (lv_at hl 0 rfl) ?_
    refine va_get (D := D) (ci := 3) (v := .ref (a 5)) (C := RX4) (T := TX4) (N := 6) hx hb hts hin_X4 hown hK hP 0 rfl rfl 5 (by decide) hf_3 (fun _ h9 => h9) rfl dX4_dropRod_48 ?_
    refine lv_iload_n hx hb dX4_dropRod_51 rfl (lv_at hl 2 rfl) ?_
    refine z_iald (g := fun x => (up (up N (22 + 3 * ((i + 1) - 1)) (N (22 + 3 * (i + 1)))) (23 + 3 * ((i + 1) - 1)) ((up N (22 + 3 * ((i + 1) - 1)) (N (22 + 3 * (i + 1)))) (23 + 3 * (i + 1)))) (24 + 3 * x)) (v := (up (up N (22 + 3 * ((i + 1) - 1)) (N (22 + 3 * (i + 1)))) (23 + 3 * ((i + 1) - 1)) ((up N (22 + 3 * ((i + 1) - 1)) (N (22 + 3 * (i + 1)))) (23 + 3 * (i + 1)))) (24 + 3 * (i + 1))) hx hb hK hP 4 rfl (by decide) (by omega) rfl dX4_dropRod_52 ?_
    refine z_iast (g := fun x => (up (up N (22 + 3 * ((i + 1) - 1)) (N (22 + 3 * (i + 1)))) (23 + 3 * ((i + 1) - 1)) ((up N (22 + 3 * ((i + 1) - 1)) (N (22 + 3 * (i + 1)))) (23 + 3 * (i + 1)))) (24 + 3 * x)) (w2 := gridW ct a (up (up (up N (22 + 3 * ((i + 1) - 1)) (N (22 + 3 * (i + 1)))) (23 + 3 * ((i + 1) - 1)) ((up N (22 + 3 * ((i + 1) - 1)) (N (22 + 3 * (i + 1)))) (23 + 3 * (i + 1)))) (24 + 3 * ((i + 1) - 1)) ((up (up N (22 + 3 * ((i + 1) - 1)) (N (22 + 3 * (i + 1)))) (23 + 3 * ((i + 1) - 1)) ((up N (22 + 3 * ((i + 1) - 1)) (N (22 + 3 * (i + 1)))) (23 + 3 * (i + 1)))) (24 + 3 * (i + 1))))) hx hb hK hP hD hS 4 rfl (by decide) (by omega) dX4_dropRod_53 (set_grid_a4 ct a (up (up N (22 + 3 * ((i + 1) - 1)) (N (22 + 3 * (i + 1)))) (23 + 3 * ((i + 1) - 1)) ((up N (22 + 3 * ((i + 1) - 1)) (N (22 + 3 * (i + 1)))) (23 + 3 * (i + 1)))) ((i + 1) - 1) ((up (up N (22 + 3 * ((i + 1) - 1)) (N (22 + 3 * (i + 1)))) (23 + 3 * ((i + 1) - 1)) ((up N (22 + 3 * ((i + 1) - 1)) (N (22 + 3 * (i + 1)))) (23 + 3 * (i + 1)))) (24 + 3 * (i + 1))) (by omega)) (fun H locs hP hD hS => ?_)
    refine z_iinc (k := 2) (lv' := [(2, .int (zI ((i + 1) + 1))), (0, .ref (a 1)), (1, .int (zI r))]) hx hb dX4_dropRod_54 hl rfl (by decide) rfl (fun ls hl => ?_)
    refine lv_goto (tgt := 4) hx hb dX4_dropRod_57 (by decide) ?_
    exact ih_4 (i + 1, up (up (up N (22 + 3 * ((i + 1) - 1)) (N (22 + 3 * (i + 1)))) (23 + 3 * ((i + 1) - 1)) ((up N (22 + 3 * ((i + 1) - 1)) (N (22 + 3 * (i + 1)))) (23 + 3 * (i + 1)))) (24 + 3 * ((i + 1) - 1)) ((up (up N (22 + 3 * ((i + 1) - 1)) (N (22 + 3 * (i + 1)))) (23 + 3 * ((i + 1) - 1)) ((up N (22 + 3 * ((i + 1) - 1)) (N (22 + 3 * (i + 1)))) (23 + 3 * (i + 1)))) (24 + 3 * (i + 1)))) ⟨(show r ≤ (i + 1) ∧ (i + 1) + 1 ≤ M 4 from (by omega)), (show (up (up (up N (22 + 3 * ((i + 1) - 1)) (N (22 + 3 * (i + 1)))) (23 + 3 * ((i + 1) - 1)) ((up N (22 + 3 * ((i + 1) - 1)) (N (22 + 3 * (i + 1)))) (23 + 3 * (i + 1)))) (24 + 3 * ((i + 1) - 1)) ((up (up N (22 + 3 * ((i + 1) - 1)) (N (22 + 3 * (i + 1)))) (23 + 3 * ((i + 1) - 1)) ((up N (22 + 3 * ((i + 1) - 1)) (N (22 + 3 * (i + 1)))) (23 + 3 * (i + 1)))) (24 + 3 * (i + 1)))) = st_move M r (i + 1) from (by rw [show i + 1 - 1 = i by omega, hN]; exact st_moveS hi.1))⟩ (show (M 4 - (i + 1)).toNat < (M 4 - i).toNat from (by omega)) _ _ _ hP hD hS (lv_sub hl [1, 2, 0] rfl)
set_option maxHeartbeats 4000000 in
set_option maxRecDepth 100000 in
theorem c_X4_rodValue (l : Launch) (D : va_G) (ct ad : Nat → Nat) (a : Nat → Nat) (M : Int → Int) (r w t : Int) (hI : gInv M) (hr : 0 ≤ r ∧ r < M 4) (hw : 0 ≤ w ∧ w ≤ 4) (ht : -300 ≤ t ∧ t ≤ 600) : ZM l yX4_rodValue wsX4_rodValue ({ frames := 2, cells := 0, slots := 0, locals := 49 } : Room) D ct ad [.ref (a 1), .int (zI r), .int (zI w), .int (zI t)] (gridW ct a M) (zD (some (.int (zI (sp_rodv M r w t)))) (gridW ct a M)) := by
  refine ZM.of (cc := cX4_rodValue) (maxL := 4) (ret := (some .int)) (by decide +kernel) rfl (Nat.le_of_ble_eq_true rfl) ?_
  intro p e s m below meth c A ls hx hb hr hts hown hlocks hml hname hE hP hD hA hS hl
  have hK := hE.1
  have hf_0 := hts (.fieldLink RX4 19 "RodGrids$Grid" "rodMetals" "[I") (by decide +kernel)
  have hf_1 := hts (.fieldLink RX4 22 "RodGrids$Grid" "directions" "[I") (by decide +kernel)
  have hf_2 := hts (.fieldLink RX4 25 "RodGrids$Grid" "lengths" "[I") (by decide +kernel)
  have hin_X4 : ∀ z ∈ u_ws RX4 TX4 6, z ∈ wsX4_rodValue := by decide +kernel
  have hl : lv_has ls 4 [(0, .ref (a 1)), (1, .int (zI r)), (2, .int (zI w)), (3, .int (zI t))] := hl
  have i3 := hI.1
  have i4 := hI.2.1
  have q := hI.2.2.2.1 r (by omega) (by omega)
  have q3 := sp_strB hI (show 0 ≤ r ∧ r < 9 by omega) ht
  refine lv_iload_n hx hb dX4_rodValue_0 rfl (lv_at hl 2 rfl) ?_
  rcases (show w = 0 ∨ w = 1 ∨ w = 2 ∨ w = 3 ∨ (w < 0 ∨ 3 < w) from (by omega)) with hc_1 | hc_1 | hc_1 | hc_1 | hc_1
  · refine z_tabIn (off := 31) (tgt := 32) hx hb dX4_rodValue_1 0 hc_1 (by decide) (by decide) rfl (by decide) ?_
    refine lv_aload_n hx hb dX4_rodValue_32 rfl (lv_at hl 0 rfl) ?_
    refine va_get (D := D) (ci := 3) (v := .ref (a 3)) (C := RX4) (T := TX4) (N := 6) hx hb hts hin_X4 hown hK hP 0 rfl rfl 3 (by decide) hf_0 (fun _ h9 => h9) rfl dX4_rodValue_33 ?_
    refine lv_iload_n hx hb dX4_rodValue_36 rfl (lv_at hl 1 rfl) ?_
    refine z_iald (g := fun x => M (22 + 3 * x)) (v := M (22 + 3 * r)) hx hb hK hP 2 rfl (by decide) (by omega) rfl dX4_rodValue_37 ?_
    exact z_iret hx hb hr hlocks hP hD hS ⟨Nat.le_of_ble_eq_true rfl, Nat.le_of_ble_eq_true rfl⟩ dX4_rodValue_38 (⟨congrArg (fun z => some (Value.int (zI z))) (by unfold sp_rodv; first | rw [if_pos (by omega)] | rw [if_neg (by omega), if_pos (by omega)] | rw [if_neg (by omega), if_neg (by omega), if_pos (by omega)] | rw [if_neg (by omega), if_neg (by omega), if_neg (by omega), if_pos (by omega)] | rw [if_neg (by omega), if_neg (by omega), if_neg (by omega), if_neg (by omega)]), rfl⟩)
  · refine z_tabIn (off := 38) (tgt := 39) hx hb dX4_rodValue_1 1 hc_1 (by decide) (by decide) rfl (by decide) ?_
    refine lv_aload_n hx hb dX4_rodValue_39 rfl (lv_at hl 0 rfl) ?_
    refine va_get (D := D) (ci := 3) (v := .ref (a 4)) (C := RX4) (T := TX4) (N := 6) hx hb hts hin_X4 hown hK hP 0 rfl rfl 4 (by decide) hf_1 (fun _ h9 => h9) rfl dX4_rodValue_40 ?_
    refine lv_iload_n hx hb dX4_rodValue_43 rfl (lv_at hl 1 rfl) ?_
    refine z_iald (g := fun x => M (23 + 3 * x)) (v := M (23 + 3 * r)) hx hb hK hP 3 rfl (by decide) (by omega) rfl dX4_rodValue_44 ?_
    exact z_iret hx hb hr hlocks hP hD hS ⟨Nat.le_of_ble_eq_true rfl, Nat.le_of_ble_eq_true rfl⟩ dX4_rodValue_45 (⟨congrArg (fun z => some (Value.int (zI z))) (by unfold sp_rodv; first | rw [if_pos (by omega)] | rw [if_neg (by omega), if_pos (by omega)] | rw [if_neg (by omega), if_neg (by omega), if_pos (by omega)] | rw [if_neg (by omega), if_neg (by omega), if_neg (by omega), if_pos (by omega)] | rw [if_neg (by omega), if_neg (by omega), if_neg (by omega), if_neg (by omega)]), rfl⟩)
  · refine z_tabIn (off := 45) (tgt := 46) hx hb dX4_rodValue_1 2 hc_1 (by decide) (by decide) rfl (by decide) ?_
    refine lv_aload_n hx hb dX4_rodValue_46 rfl (lv_at hl 0 rfl) ?_
    refine va_get (D := D) (ci := 3) (v := .ref (a 5)) (C := RX4) (T := TX4) (N := 6) hx hb hts hin_X4 hown hK hP 0 rfl rfl 5 (by decide) hf_2 (fun _ h9 => h9) rfl dX4_rodValue_47 ?_
    refine lv_iload_n hx hb dX4_rodValue_50 rfl (lv_at hl 1 rfl) ?_
    refine z_iald (g := fun x => M (24 + 3 * x)) (v := M (24 + 3 * r)) hx hb hK hP 4 rfl (by decide) (by omega) rfl dX4_rodValue_51 ?_
    exact z_iret hx hb hr hlocks hP hD hS ⟨Nat.le_of_ble_eq_true rfl, Nat.le_of_ble_eq_true rfl⟩ dX4_rodValue_52 (⟨congrArg (fun z => some (Value.int (zI z))) (by unfold sp_rodv; first | rw [if_pos (by omega)] | rw [if_neg (by omega), if_pos (by omega)] | rw [if_neg (by omega), if_neg (by omega), if_pos (by omega)] | rw [if_neg (by omega), if_neg (by omega), if_neg (by omega), if_pos (by omega)] | rw [if_neg (by omega), if_neg (by omega), if_neg (by omega), if_neg (by omega)]), rfl⟩)
  · refine z_tabIn (off := 52) (tgt := 53) hx hb dX4_rodValue_1 3 hc_1 (by decide) (by decide) rfl (by decide) ?_
    refine lv_aload_n hx hb dX4_rodValue_53 rfl (lv_at hl 0 rfl) ?_
    refine lv_iload_n hx hb dX4_rodValue_54 rfl (lv_at hl 1 rfl) ?_
    refine lv_iload_n hx hb dX4_rodValue_55 rfl (lv_at hl 3 rfl) ?_
    refine z_callV (C := RX4) (q0 := 0) (ci := 3) (As := [.int (zI r), .int (zI t)]) (rest := []) ([] : va_W) ([] : va_W) hx hb hml hown hts hl hE hS hA (zr0 ([] : va_W) hP) (zr0D ([] : va_W) hD) (c_X4_stretching l D ct ad a M r t (by assumption) (by omega) (by omega)) gX4_rodValue_X4_stretching rfl rfl k_X4_stretching ⟨Nat.le_of_ble_eq_true rfl, Nat.le_of_ble_eq_true rfl⟩ rfl rfl rfl rfl (Nat.le_of_ble_eq_true rfl) ⟨Nat.le_of_ble_eq_true rfl, Nat.le_of_ble_eq_true rfl⟩ dX4_rodValue_56 rfl (fun v w1 H locs hpost hP hD hS => ?_)
    obtain ⟨rfl, rfl⟩ := hpost
    have hP := zr0' hP
    have hD := zr0D' hD
    have hP : va_P D vwCl (gridW ct a M) H := hP
    have hD : va_D A (gridW ct a M) := hD
    refine W.eq (g2 := F0 m 59 ls [.long (zJ (sp_str M r t))]) rfl ?_
    refine z_l2i hx hb dX4_rodValue_59 ?_
    exact z_iret hx hb hr hlocks hP hD hS ⟨Nat.le_of_ble_eq_true rfl, Nat.le_of_ble_eq_true rfl⟩ dX4_rodValue_60 (⟨congrArg (fun z => some (Value.int (zI z))) (by unfold sp_rodv; first | rw [if_pos (by omega)] | rw [if_neg (by omega), if_pos (by omega)] | rw [if_neg (by omega), if_neg (by omega), if_pos (by omega)] | rw [if_neg (by omega), if_neg (by omega), if_neg (by omega), if_pos (by omega)] | rw [if_neg (by omega), if_neg (by omega), if_neg (by omega), if_neg (by omega)]), rfl⟩)
  · refine z_tabOut (tgt := 61) hx hb dX4_rodValue_1 (by omega) (by omega) (by decide) ?_
    refine lv_aload_n hx hb dX4_rodValue_61 rfl (lv_at hl 0 rfl) ?_
    refine va_get (D := D) (ci := 3) (v := .ref (a 5)) (C := RX4) (T := TX4) (N := 6) hx hb hts hin_X4 hown hK hP 0 rfl rfl 5 (by decide) hf_2 (fun _ h9 => h9) rfl dX4_rodValue_62 ?_
    refine lv_iload_n hx hb dX4_rodValue_65 rfl (lv_at hl 1 rfl) ?_
    refine z_iald (g := fun x => M (24 + 3 * x)) (v := M (24 + 3 * r)) hx hb hK hP 4 rfl (by decide) (by omega) rfl dX4_rodValue_66 ?_
    refine z_i2l hx hb dX4_rodValue_67 (by omega) ?_
    refine lv_aload_n hx hb dX4_rodValue_68 rfl (lv_at hl 0 rfl) ?_
    refine lv_iload_n hx hb dX4_rodValue_69 rfl (lv_at hl 1 rfl) ?_
    refine lv_iload_n hx hb dX4_rodValue_70 rfl (lv_at hl 3 rfl) ?_
    refine z_callV (C := RX4) (q0 := 0) (ci := 3) (As := [.int (zI r), .int (zI t)]) (rest := [.long (zJ (M (24 + 3 * r)))]) ([] : va_W) ([] : va_W) hx hb hml hown hts hl hE hS hA (zr0 ([] : va_W) hP) (zr0D ([] : va_W) hD) (c_X4_stretching l D ct ad a M r t (by assumption) (by omega) (by omega)) gX4_rodValue_X4_stretching rfl rfl k_X4_stretching ⟨Nat.le_of_ble_eq_true rfl, Nat.le_of_ble_eq_true rfl⟩ rfl rfl rfl rfl (Nat.le_of_ble_eq_true rfl) ⟨Nat.le_of_ble_eq_true rfl, Nat.le_of_ble_eq_true rfl⟩ dX4_rodValue_71 rfl (fun v w1 H locs hpost hP hD hS => ?_)
    obtain ⟨rfl, rfl⟩ := hpost
    have hP := zr0' hP
    have hD := zr0D' hD
    have hP : va_P D vwCl (gridW ct a M) H := hP
    have hD : va_D A (gridW ct a M) := hD
    refine W.eq (g2 := F0 m 74 ls [.long (zJ (sp_str M r t)), .long (zJ (M (24 + 3 * r)))]) rfl ?_
    refine z_ladd hx hb dX4_rodValue_74 ?_
    refine z_l2i hx hb dX4_rodValue_75 ?_
    exact z_iret hx hb hr hlocks hP hD hS ⟨Nat.le_of_ble_eq_true rfl, Nat.le_of_ble_eq_true rfl⟩ dX4_rodValue_76 (⟨congrArg (fun z => some (Value.int (zI z))) (by unfold sp_rodv; first | rw [if_pos (by omega)] | rw [if_neg (by omega), if_pos (by omega)] | rw [if_neg (by omega), if_neg (by omega), if_pos (by omega)] | rw [if_neg (by omega), if_neg (by omega), if_neg (by omega), if_pos (by omega)] | rw [if_neg (by omega), if_neg (by omega), if_neg (by omega), if_neg (by omega)]), rfl⟩)
set_option maxHeartbeats 4000000 in
set_option maxRecDepth 100000 in
theorem c_X4_copyFrom (l : Launch) (D : va_G) (ct ad : Nat → Nat) (a b : Nat → Nat) (M N : Int → Int)  : ZM l yX4_copyFrom wsX4_copyFrom ({ frames := 1, cells := 0, slots := 0, locals := 18 } : Room) D ct ad [.ref (a 1), .ref (b 1)] (gridW ct a M ++ (gridW ct b N)) (zD none (gridW ct a N ++ (gridW ct b N))) := by
  refine ZM.of (cc := cX4_copyFrom) (maxL := 2) (ret := none) (by decide +kernel) rfl (Nat.le_of_ble_eq_true rfl) ?_
  intro p e s m below meth c A ls hx hb hr hts hown hlocks hml hname hE hP hD hA hS hl
  have hK := hE.1
  have hf_0 := hts (.fieldLink RX4 9 "RodGrids$Grid" "metals" "I") (by decide +kernel)
  have hf_1 := hts (.fieldLink RX4 15 "RodGrids$Grid" "stretches" "[I") (by decide +kernel)
  have hf_2 := hts (.methodLink RX4 28 arraycopyName) (by decide +kernel)
  have hf_3 := hts (.native arraycopyName) (by decide +kernel)
  have hf_4 := hts (.static arraycopyName) (by decide +kernel)
  have hf_5 := hts (.initialized "java/lang/System") (by decide +kernel)
  have hf_6 := hts (.fieldLink RX4 34 "RodGrids$Grid" "rods" "I") (by decide +kernel)
  have hf_7 := hts (.fieldLink RX4 19 "RodGrids$Grid" "rodMetals" "[I") (by decide +kernel)
  have hf_8 := hts (.fieldLink RX4 22 "RodGrids$Grid" "directions" "[I") (by decide +kernel)
  have hf_9 := hts (.fieldLink RX4 25 "RodGrids$Grid" "lengths" "[I") (by decide +kernel)
  have hin_X4 : ∀ z ∈ u_ws RX4 TX4 6, z ∈ wsX4_copyFrom := by decide +kernel
  have hl : lv_has ls 2 [(0, .ref (a 1)), (1, .ref (b 1))] := hl
  have hP : va_P D vwCl (([(a 1, .inr (3, [.int (zI (M 3)), .ref (a 2), .int (zI (M 4)), .ref (a 3), .ref (a 4), .ref (a 5)])), aI ct (a 2) 6 (fun x => M (16 + x)), aI ct (a 3) 9 (fun x => M (22 + 3 * x)), aI ct (a 4) 9 (fun x => M (23 + 3 * x)), aI ct (a 5) 9 (fun x => M (24 + 3 * x))] : va_W) ++ (gridW ct b N)) s.heap := hP
  have hD : va_D A (([(a 1, .inr (3, [.int (zI (M 3)), .ref (a 2), .int (zI (M 4)), .ref (a 3), .ref (a 4), .ref (a 5)])), aI ct (a 2) 6 (fun x => M (16 + x)), aI ct (a 3) 9 (fun x => M (22 + 3 * x)), aI ct (a 4) 9 (fun x => M (23 + 3 * x)), aI ct (a 5) 9 (fun x => M (24 + 3 * x))] : va_W) ++ (gridW ct b N)) := hD
  refine lv_aload_n hx hb dX4_copyFrom_0 rfl (lv_at hl 0 rfl) ?_
  refine lv_aload_n hx hb dX4_copyFrom_1 rfl (lv_at hl 1 rfl) ?_
  refine va_get (D := D) (ci := 3) (v := .int (zI (N 3))) (C := RX4) (T := TX4) (N := 6) hx hb hts hin_X4 hown hK hP 5 rfl rfl 0 (by decide) hf_0 (fun _ h9 => h9) rfl dX4_copyFrom_2 ?_
  refine z_put (ct := ct) (ad := ad) (ci := 3) (v := .int (zI (N 3))) (ty := tyX4 0) (C := RX4) (T := TX4) (N := 6) (w2 := ([(a 1, .inr (3, [.int (zI (N 3)), .ref (a 2), .int (zI (M 4)), .ref (a 3), .ref (a 4), .ref (a 5)])), aI ct (a 2) 6 (fun x => M (16 + x)), aI ct (a 3) 9 (fun x => M (22 + 3 * x)), aI ct (a 4) 9 (fun x => M (23 + 3 * x)), aI ct (a 5) 9 (fun x => M (24 + 3 * x))] : va_W) ++ (gridW ct b N)) hx hb hts hin_X4 tyX4 tyX4_ok nmX4 hown hE hP hD hS 0 rfl rfl 0 (by decide) hf_0 (fun _ h9 => h9) rfl (by decide +kernel) rfl rfl (Nat.le_of_ble_eq_true rfl) dX4_copyFrom_5 (rfl) (fun H locs hP hD hS => ?_)
  refine lv_aload_n hx hb dX4_copyFrom_8 rfl (lv_at hl 1 rfl) ?_
  refine va_get (D := D) (ci := 3) (v := .ref (b 2)) (C := RX4) (T := TX4) (N := 6) hx hb hts hin_X4 hown hK hP 5 rfl rfl 1 (by decide) hf_1 (fun _ h9 => h9) rfl dX4_copyFrom_9 ?_
  refine z_iconst hx hb dX4_copyFrom_12 ?_
  refine lv_aload_n hx hb dX4_copyFrom_13 rfl (lv_at hl 0 rfl) ?_
  refine va_get (D := D) (ci := 3) (v := .ref (a 2)) (C := RX4) (T := TX4) (N := 6) hx hb hts hin_X4 hown hK hP 0 rfl rfl 1 (by decide) hf_1 (fun _ h9 => h9) rfl dX4_copyFrom_14 ?_
  refine z_iconst hx hb dX4_copyFrom_17 ?_
  refine z_bipush hx hb dX4_copyFrom_18 (by decide) ?_
  refine z_cpyI (f := fun x => N (16 + x)) (g := fun x => M (16 + x)) (w2 := ([(a 1, .inr (3, [.int (zI (N 3)), .ref (a 2), .int (zI (M 4)), .ref (a 3), .ref (a 4), .ref (a 5)])), aI ct (a 2) 6 (fun x => N (16 + x)), aI ct (a 3) 9 (fun x => M (22 + 3 * x)), aI ct (a 4) 9 (fun x => M (23 + 3 * x)), aI ct (a 5) 9 (fun x => M (24 + 3 * x))] : va_W) ++ (gridW ct b N)) hx hb hml hl hown hf_2 hf_3 hf_4 hf_5 hK hP hD hS 6 1 rfl rfl rfl (by decide) (Nat.le_of_ble_eq_true rfl) (Nat.le_of_ble_eq_true rfl) dX4_copyFrom_20 (rfl) (fun H locs hP hD hS => ?_)
  refine lv_aload_n hx hb dX4_copyFrom_23 rfl (lv_at hl 0 rfl) ?_
  refine lv_aload_n hx hb dX4_copyFrom_24 rfl (lv_at hl 1 rfl) ?_
  refine va_get (D := D) (ci := 3) (v := .int (zI (N 4))) (C := RX4) (T := TX4) (N := 6) hx hb hts hin_X4 hown hK hP 5 rfl rfl 2 (by decide) hf_6 (fun _ h9 => h9) rfl dX4_copyFrom_25 ?_
  refine z_put (ct := ct) (ad := ad) (ci := 3) (v := .int (zI (N 4))) (ty := tyX4 2) (C := RX4) (T := TX4) (N := 6) (w2 := ([(a 1, .inr (3, [.int (zI (N 3)), .ref (a 2), .int (zI (N 4)), .ref (a 3), .ref (a 4), .ref (a 5)])), aI ct (a 2) 6 (fun x => N (16 + x)), aI ct (a 3) 9 (fun x => M (22 + 3 * x)), aI ct (a 4) 9 (fun x => M (23 + 3 * x)), aI ct (a 5) 9 (fun x => M (24 + 3 * x))] : va_W) ++ (gridW ct b N)) hx hb hts hin_X4 tyX4 tyX4_ok nmX4 hown hE hP hD hS 0 rfl rfl 2 (by decide) hf_6 (fun _ h9 => h9) rfl (by decide +kernel) rfl rfl (Nat.le_of_ble_eq_true rfl) dX4_copyFrom_28 (rfl) (fun H locs hP hD hS => ?_)
  refine lv_aload_n hx hb dX4_copyFrom_31 rfl (lv_at hl 1 rfl) ?_
  refine va_get (D := D) (ci := 3) (v := .ref (b 3)) (C := RX4) (T := TX4) (N := 6) hx hb hts hin_X4 hown hK hP 5 rfl rfl 3 (by decide) hf_7 (fun _ h9 => h9) rfl dX4_copyFrom_32 ?_
  refine z_iconst hx hb dX4_copyFrom_35 ?_
  refine lv_aload_n hx hb dX4_copyFrom_36 rfl (lv_at hl 0 rfl) ?_
  refine va_get (D := D) (ci := 3) (v := .ref (a 3)) (C := RX4) (T := TX4) (N := 6) hx hb hts hin_X4 hown hK hP 0 rfl rfl 3 (by decide) hf_7 (fun _ h9 => h9) rfl dX4_copyFrom_37 ?_
  refine z_iconst hx hb dX4_copyFrom_40 ?_
  refine z_bipush hx hb dX4_copyFrom_41 (by decide) ?_
  refine z_cpyI (f := fun x => N (22 + 3 * x)) (g := fun x => M (22 + 3 * x)) (w2 := ([(a 1, .inr (3, [.int (zI (N 3)), .ref (a 2), .int (zI (N 4)), .ref (a 3), .ref (a 4), .ref (a 5)])), aI ct (a 2) 6 (fun x => N (16 + x)), aI ct (a 3) 9 (fun x => N (22 + 3 * x)), aI ct (a 4) 9 (fun x => M (23 + 3 * x)), aI ct (a 5) 9 (fun x => M (24 + 3 * x))] : va_W) ++ (gridW ct b N)) hx hb hml hl hown hf_2 hf_3 hf_4 hf_5 hK hP hD hS 7 2 rfl rfl rfl (by decide) (Nat.le_of_ble_eq_true rfl) (Nat.le_of_ble_eq_true rfl) dX4_copyFrom_43 (rfl) (fun H locs hP hD hS => ?_)
  refine lv_aload_n hx hb dX4_copyFrom_46 rfl (lv_at hl 1 rfl) ?_
  refine va_get (D := D) (ci := 3) (v := .ref (b 4)) (C := RX4) (T := TX4) (N := 6) hx hb hts hin_X4 hown hK hP 5 rfl rfl 4 (by decide) hf_8 (fun _ h9 => h9) rfl dX4_copyFrom_47 ?_
  refine z_iconst hx hb dX4_copyFrom_50 ?_
  refine lv_aload_n hx hb dX4_copyFrom_51 rfl (lv_at hl 0 rfl) ?_
  refine va_get (D := D) (ci := 3) (v := .ref (a 4)) (C := RX4) (T := TX4) (N := 6) hx hb hts hin_X4 hown hK hP 0 rfl rfl 4 (by decide) hf_8 (fun _ h9 => h9) rfl dX4_copyFrom_52 ?_
  refine z_iconst hx hb dX4_copyFrom_55 ?_
  refine z_bipush hx hb dX4_copyFrom_56 (by decide) ?_
  refine z_cpyI (f := fun x => N (23 + 3 * x)) (g := fun x => M (23 + 3 * x)) (w2 := ([(a 1, .inr (3, [.int (zI (N 3)), .ref (a 2), .int (zI (N 4)), .ref (a 3), .ref (a 4), .ref (a 5)])), aI ct (a 2) 6 (fun x => N (16 + x)), aI ct (a 3) 9 (fun x => N (22 + 3 * x)), aI ct (a 4) 9 (fun x => N (23 + 3 * x)), aI ct (a 5) 9 (fun x => M (24 + 3 * x))] : va_W) ++ (gridW ct b N)) hx hb hml hl hown hf_2 hf_3 hf_4 hf_5 hK hP hD hS 8 3 rfl rfl rfl (by decide) (Nat.le_of_ble_eq_true rfl) (Nat.le_of_ble_eq_true rfl) dX4_copyFrom_58 (rfl) (fun H locs hP hD hS => ?_)
  refine lv_aload_n hx hb dX4_copyFrom_61 rfl (lv_at hl 1 rfl) ?_
  refine va_get (D := D) (ci := 3) (v := .ref (b 5)) (C := RX4) (T := TX4) (N := 6) hx hb hts hin_X4 hown hK hP 5 rfl rfl 5 (by decide) hf_9 (fun _ h9 => h9) rfl dX4_copyFrom_62 ?_
  refine z_iconst hx hb dX4_copyFrom_65 ?_
  refine lv_aload_n hx hb dX4_copyFrom_66 rfl (lv_at hl 0 rfl) ?_
  refine va_get (D := D) (ci := 3) (v := .ref (a 5)) (C := RX4) (T := TX4) (N := 6) hx hb hts hin_X4 hown hK hP 0 rfl rfl 5 (by decide) hf_9 (fun _ h9 => h9) rfl dX4_copyFrom_67 ?_
  refine z_iconst hx hb dX4_copyFrom_70 ?_
  refine z_bipush hx hb dX4_copyFrom_71 (by decide) ?_
  refine z_cpyI (f := fun x => N (24 + 3 * x)) (g := fun x => M (24 + 3 * x)) (w2 := ([(a 1, .inr (3, [.int (zI (N 3)), .ref (a 2), .int (zI (N 4)), .ref (a 3), .ref (a 4), .ref (a 5)])), aI ct (a 2) 6 (fun x => N (16 + x)), aI ct (a 3) 9 (fun x => N (22 + 3 * x)), aI ct (a 4) 9 (fun x => N (23 + 3 * x)), aI ct (a 5) 9 (fun x => N (24 + 3 * x))] : va_W) ++ (gridW ct b N)) hx hb hml hl hown hf_2 hf_3 hf_4 hf_5 hK hP hD hS 9 4 rfl rfl rfl (by decide) (Nat.le_of_ble_eq_true rfl) (Nat.le_of_ble_eq_true rfl) dX4_copyFrom_73 (rfl) (fun H locs hP hD hS => ?_)
  exact z_vret hx hb hr hlocks hP hD hS ⟨Nat.le_of_ble_eq_true rfl, Nat.le_of_ble_eq_true rfl⟩ dX4_copyFrom_76 (⟨rfl, rfl⟩)
