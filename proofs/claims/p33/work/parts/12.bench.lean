set_option maxHeartbeats 4000000 in
set_option maxRecDepth 100000 in
theorem c_X1_checkShelf (l : Launch) (D : va_G) (ct ad : Nat → Nat) (a : Nat → Nat) (M : Int → Int) (k : Int) (h1 : -2147483648 ≤ k ∧ k ≤ 2147483647) : ZM l yX1_checkShelf wsX1_checkShelf ({ frames := 1, cells := 0, slots := 0, locals := 22 } : Room) D ct ad [.ref (a 6), .int (zI k)] (benchW ct a M) (zD (some (.int (zI (ck_shelf k)))) (benchW ct a M)) := by
  refine ZM.of (cc := cX1_checkShelf) (maxL := 2) (ret := (some .int)) (by decide +kernel) rfl (Nat.le_of_ble_eq_true rfl) ?_
  intro p e s m below meth c A ls hx hb hr hts hown hlocks hml hname hE hP hD hA hS hl
  have hK := hE.1
  have hl : lv_has ls 2 [(0, .ref (a 6)), (1, .int (zI k))] := hl
  refine lv_iload_n hx hb dX1_checkShelf_0 rfl (lv_at hl 1 rfl) ?_
  refine z_iconst hx hb dX1_checkShelf_1 ?_
  refine z_iconst hx hb dX1_checkShelf_2 ?_
  refine z_callSN (host := RX8) (As := [.int (zI k), .int (zI 0), .int (zI 4)]) (rest := []) ([] : va_W) (benchW ct a M) hx hb hml hown hts hl hE hS hA hP hD (c_X8_within l D ct ad k 0 4 (by omega) (by omega) (by omega)) ggX1_checkShelf_X8_within rfl k_X8_within ⟨Nat.le_of_ble_eq_true rfl, Nat.le_of_ble_eq_true rfl⟩ (hE.2.1.1 _ (List.mem_of_getElem? (i := 5) rfl)) (hts (.initialized RX8) (by decide +kernel)) (hts (.static yX8_within) (by decide +kernel)) rfl (Nat.le_of_ble_eq_true rfl) ⟨Nat.le_of_ble_eq_true rfl, Nat.le_of_ble_eq_true rfl⟩ dX1_checkShelf_3 rfl (fun v w1 H locs hpost hP hD hS => ?_)
  obtain ⟨rfl, rfl⟩ := hpost
  have hP : va_P D vwCl (benchW ct a M) H := hP
  have hD : va_D A (benchW ct a M) := hD
  refine W.eq (g2 := F0 m 6 ls [.int (zI (zB (0 ≤ k ∧ k ≤ 4)))]) rfl ?_
  refine zb_if_eq (tgt := 13) hx hb dX1_checkShelf_6 (by decide) (fun hc_6 => ?_) (fun hc_6 => ?_)
  · have hc_6 := hc_6
    refine z_iconst hx hb dX1_checkShelf_13 ?_
    exact z_iret hx hb hr hlocks hP hD hS ⟨Nat.le_of_ble_eq_true rfl, Nat.le_of_ble_eq_true rfl⟩ dX1_checkShelf_14 (⟨congrArg (fun z => some (Value.int (zI z))) (by unfold ck_shelf; (repeat' split) <;> omega), rfl⟩)
  · have hc_6 := hc_6
    refine z_iconst hx hb dX1_checkShelf_9 ?_
    refine lv_goto (tgt := 14) hx hb dX1_checkShelf_10 (by decide) ?_
    exact z_iret hx hb hr hlocks hP hD hS ⟨Nat.le_of_ble_eq_true rfl, Nat.le_of_ble_eq_true rfl⟩ dX1_checkShelf_14 (⟨congrArg (fun z => some (Value.int (zI z))) (by unfold ck_shelf; (repeat' split) <;> omega), rfl⟩)
theorem k_X8_isWarmth : yX8_isWarmth.cls ≠ "java/lang/invoke/MethodHandle" ∧ yX8_isWarmth.cls ≠ "java/lang/invoke/VarHandle" ∧ (parseMethodDescriptor yX8_isWarmth.desc).map (fun d => d.parameters.length) = some 1 := by decide +kernel
set_option maxHeartbeats 4000000 in
set_option maxRecDepth 100000 in
theorem c_X1_checkShelfWarmth (l : Launch) (D : va_G) (ct ad : Nat → Nat) (a : Nat → Nat) (M : Int → Int) (k v : Int) (h1 : -2147483648 ≤ k ∧ k ≤ 2147483647) (h2 : -2147483648 ≤ v ∧ v ≤ 2147483647) : ZM l yX1_checkShelfWarmth wsX1_checkShelfWarmth ({ frames := 2, cells := 0, slots := 0, locals := 42 } : Room) D ct ad [.ref (a 6), .int (zI k), .int (zI v)] (benchW ct a M) (zD (some (.int (zI (ck_warm k v)))) (benchW ct a M)) := by
  refine ZM.of (cc := cX1_checkShelfWarmth) (maxL := 3) (ret := (some .int)) (by decide +kernel) rfl (Nat.le_of_ble_eq_true rfl) ?_
  intro p e s m below meth c A ls hx hb hr hts hown hlocks hml hname hE hP hD hA hS hl
  have hK := hE.1
  have hl : lv_has ls 3 [(0, .ref (a 6)), (1, .int (zI k)), (2, .int (zI v))] := hl
  refine lv_iload_n hx hb dX1_checkShelfWarmth_0 rfl (lv_at hl 1 rfl) ?_
  refine z_iconst hx hb dX1_checkShelfWarmth_1 ?_
  refine z_iconst hx hb dX1_checkShelfWarmth_2 ?_
  refine z_callSN (host := RX8) (As := [.int (zI k), .int (zI 0), .int (zI 4)]) (rest := []) ([] : va_W) (benchW ct a M) hx hb hml hown hts hl hE hS hA hP hD (c_X8_within l D ct ad k 0 4 (by omega) (by omega) (by omega)) ggX1_checkShelfWarmth_X8_within rfl k_X8_within ⟨Nat.le_of_ble_eq_true rfl, Nat.le_of_ble_eq_true rfl⟩ (hE.2.1.1 _ (List.mem_of_getElem? (i := 5) rfl)) (hts (.initialized RX8) (by decide +kernel)) (hts (.static yX8_within) (by decide +kernel)) rfl (Nat.le_of_ble_eq_true rfl) ⟨Nat.le_of_ble_eq_true rfl, Nat.le_of_ble_eq_true rfl⟩ dX1_checkShelfWarmth_3 rfl (fun v w1 H locs hpost hP hD hS => ?_)
  obtain ⟨rfl, rfl⟩ := hpost
  have hP : va_P D vwCl (benchW ct a M) H := hP
  have hD : va_D A (benchW ct a M) := hD
  refine W.eq (g2 := F0 m 6 ls [.int (zI (zB (0 ≤ k ∧ k ≤ 4)))]) rfl ?_
  refine zb_if_ne (tgt := 11) hx hb dX1_checkShelfWarmth_6 (by decide) (fun hc_6 => ?_) (fun hc_6 => ?_)
  · have hc_6 := hc_6
    refine lv_iload_n hx hb dX1_checkShelfWarmth_11 rfl (lv_at hl 2 rfl) ?_
    refine z_callSN (host := RX8) (As := [.int (zI v)]) (rest := []) ([] : va_W) (benchW ct a M) hx hb hml hown hts hl hE hS hA hP hD (c_X8_isWarmth l D ct ad v (by omega)) ggX1_checkShelfWarmth_X8_isWarmth rfl k_X8_isWarmth ⟨Nat.le_of_ble_eq_true rfl, Nat.le_of_ble_eq_true rfl⟩ (hE.2.1.1 _ (List.mem_of_getElem? (i := 6) rfl)) (hts (.initialized RX8) (by decide +kernel)) (hts (.static yX8_isWarmth) (by decide +kernel)) rfl (Nat.le_of_ble_eq_true rfl) ⟨Nat.le_of_ble_eq_true rfl, Nat.le_of_ble_eq_true rfl⟩ dX1_checkShelfWarmth_12 rfl (fun v w1 H locs hpost hP hD hS => ?_)
    obtain ⟨rfl, rfl⟩ := hpost
    have hP : va_P D vwCl (benchW ct a M) H := hP
    have hD : va_D A (benchW ct a M) := hD
    refine W.eq (g2 := F0 m 15 ls [.int (zI (zB (-300 ≤ v ∧ v ≤ 600)))]) rfl ?_
    refine zb_if_eq (tgt := 22) hx hb dX1_checkShelfWarmth_15 (by decide) (fun hc_15 => ?_) (fun hc_15 => ?_)
    · have hc_15 := hc_15
      refine z_iconst hx hb dX1_checkShelfWarmth_22 ?_
      exact z_iret hx hb hr hlocks hP hD hS ⟨Nat.le_of_ble_eq_true rfl, Nat.le_of_ble_eq_true rfl⟩ dX1_checkShelfWarmth_23 (⟨congrArg (fun z => some (Value.int (zI z))) (by unfold ck_warm; (repeat' split) <;> omega), rfl⟩)
    · have hc_15 := hc_15
      refine z_iconst hx hb dX1_checkShelfWarmth_18 ?_
      refine lv_goto (tgt := 23) hx hb dX1_checkShelfWarmth_19 (by decide) ?_
      exact z_iret hx hb hr hlocks hP hD hS ⟨Nat.le_of_ble_eq_true rfl, Nat.le_of_ble_eq_true rfl⟩ dX1_checkShelfWarmth_23 (⟨congrArg (fun z => some (Value.int (zI z))) (by unfold ck_warm; (repeat' split) <;> omega), rfl⟩)
  · have hc_6 := hc_6
    refine z_iconst hx hb dX1_checkShelfWarmth_9 ?_
    exact z_iret hx hb hr hlocks hP hD hS ⟨Nat.le_of_ble_eq_true rfl, Nat.le_of_ble_eq_true rfl⟩ dX1_checkShelfWarmth_10 (⟨congrArg (fun z => some (Value.int (zI z))) (by unfold ck_warm; (repeat' split) <;> omega), rfl⟩)
set_option maxHeartbeats 4000000 in
set_option maxRecDepth 100000 in
theorem c_X1_checkTurn (l : Launch) (D : va_G) (ct ad : Nat → Nat) (a : Nat → Nat) (M : Int → Int) (v : Int) (hB : bInv M) (h1 : -2147483648 ≤ v ∧ v ≤ 2147483647) : ZM l yX1_checkTurn wsX1_checkTurn ({ frames := 1, cells := 0, slots := 0, locals := 22 } : Room) D ct ad [.ref (a 6), .int (zI v)] (benchW ct a M) (zD (some (.int (zI (ck_turn M v)))) (benchW ct a M)) := by
  refine ZM.of (cc := cX1_checkTurn) (maxL := 2) (ret := (some .int)) (by decide +kernel) rfl (Nat.le_of_ble_eq_true rfl) ?_
  intro p e s m below meth c A ls hx hb hr hts hown hlocks hml hname hE hP hD hA hS hl
  have hK := hE.1
  have hf_0 := hts (.fieldLink RX1 35 "RodGrids$Bench" "nut" "I") (by decide +kernel)
  have hin_X1 : ∀ z ∈ u_ws RX1 TX1 12, z ∈ wsX1_checkTurn := by decide +kernel
  have hl : lv_has ls 2 [(0, .ref (a 6)), (1, .int (zI v))] := hl
  have j0 := hB.1
  have j1 := hB.2.1
  have j2 := hB.2.2.1
  have j4 := hB.2.2.2.2
  refine lv_iload_n hx hb dX1_checkTurn_0 rfl (lv_at hl 1 rfl) ?_
  refine z_sipush hx hb dX1_checkTurn_1 (by decide) ?_
  refine z_sipush hx hb dX1_checkTurn_4 (by decide) ?_
  refine z_callSN (host := RX8) (As := [.int (zI v), .int (zI (-1000)), .int (zI 1000)]) (rest := []) ([] : va_W) (benchW ct a M) hx hb hml hown hts hl hE hS hA hP hD (c_X8_within l D ct ad v (-1000) 1000 (by omega) (by omega) (by omega)) ggX1_checkTurn_X8_within rfl k_X8_within ⟨Nat.le_of_ble_eq_true rfl, Nat.le_of_ble_eq_true rfl⟩ (hE.2.1.1 _ (List.mem_of_getElem? (i := 5) rfl)) (hts (.initialized RX8) (by decide +kernel)) (hts (.static yX8_within) (by decide +kernel)) rfl (Nat.le_of_ble_eq_true rfl) ⟨Nat.le_of_ble_eq_true rfl, Nat.le_of_ble_eq_true rfl⟩ dX1_checkTurn_7 rfl (fun v w1 H locs hpost hP hD hS => ?_)
  obtain ⟨rfl, rfl⟩ := hpost
  have hP : va_P D vwCl (benchW ct a M) H := hP
  have hD : va_D A (benchW ct a M) := hD
  refine W.eq (g2 := F0 m 10 ls [.int (zI (zB ((-1000) ≤ v ∧ v ≤ 1000)))]) rfl ?_
  refine zb_if_ne (tgt := 15) hx hb dX1_checkTurn_10 (by decide) (fun hc_10 => ?_) (fun hc_10 => ?_)
  · have hc_10 := hc_10
    refine lv_aload_n hx hb dX1_checkTurn_15 rfl (lv_at hl 0 rfl) ?_
    refine va_get (D := D) (ci := 0) (v := .int (zI (M 7))) (C := RX1) (T := TX1) (N := 12) hx hb hts hin_X1 hown hK hP 0 rfl rfl 4 (by decide) hf_0 (fun _ h9 => h9) rfl dX1_checkTurn_16 ?_
    refine lv_iload_n hx hb dX1_checkTurn_19 rfl (lv_at hl 1 rfl) ?_
    refine z_iadd hx hb dX1_checkTurn_20 ?_
    refine z_sipush hx hb dX1_checkTurn_21 (by decide) ?_
    refine z_sipush hx hb dX1_checkTurn_24 (by decide) ?_
    refine z_callSN (host := RX8) (As := [.int (zI ((M 7) + v)), .int (zI (-500)), .int (zI 500)]) (rest := []) ([] : va_W) (benchW ct a M) hx hb hml hown hts hl hE hS hA hP hD (c_X8_within l D ct ad ((M 7) + v) (-500) 500 (by omega) (by omega) (by omega)) ggX1_checkTurn_X8_within rfl k_X8_within ⟨Nat.le_of_ble_eq_true rfl, Nat.le_of_ble_eq_true rfl⟩ (hE.2.1.1 _ (List.mem_of_getElem? (i := 5) rfl)) (hts (.initialized RX8) (by decide +kernel)) (hts (.static yX8_within) (by decide +kernel)) rfl (Nat.le_of_ble_eq_true rfl) ⟨Nat.le_of_ble_eq_true rfl, Nat.le_of_ble_eq_true rfl⟩ dX1_checkTurn_27 rfl (fun v w1 H locs hpost hP hD hS => ?_)
    obtain ⟨rfl, rfl⟩ := hpost
    have hP : va_P D vwCl (benchW ct a M) H := hP
    have hD : va_D A (benchW ct a M) := hD
    refine W.eq (g2 := F0 m 30 ls [.int (zI (zB ((-500) ≤ ((M 7) + v) ∧ ((M 7) + v) ≤ 500)))]) rfl ?_
    refine zb_if_eq (tgt := 37) hx hb dX1_checkTurn_30 (by decide) (fun hc_30 => ?_) (fun hc_30 => ?_)
    · have hc_30 := hc_30
      refine z_iconst hx hb dX1_checkTurn_37 ?_
      exact z_iret hx hb hr hlocks hP hD hS ⟨Nat.le_of_ble_eq_true rfl, Nat.le_of_ble_eq_true rfl⟩ dX1_checkTurn_38 (⟨congrArg (fun z => some (Value.int (zI z))) (by unfold ck_turn; (repeat' split) <;> omega), rfl⟩)
    · have hc_30 := hc_30
      refine z_iconst hx hb dX1_checkTurn_33 ?_
      refine lv_goto (tgt := 38) hx hb dX1_checkTurn_34 (by decide) ?_
      exact z_iret hx hb hr hlocks hP hD hS ⟨Nat.le_of_ble_eq_true rfl, Nat.le_of_ble_eq_true rfl⟩ dX1_checkTurn_38 (⟨congrArg (fun z => some (Value.int (zI z))) (by unfold ck_turn; (repeat' split) <;> omega), rfl⟩)
  · have hc_10 := hc_10
    refine z_iconst hx hb dX1_checkTurn_13 ?_
    exact z_iret hx hb hr hlocks hP hD hS ⟨Nat.le_of_ble_eq_true rfl, Nat.le_of_ble_eq_true rfl⟩ dX1_checkTurn_14 (⟨congrArg (fun z => some (Value.int (zI z))) (by unfold ck_turn; (repeat' split) <;> omega), rfl⟩)
set_option maxHeartbeats 4000000 in
set_option maxRecDepth 100000 in
theorem c_X1_checkSetting (l : Launch) (D : va_G) (ct ad : Nat → Nat) (a : Nat → Nat) (M : Int → Int) (w v : Int) (h1 : -2147483648 ≤ w ∧ w ≤ 2147483647) (h2 : -2147483648 ≤ v ∧ v ≤ 2147483647) : ZM l yX1_checkSetting wsX1_checkSetting ({ frames := 1, cells := 0, slots := 0, locals := 22 } : Room) D ct ad [.ref (a 6), .int (zI w), .int (zI v)] (benchW ct a M) (zD (some (.int (zI (ck_set w v)))) (benchW ct a M)) := by
  refine ZM.of (cc := cX1_checkSetting) (maxL := 4) (ret := (some .int)) (by decide +kernel) rfl (Nat.le_of_ble_eq_true rfl) ?_
  intro p e s m below meth c A ls hx hb hr hts hown hlocks hml hname hE hP hD hA hS hl
  have hK := hE.1
  have hl : lv_has ls 4 [(0, .ref (a 6)), (1, .int (zI w)), (2, .int (zI v))] := hl
  refine lv_iload_n hx hb dX1_checkSetting_0 rfl (lv_at hl 1 rfl) ?_
  refine z_iconst hx hb dX1_checkSetting_1 ?_
  refine z_iconst hx hb dX1_checkSetting_2 ?_
  refine z_callSN (host := RX8) (As := [.int (zI w), .int (zI 0), .int (zI 2)]) (rest := []) ([] : va_W) (benchW ct a M) hx hb hml hown hts hl hE hS hA hP hD (c_X8_within l D ct ad w 0 2 (by omega) (by omega) (by omega)) ggX1_checkSetting_X8_within rfl k_X8_within ⟨Nat.le_of_ble_eq_true rfl, Nat.le_of_ble_eq_true rfl⟩ (hE.2.1.1 _ (List.mem_of_getElem? (i := 5) rfl)) (hts (.initialized RX8) (by decide +kernel)) (hts (.static yX8_within) (by decide +kernel)) rfl (Nat.le_of_ble_eq_true rfl) ⟨Nat.le_of_ble_eq_true rfl, Nat.le_of_ble_eq_true rfl⟩ dX1_checkSetting_3 rfl (fun v w1 H locs hpost hP hD hS => ?_)
  obtain ⟨rfl, rfl⟩ := hpost
  have hP : va_P D vwCl (benchW ct a M) H := hP
  have hD : va_D A (benchW ct a M) := hD
  refine W.eq (g2 := F0 m 6 ls [.int (zI (zB (0 ≤ w ∧ w ≤ 2)))]) rfl ?_
  refine zb_if_eq (tgt := 30) hx hb dX1_checkSetting_6 (by decide) (fun hc_6 => ?_) (fun hc_6 => ?_)
  · have hc_6 := hc_6
    refine z_iconst hx hb dX1_checkSetting_30 ?_
    refine lv_istore_n (lv' := [(3, .int (zI 0)), (0, .ref (a 6)), (1, .int (zI w)), (2, .int (zI v))]) hx hb dX1_checkSetting_31 rfl hl (by decide) rfl (fun ls hl => ?_)
    refine lv_iload_n hx hb dX1_checkSetting_32 rfl (lv_at hl 0 rfl) ?_
    refine z_if_eq (tgt := 40) hx hb dX1_checkSetting_33 (by decide) (by omega) (fun hc_33 => ?_) (fun hc_33 => ?_)
    · have hc_33 := hc_33
      refine z_iconst hx hb dX1_checkSetting_40 ?_
      exact z_iret hx hb hr hlocks hP hD hS ⟨Nat.le_of_ble_eq_true rfl, Nat.le_of_ble_eq_true rfl⟩ dX1_checkSetting_41 (⟨congrArg (fun z => some (Value.int (zI z))) (by unfold ck_set; (try unfold zLo zHi at *); (repeat' split) <;> (try (repeat' split at *)) <;> omega), rfl⟩)
    · have hc_33 := hc_33
      refine z_iconst hx hb dX1_checkSetting_36 ?_
      refine lv_goto (tgt := 41) hx hb dX1_checkSetting_37 (by decide) ?_
      exact z_iret hx hb hr hlocks hP hD hS ⟨Nat.le_of_ble_eq_true rfl, Nat.le_of_ble_eq_true rfl⟩ dX1_checkSetting_41 (⟨congrArg (fun z => some (Value.int (zI z))) (by unfold ck_set; (try unfold zLo zHi at *); (repeat' split) <;> (try (repeat' split at *)) <;> omega), rfl⟩)
  · have hc_6 := hc_6
    have hlo := zLoB w.toNat
    have hhi := zHiB w.toNat
    refine lv_iload_n hx hb dX1_checkSetting_9 rfl (lv_at hl 2 rfl) ?_
    refine va_getsN (host := RX8) (C := RX8) (n := "LEAST_SETTINGS") (d := "[I") hx hb (hE.2.2.1.2.1.2.2.1.1) hS hown (va_Nw.use rfl (hE.2.1.1 _ (List.mem_of_getElem? (i := 0) rfl))) (fun _ h9 => h9) dX1_checkSetting_10 ?_
    refine lv_iload_n hx hb dX1_checkSetting_13 rfl (lv_at hl 1 rfl) ?_
    refine z_ialdT hx hb (hE.2.2.1.2.1.2.2.1.2) hS (by omega) (by decide) dX1_checkSetting_14 ?_
    refine va_getsN (host := RX8) (C := RX8) (n := "MOST_SETTINGS") (d := "[I") hx hb (hE.2.2.1.2.1.2.2.2.1) hS hown (va_Nw.use rfl (hE.2.1.1 _ (List.mem_of_getElem? (i := 1) rfl))) (fun _ h9 => h9) dX1_checkSetting_15 ?_
    refine lv_iload_n hx hb dX1_checkSetting_18 rfl (lv_at hl 1 rfl) ?_
    refine z_ialdT hx hb (hE.2.2.1.2.1.2.2.2.2) hS (by omega) (by decide) dX1_checkSetting_19 ?_
    refine z_callSN (host := RX8) (As := [.int (zI v), .int (zI (zLo w.toNat)), .int (zI (zHi w.toNat))]) (rest := []) ([] : va_W) (benchW ct a M) hx hb hml hown hts hl hE hS hA hP hD (c_X8_within l D ct ad v (zLo w.toNat) (zHi w.toNat) (by omega) (by omega) (by omega)) ggX1_checkSetting_X8_within rfl k_X8_within ⟨Nat.le_of_ble_eq_true rfl, Nat.le_of_ble_eq_true rfl⟩ (hE.2.1.1 _ (List.mem_of_getElem? (i := 5) rfl)) (hts (.initialized RX8) (by decide +kernel)) (hts (.static yX8_within) (by decide +kernel)) rfl (Nat.le_of_ble_eq_true rfl) ⟨Nat.le_of_ble_eq_true rfl, Nat.le_of_ble_eq_true rfl⟩ dX1_checkSetting_20 rfl (fun v w1 H locs hpost hP hD hS => ?_)
    obtain ⟨rfl, rfl⟩ := hpost
    have hP : va_P D vwCl (benchW ct a M) H := hP
    have hD : va_D A (benchW ct a M) := hD
    refine W.eq (g2 := F0 m 23 ls [.int (zI (zB ((zLo w.toNat) ≤ v ∧ v ≤ (zHi w.toNat))))]) rfl ?_
    refine zb_if_eq (tgt := 30) hx hb dX1_checkSetting_23 (by decide) (fun hc_23 => ?_) (fun hc_23 => ?_)
    · have hc_23 := hc_23
      refine z_iconst hx hb dX1_checkSetting_30 ?_
      refine lv_istore_n (lv' := [(3, .int (zI 0)), (0, .ref (a 6)), (1, .int (zI w)), (2, .int (zI v))]) hx hb dX1_checkSetting_31 rfl hl (by decide) rfl (fun ls hl => ?_)
      refine lv_iload_n hx hb dX1_checkSetting_32 rfl (lv_at hl 0 rfl) ?_
      refine z_if_eq (tgt := 40) hx hb dX1_checkSetting_33 (by decide) (by omega) (fun hc_33 => ?_) (fun hc_33 => ?_)
      · have hc_33 := hc_33
        refine z_iconst hx hb dX1_checkSetting_40 ?_
        exact z_iret hx hb hr hlocks hP hD hS ⟨Nat.le_of_ble_eq_true rfl, Nat.le_of_ble_eq_true rfl⟩ dX1_checkSetting_41 (⟨congrArg (fun z => some (Value.int (zI z))) (by unfold ck_set; (try unfold zLo zHi at *); (repeat' split) <;> (try (repeat' split at *)) <;> omega), rfl⟩)
      · have hc_33 := hc_33
        refine z_iconst hx hb dX1_checkSetting_36 ?_
        refine lv_goto (tgt := 41) hx hb dX1_checkSetting_37 (by decide) ?_
        exact z_iret hx hb hr hlocks hP hD hS ⟨Nat.le_of_ble_eq_true rfl, Nat.le_of_ble_eq_true rfl⟩ dX1_checkSetting_41 (⟨congrArg (fun z => some (Value.int (zI z))) (by unfold ck_set; (try unfold zLo zHi at *); (repeat' split) <;> (try (repeat' split at *)) <;> omega), rfl⟩)
    · have hc_23 := hc_23
      refine z_iconst hx hb dX1_checkSetting_26 ?_
      refine lv_goto (tgt := 31) hx hb dX1_checkSetting_27 (by decide) ?_
      refine lv_istore_n (lv' := [(3, .int (zI 1)), (0, .ref (a 6)), (1, .int (zI w)), (2, .int (zI v))]) hx hb dX1_checkSetting_31 rfl hl (by decide) rfl (fun ls hl => ?_)
      refine lv_iload_n hx hb dX1_checkSetting_32 rfl (lv_at hl 0 rfl) ?_
      refine z_if_eq (tgt := 40) hx hb dX1_checkSetting_33 (by decide) (by omega) (fun hc_33 => ?_) (fun hc_33 => ?_)
      · have hc_33 := hc_33
        refine z_iconst hx hb dX1_checkSetting_40 ?_
        exact z_iret hx hb hr hlocks hP hD hS ⟨Nat.le_of_ble_eq_true rfl, Nat.le_of_ble_eq_true rfl⟩ dX1_checkSetting_41 (⟨congrArg (fun z => some (Value.int (zI z))) (by unfold ck_set; (try unfold zLo zHi at *); (repeat' split) <;> (try (repeat' split at *)) <;> omega), rfl⟩)
      · have hc_33 := hc_33
        refine z_iconst hx hb dX1_checkSetting_36 ?_
        refine lv_goto (tgt := 41) hx hb dX1_checkSetting_37 (by decide) ?_
        exact z_iret hx hb hr hlocks hP hD hS ⟨Nat.le_of_ble_eq_true rfl, Nat.le_of_ble_eq_true rfl⟩ dX1_checkSetting_41 (⟨congrArg (fun z => some (Value.int (zI z))) (by unfold ck_set; (try unfold zLo zHi at *); (repeat' split) <;> (try (repeat' split at *)) <;> omega), rfl⟩)
set_option maxHeartbeats 4000000 in
set_option maxRecDepth 100000 in
theorem c_X1_checkHours (l : Launch) (D : va_G) (ct ad : Nat → Nat) (a : Nat → Nat) (M : Int → Int) (h : Int) (hB : bInv M) (h1 : -2147483648 ≤ h ∧ h ≤ 2147483647) : ZM l yX1_checkHours wsX1_checkHours ({ frames := 1, cells := 0, slots := 0, locals := 22 } : Room) D ct ad [.ref (a 6), .int (zI h)] (benchW ct a M) (zD (some (.int (zI (ck_hours M h)))) (benchW ct a M)) := by
  refine ZM.of (cc := cX1_checkHours) (maxL := 2) (ret := (some .int)) (by decide +kernel) rfl (Nat.le_of_ble_eq_true rfl) ?_
  intro p e s m below meth c A ls hx hb hr hts hown hlocks hml hname hE hP hD hA hS hl
  have hK := hE.1
  have hf_0 := hts (.fieldLink RX1 38 "RodGrids$Bench" "time" "I") (by decide +kernel)
  have hf_1 := hts (.constant RX1 71 (100000)) (by decide +kernel)
  have hin_X1 : ∀ z ∈ u_ws RX1 TX1 12, z ∈ wsX1_checkHours := by decide +kernel
  have hl : lv_has ls 2 [(0, .ref (a 6)), (1, .int (zI h))] := hl
  have j0 := hB.1
  have j1 := hB.2.1
  have j2 := hB.2.2.1
  have j4 := hB.2.2.2.2
  refine lv_iload_n hx hb dX1_checkHours_0 rfl (lv_at hl 1 rfl) ?_
  refine z_iconst hx hb dX1_checkHours_1 ?_
  refine z_sipush hx hb dX1_checkHours_2 (by decide) ?_
  refine z_callSN (host := RX8) (As := [.int (zI h), .int (zI 1), .int (zI 500)]) (rest := []) ([] : va_W) (benchW ct a M) hx hb hml hown hts hl hE hS hA hP hD (c_X8_within l D ct ad h 1 500 (by omega) (by omega) (by omega)) ggX1_checkHours_X8_within rfl k_X8_within ⟨Nat.le_of_ble_eq_true rfl, Nat.le_of_ble_eq_true rfl⟩ (hE.2.1.1 _ (List.mem_of_getElem? (i := 5) rfl)) (hts (.initialized RX8) (by decide +kernel)) (hts (.static yX8_within) (by decide +kernel)) rfl (Nat.le_of_ble_eq_true rfl) ⟨Nat.le_of_ble_eq_true rfl, Nat.le_of_ble_eq_true rfl⟩ dX1_checkHours_5 rfl (fun v w1 H locs hpost hP hD hS => ?_)
  obtain ⟨rfl, rfl⟩ := hpost
  have hP : va_P D vwCl (benchW ct a M) H := hP
  have hD : va_D A (benchW ct a M) := hD
  refine W.eq (g2 := F0 m 8 ls [.int (zI (zB (1 ≤ h ∧ h ≤ 500)))]) rfl ?_
  refine zb_if_ne (tgt := 13) hx hb dX1_checkHours_8 (by decide) (fun hc_8 => ?_) (fun hc_8 => ?_)
  · have hc_8 := hc_8
    refine lv_aload_n hx hb dX1_checkHours_13 rfl (lv_at hl 0 rfl) ?_
    refine va_get (D := D) (ci := 0) (v := .int (zI (M 9))) (C := RX1) (T := TX1) (N := 12) hx hb hts hin_X1 hown hK hP 0 rfl rfl 6 (by decide) hf_0 (fun _ h9 => h9) rfl dX1_checkHours_14 ?_
    refine lv_iload_n hx hb dX1_checkHours_17 rfl (lv_at hl 1 rfl) ?_
    refine z_iadd hx hb dX1_checkHours_18 ?_
    refine z_ldc hx hb 100000 hown hf_1 (by decide) dX1_checkHours_19 ?_
    refine z_icmp_gt (tgt := 28) hx hb dX1_checkHours_21 (by decide) (by omega) (by omega) (fun hc_21 => ?_) (fun hc_21 => ?_)
    · have hc_21 := hc_21
      refine z_iconst hx hb dX1_checkHours_28 ?_
      exact z_iret hx hb hr hlocks hP hD hS ⟨Nat.le_of_ble_eq_true rfl, Nat.le_of_ble_eq_true rfl⟩ dX1_checkHours_29 (⟨congrArg (fun z => some (Value.int (zI z))) (by unfold ck_hours; (repeat' split) <;> omega), rfl⟩)
    · have hc_21 := hc_21
      refine z_iconst hx hb dX1_checkHours_24 ?_
      refine lv_goto (tgt := 29) hx hb dX1_checkHours_25 (by decide) ?_
      exact z_iret hx hb hr hlocks hP hD hS ⟨Nat.le_of_ble_eq_true rfl, Nat.le_of_ble_eq_true rfl⟩ dX1_checkHours_29 (⟨congrArg (fun z => some (Value.int (zI z))) (by unfold ck_hours; (repeat' split) <;> omega), rfl⟩)
  · have hc_8 := hc_8
    refine z_iconst hx hb dX1_checkHours_11 ?_
    exact z_iret hx hb hr hlocks hP hD hS ⟨Nat.le_of_ble_eq_true rfl, Nat.le_of_ble_eq_true rfl⟩ dX1_checkHours_12 (⟨congrArg (fun z => some (Value.int (zI z))) (by unfold ck_hours; (repeat' split) <;> omega), rfl⟩)
set_option maxHeartbeats 4000000 in
set_option maxRecDepth 100000 in
theorem c_X1_changeShelfWarmth (l : Launch) (D : va_G) (ct ad : Nat → Nat) (a : Nat → Nat) (M : Int → Int) (k v : Int) (h1 : 0 ≤ k ∧ k < 5) : ZM l yX1_changeShelfWarmth wsX1_changeShelfWarmth ({ frames := 0, cells := 0, slots := 0, locals := 0 } : Room) D ct ad [.ref (a 6), .int (zI k), .int (zI v)] (benchW ct a M) (zD (some (.int (zI (M (49 + k))))) (benchW ct a (up M (49 + k) v))) := by
  refine ZM.of (cc := cX1_changeShelfWarmth) (maxL := 4) (ret := (some .int)) (by decide +kernel) rfl (Nat.le_of_ble_eq_true rfl) ?_
  intro p e s m below meth c A ls hx hb hr hts hown hlocks hml hname hE hP hD hA hS hl
  have hK := hE.1
  have hf_0 := hts (.fieldLink RX1 9 "RodGrids$Bench" "shelfWarmths" "[I") (by decide +kernel)
  have hin_X1 : ∀ z ∈ u_ws RX1 TX1 12, z ∈ wsX1_changeShelfWarmth := by decide +kernel
  have hl : lv_has ls 4 [(0, .ref (a 6)), (1, .int (zI k)), (2, .int (zI v))] := hl
  refine lv_aload_n hx hb dX1_changeShelfWarmth_0 rfl (lv_at hl 0 rfl) ?_
  refine va_get (D := D) (ci := 0) (v := .ref (a 7)) (C := RX1) (T := TX1) (N := 12) hx hb hts hin_X1 hown hK hP 0 rfl rfl 0 (by decide) hf_0 (fun _ h9 => h9) rfl dX1_changeShelfWarmth_1 ?_
  refine lv_iload_n hx hb dX1_changeShelfWarmth_4 rfl (lv_at hl 1 rfl) ?_
  refine z_iald (g := fun x => M (49 + x)) (v := M (49 + k)) hx hb hK hP 1 rfl (by decide) (by omega) rfl dX1_changeShelfWarmth_5 ?_
  refine lv_istore_n (lv' := [(3, .int (zI (M (49 + k)))), (0, .ref (a 6)), (1, .int (zI k)), (2, .int (zI v))]) hx hb dX1_changeShelfWarmth_6 rfl hl (by decide) rfl (fun ls hl => ?_)
  refine lv_aload_n hx hb dX1_changeShelfWarmth_7 rfl (lv_at hl 1 rfl) ?_
  refine va_get (D := D) (ci := 0) (v := .ref (a 7)) (C := RX1) (T := TX1) (N := 12) hx hb hts hin_X1 hown hK hP 0 rfl rfl 0 (by decide) hf_0 (fun _ h9 => h9) rfl dX1_changeShelfWarmth_8 ?_
  refine lv_iload_n hx hb dX1_changeShelfWarmth_11 rfl (lv_at hl 2 rfl) ?_
  refine lv_iload_n hx hb dX1_changeShelfWarmth_12 rfl (lv_at hl 3 rfl) ?_
  refine z_iast (g := fun x => M (49 + x)) (w2 := benchW ct a (up M (49 + k) v)) hx hb hK hP hD hS 1 rfl (by decide) (by omega) dX1_changeShelfWarmth_13 (set_bench_a1 ct a M k v (by omega)) (fun H locs hP hD hS => ?_)
  refine lv_iload_n hx hb dX1_changeShelfWarmth_14 rfl (lv_at hl 0 rfl) ?_
  exact z_iret hx hb hr hlocks hP hD hS ⟨Nat.le_of_ble_eq_true rfl, Nat.le_of_ble_eq_true rfl⟩ dX1_changeShelfWarmth_15 (⟨congrArg (fun z => some (Value.int (zI z))) (rfl), rfl⟩)
set_option maxHeartbeats 4000000 in
set_option maxRecDepth 100000 in
theorem c_X1_changeShelf (l : Launch) (D : va_G) (ct ad : Nat → Nat) (a : Nat → Nat) (M : Int → Int) (k : Int)  : ZM l yX1_changeShelf wsX1_changeShelf ({ frames := 0, cells := 0, slots := 0, locals := 0 } : Room) D ct ad [.ref (a 6), .int (zI k)] (benchW ct a M) (zD (some (.int (zI (M 5)))) (benchW ct a (up M 5 k))) := by
  refine ZM.of (cc := cX1_changeShelf) (maxL := 3) (ret := (some .int)) (by decide +kernel) rfl (Nat.le_of_ble_eq_true rfl) ?_
  intro p e s m below meth c A ls hx hb hr hts hown hlocks hml hname hE hP hD hA hS hl
  have hK := hE.1
  have hf_0 := hts (.fieldLink RX1 32 "RodGrids$Bench" "shelfNumber" "I") (by decide +kernel)
  have hin_X1 : ∀ z ∈ u_ws RX1 TX1 12, z ∈ wsX1_changeShelf := by decide +kernel
  have hl : lv_has ls 3 [(0, .ref (a 6)), (1, .int (zI k))] := hl
  refine lv_aload_n hx hb dX1_changeShelf_0 rfl (lv_at hl 0 rfl) ?_
  refine va_get (D := D) (ci := 0) (v := .int (zI (M 5))) (C := RX1) (T := TX1) (N := 12) hx hb hts hin_X1 hown hK hP 0 rfl rfl 2 (by decide) hf_0 (fun _ h9 => h9) rfl dX1_changeShelf_1 ?_
  refine lv_istore_n (lv' := [(2, .int (zI (M 5))), (0, .ref (a 6)), (1, .int (zI k))]) hx hb dX1_changeShelf_4 rfl hl (by decide) rfl (fun ls hl => ?_)
  refine lv_aload_n hx hb dX1_changeShelf_5 rfl (lv_at hl 1 rfl) ?_
  refine lv_iload_n hx hb dX1_changeShelf_6 rfl (lv_at hl 2 rfl) ?_
  refine z_put (ct := ct) (ad := ad) (ci := 0) (v := .int (zI k)) (ty := tyX1 2) (C := RX1) (T := TX1) (N := 12) (w2 := benchW ct a (up M 5 k)) hx hb hts hin_X1 tyX1 tyX1_ok nmX1 hown hE hP hD hS 0 rfl rfl 2 (by decide) hf_0 (fun _ h9 => h9) rfl (by decide +kernel) rfl rfl (Nat.le_of_ble_eq_true rfl) dX1_changeShelf_7 (set_bench_5 ct a M k) (fun H locs hP hD hS => ?_)
  refine lv_iload_n hx hb dX1_changeShelf_10 rfl (lv_at hl 0 rfl) ?_
  exact z_iret hx hb hr hlocks hP hD hS ⟨Nat.le_of_ble_eq_true rfl, Nat.le_of_ble_eq_true rfl⟩ dX1_changeShelf_11 (⟨congrArg (fun z => some (Value.int (zI z))) (rfl), rfl⟩)
set_option maxHeartbeats 4000000 in
set_option maxRecDepth 100000 in
theorem c_X1_changeNut (l : Launch) (D : va_G) (ct ad : Nat → Nat) (a : Nat → Nat) (M : Int → Int) (v : Int)  : ZM l yX1_changeNut wsX1_changeNut ({ frames := 0, cells := 0, slots := 0, locals := 0 } : Room) D ct ad [.ref (a 6), .int (zI v)] (benchW ct a M) (zD (some (.int (zI (M 7 + v)))) (benchW ct a (up M 7 (M 7 + v)))) := by
  refine ZM.of (cc := cX1_changeNut) (maxL := 2) (ret := (some .int)) (by decide +kernel) rfl (Nat.le_of_ble_eq_true rfl) ?_
  intro p e s m below meth c A ls hx hb hr hts hown hlocks hml hname hE hP hD hA hS hl
  have hK := hE.1
  have hf_0 := hts (.fieldLink RX1 35 "RodGrids$Bench" "nut" "I") (by decide +kernel)
  have hin_X1 : ∀ z ∈ u_ws RX1 TX1 12, z ∈ wsX1_changeNut := by decide +kernel
  have hl : lv_has ls 2 [(0, .ref (a 6)), (1, .int (zI v))] := hl
  refine lv_aload_n hx hb dX1_changeNut_0 rfl (lv_at hl 0 rfl) ?_
  refine lv_dup hx hb dX1_changeNut_1 rfl ?_
  refine va_get (D := D) (ci := 0) (v := .int (zI (M 7))) (C := RX1) (T := TX1) (N := 12) hx hb hts hin_X1 hown hK hP 0 rfl rfl 4 (by decide) hf_0 (fun _ h9 => h9) rfl dX1_changeNut_2 ?_
  refine lv_iload_n hx hb dX1_changeNut_5 rfl (lv_at hl 1 rfl) ?_
  refine z_iadd hx hb dX1_changeNut_6 ?_
  refine z_put (ct := ct) (ad := ad) (ci := 0) (v := .int (zI ((M 7) + v))) (ty := tyX1 4) (C := RX1) (T := TX1) (N := 12) (w2 := benchW ct a (up M 7 ((M 7) + v))) hx hb hts hin_X1 tyX1 tyX1_ok nmX1 hown hE hP hD hS 0 rfl rfl 4 (by decide) hf_0 (fun _ h9 => h9) rfl (by decide +kernel) rfl rfl (Nat.le_of_ble_eq_true rfl) dX1_changeNut_7 (set_bench_7 ct a M ((M 7) + v)) (fun H locs hP hD hS => ?_)
  refine lv_aload_n hx hb dX1_changeNut_10 rfl (lv_at hl 0 rfl) ?_
  refine va_get (D := D) (ci := 0) (v := .int (zI ((M 7) + v))) (C := RX1) (T := TX1) (N := 12) hx hb hts hin_X1 hown hK hP 0 rfl rfl 4 (by decide) hf_0 (fun _ h9 => h9) rfl dX1_changeNut_11 ?_
  exact z_iret hx hb hr hlocks hP hD hS ⟨Nat.le_of_ble_eq_true rfl, Nat.le_of_ble_eq_true rfl⟩ dX1_changeNut_14 (⟨congrArg (fun z => some (Value.int (zI z))) (rfl), rfl⟩)
set_option maxHeartbeats 4000000 in
set_option maxRecDepth 100000 in
theorem c_X1_fillDrive (l : Launch) (D : va_G) (ct ad : Nat → Nat) (a : Nat → Nat) (M : Int → Int)  : ZM l yX1_fillDrive wsX1_fillDrive ({ frames := 0, cells := 0, slots := 0, locals := 0 } : Room) D ct ad [.ref (a 6)] (benchW ct a M) (zD (some (.int (zI (M 8)))) (benchW ct a (up M 8 192))) := by
  refine ZM.of (cc := cX1_fillDrive) (maxL := 2) (ret := (some .int)) (by decide +kernel) rfl (Nat.le_of_ble_eq_true rfl) ?_
  intro p e s m below meth c A ls hx hb hr hts hown hlocks hml hname hE hP hD hA hS hl
  have hK := hE.1
  have hf_0 := hts (.fieldLink RX1 22 "RodGrids$Bench" "drive" "I") (by decide +kernel)
  have hin_X1 : ∀ z ∈ u_ws RX1 TX1 12, z ∈ wsX1_fillDrive := by decide +kernel
  have hl : lv_has ls 2 [(0, .ref (a 6))] := hl
  refine lv_aload_n hx hb dX1_fillDrive_0 rfl (lv_at hl 0 rfl) ?_
  refine va_get (D := D) (ci := 0) (v := .int (zI (M 8))) (C := RX1) (T := TX1) (N := 12) hx hb hts hin_X1 hown hK hP 0 rfl rfl 5 (by decide) hf_0 (fun _ h9 => h9) rfl dX1_fillDrive_1 ?_
  refine lv_istore_n (lv' := [(1, .int (zI (M 8))), (0, .ref (a 6))]) hx hb dX1_fillDrive_4 rfl hl (by decide) rfl (fun ls hl => ?_)
  refine lv_aload_n hx hb dX1_fillDrive_5 rfl (lv_at hl 1 rfl) ?_
  refine z_sipush hx hb dX1_fillDrive_6 (by decide) ?_
  refine z_put (ct := ct) (ad := ad) (ci := 0) (v := .int (zI 192)) (ty := tyX1 5) (C := RX1) (T := TX1) (N := 12) (w2 := benchW ct a (up M 8 192)) hx hb hts hin_X1 tyX1 tyX1_ok nmX1 hown hE hP hD hS 0 rfl rfl 5 (by decide) hf_0 (fun _ h9 => h9) rfl (by decide +kernel) rfl rfl (Nat.le_of_ble_eq_true rfl) dX1_fillDrive_9 (set_bench_8 ct a M 192) (fun H locs hP hD hS => ?_)
  refine lv_iload_n hx hb dX1_fillDrive_12 rfl (lv_at hl 0 rfl) ?_
  exact z_iret hx hb hr hlocks hP hD hS ⟨Nat.le_of_ble_eq_true rfl, Nat.le_of_ble_eq_true rfl⟩ dX1_fillDrive_13 (⟨congrArg (fun z => some (Value.int (zI z))) (rfl), rfl⟩)
set_option maxHeartbeats 4000000 in
set_option maxRecDepth 100000 in
theorem c_X1_changeSetting (l : Launch) (D : va_G) (ct ad : Nat → Nat) (a : Nat → Nat) (M : Int → Int) (k v : Int) (h1 : 0 ≤ k ∧ k < 3) : ZM l yX1_changeSetting wsX1_changeSetting ({ frames := 0, cells := 0, slots := 0, locals := 0 } : Room) D ct ad [.ref (a 6), .int (zI k), .int (zI v)] (benchW ct a M) (zD (some (.int (zI (M k)))) (benchW ct a (up M k v))) := by
  refine ZM.of (cc := cX1_changeSetting) (maxL := 4) (ret := (some .int)) (by decide +kernel) rfl (Nat.le_of_ble_eq_true rfl) ?_
  intro p e s m below meth c A ls hx hb hr hts hown hlocks hml hname hE hP hD hA hS hl
  have hK := hE.1
  have hf_0 := hts (.fieldLink RX1 15 "RodGrids$Bench" "settings" "[I") (by decide +kernel)
  have hin_X1 : ∀ z ∈ u_ws RX1 TX1 12, z ∈ wsX1_changeSetting := by decide +kernel
  have hl : lv_has ls 4 [(0, .ref (a 6)), (1, .int (zI k)), (2, .int (zI v))] := hl
  refine lv_aload_n hx hb dX1_changeSetting_0 rfl (lv_at hl 0 rfl) ?_
  refine va_get (D := D) (ci := 0) (v := .ref (a 8)) (C := RX1) (T := TX1) (N := 12) hx hb hts hin_X1 hown hK hP 0 rfl rfl 1 (by decide) hf_0 (fun _ h9 => h9) rfl dX1_changeSetting_1 ?_
  refine lv_iload_n hx hb dX1_changeSetting_4 rfl (lv_at hl 1 rfl) ?_
  refine z_iald (g := fun x => M x) (v := M k) hx hb hK hP 2 rfl (by decide) (by omega) rfl dX1_changeSetting_5 ?_
  refine lv_istore_n (lv' := [(3, .int (zI (M k))), (0, .ref (a 6)), (1, .int (zI k)), (2, .int (zI v))]) hx hb dX1_changeSetting_6 rfl hl (by decide) rfl (fun ls hl => ?_)
  refine lv_aload_n hx hb dX1_changeSetting_7 rfl (lv_at hl 1 rfl) ?_
  refine va_get (D := D) (ci := 0) (v := .ref (a 8)) (C := RX1) (T := TX1) (N := 12) hx hb hts hin_X1 hown hK hP 0 rfl rfl 1 (by decide) hf_0 (fun _ h9 => h9) rfl dX1_changeSetting_8 ?_
  refine lv_iload_n hx hb dX1_changeSetting_11 rfl (lv_at hl 2 rfl) ?_
  refine lv_iload_n hx hb dX1_changeSetting_12 rfl (lv_at hl 3 rfl) ?_
  refine z_iast (g := fun x => M x) (w2 := benchW ct a (up M k v)) hx hb hK hP hD hS 2 rfl (by decide) (by omega) dX1_changeSetting_13 (set_bench_a2 ct a M k v (by omega)) (fun H locs hP hD hS => ?_)
  refine lv_iload_n hx hb dX1_changeSetting_14 rfl (lv_at hl 0 rfl) ?_
  exact z_iret hx hb hr hlocks hP hD hS ⟨Nat.le_of_ble_eq_true rfl, Nat.le_of_ble_eq_true rfl⟩ dX1_changeSetting_15 (⟨congrArg (fun z => some (Value.int (zI z))) (rfl), rfl⟩)
set_option maxHeartbeats 4000000 in
set_option maxRecDepth 100000 in
theorem c_X1_shelfWarmth (l : Launch) (D : va_G) (ct ad : Nat → Nat) (a : Nat → Nat) (M : Int → Int) (k : Int) (h1 : 0 ≤ k ∧ k ≤ 4) : ZM l yX1_shelfWarmth wsX1_shelfWarmth ({ frames := 1, cells := 0, slots := 0, locals := 22 } : Room) D ct ad [.ref (a 6), .int (zI k)] (benchW ct a M) (zD (some (.int (zI (M (49 + k))))) (benchW ct a M)) := by
  refine ZM.of (cc := cX1_shelfWarmth) (maxL := 2) (ret := (some .int)) (by decide +kernel) rfl (Nat.le_of_ble_eq_true rfl) ?_
  intro p e s m below meth c A ls hx hb hr hts hown hlocks hml hname hE hP hD hA hS hl
  have hK := hE.1
  have hf_0 := hts (.fieldLink RX1 9 "RodGrids$Bench" "shelfWarmths" "[I") (by decide +kernel)
  have hin_X1 : ∀ z ∈ u_ws RX1 TX1 12, z ∈ wsX1_shelfWarmth := by decide +kernel
  have hl : lv_has ls 2 [(0, .ref (a 6)), (1, .int (zI k))] := hl
  refine lv_iload_n hx hb dX1_shelfWarmth_0 rfl (lv_at hl 1 rfl) ?_
  refine z_iconst hx hb dX1_shelfWarmth_1 ?_
  refine z_iconst hx hb dX1_shelfWarmth_2 ?_
  refine z_callSN (host := RX8) (As := [.int (zI k), .int (zI 0), .int (zI 4)]) (rest := []) ([] : va_W) (benchW ct a M) hx hb hml hown hts hl hE hS hA hP hD (c_X8_within l D ct ad k 0 4 (by omega) (by omega) (by omega)) ggX1_shelfWarmth_X8_within rfl k_X8_within ⟨Nat.le_of_ble_eq_true rfl, Nat.le_of_ble_eq_true rfl⟩ (hE.2.1.1 _ (List.mem_of_getElem? (i := 5) rfl)) (hts (.initialized RX8) (by decide +kernel)) (hts (.static yX8_within) (by decide +kernel)) rfl (Nat.le_of_ble_eq_true rfl) ⟨Nat.le_of_ble_eq_true rfl, Nat.le_of_ble_eq_true rfl⟩ dX1_shelfWarmth_3 rfl (fun v w1 H locs hpost hP hD hS => ?_)
  obtain ⟨rfl, rfl⟩ := hpost
  have hP : va_P D vwCl (benchW ct a M) H := hP
  have hD : va_D A (benchW ct a M) := hD
  refine W.eq (g2 := F0 m 6 ls [.int (zI (zB (0 ≤ k ∧ k ≤ 4)))]) rfl ?_
  refine zb_if_eq (tgt := 18) hx hb dX1_shelfWarmth_6 (by decide) (fun hc_6 => ?_) (fun hc_6 => ?_)
  · have hc_6 := hc_6
    omega
  · have hc_6 := hc_6
    refine lv_aload_n hx hb dX1_shelfWarmth_9 rfl (lv_at hl 0 rfl) ?_
    refine va_get (D := D) (ci := 0) (v := .ref (a 7)) (C := RX1) (T := TX1) (N := 12) hx hb hts hin_X1 hown hK hP 0 rfl rfl 0 (by decide) hf_0 (fun _ h9 => h9) rfl dX1_shelfWarmth_10 ?_
    refine lv_iload_n hx hb dX1_shelfWarmth_13 rfl (lv_at hl 1 rfl) ?_
    refine z_iald (g := fun x => M (49 + x)) (v := M (49 + k)) hx hb hK hP 1 rfl (by decide) (by omega) rfl dX1_shelfWarmth_14 ?_
    refine lv_goto (tgt := 21) hx hb dX1_shelfWarmth_15 (by decide) ?_
    exact z_iret hx hb hr hlocks hP hD hS ⟨Nat.le_of_ble_eq_true rfl, Nat.le_of_ble_eq_true rfl⟩ dX1_shelfWarmth_21 (⟨congrArg (fun z => some (Value.int (zI z))) (rfl), rfl⟩)
set_option maxHeartbeats 4000000 in
set_option maxRecDepth 100000 in
theorem c_X1_arcBy (l : Launch) (D : va_G) (ct ad : Nat → Nat) (a : Nat → Nat) (M : Int → Int) (d : Int) (hB : bInv M) (h1 : 0 ≤ d ∧ d ≤ 192) : ZM l yX1_arcBy wsX1_arcBy ({ frames := 0, cells := 0, slots := 0, locals := 0 } : Room) D ct ad [.ref (a 6), .int (zI d)] (benchW ct a M) (zD (some (.int (zI (sp_arc M d)))) (benchW ct a M)) := by
  refine ZM.of (cc := cX1_arcBy) (maxL := 2) (ret := (some .int)) (by decide +kernel) rfl (Nat.le_of_ble_eq_true rfl) ?_
  intro p e s m below meth c A ls hx hb hr hts hown hlocks hml hname hE hP hD hA hS hl
  have hK := hE.1
  have hf_0 := hts (.fieldLink RX1 15 "RodGrids$Bench" "settings" "[I") (by decide +kernel)
  have hin_X1 : ∀ z ∈ u_ws RX1 TX1 12, z ∈ wsX1_arcBy := by decide +kernel
  have hl : lv_has ls 2 [(0, .ref (a 6)), (1, .int (zI d))] := hl
  have j0 := hB.1
  have j1 := hB.2.1
  have j2 := hB.2.2.1
  have j4 := hB.2.2.2.2
  refine lv_aload_n hx hb dX1_arcBy_0 rfl (lv_at hl 0 rfl) ?_
  refine va_get (D := D) (ci := 0) (v := .ref (a 8)) (C := RX1) (T := TX1) (N := 12) hx hb hts hin_X1 hown hK hP 0 rfl rfl 1 (by decide) hf_0 (fun _ h9 => h9) rfl dX1_arcBy_1 ?_
  refine z_iconst hx hb dX1_arcBy_4 ?_
  refine z_iald (g := fun x => M x) (v := M 2) hx hb hK hP 2 rfl (by decide) (by omega) rfl dX1_arcBy_5 ?_
  refine lv_iload_n hx hb dX1_arcBy_6 rfl (lv_at hl 1 rfl) ?_
  refine z_bipush hx hb dX1_arcBy_7 (by decide) ?_
  refine z_idiv hx hb dX1_arcBy_9 (by omega) (by omega) ?_
  refine z_iadd hx hb dX1_arcBy_10 ?_
  exact z_iret hx hb hr hlocks hP hD hS ⟨Nat.le_of_ble_eq_true rfl, Nat.le_of_ble_eq_true rfl⟩ dX1_arcBy_11 (⟨congrArg (fun z => some (Value.int (zI z))) (rfl), rfl⟩)
theorem k_X1_arcBy : yX1_arcBy.cls ≠ "java/lang/invoke/MethodHandle" ∧ yX1_arcBy.cls ≠ "java/lang/invoke/VarHandle" ∧ (parseMethodDescriptor yX1_arcBy.desc).map (fun d => d.parameters.length) = some 1 := by decide +kernel
set_option maxHeartbeats 4000000 in
set_option maxRecDepth 100000 in
theorem c_X1_lossBy (l : Launch) (D : va_G) (ct ad : Nat → Nat) (a : Nat → Nat) (M : Int → Int) (d : Int) (hB : bInv M) (h1 : 0 ≤ d ∧ d ≤ 192) : ZM l yX1_lossBy wsX1_lossBy ({ frames := 1, cells := 0, slots := 0, locals := 21 } : Room) D ct ad [.ref (a 6), .int (zI d)] (benchW ct a M) (zD (some (.int (zI (sp_loss M d)))) (benchW ct a M)) := by
  refine ZM.of (cc := cX1_lossBy) (maxL := 3) (ret := (some .int)) (by decide +kernel) rfl (Nat.le_of_ble_eq_true rfl) ?_
  intro p e s m below meth c A ls hx hb hr hts hown hlocks hml hname hE hP hD hA hS hl
  have hK := hE.1
  have hl : lv_has ls 3 [(0, .ref (a 6)), (1, .int (zI d))] := hl
  have j0 := hB.1
  have j1 := hB.2.1
  have j2 := hB.2.2.1
  have j4 := hB.2.2.2.2
  have q := sp_arcB hB h1
  refine lv_aload_n hx hb dX1_lossBy_0 rfl (lv_at hl 0 rfl) ?_
  refine lv_iload_n hx hb dX1_lossBy_1 rfl (lv_at hl 1 rfl) ?_
  refine z_callV (C := RX1) (q0 := 0) (ci := 0) (As := [.int (zI d)]) (rest := []) ([] : va_W) ([] : va_W) hx hb hml hown hts hl hE hS hA (zr0 ([] : va_W) hP) (zr0D ([] : va_W) hD) (c_X1_arcBy l D ct ad a M d (by assumption) (by omega)) gX1_lossBy_X1_arcBy rfl rfl k_X1_arcBy ⟨Nat.le_of_ble_eq_true rfl, Nat.le_of_ble_eq_true rfl⟩ rfl rfl rfl rfl (Nat.le_of_ble_eq_true rfl) ⟨Nat.le_of_ble_eq_true rfl, Nat.le_of_ble_eq_true rfl⟩ dX1_lossBy_2 rfl (fun v w1 H locs hpost hP hD hS => ?_)
  obtain ⟨rfl, rfl⟩ := hpost
  have hP := zr0' hP
  have hD := zr0D' hD
  have hP : va_P D vwCl (benchW ct a M) H := hP
  have hD : va_D A (benchW ct a M) := hD
  refine W.eq (g2 := F0 m 5 ls [.int (zI (sp_arc M d))]) rfl ?_
  refine lv_istore_n (lv' := [(2, .int (zI (sp_arc M d))), (0, .ref (a 6)), (1, .int (zI d))]) hx hb dX1_lossBy_5 rfl hl (by decide) rfl (fun ls hl => ?_)
  refine lv_iload_n hx hb dX1_lossBy_6 rfl (lv_at hl 0 rfl) ?_
  refine lv_iload_n hx hb dX1_lossBy_7 rfl (lv_at hl 0 rfl) ?_
  refine z_imul hx hb dX1_lossBy_8 ?_
  refine z_sipush hx hb dX1_lossBy_9 (by decide) ?_
  refine z_imul hx hb dX1_lossBy_12 ?_
  refine z_bipush hx hb dX1_lossBy_13 (by decide) ?_
  refine z_idiv hx hb dX1_lossBy_15 (by omega) (by omega) ?_
  exact z_iret hx hb hr hlocks hP hD hS ⟨Nat.le_of_ble_eq_true rfl, Nat.le_of_ble_eq_true rfl⟩ dX1_lossBy_16 (⟨congrArg (fun z => some (Value.int (zI z))) (rfl), rfl⟩)
theorem k_X1_shelfWarmth : yX1_shelfWarmth.cls ≠ "java/lang/invoke/MethodHandle" ∧ yX1_shelfWarmth.cls ≠ "java/lang/invoke/VarHandle" ∧ (parseMethodDescriptor yX1_shelfWarmth.desc).map (fun d => d.parameters.length) = some 1 := by decide +kernel
theorem k_X8_floorOf : yX8_floorOf.cls ≠ "java/lang/invoke/MethodHandle" ∧ yX8_floorOf.cls ≠ "java/lang/invoke/VarHandle" ∧ (parseMethodDescriptor yX8_floorOf.desc).map (fun d => d.parameters.length) = some 2 := by decide +kernel
set_option maxHeartbeats 4000000 in
set_option maxRecDepth 100000 in
theorem c_X1_warmthAfterHour (l : Launch) (D : va_G) (ct ad : Nat → Nat) (a : Nat → Nat) (M : Int → Int) (w : Int) (hB : bInv M) (h1 : -300 ≤ w ∧ w ≤ 600) : ZM l yX1_warmthAfterHour wsX1_warmthAfterHour ({ frames := 2, cells := 0, slots := 0, locals := 48 } : Room) D ct ad [.ref (a 6), .int (zI w)] (benchW ct a M) (zD (some (.int (zI (sp_warm M w)))) (benchW ct a M)) := by
  refine ZM.of (cc := cX1_warmthAfterHour) (maxL := 4) (ret := (some .int)) (by decide +kernel) rfl (Nat.le_of_ble_eq_true rfl) ?_
  intro p e s m below meth c A ls hx hb hr hts hown hlocks hml hname hE hP hD hA hS hl
  have hK := hE.1
  have hf_0 := hts (.fieldLink RX1 32 "RodGrids$Bench" "shelfNumber" "I") (by decide +kernel)
  have hf_1 := hts (.fieldLink RX1 15 "RodGrids$Bench" "settings" "[I") (by decide +kernel)
  have hin_X1 : ∀ z ∈ u_ws RX1 TX1 12, z ∈ wsX1_warmthAfterHour := by decide +kernel
  have hl : lv_has ls 4 [(0, .ref (a 6)), (1, .int (zI w))] := hl
  have j0 := hB.1
  have j1 := hB.2.1
  have j2 := hB.2.2.1
  have j4 := hB.2.2.2.2
  have j3 := hB.2.2.2.1 (M 5) (by omega) (by omega)
  have qw := sp_warmB hB h1
  have qd := divB (a := M (49 + M 5) - w) (b := M 1) (by omega) (by omega)
  refine lv_aload_n hx hb dX1_warmthAfterHour_0 rfl (lv_at hl 0 rfl) ?_
  refine lv_aload_n hx hb dX1_warmthAfterHour_1 rfl (lv_at hl 0 rfl) ?_
  refine va_get (D := D) (ci := 0) (v := .int (zI (M 5))) (C := RX1) (T := TX1) (N := 12) hx hb hts hin_X1 hown hK hP 0 rfl rfl 2 (by decide) hf_0 (fun _ h9 => h9) rfl dX1_warmthAfterHour_2 ?_
  refine z_callV (C := RX1) (q0 := 0) (ci := 0) (As := [.int (zI (M 5))]) (rest := []) ([] : va_W) ([] : va_W) hx hb hml hown hts hl hE hS hA (zr0 ([] : va_W) hP) (zr0D ([] : va_W) hD) (c_X1_shelfWarmth l D ct ad a M (M 5) (by omega)) gX1_warmthAfterHour_X1_shelfWarmth rfl rfl k_X1_shelfWarmth ⟨Nat.le_of_ble_eq_true rfl, Nat.le_of_ble_eq_true rfl⟩ rfl rfl rfl rfl (Nat.le_of_ble_eq_true rfl) ⟨Nat.le_of_ble_eq_true rfl, Nat.le_of_ble_eq_true rfl⟩ dX1_warmthAfterHour_5 rfl (fun v w1 H locs hpost hP hD hS => ?_)
  obtain ⟨rfl, rfl⟩ := hpost
  have hP := zr0' hP
  have hD := zr0D' hD
  have hP : va_P D vwCl (benchW ct a M) H := hP
  have hD : va_D A (benchW ct a M) := hD
  refine W.eq (g2 := F0 m 8 ls [.int (zI (M (49 + (M 5))))]) rfl ?_
  refine lv_iload_n hx hb dX1_warmthAfterHour_8 rfl (lv_at hl 1 rfl) ?_
  refine z_isub hx hb dX1_warmthAfterHour_9 ?_
  refine lv_istore_n (lv' := [(2, .int (zI ((M (49 + (M 5))) - w))), (0, .ref (a 6)), (1, .int (zI w))]) hx hb dX1_warmthAfterHour_10 rfl hl (by decide) rfl (fun ls hl => ?_)
  refine lv_iload_n hx hb dX1_warmthAfterHour_11 rfl (lv_at hl 0 rfl) ?_
  refine z_i2l hx hb dX1_warmthAfterHour_12 (by omega) ?_
  refine lv_aload_n hx hb dX1_warmthAfterHour_13 rfl (lv_at hl 1 rfl) ?_
  refine va_get (D := D) (ci := 0) (v := .ref (a 8)) (C := RX1) (T := TX1) (N := 12) hx hb hts hin_X1 hown hK hP 0 rfl rfl 1 (by decide) hf_1 (fun _ h9 => h9) rfl dX1_warmthAfterHour_14 ?_
  refine z_iconst hx hb dX1_warmthAfterHour_17 ?_
  refine z_iald (g := fun x => M x) (v := M 1) hx hb hK hP 2 rfl (by decide) (by omega) rfl dX1_warmthAfterHour_18 ?_
  refine z_i2l hx hb dX1_warmthAfterHour_19 (by omega) ?_
  refine z_callSN (host := RX8) (As := [.long (zJ ((M (49 + (M 5))) - w)), .long (zJ (M 1))]) (rest := []) ([] : va_W) (benchW ct a M) hx hb hml hown hts hl hE hS hA hP hD (c_X8_floorOf l D ct ad ((M (49 + (M 5))) - w) (M 1) (by omega) (by omega)) ggX1_warmthAfterHour_X8_floorOf rfl k_X8_floorOf ⟨Nat.le_of_ble_eq_true rfl, Nat.le_of_ble_eq_true rfl⟩ (hE.2.1.1 _ (List.mem_of_getElem? (i := 7) rfl)) (hts (.initialized RX8) (by decide +kernel)) (hts (.static yX8_floorOf) (by decide +kernel)) rfl (Nat.le_of_ble_eq_true rfl) ⟨Nat.le_of_ble_eq_true rfl, Nat.le_of_ble_eq_true rfl⟩ dX1_warmthAfterHour_20 rfl (fun v w1 H locs hpost hP hD hS => ?_)
  obtain ⟨rfl, rfl⟩ := hpost
  have hP : va_P D vwCl (benchW ct a M) H := hP
  have hD : va_D A (benchW ct a M) := hD
  refine W.eq (g2 := F0 m 23 ls [.long (zJ (((M (49 + (M 5))) - w) / (M 1)))]) rfl ?_
  refine z_l2i hx hb dX1_warmthAfterHour_23 ?_
  refine lv_istore_n (lv' := [(3, .int (zI (((M (49 + (M 5))) - w) / (M 1)))), (2, .int (zI ((M (49 + (M 5))) - w))), (0, .ref (a 6)), (1, .int (zI w))]) hx hb dX1_warmthAfterHour_24 rfl hl (by decide) rfl (fun ls hl => ?_)
  refine lv_iload_n hx hb dX1_warmthAfterHour_25 rfl (lv_at hl 3 rfl) ?_
  refine lv_iload_n hx hb dX1_warmthAfterHour_26 rfl (lv_at hl 0 rfl) ?_
  refine z_if_ne (tgt := 38) hx hb dX1_warmthAfterHour_27 (by decide) (by omega) (fun hc_27 => ?_) (fun hc_27 => ?_)
  · have hc_27 := hc_27
    refine lv_iload_n hx hb dX1_warmthAfterHour_38 rfl (lv_at hl 0 rfl) ?_
    refine z_iadd hx hb dX1_warmthAfterHour_39 ?_
    exact z_iret hx hb hr hlocks hP hD hS ⟨Nat.le_of_ble_eq_true rfl, Nat.le_of_ble_eq_true rfl⟩ dX1_warmthAfterHour_40 (⟨congrArg (fun z => some (Value.int (zI z))) (by unfold sp_warm; first | rw [if_pos (by omega)] | rw [if_neg (by omega)]), rfl⟩)
  · have hc_27 := hc_27
    refine lv_iload_n hx hb dX1_warmthAfterHour_30 rfl (lv_at hl 1 rfl) ?_
    refine z_if_eq (tgt := 38) hx hb dX1_warmthAfterHour_31 (by decide) (by omega) (fun hc_31 => ?_) (fun hc_31 => ?_)
    · have hc_31 := hc_31
      refine lv_iload_n hx hb dX1_warmthAfterHour_38 rfl (lv_at hl 0 rfl) ?_
      refine z_iadd hx hb dX1_warmthAfterHour_39 ?_
      exact z_iret hx hb hr hlocks hP hD hS ⟨Nat.le_of_ble_eq_true rfl, Nat.le_of_ble_eq_true rfl⟩ dX1_warmthAfterHour_40 (⟨congrArg (fun z => some (Value.int (zI z))) (by unfold sp_warm; first | rw [if_pos (by omega)] | rw [if_neg (by omega)]), rfl⟩)
    · have hc_31 := hc_31
      refine z_iconst hx hb dX1_warmthAfterHour_34 ?_
      refine lv_goto (tgt := 39) hx hb dX1_warmthAfterHour_35 (by decide) ?_
      refine z_iadd hx hb dX1_warmthAfterHour_39 ?_
      exact z_iret hx hb hr hlocks hP hD hS ⟨Nat.le_of_ble_eq_true rfl, Nat.le_of_ble_eq_true rfl⟩ dX1_warmthAfterHour_40 (⟨congrArg (fun z => some (Value.int (zI z))) (by unfold sp_warm; first | rw [if_pos (by omega)] | rw [if_neg (by omega)]), rfl⟩)
theorem k_X8_clamp : yX8_clamp.cls ≠ "java/lang/invoke/MethodHandle" ∧ yX8_clamp.cls ≠ "java/lang/invoke/VarHandle" ∧ (parseMethodDescriptor yX8_clamp.desc).map (fun d => d.parameters.length) = some 3 := by decide +kernel
set_option maxHeartbeats 4000000 in
set_option maxRecDepth 100000 in
theorem c_X1_errorOfClock (l : Launch) (D : va_G) (ct ad : Nat → Nat) (a : Nat → Nat) (M : Int → Int) (hB : bInv M) : ZM l yX1_errorOfClock wsX1_errorOfClock ({ frames := 2, cells := 0, slots := 0, locals := 42 } : Room) D ct ad [.ref (a 6)] (benchW ct a M) (zD (some (.int (zI (sp_err M)))) (benchW ct a M)) := by
  refine ZM.of (cc := cX1_errorOfClock) (maxL := 1) (ret := (some .int)) (by decide +kernel) rfl (Nat.le_of_ble_eq_true rfl) ?_
  intro p e s m below meth c A ls hx hb hr hts hown hlocks hml hname hE hP hD hA hS hl
  have hK := hE.1
  have hf_0 := hts (.fieldLink RX1 47 "RodGrids$Bench" "rateSum" "J") (by decide +kernel)
  have hf_1 := hts (.constantLong RX1 83 (24)) (by decide +kernel)
  have hf_2 := hts (.constantLong RX1 90 (-1999999999)) (by decide +kernel)
  have hf_3 := hts (.constantLong RX1 92 (2000000000)) (by decide +kernel)
  have hin_X1 : ∀ z ∈ u_ws RX1 TX1 12, z ∈ wsX1_errorOfClock := by decide +kernel
  have hl : lv_has ls 1 [(0, .ref (a 6))] := hl
  have j0 := hB.1
  have j1 := hB.2.1
  have j2 := hB.2.2.1
  have j4 := hB.2.2.2.2
  refine lv_aload_n hx hb dX1_errorOfClock_0 rfl (lv_at hl 0 rfl) ?_
  refine va_get (D := D) (ci := 0) (v := .long (zJ (M 12))) (C := RX1) (T := TX1) (N := 12) hx hb hts hin_X1 hown hK hP 0 rfl rfl 9 (by decide) hf_0 (fun _ h9 => h9) rfl dX1_errorOfClock_1 ?_
  refine z_ldc2 hx hb 24 hown hf_1 (by decide) dX1_errorOfClock_4 ?_
  refine z_callS (As := [.long (zJ (M 12)), .long (zJ 24)]) (rest := []) ([] : va_W) (benchW ct a M) hx hb hml hown hts hl hE hS hA hP hD (c_J9_floorDiv_f86c9 l D ct ad (M 12) 24 (by omega) (by omega)) gX1_errorOfClock_J9_floorDiv_f86c9 rfl k_J9_floorDiv_f86c9 ⟨Nat.le_of_ble_eq_true rfl, Nat.le_of_ble_eq_true rfl⟩ rfl (Nat.le_of_ble_eq_true rfl) ⟨Nat.le_of_ble_eq_true rfl, Nat.le_of_ble_eq_true rfl⟩ dX1_errorOfClock_7 rfl (fun v w1 H locs hpost hP hD hS => ?_)
  obtain ⟨rfl, rfl⟩ := hpost
  have hP : va_P D vwCl (benchW ct a M) H := hP
  have hD : va_D A (benchW ct a M) := hD
  refine W.eq (g2 := F0 m 10 ls [.long (zJ ((M 12) / 24))]) rfl ?_
  refine z_ldc2 hx hb (-1999999999) hown hf_2 (by decide) dX1_errorOfClock_10 ?_
  refine z_ldc2 hx hb 2000000000 hown hf_3 (by decide) dX1_errorOfClock_13 ?_
  refine z_callSN (host := RX8) (As := [.long (zJ ((M 12) / 24)), .long (zJ (-1999999999)), .long (zJ 2000000000)]) (rest := []) ([] : va_W) (benchW ct a M) hx hb hml hown hts hl hE hS hA hP hD (c_X8_clamp l D ct ad ((M 12) / 24) (-1999999999) 2000000000 (by omega) (by omega) (by omega)) ggX1_errorOfClock_X8_clamp rfl k_X8_clamp ⟨Nat.le_of_ble_eq_true rfl, Nat.le_of_ble_eq_true rfl⟩ (hE.2.1.1 _ (List.mem_of_getElem? (i := 8) rfl)) (hts (.initialized RX8) (by decide +kernel)) (hts (.static yX8_clamp) (by decide +kernel)) rfl (Nat.le_of_ble_eq_true rfl) ⟨Nat.le_of_ble_eq_true rfl, Nat.le_of_ble_eq_true rfl⟩ dX1_errorOfClock_16 rfl (fun v w1 H locs hpost hP hD hS => ?_)
  obtain ⟨rfl, rfl⟩ := hpost
  have hP : va_P D vwCl (benchW ct a M) H := hP
  have hD : va_D A (benchW ct a M) := hD
  refine W.eq (g2 := F0 m 19 ls [.long (zJ (max (-1999999999) (min 2000000000 ((M 12) / 24))))]) rfl ?_
  refine z_l2i hx hb dX1_errorOfClock_19 ?_
  exact z_iret hx hb hr hlocks hP hD hS ⟨Nat.le_of_ble_eq_true rfl, Nat.le_of_ble_eq_true rfl⟩ dX1_errorOfClock_20 (⟨congrArg (fun z => some (Value.int (zI z))) (rfl), rfl⟩)
set_option maxHeartbeats 4000000 in
set_option maxRecDepth 100000 in
theorem c_X1_copyFrom (l : Launch) (D : va_G) (ct ad : Nat → Nat) (a b : Nat → Nat) (M N : Int → Int)  : ZM l yX1_copyFrom wsX1_copyFrom ({ frames := 1, cells := 0, slots := 0, locals := 18 } : Room) D ct ad [.ref (a 6), .ref (b 6)] (benchW ct a M ++ (benchW ct b N)) (zD none (benchW ct a N ++ (benchW ct b N))) := by
  refine ZM.of (cc := cX1_copyFrom) (maxL := 2) (ret := none) (by decide +kernel) rfl (Nat.le_of_ble_eq_true rfl) ?_
  intro p e s m below meth c A ls hx hb hr hts hown hlocks hml hname hE hP hD hA hS hl
  have hK := hE.1
  have hf_0 := hts (.fieldLink RX1 9 "RodGrids$Bench" "shelfWarmths" "[I") (by decide +kernel)
  have hf_1 := hts (.methodLink RX1 26 arraycopyName) (by decide +kernel)
  have hf_2 := hts (.native arraycopyName) (by decide +kernel)
  have hf_3 := hts (.static arraycopyName) (by decide +kernel)
  have hf_4 := hts (.initialized "java/lang/System") (by decide +kernel)
  have hf_5 := hts (.fieldLink RX1 15 "RodGrids$Bench" "settings" "[I") (by decide +kernel)
  have hf_6 := hts (.fieldLink RX1 32 "RodGrids$Bench" "shelfNumber" "I") (by decide +kernel)
  have hf_7 := hts (.fieldLink RX1 18 "RodGrids$Bench" "warmth" "I") (by decide +kernel)
  have hf_8 := hts (.fieldLink RX1 35 "RodGrids$Bench" "nut" "I") (by decide +kernel)
  have hf_9 := hts (.fieldLink RX1 22 "RodGrids$Bench" "drive" "I") (by decide +kernel)
  have hf_10 := hts (.fieldLink RX1 38 "RodGrids$Bench" "time" "I") (by decide +kernel)
  have hf_11 := hts (.fieldLink RX1 41 "RodGrids$Bench" "went" "I") (by decide +kernel)
  have hf_12 := hts (.fieldLink RX1 44 "RodGrids$Bench" "stood" "I") (by decide +kernel)
  have hf_13 := hts (.fieldLink RX1 47 "RodGrids$Bench" "rateSum" "J") (by decide +kernel)
  have hf_14 := hts (.fieldLink RX1 51 "RodGrids$Bench" "rateSumBefore" "J") (by decide +kernel)
  have hf_15 := hts (.fieldLink RX1 54 "RodGrids$Bench" "wentBefore" "I") (by decide +kernel)
  have hin_X1 : ∀ z ∈ u_ws RX1 TX1 12, z ∈ wsX1_copyFrom := by decide +kernel
  have hl : lv_has ls 2 [(0, .ref (a 6)), (1, .ref (b 6))] := hl
  have hP : va_P D vwCl (([(a 6, .inr (0, [.ref (a 7), .ref (a 8), .int (zI (M 5)), .int (zI (M 6)), .int (zI (M 7)), .int (zI (M 8)), .int (zI (M 9)), .int (zI (M 10)), .int (zI (M 11)), .long (zJ (M 12)), .long (zJ (M 13)), .int (zI (M 14))])), aI ct (a 7) 5 (fun x => M (49 + x)), aI ct (a 8) 3 (fun x => M x)] : va_W) ++ (benchW ct b N)) s.heap := hP
  have hD : va_D A (([(a 6, .inr (0, [.ref (a 7), .ref (a 8), .int (zI (M 5)), .int (zI (M 6)), .int (zI (M 7)), .int (zI (M 8)), .int (zI (M 9)), .int (zI (M 10)), .int (zI (M 11)), .long (zJ (M 12)), .long (zJ (M 13)), .int (zI (M 14))])), aI ct (a 7) 5 (fun x => M (49 + x)), aI ct (a 8) 3 (fun x => M x)] : va_W) ++ (benchW ct b N)) := hD
  refine lv_aload_n hx hb dX1_copyFrom_0 rfl (lv_at hl 1 rfl) ?_
  refine va_get (D := D) (ci := 0) (v := .ref (b 7)) (C := RX1) (T := TX1) (N := 12) hx hb hts hin_X1 hown hK hP 3 rfl rfl 0 (by decide) hf_0 (fun _ h9 => h9) rfl dX1_copyFrom_1 ?_
  refine z_iconst hx hb dX1_copyFrom_4 ?_
  refine lv_aload_n hx hb dX1_copyFrom_5 rfl (lv_at hl 0 rfl) ?_
  refine va_get (D := D) (ci := 0) (v := .ref (a 7)) (C := RX1) (T := TX1) (N := 12) hx hb hts hin_X1 hown hK hP 0 rfl rfl 0 (by decide) hf_0 (fun _ h9 => h9) rfl dX1_copyFrom_6 ?_
  refine z_iconst hx hb dX1_copyFrom_9 ?_
  refine z_iconst hx hb dX1_copyFrom_10 ?_
  refine z_cpyI (f := fun x => N (49 + x)) (g := fun x => M (49 + x)) (w2 := ([(a 6, .inr (0, [.ref (a 7), .ref (a 8), .int (zI (M 5)), .int (zI (M 6)), .int (zI (M 7)), .int (zI (M 8)), .int (zI (M 9)), .int (zI (M 10)), .int (zI (M 11)), .long (zJ (M 12)), .long (zJ (M 13)), .int (zI (M 14))])), aI ct (a 7) 5 (fun x => N (49 + x)), aI ct (a 8) 3 (fun x => M x)] : va_W) ++ (benchW ct b N)) hx hb hml hl hown hf_1 hf_2 hf_3 hf_4 hK hP hD hS 4 1 rfl rfl rfl (by decide) (Nat.le_of_ble_eq_true rfl) (Nat.le_of_ble_eq_true rfl) dX1_copyFrom_11 (rfl) (fun H locs hP hD hS => ?_)
  refine lv_aload_n hx hb dX1_copyFrom_14 rfl (lv_at hl 1 rfl) ?_
  refine va_get (D := D) (ci := 0) (v := .ref (b 8)) (C := RX1) (T := TX1) (N := 12) hx hb hts hin_X1 hown hK hP 3 rfl rfl 1 (by decide) hf_5 (fun _ h9 => h9) rfl dX1_copyFrom_15 ?_
  refine z_iconst hx hb dX1_copyFrom_18 ?_
  refine lv_aload_n hx hb dX1_copyFrom_19 rfl (lv_at hl 0 rfl) ?_
  refine va_get (D := D) (ci := 0) (v := .ref (a 8)) (C := RX1) (T := TX1) (N := 12) hx hb hts hin_X1 hown hK hP 0 rfl rfl 1 (by decide) hf_5 (fun _ h9 => h9) rfl dX1_copyFrom_20 ?_
  refine z_iconst hx hb dX1_copyFrom_23 ?_
  refine z_iconst hx hb dX1_copyFrom_24 ?_
  refine z_cpyI (f := fun x => N x) (g := fun x => M x) (w2 := ([(a 6, .inr (0, [.ref (a 7), .ref (a 8), .int (zI (M 5)), .int (zI (M 6)), .int (zI (M 7)), .int (zI (M 8)), .int (zI (M 9)), .int (zI (M 10)), .int (zI (M 11)), .long (zJ (M 12)), .long (zJ (M 13)), .int (zI (M 14))])), aI ct (a 7) 5 (fun x => N (49 + x)), aI ct (a 8) 3 (fun x => N x)] : va_W) ++ (benchW ct b N)) hx hb hml hl hown hf_1 hf_2 hf_3 hf_4 hK hP hD hS 5 2 rfl rfl rfl (by decide) (Nat.le_of_ble_eq_true rfl) (Nat.le_of_ble_eq_true rfl) dX1_copyFrom_25 (rfl) (fun H locs hP hD hS => ?_)
  refine lv_aload_n hx hb dX1_copyFrom_28 rfl (lv_at hl 0 rfl) ?_
  refine lv_aload_n hx hb dX1_copyFrom_29 rfl (lv_at hl 1 rfl) ?_
  refine va_get (D := D) (ci := 0) (v := .int (zI (N 5))) (C := RX1) (T := TX1) (N := 12) hx hb hts hin_X1 hown hK hP 3 rfl rfl 2 (by decide) hf_6 (fun _ h9 => h9) rfl dX1_copyFrom_30 ?_
  refine z_put (ct := ct) (ad := ad) (ci := 0) (v := .int (zI (N 5))) (ty := tyX1 2) (C := RX1) (T := TX1) (N := 12) (w2 := ([(a 6, .inr (0, [.ref (a 7), .ref (a 8), .int (zI (N 5)), .int (zI (M 6)), .int (zI (M 7)), .int (zI (M 8)), .int (zI (M 9)), .int (zI (M 10)), .int (zI (M 11)), .long (zJ (M 12)), .long (zJ (M 13)), .int (zI (M 14))])), aI ct (a 7) 5 (fun x => N (49 + x)), aI ct (a 8) 3 (fun x => N x)] : va_W) ++ (benchW ct b N)) hx hb hts hin_X1 tyX1 tyX1_ok nmX1 hown hE hP hD hS 0 rfl rfl 2 (by decide) hf_6 (fun _ h9 => h9) rfl (by decide +kernel) rfl rfl (Nat.le_of_ble_eq_true rfl) dX1_copyFrom_33 (rfl) (fun H locs hP hD hS => ?_)
  refine lv_aload_n hx hb dX1_copyFrom_36 rfl (lv_at hl 0 rfl) ?_
  refine lv_aload_n hx hb dX1_copyFrom_37 rfl (lv_at hl 1 rfl) ?_
  refine va_get (D := D) (ci := 0) (v := .int (zI (N 6))) (C := RX1) (T := TX1) (N := 12) hx hb hts hin_X1 hown hK hP 3 rfl rfl 3 (by decide) hf_7 (fun _ h9 => h9) rfl dX1_copyFrom_38 ?_
  refine z_put (ct := ct) (ad := ad) (ci := 0) (v := .int (zI (N 6))) (ty := tyX1 3) (C := RX1) (T := TX1) (N := 12) (w2 := ([(a 6, .inr (0, [.ref (a 7), .ref (a 8), .int (zI (N 5)), .int (zI (N 6)), .int (zI (M 7)), .int (zI (M 8)), .int (zI (M 9)), .int (zI (M 10)), .int (zI (M 11)), .long (zJ (M 12)), .long (zJ (M 13)), .int (zI (M 14))])), aI ct (a 7) 5 (fun x => N (49 + x)), aI ct (a 8) 3 (fun x => N x)] : va_W) ++ (benchW ct b N)) hx hb hts hin_X1 tyX1 tyX1_ok nmX1 hown hE hP hD hS 0 rfl rfl 3 (by decide) hf_7 (fun _ h9 => h9) rfl (by decide +kernel) rfl rfl (Nat.le_of_ble_eq_true rfl) dX1_copyFrom_41 (rfl) (fun H locs hP hD hS => ?_)
  refine lv_aload_n hx hb dX1_copyFrom_44 rfl (lv_at hl 0 rfl) ?_
  refine lv_aload_n hx hb dX1_copyFrom_45 rfl (lv_at hl 1 rfl) ?_
  refine va_get (D := D) (ci := 0) (v := .int (zI (N 7))) (C := RX1) (T := TX1) (N := 12) hx hb hts hin_X1 hown hK hP 3 rfl rfl 4 (by decide) hf_8 (fun _ h9 => h9) rfl dX1_copyFrom_46 ?_
  refine z_put (ct := ct) (ad := ad) (ci := 0) (v := .int (zI (N 7))) (ty := tyX1 4) (C := RX1) (T := TX1) (N := 12) (w2 := ([(a 6, .inr (0, [.ref (a 7), .ref (a 8), .int (zI (N 5)), .int (zI (N 6)), .int (zI (N 7)), .int (zI (M 8)), .int (zI (M 9)), .int (zI (M 10)), .int (zI (M 11)), .long (zJ (M 12)), .long (zJ (M 13)), .int (zI (M 14))])), aI ct (a 7) 5 (fun x => N (49 + x)), aI ct (a 8) 3 (fun x => N x)] : va_W) ++ (benchW ct b N)) hx hb hts hin_X1 tyX1 tyX1_ok nmX1 hown hE hP hD hS 0 rfl rfl 4 (by decide) hf_8 (fun _ h9 => h9) rfl (by decide +kernel) rfl rfl (Nat.le_of_ble_eq_true rfl) dX1_copyFrom_49 (rfl) (fun H locs hP hD hS => ?_)
  refine lv_aload_n hx hb dX1_copyFrom_52 rfl (lv_at hl 0 rfl) ?_
  refine lv_aload_n hx hb dX1_copyFrom_53 rfl (lv_at hl 1 rfl) ?_
  refine va_get (D := D) (ci := 0) (v := .int (zI (N 8))) (C := RX1) (T := TX1) (N := 12) hx hb hts hin_X1 hown hK hP 3 rfl rfl 5 (by decide) hf_9 (fun _ h9 => h9) rfl dX1_copyFrom_54 ?_
  refine z_put (ct := ct) (ad := ad) (ci := 0) (v := .int (zI (N 8))) (ty := tyX1 5) (C := RX1) (T := TX1) (N := 12) (w2 := ([(a 6, .inr (0, [.ref (a 7), .ref (a 8), .int (zI (N 5)), .int (zI (N 6)), .int (zI (N 7)), .int (zI (N 8)), .int (zI (M 9)), .int (zI (M 10)), .int (zI (M 11)), .long (zJ (M 12)), .long (zJ (M 13)), .int (zI (M 14))])), aI ct (a 7) 5 (fun x => N (49 + x)), aI ct (a 8) 3 (fun x => N x)] : va_W) ++ (benchW ct b N)) hx hb hts hin_X1 tyX1 tyX1_ok nmX1 hown hE hP hD hS 0 rfl rfl 5 (by decide) hf_9 (fun _ h9 => h9) rfl (by decide +kernel) rfl rfl (Nat.le_of_ble_eq_true rfl) dX1_copyFrom_57 (rfl) (fun H locs hP hD hS => ?_)
  refine lv_aload_n hx hb dX1_copyFrom_60 rfl (lv_at hl 0 rfl) ?_
  refine lv_aload_n hx hb dX1_copyFrom_61 rfl (lv_at hl 1 rfl) ?_
  refine va_get (D := D) (ci := 0) (v := .int (zI (N 9))) (C := RX1) (T := TX1) (N := 12) hx hb hts hin_X1 hown hK hP 3 rfl rfl 6 (by decide) hf_10 (fun _ h9 => h9) rfl dX1_copyFrom_62 ?_
  refine z_put (ct := ct) (ad := ad) (ci := 0) (v := .int (zI (N 9))) (ty := tyX1 6) (C := RX1) (T := TX1) (N := 12) (w2 := ([(a 6, .inr (0, [.ref (a 7), .ref (a 8), .int (zI (N 5)), .int (zI (N 6)), .int (zI (N 7)), .int (zI (N 8)), .int (zI (N 9)), .int (zI (M 10)), .int (zI (M 11)), .long (zJ (M 12)), .long (zJ (M 13)), .int (zI (M 14))])), aI ct (a 7) 5 (fun x => N (49 + x)), aI ct (a 8) 3 (fun x => N x)] : va_W) ++ (benchW ct b N)) hx hb hts hin_X1 tyX1 tyX1_ok nmX1 hown hE hP hD hS 0 rfl rfl 6 (by decide) hf_10 (fun _ h9 => h9) rfl (by decide +kernel) rfl rfl (Nat.le_of_ble_eq_true rfl) dX1_copyFrom_65 (rfl) (fun H locs hP hD hS => ?_)
  refine lv_aload_n hx hb dX1_copyFrom_68 rfl (lv_at hl 0 rfl) ?_
  refine lv_aload_n hx hb dX1_copyFrom_69 rfl (lv_at hl 1 rfl) ?_
  refine va_get (D := D) (ci := 0) (v := .int (zI (N 10))) (C := RX1) (T := TX1) (N := 12) hx hb hts hin_X1 hown hK hP 3 rfl rfl 7 (by decide) hf_11 (fun _ h9 => h9) rfl dX1_copyFrom_70 ?_
  refine z_put (ct := ct) (ad := ad) (ci := 0) (v := .int (zI (N 10))) (ty := tyX1 7) (C := RX1) (T := TX1) (N := 12) (w2 := ([(a 6, .inr (0, [.ref (a 7), .ref (a 8), .int (zI (N 5)), .int (zI (N 6)), .int (zI (N 7)), .int (zI (N 8)), .int (zI (N 9)), .int (zI (N 10)), .int (zI (M 11)), .long (zJ (M 12)), .long (zJ (M 13)), .int (zI (M 14))])), aI ct (a 7) 5 (fun x => N (49 + x)), aI ct (a 8) 3 (fun x => N x)] : va_W) ++ (benchW ct b N)) hx hb hts hin_X1 tyX1 tyX1_ok nmX1 hown hE hP hD hS 0 rfl rfl 7 (by decide) hf_11 (fun _ h9 => h9) rfl (by decide +kernel) rfl rfl (Nat.le_of_ble_eq_true rfl) dX1_copyFrom_73 (rfl) (fun H locs hP hD hS => ?_)
  refine lv_aload_n hx hb dX1_copyFrom_76 rfl (lv_at hl 0 rfl) ?_
  refine lv_aload_n hx hb dX1_copyFrom_77 rfl (lv_at hl 1 rfl) ?_
  refine va_get (D := D) (ci := 0) (v := .int (zI (N 11))) (C := RX1) (T := TX1) (N := 12) hx hb hts hin_X1 hown hK hP 3 rfl rfl 8 (by decide) hf_12 (fun _ h9 => h9) rfl dX1_copyFrom_78 ?_
  refine z_put (ct := ct) (ad := ad) (ci := 0) (v := .int (zI (N 11))) (ty := tyX1 8) (C := RX1) (T := TX1) (N := 12) (w2 := ([(a 6, .inr (0, [.ref (a 7), .ref (a 8), .int (zI (N 5)), .int (zI (N 6)), .int (zI (N 7)), .int (zI (N 8)), .int (zI (N 9)), .int (zI (N 10)), .int (zI (N 11)), .long (zJ (M 12)), .long (zJ (M 13)), .int (zI (M 14))])), aI ct (a 7) 5 (fun x => N (49 + x)), aI ct (a 8) 3 (fun x => N x)] : va_W) ++ (benchW ct b N)) hx hb hts hin_X1 tyX1 tyX1_ok nmX1 hown hE hP hD hS 0 rfl rfl 8 (by decide) hf_12 (fun _ h9 => h9) rfl (by decide +kernel) rfl rfl (Nat.le_of_ble_eq_true rfl) dX1_copyFrom_81 (rfl) (fun H locs hP hD hS => ?_)
  refine lv_aload_n hx hb dX1_copyFrom_84 rfl (lv_at hl 0 rfl) ?_
  refine lv_aload_n hx hb dX1_copyFrom_85 rfl (lv_at hl 1 rfl) ?_
  refine va_get (D := D) (ci := 0) (v := .long (zJ (N 12))) (C := RX1) (T := TX1) (N := 12) hx hb hts hin_X1 hown hK hP 3 rfl rfl 9 (by decide) hf_13 (fun _ h9 => h9) rfl dX1_copyFrom_86 ?_
  refine z_put (ct := ct) (ad := ad) (ci := 0) (v := .long (zJ (N 12))) (ty := tyX1 9) (C := RX1) (T := TX1) (N := 12) (w2 := ([(a 6, .inr (0, [.ref (a 7), .ref (a 8), .int (zI (N 5)), .int (zI (N 6)), .int (zI (N 7)), .int (zI (N 8)), .int (zI (N 9)), .int (zI (N 10)), .int (zI (N 11)), .long (zJ (N 12)), .long (zJ (M 13)), .int (zI (M 14))])), aI ct (a 7) 5 (fun x => N (49 + x)), aI ct (a 8) 3 (fun x => N x)] : va_W) ++ (benchW ct b N)) hx hb hts hin_X1 tyX1 tyX1_ok nmX1 hown hE hP hD hS 0 rfl rfl 9 (by decide) hf_13 (fun _ h9 => h9) rfl (by decide +kernel) rfl rfl (Nat.le_of_ble_eq_true rfl) dX1_copyFrom_89 (rfl) (fun H locs hP hD hS => ?_)
  refine lv_aload_n hx hb dX1_copyFrom_92 rfl (lv_at hl 0 rfl) ?_
  refine lv_aload_n hx hb dX1_copyFrom_93 rfl (lv_at hl 1 rfl) ?_
  refine va_get (D := D) (ci := 0) (v := .long (zJ (N 13))) (C := RX1) (T := TX1) (N := 12) hx hb hts hin_X1 hown hK hP 3 rfl rfl 10 (by decide) hf_14 (fun _ h9 => h9) rfl dX1_copyFrom_94 ?_
  refine z_put (ct := ct) (ad := ad) (ci := 0) (v := .long (zJ (N 13))) (ty := tyX1 10) (C := RX1) (T := TX1) (N := 12) (w2 := ([(a 6, .inr (0, [.ref (a 7), .ref (a 8), .int (zI (N 5)), .int (zI (N 6)), .int (zI (N 7)), .int (zI (N 8)), .int (zI (N 9)), .int (zI (N 10)), .int (zI (N 11)), .long (zJ (N 12)), .long (zJ (N 13)), .int (zI (M 14))])), aI ct (a 7) 5 (fun x => N (49 + x)), aI ct (a 8) 3 (fun x => N x)] : va_W) ++ (benchW ct b N)) hx hb hts hin_X1 tyX1 tyX1_ok nmX1 hown hE hP hD hS 0 rfl rfl 10 (by decide) hf_14 (fun _ h9 => h9) rfl (by decide +kernel) rfl rfl (Nat.le_of_ble_eq_true rfl) dX1_copyFrom_97 (rfl) (fun H locs hP hD hS => ?_)
  refine lv_aload_n hx hb dX1_copyFrom_100 rfl (lv_at hl 0 rfl) ?_
  refine lv_aload_n hx hb dX1_copyFrom_101 rfl (lv_at hl 1 rfl) ?_
  refine va_get (D := D) (ci := 0) (v := .int (zI (N 14))) (C := RX1) (T := TX1) (N := 12) hx hb hts hin_X1 hown hK hP 3 rfl rfl 11 (by decide) hf_15 (fun _ h9 => h9) rfl dX1_copyFrom_102 ?_
  refine z_put (ct := ct) (ad := ad) (ci := 0) (v := .int (zI (N 14))) (ty := tyX1 11) (C := RX1) (T := TX1) (N := 12) (w2 := ([(a 6, .inr (0, [.ref (a 7), .ref (a 8), .int (zI (N 5)), .int (zI (N 6)), .int (zI (N 7)), .int (zI (N 8)), .int (zI (N 9)), .int (zI (N 10)), .int (zI (N 11)), .long (zJ (N 12)), .long (zJ (N 13)), .int (zI (N 14))])), aI ct (a 7) 5 (fun x => N (49 + x)), aI ct (a 8) 3 (fun x => N x)] : va_W) ++ (benchW ct b N)) hx hb hts hin_X1 tyX1 tyX1_ok nmX1 hown hE hP hD hS 0 rfl rfl 11 (by decide) hf_15 (fun _ h9 => h9) rfl (by decide +kernel) rfl rfl (Nat.le_of_ble_eq_true rfl) dX1_copyFrom_105 (rfl) (fun H locs hP hD hS => ?_)
  exact z_vret hx hb hr hlocks hP hD hS ⟨Nat.le_of_ble_eq_true rfl, Nat.le_of_ble_eq_true rfl⟩ dX1_copyFrom_108 (⟨rfl, rfl⟩)
