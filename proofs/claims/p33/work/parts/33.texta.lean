set_option maxHeartbeats 4000000 in
set_option maxRecDepth 100000 in
theorem c_X2_checkByte (l : Launch) (D : va_G) (ct ad : Nat → Nat) (q : Nat → Nat) (TX : Int → Int) (tl pl ft n1 n2 : Int) (wd : Value) (v : Int) (ht : tInv TX tl) (h1 : -2147483648 ≤ v ∧ v ≤ 2147483647) : ZM l yX2_checkByte wsX2_checkByte ({ frames := 1, cells := 0, slots := 0, locals := 22 } : Room) D ct ad [.ref (q 0), .int (zI v)] (txtW ct q TX tl pl ft wd n1 n2) (zD (some (.int (zI (if 0 ≤ v ∧ v ≤ 127 then (if tl < 150 then 0 else 3) else 2)))) (txtW ct q TX tl pl ft wd n1 n2)) := by
  refine ZM.of (cc := cX2_checkByte) (maxL := 2) (ret := (some .int)) (by decide +kernel) rfl (Nat.le_of_ble_eq_true rfl) ?_
  intro p e s m below meth c A ls hx hb hr hts hown hlocks hml hname hE hP hD hA hS hl
  have hK := hE.1
  have hf_0 := hts (.fieldLink RX2 19 "RodGrids$CommandText" "length" "I") (by decide +kernel)
  have hin_X2 : ∀ z ∈ u_ws RX2 TX2 7, z ∈ wsX2_checkByte := by decide +kernel
  have hl : lv_has ls 2 [(0, .ref (q 0)), (1, .int (zI v))] := hl
  have t1 := ht.1
  refine lv_iload_n hx hb dX2_checkByte_0 rfl (lv_at hl 1 rfl) ?_
  refine z_iconst hx hb dX2_checkByte_1 ?_
  refine z_bipush hx hb dX2_checkByte_2 (by decide) ?_
  refine z_callSN (host := RX8) (As := [.int (zI v), .int (zI 0), .int (zI 127)]) (rest := []) ([] : va_W) (txtW ct q TX tl pl ft wd n1 n2) hx hb hml hown hts hl hE hS hA hP hD (c_X8_within l D ct ad v 0 127 (by omega) (by omega) (by omega)) ggX2_checkByte_X8_within rfl k_X8_within ⟨Nat.le_of_ble_eq_true rfl, Nat.le_of_ble_eq_true rfl⟩ (hE.2.1.1 _ (List.mem_of_getElem? (i := 9) rfl)) (hts (.initialized RX8) (by decide +kernel)) (hts (.static yX8_within) (by decide +kernel)) rfl (Nat.le_of_ble_eq_true rfl) ⟨Nat.le_of_ble_eq_true rfl, Nat.le_of_ble_eq_true rfl⟩ dX2_checkByte_4 rfl (fun v w1 H locs hpost hP hD hS => ?_)
  obtain ⟨rfl, rfl⟩ := hpost
  have hP : va_P D vwCl (txtW ct q TX tl pl ft wd n1 n2) H := hP
  have hD : va_D A (txtW ct q TX tl pl ft wd n1 n2) := hD
  refine W.eq (g2 := F0 m 7 ls [.int (zI (zB (0 ≤ v ∧ v ≤ 127)))]) rfl ?_
  refine zb_if_ne (tgt := 12) hx hb dX2_checkByte_7 (by decide) (fun hc_7 => ?_) (fun hc_7 => ?_)
  · have hc_7 := hc_7
    refine lv_aload_n hx hb dX2_checkByte_12 rfl (lv_at hl 0 rfl) ?_
    refine va_get (D := D) (ci := 1) (v := .int (zI tl)) (C := RX2) (T := TX2) (N := 7) hx hb hts hin_X2 hown hK hP 0 rfl rfl 1 (by decide) hf_0 (fun _ h9 => h9) rfl dX2_checkByte_13 ?_
    refine z_sipush hx hb dX2_checkByte_16 (by decide) ?_
    refine z_icmp_ge (tgt := 26) hx hb dX2_checkByte_19 (by decide) (by omega) (by omega) (fun hc_19 => ?_) (fun hc_19 => ?_)
    · have hc_19 := hc_19
      refine z_iconst hx hb dX2_checkByte_26 ?_
      exact z_iret hx hb hr hlocks hP hD hS ⟨Nat.le_of_ble_eq_true rfl, Nat.le_of_ble_eq_true rfl⟩ dX2_checkByte_27 (⟨congrArg (fun z => some (Value.int (zI z))) (by (repeat' split) <;> omega), rfl⟩)
    · have hc_19 := hc_19
      refine z_iconst hx hb dX2_checkByte_22 ?_
      refine lv_goto (tgt := 27) hx hb dX2_checkByte_23 (by decide) ?_
      exact z_iret hx hb hr hlocks hP hD hS ⟨Nat.le_of_ble_eq_true rfl, Nat.le_of_ble_eq_true rfl⟩ dX2_checkByte_27 (⟨congrArg (fun z => some (Value.int (zI z))) (by (repeat' split) <;> omega), rfl⟩)
  · have hc_7 := hc_7
    refine z_iconst hx hb dX2_checkByte_10 ?_
    exact z_iret hx hb hr hlocks hP hD hS ⟨Nat.le_of_ble_eq_true rfl, Nat.le_of_ble_eq_true rfl⟩ dX2_checkByte_11 (⟨congrArg (fun z => some (Value.int (zI z))) (by (repeat' split) <;> omega), rfl⟩)
set_option maxHeartbeats 4000000 in
set_option maxRecDepth 100000 in
theorem c_X2_append (l : Launch) (D : va_G) (ct ad : Nat → Nat) (q : Nat → Nat) (TX : Int → Int) (tl pl ft n1 n2 : Int) (wd : Value) (v : Int) (ht : tInv TX tl) (h1 : (0 ≤ v ∧ v ≤ 127) ∧ tl < 150) : ZM l yX2_append wsX2_append ({ frames := 0, cells := 0, slots := 0, locals := 0 } : Room) D ct ad [.ref (q 0), .int (zI v)] (txtW ct q TX tl pl ft wd n1 n2) (zD (some (.int (zI (tl + 1)))) (txtW ct q (up TX tl v) (tl + 1) pl ft wd n1 n2)) := by
  refine ZM.of (cc := cX2_append) (maxL := 2) (ret := (some .int)) (by decide +kernel) rfl (Nat.le_of_ble_eq_true rfl) ?_
  intro p e s m below meth c A ls hx hb hr hts hown hlocks hml hname hE hP hD hA hS hl
  have hK := hE.1
  have hf_0 := hts (.fieldLink RX2 9 "RodGrids$CommandText" "bytes" "[B") (by decide +kernel)
  have hf_1 := hts (.fieldLink RX2 19 "RodGrids$CommandText" "length" "I") (by decide +kernel)
  have hin_X2 : ∀ z ∈ u_ws RX2 TX2 7, z ∈ wsX2_append := by decide +kernel
  have hl : lv_has ls 2 [(0, .ref (q 0)), (1, .int (zI v))] := hl
  have t1 := ht.1
  refine lv_aload_n hx hb dX2_append_0 rfl (lv_at hl 0 rfl) ?_
  refine va_get (D := D) (ci := 1) (v := .ref (q 1)) (C := RX2) (T := TX2) (N := 7) hx hb hts hin_X2 hown hK hP 0 rfl rfl 0 (by decide) hf_0 (fun _ h9 => h9) rfl dX2_append_1 ?_
  refine lv_aload_n hx hb dX2_append_4 rfl (lv_at hl 0 rfl) ?_
  refine va_get (D := D) (ci := 1) (v := .int (zI tl)) (C := RX2) (T := TX2) (N := 7) hx hb hts hin_X2 hown hK hP 0 rfl rfl 1 (by decide) hf_1 (fun _ h9 => h9) rfl dX2_append_5 ?_
  refine lv_iload_n hx hb dX2_append_8 rfl (lv_at hl 1 rfl) ?_
  refine z_i2b hx hb dX2_append_9 (by omega) ?_
  refine z_bast (by omega) (g := TX) (w2 := txtW ct q (up TX tl v) tl pl ft wd n1 n2) hx hb hK hP hD hS 1 rfl (by decide) (by omega) dX2_append_10 (rfl) (fun H locs hP hD hS => ?_)
  refine lv_aload_n hx hb dX2_append_11 rfl (lv_at hl 0 rfl) ?_
  refine lv_dup hx hb dX2_append_12 rfl ?_
  refine va_get (D := D) (ci := 1) (v := .int (zI tl)) (C := RX2) (T := TX2) (N := 7) hx hb hts hin_X2 hown hK hP 0 rfl rfl 1 (by decide) hf_1 (fun _ h9 => h9) rfl dX2_append_13 ?_
  refine z_iconst hx hb dX2_append_16 ?_
  refine z_iadd hx hb dX2_append_17 ?_
  refine z_put (ct := ct) (ad := ad) (ci := 1) (v := .int (zI (tl + 1))) (ty := tyX2 1) (C := RX2) (T := TX2) (N := 7) (w2 := txtW ct q (up TX tl v) (tl + 1) pl ft wd n1 n2) hx hb hts hin_X2 tyX2 tyX2_ok nmX2 hown hE hP hD hS 0 rfl rfl 1 (by decide) hf_1 (fun _ h9 => h9) rfl (by decide +kernel) rfl rfl (Nat.le_of_ble_eq_true rfl) dX2_append_18 (rfl) (fun H locs hP hD hS => ?_)
  refine lv_aload_n hx hb dX2_append_21 rfl (lv_at hl 0 rfl) ?_
  refine va_get (D := D) (ci := 1) (v := .int (zI (tl + 1))) (C := RX2) (T := TX2) (N := 7) hx hb hts hin_X2 hown hK hP 0 rfl rfl 1 (by decide) hf_1 (fun _ h9 => h9) rfl dX2_append_22 ?_
  exact z_iret hx hb hr hlocks hP hD hS ⟨Nat.le_of_ble_eq_true rfl, Nat.le_of_ble_eq_true rfl⟩ dX2_append_25 (⟨congrArg (fun z => some (Value.int (zI z))) (rfl), rfl⟩)
set_option maxHeartbeats 4000000 in
set_option maxRecDepth 100000 in
theorem c_X2_rewind (l : Launch) (D : va_G) (ct ad : Nat → Nat) (q : Nat → Nat) (TX : Int → Int) (tl pl ft n1 n2 : Int) (wd : Value) (ht : tInv TX tl) : ZM l yX2_rewind wsX2_rewind ({ frames := 0, cells := 0, slots := 0, locals := 0 } : Room) D ct ad [.ref (q 0)] (txtW ct q TX tl pl ft wd n1 n2) (zD none (txtW ct q TX tl 0 (-1) wd n1 n2)) := by
  refine ZM.of (cc := cX2_rewind) (maxL := 1) (ret := none) (by decide +kernel) rfl (Nat.le_of_ble_eq_true rfl) ?_
  intro p e s m below meth c A ls hx hb hr hts hown hlocks hml hname hE hP hD hA hS hl
  have hK := hE.1
  have hf_0 := hts (.fieldLink RX2 23 "RodGrids$CommandText" "place" "I") (by decide +kernel)
  have hf_1 := hts (.fieldLink RX2 26 "RodGrids$CommandText" "fault" "I") (by decide +kernel)
  have hin_X2 : ∀ z ∈ u_ws RX2 TX2 7, z ∈ wsX2_rewind := by decide +kernel
  have hl : lv_has ls 1 [(0, .ref (q 0))] := hl
  have t1 := ht.1
  refine lv_aload_n hx hb dX2_rewind_0 rfl (lv_at hl 0 rfl) ?_
  refine z_iconst hx hb dX2_rewind_1 ?_
  refine z_put (ct := ct) (ad := ad) (ci := 1) (v := .int (zI 0)) (ty := tyX2 2) (C := RX2) (T := TX2) (N := 7) (w2 := txtW ct q TX tl 0 ft wd n1 n2) hx hb hts hin_X2 tyX2 tyX2_ok nmX2 hown hE hP hD hS 0 rfl rfl 2 (by decide) hf_0 (fun _ h9 => h9) rfl (by decide +kernel) rfl rfl (Nat.le_of_ble_eq_true rfl) dX2_rewind_2 (rfl) (fun H locs hP hD hS => ?_)
  refine lv_aload_n hx hb dX2_rewind_5 rfl (lv_at hl 0 rfl) ?_
  refine z_iconst hx hb dX2_rewind_6 ?_
  refine z_put (ct := ct) (ad := ad) (ci := 1) (v := .int (zI (-1))) (ty := tyX2 3) (C := RX2) (T := TX2) (N := 7) (w2 := txtW ct q TX tl 0 (-1) wd n1 n2) hx hb hts hin_X2 tyX2 tyX2_ok nmX2 hown hE hP hD hS 0 rfl rfl 3 (by decide) hf_1 (fun _ h9 => h9) rfl (by decide +kernel) rfl rfl (Nat.le_of_ble_eq_true rfl) dX2_rewind_7 (rfl) (fun H locs hP hD hS => ?_)
  exact z_vret hx hb hr hlocks hP hD hS ⟨Nat.le_of_ble_eq_true rfl, Nat.le_of_ble_eq_true rfl⟩ dX2_rewind_10 (⟨rfl, rfl⟩)
set_option maxHeartbeats 4000000 in
set_option maxRecDepth 100000 in
theorem c_X2_byteHere (l : Launch) (D : va_G) (ct ad : Nat → Nat) (q : Nat → Nat) (TX : Int → Int) (tl pl ft n1 n2 : Int) (wd : Value) (ht : tInv TX tl) (hp : 0 ≤ pl ∧ pl ≤ tl) : ZM l yX2_byteHere wsX2_byteHere ({ frames := 0, cells := 0, slots := 0, locals := 0 } : Room) D ct ad [.ref (q 0)] (txtW ct q TX tl pl ft wd n1 n2) (zD (some (.int (zI (tc TX tl pl)))) (txtW ct q TX tl pl ft wd n1 n2)) := by
  refine ZM.of (cc := cX2_byteHere) (maxL := 1) (ret := (some .int)) (by decide +kernel) rfl (Nat.le_of_ble_eq_true rfl) ?_
  intro p e s m below meth c A ls hx hb hr hts hown hlocks hml hname hE hP hD hA hS hl
  have hK := hE.1
  have hf_0 := hts (.fieldLink RX2 23 "RodGrids$CommandText" "place" "I") (by decide +kernel)
  have hf_1 := hts (.fieldLink RX2 19 "RodGrids$CommandText" "length" "I") (by decide +kernel)
  have hf_2 := hts (.fieldLink RX2 9 "RodGrids$CommandText" "bytes" "[B") (by decide +kernel)
  have hin_X2 : ∀ z ∈ u_ws RX2 TX2 7, z ∈ wsX2_byteHere := by decide +kernel
  have hl : lv_has ls 1 [(0, .ref (q 0))] := hl
  have t1 := ht.1
  refine lv_aload_n hx hb dX2_byteHere_0 rfl (lv_at hl 0 rfl) ?_
  refine va_get (D := D) (ci := 1) (v := .int (zI pl)) (C := RX2) (T := TX2) (N := 7) hx hb hts hin_X2 hown hK hP 0 rfl rfl 2 (by decide) hf_0 (fun _ h9 => h9) rfl dX2_byteHere_1 ?_
  refine z_if_lt (tgt := 30) hx hb dX2_byteHere_4 (by decide) (by omega) (fun hc_4 => ?_) (fun hc_4 => ?_)
  · have hc_4 := hc_4
    omega
  · have hc_4 := hc_4
    refine lv_aload_n hx hb dX2_byteHere_7 rfl (lv_at hl 0 rfl) ?_
    refine va_get (D := D) (ci := 1) (v := .int (zI pl)) (C := RX2) (T := TX2) (N := 7) hx hb hts hin_X2 hown hK hP 0 rfl rfl 2 (by decide) hf_0 (fun _ h9 => h9) rfl dX2_byteHere_8 ?_
    refine lv_aload_n hx hb dX2_byteHere_11 rfl (lv_at hl 0 rfl) ?_
    refine va_get (D := D) (ci := 1) (v := .int (zI tl)) (C := RX2) (T := TX2) (N := 7) hx hb hts hin_X2 hown hK hP 0 rfl rfl 1 (by decide) hf_1 (fun _ h9 => h9) rfl dX2_byteHere_12 ?_
    refine z_icmp_ge (tgt := 30) hx hb dX2_byteHere_15 (by decide) (by omega) (by omega) (fun hc_15 => ?_) (fun hc_15 => ?_)
    · have hc_15 := hc_15
      refine z_iconst hx hb dX2_byteHere_30 ?_
      exact z_iret hx hb hr hlocks hP hD hS ⟨Nat.le_of_ble_eq_true rfl, Nat.le_of_ble_eq_true rfl⟩ dX2_byteHere_31 (⟨congrArg (fun z => some (Value.int (zI z))) (by unfold tc; first | rw [if_pos (by omega)] | rw [if_neg (by omega)]), rfl⟩)
    · have hc_15 := hc_15
      refine lv_aload_n hx hb dX2_byteHere_18 rfl (lv_at hl 0 rfl) ?_
      refine va_get (D := D) (ci := 1) (v := .ref (q 1)) (C := RX2) (T := TX2) (N := 7) hx hb hts hin_X2 hown hK hP 0 rfl rfl 0 (by decide) hf_2 (fun _ h9 => h9) rfl dX2_byteHere_19 ?_
      refine lv_aload_n hx hb dX2_byteHere_22 rfl (lv_at hl 0 rfl) ?_
      refine va_get (D := D) (ci := 1) (v := .int (zI pl)) (C := RX2) (T := TX2) (N := 7) hx hb hts hin_X2 hown hK hP 0 rfl rfl 2 (by decide) hf_0 (fun _ h9 => h9) rfl dX2_byteHere_23 ?_
      refine z_bald (g := TX) (v := TX pl) hx hb hK hP 1 rfl (by decide) (by omega) rfl dX2_byteHere_26 ?_
      refine lv_goto (tgt := 31) hx hb dX2_byteHere_27 (by decide) ?_
      exact z_iret hx hb hr hlocks hP hD hS ⟨Nat.le_of_ble_eq_true rfl, Nat.le_of_ble_eq_true rfl⟩ dX2_byteHere_31 (⟨congrArg (fun z => some (Value.int (zI z))) (by unfold tc; first | rw [if_pos (by omega)] | rw [if_neg (by omega)]), rfl⟩)
set_option maxHeartbeats 4000000 in
set_option maxRecDepth 100000 in
theorem c_X2_failAt (l : Launch) (D : va_G) (ct ad : Nat → Nat) (q : Nat → Nat) (TX : Int → Int) (tl pl ft n1 n2 : Int) (wd : Value) (k : Int) (ht : tInv TX tl) : ZM l yX2_failAt wsX2_failAt ({ frames := 0, cells := 0, slots := 0, locals := 0 } : Room) D ct ad [.ref (q 0), .int (zI k)] (txtW ct q TX tl pl ft wd n1 n2) (zD (some (.int (zI 0))) (txtW ct q TX tl pl k wd n1 n2)) := by
  refine ZM.of (cc := cX2_failAt) (maxL := 2) (ret := (some .boolean)) (by decide +kernel) rfl (Nat.le_of_ble_eq_true rfl) ?_
  intro p e s m below meth c A ls hx hb hr hts hown hlocks hml hname hE hP hD hA hS hl
  have hK := hE.1
  have hf_0 := hts (.fieldLink RX2 26 "RodGrids$CommandText" "fault" "I") (by decide +kernel)
  have hin_X2 : ∀ z ∈ u_ws RX2 TX2 7, z ∈ wsX2_failAt := by decide +kernel
  have hl : lv_has ls 2 [(0, .ref (q 0)), (1, .int (zI k))] := hl
  have t1 := ht.1
  refine lv_aload_n hx hb dX2_failAt_0 rfl (lv_at hl 0 rfl) ?_
  refine lv_iload_n hx hb dX2_failAt_1 rfl (lv_at hl 1 rfl) ?_
  refine z_put (ct := ct) (ad := ad) (ci := 1) (v := .int (zI k)) (ty := tyX2 3) (C := RX2) (T := TX2) (N := 7) (w2 := txtW ct q TX tl pl k wd n1 n2) hx hb hts hin_X2 tyX2 tyX2_ok nmX2 hown hE hP hD hS 0 rfl rfl 3 (by decide) hf_0 (fun _ h9 => h9) rfl (by decide +kernel) rfl rfl (Nat.le_of_ble_eq_true rfl) dX2_failAt_2 (rfl) (fun H locs hP hD hS => ?_)
  refine z_iconst hx hb dX2_failAt_5 ?_
  exact z_zret hx hb hr (by first | rfl | exact zB_nar) hlocks hP hD hS ⟨Nat.le_of_ble_eq_true rfl, Nat.le_of_ble_eq_true rfl⟩ dX2_failAt_6 (⟨congrArg (fun z => some (Value.int (zI z))) (rfl), rfl⟩)
set_option maxHeartbeats 4000000 in
set_option maxRecDepth 100000 in
theorem c_X2_skipSpaces (l : Launch) (D : va_G) (ct ad : Nat → Nat) (q : Nat → Nat) (TX : Int → Int) (tl pl ft n1 n2 : Int) (wd : Value) (ht : tInv TX tl) (hp : 0 ≤ pl ∧ pl ≤ tl) : ZM l yX2_skipSpaces wsX2_skipSpaces ({ frames := 0, cells := 0, slots := 0, locals := 0 } : Room) D ct ad [.ref (q 0)] (txtW ct q TX tl pl ft wd n1 n2) (zD none (txtW ct q TX tl (sk TX tl pl) ft wd n1 n2)) := by
  refine ZM.of (cc := cX2_skipSpaces) (maxL := 1) (ret := none) (by decide +kernel) rfl (Nat.le_of_ble_eq_true rfl) ?_
  intro p e s m below meth c A ls hx hb hr hts hown hlocks hml hname hE hP hD hA hS hl
  have hK := hE.1
  have hf_0 := hts (.fieldLink RX2 23 "RodGrids$CommandText" "place" "I") (by decide +kernel)
  have hf_1 := hts (.fieldLink RX2 19 "RodGrids$CommandText" "length" "I") (by decide +kernel)
  have hf_2 := hts (.fieldLink RX2 9 "RodGrids$CommandText" "bytes" "[B") (by decide +kernel)
  have hin_X2 : ∀ z ∈ u_ws RX2 TX2 7, z ∈ wsX2_skipSpaces := by decide +kernel
  have hl : lv_has ls 1 [(0, .ref (q 0))] := hl
  have t1 := ht.1
  refine z_loop (σ := Int) (fun q9 => (tl - q9).toNat) (fun q9 => (pl ≤ q9 ∧ q9 ≤ tl) ∧ (sk TX tl q9 = sk TX tl pl)) (fun q9 => txtW ct q TX tl q9 ft wd n1 n2) (fun q9 => [(0, .ref (q 0))]) (fun q9 => []) (pl) ⟨(show pl ≤ pl ∧ pl ≤ tl from (by omega)), (show sk TX tl pl = sk TX tl pl from (by rfl))⟩ hP hD hS (lv_sub hl [0] rfl) rfl ?_
  rintro i hI_0 ih_0 H locs ls hP hD hS hl
  obtain ⟨hi, hs⟩ := hI_0
  have hi : pl ≤ i ∧ i ≤ tl := hi
  have hs : sk TX tl i = sk TX tl pl := hs
  have hP : va_P D vwCl (txtW ct q TX tl i ft wd n1 n2) H := hP
  have hD : va_D A (txtW ct q TX tl i ft wd n1 n2) := hD
  have hl : lv_has ls 1 [(0, .ref (q 0))] := hl
  have tB := tcB ht (p := i) (by omega)
  refine lv_aload_n hx hb dX2_skipSpaces_0 rfl (lv_at hl 0 rfl) ?_
  refine va_get (D := D) (ci := 1) (v := .int (zI i)) (C := RX2) (T := TX2) (N := 7) hx hb hts hin_X2 hown hK hP 0 rfl rfl 2 (by decide) hf_0 (fun _ h9 => h9) rfl dX2_skipSpaces_1 ?_
  refine lv_aload_n hx hb dX2_skipSpaces_4 rfl (lv_at hl 0 rfl) ?_
  refine va_get (D := D) (ci := 1) (v := .int (zI tl)) (C := RX2) (T := TX2) (N := 7) hx hb hts hin_X2 hown hK hP 0 rfl rfl 1 (by decide) hf_1 (fun _ h9 => h9) rfl dX2_skipSpaces_5 ?_
  refine z_icmp_ge (tgt := 38) hx hb dX2_skipSpaces_8 (by decide) (by omega) (by omega) (fun hc_8 => ?_) (fun hc_8 => ?_)
  · have hc_8 := hc_8
    have eE : i = sk TX tl pl := by rw [← hs]; exact (sk_f (by omega)).symm
    exact z_vret hx hb hr hlocks hP hD hS ⟨Nat.le_of_ble_eq_true rfl, Nat.le_of_ble_eq_true rfl⟩ dX2_skipSpaces_38 (⟨rfl, by rw [eE]⟩)
  · have hc_8 := hc_8
    refine lv_aload_n hx hb dX2_skipSpaces_11 rfl (lv_at hl 0 rfl) ?_
    refine va_get (D := D) (ci := 1) (v := .ref (q 1)) (C := RX2) (T := TX2) (N := 7) hx hb hts hin_X2 hown hK hP 0 rfl rfl 0 (by decide) hf_2 (fun _ h9 => h9) rfl dX2_skipSpaces_12 ?_
    refine lv_aload_n hx hb dX2_skipSpaces_15 rfl (lv_at hl 0 rfl) ?_
    refine va_get (D := D) (ci := 1) (v := .int (zI i)) (C := RX2) (T := TX2) (N := 7) hx hb hts hin_X2 hown hK hP 0 rfl rfl 2 (by decide) hf_0 (fun _ h9 => h9) rfl dX2_skipSpaces_16 ?_
    refine z_bald (g := TX) (v := TX i) hx hb hK hP 1 rfl (by decide) (by omega) rfl dX2_skipSpaces_19 ?_
    refine z_bipush hx hb dX2_skipSpaces_20 (by decide) ?_
    refine z_icmp_ne (tgt := 38) hx hb dX2_skipSpaces_22 (by decide) (by omega) (by omega) (fun hc_22 => ?_) (fun hc_22 => ?_)
    · have hc_22 := hc_22
      have eE : i = sk TX tl pl := by rw [← hs]; exact (sk_f (by omega)).symm
      exact z_vret hx hb hr hlocks hP hD hS ⟨Nat.le_of_ble_eq_true rfl, Nat.le_of_ble_eq_true rfl⟩ dX2_skipSpaces_38 (⟨rfl, by rw [eE]⟩)
    · have hc_22 := hc_22
      refine lv_aload_n hx hb dX2_skipSpaces_25 rfl (lv_at hl 0 rfl) ?_
      refine lv_dup hx hb dX2_skipSpaces_26 rfl ?_
      refine va_get (D := D) (ci := 1) (v := .int (zI i)) (C := RX2) (T := TX2) (N := 7) hx hb hts hin_X2 hown hK hP 0 rfl rfl 2 (by decide) hf_0 (fun _ h9 => h9) rfl dX2_skipSpaces_27 ?_
      refine z_iconst hx hb dX2_skipSpaces_30 ?_
      refine z_iadd hx hb dX2_skipSpaces_31 ?_
      refine z_put (ct := ct) (ad := ad) (ci := 1) (v := .int (zI (i + 1))) (ty := tyX2 2) (C := RX2) (T := TX2) (N := 7) (w2 := txtW ct q TX tl (i + 1) ft wd n1 n2) hx hb hts hin_X2 tyX2 tyX2_ok nmX2 hown hE hP hD hS 0 rfl rfl 2 (by decide) hf_0 (fun _ h9 => h9) rfl (by decide +kernel) rfl rfl (Nat.le_of_ble_eq_true rfl) dX2_skipSpaces_32 (rfl) (fun H locs hP hD hS => ?_)
      refine lv_goto (tgt := 0) hx hb dX2_skipSpaces_35 (by decide) ?_
      exact ih_0 (i + 1) ⟨(show pl ≤ (i + 1) ∧ (i + 1) ≤ tl from (by omega)), (show sk TX tl (i + 1) = sk TX tl pl from (by rw [← hs]; exact sk_t (by omega)))⟩ (show (tl - (i + 1)).toNat < (tl - i).toNat from (by omega)) _ _ _ hP hD hS (lv_sub hl [0] rfl)
theorem k_X2_byteHere : yX2_byteHere.cls ≠ "java/lang/invoke/MethodHandle" ∧ yX2_byteHere.cls ≠ "java/lang/invoke/VarHandle" ∧ (parseMethodDescriptor yX2_byteHere.desc).map (fun d => d.parameters.length) = some 0 := by decide +kernel
theorem k_X2_skipSpaces : yX2_skipSpaces.cls ≠ "java/lang/invoke/MethodHandle" ∧ yX2_skipSpaces.cls ≠ "java/lang/invoke/VarHandle" ∧ (parseMethodDescriptor yX2_skipSpaces.desc).map (fun d => d.parameters.length) = some 0 := by decide +kernel
set_option maxHeartbeats 4000000 in
set_option maxRecDepth 100000 in
theorem c_X2_readSemicolon_ok (l : Launch) (D : va_G) (ct ad : Nat → Nat) (q : Nat → Nat) (TX : Int → Int) (tl pl ft n1 n2 : Int) (wd : Value) (ht : tInv TX tl) (hp : 0 ≤ pl ∧ pl ≤ tl) (hok : tc TX tl (sk TX tl pl) = 59) : ZM l yX2_readSemicolon wsX2_readSemicolon ({ frames := 1, cells := 0, slots := 0, locals := 20 } : Room) D ct ad [.ref (q 0)] (txtW ct q TX tl pl ft wd n1 n2) (zD (some (.int (zI 1))) (txtW ct q TX tl (sk TX tl pl + 1) ft wd n1 n2)) := by
  refine ZM.of (cc := cX2_readSemicolon) (maxL := 1) (ret := (some .boolean)) (by decide +kernel) rfl (Nat.le_of_ble_eq_true rfl) ?_
  intro p e s m below meth c A ls hx hb hr hts hown hlocks hml hname hE hP hD hA hS hl
  have hK := hE.1
  have hf_0 := hts (.fieldLink RX2 23 "RodGrids$CommandText" "place" "I") (by decide +kernel)
  have hin_X2 : ∀ z ∈ u_ws RX2 TX2 7, z ∈ wsX2_readSemicolon := by decide +kernel
  have hl : lv_has ls 1 [(0, .ref (q 0))] := hl
  have t1 := ht.1
  have sB := sk_B (TX := TX) hp.2
  have tB := tcB ht (p := sk TX tl pl) (by omega)
  refine lv_aload_n hx hb dX2_readSemicolon_0 rfl (lv_at hl 0 rfl) ?_
  refine z_callV (C := RX2) (q0 := 0) (ci := 1) (As := []) (rest := []) ([] : va_W) ([] : va_W) hx hb hml hown hts hl hE hS hA (zr0 ([] : va_W) hP) (zr0D ([] : va_W) hD) (c_X2_skipSpaces l D ct ad q TX tl pl ft n1 n2 wd (by assumption) (by omega)) gX2_readSemicolon_X2_skipSpaces rfl rfl k_X2_skipSpaces ⟨Nat.le_of_ble_eq_true rfl, Nat.le_of_ble_eq_true rfl⟩ rfl rfl rfl rfl (Nat.le_of_ble_eq_true rfl) ⟨Nat.le_of_ble_eq_true rfl, Nat.le_of_ble_eq_true rfl⟩ dX2_readSemicolon_1 rfl (fun v w1 H locs hpost hP hD hS => ?_)
  obtain ⟨rfl, rfl⟩ := hpost
  have hP := zr0' hP
  have hD := zr0D' hD
  have hP : va_P D vwCl (txtW ct q TX tl (sk TX tl pl) ft wd n1 n2) H := hP
  have hD : va_D A (txtW ct q TX tl (sk TX tl pl) ft wd n1 n2) := hD
  refine W.eq (g2 := F0 m 4 ls []) rfl ?_
  refine lv_aload_n hx hb dX2_readSemicolon_4 rfl (lv_at hl 0 rfl) ?_
  refine z_callV (C := RX2) (q0 := 0) (ci := 1) (As := []) (rest := []) ([] : va_W) ([] : va_W) hx hb hml hown hts hl hE hS hA (zr0 ([] : va_W) hP) (zr0D ([] : va_W) hD) (c_X2_byteHere l D ct ad q TX tl (sk TX tl pl) ft n1 n2 wd (by assumption) (by omega)) gX2_readSemicolon_X2_byteHere rfl rfl k_X2_byteHere ⟨Nat.le_of_ble_eq_true rfl, Nat.le_of_ble_eq_true rfl⟩ rfl rfl rfl rfl (Nat.le_of_ble_eq_true rfl) ⟨Nat.le_of_ble_eq_true rfl, Nat.le_of_ble_eq_true rfl⟩ dX2_readSemicolon_5 rfl (fun v w1 H locs hpost hP hD hS => ?_)
  obtain ⟨rfl, rfl⟩ := hpost
  have hP := zr0' hP
  have hD := zr0D' hD
  have hP : va_P D vwCl (txtW ct q TX tl (sk TX tl pl) ft wd n1 n2) H := hP
  have hD : va_D A (txtW ct q TX tl (sk TX tl pl) ft wd n1 n2) := hD
  refine W.eq (g2 := F0 m 8 ls [.int (zI (tc TX tl (sk TX tl pl)))]) rfl ?_
  refine z_bipush hx hb dX2_readSemicolon_8 (by decide) ?_
  refine z_icmp_eq (tgt := 22) hx hb dX2_readSemicolon_10 (by decide) (by omega) (by omega) (fun hc_10 => ?_) (fun hc_10 => ?_)
  · have hc_10 := hc_10
    refine lv_aload_n hx hb dX2_readSemicolon_22 rfl (lv_at hl 0 rfl) ?_
    refine lv_dup hx hb dX2_readSemicolon_23 rfl ?_
    refine va_get (D := D) (ci := 1) (v := .int (zI (sk TX tl pl))) (C := RX2) (T := TX2) (N := 7) hx hb hts hin_X2 hown hK hP 0 rfl rfl 2 (by decide) hf_0 (fun _ h9 => h9) rfl dX2_readSemicolon_24 ?_
    refine z_iconst hx hb dX2_readSemicolon_27 ?_
    refine z_iadd hx hb dX2_readSemicolon_28 ?_
    refine z_put (ct := ct) (ad := ad) (ci := 1) (v := .int (zI ((sk TX tl pl) + 1))) (ty := tyX2 2) (C := RX2) (T := TX2) (N := 7) (w2 := txtW ct q TX tl ((sk TX tl pl) + 1) ft wd n1 n2) hx hb hts hin_X2 tyX2 tyX2_ok nmX2 hown hE hP hD hS 0 rfl rfl 2 (by decide) hf_0 (fun _ h9 => h9) rfl (by decide +kernel) rfl rfl (Nat.le_of_ble_eq_true rfl) dX2_readSemicolon_29 (rfl) (fun H locs hP hD hS => ?_)
    refine z_iconst hx hb dX2_readSemicolon_32 ?_
    exact z_zret hx hb hr (by first | rfl | exact zB_nar) hlocks hP hD hS ⟨Nat.le_of_ble_eq_true rfl, Nat.le_of_ble_eq_true rfl⟩ dX2_readSemicolon_33 (⟨congrArg (fun z => some (Value.int (zI z))) (rfl), rfl⟩)
  · have hc_10 := hc_10
    exact absurd hok hc_10
theorem k_X2_failAt : yX2_failAt.cls ≠ "java/lang/invoke/MethodHandle" ∧ yX2_failAt.cls ≠ "java/lang/invoke/VarHandle" ∧ (parseMethodDescriptor yX2_failAt.desc).map (fun d => d.parameters.length) = some 1 := by decide +kernel
set_option maxHeartbeats 4000000 in
set_option maxRecDepth 100000 in
theorem c_X2_readSemicolon_no (l : Launch) (D : va_G) (ct ad : Nat → Nat) (q : Nat → Nat) (TX : Int → Int) (tl pl ft n1 n2 : Int) (wd : Value) (ht : tInv TX tl) (hp : 0 ≤ pl ∧ pl ≤ tl) (hno : tc TX tl (sk TX tl pl) ≠ 59) : ZM l yX2_readSemicolon wsX2_readSemicolon ({ frames := 1, cells := 0, slots := 0, locals := 21 } : Room) D ct ad [.ref (q 0)] (txtW ct q TX tl pl ft wd n1 n2) (zD (some (.int (zI 0))) (txtW ct q TX tl (sk TX tl pl) (sk TX tl pl) wd n1 n2)) := by
  refine ZM.of (cc := cX2_readSemicolon) (maxL := 1) (ret := (some .boolean)) (by decide +kernel) rfl (Nat.le_of_ble_eq_true rfl) ?_
  intro p e s m below meth c A ls hx hb hr hts hown hlocks hml hname hE hP hD hA hS hl
  have hK := hE.1
  have hf_0 := hts (.fieldLink RX2 23 "RodGrids$CommandText" "place" "I") (by decide +kernel)
  have hin_X2 : ∀ z ∈ u_ws RX2 TX2 7, z ∈ wsX2_readSemicolon := by decide +kernel
  have hl : lv_has ls 1 [(0, .ref (q 0))] := hl
  have t1 := ht.1
  have sB := sk_B (TX := TX) hp.2
  have tB := tcB ht (p := sk TX tl pl) (by omega)
  refine lv_aload_n hx hb dX2_readSemicolon_0 rfl (lv_at hl 0 rfl) ?_
  refine z_callV (C := RX2) (q0 := 0) (ci := 1) (As := []) (rest := []) ([] : va_W) ([] : va_W) hx hb hml hown hts hl hE hS hA (zr0 ([] : va_W) hP) (zr0D ([] : va_W) hD) (c_X2_skipSpaces l D ct ad q TX tl pl ft n1 n2 wd (by assumption) (by omega)) gX2_readSemicolon_X2_skipSpaces rfl rfl k_X2_skipSpaces ⟨Nat.le_of_ble_eq_true rfl, Nat.le_of_ble_eq_true rfl⟩ rfl rfl rfl rfl (Nat.le_of_ble_eq_true rfl) ⟨Nat.le_of_ble_eq_true rfl, Nat.le_of_ble_eq_true rfl⟩ dX2_readSemicolon_1 rfl (fun v w1 H locs hpost hP hD hS => ?_)
  obtain ⟨rfl, rfl⟩ := hpost
  have hP := zr0' hP
  have hD := zr0D' hD
  have hP : va_P D vwCl (txtW ct q TX tl (sk TX tl pl) ft wd n1 n2) H := hP
  have hD : va_D A (txtW ct q TX tl (sk TX tl pl) ft wd n1 n2) := hD
  refine W.eq (g2 := F0 m 4 ls []) rfl ?_
  refine lv_aload_n hx hb dX2_readSemicolon_4 rfl (lv_at hl 0 rfl) ?_
  refine z_callV (C := RX2) (q0 := 0) (ci := 1) (As := []) (rest := []) ([] : va_W) ([] : va_W) hx hb hml hown hts hl hE hS hA (zr0 ([] : va_W) hP) (zr0D ([] : va_W) hD) (c_X2_byteHere l D ct ad q TX tl (sk TX tl pl) ft n1 n2 wd (by assumption) (by omega)) gX2_readSemicolon_X2_byteHere rfl rfl k_X2_byteHere ⟨Nat.le_of_ble_eq_true rfl, Nat.le_of_ble_eq_true rfl⟩ rfl rfl rfl rfl (Nat.le_of_ble_eq_true rfl) ⟨Nat.le_of_ble_eq_true rfl, Nat.le_of_ble_eq_true rfl⟩ dX2_readSemicolon_5 rfl (fun v w1 H locs hpost hP hD hS => ?_)
  obtain ⟨rfl, rfl⟩ := hpost
  have hP := zr0' hP
  have hD := zr0D' hD
  have hP : va_P D vwCl (txtW ct q TX tl (sk TX tl pl) ft wd n1 n2) H := hP
  have hD : va_D A (txtW ct q TX tl (sk TX tl pl) ft wd n1 n2) := hD
  refine W.eq (g2 := F0 m 8 ls [.int (zI (tc TX tl (sk TX tl pl)))]) rfl ?_
  refine z_bipush hx hb dX2_readSemicolon_8 (by decide) ?_
  refine z_icmp_eq (tgt := 22) hx hb dX2_readSemicolon_10 (by decide) (by omega) (by omega) (fun hc_10 => ?_) (fun hc_10 => ?_)
  · have hc_10 := hc_10
    exact absurd hc_10 hno
  · have hc_10 := hc_10
    refine lv_aload_n hx hb dX2_readSemicolon_13 rfl (lv_at hl 0 rfl) ?_
    refine lv_aload_n hx hb dX2_readSemicolon_14 rfl (lv_at hl 0 rfl) ?_
    refine va_get (D := D) (ci := 1) (v := .int (zI (sk TX tl pl))) (C := RX2) (T := TX2) (N := 7) hx hb hts hin_X2 hown hK hP 0 rfl rfl 2 (by decide) hf_0 (fun _ h9 => h9) rfl dX2_readSemicolon_15 ?_
    refine z_callV (C := RX2) (q0 := 0) (ci := 1) (As := [.int (zI (sk TX tl pl))]) (rest := []) ([] : va_W) ([] : va_W) hx hb hml hown hts hl hE hS hA (zr0 ([] : va_W) hP) (zr0D ([] : va_W) hD) (c_X2_failAt l D ct ad q TX tl (sk TX tl pl) ft n1 n2 wd (sk TX tl pl) (by assumption)) gX2_readSemicolon_X2_failAt rfl rfl k_X2_failAt ⟨Nat.le_of_ble_eq_true rfl, Nat.le_of_ble_eq_true rfl⟩ rfl rfl rfl rfl (Nat.le_of_ble_eq_true rfl) ⟨Nat.le_of_ble_eq_true rfl, Nat.le_of_ble_eq_true rfl⟩ dX2_readSemicolon_18 rfl (fun v w1 H locs hpost hP hD hS => ?_)
    obtain ⟨rfl, rfl⟩ := hpost
    have hP := zr0' hP
    have hD := zr0D' hD
    have hP : va_P D vwCl (txtW ct q TX tl (sk TX tl pl) (sk TX tl pl) wd n1 n2) H := hP
    have hD : va_D A (txtW ct q TX tl (sk TX tl pl) (sk TX tl pl) wd n1 n2) := hD
    refine W.eq (g2 := F0 m 21 ls [.int (zI 0)]) rfl ?_
    exact z_zret hx hb hr (by first | rfl | exact zB_nar) hlocks hP hD hS ⟨Nat.le_of_ble_eq_true rfl, Nat.le_of_ble_eq_true rfl⟩ dX2_readSemicolon_21 (⟨congrArg (fun z => some (Value.int (zI z))) (rfl), rfl⟩)
