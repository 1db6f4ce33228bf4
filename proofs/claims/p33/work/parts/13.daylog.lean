set_option maxHeartbeats 4000000 in
set_option maxRecDepth 100000 in
theorem c_X3_dayValue (l : Launch) (D : va_G) (ct ad : Nat → Nat) (a : Nat → Nat) (M : Int → Int) (k w : Int) (hd : 0 ≤ M 15 ∧ M 15 ≤ 10) (h1 : -2147483648 ≤ k ∧ k ≤ 2147483647) (h2 : 0 ≤ w ∧ w ≤ 3) : ZM l yX3_dayValue wsX3_dayValue ({ frames := 1, cells := 0, slots := 0, locals := 22 } : Room) D ct ad [.ref (a 9), .int (zI k), .int (zI w)] (logW ct a M) (zD (some (.long (zJ (if 0 ≤ k ∧ k < M 15 then M (54 + (k * 4 + w)) else -2000000000)))) (logW ct a M)) := by
  refine ZM.of (cc := cX3_dayValue) (maxL := 4) (ret := (some .long)) (by decide +kernel) rfl (Nat.le_of_ble_eq_true rfl) ?_
  intro p e s m below meth c A ls hx hb hr hts hown hlocks hml hname hE hP hD hA hS hl
  have hK := hE.1
  have hf_0 := hts (.fieldLink RX3 15 "RodGrids$DayLog" "days" "I") (by decide +kernel)
  have hf_1 := hts (.constantLong RX3 35 (-2000000000)) (by decide +kernel)
  have hf_2 := hts (.fieldLink RX3 9 "RodGrids$DayLog" "values" "[J") (by decide +kernel)
  have hin_X3 : ∀ z ∈ u_ws RX3 TX3 2, z ∈ wsX3_dayValue := by decide +kernel
  have hl : lv_has ls 4 [(0, .ref (a 9)), (1, .int (zI k)), (2, .int (zI w))] := hl
  refine lv_iload_n hx hb dX3_dayValue_0 rfl (lv_at hl 1 rfl) ?_
  refine z_iconst hx hb dX3_dayValue_1 ?_
  refine lv_aload_n hx hb dX3_dayValue_2 rfl (lv_at hl 0 rfl) ?_
  refine va_get (D := D) (ci := 2) (v := .int (zI (M 15))) (C := RX3) (T := TX3) (N := 2) hx hb hts hin_X3 hown hK hP 0 rfl rfl 0 (by decide) hf_0 (fun _ h9 => h9) rfl dX3_dayValue_3 ?_
  refine z_iconst hx hb dX3_dayValue_6 ?_
  refine z_isub hx hb dX3_dayValue_7 ?_
  refine z_callSN (host := RX8) (As := [.int (zI k), .int (zI 0), .int (zI ((M 15) - 1))]) (rest := []) ([] : va_W) (logW ct a M) hx hb hml hown hts hl hE hS hA hP hD (c_X8_within l D ct ad k 0 ((M 15) - 1) (by omega) (by omega) (by omega)) ggX3_dayValue_X8_within rfl k_X8_within ⟨Nat.le_of_ble_eq_true rfl, Nat.le_of_ble_eq_true rfl⟩ (hE.2.1.1 _ (List.mem_of_getElem? (i := 10) rfl)) (hts (.initialized RX8) (by decide +kernel)) (hts (.static yX8_within) (by decide +kernel)) rfl (Nat.le_of_ble_eq_true rfl) ⟨Nat.le_of_ble_eq_true rfl, Nat.le_of_ble_eq_true rfl⟩ dX3_dayValue_8 rfl (fun v w1 H locs hpost hP hD hS => ?_)
  obtain ⟨rfl, rfl⟩ := hpost
  have hP : va_P D vwCl (logW ct a M) H := hP
  have hD : va_D A (logW ct a M) := hD
  refine W.eq (g2 := F0 m 11 ls [.int (zI (zB (0 ≤ k ∧ k ≤ ((M 15) - 1))))]) rfl ?_
  refine zb_if_eq (tgt := 27) hx hb dX3_dayValue_11 (by decide) (fun hc_11 => ?_) (fun hc_11 => ?_)
  · have hc_11 := hc_11
    refine z_iconst hx hb dX3_dayValue_27 ?_
    refine lv_istore_n (lv' := [(3, .int (zI 0)), (0, .ref (a 9)), (1, .int (zI k)), (2, .int (zI w))]) hx hb dX3_dayValue_28 rfl hl (by decide) rfl (fun ls hl => ?_)
    refine lv_iload_n hx hb dX3_dayValue_29 rfl (lv_at hl 0 rfl) ?_
    refine z_if_eq (tgt := 46) hx hb dX3_dayValue_30 (by decide) (by omega) (fun hc_30 => ?_) (fun hc_30 => ?_)
    · have hc_30 := hc_30
      refine z_ldc2 hx hb (-2000000000) hown hf_1 (by decide) dX3_dayValue_46 ?_
      exact z_lret hx hb hr hlocks hP hD hS ⟨Nat.le_of_ble_eq_true rfl, Nat.le_of_ble_eq_true rfl⟩ dX3_dayValue_49 (⟨congrArg (fun z => some (Value.long (zJ z))) (by first | (exfalso; omega) | rw [if_pos (by omega)] | rw [if_neg (by omega)]), rfl⟩)
    · have hc_30 := hc_30
      refine lv_aload_n hx hb dX3_dayValue_33 rfl (lv_at hl 1 rfl) ?_
      refine va_get (D := D) (ci := 2) (v := .ref (a 10)) (C := RX3) (T := TX3) (N := 2) hx hb hts hin_X3 hown hK hP 0 rfl rfl 1 (by decide) hf_2 (fun _ h9 => h9) rfl dX3_dayValue_34 ?_
      refine lv_iload_n hx hb dX3_dayValue_37 rfl (lv_at hl 2 rfl) ?_
      refine z_iconst hx hb dX3_dayValue_38 ?_
      refine z_imul hx hb dX3_dayValue_39 ?_
      refine lv_iload_n hx hb dX3_dayValue_40 rfl (lv_at hl 3 rfl) ?_
      refine z_iadd hx hb dX3_dayValue_41 ?_
      refine z_lald (g := fun x => M (54 + x)) (v := M (54 + ((k * 4) + w))) hx hb hK hP 1 rfl (by decide) (by omega) rfl dX3_dayValue_42 ?_
      refine lv_goto (tgt := 49) hx hb dX3_dayValue_43 (by decide) ?_
      exact z_lret hx hb hr hlocks hP hD hS ⟨Nat.le_of_ble_eq_true rfl, Nat.le_of_ble_eq_true rfl⟩ dX3_dayValue_49 (⟨congrArg (fun z => some (Value.long (zJ z))) (by first | (exfalso; omega) | rw [if_pos (by omega)] | rw [if_neg (by omega)]), rfl⟩)
  · have hc_11 := hc_11
    refine lv_iload_n hx hb dX3_dayValue_14 rfl (lv_at hl 2 rfl) ?_
    refine z_iconst hx hb dX3_dayValue_15 ?_
    refine z_iconst hx hb dX3_dayValue_16 ?_
    refine z_callSN (host := RX8) (As := [.int (zI w), .int (zI 0), .int (zI 3)]) (rest := []) ([] : va_W) (logW ct a M) hx hb hml hown hts hl hE hS hA hP hD (c_X8_within l D ct ad w 0 3 (by omega) (by omega) (by omega)) ggX3_dayValue_X8_within rfl k_X8_within ⟨Nat.le_of_ble_eq_true rfl, Nat.le_of_ble_eq_true rfl⟩ (hE.2.1.1 _ (List.mem_of_getElem? (i := 10) rfl)) (hts (.initialized RX8) (by decide +kernel)) (hts (.static yX8_within) (by decide +kernel)) rfl (Nat.le_of_ble_eq_true rfl) ⟨Nat.le_of_ble_eq_true rfl, Nat.le_of_ble_eq_true rfl⟩ dX3_dayValue_17 rfl (fun v w1 H locs hpost hP hD hS => ?_)
    obtain ⟨rfl, rfl⟩ := hpost
    have hP : va_P D vwCl (logW ct a M) H := hP
    have hD : va_D A (logW ct a M) := hD
    refine W.eq (g2 := F0 m 20 ls [.int (zI (zB (0 ≤ w ∧ w ≤ 3)))]) rfl ?_
    refine zb_if_eq (tgt := 27) hx hb dX3_dayValue_20 (by decide) (fun hc_20 => ?_) (fun hc_20 => ?_)
    · have hc_20 := hc_20
      refine z_iconst hx hb dX3_dayValue_27 ?_
      refine lv_istore_n (lv' := [(3, .int (zI 0)), (0, .ref (a 9)), (1, .int (zI k)), (2, .int (zI w))]) hx hb dX3_dayValue_28 rfl hl (by decide) rfl (fun ls hl => ?_)
      refine lv_iload_n hx hb dX3_dayValue_29 rfl (lv_at hl 0 rfl) ?_
      refine z_if_eq (tgt := 46) hx hb dX3_dayValue_30 (by decide) (by omega) (fun hc_30 => ?_) (fun hc_30 => ?_)
      · have hc_30 := hc_30
        refine z_ldc2 hx hb (-2000000000) hown hf_1 (by decide) dX3_dayValue_46 ?_
        exact z_lret hx hb hr hlocks hP hD hS ⟨Nat.le_of_ble_eq_true rfl, Nat.le_of_ble_eq_true rfl⟩ dX3_dayValue_49 (⟨congrArg (fun z => some (Value.long (zJ z))) (by first | (exfalso; omega) | rw [if_pos (by omega)] | rw [if_neg (by omega)]), rfl⟩)
      · have hc_30 := hc_30
        refine lv_aload_n hx hb dX3_dayValue_33 rfl (lv_at hl 1 rfl) ?_
        refine va_get (D := D) (ci := 2) (v := .ref (a 10)) (C := RX3) (T := TX3) (N := 2) hx hb hts hin_X3 hown hK hP 0 rfl rfl 1 (by decide) hf_2 (fun _ h9 => h9) rfl dX3_dayValue_34 ?_
        refine lv_iload_n hx hb dX3_dayValue_37 rfl (lv_at hl 2 rfl) ?_
        refine z_iconst hx hb dX3_dayValue_38 ?_
        refine z_imul hx hb dX3_dayValue_39 ?_
        refine lv_iload_n hx hb dX3_dayValue_40 rfl (lv_at hl 3 rfl) ?_
        refine z_iadd hx hb dX3_dayValue_41 ?_
        refine z_lald (g := fun x => M (54 + x)) (v := M (54 + ((k * 4) + w))) hx hb hK hP 1 rfl (by decide) (by omega) rfl dX3_dayValue_42 ?_
        refine lv_goto (tgt := 49) hx hb dX3_dayValue_43 (by decide) ?_
        exact z_lret hx hb hr hlocks hP hD hS ⟨Nat.le_of_ble_eq_true rfl, Nat.le_of_ble_eq_true rfl⟩ dX3_dayValue_49 (⟨congrArg (fun z => some (Value.long (zJ z))) (by first | (exfalso; omega) | rw [if_pos (by omega)] | rw [if_neg (by omega)]), rfl⟩)
    · have hc_20 := hc_20
      refine z_iconst hx hb dX3_dayValue_23 ?_
      refine lv_goto (tgt := 28) hx hb dX3_dayValue_24 (by decide) ?_
      refine lv_istore_n (lv' := [(3, .int (zI 1)), (0, .ref (a 9)), (1, .int (zI k)), (2, .int (zI w))]) hx hb dX3_dayValue_28 rfl hl (by decide) rfl (fun ls hl => ?_)
      refine lv_iload_n hx hb dX3_dayValue_29 rfl (lv_at hl 0 rfl) ?_
      refine z_if_eq (tgt := 46) hx hb dX3_dayValue_30 (by decide) (by omega) (fun hc_30 => ?_) (fun hc_30 => ?_)
      · have hc_30 := hc_30
        refine z_ldc2 hx hb (-2000000000) hown hf_1 (by decide) dX3_dayValue_46 ?_
        exact z_lret hx hb hr hlocks hP hD hS ⟨Nat.le_of_ble_eq_true rfl, Nat.le_of_ble_eq_true rfl⟩ dX3_dayValue_49 (⟨congrArg (fun z => some (Value.long (zJ z))) (by first | (exfalso; omega) | rw [if_pos (by omega)] | rw [if_neg (by omega)]), rfl⟩)
      · have hc_30 := hc_30
        refine lv_aload_n hx hb dX3_dayValue_33 rfl (lv_at hl 1 rfl) ?_
        refine va_get (D := D) (ci := 2) (v := .ref (a 10)) (C := RX3) (T := TX3) (N := 2) hx hb hts hin_X3 hown hK hP 0 rfl rfl 1 (by decide) hf_2 (fun _ h9 => h9) rfl dX3_dayValue_34 ?_
        refine lv_iload_n hx hb dX3_dayValue_37 rfl (lv_at hl 2 rfl) ?_
        refine z_iconst hx hb dX3_dayValue_38 ?_
        refine z_imul hx hb dX3_dayValue_39 ?_
        refine lv_iload_n hx hb dX3_dayValue_40 rfl (lv_at hl 3 rfl) ?_
        refine z_iadd hx hb dX3_dayValue_41 ?_
        refine z_lald (g := fun x => M (54 + x)) (v := M (54 + ((k * 4) + w))) hx hb hK hP 1 rfl (by decide) (by omega) rfl dX3_dayValue_42 ?_
        refine lv_goto (tgt := 49) hx hb dX3_dayValue_43 (by decide) ?_
        exact z_lret hx hb hr hlocks hP hD hS ⟨Nat.le_of_ble_eq_true rfl, Nat.le_of_ble_eq_true rfl⟩ dX3_dayValue_49 (⟨congrArg (fun z => some (Value.long (zJ z))) (by first | (exfalso; omega) | rw [if_pos (by omega)] | rw [if_neg (by omega)]), rfl⟩)
set_option maxHeartbeats 4000000 in
set_option maxRecDepth 100000 in
theorem c_X3_append (l : Launch) (D : va_G) (ct ad : Nat → Nat) (a : Nat → Nat) (M : Int → Int) (w r d h : Int) (hd : 0 ≤ M 15 ∧ M 15 ≤ 10) (h1 : -2147483648 ≤ w ∧ w ≤ 2147483647) (h2 : -2147483648 ≤ r ∧ r ≤ 2147483647) (h3 : -2147483648 ≤ h ∧ h ≤ 2147483647) : ZM l yX3_append wsX3_append ({ frames := 1, cells := 0, slots := 0, locals := 18 } : Room) D ct ad [.ref (a 9), .int (zI w), .int (zI r), .long (zJ d), .int (zI h)] (logW ct a M) (zD none (logW ct a (st_day M w r d h))) := by
  refine ZM.of (cc := cX3_append) (maxL := 6) (ret := none) (by decide +kernel) rfl (Nat.le_of_ble_eq_true rfl) ?_
  intro p e s m below meth c A ls hx hb hr hts hown hlocks hml hname hE hP hD hA hS hl
  have hK := hE.1
  have hf_0 := hts (.fieldLink RX3 9 "RodGrids$DayLog" "values" "[J") (by decide +kernel)
  have hf_1 := hts (.methodLink RX3 19 arraycopyName) (by decide +kernel)
  have hf_2 := hts (.native arraycopyName) (by decide +kernel)
  have hf_3 := hts (.static arraycopyName) (by decide +kernel)
  have hf_4 := hts (.initialized "java/lang/System") (by decide +kernel)
  have hf_5 := hts (.fieldLink RX3 15 "RodGrids$DayLog" "days" "I") (by decide +kernel)
  have hf_6 := hts (.methodLink RX3 25 Lib.Math.min.name) (by decide +kernel)
  have hf_7 := hts (.static Lib.Math.min.name) (by decide +kernel)
  have hf_8 := hts (.initialized "java/lang/Math") (by decide +kernel)
  have hf_9 := hts (.code Lib.Math.min.name Lib.Math.min.code 2 (some .int)) (by decide +kernel)
  have hin_X3 : ∀ z ∈ u_ws RX3 TX3 2, z ∈ wsX3_append := by decide +kernel
  have hl : lv_has ls 6 [(0, .ref (a 9)), (1, .int (zI w)), (2, .int (zI r)), (3, .long (zJ d)), (5, .int (zI h))] := hl
  refine lv_aload_n hx hb dX3_append_0 rfl (lv_at hl 0 rfl) ?_
  refine va_get (D := D) (ci := 2) (v := .ref (a 10)) (C := RX3) (T := TX3) (N := 2) hx hb hts hin_X3 hown hK hP 0 rfl rfl 1 (by decide) hf_0 (fun _ h9 => h9) rfl dX3_append_1 ?_
  refine z_iconst hx hb dX3_append_4 ?_
  refine lv_aload_n hx hb dX3_append_5 rfl (lv_at hl 0 rfl) ?_
  refine va_get (D := D) (ci := 2) (v := .ref (a 10)) (C := RX3) (T := TX3) (N := 2) hx hb hts hin_X3 hown hK hP 0 rfl rfl 1 (by decide) hf_0 (fun _ h9 => h9) rfl dX3_append_6 ?_
  refine z_iconst hx hb dX3_append_9 ?_
  refine z_bipush hx hb dX3_append_10 (by decide) ?_
  refine z_copyJ (f := fun x => M (54 + x)) (g := fun x => M (54 + x)) (w2 := logW ct a (st_shift M)) hx hb hml hl hown hf_1 hf_2 hf_3 hf_4 hK hP hD hS 1 1 rfl rfl (by decide) (by decide) (Nat.le_of_ble_eq_true rfl) (Nat.le_of_ble_eq_true rfl) dX3_append_12 (set_log_shift ct a M) (fun H locs hP hD hS => ?_)
  have hs15 : st_shift M 15 = M 15 := by rfl
  have u15 : ∀ (j v : Int), 54 ≤ j → up (st_shift M) j v 15 = M 15 := fun j v hj => by rw [up_n (by omega)]; rfl
  refine lv_aload_n hx hb dX3_append_15 rfl (lv_at hl 0 rfl) ?_
  refine va_get (D := D) (ci := 2) (v := .ref (a 10)) (C := RX3) (T := TX3) (N := 2) hx hb hts hin_X3 hown hK hP 0 rfl rfl 1 (by decide) hf_0 (fun _ h9 => h9) rfl dX3_append_16 ?_
  refine z_iconst hx hb dX3_append_19 ?_
  refine lv_iload_n hx hb dX3_append_20 rfl (lv_at hl 1 rfl) ?_
  refine z_i2l hx hb dX3_append_21 (by omega) ?_
  refine z_last (g := fun x => (st_shift M) (54 + x)) (w2 := logW ct a (up (st_shift M) (54 + 0) w)) hx hb hK hP hD hS 1 rfl (by decide) (by omega) dX3_append_22 (set_log_a1 ct a (st_shift M) 0 w (by omega)) (fun H locs hP hD hS => ?_)
  refine lv_aload_n hx hb dX3_append_23 rfl (lv_at hl 0 rfl) ?_
  refine va_get (D := D) (ci := 2) (v := .ref (a 10)) (C := RX3) (T := TX3) (N := 2) hx hb hts hin_X3 hown hK hP 0 rfl rfl 1 (by decide) hf_0 (fun _ h9 => h9) rfl dX3_append_24 ?_
  refine z_iconst hx hb dX3_append_27 ?_
  refine lv_iload_n hx hb dX3_append_28 rfl (lv_at hl 2 rfl) ?_
  refine z_i2l hx hb dX3_append_29 (by omega) ?_
  refine z_last (g := fun x => (up (st_shift M) (54 + 0) w) (54 + x)) (w2 := logW ct a (up (up (st_shift M) (54 + 0) w) (54 + 1) r)) hx hb hK hP hD hS 1 rfl (by decide) (by omega) dX3_append_30 (set_log_a1 ct a (up (st_shift M) (54 + 0) w) 1 r (by omega)) (fun H locs hP hD hS => ?_)
  refine lv_aload_n hx hb dX3_append_31 rfl (lv_at hl 0 rfl) ?_
  refine va_get (D := D) (ci := 2) (v := .ref (a 10)) (C := RX3) (T := TX3) (N := 2) hx hb hts hin_X3 hown hK hP 0 rfl rfl 1 (by decide) hf_0 (fun _ h9 => h9) rfl dX3_append_32 ?_
  refine z_iconst hx hb dX3_append_35 ?_
  refine lv_lload_n hx hb dX3_append_36 rfl (lv_at hl 3 rfl) ?_
  refine z_last (g := fun x => (up (up (st_shift M) (54 + 0) w) (54 + 1) r) (54 + x)) (w2 := logW ct a (up (up (up (st_shift M) (54 + 0) w) (54 + 1) r) (54 + 2) d)) hx hb hK hP hD hS 1 rfl (by decide) (by omega) dX3_append_37 (set_log_a1 ct a (up (up (st_shift M) (54 + 0) w) (54 + 1) r) 2 d (by omega)) (fun H locs hP hD hS => ?_)
  refine lv_aload_n hx hb dX3_append_38 rfl (lv_at hl 0 rfl) ?_
  refine va_get (D := D) (ci := 2) (v := .ref (a 10)) (C := RX3) (T := TX3) (N := 2) hx hb hts hin_X3 hown hK hP 0 rfl rfl 1 (by decide) hf_0 (fun _ h9 => h9) rfl dX3_append_39 ?_
  refine z_iconst hx hb dX3_append_42 ?_
  refine lv_iload hx hb dX3_append_43 (lv_at hl 4 rfl) ?_
  refine z_i2l hx hb dX3_append_45 (by omega) ?_
  refine z_last (g := fun x => (up (up (up (st_shift M) (54 + 0) w) (54 + 1) r) (54 + 2) d) (54 + x)) (w2 := logW ct a (up (up (up (up (st_shift M) (54 + 0) w) (54 + 1) r) (54 + 2) d) (54 + 3) h)) hx hb hK hP hD hS 1 rfl (by decide) (by omega) dX3_append_46 (set_log_a1 ct a (up (up (up (st_shift M) (54 + 0) w) (54 + 1) r) (54 + 2) d) 3 h (by omega)) (fun H locs hP hD hS => ?_)
  refine lv_aload_n hx hb dX3_append_47 rfl (lv_at hl 0 rfl) ?_
  refine lv_aload_n hx hb dX3_append_48 rfl (lv_at hl 0 rfl) ?_
  refine va_get (D := D) (ci := 2) (v := .int (zI ((st_shift M) 15))) (C := RX3) (T := TX3) (N := 2) hx hb hts hin_X3 hown hK hP 0 rfl rfl 0 (by decide) hf_5 (fun _ h9 => h9) (congrArg (fun z => some (Value.int (zI z))) (show (up (up (up (up (st_shift M) (54 + 0) w) (54 + 1) r) (54 + 2) d) (54 + 3) h) 15 = (st_shift M) 15 from by rw [up_n (by omega), up_n (by omega), up_n (by omega), up_n (by omega)])) dX3_append_49 ?_
  refine z_iconst hx hb dX3_append_52 ?_
  refine z_iadd hx hb dX3_append_53 ?_
  refine z_bipush hx hb dX3_append_54 (by decide) ?_
  refine z_mmin hx hb hml hl hown hf_6 hf_7 hf_8 hf_9 (Nat.le_of_ble_eq_true rfl) (Nat.le_of_ble_eq_true rfl) (Nat.le_of_ble_eq_true rfl) (Nat.le_of_ble_eq_true rfl) (by omega) (by omega) dX3_append_56 ?_
  refine z_put (ct := ct) (ad := ad) (ci := 2) (v := .int (zI (min (((st_shift M) 15) + 1) 10))) (ty := tyX3 0) (C := RX3) (T := TX3) (N := 2) (w2 := logW ct a (up (up (up (up (up (st_shift M) (54 + 0) w) (54 + 1) r) (54 + 2) d) (54 + 3) h) 15 (min (((st_shift M) 15) + 1) 10))) hx hb hts hin_X3 tyX3 tyX3_ok nmX3 hown hE hP hD hS 0 rfl rfl 0 (by decide) hf_5 (fun _ h9 => h9) rfl (by decide +kernel) rfl rfl (Nat.le_of_ble_eq_true rfl) dX3_append_59 (set_log_15 ct a (up (up (up (up (st_shift M) (54 + 0) w) (54 + 1) r) (54 + 2) d) (54 + 3) h) (min (((st_shift M) 15) + 1) 10)) (fun H locs hP hD hS => ?_)
  exact z_vret hx hb hr hlocks hP hD hS ⟨Nat.le_of_ble_eq_true rfl, Nat.le_of_ble_eq_true rfl⟩ dX3_append_62 (⟨rfl, by unfold st_day; refine congrArg (logW ct a) (funext fun j => ?_); simp only [up]; (repeat' split) <;> first | rfl | omega⟩)
set_option maxHeartbeats 4000000 in
set_option maxRecDepth 100000 in
theorem c_X3_copyFrom (l : Launch) (D : va_G) (ct ad : Nat → Nat) (a b : Nat → Nat) (M N : Int → Int)  : ZM l yX3_copyFrom wsX3_copyFrom ({ frames := 1, cells := 0, slots := 0, locals := 18 } : Room) D ct ad [.ref (a 9), .ref (b 9)] (logW ct a M ++ (logW ct b N)) (zD none (logW ct a N ++ (logW ct b N))) := by
  refine ZM.of (cc := cX3_copyFrom) (maxL := 2) (ret := none) (by decide +kernel) rfl (Nat.le_of_ble_eq_true rfl) ?_
  intro p e s m below meth c A ls hx hb hr hts hown hlocks hml hname hE hP hD hA hS hl
  have hK := hE.1
  have hf_0 := hts (.fieldLink RX3 15 "RodGrids$DayLog" "days" "I") (by decide +kernel)
  have hf_1 := hts (.fieldLink RX3 9 "RodGrids$DayLog" "values" "[J") (by decide +kernel)
  have hf_2 := hts (.methodLink RX3 19 arraycopyName) (by decide +kernel)
  have hf_3 := hts (.native arraycopyName) (by decide +kernel)
  have hf_4 := hts (.static arraycopyName) (by decide +kernel)
  have hf_5 := hts (.initialized "java/lang/System") (by decide +kernel)
  have hin_X3 : ∀ z ∈ u_ws RX3 TX3 2, z ∈ wsX3_copyFrom := by decide +kernel
  have hl : lv_has ls 2 [(0, .ref (a 9)), (1, .ref (b 9))] := hl
  have hP : va_P D vwCl (([(a 9, .inr (2, [.int (zI (M 15)), .ref (a 10)])), aJ ct (a 10) 40 (fun x => M (54 + x))] : va_W) ++ (logW ct b N)) s.heap := hP
  have hD : va_D A (([(a 9, .inr (2, [.int (zI (M 15)), .ref (a 10)])), aJ ct (a 10) 40 (fun x => M (54 + x))] : va_W) ++ (logW ct b N)) := hD
  refine lv_aload_n hx hb dX3_copyFrom_0 rfl (lv_at hl 0 rfl) ?_
  refine lv_aload_n hx hb dX3_copyFrom_1 rfl (lv_at hl 1 rfl) ?_
  refine va_get (D := D) (ci := 2) (v := .int (zI (N 15))) (C := RX3) (T := TX3) (N := 2) hx hb hts hin_X3 hown hK hP 2 rfl rfl 0 (by decide) hf_0 (fun _ h9 => h9) rfl dX3_copyFrom_2 ?_
  refine z_put (ct := ct) (ad := ad) (ci := 2) (v := .int (zI (N 15))) (ty := tyX3 0) (C := RX3) (T := TX3) (N := 2) (w2 := ([(a 9, .inr (2, [.int (zI (N 15)), .ref (a 10)])), aJ ct (a 10) 40 (fun x => M (54 + x))] : va_W) ++ (logW ct b N)) hx hb hts hin_X3 tyX3 tyX3_ok nmX3 hown hE hP hD hS 0 rfl rfl 0 (by decide) hf_0 (fun _ h9 => h9) rfl (by decide +kernel) rfl rfl (Nat.le_of_ble_eq_true rfl) dX3_copyFrom_5 (rfl) (fun H locs hP hD hS => ?_)
  refine lv_aload_n hx hb dX3_copyFrom_8 rfl (lv_at hl 1 rfl) ?_
  refine va_get (D := D) (ci := 2) (v := .ref (b 10)) (C := RX3) (T := TX3) (N := 2) hx hb hts hin_X3 hown hK hP 2 rfl rfl 1 (by decide) hf_1 (fun _ h9 => h9) rfl dX3_copyFrom_9 ?_
  refine z_iconst hx hb dX3_copyFrom_12 ?_
  refine lv_aload_n hx hb dX3_copyFrom_13 rfl (lv_at hl 0 rfl) ?_
  refine va_get (D := D) (ci := 2) (v := .ref (a 10)) (C := RX3) (T := TX3) (N := 2) hx hb hts hin_X3 hown hK hP 0 rfl rfl 1 (by decide) hf_1 (fun _ h9 => h9) rfl dX3_copyFrom_14 ?_
  refine z_iconst hx hb dX3_copyFrom_17 ?_
  refine z_bipush hx hb dX3_copyFrom_18 (by decide) ?_
  refine z_cpyJ (f := fun x => N (54 + x)) (g := fun x => M (54 + x)) (w2 := ([(a 9, .inr (2, [.int (zI (N 15)), .ref (a 10)])), aJ ct (a 10) 40 (fun x => N (54 + x))] : va_W) ++ (logW ct b N)) hx hb hml hl hown hf_2 hf_3 hf_4 hf_5 hK hP hD hS 3 1 rfl rfl rfl (by decide) (Nat.le_of_ble_eq_true rfl) (Nat.le_of_ble_eq_true rfl) dX3_copyFrom_20 (rfl) (fun H locs hP hD hS => ?_)
  exact z_vret hx hb hr hlocks hP hD hS ⟨Nat.le_of_ble_eq_true rfl, Nat.le_of_ble_eq_true rfl⟩ dX3_copyFrom_23 (⟨rfl, rfl⟩)
