set_option maxHeartbeats 4000000 in
set_option maxRecDepth 100000 in
theorem c_X4_init (l : Launch) (D : va_G) (ct ad : Nat → Nat) (h0 : Nat)  : ZM l yX4_init wsX4_init ({ frames := 1, cells := 4, slots := 33, locals := 12 } : Room) D ct ad [.ref h0] (f4W h0) (fun v w => ∃ (a : Nat → Nat), ((a 1 = h0)) ∧ v = none ∧ w = gridW ct a zM0) := by
  refine ZM.of (cc := cX4_init) (maxL := 1) (ret := none) (by decide +kernel) rfl (Nat.le_of_ble_eq_true rfl) ?_
  intro p e s m below meth c A ls hx hb hr hts hown hlocks hml hname hE hP hD hA hS hl
  have hK := hE.1
  have hf_0 := hts (.methodLink RX4 3 objectInit) (by decide +kernel)
  have hf_1 := hts (.instanceMethod objectInit) (by decide +kernel)
  have hf_2 := hts (.code objectInit ⟨#[0xb1]⟩ 1 none) (by decide +kernel)
  have hf_3 := hts (.fieldLink RX4 9 "RodGrids$Grid" "metals" "I") (by decide +kernel)
  have hf_4 := hts (.arrayClass .int) (by decide +kernel)
  have hf_5 := hts (.fieldLink RX4 15 "RodGrids$Grid" "stretches" "[I") (by decide +kernel)
  have hf_6 := hts (.fieldLink RX4 19 "RodGrids$Grid" "rodMetals" "[I") (by decide +kernel)
  have hf_7 := hts (.fieldLink RX4 22 "RodGrids$Grid" "directions" "[I") (by decide +kernel)
  have hf_8 := hts (.fieldLink RX4 25 "RodGrids$Grid" "lengths" "[I") (by decide +kernel)
  have hin_X4 : ∀ z ∈ u_ws RX4 TX4 6, z ∈ wsX4_init := by decide +kernel
  have hl : lv_has ls 1 [(0, .ref h0)] := hl
  refine lv_aload_n hx hb dX4_init_0 rfl (lv_at hl 0 rfl) ?_
  refine W.objInit hx hb hown hf_0 hf_1 hf_2 rfl (hl.1.trans hml.symm) rfl dX4_init_1 (Nat.le_of_ble_eq_true rfl) (Nat.le_of_ble_eq_true rfl) ?_
  refine W.eq (g2 := F0 m 4 ls []) rfl ?_
  refine lv_aload_n hx hb dX4_init_4 rfl (lv_at hl 0 rfl) ?_
  refine z_iconst hx hb dX4_init_5 ?_
  refine z_put (ct := ct) (ad := ad) (ci := 3) (v := .int (zI 2)) (ty := tyX4 0) (C := RX4) (T := TX4) (N := 6) (w2 := ([(h0, .inr (3, [.int (zI 2), .null, .int (zI 0), .null, .null, .null]))] : va_W)) hx hb hts hin_X4 tyX4 tyX4_ok nmX4 hown hE hP hD hS 0 rfl rfl 0 (by decide) hf_3 (fun _ h9 => h9) rfl (by decide +kernel) rfl rfl (Nat.le_of_ble_eq_true rfl) dX4_init_6 (rfl) (fun H locs hP hD hS => ?_)
  refine lv_aload_n hx hb dX4_init_9 rfl (lv_at hl 0 rfl) ?_
  refine z_bipush hx hb dX4_init_10 (by decide) ?_
  refine z_newI (N' := 6) hx hb hf_4 hK hP hD hS hA rfl (by decide) (Nat.le_of_ble_eq_true rfl) (Nat.le_of_ble_eq_true rfl) dX4_init_12 (fun q_12 H hP hD hS => ?_)
  have hP : va_P D vwCl (([(h0, .inr (3, [.int (zI 2), .null, .int (zI 0), .null, .null, .null]))] : va_W) ++ (irW ct q_12 6 (fun _ => 0))) H := hP
  have hD : va_D A (([(h0, .inr (3, [.int (zI 2), .null, .int (zI 0), .null, .null, .null]))] : va_W) ++ (irW ct q_12 6 (fun _ => 0))) := hD
  refine z_putF (ct := ct) (ad := ad) (ci := 3) (v := .ref q_12) (ty := tyX4 1) (C := RX4) (T := TX4) (N := 6) (w2 := ([(h0, .inr (3, [.int (zI 2), .ref q_12, .int (zI 0), .null, .null, .null]))] : va_W) ++ (irW ct q_12 6 (fun _ => 0))) hx hb hts hin_X4 tyX4 tyX4_ok nmX4 hown hE hP hD hS 0 rfl rfl 1 (by decide) hf_5 (fun _ h9 => h9) rfl (hname.trans rfl) rfl (by decide +kernel) rfl rfl (Nat.le_of_ble_eq_true rfl) dX4_init_14 rfl (fun H locs hP hD hS => ?_)
  refine lv_aload_n hx hb dX4_init_17 rfl (lv_at hl 0 rfl) ?_
  refine z_bipush hx hb dX4_init_18 (by decide) ?_
  refine z_newI (N' := 9) hx hb hf_4 hK hP hD hS hA rfl (by decide) (Nat.le_of_ble_eq_true rfl) (Nat.le_of_ble_eq_true rfl) dX4_init_20 (fun q_20 H hP hD hS => ?_)
  have hP : va_P D vwCl (([(h0, .inr (3, [.int (zI 2), .ref q_12, .int (zI 0), .null, .null, .null]))] : va_W) ++ (irW ct q_12 6 (fun _ => 0) ++ (irW ct q_20 9 (fun _ => 0)))) H := hP
  have hD : va_D A (([(h0, .inr (3, [.int (zI 2), .ref q_12, .int (zI 0), .null, .null, .null]))] : va_W) ++ (irW ct q_12 6 (fun _ => 0) ++ (irW ct q_20 9 (fun _ => 0)))) := hD
  refine z_putF (ct := ct) (ad := ad) (ci := 3) (v := .ref q_20) (ty := tyX4 3) (C := RX4) (T := TX4) (N := 6) (w2 := ([(h0, .inr (3, [.int (zI 2), .ref q_12, .int (zI 0), .ref q_20, .null, .null]))] : va_W) ++ (irW ct q_12 6 (fun _ => 0) ++ (irW ct q_20 9 (fun _ => 0)))) hx hb hts hin_X4 tyX4 tyX4_ok nmX4 hown hE hP hD hS 0 rfl rfl 3 (by decide) hf_6 (fun _ h9 => h9) rfl (hname.trans rfl) rfl (by decide +kernel) rfl rfl (Nat.le_of_ble_eq_true rfl) dX4_init_22 rfl (fun H locs hP hD hS => ?_)
  refine lv_aload_n hx hb dX4_init_25 rfl (lv_at hl 0 rfl) ?_
  refine z_bipush hx hb dX4_init_26 (by decide) ?_
  refine z_newI (N' := 9) hx hb hf_4 hK hP hD hS hA rfl (by decide) (Nat.le_of_ble_eq_true rfl) (Nat.le_of_ble_eq_true rfl) dX4_init_28 (fun q_28 H hP hD hS => ?_)
  have hP : va_P D vwCl (([(h0, .inr (3, [.int (zI 2), .ref q_12, .int (zI 0), .ref q_20, .null, .null]))] : va_W) ++ (irW ct q_12 6 (fun _ => 0) ++ (irW ct q_20 9 (fun _ => 0) ++ (irW ct q_28 9 (fun _ => 0))))) H := hP
  have hD : va_D A (([(h0, .inr (3, [.int (zI 2), .ref q_12, .int (zI 0), .ref q_20, .null, .null]))] : va_W) ++ (irW ct q_12 6 (fun _ => 0) ++ (irW ct q_20 9 (fun _ => 0) ++ (irW ct q_28 9 (fun _ => 0))))) := hD
  refine z_putF (ct := ct) (ad := ad) (ci := 3) (v := .ref q_28) (ty := tyX4 4) (C := RX4) (T := TX4) (N := 6) (w2 := ([(h0, .inr (3, [.int (zI 2), .ref q_12, .int (zI 0), .ref q_20, .ref q_28, .null]))] : va_W) ++ (irW ct q_12 6 (fun _ => 0) ++ (irW ct q_20 9 (fun _ => 0) ++ (irW ct q_28 9 (fun _ => 0))))) hx hb hts hin_X4 tyX4 tyX4_ok nmX4 hown hE hP hD hS 0 rfl rfl 4 (by decide) hf_7 (fun _ h9 => h9) rfl (hname.trans rfl) rfl (by decide +kernel) rfl rfl (Nat.le_of_ble_eq_true rfl) dX4_init_30 rfl (fun H locs hP hD hS => ?_)
  refine lv_aload_n hx hb dX4_init_33 rfl (lv_at hl 0 rfl) ?_
  refine z_bipush hx hb dX4_init_34 (by decide) ?_
  refine z_newI (N' := 9) hx hb hf_4 hK hP hD hS hA rfl (by decide) (Nat.le_of_ble_eq_true rfl) (Nat.le_of_ble_eq_true rfl) dX4_init_36 (fun q_36 H hP hD hS => ?_)
  have hP : va_P D vwCl (([(h0, .inr (3, [.int (zI 2), .ref q_12, .int (zI 0), .ref q_20, .ref q_28, .null]))] : va_W) ++ (irW ct q_12 6 (fun _ => 0) ++ (irW ct q_20 9 (fun _ => 0) ++ (irW ct q_28 9 (fun _ => 0) ++ (irW ct q_36 9 (fun _ => 0)))))) H := hP
  have hD : va_D A (([(h0, .inr (3, [.int (zI 2), .ref q_12, .int (zI 0), .ref q_20, .ref q_28, .null]))] : va_W) ++ (irW ct q_12 6 (fun _ => 0) ++ (irW ct q_20 9 (fun _ => 0) ++ (irW ct q_28 9 (fun _ => 0) ++ (irW ct q_36 9 (fun _ => 0)))))) := hD
  refine z_putF (ct := ct) (ad := ad) (ci := 3) (v := .ref q_36) (ty := tyX4 5) (C := RX4) (T := TX4) (N := 6) (w2 := ([(h0, .inr (3, [.int (zI 2), .ref q_12, .int (zI 0), .ref q_20, .ref q_28, .ref q_36]))] : va_W) ++ (irW ct q_12 6 (fun _ => 0) ++ (irW ct q_20 9 (fun _ => 0) ++ (irW ct q_28 9 (fun _ => 0) ++ (irW ct q_36 9 (fun _ => 0)))))) hx hb hts hin_X4 tyX4 tyX4_ok nmX4 hown hE hP hD hS 0 rfl rfl 5 (by decide) hf_8 (fun _ h9 => h9) rfl (hname.trans rfl) rfl (by decide +kernel) rfl rfl (Nat.le_of_ble_eq_true rfl) dX4_init_38 rfl (fun H locs hP hD hS => ?_)
  refine lv_aload_n hx hb dX4_init_41 rfl (lv_at hl 0 rfl) ?_
  refine va_get (D := D) (ci := 3) (v := .ref q_12) (C := RX4) (T := TX4) (N := 6) hx hb hts hin_X4 hown hK hP 0 rfl rfl 1 (by decide) hf_5 (fun _ h9 => h9) rfl dX4_init_42 ?_
  refine z_iconst hx hb dX4_init_45 ?_
  refine z_bipush hx hb dX4_init_46 (by decide) ?_
  refine z_iast (g := (fun _ => 0)) (w2 := ([(h0, .inr (3, [.int (zI 2), .ref q_12, .int (zI 0), .ref q_20, .ref q_28, .ref q_36]))] : va_W) ++ (irW ct q_12 6 (up (fun _ => 0) 0 115) ++ (irW ct q_20 9 (fun _ => 0) ++ (irW ct q_28 9 (fun _ => 0) ++ (irW ct q_36 9 (fun _ => 0)))))) hx hb hK hP hD hS 1 rfl (by decide) (by omega) dX4_init_48 (rfl) (fun H locs hP hD hS => ?_)
  refine lv_aload_n hx hb dX4_init_49 rfl (lv_at hl 0 rfl) ?_
  refine va_get (D := D) (ci := 3) (v := .ref q_12) (C := RX4) (T := TX4) (N := 6) hx hb hts hin_X4 hown hK hP 0 rfl rfl 1 (by decide) hf_5 (fun _ h9 => h9) rfl dX4_init_50 ?_
  refine z_iconst hx hb dX4_init_53 ?_
  refine z_sipush hx hb dX4_init_54 (by decide) ?_
  refine z_iast (g := up (fun _ => 0) 0 115) (w2 := ([(h0, .inr (3, [.int (zI 2), .ref q_12, .int (zI 0), .ref q_20, .ref q_28, .ref q_36]))] : va_W) ++ (irW ct q_12 6 (up (up (fun _ => 0) 0 115) 1 190) ++ (irW ct q_20 9 (fun _ => 0) ++ (irW ct q_28 9 (fun _ => 0) ++ (irW ct q_36 9 (fun _ => 0)))))) hx hb hK hP hD hS 1 rfl (by decide) (by omega) dX4_init_57 (rfl) (fun H locs hP hD hS => ?_)
  exact z_vret hx hb hr hlocks hP hD hS ⟨Nat.le_of_ble_eq_true rfl, Nat.le_of_ble_eq_true rfl⟩ dX4_init_58 (⟨gA h0 q_12 q_20 q_28 q_36, rfl, rfl, gridW_0⟩)
set_option maxHeartbeats 4000000 in
set_option maxRecDepth 100000 in
theorem c_X1_init (l : Launch) (D : va_G) (ct ad : Nat → Nat) (h0 : Nat)  : ZM l yX1_init wsX1_init ({ frames := 1, cells := 2, slots := 8, locals := 12 } : Room) D ct ad [.ref h0] (f1W h0) (fun v w => ∃ (a : Nat → Nat), ((a 6 = h0)) ∧ v = none ∧ w = benchW ct a zM0) := by
  refine ZM.of (cc := cX1_init) (maxL := 2) (ret := none) (by decide +kernel) rfl (Nat.le_of_ble_eq_true rfl) ?_
  intro p e s m below meth c A ls hx hb hr hts hown hlocks hml hname hE hP hD hA hS hl
  have hK := hE.1
  have hf_0 := hts (.methodLink RX1 3 objectInit) (by decide +kernel)
  have hf_1 := hts (.instanceMethod objectInit) (by decide +kernel)
  have hf_2 := hts (.code objectInit ⟨#[0xb1]⟩ 1 none) (by decide +kernel)
  have hf_3 := hts (.arrayClass .int) (by decide +kernel)
  have hf_4 := hts (.fieldLink RX1 9 "RodGrids$Bench" "shelfWarmths" "[I") (by decide +kernel)
  have hf_5 := hts (.fieldLink RX1 15 "RodGrids$Bench" "settings" "[I") (by decide +kernel)
  have hf_6 := hts (.fieldLink RX1 18 "RodGrids$Bench" "warmth" "I") (by decide +kernel)
  have hf_7 := hts (.fieldLink RX1 22 "RodGrids$Bench" "drive" "I") (by decide +kernel)
  have hf_8 := hts (.constant RX1 25 (994000)) (by decide +kernel)
  have hin_X1 : ∀ z ∈ u_ws RX1 TX1 12, z ∈ wsX1_init := by decide +kernel
  have hl : lv_has ls 2 [(0, .ref h0)] := hl
  refine lv_aload_n hx hb dX1_init_0 rfl (lv_at hl 0 rfl) ?_
  refine W.objInit hx hb hown hf_0 hf_1 hf_2 rfl (hl.1.trans hml.symm) rfl dX1_init_1 (Nat.le_of_ble_eq_true rfl) (Nat.le_of_ble_eq_true rfl) ?_
  refine W.eq (g2 := F0 m 4 ls []) rfl ?_
  refine lv_aload_n hx hb dX1_init_4 rfl (lv_at hl 0 rfl) ?_
  refine z_iconst hx hb dX1_init_5 ?_
  refine z_newI (N' := 5) hx hb hf_3 hK hP hD hS hA rfl (by decide) (Nat.le_of_ble_eq_true rfl) (Nat.le_of_ble_eq_true rfl) dX1_init_6 (fun q_6 H hP hD hS => ?_)
  have hP : va_P D vwCl (f1W h0 ++ (irW ct q_6 5 (fun _ => 0))) H := hP
  have hD : va_D A (f1W h0 ++ (irW ct q_6 5 (fun _ => 0))) := hD
  refine z_putF (ct := ct) (ad := ad) (ci := 0) (v := .ref q_6) (ty := tyX1 0) (C := RX1) (T := TX1) (N := 12) (w2 := ([(h0, .inr (0, [.ref q_6, .null, .int (zI 0), .int (zI 0), .int (zI 0), .int (zI 0), .int (zI 0), .int (zI 0), .int (zI 0), .long (zJ 0), .long (zJ 0), .int (zI 0)]))] : va_W) ++ (irW ct q_6 5 (fun _ => 0))) hx hb hts hin_X1 tyX1 tyX1_ok nmX1 hown hE hP hD hS 0 rfl rfl 0 (by decide) hf_4 (fun _ h9 => h9) rfl (hname.trans rfl) rfl (by decide +kernel) rfl rfl (Nat.le_of_ble_eq_true rfl) dX1_init_8 rfl (fun H locs hP hD hS => ?_)
  refine lv_aload_n hx hb dX1_init_11 rfl (lv_at hl 0 rfl) ?_
  refine z_iconst hx hb dX1_init_12 ?_
  refine z_newI (N' := 3) hx hb hf_3 hK hP hD hS hA rfl (by decide) (Nat.le_of_ble_eq_true rfl) (Nat.le_of_ble_eq_true rfl) dX1_init_13 (fun q_13 H hP hD hS => ?_)
  have hP : va_P D vwCl (([(h0, .inr (0, [.ref q_6, .null, .int (zI 0), .int (zI 0), .int (zI 0), .int (zI 0), .int (zI 0), .int (zI 0), .int (zI 0), .long (zJ 0), .long (zJ 0), .int (zI 0)]))] : va_W) ++ (irW ct q_6 5 (fun _ => 0) ++ (irW ct q_13 3 (fun _ => 0)))) H := hP
  have hD : va_D A (([(h0, .inr (0, [.ref q_6, .null, .int (zI 0), .int (zI 0), .int (zI 0), .int (zI 0), .int (zI 0), .int (zI 0), .int (zI 0), .long (zJ 0), .long (zJ 0), .int (zI 0)]))] : va_W) ++ (irW ct q_6 5 (fun _ => 0) ++ (irW ct q_13 3 (fun _ => 0)))) := hD
  refine z_putF (ct := ct) (ad := ad) (ci := 0) (v := .ref q_13) (ty := tyX1 1) (C := RX1) (T := TX1) (N := 12) (w2 := ([(h0, .inr (0, [.ref q_6, .ref q_13, .int (zI 0), .int (zI 0), .int (zI 0), .int (zI 0), .int (zI 0), .int (zI 0), .int (zI 0), .long (zJ 0), .long (zJ 0), .int (zI 0)]))] : va_W) ++ (irW ct q_6 5 (fun _ => 0) ++ (irW ct q_13 3 (fun _ => 0)))) hx hb hts hin_X1 tyX1 tyX1_ok nmX1 hown hE hP hD hS 0 rfl rfl 1 (by decide) hf_5 (fun _ h9 => h9) rfl (hname.trans rfl) rfl (by decide +kernel) rfl rfl (Nat.le_of_ble_eq_true rfl) dX1_init_15 rfl (fun H locs hP hD hS => ?_)
  refine lv_aload_n hx hb dX1_init_18 rfl (lv_at hl 0 rfl) ?_
  refine z_sipush hx hb dX1_init_19 (by decide) ?_
  refine z_put (ct := ct) (ad := ad) (ci := 0) (v := .int (zI 200)) (ty := tyX1 3) (C := RX1) (T := TX1) (N := 12) (w2 := ([(h0, .inr (0, [.ref q_6, .ref q_13, .int (zI 0), .int (zI 200), .int (zI 0), .int (zI 0), .int (zI 0), .int (zI 0), .int (zI 0), .long (zJ 0), .long (zJ 0), .int (zI 0)]))] : va_W) ++ (irW ct q_6 5 (fun _ => 0) ++ (irW ct q_13 3 (fun _ => 0)))) hx hb hts hin_X1 tyX1 tyX1_ok nmX1 hown hE hP hD hS 0 rfl rfl 3 (by decide) hf_6 (fun _ h9 => h9) rfl (by decide +kernel) rfl rfl (Nat.le_of_ble_eq_true rfl) dX1_init_22 (rfl) (fun H locs hP hD hS => ?_)
  refine lv_aload_n hx hb dX1_init_25 rfl (lv_at hl 0 rfl) ?_
  refine z_sipush hx hb dX1_init_26 (by decide) ?_
  refine z_put (ct := ct) (ad := ad) (ci := 0) (v := .int (zI 192)) (ty := tyX1 5) (C := RX1) (T := TX1) (N := 12) (w2 := ([(h0, .inr (0, [.ref q_6, .ref q_13, .int (zI 0), .int (zI 200), .int (zI 0), .int (zI 192), .int (zI 0), .int (zI 0), .int (zI 0), .long (zJ 0), .long (zJ 0), .int (zI 0)]))] : va_W) ++ (irW ct q_6 5 (fun _ => 0) ++ (irW ct q_13 3 (fun _ => 0)))) hx hb hts hin_X1 tyX1 tyX1_ok nmX1 hown hE hP hD hS 0 rfl rfl 5 (by decide) hf_7 (fun _ h9 => h9) rfl (by decide +kernel) rfl rfl (Nat.le_of_ble_eq_true rfl) dX1_init_29 (rfl) (fun H locs hP hD hS => ?_)
  refine z_iconst hx hb dX1_init_32 ?_
  refine lv_istore_n (lv' := [(1, .int (zI 0)), (0, .ref h0)]) hx hb dX1_init_33 rfl hl (by decide) rfl (fun ls hl => ?_)
  refine z_loop (σ := Int × (Int → Int)) (fun q9 => (5 - q9.1).toNat) (fun q9 => (0 ≤ q9.1 ∧ q9.1 ≤ 5) ∧ (∀ x : Int, 0 ≤ x → x < q9.1 → q9.2 x = 200)) (fun q9 => b1W h0 q_6 q_13 ++ (irW ct q_6 5 q9.2 ++ (irW ct q_13 3 (fun _ => 0)))) (fun q9 => [(0, .ref h0), (1, .int (zI q9.1))]) (fun q9 => []) (0, (fun _ => 0)) ⟨(show 0 ≤ 0 ∧ 0 ≤ 5 from (by omega)), (show ∀ x : Int, 0 ≤ x → x < 0 → (fun _ => 0) x = 200 from (fun x h1 h2 => by omega))⟩ hP hD hS (lv_sub hl [1, 0] rfl) rfl ?_
  rintro ⟨i, U⟩ hI_34 ih_34 H locs ls hP hD hS hl
  obtain ⟨hi, hU⟩ := hI_34
  have hi : 0 ≤ i ∧ i ≤ 5 := hi
  have hU : ∀ x : Int, 0 ≤ x → x < i → U x = 200 := hU
  have hP : va_P D vwCl (b1W h0 q_6 q_13 ++ (irW ct q_6 5 U ++ (irW ct q_13 3 (fun _ => 0)))) H := hP
  have hD : va_D A (b1W h0 q_6 q_13 ++ (irW ct q_6 5 U ++ (irW ct q_13 3 (fun _ => 0)))) := hD
  have hl : lv_has ls 2 [(0, .ref h0), (1, .int (zI i))] := hl
  refine lv_iload_n hx hb dX1_init_34 rfl (lv_at hl 1 rfl) ?_
  refine z_iconst hx hb dX1_init_35 ?_
  refine z_icmp_ge (tgt := 54) hx hb dX1_init_36 (by decide) (by omega) (by omega) (fun hc_36 => ?_) (fun hc_36 => ?_)
  · have hc_36 := hc_36
    refine lv_aload_n hx hb dX1_init_54 rfl (lv_at hl 0 rfl) ?_
    refine va_get (D := D) (ci := 0) (v := .ref q_13) (C := RX1) (T := TX1) (N := 12) hx hb hts hin_X1 hown hK hP 0 rfl rfl 1 (by decide) hf_5 (fun _ h9 => h9) rfl dX1_init_55 ?_
    refine z_iconst hx hb dX1_init_58 ?_
    refine z_ldc hx hb 994000 hown hf_8 (by decide) dX1_init_59 ?_
    refine z_iast (g := (fun _ => 0)) (w2 := b1W h0 q_6 q_13 ++ (irW ct q_6 5 U ++ (irW ct q_13 3 (up (fun _ => 0) 0 994000)))) hx hb hK hP hD hS 2 rfl (by decide) (by omega) dX1_init_61 (rfl) (fun H locs hP hD hS => ?_)
    refine lv_aload_n hx hb dX1_init_62 rfl (lv_at hl 0 rfl) ?_
    refine va_get (D := D) (ci := 0) (v := .ref q_13) (C := RX1) (T := TX1) (N := 12) hx hb hts hin_X1 hown hK hP 0 rfl rfl 1 (by decide) hf_5 (fun _ h9 => h9) rfl dX1_init_63 ?_
    refine z_iconst hx hb dX1_init_66 ?_
    refine z_iconst hx hb dX1_init_67 ?_
    refine z_iast (g := up (fun _ => 0) 0 994000) (w2 := b1W h0 q_6 q_13 ++ (irW ct q_6 5 U ++ (irW ct q_13 3 (up (up (fun _ => 0) 0 994000) 1 4)))) hx hb hK hP hD hS 2 rfl (by decide) (by omega) dX1_init_68 (rfl) (fun H locs hP hD hS => ?_)
    refine lv_aload_n hx hb dX1_init_69 rfl (lv_at hl 0 rfl) ?_
    refine va_get (D := D) (ci := 0) (v := .ref q_13) (C := RX1) (T := TX1) (N := 12) hx hb hts hin_X1 hown hK hP 0 rfl rfl 1 (by decide) hf_5 (fun _ h9 => h9) rfl dX1_init_70 ?_
    refine z_iconst hx hb dX1_init_73 ?_
    refine z_bipush hx hb dX1_init_74 (by decide) ?_
    refine z_iast (g := up (up (fun _ => 0) 0 994000) 1 4) (w2 := b1W h0 q_6 q_13 ++ (irW ct q_6 5 U ++ (irW ct q_13 3 (up (up (up (fun _ => 0) 0 994000) 1 4) 2 20)))) hx hb hK hP hD hS 2 rfl (by decide) (by omega) dX1_init_76 (rfl) (fun H locs hP hD hS => ?_)
    exact z_vret hx hb hr hlocks hP hD hS ⟨Nat.le_of_ble_eq_true rfl, Nat.le_of_ble_eq_true rfl⟩ dX1_init_77 (⟨bA h0 q_6 q_13, rfl, rfl, benchW_0 (fun x h1 h2 => hU x h1 (by omega))⟩)
  · have hc_36 := hc_36
    refine lv_aload_n hx hb dX1_init_39 rfl (lv_at hl 0 rfl) ?_
    refine va_get (D := D) (ci := 0) (v := .ref q_6) (C := RX1) (T := TX1) (N := 12) hx hb hts hin_X1 hown hK hP 0 rfl rfl 0 (by decide) hf_4 (fun _ h9 => h9) rfl dX1_init_40 ?_
    refine lv_iload_n hx hb dX1_init_43 rfl (lv_at hl 1 rfl) ?_
    refine z_sipush hx hb dX1_init_44 (by decide) ?_
    refine z_iast (g := U) (w2 := b1W h0 q_6 q_13 ++ (irW ct q_6 5 (up U i 200) ++ (irW ct q_13 3 (fun _ => 0)))) hx hb hK hP hD hS 1 rfl (by decide) (by omega) dX1_init_47 (rfl) (fun H locs hP hD hS => ?_)
    refine z_iinc (k := 1) (lv' := [(1, .int (zI (i + 1))), (0, .ref h0)]) hx hb dX1_init_48 hl rfl (by decide) rfl (fun ls hl => ?_)
    refine lv_goto (tgt := 34) hx hb dX1_init_51 (by decide) ?_
    exact ih_34 (i + 1, up U i 200) ⟨(show 0 ≤ (i + 1) ∧ (i + 1) ≤ 5 from (by omega)), (show ∀ x : Int, 0 ≤ x → x < (i + 1) → (up U i 200) x = 200 from (fun x h1 h2 => by unfold up; split <;> first | rfl | exact hU x h1 (by omega)))⟩ (show (5 - (i + 1)).toNat < (5 - i).toNat from (by omega)) _ _ _ hP hD hS (lv_sub hl [1, 0] rfl)
set_option maxHeartbeats 4000000 in
set_option maxRecDepth 100000 in
theorem c_X3_init (l : Launch) (D : va_G) (ct ad : Nat → Nat) (h0 : Nat)  : ZM l yX3_init wsX3_init ({ frames := 1, cells := 1, slots := 40, locals := 12 } : Room) D ct ad [.ref h0] (f3W h0) (fun v w => ∃ (a : Nat → Nat), ((a 9 = h0)) ∧ v = none ∧ w = logW ct a zM0) := by
  refine ZM.of (cc := cX3_init) (maxL := 1) (ret := none) (by decide +kernel) rfl (Nat.le_of_ble_eq_true rfl) ?_
  intro p e s m below meth c A ls hx hb hr hts hown hlocks hml hname hE hP hD hA hS hl
  have hK := hE.1
  have hf_0 := hts (.methodLink RX3 3 objectInit) (by decide +kernel)
  have hf_1 := hts (.instanceMethod objectInit) (by decide +kernel)
  have hf_2 := hts (.code objectInit ⟨#[0xb1]⟩ 1 none) (by decide +kernel)
  have hf_3 := hts (.arrayClass .long) (by decide +kernel)
  have hf_4 := hts (.fieldLink RX3 9 "RodGrids$DayLog" "values" "[J") (by decide +kernel)
  have hin_X3 : ∀ z ∈ u_ws RX3 TX3 2, z ∈ wsX3_init := by decide +kernel
  have hl : lv_has ls 1 [(0, .ref h0)] := hl
  refine lv_aload_n hx hb dX3_init_0 rfl (lv_at hl 0 rfl) ?_
  refine W.objInit hx hb hown hf_0 hf_1 hf_2 rfl (hl.1.trans hml.symm) rfl dX3_init_1 (Nat.le_of_ble_eq_true rfl) (Nat.le_of_ble_eq_true rfl) ?_
  refine W.eq (g2 := F0 m 4 ls []) rfl ?_
  refine lv_aload_n hx hb dX3_init_4 rfl (lv_at hl 0 rfl) ?_
  refine z_bipush hx hb dX3_init_5 (by decide) ?_
  refine z_newJ (N' := 40) hx hb hf_3 hK hP hD hS hA rfl (by decide) (Nat.le_of_ble_eq_true rfl) (Nat.le_of_ble_eq_true rfl) dX3_init_7 (fun q_7 H hP hD hS => ?_)
  have hP : va_P D vwCl (f3W h0 ++ (jrW ct q_7 40 (fun _ => 0))) H := hP
  have hD : va_D A (f3W h0 ++ (jrW ct q_7 40 (fun _ => 0))) := hD
  refine z_putF (ct := ct) (ad := ad) (ci := 2) (v := .ref q_7) (ty := tyX3 1) (C := RX3) (T := TX3) (N := 2) (w2 := ([(h0, .inr (2, [.int (zI 0), .ref q_7]))] : va_W) ++ (jrW ct q_7 40 (fun _ => 0))) hx hb hts hin_X3 tyX3 tyX3_ok nmX3 hown hE hP hD hS 0 rfl rfl 1 (by decide) hf_4 (fun _ h9 => h9) rfl (hname.trans rfl) rfl (by decide +kernel) rfl rfl (Nat.le_of_ble_eq_true rfl) dX3_init_9 rfl (fun H locs hP hD hS => ?_)
  exact z_vret hx hb hr hlocks hP hD hS ⟨Nat.le_of_ble_eq_true rfl, Nat.le_of_ble_eq_true rfl⟩ dX3_init_12 (⟨lA h0 q_7, rfl, rfl, logW_0⟩)
theorem k_X1_init : yX1_init.cls ≠ "java/lang/invoke/MethodHandle" ∧ yX1_init.cls ≠ "java/lang/invoke/VarHandle" ∧ (parseMethodDescriptor yX1_init.desc).map (fun d => d.parameters.length) = some 0 := by decide +kernel
theorem k_X3_init : yX3_init.cls ≠ "java/lang/invoke/MethodHandle" ∧ yX3_init.cls ≠ "java/lang/invoke/VarHandle" ∧ (parseMethodDescriptor yX3_init.desc).map (fun d => d.parameters.length) = some 0 := by decide +kernel
theorem k_X4_init : yX4_init.cls ≠ "java/lang/invoke/MethodHandle" ∧ yX4_init.cls ≠ "java/lang/invoke/VarHandle" ∧ (parseMethodDescriptor yX4_init.desc).map (fun d => d.parameters.length) = some 0 := by decide +kernel
set_option maxHeartbeats 4000000 in
set_option maxRecDepth 100000 in
theorem c_X6_init (l : Launch) (D : va_G) (ct ad : Nat → Nat) (h0 : Nat)  : ZM l yX6_init wsX6_init ({ frames := 2, cells := 10, slots := 101, locals := 33 } : Room) D ct ad [.ref h0] (f6W h0) (fun v w => ∃ (a : Nat → Nat), ((a 0 = h0)) ∧ v = none ∧ w = sobjW a ++ (gridW ct a zM0 ++ (benchW ct a zM0 ++ (logW ct a zM0)))) := by
  refine ZM.of (cc := cX6_init) (maxL := 1) (ret := none) (by decide +kernel) rfl (Nat.le_of_ble_eq_true rfl) ?_
  intro p e s m below meth c A ls hx hb hr hts hown hlocks hml hname hE hP hD hA hS hl
  have hK := hE.1
  have hf_0 := hts (.methodLink RX6 3 objectInit) (by decide +kernel)
  have hf_1 := hts (.instanceMethod objectInit) (by decide +kernel)
  have hf_2 := hts (.code objectInit ⟨#[0xb1]⟩ 1 none) (by decide +kernel)
  have hf_3 := hts (.classLink RX6 9 RX4) (by decide +kernel)
  have hf_4 := hts (.instantiable RX4 6) (by decide +kernel)
  have hf_5 := hts (.initialized RX4) (by decide +kernel)
  have hf_6 := hts (.fieldLink RX6 12 "RodGrids$State" "grid" "LRodGrids$Grid;") (by decide +kernel)
  have hf_7 := hts (.classLink RX6 18 RX1) (by decide +kernel)
  have hf_8 := hts (.instantiable RX1 12) (by decide +kernel)
  have hf_9 := hts (.initialized RX1) (by decide +kernel)
  have hf_10 := hts (.fieldLink RX6 21 "RodGrids$State" "bench" "LRodGrids$Bench;") (by decide +kernel)
  have hf_11 := hts (.classLink RX6 25 RX3) (by decide +kernel)
  have hf_12 := hts (.instantiable RX3 2) (by decide +kernel)
  have hf_13 := hts (.initialized RX3) (by decide +kernel)
  have hf_14 := hts (.fieldLink RX6 28 "RodGrids$State" "log" "LRodGrids$DayLog;") (by decide +kernel)
  have hin_X1 : ∀ z ∈ u_ws RX1 TX1 12, z ∈ wsX6_init := by decide +kernel
  have hin_X3 : ∀ z ∈ u_ws RX3 TX3 2, z ∈ wsX6_init := by decide +kernel
  have hin_X4 : ∀ z ∈ u_ws RX4 TX4 6, z ∈ wsX6_init := by decide +kernel
  have hin_X6 : ∀ z ∈ u_ws RX6 TX6 3, z ∈ wsX6_init := by decide +kernel
  have hl : lv_has ls 1 [(0, .ref h0)] := hl
  refine lv_aload_n hx hb dX6_init_0 rfl (lv_at hl 0 rfl) ?_
  refine W.objInit hx hb hown hf_0 hf_1 hf_2 rfl (hl.1.trans hml.symm) rfl dX6_init_1 (Nat.le_of_ble_eq_true rfl) (Nat.le_of_ble_eq_true rfl) ?_
  refine W.eq (g2 := F0 m 4 ls []) rfl ?_
  refine lv_aload_n hx hb dX6_init_4 rfl (lv_at hl 0 rfl) ?_
  refine va_new (D := D) (ci := 3) (fs := [.int (zI 0), .null, .int (zI 0), .null, .null, .null]) (C := RX4) (T := TX4) (N := 6) hx hb hts hin_X4 tyX4 tyX4_ok hown hf_3 hf_4 hf_5 hK hP hD hS hA rfl (fun j hj => by rcases (show j = 0 ∨ j = 1 ∨ j = 2 ∨ j = 3 ∨ j = 4 ∨ j = 5 by omega) with rfl | rfl | rfl | rfl | rfl | rfl <;> rfl) (Nat.le_of_ble_eq_true rfl) (Nat.le_of_ble_eq_true rfl) dX6_init_5 (fun q_5 H hP hD hS => ?_)
  have hP : va_P D vwCl (f6W h0 ++ (f4W q_5)) H := hP
  have hD : va_D A (f6W h0 ++ (f4W q_5)) := hD
  refine W.eq (g2 := F0 m 8 ls [.ref q_5, .ref h0]) rfl ?_
  refine lv_dup hx hb dX6_init_8 rfl ?_
  refine z_callI (ret := none) (b := q_5) (As := []) (rest := [.ref q_5, .ref h0]) (f6W h0) ([] : va_W) hx hb hml hown hts hl hE hS hA (zr0 (f6W h0) hP) (zr0D (f6W h0) hD) (c_X4_init l D ct ad q_5) ggX6_init_X4_init rfl k_X4_init ⟨Nat.le_of_ble_eq_true rfl, Nat.le_of_ble_eq_true rfl⟩ (hts (.initialized RX4) (by decide +kernel)) (hts (.methodLink RX6 11 yX4_init) (by decide +kernel)) (hts (.instanceMethod yX4_init) (by decide +kernel)) rfl rfl (Nat.le_of_ble_eq_true rfl) ⟨Nat.le_of_ble_eq_true rfl, Nat.le_of_ble_eq_true rfl⟩ dX6_init_9 rfl (fun v w1 H locs hpost hP hD hS => ?_)
  obtain ⟨a_9, hx0_9, rfl, rfl⟩ := hpost
  have hP := zr0' hP
  have hD := zr0D' hD
  have hP : va_P D vwCl (f6W h0 ++ (gridW ct a_9 zM0)) H := hP
  have hD : va_D A (f6W h0 ++ (gridW ct a_9 zM0)) := hD
  refine W.eq (g2 := F0 m 12 ls [.ref q_5, .ref h0]) rfl ?_
  have hP9_9 := hP
  have hD9_9 := hD
  have hl9_9 := hl
  have hS9_9 := hS
  subst hx0_9
  have hP : va_P D vwCl (f6W h0 ++ (gridW ct a_9 zM0)) H := hP9_9
  have hD : va_D A (f6W h0 ++ (gridW ct a_9 zM0)) := hD9_9
  have hl : lv_has ls 1 [(0, .ref h0)] := hl9_9
  have hS := hS9_9
  refine W.eq (g2 := F0 m 12 ls [.ref (a_9 1), .ref h0]) rfl ?_
  refine z_putF (ct := ct) (ad := ad) (ci := 5) (v := .ref (a_9 1)) (ty := tyX6 0) (C := RX6) (T := TX6) (N := 3) (w2 := ([(h0, .inr (5, [.ref (a_9 1), .null, .null]))] : va_W) ++ (gridW ct a_9 zM0)) hx hb hts hin_X6 tyX6 tyX6_ok nmX6 hown hE hP hD hS 0 rfl rfl 0 (by decide) hf_6 (fun _ h9 => h9) rfl (hname.trans rfl) rfl (by decide +kernel) rfl rfl (Nat.le_of_ble_eq_true rfl) dX6_init_12 rfl (fun H locs hP hD hS => ?_)
  refine lv_aload_n hx hb dX6_init_15 rfl (lv_at hl 0 rfl) ?_
  refine va_new (D := D) (ci := 0) (fs := [.null, .null, .int (zI 0), .int (zI 0), .int (zI 0), .int (zI 0), .int (zI 0), .int (zI 0), .int (zI 0), .long (zJ 0), .long (zJ 0), .int (zI 0)]) (C := RX1) (T := TX1) (N := 12) hx hb hts hin_X1 tyX1 tyX1_ok hown hf_7 hf_8 hf_9 hK hP hD hS hA rfl (fun j hj => by rcases (show j = 0 ∨ j = 1 ∨ j = 2 ∨ j = 3 ∨ j = 4 ∨ j = 5 ∨ j = 6 ∨ j = 7 ∨ j = 8 ∨ j = 9 ∨ j = 10 ∨ j = 11 by omega) with rfl | rfl | rfl | rfl | rfl | rfl | rfl | rfl | rfl | rfl | rfl | rfl <;> rfl) (Nat.le_of_ble_eq_true rfl) (Nat.le_of_ble_eq_true rfl) dX6_init_16 (fun q_16 H hP hD hS => ?_)
  have hP : va_P D vwCl (([(h0, .inr (5, [.ref (a_9 1), .null, .null]))] : va_W) ++ (gridW ct a_9 zM0 ++ (f1W q_16))) H := hP
  have hD : va_D A (([(h0, .inr (5, [.ref (a_9 1), .null, .null]))] : va_W) ++ (gridW ct a_9 zM0 ++ (f1W q_16))) := hD
  refine W.eq (g2 := F0 m 19 ls [.ref q_16, .ref h0]) rfl ?_
  refine lv_dup hx hb dX6_init_19 rfl ?_
  refine z_callI (ret := none) (b := q_16) (As := []) (rest := [.ref q_16, .ref h0]) (([(h0, .inr (5, [.ref (a_9 1), .null, .null]))] : va_W) ++ (gridW ct a_9 zM0)) ([] : va_W) hx hb hml hown hts hl hE hS hA (zr0 (([(h0, .inr (5, [.ref (a_9 1), .null, .null]))] : va_W) ++ (gridW ct a_9 zM0)) hP) (zr0D (([(h0, .inr (5, [.ref (a_9 1), .null, .null]))] : va_W) ++ (gridW ct a_9 zM0)) hD) (c_X1_init l D ct ad q_16) ggX6_init_X1_init rfl k_X1_init ⟨Nat.le_of_ble_eq_true rfl, Nat.le_of_ble_eq_true rfl⟩ (hts (.initialized RX1) (by decide +kernel)) (hts (.methodLink RX6 20 yX1_init) (by decide +kernel)) (hts (.instanceMethod yX1_init) (by decide +kernel)) rfl rfl (Nat.le_of_ble_eq_true rfl) ⟨Nat.le_of_ble_eq_true rfl, Nat.le_of_ble_eq_true rfl⟩ dX6_init_20 rfl (fun v w1 H locs hpost hP hD hS => ?_)
  obtain ⟨a_20, hx0_20, rfl, rfl⟩ := hpost
  have hP := zr0' hP
  have hD := zr0D' hD
  have hP : va_P D vwCl (([(h0, .inr (5, [.ref (a_9 1), .null, .null]))] : va_W) ++ (gridW ct a_9 zM0 ++ (benchW ct a_20 zM0))) H := hP
  have hD : va_D A (([(h0, .inr (5, [.ref (a_9 1), .null, .null]))] : va_W) ++ (gridW ct a_9 zM0 ++ (benchW ct a_20 zM0))) := hD
  refine W.eq (g2 := F0 m 23 ls [.ref q_16, .ref h0]) rfl ?_
  have hP9_20 := hP
  have hD9_20 := hD
  have hl9_20 := hl
  have hS9_20 := hS
  subst hx0_20
  have hP : va_P D vwCl (([(h0, .inr (5, [.ref (a_9 1), .null, .null]))] : va_W) ++ (gridW ct a_9 zM0 ++ (benchW ct a_20 zM0))) H := hP9_20
  have hD : va_D A (([(h0, .inr (5, [.ref (a_9 1), .null, .null]))] : va_W) ++ (gridW ct a_9 zM0 ++ (benchW ct a_20 zM0))) := hD9_20
  have hl : lv_has ls 1 [(0, .ref h0)] := hl9_20
  have hS := hS9_20
  refine W.eq (g2 := F0 m 23 ls [.ref (a_20 6), .ref h0]) rfl ?_
  refine z_putF (ct := ct) (ad := ad) (ci := 5) (v := .ref (a_20 6)) (ty := tyX6 1) (C := RX6) (T := TX6) (N := 3) (w2 := ([(h0, .inr (5, [.ref (a_9 1), .ref (a_20 6), .null]))] : va_W) ++ (gridW ct a_9 zM0 ++ (benchW ct a_20 zM0))) hx hb hts hin_X6 tyX6 tyX6_ok nmX6 hown hE hP hD hS 0 rfl rfl 1 (by decide) hf_10 (fun _ h9 => h9) rfl (hname.trans rfl) rfl (by decide +kernel) rfl rfl (Nat.le_of_ble_eq_true rfl) dX6_init_23 rfl (fun H locs hP hD hS => ?_)
  refine lv_aload_n hx hb dX6_init_26 rfl (lv_at hl 0 rfl) ?_
  refine va_new (D := D) (ci := 2) (fs := [.int (zI 0), .null]) (C := RX3) (T := TX3) (N := 2) hx hb hts hin_X3 tyX3 tyX3_ok hown hf_11 hf_12 hf_13 hK hP hD hS hA rfl (fun j hj => by rcases (show j = 0 ∨ j = 1 by omega) with rfl | rfl <;> rfl) (Nat.le_of_ble_eq_true rfl) (Nat.le_of_ble_eq_true rfl) dX6_init_27 (fun q_27 H hP hD hS => ?_)
  have hP : va_P D vwCl (([(h0, .inr (5, [.ref (a_9 1), .ref (a_20 6), .null]))] : va_W) ++ (gridW ct a_9 zM0 ++ (benchW ct a_20 zM0 ++ (f3W q_27)))) H := hP
  have hD : va_D A (([(h0, .inr (5, [.ref (a_9 1), .ref (a_20 6), .null]))] : va_W) ++ (gridW ct a_9 zM0 ++ (benchW ct a_20 zM0 ++ (f3W q_27)))) := hD
  refine W.eq (g2 := F0 m 30 ls [.ref q_27, .ref h0]) rfl ?_
  refine lv_dup hx hb dX6_init_30 rfl ?_
  refine z_callIN (ret := none) (host := RX8) (b := q_27) (As := []) (rest := [.ref q_27, .ref h0]) (([(h0, .inr (5, [.ref (a_9 1), .ref (a_20 6), .null]))] : va_W) ++ (gridW ct a_9 zM0 ++ (benchW ct a_20 zM0))) ([] : va_W) hx hb hml hown hts hl hE hS hA (zr0 (([(h0, .inr (5, [.ref (a_9 1), .ref (a_20 6), .null]))] : va_W) ++ (gridW ct a_9 zM0 ++ (benchW ct a_20 zM0))) hP) (zr0D (([(h0, .inr (5, [.ref (a_9 1), .ref (a_20 6), .null]))] : va_W) ++ (gridW ct a_9 zM0 ++ (benchW ct a_20 zM0))) hD) (c_X3_init l D ct ad q_27) ggX6_init_X3_init rfl k_X3_init ⟨Nat.le_of_ble_eq_true rfl, Nat.le_of_ble_eq_true rfl⟩ (hE.2.1.1 _ (List.mem_of_getElem? (i := 17) rfl)) (hts (.initialized RX3) (by decide +kernel)) (hts (.instanceMethod yX3_init) (by decide +kernel)) rfl rfl (Nat.le_of_ble_eq_true rfl) ⟨Nat.le_of_ble_eq_true rfl, Nat.le_of_ble_eq_true rfl⟩ dX6_init_31 rfl (fun v w1 H locs hpost hP hD hS => ?_)
  obtain ⟨a_31, hx0_31, rfl, rfl⟩ := hpost
  have hP := zr0' hP
  have hD := zr0D' hD
  have hP : va_P D vwCl (([(h0, .inr (5, [.ref (a_9 1), .ref (a_20 6), .null]))] : va_W) ++ (gridW ct a_9 zM0 ++ (benchW ct a_20 zM0 ++ (logW ct a_31 zM0)))) H := hP
  have hD : va_D A (([(h0, .inr (5, [.ref (a_9 1), .ref (a_20 6), .null]))] : va_W) ++ (gridW ct a_9 zM0 ++ (benchW ct a_20 zM0 ++ (logW ct a_31 zM0)))) := hD
  refine W.eq (g2 := F0 m 34 ls [.ref q_27, .ref h0]) rfl ?_
  have hP9_31 := hP
  have hD9_31 := hD
  have hl9_31 := hl
  have hS9_31 := hS
  subst hx0_31
  have hP : va_P D vwCl (([(h0, .inr (5, [.ref (a_9 1), .ref (a_20 6), .null]))] : va_W) ++ (gridW ct a_9 zM0 ++ (benchW ct a_20 zM0 ++ (logW ct a_31 zM0)))) H := hP9_31
  have hD : va_D A (([(h0, .inr (5, [.ref (a_9 1), .ref (a_20 6), .null]))] : va_W) ++ (gridW ct a_9 zM0 ++ (benchW ct a_20 zM0 ++ (logW ct a_31 zM0)))) := hD9_31
  have hl : lv_has ls 1 [(0, .ref h0)] := hl9_31
  have hS := hS9_31
  refine W.eq (g2 := F0 m 34 ls [.ref (a_31 9), .ref h0]) rfl ?_
  refine z_putF (ct := ct) (ad := ad) (ci := 5) (v := .ref (a_31 9)) (ty := tyX6 2) (C := RX6) (T := TX6) (N := 3) (w2 := ([(h0, .inr (5, [.ref (a_9 1), .ref (a_20 6), .ref (a_31 9)]))] : va_W) ++ (gridW ct a_9 zM0 ++ (benchW ct a_20 zM0 ++ (logW ct a_31 zM0)))) hx hb hts hin_X6 tyX6 tyX6_ok nmX6 hown hE hP hD hS 0 rfl rfl 2 (by decide) hf_14 (fun _ h9 => h9) rfl (hname.trans rfl) rfl (by decide +kernel) rfl rfl (Nat.le_of_ble_eq_true rfl) dX6_init_34 rfl (fun H locs hP hD hS => ?_)
  exact z_vret hx hb hr hlocks hP hD hS ⟨Nat.le_of_ble_eq_true rfl, Nat.le_of_ble_eq_true rfl⟩ dX6_init_37 (⟨sA h0 a_9 a_20 a_31, rfl, rfl, rfl⟩)
theorem k_X6_init : yX6_init.cls ≠ "java/lang/invoke/MethodHandle" ∧ yX6_init.cls ≠ "java/lang/invoke/VarHandle" ∧ (parseMethodDescriptor yX6_init.desc).map (fun d => d.parameters.length) = some 0 := by decide +kernel
set_option maxHeartbeats 4000000 in
set_option maxRecDepth 100000 in
theorem c_X5_init (l : Launch) (D : va_G) (ct ad : Nat → Nat) (h0 : Nat)  : ZMx l yX5_init wsX5_init ({ frames := 3, cells := 45, slots := 420, locals := 53 } : Room) D ct ad [.ref h0] (f5W h0) (fun v w => ∃ (r : Nat → Nat) (b : Nat → Nat → Nat), ((r 0 = h0)) ∧ v = none ∧ w = svW ct r b 0 0 (fun _ => zM0)) := by
  refine ZMx.of (cc := cX5_init) (maxL := 2) (ret := none) (by decide +kernel) rfl (Nat.le_of_ble_eq_true rfl) ?_
  intro p e s m below meth c A ls hx hb hr hts hown hlocks hml hname hO hE hP hD hA hS hl
  have hK := hE.1
  have hf_0 := hts (.methodLink RX5 3 objectInit) (by decide +kernel)
  have hf_1 := hts (.instanceMethod objectInit) (by decide +kernel)
  have hf_2 := hts (.code objectInit ⟨#[0xb1]⟩ 1 none) (by decide +kernel)
  have hf_3 := hts (.classLink RX5 9 RX6) (by decide +kernel)
  have hf_4 := hts (.fieldLink RX5 11 "RodGrids$SavedStates" "ring" "[LRodGrids$State;") (by decide +kernel)
  have hf_5 := hts (.instantiable RX6 3) (by decide +kernel)
  have hf_6 := hts (.initialized RX6) (by decide +kernel)
  have hin_X5 : ∀ z ∈ u_ws RX5 TX5 3, z ∈ wsX5_init := by decide +kernel
  have hin_X6 : ∀ z ∈ u_ws RX6 TX6 3, z ∈ wsX5_init := by decide +kernel
  have hl : lv_has ls 2 [(0, .ref h0)] := hl
  refine lv_aload_n hx hb dX5_init_0 rfl (lv_at hl 0 rfl) ?_
  refine W.objInit hx hb hown hf_0 hf_1 hf_2 rfl (hl.1.trans hml.symm) rfl dX5_init_1 (Nat.le_of_ble_eq_true rfl) (Nat.le_of_ble_eq_true rfl) ?_
  refine W.eq (g2 := F0 m 4 ls []) rfl ?_
  refine lv_aload_n hx hb dX5_init_4 rfl (lv_at hl 0 rfl) ?_
  refine z_iconst hx hb dX5_init_5 ?_
  refine z_newQ hx hb hown hf_3 hO hK hP hD hS hA (Nat.le_of_ble_eq_true rfl) (Nat.le_of_ble_eq_true rfl) dX5_init_6 (fun q_6 H hP hD hS => ?_)
  have hP : va_P D vwCl (f5W h0 ++ (qnW ct q_6 (fun _ => none))) H := hP
  have hD : va_D A (f5W h0 ++ (qnW ct q_6 (fun _ => none))) := hD
  refine z_putF (ct := ct) (ad := ad) (ci := 4) (v := .ref q_6) (ty := tyX5 0) (C := RX5) (T := TX5) (N := 3) (w2 := ([(h0, .inr (4, [.ref q_6, .int (zI 0), .int (zI 0)]))] : va_W) ++ (qnW ct q_6 (fun _ => none))) hx hb hts hin_X5 tyX5 tyX5_ok nmX5 hown hE hP hD hS 0 rfl rfl 0 (by decide) hf_4 (fun _ h9 => h9) rfl (hname.trans rfl) rfl (by decide +kernel) rfl rfl (Nat.le_of_ble_eq_true rfl) dX5_init_9 rfl (fun H locs hP hD hS => ?_)
  refine z_iconst hx hb dX5_init_12 ?_
  refine lv_istore_n (lv' := [(1, .int (zI 0)), (0, .ref h0)]) hx hb dX5_init_13 rfl hl (by decide) rfl (fun ls hl => ?_)
  refine lv_iload_n hx hb dX5_init_14 rfl (lv_at hl 0 rfl) ?_
  refine z_iconst hx hb dX5_init_15 ?_
  refine z_icmp_ge (tgt := 38) hx hb dX5_init_16 (by decide) (by omega) (by omega) (fun hc_16 => ?_) (fun hc_16 => ?_)
  · have hc_16 := hc_16
    omega
  · have hc_16 := hc_16
    refine lv_aload_n hx hb dX5_init_19 rfl (lv_at hl 1 rfl) ?_
    refine va_get (D := D) (ci := 4) (v := .ref q_6) (C := RX5) (T := TX5) (N := 3) hx hb hts hin_X5 hown hK hP 0 rfl rfl 0 (by decide) hf_4 (fun _ h9 => h9) rfl dX5_init_20 ?_
    refine lv_iload_n hx hb dX5_init_23 rfl (lv_at hl 0 rfl) ?_
    refine va_new (D := D) (ci := 5) (fs := [.null, .null, .null]) (C := RX6) (T := TX6) (N := 3) hx hb hts hin_X6 tyX6 tyX6_ok hown hf_3 hf_5 hf_6 hK hP hD hS hA rfl (fun j hj => by rcases (show j = 0 ∨ j = 1 ∨ j = 2 by omega) with rfl | rfl | rfl <;> rfl) (Nat.le_of_ble_eq_true rfl) (Nat.le_of_ble_eq_true rfl) dX5_init_24 (fun q_24 H hP hD hS => ?_)
    have hP : va_P D vwCl (([(h0, .inr (4, [.ref q_6, .int (zI 0), .int (zI 0)]))] : va_W) ++ (qnW ct q_6 (fun _ => none) ++ (f6W q_24))) H := hP
    have hD : va_D A (([(h0, .inr (4, [.ref q_6, .int (zI 0), .int (zI 0)]))] : va_W) ++ (qnW ct q_6 (fun _ => none) ++ (f6W q_24))) := hD
    refine W.eq (g2 := F0 m 27 ls [.ref q_24, .int (zI 0), .ref q_6]) rfl ?_
    refine lv_dup hx hb dX5_init_27 rfl ?_
    refine z_callIN (ret := none) (host := RX8) (b := q_24) (As := []) (rest := [.ref q_24, .int (zI 0), .ref q_6]) (([(h0, .inr (4, [.ref q_6, .int (zI 0), .int (zI 0)]))] : va_W) ++ (qnW ct q_6 (fun _ => none))) ([] : va_W) hx hb hml hown hts hl hE hS hA (zr0 (([(h0, .inr (4, [.ref q_6, .int (zI 0), .int (zI 0)]))] : va_W) ++ (qnW ct q_6 (fun _ => none))) hP) (zr0D (([(h0, .inr (4, [.ref q_6, .int (zI 0), .int (zI 0)]))] : va_W) ++ (qnW ct q_6 (fun _ => none))) hD) (c_X6_init l D ct ad q_24) ggX5_init_X6_init rfl k_X6_init ⟨Nat.le_of_ble_eq_true rfl, Nat.le_of_ble_eq_true rfl⟩ (hE.2.1.1 _ (List.mem_of_getElem? (i := 14) rfl)) (hts (.initialized RX6) (by decide +kernel)) (hts (.instanceMethod yX6_init) (by decide +kernel)) rfl rfl (Nat.le_of_ble_eq_true rfl) ⟨Nat.le_of_ble_eq_true rfl, Nat.le_of_ble_eq_true rfl⟩ dX5_init_28 rfl (fun v w1 H locs hpost hP hD hS => ?_)
    obtain ⟨a0, hx0_28, rfl, rfl⟩ := hpost
    have hP := zr0' hP
    have hD := zr0D' hD
    have hP : va_P D vwCl (([(h0, .inr (4, [.ref q_6, .int (zI 0), .int (zI 0)]))] : va_W) ++ (qnW ct q_6 (fun _ => none) ++ (sobjW a0 ++ (gridW ct a0 zM0 ++ (benchW ct a0 zM0 ++ (logW ct a0 zM0)))))) H := hP
    have hD : va_D A (([(h0, .inr (4, [.ref q_6, .int (zI 0), .int (zI 0)]))] : va_W) ++ (qnW ct q_6 (fun _ => none) ++ (sobjW a0 ++ (gridW ct a0 zM0 ++ (benchW ct a0 zM0 ++ (logW ct a0 zM0)))))) := hD
    refine W.eq (g2 := F0 m 31 ls [.ref q_24, .int (zI 0), .ref q_6]) rfl ?_
    have hP9_28 := hP
    have hD9_28 := hD
    have hl9_28 := hl
    have hS9_28 := hS
    subst hx0_28
    have hP : va_P D vwCl (([(h0, .inr (4, [.ref q_6, .int (zI 0), .int (zI 0)]))] : va_W) ++ (qnW ct q_6 (fun _ => none) ++ (sobjW a0 ++ (gridW ct a0 zM0 ++ (benchW ct a0 zM0 ++ (logW ct a0 zM0)))))) H := hP9_28
    have hD : va_D A (([(h0, .inr (4, [.ref q_6, .int (zI 0), .int (zI 0)]))] : va_W) ++ (qnW ct q_6 (fun _ => none) ++ (sobjW a0 ++ (gridW ct a0 zM0 ++ (benchW ct a0 zM0 ++ (logW ct a0 zM0)))))) := hD9_28
    have hl : lv_has ls 2 [(1, .int (zI 0)), (0, .ref h0)] := hl9_28
    have hS := hS9_28
    refine W.eq (g2 := F0 m 31 ls [.ref (a0 0), .int (zI 0), .ref q_6]) rfl ?_
    refine z_astq (i := 0) (n := 4) (w2 := ([(h0, .inr (4, [.ref q_6, .int (zI 0), .int (zI 0)]))] : va_W) ++ (qnW ct q_6 (va_up (fun _ => none) 0 (some (a0 0))) ++ (sobjW a0 ++ (gridW ct a0 zM0 ++ (benchW ct a0 zM0 ++ (logW ct a0 zM0)))))) hx hb hK hP hD hS 1 2 rfl rfl rfl (by decide) (by decide) dX5_init_31 rfl (fun H locs hP hD hS => ?_)
    have hP : va_P D vwCl (([(h0, .inr (4, [.ref q_6, .int (zI 0), .int (zI 0)]))] : va_W) ++ (qnW ct q_6 (va_up (fun _ => none) 0 (some (a0 0))) ++ (sobjW a0 ++ (gridW ct a0 zM0 ++ (benchW ct a0 zM0 ++ (logW ct a0 zM0)))))) H := hP
    have hD : va_D A (([(h0, .inr (4, [.ref q_6, .int (zI 0), .int (zI 0)]))] : va_W) ++ (qnW ct q_6 (va_up (fun _ => none) 0 (some (a0 0))) ++ (sobjW a0 ++ (gridW ct a0 zM0 ++ (benchW ct a0 zM0 ++ (logW ct a0 zM0)))))) := hD
    refine z_iinc (k := 0) (lv' := [(1, .int (zI (0 + 1))), (0, .ref h0)]) hx hb dX5_init_32 hl rfl (by decide) rfl (fun ls hl => ?_)
    have hl : lv_has ls 2 [(1, .int (zI 1)), (0, .ref h0)] := hl
    refine lv_goto (tgt := 14) hx hb dX5_init_35 (by decide) ?_
    refine lv_iload_n hx hb dX5_init_14 rfl (lv_at hl 0 rfl) ?_
    refine z_iconst hx hb dX5_init_15 ?_
    refine z_icmp_ge (tgt := 38) hx hb dX5_init_16 (by decide) (by omega) (by omega) (fun hc_16 => ?_) (fun hc_16 => ?_)
    · have hc_16 := hc_16
      omega
    · have hc_16 := hc_16
      refine lv_aload_n hx hb dX5_init_19 rfl (lv_at hl 1 rfl) ?_
      refine va_get (D := D) (ci := 4) (v := .ref q_6) (C := RX5) (T := TX5) (N := 3) hx hb hts hin_X5 hown hK hP 0 rfl rfl 0 (by decide) hf_4 (fun _ h9 => h9) rfl dX5_init_20 ?_
      refine lv_iload_n hx hb dX5_init_23 rfl (lv_at hl 0 rfl) ?_
      refine va_new (D := D) (ci := 5) (fs := [.null, .null, .null]) (C := RX6) (T := TX6) (N := 3) hx hb hts hin_X6 tyX6 tyX6_ok hown hf_3 hf_5 hf_6 hK hP hD hS hA rfl (fun j hj => by rcases (show j = 0 ∨ j = 1 ∨ j = 2 by omega) with rfl | rfl | rfl <;> rfl) (Nat.le_of_ble_eq_true rfl) (Nat.le_of_ble_eq_true rfl) dX5_init_24 (fun q_24_1 H hP hD hS => ?_)
      have hP : va_P D vwCl (([(h0, .inr (4, [.ref q_6, .int (zI 0), .int (zI 0)]))] : va_W) ++ (qnW ct q_6 (va_up (fun _ => none) 0 (some (a0 0))) ++ (sobjW a0 ++ (gridW ct a0 zM0 ++ (benchW ct a0 zM0 ++ (logW ct a0 zM0 ++ (f6W q_24_1))))))) H := hP
      have hD : va_D A (([(h0, .inr (4, [.ref q_6, .int (zI 0), .int (zI 0)]))] : va_W) ++ (qnW ct q_6 (va_up (fun _ => none) 0 (some (a0 0))) ++ (sobjW a0 ++ (gridW ct a0 zM0 ++ (benchW ct a0 zM0 ++ (logW ct a0 zM0 ++ (f6W q_24_1))))))) := hD
      refine W.eq (g2 := F0 m 27 ls [.ref q_24_1, .int (zI 1), .ref q_6]) rfl ?_
      refine lv_dup hx hb dX5_init_27 rfl ?_
      refine z_callIN (ret := none) (host := RX8) (b := q_24_1) (As := []) (rest := [.ref q_24_1, .int (zI 1), .ref q_6]) (([(h0, .inr (4, [.ref q_6, .int (zI 0), .int (zI 0)]))] : va_W) ++ (qnW ct q_6 (va_up (fun _ => none) 0 (some (a0 0))) ++ (sobjW a0 ++ (gridW ct a0 zM0 ++ (benchW ct a0 zM0 ++ (logW ct a0 zM0)))))) ([] : va_W) hx hb hml hown hts hl hE hS hA (zr0 (([(h0, .inr (4, [.ref q_6, .int (zI 0), .int (zI 0)]))] : va_W) ++ (qnW ct q_6 (va_up (fun _ => none) 0 (some (a0 0))) ++ (sobjW a0 ++ (gridW ct a0 zM0 ++ (benchW ct a0 zM0 ++ (logW ct a0 zM0)))))) hP) (zr0D (([(h0, .inr (4, [.ref q_6, .int (zI 0), .int (zI 0)]))] : va_W) ++ (qnW ct q_6 (va_up (fun _ => none) 0 (some (a0 0))) ++ (sobjW a0 ++ (gridW ct a0 zM0 ++ (benchW ct a0 zM0 ++ (logW ct a0 zM0)))))) hD) (c_X6_init l D ct ad q_24_1) ggX5_init_X6_init rfl k_X6_init ⟨Nat.le_of_ble_eq_true rfl, Nat.le_of_ble_eq_true rfl⟩ (hE.2.1.1 _ (List.mem_of_getElem? (i := 14) rfl)) (hts (.initialized RX6) (by decide +kernel)) (hts (.instanceMethod yX6_init) (by decide +kernel)) rfl rfl (Nat.le_of_ble_eq_true rfl) ⟨Nat.le_of_ble_eq_true rfl, Nat.le_of_ble_eq_true rfl⟩ dX5_init_28 rfl (fun v w1 H locs hpost hP hD hS => ?_)
      obtain ⟨a1, hx0_28, rfl, rfl⟩ := hpost
      have hP := zr0' hP
      have hD := zr0D' hD
      have hP : va_P D vwCl (([(h0, .inr (4, [.ref q_6, .int (zI 0), .int (zI 0)]))] : va_W) ++ (qnW ct q_6 (va_up (fun _ => none) 0 (some (a0 0))) ++ (sobjW a0 ++ (gridW ct a0 zM0 ++ (benchW ct a0 zM0 ++ (logW ct a0 zM0 ++ (sobjW a1 ++ (gridW ct a1 zM0 ++ (benchW ct a1 zM0 ++ (logW ct a1 zM0)))))))))) H := hP
      have hD : va_D A (([(h0, .inr (4, [.ref q_6, .int (zI 0), .int (zI 0)]))] : va_W) ++ (qnW ct q_6 (va_up (fun _ => none) 0 (some (a0 0))) ++ (sobjW a0 ++ (gridW ct a0 zM0 ++ (benchW ct a0 zM0 ++ (logW ct a0 zM0 ++ (sobjW a1 ++ (gridW ct a1 zM0 ++ (benchW ct a1 zM0 ++ (logW ct a1 zM0)))))))))) := hD
      refine W.eq (g2 := F0 m 31 ls [.ref q_24_1, .int (zI 1), .ref q_6]) rfl ?_
      have hP9_28 := hP
      have hD9_28 := hD
      have hl9_28 := hl
      have hS9_28 := hS
      subst hx0_28
      have hP : va_P D vwCl (([(h0, .inr (4, [.ref q_6, .int (zI 0), .int (zI 0)]))] : va_W) ++ (qnW ct q_6 (va_up (fun _ => none) 0 (some (a0 0))) ++ (sobjW a0 ++ (gridW ct a0 zM0 ++ (benchW ct a0 zM0 ++ (logW ct a0 zM0 ++ (sobjW a1 ++ (gridW ct a1 zM0 ++ (benchW ct a1 zM0 ++ (logW ct a1 zM0)))))))))) H := hP9_28
      have hD : va_D A (([(h0, .inr (4, [.ref q_6, .int (zI 0), .int (zI 0)]))] : va_W) ++ (qnW ct q_6 (va_up (fun _ => none) 0 (some (a0 0))) ++ (sobjW a0 ++ (gridW ct a0 zM0 ++ (benchW ct a0 zM0 ++ (logW ct a0 zM0 ++ (sobjW a1 ++ (gridW ct a1 zM0 ++ (benchW ct a1 zM0 ++ (logW ct a1 zM0)))))))))) := hD9_28
      have hl : lv_has ls 2 [(1, .int (zI 1)), (0, .ref h0)] := hl9_28
      have hS := hS9_28
      refine W.eq (g2 := F0 m 31 ls [.ref (a1 0), .int (zI 1), .ref q_6]) rfl ?_
      refine z_astq (i := 1) (n := 4) (w2 := ([(h0, .inr (4, [.ref q_6, .int (zI 0), .int (zI 0)]))] : va_W) ++ (qnW ct q_6 (va_up (va_up (fun _ => none) 0 (some (a0 0))) 1 (some (a1 0))) ++ (sobjW a0 ++ (gridW ct a0 zM0 ++ (benchW ct a0 zM0 ++ (logW ct a0 zM0 ++ (sobjW a1 ++ (gridW ct a1 zM0 ++ (benchW ct a1 zM0 ++ (logW ct a1 zM0)))))))))) hx hb hK hP hD hS 1 13 rfl rfl rfl (by decide) (by decide) dX5_init_31 rfl (fun H locs hP hD hS => ?_)
      have hP : va_P D vwCl (([(h0, .inr (4, [.ref q_6, .int (zI 0), .int (zI 0)]))] : va_W) ++ (qnW ct q_6 (va_up (va_up (fun _ => none) 0 (some (a0 0))) 1 (some (a1 0))) ++ (sobjW a0 ++ (gridW ct a0 zM0 ++ (benchW ct a0 zM0 ++ (logW ct a0 zM0 ++ (sobjW a1 ++ (gridW ct a1 zM0 ++ (benchW ct a1 zM0 ++ (logW ct a1 zM0)))))))))) H := hP
      have hD : va_D A (([(h0, .inr (4, [.ref q_6, .int (zI 0), .int (zI 0)]))] : va_W) ++ (qnW ct q_6 (va_up (va_up (fun _ => none) 0 (some (a0 0))) 1 (some (a1 0))) ++ (sobjW a0 ++ (gridW ct a0 zM0 ++ (benchW ct a0 zM0 ++ (logW ct a0 zM0 ++ (sobjW a1 ++ (gridW ct a1 zM0 ++ (benchW ct a1 zM0 ++ (logW ct a1 zM0)))))))))) := hD
      refine z_iinc (k := 0) (lv' := [(1, .int (zI (1 + 1))), (0, .ref h0)]) hx hb dX5_init_32 hl rfl (by decide) rfl (fun ls hl => ?_)
      have hl : lv_has ls 2 [(1, .int (zI 2)), (0, .ref h0)] := hl
      refine lv_goto (tgt := 14) hx hb dX5_init_35 (by decide) ?_
      refine lv_iload_n hx hb dX5_init_14 rfl (lv_at hl 0 rfl) ?_
      refine z_iconst hx hb dX5_init_15 ?_
      refine z_icmp_ge (tgt := 38) hx hb dX5_init_16 (by decide) (by omega) (by omega) (fun hc_16 => ?_) (fun hc_16 => ?_)
      · have hc_16 := hc_16
        omega
      · have hc_16 := hc_16
        refine lv_aload_n hx hb dX5_init_19 rfl (lv_at hl 1 rfl) ?_
        refine va_get (D := D) (ci := 4) (v := .ref q_6) (C := RX5) (T := TX5) (N := 3) hx hb hts hin_X5 hown hK hP 0 rfl rfl 0 (by decide) hf_4 (fun _ h9 => h9) rfl dX5_init_20 ?_
        refine lv_iload_n hx hb dX5_init_23 rfl (lv_at hl 0 rfl) ?_
        refine va_new (D := D) (ci := 5) (fs := [.null, .null, .null]) (C := RX6) (T := TX6) (N := 3) hx hb hts hin_X6 tyX6 tyX6_ok hown hf_3 hf_5 hf_6 hK hP hD hS hA rfl (fun j hj => by rcases (show j = 0 ∨ j = 1 ∨ j = 2 by omega) with rfl | rfl | rfl <;> rfl) (Nat.le_of_ble_eq_true rfl) (Nat.le_of_ble_eq_true rfl) dX5_init_24 (fun q_24_2 H hP hD hS => ?_)
        have hP : va_P D vwCl (([(h0, .inr (4, [.ref q_6, .int (zI 0), .int (zI 0)]))] : va_W) ++ (qnW ct q_6 (va_up (va_up (fun _ => none) 0 (some (a0 0))) 1 (some (a1 0))) ++ (sobjW a0 ++ (gridW ct a0 zM0 ++ (benchW ct a0 zM0 ++ (logW ct a0 zM0 ++ (sobjW a1 ++ (gridW ct a1 zM0 ++ (benchW ct a1 zM0 ++ (logW ct a1 zM0 ++ (f6W q_24_2))))))))))) H := hP
        have hD : va_D A (([(h0, .inr (4, [.ref q_6, .int (zI 0), .int (zI 0)]))] : va_W) ++ (qnW ct q_6 (va_up (va_up (fun _ => none) 0 (some (a0 0))) 1 (some (a1 0))) ++ (sobjW a0 ++ (gridW ct a0 zM0 ++ (benchW ct a0 zM0 ++ (logW ct a0 zM0 ++ (sobjW a1 ++ (gridW ct a1 zM0 ++ (benchW ct a1 zM0 ++ (logW ct a1 zM0 ++ (f6W q_24_2))))))))))) := hD
        refine W.eq (g2 := F0 m 27 ls [.ref q_24_2, .int (zI 2), .ref q_6]) rfl ?_
        refine lv_dup hx hb dX5_init_27 rfl ?_
        refine z_callIN (ret := none) (host := RX8) (b := q_24_2) (As := []) (rest := [.ref q_24_2, .int (zI 2), .ref q_6]) (([(h0, .inr (4, [.ref q_6, .int (zI 0), .int (zI 0)]))] : va_W) ++ (qnW ct q_6 (va_up (va_up (fun _ => none) 0 (some (a0 0))) 1 (some (a1 0))) ++ (sobjW a0 ++ (gridW ct a0 zM0 ++ (benchW ct a0 zM0 ++ (logW ct a0 zM0 ++ (sobjW a1 ++ (gridW ct a1 zM0 ++ (benchW ct a1 zM0 ++ (logW ct a1 zM0)))))))))) ([] : va_W) hx hb hml hown hts hl hE hS hA (zr0 (([(h0, .inr (4, [.ref q_6, .int (zI 0), .int (zI 0)]))] : va_W) ++ (qnW ct q_6 (va_up (va_up (fun _ => none) 0 (some (a0 0))) 1 (some (a1 0))) ++ (sobjW a0 ++ (gridW ct a0 zM0 ++ (benchW ct a0 zM0 ++ (logW ct a0 zM0 ++ (sobjW a1 ++ (gridW ct a1 zM0 ++ (benchW ct a1 zM0 ++ (logW ct a1 zM0)))))))))) hP) (zr0D (([(h0, .inr (4, [.ref q_6, .int (zI 0), .int (zI 0)]))] : va_W) ++ (qnW ct q_6 (va_up (va_up (fun _ => none) 0 (some (a0 0))) 1 (some (a1 0))) ++ (sobjW a0 ++ (gridW ct a0 zM0 ++ (benchW ct a0 zM0 ++ (logW ct a0 zM0 ++ (sobjW a1 ++ (gridW ct a1 zM0 ++ (benchW ct a1 zM0 ++ (logW ct a1 zM0)))))))))) hD) (c_X6_init l D ct ad q_24_2) ggX5_init_X6_init rfl k_X6_init ⟨Nat.le_of_ble_eq_true rfl, Nat.le_of_ble_eq_true rfl⟩ (hE.2.1.1 _ (List.mem_of_getElem? (i := 14) rfl)) (hts (.initialized RX6) (by decide +kernel)) (hts (.instanceMethod yX6_init) (by decide +kernel)) rfl rfl (Nat.le_of_ble_eq_true rfl) ⟨Nat.le_of_ble_eq_true rfl, Nat.le_of_ble_eq_true rfl⟩ dX5_init_28 rfl (fun v w1 H locs hpost hP hD hS => ?_)
        obtain ⟨a2, hx0_28, rfl, rfl⟩ := hpost
        have hP := zr0' hP
        have hD := zr0D' hD
        have hP : va_P D vwCl (([(h0, .inr (4, [.ref q_6, .int (zI 0), .int (zI 0)]))] : va_W) ++ (qnW ct q_6 (va_up (va_up (fun _ => none) 0 (some (a0 0))) 1 (some (a1 0))) ++ (sobjW a0 ++ (gridW ct a0 zM0 ++ (benchW ct a0 zM0 ++ (logW ct a0 zM0 ++ (sobjW a1 ++ (gridW ct a1 zM0 ++ (benchW ct a1 zM0 ++ (logW ct a1 zM0 ++ (sobjW a2 ++ (gridW ct a2 zM0 ++ (benchW ct a2 zM0 ++ (logW ct a2 zM0)))))))))))))) H := hP
        have hD : va_D A (([(h0, .inr (4, [.ref q_6, .int (zI 0), .int (zI 0)]))] : va_W) ++ (qnW ct q_6 (va_up (va_up (fun _ => none) 0 (some (a0 0))) 1 (some (a1 0))) ++ (sobjW a0 ++ (gridW ct a0 zM0 ++ (benchW ct a0 zM0 ++ (logW ct a0 zM0 ++ (sobjW a1 ++ (gridW ct a1 zM0 ++ (benchW ct a1 zM0 ++ (logW ct a1 zM0 ++ (sobjW a2 ++ (gridW ct a2 zM0 ++ (benchW ct a2 zM0 ++ (logW ct a2 zM0)))))))))))))) := hD
        refine W.eq (g2 := F0 m 31 ls [.ref q_24_2, .int (zI 2), .ref q_6]) rfl ?_
        have hP9_28 := hP
        have hD9_28 := hD
        have hl9_28 := hl
        have hS9_28 := hS
        subst hx0_28
        have hP : va_P D vwCl (([(h0, .inr (4, [.ref q_6, .int (zI 0), .int (zI 0)]))] : va_W) ++ (qnW ct q_6 (va_up (va_up (fun _ => none) 0 (some (a0 0))) 1 (some (a1 0))) ++ (sobjW a0 ++ (gridW ct a0 zM0 ++ (benchW ct a0 zM0 ++ (logW ct a0 zM0 ++ (sobjW a1 ++ (gridW ct a1 zM0 ++ (benchW ct a1 zM0 ++ (logW ct a1 zM0 ++ (sobjW a2 ++ (gridW ct a2 zM0 ++ (benchW ct a2 zM0 ++ (logW ct a2 zM0)))))))))))))) H := hP9_28
        have hD : va_D A (([(h0, .inr (4, [.ref q_6, .int (zI 0), .int (zI 0)]))] : va_W) ++ (qnW ct q_6 (va_up (va_up (fun _ => none) 0 (some (a0 0))) 1 (some (a1 0))) ++ (sobjW a0 ++ (gridW ct a0 zM0 ++ (benchW ct a0 zM0 ++ (logW ct a0 zM0 ++ (sobjW a1 ++ (gridW ct a1 zM0 ++ (benchW ct a1 zM0 ++ (logW ct a1 zM0 ++ (sobjW a2 ++ (gridW ct a2 zM0 ++ (benchW ct a2 zM0 ++ (logW ct a2 zM0)))))))))))))) := hD9_28
        have hl : lv_has ls 2 [(1, .int (zI 2)), (0, .ref h0)] := hl9_28
        have hS := hS9_28
        refine W.eq (g2 := F0 m 31 ls [.ref (a2 0), .int (zI 2), .ref q_6]) rfl ?_
        refine z_astq (i := 2) (n := 4) (w2 := ([(h0, .inr (4, [.ref q_6, .int (zI 0), .int (zI 0)]))] : va_W) ++ (qnW ct q_6 (va_up (va_up (va_up (fun _ => none) 0 (some (a0 0))) 1 (some (a1 0))) 2 (some (a2 0))) ++ (sobjW a0 ++ (gridW ct a0 zM0 ++ (benchW ct a0 zM0 ++ (logW ct a0 zM0 ++ (sobjW a1 ++ (gridW ct a1 zM0 ++ (benchW ct a1 zM0 ++ (logW ct a1 zM0 ++ (sobjW a2 ++ (gridW ct a2 zM0 ++ (benchW ct a2 zM0 ++ (logW ct a2 zM0)))))))))))))) hx hb hK hP hD hS 1 24 rfl rfl rfl (by decide) (by decide) dX5_init_31 rfl (fun H locs hP hD hS => ?_)
        have hP : va_P D vwCl (([(h0, .inr (4, [.ref q_6, .int (zI 0), .int (zI 0)]))] : va_W) ++ (qnW ct q_6 (va_up (va_up (va_up (fun _ => none) 0 (some (a0 0))) 1 (some (a1 0))) 2 (some (a2 0))) ++ (sobjW a0 ++ (gridW ct a0 zM0 ++ (benchW ct a0 zM0 ++ (logW ct a0 zM0 ++ (sobjW a1 ++ (gridW ct a1 zM0 ++ (benchW ct a1 zM0 ++ (logW ct a1 zM0 ++ (sobjW a2 ++ (gridW ct a2 zM0 ++ (benchW ct a2 zM0 ++ (logW ct a2 zM0)))))))))))))) H := hP
        have hD : va_D A (([(h0, .inr (4, [.ref q_6, .int (zI 0), .int (zI 0)]))] : va_W) ++ (qnW ct q_6 (va_up (va_up (va_up (fun _ => none) 0 (some (a0 0))) 1 (some (a1 0))) 2 (some (a2 0))) ++ (sobjW a0 ++ (gridW ct a0 zM0 ++ (benchW ct a0 zM0 ++ (logW ct a0 zM0 ++ (sobjW a1 ++ (gridW ct a1 zM0 ++ (benchW ct a1 zM0 ++ (logW ct a1 zM0 ++ (sobjW a2 ++ (gridW ct a2 zM0 ++ (benchW ct a2 zM0 ++ (logW ct a2 zM0)))))))))))))) := hD
        refine z_iinc (k := 0) (lv' := [(1, .int (zI (2 + 1))), (0, .ref h0)]) hx hb dX5_init_32 hl rfl (by decide) rfl (fun ls hl => ?_)
        have hl : lv_has ls 2 [(1, .int (zI 3)), (0, .ref h0)] := hl
        refine lv_goto (tgt := 14) hx hb dX5_init_35 (by decide) ?_
        refine lv_iload_n hx hb dX5_init_14 rfl (lv_at hl 0 rfl) ?_
        refine z_iconst hx hb dX5_init_15 ?_
        refine z_icmp_ge (tgt := 38) hx hb dX5_init_16 (by decide) (by omega) (by omega) (fun hc_16 => ?_) (fun hc_16 => ?_)
        · have hc_16 := hc_16
          omega
        · have hc_16 := hc_16
          refine lv_aload_n hx hb dX5_init_19 rfl (lv_at hl 1 rfl) ?_
          refine va_get (D := D) (ci := 4) (v := .ref q_6) (C := RX5) (T := TX5) (N := 3) hx hb hts hin_X5 hown hK hP 0 rfl rfl 0 (by decide) hf_4 (fun _ h9 => h9) rfl dX5_init_20 ?_
          refine lv_iload_n hx hb dX5_init_23 rfl (lv_at hl 0 rfl) ?_
          refine va_new (D := D) (ci := 5) (fs := [.null, .null, .null]) (C := RX6) (T := TX6) (N := 3) hx hb hts hin_X6 tyX6 tyX6_ok hown hf_3 hf_5 hf_6 hK hP hD hS hA rfl (fun j hj => by rcases (show j = 0 ∨ j = 1 ∨ j = 2 by omega) with rfl | rfl | rfl <;> rfl) (Nat.le_of_ble_eq_true rfl) (Nat.le_of_ble_eq_true rfl) dX5_init_24 (fun q_24_3 H hP hD hS => ?_)
          have hP : va_P D vwCl (([(h0, .inr (4, [.ref q_6, .int (zI 0), .int (zI 0)]))] : va_W) ++ (qnW ct q_6 (va_up (va_up (va_up (fun _ => none) 0 (some (a0 0))) 1 (some (a1 0))) 2 (some (a2 0))) ++ (sobjW a0 ++ (gridW ct a0 zM0 ++ (benchW ct a0 zM0 ++ (logW ct a0 zM0 ++ (sobjW a1 ++ (gridW ct a1 zM0 ++ (benchW ct a1 zM0 ++ (logW ct a1 zM0 ++ (sobjW a2 ++ (gridW ct a2 zM0 ++ (benchW ct a2 zM0 ++ (logW ct a2 zM0 ++ (f6W q_24_3))))))))))))))) H := hP
          have hD : va_D A (([(h0, .inr (4, [.ref q_6, .int (zI 0), .int (zI 0)]))] : va_W) ++ (qnW ct q_6 (va_up (va_up (va_up (fun _ => none) 0 (some (a0 0))) 1 (some (a1 0))) 2 (some (a2 0))) ++ (sobjW a0 ++ (gridW ct a0 zM0 ++ (benchW ct a0 zM0 ++ (logW ct a0 zM0 ++ (sobjW a1 ++ (gridW ct a1 zM0 ++ (benchW ct a1 zM0 ++ (logW ct a1 zM0 ++ (sobjW a2 ++ (gridW ct a2 zM0 ++ (benchW ct a2 zM0 ++ (logW ct a2 zM0 ++ (f6W q_24_3))))))))))))))) := hD
          refine W.eq (g2 := F0 m 27 ls [.ref q_24_3, .int (zI 3), .ref q_6]) rfl ?_
          refine lv_dup hx hb dX5_init_27 rfl ?_
          refine z_callIN (ret := none) (host := RX8) (b := q_24_3) (As := []) (rest := [.ref q_24_3, .int (zI 3), .ref q_6]) (([(h0, .inr (4, [.ref q_6, .int (zI 0), .int (zI 0)]))] : va_W) ++ (qnW ct q_6 (va_up (va_up (va_up (fun _ => none) 0 (some (a0 0))) 1 (some (a1 0))) 2 (some (a2 0))) ++ (sobjW a0 ++ (gridW ct a0 zM0 ++ (benchW ct a0 zM0 ++ (logW ct a0 zM0 ++ (sobjW a1 ++ (gridW ct a1 zM0 ++ (benchW ct a1 zM0 ++ (logW ct a1 zM0 ++ (sobjW a2 ++ (gridW ct a2 zM0 ++ (benchW ct a2 zM0 ++ (logW ct a2 zM0)))))))))))))) ([] : va_W) hx hb hml hown hts hl hE hS hA (zr0 (([(h0, .inr (4, [.ref q_6, .int (zI 0), .int (zI 0)]))] : va_W) ++ (qnW ct q_6 (va_up (va_up (va_up (fun _ => none) 0 (some (a0 0))) 1 (some (a1 0))) 2 (some (a2 0))) ++ (sobjW a0 ++ (gridW ct a0 zM0 ++ (benchW ct a0 zM0 ++ (logW ct a0 zM0 ++ (sobjW a1 ++ (gridW ct a1 zM0 ++ (benchW ct a1 zM0 ++ (logW ct a1 zM0 ++ (sobjW a2 ++ (gridW ct a2 zM0 ++ (benchW ct a2 zM0 ++ (logW ct a2 zM0)))))))))))))) hP) (zr0D (([(h0, .inr (4, [.ref q_6, .int (zI 0), .int (zI 0)]))] : va_W) ++ (qnW ct q_6 (va_up (va_up (va_up (fun _ => none) 0 (some (a0 0))) 1 (some (a1 0))) 2 (some (a2 0))) ++ (sobjW a0 ++ (gridW ct a0 zM0 ++ (benchW ct a0 zM0 ++ (logW ct a0 zM0 ++ (sobjW a1 ++ (gridW ct a1 zM0 ++ (benchW ct a1 zM0 ++ (logW ct a1 zM0 ++ (sobjW a2 ++ (gridW ct a2 zM0 ++ (benchW ct a2 zM0 ++ (logW ct a2 zM0)))))))))))))) hD) (c_X6_init l D ct ad q_24_3) ggX5_init_X6_init rfl k_X6_init ⟨Nat.le_of_ble_eq_true rfl, Nat.le_of_ble_eq_true rfl⟩ (hE.2.1.1 _ (List.mem_of_getElem? (i := 14) rfl)) (hts (.initialized RX6) (by decide +kernel)) (hts (.instanceMethod yX6_init) (by decide +kernel)) rfl rfl (Nat.le_of_ble_eq_true rfl) ⟨Nat.le_of_ble_eq_true rfl, Nat.le_of_ble_eq_true rfl⟩ dX5_init_28 rfl (fun v w1 H locs hpost hP hD hS => ?_)
          obtain ⟨a3, hx0_28, rfl, rfl⟩ := hpost
          have hP := zr0' hP
          have hD := zr0D' hD
          have hP : va_P D vwCl (([(h0, .inr (4, [.ref q_6, .int (zI 0), .int (zI 0)]))] : va_W) ++ (qnW ct q_6 (va_up (va_up (va_up (fun _ => none) 0 (some (a0 0))) 1 (some (a1 0))) 2 (some (a2 0))) ++ (sobjW a0 ++ (gridW ct a0 zM0 ++ (benchW ct a0 zM0 ++ (logW ct a0 zM0 ++ (sobjW a1 ++ (gridW ct a1 zM0 ++ (benchW ct a1 zM0 ++ (logW ct a1 zM0 ++ (sobjW a2 ++ (gridW ct a2 zM0 ++ (benchW ct a2 zM0 ++ (logW ct a2 zM0 ++ (sobjW a3 ++ (gridW ct a3 zM0 ++ (benchW ct a3 zM0 ++ (logW ct a3 zM0)))))))))))))))))) H := hP
          have hD : va_D A (([(h0, .inr (4, [.ref q_6, .int (zI 0), .int (zI 0)]))] : va_W) ++ (qnW ct q_6 (va_up (va_up (va_up (fun _ => none) 0 (some (a0 0))) 1 (some (a1 0))) 2 (some (a2 0))) ++ (sobjW a0 ++ (gridW ct a0 zM0 ++ (benchW ct a0 zM0 ++ (logW ct a0 zM0 ++ (sobjW a1 ++ (gridW ct a1 zM0 ++ (benchW ct a1 zM0 ++ (logW ct a1 zM0 ++ (sobjW a2 ++ (gridW ct a2 zM0 ++ (benchW ct a2 zM0 ++ (logW ct a2 zM0 ++ (sobjW a3 ++ (gridW ct a3 zM0 ++ (benchW ct a3 zM0 ++ (logW ct a3 zM0)))))))))))))))))) := hD
          refine W.eq (g2 := F0 m 31 ls [.ref q_24_3, .int (zI 3), .ref q_6]) rfl ?_
          have hP9_28 := hP
          have hD9_28 := hD
          have hl9_28 := hl
          have hS9_28 := hS
          subst hx0_28
          have hP : va_P D vwCl (([(h0, .inr (4, [.ref q_6, .int (zI 0), .int (zI 0)]))] : va_W) ++ (qnW ct q_6 (va_up (va_up (va_up (fun _ => none) 0 (some (a0 0))) 1 (some (a1 0))) 2 (some (a2 0))) ++ (sobjW a0 ++ (gridW ct a0 zM0 ++ (benchW ct a0 zM0 ++ (logW ct a0 zM0 ++ (sobjW a1 ++ (gridW ct a1 zM0 ++ (benchW ct a1 zM0 ++ (logW ct a1 zM0 ++ (sobjW a2 ++ (gridW ct a2 zM0 ++ (benchW ct a2 zM0 ++ (logW ct a2 zM0 ++ (sobjW a3 ++ (gridW ct a3 zM0 ++ (benchW ct a3 zM0 ++ (logW ct a3 zM0)))))))))))))))))) H := hP9_28
          have hD : va_D A (([(h0, .inr (4, [.ref q_6, .int (zI 0), .int (zI 0)]))] : va_W) ++ (qnW ct q_6 (va_up (va_up (va_up (fun _ => none) 0 (some (a0 0))) 1 (some (a1 0))) 2 (some (a2 0))) ++ (sobjW a0 ++ (gridW ct a0 zM0 ++ (benchW ct a0 zM0 ++ (logW ct a0 zM0 ++ (sobjW a1 ++ (gridW ct a1 zM0 ++ (benchW ct a1 zM0 ++ (logW ct a1 zM0 ++ (sobjW a2 ++ (gridW ct a2 zM0 ++ (benchW ct a2 zM0 ++ (logW ct a2 zM0 ++ (sobjW a3 ++ (gridW ct a3 zM0 ++ (benchW ct a3 zM0 ++ (logW ct a3 zM0)))))))))))))))))) := hD9_28
          have hl : lv_has ls 2 [(1, .int (zI 3)), (0, .ref h0)] := hl9_28
          have hS := hS9_28
          refine W.eq (g2 := F0 m 31 ls [.ref (a3 0), .int (zI 3), .ref q_6]) rfl ?_
          refine z_astq (i := 3) (n := 4) (w2 := ([(h0, .inr (4, [.ref q_6, .int (zI 0), .int (zI 0)]))] : va_W) ++ (qnW ct q_6 (va_up (va_up (va_up (va_up (fun _ => none) 0 (some (a0 0))) 1 (some (a1 0))) 2 (some (a2 0))) 3 (some (a3 0))) ++ (sobjW a0 ++ (gridW ct a0 zM0 ++ (benchW ct a0 zM0 ++ (logW ct a0 zM0 ++ (sobjW a1 ++ (gridW ct a1 zM0 ++ (benchW ct a1 zM0 ++ (logW ct a1 zM0 ++ (sobjW a2 ++ (gridW ct a2 zM0 ++ (benchW ct a2 zM0 ++ (logW ct a2 zM0 ++ (sobjW a3 ++ (gridW ct a3 zM0 ++ (benchW ct a3 zM0 ++ (logW ct a3 zM0)))))))))))))))))) hx hb hK hP hD hS 1 35 rfl rfl rfl (by decide) (by decide) dX5_init_31 rfl (fun H locs hP hD hS => ?_)
          have hP : va_P D vwCl (([(h0, .inr (4, [.ref q_6, .int (zI 0), .int (zI 0)]))] : va_W) ++ (qnW ct q_6 (va_up (va_up (va_up (va_up (fun _ => none) 0 (some (a0 0))) 1 (some (a1 0))) 2 (some (a2 0))) 3 (some (a3 0))) ++ (sobjW a0 ++ (gridW ct a0 zM0 ++ (benchW ct a0 zM0 ++ (logW ct a0 zM0 ++ (sobjW a1 ++ (gridW ct a1 zM0 ++ (benchW ct a1 zM0 ++ (logW ct a1 zM0 ++ (sobjW a2 ++ (gridW ct a2 zM0 ++ (benchW ct a2 zM0 ++ (logW ct a2 zM0 ++ (sobjW a3 ++ (gridW ct a3 zM0 ++ (benchW ct a3 zM0 ++ (logW ct a3 zM0)))))))))))))))))) H := hP
          have hD : va_D A (([(h0, .inr (4, [.ref q_6, .int (zI 0), .int (zI 0)]))] : va_W) ++ (qnW ct q_6 (va_up (va_up (va_up (va_up (fun _ => none) 0 (some (a0 0))) 1 (some (a1 0))) 2 (some (a2 0))) 3 (some (a3 0))) ++ (sobjW a0 ++ (gridW ct a0 zM0 ++ (benchW ct a0 zM0 ++ (logW ct a0 zM0 ++ (sobjW a1 ++ (gridW ct a1 zM0 ++ (benchW ct a1 zM0 ++ (logW ct a1 zM0 ++ (sobjW a2 ++ (gridW ct a2 zM0 ++ (benchW ct a2 zM0 ++ (logW ct a2 zM0 ++ (sobjW a3 ++ (gridW ct a3 zM0 ++ (benchW ct a3 zM0 ++ (logW ct a3 zM0)))))))))))))))))) := hD
          refine z_iinc (k := 0) (lv' := [(1, .int (zI (3 + 1))), (0, .ref h0)]) hx hb dX5_init_32 hl rfl (by decide) rfl (fun ls hl => ?_)
          have hl : lv_has ls 2 [(1, .int (zI 4)), (0, .ref h0)] := hl
          refine lv_goto (tgt := 14) hx hb dX5_init_35 (by decide) ?_
          refine lv_iload_n hx hb dX5_init_14 rfl (lv_at hl 0 rfl) ?_
          refine z_iconst hx hb dX5_init_15 ?_
          refine z_icmp_ge (tgt := 38) hx hb dX5_init_16 (by decide) (by omega) (by omega) (fun hc_16 => ?_) (fun hc_16 => ?_)
          · have hc_16 := hc_16
            obtain ⟨hP, hD⟩ := z_qnq (q := q_6) (pw := ([(h0, .inr (4, [.ref q_6, .int (zI 0), .int (zI 0)]))] : va_W)) (r := sobjW a0 ++ (gridW ct a0 zM0 ++ (benchW ct a0 zM0 ++ (logW ct a0 zM0 ++ (sobjW a1 ++ (gridW ct a1 zM0 ++ (benchW ct a1 zM0 ++ (logW ct a1 zM0 ++ (sobjW a2 ++ (gridW ct a2 zM0 ++ (benchW ct a2 zM0 ++ (logW ct a2 zM0 ++ (sobjW a3 ++ (gridW ct a3 zM0 ++ (benchW ct a3 zM0 ++ (logW ct a3 zM0)))))))))))))))) (b := (rA4 a0 a1 a2 a3)) (f := (va_up (va_up (va_up (va_up (fun _ => none) 0 (some (a0 0))) 1 (some (a1 0))) 2 (some (a2 0))) 3 (some (a3 0)))) hP hD (fun k hk => by rcases (show k = 0 ∨ k = 1 ∨ k = 2 ∨ k = 3 by omega) with rfl | rfl | rfl | rfl <;> simp [va_up, rA4])
            have hP : va_P D vwCl (([(h0, .inr (4, [.ref q_6, .int (zI 0), .int (zI 0)]))] : va_W) ++ (qrW ct q_6 (rA4 a0 a1 a2 a3) ++ (sobjW a0 ++ (gridW ct a0 zM0 ++ (benchW ct a0 zM0 ++ (logW ct a0 zM0 ++ (sobjW a1 ++ (gridW ct a1 zM0 ++ (benchW ct a1 zM0 ++ (logW ct a1 zM0 ++ (sobjW a2 ++ (gridW ct a2 zM0 ++ (benchW ct a2 zM0 ++ (logW ct a2 zM0 ++ (sobjW a3 ++ (gridW ct a3 zM0 ++ (benchW ct a3 zM0 ++ (logW ct a3 zM0)))))))))))))))))) H := hP
            have hD : va_D A (([(h0, .inr (4, [.ref q_6, .int (zI 0), .int (zI 0)]))] : va_W) ++ (qrW ct q_6 (rA4 a0 a1 a2 a3) ++ (sobjW a0 ++ (gridW ct a0 zM0 ++ (benchW ct a0 zM0 ++ (logW ct a0 zM0 ++ (sobjW a1 ++ (gridW ct a1 zM0 ++ (benchW ct a1 zM0 ++ (logW ct a1 zM0 ++ (sobjW a2 ++ (gridW ct a2 zM0 ++ (benchW ct a2 zM0 ++ (logW ct a2 zM0 ++ (sobjW a3 ++ (gridW ct a3 zM0 ++ (benchW ct a3 zM0 ++ (logW ct a3 zM0)))))))))))))))))) := hD
            exact z_vret hx hb hr hlocks hP hD hS ⟨Nat.le_of_ble_eq_true rfl, Nat.le_of_ble_eq_true rfl⟩ dX5_init_38 (⟨tA h0 q_6, rA4 a0 a1 a2 a3, rfl, rfl, rfl⟩)
          · have hc_16 := hc_16
            omega
set_option maxHeartbeats 4000000 in
set_option maxRecDepth 100000 in
theorem c_X2_init (l : Launch) (D : va_G) (ct ad : Nat → Nat) (h0 : Nat)  : ZM l yX2_init wsX2_init ({ frames := 1, cells := 1, slots := 150, locals := 12 } : Room) D ct ad [.ref h0] (f2W h0) (fun v w => ∃ (t : Nat → Nat), ((t 0 = h0)) ∧ v = none ∧ w = txtW ct t (fun _ => 0) 0 0 0 .null 0 0) := by
  refine ZM.of (cc := cX2_init) (maxL := 1) (ret := none) (by decide +kernel) rfl (Nat.le_of_ble_eq_true rfl) ?_
  intro p e s m below meth c A ls hx hb hr hts hown hlocks hml hname hE hP hD hA hS hl
  have hK := hE.1
  have hf_0 := hts (.methodLink RX2 3 objectInit) (by decide +kernel)
  have hf_1 := hts (.instanceMethod objectInit) (by decide +kernel)
  have hf_2 := hts (.code objectInit ⟨#[0xb1]⟩ 1 none) (by decide +kernel)
  have hf_3 := hts (.arrayClass .byte) (by decide +kernel)
  have hf_4 := hts (.fieldLink RX2 9 "RodGrids$CommandText" "bytes" "[B") (by decide +kernel)
  have hin_X2 : ∀ z ∈ u_ws RX2 TX2 7, z ∈ wsX2_init := by decide +kernel
  have hl : lv_has ls 1 [(0, .ref h0)] := hl
  refine lv_aload_n hx hb dX2_init_0 rfl (lv_at hl 0 rfl) ?_
  refine W.objInit hx hb hown hf_0 hf_1 hf_2 rfl (hl.1.trans hml.symm) rfl dX2_init_1 (Nat.le_of_ble_eq_true rfl) (Nat.le_of_ble_eq_true rfl) ?_
  refine W.eq (g2 := F0 m 4 ls []) rfl ?_
  refine lv_aload_n hx hb dX2_init_4 rfl (lv_at hl 0 rfl) ?_
  refine z_sipush hx hb dX2_init_5 (by decide) ?_
  refine z_newY (N' := 150) hx hb hf_3 hK hP hD hS hA rfl (by decide) (Nat.le_of_ble_eq_true rfl) (Nat.le_of_ble_eq_true rfl) dX2_init_8 (fun q_8 H hP hD hS => ?_)
  have hP : va_P D vwCl (f2W h0 ++ (([aY ct q_8 150 ((fun _ => 0))] : va_W))) H := hP
  have hD : va_D A (f2W h0 ++ (([aY ct q_8 150 ((fun _ => 0))] : va_W))) := hD
  refine z_putF (ct := ct) (ad := ad) (ci := 1) (v := .ref q_8) (ty := tyX2 0) (C := RX2) (T := TX2) (N := 7) (w2 := ([(h0, .inr (1, [.ref q_8, .int (zI 0), .int (zI 0), .int (zI 0), .null, .int (zI 0), .int (zI 0)]))] : va_W) ++ (([aY ct q_8 150 ((fun _ => 0))] : va_W))) hx hb hts hin_X2 tyX2 tyX2_ok nmX2 hown hE hP hD hS 0 rfl rfl 0 (by decide) hf_4 (fun _ h9 => h9) rfl (hname.trans rfl) rfl (by decide +kernel) rfl rfl (Nat.le_of_ble_eq_true rfl) dX2_init_10 rfl (fun H locs hP hD hS => ?_)
  exact z_vret hx hb hr hlocks hP hD hS ⟨Nat.le_of_ble_eq_true rfl, Nat.le_of_ble_eq_true rfl⟩ dX2_init_13 (⟨tA h0 q_8, rfl, rfl, rfl⟩)
theorem k_X2_init : yX2_init.cls ≠ "java/lang/invoke/MethodHandle" ∧ yX2_init.cls ≠ "java/lang/invoke/VarHandle" ∧ (parseMethodDescriptor yX2_init.desc).map (fun d => d.parameters.length) = some 0 := by decide +kernel
theorem k_X5_init : yX5_init.cls ≠ "java/lang/invoke/MethodHandle" ∧ yX5_init.cls ≠ "java/lang/invoke/VarHandle" ∧ (parseMethodDescriptor yX5_init.desc).map (fun d => d.parameters.length) = some 0 := by decide +kernel
set_option maxHeartbeats 4000000 in
set_option maxRecDepth 100000 in
theorem c_X8_init (l : Launch) (D : va_G) (ct ad : Nat → Nat) (h0 : Nat)  : ZMx l yX8_init wsX8_init ({ frames := 4, cells := 59, slots := 684, locals := 74 } : Room) D ct ad [.ref h0] (f8W h0) (fun v w => ∃ (a : Nat → Nat) (r : Nat → Nat) (q : Nat → Nat) (b : Nat → Nat → Nat), ((True)) ∧ v = none ∧ w = x8W h0 a r q ++ (svW ct r b 0 0 (fun _ => zM0) ++ (sobjW a ++ (gridW ct a zM0 ++ (benchW ct a zM0 ++ (logW ct a zM0 ++ (txtW ct q (fun _ => 0) 0 0 0 .null 0 0))))))) := by
  refine ZMx.of (cc := cX8_init) (maxL := 1) (ret := none) (by decide +kernel) rfl (Nat.le_of_ble_eq_true rfl) ?_
  intro p e s m below meth c A ls hx hb hr hts hown hlocks hml hname hO hE hP hD hA hS hl
  have hK := hE.1
  have hf_0 := hts (.methodLink RX8 1 objectInit) (by decide +kernel)
  have hf_1 := hts (.instanceMethod objectInit) (by decide +kernel)
  have hf_2 := hts (.code objectInit ⟨#[0xb1]⟩ 1 none) (by decide +kernel)
  have hf_3 := hts (.classLink RX8 7 RX6) (by decide +kernel)
  have hf_4 := hts (.instantiable RX6 3) (by decide +kernel)
  have hf_5 := hts (.initialized RX6) (by decide +kernel)
  have hf_6 := hts (.fieldLink RX8 10 "RodGrids" "state" "LRodGrids$State;") (by decide +kernel)
  have hf_7 := hts (.classLink RX8 16 RX5) (by decide +kernel)
  have hf_8 := hts (.instantiable RX5 3) (by decide +kernel)
  have hf_9 := hts (.initialized RX5) (by decide +kernel)
  have hf_10 := hts (.fieldLink RX8 19 "RodGrids" "saved" "LRodGrids$SavedStates;") (by decide +kernel)
  have hf_11 := hts (.classLink RX8 23 RX2) (by decide +kernel)
  have hf_12 := hts (.instantiable RX2 7) (by decide +kernel)
  have hf_13 := hts (.initialized RX2) (by decide +kernel)
  have hf_14 := hts (.fieldLink RX8 26 "RodGrids" "text" "LRodGrids$CommandText;") (by decide +kernel)
  have hin_X2 : ∀ z ∈ u_ws RX2 TX2 7, z ∈ wsX8_init := by decide +kernel
  have hin_X5 : ∀ z ∈ u_ws RX5 TX5 3, z ∈ wsX8_init := by decide +kernel
  have hin_X6 : ∀ z ∈ u_ws RX6 TX6 3, z ∈ wsX8_init := by decide +kernel
  have hin_X8 : ∀ z ∈ u_ws RX8 TX8 3, z ∈ wsX8_init := by decide +kernel
  have hl : lv_has ls 1 [(0, .ref h0)] := hl
  refine lv_aload_n hx hb dX8_init_0 rfl (lv_at hl 0 rfl) ?_
  refine W.objInit hx hb hown hf_0 hf_1 hf_2 rfl (hl.1.trans hml.symm) rfl dX8_init_1 (Nat.le_of_ble_eq_true rfl) (Nat.le_of_ble_eq_true rfl) ?_
  refine W.eq (g2 := F0 m 4 ls []) rfl ?_
  refine lv_aload_n hx hb dX8_init_4 rfl (lv_at hl 0 rfl) ?_
  refine va_new (D := D) (ci := 5) (fs := [.null, .null, .null]) (C := RX6) (T := TX6) (N := 3) hx hb hts hin_X6 tyX6 tyX6_ok hown hf_3 hf_4 hf_5 hK hP hD hS hA rfl (fun j hj => by rcases (show j = 0 ∨ j = 1 ∨ j = 2 by omega) with rfl | rfl | rfl <;> rfl) (Nat.le_of_ble_eq_true rfl) (Nat.le_of_ble_eq_true rfl) dX8_init_5 (fun q_5 H hP hD hS => ?_)
  have hP : va_P D vwCl (f8W h0 ++ (f6W q_5)) H := hP
  have hD : va_D A (f8W h0 ++ (f6W q_5)) := hD
  refine W.eq (g2 := F0 m 8 ls [.ref q_5, .ref h0]) rfl ?_
  refine lv_dup hx hb dX8_init_8 rfl ?_
  refine z_callIN (ret := none) (host := RX8) (b := q_5) (As := []) (rest := [.ref q_5, .ref h0]) (f8W h0) ([] : va_W) hx hb hml hown hts hl hE hS hA (zr0 (f8W h0) hP) (zr0D (f8W h0) hD) (c_X6_init l D ct ad q_5) ggX8_init_X6_init rfl k_X6_init ⟨Nat.le_of_ble_eq_true rfl, Nat.le_of_ble_eq_true rfl⟩ (hE.2.1.1 _ (List.mem_of_getElem? (i := 4) rfl)) (hts (.initialized RX6) (by decide +kernel)) (hts (.instanceMethod yX6_init) (by decide +kernel)) rfl rfl (Nat.le_of_ble_eq_true rfl) ⟨Nat.le_of_ble_eq_true rfl, Nat.le_of_ble_eq_true rfl⟩ dX8_init_9 rfl (fun v w1 H locs hpost hP hD hS => ?_)
  obtain ⟨a_9, hx0_9, rfl, rfl⟩ := hpost
  have hP := zr0' hP
  have hD := zr0D' hD
  have hP : va_P D vwCl (f8W h0 ++ (sobjW a_9 ++ (gridW ct a_9 zM0 ++ (benchW ct a_9 zM0 ++ (logW ct a_9 zM0))))) H := hP
  have hD : va_D A (f8W h0 ++ (sobjW a_9 ++ (gridW ct a_9 zM0 ++ (benchW ct a_9 zM0 ++ (logW ct a_9 zM0))))) := hD
  refine W.eq (g2 := F0 m 12 ls [.ref q_5, .ref h0]) rfl ?_
  have hP9_9 := hP
  have hD9_9 := hD
  have hl9_9 := hl
  have hS9_9 := hS
  subst hx0_9
  have hP : va_P D vwCl (f8W h0 ++ (sobjW a_9 ++ (gridW ct a_9 zM0 ++ (benchW ct a_9 zM0 ++ (logW ct a_9 zM0))))) H := hP9_9
  have hD : va_D A (f8W h0 ++ (sobjW a_9 ++ (gridW ct a_9 zM0 ++ (benchW ct a_9 zM0 ++ (logW ct a_9 zM0))))) := hD9_9
  have hl : lv_has ls 1 [(0, .ref h0)] := hl9_9
  have hS := hS9_9
  refine W.eq (g2 := F0 m 12 ls [.ref (a_9 0), .ref h0]) rfl ?_
  refine z_putF (ct := ct) (ad := ad) (ci := 6) (v := .ref (a_9 0)) (ty := tyX8 0) (C := RX8) (T := TX8) (N := 3) (w2 := ([(h0, .inr (6, [.ref (a_9 0), .null, .null]))] : va_W) ++ (sobjW a_9 ++ (gridW ct a_9 zM0 ++ (benchW ct a_9 zM0 ++ (logW ct a_9 zM0))))) hx hb hts hin_X8 tyX8 tyX8_ok nmX8 hown hE hP hD hS 0 rfl rfl 0 (by decide) hf_6 (fun _ h9 => h9) rfl (hname.trans rfl) rfl (by decide +kernel) rfl rfl (Nat.le_of_ble_eq_true rfl) dX8_init_12 rfl (fun H locs hP hD hS => ?_)
  refine lv_aload_n hx hb dX8_init_15 rfl (lv_at hl 0 rfl) ?_
  refine va_new (D := D) (ci := 4) (fs := [.null, .int (zI 0), .int (zI 0)]) (C := RX5) (T := TX5) (N := 3) hx hb hts hin_X5 tyX5 tyX5_ok hown hf_7 hf_8 hf_9 hK hP hD hS hA rfl (fun j hj => by rcases (show j = 0 ∨ j = 1 ∨ j = 2 by omega) with rfl | rfl | rfl <;> rfl) (Nat.le_of_ble_eq_true rfl) (Nat.le_of_ble_eq_true rfl) dX8_init_16 (fun q_16 H hP hD hS => ?_)
  have hP : va_P D vwCl (([(h0, .inr (6, [.ref (a_9 0), .null, .null]))] : va_W) ++ (sobjW a_9 ++ (gridW ct a_9 zM0 ++ (benchW ct a_9 zM0 ++ (logW ct a_9 zM0 ++ (f5W q_16)))))) H := hP
  have hD : va_D A (([(h0, .inr (6, [.ref (a_9 0), .null, .null]))] : va_W) ++ (sobjW a_9 ++ (gridW ct a_9 zM0 ++ (benchW ct a_9 zM0 ++ (logW ct a_9 zM0 ++ (f5W q_16)))))) := hD
  refine W.eq (g2 := F0 m 19 ls [.ref q_16, .ref h0]) rfl ?_
  refine lv_dup hx hb dX8_init_19 rfl ?_
  refine z_callIx (ret := none) (b := q_16) (As := []) (rest := [.ref q_16, .ref h0]) (([(h0, .inr (6, [.ref (a_9 0), .null, .null]))] : va_W) ++ (sobjW a_9 ++ (gridW ct a_9 zM0 ++ (benchW ct a_9 zM0 ++ (logW ct a_9 zM0))))) ([] : va_W) hO hx hb hml hown hts hl hE hS hA (zr0 (([(h0, .inr (6, [.ref (a_9 0), .null, .null]))] : va_W) ++ (sobjW a_9 ++ (gridW ct a_9 zM0 ++ (benchW ct a_9 zM0 ++ (logW ct a_9 zM0))))) hP) (zr0D (([(h0, .inr (6, [.ref (a_9 0), .null, .null]))] : va_W) ++ (sobjW a_9 ++ (gridW ct a_9 zM0 ++ (benchW ct a_9 zM0 ++ (logW ct a_9 zM0))))) hD) (c_X5_init l D ct ad q_16) ggX8_init_X5_init rfl k_X5_init ⟨Nat.le_of_ble_eq_true rfl, Nat.le_of_ble_eq_true rfl⟩ (hts (.initialized RX5) (by decide +kernel)) (hts (.methodLink RX8 18 yX5_init) (by decide +kernel)) (hts (.instanceMethod yX5_init) (by decide +kernel)) rfl rfl (Nat.le_of_ble_eq_true rfl) ⟨Nat.le_of_ble_eq_true rfl, Nat.le_of_ble_eq_true rfl⟩ dX8_init_20 rfl (fun v w1 H locs hpost hP hD hS => ?_)
  obtain ⟨r_20, b_20, hx0_20, rfl, rfl⟩ := hpost
  have hP := zr0' hP
  have hD := zr0D' hD
  have hP : va_P D vwCl (([(h0, .inr (6, [.ref (a_9 0), .null, .null]))] : va_W) ++ (sobjW a_9 ++ (gridW ct a_9 zM0 ++ (benchW ct a_9 zM0 ++ (logW ct a_9 zM0 ++ (svW ct r_20 b_20 0 0 (fun _ => zM0))))))) H := hP
  have hD : va_D A (([(h0, .inr (6, [.ref (a_9 0), .null, .null]))] : va_W) ++ (sobjW a_9 ++ (gridW ct a_9 zM0 ++ (benchW ct a_9 zM0 ++ (logW ct a_9 zM0 ++ (svW ct r_20 b_20 0 0 (fun _ => zM0))))))) := hD
  refine W.eq (g2 := F0 m 23 ls [.ref q_16, .ref h0]) rfl ?_
  have hP9_20 := hP
  have hD9_20 := hD
  have hl9_20 := hl
  have hS9_20 := hS
  subst hx0_20
  have hP : va_P D vwCl (([(h0, .inr (6, [.ref (a_9 0), .null, .null]))] : va_W) ++ (sobjW a_9 ++ (gridW ct a_9 zM0 ++ (benchW ct a_9 zM0 ++ (logW ct a_9 zM0 ++ (svW ct r_20 b_20 0 0 (fun _ => zM0))))))) H := hP9_20
  have hD : va_D A (([(h0, .inr (6, [.ref (a_9 0), .null, .null]))] : va_W) ++ (sobjW a_9 ++ (gridW ct a_9 zM0 ++ (benchW ct a_9 zM0 ++ (logW ct a_9 zM0 ++ (svW ct r_20 b_20 0 0 (fun _ => zM0))))))) := hD9_20
  have hl : lv_has ls 1 [(0, .ref h0)] := hl9_20
  have hS := hS9_20
  refine W.eq (g2 := F0 m 23 ls [.ref (r_20 0), .ref h0]) rfl ?_
  refine z_putF (ct := ct) (ad := ad) (ci := 6) (v := .ref (r_20 0)) (ty := tyX8 1) (C := RX8) (T := TX8) (N := 3) (w2 := ([(h0, .inr (6, [.ref (a_9 0), .ref (r_20 0), .null]))] : va_W) ++ (sobjW a_9 ++ (gridW ct a_9 zM0 ++ (benchW ct a_9 zM0 ++ (logW ct a_9 zM0 ++ (svW ct r_20 b_20 0 0 (fun _ => zM0))))))) hx hb hts hin_X8 tyX8 tyX8_ok nmX8 hown hE hP hD hS 0 rfl rfl 1 (by decide) hf_10 (fun _ h9 => h9) rfl (hname.trans rfl) rfl (by decide +kernel) rfl rfl (Nat.le_of_ble_eq_true rfl) dX8_init_23 rfl (fun H locs hP hD hS => ?_)
  refine lv_aload_n hx hb dX8_init_26 rfl (lv_at hl 0 rfl) ?_
  refine va_new (D := D) (ci := 1) (fs := [.null, .int (zI 0), .int (zI 0), .int (zI 0), .null, .int (zI 0), .int (zI 0)]) (C := RX2) (T := TX2) (N := 7) hx hb hts hin_X2 tyX2 tyX2_ok hown hf_11 hf_12 hf_13 hK hP hD hS hA rfl (fun j hj => by rcases (show j = 0 ∨ j = 1 ∨ j = 2 ∨ j = 3 ∨ j = 4 ∨ j = 5 ∨ j = 6 by omega) with rfl | rfl | rfl | rfl | rfl | rfl | rfl <;> rfl) (Nat.le_of_ble_eq_true rfl) (Nat.le_of_ble_eq_true rfl) dX8_init_27 (fun q_27 H hP hD hS => ?_)
  have hP : va_P D vwCl (([(h0, .inr (6, [.ref (a_9 0), .ref (r_20 0), .null]))] : va_W) ++ (sobjW a_9 ++ (gridW ct a_9 zM0 ++ (benchW ct a_9 zM0 ++ (logW ct a_9 zM0 ++ (svW ct r_20 b_20 0 0 (fun _ => zM0) ++ (f2W q_27))))))) H := hP
  have hD : va_D A (([(h0, .inr (6, [.ref (a_9 0), .ref (r_20 0), .null]))] : va_W) ++ (sobjW a_9 ++ (gridW ct a_9 zM0 ++ (benchW ct a_9 zM0 ++ (logW ct a_9 zM0 ++ (svW ct r_20 b_20 0 0 (fun _ => zM0) ++ (f2W q_27))))))) := hD
  refine W.eq (g2 := F0 m 30 ls [.ref q_27, .ref h0]) rfl ?_
  refine lv_dup hx hb dX8_init_30 rfl ?_
  refine z_callIN (ret := none) (host := RX8) (b := q_27) (As := []) (rest := [.ref q_27, .ref h0]) (([(h0, .inr (6, [.ref (a_9 0), .ref (r_20 0), .null]))] : va_W) ++ (sobjW a_9 ++ (gridW ct a_9 zM0 ++ (benchW ct a_9 zM0 ++ (logW ct a_9 zM0 ++ (svW ct r_20 b_20 0 0 (fun _ => zM0))))))) ([] : va_W) hx hb hml hown hts hl hE hS hA (zr0 (([(h0, .inr (6, [.ref (a_9 0), .ref (r_20 0), .null]))] : va_W) ++ (sobjW a_9 ++ (gridW ct a_9 zM0 ++ (benchW ct a_9 zM0 ++ (logW ct a_9 zM0 ++ (svW ct r_20 b_20 0 0 (fun _ => zM0))))))) hP) (zr0D (([(h0, .inr (6, [.ref (a_9 0), .ref (r_20 0), .null]))] : va_W) ++ (sobjW a_9 ++ (gridW ct a_9 zM0 ++ (benchW ct a_9 zM0 ++ (logW ct a_9 zM0 ++ (svW ct r_20 b_20 0 0 (fun _ => zM0))))))) hD) (c_X2_init l D ct ad q_27) ggX8_init_X2_init rfl k_X2_init ⟨Nat.le_of_ble_eq_true rfl, Nat.le_of_ble_eq_true rfl⟩ (hE.2.1.1 _ (List.mem_of_getElem? (i := 3) rfl)) (hts (.initialized RX2) (by decide +kernel)) (hts (.instanceMethod yX2_init) (by decide +kernel)) rfl rfl (Nat.le_of_ble_eq_true rfl) ⟨Nat.le_of_ble_eq_true rfl, Nat.le_of_ble_eq_true rfl⟩ dX8_init_31 rfl (fun v w1 H locs hpost hP hD hS => ?_)
  obtain ⟨t_31, hx0_31, rfl, rfl⟩ := hpost
  have hP := zr0' hP
  have hD := zr0D' hD
  have hP : va_P D vwCl (([(h0, .inr (6, [.ref (a_9 0), .ref (r_20 0), .null]))] : va_W) ++ (sobjW a_9 ++ (gridW ct a_9 zM0 ++ (benchW ct a_9 zM0 ++ (logW ct a_9 zM0 ++ (svW ct r_20 b_20 0 0 (fun _ => zM0) ++ (txtW ct t_31 (fun _ => 0) 0 0 0 .null 0 0))))))) H := hP
  have hD : va_D A (([(h0, .inr (6, [.ref (a_9 0), .ref (r_20 0), .null]))] : va_W) ++ (sobjW a_9 ++ (gridW ct a_9 zM0 ++ (benchW ct a_9 zM0 ++ (logW ct a_9 zM0 ++ (svW ct r_20 b_20 0 0 (fun _ => zM0) ++ (txtW ct t_31 (fun _ => 0) 0 0 0 .null 0 0))))))) := hD
  refine W.eq (g2 := F0 m 34 ls [.ref q_27, .ref h0]) rfl ?_
  have hP9_31 := hP
  have hD9_31 := hD
  have hl9_31 := hl
  have hS9_31 := hS
  subst hx0_31
  have hP : va_P D vwCl (([(h0, .inr (6, [.ref (a_9 0), .ref (r_20 0), .null]))] : va_W) ++ (sobjW a_9 ++ (gridW ct a_9 zM0 ++ (benchW ct a_9 zM0 ++ (logW ct a_9 zM0 ++ (svW ct r_20 b_20 0 0 (fun _ => zM0) ++ (txtW ct t_31 (fun _ => 0) 0 0 0 .null 0 0))))))) H := hP9_31
  have hD : va_D A (([(h0, .inr (6, [.ref (a_9 0), .ref (r_20 0), .null]))] : va_W) ++ (sobjW a_9 ++ (gridW ct a_9 zM0 ++ (benchW ct a_9 zM0 ++ (logW ct a_9 zM0 ++ (svW ct r_20 b_20 0 0 (fun _ => zM0) ++ (txtW ct t_31 (fun _ => 0) 0 0 0 .null 0 0))))))) := hD9_31
  have hl : lv_has ls 1 [(0, .ref h0)] := hl9_31
  have hS := hS9_31
  refine W.eq (g2 := F0 m 34 ls [.ref (t_31 0), .ref h0]) rfl ?_
  refine z_putF (ct := ct) (ad := ad) (ci := 6) (v := .ref (t_31 0)) (ty := tyX8 2) (C := RX8) (T := TX8) (N := 3) (w2 := ([(h0, .inr (6, [.ref (a_9 0), .ref (r_20 0), .ref (t_31 0)]))] : va_W) ++ (sobjW a_9 ++ (gridW ct a_9 zM0 ++ (benchW ct a_9 zM0 ++ (logW ct a_9 zM0 ++ (svW ct r_20 b_20 0 0 (fun _ => zM0) ++ (txtW ct t_31 (fun _ => 0) 0 0 0 .null 0 0))))))) hx hb hts hin_X8 tyX8 tyX8_ok nmX8 hown hE hP hD hS 0 rfl rfl 2 (by decide) hf_14 (fun _ h9 => h9) rfl (hname.trans rfl) rfl (by decide +kernel) rfl rfl (Nat.le_of_ble_eq_true rfl) dX8_init_34 rfl (fun H locs hP hD hS => ?_)
  have hperm := zperm (fun k : Nat => match k with | 0 => ([(h0, .inr (6, [.ref (a_9 0), .ref (r_20 0), .ref (t_31 0)]))] : va_W) | 1 => sobjW a_9 | 2 => gridW ct a_9 zM0 | 3 => benchW ct a_9 zM0 | 4 => logW ct a_9 zM0 | 5 => svW ct r_20 b_20 0 0 (fun _ => zM0) | _ => txtW ct t_31 (fun _ => 0) 0 0 0 .null 0 0) [0, 1, 2, 3, 4, 5, 6] [0, 5, 1, 2, 3, 4, 6] (by decide)
  have hP : va_P D vwCl (([(h0, .inr (6, [.ref (a_9 0), .ref (r_20 0), .ref (t_31 0)]))] : va_W) ++ (svW ct r_20 b_20 0 0 (fun _ => zM0) ++ (sobjW a_9 ++ (gridW ct a_9 zM0 ++ (benchW ct a_9 zM0 ++ (logW ct a_9 zM0 ++ (txtW ct t_31 (fun _ => 0) 0 0 0 .null 0 0))))))) H := va_P.perm hperm hP
  have hD : va_D A (([(h0, .inr (6, [.ref (a_9 0), .ref (r_20 0), .ref (t_31 0)]))] : va_W) ++ (svW ct r_20 b_20 0 0 (fun _ => zM0) ++ (sobjW a_9 ++ (gridW ct a_9 zM0 ++ (benchW ct a_9 zM0 ++ (logW ct a_9 zM0 ++ (txtW ct t_31 (fun _ => 0) 0 0 0 .null 0 0))))))) := va_D.perm hperm hD
  have hw8 : ([(h0, .inr (6, [.ref (a_9 0), .ref (r_20 0), .ref (t_31 0)]))] : va_W) ++ (svW ct r_20 b_20 0 0 (fun _ => zM0) ++ (sobjW a_9 ++ (gridW ct a_9 zM0 ++ (benchW ct a_9 zM0 ++ (logW ct a_9 zM0 ++ (txtW ct t_31 (fun _ => 0) 0 0 0 .null 0 0)))))) = x8W h0 a_9 r_20 t_31 ++ (svW ct r_20 b_20 0 0 (fun _ => zM0) ++ (sobjW a_9 ++ (gridW ct a_9 zM0 ++ (benchW ct a_9 zM0 ++ (logW ct a_9 zM0 ++ (txtW ct t_31 (fun _ => 0) 0 0 0 .null 0 0)))))) := rfl
  exact z_vret hx hb hr hlocks hP hD hS ⟨Nat.le_of_ble_eq_true rfl, Nat.le_of_ble_eq_true rfl⟩ dX8_init_37 (⟨a_9, r_20, t_31, b_20, trivial, rfl, hw8⟩)
