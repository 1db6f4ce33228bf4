theorem k_X4_balanceOfRods : yX4_balanceOfRods.cls ≠ "java/lang/invoke/MethodHandle" ∧ yX4_balanceOfRods.cls ≠ "java/lang/invoke/VarHandle" ∧ (parseMethodDescriptor yX4_balanceOfRods.desc).map (fun d => d.parameters.length) = some 0 := by decide +kernel
set_option maxHeartbeats 4000000 in
set_option maxRecDepth 100000 in
theorem c_X4_nearestMatch (l : Launch) (D : va_G) (ct ad : Nat → Nat) (a : Nat → Nat) (M : Int → Int) (r : Int) (hI : gInv M) (hr : 0 ≤ r ∧ r < M 4) : ZM l yX4_nearestMatch wsX4_nearestMatch ({ frames := 3, cells := 0, slots := 0, locals := 65 } : Room) D ct ad [.ref (a 1), .int (zI r)] (gridW ct a M) (zD (some (.int (zI (sp_match M r)))) (gridW ct a M)) := by
  refine ZM.of (cc := cX4_nearestMatch) (maxL := 13) (ret := (some .int)) (by decide +kernel) rfl (Nat.le_of_ble_eq_true rfl) ?_
  intro p e s m below meth c A ls hx hb hr hts hown hlocks hml hname hE hP hD hA hS hl
  have hK := hE.1
  have hf_0 := hts (.fieldLink RX4 19 "RodGrids$Grid" "rodMetals" "[I") (by decide +kernel)
  have hf_1 := hts (.fieldLink RX4 22 "RodGrids$Grid" "directions" "[I") (by decide +kernel)
  have hf_2 := hts (.constantLong RX4 76 (1000000)) (by decide +kernel)
  have hf_3 := hts (.methodLink RX4 82 Lib.MathLoose.abs_long.x) (by decide +kernel)
  have hf_4 := hts (.static Lib.MathLoose.abs_long.x) (by decide +kernel)
  have hf_5 := hts (.initialized "java/lang/Math") (by decide +kernel)
  have hf_6 := hts (.code Lib.MathLoose.abs_long.x Lib.MathLoose.abs_long.code 2 (some .long)) (by decide +kernel)
  have hin_X4 : ∀ z ∈ u_ws RX4 TX4 6, z ∈ wsX4_nearestMatch := by decide +kernel
  have hl : lv_has ls 13 [(0, .ref (a 1)), (1, .int (zI r))] := hl
  have i3 := hI.1
  have i4 := hI.2.1
  have q := hI.2.2.2.1 r (by omega) (by omega)
  have q1 := hI.2.2.2.2 r (by omega) (by omega)
  have q2 := hI.2.2.1 (M (22 + 3 * r)) (by omega) (by omega)
  have bB := sp_balB hI (M 4).toNat (by omega)
  have b1B := sp_bal1B (r := r) hI (by omega)
  have oB := mulB (a := -M (23 + 3 * r)) (b := sp_balN M (M 4).toNat - sp_bal1 M r) (A := 1) (B := 5000000000) (by omega) (by omega)
  have z1 := mulB (a := max 1 (min 1000000 ((-M (23 + 3 * r) * (sp_balN M (M 4).toNat - sp_bal1 M r)) / M (16 + M (22 + 3 * r))))) (b := M (16 + M (22 + 3 * r))) (A := 1000000) (B := 500) (by omega) (by omega)
  have z2 := mulB (a := max 1 (min 1000000 ((-M (23 + 3 * r) * (sp_balN M (M 4).toNat - sp_bal1 M r)) / M (16 + M (22 + 3 * r)) + 1))) (b := M (16 + M (22 + 3 * r))) (A := 1000000) (B := 500) (by omega) (by omega)
  refine lv_aload_n hx hb dX4_nearestMatch_0 rfl (lv_at hl 0 rfl) ?_
  refine lv_aload_n hx hb dX4_nearestMatch_1 rfl (lv_at hl 0 rfl) ?_
  refine va_get (D := D) (ci := 3) (v := .ref (a 3)) (C := RX4) (T := TX4) (N := 6) hx hb hts hin_X4 hown hK hP 0 rfl rfl 3 (by decide) hf_0 (fun _ h9 => h9) rfl dX4_nearestMatch_2 ?_
  refine lv_iload_n hx hb dX4_nearestMatch_5 rfl (lv_at hl 1 rfl) ?_
  refine z_iald (g := fun x => M (22 + 3 * x)) (v := M (22 + 3 * r)) hx hb hK hP 2 rfl (by decide) (by omega) rfl dX4_nearestMatch_6 ?_
  refine z_callV (C := RX4) (q0 := 0) (ci := 3) (As := [.int (zI (M (22 + 3 * r)))]) (rest := []) ([] : va_W) ([] : va_W) hx hb hml hown hts hl hE hS hA (zr0 ([] : va_W) hP) (zr0D ([] : va_W) hD) (c_X4_stretchOf l D ct ad a M (M (22 + 3 * r)) (by assumption) (by omega)) gX4_nearestMatch_X4_stretchOf rfl rfl k_X4_stretchOf ⟨Nat.le_of_ble_eq_true rfl, Nat.le_of_ble_eq_true rfl⟩ rfl rfl rfl rfl (Nat.le_of_ble_eq_true rfl) ⟨Nat.le_of_ble_eq_true rfl, Nat.le_of_ble_eq_true rfl⟩ dX4_nearestMatch_7 rfl (fun v w1 H locs hpost hP hD hS => ?_)
  obtain ⟨rfl, rfl⟩ := hpost
  have hP := zr0' hP
  have hD := zr0D' hD
  have hP : va_P D vwCl (gridW ct a M) H := hP
  have hD : va_D A (gridW ct a M) := hD
  refine W.eq (g2 := F0 m 10 ls [.int (zI (M (16 + (M (22 + 3 * r)))))]) rfl ?_
  refine z_i2l hx hb dX4_nearestMatch_10 (by omega) ?_
  refine lv_lstore_n (lv' := [(2, .long (zJ (M (16 + (M (22 + 3 * r)))))), (0, .ref (a 1)), (1, .int (zI r))]) hx hb dX4_nearestMatch_11 rfl hl (by decide) rfl (fun ls hl => ?_)
  refine lv_lload_n hx hb dX4_nearestMatch_12 rfl (lv_at hl 0 rfl) ?_
  refine z_lconst (z := 0) hx hb dX4_nearestMatch_13 rfl ?_
  refine z_lcmp_ne (tgt := 20) hx hb dX4_nearestMatch_14 dX4_nearestMatch_15 (by decide) (by omega) (by omega) (fun hc_14 => ?_) (fun hc_14 => ?_)
  · have hc_14 := hc_14
    have dv := divC (a := (-M (23 + 3 * r) * (sp_balN M (M 4).toNat - sp_bal1 M r))) (b := M (16 + M (22 + 3 * r))) (by omega) (by omega)
    refine lv_aload_n hx hb dX4_nearestMatch_20 rfl (lv_at hl 1 rfl) ?_
    refine va_get (D := D) (ci := 3) (v := .ref (a 4)) (C := RX4) (T := TX4) (N := 6) hx hb hts hin_X4 hown hK hP 0 rfl rfl 4 (by decide) hf_1 (fun _ h9 => h9) rfl dX4_nearestMatch_21 ?_
    refine lv_iload_n hx hb dX4_nearestMatch_24 rfl (lv_at hl 2 rfl) ?_
    refine z_iald (g := fun x => M (23 + 3 * x)) (v := M (23 + 3 * r)) hx hb hK hP 3 rfl (by decide) (by omega) rfl dX4_nearestMatch_25 ?_
    refine z_ineg hx hb dX4_nearestMatch_26 ?_
    refine z_i2l hx hb dX4_nearestMatch_27 (by omega) ?_
    refine lv_aload_n hx hb dX4_nearestMatch_28 rfl (lv_at hl 1 rfl) ?_
    refine z_callV (C := RX4) (q0 := 0) (ci := 3) (As := []) (rest := [.long (zJ (-(M (23 + 3 * r))))]) ([] : va_W) ([] : va_W) hx hb hml hown hts hl hE hS hA (zr0 ([] : va_W) hP) (zr0D ([] : va_W) hD) (c_X4_balanceOfRods l D ct ad a M (by assumption)) gX4_nearestMatch_X4_balanceOfRods rfl rfl k_X4_balanceOfRods ⟨Nat.le_of_ble_eq_true rfl, Nat.le_of_ble_eq_true rfl⟩ rfl rfl rfl rfl (Nat.le_of_ble_eq_true rfl) ⟨Nat.le_of_ble_eq_true rfl, Nat.le_of_ble_eq_true rfl⟩ dX4_nearestMatch_29 rfl (fun v w1 H locs hpost hP hD hS => ?_)
    obtain ⟨rfl, rfl⟩ := hpost
    have hP := zr0' hP
    have hD := zr0D' hD
    have hP : va_P D vwCl (gridW ct a M) H := hP
    have hD : va_D A (gridW ct a M) := hD
    refine W.eq (g2 := F0 m 32 ls [.long (zJ (sp_balN M (M 4).toNat)), .long (zJ (-(M (23 + 3 * r))))]) rfl ?_
    refine lv_aload_n hx hb dX4_nearestMatch_32 rfl (lv_at hl 1 rfl) ?_
    refine lv_iload_n hx hb dX4_nearestMatch_33 rfl (lv_at hl 2 rfl) ?_
    refine z_callV (C := RX4) (q0 := 0) (ci := 3) (As := [.int (zI r)]) (rest := [.long (zJ (sp_balN M (M 4).toNat)), .long (zJ (-(M (23 + 3 * r))))]) ([] : va_W) ([] : va_W) hx hb hml hown hts hl hE hS hA (zr0 ([] : va_W) hP) (zr0D ([] : va_W) hD) (c_X4_balanceOfRod l D ct ad a M r (by assumption) (by omega)) gX4_nearestMatch_X4_balanceOfRod rfl rfl k_X4_balanceOfRod ⟨Nat.le_of_ble_eq_true rfl, Nat.le_of_ble_eq_true rfl⟩ rfl rfl rfl rfl (Nat.le_of_ble_eq_true rfl) ⟨Nat.le_of_ble_eq_true rfl, Nat.le_of_ble_eq_true rfl⟩ dX4_nearestMatch_34 rfl (fun v w1 H locs hpost hP hD hS => ?_)
    obtain ⟨rfl, rfl⟩ := hpost
    have hP := zr0' hP
    have hD := zr0D' hD
    have hP : va_P D vwCl (gridW ct a M) H := hP
    have hD : va_D A (gridW ct a M) := hD
    refine W.eq (g2 := F0 m 37 ls [.long (zJ (sp_bal1 M r)), .long (zJ (sp_balN M (M 4).toNat)), .long (zJ (-(M (23 + 3 * r))))]) rfl ?_
    refine z_lsub hx hb dX4_nearestMatch_37 ?_
    refine z_lmul hx hb dX4_nearestMatch_38 ?_
    refine lv_lstore (lv' := [(4, .long (zJ ((-(M (23 + 3 * r))) * ((sp_balN M (M 4).toNat) - (sp_bal1 M r))))), (2, .long (zJ (M (16 + (M (22 + 3 * r)))))), (0, .ref (a 1)), (1, .int (zI r))]) hx hb dX4_nearestMatch_39 hl (by decide) rfl (fun ls hl => ?_)
    refine lv_lload hx hb dX4_nearestMatch_41 (lv_at hl 0 rfl) ?_
    refine lv_lload_n hx hb dX4_nearestMatch_43 rfl (lv_at hl 1 rfl) ?_
    refine z_callSN (host := RX8) (As := [.long (zJ ((-(M (23 + 3 * r))) * ((sp_balN M (M 4).toNat) - (sp_bal1 M r)))), .long (zJ (M (16 + (M (22 + 3 * r)))))]) (rest := []) ([] : va_W) (gridW ct a M) hx hb hml hown hts hl hE hS hA hP hD (c_X8_floorOf l D ct ad ((-(M (23 + 3 * r))) * ((sp_balN M (M 4).toNat) - (sp_bal1 M r))) (M (16 + (M (22 + 3 * r)))) (by omega) (by omega)) ggX4_nearestMatch_X8_floorOf rfl k_X8_floorOf ⟨Nat.le_of_ble_eq_true rfl, Nat.le_of_ble_eq_true rfl⟩ (hE.2.1.1 _ (List.mem_of_getElem? (i := 12) rfl)) (hts (.initialized RX8) (by decide +kernel)) (hts (.static yX8_floorOf) (by decide +kernel)) rfl (Nat.le_of_ble_eq_true rfl) ⟨Nat.le_of_ble_eq_true rfl, Nat.le_of_ble_eq_true rfl⟩ dX4_nearestMatch_44 rfl (fun v w1 H locs hpost hP hD hS => ?_)
    obtain ⟨rfl, rfl⟩ := hpost
    have hP : va_P D vwCl (gridW ct a M) H := hP
    have hD : va_D A (gridW ct a M) := hD
    refine W.eq (g2 := F0 m 47 ls [.long (zJ (((-(M (23 + 3 * r))) * ((sp_balN M (M 4).toNat) - (sp_bal1 M r))) / (M (16 + (M (22 + 3 * r))))))]) rfl ?_
    refine lv_lstore (lv' := [(6, .long (zJ (((-(M (23 + 3 * r))) * ((sp_balN M (M 4).toNat) - (sp_bal1 M r))) / (M (16 + (M (22 + 3 * r))))))), (4, .long (zJ ((-(M (23 + 3 * r))) * ((sp_balN M (M 4).toNat) - (sp_bal1 M r))))), (2, .long (zJ (M (16 + (M (22 + 3 * r)))))), (0, .ref (a 1)), (1, .int (zI r))]) hx hb dX4_nearestMatch_47 hl (by decide) rfl (fun ls hl => ?_)
    refine lv_lload hx hb dX4_nearestMatch_49 (lv_at hl 0 rfl) ?_
    refine z_lconst (z := 1) hx hb dX4_nearestMatch_51 rfl ?_
    refine z_ldc2 hx hb 1000000 hown hf_2 (by decide) dX4_nearestMatch_52 ?_
    refine z_callSN (host := RX8) (As := [.long (zJ (((-(M (23 + 3 * r))) * ((sp_balN M (M 4).toNat) - (sp_bal1 M r))) / (M (16 + (M (22 + 3 * r)))))), .long (zJ 1), .long (zJ 1000000)]) (rest := []) ([] : va_W) (gridW ct a M) hx hb hml hown hts hl hE hS hA hP hD (c_X8_clamp l D ct ad (((-(M (23 + 3 * r))) * ((sp_balN M (M 4).toNat) - (sp_bal1 M r))) / (M (16 + (M (22 + 3 * r))))) 1 1000000 (by omega) (by omega) (by omega)) ggX4_nearestMatch_X8_clamp rfl k_X8_clamp ⟨Nat.le_of_ble_eq_true rfl, Nat.le_of_ble_eq_true rfl⟩ (hE.2.1.1 _ (List.mem_of_getElem? (i := 13) rfl)) (hts (.initialized RX8) (by decide +kernel)) (hts (.static yX8_clamp) (by decide +kernel)) rfl (Nat.le_of_ble_eq_true rfl) ⟨Nat.le_of_ble_eq_true rfl, Nat.le_of_ble_eq_true rfl⟩ dX4_nearestMatch_55 rfl (fun v w1 H locs hpost hP hD hS => ?_)
    obtain ⟨rfl, rfl⟩ := hpost
    have hP : va_P D vwCl (gridW ct a M) H := hP
    have hD : va_D A (gridW ct a M) := hD
    refine W.eq (g2 := F0 m 58 ls [.long (zJ (max 1 (min 1000000 (((-(M (23 + 3 * r))) * ((sp_balN M (M 4).toNat) - (sp_bal1 M r))) / (M (16 + (M (22 + 3 * r))))))))]) rfl ?_
    refine lv_lstore (lv' := [(8, .long (zJ (max 1 (min 1000000 (((-(M (23 + 3 * r))) * ((sp_balN M (M 4).toNat) - (sp_bal1 M r))) / (M (16 + (M (22 + 3 * r))))))))), (6, .long (zJ (((-(M (23 + 3 * r))) * ((sp_balN M (M 4).toNat) - (sp_bal1 M r))) / (M (16 + (M (22 + 3 * r))))))), (4, .long (zJ ((-(M (23 + 3 * r))) * ((sp_balN M (M 4).toNat) - (sp_bal1 M r))))), (2, .long (zJ (M (16 + (M (22 + 3 * r)))))), (0, .ref (a 1)), (1, .int (zI r))]) hx hb dX4_nearestMatch_58 hl (by decide) rfl (fun ls hl => ?_)
    refine lv_lload hx hb dX4_nearestMatch_60 (lv_at hl 1 rfl) ?_
    refine z_lconst (z := 1) hx hb dX4_nearestMatch_62 rfl ?_
    refine z_ladd hx hb dX4_nearestMatch_63 ?_
    refine z_lconst (z := 1) hx hb dX4_nearestMatch_64 rfl ?_
    refine z_ldc2 hx hb 1000000 hown hf_2 (by decide) dX4_nearestMatch_65 ?_
    refine z_callSN (host := RX8) (As := [.long (zJ ((((-(M (23 + 3 * r))) * ((sp_balN M (M 4).toNat) - (sp_bal1 M r))) / (M (16 + (M (22 + 3 * r))))) + 1)), .long (zJ 1), .long (zJ 1000000)]) (rest := []) ([] : va_W) (gridW ct a M) hx hb hml hown hts hl hE hS hA hP hD (c_X8_clamp l D ct ad ((((-(M (23 + 3 * r))) * ((sp_balN M (M 4).toNat) - (sp_bal1 M r))) / (M (16 + (M (22 + 3 * r))))) + 1) 1 1000000 (by omega) (by omega) (by omega)) ggX4_nearestMatch_X8_clamp rfl k_X8_clamp ⟨Nat.le_of_ble_eq_true rfl, Nat.le_of_ble_eq_true rfl⟩ (hE.2.1.1 _ (List.mem_of_getElem? (i := 13) rfl)) (hts (.initialized RX8) (by decide +kernel)) (hts (.static yX8_clamp) (by decide +kernel)) rfl (Nat.le_of_ble_eq_true rfl) ⟨Nat.le_of_ble_eq_true rfl, Nat.le_of_ble_eq_true rfl⟩ dX4_nearestMatch_68 rfl (fun v w1 H locs hpost hP hD hS => ?_)
    obtain ⟨rfl, rfl⟩ := hpost
    have hP : va_P D vwCl (gridW ct a M) H := hP
    have hD : va_D A (gridW ct a M) := hD
    refine W.eq (g2 := F0 m 71 ls [.long (zJ (max 1 (min 1000000 ((((-(M (23 + 3 * r))) * ((sp_balN M (M 4).toNat) - (sp_bal1 M r))) / (M (16 + (M (22 + 3 * r))))) + 1))))]) rfl ?_
    refine lv_lstore (lv' := [(10, .long (zJ (max 1 (min 1000000 ((((-(M (23 + 3 * r))) * ((sp_balN M (M 4).toNat) - (sp_bal1 M r))) / (M (16 + (M (22 + 3 * r))))) + 1))))), (8, .long (zJ (max 1 (min 1000000 (((-(M (23 + 3 * r))) * ((sp_balN M (M 4).toNat) - (sp_bal1 M r))) / (M (16 + (M (22 + 3 * r))))))))), (6, .long (zJ (((-(M (23 + 3 * r))) * ((sp_balN M (M 4).toNat) - (sp_bal1 M r))) / (M (16 + (M (22 + 3 * r))))))), (4, .long (zJ ((-(M (23 + 3 * r))) * ((sp_balN M (M 4).toNat) - (sp_bal1 M r))))), (2, .long (zJ (M (16 + (M (22 + 3 * r)))))), (0, .ref (a 1)), (1, .int (zI r))]) hx hb dX4_nearestMatch_71 hl (by decide) rfl (fun ls hl => ?_)
    refine lv_lload hx hb dX4_nearestMatch_73 (lv_at hl 0 rfl) ?_
    refine lv_lload_n hx hb dX4_nearestMatch_75 rfl (lv_at hl 4 rfl) ?_
    refine z_lmul hx hb dX4_nearestMatch_76 ?_
    refine lv_lload hx hb dX4_nearestMatch_77 (lv_at hl 3 rfl) ?_
    refine z_lsub hx hb dX4_nearestMatch_79 ?_
    refine z_mabsl hx hb hml hl hown hf_3 hf_4 hf_5 hf_6 (Nat.le_of_ble_eq_true rfl) (Nat.le_of_ble_eq_true rfl) (Nat.le_of_ble_eq_true rfl) (Nat.le_of_ble_eq_true rfl) (by omega) dX4_nearestMatch_80 ?_
    refine lv_lload hx hb dX4_nearestMatch_83 (lv_at hl 1 rfl) ?_
    refine lv_lload_n hx hb dX4_nearestMatch_85 rfl (lv_at hl 4 rfl) ?_
    refine z_lmul hx hb dX4_nearestMatch_86 ?_
    refine lv_lload hx hb dX4_nearestMatch_87 (lv_at hl 3 rfl) ?_
    refine z_lsub hx hb dX4_nearestMatch_89 ?_
    refine z_mabsl hx hb hml hl hown hf_3 hf_4 hf_5 hf_6 (Nat.le_of_ble_eq_true rfl) (Nat.le_of_ble_eq_true rfl) (Nat.le_of_ble_eq_true rfl) (Nat.le_of_ble_eq_true rfl) (by omega) dX4_nearestMatch_90 ?_
    refine z_lcmp_ge (tgt := 101) hx hb dX4_nearestMatch_93 dX4_nearestMatch_94 (by decide) (by omega) (by omega) (fun hc_93 => ?_) (fun hc_93 => ?_)
    · have hc_93 := hc_93
      refine z_iconst hx hb dX4_nearestMatch_101 ?_
      refine lv_istore (lv' := [(12, .int (zI 0)), (10, .long (zJ (max 1 (min 1000000 ((((-(M (23 + 3 * r))) * ((sp_balN M (M 4).toNat) - (sp_bal1 M r))) / (M (16 + (M (22 + 3 * r))))) + 1))))), (8, .long (zJ (max 1 (min 1000000 (((-(M (23 + 3 * r))) * ((sp_balN M (M 4).toNat) - (sp_bal1 M r))) / (M (16 + (M (22 + 3 * r))))))))), (6, .long (zJ (((-(M (23 + 3 * r))) * ((sp_balN M (M 4).toNat) - (sp_bal1 M r))) / (M (16 + (M (22 + 3 * r))))))), (4, .long (zJ ((-(M (23 + 3 * r))) * ((sp_balN M (M 4).toNat) - (sp_bal1 M r))))), (2, .long (zJ (M (16 + (M (22 + 3 * r)))))), (0, .ref (a 1)), (1, .int (zI r))]) hx hb dX4_nearestMatch_102 hl (by decide) rfl (fun ls hl => ?_)
      refine lv_iload hx hb dX4_nearestMatch_104 (lv_at hl 0 rfl) ?_
      refine z_if_eq (tgt := 114) hx hb dX4_nearestMatch_106 (by decide) (by omega) (fun hc_106 => ?_) (fun hc_106 => ?_)
      · have hc_106 := hc_106
        refine lv_lload hx hb dX4_nearestMatch_114 (lv_at hl 2 rfl) ?_
        refine z_l2i hx hb dX4_nearestMatch_116 ?_
        exact z_iret hx hb hr hlocks hP hD hS ⟨Nat.le_of_ble_eq_true rfl, Nat.le_of_ble_eq_true rfl⟩ dX4_nearestMatch_117 (⟨congrArg (fun z => some (Value.int (zI z))) (by unfold sp_match; first | (exfalso; omega) | rw [if_pos (by omega)] | (rw [if_neg (by omega)]; first | (rw [if_pos (by unfold sp_abs sp_clamp sp_open sp_bal; omega)]; rfl) | (rw [if_neg (by unfold sp_abs sp_clamp sp_open sp_bal; omega)]; rfl))), rfl⟩)
      · have hc_106 := hc_106
        refine lv_lload hx hb dX4_nearestMatch_109 (lv_at hl 1 rfl) ?_
        refine lv_goto (tgt := 116) hx hb dX4_nearestMatch_111 (by decide) ?_
        refine z_l2i hx hb dX4_nearestMatch_116 ?_
        exact z_iret hx hb hr hlocks hP hD hS ⟨Nat.le_of_ble_eq_true rfl, Nat.le_of_ble_eq_true rfl⟩ dX4_nearestMatch_117 (⟨congrArg (fun z => some (Value.int (zI z))) (by unfold sp_match; first | (exfalso; omega) | rw [if_pos (by omega)] | (rw [if_neg (by omega)]; first | (rw [if_pos (by unfold sp_abs sp_clamp sp_open sp_bal; omega)]; rfl) | (rw [if_neg (by unfold sp_abs sp_clamp sp_open sp_bal; omega)]; rfl))), rfl⟩)
    · have hc_93 := hc_93
      refine z_iconst hx hb dX4_nearestMatch_97 ?_
      refine lv_goto (tgt := 102) hx hb dX4_nearestMatch_98 (by decide) ?_
      refine lv_istore (lv' := [(12, .int (zI 1)), (10, .long (zJ (max 1 (min 1000000 ((((-(M (23 + 3 * r))) * ((sp_balN M (M 4).toNat) - (sp_bal1 M r))) / (M (16 + (M (22 + 3 * r))))) + 1))))), (8, .long (zJ (max 1 (min 1000000 (((-(M (23 + 3 * r))) * ((sp_balN M (M 4).toNat) - (sp_bal1 M r))) / (M (16 + (M (22 + 3 * r))))))))), (6, .long (zJ (((-(M (23 + 3 * r))) * ((sp_balN M (M 4).toNat) - (sp_bal1 M r))) / (M (16 + (M (22 + 3 * r))))))), (4, .long (zJ ((-(M (23 + 3 * r))) * ((sp_balN M (M 4).toNat) - (sp_bal1 M r))))), (2, .long (zJ (M (16 + (M (22 + 3 * r)))))), (0, .ref (a 1)), (1, .int (zI r))]) hx hb dX4_nearestMatch_102 hl (by decide) rfl (fun ls hl => ?_)
      refine lv_iload hx hb dX4_nearestMatch_104 (lv_at hl 0 rfl) ?_
      refine z_if_eq (tgt := 114) hx hb dX4_nearestMatch_106 (by decide) (by omega) (fun hc_106 => ?_) (fun hc_106 => ?_)
      · have hc_106 := hc_106
        refine lv_lload hx hb dX4_nearestMatch_114 (lv_at hl 2 rfl) ?_
        refine z_l2i hx hb dX4_nearestMatch_116 ?_
        exact z_iret hx hb hr hlocks hP hD hS ⟨Nat.le_of_ble_eq_true rfl, Nat.le_of_ble_eq_true rfl⟩ dX4_nearestMatch_117 (⟨congrArg (fun z => some (Value.int (zI z))) (by unfold sp_match; first | (exfalso; omega) | rw [if_pos (by omega)] | (rw [if_neg (by omega)]; first | (rw [if_pos (by unfold sp_abs sp_clamp sp_open sp_bal; omega)]; rfl) | (rw [if_neg (by unfold sp_abs sp_clamp sp_open sp_bal; omega)]; rfl))), rfl⟩)
      · have hc_106 := hc_106
        refine lv_lload hx hb dX4_nearestMatch_109 (lv_at hl 1 rfl) ?_
        refine lv_goto (tgt := 116) hx hb dX4_nearestMatch_111 (by decide) ?_
        refine z_l2i hx hb dX4_nearestMatch_116 ?_
        exact z_iret hx hb hr hlocks hP hD hS ⟨Nat.le_of_ble_eq_true rfl, Nat.le_of_ble_eq_true rfl⟩ dX4_nearestMatch_117 (⟨congrArg (fun z => some (Value.int (zI z))) (by unfold sp_match; first | (exfalso; omega) | rw [if_pos (by omega)] | (rw [if_neg (by omega)]; first | (rw [if_pos (by unfold sp_abs sp_clamp sp_open sp_bal; omega)]; rfl) | (rw [if_neg (by unfold sp_abs sp_clamp sp_open sp_bal; omega)]; rfl))), rfl⟩)
  · have hc_14 := hc_14
    refine z_iconst hx hb dX4_nearestMatch_18 ?_
    exact z_iret hx hb hr hlocks hP hD hS ⟨Nat.le_of_ble_eq_true rfl, Nat.le_of_ble_eq_true rfl⟩ dX4_nearestMatch_19 (⟨congrArg (fun z => some (Value.int (zI z))) (by unfold sp_match; first | (exfalso; omega) | rw [if_pos (by omega)] | (rw [if_neg (by omega)]; first | (rw [if_pos (by unfold sp_abs sp_clamp sp_open sp_bal; omega)]; rfl) | (rw [if_neg (by unfold sp_abs sp_clamp sp_open sp_bal; omega)]; rfl))), rfl⟩)
set_option maxHeartbeats 4000000 in
set_option maxRecDepth 100000 in
theorem c_X6_changeOfRates (l : Launch) (D : va_G) (ct ad : Nat → Nat) (a : Nat → Nat) (M : Int → Int) (h : Int) (hI : gInv M) (hB : bInv M) (h1 : 0 ≤ h ∧ h ≤ 500) : ZM l yX6_changeOfRates wsX6_changeOfRates ({ frames := 4, cells := 0, slots := 0, locals := 100 } : Room) D ct ad [.ref (a 0), .int (zI h)] (sobjW a ++ (gridW ct a M ++ (benchW ct a M ++ (logW ct a M)))) (zD (some (.long (zJ (sp_cs M (min h (M 8)).toNat)))) (sobjW a ++ (gridW ct a M ++ (benchW ct a M ++ (logW ct a M))))) := by
  refine ZM.of (cc := cX6_changeOfRates) (maxL := 7) (ret := (some .long)) (by decide +kernel) rfl (Nat.le_of_ble_eq_true rfl) ?_
  intro p e s m below meth c A ls hx hb hr hts hown hlocks hml hname hE hP hD hA hS hl
  have hK := hE.1
  have hf_0 := hts (.fieldLink RX6 21 "RodGrids$State" "bench" "LRodGrids$Bench;") (by decide +kernel)
  have hf_1 := hts (.fieldLink RX6 52 "RodGrids$Bench" "warmth" "I") (by decide +kernel)
  have hf_2 := hts (.fieldLink RX6 58 "RodGrids$Bench" "drive" "I") (by decide +kernel)
  have hin_X1 : ∀ z ∈ u_ws RX1 TX1 12, z ∈ wsX6_changeOfRates := by decide +kernel
  have hin_X6 : ∀ z ∈ u_ws RX6 TX6 3, z ∈ wsX6_changeOfRates := by decide +kernel
  have hl : lv_has ls 7 [(0, .ref (a 0)), (1, .int (zI h))] := hl
  have i3 := hI.1
  have i4 := hI.2.1
  have j0 := hB.1
  have j1 := hB.2.1
  have j2 := hB.2.2.1
  have j4 := hB.2.2.2.2
  refine z_lconst (z := 0) hx hb dX6_changeOfRates_0 rfl ?_
  refine lv_lstore_n (lv' := [(2, .long (zJ 0)), (0, .ref (a 0)), (1, .int (zI h))]) hx hb dX6_changeOfRates_1 rfl hl (by decide) rfl (fun ls hl => ?_)
  refine lv_aload_n hx hb dX6_changeOfRates_2 rfl (lv_at hl 1 rfl) ?_
  refine va_get (D := D) (ci := 5) (v := .ref (a 6)) (C := RX6) (T := TX6) (N := 3) hx hb hts hin_X6 hown hK hP 0 rfl rfl 1 (by decide) hf_0 (fun _ h9 => h9) rfl dX6_changeOfRates_3 ?_
  refine va_get (D := D) (ci := 0) (v := .int (zI (M 6))) (C := RX1) (T := TX1) (N := 12) hx hb hts hin_X1 hown hK hP 6 rfl rfl 3 (by decide) hf_1 (fun _ h9 => h9) rfl dX6_changeOfRates_6 ?_
  refine lv_istore (lv' := [(4, .int (zI (M 6))), (2, .long (zJ 0)), (0, .ref (a 0)), (1, .int (zI h))]) hx hb dX6_changeOfRates_9 hl (by decide) rfl (fun ls hl => ?_)
  refine lv_aload_n hx hb dX6_changeOfRates_11 rfl (lv_at hl 2 rfl) ?_
  refine va_get (D := D) (ci := 5) (v := .ref (a 6)) (C := RX6) (T := TX6) (N := 3) hx hb hts hin_X6 hown hK hP 0 rfl rfl 1 (by decide) hf_0 (fun _ h9 => h9) rfl dX6_changeOfRates_12 ?_
  refine va_get (D := D) (ci := 0) (v := .int (zI (M 8))) (C := RX1) (T := TX1) (N := 12) hx hb hts hin_X1 hown hK hP 6 rfl rfl 5 (by decide) hf_2 (fun _ h9 => h9) rfl dX6_changeOfRates_15 ?_
  refine lv_istore (lv' := [(5, .int (zI (M 8))), (4, .int (zI (M 6))), (2, .long (zJ 0)), (0, .ref (a 0)), (1, .int (zI h))]) hx hb dX6_changeOfRates_18 hl (by decide) rfl (fun ls hl => ?_)
  refine z_iconst hx hb dX6_changeOfRates_20 ?_
  refine lv_istore (lv' := [(6, .int (zI 0)), (5, .int (zI (M 8))), (4, .int (zI (M 6))), (2, .long (zJ 0)), (0, .ref (a 0)), (1, .int (zI h))]) hx hb dX6_changeOfRates_21 hl (by decide) rfl (fun ls hl => ?_)
  refine z_loop (σ := Int × Int × Int × Int) (fun x => (h - x.1).toNat) (fun x => (0 ≤ x.1 ∧ x.1 ≤ h ∧ x.1 ≤ M 8) ∧ (x.2.1 = sp_cs M x.1.toNat) ∧ (x.2.2.1 = sp_cw M x.1.toNat) ∧ (x.2.2.2 = M 8 - x.1)) (fun x => sobjW a ++ (gridW ct a M ++ (benchW ct a M ++ (logW ct a M)))) (fun x => [(0, .ref (a 0)), (1, .int (zI h)), (2, .long (zJ x.2.1)), (4, .int (zI x.2.2.1)), (5, .int (zI x.2.2.2)), (6, .int (zI x.1))]) (fun x => []) (0, 0, M 6, M 8) ⟨(show 0 ≤ 0 ∧ 0 ≤ h ∧ 0 ≤ M 8 from (by omega)), (show 0 = sp_cs M (0 : Int).toNat from (by rfl)), (show (M 6) = sp_cw M (0 : Int).toNat from (by rfl)), (show (M 8) = M 8 - 0 from (by omega))⟩ hP hD hS (lv_sub hl [4, 5, 3, 2, 1, 0] rfl) rfl ?_
  rintro ⟨i, s_, w_, d_⟩ hI_23 ih_23 H locs ls hP hD hS hl
  obtain ⟨hi, hs, hw, hd⟩ := hI_23
  have hi : 0 ≤ i ∧ i ≤ h ∧ i ≤ M 8 := hi
  have hs : s_ = sp_cs M i.toNat := hs
  have hw : w_ = sp_cw M i.toNat := hw
  have hd : d_ = M 8 - i := hd
  have hP : va_P D vwCl (sobjW a ++ (gridW ct a M ++ (benchW ct a M ++ (logW ct a M)))) H := hP
  have hD : va_D A (sobjW a ++ (gridW ct a M ++ (benchW ct a M ++ (logW ct a M)))) := hD
  have hl : lv_has ls 7 [(0, .ref (a 0)), (1, .int (zI h)), (2, .long (zJ s_)), (4, .int (zI w_)), (5, .int (zI d_)), (6, .int (zI i))] := hl
  have wB := sp_cwB hB i.toNat
  rw [← hw] at wB
  have wB2 := sp_warmB hB wB
  refine lv_iload hx hb dX6_changeOfRates_23 (lv_at hl 5 rfl) ?_
  refine lv_iload_n hx hb dX6_changeOfRates_25 rfl (lv_at hl 1 rfl) ?_
  refine z_icmp_ge (tgt := 66) hx hb dX6_changeOfRates_26 (by decide) (by omega) (by omega) (fun hc_26 => ?_) (fun hc_26 => ?_)
  · have hc_26 := hc_26
    refine lv_lload_n hx hb dX6_changeOfRates_66 rfl (lv_at hl 2 rfl) ?_
    exact z_lret hx hb hr hlocks hP hD hS ⟨Nat.le_of_ble_eq_true rfl, Nat.le_of_ble_eq_true rfl⟩ dX6_changeOfRates_67 (⟨congrArg (fun z => some (Value.long (zJ z))) (by rw [hs, show i = min h (M 8) by omega]), rfl⟩)
  · have hc_26 := hc_26
    refine lv_iload hx hb dX6_changeOfRates_29 (lv_at hl 4 rfl) ?_
    refine z_if_le (tgt := 66) hx hb dX6_changeOfRates_31 (by decide) (by omega) (fun hc_31 => ?_) (fun hc_31 => ?_)
    · have hc_31 := hc_31
      refine lv_lload_n hx hb dX6_changeOfRates_66 rfl (lv_at hl 2 rfl) ?_
      exact z_lret hx hb hr hlocks hP hD hS ⟨Nat.le_of_ble_eq_true rfl, Nat.le_of_ble_eq_true rfl⟩ dX6_changeOfRates_67 (⟨congrArg (fun z => some (Value.long (zJ z))) (by rw [hs, show i = min h (M 8) by omega]), rfl⟩)
    · have hc_31 := hc_31
      refine lv_aload_n hx hb dX6_changeOfRates_34 rfl (lv_at hl 0 rfl) ?_
      refine va_get (D := D) (ci := 5) (v := .ref (a 6)) (C := RX6) (T := TX6) (N := 3) hx hb hts hin_X6 hown hK hP 0 rfl rfl 1 (by decide) hf_0 (fun _ h9 => h9) rfl dX6_changeOfRates_35 ?_
      refine lv_iload hx hb dX6_changeOfRates_38 (lv_at hl 3 rfl) ?_
      refine z_callV (C := RX1) (q0 := 0) (ci := 0) (As := [.int (zI w_)]) (rest := []) (sobjW a ++ (gridW ct a M)) (logW ct a M) hx hb hml hown hts hl hE hS hA hP hD (c_X1_warmthAfterHour l D ct ad a M w_ (by assumption) (by omega)) gX6_changeOfRates_X1_warmthAfterHour rfl rfl k_X1_warmthAfterHour ⟨Nat.le_of_ble_eq_true rfl, Nat.le_of_ble_eq_true rfl⟩ rfl rfl rfl rfl (Nat.le_of_ble_eq_true rfl) ⟨Nat.le_of_ble_eq_true rfl, Nat.le_of_ble_eq_true rfl⟩ dX6_changeOfRates_40 rfl (fun v w1 H locs hpost hP hD hS => ?_)
      obtain ⟨rfl, rfl⟩ := hpost
      have hP : va_P D vwCl (sobjW a ++ (gridW ct a M ++ (benchW ct a M ++ (logW ct a M)))) H := hP
      have hD : va_D A (sobjW a ++ (gridW ct a M ++ (benchW ct a M ++ (logW ct a M)))) := hD
      refine W.eq (g2 := F0 m 43 ls [.int (zI (sp_warm M w_))]) rfl ?_
      refine lv_istore (lv' := [(4, .int (zI (sp_warm M w_))), (0, .ref (a 0)), (1, .int (zI h)), (2, .long (zJ s_)), (5, .int (zI d_)), (6, .int (zI i))]) hx hb dX6_changeOfRates_43 hl (by decide) rfl (fun ls hl => ?_)
      refine lv_lload_n hx hb dX6_changeOfRates_45 rfl (lv_at hl 3 rfl) ?_
      refine lv_aload_n hx hb dX6_changeOfRates_46 rfl (lv_at hl 1 rfl) ?_
      refine lv_iload hx hb dX6_changeOfRates_47 (lv_at hl 0 rfl) ?_
      refine lv_iload hx hb dX6_changeOfRates_49 (lv_at hl 4 rfl) ?_
      refine z_callV (C := RX6) (q0 := 0) (ci := 5) (As := [.int (zI (sp_warm M w_)), .int (zI d_)]) (rest := [.long (zJ s_)]) ([] : va_W) ([] : va_W) hx hb hml hown hts hl hE hS hA (zr0 ([] : va_W) hP) (zr0D ([] : va_W) hD) (c_X6_rateFor l D ct ad a M (sp_warm M w_) d_ (by assumption) (by assumption) (by omega) (by omega)) gX6_changeOfRates_X6_rateFor rfl rfl k_X6_rateFor ⟨Nat.le_of_ble_eq_true rfl, Nat.le_of_ble_eq_true rfl⟩ rfl rfl rfl rfl (Nat.le_of_ble_eq_true rfl) ⟨Nat.le_of_ble_eq_true rfl, Nat.le_of_ble_eq_true rfl⟩ dX6_changeOfRates_51 rfl (fun v w1 H locs hpost hP hD hS => ?_)
      obtain ⟨rfl, rfl⟩ := hpost
      have hP := zr0' hP
      have hD := zr0D' hD
      have hP : va_P D vwCl (sobjW a ++ (gridW ct a M ++ (benchW ct a M ++ (logW ct a M)))) H := hP
      have hD : va_D A (sobjW a ++ (gridW ct a M ++ (benchW ct a M ++ (logW ct a M)))) := hD
      refine W.eq (g2 := F0 m 54 ls [.int (zI (sp_rate M (sp_len M (sp_warm M w_)) d_)), .long (zJ s_)]) rfl ?_
      have rB := sp_rateB (len := sp_len M (sp_warm M w_)) (d := d_) hB (by omega)
      refine z_i2l hx hb dX6_changeOfRates_54 (by omega) ?_
      refine z_ladd hx hb dX6_changeOfRates_55 ?_
      refine lv_lstore_n (lv' := [(2, .long (zJ (s_ + (sp_rate M (sp_len M (sp_warm M w_)) d_)))), (4, .int (zI (sp_warm M w_))), (0, .ref (a 0)), (1, .int (zI h)), (5, .int (zI d_)), (6, .int (zI i))]) hx hb dX6_changeOfRates_56 rfl hl (by decide) rfl (fun ls hl => ?_)
      refine z_iinc (k := 4) (lv' := [(5, .int (zI (d_ + (-1)))), (2, .long (zJ (s_ + (sp_rate M (sp_len M (sp_warm M w_)) d_)))), (4, .int (zI (sp_warm M w_))), (0, .ref (a 0)), (1, .int (zI h)), (6, .int (zI i))]) hx hb dX6_changeOfRates_57 hl rfl (by decide) rfl (fun ls hl => ?_)
      refine z_iinc (k := 5) (lv' := [(6, .int (zI (i + 1))), (5, .int (zI (d_ + (-1)))), (2, .long (zJ (s_ + (sp_rate M (sp_len M (sp_warm M w_)) d_)))), (4, .int (zI (sp_warm M w_))), (0, .ref (a 0)), (1, .int (zI h))]) hx hb dX6_changeOfRates_60 hl rfl (by decide) rfl (fun ls hl => ?_)
      refine lv_goto (tgt := 23) hx hb dX6_changeOfRates_63 (by decide) ?_
      exact ih_23 (i + 1, s_ + (sp_rate M (sp_len M (sp_warm M w_)) d_), sp_warm M w_, d_ + (-1)) ⟨(show 0 ≤ (i + 1) ∧ (i + 1) ≤ h ∧ (i + 1) ≤ M 8 from (by omega)), (show (s_ + (sp_rate M (sp_len M (sp_warm M w_)) d_)) = sp_cs M (i + 1).toNat from (by rw [sp_csS (by omega), sp_cwS (by omega), hs, hw, hd])), (show (sp_warm M w_) = sp_cw M (i + 1).toNat from (by rw [sp_cwS (by omega), hw])), (show (d_ + (-1)) = M 8 - (i + 1) from (by omega))⟩ (show (h - (i + 1)).toNat < (h - i).toNat from (by omega)) _ _ _ hP hD hS (lv_sub hl [4, 5, 2, 3, 1, 0] rfl)
set_option maxHeartbeats 4000000 in
set_option maxRecDepth 100000 in
theorem c_X6_spreadOfRates (l : Launch) (D : va_G) (ct ad : Nat → Nat) (a : Nat → Nat) (M : Int → Int) (lo hi : Int) (hI : gInv M) (hB : bInv M) (h1 : -300 ≤ lo ∧ lo ≤ hi ∧ hi ≤ 600) : ZM l yX6_spreadOfRates wsX6_spreadOfRates ({ frames := 4, cells := 0, slots := 0, locals := 100 } : Room) D ct ad [.ref (a 0), .int (zI lo), .int (zI hi)] (sobjW a ++ (gridW ct a M ++ (benchW ct a M ++ (logW ct a M)))) (zD (some (.int (zI (sp_range M lo hi)))) (sobjW a ++ (gridW ct a M ++ (benchW ct a M ++ (logW ct a M))))) := by
  refine ZM.of (cc := cX6_spreadOfRates) (maxL := 7) (ret := (some .int)) (by decide +kernel) rfl (Nat.le_of_ble_eq_true rfl) ?_
  intro p e s m below meth c A ls hx hb hr hts hown hlocks hml hname hE hP hD hA hS hl
  have hK := hE.1
  have hf_0 := hts (.fieldLink RX6 21 "RodGrids$State" "bench" "LRodGrids$Bench;") (by decide +kernel)
  have hf_1 := hts (.fieldLink RX6 58 "RodGrids$Bench" "drive" "I") (by decide +kernel)
  have hf_2 := hts (.methodLink RX6 140 Lib.Math.min.name) (by decide +kernel)
  have hf_3 := hts (.static Lib.Math.min.name) (by decide +kernel)
  have hf_4 := hts (.initialized "java/lang/Math") (by decide +kernel)
  have hf_5 := hts (.code Lib.Math.min.name Lib.Math.min.code 2 (some .int)) (by decide +kernel)
  have hf_6 := hts (.methodLink RX6 145 Lib.Math.max.name) (by decide +kernel)
  have hf_7 := hts (.static Lib.Math.max.name) (by decide +kernel)
  have hf_8 := hts (.code Lib.Math.max.name Lib.Math.max.code 2 (some .int)) (by decide +kernel)
  have hin_X1 : ∀ z ∈ u_ws RX1 TX1 12, z ∈ wsX6_spreadOfRates := by decide +kernel
  have hin_X6 : ∀ z ∈ u_ws RX6 TX6 3, z ∈ wsX6_spreadOfRates := by decide +kernel
  have hl : lv_has ls 7 [(0, .ref (a 0)), (1, .int (zI lo)), (2, .int (zI hi))] := hl
  have i3 := hI.1
  have i4 := hI.2.1
  have j0 := hB.1
  have j1 := hB.2.1
  have j2 := hB.2.2.1
  have j4 := hB.2.2.2.2
  refine lv_aload_n hx hb dX6_spreadOfRates_0 rfl (lv_at hl 0 rfl) ?_
  refine lv_iload_n hx hb dX6_spreadOfRates_1 rfl (lv_at hl 1 rfl) ?_
  refine lv_aload_n hx hb dX6_spreadOfRates_2 rfl (lv_at hl 0 rfl) ?_
  refine va_get (D := D) (ci := 5) (v := .ref (a 6)) (C := RX6) (T := TX6) (N := 3) hx hb hts hin_X6 hown hK hP 0 rfl rfl 1 (by decide) hf_0 (fun _ h9 => h9) rfl dX6_spreadOfRates_3 ?_
  refine va_get (D := D) (ci := 0) (v := .int (zI (M 8))) (C := RX1) (T := TX1) (N := 12) hx hb hts hin_X1 hown hK hP 6 rfl rfl 5 (by decide) hf_1 (fun _ h9 => h9) rfl dX6_spreadOfRates_6 ?_
  refine z_callV (C := RX6) (q0 := 0) (ci := 5) (As := [.int (zI lo), .int (zI (M 8))]) (rest := []) ([] : va_W) ([] : va_W) hx hb hml hown hts hl hE hS hA (zr0 ([] : va_W) hP) (zr0D ([] : va_W) hD) (c_X6_rateFor l D ct ad a M lo (M 8) (by assumption) (by assumption) (by omega) (by omega)) gX6_spreadOfRates_X6_rateFor rfl rfl k_X6_rateFor ⟨Nat.le_of_ble_eq_true rfl, Nat.le_of_ble_eq_true rfl⟩ rfl rfl rfl rfl (Nat.le_of_ble_eq_true rfl) ⟨Nat.le_of_ble_eq_true rfl, Nat.le_of_ble_eq_true rfl⟩ dX6_spreadOfRates_9 rfl (fun v w1 H locs hpost hP hD hS => ?_)
  obtain ⟨rfl, rfl⟩ := hpost
  have hP := zr0' hP
  have hD := zr0D' hD
  have hP : va_P D vwCl (sobjW a ++ (gridW ct a M ++ (benchW ct a M ++ (logW ct a M)))) H := hP
  have hD : va_D A (sobjW a ++ (gridW ct a M ++ (benchW ct a M ++ (logW ct a M)))) := hD
  refine W.eq (g2 := F0 m 12 ls [.int (zI (sp_rate M (sp_len M lo) (M 8)))]) rfl ?_
  refine lv_istore_n (lv' := [(3, .int (zI (sp_rate M (sp_len M lo) (M 8)))), (0, .ref (a 0)), (1, .int (zI lo)), (2, .int (zI hi))]) hx hb dX6_spreadOfRates_12 rfl hl (by decide) rfl (fun ls hl => ?_)
  refine lv_iload_n hx hb dX6_spreadOfRates_13 rfl (lv_at hl 0 rfl) ?_
  refine lv_istore (lv' := [(4, .int (zI (sp_rate M (sp_len M lo) (M 8)))), (3, .int (zI (sp_rate M (sp_len M lo) (M 8)))), (0, .ref (a 0)), (1, .int (zI lo)), (2, .int (zI hi))]) hx hb dX6_spreadOfRates_14 hl (by decide) rfl (fun ls hl => ?_)
  refine lv_iload_n hx hb dX6_spreadOfRates_16 rfl (lv_at hl 3 rfl) ?_
  refine z_bipush hx hb dX6_spreadOfRates_17 (by decide) ?_
  refine z_iadd hx hb dX6_spreadOfRates_19 ?_
  refine lv_istore (lv' := [(5, .int (zI (lo + 10))), (4, .int (zI (sp_rate M (sp_len M lo) (M 8)))), (3, .int (zI (sp_rate M (sp_len M lo) (M 8)))), (0, .ref (a 0)), (1, .int (zI lo)), (2, .int (zI hi))]) hx hb dX6_spreadOfRates_20 hl (by decide) rfl (fun ls hl => ?_)
  refine z_loop (σ := Int × Int × Int × Int) (fun x => (hi - lo - 10 * x.1).toNat) (fun x => (0 ≤ x.1 ∧ lo + 10 * x.1 ≤ hi) ∧ (x.2.2.2 = lo + 10 * (x.1 + 1)) ∧ (x.2.1 = sp_mn M lo x.1.toNat) ∧ (x.2.2.1 = sp_mx M lo x.1.toNat)) (fun x => sobjW a ++ (gridW ct a M ++ (benchW ct a M ++ (logW ct a M)))) (fun x => [(0, .ref (a 0)), (1, .int (zI lo)), (2, .int (zI hi)), (3, .int (zI x.2.1)), (4, .int (zI x.2.2.1)), (5, .int (zI x.2.2.2))]) (fun x => []) (0, sp_rate M (sp_len M lo) (M 8), sp_rate M (sp_len M lo) (M 8), lo + 10) ⟨(show 0 ≤ 0 ∧ lo + 10 * 0 ≤ hi from (by omega)), (show (lo + 10) = lo + 10 * (0 + 1) from (by omega)), (show (sp_rate M (sp_len M lo) (M 8)) = sp_mn M lo (0 : Int).toNat from (by rfl)), (show (sp_rate M (sp_len M lo) (M 8)) = sp_mx M lo (0 : Int).toNat from (by rfl))⟩ hP hD hS (lv_sub hl [3, 4, 5, 2, 1, 0] rfl) rfl ?_
  rintro ⟨i, l_, g_, w_⟩ hI_22 ih_22 H locs ls hP hD hS hl
  obtain ⟨hi_, hw, hl_, hg_⟩ := hI_22
  have hi_ : 0 ≤ i ∧ lo + 10 * i ≤ hi := hi_
  have hw : w_ = lo + 10 * (i + 1) := hw
  have hl_ : l_ = sp_mn M lo i.toNat := hl_
  have hg_ : g_ = sp_mx M lo i.toNat := hg_
  have hP : va_P D vwCl (sobjW a ++ (gridW ct a M ++ (benchW ct a M ++ (logW ct a M)))) H := hP
  have hD : va_D A (sobjW a ++ (gridW ct a M ++ (benchW ct a M ++ (logW ct a M)))) := hD
  have hl : lv_has ls 7 [(0, .ref (a 0)), (1, .int (zI lo)), (2, .int (zI hi)), (3, .int (zI l_)), (4, .int (zI g_)), (5, .int (zI w_))] := hl
  have mB := sp_mxB (lo := lo) hB i.toNat
  rw [← hl_, ← hg_] at mB
  refine lv_iload hx hb dX6_spreadOfRates_22 (lv_at hl 5 rfl) ?_
  refine lv_iload_n hx hb dX6_spreadOfRates_24 rfl (lv_at hl 2 rfl) ?_
  refine z_icmp_gt (tgt := 65) hx hb dX6_spreadOfRates_25 (by decide) (by omega) (by omega) (fun hc_25 => ?_) (fun hc_25 => ?_)
  · have hc_25 := hc_25
    refine lv_iload hx hb dX6_spreadOfRates_65 (lv_at hl 4 rfl) ?_
    refine lv_iload_n hx hb dX6_spreadOfRates_67 rfl (lv_at hl 3 rfl) ?_
    refine z_isub hx hb dX6_spreadOfRates_68 ?_
    exact z_iret hx hb hr hlocks hP hD hS ⟨Nat.le_of_ble_eq_true rfl, Nat.le_of_ble_eq_true rfl⟩ dX6_spreadOfRates_69 (⟨congrArg (fun z => some (Value.int (zI z))) (by unfold sp_range; rw [show (hi - lo) / 10 = i by omega, ← hl_, ← hg_]), rfl⟩)
  · have hc_25 := hc_25
    refine lv_aload_n hx hb dX6_spreadOfRates_28 rfl (lv_at hl 0 rfl) ?_
    refine lv_iload hx hb dX6_spreadOfRates_29 (lv_at hl 5 rfl) ?_
    refine lv_aload_n hx hb dX6_spreadOfRates_31 rfl (lv_at hl 0 rfl) ?_
    refine va_get (D := D) (ci := 5) (v := .ref (a 6)) (C := RX6) (T := TX6) (N := 3) hx hb hts hin_X6 hown hK hP 0 rfl rfl 1 (by decide) hf_0 (fun _ h9 => h9) rfl dX6_spreadOfRates_32 ?_
    refine va_get (D := D) (ci := 0) (v := .int (zI (M 8))) (C := RX1) (T := TX1) (N := 12) hx hb hts hin_X1 hown hK hP 6 rfl rfl 5 (by decide) hf_1 (fun _ h9 => h9) rfl dX6_spreadOfRates_35 ?_
    refine z_callV (C := RX6) (q0 := 0) (ci := 5) (As := [.int (zI w_), .int (zI (M 8))]) (rest := []) ([] : va_W) ([] : va_W) hx hb hml hown hts hl hE hS hA (zr0 ([] : va_W) hP) (zr0D ([] : va_W) hD) (c_X6_rateFor l D ct ad a M w_ (M 8) (by assumption) (by assumption) (by omega) (by omega)) gX6_spreadOfRates_X6_rateFor rfl rfl k_X6_rateFor ⟨Nat.le_of_ble_eq_true rfl, Nat.le_of_ble_eq_true rfl⟩ rfl rfl rfl rfl (Nat.le_of_ble_eq_true rfl) ⟨Nat.le_of_ble_eq_true rfl, Nat.le_of_ble_eq_true rfl⟩ dX6_spreadOfRates_38 rfl (fun v w1 H locs hpost hP hD hS => ?_)
    obtain ⟨rfl, rfl⟩ := hpost
    have hP := zr0' hP
    have hD := zr0D' hD
    have hP : va_P D vwCl (sobjW a ++ (gridW ct a M ++ (benchW ct a M ++ (logW ct a M)))) H := hP
    have hD : va_D A (sobjW a ++ (gridW ct a M ++ (benchW ct a M ++ (logW ct a M)))) := hD
    refine W.eq (g2 := F0 m 41 ls [.int (zI (sp_rate M (sp_len M w_) (M 8)))]) rfl ?_
    refine lv_istore (lv' := [(6, .int (zI (sp_rate M (sp_len M w_) (M 8)))), (0, .ref (a 0)), (1, .int (zI lo)), (2, .int (zI hi)), (3, .int (zI l_)), (4, .int (zI g_)), (5, .int (zI w_))]) hx hb dX6_spreadOfRates_41 hl (by decide) rfl (fun ls hl => ?_)
    have rB := sp_rateB (len := sp_len M w_) hB j1.2.2.2
    refine lv_iload_n hx hb dX6_spreadOfRates_43 rfl (lv_at hl 4 rfl) ?_
    refine lv_iload hx hb dX6_spreadOfRates_44 (lv_at hl 0 rfl) ?_
    refine z_mmin hx hb hml hl hown hf_2 hf_3 hf_4 hf_5 (Nat.le_of_ble_eq_true rfl) (Nat.le_of_ble_eq_true rfl) (Nat.le_of_ble_eq_true rfl) (Nat.le_of_ble_eq_true rfl) (by omega) (by omega) dX6_spreadOfRates_46 ?_
    refine lv_istore_n (lv' := [(3, .int (zI (min l_ (sp_rate M (sp_len M w_) (M 8))))), (6, .int (zI (sp_rate M (sp_len M w_) (M 8)))), (0, .ref (a 0)), (1, .int (zI lo)), (2, .int (zI hi)), (4, .int (zI g_)), (5, .int (zI w_))]) hx hb dX6_spreadOfRates_49 rfl hl (by decide) rfl (fun ls hl => ?_)
    refine lv_iload hx hb dX6_spreadOfRates_50 (lv_at hl 5 rfl) ?_
    refine lv_iload hx hb dX6_spreadOfRates_52 (lv_at hl 1 rfl) ?_
    refine z_mmax hx hb hml hl hown hf_6 hf_7 hf_4 hf_8 (Nat.le_of_ble_eq_true rfl) (Nat.le_of_ble_eq_true rfl) (Nat.le_of_ble_eq_true rfl) (Nat.le_of_ble_eq_true rfl) (by omega) (by omega) dX6_spreadOfRates_54 ?_
    refine lv_istore (lv' := [(4, .int (zI (max g_ (sp_rate M (sp_len M w_) (M 8))))), (3, .int (zI (min l_ (sp_rate M (sp_len M w_) (M 8))))), (6, .int (zI (sp_rate M (sp_len M w_) (M 8)))), (0, .ref (a 0)), (1, .int (zI lo)), (2, .int (zI hi)), (5, .int (zI w_))]) hx hb dX6_spreadOfRates_57 hl (by decide) rfl (fun ls hl => ?_)
    refine z_iinc (k := 6) (lv' := [(5, .int (zI (w_ + 10))), (4, .int (zI (max g_ (sp_rate M (sp_len M w_) (M 8))))), (3, .int (zI (min l_ (sp_rate M (sp_len M w_) (M 8))))), (6, .int (zI (sp_rate M (sp_len M w_) (M 8)))), (0, .ref (a 0)), (1, .int (zI lo)), (2, .int (zI hi))]) hx hb dX6_spreadOfRates_59 hl rfl (by decide) rfl (fun ls hl => ?_)
    refine lv_goto (tgt := 22) hx hb dX6_spreadOfRates_62 (by decide) ?_
    exact ih_22 (i + 1, min l_ (sp_rate M (sp_len M w_) (M 8)), max g_ (sp_rate M (sp_len M w_) (M 8)), w_ + 10) ⟨(show 0 ≤ (i + 1) ∧ lo + 10 * (i + 1) ≤ hi from (by omega)), (show (w_ + 10) = lo + 10 * ((i + 1) + 1) from (by omega)), (show (min l_ (sp_rate M (sp_len M w_) (M 8))) = sp_mn M lo (i + 1).toNat from (by rw [(sp_mxS hi_.1).2, ← hl_, ← hw]; rfl)), (show (max g_ (sp_rate M (sp_len M w_) (M 8))) = sp_mx M lo (i + 1).toNat from (by rw [(sp_mxS hi_.1).1, ← hg_, ← hw]; rfl))⟩ (show (hi - lo - 10 * (i + 1)).toNat < (hi - lo - 10 * i).toNat from (by omega)) _ _ _ hP hD hS (lv_sub hl [4, 5, 6, 2, 1, 0] rfl)
set_option maxHeartbeats 4000000 in
set_option maxRecDepth 100000 in
theorem c_X6_leastNutWithRateTo (l : Launch) (D : va_G) (ct ad : Nat → Nat) (a : Nat → Nat) (M : Int → Int) (b_ q : Int) (hI : gInv M) (hB : bInv M) (h1 : -1000100000 ≤ b_ ∧ b_ ≤ 1000100000) (h2 : -9022500 ≤ q ∧ q ≤ 9022500) : ZM l yX6_leastNutWithRateTo wsX6_leastNutWithRateTo ({ frames := 3, cells := 0, slots := 0, locals := 78 } : Room) D ct ad [.ref (a 0), .int (zI b_), .long (zJ q)] (sobjW a ++ (gridW ct a M ++ (benchW ct a M ++ (logW ct a M)))) (fun v w => ∃ (e_ : Int), ((isLeast (sp_nr M q) b_ e_)) ∧ v = (some (.int (zI e_))) ∧ w = sobjW a ++ (gridW ct a M ++ (benchW ct a M ++ (logW ct a M)))) := by
  refine ZM.of (cc := cX6_leastNutWithRateTo) (maxL := 7) (ret := (some .int)) (by decide +kernel) rfl (Nat.le_of_ble_eq_true rfl) ?_
  intro p e s m below meth c A ls hx hb hr hts hown hlocks hml hname hE hP hD hA hS hl
  have hK := hE.1
  have hf_0 := hts (.fieldLink RX6 21 "RodGrids$State" "bench" "LRodGrids$Bench;") (by decide +kernel)
  have hf_1 := hts (.fieldLink RX6 58 "RodGrids$Bench" "drive" "I") (by decide +kernel)
  have hin_X1 : ∀ z ∈ u_ws RX1 TX1 12, z ∈ wsX6_leastNutWithRateTo := by decide +kernel
  have hin_X6 : ∀ z ∈ u_ws RX6 TX6 3, z ∈ wsX6_leastNutWithRateTo := by decide +kernel
  have hl : lv_has ls 7 [(0, .ref (a 0)), (1, .int (zI b_)), (2, .long (zJ q))] := hl
  have i3 := hI.1
  have i4 := hI.2.1
  have j0 := hB.1
  have j1 := hB.2.1
  have j2 := hB.2.2.1
  have j4 := hB.2.2.2.2
  refine z_sipush hx hb dX6_leastNutWithRateTo_0 (by decide) ?_
  refine lv_istore (lv' := [(4, .int (zI (-501))), (0, .ref (a 0)), (1, .int (zI b_)), (2, .long (zJ q))]) hx hb dX6_leastNutWithRateTo_3 hl (by decide) rfl (fun ls hl => ?_)
  refine z_sipush hx hb dX6_leastNutWithRateTo_5 (by decide) ?_
  refine lv_istore (lv' := [(5, .int (zI 512)), (4, .int (zI (-501))), (0, .ref (a 0)), (1, .int (zI b_)), (2, .long (zJ q))]) hx hb dX6_leastNutWithRateTo_8 hl (by decide) rfl (fun ls hl => ?_)
  refine z_loop (σ := Int × Int) (fun x => x.2.toNat) (fun x => (lnI (sp_nr M q) b_ x.2 x.1)) (fun x => sobjW a ++ (gridW ct a M ++ (benchW ct a M ++ (logW ct a M)))) (fun x => [(0, .ref (a 0)), (1, .int (zI b_)), (2, .long (zJ q)), (4, .int (zI x.1)), (5, .int (zI x.2))]) (fun x => []) ((-501), 512) (show lnI (sp_nr M q) b_ 512 (-501) from (by exact ⟨by omega, by omega, Or.inl rfl, fun k k1 k2 => by rw [if_neg (by omega)] at k1; omega⟩)) hP hD hS (lv_sub hl [2, 3, 4, 1, 0] rfl) rfl ?_
  rintro ⟨L_, s_⟩ hI_10 ih_10 H locs ls hP hD hS hl
  have hl_ := hI_10
  have hl_ : lnI (sp_nr M q) b_ s_ L_ := hl_
  have hP : va_P D vwCl (sobjW a ++ (gridW ct a M ++ (benchW ct a M ++ (logW ct a M)))) H := hP
  have hD : va_D A (sobjW a ++ (gridW ct a M ++ (benchW ct a M ++ (logW ct a M)))) := hD
  have hl : lv_has ls 7 [(0, .ref (a 0)), (1, .int (zI b_)), (2, .long (zJ q)), (4, .int (zI L_)), (5, .int (zI s_))] := hl
  have lA := hl_.1
  have lB := hl_.2.1
  refine lv_iload hx hb dX6_leastNutWithRateTo_10 (lv_at hl 4 rfl) ?_
  refine z_if_le (tgt := 61) hx hb dX6_leastNutWithRateTo_12 (by decide) (by omega) (fun hc_12 => ?_) (fun hc_12 => ?_)
  · have hc_12 := hc_12
    refine lv_iload hx hb dX6_leastNutWithRateTo_61 (lv_at hl 3 rfl) ?_
    refine z_iconst hx hb dX6_leastNutWithRateTo_63 ?_
    refine z_iadd hx hb dX6_leastNutWithRateTo_64 ?_
    exact z_iret hx hb hr hlocks hP hD hS ⟨Nat.le_of_ble_eq_true rfl, Nat.le_of_ble_eq_true rfl⟩ dX6_leastNutWithRateTo_65 (⟨L_ + 1, lnI_end (sp_nr_anti hB) (by rw [show s_ = 0 by omega] at hl_; exact hl_), rfl, rfl⟩)
  · have hc_12 := hc_12
    refine lv_iload hx hb dX6_leastNutWithRateTo_15 (lv_at hl 3 rfl) ?_
    refine lv_iload hx hb dX6_leastNutWithRateTo_17 (lv_at hl 4 rfl) ?_
    refine z_iadd hx hb dX6_leastNutWithRateTo_19 ?_
    refine lv_istore (lv' := [(6, .int (zI (L_ + s_))), (0, .ref (a 0)), (1, .int (zI b_)), (2, .long (zJ q)), (4, .int (zI L_)), (5, .int (zI s_))]) hx hb dX6_leastNutWithRateTo_20 hl (by decide) rfl (fun ls hl => ?_)
    refine lv_iload hx hb dX6_leastNutWithRateTo_22 (lv_at hl 0 rfl) ?_
    refine z_sipush hx hb dX6_leastNutWithRateTo_24 (by decide) ?_
    refine z_icmp_gt (tgt := 52) hx hb dX6_leastNutWithRateTo_27 (by decide) (by omega) (by omega) (fun hc_27 => ?_) (fun hc_27 => ?_)
    · have hc_27 := hc_27
      refine lv_iload hx hb dX6_leastNutWithRateTo_52 (lv_at hl 5 rfl) ?_
      refine z_iconst hx hb dX6_leastNutWithRateTo_54 ?_
      refine z_idiv hx hb dX6_leastNutWithRateTo_55 (by omega) (by omega) ?_
      refine lv_istore (lv' := [(5, .int (zI (s_ / 2))), (6, .int (zI (L_ + s_))), (0, .ref (a 0)), (1, .int (zI b_)), (2, .long (zJ q)), (4, .int (zI L_))]) hx hb dX6_leastNutWithRateTo_56 hl (by decide) rfl (fun ls hl => ?_)
      refine lv_goto (tgt := 10) hx hb dX6_leastNutWithRateTo_58 (by decide) ?_
      exact ih_10 (L_, s_ / 2) (show lnI (sp_nr M q) b_ (s_ / 2) L_ from (by first | exact lnI_yes hl_ (by omega) (by omega) (by unfold sp_nr; omega) | exact lnI_no (sp_nr_anti hB) hl_ (by omega) (by unfold sp_nr; omega))) (show (s_ / 2).toNat < s_.toNat from (by omega)) _ _ _ hP hD hS (lv_sub hl [2, 3, 4, 5, 0] rfl)
    · have hc_27 := hc_27
      refine lv_aload_n hx hb dX6_leastNutWithRateTo_30 rfl (lv_at hl 1 rfl) ?_
      refine lv_iload hx hb dX6_leastNutWithRateTo_31 (lv_at hl 0 rfl) ?_
      refine lv_lload_n hx hb dX6_leastNutWithRateTo_33 rfl (lv_at hl 3 rfl) ?_
      refine lv_aload_n hx hb dX6_leastNutWithRateTo_34 rfl (lv_at hl 1 rfl) ?_
      refine va_get (D := D) (ci := 5) (v := .ref (a 6)) (C := RX6) (T := TX6) (N := 3) hx hb hts hin_X6 hown hK hP 0 rfl rfl 1 (by decide) hf_0 (fun _ h9 => h9) rfl dX6_leastNutWithRateTo_35 ?_
      refine va_get (D := D) (ci := 0) (v := .int (zI (M 8))) (C := RX1) (T := TX1) (N := 12) hx hb hts hin_X1 hown hK hP 6 rfl rfl 5 (by decide) hf_1 (fun _ h9 => h9) rfl dX6_leastNutWithRateTo_38 ?_
      refine z_callV (C := RX6) (q0 := 0) (ci := 5) (As := [.int (zI (L_ + s_)), .long (zJ q), .int (zI (M 8))]) (rest := []) ([] : va_W) ([] : va_W) hx hb hml hown hts hl hE hS hA (zr0 ([] : va_W) hP) (zr0D ([] : va_W) hD) (c_X6_rateWith l D ct ad a M (L_ + s_) q (M 8) (by assumption) (by assumption) (by omega) (by omega) (by omega)) gX6_leastNutWithRateTo_X6_rateWith rfl rfl k_X6_rateWith ⟨Nat.le_of_ble_eq_true rfl, Nat.le_of_ble_eq_true rfl⟩ rfl rfl rfl rfl (Nat.le_of_ble_eq_true rfl) ⟨Nat.le_of_ble_eq_true rfl, Nat.le_of_ble_eq_true rfl⟩ dX6_leastNutWithRateTo_41 rfl (fun v w1 H locs hpost hP hD hS => ?_)
      obtain ⟨rfl, rfl⟩ := hpost
      have hP := zr0' hP
      have hD := zr0D' hD
      have hP : va_P D vwCl (sobjW a ++ (gridW ct a M ++ (benchW ct a M ++ (logW ct a M)))) H := hP
      have hD : va_D A (sobjW a ++ (gridW ct a M ++ (benchW ct a M ++ (logW ct a M)))) := hD
      refine W.eq (g2 := F0 m 44 ls [.int (zI (sp_rate M (q + 10 * (L_ + s_)) (M 8)))]) rfl ?_
      have rB := sp_rateB (len := q + 10 * (L_ + s_)) hB j1.2.2.2
      refine lv_iload_n hx hb dX6_leastNutWithRateTo_44 rfl (lv_at hl 2 rfl) ?_
      refine z_icmp_le (tgt := 52) hx hb dX6_leastNutWithRateTo_45 (by decide) (by omega) (by omega) (fun hc_45 => ?_) (fun hc_45 => ?_)
      · have hc_45 := hc_45
        refine lv_iload hx hb dX6_leastNutWithRateTo_52 (lv_at hl 5 rfl) ?_
        refine z_iconst hx hb dX6_leastNutWithRateTo_54 ?_
        refine z_idiv hx hb dX6_leastNutWithRateTo_55 (by omega) (by omega) ?_
        refine lv_istore (lv' := [(5, .int (zI (s_ / 2))), (6, .int (zI (L_ + s_))), (0, .ref (a 0)), (1, .int (zI b_)), (2, .long (zJ q)), (4, .int (zI L_))]) hx hb dX6_leastNutWithRateTo_56 hl (by decide) rfl (fun ls hl => ?_)
        refine lv_goto (tgt := 10) hx hb dX6_leastNutWithRateTo_58 (by decide) ?_
        exact ih_10 (L_, s_ / 2) (show lnI (sp_nr M q) b_ (s_ / 2) L_ from (by first | exact lnI_yes hl_ (by omega) (by omega) (by unfold sp_nr; omega) | exact lnI_no (sp_nr_anti hB) hl_ (by omega) (by unfold sp_nr; omega))) (show (s_ / 2).toNat < s_.toNat from (by omega)) _ _ _ hP hD hS (lv_sub hl [2, 3, 4, 5, 0] rfl)
      · have hc_45 := hc_45
        refine lv_iload hx hb dX6_leastNutWithRateTo_48 (lv_at hl 0 rfl) ?_
        refine lv_istore (lv' := [(4, .int (zI (L_ + s_))), (6, .int (zI (L_ + s_))), (0, .ref (a 0)), (1, .int (zI b_)), (2, .long (zJ q)), (5, .int (zI s_))]) hx hb dX6_leastNutWithRateTo_50 hl (by decide) rfl (fun ls hl => ?_)
        refine lv_iload hx hb dX6_leastNutWithRateTo_52 (lv_at hl 5 rfl) ?_
        refine z_iconst hx hb dX6_leastNutWithRateTo_54 ?_
        refine z_idiv hx hb dX6_leastNutWithRateTo_55 (by omega) (by omega) ?_
        refine lv_istore (lv' := [(5, .int (zI (s_ / 2))), (4, .int (zI (L_ + s_))), (6, .int (zI (L_ + s_))), (0, .ref (a 0)), (1, .int (zI b_)), (2, .long (zJ q))]) hx hb dX6_leastNutWithRateTo_56 hl (by decide) rfl (fun ls hl => ?_)
        refine lv_goto (tgt := 10) hx hb dX6_leastNutWithRateTo_58 (by decide) ?_
        exact ih_10 (L_ + s_, s_ / 2) (show lnI (sp_nr M q) b_ (s_ / 2) (L_ + s_) from (by first | exact lnI_yes hl_ (by omega) (by omega) (by unfold sp_nr; omega) | exact lnI_no (sp_nr_anti hB) hl_ (by omega) (by unfold sp_nr; omega))) (show (s_ / 2).toNat < s_.toNat from (by omega)) _ _ _ hP hD hS (lv_sub hl [3, 4, 5, 1, 0] rfl)
theorem k_X6_leastNutWithRateTo : yX6_leastNutWithRateTo.cls ≠ "java/lang/invoke/MethodHandle" ∧ yX6_leastNutWithRateTo.cls ≠ "java/lang/invoke/VarHandle" ∧ (parseMethodDescriptor yX6_leastNutWithRateTo.desc).map (fun d => d.parameters.length) = some 2 := by decide +kernel
set_option maxHeartbeats 4000000 in
set_option maxRecDepth 100000 in
theorem c_X6_nearestNut (l : Launch) (D : va_G) (ct ad : Nat → Nat) (a : Nat → Nat) (M : Int → Int) (hI : gInv M) (hB : bInv M) : ZM l yX6_nearestNut wsX6_nearestNut ({ frames := 4, cells := 0, slots := 0, locals := 104 } : Room) D ct ad [.ref (a 0)] (sobjW a ++ (gridW ct a M ++ (benchW ct a M ++ (logW ct a M)))) (zD (some (.int (zI (sp_best M)))) (sobjW a ++ (gridW ct a M ++ (benchW ct a M ++ (logW ct a M))))) := by
  refine ZM.of (cc := cX6_nearestNut) (maxL := 5) (ret := (some .int)) (by decide +kernel) rfl (Nat.le_of_ble_eq_true rfl) ?_
  intro p e s m below meth c A ls hx hb hr hts hown hlocks hml hname hE hP hD hA hS hl
  have hK := hE.1
  have hf_0 := hts (.fieldLink RX6 12 "RodGrids$State" "grid" "LRodGrids$Grid;") (by decide +kernel)
  have hf_1 := hts (.fieldLink RX6 21 "RodGrids$State" "bench" "LRodGrids$Bench;") (by decide +kernel)
  have hf_2 := hts (.fieldLink RX6 52 "RodGrids$Bench" "warmth" "I") (by decide +kernel)
  have hf_3 := hts (.fieldLink RX6 58 "RodGrids$Bench" "drive" "I") (by decide +kernel)
  have hin_X1 : ∀ z ∈ u_ws RX1 TX1 12, z ∈ wsX6_nearestNut := by decide +kernel
  have hin_X6 : ∀ z ∈ u_ws RX6 TX6 3, z ∈ wsX6_nearestNut := by decide +kernel
  have hl : lv_has ls 5 [(0, .ref (a 0))] := hl
  have i3 := hI.1
  have i4 := hI.2.1
  have j0 := hB.1
  have j1 := hB.2.1
  have j2 := hB.2.2.1
  have j4 := hB.2.2.2.2
  have ql := sp_lenB hI hB j1.2.1
  have qa := sp_nr_anti (q := sp_rods M (M 6)) hB
  refine lv_aload_n hx hb dX6_nearestNut_0 rfl (lv_at hl 0 rfl) ?_
  refine va_get (D := D) (ci := 5) (v := .ref (a 1)) (C := RX6) (T := TX6) (N := 3) hx hb hts hin_X6 hown hK hP 0 rfl rfl 0 (by decide) hf_0 (fun _ h9 => h9) rfl dX6_nearestNut_1 ?_
  refine lv_aload_n hx hb dX6_nearestNut_4 rfl (lv_at hl 0 rfl) ?_
  refine va_get (D := D) (ci := 5) (v := .ref (a 6)) (C := RX6) (T := TX6) (N := 3) hx hb hts hin_X6 hown hK hP 0 rfl rfl 1 (by decide) hf_1 (fun _ h9 => h9) rfl dX6_nearestNut_5 ?_
  refine va_get (D := D) (ci := 0) (v := .int (zI (M 6))) (C := RX1) (T := TX1) (N := 12) hx hb hts hin_X1 hown hK hP 6 rfl rfl 3 (by decide) hf_2 (fun _ h9 => h9) rfl dX6_nearestNut_8 ?_
  refine z_callV (C := RX4) (q0 := 0) (ci := 3) (As := [.int (zI (M 6))]) (rest := []) (sobjW a) (benchW ct a M ++ (logW ct a M)) hx hb hml hown hts hl hE hS hA hP hD (c_X4_lengthOfRods l D ct ad a M (M 6) (by assumption) (by omega)) gX6_nearestNut_X4_lengthOfRods rfl rfl k_X4_lengthOfRods ⟨Nat.le_of_ble_eq_true rfl, Nat.le_of_ble_eq_true rfl⟩ rfl rfl rfl rfl (Nat.le_of_ble_eq_true rfl) ⟨Nat.le_of_ble_eq_true rfl, Nat.le_of_ble_eq_true rfl⟩ dX6_nearestNut_11 rfl (fun v w1 H locs hpost hP hD hS => ?_)
  obtain ⟨rfl, rfl⟩ := hpost
  have hP : va_P D vwCl (sobjW a ++ (gridW ct a M ++ (benchW ct a M ++ (logW ct a M)))) H := hP
  have hD : va_D A (sobjW a ++ (gridW ct a M ++ (benchW ct a M ++ (logW ct a M)))) := hD
  refine W.eq (g2 := F0 m 14 ls [.long (zJ (sp_rods M (M 6)))]) rfl ?_
  refine lv_lstore_n (lv' := [(1, .long (zJ (sp_rods M (M 6)))), (0, .ref (a 0))]) hx hb dX6_nearestNut_14 rfl hl (by decide) rfl (fun ls hl => ?_)
  refine lv_aload_n hx hb dX6_nearestNut_15 rfl (lv_at hl 1 rfl) ?_
  refine z_iconst hx hb dX6_nearestNut_16 ?_
  refine lv_lload_n hx hb dX6_nearestNut_17 rfl (lv_at hl 0 rfl) ?_
  refine z_callV (C := RX6) (q0 := 0) (ci := 5) (As := [.int (zI 0), .long (zJ (sp_rods M (M 6)))]) (rest := []) ([] : va_W) ([] : va_W) hx hb hml hown hts hl hE hS hA (zr0 ([] : va_W) hP) (zr0D ([] : va_W) hD) (c_X6_leastNutWithRateTo l D ct ad a M 0 (sp_rods M (M 6)) (by assumption) (by assumption) (by omega) (by omega)) gX6_nearestNut_X6_leastNutWithRateTo rfl rfl k_X6_leastNutWithRateTo ⟨Nat.le_of_ble_eq_true rfl, Nat.le_of_ble_eq_true rfl⟩ rfl rfl rfl rfl (Nat.le_of_ble_eq_true rfl) ⟨Nat.le_of_ble_eq_true rfl, Nat.le_of_ble_eq_true rfl⟩ dX6_nearestNut_18 rfl (fun v w1 H locs hpost hP hD hS => ?_)
  obtain ⟨ea, hx0_18, rfl, rfl⟩ := hpost
  have hP := zr0' hP
  have hD := zr0D' hD
  have hP : va_P D vwCl (sobjW a ++ (gridW ct a M ++ (benchW ct a M ++ (logW ct a M)))) H := hP
  have hD : va_D A (sobjW a ++ (gridW ct a M ++ (benchW ct a M ++ (logW ct a M)))) := hD
  refine W.eq (g2 := F0 m 21 ls [.int (zI ea)]) rfl ?_
  have ha1 := hx0_18.1
  refine lv_istore_n (lv' := [(3, .int (zI ea)), (1, .long (zJ (sp_rods M (M 6)))), (0, .ref (a 0))]) hx hb dX6_nearestNut_21 rfl hl (by decide) rfl (fun ls hl => ?_)
  refine lv_iload_n hx hb dX6_nearestNut_22 rfl (lv_at hl 0 rfl) ?_
  refine z_sipush hx hb dX6_nearestNut_23 (by decide) ?_
  refine z_icmp_gt (tgt := 33) hx hb dX6_nearestNut_26 (by decide) (by omega) (by omega) (fun hc_26 => ?_) (fun hc_26 => ?_)
  · have hc_26 := hc_26
    refine lv_aload_n hx hb dX6_nearestNut_33 rfl (lv_at hl 2 rfl) ?_
    refine lv_iload_n hx hb dX6_nearestNut_34 rfl (lv_at hl 0 rfl) ?_
    refine z_iconst hx hb dX6_nearestNut_35 ?_
    refine z_isub hx hb dX6_nearestNut_36 ?_
    refine lv_lload_n hx hb dX6_nearestNut_37 rfl (lv_at hl 1 rfl) ?_
    refine lv_aload_n hx hb dX6_nearestNut_38 rfl (lv_at hl 2 rfl) ?_
    refine va_get (D := D) (ci := 5) (v := .ref (a 6)) (C := RX6) (T := TX6) (N := 3) hx hb hts hin_X6 hown hK hP 0 rfl rfl 1 (by decide) hf_1 (fun _ h9 => h9) rfl dX6_nearestNut_39 ?_
    refine va_get (D := D) (ci := 0) (v := .int (zI (M 8))) (C := RX1) (T := TX1) (N := 12) hx hb hts hin_X1 hown hK hP 6 rfl rfl 5 (by decide) hf_3 (fun _ h9 => h9) rfl dX6_nearestNut_42 ?_
    refine z_callV (C := RX6) (q0 := 0) (ci := 5) (As := [.int (zI (ea - 1)), .long (zJ (sp_rods M (M 6))), .int (zI (M 8))]) (rest := []) ([] : va_W) ([] : va_W) hx hb hml hown hts hl hE hS hA (zr0 ([] : va_W) hP) (zr0D ([] : va_W) hD) (c_X6_rateWith l D ct ad a M (ea - 1) (sp_rods M (M 6)) (M 8) (by assumption) (by assumption) (by omega) (by omega) (by omega)) gX6_nearestNut_X6_rateWith rfl rfl k_X6_rateWith ⟨Nat.le_of_ble_eq_true rfl, Nat.le_of_ble_eq_true rfl⟩ rfl rfl rfl rfl (Nat.le_of_ble_eq_true rfl) ⟨Nat.le_of_ble_eq_true rfl, Nat.le_of_ble_eq_true rfl⟩ dX6_nearestNut_45 rfl (fun v w1 H locs hpost hP hD hS => ?_)
    obtain ⟨rfl, rfl⟩ := hpost
    have hP := zr0' hP
    have hD := zr0D' hD
    have hP : va_P D vwCl (sobjW a ++ (gridW ct a M ++ (benchW ct a M ++ (logW ct a M)))) H := hP
    have hD : va_D A (sobjW a ++ (gridW ct a M ++ (benchW ct a M ++ (logW ct a M)))) := hD
    refine W.eq (g2 := F0 m 48 ls [.int (zI (sp_rate M ((sp_rods M (M 6)) + 10 * (ea - 1)) (M 8)))]) rfl ?_
    have rB := sp_rateB (len := sp_rods M (M 6) + 10 * (ea - 1)) hB j1.2.2.2
    refine lv_istore (lv' := [(4, .int (zI (sp_rate M ((sp_rods M (M 6)) + 10 * (ea - 1)) (M 8)))), (3, .int (zI ea)), (1, .long (zJ (sp_rods M (M 6)))), (0, .ref (a 0))]) hx hb dX6_nearestNut_48 hl (by decide) rfl (fun ls hl => ?_)
    refine lv_iload_n hx hb dX6_nearestNut_50 rfl (lv_at hl 1 rfl) ?_
    refine z_sipush hx hb dX6_nearestNut_51 (by decide) ?_
    refine z_icmp_gt (tgt := 76) hx hb dX6_nearestNut_54 (by decide) (by omega) (by omega) (fun hc_54 => ?_) (fun hc_54 => ?_)
    · have hc_54 := hc_54
      refine lv_aload_n hx hb dX6_nearestNut_76 rfl (lv_at hl 3 rfl) ?_
      refine lv_iload hx hb dX6_nearestNut_77 (lv_at hl 0 rfl) ?_
      refine lv_lload_n hx hb dX6_nearestNut_79 rfl (lv_at hl 2 rfl) ?_
      refine z_callV (C := RX6) (q0 := 0) (ci := 5) (As := [.int (zI (sp_rate M ((sp_rods M (M 6)) + 10 * (ea - 1)) (M 8))), .long (zJ (sp_rods M (M 6)))]) (rest := []) ([] : va_W) ([] : va_W) hx hb hml hown hts hl hE hS hA (zr0 ([] : va_W) hP) (zr0D ([] : va_W) hD) (c_X6_leastNutWithRateTo l D ct ad a M (sp_rate M ((sp_rods M (M 6)) + 10 * (ea - 1)) (M 8)) (sp_rods M (M 6)) (by assumption) (by assumption) (by omega) (by omega)) gX6_nearestNut_X6_leastNutWithRateTo rfl rfl k_X6_leastNutWithRateTo ⟨Nat.le_of_ble_eq_true rfl, Nat.le_of_ble_eq_true rfl⟩ rfl rfl rfl rfl (Nat.le_of_ble_eq_true rfl) ⟨Nat.le_of_ble_eq_true rfl, Nat.le_of_ble_eq_true rfl⟩ dX6_nearestNut_80 rfl (fun v w1 H locs hpost hP hD hS => ?_)
      obtain ⟨eb, hx0_80, rfl, rfl⟩ := hpost
      have hP := zr0' hP
      have hD := zr0D' hD
      have hP : va_P D vwCl (sobjW a ++ (gridW ct a M ++ (benchW ct a M ++ (logW ct a M)))) H := hP
      have hD : va_D A (sobjW a ++ (gridW ct a M ++ (benchW ct a M ++ (logW ct a M)))) := hD
      refine W.eq (g2 := F0 m 83 ls [.int (zI eb)]) rfl ?_
      exact z_iret hx hb hr hlocks hP hD hS ⟨Nat.le_of_ble_eq_true rfl, Nat.le_of_ble_eq_true rfl⟩ dX6_nearestNut_83 (⟨congrArg (fun z => some (Value.int (zI z))) (by refine isBest_one (best_of qa hx0_18 ?_) (sp_best_is _); first | exact Or.inl ⟨by omega, rfl⟩ | exact Or.inr (Or.inl ⟨by omega, by first | exact Or.inl (by omega) | exact Or.inr (by unfold sp_nr; omega), hx0_80⟩) | exact Or.inr (Or.inr ⟨by omega, by omega, by unfold sp_nr; omega, rfl⟩)), rfl⟩)
    · have hc_54 := hc_54
      refine lv_iload hx hb dX6_nearestNut_57 (lv_at hl 0 rfl) ?_
      refine lv_aload_n hx hb dX6_nearestNut_59 rfl (lv_at hl 3 rfl) ?_
      refine lv_iload_n hx hb dX6_nearestNut_60 rfl (lv_at hl 1 rfl) ?_
      refine lv_lload_n hx hb dX6_nearestNut_61 rfl (lv_at hl 2 rfl) ?_
      refine lv_aload_n hx hb dX6_nearestNut_62 rfl (lv_at hl 3 rfl) ?_
      refine va_get (D := D) (ci := 5) (v := .ref (a 6)) (C := RX6) (T := TX6) (N := 3) hx hb hts hin_X6 hown hK hP 0 rfl rfl 1 (by decide) hf_1 (fun _ h9 => h9) rfl dX6_nearestNut_63 ?_
      refine va_get (D := D) (ci := 0) (v := .int (zI (M 8))) (C := RX1) (T := TX1) (N := 12) hx hb hts hin_X1 hown hK hP 6 rfl rfl 5 (by decide) hf_3 (fun _ h9 => h9) rfl dX6_nearestNut_66 ?_
      refine z_callV (C := RX6) (q0 := 0) (ci := 5) (As := [.int (zI ea), .long (zJ (sp_rods M (M 6))), .int (zI (M 8))]) (rest := [.int (zI (sp_rate M ((sp_rods M (M 6)) + 10 * (ea - 1)) (M 8)))]) ([] : va_W) ([] : va_W) hx hb hml hown hts hl hE hS hA (zr0 ([] : va_W) hP) (zr0D ([] : va_W) hD) (c_X6_rateWith l D ct ad a M ea (sp_rods M (M 6)) (M 8) (by assumption) (by assumption) (by omega) (by omega) (by omega)) gX6_nearestNut_X6_rateWith rfl rfl k_X6_rateWith ⟨Nat.le_of_ble_eq_true rfl, Nat.le_of_ble_eq_true rfl⟩ rfl rfl rfl rfl (Nat.le_of_ble_eq_true rfl) ⟨Nat.le_of_ble_eq_true rfl, Nat.le_of_ble_eq_true rfl⟩ dX6_nearestNut_69 rfl (fun v w1 H locs hpost hP hD hS => ?_)
      obtain ⟨rfl, rfl⟩ := hpost
      have hP := zr0' hP
      have hD := zr0D' hD
      have hP : va_P D vwCl (sobjW a ++ (gridW ct a M ++ (benchW ct a M ++ (logW ct a M)))) H := hP
      have hD : va_D A (sobjW a ++ (gridW ct a M ++ (benchW ct a M ++ (logW ct a M)))) := hD
      refine W.eq (g2 := F0 m 72 ls [.int (zI (sp_rate M ((sp_rods M (M 6)) + 10 * ea) (M 8))), .int (zI (sp_rate M ((sp_rods M (M 6)) + 10 * (ea - 1)) (M 8)))]) rfl ?_
      have rB2 := sp_rateB (len := sp_rods M (M 6) + 10 * ea) hB j1.2.2.2
      refine z_ineg hx hb dX6_nearestNut_72 ?_
      refine z_icmp_gt (tgt := 84) hx hb dX6_nearestNut_73 (by decide) (by omega) (by omega) (fun hc_73 => ?_) (fun hc_73 => ?_)
      · have hc_73 := hc_73
        refine lv_iload_n hx hb dX6_nearestNut_84 rfl (lv_at hl 1 rfl) ?_
        exact z_iret hx hb hr hlocks hP hD hS ⟨Nat.le_of_ble_eq_true rfl, Nat.le_of_ble_eq_true rfl⟩ dX6_nearestNut_85 (⟨congrArg (fun z => some (Value.int (zI z))) (by refine isBest_one (best_of qa hx0_18 ?_) (sp_best_is _); first | exact Or.inl ⟨by omega, rfl⟩ | exact Or.inr (Or.inl ⟨by omega, by first | exact Or.inl (by omega) | exact Or.inr (by unfold sp_nr; omega), hx0_80⟩) | exact Or.inr (Or.inr ⟨by omega, by omega, by unfold sp_nr; omega, rfl⟩)), rfl⟩)
      · have hc_73 := hc_73
        refine lv_aload_n hx hb dX6_nearestNut_76 rfl (lv_at hl 3 rfl) ?_
        refine lv_iload hx hb dX6_nearestNut_77 (lv_at hl 0 rfl) ?_
        refine lv_lload_n hx hb dX6_nearestNut_79 rfl (lv_at hl 2 rfl) ?_
        refine z_callV (C := RX6) (q0 := 0) (ci := 5) (As := [.int (zI (sp_rate M ((sp_rods M (M 6)) + 10 * (ea - 1)) (M 8))), .long (zJ (sp_rods M (M 6)))]) (rest := []) ([] : va_W) ([] : va_W) hx hb hml hown hts hl hE hS hA (zr0 ([] : va_W) hP) (zr0D ([] : va_W) hD) (c_X6_leastNutWithRateTo l D ct ad a M (sp_rate M ((sp_rods M (M 6)) + 10 * (ea - 1)) (M 8)) (sp_rods M (M 6)) (by assumption) (by assumption) (by omega) (by omega)) gX6_nearestNut_X6_leastNutWithRateTo rfl rfl k_X6_leastNutWithRateTo ⟨Nat.le_of_ble_eq_true rfl, Nat.le_of_ble_eq_true rfl⟩ rfl rfl rfl rfl (Nat.le_of_ble_eq_true rfl) ⟨Nat.le_of_ble_eq_true rfl, Nat.le_of_ble_eq_true rfl⟩ dX6_nearestNut_80 rfl (fun v w1 H locs hpost hP hD hS => ?_)
        obtain ⟨eb, hx0_80, rfl, rfl⟩ := hpost
        have hP := zr0' hP
        have hD := zr0D' hD
        have hP : va_P D vwCl (sobjW a ++ (gridW ct a M ++ (benchW ct a M ++ (logW ct a M)))) H := hP
        have hD : va_D A (sobjW a ++ (gridW ct a M ++ (benchW ct a M ++ (logW ct a M)))) := hD
        refine W.eq (g2 := F0 m 83 ls [.int (zI eb)]) rfl ?_
        exact z_iret hx hb hr hlocks hP hD hS ⟨Nat.le_of_ble_eq_true rfl, Nat.le_of_ble_eq_true rfl⟩ dX6_nearestNut_83 (⟨congrArg (fun z => some (Value.int (zI z))) (by refine isBest_one (best_of qa hx0_18 ?_) (sp_best_is _); first | exact Or.inl ⟨by omega, rfl⟩ | exact Or.inr (Or.inl ⟨by omega, by first | exact Or.inl (by omega) | exact Or.inr (by unfold sp_nr; omega), hx0_80⟩) | exact Or.inr (Or.inr ⟨by omega, by omega, by unfold sp_nr; omega, rfl⟩)), rfl⟩)
  · have hc_26 := hc_26
    refine z_sipush hx hb dX6_nearestNut_29 (by decide) ?_
    exact z_iret hx hb hr hlocks hP hD hS ⟨Nat.le_of_ble_eq_true rfl, Nat.le_of_ble_eq_true rfl⟩ dX6_nearestNut_32 (⟨congrArg (fun z => some (Value.int (zI z))) (by refine isBest_one (best_of qa hx0_18 ?_) (sp_best_is _); first | exact Or.inl ⟨by omega, rfl⟩ | exact Or.inr (Or.inl ⟨by omega, by first | exact Or.inl (by omega) | exact Or.inr (by unfold sp_nr; omega), hx0_80⟩) | exact Or.inr (Or.inr ⟨by omega, by omega, by unfold sp_nr; omega, rfl⟩)), rfl⟩)
