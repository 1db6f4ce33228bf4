theorem sp_bits_p {M : Int → Int} {E T : Int} (hz : sp_sumN M (M 4).toNat ≠ 0) (hfl : sp_fl M = fbit E T) (hEe : 60 ≤ E ∧ E ≤ 200) (hT : 0 ≤ T ∧ T < 8388608) : sp_bits M = E * 8388608 + T := by
  unfold sp_bits
  rw [if_neg hz, hfl, fb_i32 (by omega) hT, zI_toInt (by omega)]
theorem sp_bits_n {M : Int → Int} {E T : Int} (hz : sp_sumN M (M 4).toNat ≠ 0) (hfl : sp_fl M = fbitn E T) (hEe : 60 ≤ E ∧ E ≤ 200) (hT : 0 ≤ T ∧ T < 8388608) : sp_bits M = E * 8388608 + T - 2147483648 := by
  unfold sp_bits
  rw [if_neg hz, hfl, fb_i32n (by omega) hT, zI_toInt (by omega)]
theorem sp_bits_0 {M : Int → Int} (hz : sp_sumN M (M 4).toNat ≠ 0) (hfl : sp_fl M = FP.fconst0) : sp_bits M = 0 := by
  unfold sp_bits
  rw [if_neg hz, hfl]
  rfl
theorem k_X4_sumOfLengths : yX4_sumOfLengths.cls ≠ "java/lang/invoke/MethodHandle" ∧ yX4_sumOfLengths.cls ≠ "java/lang/invoke/VarHandle" ∧ (parseMethodDescriptor yX4_sumOfLengths.desc).map (fun d => d.parameters.length) = some 0 := by decide +kernel
theorem k_X8_bitsOf : yX8_bitsOf.cls ≠ "java/lang/invoke/MethodHandle" ∧ yX8_bitsOf.cls ≠ "java/lang/invoke/VarHandle" ∧ (parseMethodDescriptor yX8_bitsOf.desc).map (fun d => d.parameters.length) = some 1 := by decide +kernel
set_option maxHeartbeats 4000000 in
set_option maxRecDepth 100000 in
theorem c_X8_balanceBits_p (l : Launch) (D : va_G) (ct ad : Nat → Nat) (u : Nat) (a r q : Nat → Nat) (b : Nat → Nat → Nat) (nx sz : Int) (S : Nat → Int → Int) (M TX : Int → Int) (tl pl ft n1 n2 : Int) (wd : Value) (E T : Int) (hs : sInv M) (hEe : 60 ≤ E ∧ E ≤ 200) (hT : 0 ≤ T ∧ T < 8388608) (hz : sp_sumN M (M 4).toNat ≠ 0) (hfl : sp_fl M = fbit E T) : ZM l yX8_balanceBits wsX8_balanceBits ({ frames := 3, cells := 0, slots := 0, locals := 65 } : Room) D ct ad [.ref u] (x8W u a r q ++ (svW ct r b nx sz S ++ (sobjW a ++ (gridW ct a M ++ (benchW ct a M ++ (logW ct a M ++ (txtW ct q TX tl pl ft wd n1 n2))))))) (zD (some (.int (zI (sp_bits M)))) (x8W u a r q ++ (svW ct r b nx sz S ++ (sobjW a ++ (gridW ct a M ++ (benchW ct a M ++ (logW ct a M ++ (txtW ct q TX tl pl ft wd n1 n2)))))))) := by
  refine ZM.of (cc := cX8_balanceBits) (maxL := 3) (ret := (some .int)) (by decide +kernel) rfl (Nat.le_of_ble_eq_true rfl) ?_
  intro p e s m below meth c A ls hx hb hr hts hown hlocks hml hname hE hP hD hA hS hl
  have hK := hE.1
  have hf_0 := hts (.fieldLink RX8 10 "RodGrids" "state" "LRodGrids$State;") (by decide +kernel)
  have hf_1 := hts (.fieldLink RX8 30 "RodGrids$State" "grid" "LRodGrids$Grid;") (by decide +kernel)
  have hin_X6 : ∀ z ∈ u_ws RX6 TX6 3, z ∈ wsX8_balanceBits := by decide +kernel
  have hin_X8 : ∀ z ∈ u_ws RX8 TX8 3, z ∈ wsX8_balanceBits := by decide +kernel
  have hl : lv_has ls 3 [(0, .ref u)] := hl
  have hI := hs.1
  have hB := hs.2.1
  have ha := hs.2.2
  have i3 := hI.1
  have i4 := hI.2.1
  have j0 := hB.1
  have j1 := hB.2.1
  have j2 := hB.2.2.1
  have j4 := hB.2.2.2.2
  have b2 := sp_sumB hI (M 4).toNat (by omega)
  have b1 := sp_balB hI (M 4).toNat (by omega)
  refine lv_aload_n hx hb dX8_balanceBits_0 rfl (lv_at hl 0 rfl) ?_
  refine va_get (D := D) (ci := 6) (v := .ref (a 0)) (C := RX8) (T := TX8) (N := 3) hx hb hts hin_X8 hown hK hP 0 rfl rfl 0 (by decide) hf_0 (fun _ h9 => h9) rfl dX8_balanceBits_1 ?_
  refine va_get (D := D) (ci := 5) (v := .ref (a 1)) (C := RX6) (T := TX6) (N := 3) hx hb hts hin_X6 hown hK hP 47 rfl rfl 0 (by decide) hf_1 (fun _ h9 => h9) rfl dX8_balanceBits_4 ?_
  refine z_callV (C := RX4) (q0 := 0) (ci := 3) (As := []) (rest := []) (x8W u a r q ++ (svW ct r b nx sz S ++ (sobjW a))) (benchW ct a M ++ (logW ct a M ++ (txtW ct q TX tl pl ft wd n1 n2))) hx hb hml hown hts hl hE hS hA hP hD (c_X4_sumOfLengths l D ct ad a M (by assumption)) gX8_balanceBits_X4_sumOfLengths rfl rfl k_X4_sumOfLengths ⟨Nat.le_of_ble_eq_true rfl, Nat.le_of_ble_eq_true rfl⟩ rfl rfl rfl rfl (Nat.le_of_ble_eq_true rfl) ⟨Nat.le_of_ble_eq_true rfl, Nat.le_of_ble_eq_true rfl⟩ dX8_balanceBits_7 rfl (fun v w1 H locs hpost hP hD hS => ?_)
  obtain ⟨rfl, rfl⟩ := hpost
  have hP : va_P D vwCl (x8W u a r q ++ (svW ct r b nx sz S ++ (sobjW a ++ (gridW ct a M ++ (benchW ct a M ++ (logW ct a M ++ (txtW ct q TX tl pl ft wd n1 n2))))))) H := hP
  have hD : va_D A (x8W u a r q ++ (svW ct r b nx sz S ++ (sobjW a ++ (gridW ct a M ++ (benchW ct a M ++ (logW ct a M ++ (txtW ct q TX tl pl ft wd n1 n2))))))) := hD
  refine W.eq (g2 := F0 m 10 ls [.long (zJ (sp_sumN M (M 4).toNat))]) rfl ?_
  refine lv_lstore_n (lv' := [(1, .long (zJ (sp_sumN M (M 4).toNat))), (0, .ref u)]) hx hb dX8_balanceBits_10 rfl hl (by decide) rfl (fun ls hl => ?_)
  refine lv_lload_n hx hb dX8_balanceBits_11 rfl (lv_at hl 0 rfl) ?_
  refine z_lconst (z := 0) hx hb dX8_balanceBits_12 rfl ?_
  refine z_lcmp_ne (tgt := 21) hx hb dX8_balanceBits_13 dX8_balanceBits_14 (by decide) (by omega) (by omega) (fun hc_13 => ?_) (fun hc_13 => ?_)
  · have hc_13 := hc_13
    refine lv_aload_n hx hb dX8_balanceBits_21 rfl (lv_at hl 1 rfl) ?_
    refine va_get (D := D) (ci := 6) (v := .ref (a 0)) (C := RX8) (T := TX8) (N := 3) hx hb hts hin_X8 hown hK hP 0 rfl rfl 0 (by decide) hf_0 (fun _ h9 => h9) rfl dX8_balanceBits_22 ?_
    refine va_get (D := D) (ci := 5) (v := .ref (a 1)) (C := RX6) (T := TX6) (N := 3) hx hb hts hin_X6 hown hK hP 47 rfl rfl 0 (by decide) hf_1 (fun _ h9 => h9) rfl dX8_balanceBits_25 ?_
    refine z_callV (C := RX4) (q0 := 0) (ci := 3) (As := []) (rest := []) (x8W u a r q ++ (svW ct r b nx sz S ++ (sobjW a))) (benchW ct a M ++ (logW ct a M ++ (txtW ct q TX tl pl ft wd n1 n2))) hx hb hml hown hts hl hE hS hA hP hD (c_X4_balanceOfRods l D ct ad a M (by assumption)) gX8_balanceBits_X4_balanceOfRods rfl rfl k_X4_balanceOfRods ⟨Nat.le_of_ble_eq_true rfl, Nat.le_of_ble_eq_true rfl⟩ rfl rfl rfl rfl (Nat.le_of_ble_eq_true rfl) ⟨Nat.le_of_ble_eq_true rfl, Nat.le_of_ble_eq_true rfl⟩ dX8_balanceBits_28 rfl (fun v w1 H locs hpost hP hD hS => ?_)
    obtain ⟨rfl, rfl⟩ := hpost
    have hP : va_P D vwCl (x8W u a r q ++ (svW ct r b nx sz S ++ (sobjW a ++ (gridW ct a M ++ (benchW ct a M ++ (logW ct a M ++ (txtW ct q TX tl pl ft wd n1 n2))))))) H := hP
    have hD : va_D A (x8W u a r q ++ (svW ct r b nx sz S ++ (sobjW a ++ (gridW ct a M ++ (benchW ct a M ++ (logW ct a M ++ (txtW ct q TX tl pl ft wd n1 n2))))))) := hD
    refine W.eq (g2 := F0 m 31 ls [.long (zJ (sp_balN M (M 4).toNat))]) rfl ?_
    refine lv_l2f hx hb dX8_balanceBits_31 ?_
    refine lv_lload_n hx hb dX8_balanceBits_32 rfl (lv_at hl 0 rfl) ?_
    refine lv_l2f hx hb dX8_balanceBits_33 ?_
    refine lv_fdiv hx hb dX8_balanceBits_34 ((sp_flN hI hz).1) ?_
    refine z_canF (show FP.fdiv (FP.l2f (zJ (sp_balN M (M 4).toNat))) (FP.l2f (zJ (sp_sumN M (M 4).toNat))) = fbit E T from hfl) ?_
    refine z_callS (As := [.float (fbit E T)]) (rest := []) ([] : va_W) (x8W u a r q ++ (svW ct r b nx sz S ++ (sobjW a ++ (gridW ct a M ++ (benchW ct a M ++ (logW ct a M ++ (txtW ct q TX tl pl ft wd n1 n2))))))) hx hb hml hown hts hl hE hS hA hP hD (c_X8_bitsOf_p l D ct ad E T hEe hT) gX8_balanceBits_X8_bitsOf rfl k_X8_bitsOf ⟨Nat.le_of_ble_eq_true rfl, Nat.le_of_ble_eq_true rfl⟩ rfl (Nat.le_of_ble_eq_true rfl) ⟨Nat.le_of_ble_eq_true rfl, Nat.le_of_ble_eq_true rfl⟩ dX8_balanceBits_35 rfl (fun v w1 H locs hpost hP hD hS => ?_)
    obtain ⟨rfl, rfl⟩ := hpost
    have hP : va_P D vwCl (x8W u a r q ++ (svW ct r b nx sz S ++ (sobjW a ++ (gridW ct a M ++ (benchW ct a M ++ (logW ct a M ++ (txtW ct q TX tl pl ft wd n1 n2))))))) H := hP
    have hD : va_D A (x8W u a r q ++ (svW ct r b nx sz S ++ (sobjW a ++ (gridW ct a M ++ (benchW ct a M ++ (logW ct a M ++ (txtW ct q TX tl pl ft wd n1 n2))))))) := hD
    refine W.eq (g2 := F0 m 38 ls [.int (zI (E * 8388608 + T))]) rfl ?_
    exact z_iret hx hb hr hlocks hP hD hS ⟨Nat.le_of_ble_eq_true rfl, Nat.le_of_ble_eq_true rfl⟩ dX8_balanceBits_38 (⟨congrArg (fun z => some (Value.int (zI z))) ((sp_bits_p hz hfl hEe hT).symm), rfl⟩)
  · have hc_13 := hc_13
    exact absurd hc_13 hz
set_option maxHeartbeats 4000000 in
set_option maxRecDepth 100000 in
theorem c_X8_balanceBits_n (l : Launch) (D : va_G) (ct ad : Nat → Nat) (u : Nat) (a r q : Nat → Nat) (b : Nat → Nat → Nat) (nx sz : Int) (S : Nat → Int → Int) (M TX : Int → Int) (tl pl ft n1 n2 : Int) (wd : Value) (E T : Int) (hs : sInv M) (hEe : 60 ≤ E ∧ E ≤ 200) (hT : 0 ≤ T ∧ T < 8388608) (hz : sp_sumN M (M 4).toNat ≠ 0) (hfl : sp_fl M = fbitn E T) : ZM l yX8_balanceBits wsX8_balanceBits ({ frames := 3, cells := 0, slots := 0, locals := 65 } : Room) D ct ad [.ref u] (x8W u a r q ++ (svW ct r b nx sz S ++ (sobjW a ++ (gridW ct a M ++ (benchW ct a M ++ (logW ct a M ++ (txtW ct q TX tl pl ft wd n1 n2))))))) (zD (some (.int (zI (sp_bits M)))) (x8W u a r q ++ (svW ct r b nx sz S ++ (sobjW a ++ (gridW ct a M ++ (benchW ct a M ++ (logW ct a M ++ (txtW ct q TX tl pl ft wd n1 n2)))))))) := by
  refine ZM.of (cc := cX8_balanceBits) (maxL := 3) (ret := (some .int)) (by decide +kernel) rfl (Nat.le_of_ble_eq_true rfl) ?_
  intro p e s m below meth c A ls hx hb hr hts hown hlocks hml hname hE hP hD hA hS hl
  have hK := hE.1
  have hf_0 := hts (.fieldLink RX8 10 "RodGrids" "state" "LRodGrids$State;") (by decide +kernel)
  have hf_1 := hts (.fieldLink RX8 30 "RodGrids$State" "grid" "LRodGrids$Grid;") (by decide +kernel)
  have hin_X6 : ∀ z ∈ u_ws RX6 TX6 3, z ∈ wsX8_balanceBits := by decide +kernel
  have hin_X8 : ∀ z ∈ u_ws RX8 TX8 3, z ∈ wsX8_balanceBits := by decide +kernel
  have hl : lv_has ls 3 [(0, .ref u)] := hl
  have hI := hs.1
  have hB := hs.2.1
  have ha := hs.2.2
  have i3 := hI.1
  have i4 := hI.2.1
  have j0 := hB.1
  have j1 := hB.2.1
  have j2 := hB.2.2.1
  have j4 := hB.2.2.2.2
  have b2 := sp_sumB hI (M 4).toNat (by omega)
  have b1 := sp_balB hI (M 4).toNat (by omega)
  refine lv_aload_n hx hb dX8_balanceBits_0 rfl (lv_at hl 0 rfl) ?_
  refine va_get (D := D) (ci := 6) (v := .ref (a 0)) (C := RX8) (T := TX8) (N := 3) hx hb hts hin_X8 hown hK hP 0 rfl rfl 0 (by decide) hf_0 (fun _ h9 => h9) rfl dX8_balanceBits_1 ?_
  refine va_get (D := D) (ci := 5) (v := .ref (a 1)) (C := RX6) (T := TX6) (N := 3) hx hb hts hin_X6 hown hK hP 47 rfl rfl 0 (by decide) hf_1 (fun _ h9 => h9) rfl dX8_balanceBits_4 ?_
  refine z_callV (C := RX4) (q0 := 0) (ci := 3) (As := []) (rest := []) (x8W u a r q ++ (svW ct r b nx sz S ++ (sobjW a))) (benchW ct a M ++ (logW ct a M ++ (txtW ct q TX tl pl ft wd n1 n2))) hx hb hml hown hts hl hE hS hA hP hD (c_X4_sumOfLengths l D ct ad a M (by assumption)) gX8_balanceBits_X4_sumOfLengths rfl rfl k_X4_sumOfLengths ⟨Nat.le_of_ble_eq_true rfl, Nat.le_of_ble_eq_true rfl⟩ rfl rfl rfl rfl (Nat.le_of_ble_eq_true rfl) ⟨Nat.le_of_ble_eq_true rfl, Nat.le_of_ble_eq_true rfl⟩ dX8_balanceBits_7 rfl (fun v w1 H locs hpost hP hD hS => ?_)
  obtain ⟨rfl, rfl⟩ := hpost
  have hP : va_P D vwCl (x8W u a r q ++ (svW ct r b nx sz S ++ (sobjW a ++ (gridW ct a M ++ (benchW ct a M ++ (logW ct a M ++ (txtW ct q TX tl pl ft wd n1 n2))))))) H := hP
  have hD : va_D A (x8W u a r q ++ (svW ct r b nx sz S ++ (sobjW a ++ (gridW ct a M ++ (benchW ct a M ++ (logW ct a M ++ (txtW ct q TX tl pl ft wd n1 n2))))))) := hD
  refine W.eq (g2 := F0 m 10 ls [.long (zJ (sp_sumN M (M 4).toNat))]) rfl ?_
  refine lv_lstore_n (lv' := [(1, .long (zJ (sp_sumN M (M 4).toNat))), (0, .ref u)]) hx hb dX8_balanceBits_10 rfl hl (by decide) rfl (fun ls hl => ?_)
  refine lv_lload_n hx hb dX8_balanceBits_11 rfl (lv_at hl 0 rfl) ?_
  refine z_lconst (z := 0) hx hb dX8_balanceBits_12 rfl ?_
  refine z_lcmp_ne (tgt := 21) hx hb dX8_balanceBits_13 dX8_balanceBits_14 (by decide) (by omega) (by omega) (fun hc_13 => ?_) (fun hc_13 => ?_)
  · have hc_13 := hc_13
    refine lv_aload_n hx hb dX8_balanceBits_21 rfl (lv_at hl 1 rfl) ?_
    refine va_get (D := D) (ci := 6) (v := .ref (a 0)) (C := RX8) (T := TX8) (N := 3) hx hb hts hin_X8 hown hK hP 0 rfl rfl 0 (by decide) hf_0 (fun _ h9 => h9) rfl dX8_balanceBits_22 ?_
    refine va_get (D := D) (ci := 5) (v := .ref (a 1)) (C := RX6) (T := TX6) (N := 3) hx hb hts hin_X6 hown hK hP 47 rfl rfl 0 (by decide) hf_1 (fun _ h9 => h9) rfl dX8_balanceBits_25 ?_
    refine z_callV (C := RX4) (q0 := 0) (ci := 3) (As := []) (rest := []) (x8W u a r q ++ (svW ct r b nx sz S ++ (sobjW a))) (benchW ct a M ++ (logW ct a M ++ (txtW ct q TX tl pl ft wd n1 n2))) hx hb hml hown hts hl hE hS hA hP hD (c_X4_balanceOfRods l D ct ad a M (by assumption)) gX8_balanceBits_X4_balanceOfRods rfl rfl k_X4_balanceOfRods ⟨Nat.le_of_ble_eq_true rfl, Nat.le_of_ble_eq_true rfl⟩ rfl rfl rfl rfl (Nat.le_of_ble_eq_true rfl) ⟨Nat.le_of_ble_eq_true rfl, Nat.le_of_ble_eq_true rfl⟩ dX8_balanceBits_28 rfl (fun v w1 H locs hpost hP hD hS => ?_)
    obtain ⟨rfl, rfl⟩ := hpost
    have hP : va_P D vwCl (x8W u a r q ++ (svW ct r b nx sz S ++ (sobjW a ++ (gridW ct a M ++ (benchW ct a M ++ (logW ct a M ++ (txtW ct q TX tl pl ft wd n1 n2))))))) H := hP
    have hD : va_D A (x8W u a r q ++ (svW ct r b nx sz S ++ (sobjW a ++ (gridW ct a M ++ (benchW ct a M ++ (logW ct a M ++ (txtW ct q TX tl pl ft wd n1 n2))))))) := hD
    refine W.eq (g2 := F0 m 31 ls [.long (zJ (sp_balN M (M 4).toNat))]) rfl ?_
    refine lv_l2f hx hb dX8_balanceBits_31 ?_
    refine lv_lload_n hx hb dX8_balanceBits_32 rfl (lv_at hl 0 rfl) ?_
    refine lv_l2f hx hb dX8_balanceBits_33 ?_
    refine lv_fdiv hx hb dX8_balanceBits_34 ((sp_flN hI hz).1) ?_
    refine z_canF (show FP.fdiv (FP.l2f (zJ (sp_balN M (M 4).toNat))) (FP.l2f (zJ (sp_sumN M (M 4).toNat))) = fbitn E T from hfl) ?_
    refine z_callS (As := [.float (fbitn E T)]) (rest := []) ([] : va_W) (x8W u a r q ++ (svW ct r b nx sz S ++ (sobjW a ++ (gridW ct a M ++ (benchW ct a M ++ (logW ct a M ++ (txtW ct q TX tl pl ft wd n1 n2))))))) hx hb hml hown hts hl hE hS hA hP hD (c_X8_bitsOf_n l D ct ad E T hEe hT) gX8_balanceBits_X8_bitsOf rfl k_X8_bitsOf ⟨Nat.le_of_ble_eq_true rfl, Nat.le_of_ble_eq_true rfl⟩ rfl (Nat.le_of_ble_eq_true rfl) ⟨Nat.le_of_ble_eq_true rfl, Nat.le_of_ble_eq_true rfl⟩ dX8_balanceBits_35 rfl (fun v w1 H locs hpost hP hD hS => ?_)
    obtain ⟨rfl, rfl⟩ := hpost
    have hP : va_P D vwCl (x8W u a r q ++ (svW ct r b nx sz S ++ (sobjW a ++ (gridW ct a M ++ (benchW ct a M ++ (logW ct a M ++ (txtW ct q TX tl pl ft wd n1 n2))))))) H := hP
    have hD : va_D A (x8W u a r q ++ (svW ct r b nx sz S ++ (sobjW a ++ (gridW ct a M ++ (benchW ct a M ++ (logW ct a M ++ (txtW ct q TX tl pl ft wd n1 n2))))))) := hD
    refine W.eq (g2 := F0 m 38 ls [.int (zI (E * 8388608 + T - 2147483648))]) rfl ?_
    exact z_iret hx hb hr hlocks hP hD hS ⟨Nat.le_of_ble_eq_true rfl, Nat.le_of_ble_eq_true rfl⟩ dX8_balanceBits_38 (⟨congrArg (fun z => some (Value.int (zI z))) ((sp_bits_n hz hfl hEe hT).symm), rfl⟩)
  · have hc_13 := hc_13
    exact absurd hc_13 hz
set_option maxHeartbeats 4000000 in
set_option maxRecDepth 100000 in
theorem c_X8_balanceBits_0 (l : Launch) (D : va_G) (ct ad : Nat → Nat) (u : Nat) (a r q : Nat → Nat) (b : Nat → Nat → Nat) (nx sz : Int) (S : Nat → Int → Int) (M TX : Int → Int) (tl pl ft n1 n2 : Int) (wd : Value) (hs : sInv M) (hz : sp_sumN M (M 4).toNat ≠ 0) (hfl : sp_fl M = FP.fconst0) : ZM l yX8_balanceBits wsX8_balanceBits ({ frames := 3, cells := 0, slots := 0, locals := 65 } : Room) D ct ad [.ref u] (x8W u a r q ++ (svW ct r b nx sz S ++ (sobjW a ++ (gridW ct a M ++ (benchW ct a M ++ (logW ct a M ++ (txtW ct q TX tl pl ft wd n1 n2))))))) (zD (some (.int (zI (sp_bits M)))) (x8W u a r q ++ (svW ct r b nx sz S ++ (sobjW a ++ (gridW ct a M ++ (benchW ct a M ++ (logW ct a M ++ (txtW ct q TX tl pl ft wd n1 n2)))))))) := by
  refine ZM.of (cc := cX8_balanceBits) (maxL := 3) (ret := (some .int)) (by decide +kernel) rfl (Nat.le_of_ble_eq_true rfl) ?_
  intro p e s m below meth c A ls hx hb hr hts hown hlocks hml hname hE hP hD hA hS hl
  have hK := hE.1
  have hf_0 := hts (.fieldLink RX8 10 "RodGrids" "state" "LRodGrids$State;") (by decide +kernel)
  have hf_1 := hts (.fieldLink RX8 30 "RodGrids$State" "grid" "LRodGrids$Grid;") (by decide +kernel)
  have hin_X6 : ∀ z ∈ u_ws RX6 TX6 3, z ∈ wsX8_balanceBits := by decide +kernel
  have hin_X8 : ∀ z ∈ u_ws RX8 TX8 3, z ∈ wsX8_balanceBits := by decide +kernel
  have hl : lv_has ls 3 [(0, .ref u)] := hl
  have hI := hs.1
  have hB := hs.2.1
  have ha := hs.2.2
  have i3 := hI.1
  have i4 := hI.2.1
  have j0 := hB.1
  have j1 := hB.2.1
  have j2 := hB.2.2.1
  have j4 := hB.2.2.2.2
  have b2 := sp_sumB hI (M 4).toNat (by omega)
  have b1 := sp_balB hI (M 4).toNat (by omega)
  refine lv_aload_n hx hb dX8_balanceBits_0 rfl (lv_at hl 0 rfl) ?_
  refine va_get (D := D) (ci := 6) (v := .ref (a 0)) (C := RX8) (T := TX8) (N := 3) hx hb hts hin_X8 hown hK hP 0 rfl rfl 0 (by decide) hf_0 (fun _ h9 => h9) rfl dX8_balanceBits_1 ?_
  refine va_get (D := D) (ci := 5) (v := .ref (a 1)) (C := RX6) (T := TX6) (N := 3) hx hb hts hin_X6 hown hK hP 47 rfl rfl 0 (by decide) hf_1 (fun _ h9 => h9) rfl dX8_balanceBits_4 ?_
  refine z_callV (C := RX4) (q0 := 0) (ci := 3) (As := []) (rest := []) (x8W u a r q ++ (svW ct r b nx sz S ++ (sobjW a))) (benchW ct a M ++ (logW ct a M ++ (txtW ct q TX tl pl ft wd n1 n2))) hx hb hml hown hts hl hE hS hA hP hD (c_X4_sumOfLengths l D ct ad a M (by assumption)) gX8_balanceBits_X4_sumOfLengths rfl rfl k_X4_sumOfLengths ⟨Nat.le_of_ble_eq_true rfl, Nat.le_of_ble_eq_true rfl⟩ rfl rfl rfl rfl (Nat.le_of_ble_eq_true rfl) ⟨Nat.le_of_ble_eq_true rfl, Nat.le_of_ble_eq_true rfl⟩ dX8_balanceBits_7 rfl (fun v w1 H locs hpost hP hD hS => ?_)
  obtain ⟨rfl, rfl⟩ := hpost
  have hP : va_P D vwCl (x8W u a r q ++ (svW ct r b nx sz S ++ (sobjW a ++ (gridW ct a M ++ (benchW ct a M ++ (logW ct a M ++ (txtW ct q TX tl pl ft wd n1 n2))))))) H := hP
  have hD : va_D A (x8W u a r q ++ (svW ct r b nx sz S ++ (sobjW a ++ (gridW ct a M ++ (benchW ct a M ++ (logW ct a M ++ (txtW ct q TX tl pl ft wd n1 n2))))))) := hD
  refine W.eq (g2 := F0 m 10 ls [.long (zJ (sp_sumN M (M 4).toNat))]) rfl ?_
  refine lv_lstore_n (lv' := [(1, .long (zJ (sp_sumN M (M 4).toNat))), (0, .ref u)]) hx hb dX8_balanceBits_10 rfl hl (by decide) rfl (fun ls hl => ?_)
  refine lv_lload_n hx hb dX8_balanceBits_11 rfl (lv_at hl 0 rfl) ?_
  refine z_lconst (z := 0) hx hb dX8_balanceBits_12 rfl ?_
  refine z_lcmp_ne (tgt := 21) hx hb dX8_balanceBits_13 dX8_balanceBits_14 (by decide) (by omega) (by omega) (fun hc_13 => ?_) (fun hc_13 => ?_)
  · have hc_13 := hc_13
    refine lv_aload_n hx hb dX8_balanceBits_21 rfl (lv_at hl 1 rfl) ?_
    refine va_get (D := D) (ci := 6) (v := .ref (a 0)) (C := RX8) (T := TX8) (N := 3) hx hb hts hin_X8 hown hK hP 0 rfl rfl 0 (by decide) hf_0 (fun _ h9 => h9) rfl dX8_balanceBits_22 ?_
    refine va_get (D := D) (ci := 5) (v := .ref (a 1)) (C := RX6) (T := TX6) (N := 3) hx hb hts hin_X6 hown hK hP 47 rfl rfl 0 (by decide) hf_1 (fun _ h9 => h9) rfl dX8_balanceBits_25 ?_
    refine z_callV (C := RX4) (q0 := 0) (ci := 3) (As := []) (rest := []) (x8W u a r q ++ (svW ct r b nx sz S ++ (sobjW a))) (benchW ct a M ++ (logW ct a M ++ (txtW ct q TX tl pl ft wd n1 n2))) hx hb hml hown hts hl hE hS hA hP hD (c_X4_balanceOfRods l D ct ad a M (by assumption)) gX8_balanceBits_X4_balanceOfRods rfl rfl k_X4_balanceOfRods ⟨Nat.le_of_ble_eq_true rfl, Nat.le_of_ble_eq_true rfl⟩ rfl rfl rfl rfl (Nat.le_of_ble_eq_true rfl) ⟨Nat.le_of_ble_eq_true rfl, Nat.le_of_ble_eq_true rfl⟩ dX8_balanceBits_28 rfl (fun v w1 H locs hpost hP hD hS => ?_)
    obtain ⟨rfl, rfl⟩ := hpost
    have hP : va_P D vwCl (x8W u a r q ++ (svW ct r b nx sz S ++ (sobjW a ++ (gridW ct a M ++ (benchW ct a M ++ (logW ct a M ++ (txtW ct q TX tl pl ft wd n1 n2))))))) H := hP
    have hD : va_D A (x8W u a r q ++ (svW ct r b nx sz S ++ (sobjW a ++ (gridW ct a M ++ (benchW ct a M ++ (logW ct a M ++ (txtW ct q TX tl pl ft wd n1 n2))))))) := hD
    refine W.eq (g2 := F0 m 31 ls [.long (zJ (sp_balN M (M 4).toNat))]) rfl ?_
    refine lv_l2f hx hb dX8_balanceBits_31 ?_
    refine lv_lload_n hx hb dX8_balanceBits_32 rfl (lv_at hl 0 rfl) ?_
    refine lv_l2f hx hb dX8_balanceBits_33 ?_
    refine lv_fdiv hx hb dX8_balanceBits_34 ((sp_flN hI hz).1) ?_
    refine z_canF (show FP.fdiv (FP.l2f (zJ (sp_balN M (M 4).toNat))) (FP.l2f (zJ (sp_sumN M (M 4).toNat))) = FP.fconst0 from hfl) ?_
    refine z_callS (As := [.float FP.fconst0]) (rest := []) ([] : va_W) (x8W u a r q ++ (svW ct r b nx sz S ++ (sobjW a ++ (gridW ct a M ++ (benchW ct a M ++ (logW ct a M ++ (txtW ct q TX tl pl ft wd n1 n2))))))) hx hb hml hown hts hl hE hS hA hP hD (c_X8_bitsOf_0 l D ct ad ) gX8_balanceBits_X8_bitsOf rfl k_X8_bitsOf ⟨Nat.le_of_ble_eq_true rfl, Nat.le_of_ble_eq_true rfl⟩ rfl (Nat.le_of_ble_eq_true rfl) ⟨Nat.le_of_ble_eq_true rfl, Nat.le_of_ble_eq_true rfl⟩ dX8_balanceBits_35 rfl (fun v w1 H locs hpost hP hD hS => ?_)
    obtain ⟨rfl, rfl⟩ := hpost
    have hP : va_P D vwCl (x8W u a r q ++ (svW ct r b nx sz S ++ (sobjW a ++ (gridW ct a M ++ (benchW ct a M ++ (logW ct a M ++ (txtW ct q TX tl pl ft wd n1 n2))))))) H := hP
    have hD : va_D A (x8W u a r q ++ (svW ct r b nx sz S ++ (sobjW a ++ (gridW ct a M ++ (benchW ct a M ++ (logW ct a M ++ (txtW ct q TX tl pl ft wd n1 n2))))))) := hD
    refine W.eq (g2 := F0 m 38 ls [.int (zI 0)]) rfl ?_
    exact z_iret hx hb hr hlocks hP hD hS ⟨Nat.le_of_ble_eq_true rfl, Nat.le_of_ble_eq_true rfl⟩ dX8_balanceBits_38 (⟨congrArg (fun z => some (Value.int (zI z))) ((sp_bits_0 hz hfl).symm), rfl⟩)
  · have hc_13 := hc_13
    exact absurd hc_13 hz
set_option maxHeartbeats 4000000 in
set_option maxRecDepth 100000 in
theorem c_X8_balanceBits_z (l : Launch) (D : va_G) (ct ad : Nat → Nat) (u : Nat) (a r q : Nat → Nat) (b : Nat → Nat → Nat) (nx sz : Int) (S : Nat → Int → Int) (M TX : Int → Int) (tl pl ft n1 n2 : Int) (wd : Value) (hs : sInv M) (hz : sp_sumN M (M 4).toNat = 0) : ZM l yX8_balanceBits wsX8_balanceBits ({ frames := 3, cells := 0, slots := 0, locals := 65 } : Room) D ct ad [.ref u] (x8W u a r q ++ (svW ct r b nx sz S ++ (sobjW a ++ (gridW ct a M ++ (benchW ct a M ++ (logW ct a M ++ (txtW ct q TX tl pl ft wd n1 n2))))))) (zD (some (.int (zI (sp_bits M)))) (x8W u a r q ++ (svW ct r b nx sz S ++ (sobjW a ++ (gridW ct a M ++ (benchW ct a M ++ (logW ct a M ++ (txtW ct q TX tl pl ft wd n1 n2)))))))) := by
  refine ZM.of (cc := cX8_balanceBits) (maxL := 3) (ret := (some .int)) (by decide +kernel) rfl (Nat.le_of_ble_eq_true rfl) ?_
  intro p e s m below meth c A ls hx hb hr hts hown hlocks hml hname hE hP hD hA hS hl
  have hK := hE.1
  have hf_0 := hts (.fieldLink RX8 10 "RodGrids" "state" "LRodGrids$State;") (by decide +kernel)
  have hf_1 := hts (.fieldLink RX8 30 "RodGrids$State" "grid" "LRodGrids$Grid;") (by decide +kernel)
  have hin_X6 : ∀ z ∈ u_ws RX6 TX6 3, z ∈ wsX8_balanceBits := by decide +kernel
  have hin_X8 : ∀ z ∈ u_ws RX8 TX8 3, z ∈ wsX8_balanceBits := by decide +kernel
  have hl : lv_has ls 3 [(0, .ref u)] := hl
  have hI := hs.1
  have hB := hs.2.1
  have ha := hs.2.2
  have i3 := hI.1
  have i4 := hI.2.1
  have j0 := hB.1
  have j1 := hB.2.1
  have j2 := hB.2.2.1
  have j4 := hB.2.2.2.2
  have b2 := sp_sumB hI (M 4).toNat (by omega)
  have b1 := sp_balB hI (M 4).toNat (by omega)
  refine lv_aload_n hx hb dX8_balanceBits_0 rfl (lv_at hl 0 rfl) ?_
  refine va_get (D := D) (ci := 6) (v := .ref (a 0)) (C := RX8) (T := TX8) (N := 3) hx hb hts hin_X8 hown hK hP 0 rfl rfl 0 (by decide) hf_0 (fun _ h9 => h9) rfl dX8_balanceBits_1 ?_
  refine va_get (D := D) (ci := 5) (v := .ref (a 1)) (C := RX6) (T := TX6) (N := 3) hx hb hts hin_X6 hown hK hP 47 rfl rfl 0 (by decide) hf_1 (fun _ h9 => h9) rfl dX8_balanceBits_4 ?_
  refine z_callV (C := RX4) (q0 := 0) (ci := 3) (As := []) (rest := []) (x8W u a r q ++ (svW ct r b nx sz S ++ (sobjW a))) (benchW ct a M ++ (logW ct a M ++ (txtW ct q TX tl pl ft wd n1 n2))) hx hb hml hown hts hl hE hS hA hP hD (c_X4_sumOfLengths l D ct ad a M (by assumption)) gX8_balanceBits_X4_sumOfLengths rfl rfl k_X4_sumOfLengths ⟨Nat.le_of_ble_eq_true rfl, Nat.le_of_ble_eq_true rfl⟩ rfl rfl rfl rfl (Nat.le_of_ble_eq_true rfl) ⟨Nat.le_of_ble_eq_true rfl, Nat.le_of_ble_eq_true rfl⟩ dX8_balanceBits_7 rfl (fun v w1 H locs hpost hP hD hS => ?_)
  obtain ⟨rfl, rfl⟩ := hpost
  have hP : va_P D vwCl (x8W u a r q ++ (svW ct r b nx sz S ++ (sobjW a ++ (gridW ct a M ++ (benchW ct a M ++ (logW ct a M ++ (txtW ct q TX tl pl ft wd n1 n2))))))) H := hP
  have hD : va_D A (x8W u a r q ++ (svW ct r b nx sz S ++ (sobjW a ++ (gridW ct a M ++ (benchW ct a M ++ (logW ct a M ++ (txtW ct q TX tl pl ft wd n1 n2))))))) := hD
  refine W.eq (g2 := F0 m 10 ls [.long (zJ (sp_sumN M (M 4).toNat))]) rfl ?_
  refine lv_lstore_n (lv' := [(1, .long (zJ (sp_sumN M (M 4).toNat))), (0, .ref u)]) hx hb dX8_balanceBits_10 rfl hl (by decide) rfl (fun ls hl => ?_)
  refine lv_lload_n hx hb dX8_balanceBits_11 rfl (lv_at hl 0 rfl) ?_
  refine z_lconst (z := 0) hx hb dX8_balanceBits_12 rfl ?_
  refine z_lcmp_ne (tgt := 21) hx hb dX8_balanceBits_13 dX8_balanceBits_14 (by decide) (by omega) (by omega) (fun hc_13 => ?_) (fun hc_13 => ?_)
  · have hc_13 := hc_13
    exact absurd hz hc_13
  · have hc_13 := hc_13
    refine z_iconst hx hb dX8_balanceBits_17 ?_
    refine lv_goto (tgt := 38) hx hb dX8_balanceBits_18 (by decide) ?_
    exact z_iret hx hb hr hlocks hP hD hS ⟨Nat.le_of_ble_eq_true rfl, Nat.le_of_ble_eq_true rfl⟩ dX8_balanceBits_38 (⟨congrArg (fun z => some (Value.int (zI z))) ((if_pos hz).symm), rfl⟩)
set_option maxHeartbeats 4000000 in
set_option maxRecDepth 100000 in
theorem c_X8_balanceBits (l : Launch) (D : va_G) (ct ad : Nat → Nat) (u : Nat) (a r q : Nat → Nat) (b : Nat → Nat → Nat) (nx sz : Int) (S : Nat → Int → Int) (M TX : Int → Int) (tl pl ft n1 n2 : Int) (wd : Value) (hs : sInv M) : ZM l yX8_balanceBits wsX8_balanceBits ({ frames := 3, cells := 0, slots := 0, locals := 65 } : Room) D ct ad [.ref u] (x8W u a r q ++ (svW ct r b nx sz S ++ (sobjW a ++ (gridW ct a M ++ (benchW ct a M ++ (logW ct a M ++ (txtW ct q TX tl pl ft wd n1 n2))))))) (zD (some (.int (zI (sp_bits M)))) (x8W u a r q ++ (svW ct r b nx sz S ++ (sobjW a ++ (gridW ct a M ++ (benchW ct a M ++ (logW ct a M ++ (txtW ct q TX tl pl ft wd n1 n2)))))))) := by
  have hI := hs.1
  by_cases hz : sp_sumN M (M 4).toNat = 0
  · exact c_X8_balanceBits_z l D ct ad u a r q b nx sz S M TX tl pl ft n1 n2 wd hs hz
  · rcases sp_flC hI hz with q1 | ⟨E, T, hE, hT, q1⟩ | ⟨E, T, hE, hT, q1⟩
    · exact c_X8_balanceBits_0 l D ct ad u a r q b nx sz S M TX tl pl ft n1 n2 wd hs hz q1
    · exact c_X8_balanceBits_p l D ct ad u a r q b nx sz S M TX tl pl ft n1 n2 wd E T hs hE hT hz q1
    · exact c_X8_balanceBits_n l D ct ad u a r q b nx sz S M TX tl pl ft n1 n2 wd E T hs hE hT hz q1
