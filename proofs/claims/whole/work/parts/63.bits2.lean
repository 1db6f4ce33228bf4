theorem sp_bits_p {M : Int → Int} {E T : Int} (hz : sp_sumN M (M 4).toNat ≠ 0) (hfl : sp_fl M = fbit E T) (hEe : 60 ≤ E ∧ E ≤ 200) (hT : 0 ≤ T ∧ T < 8388608) : sp_bits M = E * 8388608 + T := by
  unfold sp_bits
  rw [if_neg hz, hfl, fb_i32 (by omega) hT, zI_toInt (by omega)]
theorem sp_bits_n {M : Int → Int} {E T : Int} (hz : sp_sumN M (M 4).toNat ≠ 0) (hfl : sp_fl M = fbitn E T) (hEe : 60 ≤ E ∧ E ≤ 200) (hT : 0 ≤ T ∧ T < 8388608) : sp_bits M = E * 8388608 + T - 2147483648 := by
  unfold sp_bits
  rw [if_neg hz, hfl, fb_i32n (by omega) hT, zI_toInt (by omega)]
theorem sp_bits_0 {M : Int → Int} (hz : sp_sumN M (M 4).toNat ≠ 0) (hfl : sp_fl M = FP.fconst0) : sp_bits M = 0 := by
  unfold sp_bits
  rw [if_neg hz, hfl]
  rfl
theorem k_X4_sumOfLengths : yX4_sumOfLengths.cls ≠ "java/lang/invoke/MethodHandle" ∧ yX4_sumOfLengths.cls ≠ "java/lang/invoke/VarHandle" ∧ (parseMethodDescriptor yX4_sumOfLengths.desc).map (fun d => d.parameters.length) = some 0 := by decide +kernel
theorem k_X8_bitsOf : yX8_bitsOf.cls ≠ "java/lang/invoke/MethodHandle" ∧ yX8_bitsOf.cls ≠ "java/lang/invoke/VarHandle" ∧ (parseMethodDescriptor yX8_bitsOf.desc).map (fun d => d.parameters.length) = some 1 := by decide +kernel
set_option maxHeartbeats 4000000 in
set_option maxRecDepth 100000 in
theorem c_X8_balanceBits_p (l : Launch) (D : va_G) (ct ad : Nat → Nat) (u : Nat) (a r q : Nat → Nat) (b : Nat → Nat → Nat) (nx sz : Int) (S : Nat → Int → Int) (M TX : Int → Int) (tl pl ft n1 n2 : Int) (wd : Value) (E T : Int) (hs : sInv M) (hEe : 60 ≤ E ∧ E ≤ 200) (hT : 0 ≤ T ∧ T < 8388608) (hz : sp_sumN M (M 4).toNat ≠ 0) (hfl : sp_fl M = fbit E T) : ZM l yX8_balanceBits wsX8_balanceBits ({ frames := 3, cells := 0, slots := 0, locals := 65 } : Room) D ct ad [.ref u] (x8W u a r q ++ (svW ct r b nx sz S ++ (sobjW a ++ (gridW ct a M ++ (benchW ct a M ++ (logW ct a M ++ (txtW ct q TX tl pl ft wd n1 n2))))))) (zD (some (.int (zI (sp_bits M)))) (x8W u a r q ++ (svW ct r b nx sz S ++ (sobjW a ++ (gridW ct a M ++ (benchW ct a M ++ (logW ct a M ++ (txtW ct q TX tl pl ft wd n1 n2)))))))) := by
  refine ZM.of (cc := cX8_balanceBits) (maxL := 3) (ret := (some .int)) (by decide +kernel) rfl (Nat.le_of_ble_eq_true rfl) ?_
  intro p e s m below meth c A ls hx hb hr hts hown hlocks hml hname hE hP hD hA hS hl
  have hK := hE.1
  have hf_0 := hts (.fieldLink RX8 10 "RodGrids" "state" "LRodGrids$State;") (by decide +kernel)
  have hf_1 := hts (.fieldLink RX8 30 "RodGrids$State" "grid" "LRodGrids$Grid;") (by decide +kernel)
  have hin_X6 : ∀ z ∈ u_ws RX6 TX6 3, z ∈ wsX8_balanceBits := by decide +kernel
  have hin_X8 : ∀ z ∈ u_ws RX8 TX8 3, z ∈ wsX8_balanceBits := by decide +kernel
  have hl : lv_has ls 3 [(0, .ref u)] := hl
  have hI := hs.1
  have hB := hs.2.1
  have ha := hs.2.2
  have i3 := hI.1
  have i4 := hI.2.1
  have j0 := hB.1
  have j1 := hB.2.1
  have j2 := hB.2.2.1
  have j4 := hB.2.2.2.2
  have b2 := sp_sumB hI (M 4).toNat (by omega)
  have b1 := sp_balB hI (M 4).toNat (by omega)
  refine lv_aload_n hx hb dX8_balanceBits_0 rfl (lv_at hl 0 rfl) ?_
  refine va_get (D := D) (ci := 6) (v := .ref (a 0)) (C := RX8) (T := TX8) (N := 3) hx hb hts hin_X8 hown hK hP 0 rfl rfl 0 (by decide) hf_0 (fun _ h9 => h9) rfl dX8_balanceBits_1 ?_
  refine va_get (D := D) (ci := 5) (v := .ref (a 1)) (C := RX6) (T := TX6) (N := 3) hx hb hts hin_X6 hown hK hP 47 rfl rfl 0 (by decide) hf_1 (fun _ h9 => h9) rfl dX8_balanceBits_4 ?_
  refine z_callV (C := RX4) (q0 := 0) (ci := 3) (As := []) (rest := []) (x8W u a r q ++ (svW ct r b nx sz S ++ (sobjW a))) (benchW ct a M ++ (logW ct a M ++ (txtW ct q TX tl pl ft wd n1 n2))) hx hb hml hown hts hl hE hS hA hP hD (c_X4_sumOfLengths l D ct ad a M (by assumption)) gX8_balanceBits_X4_sumOfLengths rfl rfl k_X4_sumOfLengths ⟨Nat.le_of_ble_eq_true rfl, Nat.le_of_ble_eq_true rfl⟩ rfl rfl rfl rfl (Nat.le_of_ble_eq_true rfl) ⟨Nat.le_of_ble_eq_true rfl, Nat.le_of_ble_eq_true rfl⟩ dX8_balanceBits_7 rfl (fun v w1 H locs hpost hP hD hS => ?_)
  obtain ⟨rfl, rfl⟩ := hpost
  have hP : va_P D vwCl (x8W u a r q ++ (svW ct r b nx sz S ++ (sobjW a ++ (gridW ct a M ++ (benchW ct a M ++ (logW ct a M ++ (txtW ct q TX tl pl ft wd n1 n2))))))) H := hP
  have hD : va_D A (x8W u a r q ++ (svW ct r b nx sz S ++ (sobjW a ++ (gridW ct a M ++ (benchW ct a M ++ (logW ct a M ++ (txtW ct q TX tl pl ft wd n1 n2))))))) := hD
  refine W.eq (g2 := F0 m 10 ls [.long (zJ (sp_sumN M (M 4).toNat))]) rfl ?_
  refine lv_lstore_n (lv' := [(1, .long (zJ (sp_sumN M (M 4).toNat))), (0, .ref u)]) hx hb dX8_balanceBits_10 rfl hl (by decide) rfl (fun ls hl => ?_)
  refine lv_lload_n hx hb dX8_balanceBits_11 rfl (lv_at hl 0 rfl) ?_
  refine z_lconst (z := 0) hx hb dX8_balanceBits_12 rfl ?_
  refine z_lcmp_ne (tgt := 21) hx hb dX8_balanceBits_13 dX8_balanceBits_14 (by decide) (by omega) (by omega) (fun hc_13 => ?_) (fun hc_13 => ?_)
  · have hc_13 := hc_13
    refine lv_aload_n hx hb dX8_balanceBits_21 rfl (lv_at hl 1 rfl) ?_
    refine va_get (D := D) (ci := 6) (v := .ref (a 0)) (C := RX8) (T := TX8) (N := 3) hx hb hts hin_X8 hown hK hP 0 rfl rfl 0 (by decide) hf_0 (fun _ h9 => h9) rfl dX8_balanceBits_22 ?_
    refine va_get (D := D) (ci := 5) (v := .ref (a 1)) (C := RX6) (T := TX6) (N := 3) hx hb hts hin_X6 hown hK hP 47 rfl rfl 0 (by decide) hf_1 (fun _ h9 => h9) rfl dX8_balanceBits_25 ?_
    refine z_callV (C := RX4) (q0 := 0) (ci := 3) (As := []) (rest := []) (x8W u a r q ++ (svW ct r b nx sz S ++ (sobjW a))) (benchW ct a M ++ (logW ct a M ++ (txtW ct q TX tl pl ft wd n1 n2))) hx hb hml hown hts hl hE hS hA hP hD (c_X4_balanceOfRods l D ct ad a M (by assumption)) gX8_balanceBits_X4_balanceOfRods rfl rfl k_X4_balanceOfRods ⟨Nat.le_of_ble_eq_true rfl, Nat.le_of_ble_eq_true rfl⟩ rfl rfl rfl rfl (Nat.le_of_ble_eq_true rfl) ⟨Nat.le_of_ble_eq_true rfl, Nat.le_of_ble_eq_true rfl⟩ dX8_balanceBits_28 rfl (fun v w1 H locs hpost hP hD hS => ?_)
    obtain ⟨rfl, rfl⟩ := hpost
    have hP : va_P D vwCl (x8W u a r q ++ (svW ct r b nx sz S ++ (sobjW a ++ (gridW ct a M ++ (benchW ct a M ++ (logW ct a M ++ (txtW ct q TX tl pl ft wd n1 n2))))))) H := hP
    have hD : va_D A (x8W u a r q ++ (svW ct r b nx sz S ++ (sobjW a ++ (gridW ct a M ++ (benchW ct a M ++ (logW ct a M ++ (txtW ct q TX tl pl ft wd n1 n2))))))) := hD
    refine W.eq (g2 := F0 m 31 ls [.long (zJ (sp_balN M (M 4).toNat))]) rfl ?_
    refine lv_l2f hx hb dX8_balanceBits_31 ?_
    refine lv_lload_n hx hb dX8_balanceBits_32 rfl (lv_at hl 0 rfl) ?_
    refine lv_l2f hx hb dX8_balanceBits_33 ?_
    refine lv_fdiv hx hb dX8_balanceBits_34 ((sp_flN hI hz).1) ?_
    refine z_canF (show FP.fdiv (FP.l2f (zJ (sp_balN M (M 4).toNat))) (FP.l2f (zJ (sp_sumN M (M 4).toNat))) = fbit E T from hfl) ?_
    refine z_callS (As := [.float (fbit E T)]) (rest := []) ([] : va_W) (x8W u a r q ++ (svW ct r b nx sz S ++ (sobjW a ++ (gridW ct a M ++ (benchW ct a M ++ (logW ct a M ++ (txtW ct q TX tl pl ft wd n1 n2))))))) hx hb hml hown hts hl hE hS hA hP hD (c_X8_bitsOf_p l D ct ad E T hEe hT) gX8_balanceBits_X8_bitsOf rfl k_X8_bitsOf ⟨Nat.le_of_ble_eq_true rfl, Nat.le_of_ble_eq_true rfl⟩ rfl (Nat.le_of_ble_eq_true rfl) ⟨Nat.le_of_ble_eq_true rfl, Nat.le_of_ble_eq_true rfl⟩ dX8_balanceBits_35 rfl (fun v w1 H locs hpost hP hD hS => ?_)
    obtain ⟨rfl, rfl⟩ := hpost
    have hP : va_P D vwCl (x8W u a r q ++ (svW ct r b nx sz S ++ (sobjW a ++ (gridW ct a M ++ (benchW ct a M ++ (logW ct a M ++ (txtW ct q TX tl pl ft wd n1 n2))))))) H := hP
    have hD : va_D A (x8W u a r q ++ (svW ct r b nx sz S ++ (sobjW a ++ (gridW ct a M ++ (benchW ct a M ++ (logW ct a M ++ (txtW ct q TX tl pl ft wd n1 n2))))))) := hD
    refine W.eq (g2 := F0 m 38 ls [.int (zI (E * 8388608 + T))]) rfl ?_
    exact z_iret hx hb hr hlocks hP hD hS ⟨Nat.le_of_ble_eq_true rfl, Nat.le_of_ble_eq_true rfl⟩ dX8_balanceBits_38 (⟨congrArg (fun z => some (Value.int (zI z))) ((sp_bits_p hz hfl hEe hT).symm), rfl⟩)
  · have hc_13 := hc_13
    exact absurd hc_13 hz
set_option maxHeartbeats 4000000 in
set_option maxRecDepth 100000 in
theorem c_X8_balanceBits_n (l : Launch) (D : va_G) (ct ad : Nat → Nat) (u : Nat) (a r q : Nat → Nat) (b : Nat → Nat → Nat) (nx sz : Int) (S : Nat → Int → Int) (M TX : Int → Int) (tl pl ft n1 n2 : Int) (wd : Value) (E T : Int) (hs : sInv M) (hEe : 60 ≤ E ∧ E ≤ 200) (hT : 0 ≤ T ∧ T < 8388608) (hz : sp_sumN M (M 4).toNat ≠ 0) (hfl : sp_fl M = fbitn E T) : ZM l yX8_balanceBits wsX8_balanceBits ({ frames := 3, cells := 0, slots := 0, locals := 65 } : Room) D ct ad [.ref u] (x8W u a r q ++ (svW ct r b nx sz S ++ (sobjW a ++ (gridW ct a M ++ (benchW ct a M ++ (logW ct a M ++ (txtW ct q TX tl pl ft wd n1 n2))))))) (zD (some (.int (zI (sp_bits M)))) (x8W u a r q ++ (svW ct r b nx sz S ++ (sobjW a ++ (gridW ct a M ++ (benchW ct a M ++ (logW ct a M ++ (txtW ct q TX tl pl ft wd n1 n2)))))))) := by
  refine ZM.of (cc := cX8_balanceBits) (maxL := 3) (ret := (some .int)) (by decide +kernel) rfl (Nat.le_of_ble_eq_true rfl) ?_
  intro p e s m below meth c A ls hx hb hr hts hown hlocks hml hname hE hP hD hA hS hl
  have hK := hE.1
  have hf_0 := hts (.fieldLink RX8 10 "RodGrids" "state" "LRodGrids$State;") (by decide +kernel)
  have hf_1 := hts (.fieldLink RX8 30 "RodGrids$State" "grid" "LRodGrids$Grid;") (by decide +kernel)
  have hin_X6 : ∀ z ∈ u_ws RX6 TX6 3, z ∈ wsX8_balanceBits := by decide +kernel
  have hin_X8 : ∀ z ∈ u_ws RX8 TX8 3, z ∈ wsX8_balanceBits := by decide +kernel
  have hl : lv_has ls 3 [(0, .ref u)] := hl
  have hI := hs.1
  have hB := hs.2.1
  have ha := hs.2.2
  have i3 := hI.1
  have i4 := hI.2.1
  have j0 := hB.1
  have j1 := hB.2.1
  have j2 := hB.2.2.1
  have j4 := hB.2.2.2.2
  have b2 := sp_sumB hI (M 4).toNat (by omega)
  have b1 := sp_balB hI (M 4).toNat (by omega)
  refine lv_aload_n hx hb dX8_balanceBits_0 rfl (lv_at hl 0 rfl) ?_
  refine va_get (D := D) (ci := 6) (v := .ref (a 0)) (C := RX8) (T := TX8) (N := 3) hx hb hts hin_X8 hown hK hP 0 rfl rfl 0 (by decide) hf_0 (fun _ h9 => h9) rfl dX8_balanceBits_1 ?_
  refine va_get (D := D) (ci := 5) (v := .ref (a 1)) (C := RX6) (T := TX6) (N := 3) hx hb hts hin_X6 hown hK hP 47 rfl rfl 0 (by decide) hf_1 (fun _ h9 => h9) rfl dX8_balanceBits_4 ?_
  refine z_callV (C := RX4) (q0 := 0) (ci := 3) (As := []) (rest := []) (x8W u a r q ++ (svW ct r b nx sz S ++ (sobjW a))) (benchW ct a M ++ (logW ct a M ++ (txtW ct q TX tl pl ft wd n1 n2))) hx hb hml hown hts hl hE hS hA hP hD (c_X4_sumOfLengths l D ct ad a M (by assumption)) gX8_balanceBits_X4_sumOfLengths rfl rfl k_X4_sumOfLengths ⟨Nat.le_of_ble_eq_true rfl, Nat.le_of_ble_eq_true rfl⟩ rfl rfl rfl rfl (Nat.le_of_ble_eq_true rfl) ⟨Nat.le_of_ble_eq_true rfl, Nat.le_of_ble_eq_true rfl⟩ dX8_balanceBits_7 rfl (fun v w1 H locs hpost hP hD hS => ?_)
  obtain ⟨rfl, rfl⟩ := hpost
  have hP : va_P D vwCl (x8W u a r q ++ (svW ct r b nx sz S ++ (sobjW a ++ (gridW ct a M ++ (benchW ct a M ++ (logW ct a M ++ (txtW ct q TX tl pl ft wd n1 n2))))))) H := hP
  have hD : va_D A (x8W u a r q ++ (svW ct r b nx sz S ++ (sobjW a ++ (gridW ct a M ++ (benchW ct a M ++ (logW ct a M ++ (txtW ct q TX tl pl ft wd n1 n2))))))) := hD
  refine W.eq (g2 := F0 m 10 ls [.long (zJ (sp_sumN M (M 4).toNat))]) rfl ?_
  refine lv_lstore_n (lv' := [(1, .long (zJ (sp_sumN M (M 4).toNat))), (0, .ref u)]) hx hb dX8_balanceBits_10 rfl hl (by decide) rfl (fun ls hl => ?_)
  refine lv_lload_n hx hb dX8_balanceBits_11 rfl (lv_at hl 0 rfl) ?_
  refine z_lconst (z := 0) hx hb dX8_balanceBits_12 rfl ?_
  refine z_lcmp_ne (tgt := 21) hx hb dX8_balanceBits_13 dX8_balanceBits_14 (by decide) (by omega) (by omega) (fun hc_13 => ?_) (fun hc_13 => ?_)
  · have hc_13 := hc_13
    refine lv_aload_n hx hb dX8_balanceBits_21 rfl (lv_at hl 1 rfl) ?_
    refine va_get (D := D) (ci := 6) (v := .ref (a 0)) (C := RX8) (T := TX8) (N := 3) hx hb hts hin_X8 hown hK hP 0 rfl rfl 0 (by decide) hf_0 (fun _ h9 => h9) rfl dX8_balanceBits_22 ?_
    refine va_get (D := D) (ci := 5) (v := .ref (a 1)) (C := RX6) (T := TX6) (N := 3) hx hb hts hin_X6 hown hK hP 47 rfl rfl 0 (by decide) hf_1 (fun _ h9 => h9) rfl dX8_balanceBits_25 ?_
    refine z_callV (C := RX4) (q0 := 0) (ci := 3) (As := []) (rest := []) (x8W u a r q ++ (svW ct r b nx sz S ++ (sobjW a))) (benchW ct a M ++ (logW ct a M ++ (txtW ct q TX tl pl ft wd n1 n2))) hx hb hml hown hts hl hE hS hA hP hD (c_X4_balanceOfRods l D ct ad a M (by assumption)) gX8_balanceBits_X4_balanceOfRods rfl rfl k_X4_balanceOfRods ⟨Nat.le_of_ble_eq_true rfl, Nat.le_of_ble_eq_true rfl⟩ rfl rfl rfl rfl (Nat.le_of_ble_eq_true rfl) ⟨Nat.le_of_ble_eq_true rfl, Nat.le_of_ble_eq_true rfl⟩ dX8_balanceBits_28 rfl (fun v w1 H locs hpost hP hD hS => ?_)
    obtain ⟨rfl, rfl⟩ := hpost
    have hP : va_P D vwCl (x8W u a r q ++ (svW ct r b nx sz S ++ (sobjW a ++ (gridW ct a M ++ (benchW ct a M ++ (logW ct a M ++ (txtW ct q TX tl pl ft wd n1 n2))))))) H := hP
    have hD : va_D A (x8W u a r q ++ (svW ct r b nx sz S ++ (sobjW a ++ (gridW ct a M ++ (benchW ct a M ++ (logW ct a M ++ (txtW ct q TX tl pl ft wd n1 n2))))))) := hD
    refine W.eq (g2 := F0 m 31 ls [.long (zJ (sp_balN M (M 4).toNat))]) rfl ?_
    refine lv_l2f hx hb dX8_balanceBits_31 ?_
    refine lv_lload_n hx hb dX8_balanceBits_32 rfl (lv_at hl 0 rfl) ?_
    refine lv_l2f hx hb dX8_balanceBits_33 ?_
    refine lv_fdiv hx hb dX8_balanceBits_34 ((sp_flN hI hz).1) ?_
    refine z_canF (show FP.fdiv (FP.l2f (zJ (sp_balN M (M 4).toNat))) (FP.l2f (zJ (sp_sumN M (M 4).toNat))) = fbitn E T from hfl) ?_
    refine z_callS (As := [.float (fbitn E T)]) (rest := []) ([] : va_W) (x8W u a r q ++ (svW ct r b nx sz S ++ (sobjW a ++ (gridW ct a M ++ (benchW ct a M ++ (logW ct a M ++ (txtW ct q TX tl pl ft wd n1 n2))))))) hx hb hml hown hts hl hE hS hA hP hD (c_X8_bitsOf_n l D ct ad E T hEe hT) gX8_balanceBits_X8_bitsOf rfl k_X8_bitsOf ⟨Nat.le_of_ble_eq_true rfl, Nat.le_of_ble_eq_true rfl⟩ rfl (Nat.le_of_ble_eq_true rfl) ⟨Nat.le_of_ble_eq_true rfl, Nat.le_of_ble_eq_true rfl⟩ dX8_balanceBits_35 rfl (fun v w1 H locs hpost hP hD hS => ?_)
    obtain ⟨rfl, rfl⟩ := hpost
    have hP : va_P D vwCl (x8W u a r q ++ (svW ct r b nx sz S ++ (sobjW a ++ (gridW ct a M ++ (benchW ct a M ++ (logW ct a M ++ (txtW ct q TX tl pl ft wd n1 n2))))))) H := hP
    have hD : va_D A (x8W u a r q ++ (svW ct r b nx sz S ++ (sobjW a ++ (gridW ct a M ++ (benchW ct a M ++ (logW ct a M ++ (txtW ct q TX tl pl ft wd n1 n2))))))) := hD
    refine W.eq (g2 := F0 m 38 ls [.int (zI (E * 8388608 + T - 2147483648))]) rfl ?_
    exact z_iret hx hb hr hlocks hP hD hS ⟨Nat.le_of_ble_eq_true rfl, Nat.le_of_ble_eq_true rfl⟩ dX8_balanceBits_38 (⟨congrArg (fun z => some (Value.int (zI z))) ((sp_bits_n hz hfl hEe hT).symm), rfl⟩)
  · have hc_13 := hc_13
    exact absurd hc_13 hz
set_option maxHeartbeats 4000000 in
set_option maxRecDepth 100000 in
theorem c_X8_balanceBits_0 (l : Launch) (D : va_G) (ct ad : Nat → Nat) (u : Nat) (a r q : Nat → Nat) (b : Nat → Nat → Nat) (nx sz : Int) (S : Nat → Int → Int) (M TX : Int → Int) (tl pl ft n1 n2 : Int) (wd : Value) (hs : sInv M) (hz : sp_sumN M (M 4).toNat ≠ 0) (hfl : sp_fl M = FP.fconst0) : ZM l yX8_balanceBits wsX8_balanceBits ({ frames := 3, cells := 0, slots := 0, locals := 65 } : Room) D ct ad [.ref u] (x8W u a r q ++ (svW ct r b nx sz S ++ (sobjW a ++ (gridW ct a M ++ (benchW ct a M ++ (logW ct a M ++ (txtW ct q TX tl pl ft wd n1 n2))))))) (zD (some (.int (zI (sp_bits M)))) (x8W u a r q ++ (svW ct r b nx sz S ++ (sobjW a ++ (gridW ct a M ++ (benchW ct a M ++ (logW ct a M ++ (txtW ct q TX tl pl ft wd n1 n2)))))))) := by
  refine ZM.of (cc := cX8_balanceBits) (maxL := 3) (ret := (some .int)) (by decide +kernel) rfl (Nat.le_of_ble_eq_true rfl) ?_
  intro p e s m below meth c A ls hx hb hr hts hown hlocks hml hname hE hP hD hA hS hl
  have hK := hE.1
  have hf_0 := hts (.fieldLink RX8 10 "RodGrids" "state" "LRodGrids$State;") (by decide +kernel)
  have hf_1 := hts (.fieldLink RX8 30 "RodGrids$State" "grid" "LRodGrids$Grid;") (by decide +kernel)
  have hin_X6 : ∀ z ∈ u_ws RX6 TX6 3, z ∈ wsX8_balanceBits := by decide +kernel
  have hin_X8 : ∀ z ∈ u_ws RX8 TX8 3, z ∈ wsX8_balanceBits := by decide +kernel
  have hl : lv_has ls 3 [(0, .ref u)] := hl
  have hI := hs.1
  have hB := hs.2.1
  have ha := hs.2.2
  have i3 := hI.1
  have i4 := hI.2.1
  have j0 := hB.1
  have j1 := hB.2.1
  have j2 := hB.2.2.1
  have j4 := hB.2.2.2.2
  have b2 := sp_sumB hI (M 4).toNat (by omega)
  have b1 := sp_balB hI (M 4).toNat (by omega)
  refine lv_aload_n hx hb dX8_balanceBits_0 rfl (lv_at hl 0 rfl) ?_
  refine va_get (D := D) (ci := 6) (v := .ref (a 0)) (C := RX8) (T := TX8) (N := 3) hx hb hts hin_X8 hown hK hP 0 rfl rfl 0 (by decide) hf_0 (fun _ h9 => h9) rfl dX8_balanceBits_1 ?_
  refine va_get (D := D) (ci := 5) (v := .ref (a 1)) (C := RX6) (T := TX6) (N := 3) hx hb hts hin_X6 hown hK hP 47 rfl rfl 0 (by decide) hf_1 (fun _ h9 => h9) rfl dX8_balanceBits_4 ?_
  refine z_callV (C := RX4) (q0 := 0) (ci := 3) (As := []) (rest := []) (x8W u a r q ++ (svW ct r b nx sz S ++ (sobjW a))) (benchW ct a M ++ (logW ct a M ++ (txtW ct q TX tl pl ft wd n1 n2))) hx hb hml hown hts hl hE hS hA hP hD (c_X4_sumOfLengths l D ct ad a M (by assumption)) gX8_balanceBits_X4_sumOfLengths rfl rfl k_X4_sumOfLengths ⟨Nat.le_of_ble_eq_true rfl, Nat.le_of_ble_eq_true rfl⟩ rfl rfl rfl rfl (Nat.le_of_ble_eq_true rfl) ⟨Nat.le_of_ble_eq_true rfl, Nat.le_of_ble_eq_true rfl⟩ dX8_balanceBits_7 rfl (fun v w1 H locs hpost hP hD hS => ?_)
  obtain ⟨rfl, rfl⟩ := hpost
  have hP : va_P D vwCl (x8W u a r q ++ (svW ct r b nx sz S ++ (sobjW a ++ (gridW ct a M ++ (benchW ct a M ++ (logW ct a M ++ (txtW ct q TX tl pl ft wd n1 n2))))))) H := hP
  have hD : va_D A (x8W u a r q ++ (svW ct r b nx sz S ++ (sobjW a ++ (gridW ct a M ++ (benchW ct a M ++ (logW ct a M ++ (txtW ct q TX tl pl ft wd n1 n2))))))) := hD
  refine W.eq (g2 := F0 m 10 ls [.long (zJ (sp_sumN M (M 4).toNat))]) rfl ?_
  refine lv_lstore_n (lv' := [(1, .long (zJ (sp_sumN M (M 4).toNat))), (0, .ref u)]) hx hb dX8_balanceBits_10 rfl hl (by decide) rfl (fun ls hl => ?_)
  refine lv_lload_n hx hb dX8_balanceBits_11 rfl (lv_at hl 0 rfl) ?_
  refine z_lconst (z := 0) hx hb dX8_balanceBits_12 rfl ?_
  refine z_lcmp_ne (tgt := 21) hx hb dX8_balanceBits_13 dX8_balanceBits_14 (by decide) (by omega) (by omega) (fun hc_13 => ?_) (fun hc_13 => ?_)
  · have hc_13 := hc_13
    refine lv_aload_n hx hb dX8_balanceBits_21 rfl (lv_at hl 1 rfl) ?_
    refine va_get (D := D) (ci := 6) (v := .ref (a 0)) (C := RX8) (T := TX8) (N := 3) hx hb hts hin_X8 hown hK hP 0 rfl rfl 0 (by decide) hf_0 (fun _ h9 => h9) rfl dX8_balanceBits_22 ?_
    refine va_get (D := D) (ci := 5) (v := .ref (a 1)) (C := RX6) (T := TX6) (N := 3) hx hb hts hin_X6 hown hK hP 47 rfl rfl 0 (by decide) hf_1 (fun _ h9 => h9) rfl dX8_balanceBits_25 ?_
    refine z_callV (C := RX4) (q0 := 0) (ci := 3) (As := []) (rest := []) (x8W u a r q ++ (svW ct r b nx sz S ++ (sobjW a))) (benchW ct a M ++ (logW ct a M ++ (txtW ct q TX tl pl ft wd n1 n2))) hx hb hml hown hts hl hE hS hA hP hD (c_X4_balanceOfRods l D ct ad a M (by assumption)) gX8_balanceBits_X4_balanceOfRods rfl rfl k_X4_balanceOfRods ⟨Nat.le_of_ble_eq_true rfl, Nat.le_of_ble_eq_true rfl⟩ rfl rfl rfl rfl (Nat.le_of_ble_eq_true rfl) ⟨Nat.le_of_ble_eq_true rfl, Nat.le_of_ble_eq_true rfl⟩ dX8_balanceBits_28 rfl (fun v w1 H locs hpost hP hD hS => ?_)
    obtain ⟨rfl, rfl⟩ := hpost
    have hP : va_P D vwCl (x8W u a r q ++ (svW ct r b nx sz S ++ (sobjW a ++ (gridW ct a M ++ (benchW ct a M ++ (logW ct a M ++ (txtW ct q TX tl pl ft wd n1 n2))))))) H := hP
    have hD : va_D A (x8W u a r q ++ (svW ct r b nx sz S ++ (sobjW a ++ (gridW ct a M ++ (benchW ct a M ++ (logW ct a M ++ (txtW ct q TX tl pl ft wd n1 n2))))))) := hD
    refine W.eq (g2 := F0 m 31 ls [.long (zJ (sp_balN M (M 4).toNat))]) rfl ?_
    refine lv_l2f hx hb dX8_balanceBits_31 ?_
    refine lv_lload_n hx hb dX8_balanceBits_32 rfl (lv_at hl 0 rfl) ?_
    refine lv_l2f hx hb dX8_balanceBits_33 ?_
    refine lv_fdiv hx hb dX8_balanceBits_34 ((sp_flN hI hz).1) ?_
    refine z_canF (show FP.fdiv (FP.l2f (zJ (sp_balN M (M 4).toNat))) (FP.l2f (zJ (sp_sumN M (M 4).toNat))) = FP.fconst0 from hfl) ?_
    refine z_callS (As := [.float FP.fconst0]) (rest := []) ([] : va_W) (x8W u a r q ++ (svW ct r b nx sz S ++ (sobjW a ++ (gridW ct a M ++ (benchW ct a M ++ (logW ct a M ++ (txtW ct q TX tl pl ft wd n1 n2))))))) hx hb hml hown hts hl hE hS hA hP hD (c_X8_bitsOf_0 l D ct ad ) gX8_balanceBits_X8_bitsOf rfl k_X8_bitsOf ⟨Nat.le_of_ble_eq_true rfl, Nat.le_of_ble_eq_true rfl⟩ rfl (Nat.le_of_ble_eq_true rfl) ⟨Nat.le_of_ble_eq_true rfl, Nat.le_of_ble_eq_true rfl⟩ dX8_balanceBits_35 rfl (fun v w1 H locs hpost hP hD hS => ?_)
    obtain ⟨rfl, rfl⟩ := hpost
    have hP : va_P D vwCl (x8W u a r q ++ (svW ct r b nx sz S ++ (sobjW a ++ (gridW ct a M ++ (benchW ct a M ++ (logW ct a M ++ (txtW ct q TX tl pl ft wd n1 n2))))))) H := hP
    have hD : va_D A (x8W u a r q ++ (svW ct r b nx sz S ++ (sobjW a ++ (gridW ct a M ++ (benchW ct a M ++ (logW ct a M ++ (txtW ct q TX tl pl ft wd n1 n2))))))) := hD
    refine W.eq (g2 := F0 m 38 ls [.int (zI 0)]) rfl ?_
    exact z_iret hx hb hr hlocks hP hD hS ⟨Nat.le_of_ble_eq_true rfl, Nat.le_of_ble_eq_true rfl⟩ dX8_balanceBits_38 (⟨congrArg (fun z => some (Value.int (zI z))) ((sp_bits_0 hz hfl).symm), rfl⟩)
  · have hc_13 := hc_13
    exact absurd hc_13 hz
set_option maxHeartbeats 4000000 in
set_option maxRecDepth 100000 in
theorem c_X8_balanceBits_z (l : Launch) (D : va_G) (ct ad : Nat → Nat) (u : Nat) (a r q : Nat → Nat) (b : Nat → Nat → Nat) (nx sz : Int) (S : Nat → Int → Int) (M TX : Int → Int) (tl pl ft n1 n2 : Int) (wd : Value) (hs : sInv M) (hz : sp_sumN M (M 4).toNat = 0) : ZM l yX8_balanceBits wsX8_balanceBits ({ frames := 3, cells := 0, slots := 0, locals := 65 } : Room) D ct ad [.ref u] (x8W u a r q ++ (svW ct r b nx sz S ++ (sobjW a ++ (gridW ct a M ++ (benchW ct a M ++ (logW ct a M ++ (txtW ct q TX tl pl ft wd n1 n2))))))) (zD (some (.int (zI (sp_bits M)))) (x8W u a r q ++ (svW ct r b nx sz S ++ (sobjW a ++ (gridW ct a M ++ (benchW ct a M ++ (logW ct a M ++ (txtW ct q TX tl pl ft wd n1 n2)))))))) := by
  refine ZM.of (cc := cX8_balanceBits) (maxL := 3) (ret := (some .int)) (by decide +kernel) rfl (Nat.le_of_ble_eq_true rfl) ?_
  intro p e s m below meth c A ls hx hb hr hts hown hlocks hml hname hE hP hD hA hS hl
  have hK := hE.1
  have hf_0 := hts (.fieldLink RX8 10 "RodGrids" "state" "LRodGrids$State;") (by decide +kernel)
  have hf_1 := hts (.fieldLink RX8 30 "RodGrids$State" "grid" "LRodGrids$Grid;") (by decide +kernel)
  have hin_X6 : ∀ z ∈ u_ws RX6 TX6 3, z ∈ wsX8_balanceBits := by decide +kernel
  have hin_X8 : ∀ z ∈ u_ws RX8 TX8 3, z ∈ wsX8_balanceBits := by decide +kernel
  have hl : lv_has ls 3 [(0, .ref u)] := hl
  have hI := hs.1
  have hB := hs.2.1
  have ha := hs.2.2
  have i3 := hI.1
  have i4 := hI.2.1
  have j0 := hB.1
  have j1 := hB.2.1
  have j2 := hB.2.2.1
  have j4 := hB.2.2.2.2
  have b2 := sp_sumB hI (M 4).toNat (by omega)
  have b1 := sp_balB hI (M 4).toNat (by omega)
  refine lv_aload_n hx hb dX8_balanceBits_0 rfl (lv_at hl 0 rfl) ?_
  refine va_get (D := D) (ci := 6) (v := .ref (a 0)) (C := RX8) (T := TX8) (N := 3) hx hb hts hin_X8 hown hK hP 0 rfl rfl 0 (by decide) hf_0 (fun _ h9 => h9) rfl dX8_balanceBits_1 ?_
  refine va_get (D := D) (ci := 5) (v := .ref (a 1)) (C := RX6) (T := TX6) (N := 3) hx hb hts hin_X6 hown hK hP 47 rfl rfl 0 (by decide) hf_1 (fun _ h9 => h9) rfl dX8_balanceBits_4 ?_
  refine z_callV (C := RX4) (q0 := 0) (ci := 3) (As := []) (rest := []) (x8W u a r q ++ (svW ct r b nx sz S ++ (sobjW a))) (benchW ct a M ++ (logW ct a M ++ (txtW ct q TX tl pl ft wd n1 n2))) hx hb hml hown hts hl hE hS hA hP hD (c_X4_sumOfLengths l D ct ad a M (by assumption)) gX8_balanceBits_X4_sumOfLengths rfl rfl k_X4_sumOfLengths ⟨Nat.le_of_ble_eq_true rfl, Nat.le_of_ble_eq_true rfl⟩ rfl rfl rfl rfl (Nat.le_of_ble_eq_true rfl) ⟨Nat.le_of_ble_eq_true rfl, Nat.le_of_ble_eq_true rfl⟩ dX8_balanceBits_7 rfl (fun v w1 H locs hpost hP hD hS => ?_)
  obtain ⟨rfl, rfl⟩ := hpost
  have hP : va_P D vwCl (x8W u a r q ++ (svW ct r b nx sz S ++ (sobjW a ++ (gridW ct a M ++ (benchW ct a M ++ (logW ct a M ++ (txtW ct q TX tl pl ft wd n1 n2))))))) H := hP
  have hD : va_D A (x8W u a r q ++ (svW ct r b nx sz S ++ (sobjW a ++ (gridW ct a M ++ (benchW ct a M ++ (logW ct a M ++ (txtW ct q TX tl pl ft wd n1 n2))))))) := hD
  refine W.eq (g2 := F0 m 10 ls [.long (zJ (sp_sumN M (M 4).toNat))]) rfl ?_
  refine lv_lstore_n (lv' := [(1, .long (zJ (sp_sumN M (M 4).toNat))), (0, .ref u)]) hx hb dX8_balanceBits_10 rfl hl (by decide) rfl (fun ls hl => ?_)
  refine lv_lload_n hx hb dX8_balanceBits_11 rfl (lv_at hl 0 rfl) ?_
  refine z_lconst (z := 0) hx hb dX8_balanceBits_12 rfl ?_
  refine z_lcmp_ne (tgt := 21) hx hb dX8_balanceBits_13 dX8_balanceBits_14 (by decide) (by omega) (by omega) (fun hc_13 => ?_) (fun hc_13 => ?_)
  · have hc_13 := hc_13
    exact absurd hz hc_13
  · have hc_13 := hc_13
    refine z_iconst hx hb dX8_balanceBits_17 ?_
    refine lv_goto (tgt := 38) hx hb dX8_balanceBits_18 (by decide) ?_
    exact z_iret hx hb hr hlocks hP hD hS ⟨Nat.le_of_ble_eq_true rfl, Nat.le_of_ble_eq_true rfl⟩ dX8_balanceBits_38 (⟨congrArg (fun z => some (Value.int (zI z))) ((if_pos hz).symm), rfl⟩)
set_option maxHeartbeats 4000000 in
set_option maxRecDepth 100000 in
theorem c_X8_balanceBits (l : Launch) (D : va_G) (ct ad : Nat → Nat) (u : Nat) (a r q : Nat → Nat) (b : Nat → Nat → Nat) (nx sz : Int) (S : Nat → Int → Int) (M TX : Int → Int) (tl pl ft n1 n2 : Int) (wd : Value) (hs : sInv M) : ZM l yX8_balanceBits wsX8_balanceBits ({ frames := 3, cells := 0, slots := 0, locals := 65 } : Room) D ct ad [.ref u] (x8W u a r q ++ (svW ct r b nx sz S ++ (sobjW a ++ (gridW ct a M ++ (benchW ct a M ++ (logW ct a M ++ (txtW ct q TX tl pl ft wd n1 n2))))))) (zD (some (.int (zI (sp_bits M)))) (x8W u a r q ++ (svW ct r b nx sz S ++ (sobjW a ++ (gridW ct a M ++ (benchW ct a M ++ (logW ct a M ++ (txtW ct q TX tl pl ft wd n1 n2)))))))) := by
  have hI := hs.1
  by_cases hz : sp_sumN M (M 4).toNat = 0
  · exact c_X8_balanceBits_z l D ct ad u a r q b nx sz S M TX tl pl ft n1 n2 wd hs hz
  · rcases sp_flC hI hz with q1 | ⟨E, T, hE, hT, q1⟩ | ⟨E, T, hE, hT, q1⟩
    · exact c_X8_balanceBits_0 l D ct ad u a r q b nx sz S M TX tl pl ft n1 n2 wd hs hz q1
    · exact c_X8_balanceBits_p l D ct ad u a r q b nx sz S M TX tl pl ft n1 n2 wd E T hs hE hT hz q1
    · exact c_X8_balanceBits_n l D ct ad u a r q b nx sz S M TX tl pl ft n1 n2 wd E T hs hE hT hz q1
theorem k_Jxf58ca_floatToIntBits_5c35a : yJxf58ca_floatToIntBits_5c35a.cls ≠ "java/lang/invoke/MethodHandle" ∧ yJxf58ca_floatToIntBits_5c35a.cls ≠ "java/lang/invoke/VarHandle" ∧ (parseMethodDescriptor yJxf58ca_floatToIntBits_5c35a.desc).map (fun d => d.parameters.length) = some 1 := by decide +kernel
set_option maxHeartbeats 4000000 in
set_option maxRecDepth 100000 in
theorem c_X9_bitsNow_n (l : Launch) (D : va_G) (ct ad : Nat → Nat) (b : Nat → Nat) (M SP SV TX NB : Int → Int) (sc tl cd pl cm h : Int) (hI : gInv M) (hB : bInv M) (hz : sp_sumN M (M 4).toNat ≠ 0) : ZM l yX9_bitsNow wsX9_bitsNow ({ frames := 3, cells := 0, slots := 0, locals := 65 } : Room) D ct ad [.ref (b 0)] (moW b sc tl cd pl cm h ++ (jrW ct (b 1) 94 M ++ (jrW ct (b 2) 94 SP ++ (jrW ct (b 3) 376 SV ++ (irW ct (b 4) 150 TX ++ (irW ct (b 5) 2 NB)))))) (zD (some (.int (zI (sp_bits M)))) (moW b sc tl cd pl cm h ++ (jrW ct (b 1) 94 M ++ (jrW ct (b 2) 94 SP ++ (jrW ct (b 3) 376 SV ++ (irW ct (b 4) 150 TX ++ (irW ct (b 5) 2 NB))))))) := by
  refine ZM.of (cc := cX9_bitsNow) (maxL := 4) (ret := (some .int)) (by decide +kernel) rfl (Nat.le_of_ble_eq_true rfl) ?_
  intro p e s m below meth c A ls hx hb hr hts hown hlocks hml hname hE hP hD hA hS hl
  have hK := hE.1
  have hf_0 := hts (.fieldLink RX9 7 "RodGridsModel" "m" "[J") (by decide +kernel)
  have hin_X9 : ∀ z ∈ u_ws RX9 TX9 11, z ∈ wsX9_bitsNow := by decide +kernel
  have hl : lv_has ls 4 [(0, .ref (b 0))] := hl
  have i3 := hI.1
  have i4 := hI.2.1
  have j0 := hB.1
  have j1 := hB.2.1
  have j2 := hB.2.2.1
  have j4 := hB.2.2.2.2
  have b2 := sp_sumB hI (M 4).toNat (by omega)
  refine z_lconst (z := 0) hx hb dX9_bitsNow_0 rfl ?_
  refine lv_lstore_n (lv' := [(1, .long (zJ 0)), (0, .ref (b 0))]) hx hb dX9_bitsNow_1 rfl hl (by decide) rfl (fun ls hl => ?_)
  refine z_iconst hx hb dX9_bitsNow_2 ?_
  refine lv_istore_n (lv' := [(3, .int (zI 0)), (1, .long (zJ 0)), (0, .ref (b 0))]) hx hb dX9_bitsNow_3 rfl hl (by decide) rfl (fun ls hl => ?_)
  refine z_loop (σ := Int × Int) (fun q9 => (M 4 - q9.1).toNat) (fun q9 => (0 ≤ q9.1 ∧ q9.1 ≤ M 4) ∧ (q9.2 = sp_sumN M q9.1.toNat)) (fun q9 => moW b sc tl cd pl cm h ++ (jrW ct (b 1) 94 M ++ (jrW ct (b 2) 94 SP ++ (jrW ct (b 3) 376 SV ++ (irW ct (b 4) 150 TX ++ (irW ct (b 5) 2 NB)))))) (fun q9 => [(0, .ref (b 0)), (1, .long (zJ q9.2)), (3, .int (zI q9.1))]) (fun q9 => []) (0, 0) ⟨(show 0 ≤ 0 ∧ 0 ≤ M 4 from (by omega)), (show 0 = sp_sumN M (0 : Int).toNat from (by rfl))⟩ hP hD hS (lv_sub hl [2, 1, 0] rfl) rfl ?_
  rintro ⟨i, s_⟩ hI_4 ih_4 H locs ls hP hD hS hl
  obtain ⟨hi, hs_⟩ := hI_4
  have hi : 0 ≤ i ∧ i ≤ M 4 := hi
  have hs_ : s_ = sp_sumN M i.toNat := hs_
  have hP : va_P D vwCl (moW b sc tl cd pl cm h ++ (jrW ct (b 1) 94 M ++ (jrW ct (b 2) 94 SP ++ (jrW ct (b 3) 376 SV ++ (irW ct (b 4) 150 TX ++ (irW ct (b 5) 2 NB)))))) H := hP
  have hD : va_D A (moW b sc tl cd pl cm h ++ (jrW ct (b 1) 94 M ++ (jrW ct (b 2) 94 SP ++ (jrW ct (b 3) 376 SV ++ (irW ct (b 4) 150 TX ++ (irW ct (b 5) 2 NB)))))) := hD
  have hl : lv_has ls 4 [(0, .ref (b 0)), (1, .long (zJ s_)), (3, .int (zI i))] := hl
  refine lv_iload_n hx hb dX9_bitsNow_4 rfl (lv_at hl 2 rfl) ?_
  refine lv_aload_n hx hb dX9_bitsNow_5 rfl (lv_at hl 0 rfl) ?_
  refine z_iconst hx hb dX9_bitsNow_6 ?_
  refine z_callV (C := RX9) (q0 := 0) (ci := 7) (As := [.int (zI 4)]) (rest := [.int (zI i)]) ([] : va_W) ([] : va_W) hx hb hml hown hts hl hE hS hA (zr0 ([] : va_W) hP) (zr0D ([] : va_W) hD) (c_X9_of l D ct ad b M SP SV TX NB sc tl cd pl cm h 4 (by omega)) gX9_bitsNow_X9_of rfl rfl k_X9_of ⟨Nat.le_of_ble_eq_true rfl, Nat.le_of_ble_eq_true rfl⟩ rfl rfl rfl rfl (Nat.le_of_ble_eq_true rfl) ⟨Nat.le_of_ble_eq_true rfl, Nat.le_of_ble_eq_true rfl⟩ dX9_bitsNow_7 rfl (fun v w1 H locs hpost hP hD hS => ?_)
  obtain ⟨rfl, rfl⟩ := hpost
  have hP := zr0' hP
  have hD := zr0D' hD
  have hP : va_P D vwCl (moW b sc tl cd pl cm h ++ (jrW ct (b 1) 94 M ++ (jrW ct (b 2) 94 SP ++ (jrW ct (b 3) 376 SV ++ (irW ct (b 4) 150 TX ++ (irW ct (b 5) 2 NB)))))) H := hP
  have hD : va_D A (moW b sc tl cd pl cm h ++ (jrW ct (b 1) 94 M ++ (jrW ct (b 2) 94 SP ++ (jrW ct (b 3) 376 SV ++ (irW ct (b 4) 150 TX ++ (irW ct (b 5) 2 NB)))))) := hD
  refine W.eq (g2 := F0 m 10 ls [.int (zI (M 4)), .int (zI i)]) rfl ?_
  refine z_icmp_ge (tgt := 35) hx hb dX9_bitsNow_10 (by decide) (by omega) (by omega) (fun hc_10 => ?_) (fun hc_10 => ?_)
  · have hc_10 := hc_10
    have sE : s_ = sp_sumN M (M 4).toNat := by rw [hs_, show i = M 4 by omega]
    refine lv_lload_n hx hb dX9_bitsNow_35 rfl (lv_at hl 1 rfl) ?_
    refine z_lconst (z := 0) hx hb dX9_bitsNow_36 rfl ?_
    refine z_lcmp_ne (tgt := 45) hx hb dX9_bitsNow_37 dX9_bitsNow_38 (by decide) (by omega) (by omega) (fun hc_37 => ?_) (fun hc_37 => ?_)
    · have hc_37 := hc_37
      refine lv_aload_n hx hb dX9_bitsNow_45 rfl (lv_at hl 0 rfl) ?_
      refine z_callV (C := RX9) (q0 := 0) (ci := 7) (As := []) (rest := []) ([] : va_W) ([] : va_W) hx hb hml hown hts hl hE hS hA (zr0 ([] : va_W) hP) (zr0D ([] : va_W) hD) (c_X9_balanceNow l D ct ad b M SP SV TX NB sc tl cd pl cm h (by assumption)) gX9_bitsNow_X9_balanceNow rfl rfl k_X9_balanceNow ⟨Nat.le_of_ble_eq_true rfl, Nat.le_of_ble_eq_true rfl⟩ rfl rfl rfl rfl (Nat.le_of_ble_eq_true rfl) ⟨Nat.le_of_ble_eq_true rfl, Nat.le_of_ble_eq_true rfl⟩ dX9_bitsNow_46 rfl (fun v w1 H locs hpost hP hD hS => ?_)
      obtain ⟨rfl, rfl⟩ := hpost
      have hP := zr0' hP
      have hD := zr0D' hD
      have hP : va_P D vwCl (moW b sc tl cd pl cm h ++ (jrW ct (b 1) 94 M ++ (jrW ct (b 2) 94 SP ++ (jrW ct (b 3) 376 SV ++ (irW ct (b 4) 150 TX ++ (irW ct (b 5) 2 NB)))))) H := hP
      have hD : va_D A (moW b sc tl cd pl cm h ++ (jrW ct (b 1) 94 M ++ (jrW ct (b 2) 94 SP ++ (jrW ct (b 3) 376 SV ++ (irW ct (b 4) 150 TX ++ (irW ct (b 5) 2 NB)))))) := hD
      refine W.eq (g2 := F0 m 49 ls [.long (zJ (sp_bal M))]) rfl ?_
      refine lv_l2f hx hb dX9_bitsNow_49 ?_
      refine lv_lload_n hx hb dX9_bitsNow_50 rfl (lv_at hl 1 rfl) ?_
      refine lv_l2f hx hb dX9_bitsNow_51 ?_
      refine lv_fdiv hx hb dX9_bitsNow_52 (by rw [sE]; exact (sp_flN hI hz).1) ?_
      refine z_canF (show FP.fdiv (FP.l2f (zJ (sp_bal M))) (FP.l2f (zJ s_)) = (sp_fl M) from (by rw [sE]; rfl)) ?_
      refine z_callS (As := [.float (sp_fl M)]) (rest := []) ([] : va_W) (moW b sc tl cd pl cm h ++ (jrW ct (b 1) 94 M ++ (jrW ct (b 2) 94 SP ++ (jrW ct (b 3) 376 SV ++ (irW ct (b 4) 150 TX ++ (irW ct (b 5) 2 NB)))))) hx hb hml hown hts hl hE hS hA hP hD (c_Jxf58ca_floatToIntBits_5c35a l D ct ad (sp_fl M) (sp_flN hI hz).2) gX9_bitsNow_Jxf58ca_floatToIntBits_5c35a rfl k_Jxf58ca_floatToIntBits_5c35a ⟨Nat.le_of_ble_eq_true rfl, Nat.le_of_ble_eq_true rfl⟩ rfl (Nat.le_of_ble_eq_true rfl) ⟨Nat.le_of_ble_eq_true rfl, Nat.le_of_ble_eq_true rfl⟩ dX9_bitsNow_53 rfl (fun v w1 H locs hpost hP hD hS => ?_)
      obtain ⟨rfl, rfl⟩ := hpost
      have hP : va_P D vwCl (moW b sc tl cd pl cm h ++ (jrW ct (b 1) 94 M ++ (jrW ct (b 2) 94 SP ++ (jrW ct (b 3) 376 SV ++ (irW ct (b 4) 150 TX ++ (irW ct (b 5) 2 NB)))))) H := hP
      have hD : va_D A (moW b sc tl cd pl cm h ++ (jrW ct (b 1) 94 M ++ (jrW ct (b 2) 94 SP ++ (jrW ct (b 3) 376 SV ++ (irW ct (b 4) 150 TX ++ (irW ct (b 5) 2 NB)))))) := hD
      refine W.eq (g2 := F0 m 56 ls [.int (sp_fl M).toInt32]) rfl ?_
      exact z_iret hx hb hr hlocks hP hD hS ⟨Nat.le_of_ble_eq_true rfl, Nat.le_of_ble_eq_true rfl⟩ dX9_bitsNow_56 (⟨congrArg (fun z => some (Value.int z)) (sp_bitsI hz).symm, rfl⟩)
    · have hc_37 := hc_37
      omega
  · have hc_10 := hc_10
    refine lv_lload_n hx hb dX9_bitsNow_13 rfl (lv_at hl 1 rfl) ?_
    refine lv_aload_n hx hb dX9_bitsNow_14 rfl (lv_at hl 0 rfl) ?_
    refine va_get (D := D) (ci := 7) (v := .ref (b 1)) (C := RX9) (T := TX9) (N := 11) hx hb hts hin_X9 hown hK hP 0 rfl rfl 0 (by decide) hf_0 (fun _ h9 => h9) rfl dX9_bitsNow_15 ?_
    refine z_bipush hx hb dX9_bitsNow_18 (by decide) ?_
    refine z_iconst hx hb dX9_bitsNow_20 ?_
    refine lv_iload_n hx hb dX9_bitsNow_21 rfl (lv_at hl 2 rfl) ?_
    refine z_imul hx hb dX9_bitsNow_22 ?_
    refine z_iadd hx hb dX9_bitsNow_23 ?_
    refine z_iconst hx hb dX9_bitsNow_24 ?_
    refine z_iadd hx hb dX9_bitsNow_25 ?_
    refine z_canI (show (22 + (3 * i)) + 2 = 24 + 3 * i from (by omega)) ?_
    refine z_lald (g := M) (v := M (24 + 3 * i)) hx hb hK hP 1 rfl (by decide) (by omega) rfl dX9_bitsNow_26 ?_
    refine z_ladd hx hb dX9_bitsNow_27 ?_
    refine lv_lstore_n (lv' := [(1, .long (zJ (s_ + (M (24 + 3 * i))))), (0, .ref (b 0)), (3, .int (zI i))]) hx hb dX9_bitsNow_28 rfl hl (by decide) rfl (fun ls hl => ?_)
    refine z_iinc (k := 2) (lv' := [(3, .int (zI (i + 1))), (1, .long (zJ (s_ + (M (24 + 3 * i))))), (0, .ref (b 0))]) hx hb dX9_bitsNow_29 hl rfl (by decide) rfl (fun ls hl => ?_)
    refine lv_goto (tgt := 4) hx hb dX9_bitsNow_32 (by decide) ?_
    exact ih_4 (i + 1, s_ + (M (24 + 3 * i))) ⟨(show 0 ≤ (i + 1) ∧ (i + 1) ≤ M 4 from (by omega)), (show (s_ + (M (24 + 3 * i))) = sp_sumN M (i + 1).toNat from (by rw [sp_sumS hi.1, ← hs_]))⟩ (show (M 4 - (i + 1)).toNat < (M 4 - i).toNat from (by omega)) _ _ _ hP hD hS (lv_sub hl [2, 1, 0] rfl)
set_option maxHeartbeats 4000000 in
set_option maxRecDepth 100000 in
theorem c_X9_bitsNow_z (l : Launch) (D : va_G) (ct ad : Nat → Nat) (b : Nat → Nat) (M SP SV TX NB : Int → Int) (sc tl cd pl cm h : Int) (hI : gInv M) (hB : bInv M) (hz : sp_sumN M (M 4).toNat = 0) : ZM l yX9_bitsNow wsX9_bitsNow ({ frames := 3, cells := 0, slots := 0, locals := 65 } : Room) D ct ad [.ref (b 0)] (moW b sc tl cd pl cm h ++ (jrW ct (b 1) 94 M ++ (jrW ct (b 2) 94 SP ++ (jrW ct (b 3) 376 SV ++ (irW ct (b 4) 150 TX ++ (irW ct (b 5) 2 NB)))))) (zD (some (.int (zI (sp_bits M)))) (moW b sc tl cd pl cm h ++ (jrW ct (b 1) 94 M ++ (jrW ct (b 2) 94 SP ++ (jrW ct (b 3) 376 SV ++ (irW ct (b 4) 150 TX ++ (irW ct (b 5) 2 NB))))))) := by
  refine ZM.of (cc := cX9_bitsNow) (maxL := 4) (ret := (some .int)) (by decide +kernel) rfl (Nat.le_of_ble_eq_true rfl) ?_
  intro p e s m below meth c A ls hx hb hr hts hown hlocks hml hname hE hP hD hA hS hl
  have hK := hE.1
  have hf_0 := hts (.fieldLink RX9 7 "RodGridsModel" "m" "[J") (by decide +kernel)
  have hin_X9 : ∀ z ∈ u_ws RX9 TX9 11, z ∈ wsX9_bitsNow := by decide +kernel
  have hl : lv_has ls 4 [(0, .ref (b 0))] := hl
  have i3 := hI.1
  have i4 := hI.2.1
  have j0 := hB.1
  have j1 := hB.2.1
  have j2 := hB.2.2.1
  have j4 := hB.2.2.2.2
  have b2 := sp_sumB hI (M 4).toNat (by omega)
  refine z_lconst (z := 0) hx hb dX9_bitsNow_0 rfl ?_
  refine lv_lstore_n (lv' := [(1, .long (zJ 0)), (0, .ref (b 0))]) hx hb dX9_bitsNow_1 rfl hl (by decide) rfl (fun ls hl => ?_)
  refine z_iconst hx hb dX9_bitsNow_2 ?_
  refine lv_istore_n (lv' := [(3, .int (zI 0)), (1, .long (zJ 0)), (0, .ref (b 0))]) hx hb dX9_bitsNow_3 rfl hl (by decide) rfl (fun ls hl => ?_)
  refine z_loop (σ := Int × Int) (fun q9 => (M 4 - q9.1).toNat) (fun q9 => (0 ≤ q9.1 ∧ q9.1 ≤ M 4) ∧ (q9.2 = sp_sumN M q9.1.toNat)) (fun q9 => moW b sc tl cd pl cm h ++ (jrW ct (b 1) 94 M ++ (jrW ct (b 2) 94 SP ++ (jrW ct (b 3) 376 SV ++ (irW ct (b 4) 150 TX ++ (irW ct (b 5) 2 NB)))))) (fun q9 => [(0, .ref (b 0)), (1, .long (zJ q9.2)), (3, .int (zI q9.1))]) (fun q9 => []) (0, 0) ⟨(show 0 ≤ 0 ∧ 0 ≤ M 4 from (by omega)), (show 0 = sp_sumN M (0 : Int).toNat from (by rfl))⟩ hP hD hS (lv_sub hl [2, 1, 0] rfl) rfl ?_
  rintro ⟨i, s_⟩ hI_4 ih_4 H locs ls hP hD hS hl
  obtain ⟨hi, hs_⟩ := hI_4
  have hi : 0 ≤ i ∧ i ≤ M 4 := hi
  have hs_ : s_ = sp_sumN M i.toNat := hs_
  have hP : va_P D vwCl (moW b sc tl cd pl cm h ++ (jrW ct (b 1) 94 M ++ (jrW ct (b 2) 94 SP ++ (jrW ct (b 3) 376 SV ++ (irW ct (b 4) 150 TX ++ (irW ct (b 5) 2 NB)))))) H := hP
  have hD : va_D A (moW b sc tl cd pl cm h ++ (jrW ct (b 1) 94 M ++ (jrW ct (b 2) 94 SP ++ (jrW ct (b 3) 376 SV ++ (irW ct (b 4) 150 TX ++ (irW ct (b 5) 2 NB)))))) := hD
  have hl : lv_has ls 4 [(0, .ref (b 0)), (1, .long (zJ s_)), (3, .int (zI i))] := hl
  refine lv_iload_n hx hb dX9_bitsNow_4 rfl (lv_at hl 2 rfl) ?_
  refine lv_aload_n hx hb dX9_bitsNow_5 rfl (lv_at hl 0 rfl) ?_
  refine z_iconst hx hb dX9_bitsNow_6 ?_
  refine z_callV (C := RX9) (q0 := 0) (ci := 7) (As := [.int (zI 4)]) (rest := [.int (zI i)]) ([] : va_W) ([] : va_W) hx hb hml hown hts hl hE hS hA (zr0 ([] : va_W) hP) (zr0D ([] : va_W) hD) (c_X9_of l D ct ad b M SP SV TX NB sc tl cd pl cm h 4 (by omega)) gX9_bitsNow_X9_of rfl rfl k_X9_of ⟨Nat.le_of_ble_eq_true rfl, Nat.le_of_ble_eq_true rfl⟩ rfl rfl rfl rfl (Nat.le_of_ble_eq_true rfl) ⟨Nat.le_of_ble_eq_true rfl, Nat.le_of_ble_eq_true rfl⟩ dX9_bitsNow_7 rfl (fun v w1 H locs hpost hP hD hS => ?_)
  obtain ⟨rfl, rfl⟩ := hpost
  have hP := zr0' hP
  have hD := zr0D' hD
  have hP : va_P D vwCl (moW b sc tl cd pl cm h ++ (jrW ct (b 1) 94 M ++ (jrW ct (b 2) 94 SP ++ (jrW ct (b 3) 376 SV ++ (irW ct (b 4) 150 TX ++ (irW ct (b 5) 2 NB)))))) H := hP
  have hD : va_D A (moW b sc tl cd pl cm h ++ (jrW ct (b 1) 94 M ++ (jrW ct (b 2) 94 SP ++ (jrW ct (b 3) 376 SV ++ (irW ct (b 4) 150 TX ++ (irW ct (b 5) 2 NB)))))) := hD
  refine W.eq (g2 := F0 m 10 ls [.int (zI (M 4)), .int (zI i)]) rfl ?_
  refine z_icmp_ge (tgt := 35) hx hb dX9_bitsNow_10 (by decide) (by omega) (by omega) (fun hc_10 => ?_) (fun hc_10 => ?_)
  · have hc_10 := hc_10
    have sE : s_ = sp_sumN M (M 4).toNat := by rw [hs_, show i = M 4 by omega]
    refine lv_lload_n hx hb dX9_bitsNow_35 rfl (lv_at hl 1 rfl) ?_
    refine z_lconst (z := 0) hx hb dX9_bitsNow_36 rfl ?_
    refine z_lcmp_ne (tgt := 45) hx hb dX9_bitsNow_37 dX9_bitsNow_38 (by decide) (by omega) (by omega) (fun hc_37 => ?_) (fun hc_37 => ?_)
    · have hc_37 := hc_37
      omega
    · have hc_37 := hc_37
      refine z_iconst hx hb dX9_bitsNow_41 ?_
      refine lv_goto (tgt := 56) hx hb dX9_bitsNow_42 (by decide) ?_
      exact z_iret hx hb hr hlocks hP hD hS ⟨Nat.le_of_ble_eq_true rfl, Nat.le_of_ble_eq_true rfl⟩ dX9_bitsNow_56 (⟨congrArg (fun z => some (Value.int (zI z))) ((if_pos hz).symm), rfl⟩)
  · have hc_10 := hc_10
    refine lv_lload_n hx hb dX9_bitsNow_13 rfl (lv_at hl 1 rfl) ?_
    refine lv_aload_n hx hb dX9_bitsNow_14 rfl (lv_at hl 0 rfl) ?_
    refine va_get (D := D) (ci := 7) (v := .ref (b 1)) (C := RX9) (T := TX9) (N := 11) hx hb hts hin_X9 hown hK hP 0 rfl rfl 0 (by decide) hf_0 (fun _ h9 => h9) rfl dX9_bitsNow_15 ?_
    refine z_bipush hx hb dX9_bitsNow_18 (by decide) ?_
    refine z_iconst hx hb dX9_bitsNow_20 ?_
    refine lv_iload_n hx hb dX9_bitsNow_21 rfl (lv_at hl 2 rfl) ?_
    refine z_imul hx hb dX9_bitsNow_22 ?_
    refine z_iadd hx hb dX9_bitsNow_23 ?_
    refine z_iconst hx hb dX9_bitsNow_24 ?_
    refine z_iadd hx hb dX9_bitsNow_25 ?_
    refine z_canI (show (22 + (3 * i)) + 2 = 24 + 3 * i from (by omega)) ?_
    refine z_lald (g := M) (v := M (24 + 3 * i)) hx hb hK hP 1 rfl (by decide) (by omega) rfl dX9_bitsNow_26 ?_
    refine z_ladd hx hb dX9_bitsNow_27 ?_
    refine lv_lstore_n (lv' := [(1, .long (zJ (s_ + (M (24 + 3 * i))))), (0, .ref (b 0)), (3, .int (zI i))]) hx hb dX9_bitsNow_28 rfl hl (by decide) rfl (fun ls hl => ?_)
    refine z_iinc (k := 2) (lv' := [(3, .int (zI (i + 1))), (1, .long (zJ (s_ + (M (24 + 3 * i))))), (0, .ref (b 0))]) hx hb dX9_bitsNow_29 hl rfl (by decide) rfl (fun ls hl => ?_)
    refine lv_goto (tgt := 4) hx hb dX9_bitsNow_32 (by decide) ?_
    exact ih_4 (i + 1, s_ + (M (24 + 3 * i))) ⟨(show 0 ≤ (i + 1) ∧ (i + 1) ≤ M 4 from (by omega)), (show (s_ + (M (24 + 3 * i))) = sp_sumN M (i + 1).toNat from (by rw [sp_sumS hi.1, ← hs_]))⟩ (show (M 4 - (i + 1)).toNat < (M 4 - i).toNat from (by omega)) _ _ _ hP hD hS (lv_sub hl [2, 1, 0] rfl)
set_option maxHeartbeats 4000000 in
set_option maxRecDepth 100000 in
theorem c_X9_bitsNow (l : Launch) (D : va_G) (ct ad : Nat → Nat) (b : Nat → Nat) (M SP SV TX NB : Int → Int) (sc tl cd pl cm h : Int) (hI : gInv M) (hB : bInv M) : ZM l yX9_bitsNow wsX9_bitsNow ({ frames := 3, cells := 0, slots := 0, locals := 65 } : Room) D ct ad [.ref (b 0)] (moW b sc tl cd pl cm h ++ (jrW ct (b 1) 94 M ++ (jrW ct (b 2) 94 SP ++ (jrW ct (b 3) 376 SV ++ (irW ct (b 4) 150 TX ++ (irW ct (b 5) 2 NB)))))) (zD (some (.int (zI (sp_bits M)))) (moW b sc tl cd pl cm h ++ (jrW ct (b 1) 94 M ++ (jrW ct (b 2) 94 SP ++ (jrW ct (b 3) 376 SV ++ (irW ct (b 4) 150 TX ++ (irW ct (b 5) 2 NB))))))) := by
  by_cases hz : sp_sumN M (M 4).toNat = 0
  · exact c_X9_bitsNow_z l D ct ad b M SP SV TX NB sc tl cd pl cm h hI hB hz
  · exact c_X9_bitsNow_n l D ct ad b M SP SV TX NB sc tl cd pl cm h hI hB hz
theorem k_X9_bitsNow : yX9_bitsNow.cls ≠ "java/lang/invoke/MethodHandle" ∧ yX9_bitsNow.cls ≠ "java/lang/invoke/VarHandle" ∧ (parseMethodDescriptor yX9_bitsNow.desc).map (fun d => d.parameters.length) = some 0 := by decide +kernel
set_option maxHeartbeats 4000000 in
set_option maxRecDepth 100000 in
theorem c_X9_balanceBits (l : Launch) (D : va_G) (ct ad : Nat → Nat) (b : Nat → Nat) (M SP SV TX NB : Int → Int) (sc tl cd pl cm h : Int) (hI : gInv M) (hB : bInv M) : ZM l yX9_balanceBits wsX9_balanceBits ({ frames := 4, cells := 0, slots := 0, locals := 88 } : Room) D ct ad [.ref (b 0)] (moW b sc tl cd pl cm h ++ (jrW ct (b 1) 94 M ++ (jrW ct (b 2) 94 SP ++ (jrW ct (b 3) 376 SV ++ (irW ct (b 4) 150 TX ++ (irW ct (b 5) 2 NB)))))) (zD (some (.int (zI (sp_bits M)))) (moW b sc tl 0 pl cm h ++ (jrW ct (b 1) 94 M ++ (jrW ct (b 2) 94 SP ++ (jrW ct (b 3) 376 SV ++ (irW ct (b 4) 150 TX ++ (irW ct (b 5) 2 NB))))))) := by
  refine ZM.of (cc := cX9_balanceBits) (maxL := 1) (ret := (some .int)) (by decide +kernel) rfl (Nat.le_of_ble_eq_true rfl) ?_
  intro p e s m below meth c A ls hx hb hr hts hown hlocks hml hname hE hP hD hA hS hl
  have hK := hE.1
  have hf_0 := hts (.fieldLink RX9 42 "RodGridsModel" "code" "I") (by decide +kernel)
  have hin_X9 : ∀ z ∈ u_ws RX9 TX9 11, z ∈ wsX9_balanceBits := by decide +kernel
  have hl : lv_has ls 1 [(0, .ref (b 0))] := hl
  have i3 := hI.1
  have i4 := hI.2.1
  have j0 := hB.1
  have j1 := hB.2.1
  have j2 := hB.2.2.1
  have j4 := hB.2.2.2.2
  refine lv_aload_n hx hb dX9_balanceBits_0 rfl (lv_at hl 0 rfl) ?_
  refine z_iconst hx hb dX9_balanceBits_1 ?_
  refine z_put (ct := ct) (ad := ad) (ci := 7) (v := .int (zI 0)) (ty := tyX9 6) (C := RX9) (T := TX9) (N := 11) (w2 := moW b sc tl 0 pl cm h ++ (jrW ct (b 1) 94 M ++ (jrW ct (b 2) 94 SP ++ (jrW ct (b 3) 376 SV ++ (irW ct (b 4) 150 TX ++ (irW ct (b 5) 2 NB)))))) hx hb hts hin_X9 tyX9 tyX9_ok nmX9 hown hE hP hD hS 0 rfl rfl 6 (by decide) hf_0 (fun _ h9 => h9) rfl (by decide +kernel) rfl rfl (Nat.le_of_ble_eq_true rfl) dX9_balanceBits_2 (rfl) (fun H locs hP hD hS => ?_)
  refine lv_aload_n hx hb dX9_balanceBits_5 rfl (lv_at hl 0 rfl) ?_
  refine z_callV (C := RX9) (q0 := 0) (ci := 7) (As := []) (rest := []) ([] : va_W) ([] : va_W) hx hb hml hown hts hl hE hS hA (zr0 ([] : va_W) hP) (zr0D ([] : va_W) hD) (c_X9_bitsNow l D ct ad b M SP SV TX NB sc tl 0 pl cm h (by assumption) (by assumption)) gX9_balanceBits_X9_bitsNow rfl rfl k_X9_bitsNow ⟨Nat.le_of_ble_eq_true rfl, Nat.le_of_ble_eq_true rfl⟩ rfl rfl rfl rfl (Nat.le_of_ble_eq_true rfl) ⟨Nat.le_of_ble_eq_true rfl, Nat.le_of_ble_eq_true rfl⟩ dX9_balanceBits_6 rfl (fun v w1 H locs hpost hP hD hS => ?_)
  obtain ⟨rfl, rfl⟩ := hpost
  have hP := zr0' hP
  have hD := zr0D' hD
  have hP : va_P D vwCl (moW b sc tl 0 pl cm h ++ (jrW ct (b 1) 94 M ++ (jrW ct (b 2) 94 SP ++ (jrW ct (b 3) 376 SV ++ (irW ct (b 4) 150 TX ++ (irW ct (b 5) 2 NB)))))) H := hP
  have hD : va_D A (moW b sc tl 0 pl cm h ++ (jrW ct (b 1) 94 M ++ (jrW ct (b 2) 94 SP ++ (jrW ct (b 3) 376 SV ++ (irW ct (b 4) 150 TX ++ (irW ct (b 5) 2 NB)))))) := hD
  refine W.eq (g2 := F0 m 9 ls [.int (zI (sp_bits M))]) rfl ?_
  exact z_iret hx hb hr hlocks hP hD hS ⟨Nat.le_of_ble_eq_true rfl, Nat.le_of_ble_eq_true rfl⟩ dX9_balanceBits_9 (⟨congrArg (fun z => some (Value.int (zI z))) (rfl), rfl⟩)
