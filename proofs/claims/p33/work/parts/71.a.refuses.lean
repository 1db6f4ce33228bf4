theorem k_L_addMetal : yL_addMetal.cls ≠ "java/lang/invoke/MethodHandle" ∧ yL_addMetal.cls ≠ "java/lang/invoke/VarHandle" ∧ (parseMethodDescriptor yL_addMetal.desc).map (fun d => d.parameters.length) = some 2 := by decide +kernel
theorem k_L_addRod : yL_addRod.cls ≠ "java/lang/invoke/MethodHandle" ∧ yL_addRod.cls ≠ "java/lang/invoke/VarHandle" ∧ (parseMethodDescriptor yL_addRod.desc).map (fun d => d.parameters.length) = some 4 := by decide +kernel
theorem k_L_changeWithin : yL_changeWithin.cls ≠ "java/lang/invoke/MethodHandle" ∧ yL_changeWithin.cls ≠ "java/lang/invoke/VarHandle" ∧ (parseMethodDescriptor yL_changeWithin.desc).map (fun d => d.parameters.length) = some 2 := by decide +kernel
theorem k_L_day : yL_day.cls ≠ "java/lang/invoke/MethodHandle" ∧ yL_day.cls ≠ "java/lang/invoke/VarHandle" ∧ (parseMethodDescriptor yL_day.desc).map (fun d => d.parameters.length) = some 3 := by decide +kernel
theorem k_L_hang : yL_hang.cls ≠ "java/lang/invoke/MethodHandle" ∧ yL_hang.cls ≠ "java/lang/invoke/VarHandle" ∧ (parseMethodDescriptor yL_hang.desc).map (fun d => d.parameters.length) = some 2 := by decide +kernel
theorem k_L_matchLength : yL_matchLength.cls ≠ "java/lang/invoke/MethodHandle" ∧ yL_matchLength.cls ≠ "java/lang/invoke/VarHandle" ∧ (parseMethodDescriptor yL_matchLength.desc).map (fun d => d.parameters.length) = some 2 := by decide +kernel
theorem k_L_pass : yL_pass.cls ≠ "java/lang/invoke/MethodHandle" ∧ yL_pass.cls ≠ "java/lang/invoke/VarHandle" ∧ (parseMethodDescriptor yL_pass.desc).map (fun d => d.parameters.length) = some 2 := by decide +kernel
theorem k_L_rangeOfRates : yL_rangeOfRates.cls ≠ "java/lang/invoke/MethodHandle" ∧ yL_rangeOfRates.cls ≠ "java/lang/invoke/VarHandle" ∧ (parseMethodDescriptor yL_rangeOfRates.desc).map (fun d => d.parameters.length) = some 3 := by decide +kernel
theorem k_L_rateAt : yL_rateAt.cls ≠ "java/lang/invoke/MethodHandle" ∧ yL_rateAt.cls ≠ "java/lang/invoke/VarHandle" ∧ (parseMethodDescriptor yL_rateAt.desc).map (fun d => d.parameters.length) = some 2 := by decide +kernel
theorem k_L_removeRod : yL_removeRod.cls ≠ "java/lang/invoke/MethodHandle" ∧ yL_removeRod.cls ≠ "java/lang/invoke/VarHandle" ∧ (parseMethodDescriptor yL_removeRod.desc).map (fun d => d.parameters.length) = some 2 := by decide +kernel
theorem k_L_rod : yL_rod.cls ≠ "java/lang/invoke/MethodHandle" ∧ yL_rod.cls ≠ "java/lang/invoke/VarHandle" ∧ (parseMethodDescriptor yL_rod.desc).map (fun d => d.parameters.length) = some 3 := by decide +kernel
theorem k_L_set : yL_set.cls ≠ "java/lang/invoke/MethodHandle" ∧ yL_set.cls ≠ "java/lang/invoke/VarHandle" ∧ (parseMethodDescriptor yL_set.desc).map (fun d => d.parameters.length) = some 3 := by decide +kernel
theorem k_L_setLength : yL_setLength.cls ≠ "java/lang/invoke/MethodHandle" ∧ yL_setLength.cls ≠ "java/lang/invoke/VarHandle" ∧ (parseMethodDescriptor yL_setLength.desc).map (fun d => d.parameters.length) = some 3 := by decide +kernel
theorem k_L_setShelf : yL_setShelf.cls ≠ "java/lang/invoke/MethodHandle" ∧ yL_setShelf.cls ≠ "java/lang/invoke/VarHandle" ∧ (parseMethodDescriptor yL_setShelf.desc).map (fun d => d.parameters.length) = some 3 := by decide +kernel
theorem k_L_setStretch : yL_setStretch.cls ≠ "java/lang/invoke/MethodHandle" ∧ yL_setStretch.cls ≠ "java/lang/invoke/VarHandle" ∧ (parseMethodDescriptor yL_setStretch.desc).map (fun d => d.parameters.length) = some 3 := by decide +kernel
theorem k_L_shelf : yL_shelf.cls ≠ "java/lang/invoke/MethodHandle" ∧ yL_shelf.cls ≠ "java/lang/invoke/VarHandle" ∧ (parseMethodDescriptor yL_shelf.desc).map (fun d => d.parameters.length) = some 2 := by decide +kernel
theorem k_L_stretch : yL_stretch.cls ≠ "java/lang/invoke/MethodHandle" ∧ yL_stretch.cls ≠ "java/lang/invoke/VarHandle" ∧ (parseMethodDescriptor yL_stretch.desc).map (fun d => d.parameters.length) = some 2 := by decide +kernel
theorem k_L_turnNut : yL_turnNut.cls ≠ "java/lang/invoke/MethodHandle" ∧ yL_turnNut.cls ≠ "java/lang/invoke/VarHandle" ∧ (parseMethodDescriptor yL_turnNut.desc).map (fun d => d.parameters.length) = some 2 := by decide +kernel
theorem k_L_type : yL_type.cls ≠ "java/lang/invoke/MethodHandle" ∧ yL_type.cls ≠ "java/lang/invoke/VarHandle" ∧ (parseMethodDescriptor yL_type.desc).map (fun d => d.parameters.length) = some 2 := by decide +kernel
theorem k_L_whole : yL_whole.cls ≠ "java/lang/invoke/MethodHandle" ∧ yL_whole.cls ≠ "java/lang/invoke/VarHandle" ∧ (parseMethodDescriptor yL_whole.desc).map (fun d => d.parameters.length) = some 2 := by decide +kernel
theorem k_X8_digest : yX8_digest.cls ≠ "java/lang/invoke/MethodHandle" ∧ yX8_digest.cls ≠ "java/lang/invoke/VarHandle" ∧ (parseMethodDescriptor yX8_digest.desc).map (fun d => d.parameters.length) = some 0 := by decide +kernel
set_option maxHeartbeats 4000000 in
set_option maxRecDepth 100000 in
theorem c_L_refuses (l : Launch) (D : va_G) (ct ad : Nat → Nat) (u : Nat) (a r q : Nat → Nat) (b : Nat → Nat → Nat) (nx sz : Int) (S : Nat → Int → Int) (M TX : Int → Int) (tl pl ft n1 n2 : Int) (wd : Value) (hs : sInv M) (ht : tInv TX tl) (hn : 0 ≤ nx ∧ nx ≤ 3) (hsz : 0 ≤ sz ∧ sz ≤ 4) (hst : l.stackTraces = false) : ZM l yL_refuses wsL_refuses ({ frames := 9, cells := 30, slots := 180, locals := 172 } : Room) D ct ad [.ref u] (x8W u a r q ++ (svW ct r b nx sz S ++ (sobjW a ++ (gridW ct a M ++ (benchW ct a M ++ (logW ct a M ++ (txtW ct q TX tl pl ft wd n1 n2))))))) (zD (some (.int (zI 1))) (x8W u a r q ++ (svW ct r b nx sz S ++ (sobjW a ++ (gridW ct a M ++ (benchW ct a M ++ (logW ct a M ++ (txtW ct q TX tl pl ft wd n1 n2)))))))) := by
  refine ZM.of (cc := cL_refuses) (maxL := 6) (ret := (some .boolean)) (by decide +kernel) rfl (Nat.le_of_ble_eq_true rfl) ?_
  intro p e s m below meth c A ls hx hb hr hts hown hlocks hml hname hE hP hD hA hS hl
  have hK := hE.1
  have hf_0 := hts (.constant RL 17 (-2100000001)) (by decide +kernel)
  have hf_1 := hts (.constant RL 27 (-2100000003)) (by decide +kernel)
  have hf_2 := hts (.constant RL 187 (2000001)) (by decide +kernel)
  have hf_3 := hts (.constantLong RL 69 (-2100000001)) (by decide +kernel)
  have hf_4 := hts (.constantLong RL 188 (-2000000000)) (by decide +kernel)
  have hl : lv_has ls 6 [(0, .ref u)] := hl
  have hI := hs.1
  have hB := hs.2.1
  have ha := hs.2.2
  have i3 := hI.1
  have i4 := hI.2.1
  have j0 := hB.1
  have j1 := hB.2.1
  have j2 := hB.2.2.1
  have j4 := hB.2.2.2.2
  have t1 := ht.1
  refine lv_aload_n hx hb dL_refuses_0 rfl (lv_at hl 0 rfl) ?_
  refine z_callV (C := RX8) (q0 := 0) (ci := 6) (As := []) (rest := []) ([] : va_W) ([] : va_W) hx hb hml hown hts hl hE hS hA (zr0 ([] : va_W) hP) (zr0D ([] : va_W) hD) (c_X8_digest l D ct ad u a r q b nx sz S M TX tl pl ft n1 n2 wd (by assumption) (by assumption) (by omega) (by omega)) gL_refuses_X8_digest rfl rfl k_X8_digest ⟨Nat.le_of_ble_eq_true rfl, Nat.le_of_ble_eq_true rfl⟩ rfl rfl rfl rfl (Nat.le_of_ble_eq_true rfl) ⟨Nat.le_of_ble_eq_true rfl, Nat.le_of_ble_eq_true rfl⟩ dL_refuses_1 rfl (fun v w1 H locs hpost hP hD hS => ?_)
  obtain ⟨rfl, rfl⟩ := hpost
  have hP := zr0' hP
  have hD := zr0D' hD
  have hP : va_P D vwCl (x8W u a r q ++ (svW ct r b nx sz S ++ (sobjW a ++ (gridW ct a M ++ (benchW ct a M ++ (logW ct a M ++ (txtW ct q TX tl pl ft wd n1 n2))))))) H := hP
  have hD : va_D A (x8W u a r q ++ (svW ct r b nx sz S ++ (sobjW a ++ (gridW ct a M ++ (benchW ct a M ++ (logW ct a M ++ (txtW ct q TX tl pl ft wd n1 n2))))))) := hD
  refine W.eq (g2 := F0 m 4 ls [.long (zJ (dgst M tl sz (sp_bits M)))]) rfl ?_
  refine lv_lstore_n (lv' := [(1, .long (zJ (dgst M tl sz (sp_bits M)))), (0, .ref u)]) hx hb dL_refuses_4 rfl hl (by decide) rfl (fun ls hl => ?_)
  refine lv_aload_n hx hb dL_refuses_5 rfl (lv_at hl 1 rfl) ?_
  refine z_iconst hx hb dL_refuses_6 ?_
  refine z_callSW (As := [.ref u, .int (zI 0)]) (rest := []) ([] : va_W) ([] : va_W) hx hb hml hown hts hl hE hS hA (zr0 ([] : va_W) hP) (zr0D ([] : va_W) hD) (c_L_whole_ok l D ct ad u a r q b nx sz S M TX tl pl ft n1 n2 wd 0 (by assumption) (by omega) (by omega)) gL_refuses_L_whole rfl k_L_whole ⟨Nat.le_of_ble_eq_true rfl, Nat.le_of_ble_eq_true rfl⟩ rfl (Nat.le_of_ble_eq_true rfl) ⟨Nat.le_of_ble_eq_true rfl, Nat.le_of_ble_eq_true rfl⟩ dL_refuses_7 rfl (fun v w1 H locs hpost hP hD hS => ?_)
  obtain ⟨rfl, rfl⟩ := hpost
  have hP := zr0' hP
  have hD := zr0D' hD
  have hP : va_P D vwCl (x8W u a r q ++ (svW ct r b nx sz S ++ (sobjW a ++ (gridW ct a M ++ (benchW ct a M ++ (logW ct a M ++ (txtW ct q TX tl pl ft wd n1 n2))))))) H := hP
  have hD : va_D A (x8W u a r q ++ (svW ct r b nx sz S ++ (sobjW a ++ (gridW ct a M ++ (benchW ct a M ++ (logW ct a M ++ (txtW ct q TX tl pl ft wd n1 n2))))))) := hD
  refine W.eq (g2 := F0 m 10 ls [.int (zI (sp_wh M tl 0))]) rfl ?_
  refine z_canI (show sp_wh M tl 0 = M 3 from rfl) ?_
  refine lv_istore_n (lv' := [(3, .int (zI (M 3))), (1, .long (zJ (dgst M tl sz (sp_bits M)))), (0, .ref u)]) hx hb dL_refuses_10 rfl hl (by decide) rfl (fun ls hl => ?_)
  refine lv_aload_n hx hb dL_refuses_11 rfl (lv_at hl 2 rfl) ?_
  refine z_iconst hx hb dL_refuses_12 ?_
  refine z_callSW (As := [.ref u, .int (zI 1)]) (rest := []) ([] : va_W) ([] : va_W) hx hb hml hown hts hl hE hS hA (zr0 ([] : va_W) hP) (zr0D ([] : va_W) hD) (c_L_whole_ok l D ct ad u a r q b nx sz S M TX tl pl ft n1 n2 wd 1 (by assumption) (by omega) (by omega)) gL_refuses_L_whole rfl k_L_whole ⟨Nat.le_of_ble_eq_true rfl, Nat.le_of_ble_eq_true rfl⟩ rfl (Nat.le_of_ble_eq_true rfl) ⟨Nat.le_of_ble_eq_true rfl, Nat.le_of_ble_eq_true rfl⟩ dL_refuses_13 rfl (fun v w1 H locs hpost hP hD hS => ?_)
  obtain ⟨rfl, rfl⟩ := hpost
  have hP := zr0' hP
  have hD := zr0D' hD
  have hP : va_P D vwCl (x8W u a r q ++ (svW ct r b nx sz S ++ (sobjW a ++ (gridW ct a M ++ (benchW ct a M ++ (logW ct a M ++ (txtW ct q TX tl pl ft wd n1 n2))))))) H := hP
  have hD : va_D A (x8W u a r q ++ (svW ct r b nx sz S ++ (sobjW a ++ (gridW ct a M ++ (benchW ct a M ++ (logW ct a M ++ (txtW ct q TX tl pl ft wd n1 n2))))))) := hD
  refine W.eq (g2 := F0 m 16 ls [.int (zI (sp_wh M tl 1))]) rfl ?_
  refine z_canI (show sp_wh M tl 1 = M 4 from rfl) ?_
  refine lv_istore (lv' := [(4, .int (zI (M 4))), (3, .int (zI (M 3))), (1, .long (zJ (dgst M tl sz (sp_bits M)))), (0, .ref u)]) hx hb dL_refuses_16 hl (by decide) rfl (fun ls hl => ?_)
  refine lv_aload_n hx hb dL_refuses_18 rfl (lv_at hl 3 rfl) ?_
  refine z_sipush hx hb dL_refuses_19 (by decide) ?_
  refine z_callSW (As := [.ref u, .int (zI 501)]) (rest := []) ([] : va_W) ([] : va_W) hx hb hml hown hts hl hE hS hA (zr0 ([] : va_W) hP) (zr0D ([] : va_W) hD) (c_L_addMetal_no l D ct ad u a r q b nx sz S M TX tl pl ft n1 n2 wd 501 (by assumption) hst (by omega) (by rw [show ck_metal M 501 = 2 from if_neg (by omega)]; decide)) gL_refuses_L_addMetal rfl k_L_addMetal ⟨Nat.le_of_ble_eq_true rfl, Nat.le_of_ble_eq_true rfl⟩ rfl (Nat.le_of_ble_eq_true rfl) ⟨Nat.le_of_ble_eq_true rfl, Nat.le_of_ble_eq_true rfl⟩ dL_refuses_22 rfl (fun v w1 H locs hpost hP hD hS => ?_)
  obtain ⟨rfl, rfl⟩ := hpost
  have hP := zr0' hP
  have hD := zr0D' hD
  have hP : va_P D vwCl (x8W u a r q ++ (svW ct r b nx sz S ++ (sobjW a ++ (gridW ct a M ++ (benchW ct a M ++ (logW ct a M ++ (txtW ct q TX tl pl ft wd n1 n2))))))) H := hP
  have hD : va_D A (x8W u a r q ++ (svW ct r b nx sz S ++ (sobjW a ++ (gridW ct a M ++ (benchW ct a M ++ (logW ct a M ++ (txtW ct q TX tl pl ft wd n1 n2))))))) := hD
  refine W.eq (g2 := F0 m 25 ls [.int (zI (exK (ck_metal M 501)))]) rfl ?_
  refine z_canI (show exK (ck_metal M 501) = (-2100000001) from (by rw [show ck_metal M 501 = 2 from if_neg (by omega)]; rfl)) ?_
  refine z_ldc hx hb (-2100000001) hown hf_0 (by decide) dL_refuses_25 ?_
  refine z_icmp_ne (tgt := 222) hx hb dL_refuses_27 (by decide) (by omega) (by omega) (fun hc_27 => ?_) (fun hc_27 => ?_)
  · have hc_27 := hc_27
    omega
  have hc_27 := hc_27
  refine lv_aload_n hx hb dL_refuses_30 rfl (lv_at hl 3 rfl) ?_
  refine z_iconst hx hb dL_refuses_31 ?_
  refine z_callSW (As := [.ref u, .int (zI (-1))]) (rest := []) ([] : va_W) ([] : va_W) hx hb hml hown hts hl hE hS hA (zr0 ([] : va_W) hP) (zr0D ([] : va_W) hD) (c_L_addMetal_no l D ct ad u a r q b nx sz S M TX tl pl ft n1 n2 wd (-1) (by assumption) hst (by omega) (by rw [show ck_metal M (-1) = 2 from if_neg (by omega)]; decide)) gL_refuses_L_addMetal rfl k_L_addMetal ⟨Nat.le_of_ble_eq_true rfl, Nat.le_of_ble_eq_true rfl⟩ rfl (Nat.le_of_ble_eq_true rfl) ⟨Nat.le_of_ble_eq_true rfl, Nat.le_of_ble_eq_true rfl⟩ dL_refuses_32 rfl (fun v w1 H locs hpost hP hD hS => ?_)
  obtain ⟨rfl, rfl⟩ := hpost
  have hP := zr0' hP
  have hD := zr0D' hD
  have hP : va_P D vwCl (x8W u a r q ++ (svW ct r b nx sz S ++ (sobjW a ++ (gridW ct a M ++ (benchW ct a M ++ (logW ct a M ++ (txtW ct q TX tl pl ft wd n1 n2))))))) H := hP
  have hD : va_D A (x8W u a r q ++ (svW ct r b nx sz S ++ (sobjW a ++ (gridW ct a M ++ (benchW ct a M ++ (logW ct a M ++ (txtW ct q TX tl pl ft wd n1 n2))))))) := hD
  refine W.eq (g2 := F0 m 35 ls [.int (zI (exK (ck_metal M (-1))))]) rfl ?_
  refine z_canI (show exK (ck_metal M (-1)) = (-2100000001) from (by rw [show ck_metal M (-1) = 2 from if_neg (by omega)]; rfl)) ?_
  refine z_ldc hx hb (-2100000001) hown hf_0 (by decide) dL_refuses_35 ?_
  refine z_icmp_ne (tgt := 222) hx hb dL_refuses_37 (by decide) (by omega) (by omega) (fun hc_37 => ?_) (fun hc_37 => ?_)
  · have hc_37 := hc_37
    omega
  have hc_37 := hc_37
  refine lv_aload_n hx hb dL_refuses_40 rfl (lv_at hl 3 rfl) ?_
  refine lv_iload_n hx hb dL_refuses_41 rfl (lv_at hl 1 rfl) ?_
  refine z_sipush hx hb dL_refuses_42 (by decide) ?_
  refine z_callSW (As := [.ref u, .int (zI (M 3)), .int (zI 999)]) (rest := []) ([] : va_W) ([] : va_W) hx hb hml hown hts hl hE hS hA (zr0 ([] : va_W) hP) (zr0D ([] : va_W) hD) (c_L_setStretch_no l D ct ad u a r q b nx sz S M TX tl pl ft n1 n2 wd (M 3) 999 (by assumption) hst (by omega) (by omega) (by rw [show ck_stretch M (M 3) 999 = 1 from if_neg (by omega)]; decide)) gL_refuses_L_setStretch rfl k_L_setStretch ⟨Nat.le_of_ble_eq_true rfl, Nat.le_of_ble_eq_true rfl⟩ rfl (Nat.le_of_ble_eq_true rfl) ⟨Nat.le_of_ble_eq_true rfl, Nat.le_of_ble_eq_true rfl⟩ dL_refuses_45 rfl (fun v w1 H locs hpost hP hD hS => ?_)
  obtain ⟨rfl, rfl⟩ := hpost
  have hP := zr0' hP
  have hD := zr0D' hD
  have hP : va_P D vwCl (x8W u a r q ++ (svW ct r b nx sz S ++ (sobjW a ++ (gridW ct a M ++ (benchW ct a M ++ (logW ct a M ++ (txtW ct q TX tl pl ft wd n1 n2))))))) H := hP
  have hD : va_D A (x8W u a r q ++ (svW ct r b nx sz S ++ (sobjW a ++ (gridW ct a M ++ (benchW ct a M ++ (logW ct a M ++ (txtW ct q TX tl pl ft wd n1 n2))))))) := hD
  refine W.eq (g2 := F0 m 48 ls [.int (zI (exK (ck_stretch M (M 3) 999)))]) rfl ?_
  refine z_canI (show exK (ck_stretch M (M 3) 999) = (-2100000003) from (by rw [show ck_stretch M (M 3) 999 = 1 from if_neg (by omega)]; rfl)) ?_
  refine z_ldc hx hb (-2100000003) hown hf_1 (by decide) dL_refuses_48 ?_
  refine z_icmp_ne (tgt := 222) hx hb dL_refuses_50 (by decide) (by omega) (by omega) (fun hc_50 => ?_) (fun hc_50 => ?_)
  · have hc_50 := hc_50
    omega
  have hc_50 := hc_50
  refine lv_aload_n hx hb dL_refuses_53 rfl (lv_at hl 3 rfl) ?_
  refine z_iconst hx hb dL_refuses_54 ?_
  refine z_sipush hx hb dL_refuses_55 (by decide) ?_
  refine z_callSW (As := [.ref u, .int (zI 0), .int (zI 501)]) (rest := []) ([] : va_W) ([] : va_W) hx hb hml hown hts hl hE hS hA (zr0 ([] : va_W) hP) (zr0D ([] : va_W) hD) (c_L_setStretch_no l D ct ad u a r q b nx sz S M TX tl pl ft n1 n2 wd 0 501 (by assumption) hst (by omega) (by omega) (by rw [show ck_stretch M 0 501 = 2 from (if_pos (by omega)).trans (if_neg (by omega))]; decide)) gL_refuses_L_setStretch rfl k_L_setStretch ⟨Nat.le_of_ble_eq_true rfl, Nat.le_of_ble_eq_true rfl⟩ rfl (Nat.le_of_ble_eq_true rfl) ⟨Nat.le_of_ble_eq_true rfl, Nat.le_of_ble_eq_true rfl⟩ dL_refuses_58 rfl (fun v w1 H locs hpost hP hD hS => ?_)
  obtain ⟨rfl, rfl⟩ := hpost
  have hP := zr0' hP
  have hD := zr0D' hD
  have hP : va_P D vwCl (x8W u a r q ++ (svW ct r b nx sz S ++ (sobjW a ++ (gridW ct a M ++ (benchW ct a M ++ (logW ct a M ++ (txtW ct q TX tl pl ft wd n1 n2))))))) H := hP
  have hD : va_D A (x8W u a r q ++ (svW ct r b nx sz S ++ (sobjW a ++ (gridW ct a M ++ (benchW ct a M ++ (logW ct a M ++ (txtW ct q TX tl pl ft wd n1 n2))))))) := hD
  refine W.eq (g2 := F0 m 61 ls [.int (zI (exK (ck_stretch M 0 501)))]) rfl ?_
  refine z_canI (show exK (ck_stretch M 0 501) = (-2100000001) from (by rw [show ck_stretch M 0 501 = 2 from (if_pos (by omega)).trans (if_neg (by omega))]; rfl)) ?_
  refine z_ldc hx hb (-2100000001) hown hf_0 (by decide) dL_refuses_61 ?_
  refine z_icmp_ne (tgt := 222) hx hb dL_refuses_63 (by decide) (by omega) (by omega) (fun hc_63 => ?_) (fun hc_63 => ?_)
  · have hc_63 := hc_63
    omega
  have hc_63 := hc_63
  refine lv_aload_n hx hb dL_refuses_66 rfl (lv_at hl 3 rfl) ?_
  refine lv_iload_n hx hb dL_refuses_67 rfl (lv_at hl 1 rfl) ?_
  refine z_iconst hx hb dL_refuses_68 ?_
  refine z_iconst hx hb dL_refuses_69 ?_
  refine z_callSW (As := [.ref u, .int (zI (M 3)), .int (zI 0), .int (zI 0)]) (rest := []) ([] : va_W) ([] : va_W) hx hb hml hown hts hl hE hS hA (zr0 ([] : va_W) hP) (zr0D ([] : va_W) hD) (c_L_addRod_no l D ct ad u a r q b nx sz S M TX tl pl ft n1 n2 wd (M 3) 0 0 (by assumption) hst (by omega) (by omega) (by omega) (by rw [show ck_rod M (M 3) 0 0 = 1 from if_neg (by omega)]; decide)) gL_refuses_L_addRod rfl k_L_addRod ⟨Nat.le_of_ble_eq_true rfl, Nat.le_of_ble_eq_true rfl⟩ rfl (Nat.le_of_ble_eq_true rfl) ⟨Nat.le_of_ble_eq_true rfl, Nat.le_of_ble_eq_true rfl⟩ dL_refuses_70 rfl (fun v w1 H locs hpost hP hD hS => ?_)
  obtain ⟨rfl, rfl⟩ := hpost
  have hP := zr0' hP
  have hD := zr0D' hD
  have hP : va_P D vwCl (x8W u a r q ++ (svW ct r b nx sz S ++ (sobjW a ++ (gridW ct a M ++ (benchW ct a M ++ (logW ct a M ++ (txtW ct q TX tl pl ft wd n1 n2))))))) H := hP
  have hD : va_D A (x8W u a r q ++ (svW ct r b nx sz S ++ (sobjW a ++ (gridW ct a M ++ (benchW ct a M ++ (logW ct a M ++ (txtW ct q TX tl pl ft wd n1 n2))))))) := hD
  refine W.eq (g2 := F0 m 73 ls [.int (zI (exK (ck_rod M (M 3) 0 0)))]) rfl ?_
  refine z_canI (show exK (ck_rod M (M 3) 0 0) = (-2100000003) from (by rw [show ck_rod M (M 3) 0 0 = 1 from if_neg (by omega)]; rfl)) ?_
  refine z_ldc hx hb (-2100000003) hown hf_1 (by decide) dL_refuses_73 ?_
  refine z_icmp_ne (tgt := 222) hx hb dL_refuses_75 (by decide) (by omega) (by omega) (fun hc_75 => ?_) (fun hc_75 => ?_)
  · have hc_75 := hc_75
    omega
  have hc_75 := hc_75
  refine lv_aload_n hx hb dL_refuses_78 rfl (lv_at hl 3 rfl) ?_
  refine z_iconst hx hb dL_refuses_79 ?_
  refine z_iconst hx hb dL_refuses_80 ?_
  refine z_iconst hx hb dL_refuses_81 ?_
  refine z_callSW (As := [.ref u, .int (zI 0), .int (zI 0), .int (zI 5)]) (rest := []) ([] : va_W) ([] : va_W) hx hb hml hown hts hl hE hS hA (zr0 ([] : va_W) hP) (zr0D ([] : va_W) hD) (c_L_addRod_no l D ct ad u a r q b nx sz S M TX tl pl ft n1 n2 wd 0 0 5 (by assumption) hst (by omega) (by omega) (by omega) (by rw [show ck_rod M 0 0 5 = 2 from (if_pos (by omega)).trans (if_neg (by omega))]; decide)) gL_refuses_L_addRod rfl k_L_addRod ⟨Nat.le_of_ble_eq_true rfl, Nat.le_of_ble_eq_true rfl⟩ rfl (Nat.le_of_ble_eq_true rfl) ⟨Nat.le_of_ble_eq_true rfl, Nat.le_of_ble_eq_true rfl⟩ dL_refuses_82 rfl (fun v w1 H locs hpost hP hD hS => ?_)
  obtain ⟨rfl, rfl⟩ := hpost
  have hP := zr0' hP
  have hD := zr0D' hD
  have hP : va_P D vwCl (x8W u a r q ++ (svW ct r b nx sz S ++ (sobjW a ++ (gridW ct a M ++ (benchW ct a M ++ (logW ct a M ++ (txtW ct q TX tl pl ft wd n1 n2))))))) H := hP
  have hD : va_D A (x8W u a r q ++ (svW ct r b nx sz S ++ (sobjW a ++ (gridW ct a M ++ (benchW ct a M ++ (logW ct a M ++ (txtW ct q TX tl pl ft wd n1 n2))))))) := hD
  refine W.eq (g2 := F0 m 85 ls [.int (zI (exK (ck_rod M 0 0 5)))]) rfl ?_
  refine z_canI (show exK (ck_rod M 0 0 5) = (-2100000001) from (by rw [show ck_rod M 0 0 5 = 2 from (if_pos (by omega)).trans (if_neg (by omega))]; rfl)) ?_
  refine z_ldc hx hb (-2100000001) hown hf_0 (by decide) dL_refuses_85 ?_
  refine z_icmp_ne (tgt := 222) hx hb dL_refuses_87 (by decide) (by omega) (by omega) (fun hc_87 => ?_) (fun hc_87 => ?_)
  · have hc_87 := hc_87
    omega
  have hc_87 := hc_87
  refine lv_aload_n hx hb dL_refuses_90 rfl (lv_at hl 3 rfl) ?_
  refine z_iconst hx hb dL_refuses_91 ?_
  refine z_iconst hx hb dL_refuses_92 ?_
  refine z_iconst hx hb dL_refuses_93 ?_
  refine z_callSW (As := [.ref u, .int (zI 0), .int (zI 1), .int (zI 0)]) (rest := []) ([] : va_W) ([] : va_W) hx hb hml hown hts hl hE hS hA (zr0 ([] : va_W) hP) (zr0D ([] : va_W) hD) (c_L_addRod_no l D ct ad u a r q b nx sz S M TX tl pl ft n1 n2 wd 0 1 0 (by assumption) hst (by omega) (by omega) (by omega) (by rw [show ck_rod M 0 1 0 = 2 from (if_pos (by omega)).trans (if_neg (by omega))]; decide)) gL_refuses_L_addRod rfl k_L_addRod ⟨Nat.le_of_ble_eq_true rfl, Nat.le_of_ble_eq_true rfl⟩ rfl (Nat.le_of_ble_eq_true rfl) ⟨Nat.le_of_ble_eq_true rfl, Nat.le_of_ble_eq_true rfl⟩ dL_refuses_94 rfl (fun v w1 H locs hpost hP hD hS => ?_)
  obtain ⟨rfl, rfl⟩ := hpost
  have hP := zr0' hP
  have hD := zr0D' hD
  have hP : va_P D vwCl (x8W u a r q ++ (svW ct r b nx sz S ++ (sobjW a ++ (gridW ct a M ++ (benchW ct a M ++ (logW ct a M ++ (txtW ct q TX tl pl ft wd n1 n2))))))) H := hP
  have hD : va_D A (x8W u a r q ++ (svW ct r b nx sz S ++ (sobjW a ++ (gridW ct a M ++ (benchW ct a M ++ (logW ct a M ++ (txtW ct q TX tl pl ft wd n1 n2))))))) := hD
  refine W.eq (g2 := F0 m 97 ls [.int (zI (exK (ck_rod M 0 1 0)))]) rfl ?_
  refine z_canI (show exK (ck_rod M 0 1 0) = (-2100000001) from (by rw [show ck_rod M 0 1 0 = 2 from (if_pos (by omega)).trans (if_neg (by omega))]; rfl)) ?_
  refine z_ldc hx hb (-2100000001) hown hf_0 (by decide) dL_refuses_97 ?_
  refine z_icmp_ne (tgt := 222) hx hb dL_refuses_99 (by decide) (by omega) (by omega) (fun hc_99 => ?_) (fun hc_99 => ?_)
  · have hc_99 := hc_99
    omega
  have hc_99 := hc_99
  refine lv_aload_n hx hb dL_refuses_102 rfl (lv_at hl 3 rfl) ?_
  refine lv_iload hx hb dL_refuses_103 (lv_at hl 0 rfl) ?_
  refine z_callSW (As := [.ref u, .int (zI (M 4))]) (rest := []) ([] : va_W) ([] : va_W) hx hb hml hown hts hl hE hS hA (zr0 ([] : va_W) hP) (zr0D ([] : va_W) hD) (c_L_removeRod_no l D ct ad u a r q b nx sz S M TX tl pl ft n1 n2 wd (M 4) (by assumption) hst (by omega) (by omega)) gL_refuses_L_removeRod rfl k_L_removeRod ⟨Nat.le_of_ble_eq_true rfl, Nat.le_of_ble_eq_true rfl⟩ rfl (Nat.le_of_ble_eq_true rfl) ⟨Nat.le_of_ble_eq_true rfl, Nat.le_of_ble_eq_true rfl⟩ dL_refuses_105 rfl (fun v w1 H locs hpost hP hD hS => ?_)
  obtain ⟨rfl, rfl⟩ := hpost
  have hP := zr0' hP
  have hD := zr0D' hD
  have hP : va_P D vwCl (x8W u a r q ++ (svW ct r b nx sz S ++ (sobjW a ++ (gridW ct a M ++ (benchW ct a M ++ (logW ct a M ++ (txtW ct q TX tl pl ft wd n1 n2))))))) H := hP
  have hD : va_D A (x8W u a r q ++ (svW ct r b nx sz S ++ (sobjW a ++ (gridW ct a M ++ (benchW ct a M ++ (logW ct a M ++ (txtW ct q TX tl pl ft wd n1 n2))))))) := hD
  refine W.eq (g2 := F0 m 108 ls [.int (zI (-2100000003))]) rfl ?_
  refine z_ldc hx hb (-2100000003) hown hf_1 (by decide) dL_refuses_108 ?_
  refine z_icmp_ne (tgt := 222) hx hb dL_refuses_110 (by decide) (by omega) (by omega) (fun hc_110 => ?_) (fun hc_110 => ?_)
  · have hc_110 := hc_110
    omega
  have hc_110 := hc_110
  refine lv_aload_n hx hb dL_refuses_113 rfl (lv_at hl 3 rfl) ?_
  refine lv_iload hx hb dL_refuses_114 (lv_at hl 0 rfl) ?_
  refine z_iconst hx hb dL_refuses_116 ?_
  refine z_callSW (As := [.ref u, .int (zI (M 4)), .int (zI 0)]) (rest := []) ([] : va_W) ([] : va_W) hx hb hml hown hts hl hE hS hA (zr0 ([] : va_W) hP) (zr0D ([] : va_W) hD) (c_L_setLength_no l D ct ad u a r q b nx sz S M TX tl pl ft n1 n2 wd (M 4) 0 (by assumption) hst (by omega) (by omega) (by rw [show ck_length M (M 4) 0 = 1 from if_neg (by omega)]; decide)) gL_refuses_L_setLength rfl k_L_setLength ⟨Nat.le_of_ble_eq_true rfl, Nat.le_of_ble_eq_true rfl⟩ rfl (Nat.le_of_ble_eq_true rfl) ⟨Nat.le_of_ble_eq_true rfl, Nat.le_of_ble_eq_true rfl⟩ dL_refuses_117 rfl (fun v w1 H locs hpost hP hD hS => ?_)
  obtain ⟨rfl, rfl⟩ := hpost
  have hP := zr0' hP
  have hD := zr0D' hD
  have hP : va_P D vwCl (x8W u a r q ++ (svW ct r b nx sz S ++ (sobjW a ++ (gridW ct a M ++ (benchW ct a M ++ (logW ct a M ++ (txtW ct q TX tl pl ft wd n1 n2))))))) H := hP
  have hD : va_D A (x8W u a r q ++ (svW ct r b nx sz S ++ (sobjW a ++ (gridW ct a M ++ (benchW ct a M ++ (logW ct a M ++ (txtW ct q TX tl pl ft wd n1 n2))))))) := hD
  refine W.eq (g2 := F0 m 120 ls [.int (zI (exK (ck_length M (M 4) 0)))]) rfl ?_
  refine z_canI (show exK (ck_length M (M 4) 0) = (-2100000003) from (by rw [show ck_length M (M 4) 0 = 1 from if_neg (by omega)]; rfl)) ?_
  refine z_ldc hx hb (-2100000003) hown hf_1 (by decide) dL_refuses_120 ?_
  refine z_icmp_ne (tgt := 222) hx hb dL_refuses_122 (by decide) (by omega) (by omega) (fun hc_122 => ?_) (fun hc_122 => ?_)
  · have hc_122 := hc_122
    omega
  have hc_122 := hc_122
  refine lv_aload_n hx hb dL_refuses_125 rfl (lv_at hl 3 rfl) ?_
  refine z_iconst hx hb dL_refuses_126 ?_
  refine z_sipush hx hb dL_refuses_127 (by decide) ?_
  refine z_callSW (As := [.ref u, .int (zI 5), .int (zI 999)]) (rest := []) ([] : va_W) ([] : va_W) hx hb hml hown hts hl hE hS hA (zr0 ([] : va_W) hP) (zr0D ([] : va_W) hD) (c_L_setShelf_no l D ct ad u a r q b nx sz S M TX tl pl ft n1 n2 wd 5 999 (by assumption) hst (by omega) (by omega) (by rw [show ck_warm 5 999 = 1 from if_neg (by omega)]; decide)) gL_refuses_L_setShelf rfl k_L_setShelf ⟨Nat.le_of_ble_eq_true rfl, Nat.le_of_ble_eq_true rfl⟩ rfl (Nat.le_of_ble_eq_true rfl) ⟨Nat.le_of_ble_eq_true rfl, Nat.le_of_ble_eq_true rfl⟩ dL_refuses_130 rfl (fun v w1 H locs hpost hP hD hS => ?_)
  obtain ⟨rfl, rfl⟩ := hpost
  have hP := zr0' hP
  have hD := zr0D' hD
  have hP : va_P D vwCl (x8W u a r q ++ (svW ct r b nx sz S ++ (sobjW a ++ (gridW ct a M ++ (benchW ct a M ++ (logW ct a M ++ (txtW ct q TX tl pl ft wd n1 n2))))))) H := hP
  have hD : va_D A (x8W u a r q ++ (svW ct r b nx sz S ++ (sobjW a ++ (gridW ct a M ++ (benchW ct a M ++ (logW ct a M ++ (txtW ct q TX tl pl ft wd n1 n2))))))) := hD
  refine W.eq (g2 := F0 m 133 ls [.int (zI (exK (ck_warm 5 999)))]) rfl ?_
  refine z_canI (show exK (ck_warm 5 999) = (-2100000003) from (by rw [show ck_warm 5 999 = 1 from if_neg (by omega)]; rfl)) ?_
  refine z_ldc hx hb (-2100000003) hown hf_1 (by decide) dL_refuses_133 ?_
  refine z_icmp_ne (tgt := 222) hx hb dL_refuses_135 (by decide) (by omega) (by omega) (fun hc_135 => ?_) (fun hc_135 => ?_)
  · have hc_135 := hc_135
    omega
  have hc_135 := hc_135
  refine lv_aload_n hx hb dL_refuses_138 rfl (lv_at hl 3 rfl) ?_
  refine z_iconst hx hb dL_refuses_139 ?_
  refine z_sipush hx hb dL_refuses_140 (by decide) ?_
  refine z_callSW (As := [.ref u, .int (zI 0), .int (zI 601)]) (rest := []) ([] : va_W) ([] : va_W) hx hb hml hown hts hl hE hS hA (zr0 ([] : va_W) hP) (zr0D ([] : va_W) hD) (c_L_setShelf_no l D ct ad u a r q b nx sz S M TX tl pl ft n1 n2 wd 0 601 (by assumption) hst (by omega) (by omega) (by rw [show ck_warm 0 601 = 2 from (if_pos (by omega)).trans (if_neg (by omega))]; decide)) gL_refuses_L_setShelf rfl k_L_setShelf ⟨Nat.le_of_ble_eq_true rfl, Nat.le_of_ble_eq_true rfl⟩ rfl (Nat.le_of_ble_eq_true rfl) ⟨Nat.le_of_ble_eq_true rfl, Nat.le_of_ble_eq_true rfl⟩ dL_refuses_143 rfl (fun v w1 H locs hpost hP hD hS => ?_)
  obtain ⟨rfl, rfl⟩ := hpost
  have hP := zr0' hP
  have hD := zr0D' hD
  have hP : va_P D vwCl (x8W u a r q ++ (svW ct r b nx sz S ++ (sobjW a ++ (gridW ct a M ++ (benchW ct a M ++ (logW ct a M ++ (txtW ct q TX tl pl ft wd n1 n2))))))) H := hP
  have hD : va_D A (x8W u a r q ++ (svW ct r b nx sz S ++ (sobjW a ++ (gridW ct a M ++ (benchW ct a M ++ (logW ct a M ++ (txtW ct q TX tl pl ft wd n1 n2))))))) := hD
  refine W.eq (g2 := F0 m 146 ls [.int (zI (exK (ck_warm 0 601)))]) rfl ?_
  refine z_canI (show exK (ck_warm 0 601) = (-2100000001) from (by rw [show ck_warm 0 601 = 2 from (if_pos (by omega)).trans (if_neg (by omega))]; rfl)) ?_
  refine z_ldc hx hb (-2100000001) hown hf_0 (by decide) dL_refuses_146 ?_
  refine z_icmp_ne (tgt := 222) hx hb dL_refuses_148 (by decide) (by omega) (by omega) (fun hc_148 => ?_) (fun hc_148 => ?_)
  · have hc_148 := hc_148
    omega
  have hc_148 := hc_148
  refine lv_aload_n hx hb dL_refuses_151 rfl (lv_at hl 3 rfl) ?_
  refine z_iconst hx hb dL_refuses_152 ?_
  refine z_callSW (As := [.ref u, .int (zI (-1))]) (rest := []) ([] : va_W) ([] : va_W) hx hb hml hown hts hl hE hS hA (zr0 ([] : va_W) hP) (zr0D ([] : va_W) hD) (c_L_hang_no l D ct ad u a r q b nx sz S M TX tl pl ft n1 n2 wd (-1) (by assumption) hst (by omega) (by rw [show ck_shelf (-1) = 1 from if_neg (by omega)]; decide)) gL_refuses_L_hang rfl k_L_hang ⟨Nat.le_of_ble_eq_true rfl, Nat.le_of_ble_eq_true rfl⟩ rfl (Nat.le_of_ble_eq_true rfl) ⟨Nat.le_of_ble_eq_true rfl, Nat.le_of_ble_eq_true rfl⟩ dL_refuses_153 rfl (fun v w1 H locs hpost hP hD hS => ?_)
  obtain ⟨rfl, rfl⟩ := hpost
  have hP := zr0' hP
  have hD := zr0D' hD
  have hP : va_P D vwCl (x8W u a r q ++ (svW ct r b nx sz S ++ (sobjW a ++ (gridW ct a M ++ (benchW ct a M ++ (logW ct a M ++ (txtW ct q TX tl pl ft wd n1 n2))))))) H := hP
  have hD : va_D A (x8W u a r q ++ (svW ct r b nx sz S ++ (sobjW a ++ (gridW ct a M ++ (benchW ct a M ++ (logW ct a M ++ (txtW ct q TX tl pl ft wd n1 n2))))))) := hD
  refine W.eq (g2 := F0 m 156 ls [.int (zI (exK (ck_shelf (-1))))]) rfl ?_
  refine z_canI (show exK (ck_shelf (-1)) = (-2100000003) from (by rw [show ck_shelf (-1) = 1 from if_neg (by omega)]; rfl)) ?_
  refine z_ldc hx hb (-2100000003) hown hf_1 (by decide) dL_refuses_156 ?_
  refine z_icmp_ne (tgt := 222) hx hb dL_refuses_158 (by decide) (by omega) (by omega) (fun hc_158 => ?_) (fun hc_158 => ?_)
  · have hc_158 := hc_158
    omega
  have hc_158 := hc_158
  refine lv_aload_n hx hb dL_refuses_161 rfl (lv_at hl 3 rfl) ?_
  refine z_sipush hx hb dL_refuses_162 (by decide) ?_
  refine z_callSW (As := [.ref u, .int (zI 1001)]) (rest := []) ([] : va_W) ([] : va_W) hx hb hml hown hts hl hE hS hA (zr0 ([] : va_W) hP) (zr0D ([] : va_W) hD) (c_L_turnNut_no l D ct ad u a r q b nx sz S M TX tl pl ft n1 n2 wd 1001 (by assumption) hst (by omega) (by rw [show ck_turn M 1001 = 2 from if_neg (by omega)]; decide)) gL_refuses_L_turnNut rfl k_L_turnNut ⟨Nat.le_of_ble_eq_true rfl, Nat.le_of_ble_eq_true rfl⟩ rfl (Nat.le_of_ble_eq_true rfl) ⟨Nat.le_of_ble_eq_true rfl, Nat.le_of_ble_eq_true rfl⟩ dL_refuses_165 rfl (fun v w1 H locs hpost hP hD hS => ?_)
  obtain ⟨rfl, rfl⟩ := hpost
  have hP := zr0' hP
  have hD := zr0D' hD
  have hP : va_P D vwCl (x8W u a r q ++ (svW ct r b nx sz S ++ (sobjW a ++ (gridW ct a M ++ (benchW ct a M ++ (logW ct a M ++ (txtW ct q TX tl pl ft wd n1 n2))))))) H := hP
  have hD : va_D A (x8W u a r q ++ (svW ct r b nx sz S ++ (sobjW a ++ (gridW ct a M ++ (benchW ct a M ++ (logW ct a M ++ (txtW ct q TX tl pl ft wd n1 n2))))))) := hD
  refine W.eq (g2 := F0 m 168 ls [.int (zI (exK (ck_turn M 1001)))]) rfl ?_
  refine z_canI (show exK (ck_turn M 1001) = (-2100000001) from (by rw [show ck_turn M 1001 = 2 from if_neg (by omega)]; rfl)) ?_
  refine z_ldc hx hb (-2100000001) hown hf_0 (by decide) dL_refuses_168 ?_
  refine z_icmp_ne (tgt := 222) hx hb dL_refuses_170 (by decide) (by omega) (by omega) (fun hc_170 => ?_) (fun hc_170 => ?_)
  · have hc_170 := hc_170
    omega
  have hc_170 := hc_170
  refine lv_aload_n hx hb dL_refuses_173 rfl (lv_at hl 3 rfl) ?_
  refine z_iconst hx hb dL_refuses_174 ?_
  refine z_iconst hx hb dL_refuses_175 ?_
  refine z_callSW (As := [.ref u, .int (zI 3), .int (zI 1)]) (rest := []) ([] : va_W) ([] : va_W) hx hb hml hown hts hl hE hS hA (zr0 ([] : va_W) hP) (zr0D ([] : va_W) hD) (c_L_set_no l D ct ad u a r q b nx sz S M TX tl pl ft n1 n2 wd 3 1 (by assumption) hst (by omega) (by omega) (by rw [show ck_set 3 1 = 2 from if_neg (by omega)]; decide)) gL_refuses_L_set rfl k_L_set ⟨Nat.le_of_ble_eq_true rfl, Nat.le_of_ble_eq_true rfl⟩ rfl (Nat.le_of_ble_eq_true rfl) ⟨Nat.le_of_ble_eq_true rfl, Nat.le_of_ble_eq_true rfl⟩ dL_refuses_176 rfl (fun v w1 H locs hpost hP hD hS => ?_)
  obtain ⟨rfl, rfl⟩ := hpost
  have hP := zr0' hP
  have hD := zr0D' hD
  have hP : va_P D vwCl (x8W u a r q ++ (svW ct r b nx sz S ++ (sobjW a ++ (gridW ct a M ++ (benchW ct a M ++ (logW ct a M ++ (txtW ct q TX tl pl ft wd n1 n2))))))) H := hP
  have hD : va_D A (x8W u a r q ++ (svW ct r b nx sz S ++ (sobjW a ++ (gridW ct a M ++ (benchW ct a M ++ (logW ct a M ++ (txtW ct q TX tl pl ft wd n1 n2))))))) := hD
  refine W.eq (g2 := F0 m 179 ls [.int (zI (exK (ck_set 3 1)))]) rfl ?_
  refine z_canI (show exK (ck_set 3 1) = (-2100000001) from (by rw [show ck_set 3 1 = 2 from if_neg (by omega)]; rfl)) ?_
  refine z_ldc hx hb (-2100000001) hown hf_0 (by decide) dL_refuses_179 ?_
  refine z_icmp_ne (tgt := 222) hx hb dL_refuses_181 (by decide) (by omega) (by omega) (fun hc_181 => ?_) (fun hc_181 => ?_)
  · have hc_181 := hc_181
    omega
  have hc_181 := hc_181
  refine lv_aload_n hx hb dL_refuses_184 rfl (lv_at hl 3 rfl) ?_
  refine z_iconst hx hb dL_refuses_185 ?_
  refine z_ldc hx hb 2000001 hown hf_2 (by decide) dL_refuses_186 ?_
  refine z_callSW (As := [.ref u, .int (zI 0), .int (zI 2000001)]) (rest := []) ([] : va_W) ([] : va_W) hx hb hml hown hts hl hE hS hA (zr0 ([] : va_W) hP) (zr0D ([] : va_W) hD) (c_L_set_no l D ct ad u a r q b nx sz S M TX tl pl ft n1 n2 wd 0 2000001 (by assumption) hst (by omega) (by omega) (by rw [show ck_set 0 2000001 = 2 from if_neg (by omega)]; decide)) gL_refuses_L_set rfl k_L_set ⟨Nat.le_of_ble_eq_true rfl, Nat.le_of_ble_eq_true rfl⟩ rfl (Nat.le_of_ble_eq_true rfl) ⟨Nat.le_of_ble_eq_true rfl, Nat.le_of_ble_eq_true rfl⟩ dL_refuses_188 rfl (fun v w1 H locs hpost hP hD hS => ?_)
  obtain ⟨rfl, rfl⟩ := hpost
  have hP := zr0' hP
  have hD := zr0D' hD
  have hP : va_P D vwCl (x8W u a r q ++ (svW ct r b nx sz S ++ (sobjW a ++ (gridW ct a M ++ (benchW ct a M ++ (logW ct a M ++ (txtW ct q TX tl pl ft wd n1 n2))))))) H := hP
  have hD : va_D A (x8W u a r q ++ (svW ct r b nx sz S ++ (sobjW a ++ (gridW ct a M ++ (benchW ct a M ++ (logW ct a M ++ (txtW ct q TX tl pl ft wd n1 n2))))))) := hD
  refine W.eq (g2 := F0 m 191 ls [.int (zI (exK (ck_set 0 2000001)))]) rfl ?_
  refine z_canI (show exK (ck_set 0 2000001) = (-2100000001) from (by rw [show ck_set 0 2000001 = 2 from if_neg (by omega)]; rfl)) ?_
  refine z_ldc hx hb (-2100000001) hown hf_0 (by decide) dL_refuses_191 ?_
  refine z_icmp_ne (tgt := 222) hx hb dL_refuses_193 (by decide) (by omega) (by omega) (fun hc_193 => ?_) (fun hc_193 => ?_)
  · have hc_193 := hc_193
    omega
  have hc_193 := hc_193
  refine lv_aload_n hx hb dL_refuses_196 rfl (lv_at hl 3 rfl) ?_
  refine z_iconst hx hb dL_refuses_197 ?_
  refine z_iconst hx hb dL_refuses_198 ?_
  refine z_callSW (As := [.ref u, .int (zI 1), .int (zI 0)]) (rest := []) ([] : va_W) ([] : va_W) hx hb hml hown hts hl hE hS hA (zr0 ([] : va_W) hP) (zr0D ([] : va_W) hD) (c_L_set_no l D ct ad u a r q b nx sz S M TX tl pl ft n1 n2 wd 1 0 (by assumption) hst (by omega) (by omega) (by rw [show ck_set 1 0 = 2 from if_neg (by omega)]; decide)) gL_refuses_L_set rfl k_L_set ⟨Nat.le_of_ble_eq_true rfl, Nat.le_of_ble_eq_true rfl⟩ rfl (Nat.le_of_ble_eq_true rfl) ⟨Nat.le_of_ble_eq_true rfl, Nat.le_of_ble_eq_true rfl⟩ dL_refuses_199 rfl (fun v w1 H locs hpost hP hD hS => ?_)
  obtain ⟨rfl, rfl⟩ := hpost
  have hP := zr0' hP
  have hD := zr0D' hD
  have hP : va_P D vwCl (x8W u a r q ++ (svW ct r b nx sz S ++ (sobjW a ++ (gridW ct a M ++ (benchW ct a M ++ (logW ct a M ++ (txtW ct q TX tl pl ft wd n1 n2))))))) H := hP
  have hD : va_D A (x8W u a r q ++ (svW ct r b nx sz S ++ (sobjW a ++ (gridW ct a M ++ (benchW ct a M ++ (logW ct a M ++ (txtW ct q TX tl pl ft wd n1 n2))))))) := hD
  refine W.eq (g2 := F0 m 202 ls [.int (zI (exK (ck_set 1 0)))]) rfl ?_
  refine z_canI (show exK (ck_set 1 0) = (-2100000001) from (by rw [show ck_set 1 0 = 2 from if_neg (by omega)]; rfl)) ?_
  refine z_ldc hx hb (-2100000001) hown hf_0 (by decide) dL_refuses_202 ?_
  refine z_icmp_ne (tgt := 222) hx hb dL_refuses_204 (by decide) (by omega) (by omega) (fun hc_204 => ?_) (fun hc_204 => ?_)
  · have hc_204 := hc_204
    omega
  have hc_204 := hc_204
  refine lv_aload_n hx hb dL_refuses_207 rfl (lv_at hl 3 rfl) ?_
  refine z_iconst hx hb dL_refuses_208 ?_
  refine z_iconst hx hb dL_refuses_209 ?_
  refine z_callSW (As := [.ref u, .int (zI 2), .int (zI (-1))]) (rest := []) ([] : va_W) ([] : va_W) hx hb hml hown hts hl hE hS hA (zr0 ([] : va_W) hP) (zr0D ([] : va_W) hD) (c_L_set_no l D ct ad u a r q b nx sz S M TX tl pl ft n1 n2 wd 2 (-1) (by assumption) hst (by omega) (by omega) (by rw [show ck_set 2 (-1) = 2 from if_neg (by omega)]; decide)) gL_refuses_L_set rfl k_L_set ⟨Nat.le_of_ble_eq_true rfl, Nat.le_of_ble_eq_true rfl⟩ rfl (Nat.le_of_ble_eq_true rfl) ⟨Nat.le_of_ble_eq_true rfl, Nat.le_of_ble_eq_true rfl⟩ dL_refuses_210 rfl (fun v w1 H locs hpost hP hD hS => ?_)
  obtain ⟨rfl, rfl⟩ := hpost
  have hP := zr0' hP
  have hD := zr0D' hD
  have hP : va_P D vwCl (x8W u a r q ++ (svW ct r b nx sz S ++ (sobjW a ++ (gridW ct a M ++ (benchW ct a M ++ (logW ct a M ++ (txtW ct q TX tl pl ft wd n1 n2))))))) H := hP
  have hD : va_D A (x8W u a r q ++ (svW ct r b nx sz S ++ (sobjW a ++ (gridW ct a M ++ (benchW ct a M ++ (logW ct a M ++ (txtW ct q TX tl pl ft wd n1 n2))))))) := hD
  refine W.eq (g2 := F0 m 213 ls [.int (zI (exK (ck_set 2 (-1))))]) rfl ?_
  refine z_canI (show exK (ck_set 2 (-1)) = (-2100000001) from (by rw [show ck_set 2 (-1) = 2 from if_neg (by omega)]; rfl)) ?_
  refine z_ldc hx hb (-2100000001) hown hf_0 (by decide) dL_refuses_213 ?_
  refine z_icmp_ne (tgt := 222) hx hb dL_refuses_215 (by decide) (by omega) (by omega) (fun hc_215 => ?_) (fun hc_215 => ?_)
  · have hc_215 := hc_215
    omega
  have hc_215 := hc_215
  refine z_iconst hx hb dL_refuses_218 ?_
  refine lv_goto (tgt := 223) hx hb dL_refuses_219 (by decide) ?_
  refine lv_istore (lv' := [(5, .int (zI 1)), (4, .int (zI (M 4))), (3, .int (zI (M 3))), (1, .long (zJ (dgst M tl sz (sp_bits M)))), (0, .ref u)]) hx hb dL_refuses_223 hl (by decide) rfl (fun ls hl => ?_)
  refine lv_iload hx hb dL_refuses_225 (lv_at hl 0 rfl) ?_
  refine z_if_eq (tgt := 404) hx hb dL_refuses_227 (by decide) (by omega) (fun hc_227 => ?_) (fun hc_227 => ?_)
  · have hc_227 := hc_227
    omega
  have hc_227 := hc_227
  refine lv_aload_n hx hb dL_refuses_230 rfl (lv_at hl 4 rfl) ?_
  refine z_iconst hx hb dL_refuses_231 ?_
  refine z_callSW (As := [.ref u, .int (zI 0)]) (rest := []) ([] : va_W) ([] : va_W) hx hb hml hown hts hl hE hS hA (zr0 ([] : va_W) hP) (zr0D ([] : va_W) hD) (c_L_pass_no l D ct ad u a r q b nx sz S M TX tl pl ft n1 n2 wd 0 (by assumption) hst (by omega) (by rw [show ck_hours M 0 = 2 from if_neg (by omega)]; decide)) gL_refuses_L_pass rfl k_L_pass ⟨Nat.le_of_ble_eq_true rfl, Nat.le_of_ble_eq_true rfl⟩ rfl (Nat.le_of_ble_eq_true rfl) ⟨Nat.le_of_ble_eq_true rfl, Nat.le_of_ble_eq_true rfl⟩ dL_refuses_232 rfl (fun v w1 H locs hpost hP hD hS => ?_)
  obtain ⟨rfl, rfl⟩ := hpost
  have hP := zr0' hP
  have hD := zr0D' hD
  have hP : va_P D vwCl (x8W u a r q ++ (svW ct r b nx sz S ++ (sobjW a ++ (gridW ct a M ++ (benchW ct a M ++ (logW ct a M ++ (txtW ct q TX tl pl ft wd n1 n2))))))) H := hP
  have hD : va_D A (x8W u a r q ++ (svW ct r b nx sz S ++ (sobjW a ++ (gridW ct a M ++ (benchW ct a M ++ (logW ct a M ++ (txtW ct q TX tl pl ft wd n1 n2))))))) := hD
  refine W.eq (g2 := F0 m 235 ls [.int (zI (exK (ck_hours M 0)))]) rfl ?_
  refine z_canI (show exK (ck_hours M 0) = (-2100000001) from (by rw [show ck_hours M 0 = 2 from if_neg (by omega)]; rfl)) ?_
  refine z_ldc hx hb (-2100000001) hown hf_0 (by decide) dL_refuses_235 ?_
  refine z_icmp_ne (tgt := 404) hx hb dL_refuses_237 (by decide) (by omega) (by omega) (fun hc_237 => ?_) (fun hc_237 => ?_)
  · have hc_237 := hc_237
    omega
  have hc_237 := hc_237
  refine lv_aload_n hx hb dL_refuses_240 rfl (lv_at hl 4 rfl) ?_
  refine z_sipush hx hb dL_refuses_241 (by decide) ?_
  refine z_callSW (As := [.ref u, .int (zI 501)]) (rest := []) ([] : va_W) ([] : va_W) hx hb hml hown hts hl hE hS hA (zr0 ([] : va_W) hP) (zr0D ([] : va_W) hD) (c_L_pass_no l D ct ad u a r q b nx sz S M TX tl pl ft n1 n2 wd 501 (by assumption) hst (by omega) (by rw [show ck_hours M 501 = 2 from if_neg (by omega)]; decide)) gL_refuses_L_pass rfl k_L_pass ⟨Nat.le_of_ble_eq_true rfl, Nat.le_of_ble_eq_true rfl⟩ rfl (Nat.le_of_ble_eq_true rfl) ⟨Nat.le_of_ble_eq_true rfl, Nat.le_of_ble_eq_true rfl⟩ dL_refuses_244 rfl (fun v w1 H locs hpost hP hD hS => ?_)
  obtain ⟨rfl, rfl⟩ := hpost
  have hP := zr0' hP
  have hD := zr0D' hD
  have hP : va_P D vwCl (x8W u a r q ++ (svW ct r b nx sz S ++ (sobjW a ++ (gridW ct a M ++ (benchW ct a M ++ (logW ct a M ++ (txtW ct q TX tl pl ft wd n1 n2))))))) H := hP
  have hD : va_D A (x8W u a r q ++ (svW ct r b nx sz S ++ (sobjW a ++ (gridW ct a M ++ (benchW ct a M ++ (logW ct a M ++ (txtW ct q TX tl pl ft wd n1 n2))))))) := hD
  refine W.eq (g2 := F0 m 247 ls [.int (zI (exK (ck_hours M 501)))]) rfl ?_
  refine z_canI (show exK (ck_hours M 501) = (-2100000001) from (by rw [show ck_hours M 501 = 2 from if_neg (by omega)]; rfl)) ?_
  refine z_ldc hx hb (-2100000001) hown hf_0 (by decide) dL_refuses_247 ?_
  refine z_icmp_ne (tgt := 404) hx hb dL_refuses_249 (by decide) (by omega) (by omega) (fun hc_249 => ?_) (fun hc_249 => ?_)
  · have hc_249 := hc_249
    omega
  have hc_249 := hc_249
  refine lv_aload_n hx hb dL_refuses_252 rfl (lv_at hl 4 rfl) ?_
  refine lv_iload hx hb dL_refuses_253 (lv_at hl 1 rfl) ?_
  refine z_bipush hx hb dL_refuses_255 (by decide) ?_
  refine z_callSW (As := [.ref u, .int (zI (M 4)), .int (zI 9)]) (rest := []) ([] : va_W) ([] : va_W) hx hb hml hown hts hl hE hS hA (zr0 ([] : va_W) hP) (zr0D ([] : va_W) hD) (c_L_rod_no1 l D ct ad u a r q b nx sz S M TX tl pl ft n1 n2 wd (M 4) 9 (by assumption) hst (by omega) (by omega) (by omega)) gL_refuses_L_rod rfl k_L_rod ⟨Nat.le_of_ble_eq_true rfl, Nat.le_of_ble_eq_true rfl⟩ rfl (Nat.le_of_ble_eq_true rfl) ⟨Nat.le_of_ble_eq_true rfl, Nat.le_of_ble_eq_true rfl⟩ dL_refuses_257 rfl (fun v w1 H locs hpost hP hD hS => ?_)
  obtain ⟨rfl, rfl⟩ := hpost
  have hP := zr0' hP
  have hD := zr0D' hD
  have hP : va_P D vwCl (x8W u a r q ++ (svW ct r b nx sz S ++ (sobjW a ++ (gridW ct a M ++ (benchW ct a M ++ (logW ct a M ++ (txtW ct q TX tl pl ft wd n1 n2))))))) H := hP
  have hD : va_D A (x8W u a r q ++ (svW ct r b nx sz S ++ (sobjW a ++ (gridW ct a M ++ (benchW ct a M ++ (logW ct a M ++ (txtW ct q TX tl pl ft wd n1 n2))))))) := hD
  refine W.eq (g2 := F0 m 260 ls [.int (zI (-2100000003))]) rfl ?_
  refine z_ldc hx hb (-2100000003) hown hf_1 (by decide) dL_refuses_260 ?_
  refine z_icmp_ne (tgt := 404) hx hb dL_refuses_262 (by decide) (by omega) (by omega) (fun hc_262 => ?_) (fun hc_262 => ?_)
  · have hc_262 := hc_262
    omega
  have hc_262 := hc_262
  refine lv_aload_n hx hb dL_refuses_265 rfl (lv_at hl 4 rfl) ?_
  refine lv_iload_n hx hb dL_refuses_266 rfl (lv_at hl 2 rfl) ?_
  refine z_callSW (As := [.ref u, .int (zI (M 3))]) (rest := []) ([] : va_W) ([] : va_W) hx hb hml hown hts hl hE hS hA (zr0 ([] : va_W) hP) (zr0D ([] : va_W) hD) (c_L_stretch_no l D ct ad u a r q b nx sz S M TX tl pl ft n1 n2 wd (M 3) (by assumption) hst (by omega) (by omega)) gL_refuses_L_stretch rfl k_L_stretch ⟨Nat.le_of_ble_eq_true rfl, Nat.le_of_ble_eq_true rfl⟩ rfl (Nat.le_of_ble_eq_true rfl) ⟨Nat.le_of_ble_eq_true rfl, Nat.le_of_ble_eq_true rfl⟩ dL_refuses_267 rfl (fun v w1 H locs hpost hP hD hS => ?_)
  obtain ⟨rfl, rfl⟩ := hpost
  have hP := zr0' hP
  have hD := zr0D' hD
  have hP : va_P D vwCl (x8W u a r q ++ (svW ct r b nx sz S ++ (sobjW a ++ (gridW ct a M ++ (benchW ct a M ++ (logW ct a M ++ (txtW ct q TX tl pl ft wd n1 n2))))))) H := hP
  have hD : va_D A (x8W u a r q ++ (svW ct r b nx sz S ++ (sobjW a ++ (gridW ct a M ++ (benchW ct a M ++ (logW ct a M ++ (txtW ct q TX tl pl ft wd n1 n2))))))) := hD
  refine W.eq (g2 := F0 m 270 ls [.int (zI (-2100000003))]) rfl ?_
  refine z_ldc hx hb (-2100000003) hown hf_1 (by decide) dL_refuses_270 ?_
  refine z_icmp_ne (tgt := 404) hx hb dL_refuses_272 (by decide) (by omega) (by omega) (fun hc_272 => ?_) (fun hc_272 => ?_)
  · have hc_272 := hc_272
    omega
  have hc_272 := hc_272
  refine lv_aload_n hx hb dL_refuses_275 rfl (lv_at hl 4 rfl) ?_
  refine z_iconst hx hb dL_refuses_276 ?_
  refine z_callSW (As := [.ref u, .int (zI (-1))]) (rest := []) ([] : va_W) ([] : va_W) hx hb hml hown hts hl hE hS hA (zr0 ([] : va_W) hP) (zr0D ([] : va_W) hD) (c_L_shelf_no l D ct ad u a r q b nx sz S M TX tl pl ft n1 n2 wd (-1) (by assumption) hst (by omega) (by rw [show ck_shelf (-1) = 1 from if_neg (by omega)]; decide)) gL_refuses_L_shelf rfl k_L_shelf ⟨Nat.le_of_ble_eq_true rfl, Nat.le_of_ble_eq_true rfl⟩ rfl (Nat.le_of_ble_eq_true rfl) ⟨Nat.le_of_ble_eq_true rfl, Nat.le_of_ble_eq_true rfl⟩ dL_refuses_277 rfl (fun v w1 H locs hpost hP hD hS => ?_)
  obtain ⟨rfl, rfl⟩ := hpost
  have hP := zr0' hP
  have hD := zr0D' hD
  have hP : va_P D vwCl (x8W u a r q ++ (svW ct r b nx sz S ++ (sobjW a ++ (gridW ct a M ++ (benchW ct a M ++ (logW ct a M ++ (txtW ct q TX tl pl ft wd n1 n2))))))) H := hP
  have hD : va_D A (x8W u a r q ++ (svW ct r b nx sz S ++ (sobjW a ++ (gridW ct a M ++ (benchW ct a M ++ (logW ct a M ++ (txtW ct q TX tl pl ft wd n1 n2))))))) := hD
  refine W.eq (g2 := F0 m 280 ls [.int (zI (exK (ck_shelf (-1))))]) rfl ?_
  refine z_canI (show exK (ck_shelf (-1)) = (-2100000003) from (by rw [show ck_shelf (-1) = 1 from if_neg (by omega)]; rfl)) ?_
  refine z_ldc hx hb (-2100000003) hown hf_1 (by decide) dL_refuses_280 ?_
  refine z_icmp_ne (tgt := 404) hx hb dL_refuses_282 (by decide) (by omega) (by omega) (fun hc_282 => ?_) (fun hc_282 => ?_)
  · have hc_282 := hc_282
    omega
  have hc_282 := hc_282
  refine lv_aload_n hx hb dL_refuses_285 rfl (lv_at hl 4 rfl) ?_
  refine z_bipush hx hb dL_refuses_286 (by decide) ?_
  refine z_callSW (As := [.ref u, .int (zI 18)]) (rest := []) ([] : va_W) ([] : va_W) hx hb hml hown hts hl hE hS hA (zr0 ([] : va_W) hP) (zr0D ([] : va_W) hD) (c_L_whole_no l D ct ad u a r q b nx sz S M TX tl pl ft n1 n2 wd 18 (by assumption) hst (by omega) (by omega)) gL_refuses_L_whole rfl k_L_whole ⟨Nat.le_of_ble_eq_true rfl, Nat.le_of_ble_eq_true rfl⟩ rfl (Nat.le_of_ble_eq_true rfl) ⟨Nat.le_of_ble_eq_true rfl, Nat.le_of_ble_eq_true rfl⟩ dL_refuses_288 rfl (fun v w1 H locs hpost hP hD hS => ?_)
  obtain ⟨rfl, rfl⟩ := hpost
  have hP := zr0' hP
  have hD := zr0D' hD
  have hP : va_P D vwCl (x8W u a r q ++ (svW ct r b nx sz S ++ (sobjW a ++ (gridW ct a M ++ (benchW ct a M ++ (logW ct a M ++ (txtW ct q TX tl pl ft wd n1 n2))))))) H := hP
  have hD : va_D A (x8W u a r q ++ (svW ct r b nx sz S ++ (sobjW a ++ (gridW ct a M ++ (benchW ct a M ++ (logW ct a M ++ (txtW ct q TX tl pl ft wd n1 n2))))))) := hD
  refine W.eq (g2 := F0 m 291 ls [.int (zI (-2100000001))]) rfl ?_
  refine z_ldc hx hb (-2100000001) hown hf_0 (by decide) dL_refuses_291 ?_
  refine z_icmp_ne (tgt := 404) hx hb dL_refuses_293 (by decide) (by omega) (by omega) (fun hc_293 => ?_) (fun hc_293 => ?_)
  · have hc_293 := hc_293
    omega
  have hc_293 := hc_293
  refine lv_aload_n hx hb dL_refuses_296 rfl (lv_at hl 4 rfl) ?_
  refine z_iconst hx hb dL_refuses_297 ?_
  refine z_iconst hx hb dL_refuses_298 ?_
  refine z_callSW (As := [.ref u, .int (zI (-1)), .int (zI 0)]) (rest := []) ([] : va_W) ([] : va_W) hx hb hml hown hts hl hE hS hA (zr0 ([] : va_W) hP) (zr0D ([] : va_W) hD) (c_L_day_no l D ct ad u a r q b nx sz S M TX tl pl ft n1 n2 wd (-1) 0 (by assumption) hst (by omega) (by omega) (by omega)) gL_refuses_L_day rfl k_L_day ⟨Nat.le_of_ble_eq_true rfl, Nat.le_of_ble_eq_true rfl⟩ rfl (Nat.le_of_ble_eq_true rfl) ⟨Nat.le_of_ble_eq_true rfl, Nat.le_of_ble_eq_true rfl⟩ dL_refuses_299 rfl (fun v w1 H locs hpost hP hD hS => ?_)
  obtain ⟨rfl, rfl⟩ := hpost
  have hP := zr0' hP
  have hD := zr0D' hD
  have hP : va_P D vwCl (x8W u a r q ++ (svW ct r b nx sz S ++ (sobjW a ++ (gridW ct a M ++ (benchW ct a M ++ (logW ct a M ++ (txtW ct q TX tl pl ft wd n1 n2))))))) H := hP
  have hD : va_D A (x8W u a r q ++ (svW ct r b nx sz S ++ (sobjW a ++ (gridW ct a M ++ (benchW ct a M ++ (logW ct a M ++ (txtW ct q TX tl pl ft wd n1 n2))))))) := hD
  refine W.eq (g2 := F0 m 302 ls [.long (zJ (-2100000001))]) rfl ?_
  refine z_ldc2 hx hb (-2100000001) hown hf_3 (by decide) dL_refuses_302 ?_
  refine z_lcmp_neS (tgt := 404) hx hb dL_refuses_305 dL_refuses_306 (by decide) ?_
  refine lv_aload_n hx hb dL_refuses_309 rfl (lv_at hl 4 rfl) ?_
  refine z_iconst hx hb dL_refuses_310 ?_
  refine z_iconst hx hb dL_refuses_311 ?_
  refine z_callSW (As := [.ref u, .int (zI 0), .int (zI 4)]) (rest := []) ([] : va_W) ([] : va_W) hx hb hml hown hts hl hE hS hA (zr0 ([] : va_W) hP) (zr0D ([] : va_W) hD) (c_L_day_no l D ct ad u a r q b nx sz S M TX tl pl ft n1 n2 wd 0 4 (by assumption) hst (by omega) (by omega) (by omega)) gL_refuses_L_day rfl k_L_day ⟨Nat.le_of_ble_eq_true rfl, Nat.le_of_ble_eq_true rfl⟩ rfl (Nat.le_of_ble_eq_true rfl) ⟨Nat.le_of_ble_eq_true rfl, Nat.le_of_ble_eq_true rfl⟩ dL_refuses_312 rfl (fun v w1 H locs hpost hP hD hS => ?_)
  obtain ⟨rfl, rfl⟩ := hpost
  have hP := zr0' hP
  have hD := zr0D' hD
  have hP : va_P D vwCl (x8W u a r q ++ (svW ct r b nx sz S ++ (sobjW a ++ (gridW ct a M ++ (benchW ct a M ++ (logW ct a M ++ (txtW ct q TX tl pl ft wd n1 n2))))))) H := hP
  have hD : va_D A (x8W u a r q ++ (svW ct r b nx sz S ++ (sobjW a ++ (gridW ct a M ++ (benchW ct a M ++ (logW ct a M ++ (txtW ct q TX tl pl ft wd n1 n2))))))) := hD
  refine W.eq (g2 := F0 m 315 ls [.long (zJ (-2100000001))]) rfl ?_
  refine z_ldc2 hx hb (-2100000001) hown hf_3 (by decide) dL_refuses_315 ?_
  refine z_lcmp_neS (tgt := 404) hx hb dL_refuses_318 dL_refuses_319 (by decide) ?_
  refine lv_aload_n hx hb dL_refuses_322 rfl (lv_at hl 4 rfl) ?_
  refine z_bipush hx hb dL_refuses_323 (by decide) ?_
  refine z_iconst hx hb dL_refuses_325 ?_
  refine z_callSW (As := [.ref u, .int (zI 10), .int (zI 0)]) (rest := []) ([] : va_W) ([] : va_W) hx hb hml hown hts hl hE hS hA (zr0 ([] : va_W) hP) (zr0D ([] : va_W) hD) (c_L_day_ok l D ct ad u a r q b nx sz S M TX tl pl ft n1 n2 wd 10 0 (by assumption) (by omega) (by omega) (by omega)) gL_refuses_L_day rfl k_L_day ⟨Nat.le_of_ble_eq_true rfl, Nat.le_of_ble_eq_true rfl⟩ rfl (Nat.le_of_ble_eq_true rfl) ⟨Nat.le_of_ble_eq_true rfl, Nat.le_of_ble_eq_true rfl⟩ dL_refuses_326 rfl (fun v w1 H locs hpost hP hD hS => ?_)
  obtain ⟨rfl, rfl⟩ := hpost
  have hP := zr0' hP
  have hD := zr0D' hD
  have hP : va_P D vwCl (x8W u a r q ++ (svW ct r b nx sz S ++ (sobjW a ++ (gridW ct a M ++ (benchW ct a M ++ (logW ct a M ++ (txtW ct q TX tl pl ft wd n1 n2))))))) H := hP
  have hD : va_D A (x8W u a r q ++ (svW ct r b nx sz S ++ (sobjW a ++ (gridW ct a M ++ (benchW ct a M ++ (logW ct a M ++ (txtW ct q TX tl pl ft wd n1 n2))))))) := hD
  refine W.eq (g2 := F0 m 329 ls [.long (zJ (sp_dayv M 10 0))]) rfl ?_
  refine z_canL (show sp_dayv M 10 0 = (-2000000000) from (if_neg (by omega))) ?_
  refine z_ldc2 hx hb (-2000000000) hown hf_4 (by decide) dL_refuses_329 ?_
  refine z_lcmp_neS (tgt := 404) hx hb dL_refuses_332 dL_refuses_333 (by decide) ?_
  refine lv_aload_n hx hb dL_refuses_336 rfl (lv_at hl 4 rfl) ?_
  refine z_sipush hx hb dL_refuses_337 (by decide) ?_
  refine z_callSW (As := [.ref u, .int (zI (-301))]) (rest := []) ([] : va_W) ([] : va_W) hx hb hml hown hts hl hE hS hA (zr0 ([] : va_W) hP) (zr0D ([] : va_W) hD) (c_L_rateAt_no l D ct ad u a r q b nx sz S M TX tl pl ft n1 n2 wd (-301) (by assumption) hst (by omega) (by omega)) gL_refuses_L_rateAt rfl k_L_rateAt ⟨Nat.le_of_ble_eq_true rfl, Nat.le_of_ble_eq_true rfl⟩ rfl (Nat.le_of_ble_eq_true rfl) ⟨Nat.le_of_ble_eq_true rfl, Nat.le_of_ble_eq_true rfl⟩ dL_refuses_340 rfl (fun v w1 H locs hpost hP hD hS => ?_)
  obtain ⟨rfl, rfl⟩ := hpost
  have hP := zr0' hP
  have hD := zr0D' hD
  have hP : va_P D vwCl (x8W u a r q ++ (svW ct r b nx sz S ++ (sobjW a ++ (gridW ct a M ++ (benchW ct a M ++ (logW ct a M ++ (txtW ct q TX tl pl ft wd n1 n2))))))) H := hP
  have hD : va_D A (x8W u a r q ++ (svW ct r b nx sz S ++ (sobjW a ++ (gridW ct a M ++ (benchW ct a M ++ (logW ct a M ++ (txtW ct q TX tl pl ft wd n1 n2))))))) := hD
  refine W.eq (g2 := F0 m 343 ls [.int (zI (-2100000001))]) rfl ?_
  refine z_ldc hx hb (-2100000001) hown hf_0 (by decide) dL_refuses_343 ?_
  refine z_icmp_ne (tgt := 404) hx hb dL_refuses_345 (by decide) (by omega) (by omega) (fun hc_345 => ?_) (fun hc_345 => ?_)
  · have hc_345 := hc_345
    omega
  have hc_345 := hc_345
  refine lv_aload_n hx hb dL_refuses_348 rfl (lv_at hl 4 rfl) ?_
  refine lv_iload hx hb dL_refuses_349 (lv_at hl 1 rfl) ?_
  refine z_callSW (As := [.ref u, .int (zI (M 4))]) (rest := []) ([] : va_W) ([] : va_W) hx hb hml hown hts hl hE hS hA (zr0 ([] : va_W) hP) (zr0D ([] : va_W) hD) (c_L_matchLength_no l D ct ad u a r q b nx sz S M TX tl pl ft n1 n2 wd (M 4) (by assumption) hst (by omega) (by omega)) gL_refuses_L_matchLength rfl k_L_matchLength ⟨Nat.le_of_ble_eq_true rfl, Nat.le_of_ble_eq_true rfl⟩ rfl (Nat.le_of_ble_eq_true rfl) ⟨Nat.le_of_ble_eq_true rfl, Nat.le_of_ble_eq_true rfl⟩ dL_refuses_351 rfl (fun v w1 H locs hpost hP hD hS => ?_)
  obtain ⟨rfl, rfl⟩ := hpost
  have hP := zr0' hP
  have hD := zr0D' hD
  have hP : va_P D vwCl (x8W u a r q ++ (svW ct r b nx sz S ++ (sobjW a ++ (gridW ct a M ++ (benchW ct a M ++ (logW ct a M ++ (txtW ct q TX tl pl ft wd n1 n2))))))) H := hP
  have hD : va_D A (x8W u a r q ++ (svW ct r b nx sz S ++ (sobjW a ++ (gridW ct a M ++ (benchW ct a M ++ (logW ct a M ++ (txtW ct q TX tl pl ft wd n1 n2))))))) := hD
  refine W.eq (g2 := F0 m 354 ls [.int (zI (-2100000003))]) rfl ?_
  refine z_ldc hx hb (-2100000003) hown hf_1 (by decide) dL_refuses_354 ?_
  refine z_icmp_ne (tgt := 404) hx hb dL_refuses_356 (by decide) (by omega) (by omega) (fun hc_356 => ?_) (fun hc_356 => ?_)
  · have hc_356 := hc_356
    omega
  have hc_356 := hc_356
  refine lv_aload_n hx hb dL_refuses_359 rfl (lv_at hl 4 rfl) ?_
  refine z_sipush hx hb dL_refuses_360 (by decide) ?_
  refine z_sipush hx hb dL_refuses_363 (by decide) ?_
  refine z_callSW (As := [.ref u, .int (zI 600), .int (zI 599)]) (rest := []) ([] : va_W) ([] : va_W) hx hb hml hown hts hl hE hS hA (zr0 ([] : va_W) hP) (zr0D ([] : va_W) hD) (c_L_rangeOfRates_no l D ct ad u a r q b nx sz S M TX tl pl ft n1 n2 wd 600 599 (by assumption) hst (by omega) (by omega) (by omega)) gL_refuses_L_rangeOfRates rfl k_L_rangeOfRates ⟨Nat.le_of_ble_eq_true rfl, Nat.le_of_ble_eq_true rfl⟩ rfl (Nat.le_of_ble_eq_true rfl) ⟨Nat.le_of_ble_eq_true rfl, Nat.le_of_ble_eq_true rfl⟩ dL_refuses_366 rfl (fun v w1 H locs hpost hP hD hS => ?_)
  obtain ⟨rfl, rfl⟩ := hpost
  have hP := zr0' hP
  have hD := zr0D' hD
  have hP : va_P D vwCl (x8W u a r q ++ (svW ct r b nx sz S ++ (sobjW a ++ (gridW ct a M ++ (benchW ct a M ++ (logW ct a M ++ (txtW ct q TX tl pl ft wd n1 n2))))))) H := hP
  have hD : va_D A (x8W u a r q ++ (svW ct r b nx sz S ++ (sobjW a ++ (gridW ct a M ++ (benchW ct a M ++ (logW ct a M ++ (txtW ct q TX tl pl ft wd n1 n2))))))) := hD
  refine W.eq (g2 := F0 m 369 ls [.int (zI (-2100000001))]) rfl ?_
  refine z_ldc hx hb (-2100000001) hown hf_0 (by decide) dL_refuses_369 ?_
  refine z_icmp_ne (tgt := 404) hx hb dL_refuses_371 (by decide) (by omega) (by omega) (fun hc_371 => ?_) (fun hc_371 => ?_)
  · have hc_371 := hc_371
    omega
  have hc_371 := hc_371
  refine lv_aload_n hx hb dL_refuses_374 rfl (lv_at hl 4 rfl) ?_
  refine z_sipush hx hb dL_refuses_375 (by decide) ?_
  refine z_callSW (As := [.ref u, .int (zI 501)]) (rest := []) ([] : va_W) ([] : va_W) hx hb hml hown hts hl hE hS hA (zr0 ([] : va_W) hP) (zr0D ([] : va_W) hD) (c_L_changeWithin_no l D ct ad u a r q b nx sz S M TX tl pl ft n1 n2 wd 501 (by assumption) hst (by omega) (by omega)) gL_refuses_L_changeWithin rfl k_L_changeWithin ⟨Nat.le_of_ble_eq_true rfl, Nat.le_of_ble_eq_true rfl⟩ rfl (Nat.le_of_ble_eq_true rfl) ⟨Nat.le_of_ble_eq_true rfl, Nat.le_of_ble_eq_true rfl⟩ dL_refuses_378 rfl (fun v w1 H locs hpost hP hD hS => ?_)
  obtain ⟨rfl, rfl⟩ := hpost
  have hP := zr0' hP
  have hD := zr0D' hD
  have hP : va_P D vwCl (x8W u a r q ++ (svW ct r b nx sz S ++ (sobjW a ++ (gridW ct a M ++ (benchW ct a M ++ (logW ct a M ++ (txtW ct q TX tl pl ft wd n1 n2))))))) H := hP
  have hD : va_D A (x8W u a r q ++ (svW ct r b nx sz S ++ (sobjW a ++ (gridW ct a M ++ (benchW ct a M ++ (logW ct a M ++ (txtW ct q TX tl pl ft wd n1 n2))))))) := hD
  refine W.eq (g2 := F0 m 381 ls [.long (zJ (-2100000001))]) rfl ?_
  refine z_ldc2 hx hb (-2100000001) hown hf_3 (by decide) dL_refuses_381 ?_
  refine z_lcmp_neS (tgt := 404) hx hb dL_refuses_384 dL_refuses_385 (by decide) ?_
  refine lv_aload_n hx hb dL_refuses_388 rfl (lv_at hl 4 rfl) ?_
  refine z_sipush hx hb dL_refuses_389 (by decide) ?_
  refine z_callSW (As := [.ref u, .int (zI 128)]) (rest := []) ([] : va_W) ([] : va_W) hx hb hml hown hts hl hE hS hA (zr0 ([] : va_W) hP) (zr0D ([] : va_W) hD) (c_L_type_no l D ct ad u a r q b nx sz S M TX tl pl ft n1 n2 wd 128 (by assumption) hst (by assumption) (by omega) (by omega)) gL_refuses_L_type rfl k_L_type ⟨Nat.le_of_ble_eq_true rfl, Nat.le_of_ble_eq_true rfl⟩ rfl (Nat.le_of_ble_eq_true rfl) ⟨Nat.le_of_ble_eq_true rfl, Nat.le_of_ble_eq_true rfl⟩ dL_refuses_392 rfl (fun v w1 H locs hpost hP hD hS => ?_)
  obtain ⟨rfl, rfl⟩ := hpost
  have hP := zr0' hP
  have hD := zr0D' hD
  have hP : va_P D vwCl (x8W u a r q ++ (svW ct r b nx sz S ++ (sobjW a ++ (gridW ct a M ++ (benchW ct a M ++ (logW ct a M ++ (txtW ct q TX tl pl ft wd n1 n2))))))) H := hP
  have hD : va_D A (x8W u a r q ++ (svW ct r b nx sz S ++ (sobjW a ++ (gridW ct a M ++ (benchW ct a M ++ (logW ct a M ++ (txtW ct q TX tl pl ft wd n1 n2))))))) := hD
  refine W.eq (g2 := F0 m 395 ls [.int (zI (if 0 ≤ 128 ∧ 128 ≤ 127 then (-2100000002) else (-2100000001)))]) rfl ?_
  refine z_canI (show (if 0 ≤ 128 ∧ 128 ≤ 127 then (-2100000002) else (-2100000001)) = (-2100000001) from (if_neg (by omega))) ?_
  refine z_ldc hx hb (-2100000001) hown hf_0 (by decide) dL_refuses_395 ?_
  refine z_icmp_ne (tgt := 404) hx hb dL_refuses_397 (by decide) (by omega) (by omega) (fun hc_397 => ?_) (fun hc_397 => ?_)
  · have hc_397 := hc_397
    omega
  have hc_397 := hc_397
  refine z_iconst hx hb dL_refuses_400 ?_
  refine lv_goto (tgt := 405) hx hb dL_refuses_401 (by decide) ?_
  refine lv_istore (lv' := [(5, .int (zI 1)), (4, .int (zI (M 4))), (3, .int (zI (M 3))), (1, .long (zJ (dgst M tl sz (sp_bits M)))), (0, .ref u)]) hx hb dL_refuses_405 hl (by decide) rfl (fun ls hl => ?_)
  refine lv_iload hx hb dL_refuses_407 (lv_at hl 0 rfl) ?_
  refine z_if_eq (tgt := 425) hx hb dL_refuses_409 (by decide) (by omega) (fun hc_409 => ?_) (fun hc_409 => ?_)
  · have hc_409 := hc_409
    omega
  have hc_409 := hc_409
  refine lv_aload_n hx hb dL_refuses_412 rfl (lv_at hl 4 rfl) ?_
  refine z_callV (C := RX8) (q0 := 0) (ci := 6) (As := []) (rest := []) ([] : va_W) ([] : va_W) hx hb hml hown hts hl hE hS hA (zr0 ([] : va_W) hP) (zr0D ([] : va_W) hD) (c_X8_digest l D ct ad u a r q b nx sz S M TX tl pl ft n1 n2 wd (by assumption) (by assumption) (by omega) (by omega)) gL_refuses_X8_digest rfl rfl k_X8_digest ⟨Nat.le_of_ble_eq_true rfl, Nat.le_of_ble_eq_true rfl⟩ rfl rfl rfl rfl (Nat.le_of_ble_eq_true rfl) ⟨Nat.le_of_ble_eq_true rfl, Nat.le_of_ble_eq_true rfl⟩ dL_refuses_413 rfl (fun v w1 H locs hpost hP hD hS => ?_)
  obtain ⟨rfl, rfl⟩ := hpost
  have hP := zr0' hP
  have hD := zr0D' hD
  have hP : va_P D vwCl (x8W u a r q ++ (svW ct r b nx sz S ++ (sobjW a ++ (gridW ct a M ++ (benchW ct a M ++ (logW ct a M ++ (txtW ct q TX tl pl ft wd n1 n2))))))) H := hP
  have hD : va_D A (x8W u a r q ++ (svW ct r b nx sz S ++ (sobjW a ++ (gridW ct a M ++ (benchW ct a M ++ (logW ct a M ++ (txtW ct q TX tl pl ft wd n1 n2))))))) := hD
  refine W.eq (g2 := F0 m 416 ls [.long (zJ (dgst M tl sz (sp_bits M)))]) rfl ?_
  refine lv_lload_n hx hb dL_refuses_416 rfl (lv_at hl 3 rfl) ?_
  refine z_lcmp_neS (tgt := 425) hx hb dL_refuses_417 dL_refuses_418 (by decide) ?_
  refine z_iconst hx hb dL_refuses_421 ?_
  refine lv_goto (tgt := 426) hx hb dL_refuses_422 (by decide) ?_
  exact z_zret hx hb hr (by first | rfl | exact zB_nar) hlocks hP hD hS ⟨Nat.le_of_ble_eq_true rfl, Nat.le_of_ble_eq_true rfl⟩ dL_refuses_426 (⟨congrArg (fun z => some (Value.int (zI z))) (rfl), rfl⟩)
