theorem k_X2_readNumbers : yX2_readNumbers.cls ≠ "java/lang/invoke/MethodHandle" ∧ yX2_readNumbers.cls ≠ "java/lang/invoke/VarHandle" ∧ (parseMethodDescriptor yX2_readNumbers.desc).map (fun d => d.parameters.length) = some 0 := by decide +kernel
theorem k_X2_readSemicolon : yX2_readSemicolon.cls ≠ "java/lang/invoke/MethodHandle" ∧ yX2_readSemicolon.cls ≠ "java/lang/invoke/VarHandle" ∧ (parseMethodDescriptor yX2_readSemicolon.desc).map (fun d => d.parameters.length) = some 0 := by decide +kernel
theorem k_X2_readWord : yX2_readWord.cls ≠ "java/lang/invoke/MethodHandle" ∧ yX2_readWord.cls ≠ "java/lang/invoke/VarHandle" ∧ (parseMethodDescriptor yX2_readWord.desc).map (fun d => d.parameters.length) = some 0 := by decide +kernel
set_option maxHeartbeats 4000000 in
set_option maxRecDepth 100000 in
theorem c_X2_readCommand_ok (l : Launch) (D : va_G) (ct ad : Nat → Nat) (q : Nat → Nat) (TX : Int → Int) (tl pl ft n1 n2 : Int) (wd : Value) (ht : tInv TX tl) (hp : 0 ≤ pl ∧ pl ≤ tl) (hl1 : sk TX tl pl < tl) (hok : cf TX tl (sk TX tl pl) = -1) : ZM l yX2_readCommand wsX2_readCommand ({ frames := 7, cells := 0, slots := 0, locals := 153 } : Room) D ct ad [.ref (q 0)] (txtW ct q TX tl pl ft wd n1 n2) (zD (some (.int (zI 1))) (txtW ct q TX tl (cp TX tl (sk TX tl pl)) ft (.ref (ad (cc TX tl (sk TX tl pl)).toNat)) (cn1 TX tl (sk TX tl pl)) (cn2 TX tl (sk TX tl pl)))) := by
  refine ZM.of (cc := cX2_readCommand) (maxL := 1) (ret := (some .boolean)) (by decide +kernel) rfl (Nat.le_of_ble_eq_true rfl) ?_
  intro p e s m below meth c A ls hx hb hr hts hown hlocks hml hname hE hP hD hA hS hl
  have hK := hE.1
  have hf_0 := hts (.fieldLink RX2 23 "RodGrids$CommandText" "place" "I") (by decide +kernel)
  have hf_1 := hts (.fieldLink RX2 19 "RodGrids$CommandText" "length" "I") (by decide +kernel)
  have hin_X2 : ∀ z ∈ u_ws RX2 TX2 7, z ∈ wsX2_readCommand := by decide +kernel
  have hl : lv_has ls 1 [(0, .ref (q 0))] := hl
  have t1 := ht.1
  have sB := sk_B (TX := TX) hp.2
  have cfo := cf_ok (TX := TX) (tl := tl) (q := sk TX tl pl) (by omega) (by omega) hok
  have cB := c_B (TX := TX) (tl := tl) (q := sk TX tl pl) (by omega)
  refine lv_aload_n hx hb dX2_readCommand_0 rfl (lv_at hl 0 rfl) ?_
  refine z_callV (C := RX2) (q0 := 0) (ci := 1) (As := []) (rest := []) ([] : va_W) ([] : va_W) hx hb hml hown hts hl hE hS hA (zr0 ([] : va_W) hP) (zr0D ([] : va_W) hD) (c_X2_skipSpaces l D ct ad q TX tl pl ft n1 n2 wd (by assumption) (by omega)) gX2_readCommand_X2_skipSpaces rfl rfl k_X2_skipSpaces ⟨Nat.le_of_ble_eq_true rfl, Nat.le_of_ble_eq_true rfl⟩ rfl rfl rfl rfl (Nat.le_of_ble_eq_true rfl) ⟨Nat.le_of_ble_eq_true rfl, Nat.le_of_ble_eq_true rfl⟩ dX2_readCommand_1 rfl (fun v w1 H locs hpost hP hD hS => ?_)
  obtain ⟨rfl, rfl⟩ := hpost
  have hP := zr0' hP
  have hD := zr0D' hD
  have hP : va_P D vwCl (txtW ct q TX tl (sk TX tl pl) ft wd n1 n2) H := hP
  have hD : va_D A (txtW ct q TX tl (sk TX tl pl) ft wd n1 n2) := hD
  refine W.eq (g2 := F0 m 4 ls []) rfl ?_
  refine lv_aload_n hx hb dX2_readCommand_4 rfl (lv_at hl 0 rfl) ?_
  refine va_get (D := D) (ci := 1) (v := .int (zI (sk TX tl pl))) (C := RX2) (T := TX2) (N := 7) hx hb hts hin_X2 hown hK hP 0 rfl rfl 2 (by decide) hf_0 (fun _ h9 => h9) rfl dX2_readCommand_5 ?_
  refine lv_aload_n hx hb dX2_readCommand_8 rfl (lv_at hl 0 rfl) ?_
  refine va_get (D := D) (ci := 1) (v := .int (zI tl)) (C := RX2) (T := TX2) (N := 7) hx hb hts hin_X2 hown hK hP 0 rfl rfl 1 (by decide) hf_1 (fun _ h9 => h9) rfl dX2_readCommand_9 ?_
  refine z_icmp_ge (tgt := 40) hx hb dX2_readCommand_12 (by decide) (by omega) (by omega) (fun hc_12 => ?_) (fun hc_12 => ?_)
  · have hc_12 := hc_12
    omega
  · have hc_12 := hc_12
    refine lv_aload_n hx hb dX2_readCommand_15 rfl (lv_at hl 0 rfl) ?_
    refine z_callV (C := RX2) (q0 := 0) (ci := 1) (As := []) (rest := []) ([] : va_W) ([] : va_W) hx hb hml hown hts hl hE hS hA (zr0 ([] : va_W) hP) (zr0D ([] : va_W) hD) (c_X2_readWord_ok l D ct ad q TX tl (sk TX tl pl) ft n1 n2 wd (by assumption) (by omega) cfo.1) gX2_readCommand_X2_readWord rfl rfl k_X2_readWord ⟨Nat.le_of_ble_eq_true rfl, Nat.le_of_ble_eq_true rfl⟩ rfl rfl rfl rfl (Nat.le_of_ble_eq_true rfl) ⟨Nat.le_of_ble_eq_true rfl, Nat.le_of_ble_eq_true rfl⟩ dX2_readCommand_16 rfl (fun v w1 H locs hpost hP hD hS => ?_)
    obtain ⟨rfl, rfl⟩ := hpost
    have hP := zr0' hP
    have hD := zr0D' hD
    have hP : va_P D vwCl (txtW ct q TX tl (we TX tl (sk TX tl pl)) ft (.ref (ad (cc TX tl (sk TX tl pl)).toNat)) n1 n2) H := hP
    have hD : va_D A (txtW ct q TX tl (we TX tl (sk TX tl pl)) ft (.ref (ad (cc TX tl (sk TX tl pl)).toNat)) n1 n2) := hD
    refine W.eq (g2 := F0 m 19 ls [.int (zI 1)]) rfl ?_
    refine z_if_eq (tgt := 40) hx hb dX2_readCommand_19 (by decide) (by omega) (fun hc_19 => ?_) (fun hc_19 => ?_)
    · have hc_19 := hc_19
      omega
    · have hc_19 := hc_19
      refine lv_aload_n hx hb dX2_readCommand_22 rfl (lv_at hl 0 rfl) ?_
      refine z_callV (C := RX2) (q0 := 0) (ci := 1) (As := []) (rest := []) ([] : va_W) ([] : va_W) hx hb hml hown hts hl hE hS hA (zr0 ([] : va_W) hP) (zr0D ([] : va_W) hD) (c_X2_readNumbers_ok l D ct ad q TX tl ft n1 n2 (sk TX tl pl) (by assumption) (by omega) cfo.1 cfo.2.1 cfo.2.2.1) gX2_readCommand_X2_readNumbers rfl rfl k_X2_readNumbers ⟨Nat.le_of_ble_eq_true rfl, Nat.le_of_ble_eq_true rfl⟩ rfl rfl rfl rfl (Nat.le_of_ble_eq_true rfl) ⟨Nat.le_of_ble_eq_true rfl, Nat.le_of_ble_eq_true rfl⟩ dX2_readCommand_23 rfl (fun v w1 H locs hpost hP hD hS => ?_)
      obtain ⟨rfl, rfl⟩ := hpost
      have hP := zr0' hP
      have hD := zr0D' hD
      have hP : va_P D vwCl (txtW ct q TX tl (c2 TX tl (sk TX tl pl)) ft (.ref (ad (cc TX tl (sk TX tl pl)).toNat)) (cn1 TX tl (sk TX tl pl)) (cn2 TX tl (sk TX tl pl))) H := hP
      have hD : va_D A (txtW ct q TX tl (c2 TX tl (sk TX tl pl)) ft (.ref (ad (cc TX tl (sk TX tl pl)).toNat)) (cn1 TX tl (sk TX tl pl)) (cn2 TX tl (sk TX tl pl))) := hD
      refine W.eq (g2 := F0 m 26 ls [.int (zI 1)]) rfl ?_
      refine z_if_eq (tgt := 40) hx hb dX2_readCommand_26 (by decide) (by omega) (fun hc_26 => ?_) (fun hc_26 => ?_)
      · have hc_26 := hc_26
        omega
      · have hc_26 := hc_26
        refine lv_aload_n hx hb dX2_readCommand_29 rfl (lv_at hl 0 rfl) ?_
        refine z_callV (C := RX2) (q0 := 0) (ci := 1) (As := []) (rest := []) ([] : va_W) ([] : va_W) hx hb hml hown hts hl hE hS hA (zr0 ([] : va_W) hP) (zr0D ([] : va_W) hD) (c_X2_readSemicolon_ok l D ct ad q TX tl (c2 TX tl (sk TX tl pl)) ft (cn1 TX tl (sk TX tl pl)) (cn2 TX tl (sk TX tl pl)) (.ref (ad (cc TX tl (sk TX tl pl)).toNat)) (by assumption) (by omega) cfo.2.2.2) gX2_readCommand_X2_readSemicolon rfl rfl k_X2_readSemicolon ⟨Nat.le_of_ble_eq_true rfl, Nat.le_of_ble_eq_true rfl⟩ rfl rfl rfl rfl (Nat.le_of_ble_eq_true rfl) ⟨Nat.le_of_ble_eq_true rfl, Nat.le_of_ble_eq_true rfl⟩ dX2_readCommand_30 rfl (fun v w1 H locs hpost hP hD hS => ?_)
        obtain ⟨rfl, rfl⟩ := hpost
        have hP := zr0' hP
        have hD := zr0D' hD
        have hP : va_P D vwCl (txtW ct q TX tl (sk TX tl (c2 TX tl (sk TX tl pl)) + 1) ft (.ref (ad (cc TX tl (sk TX tl pl)).toNat)) (cn1 TX tl (sk TX tl pl)) (cn2 TX tl (sk TX tl pl))) H := hP
        have hD : va_D A (txtW ct q TX tl (sk TX tl (c2 TX tl (sk TX tl pl)) + 1) ft (.ref (ad (cc TX tl (sk TX tl pl)).toNat)) (cn1 TX tl (sk TX tl pl)) (cn2 TX tl (sk TX tl pl))) := hD
        refine W.eq (g2 := F0 m 33 ls [.int (zI 1)]) rfl ?_
        refine z_if_eq (tgt := 40) hx hb dX2_readCommand_33 (by decide) (by omega) (fun hc_33 => ?_) (fun hc_33 => ?_)
        · have hc_33 := hc_33
          omega
        · have hc_33 := hc_33
          refine z_iconst hx hb dX2_readCommand_36 ?_
          refine lv_goto (tgt := 41) hx hb dX2_readCommand_37 (by decide) ?_
          exact z_zret hx hb hr (by first | rfl | exact zB_nar) hlocks hP hD hS ⟨Nat.le_of_ble_eq_true rfl, Nat.le_of_ble_eq_true rfl⟩ dX2_readCommand_41 (⟨congrArg (fun z => some (Value.int (zI z))) (rfl), rfl⟩)
set_option maxHeartbeats 4000000 in
set_option maxRecDepth 100000 in
theorem c_X2_readCommand_end (l : Launch) (D : va_G) (ct ad : Nat → Nat) (q : Nat → Nat) (TX : Int → Int) (tl pl ft n1 n2 : Int) (wd : Value) (ht : tInv TX tl) (hp : 0 ≤ pl ∧ pl ≤ tl) (hl1 : tl ≤ sk TX tl pl) : ZM l yX2_readCommand wsX2_readCommand ({ frames := 1, cells := 0, slots := 0, locals := 20 } : Room) D ct ad [.ref (q 0)] (txtW ct q TX tl pl ft wd n1 n2) (zD (some (.int (zI 0))) (txtW ct q TX tl (sk TX tl pl) ft wd n1 n2)) := by
  refine ZM.of (cc := cX2_readCommand) (maxL := 1) (ret := (some .boolean)) (by decide +kernel) rfl (Nat.le_of_ble_eq_true rfl) ?_
  intro p e s m below meth c A ls hx hb hr hts hown hlocks hml hname hE hP hD hA hS hl
  have hK := hE.1
  have hf_0 := hts (.fieldLink RX2 23 "RodGrids$CommandText" "place" "I") (by decide +kernel)
  have hf_1 := hts (.fieldLink RX2 19 "RodGrids$CommandText" "length" "I") (by decide +kernel)
  have hin_X2 : ∀ z ∈ u_ws RX2 TX2 7, z ∈ wsX2_readCommand := by decide +kernel
  have hl : lv_has ls 1 [(0, .ref (q 0))] := hl
  have t1 := ht.1
  have sB := sk_B (TX := TX) hp.2
  refine lv_aload_n hx hb dX2_readCommand_0 rfl (lv_at hl 0 rfl) ?_
  refine z_callV (C := RX2) (q0 := 0) (ci := 1) (As := []) (rest := []) ([] : va_W) ([] : va_W) hx hb hml hown hts hl hE hS hA (zr0 ([] : va_W) hP) (zr0D ([] : va_W) hD) (c_X2_skipSpaces l D ct ad q TX tl pl ft n1 n2 wd (by assumption) (by omega)) gX2_readCommand_X2_skipSpaces rfl rfl k_X2_skipSpaces ⟨Nat.le_of_ble_eq_true rfl, Nat.le_of_ble_eq_true rfl⟩ rfl rfl rfl rfl (Nat.le_of_ble_eq_true rfl) ⟨Nat.le_of_ble_eq_true rfl, Nat.le_of_ble_eq_true rfl⟩ dX2_readCommand_1 rfl (fun v w1 H locs hpost hP hD hS => ?_)
  obtain ⟨rfl, rfl⟩ := hpost
  have hP := zr0' hP
  have hD := zr0D' hD
  have hP : va_P D vwCl (txtW ct q TX tl (sk TX tl pl) ft wd n1 n2) H := hP
  have hD : va_D A (txtW ct q TX tl (sk TX tl pl) ft wd n1 n2) := hD
  refine W.eq (g2 := F0 m 4 ls []) rfl ?_
  refine lv_aload_n hx hb dX2_readCommand_4 rfl (lv_at hl 0 rfl) ?_
  refine va_get (D := D) (ci := 1) (v := .int (zI (sk TX tl pl))) (C := RX2) (T := TX2) (N := 7) hx hb hts hin_X2 hown hK hP 0 rfl rfl 2 (by decide) hf_0 (fun _ h9 => h9) rfl dX2_readCommand_5 ?_
  refine lv_aload_n hx hb dX2_readCommand_8 rfl (lv_at hl 0 rfl) ?_
  refine va_get (D := D) (ci := 1) (v := .int (zI tl)) (C := RX2) (T := TX2) (N := 7) hx hb hts hin_X2 hown hK hP 0 rfl rfl 1 (by decide) hf_1 (fun _ h9 => h9) rfl dX2_readCommand_9 ?_
  refine z_icmp_ge (tgt := 40) hx hb dX2_readCommand_12 (by decide) (by omega) (by omega) (fun hc_12 => ?_) (fun hc_12 => ?_)
  · have hc_12 := hc_12
    refine z_iconst hx hb dX2_readCommand_40 ?_
    exact z_zret hx hb hr (by first | rfl | exact zB_nar) hlocks hP hD hS ⟨Nat.le_of_ble_eq_true rfl, Nat.le_of_ble_eq_true rfl⟩ dX2_readCommand_41 (⟨congrArg (fun z => some (Value.int (zI z))) (rfl), rfl⟩)
  · have hc_12 := hc_12
    omega
set_option maxHeartbeats 4000000 in
set_option maxRecDepth 100000 in
theorem c_X2_readCommand_no (l : Launch) (D : va_G) (ct ad : Nat → Nat) (q : Nat → Nat) (TX : Int → Int) (tl pl ft n1 n2 : Int) (wd : Value) (ht : tInv TX tl) (hp : 0 ≤ pl ∧ pl ≤ tl) (hl1 : sk TX tl pl < tl) (hno : cf TX tl (sk TX tl pl) ≠ -1) : ZM l yX2_readCommand wsX2_readCommand ({ frames := 7, cells := 0, slots := 0, locals := 153 } : Room) D ct ad [.ref (q 0)] (txtW ct q TX tl pl ft wd n1 n2) (fun v w => ∃ (pl2 : Int) (wd2 : Value) (m1 : Int) (m2 : Int), ((True)) ∧ v = (some (.int (zI 0))) ∧ w = txtW ct q TX tl pl2 (cf TX tl (sk TX tl pl)) wd2 m1 m2) := by
  refine ZM.of (cc := cX2_readCommand) (maxL := 1) (ret := (some .boolean)) (by decide +kernel) rfl (Nat.le_of_ble_eq_true rfl) ?_
  intro p e s m below meth c A ls hx hb hr hts hown hlocks hml hname hE hP hD hA hS hl
  have hK := hE.1
  have hf_0 := hts (.fieldLink RX2 23 "RodGrids$CommandText" "place" "I") (by decide +kernel)
  have hf_1 := hts (.fieldLink RX2 19 "RodGrids$CommandText" "length" "I") (by decide +kernel)
  have hin_X2 : ∀ z ∈ u_ws RX2 TX2 7, z ∈ wsX2_readCommand := by decide +kernel
  have hl : lv_has ls 1 [(0, .ref (q 0))] := hl
  have t1 := ht.1
  have sB := sk_B (TX := TX) hp.2
  have cB := c_B (TX := TX) (tl := tl) (q := sk TX tl pl) (by omega)
  refine lv_aload_n hx hb dX2_readCommand_0 rfl (lv_at hl 0 rfl) ?_
  refine z_callV (C := RX2) (q0 := 0) (ci := 1) (As := []) (rest := []) ([] : va_W) ([] : va_W) hx hb hml hown hts hl hE hS hA (zr0 ([] : va_W) hP) (zr0D ([] : va_W) hD) (c_X2_skipSpaces l D ct ad q TX tl pl ft n1 n2 wd (by assumption) (by omega)) gX2_readCommand_X2_skipSpaces rfl rfl k_X2_skipSpaces ⟨Nat.le_of_ble_eq_true rfl, Nat.le_of_ble_eq_true rfl⟩ rfl rfl rfl rfl (Nat.le_of_ble_eq_true rfl) ⟨Nat.le_of_ble_eq_true rfl, Nat.le_of_ble_eq_true rfl⟩ dX2_readCommand_1 rfl (fun v w1 H locs hpost hP hD hS => ?_)
  obtain ⟨rfl, rfl⟩ := hpost
  have hP := zr0' hP
  have hD := zr0D' hD
  have hP : va_P D vwCl (txtW ct q TX tl (sk TX tl pl) ft wd n1 n2) H := hP
  have hD : va_D A (txtW ct q TX tl (sk TX tl pl) ft wd n1 n2) := hD
  refine W.eq (g2 := F0 m 4 ls []) rfl ?_
  refine lv_aload_n hx hb dX2_readCommand_4 rfl (lv_at hl 0 rfl) ?_
  refine va_get (D := D) (ci := 1) (v := .int (zI (sk TX tl pl))) (C := RX2) (T := TX2) (N := 7) hx hb hts hin_X2 hown hK hP 0 rfl rfl 2 (by decide) hf_0 (fun _ h9 => h9) rfl dX2_readCommand_5 ?_
  refine lv_aload_n hx hb dX2_readCommand_8 rfl (lv_at hl 0 rfl) ?_
  refine va_get (D := D) (ci := 1) (v := .int (zI tl)) (C := RX2) (T := TX2) (N := 7) hx hb hts hin_X2 hown hK hP 0 rfl rfl 1 (by decide) hf_1 (fun _ h9 => h9) rfl dX2_readCommand_9 ?_
  refine z_icmp_ge (tgt := 40) hx hb dX2_readCommand_12 (by decide) (by omega) (by omega) (fun hc_12 => ?_) (fun hc_12 => ?_)
  · have hc_12 := hc_12
    omega
  · have hc_12 := hc_12
    refine lv_aload_n hx hb dX2_readCommand_15 rfl (lv_at hl 0 rfl) ?_
    by_cases jA : cc TX tl (sk TX tl pl) = -2000000000
    · skip
      refine z_callV (C := RX2) (q0 := 0) (ci := 1) (As := []) (rest := []) ([] : va_W) ([] : va_W) hx hb hml hown hts hl hE hS hA (zr0 ([] : va_W) hP) (zr0D ([] : va_W) hD) (c_X2_readWord_no l D ct ad q TX tl (sk TX tl pl) ft n1 n2 wd (by assumption) (by omega) jA) gX2_readCommand_X2_readWord rfl rfl k_X2_readWord ⟨Nat.le_of_ble_eq_true rfl, Nat.le_of_ble_eq_true rfl⟩ rfl rfl rfl rfl (Nat.le_of_ble_eq_true rfl) ⟨Nat.le_of_ble_eq_true rfl, Nat.le_of_ble_eq_true rfl⟩ dX2_readCommand_16 rfl (fun v w1 H locs hpost hP hD hS => ?_)
      obtain ⟨rfl, rfl⟩ := hpost
      have hP := zr0' hP
      have hD := zr0D' hD
      have hP : va_P D vwCl (txtW ct q TX tl (we TX tl (sk TX tl pl)) (sk TX tl pl) .null n1 n2) H := hP
      have hD : va_D A (txtW ct q TX tl (we TX tl (sk TX tl pl)) (sk TX tl pl) .null n1 n2) := hD
      refine W.eq (g2 := F0 m 19 ls [.int (zI 0)]) rfl ?_
      refine z_if_eq (tgt := 40) hx hb dX2_readCommand_19 (by decide) (by omega) (fun hc_19 => ?_) (fun hc_19 => ?_)
      · have hc_19 := hc_19
        refine z_iconst hx hb dX2_readCommand_40 ?_
        exact z_zret hx hb hr (by first | rfl | exact zB_nar) hlocks hP hD hS ⟨Nat.le_of_ble_eq_true rfl, Nat.le_of_ble_eq_true rfl⟩ dX2_readCommand_41 (⟨(we TX tl (sk TX tl pl)), .null, n1, n2, trivial, rfl, by rw [cf_w jA]⟩)
      · have hc_19 := hc_19
        omega
    · skip
      refine z_callV (C := RX2) (q0 := 0) (ci := 1) (As := []) (rest := []) ([] : va_W) ([] : va_W) hx hb hml hown hts hl hE hS hA (zr0 ([] : va_W) hP) (zr0D ([] : va_W) hD) (c_X2_readWord_ok l D ct ad q TX tl (sk TX tl pl) ft n1 n2 wd (by assumption) (by omega) jA) gX2_readCommand_X2_readWord rfl rfl k_X2_readWord ⟨Nat.le_of_ble_eq_true rfl, Nat.le_of_ble_eq_true rfl⟩ rfl rfl rfl rfl (Nat.le_of_ble_eq_true rfl) ⟨Nat.le_of_ble_eq_true rfl, Nat.le_of_ble_eq_true rfl⟩ dX2_readCommand_16 rfl (fun v w1 H locs hpost hP hD hS => ?_)
      obtain ⟨rfl, rfl⟩ := hpost
      have hP := zr0' hP
      have hD := zr0D' hD
      have hP : va_P D vwCl (txtW ct q TX tl (we TX tl (sk TX tl pl)) ft (.ref (ad (cc TX tl (sk TX tl pl)).toNat)) n1 n2) H := hP
      have hD : va_D A (txtW ct q TX tl (we TX tl (sk TX tl pl)) ft (.ref (ad (cc TX tl (sk TX tl pl)).toNat)) n1 n2) := hD
      refine W.eq (g2 := F0 m 19 ls [.int (zI 1)]) rfl ?_
      refine z_if_eq (tgt := 40) hx hb dX2_readCommand_19 (by decide) (by omega) (fun hc_19 => ?_) (fun hc_19 => ?_)
      · have hc_19 := hc_19
        omega
      · have hc_19 := hc_19
        refine lv_aload_n hx hb dX2_readCommand_22 rfl (lv_at hl 0 rfl) ?_
        by_cases jN : (1 ≤ many (cc TX tl (sk TX tl pl)) → nok TX tl (we TX tl (sk TX tl pl))) ∧ (2 ≤ many (cc TX tl (sk TX tl pl)) → nok TX tl (c1 TX tl (sk TX tl pl)))
        · skip
          refine z_callV (C := RX2) (q0 := 0) (ci := 1) (As := []) (rest := []) ([] : va_W) ([] : va_W) hx hb hml hown hts hl hE hS hA (zr0 ([] : va_W) hP) (zr0D ([] : va_W) hD) (c_X2_readNumbers_ok l D ct ad q TX tl ft n1 n2 (sk TX tl pl) (by assumption) (by omega) jA jN.1 jN.2) gX2_readCommand_X2_readNumbers rfl rfl k_X2_readNumbers ⟨Nat.le_of_ble_eq_true rfl, Nat.le_of_ble_eq_true rfl⟩ rfl rfl rfl rfl (Nat.le_of_ble_eq_true rfl) ⟨Nat.le_of_ble_eq_true rfl, Nat.le_of_ble_eq_true rfl⟩ dX2_readCommand_23 rfl (fun v w1 H locs hpost hP hD hS => ?_)
          obtain ⟨rfl, rfl⟩ := hpost
          have hP := zr0' hP
          have hD := zr0D' hD
          have hP : va_P D vwCl (txtW ct q TX tl (c2 TX tl (sk TX tl pl)) ft (.ref (ad (cc TX tl (sk TX tl pl)).toNat)) (cn1 TX tl (sk TX tl pl)) (cn2 TX tl (sk TX tl pl))) H := hP
          have hD : va_D A (txtW ct q TX tl (c2 TX tl (sk TX tl pl)) ft (.ref (ad (cc TX tl (sk TX tl pl)).toNat)) (cn1 TX tl (sk TX tl pl)) (cn2 TX tl (sk TX tl pl))) := hD
          refine W.eq (g2 := F0 m 26 ls [.int (zI 1)]) rfl ?_
          refine z_if_eq (tgt := 40) hx hb dX2_readCommand_26 (by decide) (by omega) (fun hc_26 => ?_) (fun hc_26 => ?_)
          · have hc_26 := hc_26
            omega
          · have hc_26 := hc_26
            refine lv_aload_n hx hb dX2_readCommand_29 rfl (lv_at hl 0 rfl) ?_
            have hno59 : tc TX tl (sk TX tl (c2 TX tl (sk TX tl pl))) ≠ 59 := fun z => hno ((cf_3 jA jN.1 jN.2).2 z)
            refine z_callV (C := RX2) (q0 := 0) (ci := 1) (As := []) (rest := []) ([] : va_W) ([] : va_W) hx hb hml hown hts hl hE hS hA (zr0 ([] : va_W) hP) (zr0D ([] : va_W) hD) (c_X2_readSemicolon_no l D ct ad q TX tl (c2 TX tl (sk TX tl pl)) ft (cn1 TX tl (sk TX tl pl)) (cn2 TX tl (sk TX tl pl)) (.ref (ad (cc TX tl (sk TX tl pl)).toNat)) (by assumption) (by omega) hno59) gX2_readCommand_X2_readSemicolon rfl rfl k_X2_readSemicolon ⟨Nat.le_of_ble_eq_true rfl, Nat.le_of_ble_eq_true rfl⟩ rfl rfl rfl rfl (Nat.le_of_ble_eq_true rfl) ⟨Nat.le_of_ble_eq_true rfl, Nat.le_of_ble_eq_true rfl⟩ dX2_readCommand_30 rfl (fun v w1 H locs hpost hP hD hS => ?_)
            obtain ⟨rfl, rfl⟩ := hpost
            have hP := zr0' hP
            have hD := zr0D' hD
            have hP : va_P D vwCl (txtW ct q TX tl (sk TX tl (c2 TX tl (sk TX tl pl))) (sk TX tl (c2 TX tl (sk TX tl pl))) (.ref (ad (cc TX tl (sk TX tl pl)).toNat)) (cn1 TX tl (sk TX tl pl)) (cn2 TX tl (sk TX tl pl))) H := hP
            have hD : va_D A (txtW ct q TX tl (sk TX tl (c2 TX tl (sk TX tl pl))) (sk TX tl (c2 TX tl (sk TX tl pl))) (.ref (ad (cc TX tl (sk TX tl pl)).toNat)) (cn1 TX tl (sk TX tl pl)) (cn2 TX tl (sk TX tl pl))) := hD
            refine W.eq (g2 := F0 m 33 ls [.int (zI 0)]) rfl ?_
            refine z_if_eq (tgt := 40) hx hb dX2_readCommand_33 (by decide) (by omega) (fun hc_33 => ?_) (fun hc_33 => ?_)
            · have hc_33 := hc_33
              refine z_iconst hx hb dX2_readCommand_40 ?_
              exact z_zret hx hb hr (by first | rfl | exact zB_nar) hlocks hP hD hS ⟨Nat.le_of_ble_eq_true rfl, Nat.le_of_ble_eq_true rfl⟩ dX2_readCommand_41 (⟨(sk TX tl (c2 TX tl (sk TX tl pl))), (.ref (ad (cc TX tl (sk TX tl pl)).toNat)), (cn1 TX tl (sk TX tl pl)), (cn2 TX tl (sk TX tl pl)), trivial, rfl, by rw [(cf_3 jA jN.1 jN.2).1 hno59]⟩)
            · have hc_33 := hc_33
              omega
        · skip
          refine z_callV (C := RX2) (q0 := 0) (ci := 1) (As := []) (rest := []) ([] : va_W) ([] : va_W) hx hb hml hown hts hl hE hS hA (zr0 ([] : va_W) hP) (zr0D ([] : va_W) hD) (c_X2_readNumbers_no l D ct ad q TX tl ft n1 n2 (sk TX tl pl) (by assumption) (by omega) jA jN) gX2_readCommand_X2_readNumbers rfl rfl k_X2_readNumbers ⟨Nat.le_of_ble_eq_true rfl, Nat.le_of_ble_eq_true rfl⟩ rfl rfl rfl rfl (Nat.le_of_ble_eq_true rfl) ⟨Nat.le_of_ble_eq_true rfl, Nat.le_of_ble_eq_true rfl⟩ dX2_readCommand_23 rfl (fun v w1 H locs hpost hP hD hS => ?_)
          obtain ⟨pl2_23, m1_23, m2_23, hx0_23, rfl, rfl⟩ := hpost
          have hP := zr0' hP
          have hD := zr0D' hD
          have hP : va_P D vwCl (txtW ct q TX tl pl2_23 (cf TX tl (sk TX tl pl)) (.ref (ad (cc TX tl (sk TX tl pl)).toNat)) m1_23 m2_23) H := hP
          have hD : va_D A (txtW ct q TX tl pl2_23 (cf TX tl (sk TX tl pl)) (.ref (ad (cc TX tl (sk TX tl pl)).toNat)) m1_23 m2_23) := hD
          refine W.eq (g2 := F0 m 26 ls [.int (zI 0)]) rfl ?_
          refine z_if_eq (tgt := 40) hx hb dX2_readCommand_26 (by decide) (by omega) (fun hc_26 => ?_) (fun hc_26 => ?_)
          · have hc_26 := hc_26
            refine z_iconst hx hb dX2_readCommand_40 ?_
            exact z_zret hx hb hr (by first | rfl | exact zB_nar) hlocks hP hD hS ⟨Nat.le_of_ble_eq_true rfl, Nat.le_of_ble_eq_true rfl⟩ dX2_readCommand_41 (⟨pl2_23, (.ref (ad (cc TX tl (sk TX tl pl)).toNat)), m1_23, m2_23, trivial, rfl, rfl⟩)
          · have hc_26 := hc_26
            omega
theorem k_X2_readCommand : yX2_readCommand.cls ≠ "java/lang/invoke/MethodHandle" ∧ yX2_readCommand.cls ≠ "java/lang/invoke/VarHandle" ∧ (parseMethodDescriptor yX2_readCommand.desc).map (fun d => d.parameters.length) = some 0 := by decide +kernel
theorem k_X2_rewind : yX2_rewind.cls ≠ "java/lang/invoke/MethodHandle" ∧ yX2_rewind.cls ≠ "java/lang/invoke/VarHandle" ∧ (parseMethodDescriptor yX2_rewind.desc).map (fun d => d.parameters.length) = some 0 := by decide +kernel
set_option maxHeartbeats 4000000 in
set_option maxRecDepth 100000 in
theorem c_X2_findFault (l : Launch) (D : va_G) (ct ad : Nat → Nat) (q : Nat → Nat) (TX : Int → Int) (tl pl ft n1 n2 : Int) (wd : Value) (ht : tInv TX tl) : ZM l yX2_findFault wsX2_findFault ({ frames := 8, cells := 0, slots := 0, locals := 173 } : Room) D ct ad [.ref (q 0)] (txtW ct q TX tl pl ft wd n1 n2) (fun v w => ∃ (pl2 : Int) (wd2 : Value) (m1 : Int) (m2 : Int), ((True)) ∧ v = (some (.int (zI (tf TX tl 0)))) ∧ w = txtW ct q TX tl pl2 (tf TX tl 0) wd2 m1 m2) := by
  refine ZM.of (cc := cX2_findFault) (maxL := 2) (ret := (some .int)) (by decide +kernel) rfl (Nat.le_of_ble_eq_true rfl) ?_
  intro p e s m below meth c A ls hx hb hr hts hown hlocks hml hname hE hP hD hA hS hl
  have hK := hE.1
  have hf_0 := hts (.fieldLink RX2 26 "RodGrids$CommandText" "fault" "I") (by decide +kernel)
  have hin_X2 : ∀ z ∈ u_ws RX2 TX2 7, z ∈ wsX2_findFault := by decide +kernel
  have hl : lv_has ls 2 [(0, .ref (q 0))] := hl
  have t1 := ht.1
  refine lv_aload_n hx hb dX2_findFault_0 rfl (lv_at hl 0 rfl) ?_
  refine z_callV (C := RX2) (q0 := 0) (ci := 1) (As := []) (rest := []) ([] : va_W) ([] : va_W) hx hb hml hown hts hl hE hS hA (zr0 ([] : va_W) hP) (zr0D ([] : va_W) hD) (c_X2_rewind l D ct ad q TX tl pl ft n1 n2 wd (by assumption)) gX2_findFault_X2_rewind rfl rfl k_X2_rewind ⟨Nat.le_of_ble_eq_true rfl, Nat.le_of_ble_eq_true rfl⟩ rfl rfl rfl rfl (Nat.le_of_ble_eq_true rfl) ⟨Nat.le_of_ble_eq_true rfl, Nat.le_of_ble_eq_true rfl⟩ dX2_findFault_1 rfl (fun v w1 H locs hpost hP hD hS => ?_)
  obtain ⟨rfl, rfl⟩ := hpost
  have hP := zr0' hP
  have hD := zr0D' hD
  have hP : va_P D vwCl (txtW ct q TX tl 0 (-1) wd n1 n2) H := hP
  have hD : va_D A (txtW ct q TX tl 0 (-1) wd n1 n2) := hD
  refine W.eq (g2 := F0 m 4 ls []) rfl ?_
  refine z_iconst hx hb dX2_findFault_4 ?_
  refine lv_istore_n (lv' := [(1, .int (zI 0)), (0, .ref (q 0))]) hx hb dX2_findFault_5 rfl hl (by decide) rfl (fun ls hl => ?_)
  refine z_loop (σ := Int × Int × Value × Int × Int) (fun q9 => (tl - q9.2.1).toNat) (fun q9 => (0 ≤ q9.1 ∧ q9.1 ≤ q9.2.1 ∧ q9.2.1 ≤ tl) ∧ (tf TX tl q9.2.1 = tf TX tl 0)) (fun q9 => txtW ct q TX tl q9.2.1 (-1) q9.2.2.1 q9.2.2.2.1 q9.2.2.2.2) (fun q9 => [(0, .ref (q 0)), (1, .int (zI q9.1))]) (fun q9 => []) (0, 0, wd, n1, n2) ⟨(show 0 ≤ 0 ∧ 0 ≤ 0 ∧ 0 ≤ tl from (by omega)), (show tf TX tl 0 = tf TX tl 0 from (by rfl))⟩ hP hD hS (lv_sub hl [1, 0] rfl) rfl ?_
  rintro ⟨r, x, w2, k1, k2⟩ hI_6 ih_6 H locs ls hP hD hS hl
  obtain ⟨hi, hf⟩ := hI_6
  have hi : 0 ≤ r ∧ r ≤ x ∧ x ≤ tl := hi
  have hf : tf TX tl x = tf TX tl 0 := hf
  have hP : va_P D vwCl (txtW ct q TX tl x (-1) w2 k1 k2) H := hP
  have hD : va_D A (txtW ct q TX tl x (-1) w2 k1 k2) := hD
  have hl : lv_has ls 2 [(0, .ref (q 0)), (1, .int (zI r))] := hl
  have tE := tf_eq (TX := TX) (tl := tl) (p := x) (by omega)
  have sB := sk_B (TX := TX) (tl := tl) (p := x) (by omega)
  refine lv_iload_n hx hb dX2_findFault_6 rfl (lv_at hl 1 rfl) ?_
  refine z_sipush hx hb dX2_findFault_7 (by decide) ?_
  refine z_icmp_ge (tgt := 26) hx hb dX2_findFault_10 (by decide) (by omega) (by omega) (fun hc_10 => ?_) (fun hc_10 => ?_)
  · have hc_10 := hc_10
    have f0 : tf TX tl 0 = -1 := by rw [← hf, tE, if_neg (by omega)]
    refine lv_aload_n hx hb dX2_findFault_26 rfl (lv_at hl 0 rfl) ?_
    refine va_get (D := D) (ci := 1) (v := .int (zI (-1))) (C := RX2) (T := TX2) (N := 7) hx hb hts hin_X2 hown hK hP 0 rfl rfl 3 (by decide) hf_0 (fun _ h9 => h9) rfl dX2_findFault_27 ?_
    exact z_iret hx hb hr hlocks hP hD hS ⟨Nat.le_of_ble_eq_true rfl, Nat.le_of_ble_eq_true rfl⟩ dX2_findFault_30 (⟨x, w2, k1, k2, trivial, by rw [f0], by rw [f0]⟩)
  · have hc_10 := hc_10
    refine lv_aload_n hx hb dX2_findFault_13 rfl (lv_at hl 0 rfl) ?_
    by_cases jE : sk TX tl x < tl
    · skip
      by_cases jF : cf TX tl (sk TX tl x) = -1
      · skip
        by_cases jE : sk TX tl x < tl
        · skip
          refine z_callV (C := RX2) (q0 := 0) (ci := 1) (As := []) (rest := []) ([] : va_W) ([] : va_W) hx hb hml hown hts hl hE hS hA (zr0 ([] : va_W) hP) (zr0D ([] : va_W) hD) (c_X2_readCommand_ok l D ct ad q TX tl x (-1) k1 k2 w2 (by assumption) (by omega) (by omega) jF) gX2_findFault_X2_readCommand rfl rfl k_X2_readCommand ⟨Nat.le_of_ble_eq_true rfl, Nat.le_of_ble_eq_true rfl⟩ rfl rfl rfl rfl (Nat.le_of_ble_eq_true rfl) ⟨Nat.le_of_ble_eq_true rfl, Nat.le_of_ble_eq_true rfl⟩ dX2_findFault_14 rfl (fun v w1 H locs hpost hP hD hS => ?_)
          obtain ⟨rfl, rfl⟩ := hpost
          have hP := zr0' hP
          have hD := zr0D' hD
          have hP : va_P D vwCl (txtW ct q TX tl (cp TX tl (sk TX tl x)) (-1) (.ref (ad (cc TX tl (sk TX tl x)).toNat)) (cn1 TX tl (sk TX tl x)) (cn2 TX tl (sk TX tl x))) H := hP
          have hD : va_D A (txtW ct q TX tl (cp TX tl (sk TX tl x)) (-1) (.ref (ad (cc TX tl (sk TX tl x)).toNat)) (cn1 TX tl (sk TX tl x)) (cn2 TX tl (sk TX tl x))) := hD
          refine W.eq (g2 := F0 m 17 ls [.int (zI 1)]) rfl ?_
          refine z_if_eq (tgt := 26) hx hb dX2_findFault_17 (by decide) (by omega) (fun hc_17 => ?_) (fun hc_17 => ?_)
          · have hc_17 := hc_17
            omega
          · have hc_17 := hc_17
            have cG := cf_B (TX := TX) (tl := tl) (q := sk TX tl x) (by omega) (by omega)
            refine z_iinc (k := 1) (lv' := [(1, .int (zI (r + 1))), (0, .ref (q 0))]) hx hb dX2_findFault_20 hl rfl (by decide) rfl (fun ls hl => ?_)
            refine lv_goto (tgt := 6) hx hb dX2_findFault_23 (by decide) ?_
            exact ih_6 (r + 1, (cp TX tl (sk TX tl x)), (.ref (ad (cc TX tl (sk TX tl x)).toNat)), (cn1 TX tl (sk TX tl x)), (cn2 TX tl (sk TX tl x))) ⟨(show 0 ≤ (r + 1) ∧ (r + 1) ≤ (cp TX tl (sk TX tl x)) ∧ (cp TX tl (sk TX tl x)) ≤ tl from (by omega)), (show tf TX tl (cp TX tl (sk TX tl x)) = tf TX tl 0 from (by rw [← hf, tE, if_pos jE, if_pos jF]))⟩ (show (tl - (cp TX tl (sk TX tl x))).toNat < (tl - x).toNat from (by omega)) _ _ _ hP hD hS (lv_sub hl [1, 0] rfl)
        · skip
          refine z_callV (C := RX2) (q0 := 0) (ci := 1) (As := []) (rest := []) ([] : va_W) ([] : va_W) hx hb hml hown hts hl hE hS hA (zr0 ([] : va_W) hP) (zr0D ([] : va_W) hD) (c_X2_readCommand_end l D ct ad q TX tl x (-1) k1 k2 w2 (by assumption) (by omega) (by omega)) gX2_findFault_X2_readCommand rfl rfl k_X2_readCommand ⟨Nat.le_of_ble_eq_true rfl, Nat.le_of_ble_eq_true rfl⟩ rfl rfl rfl rfl (Nat.le_of_ble_eq_true rfl) ⟨Nat.le_of_ble_eq_true rfl, Nat.le_of_ble_eq_true rfl⟩ dX2_findFault_14 rfl (fun v w1 H locs hpost hP hD hS => ?_)
          obtain ⟨rfl, rfl⟩ := hpost
          have hP := zr0' hP
          have hD := zr0D' hD
          have hP : va_P D vwCl (txtW ct q TX tl (sk TX tl x) (-1) w2 k1 k2) H := hP
          have hD : va_D A (txtW ct q TX tl (sk TX tl x) (-1) w2 k1 k2) := hD
          refine W.eq (g2 := F0 m 17 ls [.int (zI 0)]) rfl ?_
          refine z_if_eq (tgt := 26) hx hb dX2_findFault_17 (by decide) (by omega) (fun hc_17 => ?_) (fun hc_17 => ?_)
          · have hc_17 := hc_17
            have f0 : tf TX tl 0 = -1 := by rw [← hf, tE, if_neg (by omega)]
            refine lv_aload_n hx hb dX2_findFault_26 rfl (lv_at hl 0 rfl) ?_
            refine va_get (D := D) (ci := 1) (v := .int (zI (-1))) (C := RX2) (T := TX2) (N := 7) hx hb hts hin_X2 hown hK hP 0 rfl rfl 3 (by decide) hf_0 (fun _ h9 => h9) rfl dX2_findFault_27 ?_
            exact z_iret hx hb hr hlocks hP hD hS ⟨Nat.le_of_ble_eq_true rfl, Nat.le_of_ble_eq_true rfl⟩ dX2_findFault_30 (⟨(sk TX tl x), w2, k1, k2, trivial, by rw [f0], by rw [f0]⟩)
          · have hc_17 := hc_17
            omega
      · skip
        by_cases jE : sk TX tl x < tl
        · skip
          refine z_callV (C := RX2) (q0 := 0) (ci := 1) (As := []) (rest := []) ([] : va_W) ([] : va_W) hx hb hml hown hts hl hE hS hA (zr0 ([] : va_W) hP) (zr0D ([] : va_W) hD) (c_X2_readCommand_no l D ct ad q TX tl x (-1) k1 k2 w2 (by assumption) (by omega) (by omega) jF) gX2_findFault_X2_readCommand rfl rfl k_X2_readCommand ⟨Nat.le_of_ble_eq_true rfl, Nat.le_of_ble_eq_true rfl⟩ rfl rfl rfl rfl (Nat.le_of_ble_eq_true rfl) ⟨Nat.le_of_ble_eq_true rfl, Nat.le_of_ble_eq_true rfl⟩ dX2_findFault_14 rfl (fun v w1 H locs hpost hP hD hS => ?_)
          obtain ⟨pl2_14, wd2_14, m1_14, m2_14, hx0_14, rfl, rfl⟩ := hpost
          have hP := zr0' hP
          have hD := zr0D' hD
          have hP : va_P D vwCl (txtW ct q TX tl pl2_14 (cf TX tl (sk TX tl x)) wd2_14 m1_14 m2_14) H := hP
          have hD : va_D A (txtW ct q TX tl pl2_14 (cf TX tl (sk TX tl x)) wd2_14 m1_14 m2_14) := hD
          refine W.eq (g2 := F0 m 17 ls [.int (zI 0)]) rfl ?_
          refine z_if_eq (tgt := 26) hx hb dX2_findFault_17 (by decide) (by omega) (fun hc_17 => ?_) (fun hc_17 => ?_)
          · have hc_17 := hc_17
            have f0 : tf TX tl 0 = cf TX tl (sk TX tl x) := by rw [← hf, tE, if_pos jE, if_neg jF]
            refine lv_aload_n hx hb dX2_findFault_26 rfl (lv_at hl 0 rfl) ?_
            refine va_get (D := D) (ci := 1) (v := .int (zI (cf TX tl (sk TX tl x)))) (C := RX2) (T := TX2) (N := 7) hx hb hts hin_X2 hown hK hP 0 rfl rfl 3 (by decide) hf_0 (fun _ h9 => h9) rfl dX2_findFault_27 ?_
            exact z_iret hx hb hr hlocks hP hD hS ⟨Nat.le_of_ble_eq_true rfl, Nat.le_of_ble_eq_true rfl⟩ dX2_findFault_30 (⟨pl2_14, wd2_14, m1_14, m2_14, trivial, by rw [f0], by rw [f0]⟩)
          · have hc_17 := hc_17
            omega
        · skip
          refine z_callV (C := RX2) (q0 := 0) (ci := 1) (As := []) (rest := []) ([] : va_W) ([] : va_W) hx hb hml hown hts hl hE hS hA (zr0 ([] : va_W) hP) (zr0D ([] : va_W) hD) (c_X2_readCommand_end l D ct ad q TX tl x (-1) k1 k2 w2 (by assumption) (by omega) (by omega)) gX2_findFault_X2_readCommand rfl rfl k_X2_readCommand ⟨Nat.le_of_ble_eq_true rfl, Nat.le_of_ble_eq_true rfl⟩ rfl rfl rfl rfl (Nat.le_of_ble_eq_true rfl) ⟨Nat.le_of_ble_eq_true rfl, Nat.le_of_ble_eq_true rfl⟩ dX2_findFault_14 rfl (fun v w1 H locs hpost hP hD hS => ?_)
          obtain ⟨rfl, rfl⟩ := hpost
          have hP := zr0' hP
          have hD := zr0D' hD
          have hP : va_P D vwCl (txtW ct q TX tl (sk TX tl x) (-1) w2 k1 k2) H := hP
          have hD : va_D A (txtW ct q TX tl (sk TX tl x) (-1) w2 k1 k2) := hD
          refine W.eq (g2 := F0 m 17 ls [.int (zI 0)]) rfl ?_
          refine z_if_eq (tgt := 26) hx hb dX2_findFault_17 (by decide) (by omega) (fun hc_17 => ?_) (fun hc_17 => ?_)
          · have hc_17 := hc_17
            have f0 : tf TX tl 0 = -1 := by rw [← hf, tE, if_neg (by omega)]
            refine lv_aload_n hx hb dX2_findFault_26 rfl (lv_at hl 0 rfl) ?_
            refine va_get (D := D) (ci := 1) (v := .int (zI (-1))) (C := RX2) (T := TX2) (N := 7) hx hb hts hin_X2 hown hK hP 0 rfl rfl 3 (by decide) hf_0 (fun _ h9 => h9) rfl dX2_findFault_27 ?_
            exact z_iret hx hb hr hlocks hP hD hS ⟨Nat.le_of_ble_eq_true rfl, Nat.le_of_ble_eq_true rfl⟩ dX2_findFault_30 (⟨(sk TX tl x), w2, k1, k2, trivial, by rw [f0], by rw [f0]⟩)
          · have hc_17 := hc_17
            omega
    · skip
      refine z_callV (C := RX2) (q0 := 0) (ci := 1) (As := []) (rest := []) ([] : va_W) ([] : va_W) hx hb hml hown hts hl hE hS hA (zr0 ([] : va_W) hP) (zr0D ([] : va_W) hD) (c_X2_readCommand_end l D ct ad q TX tl x (-1) k1 k2 w2 (by assumption) (by omega) (by omega)) gX2_findFault_X2_readCommand rfl rfl k_X2_readCommand ⟨Nat.le_of_ble_eq_true rfl, Nat.le_of_ble_eq_true rfl⟩ rfl rfl rfl rfl (Nat.le_of_ble_eq_true rfl) ⟨Nat.le_of_ble_eq_true rfl, Nat.le_of_ble_eq_true rfl⟩ dX2_findFault_14 rfl (fun v w1 H locs hpost hP hD hS => ?_)
      obtain ⟨rfl, rfl⟩ := hpost
      have hP := zr0' hP
      have hD := zr0D' hD
      have hP : va_P D vwCl (txtW ct q TX tl (sk TX tl x) (-1) w2 k1 k2) H := hP
      have hD : va_D A (txtW ct q TX tl (sk TX tl x) (-1) w2 k1 k2) := hD
      refine W.eq (g2 := F0 m 17 ls [.int (zI 0)]) rfl ?_
      refine z_if_eq (tgt := 26) hx hb dX2_findFault_17 (by decide) (by omega) (fun hc_17 => ?_) (fun hc_17 => ?_)
      · have hc_17 := hc_17
        have f0 : tf TX tl 0 = -1 := by rw [← hf, tE, if_neg (by omega)]
        refine lv_aload_n hx hb dX2_findFault_26 rfl (lv_at hl 0 rfl) ?_
        refine va_get (D := D) (ci := 1) (v := .int (zI (-1))) (C := RX2) (T := TX2) (N := 7) hx hb hts hin_X2 hown hK hP 0 rfl rfl 3 (by decide) hf_0 (fun _ h9 => h9) rfl dX2_findFault_27 ?_
        exact z_iret hx hb hr hlocks hP hD hS ⟨Nat.le_of_ble_eq_true rfl, Nat.le_of_ble_eq_true rfl⟩ dX2_findFault_30 (⟨(sk TX tl x), w2, k1, k2, trivial, by rw [f0], by rw [f0]⟩)
      · have hc_17 := hc_17
        omega
