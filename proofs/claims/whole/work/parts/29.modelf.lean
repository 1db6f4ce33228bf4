theorem k_X9_manyFor : yX9_manyFor.cls ≠ "java/lang/invoke/MethodHandle" ∧ yX9_manyFor.cls ≠ "java/lang/invoke/VarHandle" ∧ (parseMethodDescriptor yX9_manyFor.desc).map (fun d => d.parameters.length) = some 0 := by decide +kernel
theorem k_X9_readNumber : yX9_readNumber.cls ≠ "java/lang/invoke/MethodHandle" ∧ yX9_readNumber.cls ≠ "java/lang/invoke/VarHandle" ∧ (parseMethodDescriptor yX9_readNumber.desc).map (fun d => d.parameters.length) = some 1 := by decide +kernel
theorem k_X9_readWord : yX9_readWord.cls ≠ "java/lang/invoke/MethodHandle" ∧ yX9_readWord.cls ≠ "java/lang/invoke/VarHandle" ∧ (parseMethodDescriptor yX9_readWord.desc).map (fun d => d.parameters.length) = some 0 := by decide +kernel
set_option maxHeartbeats 4000000 in
set_option maxRecDepth 100000 in
theorem c_X9_readCommand_ok (l : Launch) (D : va_G) (ct ad : Nat → Nat) (b : Nat → Nat) (M SP SV TX NB : Int → Int) (sc tl cd pl cm h : Int) (ht : tInv TX tl) (hp : 0 ≤ pl ∧ pl ≤ tl) (hok : cf TX tl pl = -1) : ZM l yX9_readCommand wsX9_readCommand ({ frames := 3, cells := 0, slots := 0, locals := 64 } : Room) D ct ad [.ref (b 0)] (moW b sc tl cd pl cm h ++ (jrW ct (b 1) 94 M ++ (jrW ct (b 2) 94 SP ++ (jrW ct (b 3) 376 SV ++ (irW ct (b 4) 150 TX ++ (irW ct (b 5) 2 NB)))))) (fun v w => ∃ (NB2 : Int → Int), ((1 ≤ many (cc TX tl pl) → NB2 0 = cn1 TX tl pl) ∧ (2 ≤ many (cc TX tl pl) → NB2 1 = cn2 TX tl pl)) ∧ v = (some (.int (zI 1))) ∧ w = moW b sc tl cd (cp TX tl pl) (cc TX tl pl) h ++ (jrW ct (b 1) 94 M ++ (jrW ct (b 2) 94 SP ++ (jrW ct (b 3) 376 SV ++ (irW ct (b 4) 150 TX ++ (irW ct (b 5) 2 NB2)))))) := by
  refine ZM.of (cc := cX9_readCommand) (maxL := 2) (ret := (some .boolean)) (by decide +kernel) rfl (Nat.le_of_ble_eq_true rfl) ?_
  intro p e s m below meth c A ls hx hb hr hts hown hlocks hml hname hE hP hD hA hS hl
  have hK := hE.1
  have hf_0 := hts (.fieldLink RX9 230 "RodGridsModel" "place" "I") (by decide +kernel)
  have hin_X9 : ∀ z ∈ u_ws RX9 TX9 11, z ∈ wsX9_readCommand := by decide +kernel
  have hl : lv_has ls 2 [(0, .ref (b 0))] := hl
  have t1 := ht.1
  have cB := c_B (TX := TX) (tl := tl) (q := pl) hp.2
  have mB := manyB (cc TX tl pl)
  have ccB : cc TX tl pl = -2000000000 ∨ (0 ≤ cc TX tl pl ∧ cc TX tl pl ≤ 11) := cwN_B (TX := TX) (s := pl) (e := we TX tl pl) 12 (Nat.le_refl _)
  have e1 : 1 ≤ many (cc TX tl pl) → c1 TX tl pl = dE TX tl (we TX tl pl) := fun z => if_pos z
  have nB0 := (nV_B (TX := TX) (tl := tl) (p := we TX tl pl) cB.1.2).1
  have sB0 := sk_B (TX := TX) (tl := tl) (p := we TX tl pl) cB.1.2
  have sB1 := sk_B (TX := TX) (tl := tl) (p := dE TX tl (we TX tl pl)) nB0.2
  have cfo := cf_ok hp.1 hp.2 hok
  refine lv_aload_n hx hb dX9_readCommand_0 rfl (lv_at hl 0 rfl) ?_
  refine z_callV (C := RX9) (q0 := 0) (ci := 7) (As := []) (rest := []) ([] : va_W) ([] : va_W) hx hb hml hown hts hl hE hS hA (zr0 ([] : va_W) hP) (zr0D ([] : va_W) hD) (c_X9_readWord_ok l D ct ad b M SP SV TX NB sc tl cd pl cm h (by assumption) (by omega) cfo.1) gX9_readCommand_X9_readWord rfl rfl k_X9_readWord ⟨Nat.le_of_ble_eq_true rfl, Nat.le_of_ble_eq_true rfl⟩ rfl rfl rfl rfl (Nat.le_of_ble_eq_true rfl) ⟨Nat.le_of_ble_eq_true rfl, Nat.le_of_ble_eq_true rfl⟩ dX9_readCommand_1 rfl (fun v w1 H locs hpost hP hD hS => ?_)
  obtain ⟨rfl, rfl⟩ := hpost
  have hP := zr0' hP
  have hD := zr0D' hD
  have hP : va_P D vwCl (moW b sc tl cd (we TX tl pl) (cc TX tl pl) h ++ (jrW ct (b 1) 94 M ++ (jrW ct (b 2) 94 SP ++ (jrW ct (b 3) 376 SV ++ (irW ct (b 4) 150 TX ++ (irW ct (b 5) 2 NB)))))) H := hP
  have hD : va_D A (moW b sc tl cd (we TX tl pl) (cc TX tl pl) h ++ (jrW ct (b 1) 94 M ++ (jrW ct (b 2) 94 SP ++ (jrW ct (b 3) 376 SV ++ (irW ct (b 4) 150 TX ++ (irW ct (b 5) 2 NB)))))) := hD
  refine W.eq (g2 := F0 m 4 ls [.int (zI 1)]) rfl ?_
  refine z_if_ne (tgt := 9) hx hb dX9_readCommand_4 (by decide) (by omega) (fun hc_4 => ?_) (fun hc_4 => ?_)
  · have hc_4 := hc_4
    refine z_iconst hx hb dX9_readCommand_9 ?_
    refine lv_istore_n (lv' := [(1, .int (zI 0)), (0, .ref (b 0))]) hx hb dX9_readCommand_10 rfl hl (by decide) rfl (fun ls hl => ?_)
    refine lv_iload_n hx hb dX9_readCommand_11 rfl (lv_at hl 0 rfl) ?_
    refine lv_aload_n hx hb dX9_readCommand_12 rfl (lv_at hl 1 rfl) ?_
    refine z_callV (C := RX9) (q0 := 0) (ci := 7) (As := []) (rest := [.int (zI 0)]) ([] : va_W) ([] : va_W) hx hb hml hown hts hl hE hS hA (zr0 ([] : va_W) hP) (zr0D ([] : va_W) hD) (c_X9_manyFor l D ct ad b M SP SV TX NB sc tl cd (we TX tl pl) (cc TX tl pl) h (by omega)) gX9_readCommand_X9_manyFor rfl rfl k_X9_manyFor ⟨Nat.le_of_ble_eq_true rfl, Nat.le_of_ble_eq_true rfl⟩ rfl rfl rfl rfl (Nat.le_of_ble_eq_true rfl) ⟨Nat.le_of_ble_eq_true rfl, Nat.le_of_ble_eq_true rfl⟩ dX9_readCommand_13 rfl (fun v w1 H locs hpost hP hD hS => ?_)
    obtain ⟨rfl, rfl⟩ := hpost
    have hP := zr0' hP
    have hD := zr0D' hD
    have hP : va_P D vwCl (moW b sc tl cd (we TX tl pl) (cc TX tl pl) h ++ (jrW ct (b 1) 94 M ++ (jrW ct (b 2) 94 SP ++ (jrW ct (b 3) 376 SV ++ (irW ct (b 4) 150 TX ++ (irW ct (b 5) 2 NB)))))) H := hP
    have hD : va_D A (moW b sc tl cd (we TX tl pl) (cc TX tl pl) h ++ (jrW ct (b 1) 94 M ++ (jrW ct (b 2) 94 SP ++ (jrW ct (b 3) 376 SV ++ (irW ct (b 4) 150 TX ++ (irW ct (b 5) 2 NB)))))) := hD
    refine W.eq (g2 := F0 m 16 ls [.int (zI (many (cc TX tl pl))), .int (zI 0)]) rfl ?_
    refine z_icmp_ge (tgt := 35) hx hb dX9_readCommand_16 (by decide) (by omega) (by omega) (fun hc_16 => ?_) (fun hc_16 => ?_)
    · have hc_16 := hc_16
      have eX : (we TX tl pl) = c2 TX tl pl := by rw [c2, if_neg (by omega), c1, if_neg (by omega)]
      have hP : va_P D vwCl (moW b sc tl cd (c2 TX tl pl) (cc TX tl pl) h ++ (jrW ct (b 1) 94 M ++ (jrW ct (b 2) 94 SP ++ (jrW ct (b 3) 376 SV ++ (irW ct (b 4) 150 TX ++ (irW ct (b 5) 2 NB)))))) H := by rw [← eX]; exact hP
      have hD : va_D A (moW b sc tl cd (c2 TX tl pl) (cc TX tl pl) h ++ (jrW ct (b 1) 94 M ++ (jrW ct (b 2) 94 SP ++ (jrW ct (b 3) 376 SV ++ (irW ct (b 4) 150 TX ++ (irW ct (b 5) 2 NB)))))) := by rw [← eX]; exact hD
      have tX := tcB ht (p := sk TX tl (c2 TX tl pl)) (by omega)
      refine lv_aload_n hx hb dX9_readCommand_35 rfl (lv_at hl 1 rfl) ?_
      refine z_callV (C := RX9) (q0 := 0) (ci := 7) (As := []) (rest := []) ([] : va_W) ([] : va_W) hx hb hml hown hts hl hE hS hA (zr0 ([] : va_W) hP) (zr0D ([] : va_W) hD) (c_X9_skips l D ct ad b M SP SV TX NB sc tl cd (c2 TX tl pl) (cc TX tl pl) h (by assumption) (by omega)) gX9_readCommand_X9_skips rfl rfl k_X9_skips ⟨Nat.le_of_ble_eq_true rfl, Nat.le_of_ble_eq_true rfl⟩ rfl rfl rfl rfl (Nat.le_of_ble_eq_true rfl) ⟨Nat.le_of_ble_eq_true rfl, Nat.le_of_ble_eq_true rfl⟩ dX9_readCommand_36 rfl (fun v w1 H locs hpost hP hD hS => ?_)
      obtain ⟨rfl, rfl⟩ := hpost
      have hP := zr0' hP
      have hD := zr0D' hD
      have hP : va_P D vwCl (moW b sc tl cd (sk TX tl (c2 TX tl pl)) (cc TX tl pl) h ++ (jrW ct (b 1) 94 M ++ (jrW ct (b 2) 94 SP ++ (jrW ct (b 3) 376 SV ++ (irW ct (b 4) 150 TX ++ (irW ct (b 5) 2 NB)))))) H := hP
      have hD : va_D A (moW b sc tl cd (sk TX tl (c2 TX tl pl)) (cc TX tl pl) h ++ (jrW ct (b 1) 94 M ++ (jrW ct (b 2) 94 SP ++ (jrW ct (b 3) 376 SV ++ (irW ct (b 4) 150 TX ++ (irW ct (b 5) 2 NB)))))) := hD
      refine W.eq (g2 := F0 m 39 ls [.int (zI (zB ((c2 TX tl pl) < sk TX tl (c2 TX tl pl))))]) rfl ?_
      refine lv_istore_n (lv' := [(1, .int (zI (zB ((c2 TX tl pl) < sk TX tl (c2 TX tl pl))))), (0, .ref (b 0))]) hx hb dX9_readCommand_39 rfl hl (by decide) rfl (fun ls hl => ?_)
      refine lv_aload_n hx hb dX9_readCommand_40 rfl (lv_at hl 1 rfl) ?_
      refine z_callV (C := RX9) (q0 := 0) (ci := 7) (As := []) (rest := []) ([] : va_W) ([] : va_W) hx hb hml hown hts hl hE hS hA (zr0 ([] : va_W) hP) (zr0D ([] : va_W) hD) (c_X9_here l D ct ad b M SP SV TX NB sc tl cd (sk TX tl (c2 TX tl pl)) (cc TX tl pl) h (by assumption) (by omega)) gX9_readCommand_X9_here rfl rfl k_X9_here ⟨Nat.le_of_ble_eq_true rfl, Nat.le_of_ble_eq_true rfl⟩ rfl rfl rfl rfl (Nat.le_of_ble_eq_true rfl) ⟨Nat.le_of_ble_eq_true rfl, Nat.le_of_ble_eq_true rfl⟩ dX9_readCommand_41 rfl (fun v w1 H locs hpost hP hD hS => ?_)
      obtain ⟨rfl, rfl⟩ := hpost
      have hP := zr0' hP
      have hD := zr0D' hD
      have hP : va_P D vwCl (moW b sc tl cd (sk TX tl (c2 TX tl pl)) (cc TX tl pl) h ++ (jrW ct (b 1) 94 M ++ (jrW ct (b 2) 94 SP ++ (jrW ct (b 3) 376 SV ++ (irW ct (b 4) 150 TX ++ (irW ct (b 5) 2 NB)))))) H := hP
      have hD : va_D A (moW b sc tl cd (sk TX tl (c2 TX tl pl)) (cc TX tl pl) h ++ (jrW ct (b 1) 94 M ++ (jrW ct (b 2) 94 SP ++ (jrW ct (b 3) 376 SV ++ (irW ct (b 4) 150 TX ++ (irW ct (b 5) 2 NB)))))) := hD
      refine W.eq (g2 := F0 m 44 ls [.int (zI (hrf TX tl (sk TX tl (c2 TX tl pl))))]) rfl ?_
      refine z_bipush hx hb dX9_readCommand_44 (by decide) ?_
      refine z_icmp_eq (tgt := 51) hx hb dX9_readCommand_46 (by decide) (by omega) (by omega) (fun hc_46 => ?_) (fun hc_46 => ?_)
      · have hc_46 := hc_46
        refine lv_aload_n hx hb dX9_readCommand_51 rfl (lv_at hl 1 rfl) ?_
        refine lv_dup hx hb dX9_readCommand_52 rfl ?_
        refine va_get (D := D) (ci := 7) (v := .int (zI (sk TX tl (c2 TX tl pl)))) (C := RX9) (T := TX9) (N := 11) hx hb hts hin_X9 hown hK hP 0 rfl rfl 7 (by decide) hf_0 (fun _ h9 => h9) rfl dX9_readCommand_53 ?_
        refine z_iconst hx hb dX9_readCommand_56 ?_
        refine z_iadd hx hb dX9_readCommand_57 ?_
        refine z_put (ct := ct) (ad := ad) (ci := 7) (v := .int (zI ((sk TX tl (c2 TX tl pl)) + 1))) (ty := tyX9 7) (C := RX9) (T := TX9) (N := 11) (w2 := moW b sc tl cd ((sk TX tl (c2 TX tl pl)) + 1) (cc TX tl pl) h ++ (jrW ct (b 1) 94 M ++ (jrW ct (b 2) 94 SP ++ (jrW ct (b 3) 376 SV ++ (irW ct (b 4) 150 TX ++ (irW ct (b 5) 2 NB)))))) hx hb hts hin_X9 tyX9 tyX9_ok nmX9 hown hE hP hD hS 0 rfl rfl 7 (by decide) hf_0 (fun _ h9 => h9) rfl (by decide +kernel) rfl rfl (Nat.le_of_ble_eq_true rfl) dX9_readCommand_58 (rfl) (fun H locs hP hD hS => ?_)
        refine z_iconst hx hb dX9_readCommand_61 ?_
        exact z_zret hx hb hr (by first | rfl | exact zB_nar) hlocks hP hD hS ⟨Nat.le_of_ble_eq_true rfl, Nat.le_of_ble_eq_true rfl⟩ dX9_readCommand_62 (⟨NB, ⟨fun h => by unfold cn1; rw [if_pos h]; first | (exfalso; omega) | rw [up_s] | rw [up_n (by decide), up_s], fun h => by unfold cn2; rw [if_pos h]; first | (exfalso; omega) | rw [up_s, e1 (by omega)]⟩, rfl, rfl⟩)
      · have hc_46 := hc_46
        omega
    · have hc_16 := hc_16
      refine lv_aload_n hx hb dX9_readCommand_19 rfl (lv_at hl 1 rfl) ?_
      refine lv_iload_n hx hb dX9_readCommand_20 rfl (lv_at hl 0 rfl) ?_
      refine z_callV (C := RX9) (q0 := 0) (ci := 7) (As := [.int (zI 0)]) (rest := []) ([] : va_W) ([] : va_W) hx hb hml hown hts hl hE hS hA (zr0 ([] : va_W) hP) (zr0D ([] : va_W) hD) (c_X9_readNumber_ok0 l D ct ad b M SP SV TX NB sc tl cd (we TX tl pl) (cc TX tl pl) h (by assumption) (by omega) (cfo.2.1 (by omega))) gX9_readCommand_X9_readNumber rfl rfl k_X9_readNumber ⟨Nat.le_of_ble_eq_true rfl, Nat.le_of_ble_eq_true rfl⟩ rfl rfl rfl rfl (Nat.le_of_ble_eq_true rfl) ⟨Nat.le_of_ble_eq_true rfl, Nat.le_of_ble_eq_true rfl⟩ dX9_readCommand_21 rfl (fun v w1 H locs hpost hP hD hS => ?_)
      obtain ⟨rfl, rfl⟩ := hpost
      have hP := zr0' hP
      have hD := zr0D' hD
      have hP : va_P D vwCl (moW b sc tl cd (dE TX tl (we TX tl pl)) (cc TX tl pl) h ++ (jrW ct (b 1) 94 M ++ (jrW ct (b 2) 94 SP ++ (jrW ct (b 3) 376 SV ++ (irW ct (b 4) 150 TX ++ (irW ct (b 5) 2 (up NB 0 (nV TX tl (we TX tl pl))))))))) H := hP
      have hD : va_D A (moW b sc tl cd (dE TX tl (we TX tl pl)) (cc TX tl pl) h ++ (jrW ct (b 1) 94 M ++ (jrW ct (b 2) 94 SP ++ (jrW ct (b 3) 376 SV ++ (irW ct (b 4) 150 TX ++ (irW ct (b 5) 2 (up NB 0 (nV TX tl (we TX tl pl))))))))) := hD
      refine W.eq (g2 := F0 m 24 ls [.int (zI 1)]) rfl ?_
      refine z_if_ne (tgt := 29) hx hb dX9_readCommand_24 (by decide) (by omega) (fun hc_24 => ?_) (fun hc_24 => ?_)
      · have hc_24 := hc_24
        refine z_iinc (k := 0) (lv' := [(1, .int (zI (0 + 1))), (0, .ref (b 0))]) hx hb dX9_readCommand_29 hl rfl (by decide) rfl (fun ls hl => ?_)
        refine lv_goto (tgt := 11) hx hb dX9_readCommand_32 (by decide) ?_
        refine lv_iload_n hx hb dX9_readCommand_11 rfl (lv_at hl 0 rfl) ?_
        refine lv_aload_n hx hb dX9_readCommand_12 rfl (lv_at hl 1 rfl) ?_
        refine z_callV (C := RX9) (q0 := 0) (ci := 7) (As := []) (rest := [.int (zI (0 + 1))]) ([] : va_W) ([] : va_W) hx hb hml hown hts hl hE hS hA (zr0 ([] : va_W) hP) (zr0D ([] : va_W) hD) (c_X9_manyFor l D ct ad b M SP SV TX (up NB 0 (nV TX tl (we TX tl pl))) sc tl cd (dE TX tl (we TX tl pl)) (cc TX tl pl) h (by omega)) gX9_readCommand_X9_manyFor rfl rfl k_X9_manyFor ⟨Nat.le_of_ble_eq_true rfl, Nat.le_of_ble_eq_true rfl⟩ rfl rfl rfl rfl (Nat.le_of_ble_eq_true rfl) ⟨Nat.le_of_ble_eq_true rfl, Nat.le_of_ble_eq_true rfl⟩ dX9_readCommand_13 rfl (fun v w1 H locs hpost hP hD hS => ?_)
        obtain ⟨rfl, rfl⟩ := hpost
        have hP := zr0' hP
        have hD := zr0D' hD
        have hP : va_P D vwCl (moW b sc tl cd (dE TX tl (we TX tl pl)) (cc TX tl pl) h ++ (jrW ct (b 1) 94 M ++ (jrW ct (b 2) 94 SP ++ (jrW ct (b 3) 376 SV ++ (irW ct (b 4) 150 TX ++ (irW ct (b 5) 2 (up NB 0 (nV TX tl (we TX tl pl))))))))) H := hP
        have hD : va_D A (moW b sc tl cd (dE TX tl (we TX tl pl)) (cc TX tl pl) h ++ (jrW ct (b 1) 94 M ++ (jrW ct (b 2) 94 SP ++ (jrW ct (b 3) 376 SV ++ (irW ct (b 4) 150 TX ++ (irW ct (b 5) 2 (up NB 0 (nV TX tl (we TX tl pl))))))))) := hD
        refine W.eq (g2 := F0 m 16 ls [.int (zI (many (cc TX tl pl))), .int (zI (0 + 1))]) rfl ?_
        refine z_icmp_ge (tgt := 35) hx hb dX9_readCommand_16 (by decide) (by omega) (by omega) (fun hc_16 => ?_) (fun hc_16 => ?_)
        · have hc_16 := hc_16
          have eX : (dE TX tl (we TX tl pl)) = c2 TX tl pl := by rw [c2, if_neg (by omega), c1, if_pos (by omega)]
          have hP : va_P D vwCl (moW b sc tl cd (c2 TX tl pl) (cc TX tl pl) h ++ (jrW ct (b 1) 94 M ++ (jrW ct (b 2) 94 SP ++ (jrW ct (b 3) 376 SV ++ (irW ct (b 4) 150 TX ++ (irW ct (b 5) 2 (up NB 0 (nV TX tl (we TX tl pl))))))))) H := by rw [← eX]; exact hP
          have hD : va_D A (moW b sc tl cd (c2 TX tl pl) (cc TX tl pl) h ++ (jrW ct (b 1) 94 M ++ (jrW ct (b 2) 94 SP ++ (jrW ct (b 3) 376 SV ++ (irW ct (b 4) 150 TX ++ (irW ct (b 5) 2 (up NB 0 (nV TX tl (we TX tl pl))))))))) := by rw [← eX]; exact hD
          have tX := tcB ht (p := sk TX tl (c2 TX tl pl)) (by omega)
          refine lv_aload_n hx hb dX9_readCommand_35 rfl (lv_at hl 1 rfl) ?_
          refine z_callV (C := RX9) (q0 := 0) (ci := 7) (As := []) (rest := []) ([] : va_W) ([] : va_W) hx hb hml hown hts hl hE hS hA (zr0 ([] : va_W) hP) (zr0D ([] : va_W) hD) (c_X9_skips l D ct ad b M SP SV TX (up NB 0 (nV TX tl (we TX tl pl))) sc tl cd (c2 TX tl pl) (cc TX tl pl) h (by assumption) (by omega)) gX9_readCommand_X9_skips rfl rfl k_X9_skips ⟨Nat.le_of_ble_eq_true rfl, Nat.le_of_ble_eq_true rfl⟩ rfl rfl rfl rfl (Nat.le_of_ble_eq_true rfl) ⟨Nat.le_of_ble_eq_true rfl, Nat.le_of_ble_eq_true rfl⟩ dX9_readCommand_36 rfl (fun v w1 H locs hpost hP hD hS => ?_)
          obtain ⟨rfl, rfl⟩ := hpost
          have hP := zr0' hP
          have hD := zr0D' hD
          have hP : va_P D vwCl (moW b sc tl cd (sk TX tl (c2 TX tl pl)) (cc TX tl pl) h ++ (jrW ct (b 1) 94 M ++ (jrW ct (b 2) 94 SP ++ (jrW ct (b 3) 376 SV ++ (irW ct (b 4) 150 TX ++ (irW ct (b 5) 2 (up NB 0 (nV TX tl (we TX tl pl))))))))) H := hP
          have hD : va_D A (moW b sc tl cd (sk TX tl (c2 TX tl pl)) (cc TX tl pl) h ++ (jrW ct (b 1) 94 M ++ (jrW ct (b 2) 94 SP ++ (jrW ct (b 3) 376 SV ++ (irW ct (b 4) 150 TX ++ (irW ct (b 5) 2 (up NB 0 (nV TX tl (we TX tl pl))))))))) := hD
          refine W.eq (g2 := F0 m 39 ls [.int (zI (zB ((c2 TX tl pl) < sk TX tl (c2 TX tl pl))))]) rfl ?_
          refine lv_istore_n (lv' := [(1, .int (zI (zB ((c2 TX tl pl) < sk TX tl (c2 TX tl pl))))), (0, .ref (b 0))]) hx hb dX9_readCommand_39 rfl hl (by decide) rfl (fun ls hl => ?_)
          refine lv_aload_n hx hb dX9_readCommand_40 rfl (lv_at hl 1 rfl) ?_
          refine z_callV (C := RX9) (q0 := 0) (ci := 7) (As := []) (rest := []) ([] : va_W) ([] : va_W) hx hb hml hown hts hl hE hS hA (zr0 ([] : va_W) hP) (zr0D ([] : va_W) hD) (c_X9_here l D ct ad b M SP SV TX (up NB 0 (nV TX tl (we TX tl pl))) sc tl cd (sk TX tl (c2 TX tl pl)) (cc TX tl pl) h (by assumption) (by omega)) gX9_readCommand_X9_here rfl rfl k_X9_here ⟨Nat.le_of_ble_eq_true rfl, Nat.le_of_ble_eq_true rfl⟩ rfl rfl rfl rfl (Nat.le_of_ble_eq_true rfl) ⟨Nat.le_of_ble_eq_true rfl, Nat.le_of_ble_eq_true rfl⟩ dX9_readCommand_41 rfl (fun v w1 H locs hpost hP hD hS => ?_)
          obtain ⟨rfl, rfl⟩ := hpost
          have hP := zr0' hP
          have hD := zr0D' hD
          have hP : va_P D vwCl (moW b sc tl cd (sk TX tl (c2 TX tl pl)) (cc TX tl pl) h ++ (jrW ct (b 1) 94 M ++ (jrW ct (b 2) 94 SP ++ (jrW ct (b 3) 376 SV ++ (irW ct (b 4) 150 TX ++ (irW ct (b 5) 2 (up NB 0 (nV TX tl (we TX tl pl))))))))) H := hP
          have hD : va_D A (moW b sc tl cd (sk TX tl (c2 TX tl pl)) (cc TX tl pl) h ++ (jrW ct (b 1) 94 M ++ (jrW ct (b 2) 94 SP ++ (jrW ct (b 3) 376 SV ++ (irW ct (b 4) 150 TX ++ (irW ct (b 5) 2 (up NB 0 (nV TX tl (we TX tl pl))))))))) := hD
          refine W.eq (g2 := F0 m 44 ls [.int (zI (hrf TX tl (sk TX tl (c2 TX tl pl))))]) rfl ?_
          refine z_bipush hx hb dX9_readCommand_44 (by decide) ?_
          refine z_icmp_eq (tgt := 51) hx hb dX9_readCommand_46 (by decide) (by omega) (by omega) (fun hc_46 => ?_) (fun hc_46 => ?_)
          · have hc_46 := hc_46
            refine lv_aload_n hx hb dX9_readCommand_51 rfl (lv_at hl 1 rfl) ?_
            refine lv_dup hx hb dX9_readCommand_52 rfl ?_
            refine va_get (D := D) (ci := 7) (v := .int (zI (sk TX tl (c2 TX tl pl)))) (C := RX9) (T := TX9) (N := 11) hx hb hts hin_X9 hown hK hP 0 rfl rfl 7 (by decide) hf_0 (fun _ h9 => h9) rfl dX9_readCommand_53 ?_
            refine z_iconst hx hb dX9_readCommand_56 ?_
            refine z_iadd hx hb dX9_readCommand_57 ?_
            refine z_put (ct := ct) (ad := ad) (ci := 7) (v := .int (zI ((sk TX tl (c2 TX tl pl)) + 1))) (ty := tyX9 7) (C := RX9) (T := TX9) (N := 11) (w2 := moW b sc tl cd ((sk TX tl (c2 TX tl pl)) + 1) (cc TX tl pl) h ++ (jrW ct (b 1) 94 M ++ (jrW ct (b 2) 94 SP ++ (jrW ct (b 3) 376 SV ++ (irW ct (b 4) 150 TX ++ (irW ct (b 5) 2 (up NB 0 (nV TX tl (we TX tl pl))))))))) hx hb hts hin_X9 tyX9 tyX9_ok nmX9 hown hE hP hD hS 0 rfl rfl 7 (by decide) hf_0 (fun _ h9 => h9) rfl (by decide +kernel) rfl rfl (Nat.le_of_ble_eq_true rfl) dX9_readCommand_58 (rfl) (fun H locs hP hD hS => ?_)
            refine z_iconst hx hb dX9_readCommand_61 ?_
            exact z_zret hx hb hr (by first | rfl | exact zB_nar) hlocks hP hD hS ⟨Nat.le_of_ble_eq_true rfl, Nat.le_of_ble_eq_true rfl⟩ dX9_readCommand_62 (⟨(up NB 0 (nV TX tl (we TX tl pl))), ⟨fun h => by unfold cn1; rw [if_pos h]; first | (exfalso; omega) | rw [up_s] | rw [up_n (by decide), up_s], fun h => by unfold cn2; rw [if_pos h]; first | (exfalso; omega) | rw [up_s, e1 (by omega)]⟩, rfl, rfl⟩)
          · have hc_46 := hc_46
            omega
        · have hc_16 := hc_16
          refine lv_aload_n hx hb dX9_readCommand_19 rfl (lv_at hl 1 rfl) ?_
          refine lv_iload_n hx hb dX9_readCommand_20 rfl (lv_at hl 0 rfl) ?_
          refine z_callV (C := RX9) (q0 := 0) (ci := 7) (As := [.int (zI (0 + 1))]) (rest := []) ([] : va_W) ([] : va_W) hx hb hml hown hts hl hE hS hA (zr0 ([] : va_W) hP) (zr0D ([] : va_W) hD) (c_X9_readNumber_ok1 l D ct ad b M SP SV TX (up NB 0 (nV TX tl (we TX tl pl))) sc tl cd (dE TX tl (we TX tl pl)) (cc TX tl pl) h (by assumption) (by omega) (by rw [← e1 (by omega)]; exact cfo.2.2.1 (by omega))) gX9_readCommand_X9_readNumber rfl rfl k_X9_readNumber ⟨Nat.le_of_ble_eq_true rfl, Nat.le_of_ble_eq_true rfl⟩ rfl rfl rfl rfl (Nat.le_of_ble_eq_true rfl) ⟨Nat.le_of_ble_eq_true rfl, Nat.le_of_ble_eq_true rfl⟩ dX9_readCommand_21 rfl (fun v w1 H locs hpost hP hD hS => ?_)
          obtain ⟨rfl, rfl⟩ := hpost
          have hP := zr0' hP
          have hD := zr0D' hD
          have hP : va_P D vwCl (moW b sc tl cd (dE TX tl (dE TX tl (we TX tl pl))) (cc TX tl pl) h ++ (jrW ct (b 1) 94 M ++ (jrW ct (b 2) 94 SP ++ (jrW ct (b 3) 376 SV ++ (irW ct (b 4) 150 TX ++ (irW ct (b 5) 2 (up (up NB 0 (nV TX tl (we TX tl pl))) 1 (nV TX tl (dE TX tl (we TX tl pl)))))))))) H := hP
          have hD : va_D A (moW b sc tl cd (dE TX tl (dE TX tl (we TX tl pl))) (cc TX tl pl) h ++ (jrW ct (b 1) 94 M ++ (jrW ct (b 2) 94 SP ++ (jrW ct (b 3) 376 SV ++ (irW ct (b 4) 150 TX ++ (irW ct (b 5) 2 (up (up NB 0 (nV TX tl (we TX tl pl))) 1 (nV TX tl (dE TX tl (we TX tl pl)))))))))) := hD
          refine W.eq (g2 := F0 m 24 ls [.int (zI 1)]) rfl ?_
          refine z_if_ne (tgt := 29) hx hb dX9_readCommand_24 (by decide) (by omega) (fun hc_24 => ?_) (fun hc_24 => ?_)
          · have hc_24 := hc_24
            refine z_iinc (k := 0) (lv' := [(1, .int (zI ((0 + 1) + 1))), (0, .ref (b 0))]) hx hb dX9_readCommand_29 hl rfl (by decide) rfl (fun ls hl => ?_)
            refine lv_goto (tgt := 11) hx hb dX9_readCommand_32 (by decide) ?_
            refine lv_iload_n hx hb dX9_readCommand_11 rfl (lv_at hl 0 rfl) ?_
            refine lv_aload_n hx hb dX9_readCommand_12 rfl (lv_at hl 1 rfl) ?_
            refine z_callV (C := RX9) (q0 := 0) (ci := 7) (As := []) (rest := [.int (zI ((0 + 1) + 1))]) ([] : va_W) ([] : va_W) hx hb hml hown hts hl hE hS hA (zr0 ([] : va_W) hP) (zr0D ([] : va_W) hD) (c_X9_manyFor l D ct ad b M SP SV TX (up (up NB 0 (nV TX tl (we TX tl pl))) 1 (nV TX tl (dE TX tl (we TX tl pl)))) sc tl cd (dE TX tl (dE TX tl (we TX tl pl))) (cc TX tl pl) h (by omega)) gX9_readCommand_X9_manyFor rfl rfl k_X9_manyFor ⟨Nat.le_of_ble_eq_true rfl, Nat.le_of_ble_eq_true rfl⟩ rfl rfl rfl rfl (Nat.le_of_ble_eq_true rfl) ⟨Nat.le_of_ble_eq_true rfl, Nat.le_of_ble_eq_true rfl⟩ dX9_readCommand_13 rfl (fun v w1 H locs hpost hP hD hS => ?_)
            obtain ⟨rfl, rfl⟩ := hpost
            have hP := zr0' hP
            have hD := zr0D' hD
            have hP : va_P D vwCl (moW b sc tl cd (dE TX tl (dE TX tl (we TX tl pl))) (cc TX tl pl) h ++ (jrW ct (b 1) 94 M ++ (jrW ct (b 2) 94 SP ++ (jrW ct (b 3) 376 SV ++ (irW ct (b 4) 150 TX ++ (irW ct (b 5) 2 (up (up NB 0 (nV TX tl (we TX tl pl))) 1 (nV TX tl (dE TX tl (we TX tl pl)))))))))) H := hP
            have hD : va_D A (moW b sc tl cd (dE TX tl (dE TX tl (we TX tl pl))) (cc TX tl pl) h ++ (jrW ct (b 1) 94 M ++ (jrW ct (b 2) 94 SP ++ (jrW ct (b 3) 376 SV ++ (irW ct (b 4) 150 TX ++ (irW ct (b 5) 2 (up (up NB 0 (nV TX tl (we TX tl pl))) 1 (nV TX tl (dE TX tl (we TX tl pl)))))))))) := hD
            refine W.eq (g2 := F0 m 16 ls [.int (zI (many (cc TX tl pl))), .int (zI ((0 + 1) + 1))]) rfl ?_
            refine z_icmp_ge (tgt := 35) hx hb dX9_readCommand_16 (by decide) (by omega) (by omega) (fun hc_16 => ?_) (fun hc_16 => ?_)
            · have hc_16 := hc_16
              have eX : (dE TX tl (dE TX tl (we TX tl pl))) = c2 TX tl pl := by rw [c2, if_pos (by omega), c1, if_pos (by omega)]
              have hP : va_P D vwCl (moW b sc tl cd (c2 TX tl pl) (cc TX tl pl) h ++ (jrW ct (b 1) 94 M ++ (jrW ct (b 2) 94 SP ++ (jrW ct (b 3) 376 SV ++ (irW ct (b 4) 150 TX ++ (irW ct (b 5) 2 (up (up NB 0 (nV TX tl (we TX tl pl))) 1 (nV TX tl (dE TX tl (we TX tl pl)))))))))) H := by rw [← eX]; exact hP
              have hD : va_D A (moW b sc tl cd (c2 TX tl pl) (cc TX tl pl) h ++ (jrW ct (b 1) 94 M ++ (jrW ct (b 2) 94 SP ++ (jrW ct (b 3) 376 SV ++ (irW ct (b 4) 150 TX ++ (irW ct (b 5) 2 (up (up NB 0 (nV TX tl (we TX tl pl))) 1 (nV TX tl (dE TX tl (we TX tl pl)))))))))) := by rw [← eX]; exact hD
              have tX := tcB ht (p := sk TX tl (c2 TX tl pl)) (by omega)
              refine lv_aload_n hx hb dX9_readCommand_35 rfl (lv_at hl 1 rfl) ?_
              refine z_callV (C := RX9) (q0 := 0) (ci := 7) (As := []) (rest := []) ([] : va_W) ([] : va_W) hx hb hml hown hts hl hE hS hA (zr0 ([] : va_W) hP) (zr0D ([] : va_W) hD) (c_X9_skips l D ct ad b M SP SV TX (up (up NB 0 (nV TX tl (we TX tl pl))) 1 (nV TX tl (dE TX tl (we TX tl pl)))) sc tl cd (c2 TX tl pl) (cc TX tl pl) h (by assumption) (by omega)) gX9_readCommand_X9_skips rfl rfl k_X9_skips ⟨Nat.le_of_ble_eq_true rfl, Nat.le_of_ble_eq_true rfl⟩ rfl rfl rfl rfl (Nat.le_of_ble_eq_true rfl) ⟨Nat.le_of_ble_eq_true rfl, Nat.le_of_ble_eq_true rfl⟩ dX9_readCommand_36 rfl (fun v w1 H locs hpost hP hD hS => ?_)
              obtain ⟨rfl, rfl⟩ := hpost
              have hP := zr0' hP
              have hD := zr0D' hD
              have hP : va_P D vwCl (moW b sc tl cd (sk TX tl (c2 TX tl pl)) (cc TX tl pl) h ++ (jrW ct (b 1) 94 M ++ (jrW ct (b 2) 94 SP ++ (jrW ct (b 3) 376 SV ++ (irW ct (b 4) 150 TX ++ (irW ct (b 5) 2 (up (up NB 0 (nV TX tl (we TX tl pl))) 1 (nV TX tl (dE TX tl (we TX tl pl)))))))))) H := hP
              have hD : va_D A (moW b sc tl cd (sk TX tl (c2 TX tl pl)) (cc TX tl pl) h ++ (jrW ct (b 1) 94 M ++ (jrW ct (b 2) 94 SP ++ (jrW ct (b 3) 376 SV ++ (irW ct (b 4) 150 TX ++ (irW ct (b 5) 2 (up (up NB 0 (nV TX tl (we TX tl pl))) 1 (nV TX tl (dE TX tl (we TX tl pl)))))))))) := hD
              refine W.eq (g2 := F0 m 39 ls [.int (zI (zB ((c2 TX tl pl) < sk TX tl (c2 TX tl pl))))]) rfl ?_
              refine lv_istore_n (lv' := [(1, .int (zI (zB ((c2 TX tl pl) < sk TX tl (c2 TX tl pl))))), (0, .ref (b 0))]) hx hb dX9_readCommand_39 rfl hl (by decide) rfl (fun ls hl => ?_)
              refine lv_aload_n hx hb dX9_readCommand_40 rfl (lv_at hl 1 rfl) ?_
              refine z_callV (C := RX9) (q0 := 0) (ci := 7) (As := []) (rest := []) ([] : va_W) ([] : va_W) hx hb hml hown hts hl hE hS hA (zr0 ([] : va_W) hP) (zr0D ([] : va_W) hD) (c_X9_here l D ct ad b M SP SV TX (up (up NB 0 (nV TX tl (we TX tl pl))) 1 (nV TX tl (dE TX tl (we TX tl pl)))) sc tl cd (sk TX tl (c2 TX tl pl)) (cc TX tl pl) h (by assumption) (by omega)) gX9_readCommand_X9_here rfl rfl k_X9_here ⟨Nat.le_of_ble_eq_true rfl, Nat.le_of_ble_eq_true rfl⟩ rfl rfl rfl rfl (Nat.le_of_ble_eq_true rfl) ⟨Nat.le_of_ble_eq_true rfl, Nat.le_of_ble_eq_true rfl⟩ dX9_readCommand_41 rfl (fun v w1 H locs hpost hP hD hS => ?_)
              obtain ⟨rfl, rfl⟩ := hpost
              have hP := zr0' hP
              have hD := zr0D' hD
              have hP : va_P D vwCl (moW b sc tl cd (sk TX tl (c2 TX tl pl)) (cc TX tl pl) h ++ (jrW ct (b 1) 94 M ++ (jrW ct (b 2) 94 SP ++ (jrW ct (b 3) 376 SV ++ (irW ct (b 4) 150 TX ++ (irW ct (b 5) 2 (up (up NB 0 (nV TX tl (we TX tl pl))) 1 (nV TX tl (dE TX tl (we TX tl pl)))))))))) H := hP
              have hD : va_D A (moW b sc tl cd (sk TX tl (c2 TX tl pl)) (cc TX tl pl) h ++ (jrW ct (b 1) 94 M ++ (jrW ct (b 2) 94 SP ++ (jrW ct (b 3) 376 SV ++ (irW ct (b 4) 150 TX ++ (irW ct (b 5) 2 (up (up NB 0 (nV TX tl (we TX tl pl))) 1 (nV TX tl (dE TX tl (we TX tl pl)))))))))) := hD
              refine W.eq (g2 := F0 m 44 ls [.int (zI (hrf TX tl (sk TX tl (c2 TX tl pl))))]) rfl ?_
              refine z_bipush hx hb dX9_readCommand_44 (by decide) ?_
              refine z_icmp_eq (tgt := 51) hx hb dX9_readCommand_46 (by decide) (by omega) (by omega) (fun hc_46 => ?_) (fun hc_46 => ?_)
              · have hc_46 := hc_46
                refine lv_aload_n hx hb dX9_readCommand_51 rfl (lv_at hl 1 rfl) ?_
                refine lv_dup hx hb dX9_readCommand_52 rfl ?_
                refine va_get (D := D) (ci := 7) (v := .int (zI (sk TX tl (c2 TX tl pl)))) (C := RX9) (T := TX9) (N := 11) hx hb hts hin_X9 hown hK hP 0 rfl rfl 7 (by decide) hf_0 (fun _ h9 => h9) rfl dX9_readCommand_53 ?_
                refine z_iconst hx hb dX9_readCommand_56 ?_
                refine z_iadd hx hb dX9_readCommand_57 ?_
                refine z_put (ct := ct) (ad := ad) (ci := 7) (v := .int (zI ((sk TX tl (c2 TX tl pl)) + 1))) (ty := tyX9 7) (C := RX9) (T := TX9) (N := 11) (w2 := moW b sc tl cd ((sk TX tl (c2 TX tl pl)) + 1) (cc TX tl pl) h ++ (jrW ct (b 1) 94 M ++ (jrW ct (b 2) 94 SP ++ (jrW ct (b 3) 376 SV ++ (irW ct (b 4) 150 TX ++ (irW ct (b 5) 2 (up (up NB 0 (nV TX tl (we TX tl pl))) 1 (nV TX tl (dE TX tl (we TX tl pl)))))))))) hx hb hts hin_X9 tyX9 tyX9_ok nmX9 hown hE hP hD hS 0 rfl rfl 7 (by decide) hf_0 (fun _ h9 => h9) rfl (by decide +kernel) rfl rfl (Nat.le_of_ble_eq_true rfl) dX9_readCommand_58 (rfl) (fun H locs hP hD hS => ?_)
                refine z_iconst hx hb dX9_readCommand_61 ?_
                exact z_zret hx hb hr (by first | rfl | exact zB_nar) hlocks hP hD hS ⟨Nat.le_of_ble_eq_true rfl, Nat.le_of_ble_eq_true rfl⟩ dX9_readCommand_62 (⟨(up (up NB 0 (nV TX tl (we TX tl pl))) 1 (nV TX tl (dE TX tl (we TX tl pl)))), ⟨fun h => by unfold cn1; rw [if_pos h]; first | (exfalso; omega) | rw [up_s] | rw [up_n (by decide), up_s], fun h => by unfold cn2; rw [if_pos h]; first | (exfalso; omega) | rw [up_s, e1 (by omega)]⟩, rfl, rfl⟩)
              · have hc_46 := hc_46
                omega
            · have hc_16 := hc_16
              omega
          · have hc_24 := hc_24
            omega
      · have hc_24 := hc_24
        omega
  · have hc_4 := hc_4
    omega
set_option maxHeartbeats 4000000 in
set_option maxRecDepth 100000 in
theorem c_X9_readCommand_no (l : Launch) (D : va_G) (ct ad : Nat → Nat) (b : Nat → Nat) (M SP SV TX NB : Int → Int) (sc tl cd pl cm h : Int) (ht : tInv TX tl) (hp : 0 ≤ pl ∧ pl ≤ tl) (hno : cf TX tl pl ≠ -1) : ZM l yX9_readCommand wsX9_readCommand ({ frames := 3, cells := 0, slots := 0, locals := 64 } : Room) D ct ad [.ref (b 0)] (moW b sc tl cd pl cm h ++ (jrW ct (b 1) 94 M ++ (jrW ct (b 2) 94 SP ++ (jrW ct (b 3) 376 SV ++ (irW ct (b 4) 150 TX ++ (irW ct (b 5) 2 NB)))))) (fun v w => ∃ (NB2 : Int → Int) (cm2 : Int), ((True)) ∧ v = (some (.int (zI 0))) ∧ w = moW b sc tl cd (cf TX tl pl) cm2 h ++ (jrW ct (b 1) 94 M ++ (jrW ct (b 2) 94 SP ++ (jrW ct (b 3) 376 SV ++ (irW ct (b 4) 150 TX ++ (irW ct (b 5) 2 NB2)))))) := by
  refine ZM.of (cc := cX9_readCommand) (maxL := 2) (ret := (some .boolean)) (by decide +kernel) rfl (Nat.le_of_ble_eq_true rfl) ?_
  intro p e s m below meth c A ls hx hb hr hts hown hlocks hml hname hE hP hD hA hS hl
  have hK := hE.1
  have hl : lv_has ls 2 [(0, .ref (b 0))] := hl
  have t1 := ht.1
  have cB := c_B (TX := TX) (tl := tl) (q := pl) hp.2
  have mB := manyB (cc TX tl pl)
  have ccB : cc TX tl pl = -2000000000 ∨ (0 ≤ cc TX tl pl ∧ cc TX tl pl ≤ 11) := cwN_B (TX := TX) (s := pl) (e := we TX tl pl) 12 (Nat.le_refl _)
  have e1 : 1 ≤ many (cc TX tl pl) → c1 TX tl pl = dE TX tl (we TX tl pl) := fun z => if_pos z
  have nB0 := (nV_B (TX := TX) (tl := tl) (p := we TX tl pl) cB.1.2).1
  have sB0 := sk_B (TX := TX) (tl := tl) (p := we TX tl pl) cB.1.2
  have sB1 := sk_B (TX := TX) (tl := tl) (p := dE TX tl (we TX tl pl)) nB0.2
  refine lv_aload_n hx hb dX9_readCommand_0 rfl (lv_at hl 0 rfl) ?_
  by_cases jA : cc TX tl pl = -2000000000
  · skip
    refine z_callV (C := RX9) (q0 := 0) (ci := 7) (As := []) (rest := []) ([] : va_W) ([] : va_W) hx hb hml hown hts hl hE hS hA (zr0 ([] : va_W) hP) (zr0D ([] : va_W) hD) (c_X9_readWord_no l D ct ad b M SP SV TX NB sc tl cd pl cm h (by assumption) (by omega) jA) gX9_readCommand_X9_readWord rfl rfl k_X9_readWord ⟨Nat.le_of_ble_eq_true rfl, Nat.le_of_ble_eq_true rfl⟩ rfl rfl rfl rfl (Nat.le_of_ble_eq_true rfl) ⟨Nat.le_of_ble_eq_true rfl, Nat.le_of_ble_eq_true rfl⟩ dX9_readCommand_1 rfl (fun v w1 H locs hpost hP hD hS => ?_)
    obtain ⟨rfl, rfl⟩ := hpost
    have hP := zr0' hP
    have hD := zr0D' hD
    have hP : va_P D vwCl (moW b sc tl cd pl (cc TX tl pl) h ++ (jrW ct (b 1) 94 M ++ (jrW ct (b 2) 94 SP ++ (jrW ct (b 3) 376 SV ++ (irW ct (b 4) 150 TX ++ (irW ct (b 5) 2 NB)))))) H := hP
    have hD : va_D A (moW b sc tl cd pl (cc TX tl pl) h ++ (jrW ct (b 1) 94 M ++ (jrW ct (b 2) 94 SP ++ (jrW ct (b 3) 376 SV ++ (irW ct (b 4) 150 TX ++ (irW ct (b 5) 2 NB)))))) := hD
    refine W.eq (g2 := F0 m 4 ls [.int (zI 0)]) rfl ?_
    refine z_if_ne (tgt := 9) hx hb dX9_readCommand_4 (by decide) (by omega) (fun hc_4 => ?_) (fun hc_4 => ?_)
    · have hc_4 := hc_4
      omega
    · have hc_4 := hc_4
      refine z_iconst hx hb dX9_readCommand_7 ?_
      exact z_zret hx hb hr (by first | rfl | exact zB_nar) hlocks hP hD hS ⟨Nat.le_of_ble_eq_true rfl, Nat.le_of_ble_eq_true rfl⟩ dX9_readCommand_8 (⟨NB, (cc TX tl pl), trivial, rfl, by rw [cf_w jA]⟩)
  · skip
    refine z_callV (C := RX9) (q0 := 0) (ci := 7) (As := []) (rest := []) ([] : va_W) ([] : va_W) hx hb hml hown hts hl hE hS hA (zr0 ([] : va_W) hP) (zr0D ([] : va_W) hD) (c_X9_readWord_ok l D ct ad b M SP SV TX NB sc tl cd pl cm h (by assumption) (by omega) jA) gX9_readCommand_X9_readWord rfl rfl k_X9_readWord ⟨Nat.le_of_ble_eq_true rfl, Nat.le_of_ble_eq_true rfl⟩ rfl rfl rfl rfl (Nat.le_of_ble_eq_true rfl) ⟨Nat.le_of_ble_eq_true rfl, Nat.le_of_ble_eq_true rfl⟩ dX9_readCommand_1 rfl (fun v w1 H locs hpost hP hD hS => ?_)
    obtain ⟨rfl, rfl⟩ := hpost
    have hP := zr0' hP
    have hD := zr0D' hD
    have hP : va_P D vwCl (moW b sc tl cd (we TX tl pl) (cc TX tl pl) h ++ (jrW ct (b 1) 94 M ++ (jrW ct (b 2) 94 SP ++ (jrW ct (b 3) 376 SV ++ (irW ct (b 4) 150 TX ++ (irW ct (b 5) 2 NB)))))) H := hP
    have hD : va_D A (moW b sc tl cd (we TX tl pl) (cc TX tl pl) h ++ (jrW ct (b 1) 94 M ++ (jrW ct (b 2) 94 SP ++ (jrW ct (b 3) 376 SV ++ (irW ct (b 4) 150 TX ++ (irW ct (b 5) 2 NB)))))) := hD
    refine W.eq (g2 := F0 m 4 ls [.int (zI 1)]) rfl ?_
    refine z_if_ne (tgt := 9) hx hb dX9_readCommand_4 (by decide) (by omega) (fun hc_4 => ?_) (fun hc_4 => ?_)
    · have hc_4 := hc_4
      refine z_iconst hx hb dX9_readCommand_9 ?_
      refine lv_istore_n (lv' := [(1, .int (zI 0)), (0, .ref (b 0))]) hx hb dX9_readCommand_10 rfl hl (by decide) rfl (fun ls hl => ?_)
      refine lv_iload_n hx hb dX9_readCommand_11 rfl (lv_at hl 0 rfl) ?_
      refine lv_aload_n hx hb dX9_readCommand_12 rfl (lv_at hl 1 rfl) ?_
      refine z_callV (C := RX9) (q0 := 0) (ci := 7) (As := []) (rest := [.int (zI 0)]) ([] : va_W) ([] : va_W) hx hb hml hown hts hl hE hS hA (zr0 ([] : va_W) hP) (zr0D ([] : va_W) hD) (c_X9_manyFor l D ct ad b M SP SV TX NB sc tl cd (we TX tl pl) (cc TX tl pl) h (by omega)) gX9_readCommand_X9_manyFor rfl rfl k_X9_manyFor ⟨Nat.le_of_ble_eq_true rfl, Nat.le_of_ble_eq_true rfl⟩ rfl rfl rfl rfl (Nat.le_of_ble_eq_true rfl) ⟨Nat.le_of_ble_eq_true rfl, Nat.le_of_ble_eq_true rfl⟩ dX9_readCommand_13 rfl (fun v w1 H locs hpost hP hD hS => ?_)
      obtain ⟨rfl, rfl⟩ := hpost
      have hP := zr0' hP
      have hD := zr0D' hD
      have hP : va_P D vwCl (moW b sc tl cd (we TX tl pl) (cc TX tl pl) h ++ (jrW ct (b 1) 94 M ++ (jrW ct (b 2) 94 SP ++ (jrW ct (b 3) 376 SV ++ (irW ct (b 4) 150 TX ++ (irW ct (b 5) 2 NB)))))) H := hP
      have hD : va_D A (moW b sc tl cd (we TX tl pl) (cc TX tl pl) h ++ (jrW ct (b 1) 94 M ++ (jrW ct (b 2) 94 SP ++ (jrW ct (b 3) 376 SV ++ (irW ct (b 4) 150 TX ++ (irW ct (b 5) 2 NB)))))) := hD
      refine W.eq (g2 := F0 m 16 ls [.int (zI (many (cc TX tl pl))), .int (zI 0)]) rfl ?_
      refine z_icmp_ge (tgt := 35) hx hb dX9_readCommand_16 (by decide) (by omega) (by omega) (fun hc_16 => ?_) (fun hc_16 => ?_)
      · have hc_16 := hc_16
        have eX : (we TX tl pl) = c2 TX tl pl := by rw [c2, if_neg (by omega), c1, if_neg (by omega)]
        have hP : va_P D vwCl (moW b sc tl cd (c2 TX tl pl) (cc TX tl pl) h ++ (jrW ct (b 1) 94 M ++ (jrW ct (b 2) 94 SP ++ (jrW ct (b 3) 376 SV ++ (irW ct (b 4) 150 TX ++ (irW ct (b 5) 2 NB)))))) H := by rw [← eX]; exact hP
        have hD : va_D A (moW b sc tl cd (c2 TX tl pl) (cc TX tl pl) h ++ (jrW ct (b 1) 94 M ++ (jrW ct (b 2) 94 SP ++ (jrW ct (b 3) 376 SV ++ (irW ct (b 4) 150 TX ++ (irW ct (b 5) 2 NB)))))) := by rw [← eX]; exact hD
        have tX := tcB ht (p := sk TX tl (c2 TX tl pl)) (by omega)
        have a1 : 1 ≤ many (cc TX tl pl) → nok TX tl (we TX tl pl) := fun z => by first | exact jB | (exfalso; omega)
        have a2 : 2 ≤ many (cc TX tl pl) → nok TX tl (c1 TX tl pl) := fun z => by first | (rw [e1 (by omega)]; exact jC) | (exfalso; omega)
        have a3 := cf_3 jA a1 a2
        refine lv_aload_n hx hb dX9_readCommand_35 rfl (lv_at hl 1 rfl) ?_
        refine z_callV (C := RX9) (q0 := 0) (ci := 7) (As := []) (rest := []) ([] : va_W) ([] : va_W) hx hb hml hown hts hl hE hS hA (zr0 ([] : va_W) hP) (zr0D ([] : va_W) hD) (c_X9_skips l D ct ad b M SP SV TX NB sc tl cd (c2 TX tl pl) (cc TX tl pl) h (by assumption) (by omega)) gX9_readCommand_X9_skips rfl rfl k_X9_skips ⟨Nat.le_of_ble_eq_true rfl, Nat.le_of_ble_eq_true rfl⟩ rfl rfl rfl rfl (Nat.le_of_ble_eq_true rfl) ⟨Nat.le_of_ble_eq_true rfl, Nat.le_of_ble_eq_true rfl⟩ dX9_readCommand_36 rfl (fun v w1 H locs hpost hP hD hS => ?_)
        obtain ⟨rfl, rfl⟩ := hpost
        have hP := zr0' hP
        have hD := zr0D' hD
        have hP : va_P D vwCl (moW b sc tl cd (sk TX tl (c2 TX tl pl)) (cc TX tl pl) h ++ (jrW ct (b 1) 94 M ++ (jrW ct (b 2) 94 SP ++ (jrW ct (b 3) 376 SV ++ (irW ct (b 4) 150 TX ++ (irW ct (b 5) 2 NB)))))) H := hP
        have hD : va_D A (moW b sc tl cd (sk TX tl (c2 TX tl pl)) (cc TX tl pl) h ++ (jrW ct (b 1) 94 M ++ (jrW ct (b 2) 94 SP ++ (jrW ct (b 3) 376 SV ++ (irW ct (b 4) 150 TX ++ (irW ct (b 5) 2 NB)))))) := hD
        refine W.eq (g2 := F0 m 39 ls [.int (zI (zB ((c2 TX tl pl) < sk TX tl (c2 TX tl pl))))]) rfl ?_
        refine lv_istore_n (lv' := [(1, .int (zI (zB ((c2 TX tl pl) < sk TX tl (c2 TX tl pl))))), (0, .ref (b 0))]) hx hb dX9_readCommand_39 rfl hl (by decide) rfl (fun ls hl => ?_)
        refine lv_aload_n hx hb dX9_readCommand_40 rfl (lv_at hl 1 rfl) ?_
        refine z_callV (C := RX9) (q0 := 0) (ci := 7) (As := []) (rest := []) ([] : va_W) ([] : va_W) hx hb hml hown hts hl hE hS hA (zr0 ([] : va_W) hP) (zr0D ([] : va_W) hD) (c_X9_here l D ct ad b M SP SV TX NB sc tl cd (sk TX tl (c2 TX tl pl)) (cc TX tl pl) h (by assumption) (by omega)) gX9_readCommand_X9_here rfl rfl k_X9_here ⟨Nat.le_of_ble_eq_true rfl, Nat.le_of_ble_eq_true rfl⟩ rfl rfl rfl rfl (Nat.le_of_ble_eq_true rfl) ⟨Nat.le_of_ble_eq_true rfl, Nat.le_of_ble_eq_true rfl⟩ dX9_readCommand_41 rfl (fun v w1 H locs hpost hP hD hS => ?_)
        obtain ⟨rfl, rfl⟩ := hpost
        have hP := zr0' hP
        have hD := zr0D' hD
        have hP : va_P D vwCl (moW b sc tl cd (sk TX tl (c2 TX tl pl)) (cc TX tl pl) h ++ (jrW ct (b 1) 94 M ++ (jrW ct (b 2) 94 SP ++ (jrW ct (b 3) 376 SV ++ (irW ct (b 4) 150 TX ++ (irW ct (b 5) 2 NB)))))) H := hP
        have hD : va_D A (moW b sc tl cd (sk TX tl (c2 TX tl pl)) (cc TX tl pl) h ++ (jrW ct (b 1) 94 M ++ (jrW ct (b 2) 94 SP ++ (jrW ct (b 3) 376 SV ++ (irW ct (b 4) 150 TX ++ (irW ct (b 5) 2 NB)))))) := hD
        refine W.eq (g2 := F0 m 44 ls [.int (zI (hrf TX tl (sk TX tl (c2 TX tl pl))))]) rfl ?_
        refine z_bipush hx hb dX9_readCommand_44 (by decide) ?_
        refine z_icmp_eq (tgt := 51) hx hb dX9_readCommand_46 (by decide) (by omega) (by omega) (fun hc_46 => ?_) (fun hc_46 => ?_)
        · have hc_46 := hc_46
          exact absurd (a3.2 (by omega)) hno
        · have hc_46 := hc_46
          refine z_iconst hx hb dX9_readCommand_49 ?_
          exact z_zret hx hb hr (by first | rfl | exact zB_nar) hlocks hP hD hS ⟨Nat.le_of_ble_eq_true rfl, Nat.le_of_ble_eq_true rfl⟩ dX9_readCommand_50 (⟨NB, (cc TX tl pl), trivial, rfl, by rw [a3.1 (by omega)]⟩)
      · have hc_16 := hc_16
        refine lv_aload_n hx hb dX9_readCommand_19 rfl (lv_at hl 1 rfl) ?_
        refine lv_iload_n hx hb dX9_readCommand_20 rfl (lv_at hl 0 rfl) ?_
        by_cases jB : nok TX tl (we TX tl pl)
        · skip
          refine z_callV (C := RX9) (q0 := 0) (ci := 7) (As := [.int (zI 0)]) (rest := []) ([] : va_W) ([] : va_W) hx hb hml hown hts hl hE hS hA (zr0 ([] : va_W) hP) (zr0D ([] : va_W) hD) (c_X9_readNumber_ok0 l D ct ad b M SP SV TX NB sc tl cd (we TX tl pl) (cc TX tl pl) h (by assumption) (by omega) jB) gX9_readCommand_X9_readNumber rfl rfl k_X9_readNumber ⟨Nat.le_of_ble_eq_true rfl, Nat.le_of_ble_eq_true rfl⟩ rfl rfl rfl rfl (Nat.le_of_ble_eq_true rfl) ⟨Nat.le_of_ble_eq_true rfl, Nat.le_of_ble_eq_true rfl⟩ dX9_readCommand_21 rfl (fun v w1 H locs hpost hP hD hS => ?_)
          obtain ⟨rfl, rfl⟩ := hpost
          have hP := zr0' hP
          have hD := zr0D' hD
          have hP : va_P D vwCl (moW b sc tl cd (dE TX tl (we TX tl pl)) (cc TX tl pl) h ++ (jrW ct (b 1) 94 M ++ (jrW ct (b 2) 94 SP ++ (jrW ct (b 3) 376 SV ++ (irW ct (b 4) 150 TX ++ (irW ct (b 5) 2 (up NB 0 (nV TX tl (we TX tl pl))))))))) H := hP
          have hD : va_D A (moW b sc tl cd (dE TX tl (we TX tl pl)) (cc TX tl pl) h ++ (jrW ct (b 1) 94 M ++ (jrW ct (b 2) 94 SP ++ (jrW ct (b 3) 376 SV ++ (irW ct (b 4) 150 TX ++ (irW ct (b 5) 2 (up NB 0 (nV TX tl (we TX tl pl))))))))) := hD
          refine W.eq (g2 := F0 m 24 ls [.int (zI 1)]) rfl ?_
          refine z_if_ne (tgt := 29) hx hb dX9_readCommand_24 (by decide) (by omega) (fun hc_24 => ?_) (fun hc_24 => ?_)
          · have hc_24 := hc_24
            refine z_iinc (k := 0) (lv' := [(1, .int (zI (0 + 1))), (0, .ref (b 0))]) hx hb dX9_readCommand_29 hl rfl (by decide) rfl (fun ls hl => ?_)
            refine lv_goto (tgt := 11) hx hb dX9_readCommand_32 (by decide) ?_
            refine lv_iload_n hx hb dX9_readCommand_11 rfl (lv_at hl 0 rfl) ?_
            refine lv_aload_n hx hb dX9_readCommand_12 rfl (lv_at hl 1 rfl) ?_
            refine z_callV (C := RX9) (q0 := 0) (ci := 7) (As := []) (rest := [.int (zI (0 + 1))]) ([] : va_W) ([] : va_W) hx hb hml hown hts hl hE hS hA (zr0 ([] : va_W) hP) (zr0D ([] : va_W) hD) (c_X9_manyFor l D ct ad b M SP SV TX (up NB 0 (nV TX tl (we TX tl pl))) sc tl cd (dE TX tl (we TX tl pl)) (cc TX tl pl) h (by omega)) gX9_readCommand_X9_manyFor rfl rfl k_X9_manyFor ⟨Nat.le_of_ble_eq_true rfl, Nat.le_of_ble_eq_true rfl⟩ rfl rfl rfl rfl (Nat.le_of_ble_eq_true rfl) ⟨Nat.le_of_ble_eq_true rfl, Nat.le_of_ble_eq_true rfl⟩ dX9_readCommand_13 rfl (fun v w1 H locs hpost hP hD hS => ?_)
            obtain ⟨rfl, rfl⟩ := hpost
            have hP := zr0' hP
            have hD := zr0D' hD
            have hP : va_P D vwCl (moW b sc tl cd (dE TX tl (we TX tl pl)) (cc TX tl pl) h ++ (jrW ct (b 1) 94 M ++ (jrW ct (b 2) 94 SP ++ (jrW ct (b 3) 376 SV ++ (irW ct (b 4) 150 TX ++ (irW ct (b 5) 2 (up NB 0 (nV TX tl (we TX tl pl))))))))) H := hP
            have hD : va_D A (moW b sc tl cd (dE TX tl (we TX tl pl)) (cc TX tl pl) h ++ (jrW ct (b 1) 94 M ++ (jrW ct (b 2) 94 SP ++ (jrW ct (b 3) 376 SV ++ (irW ct (b 4) 150 TX ++ (irW ct (b 5) 2 (up NB 0 (nV TX tl (we TX tl pl))))))))) := hD
            refine W.eq (g2 := F0 m 16 ls [.int (zI (many (cc TX tl pl))), .int (zI (0 + 1))]) rfl ?_
            refine z_icmp_ge (tgt := 35) hx hb dX9_readCommand_16 (by decide) (by omega) (by omega) (fun hc_16 => ?_) (fun hc_16 => ?_)
            · have hc_16 := hc_16
              have eX : (dE TX tl (we TX tl pl)) = c2 TX tl pl := by rw [c2, if_neg (by omega), c1, if_pos (by omega)]
              have hP : va_P D vwCl (moW b sc tl cd (c2 TX tl pl) (cc TX tl pl) h ++ (jrW ct (b 1) 94 M ++ (jrW ct (b 2) 94 SP ++ (jrW ct (b 3) 376 SV ++ (irW ct (b 4) 150 TX ++ (irW ct (b 5) 2 (up NB 0 (nV TX tl (we TX tl pl))))))))) H := by rw [← eX]; exact hP
              have hD : va_D A (moW b sc tl cd (c2 TX tl pl) (cc TX tl pl) h ++ (jrW ct (b 1) 94 M ++ (jrW ct (b 2) 94 SP ++ (jrW ct (b 3) 376 SV ++ (irW ct (b 4) 150 TX ++ (irW ct (b 5) 2 (up NB 0 (nV TX tl (we TX tl pl))))))))) := by rw [← eX]; exact hD
              have tX := tcB ht (p := sk TX tl (c2 TX tl pl)) (by omega)
              have a1 : 1 ≤ many (cc TX tl pl) → nok TX tl (we TX tl pl) := fun z => by first | exact jB | (exfalso; omega)
              have a2 : 2 ≤ many (cc TX tl pl) → nok TX tl (c1 TX tl pl) := fun z => by first | (rw [e1 (by omega)]; exact jC) | (exfalso; omega)
              have a3 := cf_3 jA a1 a2
              refine lv_aload_n hx hb dX9_readCommand_35 rfl (lv_at hl 1 rfl) ?_
              refine z_callV (C := RX9) (q0 := 0) (ci := 7) (As := []) (rest := []) ([] : va_W) ([] : va_W) hx hb hml hown hts hl hE hS hA (zr0 ([] : va_W) hP) (zr0D ([] : va_W) hD) (c_X9_skips l D ct ad b M SP SV TX (up NB 0 (nV TX tl (we TX tl pl))) sc tl cd (c2 TX tl pl) (cc TX tl pl) h (by assumption) (by omega)) gX9_readCommand_X9_skips rfl rfl k_X9_skips ⟨Nat.le_of_ble_eq_true rfl, Nat.le_of_ble_eq_true rfl⟩ rfl rfl rfl rfl (Nat.le_of_ble_eq_true rfl) ⟨Nat.le_of_ble_eq_true rfl, Nat.le_of_ble_eq_true rfl⟩ dX9_readCommand_36 rfl (fun v w1 H locs hpost hP hD hS => ?_)
              obtain ⟨rfl, rfl⟩ := hpost
              have hP := zr0' hP
              have hD := zr0D' hD
              have hP : va_P D vwCl (moW b sc tl cd (sk TX tl (c2 TX tl pl)) (cc TX tl pl) h ++ (jrW ct (b 1) 94 M ++ (jrW ct (b 2) 94 SP ++ (jrW ct (b 3) 376 SV ++ (irW ct (b 4) 150 TX ++ (irW ct (b 5) 2 (up NB 0 (nV TX tl (we TX tl pl))))))))) H := hP
              have hD : va_D A (moW b sc tl cd (sk TX tl (c2 TX tl pl)) (cc TX tl pl) h ++ (jrW ct (b 1) 94 M ++ (jrW ct (b 2) 94 SP ++ (jrW ct (b 3) 376 SV ++ (irW ct (b 4) 150 TX ++ (irW ct (b 5) 2 (up NB 0 (nV TX tl (we TX tl pl))))))))) := hD
              refine W.eq (g2 := F0 m 39 ls [.int (zI (zB ((c2 TX tl pl) < sk TX tl (c2 TX tl pl))))]) rfl ?_
              refine lv_istore_n (lv' := [(1, .int (zI (zB ((c2 TX tl pl) < sk TX tl (c2 TX tl pl))))), (0, .ref (b 0))]) hx hb dX9_readCommand_39 rfl hl (by decide) rfl (fun ls hl => ?_)
              refine lv_aload_n hx hb dX9_readCommand_40 rfl (lv_at hl 1 rfl) ?_
              refine z_callV (C := RX9) (q0 := 0) (ci := 7) (As := []) (rest := []) ([] : va_W) ([] : va_W) hx hb hml hown hts hl hE hS hA (zr0 ([] : va_W) hP) (zr0D ([] : va_W) hD) (c_X9_here l D ct ad b M SP SV TX (up NB 0 (nV TX tl (we TX tl pl))) sc tl cd (sk TX tl (c2 TX tl pl)) (cc TX tl pl) h (by assumption) (by omega)) gX9_readCommand_X9_here rfl rfl k_X9_here ⟨Nat.le_of_ble_eq_true rfl, Nat.le_of_ble_eq_true rfl⟩ rfl rfl rfl rfl (Nat.le_of_ble_eq_true rfl) ⟨Nat.le_of_ble_eq_true rfl, Nat.le_of_ble_eq_true rfl⟩ dX9_readCommand_41 rfl (fun v w1 H locs hpost hP hD hS => ?_)
              obtain ⟨rfl, rfl⟩ := hpost
              have hP := zr0' hP
              have hD := zr0D' hD
              have hP : va_P D vwCl (moW b sc tl cd (sk TX tl (c2 TX tl pl)) (cc TX tl pl) h ++ (jrW ct (b 1) 94 M ++ (jrW ct (b 2) 94 SP ++ (jrW ct (b 3) 376 SV ++ (irW ct (b 4) 150 TX ++ (irW ct (b 5) 2 (up NB 0 (nV TX tl (we TX tl pl))))))))) H := hP
              have hD : va_D A (moW b sc tl cd (sk TX tl (c2 TX tl pl)) (cc TX tl pl) h ++ (jrW ct (b 1) 94 M ++ (jrW ct (b 2) 94 SP ++ (jrW ct (b 3) 376 SV ++ (irW ct (b 4) 150 TX ++ (irW ct (b 5) 2 (up NB 0 (nV TX tl (we TX tl pl))))))))) := hD
              refine W.eq (g2 := F0 m 44 ls [.int (zI (hrf TX tl (sk TX tl (c2 TX tl pl))))]) rfl ?_
              refine z_bipush hx hb dX9_readCommand_44 (by decide) ?_
              refine z_icmp_eq (tgt := 51) hx hb dX9_readCommand_46 (by decide) (by omega) (by omega) (fun hc_46 => ?_) (fun hc_46 => ?_)
              · have hc_46 := hc_46
                exact absurd (a3.2 (by omega)) hno
              · have hc_46 := hc_46
                refine z_iconst hx hb dX9_readCommand_49 ?_
                exact z_zret hx hb hr (by first | rfl | exact zB_nar) hlocks hP hD hS ⟨Nat.le_of_ble_eq_true rfl, Nat.le_of_ble_eq_true rfl⟩ dX9_readCommand_50 (⟨(up NB 0 (nV TX tl (we TX tl pl))), (cc TX tl pl), trivial, rfl, by rw [a3.1 (by omega)]⟩)
            · have hc_16 := hc_16
              refine lv_aload_n hx hb dX9_readCommand_19 rfl (lv_at hl 1 rfl) ?_
              refine lv_iload_n hx hb dX9_readCommand_20 rfl (lv_at hl 0 rfl) ?_
              by_cases jC : nok TX tl (dE TX tl (we TX tl pl))
              · skip
                refine z_callV (C := RX9) (q0 := 0) (ci := 7) (As := [.int (zI (0 + 1))]) (rest := []) ([] : va_W) ([] : va_W) hx hb hml hown hts hl hE hS hA (zr0 ([] : va_W) hP) (zr0D ([] : va_W) hD) (c_X9_readNumber_ok1 l D ct ad b M SP SV TX (up NB 0 (nV TX tl (we TX tl pl))) sc tl cd (dE TX tl (we TX tl pl)) (cc TX tl pl) h (by assumption) (by omega) jC) gX9_readCommand_X9_readNumber rfl rfl k_X9_readNumber ⟨Nat.le_of_ble_eq_true rfl, Nat.le_of_ble_eq_true rfl⟩ rfl rfl rfl rfl (Nat.le_of_ble_eq_true rfl) ⟨Nat.le_of_ble_eq_true rfl, Nat.le_of_ble_eq_true rfl⟩ dX9_readCommand_21 rfl (fun v w1 H locs hpost hP hD hS => ?_)
                obtain ⟨rfl, rfl⟩ := hpost
                have hP := zr0' hP
                have hD := zr0D' hD
                have hP : va_P D vwCl (moW b sc tl cd (dE TX tl (dE TX tl (we TX tl pl))) (cc TX tl pl) h ++ (jrW ct (b 1) 94 M ++ (jrW ct (b 2) 94 SP ++ (jrW ct (b 3) 376 SV ++ (irW ct (b 4) 150 TX ++ (irW ct (b 5) 2 (up (up NB 0 (nV TX tl (we TX tl pl))) 1 (nV TX tl (dE TX tl (we TX tl pl)))))))))) H := hP
                have hD : va_D A (moW b sc tl cd (dE TX tl (dE TX tl (we TX tl pl))) (cc TX tl pl) h ++ (jrW ct (b 1) 94 M ++ (jrW ct (b 2) 94 SP ++ (jrW ct (b 3) 376 SV ++ (irW ct (b 4) 150 TX ++ (irW ct (b 5) 2 (up (up NB 0 (nV TX tl (we TX tl pl))) 1 (nV TX tl (dE TX tl (we TX tl pl)))))))))) := hD
                refine W.eq (g2 := F0 m 24 ls [.int (zI 1)]) rfl ?_
                refine z_if_ne (tgt := 29) hx hb dX9_readCommand_24 (by decide) (by omega) (fun hc_24 => ?_) (fun hc_24 => ?_)
                · have hc_24 := hc_24
                  refine z_iinc (k := 0) (lv' := [(1, .int (zI ((0 + 1) + 1))), (0, .ref (b 0))]) hx hb dX9_readCommand_29 hl rfl (by decide) rfl (fun ls hl => ?_)
                  refine lv_goto (tgt := 11) hx hb dX9_readCommand_32 (by decide) ?_
                  refine lv_iload_n hx hb dX9_readCommand_11 rfl (lv_at hl 0 rfl) ?_
                  refine lv_aload_n hx hb dX9_readCommand_12 rfl (lv_at hl 1 rfl) ?_
                  refine z_callV (C := RX9) (q0 := 0) (ci := 7) (As := []) (rest := [.int (zI ((0 + 1) + 1))]) ([] : va_W) ([] : va_W) hx hb hml hown hts hl hE hS hA (zr0 ([] : va_W) hP) (zr0D ([] : va_W) hD) (c_X9_manyFor l D ct ad b M SP SV TX (up (up NB 0 (nV TX tl (we TX tl pl))) 1 (nV TX tl (dE TX tl (we TX tl pl)))) sc tl cd (dE TX tl (dE TX tl (we TX tl pl))) (cc TX tl pl) h (by omega)) gX9_readCommand_X9_manyFor rfl rfl k_X9_manyFor ⟨Nat.le_of_ble_eq_true rfl, Nat.le_of_ble_eq_true rfl⟩ rfl rfl rfl rfl (Nat.le_of_ble_eq_true rfl) ⟨Nat.le_of_ble_eq_true rfl, Nat.le_of_ble_eq_true rfl⟩ dX9_readCommand_13 rfl (fun v w1 H locs hpost hP hD hS => ?_)
                  obtain ⟨rfl, rfl⟩ := hpost
                  have hP := zr0' hP
                  have hD := zr0D' hD
                  have hP : va_P D vwCl (moW b sc tl cd (dE TX tl (dE TX tl (we TX tl pl))) (cc TX tl pl) h ++ (jrW ct (b 1) 94 M ++ (jrW ct (b 2) 94 SP ++ (jrW ct (b 3) 376 SV ++ (irW ct (b 4) 150 TX ++ (irW ct (b 5) 2 (up (up NB 0 (nV TX tl (we TX tl pl))) 1 (nV TX tl (dE TX tl (we TX tl pl)))))))))) H := hP
                  have hD : va_D A (moW b sc tl cd (dE TX tl (dE TX tl (we TX tl pl))) (cc TX tl pl) h ++ (jrW ct (b 1) 94 M ++ (jrW ct (b 2) 94 SP ++ (jrW ct (b 3) 376 SV ++ (irW ct (b 4) 150 TX ++ (irW ct (b 5) 2 (up (up NB 0 (nV TX tl (we TX tl pl))) 1 (nV TX tl (dE TX tl (we TX tl pl)))))))))) := hD
                  refine W.eq (g2 := F0 m 16 ls [.int (zI (many (cc TX tl pl))), .int (zI ((0 + 1) + 1))]) rfl ?_
                  refine z_icmp_ge (tgt := 35) hx hb dX9_readCommand_16 (by decide) (by omega) (by omega) (fun hc_16 => ?_) (fun hc_16 => ?_)
                  · have hc_16 := hc_16
                    have eX : (dE TX tl (dE TX tl (we TX tl pl))) = c2 TX tl pl := by rw [c2, if_pos (by omega), c1, if_pos (by omega)]
                    have hP : va_P D vwCl (moW b sc tl cd (c2 TX tl pl) (cc TX tl pl) h ++ (jrW ct (b 1) 94 M ++ (jrW ct (b 2) 94 SP ++ (jrW ct (b 3) 376 SV ++ (irW ct (b 4) 150 TX ++ (irW ct (b 5) 2 (up (up NB 0 (nV TX tl (we TX tl pl))) 1 (nV TX tl (dE TX tl (we TX tl pl)))))))))) H := by rw [← eX]; exact hP
                    have hD : va_D A (moW b sc tl cd (c2 TX tl pl) (cc TX tl pl) h ++ (jrW ct (b 1) 94 M ++ (jrW ct (b 2) 94 SP ++ (jrW ct (b 3) 376 SV ++ (irW ct (b 4) 150 TX ++ (irW ct (b 5) 2 (up (up NB 0 (nV TX tl (we TX tl pl))) 1 (nV TX tl (dE TX tl (we TX tl pl)))))))))) := by rw [← eX]; exact hD
                    have tX := tcB ht (p := sk TX tl (c2 TX tl pl)) (by omega)
                    have a1 : 1 ≤ many (cc TX tl pl) → nok TX tl (we TX tl pl) := fun z => by first | exact jB | (exfalso; omega)
                    have a2 : 2 ≤ many (cc TX tl pl) → nok TX tl (c1 TX tl pl) := fun z => by first | (rw [e1 (by omega)]; exact jC) | (exfalso; omega)
                    have a3 := cf_3 jA a1 a2
                    refine lv_aload_n hx hb dX9_readCommand_35 rfl (lv_at hl 1 rfl) ?_
                    refine z_callV (C := RX9) (q0 := 0) (ci := 7) (As := []) (rest := []) ([] : va_W) ([] : va_W) hx hb hml hown hts hl hE hS hA (zr0 ([] : va_W) hP) (zr0D ([] : va_W) hD) (c_X9_skips l D ct ad b M SP SV TX (up (up NB 0 (nV TX tl (we TX tl pl))) 1 (nV TX tl (dE TX tl (we TX tl pl)))) sc tl cd (c2 TX tl pl) (cc TX tl pl) h (by assumption) (by omega)) gX9_readCommand_X9_skips rfl rfl k_X9_skips ⟨Nat.le_of_ble_eq_true rfl, Nat.le_of_ble_eq_true rfl⟩ rfl rfl rfl rfl (Nat.le_of_ble_eq_true rfl) ⟨Nat.le_of_ble_eq_true rfl, Nat.le_of_ble_eq_true rfl⟩ dX9_readCommand_36 rfl (fun v w1 H locs hpost hP hD hS => ?_)
                    obtain ⟨rfl, rfl⟩ := hpost
                    have hP := zr0' hP
                    have hD := zr0D' hD
                    have hP : va_P D vwCl (moW b sc tl cd (sk TX tl (c2 TX tl pl)) (cc TX tl pl) h ++ (jrW ct (b 1) 94 M ++ (jrW ct (b 2) 94 SP ++ (jrW ct (b 3) 376 SV ++ (irW ct (b 4) 150 TX ++ (irW ct (b 5) 2 (up (up NB 0 (nV TX tl (we TX tl pl))) 1 (nV TX tl (dE TX tl (we TX tl pl)))))))))) H := hP
                    have hD : va_D A (moW b sc tl cd (sk TX tl (c2 TX tl pl)) (cc TX tl pl) h ++ (jrW ct (b 1) 94 M ++ (jrW ct (b 2) 94 SP ++ (jrW ct (b 3) 376 SV ++ (irW ct (b 4) 150 TX ++ (irW ct (b 5) 2 (up (up NB 0 (nV TX tl (we TX tl pl))) 1 (nV TX tl (dE TX tl (we TX tl pl)))))))))) := hD
                    refine W.eq (g2 := F0 m 39 ls [.int (zI (zB ((c2 TX tl pl) < sk TX tl (c2 TX tl pl))))]) rfl ?_
                    refine lv_istore_n (lv' := [(1, .int (zI (zB ((c2 TX tl pl) < sk TX tl (c2 TX tl pl))))), (0, .ref (b 0))]) hx hb dX9_readCommand_39 rfl hl (by decide) rfl (fun ls hl => ?_)
                    refine lv_aload_n hx hb dX9_readCommand_40 rfl (lv_at hl 1 rfl) ?_
                    refine z_callV (C := RX9) (q0 := 0) (ci := 7) (As := []) (rest := []) ([] : va_W) ([] : va_W) hx hb hml hown hts hl hE hS hA (zr0 ([] : va_W) hP) (zr0D ([] : va_W) hD) (c_X9_here l D ct ad b M SP SV TX (up (up NB 0 (nV TX tl (we TX tl pl))) 1 (nV TX tl (dE TX tl (we TX tl pl)))) sc tl cd (sk TX tl (c2 TX tl pl)) (cc TX tl pl) h (by assumption) (by omega)) gX9_readCommand_X9_here rfl rfl k_X9_here ⟨Nat.le_of_ble_eq_true rfl, Nat.le_of_ble_eq_true rfl⟩ rfl rfl rfl rfl (Nat.le_of_ble_eq_true rfl) ⟨Nat.le_of_ble_eq_true rfl, Nat.le_of_ble_eq_true rfl⟩ dX9_readCommand_41 rfl (fun v w1 H locs hpost hP hD hS => ?_)
                    obtain ⟨rfl, rfl⟩ := hpost
                    have hP := zr0' hP
                    have hD := zr0D' hD
                    have hP : va_P D vwCl (moW b sc tl cd (sk TX tl (c2 TX tl pl)) (cc TX tl pl) h ++ (jrW ct (b 1) 94 M ++ (jrW ct (b 2) 94 SP ++ (jrW ct (b 3) 376 SV ++ (irW ct (b 4) 150 TX ++ (irW ct (b 5) 2 (up (up NB 0 (nV TX tl (we TX tl pl))) 1 (nV TX tl (dE TX tl (we TX tl pl)))))))))) H := hP
                    have hD : va_D A (moW b sc tl cd (sk TX tl (c2 TX tl pl)) (cc TX tl pl) h ++ (jrW ct (b 1) 94 M ++ (jrW ct (b 2) 94 SP ++ (jrW ct (b 3) 376 SV ++ (irW ct (b 4) 150 TX ++ (irW ct (b 5) 2 (up (up NB 0 (nV TX tl (we TX tl pl))) 1 (nV TX tl (dE TX tl (we TX tl pl)))))))))) := hD
                    refine W.eq (g2 := F0 m 44 ls [.int (zI (hrf TX tl (sk TX tl (c2 TX tl pl))))]) rfl ?_
                    refine z_bipush hx hb dX9_readCommand_44 (by decide) ?_
                    refine z_icmp_eq (tgt := 51) hx hb dX9_readCommand_46 (by decide) (by omega) (by omega) (fun hc_46 => ?_) (fun hc_46 => ?_)
                    · have hc_46 := hc_46
                      exact absurd (a3.2 (by omega)) hno
                    · have hc_46 := hc_46
                      refine z_iconst hx hb dX9_readCommand_49 ?_
                      exact z_zret hx hb hr (by first | rfl | exact zB_nar) hlocks hP hD hS ⟨Nat.le_of_ble_eq_true rfl, Nat.le_of_ble_eq_true rfl⟩ dX9_readCommand_50 (⟨(up (up NB 0 (nV TX tl (we TX tl pl))) 1 (nV TX tl (dE TX tl (we TX tl pl)))), (cc TX tl pl), trivial, rfl, by rw [a3.1 (by omega)]⟩)
                  · have hc_16 := hc_16
                    omega
                · have hc_24 := hc_24
                  omega
              · skip
                refine z_callV (C := RX9) (q0 := 0) (ci := 7) (As := [.int (zI (0 + 1))]) (rest := []) ([] : va_W) ([] : va_W) hx hb hml hown hts hl hE hS hA (zr0 ([] : va_W) hP) (zr0D ([] : va_W) hD) (c_X9_readNumber_no1 l D ct ad b M SP SV TX (up NB 0 (nV TX tl (we TX tl pl))) sc tl cd (dE TX tl (we TX tl pl)) (cc TX tl pl) h (by assumption) (by omega) jC) gX9_readCommand_X9_readNumber rfl rfl k_X9_readNumber ⟨Nat.le_of_ble_eq_true rfl, Nat.le_of_ble_eq_true rfl⟩ rfl rfl rfl rfl (Nat.le_of_ble_eq_true rfl) ⟨Nat.le_of_ble_eq_true rfl, Nat.le_of_ble_eq_true rfl⟩ dX9_readCommand_21 rfl (fun v w1 H locs hpost hP hD hS => ?_)
                obtain ⟨NB1_21, hx0_21, rfl, rfl⟩ := hpost
                have hP := zr0' hP
                have hD := zr0D' hD
                have hP : va_P D vwCl (moW b sc tl cd (sk TX tl (dE TX tl (we TX tl pl))) (cc TX tl pl) h ++ (jrW ct (b 1) 94 M ++ (jrW ct (b 2) 94 SP ++ (jrW ct (b 3) 376 SV ++ (irW ct (b 4) 150 TX ++ (irW ct (b 5) 2 NB1_21)))))) H := hP
                have hD : va_D A (moW b sc tl cd (sk TX tl (dE TX tl (we TX tl pl))) (cc TX tl pl) h ++ (jrW ct (b 1) 94 M ++ (jrW ct (b 2) 94 SP ++ (jrW ct (b 3) 376 SV ++ (irW ct (b 4) 150 TX ++ (irW ct (b 5) 2 NB1_21)))))) := hD
                refine W.eq (g2 := F0 m 24 ls [.int (zI 0)]) rfl ?_
                refine z_if_ne (tgt := 29) hx hb dX9_readCommand_24 (by decide) (by omega) (fun hc_24 => ?_) (fun hc_24 => ?_)
                · have hc_24 := hc_24
                  omega
                · have hc_24 := hc_24
                  refine z_iconst hx hb dX9_readCommand_27 ?_
                  exact z_zret hx hb hr (by first | rfl | exact zB_nar) hlocks hP hD hS ⟨Nat.le_of_ble_eq_true rfl, Nat.le_of_ble_eq_true rfl⟩ dX9_readCommand_28 (⟨NB1_21, (cc TX tl pl), trivial, rfl, by rw [cf_2 jA jB (by omega) (by rw [e1 (by omega)]; exact jC), e1 (by omega)]⟩)
          · have hc_24 := hc_24
            omega
        · skip
          refine z_callV (C := RX9) (q0 := 0) (ci := 7) (As := [.int (zI 0)]) (rest := []) ([] : va_W) ([] : va_W) hx hb hml hown hts hl hE hS hA (zr0 ([] : va_W) hP) (zr0D ([] : va_W) hD) (c_X9_readNumber_no0 l D ct ad b M SP SV TX NB sc tl cd (we TX tl pl) (cc TX tl pl) h (by assumption) (by omega) jB) gX9_readCommand_X9_readNumber rfl rfl k_X9_readNumber ⟨Nat.le_of_ble_eq_true rfl, Nat.le_of_ble_eq_true rfl⟩ rfl rfl rfl rfl (Nat.le_of_ble_eq_true rfl) ⟨Nat.le_of_ble_eq_true rfl, Nat.le_of_ble_eq_true rfl⟩ dX9_readCommand_21 rfl (fun v w1 H locs hpost hP hD hS => ?_)
          obtain ⟨NB1_21, hx0_21, rfl, rfl⟩ := hpost
          have hP := zr0' hP
          have hD := zr0D' hD
          have hP : va_P D vwCl (moW b sc tl cd (sk TX tl (we TX tl pl)) (cc TX tl pl) h ++ (jrW ct (b 1) 94 M ++ (jrW ct (b 2) 94 SP ++ (jrW ct (b 3) 376 SV ++ (irW ct (b 4) 150 TX ++ (irW ct (b 5) 2 NB1_21)))))) H := hP
          have hD : va_D A (moW b sc tl cd (sk TX tl (we TX tl pl)) (cc TX tl pl) h ++ (jrW ct (b 1) 94 M ++ (jrW ct (b 2) 94 SP ++ (jrW ct (b 3) 376 SV ++ (irW ct (b 4) 150 TX ++ (irW ct (b 5) 2 NB1_21)))))) := hD
          refine W.eq (g2 := F0 m 24 ls [.int (zI 0)]) rfl ?_
          refine z_if_ne (tgt := 29) hx hb dX9_readCommand_24 (by decide) (by omega) (fun hc_24 => ?_) (fun hc_24 => ?_)
          · have hc_24 := hc_24
            omega
          · have hc_24 := hc_24
            refine z_iconst hx hb dX9_readCommand_27 ?_
            exact z_zret hx hb hr (by first | rfl | exact zB_nar) hlocks hP hD hS ⟨Nat.le_of_ble_eq_true rfl, Nat.le_of_ble_eq_true rfl⟩ dX9_readCommand_28 (⟨NB1_21, (cc TX tl pl), trivial, rfl, by rw [cf_1 jA (by omega) jB]⟩)
    · have hc_4 := hc_4
      omega
set_option maxHeartbeats 4000000 in
set_option maxRecDepth 100000 in
theorem c_X9_whyNot (l : Launch) (D : va_G) (ct ad : Nat → Nat) (b : Nat → Nat) (M SP SV TX NB : Int → Int) (sc tl cd pl cm h : Int) (hI : gInv M) (hB : bInv M) (h1 : 0 ≤ cm ∧ cm ≤ 11) (hx : 1 ≤ many cm → 0 ≤ NB 0 ∧ NB 0 ≤ 9999999) (hy : 2 ≤ many cm → 0 ≤ NB 1 ∧ NB 1 ≤ 9999999) : ZM l yX9_whyNot wsX9_whyNot ({ frames := 3, cells := 0, slots := 0, locals := 66 } : Room) D ct ad [.ref (b 0)] (moW b sc tl cd pl cm h ++ (jrW ct (b 1) 94 M ++ (jrW ct (b 2) 94 SP ++ (jrW ct (b 3) 376 SV ++ (irW ct (b 4) 150 TX ++ (irW ct (b 5) 2 NB)))))) (fun v w => ∃ (v_ : Int), ((v_ = 0 ↔ ckc M cm (NB 0) (NB 1) = 0) ∧ (0 ≤ v_ ∧ v_ ≤ 3)) ∧ v = (some (.int (zI v_))) ∧ w = moW b sc tl cd pl cm h ++ (jrW ct (b 1) 94 M ++ (jrW ct (b 2) 94 SP ++ (jrW ct (b 3) 376 SV ++ (irW ct (b 4) 150 TX ++ (irW ct (b 5) 2 NB)))))) := by
  refine ZM.of (cc := cX9_whyNot) (maxL := 1) (ret := (some .int)) (by decide +kernel) rfl (Nat.le_of_ble_eq_true rfl) ?_
  intro p e s m below meth c A ls hx hb hr hts hown hlocks hml hname hE hP hD hA hS hl
  have hK := hE.1
  have hf_0 := hts (.fieldLink RX9 269 "RodGridsModel" "command" "I") (by decide +kernel)
  have hf_1 := hts (.fieldLink RX9 23 "RodGridsModel" "numbers" "[I") (by decide +kernel)
  have hin_X9 : ∀ z ∈ u_ws RX9 TX9 11, z ∈ wsX9_whyNot := by decide +kernel
  have hl : lv_has ls 1 [(0, .ref (b 0))] := hl
  have i3 := hI.1
  have i4 := hI.2.1
  have j0 := hB.1
  have j1 := hB.2.1
  have j2 := hB.2.2.1
  have j4 := hB.2.2.2.2
  refine lv_aload_n hx hb dX9_whyNot_0 rfl (lv_at hl 0 rfl) ?_
  refine va_get (D := D) (ci := 7) (v := .int (zI cm)) (C := RX9) (T := TX9) (N := 11) hx hb hts hin_X9 hown hK hP 0 rfl rfl 8 (by decide) hf_0 (fun _ h9 => h9) rfl dX9_whyNot_1 ?_
  rcases (show cm = 0 ∨ cm = 1 ∨ cm = 2 ∨ cm = 3 ∨ cm = 4 ∨ cm = 5 ∨ cm = 6 ∨ cm = 7 ∨ cm = 8 ∨ cm = 9 ∨ cm = 10 ∨ (cm < 0 ∨ 10 < cm) from (by omega)) with hc_4 | hc_4 | hc_4 | hc_4 | hc_4 | hc_4 | hc_4 | hc_4 | hc_4 | hc_4 | hc_4 | hc_4
  · refine z_tabIn (off := 60) (tgt := 64) hx hb dX9_whyNot_4 0 hc_4 (by decide) (by decide) rfl (by decide) ?_
    have mm : many cm = 1 := by rw [hc_4]; rfl
    have x1 := hx
    have y1 := hy
    refine lv_aload_n hx hb dX9_whyNot_64 rfl (lv_at hl 0 rfl) ?_
    refine lv_aload_n hx hb dX9_whyNot_65 rfl (lv_at hl 0 rfl) ?_
    refine va_get (D := D) (ci := 7) (v := .ref (b 5)) (C := RX9) (T := TX9) (N := 11) hx hb hts hin_X9 hown hK hP 0 rfl rfl 9 (by decide) hf_1 (fun _ h9 => h9) rfl dX9_whyNot_66 ?_
    refine z_iconst hx hb dX9_whyNot_69 ?_
    refine z_iald (g := NB) (v := NB 0) hx hb hK hP 5 rfl (by decide) (by omega) rfl dX9_whyNot_70 ?_
    refine z_callV (C := RX9) (q0 := 0) (ci := 7) (As := [.int (zI (NB 0))]) (rest := []) ([] : va_W) ([] : va_W) hx hb hml hown hts hl hE hS hA (zr0 ([] : va_W) hP) (zr0D ([] : va_W) hD) (c_X9_notMetal l D ct ad b M SP SV TX NB sc tl cd pl cm h (NB 0) (by assumption) (by omega)) gX9_whyNot_X9_notMetal rfl rfl k_X9_notMetal ⟨Nat.le_of_ble_eq_true rfl, Nat.le_of_ble_eq_true rfl⟩ rfl rfl rfl rfl (Nat.le_of_ble_eq_true rfl) ⟨Nat.le_of_ble_eq_true rfl, Nat.le_of_ble_eq_true rfl⟩ dX9_whyNot_71 rfl (fun v w1 H locs hpost hP hD hS => ?_)
    obtain ⟨rfl, rfl⟩ := hpost
    have hP := zr0' hP
    have hD := zr0D' hD
    have hP : va_P D vwCl (moW b sc tl cd pl cm h ++ (jrW ct (b 1) 94 M ++ (jrW ct (b 2) 94 SP ++ (jrW ct (b 3) 376 SV ++ (irW ct (b 4) 150 TX ++ (irW ct (b 5) 2 NB)))))) H := hP
    have hD : va_D A (moW b sc tl cd pl cm h ++ (jrW ct (b 1) 94 M ++ (jrW ct (b 2) 94 SP ++ (jrW ct (b 3) 376 SV ++ (irW ct (b 4) 150 TX ++ (irW ct (b 5) 2 NB)))))) := hD
    refine W.eq (g2 := F0 m 74 ls [.int (zI (ck1 (ck_metal M (NB 0))))]) rfl ?_
    exact z_iret hx hb hr hlocks hP hD hS ⟨Nat.le_of_ble_eq_true rfl, Nat.le_of_ble_eq_true rfl⟩ dX9_whyNot_74 (⟨(ck1 (ck_metal M (NB 0))), ⟨by rw [hc_4]; first | exact Iff.rfl | exact why_m | exact why_t | exact why_s | exact why_h | (exfalso; omega), by first | omega | (unfold ck1 ck_metal; (repeat' split) <;> omega) | (unfold ck_rod; (repeat' split) <;> omega) | (unfold ck_length; (repeat' split) <;> omega) | (unfold ck_warm; (repeat' split) <;> omega) | (unfold ck_shelf; (repeat' split) <;> omega) | (unfold ck1 ck_turn; (repeat' split) <;> omega) | (unfold ck1 ck_set; (repeat' split) <;> omega) | (unfold ck1 ck_hours; (repeat' split) <;> omega)⟩, rfl, rfl⟩)
  · refine z_tabIn (off := 71) (tgt := 75) hx hb dX9_whyNot_4 1 hc_4 (by decide) (by decide) rfl (by decide) ?_
    have mm : many cm = 2 := by rw [hc_4]; rfl
    have x1 := hx
    have y1 := hy
    refine lv_aload_n hx hb dX9_whyNot_75 rfl (lv_at hl 0 rfl) ?_
    refine lv_aload_n hx hb dX9_whyNot_76 rfl (lv_at hl 0 rfl) ?_
    refine va_get (D := D) (ci := 7) (v := .ref (b 5)) (C := RX9) (T := TX9) (N := 11) hx hb hts hin_X9 hown hK hP 0 rfl rfl 9 (by decide) hf_1 (fun _ h9 => h9) rfl dX9_whyNot_77 ?_
    refine z_iconst hx hb dX9_whyNot_80 ?_
    refine z_iald (g := NB) (v := NB 0) hx hb hK hP 5 rfl (by decide) (by omega) rfl dX9_whyNot_81 ?_
    refine lv_aload_n hx hb dX9_whyNot_82 rfl (lv_at hl 0 rfl) ?_
    refine va_get (D := D) (ci := 7) (v := .int (zI cm)) (C := RX9) (T := TX9) (N := 11) hx hb hts hin_X9 hown hK hP 0 rfl rfl 8 (by decide) hf_0 (fun _ h9 => h9) rfl dX9_whyNot_83 ?_
    refine z_iconst hx hb dX9_whyNot_86 ?_
    refine z_icmp_ne (tgt := 94) hx hb dX9_whyNot_87 (by decide) (by omega) (by omega) (fun hc_87 => ?_) (fun hc_87 => ?_)
    · have hc_87 := hc_87
      refine z_iconst hx hb dX9_whyNot_94 ?_
      refine lv_aload_n hx hb dX9_whyNot_95 rfl (lv_at hl 0 rfl) ?_
      refine va_get (D := D) (ci := 7) (v := .ref (b 5)) (C := RX9) (T := TX9) (N := 11) hx hb hts hin_X9 hown hK hP 0 rfl rfl 9 (by decide) hf_1 (fun _ h9 => h9) rfl dX9_whyNot_96 ?_
      refine z_iconst hx hb dX9_whyNot_99 ?_
      refine z_iald (g := NB) (v := NB 1) hx hb hK hP 5 rfl (by decide) (by omega) rfl dX9_whyNot_100 ?_
      refine z_callV (C := RX9) (q0 := 0) (ci := 7) (As := [.int (zI (NB 0)), .int (zI (-1)), .int (zI (NB 1))]) (rest := []) ([] : va_W) ([] : va_W) hx hb hml hown hts hl hE hS hA (zr0 ([] : va_W) hP) (zr0D ([] : va_W) hD) (c_X9_notRod l D ct ad b M SP SV TX NB sc tl cd pl cm h (NB 0) (-1) (NB 1) (by assumption) (by omega) (by omega) (by omega)) gX9_whyNot_X9_notRod rfl rfl k_X9_notRod ⟨Nat.le_of_ble_eq_true rfl, Nat.le_of_ble_eq_true rfl⟩ rfl rfl rfl rfl (Nat.le_of_ble_eq_true rfl) ⟨Nat.le_of_ble_eq_true rfl, Nat.le_of_ble_eq_true rfl⟩ dX9_whyNot_101 rfl (fun v w1 H locs hpost hP hD hS => ?_)
      obtain ⟨rfl, rfl⟩ := hpost
      have hP := zr0' hP
      have hD := zr0D' hD
      have hP : va_P D vwCl (moW b sc tl cd pl cm h ++ (jrW ct (b 1) 94 M ++ (jrW ct (b 2) 94 SP ++ (jrW ct (b 3) 376 SV ++ (irW ct (b 4) 150 TX ++ (irW ct (b 5) 2 NB)))))) H := hP
      have hD : va_D A (moW b sc tl cd pl cm h ++ (jrW ct (b 1) 94 M ++ (jrW ct (b 2) 94 SP ++ (jrW ct (b 3) 376 SV ++ (irW ct (b 4) 150 TX ++ (irW ct (b 5) 2 NB)))))) := hD
      refine W.eq (g2 := F0 m 104 ls [.int (zI (ck_rod M (NB 0) (-1) (NB 1)))]) rfl ?_
      exact z_iret hx hb hr hlocks hP hD hS ⟨Nat.le_of_ble_eq_true rfl, Nat.le_of_ble_eq_true rfl⟩ dX9_whyNot_104 (⟨(ck_rod M (NB 0) (-1) (NB 1)), ⟨by rw [hc_4]; first | exact Iff.rfl | exact why_m | exact why_t | exact why_s | exact why_h | (exfalso; omega), by first | omega | (unfold ck1 ck_metal; (repeat' split) <;> omega) | (unfold ck_rod; (repeat' split) <;> omega) | (unfold ck_length; (repeat' split) <;> omega) | (unfold ck_warm; (repeat' split) <;> omega) | (unfold ck_shelf; (repeat' split) <;> omega) | (unfold ck1 ck_turn; (repeat' split) <;> omega) | (unfold ck1 ck_set; (repeat' split) <;> omega) | (unfold ck1 ck_hours; (repeat' split) <;> omega)⟩, rfl, rfl⟩)
    · have hc_87 := hc_87
      refine z_iconst hx hb dX9_whyNot_90 ?_
      refine lv_goto (tgt := 95) hx hb dX9_whyNot_91 (by decide) ?_
      refine lv_aload_n hx hb dX9_whyNot_95 rfl (lv_at hl 0 rfl) ?_
      refine va_get (D := D) (ci := 7) (v := .ref (b 5)) (C := RX9) (T := TX9) (N := 11) hx hb hts hin_X9 hown hK hP 0 rfl rfl 9 (by decide) hf_1 (fun _ h9 => h9) rfl dX9_whyNot_96 ?_
      refine z_iconst hx hb dX9_whyNot_99 ?_
      refine z_iald (g := NB) (v := NB 1) hx hb hK hP 5 rfl (by decide) (by omega) rfl dX9_whyNot_100 ?_
      refine z_callV (C := RX9) (q0 := 0) (ci := 7) (As := [.int (zI (NB 0)), .int (zI 1), .int (zI (NB 1))]) (rest := []) ([] : va_W) ([] : va_W) hx hb hml hown hts hl hE hS hA (zr0 ([] : va_W) hP) (zr0D ([] : va_W) hD) (c_X9_notRod l D ct ad b M SP SV TX NB sc tl cd pl cm h (NB 0) 1 (NB 1) (by assumption) (by omega) (by omega) (by omega)) gX9_whyNot_X9_notRod rfl rfl k_X9_notRod ⟨Nat.le_of_ble_eq_true rfl, Nat.le_of_ble_eq_true rfl⟩ rfl rfl rfl rfl (Nat.le_of_ble_eq_true rfl) ⟨Nat.le_of_ble_eq_true rfl, Nat.le_of_ble_eq_true rfl⟩ dX9_whyNot_101 rfl (fun v w1 H locs hpost hP hD hS => ?_)
      obtain ⟨rfl, rfl⟩ := hpost
      have hP := zr0' hP
      have hD := zr0D' hD
      have hP : va_P D vwCl (moW b sc tl cd pl cm h ++ (jrW ct (b 1) 94 M ++ (jrW ct (b 2) 94 SP ++ (jrW ct (b 3) 376 SV ++ (irW ct (b 4) 150 TX ++ (irW ct (b 5) 2 NB)))))) H := hP
      have hD : va_D A (moW b sc tl cd pl cm h ++ (jrW ct (b 1) 94 M ++ (jrW ct (b 2) 94 SP ++ (jrW ct (b 3) 376 SV ++ (irW ct (b 4) 150 TX ++ (irW ct (b 5) 2 NB)))))) := hD
      refine W.eq (g2 := F0 m 104 ls [.int (zI (ck_rod M (NB 0) 1 (NB 1)))]) rfl ?_
      exact z_iret hx hb hr hlocks hP hD hS ⟨Nat.le_of_ble_eq_true rfl, Nat.le_of_ble_eq_true rfl⟩ dX9_whyNot_104 (⟨(ck_rod M (NB 0) 1 (NB 1)), ⟨by rw [hc_4]; first | exact Iff.rfl | exact why_m | exact why_t | exact why_s | exact why_h | (exfalso; omega), by first | omega | (unfold ck1 ck_metal; (repeat' split) <;> omega) | (unfold ck_rod; (repeat' split) <;> omega) | (unfold ck_length; (repeat' split) <;> omega) | (unfold ck_warm; (repeat' split) <;> omega) | (unfold ck_shelf; (repeat' split) <;> omega) | (unfold ck1 ck_turn; (repeat' split) <;> omega) | (unfold ck1 ck_set; (repeat' split) <;> omega) | (unfold ck1 ck_hours; (repeat' split) <;> omega)⟩, rfl, rfl⟩)
  · refine z_tabIn (off := 71) (tgt := 75) hx hb dX9_whyNot_4 2 hc_4 (by decide) (by decide) rfl (by decide) ?_
    have mm : many cm = 2 := by rw [hc_4]; rfl
    have x1 := hx
    have y1 := hy
    refine lv_aload_n hx hb dX9_whyNot_75 rfl (lv_at hl 0 rfl) ?_
    refine lv_aload_n hx hb dX9_whyNot_76 rfl (lv_at hl 0 rfl) ?_
    refine va_get (D := D) (ci := 7) (v := .ref (b 5)) (C := RX9) (T := TX9) (N := 11) hx hb hts hin_X9 hown hK hP 0 rfl rfl 9 (by decide) hf_1 (fun _ h9 => h9) rfl dX9_whyNot_77 ?_
    refine z_iconst hx hb dX9_whyNot_80 ?_
    refine z_iald (g := NB) (v := NB 0) hx hb hK hP 5 rfl (by decide) (by omega) rfl dX9_whyNot_81 ?_
    refine lv_aload_n hx hb dX9_whyNot_82 rfl (lv_at hl 0 rfl) ?_
    refine va_get (D := D) (ci := 7) (v := .int (zI cm)) (C := RX9) (T := TX9) (N := 11) hx hb hts hin_X9 hown hK hP 0 rfl rfl 8 (by decide) hf_0 (fun _ h9 => h9) rfl dX9_whyNot_83 ?_
    refine z_iconst hx hb dX9_whyNot_86 ?_
    refine z_icmp_ne (tgt := 94) hx hb dX9_whyNot_87 (by decide) (by omega) (by omega) (fun hc_87 => ?_) (fun hc_87 => ?_)
    · have hc_87 := hc_87
      refine z_iconst hx hb dX9_whyNot_94 ?_
      refine lv_aload_n hx hb dX9_whyNot_95 rfl (lv_at hl 0 rfl) ?_
      refine va_get (D := D) (ci := 7) (v := .ref (b 5)) (C := RX9) (T := TX9) (N := 11) hx hb hts hin_X9 hown hK hP 0 rfl rfl 9 (by decide) hf_1 (fun _ h9 => h9) rfl dX9_whyNot_96 ?_
      refine z_iconst hx hb dX9_whyNot_99 ?_
      refine z_iald (g := NB) (v := NB 1) hx hb hK hP 5 rfl (by decide) (by omega) rfl dX9_whyNot_100 ?_
      refine z_callV (C := RX9) (q0 := 0) (ci := 7) (As := [.int (zI (NB 0)), .int (zI (-1)), .int (zI (NB 1))]) (rest := []) ([] : va_W) ([] : va_W) hx hb hml hown hts hl hE hS hA (zr0 ([] : va_W) hP) (zr0D ([] : va_W) hD) (c_X9_notRod l D ct ad b M SP SV TX NB sc tl cd pl cm h (NB 0) (-1) (NB 1) (by assumption) (by omega) (by omega) (by omega)) gX9_whyNot_X9_notRod rfl rfl k_X9_notRod ⟨Nat.le_of_ble_eq_true rfl, Nat.le_of_ble_eq_true rfl⟩ rfl rfl rfl rfl (Nat.le_of_ble_eq_true rfl) ⟨Nat.le_of_ble_eq_true rfl, Nat.le_of_ble_eq_true rfl⟩ dX9_whyNot_101 rfl (fun v w1 H locs hpost hP hD hS => ?_)
      obtain ⟨rfl, rfl⟩ := hpost
      have hP := zr0' hP
      have hD := zr0D' hD
      have hP : va_P D vwCl (moW b sc tl cd pl cm h ++ (jrW ct (b 1) 94 M ++ (jrW ct (b 2) 94 SP ++ (jrW ct (b 3) 376 SV ++ (irW ct (b 4) 150 TX ++ (irW ct (b 5) 2 NB)))))) H := hP
      have hD : va_D A (moW b sc tl cd pl cm h ++ (jrW ct (b 1) 94 M ++ (jrW ct (b 2) 94 SP ++ (jrW ct (b 3) 376 SV ++ (irW ct (b 4) 150 TX ++ (irW ct (b 5) 2 NB)))))) := hD
      refine W.eq (g2 := F0 m 104 ls [.int (zI (ck_rod M (NB 0) (-1) (NB 1)))]) rfl ?_
      exact z_iret hx hb hr hlocks hP hD hS ⟨Nat.le_of_ble_eq_true rfl, Nat.le_of_ble_eq_true rfl⟩ dX9_whyNot_104 (⟨(ck_rod M (NB 0) (-1) (NB 1)), ⟨by rw [hc_4]; first | exact Iff.rfl | exact why_m | exact why_t | exact why_s | exact why_h | (exfalso; omega), by first | omega | (unfold ck1 ck_metal; (repeat' split) <;> omega) | (unfold ck_rod; (repeat' split) <;> omega) | (unfold ck_length; (repeat' split) <;> omega) | (unfold ck_warm; (repeat' split) <;> omega) | (unfold ck_shelf; (repeat' split) <;> omega) | (unfold ck1 ck_turn; (repeat' split) <;> omega) | (unfold ck1 ck_set; (repeat' split) <;> omega) | (unfold ck1 ck_hours; (repeat' split) <;> omega)⟩, rfl, rfl⟩)
    · have hc_87 := hc_87
      refine z_iconst hx hb dX9_whyNot_90 ?_
      refine lv_goto (tgt := 95) hx hb dX9_whyNot_91 (by decide) ?_
      refine lv_aload_n hx hb dX9_whyNot_95 rfl (lv_at hl 0 rfl) ?_
      refine va_get (D := D) (ci := 7) (v := .ref (b 5)) (C := RX9) (T := TX9) (N := 11) hx hb hts hin_X9 hown hK hP 0 rfl rfl 9 (by decide) hf_1 (fun _ h9 => h9) rfl dX9_whyNot_96 ?_
      refine z_iconst hx hb dX9_whyNot_99 ?_
      refine z_iald (g := NB) (v := NB 1) hx hb hK hP 5 rfl (by decide) (by omega) rfl dX9_whyNot_100 ?_
      refine z_callV (C := RX9) (q0 := 0) (ci := 7) (As := [.int (zI (NB 0)), .int (zI 1), .int (zI (NB 1))]) (rest := []) ([] : va_W) ([] : va_W) hx hb hml hown hts hl hE hS hA (zr0 ([] : va_W) hP) (zr0D ([] : va_W) hD) (c_X9_notRod l D ct ad b M SP SV TX NB sc tl cd pl cm h (NB 0) 1 (NB 1) (by assumption) (by omega) (by omega) (by omega)) gX9_whyNot_X9_notRod rfl rfl k_X9_notRod ⟨Nat.le_of_ble_eq_true rfl, Nat.le_of_ble_eq_true rfl⟩ rfl rfl rfl rfl (Nat.le_of_ble_eq_true rfl) ⟨Nat.le_of_ble_eq_true rfl, Nat.le_of_ble_eq_true rfl⟩ dX9_whyNot_101 rfl (fun v w1 H locs hpost hP hD hS => ?_)
      obtain ⟨rfl, rfl⟩ := hpost
      have hP := zr0' hP
      have hD := zr0D' hD
      have hP : va_P D vwCl (moW b sc tl cd pl cm h ++ (jrW ct (b 1) 94 M ++ (jrW ct (b 2) 94 SP ++ (jrW ct (b 3) 376 SV ++ (irW ct (b 4) 150 TX ++ (irW ct (b 5) 2 NB)))))) H := hP
      have hD : va_D A (moW b sc tl cd pl cm h ++ (jrW ct (b 1) 94 M ++ (jrW ct (b 2) 94 SP ++ (jrW ct (b 3) 376 SV ++ (irW ct (b 4) 150 TX ++ (irW ct (b 5) 2 NB)))))) := hD
      refine W.eq (g2 := F0 m 104 ls [.int (zI (ck_rod M (NB 0) 1 (NB 1)))]) rfl ?_
      exact z_iret hx hb hr hlocks hP hD hS ⟨Nat.le_of_ble_eq_true rfl, Nat.le_of_ble_eq_true rfl⟩ dX9_whyNot_104 (⟨(ck_rod M (NB 0) 1 (NB 1)), ⟨by rw [hc_4]; first | exact Iff.rfl | exact why_m | exact why_t | exact why_s | exact why_h | (exfalso; omega), by first | omega | (unfold ck1 ck_metal; (repeat' split) <;> omega) | (unfold ck_rod; (repeat' split) <;> omega) | (unfold ck_length; (repeat' split) <;> omega) | (unfold ck_warm; (repeat' split) <;> omega) | (unfold ck_shelf; (repeat' split) <;> omega) | (unfold ck1 ck_turn; (repeat' split) <;> omega) | (unfold ck1 ck_set; (repeat' split) <;> omega) | (unfold ck1 ck_hours; (repeat' split) <;> omega)⟩, rfl, rfl⟩)
  · refine z_tabIn (off := 101) (tgt := 105) hx hb dX9_whyNot_4 3 hc_4 (by decide) (by decide) rfl (by decide) ?_
    have mm : many cm = 2 := by rw [hc_4]; rfl
    have x1 := hx
    have y1 := hy
    refine lv_aload_n hx hb dX9_whyNot_105 rfl (lv_at hl 0 rfl) ?_
    refine lv_aload_n hx hb dX9_whyNot_106 rfl (lv_at hl 0 rfl) ?_
    refine va_get (D := D) (ci := 7) (v := .ref (b 5)) (C := RX9) (T := TX9) (N := 11) hx hb hts hin_X9 hown hK hP 0 rfl rfl 9 (by decide) hf_1 (fun _ h9 => h9) rfl dX9_whyNot_107 ?_
    refine z_iconst hx hb dX9_whyNot_110 ?_
    refine z_iald (g := NB) (v := NB 0) hx hb hK hP 5 rfl (by decide) (by omega) rfl dX9_whyNot_111 ?_
    refine lv_aload_n hx hb dX9_whyNot_112 rfl (lv_at hl 0 rfl) ?_
    refine va_get (D := D) (ci := 7) (v := .ref (b 5)) (C := RX9) (T := TX9) (N := 11) hx hb hts hin_X9 hown hK hP 0 rfl rfl 9 (by decide) hf_1 (fun _ h9 => h9) rfl dX9_whyNot_113 ?_
    refine z_iconst hx hb dX9_whyNot_116 ?_
    refine z_iald (g := NB) (v := NB 1) hx hb hK hP 5 rfl (by decide) (by omega) rfl dX9_whyNot_117 ?_
    refine z_callV (C := RX9) (q0 := 0) (ci := 7) (As := [.int (zI (NB 0)), .int (zI (NB 1))]) (rest := []) ([] : va_W) ([] : va_W) hx hb hml hown hts hl hE hS hA (zr0 ([] : va_W) hP) (zr0D ([] : va_W) hD) (c_X9_notLength l D ct ad b M SP SV TX NB sc tl cd pl cm h (NB 0) (NB 1) (by assumption) (by omega) (by omega)) gX9_whyNot_X9_notLength rfl rfl k_X9_notLength ⟨Nat.le_of_ble_eq_true rfl, Nat.le_of_ble_eq_true rfl⟩ rfl rfl rfl rfl (Nat.le_of_ble_eq_true rfl) ⟨Nat.le_of_ble_eq_true rfl, Nat.le_of_ble_eq_true rfl⟩ dX9_whyNot_118 rfl (fun v w1 H locs hpost hP hD hS => ?_)
    obtain ⟨rfl, rfl⟩ := hpost
    have hP := zr0' hP
    have hD := zr0D' hD
    have hP : va_P D vwCl (moW b sc tl cd pl cm h ++ (jrW ct (b 1) 94 M ++ (jrW ct (b 2) 94 SP ++ (jrW ct (b 3) 376 SV ++ (irW ct (b 4) 150 TX ++ (irW ct (b 5) 2 NB)))))) H := hP
    have hD : va_D A (moW b sc tl cd pl cm h ++ (jrW ct (b 1) 94 M ++ (jrW ct (b 2) 94 SP ++ (jrW ct (b 3) 376 SV ++ (irW ct (b 4) 150 TX ++ (irW ct (b 5) 2 NB)))))) := hD
    refine W.eq (g2 := F0 m 121 ls [.int (zI (ck_length M (NB 0) (NB 1)))]) rfl ?_
    exact z_iret hx hb hr hlocks hP hD hS ⟨Nat.le_of_ble_eq_true rfl, Nat.le_of_ble_eq_true rfl⟩ dX9_whyNot_121 (⟨(ck_length M (NB 0) (NB 1)), ⟨by rw [hc_4]; first | exact Iff.rfl | exact why_m | exact why_t | exact why_s | exact why_h | (exfalso; omega), by first | omega | (unfold ck1 ck_metal; (repeat' split) <;> omega) | (unfold ck_rod; (repeat' split) <;> omega) | (unfold ck_length; (repeat' split) <;> omega) | (unfold ck_warm; (repeat' split) <;> omega) | (unfold ck_shelf; (repeat' split) <;> omega) | (unfold ck1 ck_turn; (repeat' split) <;> omega) | (unfold ck1 ck_set; (repeat' split) <;> omega) | (unfold ck1 ck_hours; (repeat' split) <;> omega)⟩, rfl, rfl⟩)
  · refine z_tabIn (off := 118) (tgt := 122) hx hb dX9_whyNot_4 4 hc_4 (by decide) (by decide) rfl (by decide) ?_
    have mm : many cm = 2 := by rw [hc_4]; rfl
    have x1 := hx
    have y1 := hy
    refine lv_aload_n hx hb dX9_whyNot_122 rfl (lv_at hl 0 rfl) ?_
    refine va_get (D := D) (ci := 7) (v := .ref (b 5)) (C := RX9) (T := TX9) (N := 11) hx hb hts hin_X9 hown hK hP 0 rfl rfl 9 (by decide) hf_1 (fun _ h9 => h9) rfl dX9_whyNot_123 ?_
    refine z_iconst hx hb dX9_whyNot_126 ?_
    refine z_iald (g := NB) (v := NB 0) hx hb hK hP 5 rfl (by decide) (by omega) rfl dX9_whyNot_127 ?_
    refine lv_aload_n hx hb dX9_whyNot_128 rfl (lv_at hl 0 rfl) ?_
    refine va_get (D := D) (ci := 7) (v := .int (zI cm)) (C := RX9) (T := TX9) (N := 11) hx hb hts hin_X9 hown hK hP 0 rfl rfl 8 (by decide) hf_0 (fun _ h9 => h9) rfl dX9_whyNot_129 ?_
    refine z_iconst hx hb dX9_whyNot_132 ?_
    refine z_icmp_ne (tgt := 145) hx hb dX9_whyNot_133 (by decide) (by omega) (by omega) (fun hc_133 => ?_) (fun hc_133 => ?_)
    · have hc_133 := hc_133
      refine lv_aload_n hx hb dX9_whyNot_145 rfl (lv_at hl 0 rfl) ?_
      refine va_get (D := D) (ci := 7) (v := .ref (b 5)) (C := RX9) (T := TX9) (N := 11) hx hb hts hin_X9 hown hK hP 0 rfl rfl 9 (by decide) hf_1 (fun _ h9 => h9) rfl dX9_whyNot_146 ?_
      refine z_iconst hx hb dX9_whyNot_149 ?_
      refine z_iald (g := NB) (v := NB 1) hx hb hK hP 5 rfl (by decide) (by omega) rfl dX9_whyNot_150 ?_
      refine z_ineg hx hb dX9_whyNot_151 ?_
      refine z_callS (As := [.int (zI (NB 0)), .int (zI (-(NB 1)))]) (rest := []) ([] : va_W) (moW b sc tl cd pl cm h ++ (jrW ct (b 1) 94 M ++ (jrW ct (b 2) 94 SP ++ (jrW ct (b 3) 376 SV ++ (irW ct (b 4) 150 TX ++ (irW ct (b 5) 2 NB)))))) hx hb hml hown hts hl hE hS hA hP hD (c_X9_notShelf l D ct ad (NB 0) (-(NB 1)) (by omega) (by omega)) gX9_whyNot_X9_notShelf rfl k_X9_notShelf ⟨Nat.le_of_ble_eq_true rfl, Nat.le_of_ble_eq_true rfl⟩ rfl (Nat.le_of_ble_eq_true rfl) ⟨Nat.le_of_ble_eq_true rfl, Nat.le_of_ble_eq_true rfl⟩ dX9_whyNot_152 rfl (fun v w1 H locs hpost hP hD hS => ?_)
      obtain ⟨rfl, rfl⟩ := hpost
      have hP : va_P D vwCl (moW b sc tl cd pl cm h ++ (jrW ct (b 1) 94 M ++ (jrW ct (b 2) 94 SP ++ (jrW ct (b 3) 376 SV ++ (irW ct (b 4) 150 TX ++ (irW ct (b 5) 2 NB)))))) H := hP
      have hD : va_D A (moW b sc tl cd pl cm h ++ (jrW ct (b 1) 94 M ++ (jrW ct (b 2) 94 SP ++ (jrW ct (b 3) 376 SV ++ (irW ct (b 4) 150 TX ++ (irW ct (b 5) 2 NB)))))) := hD
      refine W.eq (g2 := F0 m 155 ls [.int (zI (ck_warm (NB 0) (-(NB 1))))]) rfl ?_
      exact z_iret hx hb hr hlocks hP hD hS ⟨Nat.le_of_ble_eq_true rfl, Nat.le_of_ble_eq_true rfl⟩ dX9_whyNot_155 (⟨(ck_warm (NB 0) (-(NB 1))), ⟨by rw [hc_4]; first | exact Iff.rfl | exact why_m | exact why_t | exact why_s | exact why_h | (exfalso; omega), by first | omega | (unfold ck1 ck_metal; (repeat' split) <;> omega) | (unfold ck_rod; (repeat' split) <;> omega) | (unfold ck_length; (repeat' split) <;> omega) | (unfold ck_warm; (repeat' split) <;> omega) | (unfold ck_shelf; (repeat' split) <;> omega) | (unfold ck1 ck_turn; (repeat' split) <;> omega) | (unfold ck1 ck_set; (repeat' split) <;> omega) | (unfold ck1 ck_hours; (repeat' split) <;> omega)⟩, rfl, rfl⟩)
    · have hc_133 := hc_133
      refine lv_aload_n hx hb dX9_whyNot_136 rfl (lv_at hl 0 rfl) ?_
      refine va_get (D := D) (ci := 7) (v := .ref (b 5)) (C := RX9) (T := TX9) (N := 11) hx hb hts hin_X9 hown hK hP 0 rfl rfl 9 (by decide) hf_1 (fun _ h9 => h9) rfl dX9_whyNot_137 ?_
      refine z_iconst hx hb dX9_whyNot_140 ?_
      refine z_iald (g := NB) (v := NB 1) hx hb hK hP 5 rfl (by decide) (by omega) rfl dX9_whyNot_141 ?_
      refine lv_goto (tgt := 152) hx hb dX9_whyNot_142 (by decide) ?_
      refine z_callS (As := [.int (zI (NB 0)), .int (zI (NB 1))]) (rest := []) ([] : va_W) (moW b sc tl cd pl cm h ++ (jrW ct (b 1) 94 M ++ (jrW ct (b 2) 94 SP ++ (jrW ct (b 3) 376 SV ++ (irW ct (b 4) 150 TX ++ (irW ct (b 5) 2 NB)))))) hx hb hml hown hts hl hE hS hA hP hD (c_X9_notShelf l D ct ad (NB 0) (NB 1) (by omega) (by omega)) gX9_whyNot_X9_notShelf rfl k_X9_notShelf ⟨Nat.le_of_ble_eq_true rfl, Nat.le_of_ble_eq_true rfl⟩ rfl (Nat.le_of_ble_eq_true rfl) ⟨Nat.le_of_ble_eq_true rfl, Nat.le_of_ble_eq_true rfl⟩ dX9_whyNot_152 rfl (fun v w1 H locs hpost hP hD hS => ?_)
      obtain ⟨rfl, rfl⟩ := hpost
      have hP : va_P D vwCl (moW b sc tl cd pl cm h ++ (jrW ct (b 1) 94 M ++ (jrW ct (b 2) 94 SP ++ (jrW ct (b 3) 376 SV ++ (irW ct (b 4) 150 TX ++ (irW ct (b 5) 2 NB)))))) H := hP
      have hD : va_D A (moW b sc tl cd pl cm h ++ (jrW ct (b 1) 94 M ++ (jrW ct (b 2) 94 SP ++ (jrW ct (b 3) 376 SV ++ (irW ct (b 4) 150 TX ++ (irW ct (b 5) 2 NB)))))) := hD
      refine W.eq (g2 := F0 m 155 ls [.int (zI (ck_warm (NB 0) (NB 1)))]) rfl ?_
      exact z_iret hx hb hr hlocks hP hD hS ⟨Nat.le_of_ble_eq_true rfl, Nat.le_of_ble_eq_true rfl⟩ dX9_whyNot_155 (⟨(ck_warm (NB 0) (NB 1)), ⟨by rw [hc_4]; first | exact Iff.rfl | exact why_m | exact why_t | exact why_s | exact why_h | (exfalso; omega), by first | omega | (unfold ck1 ck_metal; (repeat' split) <;> omega) | (unfold ck_rod; (repeat' split) <;> omega) | (unfold ck_length; (repeat' split) <;> omega) | (unfold ck_warm; (repeat' split) <;> omega) | (unfold ck_shelf; (repeat' split) <;> omega) | (unfold ck1 ck_turn; (repeat' split) <;> omega) | (unfold ck1 ck_set; (repeat' split) <;> omega) | (unfold ck1 ck_hours; (repeat' split) <;> omega)⟩, rfl, rfl⟩)
  · refine z_tabIn (off := 118) (tgt := 122) hx hb dX9_whyNot_4 5 hc_4 (by decide) (by decide) rfl (by decide) ?_
    have mm : many cm = 2 := by rw [hc_4]; rfl
    have x1 := hx
    have y1 := hy
    refine lv_aload_n hx hb dX9_whyNot_122 rfl (lv_at hl 0 rfl) ?_
    refine va_get (D := D) (ci := 7) (v := .ref (b 5)) (C := RX9) (T := TX9) (N := 11) hx hb hts hin_X9 hown hK hP 0 rfl rfl 9 (by decide) hf_1 (fun _ h9 => h9) rfl dX9_whyNot_123 ?_
    refine z_iconst hx hb dX9_whyNot_126 ?_
    refine z_iald (g := NB) (v := NB 0) hx hb hK hP 5 rfl (by decide) (by omega) rfl dX9_whyNot_127 ?_
    refine lv_aload_n hx hb dX9_whyNot_128 rfl (lv_at hl 0 rfl) ?_
    refine va_get (D := D) (ci := 7) (v := .int (zI cm)) (C := RX9) (T := TX9) (N := 11) hx hb hts hin_X9 hown hK hP 0 rfl rfl 8 (by decide) hf_0 (fun _ h9 => h9) rfl dX9_whyNot_129 ?_
    refine z_iconst hx hb dX9_whyNot_132 ?_
    refine z_icmp_ne (tgt := 145) hx hb dX9_whyNot_133 (by decide) (by omega) (by omega) (fun hc_133 => ?_) (fun hc_133 => ?_)
    · have hc_133 := hc_133
      refine lv_aload_n hx hb dX9_whyNot_145 rfl (lv_at hl 0 rfl) ?_
      refine va_get (D := D) (ci := 7) (v := .ref (b 5)) (C := RX9) (T := TX9) (N := 11) hx hb hts hin_X9 hown hK hP 0 rfl rfl 9 (by decide) hf_1 (fun _ h9 => h9) rfl dX9_whyNot_146 ?_
      refine z_iconst hx hb dX9_whyNot_149 ?_
      refine z_iald (g := NB) (v := NB 1) hx hb hK hP 5 rfl (by decide) (by omega) rfl dX9_whyNot_150 ?_
      refine z_ineg hx hb dX9_whyNot_151 ?_
      refine z_callS (As := [.int (zI (NB 0)), .int (zI (-(NB 1)))]) (rest := []) ([] : va_W) (moW b sc tl cd pl cm h ++ (jrW ct (b 1) 94 M ++ (jrW ct (b 2) 94 SP ++ (jrW ct (b 3) 376 SV ++ (irW ct (b 4) 150 TX ++ (irW ct (b 5) 2 NB)))))) hx hb hml hown hts hl hE hS hA hP hD (c_X9_notShelf l D ct ad (NB 0) (-(NB 1)) (by omega) (by omega)) gX9_whyNot_X9_notShelf rfl k_X9_notShelf ⟨Nat.le_of_ble_eq_true rfl, Nat.le_of_ble_eq_true rfl⟩ rfl (Nat.le_of_ble_eq_true rfl) ⟨Nat.le_of_ble_eq_true rfl, Nat.le_of_ble_eq_true rfl⟩ dX9_whyNot_152 rfl (fun v w1 H locs hpost hP hD hS => ?_)
      obtain ⟨rfl, rfl⟩ := hpost
      have hP : va_P D vwCl (moW b sc tl cd pl cm h ++ (jrW ct (b 1) 94 M ++ (jrW ct (b 2) 94 SP ++ (jrW ct (b 3) 376 SV ++ (irW ct (b 4) 150 TX ++ (irW ct (b 5) 2 NB)))))) H := hP
      have hD : va_D A (moW b sc tl cd pl cm h ++ (jrW ct (b 1) 94 M ++ (jrW ct (b 2) 94 SP ++ (jrW ct (b 3) 376 SV ++ (irW ct (b 4) 150 TX ++ (irW ct (b 5) 2 NB)))))) := hD
      refine W.eq (g2 := F0 m 155 ls [.int (zI (ck_warm (NB 0) (-(NB 1))))]) rfl ?_
      exact z_iret hx hb hr hlocks hP hD hS ⟨Nat.le_of_ble_eq_true rfl, Nat.le_of_ble_eq_true rfl⟩ dX9_whyNot_155 (⟨(ck_warm (NB 0) (-(NB 1))), ⟨by rw [hc_4]; first | exact Iff.rfl | exact why_m | exact why_t | exact why_s | exact why_h | (exfalso; omega), by first | omega | (unfold ck1 ck_metal; (repeat' split) <;> omega) | (unfold ck_rod; (repeat' split) <;> omega) | (unfold ck_length; (repeat' split) <;> omega) | (unfold ck_warm; (repeat' split) <;> omega) | (unfold ck_shelf; (repeat' split) <;> omega) | (unfold ck1 ck_turn; (repeat' split) <;> omega) | (unfold ck1 ck_set; (repeat' split) <;> omega) | (unfold ck1 ck_hours; (repeat' split) <;> omega)⟩, rfl, rfl⟩)
    · have hc_133 := hc_133
      refine lv_aload_n hx hb dX9_whyNot_136 rfl (lv_at hl 0 rfl) ?_
      refine va_get (D := D) (ci := 7) (v := .ref (b 5)) (C := RX9) (T := TX9) (N := 11) hx hb hts hin_X9 hown hK hP 0 rfl rfl 9 (by decide) hf_1 (fun _ h9 => h9) rfl dX9_whyNot_137 ?_
      refine z_iconst hx hb dX9_whyNot_140 ?_
      refine z_iald (g := NB) (v := NB 1) hx hb hK hP 5 rfl (by decide) (by omega) rfl dX9_whyNot_141 ?_
      refine lv_goto (tgt := 152) hx hb dX9_whyNot_142 (by decide) ?_
      refine z_callS (As := [.int (zI (NB 0)), .int (zI (NB 1))]) (rest := []) ([] : va_W) (moW b sc tl cd pl cm h ++ (jrW ct (b 1) 94 M ++ (jrW ct (b 2) 94 SP ++ (jrW ct (b 3) 376 SV ++ (irW ct (b 4) 150 TX ++ (irW ct (b 5) 2 NB)))))) hx hb hml hown hts hl hE hS hA hP hD (c_X9_notShelf l D ct ad (NB 0) (NB 1) (by omega) (by omega)) gX9_whyNot_X9_notShelf rfl k_X9_notShelf ⟨Nat.le_of_ble_eq_true rfl, Nat.le_of_ble_eq_true rfl⟩ rfl (Nat.le_of_ble_eq_true rfl) ⟨Nat.le_of_ble_eq_true rfl, Nat.le_of_ble_eq_true rfl⟩ dX9_whyNot_152 rfl (fun v w1 H locs hpost hP hD hS => ?_)
      obtain ⟨rfl, rfl⟩ := hpost
      have hP : va_P D vwCl (moW b sc tl cd pl cm h ++ (jrW ct (b 1) 94 M ++ (jrW ct (b 2) 94 SP ++ (jrW ct (b 3) 376 SV ++ (irW ct (b 4) 150 TX ++ (irW ct (b 5) 2 NB)))))) H := hP
      have hD : va_D A (moW b sc tl cd pl cm h ++ (jrW ct (b 1) 94 M ++ (jrW ct (b 2) 94 SP ++ (jrW ct (b 3) 376 SV ++ (irW ct (b 4) 150 TX ++ (irW ct (b 5) 2 NB)))))) := hD
      refine W.eq (g2 := F0 m 155 ls [.int (zI (ck_warm (NB 0) (NB 1)))]) rfl ?_
      exact z_iret hx hb hr hlocks hP hD hS ⟨Nat.le_of_ble_eq_true rfl, Nat.le_of_ble_eq_true rfl⟩ dX9_whyNot_155 (⟨(ck_warm (NB 0) (NB 1)), ⟨by rw [hc_4]; first | exact Iff.rfl | exact why_m | exact why_t | exact why_s | exact why_h | (exfalso; omega), by first | omega | (unfold ck1 ck_metal; (repeat' split) <;> omega) | (unfold ck_rod; (repeat' split) <;> omega) | (unfold ck_length; (repeat' split) <;> omega) | (unfold ck_warm; (repeat' split) <;> omega) | (unfold ck_shelf; (repeat' split) <;> omega) | (unfold ck1 ck_turn; (repeat' split) <;> omega) | (unfold ck1 ck_set; (repeat' split) <;> omega) | (unfold ck1 ck_hours; (repeat' split) <;> omega)⟩, rfl, rfl⟩)
  · refine z_tabIn (off := 152) (tgt := 156) hx hb dX9_whyNot_4 6 hc_4 (by decide) (by decide) rfl (by decide) ?_
    have mm : many cm = 1 := by rw [hc_4]; rfl
    have x1 := hx
    have y1 := hy
    refine lv_aload_n hx hb dX9_whyNot_156 rfl (lv_at hl 0 rfl) ?_
    refine va_get (D := D) (ci := 7) (v := .ref (b 5)) (C := RX9) (T := TX9) (N := 11) hx hb hts hin_X9 hown hK hP 0 rfl rfl 9 (by decide) hf_1 (fun _ h9 => h9) rfl dX9_whyNot_157 ?_
    refine z_iconst hx hb dX9_whyNot_160 ?_
    refine z_iald (g := NB) (v := NB 0) hx hb hK hP 5 rfl (by decide) (by omega) rfl dX9_whyNot_161 ?_
    refine z_callS (As := [.int (zI (NB 0))]) (rest := []) ([] : va_W) (moW b sc tl cd pl cm h ++ (jrW ct (b 1) 94 M ++ (jrW ct (b 2) 94 SP ++ (jrW ct (b 3) 376 SV ++ (irW ct (b 4) 150 TX ++ (irW ct (b 5) 2 NB)))))) hx hb hml hown hts hl hE hS hA hP hD (c_X9_notHang l D ct ad (NB 0) (by omega)) gX9_whyNot_X9_notHang rfl k_X9_notHang ⟨Nat.le_of_ble_eq_true rfl, Nat.le_of_ble_eq_true rfl⟩ rfl (Nat.le_of_ble_eq_true rfl) ⟨Nat.le_of_ble_eq_true rfl, Nat.le_of_ble_eq_true rfl⟩ dX9_whyNot_162 rfl (fun v w1 H locs hpost hP hD hS => ?_)
    obtain ⟨rfl, rfl⟩ := hpost
    have hP : va_P D vwCl (moW b sc tl cd pl cm h ++ (jrW ct (b 1) 94 M ++ (jrW ct (b 2) 94 SP ++ (jrW ct (b 3) 376 SV ++ (irW ct (b 4) 150 TX ++ (irW ct (b 5) 2 NB)))))) H := hP
    have hD : va_D A (moW b sc tl cd pl cm h ++ (jrW ct (b 1) 94 M ++ (jrW ct (b 2) 94 SP ++ (jrW ct (b 3) 376 SV ++ (irW ct (b 4) 150 TX ++ (irW ct (b 5) 2 NB)))))) := hD
    refine W.eq (g2 := F0 m 165 ls [.int (zI (ck_shelf (NB 0)))]) rfl ?_
    exact z_iret hx hb hr hlocks hP hD hS ⟨Nat.le_of_ble_eq_true rfl, Nat.le_of_ble_eq_true rfl⟩ dX9_whyNot_165 (⟨(ck_shelf (NB 0)), ⟨by rw [hc_4]; first | exact Iff.rfl | exact why_m | exact why_t | exact why_s | exact why_h | (exfalso; omega), by first | omega | (unfold ck1 ck_metal; (repeat' split) <;> omega) | (unfold ck_rod; (repeat' split) <;> omega) | (unfold ck_length; (repeat' split) <;> omega) | (unfold ck_warm; (repeat' split) <;> omega) | (unfold ck_shelf; (repeat' split) <;> omega) | (unfold ck1 ck_turn; (repeat' split) <;> omega) | (unfold ck1 ck_set; (repeat' split) <;> omega) | (unfold ck1 ck_hours; (repeat' split) <;> omega)⟩, rfl, rfl⟩)
  · refine z_tabIn (off := 162) (tgt := 166) hx hb dX9_whyNot_4 7 hc_4 (by decide) (by decide) rfl (by decide) ?_
    have mm : many cm = 1 := by rw [hc_4]; rfl
    have x1 := hx
    have y1 := hy
    refine lv_aload_n hx hb dX9_whyNot_166 rfl (lv_at hl 0 rfl) ?_
    refine lv_aload_n hx hb dX9_whyNot_167 rfl (lv_at hl 0 rfl) ?_
    refine va_get (D := D) (ci := 7) (v := .int (zI cm)) (C := RX9) (T := TX9) (N := 11) hx hb hts hin_X9 hown hK hP 0 rfl rfl 8 (by decide) hf_0 (fun _ h9 => h9) rfl dX9_whyNot_168 ?_
    refine z_bipush hx hb dX9_whyNot_171 (by decide) ?_
    refine z_icmp_ne (tgt := 185) hx hb dX9_whyNot_173 (by decide) (by omega) (by omega) (fun hc_173 => ?_) (fun hc_173 => ?_)
    · have hc_173 := hc_173
      refine lv_aload_n hx hb dX9_whyNot_185 rfl (lv_at hl 0 rfl) ?_
      refine va_get (D := D) (ci := 7) (v := .ref (b 5)) (C := RX9) (T := TX9) (N := 11) hx hb hts hin_X9 hown hK hP 0 rfl rfl 9 (by decide) hf_1 (fun _ h9 => h9) rfl dX9_whyNot_186 ?_
      refine z_iconst hx hb dX9_whyNot_189 ?_
      refine z_iald (g := NB) (v := NB 0) hx hb hK hP 5 rfl (by decide) (by omega) rfl dX9_whyNot_190 ?_
      refine z_ineg hx hb dX9_whyNot_191 ?_
      refine z_callV (C := RX9) (q0 := 0) (ci := 7) (As := [.int (zI (-(NB 0)))]) (rest := []) ([] : va_W) ([] : va_W) hx hb hml hown hts hl hE hS hA (zr0 ([] : va_W) hP) (zr0D ([] : va_W) hD) (c_X9_notTurn l D ct ad b M SP SV TX NB sc tl cd pl cm h (-(NB 0)) (by assumption) (by assumption) (by omega)) gX9_whyNot_X9_notTurn rfl rfl k_X9_notTurn ⟨Nat.le_of_ble_eq_true rfl, Nat.le_of_ble_eq_true rfl⟩ rfl rfl rfl rfl (Nat.le_of_ble_eq_true rfl) ⟨Nat.le_of_ble_eq_true rfl, Nat.le_of_ble_eq_true rfl⟩ dX9_whyNot_192 rfl (fun v w1 H locs hpost hP hD hS => ?_)
      obtain ⟨rfl, rfl⟩ := hpost
      have hP := zr0' hP
      have hD := zr0D' hD
      have hP : va_P D vwCl (moW b sc tl cd pl cm h ++ (jrW ct (b 1) 94 M ++ (jrW ct (b 2) 94 SP ++ (jrW ct (b 3) 376 SV ++ (irW ct (b 4) 150 TX ++ (irW ct (b 5) 2 NB)))))) H := hP
      have hD : va_D A (moW b sc tl cd pl cm h ++ (jrW ct (b 1) 94 M ++ (jrW ct (b 2) 94 SP ++ (jrW ct (b 3) 376 SV ++ (irW ct (b 4) 150 TX ++ (irW ct (b 5) 2 NB)))))) := hD
      refine W.eq (g2 := F0 m 195 ls [.int (zI (ck1 (ck_turn M (-(NB 0)))))]) rfl ?_
      exact z_iret hx hb hr hlocks hP hD hS ⟨Nat.le_of_ble_eq_true rfl, Nat.le_of_ble_eq_true rfl⟩ dX9_whyNot_195 (⟨(ck1 (ck_turn M (-(NB 0)))), ⟨by rw [hc_4]; first | exact Iff.rfl | exact why_m | exact why_t | exact why_s | exact why_h | (exfalso; omega), by first | omega | (unfold ck1 ck_metal; (repeat' split) <;> omega) | (unfold ck_rod; (repeat' split) <;> omega) | (unfold ck_length; (repeat' split) <;> omega) | (unfold ck_warm; (repeat' split) <;> omega) | (unfold ck_shelf; (repeat' split) <;> omega) | (unfold ck1 ck_turn; (repeat' split) <;> omega) | (unfold ck1 ck_set; (repeat' split) <;> omega) | (unfold ck1 ck_hours; (repeat' split) <;> omega)⟩, rfl, rfl⟩)
    · have hc_173 := hc_173
      refine lv_aload_n hx hb dX9_whyNot_176 rfl (lv_at hl 0 rfl) ?_
      refine va_get (D := D) (ci := 7) (v := .ref (b 5)) (C := RX9) (T := TX9) (N := 11) hx hb hts hin_X9 hown hK hP 0 rfl rfl 9 (by decide) hf_1 (fun _ h9 => h9) rfl dX9_whyNot_177 ?_
      refine z_iconst hx hb dX9_whyNot_180 ?_
      refine z_iald (g := NB) (v := NB 0) hx hb hK hP 5 rfl (by decide) (by omega) rfl dX9_whyNot_181 ?_
      refine lv_goto (tgt := 192) hx hb dX9_whyNot_182 (by decide) ?_
      refine z_callV (C := RX9) (q0 := 0) (ci := 7) (As := [.int (zI (NB 0))]) (rest := []) ([] : va_W) ([] : va_W) hx hb hml hown hts hl hE hS hA (zr0 ([] : va_W) hP) (zr0D ([] : va_W) hD) (c_X9_notTurn l D ct ad b M SP SV TX NB sc tl cd pl cm h (NB 0) (by assumption) (by assumption) (by omega)) gX9_whyNot_X9_notTurn rfl rfl k_X9_notTurn ⟨Nat.le_of_ble_eq_true rfl, Nat.le_of_ble_eq_true rfl⟩ rfl rfl rfl rfl (Nat.le_of_ble_eq_true rfl) ⟨Nat.le_of_ble_eq_true rfl, Nat.le_of_ble_eq_true rfl⟩ dX9_whyNot_192 rfl (fun v w1 H locs hpost hP hD hS => ?_)
      obtain ⟨rfl, rfl⟩ := hpost
      have hP := zr0' hP
      have hD := zr0D' hD
      have hP : va_P D vwCl (moW b sc tl cd pl cm h ++ (jrW ct (b 1) 94 M ++ (jrW ct (b 2) 94 SP ++ (jrW ct (b 3) 376 SV ++ (irW ct (b 4) 150 TX ++ (irW ct (b 5) 2 NB)))))) H := hP
      have hD : va_D A (moW b sc tl cd pl cm h ++ (jrW ct (b 1) 94 M ++ (jrW ct (b 2) 94 SP ++ (jrW ct (b 3) 376 SV ++ (irW ct (b 4) 150 TX ++ (irW ct (b 5) 2 NB)))))) := hD
      refine W.eq (g2 := F0 m 195 ls [.int (zI (ck1 (ck_turn M (NB 0))))]) rfl ?_
      exact z_iret hx hb hr hlocks hP hD hS ⟨Nat.le_of_ble_eq_true rfl, Nat.le_of_ble_eq_true rfl⟩ dX9_whyNot_195 (⟨(ck1 (ck_turn M (NB 0))), ⟨by rw [hc_4]; first | exact Iff.rfl | exact why_m | exact why_t | exact why_s | exact why_h | (exfalso; omega), by first | omega | (unfold ck1 ck_metal; (repeat' split) <;> omega) | (unfold ck_rod; (repeat' split) <;> omega) | (unfold ck_length; (repeat' split) <;> omega) | (unfold ck_warm; (repeat' split) <;> omega) | (unfold ck_shelf; (repeat' split) <;> omega) | (unfold ck1 ck_turn; (repeat' split) <;> omega) | (unfold ck1 ck_set; (repeat' split) <;> omega) | (unfold ck1 ck_hours; (repeat' split) <;> omega)⟩, rfl, rfl⟩)
  · refine z_tabIn (off := 162) (tgt := 166) hx hb dX9_whyNot_4 8 hc_4 (by decide) (by decide) rfl (by decide) ?_
    have mm : many cm = 1 := by rw [hc_4]; rfl
    have x1 := hx
    have y1 := hy
    refine lv_aload_n hx hb dX9_whyNot_166 rfl (lv_at hl 0 rfl) ?_
    refine lv_aload_n hx hb dX9_whyNot_167 rfl (lv_at hl 0 rfl) ?_
    refine va_get (D := D) (ci := 7) (v := .int (zI cm)) (C := RX9) (T := TX9) (N := 11) hx hb hts hin_X9 hown hK hP 0 rfl rfl 8 (by decide) hf_0 (fun _ h9 => h9) rfl dX9_whyNot_168 ?_
    refine z_bipush hx hb dX9_whyNot_171 (by decide) ?_
    refine z_icmp_ne (tgt := 185) hx hb dX9_whyNot_173 (by decide) (by omega) (by omega) (fun hc_173 => ?_) (fun hc_173 => ?_)
    · have hc_173 := hc_173
      refine lv_aload_n hx hb dX9_whyNot_185 rfl (lv_at hl 0 rfl) ?_
      refine va_get (D := D) (ci := 7) (v := .ref (b 5)) (C := RX9) (T := TX9) (N := 11) hx hb hts hin_X9 hown hK hP 0 rfl rfl 9 (by decide) hf_1 (fun _ h9 => h9) rfl dX9_whyNot_186 ?_
      refine z_iconst hx hb dX9_whyNot_189 ?_
      refine z_iald (g := NB) (v := NB 0) hx hb hK hP 5 rfl (by decide) (by omega) rfl dX9_whyNot_190 ?_
      refine z_ineg hx hb dX9_whyNot_191 ?_
      refine z_callV (C := RX9) (q0 := 0) (ci := 7) (As := [.int (zI (-(NB 0)))]) (rest := []) ([] : va_W) ([] : va_W) hx hb hml hown hts hl hE hS hA (zr0 ([] : va_W) hP) (zr0D ([] : va_W) hD) (c_X9_notTurn l D ct ad b M SP SV TX NB sc tl cd pl cm h (-(NB 0)) (by assumption) (by assumption) (by omega)) gX9_whyNot_X9_notTurn rfl rfl k_X9_notTurn ⟨Nat.le_of_ble_eq_true rfl, Nat.le_of_ble_eq_true rfl⟩ rfl rfl rfl rfl (Nat.le_of_ble_eq_true rfl) ⟨Nat.le_of_ble_eq_true rfl, Nat.le_of_ble_eq_true rfl⟩ dX9_whyNot_192 rfl (fun v w1 H locs hpost hP hD hS => ?_)
      obtain ⟨rfl, rfl⟩ := hpost
      have hP := zr0' hP
      have hD := zr0D' hD
      have hP : va_P D vwCl (moW b sc tl cd pl cm h ++ (jrW ct (b 1) 94 M ++ (jrW ct (b 2) 94 SP ++ (jrW ct (b 3) 376 SV ++ (irW ct (b 4) 150 TX ++ (irW ct (b 5) 2 NB)))))) H := hP
      have hD : va_D A (moW b sc tl cd pl cm h ++ (jrW ct (b 1) 94 M ++ (jrW ct (b 2) 94 SP ++ (jrW ct (b 3) 376 SV ++ (irW ct (b 4) 150 TX ++ (irW ct (b 5) 2 NB)))))) := hD
      refine W.eq (g2 := F0 m 195 ls [.int (zI (ck1 (ck_turn M (-(NB 0)))))]) rfl ?_
      exact z_iret hx hb hr hlocks hP hD hS ⟨Nat.le_of_ble_eq_true rfl, Nat.le_of_ble_eq_true rfl⟩ dX9_whyNot_195 (⟨(ck1 (ck_turn M (-(NB 0)))), ⟨by rw [hc_4]; first | exact Iff.rfl | exact why_m | exact why_t | exact why_s | exact why_h | (exfalso; omega), by first | omega | (unfold ck1 ck_metal; (repeat' split) <;> omega) | (unfold ck_rod; (repeat' split) <;> omega) | (unfold ck_length; (repeat' split) <;> omega) | (unfold ck_warm; (repeat' split) <;> omega) | (unfold ck_shelf; (repeat' split) <;> omega) | (unfold ck1 ck_turn; (repeat' split) <;> omega) | (unfold ck1 ck_set; (repeat' split) <;> omega) | (unfold ck1 ck_hours; (repeat' split) <;> omega)⟩, rfl, rfl⟩)
    · have hc_173 := hc_173
      refine lv_aload_n hx hb dX9_whyNot_176 rfl (lv_at hl 0 rfl) ?_
      refine va_get (D := D) (ci := 7) (v := .ref (b 5)) (C := RX9) (T := TX9) (N := 11) hx hb hts hin_X9 hown hK hP 0 rfl rfl 9 (by decide) hf_1 (fun _ h9 => h9) rfl dX9_whyNot_177 ?_
      refine z_iconst hx hb dX9_whyNot_180 ?_
      refine z_iald (g := NB) (v := NB 0) hx hb hK hP 5 rfl (by decide) (by omega) rfl dX9_whyNot_181 ?_
      refine lv_goto (tgt := 192) hx hb dX9_whyNot_182 (by decide) ?_
      refine z_callV (C := RX9) (q0 := 0) (ci := 7) (As := [.int (zI (NB 0))]) (rest := []) ([] : va_W) ([] : va_W) hx hb hml hown hts hl hE hS hA (zr0 ([] : va_W) hP) (zr0D ([] : va_W) hD) (c_X9_notTurn l D ct ad b M SP SV TX NB sc tl cd pl cm h (NB 0) (by assumption) (by assumption) (by omega)) gX9_whyNot_X9_notTurn rfl rfl k_X9_notTurn ⟨Nat.le_of_ble_eq_true rfl, Nat.le_of_ble_eq_true rfl⟩ rfl rfl rfl rfl (Nat.le_of_ble_eq_true rfl) ⟨Nat.le_of_ble_eq_true rfl, Nat.le_of_ble_eq_true rfl⟩ dX9_whyNot_192 rfl (fun v w1 H locs hpost hP hD hS => ?_)
      obtain ⟨rfl, rfl⟩ := hpost
      have hP := zr0' hP
      have hD := zr0D' hD
      have hP : va_P D vwCl (moW b sc tl cd pl cm h ++ (jrW ct (b 1) 94 M ++ (jrW ct (b 2) 94 SP ++ (jrW ct (b 3) 376 SV ++ (irW ct (b 4) 150 TX ++ (irW ct (b 5) 2 NB)))))) H := hP
      have hD : va_D A (moW b sc tl cd pl cm h ++ (jrW ct (b 1) 94 M ++ (jrW ct (b 2) 94 SP ++ (jrW ct (b 3) 376 SV ++ (irW ct (b 4) 150 TX ++ (irW ct (b 5) 2 NB)))))) := hD
      refine W.eq (g2 := F0 m 195 ls [.int (zI (ck1 (ck_turn M (NB 0))))]) rfl ?_
      exact z_iret hx hb hr hlocks hP hD hS ⟨Nat.le_of_ble_eq_true rfl, Nat.le_of_ble_eq_true rfl⟩ dX9_whyNot_195 (⟨(ck1 (ck_turn M (NB 0))), ⟨by rw [hc_4]; first | exact Iff.rfl | exact why_m | exact why_t | exact why_s | exact why_h | (exfalso; omega), by first | omega | (unfold ck1 ck_metal; (repeat' split) <;> omega) | (unfold ck_rod; (repeat' split) <;> omega) | (unfold ck_length; (repeat' split) <;> omega) | (unfold ck_warm; (repeat' split) <;> omega) | (unfold ck_shelf; (repeat' split) <;> omega) | (unfold ck1 ck_turn; (repeat' split) <;> omega) | (unfold ck1 ck_set; (repeat' split) <;> omega) | (unfold ck1 ck_hours; (repeat' split) <;> omega)⟩, rfl, rfl⟩)
  · refine z_tabIn (off := 192) (tgt := 196) hx hb dX9_whyNot_4 9 hc_4 (by decide) (by decide) rfl (by decide) ?_
    have mm : many cm = 0 := by rw [hc_4]; rfl
    have x1 := hx
    have y1 := hy
    refine z_iconst hx hb dX9_whyNot_196 ?_
    exact z_iret hx hb hr hlocks hP hD hS ⟨Nat.le_of_ble_eq_true rfl, Nat.le_of_ble_eq_true rfl⟩ dX9_whyNot_197 (⟨0, ⟨by rw [hc_4]; first | exact Iff.rfl | exact why_m | exact why_t | exact why_s | exact why_h | (exfalso; omega), by first | omega | (unfold ck1 ck_metal; (repeat' split) <;> omega) | (unfold ck_rod; (repeat' split) <;> omega) | (unfold ck_length; (repeat' split) <;> omega) | (unfold ck_warm; (repeat' split) <;> omega) | (unfold ck_shelf; (repeat' split) <;> omega) | (unfold ck1 ck_turn; (repeat' split) <;> omega) | (unfold ck1 ck_set; (repeat' split) <;> omega) | (unfold ck1 ck_hours; (repeat' split) <;> omega)⟩, rfl, rfl⟩)
  · refine z_tabIn (off := 194) (tgt := 198) hx hb dX9_whyNot_4 10 hc_4 (by decide) (by decide) rfl (by decide) ?_
    have mm : many cm = 2 := by rw [hc_4]; rfl
    have x1 := hx
    have y1 := hy
    refine lv_aload_n hx hb dX9_whyNot_198 rfl (lv_at hl 0 rfl) ?_
    refine va_get (D := D) (ci := 7) (v := .ref (b 5)) (C := RX9) (T := TX9) (N := 11) hx hb hts hin_X9 hown hK hP 0 rfl rfl 9 (by decide) hf_1 (fun _ h9 => h9) rfl dX9_whyNot_199 ?_
    refine z_iconst hx hb dX9_whyNot_202 ?_
    refine z_iald (g := NB) (v := NB 0) hx hb hK hP 5 rfl (by decide) (by omega) rfl dX9_whyNot_203 ?_
    refine lv_aload_n hx hb dX9_whyNot_204 rfl (lv_at hl 0 rfl) ?_
    refine va_get (D := D) (ci := 7) (v := .ref (b 5)) (C := RX9) (T := TX9) (N := 11) hx hb hts hin_X9 hown hK hP 0 rfl rfl 9 (by decide) hf_1 (fun _ h9 => h9) rfl dX9_whyNot_205 ?_
    refine z_iconst hx hb dX9_whyNot_208 ?_
    refine z_iald (g := NB) (v := NB 1) hx hb hK hP 5 rfl (by decide) (by omega) rfl dX9_whyNot_209 ?_
    refine z_callS (As := [.int (zI (NB 0)), .int (zI (NB 1))]) (rest := []) ([] : va_W) (moW b sc tl cd pl cm h ++ (jrW ct (b 1) 94 M ++ (jrW ct (b 2) 94 SP ++ (jrW ct (b 3) 376 SV ++ (irW ct (b 4) 150 TX ++ (irW ct (b 5) 2 NB)))))) hx hb hml hown hts hl hE hS hA hP hD (c_X9_notSet l D ct ad (NB 0) (NB 1) (by omega) (by omega)) gX9_whyNot_X9_notSet rfl k_X9_notSet ⟨Nat.le_of_ble_eq_true rfl, Nat.le_of_ble_eq_true rfl⟩ rfl (Nat.le_of_ble_eq_true rfl) ⟨Nat.le_of_ble_eq_true rfl, Nat.le_of_ble_eq_true rfl⟩ dX9_whyNot_210 rfl (fun v w1 H locs hpost hP hD hS => ?_)
    obtain ⟨rfl, rfl⟩ := hpost
    have hP : va_P D vwCl (moW b sc tl cd pl cm h ++ (jrW ct (b 1) 94 M ++ (jrW ct (b 2) 94 SP ++ (jrW ct (b 3) 376 SV ++ (irW ct (b 4) 150 TX ++ (irW ct (b 5) 2 NB)))))) H := hP
    have hD : va_D A (moW b sc tl cd pl cm h ++ (jrW ct (b 1) 94 M ++ (jrW ct (b 2) 94 SP ++ (jrW ct (b 3) 376 SV ++ (irW ct (b 4) 150 TX ++ (irW ct (b 5) 2 NB)))))) := hD
    refine W.eq (g2 := F0 m 213 ls [.int (zI (ck1 (ck_set (NB 0) (NB 1))))]) rfl ?_
    exact z_iret hx hb hr hlocks hP hD hS ⟨Nat.le_of_ble_eq_true rfl, Nat.le_of_ble_eq_true rfl⟩ dX9_whyNot_213 (⟨(ck1 (ck_set (NB 0) (NB 1))), ⟨by rw [hc_4]; first | exact Iff.rfl | exact why_m | exact why_t | exact why_s | exact why_h | (exfalso; omega), by first | omega | (unfold ck1 ck_metal; (repeat' split) <;> omega) | (unfold ck_rod; (repeat' split) <;> omega) | (unfold ck_length; (repeat' split) <;> omega) | (unfold ck_warm; (repeat' split) <;> omega) | (unfold ck_shelf; (repeat' split) <;> omega) | (unfold ck1 ck_turn; (repeat' split) <;> omega) | (unfold ck1 ck_set; (repeat' split) <;> omega) | (unfold ck1 ck_hours; (repeat' split) <;> omega)⟩, rfl, rfl⟩)
  · refine z_tabOut (tgt := 214) hx hb dX9_whyNot_4 (by omega) (by omega) (by decide) ?_
    have hc_4 : cm = 11 := by omega
    have mm : many cm = 1 := by rw [hc_4]; rfl
    have x1 := hx
    have y1 := hy
    refine lv_aload_n hx hb dX9_whyNot_214 rfl (lv_at hl 0 rfl) ?_
    refine lv_aload_n hx hb dX9_whyNot_215 rfl (lv_at hl 0 rfl) ?_
    refine va_get (D := D) (ci := 7) (v := .ref (b 5)) (C := RX9) (T := TX9) (N := 11) hx hb hts hin_X9 hown hK hP 0 rfl rfl 9 (by decide) hf_1 (fun _ h9 => h9) rfl dX9_whyNot_216 ?_
    refine z_iconst hx hb dX9_whyNot_219 ?_
    refine z_iald (g := NB) (v := NB 0) hx hb hK hP 5 rfl (by decide) (by omega) rfl dX9_whyNot_220 ?_
    refine z_callV (C := RX9) (q0 := 0) (ci := 7) (As := [.int (zI (NB 0))]) (rest := []) ([] : va_W) ([] : va_W) hx hb hml hown hts hl hE hS hA (zr0 ([] : va_W) hP) (zr0D ([] : va_W) hD) (c_X9_notPass l D ct ad b M SP SV TX NB sc tl cd pl cm h (NB 0) (by assumption) (by assumption) (by omega)) gX9_whyNot_X9_notPass rfl rfl k_X9_notPass ⟨Nat.le_of_ble_eq_true rfl, Nat.le_of_ble_eq_true rfl⟩ rfl rfl rfl rfl (Nat.le_of_ble_eq_true rfl) ⟨Nat.le_of_ble_eq_true rfl, Nat.le_of_ble_eq_true rfl⟩ dX9_whyNot_221 rfl (fun v w1 H locs hpost hP hD hS => ?_)
    obtain ⟨rfl, rfl⟩ := hpost
    have hP := zr0' hP
    have hD := zr0D' hD
    have hP : va_P D vwCl (moW b sc tl cd pl cm h ++ (jrW ct (b 1) 94 M ++ (jrW ct (b 2) 94 SP ++ (jrW ct (b 3) 376 SV ++ (irW ct (b 4) 150 TX ++ (irW ct (b 5) 2 NB)))))) H := hP
    have hD : va_D A (moW b sc tl cd pl cm h ++ (jrW ct (b 1) 94 M ++ (jrW ct (b 2) 94 SP ++ (jrW ct (b 3) 376 SV ++ (irW ct (b 4) 150 TX ++ (irW ct (b 5) 2 NB)))))) := hD
    refine W.eq (g2 := F0 m 224 ls [.int (zI (ck1 (ck_hours M (NB 0))))]) rfl ?_
    exact z_iret hx hb hr hlocks hP hD hS ⟨Nat.le_of_ble_eq_true rfl, Nat.le_of_ble_eq_true rfl⟩ dX9_whyNot_224 (⟨(ck1 (ck_hours M (NB 0))), ⟨by rw [hc_4]; first | exact Iff.rfl | exact why_m | exact why_t | exact why_s | exact why_h | (exfalso; omega), by first | omega | (unfold ck1 ck_metal; (repeat' split) <;> omega) | (unfold ck_rod; (repeat' split) <;> omega) | (unfold ck_length; (repeat' split) <;> omega) | (unfold ck_warm; (repeat' split) <;> omega) | (unfold ck_shelf; (repeat' split) <;> omega) | (unfold ck1 ck_turn; (repeat' split) <;> omega) | (unfold ck1 ck_set; (repeat' split) <;> omega) | (unfold ck1 ck_hours; (repeat' split) <;> omega)⟩, rfl, rfl⟩)
set_option maxHeartbeats 4000000 in
set_option maxRecDepth 100000 in
theorem c_X9_carryOut (l : Launch) (D : va_G) (ct ad : Nat → Nat) (b : Nat → Nat) (M SP SV TX NB : Int → Int) (sc tl cd pl cm h : Int) (hI : gInv M) (hB : bInv M) (h1 : 0 ≤ cm ∧ cm ≤ 11) (hx : 1 ≤ many cm → 0 ≤ NB 0 ∧ NB 0 ≤ 9999999) (hy : 2 ≤ many cm → 0 ≤ NB 1 ∧ NB 1 ≤ 9999999) (hok : ckc M cm (NB 0) (NB 1) = 0) : ZM l yX9_carryOut wsX9_carryOut ({ frames := 8, cells := 0, slots := 0, locals := 176 } : Room) D ct ad [.ref (b 0)] (moW b sc tl cd pl cm h ++ (jrW ct (b 1) 94 M ++ (jrW ct (b 2) 94 SP ++ (jrW ct (b 3) 376 SV ++ (irW ct (b 4) 150 TX ++ (irW ct (b 5) 2 NB)))))) (fun v w => ∃ (v_ : Int), ((True)) ∧ v = (some (.int (zI v_))) ∧ w = moW b sc tl cd pl cm h ++ (jrW ct (b 1) 94 (stc M cm (NB 0) (NB 1)) ++ (jrW ct (b 2) 94 SP ++ (jrW ct (b 3) 376 SV ++ (irW ct (b 4) 150 TX ++ (irW ct (b 5) 2 NB)))))) := by
  refine ZM.of (cc := cX9_carryOut) (maxL := 1) (ret := (some .int)) (by decide +kernel) rfl (Nat.le_of_ble_eq_true rfl) ?_
  intro p e s m below meth c A ls hx hb hr hts hown hlocks hml hname hE hP hD hA hS hl
  have hK := hE.1
  have hf_0 := hts (.fieldLink RX9 269 "RodGridsModel" "command" "I") (by decide +kernel)
  have hf_1 := hts (.fieldLink RX9 23 "RodGridsModel" "numbers" "[I") (by decide +kernel)
  have hin_X9 : ∀ z ∈ u_ws RX9 TX9 11, z ∈ wsX9_carryOut := by decide +kernel
  have hl : lv_has ls 1 [(0, .ref (b 0))] := hl
  have i3 := hI.1
  have i4 := hI.2.1
  have j0 := hB.1
  have j1 := hB.2.1
  have j2 := hB.2.2.1
  have j4 := hB.2.2.2.2
  refine lv_aload_n hx hb dX9_carryOut_0 rfl (lv_at hl 0 rfl) ?_
  refine va_get (D := D) (ci := 7) (v := .int (zI cm)) (C := RX9) (T := TX9) (N := 11) hx hb hts hin_X9 hown hK hP 0 rfl rfl 8 (by decide) hf_0 (fun _ h9 => h9) rfl dX9_carryOut_1 ?_
  rcases (show cm = 0 ∨ cm = 1 ∨ cm = 2 ∨ cm = 3 ∨ cm = 4 ∨ cm = 5 ∨ cm = 6 ∨ cm = 7 ∨ cm = 8 ∨ cm = 9 ∨ cm = 10 ∨ (cm < 0 ∨ 10 < cm) from (by omega)) with hc_4 | hc_4 | hc_4 | hc_4 | hc_4 | hc_4 | hc_4 | hc_4 | hc_4 | hc_4 | hc_4 | hc_4
  · refine z_tabIn (off := 60) (tgt := 64) hx hb dX9_carryOut_4 0 hc_4 (by decide) (by decide) rfl (by decide) ?_
    have mm : many cm = 1 := by rw [hc_4]; rfl
    have x1 := hx
    have y1 := hy
    have fk : M 3 < 6 := by have q := hok; rw [hc_4, show ckc M _ (NB 0) (NB 1) = ck_metal M (NB 0) from rfl] at q; unfold ck_metal at q; (repeat' split at q) <;> omega
    refine lv_aload_n hx hb dX9_carryOut_64 rfl (lv_at hl 0 rfl) ?_
    refine lv_aload_n hx hb dX9_carryOut_65 rfl (lv_at hl 0 rfl) ?_
    refine va_get (D := D) (ci := 7) (v := .ref (b 5)) (C := RX9) (T := TX9) (N := 11) hx hb hts hin_X9 hown hK hP 0 rfl rfl 9 (by decide) hf_1 (fun _ h9 => h9) rfl dX9_carryOut_66 ?_
    refine z_iconst hx hb dX9_carryOut_69 ?_
    refine z_iald (g := NB) (v := NB 0) hx hb hK hP 5 rfl (by decide) (by omega) rfl dX9_carryOut_70 ?_
    refine z_callV (C := RX9) (q0 := 0) (ci := 7) (As := [.int (zI (NB 0))]) (rest := []) ([] : va_W) ([] : va_W) hx hb hml hown hts hl hE hS hA (zr0 ([] : va_W) hP) (zr0D ([] : va_W) hD) (c_X9_addsMetal l D ct ad b M SP SV TX NB sc tl cd pl cm h (NB 0) (by assumption) (by omega) (by omega)) gX9_carryOut_X9_addsMetal rfl rfl k_X9_addsMetal ⟨Nat.le_of_ble_eq_true rfl, Nat.le_of_ble_eq_true rfl⟩ rfl rfl rfl rfl (Nat.le_of_ble_eq_true rfl) ⟨Nat.le_of_ble_eq_true rfl, Nat.le_of_ble_eq_true rfl⟩ dX9_carryOut_71 rfl (fun v w1 H locs hpost hP hD hS => ?_)
    obtain ⟨rfl, rfl⟩ := hpost
    have hP := zr0' hP
    have hD := zr0D' hD
    have hP : va_P D vwCl (moW b sc tl cd pl cm h ++ (jrW ct (b 1) 94 (st_metal M (NB 0)) ++ (jrW ct (b 2) 94 SP ++ (jrW ct (b 3) 376 SV ++ (irW ct (b 4) 150 TX ++ (irW ct (b 5) 2 NB)))))) H := hP
    have hD : va_D A (moW b sc tl cd pl cm h ++ (jrW ct (b 1) 94 (st_metal M (NB 0)) ++ (jrW ct (b 2) 94 SP ++ (jrW ct (b 3) 376 SV ++ (irW ct (b 4) 150 TX ++ (irW ct (b 5) 2 NB)))))) := hD
    refine W.eq (g2 := F0 m 74 ls [.int (zI (M 3))]) rfl ?_
    exact z_iret hx hb hr hlocks hP hD hS ⟨Nat.le_of_ble_eq_true rfl, Nat.le_of_ble_eq_true rfl⟩ dX9_carryOut_74 (⟨(M 3), trivial, rfl, by rw [hc_4]; first | rfl | (exfalso; omega)⟩)
  · refine z_tabIn (off := 71) (tgt := 75) hx hb dX9_carryOut_4 1 hc_4 (by decide) (by decide) rfl (by decide) ?_
    have mm : many cm = 2 := by rw [hc_4]; rfl
    have x1 := hx
    have y1 := hy
    have fk : M 4 < 9 := by have q := hok; first | (rw [hc_4, show ckc M _ (NB 0) (NB 1) = ck_rod M (NB 0) 1 (NB 1) from rfl] at q; unfold ck_rod at q; (repeat' split at q) <;> omega) | (rw [hc_4, show ckc M _ (NB 0) (NB 1) = ck_rod M (NB 0) (-1) (NB 1) from rfl] at q; unfold ck_rod at q; (repeat' split at q) <;> omega)
    refine lv_aload_n hx hb dX9_carryOut_75 rfl (lv_at hl 0 rfl) ?_
    refine lv_aload_n hx hb dX9_carryOut_76 rfl (lv_at hl 0 rfl) ?_
    refine va_get (D := D) (ci := 7) (v := .ref (b 5)) (C := RX9) (T := TX9) (N := 11) hx hb hts hin_X9 hown hK hP 0 rfl rfl 9 (by decide) hf_1 (fun _ h9 => h9) rfl dX9_carryOut_77 ?_
    refine z_iconst hx hb dX9_carryOut_80 ?_
    refine z_iald (g := NB) (v := NB 0) hx hb hK hP 5 rfl (by decide) (by omega) rfl dX9_carryOut_81 ?_
    refine lv_aload_n hx hb dX9_carryOut_82 rfl (lv_at hl 0 rfl) ?_
    refine va_get (D := D) (ci := 7) (v := .int (zI cm)) (C := RX9) (T := TX9) (N := 11) hx hb hts hin_X9 hown hK hP 0 rfl rfl 8 (by decide) hf_0 (fun _ h9 => h9) rfl dX9_carryOut_83 ?_
    refine z_iconst hx hb dX9_carryOut_86 ?_
    refine z_icmp_ne (tgt := 94) hx hb dX9_carryOut_87 (by decide) (by omega) (by omega) (fun hc_87 => ?_) (fun hc_87 => ?_)
    · have hc_87 := hc_87
      refine z_iconst hx hb dX9_carryOut_94 ?_
      refine lv_aload_n hx hb dX9_carryOut_95 rfl (lv_at hl 0 rfl) ?_
      refine va_get (D := D) (ci := 7) (v := .ref (b 5)) (C := RX9) (T := TX9) (N := 11) hx hb hts hin_X9 hown hK hP 0 rfl rfl 9 (by decide) hf_1 (fun _ h9 => h9) rfl dX9_carryOut_96 ?_
      refine z_iconst hx hb dX9_carryOut_99 ?_
      refine z_iald (g := NB) (v := NB 1) hx hb hK hP 5 rfl (by decide) (by omega) rfl dX9_carryOut_100 ?_
      refine z_callV (C := RX9) (q0 := 0) (ci := 7) (As := [.int (zI (NB 0)), .int (zI (-1)), .int (zI (NB 1))]) (rest := []) ([] : va_W) ([] : va_W) hx hb hml hown hts hl hE hS hA (zr0 ([] : va_W) hP) (zr0D ([] : va_W) hD) (c_X9_addsRod l D ct ad b M SP SV TX NB sc tl cd pl cm h (NB 0) (-1) (NB 1) (by assumption) (by omega) (by omega) (by omega) (by omega)) gX9_carryOut_X9_addsRod rfl rfl k_X9_addsRod ⟨Nat.le_of_ble_eq_true rfl, Nat.le_of_ble_eq_true rfl⟩ rfl rfl rfl rfl (Nat.le_of_ble_eq_true rfl) ⟨Nat.le_of_ble_eq_true rfl, Nat.le_of_ble_eq_true rfl⟩ dX9_carryOut_101 rfl (fun v w1 H locs hpost hP hD hS => ?_)
      obtain ⟨rfl, rfl⟩ := hpost
      have hP := zr0' hP
      have hD := zr0D' hD
      have hP : va_P D vwCl (moW b sc tl cd pl cm h ++ (jrW ct (b 1) 94 (st_rod M (NB 0) (-1) (NB 1)) ++ (jrW ct (b 2) 94 SP ++ (jrW ct (b 3) 376 SV ++ (irW ct (b 4) 150 TX ++ (irW ct (b 5) 2 NB)))))) H := hP
      have hD : va_D A (moW b sc tl cd pl cm h ++ (jrW ct (b 1) 94 (st_rod M (NB 0) (-1) (NB 1)) ++ (jrW ct (b 2) 94 SP ++ (jrW ct (b 3) 376 SV ++ (irW ct (b 4) 150 TX ++ (irW ct (b 5) 2 NB)))))) := hD
      refine W.eq (g2 := F0 m 104 ls [.int (zI (M 4))]) rfl ?_
      exact z_iret hx hb hr hlocks hP hD hS ⟨Nat.le_of_ble_eq_true rfl, Nat.le_of_ble_eq_true rfl⟩ dX9_carryOut_104 (⟨(M 4), trivial, rfl, by rw [hc_4]; first | rfl | (exfalso; omega)⟩)
    · have hc_87 := hc_87
      refine z_iconst hx hb dX9_carryOut_90 ?_
      refine lv_goto (tgt := 95) hx hb dX9_carryOut_91 (by decide) ?_
      refine lv_aload_n hx hb dX9_carryOut_95 rfl (lv_at hl 0 rfl) ?_
      refine va_get (D := D) (ci := 7) (v := .ref (b 5)) (C := RX9) (T := TX9) (N := 11) hx hb hts hin_X9 hown hK hP 0 rfl rfl 9 (by decide) hf_1 (fun _ h9 => h9) rfl dX9_carryOut_96 ?_
      refine z_iconst hx hb dX9_carryOut_99 ?_
      refine z_iald (g := NB) (v := NB 1) hx hb hK hP 5 rfl (by decide) (by omega) rfl dX9_carryOut_100 ?_
      refine z_callV (C := RX9) (q0 := 0) (ci := 7) (As := [.int (zI (NB 0)), .int (zI 1), .int (zI (NB 1))]) (rest := []) ([] : va_W) ([] : va_W) hx hb hml hown hts hl hE hS hA (zr0 ([] : va_W) hP) (zr0D ([] : va_W) hD) (c_X9_addsRod l D ct ad b M SP SV TX NB sc tl cd pl cm h (NB 0) 1 (NB 1) (by assumption) (by omega) (by omega) (by omega) (by omega)) gX9_carryOut_X9_addsRod rfl rfl k_X9_addsRod ⟨Nat.le_of_ble_eq_true rfl, Nat.le_of_ble_eq_true rfl⟩ rfl rfl rfl rfl (Nat.le_of_ble_eq_true rfl) ⟨Nat.le_of_ble_eq_true rfl, Nat.le_of_ble_eq_true rfl⟩ dX9_carryOut_101 rfl (fun v w1 H locs hpost hP hD hS => ?_)
      obtain ⟨rfl, rfl⟩ := hpost
      have hP := zr0' hP
      have hD := zr0D' hD
      have hP : va_P D vwCl (moW b sc tl cd pl cm h ++ (jrW ct (b 1) 94 (st_rod M (NB 0) 1 (NB 1)) ++ (jrW ct (b 2) 94 SP ++ (jrW ct (b 3) 376 SV ++ (irW ct (b 4) 150 TX ++ (irW ct (b 5) 2 NB)))))) H := hP
      have hD : va_D A (moW b sc tl cd pl cm h ++ (jrW ct (b 1) 94 (st_rod M (NB 0) 1 (NB 1)) ++ (jrW ct (b 2) 94 SP ++ (jrW ct (b 3) 376 SV ++ (irW ct (b 4) 150 TX ++ (irW ct (b 5) 2 NB)))))) := hD
      refine W.eq (g2 := F0 m 104 ls [.int (zI (M 4))]) rfl ?_
      exact z_iret hx hb hr hlocks hP hD hS ⟨Nat.le_of_ble_eq_true rfl, Nat.le_of_ble_eq_true rfl⟩ dX9_carryOut_104 (⟨(M 4), trivial, rfl, by rw [hc_4]; first | rfl | (exfalso; omega)⟩)
  · refine z_tabIn (off := 71) (tgt := 75) hx hb dX9_carryOut_4 2 hc_4 (by decide) (by decide) rfl (by decide) ?_
    have mm : many cm = 2 := by rw [hc_4]; rfl
    have x1 := hx
    have y1 := hy
    have fk : M 4 < 9 := by have q := hok; first | (rw [hc_4, show ckc M _ (NB 0) (NB 1) = ck_rod M (NB 0) 1 (NB 1) from rfl] at q; unfold ck_rod at q; (repeat' split at q) <;> omega) | (rw [hc_4, show ckc M _ (NB 0) (NB 1) = ck_rod M (NB 0) (-1) (NB 1) from rfl] at q; unfold ck_rod at q; (repeat' split at q) <;> omega)
    refine lv_aload_n hx hb dX9_carryOut_75 rfl (lv_at hl 0 rfl) ?_
    refine lv_aload_n hx hb dX9_carryOut_76 rfl (lv_at hl 0 rfl) ?_
    refine va_get (D := D) (ci := 7) (v := .ref (b 5)) (C := RX9) (T := TX9) (N := 11) hx hb hts hin_X9 hown hK hP 0 rfl rfl 9 (by decide) hf_1 (fun _ h9 => h9) rfl dX9_carryOut_77 ?_
    refine z_iconst hx hb dX9_carryOut_80 ?_
    refine z_iald (g := NB) (v := NB 0) hx hb hK hP 5 rfl (by decide) (by omega) rfl dX9_carryOut_81 ?_
    refine lv_aload_n hx hb dX9_carryOut_82 rfl (lv_at hl 0 rfl) ?_
    refine va_get (D := D) (ci := 7) (v := .int (zI cm)) (C := RX9) (T := TX9) (N := 11) hx hb hts hin_X9 hown hK hP 0 rfl rfl 8 (by decide) hf_0 (fun _ h9 => h9) rfl dX9_carryOut_83 ?_
    refine z_iconst hx hb dX9_carryOut_86 ?_
    refine z_icmp_ne (tgt := 94) hx hb dX9_carryOut_87 (by decide) (by omega) (by omega) (fun hc_87 => ?_) (fun hc_87 => ?_)
    · have hc_87 := hc_87
      refine z_iconst hx hb dX9_carryOut_94 ?_
      refine lv_aload_n hx hb dX9_carryOut_95 rfl (lv_at hl 0 rfl) ?_
      refine va_get (D := D) (ci := 7) (v := .ref (b 5)) (C := RX9) (T := TX9) (N := 11) hx hb hts hin_X9 hown hK hP 0 rfl rfl 9 (by decide) hf_1 (fun _ h9 => h9) rfl dX9_carryOut_96 ?_
      refine z_iconst hx hb dX9_carryOut_99 ?_
      refine z_iald (g := NB) (v := NB 1) hx hb hK hP 5 rfl (by decide) (by omega) rfl dX9_carryOut_100 ?_
      refine z_callV (C := RX9) (q0 := 0) (ci := 7) (As := [.int (zI (NB 0)), .int (zI (-1)), .int (zI (NB 1))]) (rest := []) ([] : va_W) ([] : va_W) hx hb hml hown hts hl hE hS hA (zr0 ([] : va_W) hP) (zr0D ([] : va_W) hD) (c_X9_addsRod l D ct ad b M SP SV TX NB sc tl cd pl cm h (NB 0) (-1) (NB 1) (by assumption) (by omega) (by omega) (by omega) (by omega)) gX9_carryOut_X9_addsRod rfl rfl k_X9_addsRod ⟨Nat.le_of_ble_eq_true rfl, Nat.le_of_ble_eq_true rfl⟩ rfl rfl rfl rfl (Nat.le_of_ble_eq_true rfl) ⟨Nat.le_of_ble_eq_true rfl, Nat.le_of_ble_eq_true rfl⟩ dX9_carryOut_101 rfl (fun v w1 H locs hpost hP hD hS => ?_)
      obtain ⟨rfl, rfl⟩ := hpost
      have hP := zr0' hP
      have hD := zr0D' hD
      have hP : va_P D vwCl (moW b sc tl cd pl cm h ++ (jrW ct (b 1) 94 (st_rod M (NB 0) (-1) (NB 1)) ++ (jrW ct (b 2) 94 SP ++ (jrW ct (b 3) 376 SV ++ (irW ct (b 4) 150 TX ++ (irW ct (b 5) 2 NB)))))) H := hP
      have hD : va_D A (moW b sc tl cd pl cm h ++ (jrW ct (b 1) 94 (st_rod M (NB 0) (-1) (NB 1)) ++ (jrW ct (b 2) 94 SP ++ (jrW ct (b 3) 376 SV ++ (irW ct (b 4) 150 TX ++ (irW ct (b 5) 2 NB)))))) := hD
      refine W.eq (g2 := F0 m 104 ls [.int (zI (M 4))]) rfl ?_
      exact z_iret hx hb hr hlocks hP hD hS ⟨Nat.le_of_ble_eq_true rfl, Nat.le_of_ble_eq_true rfl⟩ dX9_carryOut_104 (⟨(M 4), trivial, rfl, by rw [hc_4]; first | rfl | (exfalso; omega)⟩)
    · have hc_87 := hc_87
      refine z_iconst hx hb dX9_carryOut_90 ?_
      refine lv_goto (tgt := 95) hx hb dX9_carryOut_91 (by decide) ?_
      refine lv_aload_n hx hb dX9_carryOut_95 rfl (lv_at hl 0 rfl) ?_
      refine va_get (D := D) (ci := 7) (v := .ref (b 5)) (C := RX9) (T := TX9) (N := 11) hx hb hts hin_X9 hown hK hP 0 rfl rfl 9 (by decide) hf_1 (fun _ h9 => h9) rfl dX9_carryOut_96 ?_
      refine z_iconst hx hb dX9_carryOut_99 ?_
      refine z_iald (g := NB) (v := NB 1) hx hb hK hP 5 rfl (by decide) (by omega) rfl dX9_carryOut_100 ?_
      refine z_callV (C := RX9) (q0 := 0) (ci := 7) (As := [.int (zI (NB 0)), .int (zI 1), .int (zI (NB 1))]) (rest := []) ([] : va_W) ([] : va_W) hx hb hml hown hts hl hE hS hA (zr0 ([] : va_W) hP) (zr0D ([] : va_W) hD) (c_X9_addsRod l D ct ad b M SP SV TX NB sc tl cd pl cm h (NB 0) 1 (NB 1) (by assumption) (by omega) (by omega) (by omega) (by omega)) gX9_carryOut_X9_addsRod rfl rfl k_X9_addsRod ⟨Nat.le_of_ble_eq_true rfl, Nat.le_of_ble_eq_true rfl⟩ rfl rfl rfl rfl (Nat.le_of_ble_eq_true rfl) ⟨Nat.le_of_ble_eq_true rfl, Nat.le_of_ble_eq_true rfl⟩ dX9_carryOut_101 rfl (fun v w1 H locs hpost hP hD hS => ?_)
      obtain ⟨rfl, rfl⟩ := hpost
      have hP := zr0' hP
      have hD := zr0D' hD
      have hP : va_P D vwCl (moW b sc tl cd pl cm h ++ (jrW ct (b 1) 94 (st_rod M (NB 0) 1 (NB 1)) ++ (jrW ct (b 2) 94 SP ++ (jrW ct (b 3) 376 SV ++ (irW ct (b 4) 150 TX ++ (irW ct (b 5) 2 NB)))))) H := hP
      have hD : va_D A (moW b sc tl cd pl cm h ++ (jrW ct (b 1) 94 (st_rod M (NB 0) 1 (NB 1)) ++ (jrW ct (b 2) 94 SP ++ (jrW ct (b 3) 376 SV ++ (irW ct (b 4) 150 TX ++ (irW ct (b 5) 2 NB)))))) := hD
      refine W.eq (g2 := F0 m 104 ls [.int (zI (M 4))]) rfl ?_
      exact z_iret hx hb hr hlocks hP hD hS ⟨Nat.le_of_ble_eq_true rfl, Nat.le_of_ble_eq_true rfl⟩ dX9_carryOut_104 (⟨(M 4), trivial, rfl, by rw [hc_4]; first | rfl | (exfalso; omega)⟩)
  · refine z_tabIn (off := 101) (tgt := 105) hx hb dX9_carryOut_4 3 hc_4 (by decide) (by decide) rfl (by decide) ?_
    have mm : many cm = 2 := by rw [hc_4]; rfl
    have x1 := hx
    have y1 := hy
    have fk : 0 ≤ NB 0 ∧ NB 0 < M 4 := by have q := hok; rw [hc_4, show ckc M _ (NB 0) (NB 1) = ck_length M (NB 0) (NB 1) from rfl] at q; unfold ck_length at q; (repeat' split at q) <;> omega
    refine lv_aload_n hx hb dX9_carryOut_105 rfl (lv_at hl 0 rfl) ?_
    refine z_bipush hx hb dX9_carryOut_106 (by decide) ?_
    refine z_iconst hx hb dX9_carryOut_108 ?_
    refine lv_aload_n hx hb dX9_carryOut_109 rfl (lv_at hl 0 rfl) ?_
    refine va_get (D := D) (ci := 7) (v := .ref (b 5)) (C := RX9) (T := TX9) (N := 11) hx hb hts hin_X9 hown hK hP 0 rfl rfl 9 (by decide) hf_1 (fun _ h9 => h9) rfl dX9_carryOut_110 ?_
    refine z_iconst hx hb dX9_carryOut_113 ?_
    refine z_iald (g := NB) (v := NB 0) hx hb hK hP 5 rfl (by decide) (by omega) rfl dX9_carryOut_114 ?_
    refine z_imul hx hb dX9_carryOut_115 ?_
    refine z_iadd hx hb dX9_carryOut_116 ?_
    refine z_iconst hx hb dX9_carryOut_117 ?_
    refine z_iadd hx hb dX9_carryOut_118 ?_
    refine z_canI (show (22 + (3 * (NB 0))) + 2 = 24 + 3 * (NB 0) from (by omega)) ?_
    refine lv_aload_n hx hb dX9_carryOut_119 rfl (lv_at hl 0 rfl) ?_
    refine va_get (D := D) (ci := 7) (v := .ref (b 5)) (C := RX9) (T := TX9) (N := 11) hx hb hts hin_X9 hown hK hP 0 rfl rfl 9 (by decide) hf_1 (fun _ h9 => h9) rfl dX9_carryOut_120 ?_
    refine z_iconst hx hb dX9_carryOut_123 ?_
    refine z_iald (g := NB) (v := NB 1) hx hb hK hP 5 rfl (by decide) (by omega) rfl dX9_carryOut_124 ?_
    refine z_callV (C := RX9) (q0 := 0) (ci := 7) (As := [.int (zI (24 + 3 * (NB 0))), .int (zI (NB 1))]) (rest := []) ([] : va_W) ([] : va_W) hx hb hml hown hts hl hE hS hA (zr0 ([] : va_W) hP) (zr0D ([] : va_W) hD) (c_X9_change l D ct ad b M SP SV TX NB sc tl cd pl cm h (24 + 3 * (NB 0)) (NB 1) (by omega) (by omega)) gX9_carryOut_X9_change rfl rfl k_X9_change ⟨Nat.le_of_ble_eq_true rfl, Nat.le_of_ble_eq_true rfl⟩ rfl rfl rfl rfl (Nat.le_of_ble_eq_true rfl) ⟨Nat.le_of_ble_eq_true rfl, Nat.le_of_ble_eq_true rfl⟩ dX9_carryOut_125 rfl (fun v w1 H locs hpost hP hD hS => ?_)
    obtain ⟨rfl, rfl⟩ := hpost
    have hP := zr0' hP
    have hD := zr0D' hD
    have hP : va_P D vwCl (moW b sc tl cd pl cm h ++ (jrW ct (b 1) 94 (up M (24 + 3 * (NB 0)) (NB 1)) ++ (jrW ct (b 2) 94 SP ++ (jrW ct (b 3) 376 SV ++ (irW ct (b 4) 150 TX ++ (irW ct (b 5) 2 NB)))))) H := hP
    have hD : va_D A (moW b sc tl cd pl cm h ++ (jrW ct (b 1) 94 (up M (24 + 3 * (NB 0)) (NB 1)) ++ (jrW ct (b 2) 94 SP ++ (jrW ct (b 3) 376 SV ++ (irW ct (b 4) 150 TX ++ (irW ct (b 5) 2 NB)))))) := hD
    refine W.eq (g2 := F0 m 128 ls [.int (zI (M (24 + 3 * (NB 0))))]) rfl ?_
    exact z_iret hx hb hr hlocks hP hD hS ⟨Nat.le_of_ble_eq_true rfl, Nat.le_of_ble_eq_true rfl⟩ dX9_carryOut_128 (⟨(M (24 + 3 * (NB 0))), trivial, rfl, by rw [hc_4]; first | rfl | (exfalso; omega)⟩)
  · refine z_tabIn (off := 125) (tgt := 129) hx hb dX9_carryOut_4 4 hc_4 (by decide) (by decide) rfl (by decide) ?_
    have mm : many cm = 2 := by rw [hc_4]; rfl
    have x1 := hx
    have y1 := hy
    have fk : 0 ≤ NB 0 ∧ NB 0 ≤ 4 := by have q := hok; first | (rw [hc_4, show ckc M _ (NB 0) (NB 1) = ck_warm (NB 0) (NB 1) from rfl] at q; unfold ck_warm at q; (repeat' split at q) <;> omega) | (rw [hc_4, show ckc M _ (NB 0) (NB 1) = ck_warm (NB 0) (-(NB 1)) from rfl] at q; unfold ck_warm at q; (repeat' split at q) <;> omega)
    refine lv_aload_n hx hb dX9_carryOut_129 rfl (lv_at hl 0 rfl) ?_
    refine z_bipush hx hb dX9_carryOut_130 (by decide) ?_
    refine lv_aload_n hx hb dX9_carryOut_132 rfl (lv_at hl 0 rfl) ?_
    refine va_get (D := D) (ci := 7) (v := .ref (b 5)) (C := RX9) (T := TX9) (N := 11) hx hb hts hin_X9 hown hK hP 0 rfl rfl 9 (by decide) hf_1 (fun _ h9 => h9) rfl dX9_carryOut_133 ?_
    refine z_iconst hx hb dX9_carryOut_136 ?_
    refine z_iald (g := NB) (v := NB 0) hx hb hK hP 5 rfl (by decide) (by omega) rfl dX9_carryOut_137 ?_
    refine z_iadd hx hb dX9_carryOut_138 ?_
    refine lv_aload_n hx hb dX9_carryOut_139 rfl (lv_at hl 0 rfl) ?_
    refine va_get (D := D) (ci := 7) (v := .int (zI cm)) (C := RX9) (T := TX9) (N := 11) hx hb hts hin_X9 hown hK hP 0 rfl rfl 8 (by decide) hf_0 (fun _ h9 => h9) rfl dX9_carryOut_140 ?_
    refine z_iconst hx hb dX9_carryOut_143 ?_
    refine z_icmp_ne (tgt := 156) hx hb dX9_carryOut_144 (by decide) (by omega) (by omega) (fun hc_144 => ?_) (fun hc_144 => ?_)
    · have hc_144 := hc_144
      refine lv_aload_n hx hb dX9_carryOut_156 rfl (lv_at hl 0 rfl) ?_
      refine va_get (D := D) (ci := 7) (v := .ref (b 5)) (C := RX9) (T := TX9) (N := 11) hx hb hts hin_X9 hown hK hP 0 rfl rfl 9 (by decide) hf_1 (fun _ h9 => h9) rfl dX9_carryOut_157 ?_
      refine z_iconst hx hb dX9_carryOut_160 ?_
      refine z_iald (g := NB) (v := NB 1) hx hb hK hP 5 rfl (by decide) (by omega) rfl dX9_carryOut_161 ?_
      refine z_ineg hx hb dX9_carryOut_162 ?_
      refine z_callV (C := RX9) (q0 := 0) (ci := 7) (As := [.int (zI (49 + (NB 0))), .int (zI (-(NB 1)))]) (rest := []) ([] : va_W) ([] : va_W) hx hb hml hown hts hl hE hS hA (zr0 ([] : va_W) hP) (zr0D ([] : va_W) hD) (c_X9_change l D ct ad b M SP SV TX NB sc tl cd pl cm h (49 + (NB 0)) (-(NB 1)) (by omega) (by omega)) gX9_carryOut_X9_change rfl rfl k_X9_change ⟨Nat.le_of_ble_eq_true rfl, Nat.le_of_ble_eq_true rfl⟩ rfl rfl rfl rfl (Nat.le_of_ble_eq_true rfl) ⟨Nat.le_of_ble_eq_true rfl, Nat.le_of_ble_eq_true rfl⟩ dX9_carryOut_163 rfl (fun v w1 H locs hpost hP hD hS => ?_)
      obtain ⟨rfl, rfl⟩ := hpost
      have hP := zr0' hP
      have hD := zr0D' hD
      have hP : va_P D vwCl (moW b sc tl cd pl cm h ++ (jrW ct (b 1) 94 (up M (49 + (NB 0)) (-(NB 1))) ++ (jrW ct (b 2) 94 SP ++ (jrW ct (b 3) 376 SV ++ (irW ct (b 4) 150 TX ++ (irW ct (b 5) 2 NB)))))) H := hP
      have hD : va_D A (moW b sc tl cd pl cm h ++ (jrW ct (b 1) 94 (up M (49 + (NB 0)) (-(NB 1))) ++ (jrW ct (b 2) 94 SP ++ (jrW ct (b 3) 376 SV ++ (irW ct (b 4) 150 TX ++ (irW ct (b 5) 2 NB)))))) := hD
      refine W.eq (g2 := F0 m 166 ls [.int (zI (M (49 + (NB 0))))]) rfl ?_
      exact z_iret hx hb hr hlocks hP hD hS ⟨Nat.le_of_ble_eq_true rfl, Nat.le_of_ble_eq_true rfl⟩ dX9_carryOut_166 (⟨(M (49 + (NB 0))), trivial, rfl, by rw [hc_4]; first | rfl | (exfalso; omega)⟩)
    · have hc_144 := hc_144
      refine lv_aload_n hx hb dX9_carryOut_147 rfl (lv_at hl 0 rfl) ?_
      refine va_get (D := D) (ci := 7) (v := .ref (b 5)) (C := RX9) (T := TX9) (N := 11) hx hb hts hin_X9 hown hK hP 0 rfl rfl 9 (by decide) hf_1 (fun _ h9 => h9) rfl dX9_carryOut_148 ?_
      refine z_iconst hx hb dX9_carryOut_151 ?_
      refine z_iald (g := NB) (v := NB 1) hx hb hK hP 5 rfl (by decide) (by omega) rfl dX9_carryOut_152 ?_
      refine lv_goto (tgt := 163) hx hb dX9_carryOut_153 (by decide) ?_
      refine z_callV (C := RX9) (q0 := 0) (ci := 7) (As := [.int (zI (49 + (NB 0))), .int (zI (NB 1))]) (rest := []) ([] : va_W) ([] : va_W) hx hb hml hown hts hl hE hS hA (zr0 ([] : va_W) hP) (zr0D ([] : va_W) hD) (c_X9_change l D ct ad b M SP SV TX NB sc tl cd pl cm h (49 + (NB 0)) (NB 1) (by omega) (by omega)) gX9_carryOut_X9_change rfl rfl k_X9_change ⟨Nat.le_of_ble_eq_true rfl, Nat.le_of_ble_eq_true rfl⟩ rfl rfl rfl rfl (Nat.le_of_ble_eq_true rfl) ⟨Nat.le_of_ble_eq_true rfl, Nat.le_of_ble_eq_true rfl⟩ dX9_carryOut_163 rfl (fun v w1 H locs hpost hP hD hS => ?_)
      obtain ⟨rfl, rfl⟩ := hpost
      have hP := zr0' hP
      have hD := zr0D' hD
      have hP : va_P D vwCl (moW b sc tl cd pl cm h ++ (jrW ct (b 1) 94 (up M (49 + (NB 0)) (NB 1)) ++ (jrW ct (b 2) 94 SP ++ (jrW ct (b 3) 376 SV ++ (irW ct (b 4) 150 TX ++ (irW ct (b 5) 2 NB)))))) H := hP
      have hD : va_D A (moW b sc tl cd pl cm h ++ (jrW ct (b 1) 94 (up M (49 + (NB 0)) (NB 1)) ++ (jrW ct (b 2) 94 SP ++ (jrW ct (b 3) 376 SV ++ (irW ct (b 4) 150 TX ++ (irW ct (b 5) 2 NB)))))) := hD
      refine W.eq (g2 := F0 m 166 ls [.int (zI (M (49 + (NB 0))))]) rfl ?_
      exact z_iret hx hb hr hlocks hP hD hS ⟨Nat.le_of_ble_eq_true rfl, Nat.le_of_ble_eq_true rfl⟩ dX9_carryOut_166 (⟨(M (49 + (NB 0))), trivial, rfl, by rw [hc_4]; first | rfl | (exfalso; omega)⟩)
  · refine z_tabIn (off := 125) (tgt := 129) hx hb dX9_carryOut_4 5 hc_4 (by decide) (by decide) rfl (by decide) ?_
    have mm : many cm = 2 := by rw [hc_4]; rfl
    have x1 := hx
    have y1 := hy
    have fk : 0 ≤ NB 0 ∧ NB 0 ≤ 4 := by have q := hok; first | (rw [hc_4, show ckc M _ (NB 0) (NB 1) = ck_warm (NB 0) (NB 1) from rfl] at q; unfold ck_warm at q; (repeat' split at q) <;> omega) | (rw [hc_4, show ckc M _ (NB 0) (NB 1) = ck_warm (NB 0) (-(NB 1)) from rfl] at q; unfold ck_warm at q; (repeat' split at q) <;> omega)
    refine lv_aload_n hx hb dX9_carryOut_129 rfl (lv_at hl 0 rfl) ?_
    refine z_bipush hx hb dX9_carryOut_130 (by decide) ?_
    refine lv_aload_n hx hb dX9_carryOut_132 rfl (lv_at hl 0 rfl) ?_
    refine va_get (D := D) (ci := 7) (v := .ref (b 5)) (C := RX9) (T := TX9) (N := 11) hx hb hts hin_X9 hown hK hP 0 rfl rfl 9 (by decide) hf_1 (fun _ h9 => h9) rfl dX9_carryOut_133 ?_
    refine z_iconst hx hb dX9_carryOut_136 ?_
    refine z_iald (g := NB) (v := NB 0) hx hb hK hP 5 rfl (by decide) (by omega) rfl dX9_carryOut_137 ?_
    refine z_iadd hx hb dX9_carryOut_138 ?_
    refine lv_aload_n hx hb dX9_carryOut_139 rfl (lv_at hl 0 rfl) ?_
    refine va_get (D := D) (ci := 7) (v := .int (zI cm)) (C := RX9) (T := TX9) (N := 11) hx hb hts hin_X9 hown hK hP 0 rfl rfl 8 (by decide) hf_0 (fun _ h9 => h9) rfl dX9_carryOut_140 ?_
    refine z_iconst hx hb dX9_carryOut_143 ?_
    refine z_icmp_ne (tgt := 156) hx hb dX9_carryOut_144 (by decide) (by omega) (by omega) (fun hc_144 => ?_) (fun hc_144 => ?_)
    · have hc_144 := hc_144
      refine lv_aload_n hx hb dX9_carryOut_156 rfl (lv_at hl 0 rfl) ?_
      refine va_get (D := D) (ci := 7) (v := .ref (b 5)) (C := RX9) (T := TX9) (N := 11) hx hb hts hin_X9 hown hK hP 0 rfl rfl 9 (by decide) hf_1 (fun _ h9 => h9) rfl dX9_carryOut_157 ?_
      refine z_iconst hx hb dX9_carryOut_160 ?_
      refine z_iald (g := NB) (v := NB 1) hx hb hK hP 5 rfl (by decide) (by omega) rfl dX9_carryOut_161 ?_
      refine z_ineg hx hb dX9_carryOut_162 ?_
      refine z_callV (C := RX9) (q0 := 0) (ci := 7) (As := [.int (zI (49 + (NB 0))), .int (zI (-(NB 1)))]) (rest := []) ([] : va_W) ([] : va_W) hx hb hml hown hts hl hE hS hA (zr0 ([] : va_W) hP) (zr0D ([] : va_W) hD) (c_X9_change l D ct ad b M SP SV TX NB sc tl cd pl cm h (49 + (NB 0)) (-(NB 1)) (by omega) (by omega)) gX9_carryOut_X9_change rfl rfl k_X9_change ⟨Nat.le_of_ble_eq_true rfl, Nat.le_of_ble_eq_true rfl⟩ rfl rfl rfl rfl (Nat.le_of_ble_eq_true rfl) ⟨Nat.le_of_ble_eq_true rfl, Nat.le_of_ble_eq_true rfl⟩ dX9_carryOut_163 rfl (fun v w1 H locs hpost hP hD hS => ?_)
      obtain ⟨rfl, rfl⟩ := hpost
      have hP := zr0' hP
      have hD := zr0D' hD
      have hP : va_P D vwCl (moW b sc tl cd pl cm h ++ (jrW ct (b 1) 94 (up M (49 + (NB 0)) (-(NB 1))) ++ (jrW ct (b 2) 94 SP ++ (jrW ct (b 3) 376 SV ++ (irW ct (b 4) 150 TX ++ (irW ct (b 5) 2 NB)))))) H := hP
      have hD : va_D A (moW b sc tl cd pl cm h ++ (jrW ct (b 1) 94 (up M (49 + (NB 0)) (-(NB 1))) ++ (jrW ct (b 2) 94 SP ++ (jrW ct (b 3) 376 SV ++ (irW ct (b 4) 150 TX ++ (irW ct (b 5) 2 NB)))))) := hD
      refine W.eq (g2 := F0 m 166 ls [.int (zI (M (49 + (NB 0))))]) rfl ?_
      exact z_iret hx hb hr hlocks hP hD hS ⟨Nat.le_of_ble_eq_true rfl, Nat.le_of_ble_eq_true rfl⟩ dX9_carryOut_166 (⟨(M (49 + (NB 0))), trivial, rfl, by rw [hc_4]; first | rfl | (exfalso; omega)⟩)
    · have hc_144 := hc_144
      refine lv_aload_n hx hb dX9_carryOut_147 rfl (lv_at hl 0 rfl) ?_
      refine va_get (D := D) (ci := 7) (v := .ref (b 5)) (C := RX9) (T := TX9) (N := 11) hx hb hts hin_X9 hown hK hP 0 rfl rfl 9 (by decide) hf_1 (fun _ h9 => h9) rfl dX9_carryOut_148 ?_
      refine z_iconst hx hb dX9_carryOut_151 ?_
      refine z_iald (g := NB) (v := NB 1) hx hb hK hP 5 rfl (by decide) (by omega) rfl dX9_carryOut_152 ?_
      refine lv_goto (tgt := 163) hx hb dX9_carryOut_153 (by decide) ?_
      refine z_callV (C := RX9) (q0 := 0) (ci := 7) (As := [.int (zI (49 + (NB 0))), .int (zI (NB 1))]) (rest := []) ([] : va_W) ([] : va_W) hx hb hml hown hts hl hE hS hA (zr0 ([] : va_W) hP) (zr0D ([] : va_W) hD) (c_X9_change l D ct ad b M SP SV TX NB sc tl cd pl cm h (49 + (NB 0)) (NB 1) (by omega) (by omega)) gX9_carryOut_X9_change rfl rfl k_X9_change ⟨Nat.le_of_ble_eq_true rfl, Nat.le_of_ble_eq_true rfl⟩ rfl rfl rfl rfl (Nat.le_of_ble_eq_true rfl) ⟨Nat.le_of_ble_eq_true rfl, Nat.le_of_ble_eq_true rfl⟩ dX9_carryOut_163 rfl (fun v w1 H locs hpost hP hD hS => ?_)
      obtain ⟨rfl, rfl⟩ := hpost
      have hP := zr0' hP
      have hD := zr0D' hD
      have hP : va_P D vwCl (moW b sc tl cd pl cm h ++ (jrW ct (b 1) 94 (up M (49 + (NB 0)) (NB 1)) ++ (jrW ct (b 2) 94 SP ++ (jrW ct (b 3) 376 SV ++ (irW ct (b 4) 150 TX ++ (irW ct (b 5) 2 NB)))))) H := hP
      have hD : va_D A (moW b sc tl cd pl cm h ++ (jrW ct (b 1) 94 (up M (49 + (NB 0)) (NB 1)) ++ (jrW ct (b 2) 94 SP ++ (jrW ct (b 3) 376 SV ++ (irW ct (b 4) 150 TX ++ (irW ct (b 5) 2 NB)))))) := hD
      refine W.eq (g2 := F0 m 166 ls [.int (zI (M (49 + (NB 0))))]) rfl ?_
      exact z_iret hx hb hr hlocks hP hD hS ⟨Nat.le_of_ble_eq_true rfl, Nat.le_of_ble_eq_true rfl⟩ dX9_carryOut_166 (⟨(M (49 + (NB 0))), trivial, rfl, by rw [hc_4]; first | rfl | (exfalso; omega)⟩)
  · refine z_tabIn (off := 163) (tgt := 167) hx hb dX9_carryOut_4 6 hc_4 (by decide) (by decide) rfl (by decide) ?_
    have mm : many cm = 1 := by rw [hc_4]; rfl
    have x1 := hx
    have y1 := hy
    refine lv_aload_n hx hb dX9_carryOut_167 rfl (lv_at hl 0 rfl) ?_
    refine z_iconst hx hb dX9_carryOut_168 ?_
    refine lv_aload_n hx hb dX9_carryOut_169 rfl (lv_at hl 0 rfl) ?_
    refine va_get (D := D) (ci := 7) (v := .ref (b 5)) (C := RX9) (T := TX9) (N := 11) hx hb hts hin_X9 hown hK hP 0 rfl rfl 9 (by decide) hf_1 (fun _ h9 => h9) rfl dX9_carryOut_170 ?_
    refine z_iconst hx hb dX9_carryOut_173 ?_
    refine z_iald (g := NB) (v := NB 0) hx hb hK hP 5 rfl (by decide) (by omega) rfl dX9_carryOut_174 ?_
    refine z_callV (C := RX9) (q0 := 0) (ci := 7) (As := [.int (zI 5), .int (zI (NB 0))]) (rest := []) ([] : va_W) ([] : va_W) hx hb hml hown hts hl hE hS hA (zr0 ([] : va_W) hP) (zr0D ([] : va_W) hD) (c_X9_change l D ct ad b M SP SV TX NB sc tl cd pl cm h 5 (NB 0) (by omega) (by omega)) gX9_carryOut_X9_change rfl rfl k_X9_change ⟨Nat.le_of_ble_eq_true rfl, Nat.le_of_ble_eq_true rfl⟩ rfl rfl rfl rfl (Nat.le_of_ble_eq_true rfl) ⟨Nat.le_of_ble_eq_true rfl, Nat.le_of_ble_eq_true rfl⟩ dX9_carryOut_175 rfl (fun v w1 H locs hpost hP hD hS => ?_)
    obtain ⟨rfl, rfl⟩ := hpost
    have hP := zr0' hP
    have hD := zr0D' hD
    have hP : va_P D vwCl (moW b sc tl cd pl cm h ++ (jrW ct (b 1) 94 (up M 5 (NB 0)) ++ (jrW ct (b 2) 94 SP ++ (jrW ct (b 3) 376 SV ++ (irW ct (b 4) 150 TX ++ (irW ct (b 5) 2 NB)))))) H := hP
    have hD : va_D A (moW b sc tl cd pl cm h ++ (jrW ct (b 1) 94 (up M 5 (NB 0)) ++ (jrW ct (b 2) 94 SP ++ (jrW ct (b 3) 376 SV ++ (irW ct (b 4) 150 TX ++ (irW ct (b 5) 2 NB)))))) := hD
    refine W.eq (g2 := F0 m 178 ls [.int (zI (M 5))]) rfl ?_
    exact z_iret hx hb hr hlocks hP hD hS ⟨Nat.le_of_ble_eq_true rfl, Nat.le_of_ble_eq_true rfl⟩ dX9_carryOut_178 (⟨(M 5), trivial, rfl, by rw [hc_4]; first | rfl | (exfalso; omega)⟩)
  · refine z_tabIn (off := 175) (tgt := 179) hx hb dX9_carryOut_4 7 hc_4 (by decide) (by decide) rfl (by decide) ?_
    have mm : many cm = 1 := by rw [hc_4]; rfl
    have x1 := hx
    have y1 := hy
    refine lv_aload_n hx hb dX9_carryOut_179 rfl (lv_at hl 0 rfl) ?_
    refine lv_aload_n hx hb dX9_carryOut_180 rfl (lv_at hl 0 rfl) ?_
    refine va_get (D := D) (ci := 7) (v := .int (zI cm)) (C := RX9) (T := TX9) (N := 11) hx hb hts hin_X9 hown hK hP 0 rfl rfl 8 (by decide) hf_0 (fun _ h9 => h9) rfl dX9_carryOut_181 ?_
    refine z_bipush hx hb dX9_carryOut_184 (by decide) ?_
    refine z_icmp_ne (tgt := 198) hx hb dX9_carryOut_186 (by decide) (by omega) (by omega) (fun hc_186 => ?_) (fun hc_186 => ?_)
    · have hc_186 := hc_186
      refine lv_aload_n hx hb dX9_carryOut_198 rfl (lv_at hl 0 rfl) ?_
      refine va_get (D := D) (ci := 7) (v := .ref (b 5)) (C := RX9) (T := TX9) (N := 11) hx hb hts hin_X9 hown hK hP 0 rfl rfl 9 (by decide) hf_1 (fun _ h9 => h9) rfl dX9_carryOut_199 ?_
      refine z_iconst hx hb dX9_carryOut_202 ?_
      refine z_iald (g := NB) (v := NB 0) hx hb hK hP 5 rfl (by decide) (by omega) rfl dX9_carryOut_203 ?_
      refine z_ineg hx hb dX9_carryOut_204 ?_
      refine z_callV (C := RX9) (q0 := 0) (ci := 7) (As := [.int (zI (-(NB 0)))]) (rest := []) ([] : va_W) ([] : va_W) hx hb hml hown hts hl hE hS hA (zr0 ([] : va_W) hP) (zr0D ([] : va_W) hD) (c_X9_turns l D ct ad b M SP SV TX NB sc tl cd pl cm h (-(NB 0)) (by omega)) gX9_carryOut_X9_turns rfl rfl k_X9_turns ⟨Nat.le_of_ble_eq_true rfl, Nat.le_of_ble_eq_true rfl⟩ rfl rfl rfl rfl (Nat.le_of_ble_eq_true rfl) ⟨Nat.le_of_ble_eq_true rfl, Nat.le_of_ble_eq_true rfl⟩ dX9_carryOut_205 rfl (fun v w1 H locs hpost hP hD hS => ?_)
      obtain ⟨rfl, rfl⟩ := hpost
      have hP := zr0' hP
      have hD := zr0D' hD
      have hP : va_P D vwCl (moW b sc tl cd pl cm h ++ (jrW ct (b 1) 94 (up M 7 (M 7 + (-(NB 0)))) ++ (jrW ct (b 2) 94 SP ++ (jrW ct (b 3) 376 SV ++ (irW ct (b 4) 150 TX ++ (irW ct (b 5) 2 NB)))))) H := hP
      have hD : va_D A (moW b sc tl cd pl cm h ++ (jrW ct (b 1) 94 (up M 7 (M 7 + (-(NB 0)))) ++ (jrW ct (b 2) 94 SP ++ (jrW ct (b 3) 376 SV ++ (irW ct (b 4) 150 TX ++ (irW ct (b 5) 2 NB)))))) := hD
      refine W.eq (g2 := F0 m 208 ls [.int (zI (M 7 + (-(NB 0))))]) rfl ?_
      exact z_iret hx hb hr hlocks hP hD hS ⟨Nat.le_of_ble_eq_true rfl, Nat.le_of_ble_eq_true rfl⟩ dX9_carryOut_208 (⟨(M 7 + (-(NB 0))), trivial, rfl, by rw [hc_4]; first | rfl | (exfalso; omega)⟩)
    · have hc_186 := hc_186
      refine lv_aload_n hx hb dX9_carryOut_189 rfl (lv_at hl 0 rfl) ?_
      refine va_get (D := D) (ci := 7) (v := .ref (b 5)) (C := RX9) (T := TX9) (N := 11) hx hb hts hin_X9 hown hK hP 0 rfl rfl 9 (by decide) hf_1 (fun _ h9 => h9) rfl dX9_carryOut_190 ?_
      refine z_iconst hx hb dX9_carryOut_193 ?_
      refine z_iald (g := NB) (v := NB 0) hx hb hK hP 5 rfl (by decide) (by omega) rfl dX9_carryOut_194 ?_
      refine lv_goto (tgt := 205) hx hb dX9_carryOut_195 (by decide) ?_
      refine z_callV (C := RX9) (q0 := 0) (ci := 7) (As := [.int (zI (NB 0))]) (rest := []) ([] : va_W) ([] : va_W) hx hb hml hown hts hl hE hS hA (zr0 ([] : va_W) hP) (zr0D ([] : va_W) hD) (c_X9_turns l D ct ad b M SP SV TX NB sc tl cd pl cm h (NB 0) (by omega)) gX9_carryOut_X9_turns rfl rfl k_X9_turns ⟨Nat.le_of_ble_eq_true rfl, Nat.le_of_ble_eq_true rfl⟩ rfl rfl rfl rfl (Nat.le_of_ble_eq_true rfl) ⟨Nat.le_of_ble_eq_true rfl, Nat.le_of_ble_eq_true rfl⟩ dX9_carryOut_205 rfl (fun v w1 H locs hpost hP hD hS => ?_)
      obtain ⟨rfl, rfl⟩ := hpost
      have hP := zr0' hP
      have hD := zr0D' hD
      have hP : va_P D vwCl (moW b sc tl cd pl cm h ++ (jrW ct (b 1) 94 (up M 7 (M 7 + (NB 0))) ++ (jrW ct (b 2) 94 SP ++ (jrW ct (b 3) 376 SV ++ (irW ct (b 4) 150 TX ++ (irW ct (b 5) 2 NB)))))) H := hP
      have hD : va_D A (moW b sc tl cd pl cm h ++ (jrW ct (b 1) 94 (up M 7 (M 7 + (NB 0))) ++ (jrW ct (b 2) 94 SP ++ (jrW ct (b 3) 376 SV ++ (irW ct (b 4) 150 TX ++ (irW ct (b 5) 2 NB)))))) := hD
      refine W.eq (g2 := F0 m 208 ls [.int (zI (M 7 + (NB 0)))]) rfl ?_
      exact z_iret hx hb hr hlocks hP hD hS ⟨Nat.le_of_ble_eq_true rfl, Nat.le_of_ble_eq_true rfl⟩ dX9_carryOut_208 (⟨(M 7 + (NB 0)), trivial, rfl, by rw [hc_4]; first | rfl | (exfalso; omega)⟩)
  · refine z_tabIn (off := 175) (tgt := 179) hx hb dX9_carryOut_4 8 hc_4 (by decide) (by decide) rfl (by decide) ?_
    have mm : many cm = 1 := by rw [hc_4]; rfl
    have x1 := hx
    have y1 := hy
    refine lv_aload_n hx hb dX9_carryOut_179 rfl (lv_at hl 0 rfl) ?_
    refine lv_aload_n hx hb dX9_carryOut_180 rfl (lv_at hl 0 rfl) ?_
    refine va_get (D := D) (ci := 7) (v := .int (zI cm)) (C := RX9) (T := TX9) (N := 11) hx hb hts hin_X9 hown hK hP 0 rfl rfl 8 (by decide) hf_0 (fun _ h9 => h9) rfl dX9_carryOut_181 ?_
    refine z_bipush hx hb dX9_carryOut_184 (by decide) ?_
    refine z_icmp_ne (tgt := 198) hx hb dX9_carryOut_186 (by decide) (by omega) (by omega) (fun hc_186 => ?_) (fun hc_186 => ?_)
    · have hc_186 := hc_186
      refine lv_aload_n hx hb dX9_carryOut_198 rfl (lv_at hl 0 rfl) ?_
      refine va_get (D := D) (ci := 7) (v := .ref (b 5)) (C := RX9) (T := TX9) (N := 11) hx hb hts hin_X9 hown hK hP 0 rfl rfl 9 (by decide) hf_1 (fun _ h9 => h9) rfl dX9_carryOut_199 ?_
      refine z_iconst hx hb dX9_carryOut_202 ?_
      refine z_iald (g := NB) (v := NB 0) hx hb hK hP 5 rfl (by decide) (by omega) rfl dX9_carryOut_203 ?_
      refine z_ineg hx hb dX9_carryOut_204 ?_
      refine z_callV (C := RX9) (q0 := 0) (ci := 7) (As := [.int (zI (-(NB 0)))]) (rest := []) ([] : va_W) ([] : va_W) hx hb hml hown hts hl hE hS hA (zr0 ([] : va_W) hP) (zr0D ([] : va_W) hD) (c_X9_turns l D ct ad b M SP SV TX NB sc tl cd pl cm h (-(NB 0)) (by omega)) gX9_carryOut_X9_turns rfl rfl k_X9_turns ⟨Nat.le_of_ble_eq_true rfl, Nat.le_of_ble_eq_true rfl⟩ rfl rfl rfl rfl (Nat.le_of_ble_eq_true rfl) ⟨Nat.le_of_ble_eq_true rfl, Nat.le_of_ble_eq_true rfl⟩ dX9_carryOut_205 rfl (fun v w1 H locs hpost hP hD hS => ?_)
      obtain ⟨rfl, rfl⟩ := hpost
      have hP := zr0' hP
      have hD := zr0D' hD
      have hP : va_P D vwCl (moW b sc tl cd pl cm h ++ (jrW ct (b 1) 94 (up M 7 (M 7 + (-(NB 0)))) ++ (jrW ct (b 2) 94 SP ++ (jrW ct (b 3) 376 SV ++ (irW ct (b 4) 150 TX ++ (irW ct (b 5) 2 NB)))))) H := hP
      have hD : va_D A (moW b sc tl cd pl cm h ++ (jrW ct (b 1) 94 (up M 7 (M 7 + (-(NB 0)))) ++ (jrW ct (b 2) 94 SP ++ (jrW ct (b 3) 376 SV ++ (irW ct (b 4) 150 TX ++ (irW ct (b 5) 2 NB)))))) := hD
      refine W.eq (g2 := F0 m 208 ls [.int (zI (M 7 + (-(NB 0))))]) rfl ?_
      exact z_iret hx hb hr hlocks hP hD hS ⟨Nat.le_of_ble_eq_true rfl, Nat.le_of_ble_eq_true rfl⟩ dX9_carryOut_208 (⟨(M 7 + (-(NB 0))), trivial, rfl, by rw [hc_4]; first | rfl | (exfalso; omega)⟩)
    · have hc_186 := hc_186
      refine lv_aload_n hx hb dX9_carryOut_189 rfl (lv_at hl 0 rfl) ?_
      refine va_get (D := D) (ci := 7) (v := .ref (b 5)) (C := RX9) (T := TX9) (N := 11) hx hb hts hin_X9 hown hK hP 0 rfl rfl 9 (by decide) hf_1 (fun _ h9 => h9) rfl dX9_carryOut_190 ?_
      refine z_iconst hx hb dX9_carryOut_193 ?_
      refine z_iald (g := NB) (v := NB 0) hx hb hK hP 5 rfl (by decide) (by omega) rfl dX9_carryOut_194 ?_
      refine lv_goto (tgt := 205) hx hb dX9_carryOut_195 (by decide) ?_
      refine z_callV (C := RX9) (q0 := 0) (ci := 7) (As := [.int (zI (NB 0))]) (rest := []) ([] : va_W) ([] : va_W) hx hb hml hown hts hl hE hS hA (zr0 ([] : va_W) hP) (zr0D ([] : va_W) hD) (c_X9_turns l D ct ad b M SP SV TX NB sc tl cd pl cm h (NB 0) (by omega)) gX9_carryOut_X9_turns rfl rfl k_X9_turns ⟨Nat.le_of_ble_eq_true rfl, Nat.le_of_ble_eq_true rfl⟩ rfl rfl rfl rfl (Nat.le_of_ble_eq_true rfl) ⟨Nat.le_of_ble_eq_true rfl, Nat.le_of_ble_eq_true rfl⟩ dX9_carryOut_205 rfl (fun v w1 H locs hpost hP hD hS => ?_)
      obtain ⟨rfl, rfl⟩ := hpost
      have hP := zr0' hP
      have hD := zr0D' hD
      have hP : va_P D vwCl (moW b sc tl cd pl cm h ++ (jrW ct (b 1) 94 (up M 7 (M 7 + (NB 0))) ++ (jrW ct (b 2) 94 SP ++ (jrW ct (b 3) 376 SV ++ (irW ct (b 4) 150 TX ++ (irW ct (b 5) 2 NB)))))) H := hP
      have hD : va_D A (moW b sc tl cd pl cm h ++ (jrW ct (b 1) 94 (up M 7 (M 7 + (NB 0))) ++ (jrW ct (b 2) 94 SP ++ (jrW ct (b 3) 376 SV ++ (irW ct (b 4) 150 TX ++ (irW ct (b 5) 2 NB)))))) := hD
      refine W.eq (g2 := F0 m 208 ls [.int (zI (M 7 + (NB 0)))]) rfl ?_
      exact z_iret hx hb hr hlocks hP hD hS ⟨Nat.le_of_ble_eq_true rfl, Nat.le_of_ble_eq_true rfl⟩ dX9_carryOut_208 (⟨(M 7 + (NB 0)), trivial, rfl, by rw [hc_4]; first | rfl | (exfalso; omega)⟩)
  · refine z_tabIn (off := 205) (tgt := 209) hx hb dX9_carryOut_4 9 hc_4 (by decide) (by decide) rfl (by decide) ?_
    have mm : many cm = 0 := by rw [hc_4]; rfl
    have x1 := hx
    have y1 := hy
    refine lv_aload_n hx hb dX9_carryOut_209 rfl (lv_at hl 0 rfl) ?_
    refine z_bipush hx hb dX9_carryOut_210 (by decide) ?_
    refine z_sipush hx hb dX9_carryOut_212 (by decide) ?_
    refine z_callV (C := RX9) (q0 := 0) (ci := 7) (As := [.int (zI 8), .int (zI 192)]) (rest := []) ([] : va_W) ([] : va_W) hx hb hml hown hts hl hE hS hA (zr0 ([] : va_W) hP) (zr0D ([] : va_W) hD) (c_X9_change l D ct ad b M SP SV TX NB sc tl cd pl cm h 8 192 (by omega) (by omega)) gX9_carryOut_X9_change rfl rfl k_X9_change ⟨Nat.le_of_ble_eq_true rfl, Nat.le_of_ble_eq_true rfl⟩ rfl rfl rfl rfl (Nat.le_of_ble_eq_true rfl) ⟨Nat.le_of_ble_eq_true rfl, Nat.le_of_ble_eq_true rfl⟩ dX9_carryOut_215 rfl (fun v w1 H locs hpost hP hD hS => ?_)
    obtain ⟨rfl, rfl⟩ := hpost
    have hP := zr0' hP
    have hD := zr0D' hD
    have hP : va_P D vwCl (moW b sc tl cd pl cm h ++ (jrW ct (b 1) 94 (up M 8 192) ++ (jrW ct (b 2) 94 SP ++ (jrW ct (b 3) 376 SV ++ (irW ct (b 4) 150 TX ++ (irW ct (b 5) 2 NB)))))) H := hP
    have hD : va_D A (moW b sc tl cd pl cm h ++ (jrW ct (b 1) 94 (up M 8 192) ++ (jrW ct (b 2) 94 SP ++ (jrW ct (b 3) 376 SV ++ (irW ct (b 4) 150 TX ++ (irW ct (b 5) 2 NB)))))) := hD
    refine W.eq (g2 := F0 m 218 ls [.int (zI (M 8))]) rfl ?_
    exact z_iret hx hb hr hlocks hP hD hS ⟨Nat.le_of_ble_eq_true rfl, Nat.le_of_ble_eq_true rfl⟩ dX9_carryOut_218 (⟨(M 8), trivial, rfl, by rw [hc_4]; first | rfl | (exfalso; omega)⟩)
  · refine z_tabIn (off := 215) (tgt := 219) hx hb dX9_carryOut_4 10 hc_4 (by decide) (by decide) rfl (by decide) ?_
    have mm : many cm = 2 := by rw [hc_4]; rfl
    have x1 := hx
    have y1 := hy
    have fk : 0 ≤ NB 0 ∧ NB 0 ≤ 2 := by have q := hok; rw [hc_4, show ckc M _ (NB 0) (NB 1) = ck_set (NB 0) (NB 1) from rfl] at q; unfold ck_set at q; (repeat' split at q) <;> omega
    refine lv_aload_n hx hb dX9_carryOut_219 rfl (lv_at hl 0 rfl) ?_
    refine lv_aload_n hx hb dX9_carryOut_220 rfl (lv_at hl 0 rfl) ?_
    refine va_get (D := D) (ci := 7) (v := .ref (b 5)) (C := RX9) (T := TX9) (N := 11) hx hb hts hin_X9 hown hK hP 0 rfl rfl 9 (by decide) hf_1 (fun _ h9 => h9) rfl dX9_carryOut_221 ?_
    refine z_iconst hx hb dX9_carryOut_224 ?_
    refine z_iald (g := NB) (v := NB 0) hx hb hK hP 5 rfl (by decide) (by omega) rfl dX9_carryOut_225 ?_
    refine lv_aload_n hx hb dX9_carryOut_226 rfl (lv_at hl 0 rfl) ?_
    refine va_get (D := D) (ci := 7) (v := .ref (b 5)) (C := RX9) (T := TX9) (N := 11) hx hb hts hin_X9 hown hK hP 0 rfl rfl 9 (by decide) hf_1 (fun _ h9 => h9) rfl dX9_carryOut_227 ?_
    refine z_iconst hx hb dX9_carryOut_230 ?_
    refine z_iald (g := NB) (v := NB 1) hx hb hK hP 5 rfl (by decide) (by omega) rfl dX9_carryOut_231 ?_
    refine z_callV (C := RX9) (q0 := 0) (ci := 7) (As := [.int (zI (NB 0)), .int (zI (NB 1))]) (rest := []) ([] : va_W) ([] : va_W) hx hb hml hown hts hl hE hS hA (zr0 ([] : va_W) hP) (zr0D ([] : va_W) hD) (c_X9_change l D ct ad b M SP SV TX NB sc tl cd pl cm h (NB 0) (NB 1) (by omega) (by omega)) gX9_carryOut_X9_change rfl rfl k_X9_change ⟨Nat.le_of_ble_eq_true rfl, Nat.le_of_ble_eq_true rfl⟩ rfl rfl rfl rfl (Nat.le_of_ble_eq_true rfl) ⟨Nat.le_of_ble_eq_true rfl, Nat.le_of_ble_eq_true rfl⟩ dX9_carryOut_232 rfl (fun v w1 H locs hpost hP hD hS => ?_)
    obtain ⟨rfl, rfl⟩ := hpost
    have hP := zr0' hP
    have hD := zr0D' hD
    have hP : va_P D vwCl (moW b sc tl cd pl cm h ++ (jrW ct (b 1) 94 (up M (NB 0) (NB 1)) ++ (jrW ct (b 2) 94 SP ++ (jrW ct (b 3) 376 SV ++ (irW ct (b 4) 150 TX ++ (irW ct (b 5) 2 NB)))))) H := hP
    have hD : va_D A (moW b sc tl cd pl cm h ++ (jrW ct (b 1) 94 (up M (NB 0) (NB 1)) ++ (jrW ct (b 2) 94 SP ++ (jrW ct (b 3) 376 SV ++ (irW ct (b 4) 150 TX ++ (irW ct (b 5) 2 NB)))))) := hD
    refine W.eq (g2 := F0 m 235 ls [.int (zI (M (NB 0)))]) rfl ?_
    exact z_iret hx hb hr hlocks hP hD hS ⟨Nat.le_of_ble_eq_true rfl, Nat.le_of_ble_eq_true rfl⟩ dX9_carryOut_235 (⟨(M (NB 0)), trivial, rfl, by rw [hc_4]; first | rfl | (exfalso; omega)⟩)
  · refine z_tabOut (tgt := 236) hx hb dX9_carryOut_4 (by omega) (by omega) (by decide) ?_
    have hc_4 : cm = 11 := by omega
    have mm : many cm = 1 := by rw [hc_4]; rfl
    have x1 := hx
    have y1 := hy
    have fk : 1 ≤ NB 0 ∧ NB 0 ≤ 500 ∧ M 9 + NB 0 ≤ 100000 := by have q := hok; rw [hc_4, show ckc M _ (NB 0) (NB 1) = ck_hours M (NB 0) from rfl] at q; unfold ck_hours at q; (repeat' split at q) <;> omega
    refine lv_aload_n hx hb dX9_carryOut_236 rfl (lv_at hl 0 rfl) ?_
    refine lv_aload_n hx hb dX9_carryOut_237 rfl (lv_at hl 0 rfl) ?_
    refine va_get (D := D) (ci := 7) (v := .ref (b 5)) (C := RX9) (T := TX9) (N := 11) hx hb hts hin_X9 hown hK hP 0 rfl rfl 9 (by decide) hf_1 (fun _ h9 => h9) rfl dX9_carryOut_238 ?_
    refine z_iconst hx hb dX9_carryOut_241 ?_
    refine z_iald (g := NB) (v := NB 0) hx hb hK hP 5 rfl (by decide) (by omega) rfl dX9_carryOut_242 ?_
    refine z_callV (C := RX9) (q0 := 0) (ci := 7) (As := [.int (zI (NB 0))]) (rest := []) ([] : va_W) ([] : va_W) hx hb hml hown hts hl hE hS hA (zr0 ([] : va_W) hP) (zr0D ([] : va_W) hD) (c_X9_passes l D ct ad b M SP SV TX NB sc tl cd pl cm h (NB 0) (by assumption) (by assumption) (by omega) (by omega)) gX9_carryOut_X9_passes rfl rfl k_X9_passes ⟨Nat.le_of_ble_eq_true rfl, Nat.le_of_ble_eq_true rfl⟩ rfl rfl rfl rfl (Nat.le_of_ble_eq_true rfl) ⟨Nat.le_of_ble_eq_true rfl, Nat.le_of_ble_eq_true rfl⟩ dX9_carryOut_243 rfl (fun v w1 H locs hpost hP hD hS => ?_)
    obtain ⟨rfl, rfl⟩ := hpost
    have hP := zr0' hP
    have hD := zr0D' hD
    have hP : va_P D vwCl (moW b sc tl cd pl cm h ++ (jrW ct (b 1) 94 (sp_pass M (NB 0).toNat) ++ (jrW ct (b 2) 94 SP ++ (jrW ct (b 3) 376 SV ++ (irW ct (b 4) 150 TX ++ (irW ct (b 5) 2 NB)))))) H := hP
    have hD : va_D A (moW b sc tl cd pl cm h ++ (jrW ct (b 1) 94 (sp_pass M (NB 0).toNat) ++ (jrW ct (b 2) 94 SP ++ (jrW ct (b 3) 376 SV ++ (irW ct (b 4) 150 TX ++ (irW ct (b 5) 2 NB)))))) := hD
    refine W.eq (g2 := F0 m 246 ls [.int (zI (sp_err (sp_pass M (NB 0).toNat)))]) rfl ?_
    exact z_iret hx hb hr hlocks hP hD hS ⟨Nat.le_of_ble_eq_true rfl, Nat.le_of_ble_eq_true rfl⟩ dX9_carryOut_246 (⟨(sp_err (sp_pass M (NB 0).toNat)), trivial, rfl, by rw [hc_4]; first | rfl | (exfalso; omega)⟩)
