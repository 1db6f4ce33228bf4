theorem k_X9_readCommand : yX9_readCommand.cls ≠ "java/lang/invoke/MethodHandle" ∧ yX9_readCommand.cls ≠ "java/lang/invoke/VarHandle" ∧ (parseMethodDescriptor yX9_readCommand.desc).map (fun d => d.parameters.length) = some 0 := by decide +kernel
set_option maxHeartbeats 4000000 in
set_option maxRecDepth 100000 in
theorem c_X9_isText_ok (l : Launch) (D : va_G) (ct ad : Nat → Nat) (b : Nat → Nat) (M SP SV TX NB : Int → Int) (sc tl cd pl cm h : Int) (ht : tInv TX tl) (hok : tf TX tl 0 = -1) : ZM l yX9_isText wsX9_isText ({ frames := 4, cells := 0, slots := 0, locals := 85 } : Room) D ct ad [.ref (b 0)] (moW b sc tl cd pl cm h ++ (jrW ct (b 1) 94 M ++ (jrW ct (b 2) 94 SP ++ (jrW ct (b 3) 376 SV ++ (irW ct (b 4) 150 TX ++ (irW ct (b 5) 2 NB)))))) (fun v w => ∃ (pl2 : Int) (NB3 : Int → Int) (cm3 : Int), ((True)) ∧ v = (some (.int (zI 1))) ∧ w = moW b sc tl cd pl2 cm3 h ++ (jrW ct (b 1) 94 M ++ (jrW ct (b 2) 94 SP ++ (jrW ct (b 3) 376 SV ++ (irW ct (b 4) 150 TX ++ (irW ct (b 5) 2 NB3)))))) := by
  refine ZM.of (cc := cX9_isText) (maxL := 3) (ret := (some .boolean)) (by decide +kernel) rfl (Nat.le_of_ble_eq_true rfl) ?_
  intro p e s m below meth c A ls hx hb hr hts hown hlocks hml hname hE hP hD hA hS hl
  have hK := hE.1
  have hf_0 := hts (.fieldLink RX9 230 "RodGridsModel" "place" "I") (by decide +kernel)
  have hf_1 := hts (.fieldLink RX9 197 "RodGridsModel" "textLength" "I") (by decide +kernel)
  have hin_X9 : ∀ z ∈ u_ws RX9 TX9 11, z ∈ wsX9_isText := by decide +kernel
  have hl : lv_has ls 3 [(0, .ref (b 0))] := hl
  have t1 := ht.1
  have s0 := sk_B (TX := TX) (tl := tl) (p := 0) t1.1
  refine lv_aload_n hx hb dX9_isText_0 rfl (lv_at hl 0 rfl) ?_
  refine z_iconst hx hb dX9_isText_1 ?_
  refine z_put (ct := ct) (ad := ad) (ci := 7) (v := .int (zI 0)) (ty := tyX9 7) (C := RX9) (T := TX9) (N := 11) (w2 := moW b sc tl cd 0 cm h ++ (jrW ct (b 1) 94 M ++ (jrW ct (b 2) 94 SP ++ (jrW ct (b 3) 376 SV ++ (irW ct (b 4) 150 TX ++ (irW ct (b 5) 2 NB)))))) hx hb hts hin_X9 tyX9 tyX9_ok nmX9 hown hE hP hD hS 0 rfl rfl 7 (by decide) hf_0 (fun _ h9 => h9) rfl (by decide +kernel) rfl rfl (Nat.le_of_ble_eq_true rfl) dX9_isText_2 (rfl) (fun H locs hP hD hS => ?_)
  refine z_iconst hx hb dX9_isText_5 ?_
  refine lv_istore_n (lv' := [(1, .int (zI 1)), (0, .ref (b 0))]) hx hb dX9_isText_6 rfl hl (by decide) rfl (fun ls hl => ?_)
  refine lv_aload_n hx hb dX9_isText_7 rfl (lv_at hl 1 rfl) ?_
  refine z_callV (C := RX9) (q0 := 0) (ci := 7) (As := []) (rest := []) ([] : va_W) ([] : va_W) hx hb hml hown hts hl hE hS hA (zr0 ([] : va_W) hP) (zr0D ([] : va_W) hD) (c_X9_skips l D ct ad b M SP SV TX NB sc tl cd 0 cm h (by assumption) (by omega)) gX9_isText_X9_skips rfl rfl k_X9_skips ⟨Nat.le_of_ble_eq_true rfl, Nat.le_of_ble_eq_true rfl⟩ rfl rfl rfl rfl (Nat.le_of_ble_eq_true rfl) ⟨Nat.le_of_ble_eq_true rfl, Nat.le_of_ble_eq_true rfl⟩ dX9_isText_8 rfl (fun v w1 H locs hpost hP hD hS => ?_)
  obtain ⟨rfl, rfl⟩ := hpost
  have hP := zr0' hP
  have hD := zr0D' hD
  have hP : va_P D vwCl (moW b sc tl cd (sk TX tl 0) cm h ++ (jrW ct (b 1) 94 M ++ (jrW ct (b 2) 94 SP ++ (jrW ct (b 3) 376 SV ++ (irW ct (b 4) 150 TX ++ (irW ct (b 5) 2 NB)))))) H := hP
  have hD : va_D A (moW b sc tl cd (sk TX tl 0) cm h ++ (jrW ct (b 1) 94 M ++ (jrW ct (b 2) 94 SP ++ (jrW ct (b 3) 376 SV ++ (irW ct (b 4) 150 TX ++ (irW ct (b 5) 2 NB)))))) := hD
  refine W.eq (g2 := F0 m 11 ls [.int (zI (zB (0 < sk TX tl 0)))]) rfl ?_
  refine lv_istore_n (lv' := [(2, .int (zI (zB (0 < sk TX tl 0)))), (1, .int (zI 1)), (0, .ref (b 0))]) hx hb dX9_isText_11 rfl hl (by decide) rfl (fun ls hl => ?_)
  refine z_loop (σ := Int × Int × (Int → Int) × Int) (fun q9 => (2 * (tl - q9.2.1) + q9.1).toNat) (fun q9 => (0 ≤ q9.2.1 ∧ q9.2.1 ≤ tl) ∧ ((q9.1 = 1 ∧ tf TX tl q9.2.1 = tf TX tl 0 ∧ sk TX tl q9.2.1 = q9.2.1) ∨ (q9.1 = 0 ∧ tf TX tl 0 = q9.2.1))) (fun q9 => moW b sc tl cd q9.2.1 q9.2.2.2 h ++ (jrW ct (b 1) 94 M ++ (jrW ct (b 2) 94 SP ++ (jrW ct (b 3) 376 SV ++ (irW ct (b 4) 150 TX ++ (irW ct (b 5) 2 q9.2.2.1)))))) (fun q9 => [(0, .ref (b 0)), (1, .int (zI q9.1))]) (fun q9 => []) (1, (sk TX tl 0), NB, cm) ⟨(show 0 ≤ (sk TX tl 0) ∧ (sk TX tl 0) ≤ tl from (by omega)), (show (1 = 1 ∧ tf TX tl (sk TX tl 0) = tf TX tl 0 ∧ sk TX tl (sk TX tl 0) = (sk TX tl 0)) ∨ (1 = 0 ∧ tf TX tl 0 = (sk TX tl 0)) from (by exact Or.inl ⟨rfl, tf_sk (by omega) t1.1, sk_sk t1.1⟩))⟩ hP hD hS (lv_sub hl [2, 1] rfl) rfl ?_
  rintro ⟨g, x, NB2, cm2⟩ hI_12 ih_12 H locs ls hP hD hS hl
  obtain ⟨hx_, hg⟩ := hI_12
  have hx_ : 0 ≤ x ∧ x ≤ tl := hx_
  have hg : (g = 1 ∧ tf TX tl x = tf TX tl 0 ∧ sk TX tl x = x) ∨ (g = 0 ∧ tf TX tl 0 = x) := hg
  have hP : va_P D vwCl (moW b sc tl cd x cm2 h ++ (jrW ct (b 1) 94 M ++ (jrW ct (b 2) 94 SP ++ (jrW ct (b 3) 376 SV ++ (irW ct (b 4) 150 TX ++ (irW ct (b 5) 2 NB2)))))) H := hP
  have hD : va_D A (moW b sc tl cd x cm2 h ++ (jrW ct (b 1) 94 M ++ (jrW ct (b 2) 94 SP ++ (jrW ct (b 3) 376 SV ++ (irW ct (b 4) 150 TX ++ (irW ct (b 5) 2 NB2)))))) := hD
  have hl : lv_has ls 3 [(0, .ref (b 0)), (1, .int (zI g))] := hl
  refine lv_iload_n hx hb dX9_isText_12 rfl (lv_at hl 1 rfl) ?_
  refine z_if_eq (tgt := 52) hx hb dX9_isText_13 (by decide) (by omega) (fun hc_13 => ?_) (fun hc_13 => ?_)
  · have hc_13 := hc_13
    omega
  · have hc_13 := hc_13
    have hg1 : tf TX tl x = tf TX tl 0 := by omega
    have hg2 : sk TX tl x = x := by omega
    have tA := tf_at hx_.1 hg2
    refine lv_aload_n hx hb dX9_isText_16 rfl (lv_at hl 0 rfl) ?_
    refine va_get (D := D) (ci := 7) (v := .int (zI x)) (C := RX9) (T := TX9) (N := 11) hx hb hts hin_X9 hown hK hP 0 rfl rfl 7 (by decide) hf_0 (fun _ h9 => h9) rfl dX9_isText_17 ?_
    refine lv_aload_n hx hb dX9_isText_20 rfl (lv_at hl 0 rfl) ?_
    refine va_get (D := D) (ci := 7) (v := .int (zI tl)) (C := RX9) (T := TX9) (N := 11) hx hb hts hin_X9 hown hK hP 0 rfl rfl 5 (by decide) hf_1 (fun _ h9 => h9) rfl dX9_isText_21 ?_
    refine z_icmp_ge (tgt := 52) hx hb dX9_isText_24 (by decide) (by omega) (by omega) (fun hc_24 => ?_) (fun hc_24 => ?_)
    · have hc_24 := hc_24
      refine lv_iload_n hx hb dX9_isText_52 rfl (lv_at hl 1 rfl) ?_
      refine z_canI (show g = 1 from (by omega)) ?_
      exact z_zret hx hb hr (by first | rfl | exact zB_nar) hlocks hP hD hS ⟨Nat.le_of_ble_eq_true rfl, Nat.le_of_ble_eq_true rfl⟩ dX9_isText_53 (⟨x, NB2, cm2, trivial, rfl, rfl⟩)
    · have hc_24 := hc_24
      by_cases jF : cf TX tl x = -1
      · skip
        refine lv_aload_n hx hb dX9_isText_27 rfl (lv_at hl 0 rfl) ?_
        refine z_callV (C := RX9) (q0 := 0) (ci := 7) (As := []) (rest := []) ([] : va_W) ([] : va_W) hx hb hml hown hts hl hE hS hA (zr0 ([] : va_W) hP) (zr0D ([] : va_W) hD) (c_X9_readCommand_ok l D ct ad b M SP SV TX NB2 sc tl cd x cm2 h (by assumption) (by omega) jF) gX9_isText_X9_readCommand rfl rfl k_X9_readCommand ⟨Nat.le_of_ble_eq_true rfl, Nat.le_of_ble_eq_true rfl⟩ rfl rfl rfl rfl (Nat.le_of_ble_eq_true rfl) ⟨Nat.le_of_ble_eq_true rfl, Nat.le_of_ble_eq_true rfl⟩ dX9_isText_28 rfl (fun v w1 H locs hpost hP hD hS => ?_)
        obtain ⟨NB2_28, ⟨hx0_28, hx1_28⟩, rfl, rfl⟩ := hpost
        have hP := zr0' hP
        have hD := zr0D' hD
        have hP : va_P D vwCl (moW b sc tl cd (cp TX tl x) (cc TX tl x) h ++ (jrW ct (b 1) 94 M ++ (jrW ct (b 2) 94 SP ++ (jrW ct (b 3) 376 SV ++ (irW ct (b 4) 150 TX ++ (irW ct (b 5) 2 NB2_28)))))) H := hP
        have hD : va_D A (moW b sc tl cd (cp TX tl x) (cc TX tl x) h ++ (jrW ct (b 1) 94 M ++ (jrW ct (b 2) 94 SP ++ (jrW ct (b 3) 376 SV ++ (irW ct (b 4) 150 TX ++ (irW ct (b 5) 2 NB2_28)))))) := hD
        refine W.eq (g2 := F0 m 31 ls [.int (zI 1)]) rfl ?_
        have cB := cf_B (TX := TX) (q := x) hx_.1 hx_.2
        refine lv_istore_n (lv' := [(1, .int (zI 1)), (0, .ref (b 0))]) hx hb dX9_isText_31 rfl hl (by decide) rfl (fun ls hl => ?_)
        refine lv_iload_n hx hb dX9_isText_32 rfl (lv_at hl 0 rfl) ?_
        refine z_if_eq (tgt := 47) hx hb dX9_isText_33 (by decide) (by omega) (fun hc_33 => ?_) (fun hc_33 => ?_)
        · have hc_33 := hc_33
          omega
        · have hc_33 := hc_33
          have sB := sk_B (TX := TX) (tl := tl) (p := cp TX tl x) (by omega)
          refine lv_aload_n hx hb dX9_isText_36 rfl (lv_at hl 1 rfl) ?_
          refine z_callV (C := RX9) (q0 := 0) (ci := 7) (As := []) (rest := []) ([] : va_W) ([] : va_W) hx hb hml hown hts hl hE hS hA (zr0 ([] : va_W) hP) (zr0D ([] : va_W) hD) (c_X9_skips l D ct ad b M SP SV TX NB2_28 sc tl cd (cp TX tl x) (cc TX tl x) h (by assumption) (by omega)) gX9_isText_X9_skips rfl rfl k_X9_skips ⟨Nat.le_of_ble_eq_true rfl, Nat.le_of_ble_eq_true rfl⟩ rfl rfl rfl rfl (Nat.le_of_ble_eq_true rfl) ⟨Nat.le_of_ble_eq_true rfl, Nat.le_of_ble_eq_true rfl⟩ dX9_isText_37 rfl (fun v w1 H locs hpost hP hD hS => ?_)
          obtain ⟨rfl, rfl⟩ := hpost
          have hP := zr0' hP
          have hD := zr0D' hD
          have hP : va_P D vwCl (moW b sc tl cd (sk TX tl (cp TX tl x)) (cc TX tl x) h ++ (jrW ct (b 1) 94 M ++ (jrW ct (b 2) 94 SP ++ (jrW ct (b 3) 376 SV ++ (irW ct (b 4) 150 TX ++ (irW ct (b 5) 2 NB2_28)))))) H := hP
          have hD : va_D A (moW b sc tl cd (sk TX tl (cp TX tl x)) (cc TX tl x) h ++ (jrW ct (b 1) 94 M ++ (jrW ct (b 2) 94 SP ++ (jrW ct (b 3) 376 SV ++ (irW ct (b 4) 150 TX ++ (irW ct (b 5) 2 NB2_28)))))) := hD
          refine W.eq (g2 := F0 m 40 ls [.int (zI (zB ((cp TX tl x) < sk TX tl (cp TX tl x))))]) rfl ?_
          refine zb_if_eq (tgt := 47) hx hb dX9_isText_40 (by decide) (fun hc_40 => ?_) (fun hc_40 => ?_)
          · have hc_40 := hc_40
            refine z_iconst hx hb dX9_isText_47 ?_
            refine lv_istore_n (lv' := [(2, .int (zI 0)), (1, .int (zI 1)), (0, .ref (b 0))]) hx hb dX9_isText_48 rfl hl (by decide) rfl (fun ls hl => ?_)
            refine lv_goto (tgt := 12) hx hb dX9_isText_49 (by decide) ?_
            exact ih_12 (1, (sk TX tl (cp TX tl x)), NB2_28, (cc TX tl x)) ⟨(show 0 ≤ (sk TX tl (cp TX tl x)) ∧ (sk TX tl (cp TX tl x)) ≤ tl from (by omega)), (show (1 = 1 ∧ tf TX tl (sk TX tl (cp TX tl x)) = tf TX tl 0 ∧ sk TX tl (sk TX tl (cp TX tl x)) = (sk TX tl (cp TX tl x))) ∨ (1 = 0 ∧ tf TX tl 0 = (sk TX tl (cp TX tl x))) from (by first | exact Or.inr ⟨rfl, by rw [← hg1, tA, if_pos (by omega), if_neg jF]⟩ | exact Or.inl ⟨rfl, by rw [tf_sk (by omega) (by omega), ← hg1, tA, if_pos (by omega), if_pos jF], sk_sk (by omega)⟩))⟩ (show (2 * (tl - (sk TX tl (cp TX tl x))) + 1).toNat < (2 * (tl - x) + g).toNat from (by omega)) _ _ _ hP hD hS (lv_sub hl [2, 1] rfl)
          · have hc_40 := hc_40
            refine z_iconst hx hb dX9_isText_43 ?_
            refine lv_goto (tgt := 48) hx hb dX9_isText_44 (by decide) ?_
            refine lv_istore_n (lv' := [(2, .int (zI 1)), (1, .int (zI 1)), (0, .ref (b 0))]) hx hb dX9_isText_48 rfl hl (by decide) rfl (fun ls hl => ?_)
            refine lv_goto (tgt := 12) hx hb dX9_isText_49 (by decide) ?_
            exact ih_12 (1, (sk TX tl (cp TX tl x)), NB2_28, (cc TX tl x)) ⟨(show 0 ≤ (sk TX tl (cp TX tl x)) ∧ (sk TX tl (cp TX tl x)) ≤ tl from (by omega)), (show (1 = 1 ∧ tf TX tl (sk TX tl (cp TX tl x)) = tf TX tl 0 ∧ sk TX tl (sk TX tl (cp TX tl x)) = (sk TX tl (cp TX tl x))) ∨ (1 = 0 ∧ tf TX tl 0 = (sk TX tl (cp TX tl x))) from (by first | exact Or.inr ⟨rfl, by rw [← hg1, tA, if_pos (by omega), if_neg jF]⟩ | exact Or.inl ⟨rfl, by rw [tf_sk (by omega) (by omega), ← hg1, tA, if_pos (by omega), if_pos jF], sk_sk (by omega)⟩))⟩ (show (2 * (tl - (sk TX tl (cp TX tl x))) + 1).toNat < (2 * (tl - x) + g).toNat from (by omega)) _ _ _ hP hD hS (lv_sub hl [2, 1] rfl)
      · skip
        refine lv_aload_n hx hb dX9_isText_27 rfl (lv_at hl 0 rfl) ?_
        refine z_callV (C := RX9) (q0 := 0) (ci := 7) (As := []) (rest := []) ([] : va_W) ([] : va_W) hx hb hml hown hts hl hE hS hA (zr0 ([] : va_W) hP) (zr0D ([] : va_W) hD) (c_X9_readCommand_no l D ct ad b M SP SV TX NB2 sc tl cd x cm2 h (by assumption) (by omega) jF) gX9_isText_X9_readCommand rfl rfl k_X9_readCommand ⟨Nat.le_of_ble_eq_true rfl, Nat.le_of_ble_eq_true rfl⟩ rfl rfl rfl rfl (Nat.le_of_ble_eq_true rfl) ⟨Nat.le_of_ble_eq_true rfl, Nat.le_of_ble_eq_true rfl⟩ dX9_isText_28 rfl (fun v w1 H locs hpost hP hD hS => ?_)
        obtain ⟨NB2_28, cm2_28, hx0_28, rfl, rfl⟩ := hpost
        have hP := zr0' hP
        have hD := zr0D' hD
        have hP : va_P D vwCl (moW b sc tl cd (cf TX tl x) cm2_28 h ++ (jrW ct (b 1) 94 M ++ (jrW ct (b 2) 94 SP ++ (jrW ct (b 3) 376 SV ++ (irW ct (b 4) 150 TX ++ (irW ct (b 5) 2 NB2_28)))))) H := hP
        have hD : va_D A (moW b sc tl cd (cf TX tl x) cm2_28 h ++ (jrW ct (b 1) 94 M ++ (jrW ct (b 2) 94 SP ++ (jrW ct (b 3) 376 SV ++ (irW ct (b 4) 150 TX ++ (irW ct (b 5) 2 NB2_28)))))) := hD
        refine W.eq (g2 := F0 m 31 ls [.int (zI 0)]) rfl ?_
        have cG := cf_ge (TX := TX) hx_.2 jF
        refine lv_istore_n (lv' := [(1, .int (zI 0)), (0, .ref (b 0))]) hx hb dX9_isText_31 rfl hl (by decide) rfl (fun ls hl => ?_)
        refine lv_iload_n hx hb dX9_isText_32 rfl (lv_at hl 0 rfl) ?_
        refine z_if_eq (tgt := 47) hx hb dX9_isText_33 (by decide) (by omega) (fun hc_33 => ?_) (fun hc_33 => ?_)
        · have hc_33 := hc_33
          refine z_iconst hx hb dX9_isText_47 ?_
          refine lv_istore_n (lv' := [(2, .int (zI 0)), (1, .int (zI 0)), (0, .ref (b 0))]) hx hb dX9_isText_48 rfl hl (by decide) rfl (fun ls hl => ?_)
          refine lv_goto (tgt := 12) hx hb dX9_isText_49 (by decide) ?_
          exact ih_12 (0, (cf TX tl x), NB2_28, cm2_28) ⟨(show 0 ≤ (cf TX tl x) ∧ (cf TX tl x) ≤ tl from (by omega)), (show (0 = 1 ∧ tf TX tl (cf TX tl x) = tf TX tl 0 ∧ sk TX tl (cf TX tl x) = (cf TX tl x)) ∨ (0 = 0 ∧ tf TX tl 0 = (cf TX tl x)) from (by first | exact Or.inr ⟨rfl, by rw [← hg1, tA, if_pos (by omega), if_neg jF]⟩ | exact Or.inl ⟨rfl, by rw [tf_sk (by omega) (by omega), ← hg1, tA, if_pos (by omega), if_pos jF], sk_sk (by omega)⟩))⟩ (show (2 * (tl - (cf TX tl x)) + 0).toNat < (2 * (tl - x) + g).toNat from (by omega)) _ _ _ hP hD hS (lv_sub hl [2, 1] rfl)
        · have hc_33 := hc_33
          omega
set_option maxHeartbeats 4000000 in
set_option maxRecDepth 100000 in
theorem c_X9_isText_no (l : Launch) (D : va_G) (ct ad : Nat → Nat) (b : Nat → Nat) (M SP SV TX NB : Int → Int) (sc tl cd pl cm h : Int) (ht : tInv TX tl) (hno : tf TX tl 0 ≠ -1) : ZM l yX9_isText wsX9_isText ({ frames := 4, cells := 0, slots := 0, locals := 85 } : Room) D ct ad [.ref (b 0)] (moW b sc tl cd pl cm h ++ (jrW ct (b 1) 94 M ++ (jrW ct (b 2) 94 SP ++ (jrW ct (b 3) 376 SV ++ (irW ct (b 4) 150 TX ++ (irW ct (b 5) 2 NB)))))) (fun v w => ∃ (NB3 : Int → Int) (cm3 : Int), ((True)) ∧ v = (some (.int (zI 0))) ∧ w = moW b sc tl cd (tf TX tl 0) cm3 h ++ (jrW ct (b 1) 94 M ++ (jrW ct (b 2) 94 SP ++ (jrW ct (b 3) 376 SV ++ (irW ct (b 4) 150 TX ++ (irW ct (b 5) 2 NB3)))))) := by
  refine ZM.of (cc := cX9_isText) (maxL := 3) (ret := (some .boolean)) (by decide +kernel) rfl (Nat.le_of_ble_eq_true rfl) ?_
  intro p e s m below meth c A ls hx hb hr hts hown hlocks hml hname hE hP hD hA hS hl
  have hK := hE.1
  have hf_0 := hts (.fieldLink RX9 230 "RodGridsModel" "place" "I") (by decide +kernel)
  have hf_1 := hts (.fieldLink RX9 197 "RodGridsModel" "textLength" "I") (by decide +kernel)
  have hin_X9 : ∀ z ∈ u_ws RX9 TX9 11, z ∈ wsX9_isText := by decide +kernel
  have hl : lv_has ls 3 [(0, .ref (b 0))] := hl
  have t1 := ht.1
  have s0 := sk_B (TX := TX) (tl := tl) (p := 0) t1.1
  refine lv_aload_n hx hb dX9_isText_0 rfl (lv_at hl 0 rfl) ?_
  refine z_iconst hx hb dX9_isText_1 ?_
  refine z_put (ct := ct) (ad := ad) (ci := 7) (v := .int (zI 0)) (ty := tyX9 7) (C := RX9) (T := TX9) (N := 11) (w2 := moW b sc tl cd 0 cm h ++ (jrW ct (b 1) 94 M ++ (jrW ct (b 2) 94 SP ++ (jrW ct (b 3) 376 SV ++ (irW ct (b 4) 150 TX ++ (irW ct (b 5) 2 NB)))))) hx hb hts hin_X9 tyX9 tyX9_ok nmX9 hown hE hP hD hS 0 rfl rfl 7 (by decide) hf_0 (fun _ h9 => h9) rfl (by decide +kernel) rfl rfl (Nat.le_of_ble_eq_true rfl) dX9_isText_2 (rfl) (fun H locs hP hD hS => ?_)
  refine z_iconst hx hb dX9_isText_5 ?_
  refine lv_istore_n (lv' := [(1, .int (zI 1)), (0, .ref (b 0))]) hx hb dX9_isText_6 rfl hl (by decide) rfl (fun ls hl => ?_)
  refine lv_aload_n hx hb dX9_isText_7 rfl (lv_at hl 1 rfl) ?_
  refine z_callV (C := RX9) (q0 := 0) (ci := 7) (As := []) (rest := []) ([] : va_W) ([] : va_W) hx hb hml hown hts hl hE hS hA (zr0 ([] : va_W) hP) (zr0D ([] : va_W) hD) (c_X9_skips l D ct ad b M SP SV TX NB sc tl cd 0 cm h (by assumption) (by omega)) gX9_isText_X9_skips rfl rfl k_X9_skips ⟨Nat.le_of_ble_eq_true rfl, Nat.le_of_ble_eq_true rfl⟩ rfl rfl rfl rfl (Nat.le_of_ble_eq_true rfl) ⟨Nat.le_of_ble_eq_true rfl, Nat.le_of_ble_eq_true rfl⟩ dX9_isText_8 rfl (fun v w1 H locs hpost hP hD hS => ?_)
  obtain ⟨rfl, rfl⟩ := hpost
  have hP := zr0' hP
  have hD := zr0D' hD
  have hP : va_P D vwCl (moW b sc tl cd (sk TX tl 0) cm h ++ (jrW ct (b 1) 94 M ++ (jrW ct (b 2) 94 SP ++ (jrW ct (b 3) 376 SV ++ (irW ct (b 4) 150 TX ++ (irW ct (b 5) 2 NB)))))) H := hP
  have hD : va_D A (moW b sc tl cd (sk TX tl 0) cm h ++ (jrW ct (b 1) 94 M ++ (jrW ct (b 2) 94 SP ++ (jrW ct (b 3) 376 SV ++ (irW ct (b 4) 150 TX ++ (irW ct (b 5) 2 NB)))))) := hD
  refine W.eq (g2 := F0 m 11 ls [.int (zI (zB (0 < sk TX tl 0)))]) rfl ?_
  refine lv_istore_n (lv' := [(2, .int (zI (zB (0 < sk TX tl 0)))), (1, .int (zI 1)), (0, .ref (b 0))]) hx hb dX9_isText_11 rfl hl (by decide) rfl (fun ls hl => ?_)
  refine z_loop (σ := Int × Int × (Int → Int) × Int) (fun q9 => (2 * (tl - q9.2.1) + q9.1).toNat) (fun q9 => (0 ≤ q9.2.1 ∧ q9.2.1 ≤ tl) ∧ ((q9.1 = 1 ∧ tf TX tl q9.2.1 = tf TX tl 0 ∧ sk TX tl q9.2.1 = q9.2.1) ∨ (q9.1 = 0 ∧ tf TX tl 0 = q9.2.1))) (fun q9 => moW b sc tl cd q9.2.1 q9.2.2.2 h ++ (jrW ct (b 1) 94 M ++ (jrW ct (b 2) 94 SP ++ (jrW ct (b 3) 376 SV ++ (irW ct (b 4) 150 TX ++ (irW ct (b 5) 2 q9.2.2.1)))))) (fun q9 => [(0, .ref (b 0)), (1, .int (zI q9.1))]) (fun q9 => []) (1, (sk TX tl 0), NB, cm) ⟨(show 0 ≤ (sk TX tl 0) ∧ (sk TX tl 0) ≤ tl from (by omega)), (show (1 = 1 ∧ tf TX tl (sk TX tl 0) = tf TX tl 0 ∧ sk TX tl (sk TX tl 0) = (sk TX tl 0)) ∨ (1 = 0 ∧ tf TX tl 0 = (sk TX tl 0)) from (by exact Or.inl ⟨rfl, tf_sk (by omega) t1.1, sk_sk t1.1⟩))⟩ hP hD hS (lv_sub hl [2, 1] rfl) rfl ?_
  rintro ⟨g, x, NB2, cm2⟩ hI_12 ih_12 H locs ls hP hD hS hl
  obtain ⟨hx_, hg⟩ := hI_12
  have hx_ : 0 ≤ x ∧ x ≤ tl := hx_
  have hg : (g = 1 ∧ tf TX tl x = tf TX tl 0 ∧ sk TX tl x = x) ∨ (g = 0 ∧ tf TX tl 0 = x) := hg
  have hP : va_P D vwCl (moW b sc tl cd x cm2 h ++ (jrW ct (b 1) 94 M ++ (jrW ct (b 2) 94 SP ++ (jrW ct (b 3) 376 SV ++ (irW ct (b 4) 150 TX ++ (irW ct (b 5) 2 NB2)))))) H := hP
  have hD : va_D A (moW b sc tl cd x cm2 h ++ (jrW ct (b 1) 94 M ++ (jrW ct (b 2) 94 SP ++ (jrW ct (b 3) 376 SV ++ (irW ct (b 4) 150 TX ++ (irW ct (b 5) 2 NB2)))))) := hD
  have hl : lv_has ls 3 [(0, .ref (b 0)), (1, .int (zI g))] := hl
  refine lv_iload_n hx hb dX9_isText_12 rfl (lv_at hl 1 rfl) ?_
  refine z_if_eq (tgt := 52) hx hb dX9_isText_13 (by decide) (by omega) (fun hc_13 => ?_) (fun hc_13 => ?_)
  · have hc_13 := hc_13
    refine lv_iload_n hx hb dX9_isText_52 rfl (lv_at hl 1 rfl) ?_
    refine z_canI (show g = 0 from (by omega)) ?_
    exact z_zret hx hb hr (by first | rfl | exact zB_nar) hlocks hP hD hS ⟨Nat.le_of_ble_eq_true rfl, Nat.le_of_ble_eq_true rfl⟩ dX9_isText_53 (⟨NB2, cm2, trivial, rfl, by rw [show tf TX tl 0 = x by omega]⟩)
  · have hc_13 := hc_13
    have hg1 : tf TX tl x = tf TX tl 0 := by omega
    have hg2 : sk TX tl x = x := by omega
    have tA := tf_at hx_.1 hg2
    refine lv_aload_n hx hb dX9_isText_16 rfl (lv_at hl 0 rfl) ?_
    refine va_get (D := D) (ci := 7) (v := .int (zI x)) (C := RX9) (T := TX9) (N := 11) hx hb hts hin_X9 hown hK hP 0 rfl rfl 7 (by decide) hf_0 (fun _ h9 => h9) rfl dX9_isText_17 ?_
    refine lv_aload_n hx hb dX9_isText_20 rfl (lv_at hl 0 rfl) ?_
    refine va_get (D := D) (ci := 7) (v := .int (zI tl)) (C := RX9) (T := TX9) (N := 11) hx hb hts hin_X9 hown hK hP 0 rfl rfl 5 (by decide) hf_1 (fun _ h9 => h9) rfl dX9_isText_21 ?_
    refine z_icmp_ge (tgt := 52) hx hb dX9_isText_24 (by decide) (by omega) (by omega) (fun hc_24 => ?_) (fun hc_24 => ?_)
    · have hc_24 := hc_24
      exfalso; rw [if_neg (by omega)] at tA; omega
    · have hc_24 := hc_24
      by_cases jF : cf TX tl x = -1
      · skip
        refine lv_aload_n hx hb dX9_isText_27 rfl (lv_at hl 0 rfl) ?_
        refine z_callV (C := RX9) (q0 := 0) (ci := 7) (As := []) (rest := []) ([] : va_W) ([] : va_W) hx hb hml hown hts hl hE hS hA (zr0 ([] : va_W) hP) (zr0D ([] : va_W) hD) (c_X9_readCommand_ok l D ct ad b M SP SV TX NB2 sc tl cd x cm2 h (by assumption) (by omega) jF) gX9_isText_X9_readCommand rfl rfl k_X9_readCommand ⟨Nat.le_of_ble_eq_true rfl, Nat.le_of_ble_eq_true rfl⟩ rfl rfl rfl rfl (Nat.le_of_ble_eq_true rfl) ⟨Nat.le_of_ble_eq_true rfl, Nat.le_of_ble_eq_true rfl⟩ dX9_isText_28 rfl (fun v w1 H locs hpost hP hD hS => ?_)
        obtain ⟨NB2_28, ⟨hx0_28, hx1_28⟩, rfl, rfl⟩ := hpost
        have hP := zr0' hP
        have hD := zr0D' hD
        have hP : va_P D vwCl (moW b sc tl cd (cp TX tl x) (cc TX tl x) h ++ (jrW ct (b 1) 94 M ++ (jrW ct (b 2) 94 SP ++ (jrW ct (b 3) 376 SV ++ (irW ct (b 4) 150 TX ++ (irW ct (b 5) 2 NB2_28)))))) H := hP
        have hD : va_D A (moW b sc tl cd (cp TX tl x) (cc TX tl x) h ++ (jrW ct (b 1) 94 M ++ (jrW ct (b 2) 94 SP ++ (jrW ct (b 3) 376 SV ++ (irW ct (b 4) 150 TX ++ (irW ct (b 5) 2 NB2_28)))))) := hD
        refine W.eq (g2 := F0 m 31 ls [.int (zI 1)]) rfl ?_
        have cB := cf_B (TX := TX) (q := x) hx_.1 hx_.2
        refine lv_istore_n (lv' := [(1, .int (zI 1)), (0, .ref (b 0))]) hx hb dX9_isText_31 rfl hl (by decide) rfl (fun ls hl => ?_)
        refine lv_iload_n hx hb dX9_isText_32 rfl (lv_at hl 0 rfl) ?_
        refine z_if_eq (tgt := 47) hx hb dX9_isText_33 (by decide) (by omega) (fun hc_33 => ?_) (fun hc_33 => ?_)
        · have hc_33 := hc_33
          omega
        · have hc_33 := hc_33
          have sB := sk_B (TX := TX) (tl := tl) (p := cp TX tl x) (by omega)
          refine lv_aload_n hx hb dX9_isText_36 rfl (lv_at hl 1 rfl) ?_
          refine z_callV (C := RX9) (q0 := 0) (ci := 7) (As := []) (rest := []) ([] : va_W) ([] : va_W) hx hb hml hown hts hl hE hS hA (zr0 ([] : va_W) hP) (zr0D ([] : va_W) hD) (c_X9_skips l D ct ad b M SP SV TX NB2_28 sc tl cd (cp TX tl x) (cc TX tl x) h (by assumption) (by omega)) gX9_isText_X9_skips rfl rfl k_X9_skips ⟨Nat.le_of_ble_eq_true rfl, Nat.le_of_ble_eq_true rfl⟩ rfl rfl rfl rfl (Nat.le_of_ble_eq_true rfl) ⟨Nat.le_of_ble_eq_true rfl, Nat.le_of_ble_eq_true rfl⟩ dX9_isText_37 rfl (fun v w1 H locs hpost hP hD hS => ?_)
          obtain ⟨rfl, rfl⟩ := hpost
          have hP := zr0' hP
          have hD := zr0D' hD
          have hP : va_P D vwCl (moW b sc tl cd (sk TX tl (cp TX tl x)) (cc TX tl x) h ++ (jrW ct (b 1) 94 M ++ (jrW ct (b 2) 94 SP ++ (jrW ct (b 3) 376 SV ++ (irW ct (b 4) 150 TX ++ (irW ct (b 5) 2 NB2_28)))))) H := hP
          have hD : va_D A (moW b sc tl cd (sk TX tl (cp TX tl x)) (cc TX tl x) h ++ (jrW ct (b 1) 94 M ++ (jrW ct (b 2) 94 SP ++ (jrW ct (b 3) 376 SV ++ (irW ct (b 4) 150 TX ++ (irW ct (b 5) 2 NB2_28)))))) := hD
          refine W.eq (g2 := F0 m 40 ls [.int (zI (zB ((cp TX tl x) < sk TX tl (cp TX tl x))))]) rfl ?_
          refine zb_if_eq (tgt := 47) hx hb dX9_isText_40 (by decide) (fun hc_40 => ?_) (fun hc_40 => ?_)
          · have hc_40 := hc_40
            refine z_iconst hx hb dX9_isText_47 ?_
            refine lv_istore_n (lv' := [(2, .int (zI 0)), (1, .int (zI 1)), (0, .ref (b 0))]) hx hb dX9_isText_48 rfl hl (by decide) rfl (fun ls hl => ?_)
            refine lv_goto (tgt := 12) hx hb dX9_isText_49 (by decide) ?_
            exact ih_12 (1, (sk TX tl (cp TX tl x)), NB2_28, (cc TX tl x)) ⟨(show 0 ≤ (sk TX tl (cp TX tl x)) ∧ (sk TX tl (cp TX tl x)) ≤ tl from (by omega)), (show (1 = 1 ∧ tf TX tl (sk TX tl (cp TX tl x)) = tf TX tl 0 ∧ sk TX tl (sk TX tl (cp TX tl x)) = (sk TX tl (cp TX tl x))) ∨ (1 = 0 ∧ tf TX tl 0 = (sk TX tl (cp TX tl x))) from (by first | exact Or.inr ⟨rfl, by rw [← hg1, tA, if_pos (by omega), if_neg jF]⟩ | exact Or.inl ⟨rfl, by rw [tf_sk (by omega) (by omega), ← hg1, tA, if_pos (by omega), if_pos jF], sk_sk (by omega)⟩))⟩ (show (2 * (tl - (sk TX tl (cp TX tl x))) + 1).toNat < (2 * (tl - x) + g).toNat from (by omega)) _ _ _ hP hD hS (lv_sub hl [2, 1] rfl)
          · have hc_40 := hc_40
            refine z_iconst hx hb dX9_isText_43 ?_
            refine lv_goto (tgt := 48) hx hb dX9_isText_44 (by decide) ?_
            refine lv_istore_n (lv' := [(2, .int (zI 1)), (1, .int (zI 1)), (0, .ref (b 0))]) hx hb dX9_isText_48 rfl hl (by decide) rfl (fun ls hl => ?_)
            refine lv_goto (tgt := 12) hx hb dX9_isText_49 (by decide) ?_
            exact ih_12 (1, (sk TX tl (cp TX tl x)), NB2_28, (cc TX tl x)) ⟨(show 0 ≤ (sk TX tl (cp TX tl x)) ∧ (sk TX tl (cp TX tl x)) ≤ tl from (by omega)), (show (1 = 1 ∧ tf TX tl (sk TX tl (cp TX tl x)) = tf TX tl 0 ∧ sk TX tl (sk TX tl (cp TX tl x)) = (sk TX tl (cp TX tl x))) ∨ (1 = 0 ∧ tf TX tl 0 = (sk TX tl (cp TX tl x))) from (by first | exact Or.inr ⟨rfl, by rw [← hg1, tA, if_pos (by omega), if_neg jF]⟩ | exact Or.inl ⟨rfl, by rw [tf_sk (by omega) (by omega), ← hg1, tA, if_pos (by omega), if_pos jF], sk_sk (by omega)⟩))⟩ (show (2 * (tl - (sk TX tl (cp TX tl x))) + 1).toNat < (2 * (tl - x) + g).toNat from (by omega)) _ _ _ hP hD hS (lv_sub hl [2, 1] rfl)
      · skip
        refine lv_aload_n hx hb dX9_isText_27 rfl (lv_at hl 0 rfl) ?_
        refine z_callV (C := RX9) (q0 := 0) (ci := 7) (As := []) (rest := []) ([] : va_W) ([] : va_W) hx hb hml hown hts hl hE hS hA (zr0 ([] : va_W) hP) (zr0D ([] : va_W) hD) (c_X9_readCommand_no l D ct ad b M SP SV TX NB2 sc tl cd x cm2 h (by assumption) (by omega) jF) gX9_isText_X9_readCommand rfl rfl k_X9_readCommand ⟨Nat.le_of_ble_eq_true rfl, Nat.le_of_ble_eq_true rfl⟩ rfl rfl rfl rfl (Nat.le_of_ble_eq_true rfl) ⟨Nat.le_of_ble_eq_true rfl, Nat.le_of_ble_eq_true rfl⟩ dX9_isText_28 rfl (fun v w1 H locs hpost hP hD hS => ?_)
        obtain ⟨NB2_28, cm2_28, hx0_28, rfl, rfl⟩ := hpost
        have hP := zr0' hP
        have hD := zr0D' hD
        have hP : va_P D vwCl (moW b sc tl cd (cf TX tl x) cm2_28 h ++ (jrW ct (b 1) 94 M ++ (jrW ct (b 2) 94 SP ++ (jrW ct (b 3) 376 SV ++ (irW ct (b 4) 150 TX ++ (irW ct (b 5) 2 NB2_28)))))) H := hP
        have hD : va_D A (moW b sc tl cd (cf TX tl x) cm2_28 h ++ (jrW ct (b 1) 94 M ++ (jrW ct (b 2) 94 SP ++ (jrW ct (b 3) 376 SV ++ (irW ct (b 4) 150 TX ++ (irW ct (b 5) 2 NB2_28)))))) := hD
        refine W.eq (g2 := F0 m 31 ls [.int (zI 0)]) rfl ?_
        have cG := cf_ge (TX := TX) hx_.2 jF
        refine lv_istore_n (lv' := [(1, .int (zI 0)), (0, .ref (b 0))]) hx hb dX9_isText_31 rfl hl (by decide) rfl (fun ls hl => ?_)
        refine lv_iload_n hx hb dX9_isText_32 rfl (lv_at hl 0 rfl) ?_
        refine z_if_eq (tgt := 47) hx hb dX9_isText_33 (by decide) (by omega) (fun hc_33 => ?_) (fun hc_33 => ?_)
        · have hc_33 := hc_33
          refine z_iconst hx hb dX9_isText_47 ?_
          refine lv_istore_n (lv' := [(2, .int (zI 0)), (1, .int (zI 0)), (0, .ref (b 0))]) hx hb dX9_isText_48 rfl hl (by decide) rfl (fun ls hl => ?_)
          refine lv_goto (tgt := 12) hx hb dX9_isText_49 (by decide) ?_
          exact ih_12 (0, (cf TX tl x), NB2_28, cm2_28) ⟨(show 0 ≤ (cf TX tl x) ∧ (cf TX tl x) ≤ tl from (by omega)), (show (0 = 1 ∧ tf TX tl (cf TX tl x) = tf TX tl 0 ∧ sk TX tl (cf TX tl x) = (cf TX tl x)) ∨ (0 = 0 ∧ tf TX tl 0 = (cf TX tl x)) from (by first | exact Or.inr ⟨rfl, by rw [← hg1, tA, if_pos (by omega), if_neg jF]⟩ | exact Or.inl ⟨rfl, by rw [tf_sk (by omega) (by omega), ← hg1, tA, if_pos (by omega), if_pos jF], sk_sk (by omega)⟩))⟩ (show (2 * (tl - (cf TX tl x)) + 0).toNat < (2 * (tl - x) + g).toNat from (by omega)) _ _ _ hP hD hS (lv_sub hl [2, 1] rfl)
        · have hc_33 := hc_33
          omega
theorem k_X9_isText : yX9_isText.cls ≠ "java/lang/invoke/MethodHandle" ∧ yX9_isText.cls ≠ "java/lang/invoke/VarHandle" ∧ (parseMethodDescriptor yX9_isText.desc).map (fun d => d.parameters.length) = some 0 := by decide +kernel
set_option maxHeartbeats 4000000 in
set_option maxRecDepth 100000 in
theorem c_X9_runCommands_no (l : Launch) (D : va_G) (ct ad : Nat → Nat) (b : Nat → Nat) (M SP SV TX NB : Int → Int) (sc tl cd pl cm h : Int) (ht : tInv TX tl) (hI : sInv M) (hno : tf TX tl 0 ≠ -1) : ZM l yX9_runCommands wsX9_runCommands ({ frames := 5, cells := 0, slots := 0, locals := 107 } : Room) D ct ad [.ref (b 0)] (moW b sc tl cd pl cm h ++ (jrW ct (b 1) 94 M ++ (jrW ct (b 2) 94 SP ++ (jrW ct (b 3) 376 SV ++ (irW ct (b 4) 150 TX ++ (irW ct (b 5) 2 NB)))))) (fun v w => ∃ (NB3 : Int → Int) (cm3 : Int), ((True)) ∧ v = (some (.int (zI (-10 - tf TX tl 0)))) ∧ w = moW b sc tl 0 (tf TX tl 0) cm3 h ++ (jrW ct (b 1) 94 M ++ (jrW ct (b 2) 94 SP ++ (jrW ct (b 3) 376 SV ++ (irW ct (b 4) 150 TX ++ (irW ct (b 5) 2 NB3)))))) := by
  refine ZM.of (cc := cX9_runCommands) (maxL := 5) (ret := (some .int)) (by decide +kernel) rfl (Nat.le_of_ble_eq_true rfl) ?_
  intro p e s m below meth c A ls hx hb hr hts hown hlocks hml hname hE hP hD hA hS hl
  have hK := hE.1
  have hf_0 := hts (.fieldLink RX9 42 "RodGridsModel" "code" "I") (by decide +kernel)
  have hf_1 := hts (.fieldLink RX9 230 "RodGridsModel" "place" "I") (by decide +kernel)
  have hin_X9 : ∀ z ∈ u_ws RX9 TX9 11, z ∈ wsX9_runCommands := by decide +kernel
  have hl : lv_has ls 5 [(0, .ref (b 0))] := hl
  refine lv_aload_n hx hb dX9_runCommands_0 rfl (lv_at hl 0 rfl) ?_
  refine z_iconst hx hb dX9_runCommands_1 ?_
  refine z_put (ct := ct) (ad := ad) (ci := 7) (v := .int (zI 0)) (ty := tyX9 6) (C := RX9) (T := TX9) (N := 11) (w2 := moW b sc tl 0 pl cm h ++ (jrW ct (b 1) 94 M ++ (jrW ct (b 2) 94 SP ++ (jrW ct (b 3) 376 SV ++ (irW ct (b 4) 150 TX ++ (irW ct (b 5) 2 NB)))))) hx hb hts hin_X9 tyX9 tyX9_ok nmX9 hown hE hP hD hS 0 rfl rfl 6 (by decide) hf_0 (fun _ h9 => h9) rfl (by decide +kernel) rfl rfl (Nat.le_of_ble_eq_true rfl) dX9_runCommands_2 (rfl) (fun H locs hP hD hS => ?_)
  refine lv_aload_n hx hb dX9_runCommands_5 rfl (lv_at hl 0 rfl) ?_
  refine z_callV (C := RX9) (q0 := 0) (ci := 7) (As := []) (rest := []) ([] : va_W) ([] : va_W) hx hb hml hown hts hl hE hS hA (zr0 ([] : va_W) hP) (zr0D ([] : va_W) hD) (c_X9_isText_no l D ct ad b M SP SV TX NB sc tl 0 pl cm h (by assumption) hno) gX9_runCommands_X9_isText rfl rfl k_X9_isText ⟨Nat.le_of_ble_eq_true rfl, Nat.le_of_ble_eq_true rfl⟩ rfl rfl rfl rfl (Nat.le_of_ble_eq_true rfl) ⟨Nat.le_of_ble_eq_true rfl, Nat.le_of_ble_eq_true rfl⟩ dX9_runCommands_6 rfl (fun v w1 H locs hpost hP hD hS => ?_)
  obtain ⟨NB3_6, cm3_6, hx0_6, rfl, rfl⟩ := hpost
  have hP := zr0' hP
  have hD := zr0D' hD
  have hP : va_P D vwCl (moW b sc tl 0 (tf TX tl 0) cm3_6 h ++ (jrW ct (b 1) 94 M ++ (jrW ct (b 2) 94 SP ++ (jrW ct (b 3) 376 SV ++ (irW ct (b 4) 150 TX ++ (irW ct (b 5) 2 NB3_6)))))) H := hP
  have hD : va_D A (moW b sc tl 0 (tf TX tl 0) cm3_6 h ++ (jrW ct (b 1) 94 M ++ (jrW ct (b 2) 94 SP ++ (jrW ct (b 3) 376 SV ++ (irW ct (b 4) 150 TX ++ (irW ct (b 5) 2 NB3_6)))))) := hD
  refine W.eq (g2 := F0 m 9 ls [.int (zI 0)]) rfl ?_
  refine z_if_ne (tgt := 20) hx hb dX9_runCommands_9 (by decide) (by omega) (fun hc_9 => ?_) (fun hc_9 => ?_)
  · have hc_9 := hc_9
    omega
  · have hc_9 := hc_9
    refine z_bipush hx hb dX9_runCommands_12 (by decide) ?_
    refine lv_aload_n hx hb dX9_runCommands_14 rfl (lv_at hl 0 rfl) ?_
    refine va_get (D := D) (ci := 7) (v := .int (zI (tf TX tl 0))) (C := RX9) (T := TX9) (N := 11) hx hb hts hin_X9 hown hK hP 0 rfl rfl 7 (by decide) hf_1 (fun _ h9 => h9) rfl dX9_runCommands_15 ?_
    refine z_isub hx hb dX9_runCommands_18 ?_
    exact z_iret hx hb hr hlocks hP hD hS ⟨Nat.le_of_ble_eq_true rfl, Nat.le_of_ble_eq_true rfl⟩ dX9_runCommands_19 (⟨NB3_6, cm3_6, trivial, rfl, rfl⟩)
theorem k_X9_carryOut : yX9_carryOut.cls ≠ "java/lang/invoke/MethodHandle" ∧ yX9_carryOut.cls ≠ "java/lang/invoke/VarHandle" ∧ (parseMethodDescriptor yX9_carryOut.desc).map (fun d => d.parameters.length) = some 0 := by decide +kernel
theorem k_X9_whyNot : yX9_whyNot.cls ≠ "java/lang/invoke/MethodHandle" ∧ yX9_whyNot.cls ≠ "java/lang/invoke/VarHandle" ∧ (parseMethodDescriptor yX9_whyNot.desc).map (fun d => d.parameters.length) = some 0 := by decide +kernel
set_option maxHeartbeats 4000000 in
set_option maxRecDepth 100000 in
theorem c_X9_runCommands_ok (l : Launch) (D : va_G) (ct ad : Nat → Nat) (b : Nat → Nat) (M SP SV TX NB : Int → Int) (sc tl cd pl cm h : Int) (ht : tInv TX tl) (hI : sInv M) (hsc : 0 ≤ sc ∧ sc ≤ 4) (hok : tf TX tl 0 = -1) : ZM l yX9_runCommands wsX9_runCommands ({ frames := 9, cells := 0, slots := 0, locals := 196 } : Room) D ct ad [.ref (b 0)] (moW b sc tl cd pl cm h ++ (jrW ct (b 1) 94 M ++ (jrW ct (b 2) 94 SP ++ (jrW ct (b 3) 376 SV ++ (irW ct (b 4) 150 TX ++ (irW ct (b 5) 2 NB)))))) (fun v w => ∃ (pl4 : Int) (NB4 : Int → Int) (cm4 : Int), ((True)) ∧ v = (some (.int (zI ((run TX tl M 0 0).2)))) ∧ w = moW b (sv_n sc + 1) tl 0 pl4 cm4 h ++ (jrW ct (b 1) 94 ((run TX tl M 0 0).1) ++ (jrW ct (b 2) 94 SP ++ (jrW ct (b 3) 376 (sv_keep SV M sc) ++ (irW ct (b 4) 150 TX ++ (irW ct (b 5) 2 NB4)))))) := by
  refine ZM.of (cc := cX9_runCommands) (maxL := 5) (ret := (some .int)) (by decide +kernel) rfl (Nat.le_of_ble_eq_true rfl) ?_
  intro p e s m below meth c A ls hx hb hr hts hown hlocks hml hname hE hP hD hA hS hl
  have hK := hE.1
  have hf_0 := hts (.fieldLink RX9 42 "RodGridsModel" "code" "I") (by decide +kernel)
  have hf_1 := hts (.fieldLink RX9 230 "RodGridsModel" "place" "I") (by decide +kernel)
  have hf_2 := hts (.fieldLink RX9 197 "RodGridsModel" "textLength" "I") (by decide +kernel)
  have hin_X9 : ∀ z ∈ u_ws RX9 TX9 11, z ∈ wsX9_runCommands := by decide +kernel
  have hl : lv_has ls 5 [(0, .ref (b 0))] := hl
  have t1 := ht.1
  have s0 := sk_B (TX := TX) (tl := tl) (p := 0) t1.1
  refine lv_aload_n hx hb dX9_runCommands_0 rfl (lv_at hl 0 rfl) ?_
  refine z_iconst hx hb dX9_runCommands_1 ?_
  refine z_put (ct := ct) (ad := ad) (ci := 7) (v := .int (zI 0)) (ty := tyX9 6) (C := RX9) (T := TX9) (N := 11) (w2 := moW b sc tl 0 pl cm h ++ (jrW ct (b 1) 94 M ++ (jrW ct (b 2) 94 SP ++ (jrW ct (b 3) 376 SV ++ (irW ct (b 4) 150 TX ++ (irW ct (b 5) 2 NB)))))) hx hb hts hin_X9 tyX9 tyX9_ok nmX9 hown hE hP hD hS 0 rfl rfl 6 (by decide) hf_0 (fun _ h9 => h9) rfl (by decide +kernel) rfl rfl (Nat.le_of_ble_eq_true rfl) dX9_runCommands_2 (rfl) (fun H locs hP hD hS => ?_)
  refine lv_aload_n hx hb dX9_runCommands_5 rfl (lv_at hl 0 rfl) ?_
  refine z_callV (C := RX9) (q0 := 0) (ci := 7) (As := []) (rest := []) ([] : va_W) ([] : va_W) hx hb hml hown hts hl hE hS hA (zr0 ([] : va_W) hP) (zr0D ([] : va_W) hD) (c_X9_isText_ok l D ct ad b M SP SV TX NB sc tl 0 pl cm h (by assumption) hok) gX9_runCommands_X9_isText rfl rfl k_X9_isText ⟨Nat.le_of_ble_eq_true rfl, Nat.le_of_ble_eq_true rfl⟩ rfl rfl rfl rfl (Nat.le_of_ble_eq_true rfl) ⟨Nat.le_of_ble_eq_true rfl, Nat.le_of_ble_eq_true rfl⟩ dX9_runCommands_6 rfl (fun v w1 H locs hpost hP hD hS => ?_)
  obtain ⟨pl2_6, NB3_6, cm3_6, hx0_6, rfl, rfl⟩ := hpost
  have hP := zr0' hP
  have hD := zr0D' hD
  have hP : va_P D vwCl (moW b sc tl 0 pl2_6 cm3_6 h ++ (jrW ct (b 1) 94 M ++ (jrW ct (b 2) 94 SP ++ (jrW ct (b 3) 376 SV ++ (irW ct (b 4) 150 TX ++ (irW ct (b 5) 2 NB3_6)))))) H := hP
  have hD : va_D A (moW b sc tl 0 pl2_6 cm3_6 h ++ (jrW ct (b 1) 94 M ++ (jrW ct (b 2) 94 SP ++ (jrW ct (b 3) 376 SV ++ (irW ct (b 4) 150 TX ++ (irW ct (b 5) 2 NB3_6)))))) := hD
  refine W.eq (g2 := F0 m 9 ls [.int (zI 1)]) rfl ?_
  refine z_if_ne (tgt := 20) hx hb dX9_runCommands_9 (by decide) (by omega) (fun hc_9 => ?_) (fun hc_9 => ?_)
  · have hc_9 := hc_9
    refine lv_aload_n hx hb dX9_runCommands_20 rfl (lv_at hl 0 rfl) ?_
    refine z_callV (C := RX9) (q0 := 0) (ci := 7) (As := []) (rest := []) ([] : va_W) ([] : va_W) hx hb hml hown hts hl hE hS hA (zr0 ([] : va_W) hP) (zr0D ([] : va_W) hD) (c_X9_keep l D ct ad b M SP SV TX NB3_6 sc tl 0 pl2_6 cm3_6 h (by omega)) gX9_runCommands_X9_keep rfl rfl k_X9_keep ⟨Nat.le_of_ble_eq_true rfl, Nat.le_of_ble_eq_true rfl⟩ rfl rfl rfl rfl (Nat.le_of_ble_eq_true rfl) ⟨Nat.le_of_ble_eq_true rfl, Nat.le_of_ble_eq_true rfl⟩ dX9_runCommands_21 rfl (fun v w1 H locs hpost hP hD hS => ?_)
    obtain ⟨rfl, rfl⟩ := hpost
    have hP := zr0' hP
    have hD := zr0D' hD
    have hP : va_P D vwCl (moW b (sv_n sc + 1) tl 0 pl2_6 cm3_6 h ++ (jrW ct (b 1) 94 M ++ (jrW ct (b 2) 94 SP ++ (jrW ct (b 3) 376 (sv_keep SV M sc) ++ (irW ct (b 4) 150 TX ++ (irW ct (b 5) 2 NB3_6)))))) H := hP
    have hD : va_D A (moW b (sv_n sc + 1) tl 0 pl2_6 cm3_6 h ++ (jrW ct (b 1) 94 M ++ (jrW ct (b 2) 94 SP ++ (jrW ct (b 3) 376 (sv_keep SV M sc) ++ (irW ct (b 4) 150 TX ++ (irW ct (b 5) 2 NB3_6)))))) := hD
    refine W.eq (g2 := F0 m 24 ls []) rfl ?_
    refine lv_aload_n hx hb dX9_runCommands_24 rfl (lv_at hl 0 rfl) ?_
    refine z_iconst hx hb dX9_runCommands_25 ?_
    refine z_put (ct := ct) (ad := ad) (ci := 7) (v := .int (zI 0)) (ty := tyX9 7) (C := RX9) (T := TX9) (N := 11) (w2 := moW b (sv_n sc + 1) tl 0 0 cm3_6 h ++ (jrW ct (b 1) 94 M ++ (jrW ct (b 2) 94 SP ++ (jrW ct (b 3) 376 (sv_keep SV M sc) ++ (irW ct (b 4) 150 TX ++ (irW ct (b 5) 2 NB3_6)))))) hx hb hts hin_X9 tyX9 tyX9_ok nmX9 hown hE hP hD hS 0 rfl rfl 7 (by decide) hf_1 (fun _ h9 => h9) rfl (by decide +kernel) rfl rfl (Nat.le_of_ble_eq_true rfl) dX9_runCommands_26 (rfl) (fun H locs hP hD hS => ?_)
    refine z_iconst hx hb dX9_runCommands_29 ?_
    refine lv_istore_n (lv' := [(1, .int (zI 0)), (0, .ref (b 0))]) hx hb dX9_runCommands_30 rfl hl (by decide) rfl (fun ls hl => ?_)
    refine z_iconst hx hb dX9_runCommands_31 ?_
    refine lv_istore_n (lv' := [(2, .int (zI 1)), (1, .int (zI 0)), (0, .ref (b 0))]) hx hb dX9_runCommands_32 rfl hl (by decide) rfl (fun ls hl => ?_)
    refine lv_aload_n hx hb dX9_runCommands_33 rfl (lv_at hl 2 rfl) ?_
    refine z_callV (C := RX9) (q0 := 0) (ci := 7) (As := []) (rest := []) ([] : va_W) ([] : va_W) hx hb hml hown hts hl hE hS hA (zr0 ([] : va_W) hP) (zr0D ([] : va_W) hD) (c_X9_skips l D ct ad b M SP (sv_keep SV M sc) TX NB3_6 (sv_n sc + 1) tl 0 0 cm3_6 h (by assumption) (by omega)) gX9_runCommands_X9_skips rfl rfl k_X9_skips ⟨Nat.le_of_ble_eq_true rfl, Nat.le_of_ble_eq_true rfl⟩ rfl rfl rfl rfl (Nat.le_of_ble_eq_true rfl) ⟨Nat.le_of_ble_eq_true rfl, Nat.le_of_ble_eq_true rfl⟩ dX9_runCommands_34 rfl (fun v w1 H locs hpost hP hD hS => ?_)
    obtain ⟨rfl, rfl⟩ := hpost
    have hP := zr0' hP
    have hD := zr0D' hD
    have hP : va_P D vwCl (moW b (sv_n sc + 1) tl 0 (sk TX tl 0) cm3_6 h ++ (jrW ct (b 1) 94 M ++ (jrW ct (b 2) 94 SP ++ (jrW ct (b 3) 376 (sv_keep SV M sc) ++ (irW ct (b 4) 150 TX ++ (irW ct (b 5) 2 NB3_6)))))) H := hP
    have hD : va_D A (moW b (sv_n sc + 1) tl 0 (sk TX tl 0) cm3_6 h ++ (jrW ct (b 1) 94 M ++ (jrW ct (b 2) 94 SP ++ (jrW ct (b 3) 376 (sv_keep SV M sc) ++ (irW ct (b 4) 150 TX ++ (irW ct (b 5) 2 NB3_6)))))) := hD
    refine W.eq (g2 := F0 m 37 ls [.int (zI (zB (0 < sk TX tl 0)))]) rfl ?_
    refine lv_istore_n (lv' := [(3, .int (zI (zB (0 < sk TX tl 0)))), (2, .int (zI 1)), (1, .int (zI 0)), (0, .ref (b 0))]) hx hb dX9_runCommands_37 rfl hl (by decide) rfl (fun ls hl => ?_)
    refine z_loop (σ := Int × Int × Int × (Int → Int) × (Int → Int) × Int) (fun q9 => (2 * (tl - q9.2.2.1) + q9.2.1).toNat) (fun q9 => (0 ≤ q9.2.2.1 ∧ q9.2.2.1 ≤ tl) ∧ (sInv q9.2.2.2.1) ∧ (0 ≤ q9.1 ∧ q9.1 ≤ q9.2.2.1) ∧ ((q9.2.1 = 1 ∧ (run TX tl q9.2.2.2.1 q9.2.2.1 q9.1 = run TX tl M 0 0 ∧ tf TX tl q9.2.2.1 = -1 ∧ sk TX tl q9.2.2.1 = q9.2.2.1)) ∨ (q9.2.1 = 0 ∧ (q9.2.2.2.1, q9.1) = run TX tl M 0 0))) (fun q9 => moW b (sv_n sc + 1) tl 0 q9.2.2.1 q9.2.2.2.2.2 h ++ (jrW ct (b 1) 94 q9.2.2.2.1 ++ (jrW ct (b 2) 94 SP ++ (jrW ct (b 3) 376 (sv_keep SV M sc) ++ (irW ct (b 4) 150 TX ++ (irW ct (b 5) 2 q9.2.2.2.2.1)))))) (fun q9 => [(0, .ref (b 0)), (1, .int (zI q9.1)), (2, .int (zI q9.2.1))]) (fun q9 => []) (0, 1, (sk TX tl 0), M, NB3_6, cm3_6) ⟨(show 0 ≤ (sk TX tl 0) ∧ (sk TX tl 0) ≤ tl from (by omega)), (show sInv M from (by assumption)), (show 0 ≤ 0 ∧ 0 ≤ (sk TX tl 0) from (by omega)), (show (1 = 1 ∧ (run TX tl M (sk TX tl 0) 0 = run TX tl M 0 0 ∧ tf TX tl (sk TX tl 0) = -1 ∧ sk TX tl (sk TX tl 0) = (sk TX tl 0))) ∨ (1 = 0 ∧ (M, 0) = run TX tl M 0 0) from (by exact Or.inl ⟨rfl, run_sk (by omega) t1.1, by rw [tf_sk (by omega) t1.1]; exact hok, sk_sk t1.1⟩))⟩ hP hD hS (lv_sub hl [3, 2, 1] rfl) rfl ?_
    rintro ⟨n_, g, x, N, NB2, cm2⟩ hI_38 ih_38 H locs ls hP hD hS hl
    obtain ⟨hx_, hz, hn, hg⟩ := hI_38
    have hx_ : 0 ≤ x ∧ x ≤ tl := hx_
    have hz : sInv N := hz
    have hn : 0 ≤ n_ ∧ n_ ≤ x := hn
    have hg : (g = 1 ∧ (run TX tl N x n_ = run TX tl M 0 0 ∧ tf TX tl x = -1 ∧ sk TX tl x = x)) ∨ (g = 0 ∧ (N, n_) = run TX tl M 0 0) := hg
    have hP : va_P D vwCl (moW b (sv_n sc + 1) tl 0 x cm2 h ++ (jrW ct (b 1) 94 N ++ (jrW ct (b 2) 94 SP ++ (jrW ct (b 3) 376 (sv_keep SV M sc) ++ (irW ct (b 4) 150 TX ++ (irW ct (b 5) 2 NB2)))))) H := hP
    have hD : va_D A (moW b (sv_n sc + 1) tl 0 x cm2 h ++ (jrW ct (b 1) 94 N ++ (jrW ct (b 2) 94 SP ++ (jrW ct (b 3) 376 (sv_keep SV M sc) ++ (irW ct (b 4) 150 TX ++ (irW ct (b 5) 2 NB2)))))) := hD
    have hl : lv_has ls 5 [(0, .ref (b 0)), (1, .int (zI n_)), (2, .int (zI g))] := hl
    refine lv_iload_n hx hb dX9_runCommands_38 rfl (lv_at hl 2 rfl) ?_
    refine z_if_eq (tgt := 94) hx hb dX9_runCommands_39 (by decide) (by omega) (fun hc_39 => ?_) (fun hc_39 => ?_)
    · have hc_39 := hc_39
      have hE2 : (N, n_) = run TX tl M 0 0 := by rcases hg with q | q; exact (by have rA := run_at (TX := TX) (tl := tl) (M := N) (n := n_) hx_.1 q.2.2.2; rw [← q.2.1, rA, if_neg (by omega)]); exact q.2
      refine lv_iload_n hx hb dX9_runCommands_94 rfl (lv_at hl 1 rfl) ?_
      exact z_iret hx hb hr hlocks hP hD hS ⟨Nat.le_of_ble_eq_true rfl, Nat.le_of_ble_eq_true rfl⟩ dX9_runCommands_95 (⟨x, NB2, cm2, trivial, by rw [← hE2], by rw [← hE2]⟩)
    · have hc_39 := hc_39
      have hg1 : run TX tl N x n_ = run TX tl M 0 0 ∧ tf TX tl x = -1 ∧ sk TX tl x = x := by rcases hg with q | q; exact q.2; exact absurd q.1 hc_39
      have hgg : g = 1 := by rcases hg with q | q; exact q.1; exact absurd q.1 hc_39
      have tA := tf_at (TX := TX) (tl := tl) hx_.1 hg1.2.2
      have rA := run_at (TX := TX) (tl := tl) (M := N) (n := n_) hx_.1 hg1.2.2
      refine lv_aload_n hx hb dX9_runCommands_42 rfl (lv_at hl 0 rfl) ?_
      refine va_get (D := D) (ci := 7) (v := .int (zI x)) (C := RX9) (T := TX9) (N := 11) hx hb hts hin_X9 hown hK hP 0 rfl rfl 7 (by decide) hf_1 (fun _ h9 => h9) rfl dX9_runCommands_43 ?_
      refine lv_aload_n hx hb dX9_runCommands_46 rfl (lv_at hl 0 rfl) ?_
      refine va_get (D := D) (ci := 7) (v := .int (zI tl)) (C := RX9) (T := TX9) (N := 11) hx hb hts hin_X9 hown hK hP 0 rfl rfl 5 (by decide) hf_2 (fun _ h9 => h9) rfl dX9_runCommands_47 ?_
      refine z_icmp_ge (tgt := 94) hx hb dX9_runCommands_50 (by decide) (by omega) (by omega) (fun hc_50 => ?_) (fun hc_50 => ?_)
      · have hc_50 := hc_50
        have hE2 : (N, n_) = run TX tl M 0 0 := by rcases hg with q | q; exact (by have rA := run_at (TX := TX) (tl := tl) (M := N) (n := n_) hx_.1 q.2.2.2; rw [← q.2.1, rA, if_neg (by omega)]); exact q.2
        refine lv_iload_n hx hb dX9_runCommands_94 rfl (lv_at hl 1 rfl) ?_
        exact z_iret hx hb hr hlocks hP hD hS ⟨Nat.le_of_ble_eq_true rfl, Nat.le_of_ble_eq_true rfl⟩ dX9_runCommands_95 (⟨x, NB2, cm2, trivial, by rw [← hE2], by rw [← hE2]⟩)
      · have hc_50 := hc_50
        have jF : cf TX tl x = -1 := Decidable.byContradiction fun w => by rw [if_pos (by omega), if_neg w] at tA; have := cf_ge (TX := TX) hx_.2 w; omega
        have tF : tf TX tl (cp TX tl x) = -1 := by rw [if_pos (by omega), if_pos jF] at tA; rw [← tA]; exact hg1.2.1
        have cB := cf_B (TX := TX) (q := x) hx_.1 hx_.2
        have ccB : cc TX tl x = -2000000000 ∨ (0 ≤ cc TX tl x ∧ cc TX tl x ≤ 11) := cwN_B (TX := TX) (s := x) (e := we TX tl x) 12 (Nat.le_refl _)
        have cO := cf_ok hx_.1 hx_.2 jF
        have nB := cn_B (TX := TX) (tl := tl) hx_.2
        have sB := sk_B (TX := TX) (tl := tl) (p := cp TX tl x) (by omega)
        refine lv_aload_n hx hb dX9_runCommands_53 rfl (lv_at hl 0 rfl) ?_
        refine z_callV (C := RX9) (q0 := 0) (ci := 7) (As := []) (rest := []) ([] : va_W) ([] : va_W) hx hb hml hown hts hl hE hS hA (zr0 ([] : va_W) hP) (zr0D ([] : va_W) hD) (c_X9_readCommand_ok l D ct ad b N SP (sv_keep SV M sc) TX NB2 (sv_n sc + 1) tl 0 x cm2 h (by assumption) (by omega) jF) gX9_runCommands_X9_readCommand rfl rfl k_X9_readCommand ⟨Nat.le_of_ble_eq_true rfl, Nat.le_of_ble_eq_true rfl⟩ rfl rfl rfl rfl (Nat.le_of_ble_eq_true rfl) ⟨Nat.le_of_ble_eq_true rfl, Nat.le_of_ble_eq_true rfl⟩ dX9_runCommands_54 rfl (fun v w1 H locs hpost hP hD hS => ?_)
        obtain ⟨NB2_54, ⟨hx0_54, hx1_54⟩, rfl, rfl⟩ := hpost
        have hP := zr0' hP
        have hD := zr0D' hD
        have hP : va_P D vwCl (moW b (sv_n sc + 1) tl 0 (cp TX tl x) (cc TX tl x) h ++ (jrW ct (b 1) 94 N ++ (jrW ct (b 2) 94 SP ++ (jrW ct (b 3) 376 (sv_keep SV M sc) ++ (irW ct (b 4) 150 TX ++ (irW ct (b 5) 2 NB2_54)))))) H := hP
        have hD : va_D A (moW b (sv_n sc + 1) tl 0 (cp TX tl x) (cc TX tl x) h ++ (jrW ct (b 1) 94 N ++ (jrW ct (b 2) 94 SP ++ (jrW ct (b 3) 376 (sv_keep SV M sc) ++ (irW ct (b 4) 150 TX ++ (irW ct (b 5) 2 NB2_54)))))) := hD
        refine W.eq (g2 := F0 m 57 ls [.int (zI 1)]) rfl ?_
        refine z_if_eq (tgt := 94) hx hb dX9_runCommands_57 (by decide) (by omega) (fun hc_57 => ?_) (fun hc_57 => ?_)
        · have hc_57 := hc_57
          omega
        · have hc_57 := hc_57
          have ce := ckc_eq (M := N) (c := cc TX tl x) (by omega) hx0_54 hx1_54
          have se := stc_eq (M := N) (c := cc TX tl x) (by omega) hx0_54 hx1_54
          refine lv_aload_n hx hb dX9_runCommands_60 rfl (lv_at hl 0 rfl) ?_
          refine z_callV (C := RX9) (q0 := 0) (ci := 7) (As := []) (rest := []) ([] : va_W) ([] : va_W) hx hb hml hown hts hl hE hS hA (zr0 ([] : va_W) hP) (zr0D ([] : va_W) hD) (c_X9_whyNot l D ct ad b N SP (sv_keep SV M sc) TX NB2_54 (sv_n sc + 1) tl 0 (cp TX tl x) (cc TX tl x) h hz.1 hz.2.1 (by omega) (by omega) (by omega)) gX9_runCommands_X9_whyNot rfl rfl k_X9_whyNot ⟨Nat.le_of_ble_eq_true rfl, Nat.le_of_ble_eq_true rfl⟩ rfl rfl rfl rfl (Nat.le_of_ble_eq_true rfl) ⟨Nat.le_of_ble_eq_true rfl, Nat.le_of_ble_eq_true rfl⟩ dX9_runCommands_61 rfl (fun v w1 H locs hpost hP hD hS => ?_)
          obtain ⟨v__61, ⟨hx0_61, hx1_61⟩, rfl, rfl⟩ := hpost
          have hP := zr0' hP
          have hD := zr0D' hD
          have hP : va_P D vwCl (moW b (sv_n sc + 1) tl 0 (cp TX tl x) (cc TX tl x) h ++ (jrW ct (b 1) 94 N ++ (jrW ct (b 2) 94 SP ++ (jrW ct (b 3) 376 (sv_keep SV M sc) ++ (irW ct (b 4) 150 TX ++ (irW ct (b 5) 2 NB2_54)))))) H := hP
          have hD : va_D A (moW b (sv_n sc + 1) tl 0 (cp TX tl x) (cc TX tl x) h ++ (jrW ct (b 1) 94 N ++ (jrW ct (b 2) 94 SP ++ (jrW ct (b 3) 376 (sv_keep SV M sc) ++ (irW ct (b 4) 150 TX ++ (irW ct (b 5) 2 NB2_54)))))) := hD
          refine W.eq (g2 := F0 m 64 ls [.int (zI v__61)]) rfl ?_
          refine z_if_ne (tgt := 71) hx hb dX9_runCommands_64 (by decide) (by omega) (fun hc_64 => ?_) (fun hc_64 => ?_)
          · have hc_64 := hc_64
            refine z_iconst hx hb dX9_runCommands_71 ?_
            refine lv_istore_n (lv' := [(2, .int (zI 0)), (0, .ref (b 0)), (1, .int (zI n_))]) hx hb dX9_runCommands_72 rfl hl (by decide) rfl (fun ls hl => ?_)
            refine lv_iload_n hx hb dX9_runCommands_73 rfl (lv_at hl 0 rfl) ?_
            refine z_if_eq (tgt := 86) hx hb dX9_runCommands_74 (by decide) (by omega) (fun hc_74 => ?_) (fun hc_74 => ?_)
            · have hc_74 := hc_74
              have hcn : ¬ ckc N (cc TX tl x) (cn1 TX tl x) (cn2 TX tl x) = 0 := by omega
              refine lv_aload_n hx hb dX9_runCommands_86 rfl (lv_at hl 1 rfl) ?_
              refine z_callV (C := RX9) (q0 := 0) (ci := 7) (As := []) (rest := []) ([] : va_W) ([] : va_W) hx hb hml hown hts hl hE hS hA (zr0 ([] : va_W) hP) (zr0D ([] : va_W) hD) (c_X9_skips l D ct ad b N SP (sv_keep SV M sc) TX NB2_54 (sv_n sc + 1) tl 0 (cp TX tl x) (cc TX tl x) h (by assumption) (by omega)) gX9_runCommands_X9_skips rfl rfl k_X9_skips ⟨Nat.le_of_ble_eq_true rfl, Nat.le_of_ble_eq_true rfl⟩ rfl rfl rfl rfl (Nat.le_of_ble_eq_true rfl) ⟨Nat.le_of_ble_eq_true rfl, Nat.le_of_ble_eq_true rfl⟩ dX9_runCommands_87 rfl (fun v w1 H locs hpost hP hD hS => ?_)
              obtain ⟨rfl, rfl⟩ := hpost
              have hP := zr0' hP
              have hD := zr0D' hD
              have hP : va_P D vwCl (moW b (sv_n sc + 1) tl 0 (sk TX tl (cp TX tl x)) (cc TX tl x) h ++ (jrW ct (b 1) 94 N ++ (jrW ct (b 2) 94 SP ++ (jrW ct (b 3) 376 (sv_keep SV M sc) ++ (irW ct (b 4) 150 TX ++ (irW ct (b 5) 2 NB2_54)))))) H := hP
              have hD : va_D A (moW b (sv_n sc + 1) tl 0 (sk TX tl (cp TX tl x)) (cc TX tl x) h ++ (jrW ct (b 1) 94 N ++ (jrW ct (b 2) 94 SP ++ (jrW ct (b 3) 376 (sv_keep SV M sc) ++ (irW ct (b 4) 150 TX ++ (irW ct (b 5) 2 NB2_54)))))) := hD
              refine W.eq (g2 := F0 m 90 ls [.int (zI (zB ((cp TX tl x) < sk TX tl (cp TX tl x))))]) rfl ?_
              refine lv_istore_n (lv' := [(3, .int (zI (zB ((cp TX tl x) < sk TX tl (cp TX tl x))))), (2, .int (zI 0)), (0, .ref (b 0)), (1, .int (zI n_))]) hx hb dX9_runCommands_90 rfl hl (by decide) rfl (fun ls hl => ?_)
              refine lv_goto (tgt := 38) hx hb dX9_runCommands_91 (by decide) ?_
              exact ih_38 (n_, 0, (sk TX tl (cp TX tl x)), N, NB2_54, (cc TX tl x)) ⟨(show 0 ≤ (sk TX tl (cp TX tl x)) ∧ (sk TX tl (cp TX tl x)) ≤ tl from (by omega)), (show sInv N from (by first | exact hz | exact hS2)), (show 0 ≤ n_ ∧ n_ ≤ (sk TX tl (cp TX tl x)) from (by omega)), (show (0 = 1 ∧ (run TX tl N (sk TX tl (cp TX tl x)) n_ = run TX tl M 0 0 ∧ tf TX tl (sk TX tl (cp TX tl x)) = -1 ∧ sk TX tl (sk TX tl (cp TX tl x)) = (sk TX tl (cp TX tl x)))) ∨ (0 = 0 ∧ (N, n_) = run TX tl M 0 0) from (by first | exact Or.inr ⟨rfl, by rw [← hg1.1, rA, if_pos (by omega), if_neg hcn]⟩ | exact Or.inl ⟨rfl, by rw [run_sk (by omega) (by omega), ← hg1.1, rA, if_pos (by omega), if_pos hcy, hsE], by rw [tf_sk (by omega) (by omega)]; exact tF, sk_sk (by omega)⟩))⟩ (show (2 * (tl - (sk TX tl (cp TX tl x))) + 0).toNat < (2 * (tl - x) + g).toNat from (by omega)) _ _ _ hP hD hS (lv_sub hl [2, 3, 1] rfl)
            · have hc_74 := hc_74
              omega
          · have hc_64 := hc_64
            refine z_iconst hx hb dX9_runCommands_67 ?_
            refine lv_goto (tgt := 72) hx hb dX9_runCommands_68 (by decide) ?_
            refine lv_istore_n (lv' := [(2, .int (zI 1)), (0, .ref (b 0)), (1, .int (zI n_))]) hx hb dX9_runCommands_72 rfl hl (by decide) rfl (fun ls hl => ?_)
            refine lv_iload_n hx hb dX9_runCommands_73 rfl (lv_at hl 0 rfl) ?_
            refine z_if_eq (tgt := 86) hx hb dX9_runCommands_74 (by decide) (by omega) (fun hc_74 => ?_) (fun hc_74 => ?_)
            · have hc_74 := hc_74
              omega
            · have hc_74 := hc_74
              have hcz : ckc N (cc TX tl x) (NB2_54 0) (NB2_54 1) = 0 := by omega
              have hcy : ckc N (cc TX tl x) (cn1 TX tl x) (cn2 TX tl x) = 0 := by omega
              have hS2 : sInv (stc N (cc TX tl x) (NB2_54 0) (NB2_54 1)) := sInv_stc hz (by omega) hcz
              have hsE := se.symm
              refine lv_aload_n hx hb dX9_runCommands_77 rfl (lv_at hl 1 rfl) ?_
              refine z_callV (C := RX9) (q0 := 0) (ci := 7) (As := []) (rest := []) ([] : va_W) ([] : va_W) hx hb hml hown hts hl hE hS hA (zr0 ([] : va_W) hP) (zr0D ([] : va_W) hD) (c_X9_carryOut l D ct ad b N SP (sv_keep SV M sc) TX NB2_54 (sv_n sc + 1) tl 0 (cp TX tl x) (cc TX tl x) h hz.1 hz.2.1 (by omega) (by omega) (by omega) hcz) gX9_runCommands_X9_carryOut rfl rfl k_X9_carryOut ⟨Nat.le_of_ble_eq_true rfl, Nat.le_of_ble_eq_true rfl⟩ rfl rfl rfl rfl (Nat.le_of_ble_eq_true rfl) ⟨Nat.le_of_ble_eq_true rfl, Nat.le_of_ble_eq_true rfl⟩ dX9_runCommands_78 rfl (fun v w1 H locs hpost hP hD hS => ?_)
              obtain ⟨v__78, hx0_78, rfl, rfl⟩ := hpost
              have hP := zr0' hP
              have hD := zr0D' hD
              have hP : va_P D vwCl (moW b (sv_n sc + 1) tl 0 (cp TX tl x) (cc TX tl x) h ++ (jrW ct (b 1) 94 (stc N (cc TX tl x) (NB2_54 0) (NB2_54 1)) ++ (jrW ct (b 2) 94 SP ++ (jrW ct (b 3) 376 (sv_keep SV M sc) ++ (irW ct (b 4) 150 TX ++ (irW ct (b 5) 2 NB2_54)))))) H := hP
              have hD : va_D A (moW b (sv_n sc + 1) tl 0 (cp TX tl x) (cc TX tl x) h ++ (jrW ct (b 1) 94 (stc N (cc TX tl x) (NB2_54 0) (NB2_54 1)) ++ (jrW ct (b 2) 94 SP ++ (jrW ct (b 3) 376 (sv_keep SV M sc) ++ (irW ct (b 4) 150 TX ++ (irW ct (b 5) 2 NB2_54)))))) := hD
              refine W.eq (g2 := F0 m 81 ls [.int (zI v__78)]) rfl ?_
              refine lv_istore (lv' := [(4, .int (zI v__78)), (2, .int (zI 1)), (0, .ref (b 0)), (1, .int (zI n_))]) hx hb dX9_runCommands_81 hl (by decide) rfl (fun ls hl => ?_)
              refine z_iinc (k := 3) (lv' := [(1, .int (zI (n_ + 1))), (4, .int (zI v__78)), (2, .int (zI 1)), (0, .ref (b 0))]) hx hb dX9_runCommands_83 hl rfl (by decide) rfl (fun ls hl => ?_)
              skip
              refine lv_aload_n hx hb dX9_runCommands_86 rfl (lv_at hl 3 rfl) ?_
              refine z_callV (C := RX9) (q0 := 0) (ci := 7) (As := []) (rest := []) ([] : va_W) ([] : va_W) hx hb hml hown hts hl hE hS hA (zr0 ([] : va_W) hP) (zr0D ([] : va_W) hD) (c_X9_skips l D ct ad b (stc N (cc TX tl x) (NB2_54 0) (NB2_54 1)) SP (sv_keep SV M sc) TX NB2_54 (sv_n sc + 1) tl 0 (cp TX tl x) (cc TX tl x) h (by assumption) (by omega)) gX9_runCommands_X9_skips rfl rfl k_X9_skips ⟨Nat.le_of_ble_eq_true rfl, Nat.le_of_ble_eq_true rfl⟩ rfl rfl rfl rfl (Nat.le_of_ble_eq_true rfl) ⟨Nat.le_of_ble_eq_true rfl, Nat.le_of_ble_eq_true rfl⟩ dX9_runCommands_87 rfl (fun v w1 H locs hpost hP hD hS => ?_)
              obtain ⟨rfl, rfl⟩ := hpost
              have hP := zr0' hP
              have hD := zr0D' hD
              have hP : va_P D vwCl (moW b (sv_n sc + 1) tl 0 (sk TX tl (cp TX tl x)) (cc TX tl x) h ++ (jrW ct (b 1) 94 (stc N (cc TX tl x) (NB2_54 0) (NB2_54 1)) ++ (jrW ct (b 2) 94 SP ++ (jrW ct (b 3) 376 (sv_keep SV M sc) ++ (irW ct (b 4) 150 TX ++ (irW ct (b 5) 2 NB2_54)))))) H := hP
              have hD : va_D A (moW b (sv_n sc + 1) tl 0 (sk TX tl (cp TX tl x)) (cc TX tl x) h ++ (jrW ct (b 1) 94 (stc N (cc TX tl x) (NB2_54 0) (NB2_54 1)) ++ (jrW ct (b 2) 94 SP ++ (jrW ct (b 3) 376 (sv_keep SV M sc) ++ (irW ct (b 4) 150 TX ++ (irW ct (b 5) 2 NB2_54)))))) := hD
              refine W.eq (g2 := F0 m 90 ls [.int (zI (zB ((cp TX tl x) < sk TX tl (cp TX tl x))))]) rfl ?_
              refine lv_istore_n (lv' := [(3, .int (zI (zB ((cp TX tl x) < sk TX tl (cp TX tl x))))), (1, .int (zI (n_ + 1))), (4, .int (zI v__78)), (2, .int (zI 1)), (0, .ref (b 0))]) hx hb dX9_runCommands_90 rfl hl (by decide) rfl (fun ls hl => ?_)
              refine lv_goto (tgt := 38) hx hb dX9_runCommands_91 (by decide) ?_
              exact ih_38 (n_ + 1, 1, (sk TX tl (cp TX tl x)), (stc N (cc TX tl x) (NB2_54 0) (NB2_54 1)), NB2_54, (cc TX tl x)) ⟨(show 0 ≤ (sk TX tl (cp TX tl x)) ∧ (sk TX tl (cp TX tl x)) ≤ tl from (by omega)), (show sInv (stc N (cc TX tl x) (NB2_54 0) (NB2_54 1)) from (by first | exact hz | exact hS2)), (show 0 ≤ (n_ + 1) ∧ (n_ + 1) ≤ (sk TX tl (cp TX tl x)) from (by omega)), (show (1 = 1 ∧ (run TX tl (stc N (cc TX tl x) (NB2_54 0) (NB2_54 1)) (sk TX tl (cp TX tl x)) (n_ + 1) = run TX tl M 0 0 ∧ tf TX tl (sk TX tl (cp TX tl x)) = -1 ∧ sk TX tl (sk TX tl (cp TX tl x)) = (sk TX tl (cp TX tl x)))) ∨ (1 = 0 ∧ ((stc N (cc TX tl x) (NB2_54 0) (NB2_54 1)), (n_ + 1)) = run TX tl M 0 0) from (by first | exact Or.inr ⟨rfl, by rw [← hg1.1, rA, if_pos (by omega), if_neg hcn]⟩ | exact Or.inl ⟨rfl, by rw [run_sk (by omega) (by omega), ← hg1.1, rA, if_pos (by omega), if_pos hcy, hsE], by rw [tf_sk (by omega) (by omega)]; exact tF, sk_sk (by omega)⟩))⟩ (show (2 * (tl - (sk TX tl (cp TX tl x))) + 1).toNat < (2 * (tl - x) + g).toNat from (by omega)) _ _ _ hP hD hS (lv_sub hl [4, 1, 3] rfl)
  · have hc_9 := hc_9
    omega
set_option maxHeartbeats 4000000 in
set_option maxRecDepth 100000 in
theorem c_X9_type_ok (l : Launch) (D : va_G) (ct ad : Nat → Nat) (b : Nat → Nat) (M SP SV TX NB : Int → Int) (sc tl cd pl cm h : Int) (v : Int) (ht : tInv TX tl) (h1 : -2147483648 ≤ v ∧ v ≤ 2147483647) (hok : (0 ≤ v ∧ v ≤ 127) ∧ tl < 150) : ZM l yX9_type wsX9_type ({ frames := 1, cells := 0, slots := 0, locals := 22 } : Room) D ct ad [.ref (b 0), .int (zI v)] (moW b sc tl cd pl cm h ++ (jrW ct (b 1) 94 M ++ (jrW ct (b 2) 94 SP ++ (jrW ct (b 3) 376 SV ++ (irW ct (b 4) 150 TX ++ (irW ct (b 5) 2 NB)))))) (zD (some (.int (zI (tl + 1)))) (moW b sc (tl + 1) 0 pl cm h ++ (jrW ct (b 1) 94 M ++ (jrW ct (b 2) 94 SP ++ (jrW ct (b 3) 376 SV ++ (irW ct (b 4) 150 (up TX tl v) ++ (irW ct (b 5) 2 NB))))))) := by
  refine ZM.of (cc := cX9_type) (maxL := 2) (ret := (some .int)) (by decide +kernel) rfl (Nat.le_of_ble_eq_true rfl) ?_
  intro p e s m below meth c A ls hx hb hr hts hown hlocks hml hname hE hP hD hA hS hl
  have hK := hE.1
  have hf_0 := hts (.fieldLink RX9 197 "RodGridsModel" "textLength" "I") (by decide +kernel)
  have hf_1 := hts (.fieldLink RX9 42 "RodGridsModel" "code" "I") (by decide +kernel)
  have hf_2 := hts (.fieldLink RX9 19 "RodGridsModel" "text" "[I") (by decide +kernel)
  have hin_X9 : ∀ z ∈ u_ws RX9 TX9 11, z ∈ wsX9_type := by decide +kernel
  have hl : lv_has ls 2 [(0, .ref (b 0)), (1, .int (zI v))] := hl
  have t1 := ht.1
  refine lv_aload_n hx hb dX9_type_0 rfl (lv_at hl 0 rfl) ?_
  refine lv_iload_n hx hb dX9_type_1 rfl (lv_at hl 1 rfl) ?_
  refine z_iconst hx hb dX9_type_2 ?_
  refine z_bipush hx hb dX9_type_3 (by decide) ?_
  refine z_callS (As := [.int (zI v), .int (zI 0), .int (zI 127)]) (rest := [.ref (b 0)]) ([] : va_W) (moW b sc tl cd pl cm h ++ (jrW ct (b 1) 94 M ++ (jrW ct (b 2) 94 SP ++ (jrW ct (b 3) 376 SV ++ (irW ct (b 4) 150 TX ++ (irW ct (b 5) 2 NB)))))) hx hb hml hown hts hl hE hS hA hP hD (c_X9_in l D ct ad v 0 127 (by omega) (by omega) (by omega)) gX9_type_X9_in rfl k_X9_in ⟨Nat.le_of_ble_eq_true rfl, Nat.le_of_ble_eq_true rfl⟩ rfl (Nat.le_of_ble_eq_true rfl) ⟨Nat.le_of_ble_eq_true rfl, Nat.le_of_ble_eq_true rfl⟩ dX9_type_5 rfl (fun v w1 H locs hpost hP hD hS => ?_)
  obtain ⟨rfl, rfl⟩ := hpost
  have hP : va_P D vwCl (moW b sc tl cd pl cm h ++ (jrW ct (b 1) 94 M ++ (jrW ct (b 2) 94 SP ++ (jrW ct (b 3) 376 SV ++ (irW ct (b 4) 150 TX ++ (irW ct (b 5) 2 NB)))))) H := hP
  have hD : va_D A (moW b sc tl cd pl cm h ++ (jrW ct (b 1) 94 M ++ (jrW ct (b 2) 94 SP ++ (jrW ct (b 3) 376 SV ++ (irW ct (b 4) 150 TX ++ (irW ct (b 5) 2 NB)))))) := hD
  refine W.eq (g2 := F0 m 8 ls [.int (zI (zB (0 ≤ v ∧ v ≤ 127))), .ref (b 0)]) rfl ?_
  refine zb_if_ne (tgt := 15) hx hb dX9_type_8 (by decide) (fun hc_8 => ?_) (fun hc_8 => ?_)
  · have hc_8 := hc_8
    refine lv_aload_n hx hb dX9_type_15 rfl (lv_at hl 0 rfl) ?_
    refine va_get (D := D) (ci := 7) (v := .int (zI tl)) (C := RX9) (T := TX9) (N := 11) hx hb hts hin_X9 hown hK hP 0 rfl rfl 5 (by decide) hf_0 (fun _ h9 => h9) rfl dX9_type_16 ?_
    refine z_sipush hx hb dX9_type_19 (by decide) ?_
    refine z_icmp_ne (tgt := 29) hx hb dX9_type_22 (by decide) (by omega) (by omega) (fun hc_22 => ?_) (fun hc_22 => ?_)
    · have hc_22 := hc_22
      refine z_iconst hx hb dX9_type_29 ?_
      refine z_put (ct := ct) (ad := ad) (ci := 7) (v := .int (zI 0)) (ty := tyX9 6) (C := RX9) (T := TX9) (N := 11) (w2 := moW b sc tl 0 pl cm h ++ (jrW ct (b 1) 94 M ++ (jrW ct (b 2) 94 SP ++ (jrW ct (b 3) 376 SV ++ (irW ct (b 4) 150 TX ++ (irW ct (b 5) 2 NB)))))) hx hb hts hin_X9 tyX9 tyX9_ok nmX9 hown hE hP hD hS 0 rfl rfl 6 (by decide) hf_1 (fun _ h9 => h9) rfl (by decide +kernel) rfl rfl (Nat.le_of_ble_eq_true rfl) dX9_type_30 (rfl) (fun H locs hP hD hS => ?_)
      refine lv_aload_n hx hb dX9_type_33 rfl (lv_at hl 0 rfl) ?_
      refine va_get (D := D) (ci := 7) (v := .int (zI 0)) (C := RX9) (T := TX9) (N := 11) hx hb hts hin_X9 hown hK hP 0 rfl rfl 6 (by decide) hf_1 (fun _ h9 => h9) rfl dX9_type_34 ?_
      refine z_if_eq (tgt := 42) hx hb dX9_type_37 (by decide) (by omega) (fun hc_37 => ?_) (fun hc_37 => ?_)
      · have hc_37 := hc_37
        refine lv_aload_n hx hb dX9_type_42 rfl (lv_at hl 0 rfl) ?_
        refine va_get (D := D) (ci := 7) (v := .ref (b 4)) (C := RX9) (T := TX9) (N := 11) hx hb hts hin_X9 hown hK hP 0 rfl rfl 4 (by decide) hf_2 (fun _ h9 => h9) rfl dX9_type_43 ?_
        refine lv_aload_n hx hb dX9_type_46 rfl (lv_at hl 0 rfl) ?_
        refine va_get (D := D) (ci := 7) (v := .int (zI tl)) (C := RX9) (T := TX9) (N := 11) hx hb hts hin_X9 hown hK hP 0 rfl rfl 5 (by decide) hf_0 (fun _ h9 => h9) rfl dX9_type_47 ?_
        refine lv_iload_n hx hb dX9_type_50 rfl (lv_at hl 1 rfl) ?_
        refine z_iast (g := TX) (w2 := moW b sc tl 0 pl cm h ++ (jrW ct (b 1) 94 M ++ (jrW ct (b 2) 94 SP ++ (jrW ct (b 3) 376 SV ++ (irW ct (b 4) 150 (up TX tl v) ++ (irW ct (b 5) 2 NB)))))) hx hb hK hP hD hS 4 rfl (by decide) (by omega) dX9_type_51 (rfl) (fun H locs hP hD hS => ?_)
        refine lv_aload_n hx hb dX9_type_52 rfl (lv_at hl 0 rfl) ?_
        refine lv_dup hx hb dX9_type_53 rfl ?_
        refine va_get (D := D) (ci := 7) (v := .int (zI tl)) (C := RX9) (T := TX9) (N := 11) hx hb hts hin_X9 hown hK hP 0 rfl rfl 5 (by decide) hf_0 (fun _ h9 => h9) rfl dX9_type_54 ?_
        refine z_iconst hx hb dX9_type_57 ?_
        refine z_iadd hx hb dX9_type_58 ?_
        refine z_put (ct := ct) (ad := ad) (ci := 7) (v := .int (zI (tl + 1))) (ty := tyX9 5) (C := RX9) (T := TX9) (N := 11) (w2 := moW b sc (tl + 1) 0 pl cm h ++ (jrW ct (b 1) 94 M ++ (jrW ct (b 2) 94 SP ++ (jrW ct (b 3) 376 SV ++ (irW ct (b 4) 150 (up TX tl v) ++ (irW ct (b 5) 2 NB)))))) hx hb hts hin_X9 tyX9 tyX9_ok nmX9 hown hE hP hD hS 0 rfl rfl 5 (by decide) hf_0 (fun _ h9 => h9) rfl (by decide +kernel) rfl rfl (Nat.le_of_ble_eq_true rfl) dX9_type_59 (rfl) (fun H locs hP hD hS => ?_)
        refine lv_aload_n hx hb dX9_type_62 rfl (lv_at hl 0 rfl) ?_
        refine va_get (D := D) (ci := 7) (v := .int (zI (tl + 1))) (C := RX9) (T := TX9) (N := 11) hx hb hts hin_X9 hown hK hP 0 rfl rfl 5 (by decide) hf_0 (fun _ h9 => h9) rfl dX9_type_63 ?_
        exact z_iret hx hb hr hlocks hP hD hS ⟨Nat.le_of_ble_eq_true rfl, Nat.le_of_ble_eq_true rfl⟩ dX9_type_66 (⟨congrArg (fun z => some (Value.int (zI z))) (rfl), rfl⟩)
      · have hc_37 := hc_37
        omega
    · have hc_22 := hc_22
      omega
  · have hc_8 := hc_8
    omega
set_option maxHeartbeats 4000000 in
set_option maxRecDepth 100000 in
theorem c_X9_type_no (l : Launch) (D : va_G) (ct ad : Nat → Nat) (b : Nat → Nat) (M SP SV TX NB : Int → Int) (sc tl cd pl cm h : Int) (v : Int) (ht : tInv TX tl) (h1 : -2147483648 ≤ v ∧ v ≤ 2147483647) (hno : ¬ ((0 ≤ v ∧ v ≤ 127) ∧ tl < 150)) : ZM l yX9_type wsX9_type ({ frames := 1, cells := 0, slots := 0, locals := 22 } : Room) D ct ad [.ref (b 0), .int (zI v)] (moW b sc tl cd pl cm h ++ (jrW ct (b 1) 94 M ++ (jrW ct (b 2) 94 SP ++ (jrW ct (b 3) 376 SV ++ (irW ct (b 4) 150 TX ++ (irW ct (b 5) 2 NB)))))) (zD (some (.int (zI 0))) (moW b sc tl (if 0 ≤ v ∧ v ≤ 127 then 2 else 1) pl cm h ++ (jrW ct (b 1) 94 M ++ (jrW ct (b 2) 94 SP ++ (jrW ct (b 3) 376 SV ++ (irW ct (b 4) 150 TX ++ (irW ct (b 5) 2 NB))))))) := by
  refine ZM.of (cc := cX9_type) (maxL := 2) (ret := (some .int)) (by decide +kernel) rfl (Nat.le_of_ble_eq_true rfl) ?_
  intro p e s m below meth c A ls hx hb hr hts hown hlocks hml hname hE hP hD hA hS hl
  have hK := hE.1
  have hf_0 := hts (.fieldLink RX9 197 "RodGridsModel" "textLength" "I") (by decide +kernel)
  have hf_1 := hts (.fieldLink RX9 42 "RodGridsModel" "code" "I") (by decide +kernel)
  have hin_X9 : ∀ z ∈ u_ws RX9 TX9 11, z ∈ wsX9_type := by decide +kernel
  have hl : lv_has ls 2 [(0, .ref (b 0)), (1, .int (zI v))] := hl
  have t1 := ht.1
  refine lv_aload_n hx hb dX9_type_0 rfl (lv_at hl 0 rfl) ?_
  refine lv_iload_n hx hb dX9_type_1 rfl (lv_at hl 1 rfl) ?_
  refine z_iconst hx hb dX9_type_2 ?_
  refine z_bipush hx hb dX9_type_3 (by decide) ?_
  refine z_callS (As := [.int (zI v), .int (zI 0), .int (zI 127)]) (rest := [.ref (b 0)]) ([] : va_W) (moW b sc tl cd pl cm h ++ (jrW ct (b 1) 94 M ++ (jrW ct (b 2) 94 SP ++ (jrW ct (b 3) 376 SV ++ (irW ct (b 4) 150 TX ++ (irW ct (b 5) 2 NB)))))) hx hb hml hown hts hl hE hS hA hP hD (c_X9_in l D ct ad v 0 127 (by omega) (by omega) (by omega)) gX9_type_X9_in rfl k_X9_in ⟨Nat.le_of_ble_eq_true rfl, Nat.le_of_ble_eq_true rfl⟩ rfl (Nat.le_of_ble_eq_true rfl) ⟨Nat.le_of_ble_eq_true rfl, Nat.le_of_ble_eq_true rfl⟩ dX9_type_5 rfl (fun v w1 H locs hpost hP hD hS => ?_)
  obtain ⟨rfl, rfl⟩ := hpost
  have hP : va_P D vwCl (moW b sc tl cd pl cm h ++ (jrW ct (b 1) 94 M ++ (jrW ct (b 2) 94 SP ++ (jrW ct (b 3) 376 SV ++ (irW ct (b 4) 150 TX ++ (irW ct (b 5) 2 NB)))))) H := hP
  have hD : va_D A (moW b sc tl cd pl cm h ++ (jrW ct (b 1) 94 M ++ (jrW ct (b 2) 94 SP ++ (jrW ct (b 3) 376 SV ++ (irW ct (b 4) 150 TX ++ (irW ct (b 5) 2 NB)))))) := hD
  refine W.eq (g2 := F0 m 8 ls [.int (zI (zB (0 ≤ v ∧ v ≤ 127))), .ref (b 0)]) rfl ?_
  refine zb_if_ne (tgt := 15) hx hb dX9_type_8 (by decide) (fun hc_8 => ?_) (fun hc_8 => ?_)
  · have hc_8 := hc_8
    refine lv_aload_n hx hb dX9_type_15 rfl (lv_at hl 0 rfl) ?_
    refine va_get (D := D) (ci := 7) (v := .int (zI tl)) (C := RX9) (T := TX9) (N := 11) hx hb hts hin_X9 hown hK hP 0 rfl rfl 5 (by decide) hf_0 (fun _ h9 => h9) rfl dX9_type_16 ?_
    refine z_sipush hx hb dX9_type_19 (by decide) ?_
    refine z_icmp_ne (tgt := 29) hx hb dX9_type_22 (by decide) (by omega) (by omega) (fun hc_22 => ?_) (fun hc_22 => ?_)
    · have hc_22 := hc_22
      refine z_iconst hx hb dX9_type_29 ?_
      refine z_put (ct := ct) (ad := ad) (ci := 7) (v := .int (zI 0)) (ty := tyX9 6) (C := RX9) (T := TX9) (N := 11) (w2 := moW b sc tl 0 pl cm h ++ (jrW ct (b 1) 94 M ++ (jrW ct (b 2) 94 SP ++ (jrW ct (b 3) 376 SV ++ (irW ct (b 4) 150 TX ++ (irW ct (b 5) 2 NB)))))) hx hb hts hin_X9 tyX9 tyX9_ok nmX9 hown hE hP hD hS 0 rfl rfl 6 (by decide) hf_1 (fun _ h9 => h9) rfl (by decide +kernel) rfl rfl (Nat.le_of_ble_eq_true rfl) dX9_type_30 (rfl) (fun H locs hP hD hS => ?_)
      refine lv_aload_n hx hb dX9_type_33 rfl (lv_at hl 0 rfl) ?_
      refine va_get (D := D) (ci := 7) (v := .int (zI 0)) (C := RX9) (T := TX9) (N := 11) hx hb hts hin_X9 hown hK hP 0 rfl rfl 6 (by decide) hf_1 (fun _ h9 => h9) rfl dX9_type_34 ?_
      refine z_if_eq (tgt := 42) hx hb dX9_type_37 (by decide) (by omega) (fun hc_37 => ?_) (fun hc_37 => ?_)
      · have hc_37 := hc_37
        omega
      · have hc_37 := hc_37
        omega
    · have hc_22 := hc_22
      refine z_iconst hx hb dX9_type_25 ?_
      refine lv_goto (tgt := 30) hx hb dX9_type_26 (by decide) ?_
      refine z_put (ct := ct) (ad := ad) (ci := 7) (v := .int (zI 2)) (ty := tyX9 6) (C := RX9) (T := TX9) (N := 11) (w2 := moW b sc tl 2 pl cm h ++ (jrW ct (b 1) 94 M ++ (jrW ct (b 2) 94 SP ++ (jrW ct (b 3) 376 SV ++ (irW ct (b 4) 150 TX ++ (irW ct (b 5) 2 NB)))))) hx hb hts hin_X9 tyX9 tyX9_ok nmX9 hown hE hP hD hS 0 rfl rfl 6 (by decide) hf_1 (fun _ h9 => h9) rfl (by decide +kernel) rfl rfl (Nat.le_of_ble_eq_true rfl) dX9_type_30 (rfl) (fun H locs hP hD hS => ?_)
      refine lv_aload_n hx hb dX9_type_33 rfl (lv_at hl 0 rfl) ?_
      refine va_get (D := D) (ci := 7) (v := .int (zI 2)) (C := RX9) (T := TX9) (N := 11) hx hb hts hin_X9 hown hK hP 0 rfl rfl 6 (by decide) hf_1 (fun _ h9 => h9) rfl dX9_type_34 ?_
      refine z_if_eq (tgt := 42) hx hb dX9_type_37 (by decide) (by omega) (fun hc_37 => ?_) (fun hc_37 => ?_)
      · have hc_37 := hc_37
        omega
      · have hc_37 := hc_37
        refine z_iconst hx hb dX9_type_40 ?_
        exact z_iret hx hb hr hlocks hP hD hS ⟨Nat.le_of_ble_eq_true rfl, Nat.le_of_ble_eq_true rfl⟩ dX9_type_41 (⟨congrArg (fun z => some (Value.int (zI z))) (rfl), by first | rw [if_pos (by omega)] | rw [if_neg (by omega)]⟩)
  · have hc_8 := hc_8
    refine z_iconst hx hb dX9_type_11 ?_
    refine lv_goto (tgt := 30) hx hb dX9_type_12 (by decide) ?_
    refine z_put (ct := ct) (ad := ad) (ci := 7) (v := .int (zI 1)) (ty := tyX9 6) (C := RX9) (T := TX9) (N := 11) (w2 := moW b sc tl 1 pl cm h ++ (jrW ct (b 1) 94 M ++ (jrW ct (b 2) 94 SP ++ (jrW ct (b 3) 376 SV ++ (irW ct (b 4) 150 TX ++ (irW ct (b 5) 2 NB)))))) hx hb hts hin_X9 tyX9 tyX9_ok nmX9 hown hE hP hD hS 0 rfl rfl 6 (by decide) hf_1 (fun _ h9 => h9) rfl (by decide +kernel) rfl rfl (Nat.le_of_ble_eq_true rfl) dX9_type_30 (rfl) (fun H locs hP hD hS => ?_)
    refine lv_aload_n hx hb dX9_type_33 rfl (lv_at hl 0 rfl) ?_
    refine va_get (D := D) (ci := 7) (v := .int (zI 1)) (C := RX9) (T := TX9) (N := 11) hx hb hts hin_X9 hown hK hP 0 rfl rfl 6 (by decide) hf_1 (fun _ h9 => h9) rfl dX9_type_34 ?_
    refine z_if_eq (tgt := 42) hx hb dX9_type_37 (by decide) (by omega) (fun hc_37 => ?_) (fun hc_37 => ?_)
    · have hc_37 := hc_37
      omega
    · have hc_37 := hc_37
      refine z_iconst hx hb dX9_type_40 ?_
      exact z_iret hx hb hr hlocks hP hD hS ⟨Nat.le_of_ble_eq_true rfl, Nat.le_of_ble_eq_true rfl⟩ dX9_type_41 (⟨congrArg (fun z => some (Value.int (zI z))) (rfl), by first | rw [if_pos (by omega)] | rw [if_neg (by omega)]⟩)
set_option maxHeartbeats 4000000 in
set_option maxRecDepth 100000 in
theorem c_X9_clearCommands (l : Launch) (D : va_G) (ct ad : Nat → Nat) (b : Nat → Nat) (M SP SV TX NB : Int → Int) (sc tl cd pl cm h : Int) (ht : tInv TX tl) : ZM l yX9_clearCommands wsX9_clearCommands ({ frames := 0, cells := 0, slots := 0, locals := 0 } : Room) D ct ad [.ref (b 0)] (moW b sc tl cd pl cm h ++ (jrW ct (b 1) 94 M ++ (jrW ct (b 2) 94 SP ++ (jrW ct (b 3) 376 SV ++ (irW ct (b 4) 150 TX ++ (irW ct (b 5) 2 NB)))))) (zD (some (.int (zI tl))) (moW b sc 0 0 pl cm h ++ (jrW ct (b 1) 94 M ++ (jrW ct (b 2) 94 SP ++ (jrW ct (b 3) 376 SV ++ (irW ct (b 4) 150 TX ++ (irW ct (b 5) 2 NB))))))) := by
  refine ZM.of (cc := cX9_clearCommands) (maxL := 2) (ret := (some .int)) (by decide +kernel) rfl (Nat.le_of_ble_eq_true rfl) ?_
  intro p e s m below meth c A ls hx hb hr hts hown hlocks hml hname hE hP hD hA hS hl
  have hK := hE.1
  have hf_0 := hts (.fieldLink RX9 42 "RodGridsModel" "code" "I") (by decide +kernel)
  have hf_1 := hts (.fieldLink RX9 197 "RodGridsModel" "textLength" "I") (by decide +kernel)
  have hin_X9 : ∀ z ∈ u_ws RX9 TX9 11, z ∈ wsX9_clearCommands := by decide +kernel
  have hl : lv_has ls 2 [(0, .ref (b 0))] := hl
  have t1 := ht.1
  refine lv_aload_n hx hb dX9_clearCommands_0 rfl (lv_at hl 0 rfl) ?_
  refine z_iconst hx hb dX9_clearCommands_1 ?_
  refine z_put (ct := ct) (ad := ad) (ci := 7) (v := .int (zI 0)) (ty := tyX9 6) (C := RX9) (T := TX9) (N := 11) (w2 := moW b sc tl 0 pl cm h ++ (jrW ct (b 1) 94 M ++ (jrW ct (b 2) 94 SP ++ (jrW ct (b 3) 376 SV ++ (irW ct (b 4) 150 TX ++ (irW ct (b 5) 2 NB)))))) hx hb hts hin_X9 tyX9 tyX9_ok nmX9 hown hE hP hD hS 0 rfl rfl 6 (by decide) hf_0 (fun _ h9 => h9) rfl (by decide +kernel) rfl rfl (Nat.le_of_ble_eq_true rfl) dX9_clearCommands_2 (rfl) (fun H locs hP hD hS => ?_)
  refine lv_aload_n hx hb dX9_clearCommands_5 rfl (lv_at hl 0 rfl) ?_
  refine va_get (D := D) (ci := 7) (v := .int (zI tl)) (C := RX9) (T := TX9) (N := 11) hx hb hts hin_X9 hown hK hP 0 rfl rfl 5 (by decide) hf_1 (fun _ h9 => h9) rfl dX9_clearCommands_6 ?_
  refine lv_istore_n (lv' := [(1, .int (zI tl)), (0, .ref (b 0))]) hx hb dX9_clearCommands_9 rfl hl (by decide) rfl (fun ls hl => ?_)
  refine lv_aload_n hx hb dX9_clearCommands_10 rfl (lv_at hl 1 rfl) ?_
  refine z_iconst hx hb dX9_clearCommands_11 ?_
  refine z_put (ct := ct) (ad := ad) (ci := 7) (v := .int (zI 0)) (ty := tyX9 5) (C := RX9) (T := TX9) (N := 11) (w2 := moW b sc 0 0 pl cm h ++ (jrW ct (b 1) 94 M ++ (jrW ct (b 2) 94 SP ++ (jrW ct (b 3) 376 SV ++ (irW ct (b 4) 150 TX ++ (irW ct (b 5) 2 NB)))))) hx hb hts hin_X9 tyX9 tyX9_ok nmX9 hown hE hP hD hS 0 rfl rfl 5 (by decide) hf_1 (fun _ h9 => h9) rfl (by decide +kernel) rfl rfl (Nat.le_of_ble_eq_true rfl) dX9_clearCommands_12 (rfl) (fun H locs hP hD hS => ?_)
  refine lv_iload_n hx hb dX9_clearCommands_15 rfl (lv_at hl 0 rfl) ?_
  exact z_iret hx hb hr hlocks hP hD hS ⟨Nat.le_of_ble_eq_true rfl, Nat.le_of_ble_eq_true rfl⟩ dX9_clearCommands_16 (⟨congrArg (fun z => some (Value.int (zI z))) (rfl), rfl⟩)
set_option maxHeartbeats 4000000 in
set_option maxRecDepth 100000 in
theorem c_X9_undo_ok (l : Launch) (D : va_G) (ct ad : Nat → Nat) (b : Nat → Nat) (M SP SV TX NB : Int → Int) (sc tl cd pl cm h : Int) (hok : 1 ≤ sc ∧ sc ≤ 4) : ZM l yX9_undo wsX9_undo ({ frames := 1, cells := 0, slots := 0, locals := 24 } : Room) D ct ad [.ref (b 0)] (moW b sc tl cd pl cm h ++ (jrW ct (b 1) 94 M ++ (jrW ct (b 2) 94 SP ++ (jrW ct (b 3) 376 SV ++ (irW ct (b 4) 150 TX ++ (irW ct (b 5) 2 NB)))))) (zD (some (.int (zI (sc - 1)))) (moW b (sc - 1) tl 0 pl cm h ++ (jrW ct (b 1) 94 (brN SV M (94 * (sc - 1)) 0 94) ++ (jrW ct (b 2) 94 SP ++ (jrW ct (b 3) 376 SV ++ (irW ct (b 4) 150 TX ++ (irW ct (b 5) 2 NB))))))) := by
  refine ZM.of (cc := cX9_undo) (maxL := 1) (ret := (some .int)) (by decide +kernel) rfl (Nat.le_of_ble_eq_true rfl) ?_
  intro p e s m below meth c A ls hx hb hr hts hown hlocks hml hname hE hP hD hA hS hl
  have hK := hE.1
  have hf_0 := hts (.fieldLink RX9 46 "RodGridsModel" "savedCount" "I") (by decide +kernel)
  have hf_1 := hts (.fieldLink RX9 42 "RodGridsModel" "code" "I") (by decide +kernel)
  have hf_2 := hts (.fieldLink RX9 16 "RodGridsModel" "saved" "[J") (by decide +kernel)
  have hf_3 := hts (.fieldLink RX9 7 "RodGridsModel" "m" "[J") (by decide +kernel)
  have hin_X9 : ∀ z ∈ u_ws RX9 TX9 11, z ∈ wsX9_undo := by decide +kernel
  have hl : lv_has ls 1 [(0, .ref (b 0))] := hl
  refine lv_aload_n hx hb dX9_undo_0 rfl (lv_at hl 0 rfl) ?_
  refine lv_aload_n hx hb dX9_undo_1 rfl (lv_at hl 0 rfl) ?_
  refine va_get (D := D) (ci := 7) (v := .int (zI sc)) (C := RX9) (T := TX9) (N := 11) hx hb hts hin_X9 hown hK hP 0 rfl rfl 3 (by decide) hf_0 (fun _ h9 => h9) rfl dX9_undo_2 ?_
  refine z_if_ne (tgt := 12) hx hb dX9_undo_5 (by decide) (by omega) (fun hc_5 => ?_) (fun hc_5 => ?_)
  · have hc_5 := hc_5
    refine z_iconst hx hb dX9_undo_12 ?_
    refine z_put (ct := ct) (ad := ad) (ci := 7) (v := .int (zI 0)) (ty := tyX9 6) (C := RX9) (T := TX9) (N := 11) (w2 := moW b sc tl 0 pl cm h ++ (jrW ct (b 1) 94 M ++ (jrW ct (b 2) 94 SP ++ (jrW ct (b 3) 376 SV ++ (irW ct (b 4) 150 TX ++ (irW ct (b 5) 2 NB)))))) hx hb hts hin_X9 tyX9 tyX9_ok nmX9 hown hE hP hD hS 0 rfl rfl 6 (by decide) hf_1 (fun _ h9 => h9) rfl (by decide +kernel) rfl rfl (Nat.le_of_ble_eq_true rfl) dX9_undo_13 (rfl) (fun H locs hP hD hS => ?_)
    refine lv_aload_n hx hb dX9_undo_16 rfl (lv_at hl 0 rfl) ?_
    refine va_get (D := D) (ci := 7) (v := .int (zI 0)) (C := RX9) (T := TX9) (N := 11) hx hb hts hin_X9 hown hK hP 0 rfl rfl 6 (by decide) hf_1 (fun _ h9 => h9) rfl dX9_undo_17 ?_
    refine z_if_eq (tgt := 25) hx hb dX9_undo_20 (by decide) (by omega) (fun hc_20 => ?_) (fun hc_20 => ?_)
    · have hc_20 := hc_20
      refine lv_aload_n hx hb dX9_undo_25 rfl (lv_at hl 0 rfl) ?_
      refine lv_dup hx hb dX9_undo_26 rfl ?_
      refine va_get (D := D) (ci := 7) (v := .int (zI sc)) (C := RX9) (T := TX9) (N := 11) hx hb hts hin_X9 hown hK hP 0 rfl rfl 3 (by decide) hf_0 (fun _ h9 => h9) rfl dX9_undo_27 ?_
      refine z_iconst hx hb dX9_undo_30 ?_
      refine z_isub hx hb dX9_undo_31 ?_
      refine z_put (ct := ct) (ad := ad) (ci := 7) (v := .int (zI (sc - 1))) (ty := tyX9 3) (C := RX9) (T := TX9) (N := 11) (w2 := moW b (sc - 1) tl 0 pl cm h ++ (jrW ct (b 1) 94 M ++ (jrW ct (b 2) 94 SP ++ (jrW ct (b 3) 376 SV ++ (irW ct (b 4) 150 TX ++ (irW ct (b 5) 2 NB)))))) hx hb hts hin_X9 tyX9 tyX9_ok nmX9 hown hE hP hD hS 0 rfl rfl 3 (by decide) hf_0 (fun _ h9 => h9) rfl (by decide +kernel) rfl rfl (Nat.le_of_ble_eq_true rfl) dX9_undo_32 (rfl) (fun H locs hP hD hS => ?_)
      refine lv_aload_n hx hb dX9_undo_35 rfl (lv_at hl 0 rfl) ?_
      refine va_get (D := D) (ci := 7) (v := .ref (b 3)) (C := RX9) (T := TX9) (N := 11) hx hb hts hin_X9 hown hK hP 0 rfl rfl 2 (by decide) hf_2 (fun _ h9 => h9) rfl dX9_undo_36 ?_
      refine z_bipush hx hb dX9_undo_39 (by decide) ?_
      refine lv_aload_n hx hb dX9_undo_41 rfl (lv_at hl 0 rfl) ?_
      refine va_get (D := D) (ci := 7) (v := .int (zI (sc - 1))) (C := RX9) (T := TX9) (N := 11) hx hb hts hin_X9 hown hK hP 0 rfl rfl 3 (by decide) hf_0 (fun _ h9 => h9) rfl dX9_undo_42 ?_
      refine z_imul hx hb dX9_undo_45 ?_
      refine lv_aload_n hx hb dX9_undo_46 rfl (lv_at hl 0 rfl) ?_
      have hperm := zperm (fun k : Nat => match k with | 0 => moW b (sc - 1) tl 0 pl cm h | 1 => jrW ct (b 1) 94 M | 2 => jrW ct (b 2) 94 SP | 3 => jrW ct (b 3) 376 SV | 4 => irW ct (b 4) 150 TX | _ => irW ct (b 5) 2 NB) [0, 1, 2, 3, 4, 5] [0, 3, 1, 2, 4, 5] (by decide)
      have hP : va_P D vwCl (moW b (sc - 1) tl 0 pl cm h ++ (jrW ct (b 3) 376 SV ++ (jrW ct (b 1) 94 M ++ (jrW ct (b 2) 94 SP ++ (irW ct (b 4) 150 TX ++ (irW ct (b 5) 2 NB)))))) H := va_P.perm hperm hP
      have hD : va_D A (moW b (sc - 1) tl 0 pl cm h ++ (jrW ct (b 3) 376 SV ++ (jrW ct (b 1) 94 M ++ (jrW ct (b 2) 94 SP ++ (irW ct (b 4) 150 TX ++ (irW ct (b 5) 2 NB)))))) := va_D.perm hperm hD
      refine va_get (D := D) (ci := 7) (v := .ref (b 1)) (C := RX9) (T := TX9) (N := 11) hx hb hts hin_X9 hown hK hP 0 rfl rfl 0 (by decide) hf_3 (fun _ h9 => h9) rfl dX9_undo_47 ?_
      refine z_iconst hx hb dX9_undo_50 ?_
      refine z_callS (As := [.ref (b 3), .int (zI (94 * (sc - 1))), .ref (b 1), .int (zI 0)]) (rest := []) (moW b (sc - 1) tl 0 pl cm h) (jrW ct (b 2) 94 SP ++ (irW ct (b 4) 150 TX ++ (irW ct (b 5) 2 NB))) hx hb hml hown hts hl hE hS hA hP hD (c_X9_bring l D ct ad (b 3) (b 1) 376 94 SV M (94 * (sc - 1)) 0 (by omega) (by omega) (by omega)) gX9_undo_X9_bring rfl k_X9_bring ⟨Nat.le_of_ble_eq_true rfl, Nat.le_of_ble_eq_true rfl⟩ rfl (Nat.le_of_ble_eq_true rfl) ⟨Nat.le_of_ble_eq_true rfl, Nat.le_of_ble_eq_true rfl⟩ dX9_undo_51 rfl (fun v w1 H locs hpost hP hD hS => ?_)
      obtain ⟨rfl, rfl⟩ := hpost
      have hP : va_P D vwCl (moW b (sc - 1) tl 0 pl cm h ++ (jrW ct (b 3) 376 SV ++ (jrW ct (b 1) 94 (brN SV M (94 * (sc - 1)) 0 94) ++ (jrW ct (b 2) 94 SP ++ (irW ct (b 4) 150 TX ++ (irW ct (b 5) 2 NB)))))) H := hP
      have hD : va_D A (moW b (sc - 1) tl 0 pl cm h ++ (jrW ct (b 3) 376 SV ++ (jrW ct (b 1) 94 (brN SV M (94 * (sc - 1)) 0 94) ++ (jrW ct (b 2) 94 SP ++ (irW ct (b 4) 150 TX ++ (irW ct (b 5) 2 NB)))))) := hD
      refine W.eq (g2 := F0 m 54 ls []) rfl ?_
      have hperm := zperm (fun k : Nat => match k with | 0 => moW b (sc - 1) tl 0 pl cm h | 1 => jrW ct (b 3) 376 SV | 2 => jrW ct (b 1) 94 (brN SV M (94 * (sc - 1)) 0 94) | 3 => jrW ct (b 2) 94 SP | 4 => irW ct (b 4) 150 TX | _ => irW ct (b 5) 2 NB) [0, 1, 2, 3, 4, 5] [0, 2, 3, 1, 4, 5] (by decide)
      have hP : va_P D vwCl (moW b (sc - 1) tl 0 pl cm h ++ (jrW ct (b 1) 94 (brN SV M (94 * (sc - 1)) 0 94) ++ (jrW ct (b 2) 94 SP ++ (jrW ct (b 3) 376 SV ++ (irW ct (b 4) 150 TX ++ (irW ct (b 5) 2 NB)))))) H := va_P.perm hperm hP
      have hD : va_D A (moW b (sc - 1) tl 0 pl cm h ++ (jrW ct (b 1) 94 (brN SV M (94 * (sc - 1)) 0 94) ++ (jrW ct (b 2) 94 SP ++ (jrW ct (b 3) 376 SV ++ (irW ct (b 4) 150 TX ++ (irW ct (b 5) 2 NB)))))) := va_D.perm hperm hD
      refine lv_aload_n hx hb dX9_undo_54 rfl (lv_at hl 0 rfl) ?_
      refine va_get (D := D) (ci := 7) (v := .int (zI (sc - 1))) (C := RX9) (T := TX9) (N := 11) hx hb hts hin_X9 hown hK hP 0 rfl rfl 3 (by decide) hf_0 (fun _ h9 => h9) rfl dX9_undo_55 ?_
      exact z_iret hx hb hr hlocks hP hD hS ⟨Nat.le_of_ble_eq_true rfl, Nat.le_of_ble_eq_true rfl⟩ dX9_undo_58 (⟨congrArg (fun z => some (Value.int (zI z))) (rfl), rfl⟩)
    · have hc_20 := hc_20
      omega
  · have hc_5 := hc_5
    omega
set_option maxHeartbeats 4000000 in
set_option maxRecDepth 100000 in
theorem c_X9_undo_no (l : Launch) (D : va_G) (ct ad : Nat → Nat) (b : Nat → Nat) (M SP SV TX NB : Int → Int) (sc tl cd pl cm h : Int) (hno : sc = 0) : ZM l yX9_undo wsX9_undo ({ frames := 0, cells := 0, slots := 0, locals := 0 } : Room) D ct ad [.ref (b 0)] (moW b sc tl cd pl cm h ++ (jrW ct (b 1) 94 M ++ (jrW ct (b 2) 94 SP ++ (jrW ct (b 3) 376 SV ++ (irW ct (b 4) 150 TX ++ (irW ct (b 5) 2 NB)))))) (zD (some (.int (zI 0))) (moW b sc tl 1 pl cm h ++ (jrW ct (b 1) 94 M ++ (jrW ct (b 2) 94 SP ++ (jrW ct (b 3) 376 SV ++ (irW ct (b 4) 150 TX ++ (irW ct (b 5) 2 NB))))))) := by
  refine ZM.of (cc := cX9_undo) (maxL := 1) (ret := (some .int)) (by decide +kernel) rfl (Nat.le_of_ble_eq_true rfl) ?_
  intro p e s m below meth c A ls hx hb hr hts hown hlocks hml hname hE hP hD hA hS hl
  have hK := hE.1
  have hf_0 := hts (.fieldLink RX9 46 "RodGridsModel" "savedCount" "I") (by decide +kernel)
  have hf_1 := hts (.fieldLink RX9 42 "RodGridsModel" "code" "I") (by decide +kernel)
  have hin_X9 : ∀ z ∈ u_ws RX9 TX9 11, z ∈ wsX9_undo := by decide +kernel
  have hl : lv_has ls 1 [(0, .ref (b 0))] := hl
  refine lv_aload_n hx hb dX9_undo_0 rfl (lv_at hl 0 rfl) ?_
  refine lv_aload_n hx hb dX9_undo_1 rfl (lv_at hl 0 rfl) ?_
  refine va_get (D := D) (ci := 7) (v := .int (zI sc)) (C := RX9) (T := TX9) (N := 11) hx hb hts hin_X9 hown hK hP 0 rfl rfl 3 (by decide) hf_0 (fun _ h9 => h9) rfl dX9_undo_2 ?_
  refine z_if_ne (tgt := 12) hx hb dX9_undo_5 (by decide) (by omega) (fun hc_5 => ?_) (fun hc_5 => ?_)
  · have hc_5 := hc_5
    omega
  · have hc_5 := hc_5
    refine z_iconst hx hb dX9_undo_8 ?_
    refine lv_goto (tgt := 13) hx hb dX9_undo_9 (by decide) ?_
    refine z_put (ct := ct) (ad := ad) (ci := 7) (v := .int (zI 1)) (ty := tyX9 6) (C := RX9) (T := TX9) (N := 11) (w2 := moW b sc tl 1 pl cm h ++ (jrW ct (b 1) 94 M ++ (jrW ct (b 2) 94 SP ++ (jrW ct (b 3) 376 SV ++ (irW ct (b 4) 150 TX ++ (irW ct (b 5) 2 NB)))))) hx hb hts hin_X9 tyX9 tyX9_ok nmX9 hown hE hP hD hS 0 rfl rfl 6 (by decide) hf_1 (fun _ h9 => h9) rfl (by decide +kernel) rfl rfl (Nat.le_of_ble_eq_true rfl) dX9_undo_13 (rfl) (fun H locs hP hD hS => ?_)
    refine lv_aload_n hx hb dX9_undo_16 rfl (lv_at hl 0 rfl) ?_
    refine va_get (D := D) (ci := 7) (v := .int (zI 1)) (C := RX9) (T := TX9) (N := 11) hx hb hts hin_X9 hown hK hP 0 rfl rfl 6 (by decide) hf_1 (fun _ h9 => h9) rfl dX9_undo_17 ?_
    refine z_if_eq (tgt := 25) hx hb dX9_undo_20 (by decide) (by omega) (fun hc_20 => ?_) (fun hc_20 => ?_)
    · have hc_20 := hc_20
      omega
    · have hc_20 := hc_20
      refine z_iconst hx hb dX9_undo_23 ?_
      exact z_iret hx hb hr hlocks hP hD hS ⟨Nat.le_of_ble_eq_true rfl, Nat.le_of_ble_eq_true rfl⟩ dX9_undo_24 (⟨congrArg (fun z => some (Value.int (zI z))) (rfl), rfl⟩)
set_option maxHeartbeats 4000000 in
set_option maxRecDepth 100000 in
theorem c_X9_mix (l : Launch) (D : va_G) (ct ad : Nat → Nat) (b : Nat → Nat) (M SP SV TX NB : Int → Int) (sc tl cd pl cm h : Int) (v : Int)  : ZM l yX9_mix wsX9_mix ({ frames := 0, cells := 0, slots := 0, locals := 0 } : Room) D ct ad [.ref (b 0), .long (zJ v)] (moW b sc tl cd pl cm h ++ (jrW ct (b 1) 94 M ++ (jrW ct (b 2) 94 SP ++ (jrW ct (b 3) 376 SV ++ (irW ct (b 4) 150 TX ++ (irW ct (b 5) 2 NB)))))) (zD none (moW b sc tl cd pl cm (31 * h + v) ++ (jrW ct (b 1) 94 M ++ (jrW ct (b 2) 94 SP ++ (jrW ct (b 3) 376 SV ++ (irW ct (b 4) 150 TX ++ (irW ct (b 5) 2 NB))))))) := by
  refine ZM.of (cc := cX9_mix) (maxL := 3) (ret := none) (by decide +kernel) rfl (Nat.le_of_ble_eq_true rfl) ?_
  intro p e s m below meth c A ls hx hb hr hts hown hlocks hml hname hE hP hD hA hS hl
  have hK := hE.1
  have hf_0 := hts (.constantLong RX9 297 (31)) (by decide +kernel)
  have hf_1 := hts (.fieldLink RX9 299 "RodGridsModel" "hash" "J") (by decide +kernel)
  have hin_X9 : ∀ z ∈ u_ws RX9 TX9 11, z ∈ wsX9_mix := by decide +kernel
  have hl : lv_has ls 3 [(0, .ref (b 0)), (1, .long (zJ v))] := hl
  refine lv_aload_n hx hb dX9_mix_0 rfl (lv_at hl 0 rfl) ?_
  refine z_ldc2 hx hb 31 hown hf_0 (by decide) dX9_mix_1 ?_
  refine lv_aload_n hx hb dX9_mix_4 rfl (lv_at hl 0 rfl) ?_
  refine va_get (D := D) (ci := 7) (v := .long (zJ h)) (C := RX9) (T := TX9) (N := 11) hx hb hts hin_X9 hown hK hP 0 rfl rfl 10 (by decide) hf_1 (fun _ h9 => h9) rfl dX9_mix_5 ?_
  refine z_lmul hx hb dX9_mix_8 ?_
  refine lv_lload_n hx hb dX9_mix_9 rfl (lv_at hl 1 rfl) ?_
  refine z_ladd hx hb dX9_mix_10 ?_
  refine z_put (ct := ct) (ad := ad) (ci := 7) (v := .long (zJ ((31 * h) + v))) (ty := tyX9 10) (C := RX9) (T := TX9) (N := 11) (w2 := moW b sc tl cd pl cm ((31 * h) + v) ++ (jrW ct (b 1) 94 M ++ (jrW ct (b 2) 94 SP ++ (jrW ct (b 3) 376 SV ++ (irW ct (b 4) 150 TX ++ (irW ct (b 5) 2 NB)))))) hx hb hts hin_X9 tyX9 tyX9_ok nmX9 hown hE hP hD hS 0 rfl rfl 10 (by decide) hf_1 (fun _ h9 => h9) rfl (by decide +kernel) rfl rfl (Nat.le_of_ble_eq_true rfl) dX9_mix_11 (rfl) (fun H locs hP hD hS => ?_)
  exact z_vret hx hb hr hlocks hP hD hS ⟨Nat.le_of_ble_eq_true rfl, Nat.le_of_ble_eq_true rfl⟩ dX9_mix_14 (⟨rfl, rfl⟩)
