theorem k_X9_floor : yX9_floor.cls ≠ "java/lang/invoke/MethodHandle" ∧ yX9_floor.cls ≠ "java/lang/invoke/VarHandle" ∧ (parseMethodDescriptor yX9_floor.desc).map (fun d => d.parameters.length) = some 2 := by decide +kernel
set_option maxHeartbeats 4000000 in
set_option maxRecDepth 100000 in
theorem c_X9_stretching (l : Launch) (D : va_G) (ct ad : Nat → Nat) (b : Nat → Nat) (M SP SV TX NB : Int → Int) (sc tl cd pl cm h : Int) (r t : Int) (hI : gInv M) (h1 : 0 ≤ r ∧ r < 9) (h2 : -300 ≤ t ∧ t ≤ 600) : ZM l yX9_stretching wsX9_stretching ({ frames := 1, cells := 0, slots := 0, locals := 23 } : Room) D ct ad [.ref (b 0), .int (zI r), .long (zJ t)] (moW b sc tl cd pl cm h ++ (jrW ct (b 1) 94 M ++ (jrW ct (b 2) 94 SP ++ (jrW ct (b 3) 376 SV ++ (irW ct (b 4) 150 TX ++ (irW ct (b 5) 2 NB)))))) (zD (some (.long (zJ (sp_str M r t)))) (moW b sc tl cd pl cm h ++ (jrW ct (b 1) 94 M ++ (jrW ct (b 2) 94 SP ++ (jrW ct (b 3) 376 SV ++ (irW ct (b 4) 150 TX ++ (irW ct (b 5) 2 NB))))))) := by
  refine ZM.of (cc := cX9_stretching) (maxL := 4) (ret := (some .long)) (by decide +kernel) rfl (Nat.le_of_ble_eq_true rfl) ?_
  intro p e s m below meth c A ls hx hb hr hts hown hlocks hml hname hE hP hD hA hS hl
  have hK := hE.1
  have hf_0 := hts (.fieldLink RX9 7 "RodGridsModel" "m" "[J") (by decide +kernel)
  have hf_1 := hts (.constantLong RX9 34 (200)) (by decide +kernel)
  have hf_2 := hts (.constantLong RX9 121 (100000000)) (by decide +kernel)
  have hin_X9 : ∀ z ∈ u_ws RX9 TX9 11, z ∈ wsX9_stretching := by decide +kernel
  have hl : lv_has ls 4 [(0, .ref (b 0)), (1, .int (zI r)), (2, .long (zJ t))] := hl
  have i3 := hI.1
  have i4 := hI.2.1
  have q := hI.2.2.2.1 r h1.1 h1.2
  have sB := sp_strB hI h1 h2
  refine lv_aload_n hx hb dX9_stretching_0 rfl (lv_at hl 0 rfl) ?_
  refine va_get (D := D) (ci := 7) (v := .ref (b 1)) (C := RX9) (T := TX9) (N := 11) hx hb hts hin_X9 hown hK hP 0 rfl rfl 0 (by decide) hf_0 (fun _ h9 => h9) rfl dX9_stretching_1 ?_
  refine z_bipush hx hb dX9_stretching_4 (by decide) ?_
  refine z_iconst hx hb dX9_stretching_6 ?_
  refine lv_iload_n hx hb dX9_stretching_7 rfl (lv_at hl 1 rfl) ?_
  refine z_imul hx hb dX9_stretching_8 ?_
  refine z_iadd hx hb dX9_stretching_9 ?_
  refine z_iconst hx hb dX9_stretching_10 ?_
  refine z_iadd hx hb dX9_stretching_11 ?_
  refine z_canI (show (22 + (3 * r)) + 2 = 24 + 3 * r from (by omega)) ?_
  refine z_lald (g := M) (v := M (24 + 3 * r)) hx hb hK hP 1 rfl (by decide) (by omega) rfl dX9_stretching_12 ?_
  refine lv_aload_n hx hb dX9_stretching_13 rfl (lv_at hl 0 rfl) ?_
  refine va_get (D := D) (ci := 7) (v := .ref (b 1)) (C := RX9) (T := TX9) (N := 11) hx hb hts hin_X9 hown hK hP 0 rfl rfl 0 (by decide) hf_0 (fun _ h9 => h9) rfl dX9_stretching_14 ?_
  refine z_bipush hx hb dX9_stretching_17 (by decide) ?_
  refine lv_aload_n hx hb dX9_stretching_19 rfl (lv_at hl 0 rfl) ?_
  refine z_bipush hx hb dX9_stretching_20 (by decide) ?_
  refine z_iconst hx hb dX9_stretching_22 ?_
  refine lv_iload_n hx hb dX9_stretching_23 rfl (lv_at hl 1 rfl) ?_
  refine z_imul hx hb dX9_stretching_24 ?_
  refine z_iadd hx hb dX9_stretching_25 ?_
  refine z_callV (C := RX9) (q0 := 0) (ci := 7) (As := [.int (zI (22 + (3 * r)))]) (rest := [.int (zI 16), .ref (b 1), .long (zJ (M (24 + 3 * r)))]) ([] : va_W) ([] : va_W) hx hb hml hown hts hl hE hS hA (zr0 ([] : va_W) hP) (zr0D ([] : va_W) hD) (c_X9_of l D ct ad b M SP SV TX NB sc tl cd pl cm h (22 + (3 * r)) (by omega)) gX9_stretching_X9_of rfl rfl k_X9_of ⟨Nat.le_of_ble_eq_true rfl, Nat.le_of_ble_eq_true rfl⟩ rfl rfl rfl rfl (Nat.le_of_ble_eq_true rfl) ⟨Nat.le_of_ble_eq_true rfl, Nat.le_of_ble_eq_true rfl⟩ dX9_stretching_26 rfl (fun v w1 H locs hpost hP hD hS => ?_)
  obtain ⟨rfl, rfl⟩ := hpost
  have hP := zr0' hP
  have hD := zr0D' hD
  have hP : va_P D vwCl (moW b sc tl cd pl cm h ++ (jrW ct (b 1) 94 M ++ (jrW ct (b 2) 94 SP ++ (jrW ct (b 3) 376 SV ++ (irW ct (b 4) 150 TX ++ (irW ct (b 5) 2 NB)))))) H := hP
  have hD : va_D A (moW b sc tl cd pl cm h ++ (jrW ct (b 1) 94 M ++ (jrW ct (b 2) 94 SP ++ (jrW ct (b 3) 376 SV ++ (irW ct (b 4) 150 TX ++ (irW ct (b 5) 2 NB)))))) := hD
  refine W.eq (g2 := F0 m 29 ls [.int (zI (M (22 + (3 * r)))), .int (zI 16), .ref (b 1), .long (zJ (M (24 + 3 * r)))]) rfl ?_
  refine z_iadd hx hb dX9_stretching_29 ?_
  refine z_lald (g := M) (v := M (16 + (M (22 + (3 * r))))) hx hb hK hP 1 rfl (by decide) (by omega) rfl dX9_stretching_30 ?_
  refine z_lmul hx hb dX9_stretching_31 ?_
  refine lv_lload_n hx hb dX9_stretching_32 rfl (lv_at hl 2 rfl) ?_
  refine z_ldc2 hx hb 200 hown hf_1 (by decide) dX9_stretching_33 ?_
  refine z_lsub hx hb dX9_stretching_36 ?_
  refine z_lmul hx hb dX9_stretching_37 ?_
  refine z_ldc2 hx hb 100000000 hown hf_2 (by decide) dX9_stretching_38 ?_
  refine z_callS (As := [.long (zJ (((M (24 + 3 * r)) * (M (16 + (M (22 + (3 * r)))))) * (t - 200))), .long (zJ 100000000)]) (rest := []) ([] : va_W) (moW b sc tl cd pl cm h ++ (jrW ct (b 1) 94 M ++ (jrW ct (b 2) 94 SP ++ (jrW ct (b 3) 376 SV ++ (irW ct (b 4) 150 TX ++ (irW ct (b 5) 2 NB)))))) hx hb hml hown hts hl hE hS hA hP hD (c_X9_floor l D ct ad (((M (24 + 3 * r)) * (M (16 + (M (22 + (3 * r)))))) * (t - 200)) 100000000 (by omega) (by omega)) gX9_stretching_X9_floor rfl k_X9_floor ⟨Nat.le_of_ble_eq_true rfl, Nat.le_of_ble_eq_true rfl⟩ rfl (Nat.le_of_ble_eq_true rfl) ⟨Nat.le_of_ble_eq_true rfl, Nat.le_of_ble_eq_true rfl⟩ dX9_stretching_41 rfl (fun v w1 H locs hpost hP hD hS => ?_)
  obtain ⟨rfl, rfl⟩ := hpost
  have hP : va_P D vwCl (moW b sc tl cd pl cm h ++ (jrW ct (b 1) 94 M ++ (jrW ct (b 2) 94 SP ++ (jrW ct (b 3) 376 SV ++ (irW ct (b 4) 150 TX ++ (irW ct (b 5) 2 NB)))))) H := hP
  have hD : va_D A (moW b sc tl cd pl cm h ++ (jrW ct (b 1) 94 M ++ (jrW ct (b 2) 94 SP ++ (jrW ct (b 3) 376 SV ++ (irW ct (b 4) 150 TX ++ (irW ct (b 5) 2 NB)))))) := hD
  refine W.eq (g2 := F0 m 44 ls [.long (zJ ((((M (24 + 3 * r)) * (M (16 + (M (22 + (3 * r)))))) * (t - 200)) / 100000000))]) rfl ?_
  exact z_lret hx hb hr hlocks hP hD hS ⟨Nat.le_of_ble_eq_true rfl, Nat.le_of_ble_eq_true rfl⟩ dX9_stretching_44 (⟨congrArg (fun z => some (Value.long (zJ z))) (rfl), rfl⟩)
theorem k_X9_stretching : yX9_stretching.cls ≠ "java/lang/invoke/MethodHandle" ∧ yX9_stretching.cls ≠ "java/lang/invoke/VarHandle" ∧ (parseMethodDescriptor yX9_stretching.desc).map (fun d => d.parameters.length) = some 2 := by decide +kernel
set_option maxHeartbeats 4000000 in
set_option maxRecDepth 100000 in
theorem c_X9_rodsAt (l : Launch) (D : va_G) (ct ad : Nat → Nat) (b : Nat → Nat) (M SP SV TX NB : Int → Int) (sc tl cd pl cm h : Int) (t : Int) (hI : gInv M) (h2 : -300 ≤ t ∧ t ≤ 600) : ZM l yX9_rodsAt wsX9_rodsAt ({ frames := 2, cells := 0, slots := 0, locals := 46 } : Room) D ct ad [.ref (b 0), .long (zJ t)] (moW b sc tl cd pl cm h ++ (jrW ct (b 1) 94 M ++ (jrW ct (b 2) 94 SP ++ (jrW ct (b 3) 376 SV ++ (irW ct (b 4) 150 TX ++ (irW ct (b 5) 2 NB)))))) (zD (some (.long (zJ (sp_rods M t)))) (moW b sc tl cd pl cm h ++ (jrW ct (b 1) 94 M ++ (jrW ct (b 2) 94 SP ++ (jrW ct (b 3) 376 SV ++ (irW ct (b 4) 150 TX ++ (irW ct (b 5) 2 NB))))))) := by
  refine ZM.of (cc := cX9_rodsAt) (maxL := 6) (ret := (some .long)) (by decide +kernel) rfl (Nat.le_of_ble_eq_true rfl) ?_
  intro p e s m below meth c A ls hx hb hr hts hown hlocks hml hname hE hP hD hA hS hl
  have hK := hE.1
  have hf_0 := hts (.fieldLink RX9 7 "RodGridsModel" "m" "[J") (by decide +kernel)
  have hin_X9 : ∀ z ∈ u_ws RX9 TX9 11, z ∈ wsX9_rodsAt := by decide +kernel
  have hl : lv_has ls 6 [(0, .ref (b 0)), (1, .long (zJ t))] := hl
  have i3 := hI.1
  have i4 := hI.2.1
  refine z_lconst (z := 0) hx hb dX9_rodsAt_0 rfl ?_
  refine lv_lstore_n (lv' := [(3, .long (zJ 0)), (0, .ref (b 0)), (1, .long (zJ t))]) hx hb dX9_rodsAt_1 rfl hl (by decide) rfl (fun ls hl => ?_)
  refine z_iconst hx hb dX9_rodsAt_2 ?_
  refine lv_istore (lv' := [(5, .int (zI 0)), (3, .long (zJ 0)), (0, .ref (b 0)), (1, .long (zJ t))]) hx hb dX9_rodsAt_3 hl (by decide) rfl (fun ls hl => ?_)
  refine z_loop (σ := Int × Int) (fun q9 => (M 4 - q9.1).toNat) (fun q9 => (0 ≤ q9.1 ∧ q9.1 ≤ M 4) ∧ (q9.2 = sp_rodsN M t q9.1.toNat)) (fun q9 => moW b sc tl cd pl cm h ++ (jrW ct (b 1) 94 M ++ (jrW ct (b 2) 94 SP ++ (jrW ct (b 3) 376 SV ++ (irW ct (b 4) 150 TX ++ (irW ct (b 5) 2 NB)))))) (fun q9 => [(0, .ref (b 0)), (1, .long (zJ t)), (3, .long (zJ q9.2)), (5, .int (zI q9.1))]) (fun q9 => []) (0, 0) ⟨(show 0 ≤ 0 ∧ 0 ≤ M 4 from (by omega)), (show 0 = sp_rodsN M t (0 : Int).toNat from (by rfl))⟩ hP hD hS (lv_sub hl [2, 3, 1, 0] rfl) rfl ?_
  rintro ⟨i, s_⟩ hI_5 ih_5 H locs ls hP hD hS hl
  obtain ⟨hi, hs⟩ := hI_5
  have hi : 0 ≤ i ∧ i ≤ M 4 := hi
  have hs : s_ = sp_rodsN M t i.toNat := hs
  have hP : va_P D vwCl (moW b sc tl cd pl cm h ++ (jrW ct (b 1) 94 M ++ (jrW ct (b 2) 94 SP ++ (jrW ct (b 3) 376 SV ++ (irW ct (b 4) 150 TX ++ (irW ct (b 5) 2 NB)))))) H := hP
  have hD : va_D A (moW b sc tl cd pl cm h ++ (jrW ct (b 1) 94 M ++ (jrW ct (b 2) 94 SP ++ (jrW ct (b 3) 376 SV ++ (irW ct (b 4) 150 TX ++ (irW ct (b 5) 2 NB)))))) := hD
  have hl : lv_has ls 6 [(0, .ref (b 0)), (1, .long (zJ t)), (3, .long (zJ s_)), (5, .int (zI i))] := hl
  refine lv_iload hx hb dX9_rodsAt_5 (lv_at hl 3 rfl) ?_
  refine lv_aload_n hx hb dX9_rodsAt_7 rfl (lv_at hl 0 rfl) ?_
  refine z_iconst hx hb dX9_rodsAt_8 ?_
  refine z_callV (C := RX9) (q0 := 0) (ci := 7) (As := [.int (zI 4)]) (rest := [.int (zI i)]) ([] : va_W) ([] : va_W) hx hb hml hown hts hl hE hS hA (zr0 ([] : va_W) hP) (zr0D ([] : va_W) hD) (c_X9_of l D ct ad b M SP SV TX NB sc tl cd pl cm h 4 (by omega)) gX9_rodsAt_X9_of rfl rfl k_X9_of ⟨Nat.le_of_ble_eq_true rfl, Nat.le_of_ble_eq_true rfl⟩ rfl rfl rfl rfl (Nat.le_of_ble_eq_true rfl) ⟨Nat.le_of_ble_eq_true rfl, Nat.le_of_ble_eq_true rfl⟩ dX9_rodsAt_9 rfl (fun v w1 H locs hpost hP hD hS => ?_)
  obtain ⟨rfl, rfl⟩ := hpost
  have hP := zr0' hP
  have hD := zr0D' hD
  have hP : va_P D vwCl (moW b sc tl cd pl cm h ++ (jrW ct (b 1) 94 M ++ (jrW ct (b 2) 94 SP ++ (jrW ct (b 3) 376 SV ++ (irW ct (b 4) 150 TX ++ (irW ct (b 5) 2 NB)))))) H := hP
  have hD : va_D A (moW b sc tl cd pl cm h ++ (jrW ct (b 1) 94 M ++ (jrW ct (b 2) 94 SP ++ (jrW ct (b 3) 376 SV ++ (irW ct (b 4) 150 TX ++ (irW ct (b 5) 2 NB)))))) := hD
  refine W.eq (g2 := F0 m 12 ls [.int (zI (M 4)), .int (zI i)]) rfl ?_
  refine z_icmp_ge (tgt := 61) hx hb dX9_rodsAt_12 (by decide) (by omega) (by omega) (fun hc_12 => ?_) (fun hc_12 => ?_)
  · have hc_12 := hc_12
    refine lv_lload_n hx hb dX9_rodsAt_61 rfl (lv_at hl 2 rfl) ?_
    exact z_lret hx hb hr hlocks hP hD hS ⟨Nat.le_of_ble_eq_true rfl, Nat.le_of_ble_eq_true rfl⟩ dX9_rodsAt_62 (⟨congrArg (fun z => some (Value.long (zJ z))) (by rw [hs, show i = M 4 by omega]; rfl), rfl⟩)
  · have hc_12 := hc_12
    refine lv_lload_n hx hb dX9_rodsAt_15 rfl (lv_at hl 2 rfl) ?_
    refine lv_aload_n hx hb dX9_rodsAt_16 rfl (lv_at hl 0 rfl) ?_
    refine va_get (D := D) (ci := 7) (v := .ref (b 1)) (C := RX9) (T := TX9) (N := 11) hx hb hts hin_X9 hown hK hP 0 rfl rfl 0 (by decide) hf_0 (fun _ h9 => h9) rfl dX9_rodsAt_17 ?_
    refine z_bipush hx hb dX9_rodsAt_20 (by decide) ?_
    refine z_iconst hx hb dX9_rodsAt_22 ?_
    refine lv_iload hx hb dX9_rodsAt_23 (lv_at hl 3 rfl) ?_
    refine z_imul hx hb dX9_rodsAt_25 ?_
    refine z_iadd hx hb dX9_rodsAt_26 ?_
    refine z_iconst hx hb dX9_rodsAt_27 ?_
    refine z_iadd hx hb dX9_rodsAt_28 ?_
    refine z_canI (show (22 + (3 * i)) + 1 = 23 + 3 * i from (by omega)) ?_
    refine z_lald (g := M) (v := M (23 + 3 * i)) hx hb hK hP 1 rfl (by decide) (by omega) rfl dX9_rodsAt_29 ?_
    refine lv_aload_n hx hb dX9_rodsAt_30 rfl (lv_at hl 0 rfl) ?_
    refine va_get (D := D) (ci := 7) (v := .ref (b 1)) (C := RX9) (T := TX9) (N := 11) hx hb hts hin_X9 hown hK hP 0 rfl rfl 0 (by decide) hf_0 (fun _ h9 => h9) rfl dX9_rodsAt_31 ?_
    refine z_bipush hx hb dX9_rodsAt_34 (by decide) ?_
    refine z_iconst hx hb dX9_rodsAt_36 ?_
    refine lv_iload hx hb dX9_rodsAt_37 (lv_at hl 3 rfl) ?_
    refine z_imul hx hb dX9_rodsAt_39 ?_
    refine z_iadd hx hb dX9_rodsAt_40 ?_
    refine z_iconst hx hb dX9_rodsAt_41 ?_
    refine z_iadd hx hb dX9_rodsAt_42 ?_
    refine z_canI (show (22 + (3 * i)) + 2 = 24 + 3 * i from (by omega)) ?_
    refine z_lald (g := M) (v := M (24 + 3 * i)) hx hb hK hP 1 rfl (by decide) (by omega) rfl dX9_rodsAt_43 ?_
    refine lv_aload_n hx hb dX9_rodsAt_44 rfl (lv_at hl 0 rfl) ?_
    refine lv_iload hx hb dX9_rodsAt_45 (lv_at hl 3 rfl) ?_
    refine lv_lload_n hx hb dX9_rodsAt_47 rfl (lv_at hl 1 rfl) ?_
    refine z_callV (C := RX9) (q0 := 0) (ci := 7) (As := [.int (zI i), .long (zJ t)]) (rest := [.long (zJ (M (24 + 3 * i))), .long (zJ (M (23 + 3 * i))), .long (zJ s_)]) ([] : va_W) ([] : va_W) hx hb hml hown hts hl hE hS hA (zr0 ([] : va_W) hP) (zr0D ([] : va_W) hD) (c_X9_stretching l D ct ad b M SP SV TX NB sc tl cd pl cm h i t (by assumption) (by omega) (by omega)) gX9_rodsAt_X9_stretching rfl rfl k_X9_stretching ⟨Nat.le_of_ble_eq_true rfl, Nat.le_of_ble_eq_true rfl⟩ rfl rfl rfl rfl (Nat.le_of_ble_eq_true rfl) ⟨Nat.le_of_ble_eq_true rfl, Nat.le_of_ble_eq_true rfl⟩ dX9_rodsAt_48 rfl (fun v w1 H locs hpost hP hD hS => ?_)
    obtain ⟨rfl, rfl⟩ := hpost
    have hP := zr0' hP
    have hD := zr0D' hD
    have hP : va_P D vwCl (moW b sc tl cd pl cm h ++ (jrW ct (b 1) 94 M ++ (jrW ct (b 2) 94 SP ++ (jrW ct (b 3) 376 SV ++ (irW ct (b 4) 150 TX ++ (irW ct (b 5) 2 NB)))))) H := hP
    have hD : va_D A (moW b sc tl cd pl cm h ++ (jrW ct (b 1) 94 M ++ (jrW ct (b 2) 94 SP ++ (jrW ct (b 3) 376 SV ++ (irW ct (b 4) 150 TX ++ (irW ct (b 5) 2 NB)))))) := hD
    refine W.eq (g2 := F0 m 51 ls [.long (zJ (sp_str M i t)), .long (zJ (M (24 + 3 * i))), .long (zJ (M (23 + 3 * i))), .long (zJ s_)]) rfl ?_
    refine z_ladd hx hb dX9_rodsAt_51 ?_
    refine z_lmul hx hb dX9_rodsAt_52 ?_
    refine z_ladd hx hb dX9_rodsAt_53 ?_
    refine lv_lstore_n (lv' := [(3, .long (zJ (s_ + ((M (23 + 3 * i)) * ((M (24 + 3 * i)) + (sp_str M i t)))))), (0, .ref (b 0)), (1, .long (zJ t)), (5, .int (zI i))]) hx hb dX9_rodsAt_54 rfl hl (by decide) rfl (fun ls hl => ?_)
    refine z_iinc (k := 3) (lv' := [(5, .int (zI (i + 1))), (3, .long (zJ (s_ + ((M (23 + 3 * i)) * ((M (24 + 3 * i)) + (sp_str M i t)))))), (0, .ref (b 0)), (1, .long (zJ t))]) hx hb dX9_rodsAt_55 hl rfl (by decide) rfl (fun ls hl => ?_)
    refine lv_goto (tgt := 5) hx hb dX9_rodsAt_58 (by decide) ?_
    exact ih_5 (i + 1, s_ + ((M (23 + 3 * i)) * ((M (24 + 3 * i)) + (sp_str M i t)))) ⟨(show 0 ≤ (i + 1) ∧ (i + 1) ≤ M 4 from (by omega)), (show (s_ + ((M (23 + 3 * i)) * ((M (24 + 3 * i)) + (sp_str M i t)))) = sp_rodsN M t (i + 1).toNat from (by rw [sp_rodsS hi.1, ← hs]))⟩ (show (M 4 - (i + 1)).toNat < (M 4 - i).toNat from (by omega)) _ _ _ hP hD hS (lv_sub hl [2, 3, 1, 0] rfl)
theorem k_X9_rodsAt : yX9_rodsAt.cls ≠ "java/lang/invoke/MethodHandle" ∧ yX9_rodsAt.cls ≠ "java/lang/invoke/VarHandle" ∧ (parseMethodDescriptor yX9_rodsAt.desc).map (fun d => d.parameters.length) = some 1 := by decide +kernel
set_option maxHeartbeats 4000000 in
set_option maxRecDepth 100000 in
theorem c_X9_lengthAt (l : Launch) (D : va_G) (ct ad : Nat → Nat) (b : Nat → Nat) (M SP SV TX NB : Int → Int) (sc tl cd pl cm h : Int) (t : Int) (hI : gInv M) (hB : bInv M) (h2 : -300 ≤ t ∧ t ≤ 600) : ZM l yX9_lengthAt wsX9_lengthAt ({ frames := 3, cells := 0, slots := 0, locals := 71 } : Room) D ct ad [.ref (b 0), .long (zJ t)] (moW b sc tl cd pl cm h ++ (jrW ct (b 1) 94 M ++ (jrW ct (b 2) 94 SP ++ (jrW ct (b 3) 376 SV ++ (irW ct (b 4) 150 TX ++ (irW ct (b 5) 2 NB)))))) (zD (some (.long (zJ (sp_len M t)))) (moW b sc tl cd pl cm h ++ (jrW ct (b 1) 94 M ++ (jrW ct (b 2) 94 SP ++ (jrW ct (b 3) 376 SV ++ (irW ct (b 4) 150 TX ++ (irW ct (b 5) 2 NB))))))) := by
  refine ZM.of (cc := cX9_lengthAt) (maxL := 3) (ret := (some .long)) (by decide +kernel) rfl (Nat.le_of_ble_eq_true rfl) ?_
  intro p e s m below meth c A ls hx hb hr hts hown hlocks hml hname hE hP hD hA hS hl
  have hK := hE.1
  have hf_0 := hts (.constantLong RX9 135 (10)) (by decide +kernel)
  have hf_1 := hts (.fieldLink RX9 7 "RodGridsModel" "m" "[J") (by decide +kernel)
  have hin_X9 : ∀ z ∈ u_ws RX9 TX9 11, z ∈ wsX9_lengthAt := by decide +kernel
  have hl : lv_has ls 3 [(0, .ref (b 0)), (1, .long (zJ t))] := hl
  have i3 := hI.1
  have i4 := hI.2.1
  have j0 := hB.1
  have j1 := hB.2.1
  have j2 := hB.2.2.1
  have j4 := hB.2.2.2.2
  refine lv_aload_n hx hb dX9_lengthAt_0 rfl (lv_at hl 0 rfl) ?_
  refine lv_lload_n hx hb dX9_lengthAt_1 rfl (lv_at hl 1 rfl) ?_
  refine z_callV (C := RX9) (q0 := 0) (ci := 7) (As := [.long (zJ t)]) (rest := []) ([] : va_W) ([] : va_W) hx hb hml hown hts hl hE hS hA (zr0 ([] : va_W) hP) (zr0D ([] : va_W) hD) (c_X9_rodsAt l D ct ad b M SP SV TX NB sc tl cd pl cm h t (by assumption) (by omega)) gX9_lengthAt_X9_rodsAt rfl rfl k_X9_rodsAt ⟨Nat.le_of_ble_eq_true rfl, Nat.le_of_ble_eq_true rfl⟩ rfl rfl rfl rfl (Nat.le_of_ble_eq_true rfl) ⟨Nat.le_of_ble_eq_true rfl, Nat.le_of_ble_eq_true rfl⟩ dX9_lengthAt_2 rfl (fun v w1 H locs hpost hP hD hS => ?_)
  obtain ⟨rfl, rfl⟩ := hpost
  have hP := zr0' hP
  have hD := zr0D' hD
  have hP : va_P D vwCl (moW b sc tl cd pl cm h ++ (jrW ct (b 1) 94 M ++ (jrW ct (b 2) 94 SP ++ (jrW ct (b 3) 376 SV ++ (irW ct (b 4) 150 TX ++ (irW ct (b 5) 2 NB)))))) H := hP
  have hD : va_D A (moW b sc tl cd pl cm h ++ (jrW ct (b 1) 94 M ++ (jrW ct (b 2) 94 SP ++ (jrW ct (b 3) 376 SV ++ (irW ct (b 4) 150 TX ++ (irW ct (b 5) 2 NB)))))) := hD
  refine W.eq (g2 := F0 m 5 ls [.long (zJ (sp_rods M t))]) rfl ?_
  refine z_ldc2 hx hb 10 hown hf_0 (by decide) dX9_lengthAt_5 ?_
  refine lv_aload_n hx hb dX9_lengthAt_8 rfl (lv_at hl 0 rfl) ?_
  refine va_get (D := D) (ci := 7) (v := .ref (b 1)) (C := RX9) (T := TX9) (N := 11) hx hb hts hin_X9 hown hK hP 0 rfl rfl 0 (by decide) hf_1 (fun _ h9 => h9) rfl dX9_lengthAt_9 ?_
  refine z_bipush hx hb dX9_lengthAt_12 (by decide) ?_
  refine z_lald (g := M) (v := M 7) hx hb hK hP 1 rfl (by decide) (by omega) rfl dX9_lengthAt_14 ?_
  refine z_lmul hx hb dX9_lengthAt_15 ?_
  refine z_ladd hx hb dX9_lengthAt_16 ?_
  exact z_lret hx hb hr hlocks hP hD hS ⟨Nat.le_of_ble_eq_true rfl, Nat.le_of_ble_eq_true rfl⟩ dX9_lengthAt_17 (⟨congrArg (fun z => some (Value.long (zJ z))) (rfl), rfl⟩)
set_option maxHeartbeats 4000000 in
set_option maxRecDepth 100000 in
theorem c_X9_arc (l : Launch) (D : va_G) (ct ad : Nat → Nat) (b : Nat → Nat) (M SP SV TX NB : Int → Int) (sc tl cd pl cm h : Int) (hI : gInv M) (hB : bInv M) : ZM l yX9_arc wsX9_arc ({ frames := 0, cells := 0, slots := 0, locals := 0 } : Room) D ct ad [.ref (b 0)] (moW b sc tl cd pl cm h ++ (jrW ct (b 1) 94 M ++ (jrW ct (b 2) 94 SP ++ (jrW ct (b 3) 376 SV ++ (irW ct (b 4) 150 TX ++ (irW ct (b 5) 2 NB)))))) (zD (some (.long (zJ (sp_arc M (M 8))))) (moW b sc tl cd pl cm h ++ (jrW ct (b 1) 94 M ++ (jrW ct (b 2) 94 SP ++ (jrW ct (b 3) 376 SV ++ (irW ct (b 4) 150 TX ++ (irW ct (b 5) 2 NB))))))) := by
  refine ZM.of (cc := cX9_arc) (maxL := 1) (ret := (some .long)) (by decide +kernel) rfl (Nat.le_of_ble_eq_true rfl) ?_
  intro p e s m below meth c A ls hx hb hr hts hown hlocks hml hname hE hP hD hA hS hl
  have hK := hE.1
  have hf_0 := hts (.fieldLink RX9 7 "RodGridsModel" "m" "[J") (by decide +kernel)
  have hf_1 := hts (.constantLong RX9 137 (8)) (by decide +kernel)
  have hin_X9 : ∀ z ∈ u_ws RX9 TX9 11, z ∈ wsX9_arc := by decide +kernel
  have hl : lv_has ls 1 [(0, .ref (b 0))] := hl
  have i3 := hI.1
  have i4 := hI.2.1
  have j0 := hB.1
  have j1 := hB.2.1
  have j2 := hB.2.2.1
  have j4 := hB.2.2.2.2
  refine lv_aload_n hx hb dX9_arc_0 rfl (lv_at hl 0 rfl) ?_
  refine va_get (D := D) (ci := 7) (v := .ref (b 1)) (C := RX9) (T := TX9) (N := 11) hx hb hts hin_X9 hown hK hP 0 rfl rfl 0 (by decide) hf_0 (fun _ h9 => h9) rfl dX9_arc_1 ?_
  refine z_iconst hx hb dX9_arc_4 ?_
  refine z_lald (g := M) (v := M 2) hx hb hK hP 1 rfl (by decide) (by omega) rfl dX9_arc_5 ?_
  refine lv_aload_n hx hb dX9_arc_6 rfl (lv_at hl 0 rfl) ?_
  refine va_get (D := D) (ci := 7) (v := .ref (b 1)) (C := RX9) (T := TX9) (N := 11) hx hb hts hin_X9 hown hK hP 0 rfl rfl 0 (by decide) hf_0 (fun _ h9 => h9) rfl dX9_arc_7 ?_
  refine z_bipush hx hb dX9_arc_10 (by decide) ?_
  refine z_lald (g := M) (v := M 8) hx hb hK hP 1 rfl (by decide) (by omega) rfl dX9_arc_12 ?_
  refine z_ldc2 hx hb 8 hown hf_1 (by decide) dX9_arc_13 ?_
  refine z_ldiv hx hb dX9_arc_16 (by omega) (by omega) ?_
  refine z_ladd hx hb dX9_arc_17 ?_
  exact z_lret hx hb hr hlocks hP hD hS ⟨Nat.le_of_ble_eq_true rfl, Nat.le_of_ble_eq_true rfl⟩ dX9_arc_18 (⟨congrArg (fun z => some (Value.long (zJ z))) (rfl), rfl⟩)
theorem k_X9_arc : yX9_arc.cls ≠ "java/lang/invoke/MethodHandle" ∧ yX9_arc.cls ≠ "java/lang/invoke/VarHandle" ∧ (parseMethodDescriptor yX9_arc.desc).map (fun d => d.parameters.length) = some 0 := by decide +kernel
set_option maxHeartbeats 4000000 in
set_option maxRecDepth 100000 in
theorem c_X9_loss (l : Launch) (D : va_G) (ct ad : Nat → Nat) (b : Nat → Nat) (M SP SV TX NB : Int → Int) (sc tl cd pl cm h : Int) (hI : gInv M) (hB : bInv M) : ZM l yX9_loss wsX9_loss ({ frames := 1, cells := 0, slots := 0, locals := 20 } : Room) D ct ad [.ref (b 0)] (moW b sc tl cd pl cm h ++ (jrW ct (b 1) 94 M ++ (jrW ct (b 2) 94 SP ++ (jrW ct (b 3) 376 SV ++ (irW ct (b 4) 150 TX ++ (irW ct (b 5) 2 NB)))))) (zD (some (.long (zJ (sp_loss M (M 8))))) (moW b sc tl cd pl cm h ++ (jrW ct (b 1) 94 M ++ (jrW ct (b 2) 94 SP ++ (jrW ct (b 3) 376 SV ++ (irW ct (b 4) 150 TX ++ (irW ct (b 5) 2 NB))))))) := by
  refine ZM.of (cc := cX9_loss) (maxL := 1) (ret := (some .long)) (by decide +kernel) rfl (Nat.le_of_ble_eq_true rfl) ?_
  intro p e s m below meth c A ls hx hb hr hts hown hlocks hml hname hE hP hD hA hS hl
  have hK := hE.1
  have hf_0 := hts (.constantLong RX9 143 (165)) (by decide +kernel)
  have hf_1 := hts (.constantLong RX9 145 (100)) (by decide +kernel)
  have hl : lv_has ls 1 [(0, .ref (b 0))] := hl
  have i3 := hI.1
  have i4 := hI.2.1
  have j0 := hB.1
  have j1 := hB.2.1
  have j2 := hB.2.2.1
  have j4 := hB.2.2.2.2
  have aB := sp_arcB (d := M 8) hB j1.2.2.2
  refine lv_aload_n hx hb dX9_loss_0 rfl (lv_at hl 0 rfl) ?_
  refine z_callV (C := RX9) (q0 := 0) (ci := 7) (As := []) (rest := []) ([] : va_W) ([] : va_W) hx hb hml hown hts hl hE hS hA (zr0 ([] : va_W) hP) (zr0D ([] : va_W) hD) (c_X9_arc l D ct ad b M SP SV TX NB sc tl cd pl cm h (by assumption) (by assumption)) gX9_loss_X9_arc rfl rfl k_X9_arc ⟨Nat.le_of_ble_eq_true rfl, Nat.le_of_ble_eq_true rfl⟩ rfl rfl rfl rfl (Nat.le_of_ble_eq_true rfl) ⟨Nat.le_of_ble_eq_true rfl, Nat.le_of_ble_eq_true rfl⟩ dX9_loss_1 rfl (fun v w1 H locs hpost hP hD hS => ?_)
  obtain ⟨rfl, rfl⟩ := hpost
  have hP := zr0' hP
  have hD := zr0D' hD
  have hP : va_P D vwCl (moW b sc tl cd pl cm h ++ (jrW ct (b 1) 94 M ++ (jrW ct (b 2) 94 SP ++ (jrW ct (b 3) 376 SV ++ (irW ct (b 4) 150 TX ++ (irW ct (b 5) 2 NB)))))) H := hP
  have hD : va_D A (moW b sc tl cd pl cm h ++ (jrW ct (b 1) 94 M ++ (jrW ct (b 2) 94 SP ++ (jrW ct (b 3) 376 SV ++ (irW ct (b 4) 150 TX ++ (irW ct (b 5) 2 NB)))))) := hD
  refine W.eq (g2 := F0 m 4 ls [.long (zJ (sp_arc M (M 8)))]) rfl ?_
  refine lv_aload_n hx hb dX9_loss_4 rfl (lv_at hl 0 rfl) ?_
  refine z_callV (C := RX9) (q0 := 0) (ci := 7) (As := []) (rest := [.long (zJ (sp_arc M (M 8)))]) ([] : va_W) ([] : va_W) hx hb hml hown hts hl hE hS hA (zr0 ([] : va_W) hP) (zr0D ([] : va_W) hD) (c_X9_arc l D ct ad b M SP SV TX NB sc tl cd pl cm h (by assumption) (by assumption)) gX9_loss_X9_arc rfl rfl k_X9_arc ⟨Nat.le_of_ble_eq_true rfl, Nat.le_of_ble_eq_true rfl⟩ rfl rfl rfl rfl (Nat.le_of_ble_eq_true rfl) ⟨Nat.le_of_ble_eq_true rfl, Nat.le_of_ble_eq_true rfl⟩ dX9_loss_5 rfl (fun v w1 H locs hpost hP hD hS => ?_)
  obtain ⟨rfl, rfl⟩ := hpost
  have hP := zr0' hP
  have hD := zr0D' hD
  have hP : va_P D vwCl (moW b sc tl cd pl cm h ++ (jrW ct (b 1) 94 M ++ (jrW ct (b 2) 94 SP ++ (jrW ct (b 3) 376 SV ++ (irW ct (b 4) 150 TX ++ (irW ct (b 5) 2 NB)))))) H := hP
  have hD : va_D A (moW b sc tl cd pl cm h ++ (jrW ct (b 1) 94 M ++ (jrW ct (b 2) 94 SP ++ (jrW ct (b 3) 376 SV ++ (irW ct (b 4) 150 TX ++ (irW ct (b 5) 2 NB)))))) := hD
  refine W.eq (g2 := F0 m 8 ls [.long (zJ (sp_arc M (M 8))), .long (zJ (sp_arc M (M 8)))]) rfl ?_
  refine z_lmul hx hb dX9_loss_8 ?_
  refine z_ldc2 hx hb 165 hown hf_0 (by decide) dX9_loss_9 ?_
  refine z_lmul hx hb dX9_loss_12 ?_
  refine z_ldc2 hx hb 100 hown hf_1 (by decide) dX9_loss_13 ?_
  refine z_ldiv hx hb dX9_loss_16 (by omega) (by omega) ?_
  exact z_lret hx hb hr hlocks hP hD hS ⟨Nat.le_of_ble_eq_true rfl, Nat.le_of_ble_eq_true rfl⟩ dX9_loss_17 (⟨congrArg (fun z => some (Value.long (zJ z))) (rfl), rfl⟩)
theorem k_X9_loss : yX9_loss.cls ≠ "java/lang/invoke/MethodHandle" ∧ yX9_loss.cls ≠ "java/lang/invoke/VarHandle" ∧ (parseMethodDescriptor yX9_loss.desc).map (fun d => d.parameters.length) = some 0 := by decide +kernel
theorem k_X9_within : yX9_within.cls ≠ "java/lang/invoke/MethodHandle" ∧ yX9_within.cls ≠ "java/lang/invoke/VarHandle" ∧ (parseMethodDescriptor yX9_within.desc).map (fun d => d.parameters.length) = some 3 := by decide +kernel
set_option maxHeartbeats 4000000 in
set_option maxRecDepth 100000 in
theorem c_X9_rateBy (l : Launch) (D : va_G) (ct ad : Nat → Nat) (b : Nat → Nat) (M SP SV TX NB : Int → Int) (sc tl cd pl cm h : Int) (n : Int) (hI : gInv M) (hB : bInv M) (h1 : -9500000 ≤ n ∧ n ≤ 9500000) : ZM l yX9_rateBy wsX9_rateBy ({ frames := 2, cells := 0, slots := 0, locals := 40 } : Room) D ct ad [.ref (b 0), .long (zJ n)] (moW b sc tl cd pl cm h ++ (jrW ct (b 1) 94 M ++ (jrW ct (b 2) 94 SP ++ (jrW ct (b 3) 376 SV ++ (irW ct (b 4) 150 TX ++ (irW ct (b 5) 2 NB)))))) (zD (some (.long (zJ (sp_rate M n (M 8))))) (moW b sc tl cd pl cm h ++ (jrW ct (b 1) 94 M ++ (jrW ct (b 2) 94 SP ++ (jrW ct (b 3) 376 SV ++ (irW ct (b 4) 150 TX ++ (irW ct (b 5) 2 NB))))))) := by
  refine ZM.of (cc := cX9_rateBy) (maxL := 5) (ret := (some .long)) (by decide +kernel) rfl (Nat.le_of_ble_eq_true rfl) ?_
  intro p e s m below meth c A ls hx hb hr hts hown hlocks hml hname hE hP hD hA hS hl
  have hK := hE.1
  have hf_0 := hts (.constantLong RX9 147 (43200000)) (by decide +kernel)
  have hf_1 := hts (.fieldLink RX9 7 "RodGridsModel" "m" "[J") (by decide +kernel)
  have hf_2 := hts (.constantLong RX9 149 (-1000000000)) (by decide +kernel)
  have hf_3 := hts (.constantLong RX9 151 (1000000000)) (by decide +kernel)
  have hin_X9 : ∀ z ∈ u_ws RX9 TX9 11, z ∈ wsX9_rateBy := by decide +kernel
  have hl : lv_has ls 5 [(0, .ref (b 0)), (1, .long (zJ n))] := hl
  have i3 := hI.1
  have i4 := hI.2.1
  have j0 := hB.1
  have j1 := hB.2.1
  have j2 := hB.2.2.1
  have j4 := hB.2.2.2.2
  have qd := divC (a := 43200000 * (M 0 - n)) (b := M 0) (by omega) (by omega)
  refine z_ldc2 hx hb 43200000 hown hf_0 (by decide) dX9_rateBy_0 ?_
  refine lv_aload_n hx hb dX9_rateBy_3 rfl (lv_at hl 0 rfl) ?_
  refine va_get (D := D) (ci := 7) (v := .ref (b 1)) (C := RX9) (T := TX9) (N := 11) hx hb hts hin_X9 hown hK hP 0 rfl rfl 0 (by decide) hf_1 (fun _ h9 => h9) rfl dX9_rateBy_4 ?_
  refine z_iconst hx hb dX9_rateBy_7 ?_
  refine z_lald (g := M) (v := M 0) hx hb hK hP 1 rfl (by decide) (by omega) rfl dX9_rateBy_8 ?_
  refine lv_lload_n hx hb dX9_rateBy_9 rfl (lv_at hl 1 rfl) ?_
  refine z_lsub hx hb dX9_rateBy_10 ?_
  refine z_lmul hx hb dX9_rateBy_11 ?_
  refine lv_aload_n hx hb dX9_rateBy_12 rfl (lv_at hl 0 rfl) ?_
  refine va_get (D := D) (ci := 7) (v := .ref (b 1)) (C := RX9) (T := TX9) (N := 11) hx hb hts hin_X9 hown hK hP 0 rfl rfl 0 (by decide) hf_1 (fun _ h9 => h9) rfl dX9_rateBy_13 ?_
  refine z_iconst hx hb dX9_rateBy_16 ?_
  refine z_lald (g := M) (v := M 0) hx hb hK hP 1 rfl (by decide) (by omega) rfl dX9_rateBy_17 ?_
  refine z_callS (As := [.long (zJ (43200000 * ((M 0) - n))), .long (zJ (M 0))]) (rest := []) ([] : va_W) (moW b sc tl cd pl cm h ++ (jrW ct (b 1) 94 M ++ (jrW ct (b 2) 94 SP ++ (jrW ct (b 3) 376 SV ++ (irW ct (b 4) 150 TX ++ (irW ct (b 5) 2 NB)))))) hx hb hml hown hts hl hE hS hA hP hD (c_X9_floor l D ct ad (43200000 * ((M 0) - n)) (M 0) (by omega) (by omega)) gX9_rateBy_X9_floor rfl k_X9_floor ⟨Nat.le_of_ble_eq_true rfl, Nat.le_of_ble_eq_true rfl⟩ rfl (Nat.le_of_ble_eq_true rfl) ⟨Nat.le_of_ble_eq_true rfl, Nat.le_of_ble_eq_true rfl⟩ dX9_rateBy_18 rfl (fun v w1 H locs hpost hP hD hS => ?_)
  obtain ⟨rfl, rfl⟩ := hpost
  have hP : va_P D vwCl (moW b sc tl cd pl cm h ++ (jrW ct (b 1) 94 M ++ (jrW ct (b 2) 94 SP ++ (jrW ct (b 3) 376 SV ++ (irW ct (b 4) 150 TX ++ (irW ct (b 5) 2 NB)))))) H := hP
  have hD : va_D A (moW b sc tl cd pl cm h ++ (jrW ct (b 1) 94 M ++ (jrW ct (b 2) 94 SP ++ (jrW ct (b 3) 376 SV ++ (irW ct (b 4) 150 TX ++ (irW ct (b 5) 2 NB)))))) := hD
  refine W.eq (g2 := F0 m 21 ls [.long (zJ ((43200000 * ((M 0) - n)) / (M 0)))]) rfl ?_
  refine lv_lstore_n (lv' := [(3, .long (zJ ((43200000 * ((M 0) - n)) / (M 0)))), (0, .ref (b 0)), (1, .long (zJ n))]) hx hb dX9_rateBy_21 rfl hl (by decide) rfl (fun ls hl => ?_)
  refine lv_lload_n hx hb dX9_rateBy_22 rfl (lv_at hl 0 rfl) ?_
  refine z_ldc2 hx hb (-1000000000) hown hf_2 (by decide) dX9_rateBy_23 ?_
  refine z_ldc2 hx hb 1000000000 hown hf_3 (by decide) dX9_rateBy_26 ?_
  refine z_callS (As := [.long (zJ ((43200000 * ((M 0) - n)) / (M 0))), .long (zJ (-1000000000)), .long (zJ 1000000000)]) (rest := []) ([] : va_W) (moW b sc tl cd pl cm h ++ (jrW ct (b 1) 94 M ++ (jrW ct (b 2) 94 SP ++ (jrW ct (b 3) 376 SV ++ (irW ct (b 4) 150 TX ++ (irW ct (b 5) 2 NB)))))) hx hb hml hown hts hl hE hS hA hP hD (c_X9_within l D ct ad ((43200000 * ((M 0) - n)) / (M 0)) (-1000000000) 1000000000 (by omega) (by omega) (by omega) (by omega)) gX9_rateBy_X9_within rfl k_X9_within ⟨Nat.le_of_ble_eq_true rfl, Nat.le_of_ble_eq_true rfl⟩ rfl (Nat.le_of_ble_eq_true rfl) ⟨Nat.le_of_ble_eq_true rfl, Nat.le_of_ble_eq_true rfl⟩ dX9_rateBy_29 rfl (fun v w1 H locs hpost hP hD hS => ?_)
  obtain ⟨rfl, rfl⟩ := hpost
  have hP : va_P D vwCl (moW b sc tl cd pl cm h ++ (jrW ct (b 1) 94 M ++ (jrW ct (b 2) 94 SP ++ (jrW ct (b 3) 376 SV ++ (irW ct (b 4) 150 TX ++ (irW ct (b 5) 2 NB)))))) H := hP
  have hD : va_D A (moW b sc tl cd pl cm h ++ (jrW ct (b 1) 94 M ++ (jrW ct (b 2) 94 SP ++ (jrW ct (b 3) 376 SV ++ (irW ct (b 4) 150 TX ++ (irW ct (b 5) 2 NB)))))) := hD
  refine W.eq (g2 := F0 m 32 ls [.long (zJ (max (-1000000000) (min 1000000000 ((43200000 * ((M 0) - n)) / (M 0)))))]) rfl ?_
  refine lv_aload_n hx hb dX9_rateBy_32 rfl (lv_at hl 1 rfl) ?_
  refine z_callV (C := RX9) (q0 := 0) (ci := 7) (As := []) (rest := [.long (zJ (max (-1000000000) (min 1000000000 ((43200000 * ((M 0) - n)) / (M 0)))))]) ([] : va_W) ([] : va_W) hx hb hml hown hts hl hE hS hA (zr0 ([] : va_W) hP) (zr0D ([] : va_W) hD) (c_X9_loss l D ct ad b M SP SV TX NB sc tl cd pl cm h (by assumption) (by assumption)) gX9_rateBy_X9_loss rfl rfl k_X9_loss ⟨Nat.le_of_ble_eq_true rfl, Nat.le_of_ble_eq_true rfl⟩ rfl rfl rfl rfl (Nat.le_of_ble_eq_true rfl) ⟨Nat.le_of_ble_eq_true rfl, Nat.le_of_ble_eq_true rfl⟩ dX9_rateBy_33 rfl (fun v w1 H locs hpost hP hD hS => ?_)
  obtain ⟨rfl, rfl⟩ := hpost
  have hP := zr0' hP
  have hD := zr0D' hD
  have hP : va_P D vwCl (moW b sc tl cd pl cm h ++ (jrW ct (b 1) 94 M ++ (jrW ct (b 2) 94 SP ++ (jrW ct (b 3) 376 SV ++ (irW ct (b 4) 150 TX ++ (irW ct (b 5) 2 NB)))))) H := hP
  have hD : va_D A (moW b sc tl cd pl cm h ++ (jrW ct (b 1) 94 M ++ (jrW ct (b 2) 94 SP ++ (jrW ct (b 3) 376 SV ++ (irW ct (b 4) 150 TX ++ (irW ct (b 5) 2 NB)))))) := hD
  refine W.eq (g2 := F0 m 36 ls [.long (zJ (sp_loss M (M 8))), .long (zJ (max (-1000000000) (min 1000000000 ((43200000 * ((M 0) - n)) / (M 0)))))]) rfl ?_
  refine z_lsub hx hb dX9_rateBy_36 ?_
  exact z_lret hx hb hr hlocks hP hD hS ⟨Nat.le_of_ble_eq_true rfl, Nat.le_of_ble_eq_true rfl⟩ dX9_rateBy_37 (⟨congrArg (fun z => some (Value.long (zJ z))) (rfl), rfl⟩)
theorem k_X9_lengthAt : yX9_lengthAt.cls ≠ "java/lang/invoke/MethodHandle" ∧ yX9_lengthAt.cls ≠ "java/lang/invoke/VarHandle" ∧ (parseMethodDescriptor yX9_lengthAt.desc).map (fun d => d.parameters.length) = some 1 := by decide +kernel
theorem k_X9_rateBy : yX9_rateBy.cls ≠ "java/lang/invoke/MethodHandle" ∧ yX9_rateBy.cls ≠ "java/lang/invoke/VarHandle" ∧ (parseMethodDescriptor yX9_rateBy.desc).map (fun d => d.parameters.length) = some 1 := by decide +kernel
set_option maxHeartbeats 4000000 in
set_option maxRecDepth 100000 in
theorem c_X9_rateNow (l : Launch) (D : va_G) (ct ad : Nat → Nat) (b : Nat → Nat) (M SP SV TX NB : Int → Int) (sc tl cd pl cm h : Int) (hI : gInv M) (hB : bInv M) : ZM l yX9_rateNow wsX9_rateNow ({ frames := 4, cells := 0, slots := 0, locals := 93 } : Room) D ct ad [.ref (b 0)] (moW b sc tl cd pl cm h ++ (jrW ct (b 1) 94 M ++ (jrW ct (b 2) 94 SP ++ (jrW ct (b 3) 376 SV ++ (irW ct (b 4) 150 TX ++ (irW ct (b 5) 2 NB)))))) (zD (some (.long (zJ (sp_rateM M)))) (moW b sc tl cd pl cm h ++ (jrW ct (b 1) 94 M ++ (jrW ct (b 2) 94 SP ++ (jrW ct (b 3) 376 SV ++ (irW ct (b 4) 150 TX ++ (irW ct (b 5) 2 NB))))))) := by
  refine ZM.of (cc := cX9_rateNow) (maxL := 1) (ret := (some .long)) (by decide +kernel) rfl (Nat.le_of_ble_eq_true rfl) ?_
  intro p e s m below meth c A ls hx hb hr hts hown hlocks hml hname hE hP hD hA hS hl
  have hK := hE.1
  have hf_0 := hts (.fieldLink RX9 7 "RodGridsModel" "m" "[J") (by decide +kernel)
  have hin_X9 : ∀ z ∈ u_ws RX9 TX9 11, z ∈ wsX9_rateNow := by decide +kernel
  have hl : lv_has ls 1 [(0, .ref (b 0))] := hl
  have i3 := hI.1
  have i4 := hI.2.1
  have j0 := hB.1
  have j1 := hB.2.1
  have j2 := hB.2.2.1
  have j4 := hB.2.2.2.2
  have ql := sp_lenB hI hB j1.2.1
  refine lv_aload_n hx hb dX9_rateNow_0 rfl (lv_at hl 0 rfl) ?_
  refine lv_aload_n hx hb dX9_rateNow_1 rfl (lv_at hl 0 rfl) ?_
  refine lv_aload_n hx hb dX9_rateNow_2 rfl (lv_at hl 0 rfl) ?_
  refine va_get (D := D) (ci := 7) (v := .ref (b 1)) (C := RX9) (T := TX9) (N := 11) hx hb hts hin_X9 hown hK hP 0 rfl rfl 0 (by decide) hf_0 (fun _ h9 => h9) rfl dX9_rateNow_3 ?_
  refine z_bipush hx hb dX9_rateNow_6 (by decide) ?_
  refine z_lald (g := M) (v := M 6) hx hb hK hP 1 rfl (by decide) (by omega) rfl dX9_rateNow_8 ?_
  refine z_callV (C := RX9) (q0 := 0) (ci := 7) (As := [.long (zJ (M 6))]) (rest := [.ref (b 0)]) ([] : va_W) ([] : va_W) hx hb hml hown hts hl hE hS hA (zr0 ([] : va_W) hP) (zr0D ([] : va_W) hD) (c_X9_lengthAt l D ct ad b M SP SV TX NB sc tl cd pl cm h (M 6) (by assumption) (by assumption) (by omega)) gX9_rateNow_X9_lengthAt rfl rfl k_X9_lengthAt ⟨Nat.le_of_ble_eq_true rfl, Nat.le_of_ble_eq_true rfl⟩ rfl rfl rfl rfl (Nat.le_of_ble_eq_true rfl) ⟨Nat.le_of_ble_eq_true rfl, Nat.le_of_ble_eq_true rfl⟩ dX9_rateNow_9 rfl (fun v w1 H locs hpost hP hD hS => ?_)
  obtain ⟨rfl, rfl⟩ := hpost
  have hP := zr0' hP
  have hD := zr0D' hD
  have hP : va_P D vwCl (moW b sc tl cd pl cm h ++ (jrW ct (b 1) 94 M ++ (jrW ct (b 2) 94 SP ++ (jrW ct (b 3) 376 SV ++ (irW ct (b 4) 150 TX ++ (irW ct (b 5) 2 NB)))))) H := hP
  have hD : va_D A (moW b sc tl cd pl cm h ++ (jrW ct (b 1) 94 M ++ (jrW ct (b 2) 94 SP ++ (jrW ct (b 3) 376 SV ++ (irW ct (b 4) 150 TX ++ (irW ct (b 5) 2 NB)))))) := hD
  refine W.eq (g2 := F0 m 12 ls [.long (zJ (sp_len M (M 6))), .ref (b 0)]) rfl ?_
  refine z_callV (C := RX9) (q0 := 0) (ci := 7) (As := [.long (zJ (sp_len M (M 6)))]) (rest := []) ([] : va_W) ([] : va_W) hx hb hml hown hts hl hE hS hA (zr0 ([] : va_W) hP) (zr0D ([] : va_W) hD) (c_X9_rateBy l D ct ad b M SP SV TX NB sc tl cd pl cm h (sp_len M (M 6)) (by assumption) (by assumption) (by omega)) gX9_rateNow_X9_rateBy rfl rfl k_X9_rateBy ⟨Nat.le_of_ble_eq_true rfl, Nat.le_of_ble_eq_true rfl⟩ rfl rfl rfl rfl (Nat.le_of_ble_eq_true rfl) ⟨Nat.le_of_ble_eq_true rfl, Nat.le_of_ble_eq_true rfl⟩ dX9_rateNow_12 rfl (fun v w1 H locs hpost hP hD hS => ?_)
  obtain ⟨rfl, rfl⟩ := hpost
  have hP := zr0' hP
  have hD := zr0D' hD
  have hP : va_P D vwCl (moW b sc tl cd pl cm h ++ (jrW ct (b 1) 94 M ++ (jrW ct (b 2) 94 SP ++ (jrW ct (b 3) 376 SV ++ (irW ct (b 4) 150 TX ++ (irW ct (b 5) 2 NB)))))) H := hP
  have hD : va_D A (moW b sc tl cd pl cm h ++ (jrW ct (b 1) 94 M ++ (jrW ct (b 2) 94 SP ++ (jrW ct (b 3) 376 SV ++ (irW ct (b 4) 150 TX ++ (irW ct (b 5) 2 NB)))))) := hD
  refine W.eq (g2 := F0 m 15 ls [.long (zJ (sp_rate M (sp_len M (M 6)) (M 8)))]) rfl ?_
  exact z_lret hx hb hr hlocks hP hD hS ⟨Nat.le_of_ble_eq_true rfl, Nat.le_of_ble_eq_true rfl⟩ dX9_rateNow_15 (⟨congrArg (fun z => some (Value.long (zJ z))) (rfl), rfl⟩)
set_option maxHeartbeats 4000000 in
set_option maxRecDepth 100000 in
theorem c_X9_stepWarmth (l : Launch) (D : va_G) (ct ad : Nat → Nat) (b : Nat → Nat) (M SP SV TX NB : Int → Int) (sc tl cd pl cm h : Int) (hI : gInv M) (hB : bInv M) : ZM l yX9_stepWarmth wsX9_stepWarmth ({ frames := 1, cells := 0, slots := 0, locals := 23 } : Room) D ct ad [.ref (b 0)] (moW b sc tl cd pl cm h ++ (jrW ct (b 1) 94 M ++ (jrW ct (b 2) 94 SP ++ (jrW ct (b 3) 376 SV ++ (irW ct (b 4) 150 TX ++ (irW ct (b 5) 2 NB)))))) (zD none (moW b sc tl cd pl cm h ++ (jrW ct (b 1) 94 (sp_h1 M) ++ (jrW ct (b 2) 94 SP ++ (jrW ct (b 3) 376 SV ++ (irW ct (b 4) 150 TX ++ (irW ct (b 5) 2 NB))))))) := by
  refine ZM.of (cc := cX9_stepWarmth) (maxL := 5) (ret := none) (by decide +kernel) rfl (Nat.le_of_ble_eq_true rfl) ?_
  intro p e s m below meth c A ls hx hb hr hts hown hlocks hml hname hE hP hD hA hS hl
  have hK := hE.1
  have hf_0 := hts (.fieldLink RX9 7 "RodGridsModel" "m" "[J") (by decide +kernel)
  have hin_X9 : ∀ z ∈ u_ws RX9 TX9 11, z ∈ wsX9_stepWarmth := by decide +kernel
  have hl : lv_has ls 5 [(0, .ref (b 0))] := hl
  have i3 := hI.1
  have i4 := hI.2.1
  have j0 := hB.1
  have j1 := hB.2.1
  have j2 := hB.2.2.1
  have j4 := hB.2.2.2.2
  have q2 := hB.2.2.2.1 (M 5) (by omega) (by omega)
  have qd := divB (a := M (49 + M 5) - M 6) (b := M 1) (by omega) (by omega)
  have qn := @Int.ediv_nonneg (M (49 + M 5) - M 6) (M 1)
  have qz : M (49 + M 5) - M 6 < 0 → (M (49 + M 5) - M 6) / M 1 < 0 := fun h => Int.ediv_neg_of_neg_of_pos h (by omega)
  refine lv_aload_n hx hb dX9_stepWarmth_0 rfl (lv_at hl 0 rfl) ?_
  refine va_get (D := D) (ci := 7) (v := .ref (b 1)) (C := RX9) (T := TX9) (N := 11) hx hb hts hin_X9 hown hK hP 0 rfl rfl 0 (by decide) hf_0 (fun _ h9 => h9) rfl dX9_stepWarmth_1 ?_
  refine z_bipush hx hb dX9_stepWarmth_4 (by decide) ?_
  refine lv_aload_n hx hb dX9_stepWarmth_6 rfl (lv_at hl 0 rfl) ?_
  refine z_iconst hx hb dX9_stepWarmth_7 ?_
  refine z_callV (C := RX9) (q0 := 0) (ci := 7) (As := [.int (zI 5)]) (rest := [.int (zI 49), .ref (b 1)]) ([] : va_W) ([] : va_W) hx hb hml hown hts hl hE hS hA (zr0 ([] : va_W) hP) (zr0D ([] : va_W) hD) (c_X9_of l D ct ad b M SP SV TX NB sc tl cd pl cm h 5 (by omega)) gX9_stepWarmth_X9_of rfl rfl k_X9_of ⟨Nat.le_of_ble_eq_true rfl, Nat.le_of_ble_eq_true rfl⟩ rfl rfl rfl rfl (Nat.le_of_ble_eq_true rfl) ⟨Nat.le_of_ble_eq_true rfl, Nat.le_of_ble_eq_true rfl⟩ dX9_stepWarmth_8 rfl (fun v w1 H locs hpost hP hD hS => ?_)
  obtain ⟨rfl, rfl⟩ := hpost
  have hP := zr0' hP
  have hD := zr0D' hD
  have hP : va_P D vwCl (moW b sc tl cd pl cm h ++ (jrW ct (b 1) 94 M ++ (jrW ct (b 2) 94 SP ++ (jrW ct (b 3) 376 SV ++ (irW ct (b 4) 150 TX ++ (irW ct (b 5) 2 NB)))))) H := hP
  have hD : va_D A (moW b sc tl cd pl cm h ++ (jrW ct (b 1) 94 M ++ (jrW ct (b 2) 94 SP ++ (jrW ct (b 3) 376 SV ++ (irW ct (b 4) 150 TX ++ (irW ct (b 5) 2 NB)))))) := hD
  refine W.eq (g2 := F0 m 11 ls [.int (zI (M 5)), .int (zI 49), .ref (b 1)]) rfl ?_
  refine z_iadd hx hb dX9_stepWarmth_11 ?_
  refine z_lald (g := M) (v := M (49 + (M 5))) hx hb hK hP 1 rfl (by decide) (by omega) rfl dX9_stepWarmth_12 ?_
  refine lv_aload_n hx hb dX9_stepWarmth_13 rfl (lv_at hl 0 rfl) ?_
  refine va_get (D := D) (ci := 7) (v := .ref (b 1)) (C := RX9) (T := TX9) (N := 11) hx hb hts hin_X9 hown hK hP 0 rfl rfl 0 (by decide) hf_0 (fun _ h9 => h9) rfl dX9_stepWarmth_14 ?_
  refine z_bipush hx hb dX9_stepWarmth_17 (by decide) ?_
  refine z_lald (g := M) (v := M 6) hx hb hK hP 1 rfl (by decide) (by omega) rfl dX9_stepWarmth_19 ?_
  refine z_lsub hx hb dX9_stepWarmth_20 ?_
  refine lv_lstore_n (lv' := [(1, .long (zJ ((M (49 + (M 5))) - (M 6)))), (0, .ref (b 0))]) hx hb dX9_stepWarmth_21 rfl hl (by decide) rfl (fun ls hl => ?_)
  refine lv_lload_n hx hb dX9_stepWarmth_22 rfl (lv_at hl 0 rfl) ?_
  refine lv_aload_n hx hb dX9_stepWarmth_23 rfl (lv_at hl 1 rfl) ?_
  refine va_get (D := D) (ci := 7) (v := .ref (b 1)) (C := RX9) (T := TX9) (N := 11) hx hb hts hin_X9 hown hK hP 0 rfl rfl 0 (by decide) hf_0 (fun _ h9 => h9) rfl dX9_stepWarmth_24 ?_
  refine z_iconst hx hb dX9_stepWarmth_27 ?_
  refine z_lald (g := M) (v := M 1) hx hb hK hP 1 rfl (by decide) (by omega) rfl dX9_stepWarmth_28 ?_
  refine z_callS (As := [.long (zJ ((M (49 + (M 5))) - (M 6))), .long (zJ (M 1))]) (rest := []) ([] : va_W) (moW b sc tl cd pl cm h ++ (jrW ct (b 1) 94 M ++ (jrW ct (b 2) 94 SP ++ (jrW ct (b 3) 376 SV ++ (irW ct (b 4) 150 TX ++ (irW ct (b 5) 2 NB)))))) hx hb hml hown hts hl hE hS hA hP hD (c_X9_floor l D ct ad ((M (49 + (M 5))) - (M 6)) (M 1) (by omega) (by omega)) gX9_stepWarmth_X9_floor rfl k_X9_floor ⟨Nat.le_of_ble_eq_true rfl, Nat.le_of_ble_eq_true rfl⟩ rfl (Nat.le_of_ble_eq_true rfl) ⟨Nat.le_of_ble_eq_true rfl, Nat.le_of_ble_eq_true rfl⟩ dX9_stepWarmth_29 rfl (fun v w1 H locs hpost hP hD hS => ?_)
  obtain ⟨rfl, rfl⟩ := hpost
  have hP : va_P D vwCl (moW b sc tl cd pl cm h ++ (jrW ct (b 1) 94 M ++ (jrW ct (b 2) 94 SP ++ (jrW ct (b 3) 376 SV ++ (irW ct (b 4) 150 TX ++ (irW ct (b 5) 2 NB)))))) H := hP
  have hD : va_D A (moW b sc tl cd pl cm h ++ (jrW ct (b 1) 94 M ++ (jrW ct (b 2) 94 SP ++ (jrW ct (b 3) 376 SV ++ (irW ct (b 4) 150 TX ++ (irW ct (b 5) 2 NB)))))) := hD
  refine W.eq (g2 := F0 m 32 ls [.long (zJ (((M (49 + (M 5))) - (M 6)) / (M 1)))]) rfl ?_
  refine lv_lstore_n (lv' := [(3, .long (zJ (((M (49 + (M 5))) - (M 6)) / (M 1)))), (1, .long (zJ ((M (49 + (M 5))) - (M 6)))), (0, .ref (b 0))]) hx hb dX9_stepWarmth_32 rfl hl (by decide) rfl (fun ls hl => ?_)
  refine lv_aload_n hx hb dX9_stepWarmth_33 rfl (lv_at hl 2 rfl) ?_
  refine va_get (D := D) (ci := 7) (v := .ref (b 1)) (C := RX9) (T := TX9) (N := 11) hx hb hts hin_X9 hown hK hP 0 rfl rfl 0 (by decide) hf_0 (fun _ h9 => h9) rfl dX9_stepWarmth_34 ?_
  refine z_bipush hx hb dX9_stepWarmth_37 (by decide) ?_
  refine lv_dup2_11 hx hb dX9_stepWarmth_39 rfl rfl ?_
  refine z_lald (g := M) (v := M 6) hx hb hK hP 1 rfl (by decide) (by omega) rfl dX9_stepWarmth_40 ?_
  refine lv_lload_n hx hb dX9_stepWarmth_41 rfl (lv_at hl 0 rfl) ?_
  refine z_lconst (z := 0) hx hb dX9_stepWarmth_42 rfl ?_
  refine z_lcmp_ne (tgt := 69) hx hb dX9_stepWarmth_43 dX9_stepWarmth_44 (by decide) (by omega) (by omega) (fun hc_43 => ?_) (fun hc_43 => ?_)
  · have hc_43 := hc_43
    refine lv_lload_n hx hb dX9_stepWarmth_69 rfl (lv_at hl 0 rfl) ?_
    refine z_ladd hx hb dX9_stepWarmth_70 ?_
    refine z_last (g := M) (w2 := moW b sc tl cd pl cm h ++ (jrW ct (b 1) 94 (up M 6 ((M 6) + (((M (49 + (M 5))) - (M 6)) / (M 1)))) ++ (jrW ct (b 2) 94 SP ++ (jrW ct (b 3) 376 SV ++ (irW ct (b 4) 150 TX ++ (irW ct (b 5) 2 NB)))))) hx hb hK hP hD hS 1 rfl (by decide) (by omega) dX9_stepWarmth_71 (rfl) (fun H locs hP hD hS => ?_)
    exact z_vret hx hb hr hlocks hP hD hS ⟨Nat.le_of_ble_eq_true rfl, Nat.le_of_ble_eq_true rfl⟩ dX9_stepWarmth_72 (⟨rfl, by unfold sp_h1 sp_warm; first | rw [if_pos ⟨by omega, by omega⟩] | rw [if_neg (by omega)]⟩)
  · have hc_43 := hc_43
    refine lv_lload_n hx hb dX9_stepWarmth_47 rfl (lv_at hl 1 rfl) ?_
    refine z_lconst (z := 0) hx hb dX9_stepWarmth_48 rfl ?_
    refine z_lcmp_eq (tgt := 69) hx hb dX9_stepWarmth_49 dX9_stepWarmth_50 (by decide) (by omega) (by omega) (fun hc_49 => ?_) (fun hc_49 => ?_)
    · have hc_49 := hc_49
      refine lv_lload_n hx hb dX9_stepWarmth_69 rfl (lv_at hl 0 rfl) ?_
      refine z_ladd hx hb dX9_stepWarmth_70 ?_
      refine z_last (g := M) (w2 := moW b sc tl cd pl cm h ++ (jrW ct (b 1) 94 (up M 6 ((M 6) + (((M (49 + (M 5))) - (M 6)) / (M 1)))) ++ (jrW ct (b 2) 94 SP ++ (jrW ct (b 3) 376 SV ++ (irW ct (b 4) 150 TX ++ (irW ct (b 5) 2 NB)))))) hx hb hK hP hD hS 1 rfl (by decide) (by omega) dX9_stepWarmth_71 (rfl) (fun H locs hP hD hS => ?_)
      exact z_vret hx hb hr hlocks hP hD hS ⟨Nat.le_of_ble_eq_true rfl, Nat.le_of_ble_eq_true rfl⟩ dX9_stepWarmth_72 (⟨rfl, by unfold sp_h1 sp_warm; first | rw [if_pos ⟨by omega, by omega⟩] | rw [if_neg (by omega)]⟩)
    · have hc_49 := hc_49
      refine lv_lload_n hx hb dX9_stepWarmth_53 rfl (lv_at hl 1 rfl) ?_
      refine z_lconst (z := 0) hx hb dX9_stepWarmth_54 rfl ?_
      refine z_lcmp_le (tgt := 63) hx hb dX9_stepWarmth_55 dX9_stepWarmth_56 (by decide) (by omega) (by omega) (fun hc_55 => ?_) (fun hc_55 => ?_)
      · have hc_55 := hc_55
        omega
      · have hc_55 := hc_55
        refine z_lconst (z := 1) hx hb dX9_stepWarmth_59 rfl ?_
        refine lv_goto (tgt := 70) hx hb dX9_stepWarmth_60 (by decide) ?_
        refine z_ladd hx hb dX9_stepWarmth_70 ?_
        refine z_last (g := M) (w2 := moW b sc tl cd pl cm h ++ (jrW ct (b 1) 94 (up M 6 ((M 6) + 1)) ++ (jrW ct (b 2) 94 SP ++ (jrW ct (b 3) 376 SV ++ (irW ct (b 4) 150 TX ++ (irW ct (b 5) 2 NB)))))) hx hb hK hP hD hS 1 rfl (by decide) (by omega) dX9_stepWarmth_71 (rfl) (fun H locs hP hD hS => ?_)
        exact z_vret hx hb hr hlocks hP hD hS ⟨Nat.le_of_ble_eq_true rfl, Nat.le_of_ble_eq_true rfl⟩ dX9_stepWarmth_72 (⟨rfl, by unfold sp_h1 sp_warm; first | rw [if_pos ⟨by omega, by omega⟩] | rw [if_neg (by omega)]⟩)
theorem k_X9_rateNow : yX9_rateNow.cls ≠ "java/lang/invoke/MethodHandle" ∧ yX9_rateNow.cls ≠ "java/lang/invoke/VarHandle" ∧ (parseMethodDescriptor yX9_rateNow.desc).map (fun d => d.parameters.length) = some 0 := by decide +kernel
set_option maxHeartbeats 4000000 in
set_option maxRecDepth 100000 in
theorem c_X9_logDay (l : Launch) (D : va_G) (ct ad : Nat → Nat) (b : Nat → Nat) (M SP SV TX NB : Int → Int) (sc tl cd pl cm h : Int) (hI : gInv M) (hB : bInv M) : ZM l yX9_logDay wsX9_logDay ({ frames := 5, cells := 0, slots := 0, locals := 113 } : Room) D ct ad [.ref (b 0)] (moW b sc tl cd pl cm h ++ (jrW ct (b 1) 94 M ++ (jrW ct (b 2) 94 SP ++ (jrW ct (b 3) 376 SV ++ (irW ct (b 4) 150 TX ++ (irW ct (b 5) 2 NB)))))) (zD none (moW b sc tl cd pl cm h ++ (jrW ct (b 1) 94 (sp_end M) ++ (jrW ct (b 2) 94 SP ++ (jrW ct (b 3) 376 SV ++ (irW ct (b 4) 150 TX ++ (irW ct (b 5) 2 NB))))))) := by
  refine ZM.of (cc := cX9_logDay) (maxL := 2) (ret := none) (by decide +kernel) rfl (Nat.le_of_ble_eq_true rfl) ?_
  intro p e s m below meth c A ls hx hb hr hts hown hlocks hml hname hE hP hD hA hS hl
  have hK := hE.1
  have hf_0 := hts (.fieldLink RX9 7 "RodGridsModel" "m" "[J") (by decide +kernel)
  have hf_1 := hts (.constantLong RX9 135 (10)) (by decide +kernel)
  have hin_X9 : ∀ z ∈ u_ws RX9 TX9 11, z ∈ wsX9_logDay := by decide +kernel
  have hl : lv_has ls 2 [(0, .ref (b 0))] := hl
  have i3 := hI.1
  have i4 := hI.2.1
  have j0 := hB.1
  have j1 := hB.2.1
  have j2 := hB.2.2.1
  have j4 := hB.2.2.2.2
  refine z_bipush hx hb dX9_logDay_0 (by decide) ?_
  refine lv_istore_n (lv' := [(1, .int (zI 39)), (0, .ref (b 0))]) hx hb dX9_logDay_2 rfl hl (by decide) rfl (fun ls hl => ?_)
  refine z_loop (σ := Int × (Int → Int)) (fun q9 => q9.1.toNat) (fun q9 => (3 ≤ q9.1 ∧ q9.1 ≤ 39) ∧ (q9.2 = lgN M q9.1)) (fun q9 => moW b sc tl cd pl cm h ++ (jrW ct (b 1) 94 q9.2 ++ (jrW ct (b 2) 94 SP ++ (jrW ct (b 3) 376 SV ++ (irW ct (b 4) 150 TX ++ (irW ct (b 5) 2 NB)))))) (fun q9 => [(0, .ref (b 0)), (1, .int (zI q9.1))]) (fun q9 => []) (39, M) ⟨(show 3 ≤ 39 ∧ 39 ≤ 39 from (by omega)), (show M = lgN M 39 from (by rw [lgN_0]))⟩ hP hD hS (lv_sub hl [1, 0] rfl) rfl ?_
  rintro ⟨i, U⟩ hI_3 ih_3 H locs ls hP hD hS hl
  obtain ⟨hi, hU⟩ := hI_3
  have hi : 3 ≤ i ∧ i ≤ 39 := hi
  have hU : U = lgN M i := hU
  have hP : va_P D vwCl (moW b sc tl cd pl cm h ++ (jrW ct (b 1) 94 U ++ (jrW ct (b 2) 94 SP ++ (jrW ct (b 3) 376 SV ++ (irW ct (b 4) 150 TX ++ (irW ct (b 5) 2 NB)))))) H := hP
  have hD : va_D A (moW b sc tl cd pl cm h ++ (jrW ct (b 1) 94 U ++ (jrW ct (b 2) 94 SP ++ (jrW ct (b 3) 376 SV ++ (irW ct (b 4) 150 TX ++ (irW ct (b 5) 2 NB)))))) := hD
  have hl : lv_has ls 2 [(0, .ref (b 0)), (1, .int (zI i))] := hl
  refine lv_iload_n hx hb dX9_logDay_3 rfl (lv_at hl 1 rfl) ?_
  refine z_iconst hx hb dX9_logDay_4 ?_
  refine z_icmp_le (tgt := 34) hx hb dX9_logDay_5 (by decide) (by omega) (by omega) (fun hc_5 => ?_) (fun hc_5 => ?_)
  · have hc_5 := hc_5
    refine lv_aload_n hx hb dX9_logDay_34 rfl (lv_at hl 0 rfl) ?_
    refine va_get (D := D) (ci := 7) (v := .ref (b 1)) (C := RX9) (T := TX9) (N := 11) hx hb hts hin_X9 hown hK hP 0 rfl rfl 0 (by decide) hf_0 (fun _ h9 => h9) rfl dX9_logDay_35 ?_
    refine z_bipush hx hb dX9_logDay_38 (by decide) ?_
    refine lv_aload_n hx hb dX9_logDay_40 rfl (lv_at hl 0 rfl) ?_
    refine va_get (D := D) (ci := 7) (v := .ref (b 1)) (C := RX9) (T := TX9) (N := 11) hx hb hts hin_X9 hown hK hP 0 rfl rfl 0 (by decide) hf_0 (fun _ h9 => h9) rfl dX9_logDay_41 ?_
    refine z_bipush hx hb dX9_logDay_44 (by decide) ?_
    refine z_lald (g := U) (v := U 6) hx hb hK hP 1 rfl (by decide) (by omega) rfl dX9_logDay_46 ?_
    refine z_last (g := U) (w2 := moW b sc tl cd pl cm h ++ (jrW ct (b 1) 94 (up U 54 (U 6)) ++ (jrW ct (b 2) 94 SP ++ (jrW ct (b 3) 376 SV ++ (irW ct (b 4) 150 TX ++ (irW ct (b 5) 2 NB)))))) hx hb hK hP hD hS 1 rfl (by decide) (by omega) dX9_logDay_47 (rfl) (fun H locs hP hD hS => ?_)
    obtain ⟨N1, hN1⟩ : ∃ z : Int → Int, z = up U 54 (U 6) := ⟨_, rfl⟩
    have hP : va_P D vwCl (moW b sc tl cd pl cm h ++ (jrW ct (b 1) 94 N1 ++ (jrW ct (b 2) 94 SP ++ (jrW ct (b 3) 376 SV ++ (irW ct (b 4) 150 TX ++ (irW ct (b 5) 2 NB)))))) H := by rw [hN1]; exact hP
    have hD : va_D A (moW b sc tl cd pl cm h ++ (jrW ct (b 1) 94 N1 ++ (jrW ct (b 2) 94 SP ++ (jrW ct (b 3) 376 SV ++ (irW ct (b 4) 150 TX ++ (irW ct (b 5) 2 NB)))))) := by rw [hN1]; exact hD
    have eN : N1 = up (st_shift M) 54 (M 6) := by rw [hN1, hU, show i = 3 by omega, lgN_3, shift_n (j := 6) (by omega)]
    have aN : agr M N1 := fun j hj => by rw [eN, up_n (by omega)]; exact shift_n (by omega)
    have f6 : N1 6 = M 6 := by rw [eN, up_n (by omega)]; exact shift_n (by omega)
    have f8 : N1 8 = M 8 := by rw [eN, up_n (by omega)]; exact shift_n (by omega)
    have g1 : gInv N1 := gInv_eq (fun j hj => by rw [eN, up_n (by omega)]; exact shift_n (by omega)) hI
    have b1 : bInv N1 := bInv_eq (fun j hj => by rw [eN, up_n (by omega)]; exact shift_n (by omega)) hB
    have eR : sp_rateM N1 = sp_rateM M := rateM_agr hI aN f6 f8
    have fv : ∀ j : Int, 9 ≤ j ∧ j ≤ 15 → N1 j = M j := fun j hj => by rw [eN, up_n (by omega)]; exact shift_n (by omega)
    have f15 := fv 15 (by omega)
    have j15 := hB.2.2.2.2
    refine lv_aload_n hx hb dX9_logDay_48 rfl (lv_at hl 0 rfl) ?_
    refine va_get (D := D) (ci := 7) (v := .ref (b 1)) (C := RX9) (T := TX9) (N := 11) hx hb hts hin_X9 hown hK hP 0 rfl rfl 0 (by decide) hf_0 (fun _ h9 => h9) rfl dX9_logDay_49 ?_
    refine z_bipush hx hb dX9_logDay_52 (by decide) ?_
    refine lv_aload_n hx hb dX9_logDay_54 rfl (lv_at hl 0 rfl) ?_
    refine z_callV (C := RX9) (q0 := 0) (ci := 7) (As := []) (rest := [.int (zI 55), .ref (b 1)]) ([] : va_W) ([] : va_W) hx hb hml hown hts hl hE hS hA (zr0 ([] : va_W) hP) (zr0D ([] : va_W) hD) (c_X9_rateNow l D ct ad b N1 SP SV TX NB sc tl cd pl cm h (by assumption) (by assumption)) gX9_logDay_X9_rateNow rfl rfl k_X9_rateNow ⟨Nat.le_of_ble_eq_true rfl, Nat.le_of_ble_eq_true rfl⟩ rfl rfl rfl rfl (Nat.le_of_ble_eq_true rfl) ⟨Nat.le_of_ble_eq_true rfl, Nat.le_of_ble_eq_true rfl⟩ dX9_logDay_55 rfl (fun v w1 H locs hpost hP hD hS => ?_)
    obtain ⟨rfl, rfl⟩ := hpost
    have hP := zr0' hP
    have hD := zr0D' hD
    have hP : va_P D vwCl (moW b sc tl cd pl cm h ++ (jrW ct (b 1) 94 N1 ++ (jrW ct (b 2) 94 SP ++ (jrW ct (b 3) 376 SV ++ (irW ct (b 4) 150 TX ++ (irW ct (b 5) 2 NB)))))) H := hP
    have hD : va_D A (moW b sc tl cd pl cm h ++ (jrW ct (b 1) 94 N1 ++ (jrW ct (b 2) 94 SP ++ (jrW ct (b 3) 376 SV ++ (irW ct (b 4) 150 TX ++ (irW ct (b 5) 2 NB)))))) := hD
    refine W.eq (g2 := F0 m 58 ls [.long (zJ (sp_rateM N1)), .int (zI 55), .ref (b 1)]) rfl ?_
    refine z_last (g := N1) (w2 := moW b sc tl cd pl cm h ++ (jrW ct (b 1) 94 (up N1 55 (sp_rateM N1)) ++ (jrW ct (b 2) 94 SP ++ (jrW ct (b 3) 376 SV ++ (irW ct (b 4) 150 TX ++ (irW ct (b 5) 2 NB)))))) hx hb hK hP hD hS 1 rfl (by decide) (by omega) dX9_logDay_58 (rfl) (fun H locs hP hD hS => ?_)
    refine lv_aload_n hx hb dX9_logDay_59 rfl (lv_at hl 0 rfl) ?_
    refine va_get (D := D) (ci := 7) (v := .ref (b 1)) (C := RX9) (T := TX9) (N := 11) hx hb hts hin_X9 hown hK hP 0 rfl rfl 0 (by decide) hf_0 (fun _ h9 => h9) rfl dX9_logDay_60 ?_
    refine z_bipush hx hb dX9_logDay_63 (by decide) ?_
    refine lv_aload_n hx hb dX9_logDay_65 rfl (lv_at hl 0 rfl) ?_
    refine va_get (D := D) (ci := 7) (v := .ref (b 1)) (C := RX9) (T := TX9) (N := 11) hx hb hts hin_X9 hown hK hP 0 rfl rfl 0 (by decide) hf_0 (fun _ h9 => h9) rfl dX9_logDay_66 ?_
    refine z_bipush hx hb dX9_logDay_69 (by decide) ?_
    refine z_lald (g := up N1 55 (sp_rateM N1)) (v := N1 12) hx hb hK hP 1 rfl (by decide) (by omega) (show (up N1 55 (sp_rateM N1)) 12 = N1 12 from by rw [up_n (by omega)]) dX9_logDay_71 ?_
    refine lv_aload_n hx hb dX9_logDay_72 rfl (lv_at hl 0 rfl) ?_
    refine va_get (D := D) (ci := 7) (v := .ref (b 1)) (C := RX9) (T := TX9) (N := 11) hx hb hts hin_X9 hown hK hP 0 rfl rfl 0 (by decide) hf_0 (fun _ h9 => h9) rfl dX9_logDay_73 ?_
    refine z_bipush hx hb dX9_logDay_76 (by decide) ?_
    refine z_lald (g := up N1 55 (sp_rateM N1)) (v := N1 13) hx hb hK hP 1 rfl (by decide) (by omega) (show (up N1 55 (sp_rateM N1)) 13 = N1 13 from by rw [up_n (by omega)]) dX9_logDay_78 ?_
    refine z_lsub hx hb dX9_logDay_79 ?_
    refine z_last (g := up N1 55 (sp_rateM N1)) (w2 := moW b sc tl cd pl cm h ++ (jrW ct (b 1) 94 (up (up N1 55 (sp_rateM N1)) 56 ((N1 12) - (N1 13))) ++ (jrW ct (b 2) 94 SP ++ (jrW ct (b 3) 376 SV ++ (irW ct (b 4) 150 TX ++ (irW ct (b 5) 2 NB)))))) hx hb hK hP hD hS 1 rfl (by decide) (by omega) dX9_logDay_80 (rfl) (fun H locs hP hD hS => ?_)
    refine lv_aload_n hx hb dX9_logDay_81 rfl (lv_at hl 0 rfl) ?_
    refine va_get (D := D) (ci := 7) (v := .ref (b 1)) (C := RX9) (T := TX9) (N := 11) hx hb hts hin_X9 hown hK hP 0 rfl rfl 0 (by decide) hf_0 (fun _ h9 => h9) rfl dX9_logDay_82 ?_
    refine z_bipush hx hb dX9_logDay_85 (by decide) ?_
    refine lv_aload_n hx hb dX9_logDay_87 rfl (lv_at hl 0 rfl) ?_
    refine va_get (D := D) (ci := 7) (v := .ref (b 1)) (C := RX9) (T := TX9) (N := 11) hx hb hts hin_X9 hown hK hP 0 rfl rfl 0 (by decide) hf_0 (fun _ h9 => h9) rfl dX9_logDay_88 ?_
    refine z_bipush hx hb dX9_logDay_91 (by decide) ?_
    refine z_lald (g := up (up N1 55 (sp_rateM N1)) 56 ((N1 12) - (N1 13))) (v := N1 10) hx hb hK hP 1 rfl (by decide) (by omega) (show (up (up N1 55 (sp_rateM N1)) 56 ((N1 12) - (N1 13))) 10 = N1 10 from by rw [up_n (by omega), up_n (by omega)]) dX9_logDay_93 ?_
    refine lv_aload_n hx hb dX9_logDay_94 rfl (lv_at hl 0 rfl) ?_
    refine va_get (D := D) (ci := 7) (v := .ref (b 1)) (C := RX9) (T := TX9) (N := 11) hx hb hts hin_X9 hown hK hP 0 rfl rfl 0 (by decide) hf_0 (fun _ h9 => h9) rfl dX9_logDay_95 ?_
    refine z_bipush hx hb dX9_logDay_98 (by decide) ?_
    refine z_lald (g := up (up N1 55 (sp_rateM N1)) 56 ((N1 12) - (N1 13))) (v := N1 14) hx hb hK hP 1 rfl (by decide) (by omega) (show (up (up N1 55 (sp_rateM N1)) 56 ((N1 12) - (N1 13))) 14 = N1 14 from by rw [up_n (by omega), up_n (by omega)]) dX9_logDay_100 ?_
    refine z_lsub hx hb dX9_logDay_101 ?_
    refine z_last (g := up (up N1 55 (sp_rateM N1)) 56 ((N1 12) - (N1 13))) (w2 := moW b sc tl cd pl cm h ++ (jrW ct (b 1) 94 (up (up (up N1 55 (sp_rateM N1)) 56 ((N1 12) - (N1 13))) 57 ((N1 10) - (N1 14))) ++ (jrW ct (b 2) 94 SP ++ (jrW ct (b 3) 376 SV ++ (irW ct (b 4) 150 TX ++ (irW ct (b 5) 2 NB)))))) hx hb hK hP hD hS 1 rfl (by decide) (by omega) dX9_logDay_102 (rfl) (fun H locs hP hD hS => ?_)
    refine lv_aload_n hx hb dX9_logDay_103 rfl (lv_at hl 0 rfl) ?_
    refine va_get (D := D) (ci := 7) (v := .ref (b 1)) (C := RX9) (T := TX9) (N := 11) hx hb hts hin_X9 hown hK hP 0 rfl rfl 0 (by decide) hf_0 (fun _ h9 => h9) rfl dX9_logDay_104 ?_
    refine z_bipush hx hb dX9_logDay_107 (by decide) ?_
    refine lv_aload_n hx hb dX9_logDay_109 rfl (lv_at hl 0 rfl) ?_
    refine va_get (D := D) (ci := 7) (v := .ref (b 1)) (C := RX9) (T := TX9) (N := 11) hx hb hts hin_X9 hown hK hP 0 rfl rfl 0 (by decide) hf_0 (fun _ h9 => h9) rfl dX9_logDay_110 ?_
    refine z_bipush hx hb dX9_logDay_113 (by decide) ?_
    refine z_lald (g := up (up (up N1 55 (sp_rateM N1)) 56 ((N1 12) - (N1 13))) 57 ((N1 10) - (N1 14))) (v := N1 12) hx hb hK hP 1 rfl (by decide) (by omega) (show (up (up (up N1 55 (sp_rateM N1)) 56 ((N1 12) - (N1 13))) 57 ((N1 10) - (N1 14))) 12 = N1 12 from by rw [up_n (by omega), up_n (by omega), up_n (by omega)]) dX9_logDay_115 ?_
    refine z_last (g := up (up (up N1 55 (sp_rateM N1)) 56 ((N1 12) - (N1 13))) 57 ((N1 10) - (N1 14))) (w2 := moW b sc tl cd pl cm h ++ (jrW ct (b 1) 94 (up (up (up (up N1 55 (sp_rateM N1)) 56 ((N1 12) - (N1 13))) 57 ((N1 10) - (N1 14))) 13 (N1 12)) ++ (jrW ct (b 2) 94 SP ++ (jrW ct (b 3) 376 SV ++ (irW ct (b 4) 150 TX ++ (irW ct (b 5) 2 NB)))))) hx hb hK hP hD hS 1 rfl (by decide) (by omega) dX9_logDay_116 (rfl) (fun H locs hP hD hS => ?_)
    refine lv_aload_n hx hb dX9_logDay_117 rfl (lv_at hl 0 rfl) ?_
    refine va_get (D := D) (ci := 7) (v := .ref (b 1)) (C := RX9) (T := TX9) (N := 11) hx hb hts hin_X9 hown hK hP 0 rfl rfl 0 (by decide) hf_0 (fun _ h9 => h9) rfl dX9_logDay_118 ?_
    refine z_bipush hx hb dX9_logDay_121 (by decide) ?_
    refine lv_aload_n hx hb dX9_logDay_123 rfl (lv_at hl 0 rfl) ?_
    refine va_get (D := D) (ci := 7) (v := .ref (b 1)) (C := RX9) (T := TX9) (N := 11) hx hb hts hin_X9 hown hK hP 0 rfl rfl 0 (by decide) hf_0 (fun _ h9 => h9) rfl dX9_logDay_124 ?_
    refine z_bipush hx hb dX9_logDay_127 (by decide) ?_
    refine z_lald (g := up (up (up (up N1 55 (sp_rateM N1)) 56 ((N1 12) - (N1 13))) 57 ((N1 10) - (N1 14))) 13 (N1 12)) (v := N1 10) hx hb hK hP 1 rfl (by decide) (by omega) (show (up (up (up (up N1 55 (sp_rateM N1)) 56 ((N1 12) - (N1 13))) 57 ((N1 10) - (N1 14))) 13 (N1 12)) 10 = N1 10 from by rw [up_n (by omega), up_n (by omega), up_n (by omega), up_n (by omega)]) dX9_logDay_129 ?_
    refine z_last (g := up (up (up (up N1 55 (sp_rateM N1)) 56 ((N1 12) - (N1 13))) 57 ((N1 10) - (N1 14))) 13 (N1 12)) (w2 := moW b sc tl cd pl cm h ++ (jrW ct (b 1) 94 (up (up (up (up (up N1 55 (sp_rateM N1)) 56 ((N1 12) - (N1 13))) 57 ((N1 10) - (N1 14))) 13 (N1 12)) 14 (N1 10)) ++ (jrW ct (b 2) 94 SP ++ (jrW ct (b 3) 376 SV ++ (irW ct (b 4) 150 TX ++ (irW ct (b 5) 2 NB)))))) hx hb hK hP hD hS 1 rfl (by decide) (by omega) dX9_logDay_130 (rfl) (fun H locs hP hD hS => ?_)
    refine lv_aload_n hx hb dX9_logDay_131 rfl (lv_at hl 0 rfl) ?_
    refine va_get (D := D) (ci := 7) (v := .ref (b 1)) (C := RX9) (T := TX9) (N := 11) hx hb hts hin_X9 hown hK hP 0 rfl rfl 0 (by decide) hf_0 (fun _ h9 => h9) rfl dX9_logDay_132 ?_
    refine z_bipush hx hb dX9_logDay_135 (by decide) ?_
    refine lv_aload_n hx hb dX9_logDay_137 rfl (lv_at hl 0 rfl) ?_
    refine va_get (D := D) (ci := 7) (v := .ref (b 1)) (C := RX9) (T := TX9) (N := 11) hx hb hts hin_X9 hown hK hP 0 rfl rfl 0 (by decide) hf_0 (fun _ h9 => h9) rfl dX9_logDay_138 ?_
    refine z_bipush hx hb dX9_logDay_141 (by decide) ?_
    refine z_lald (g := up (up (up (up (up N1 55 (sp_rateM N1)) 56 ((N1 12) - (N1 13))) 57 ((N1 10) - (N1 14))) 13 (N1 12)) 14 (N1 10)) (v := N1 15) hx hb hK hP 1 rfl (by decide) (by omega) (show (up (up (up (up (up N1 55 (sp_rateM N1)) 56 ((N1 12) - (N1 13))) 57 ((N1 10) - (N1 14))) 13 (N1 12)) 14 (N1 10)) 15 = N1 15 from by rw [up_n (by omega), up_n (by omega), up_n (by omega), up_n (by omega), up_n (by omega)]) dX9_logDay_143 ?_
    refine z_ldc2 hx hb 10 hown hf_1 (by decide) dX9_logDay_144 ?_
    refine z_lcmp_ge (tgt := 163) hx hb dX9_logDay_147 dX9_logDay_148 (by decide) (by omega) (by omega) (fun hc_147 => ?_) (fun hc_147 => ?_)
    · have hc_147 := hc_147
      refine z_ldc2 hx hb 10 hown hf_1 (by decide) dX9_logDay_163 ?_
      refine z_last (g := up (up (up (up (up N1 55 (sp_rateM N1)) 56 ((N1 12) - (N1 13))) 57 ((N1 10) - (N1 14))) 13 (N1 12)) 14 (N1 10)) (w2 := moW b sc tl cd pl cm h ++ (jrW ct (b 1) 94 (up (up (up (up (up (up N1 55 (sp_rateM N1)) 56 ((N1 12) - (N1 13))) 57 ((N1 10) - (N1 14))) 13 (N1 12)) 14 (N1 10)) 15 10) ++ (jrW ct (b 2) 94 SP ++ (jrW ct (b 3) 376 SV ++ (irW ct (b 4) 150 TX ++ (irW ct (b 5) 2 NB)))))) hx hb hK hP hD hS 1 rfl (by decide) (by omega) dX9_logDay_166 (rfl) (fun H locs hP hD hS => ?_)
      exact z_vret hx hb hr hlocks hP hD hS ⟨Nat.le_of_ble_eq_true rfl, Nat.le_of_ble_eq_true rfl⟩ dX9_logDay_167 (⟨rfl, by unfold sp_end st_day; rw [eR, fv 10 (by omega), fv 12 (by omega), fv 13 (by omega), fv 14 (by omega)]; (try rw [fv 15 (by omega)]); rw [eN, st_day_mo]; first | rw [show min (M 15 + 1) 10 = M 15 + 1 by omega] | rw [show min (M 15 + 1) 10 = 10 by omega]⟩)
    · have hc_147 := hc_147
      refine lv_aload_n hx hb dX9_logDay_151 rfl (lv_at hl 0 rfl) ?_
      refine va_get (D := D) (ci := 7) (v := .ref (b 1)) (C := RX9) (T := TX9) (N := 11) hx hb hts hin_X9 hown hK hP 0 rfl rfl 0 (by decide) hf_0 (fun _ h9 => h9) rfl dX9_logDay_152 ?_
      refine z_bipush hx hb dX9_logDay_155 (by decide) ?_
      refine z_lald (g := up (up (up (up (up N1 55 (sp_rateM N1)) 56 ((N1 12) - (N1 13))) 57 ((N1 10) - (N1 14))) 13 (N1 12)) 14 (N1 10)) (v := N1 15) hx hb hK hP 1 rfl (by decide) (by omega) (show (up (up (up (up (up N1 55 (sp_rateM N1)) 56 ((N1 12) - (N1 13))) 57 ((N1 10) - (N1 14))) 13 (N1 12)) 14 (N1 10)) 15 = N1 15 from by rw [up_n (by omega), up_n (by omega), up_n (by omega), up_n (by omega), up_n (by omega)]) dX9_logDay_157 ?_
      refine z_lconst (z := 1) hx hb dX9_logDay_158 rfl ?_
      refine z_ladd hx hb dX9_logDay_159 ?_
      refine lv_goto (tgt := 166) hx hb dX9_logDay_160 (by decide) ?_
      refine z_last (g := up (up (up (up (up N1 55 (sp_rateM N1)) 56 ((N1 12) - (N1 13))) 57 ((N1 10) - (N1 14))) 13 (N1 12)) 14 (N1 10)) (w2 := moW b sc tl cd pl cm h ++ (jrW ct (b 1) 94 (up (up (up (up (up (up N1 55 (sp_rateM N1)) 56 ((N1 12) - (N1 13))) 57 ((N1 10) - (N1 14))) 13 (N1 12)) 14 (N1 10)) 15 ((N1 15) + 1)) ++ (jrW ct (b 2) 94 SP ++ (jrW ct (b 3) 376 SV ++ (irW ct (b 4) 150 TX ++ (irW ct (b 5) 2 NB)))))) hx hb hK hP hD hS 1 rfl (by decide) (by omega) dX9_logDay_166 (rfl) (fun H locs hP hD hS => ?_)
      exact z_vret hx hb hr hlocks hP hD hS ⟨Nat.le_of_ble_eq_true rfl, Nat.le_of_ble_eq_true rfl⟩ dX9_logDay_167 (⟨rfl, by unfold sp_end st_day; rw [eR, fv 10 (by omega), fv 12 (by omega), fv 13 (by omega), fv 14 (by omega)]; (try rw [fv 15 (by omega)]); rw [eN, st_day_mo]; first | rw [show min (M 15 + 1) 10 = M 15 + 1 by omega] | rw [show min (M 15 + 1) 10 = 10 by omega]⟩)
  · have hc_5 := hc_5
    refine lv_aload_n hx hb dX9_logDay_8 rfl (lv_at hl 0 rfl) ?_
    refine va_get (D := D) (ci := 7) (v := .ref (b 1)) (C := RX9) (T := TX9) (N := 11) hx hb hts hin_X9 hown hK hP 0 rfl rfl 0 (by decide) hf_0 (fun _ h9 => h9) rfl dX9_logDay_9 ?_
    refine z_bipush hx hb dX9_logDay_12 (by decide) ?_
    refine lv_iload_n hx hb dX9_logDay_14 rfl (lv_at hl 1 rfl) ?_
    refine z_iadd hx hb dX9_logDay_15 ?_
    refine lv_aload_n hx hb dX9_logDay_16 rfl (lv_at hl 0 rfl) ?_
    refine va_get (D := D) (ci := 7) (v := .ref (b 1)) (C := RX9) (T := TX9) (N := 11) hx hb hts hin_X9 hown hK hP 0 rfl rfl 0 (by decide) hf_0 (fun _ h9 => h9) rfl dX9_logDay_17 ?_
    refine z_bipush hx hb dX9_logDay_20 (by decide) ?_
    refine lv_iload_n hx hb dX9_logDay_22 rfl (lv_at hl 1 rfl) ?_
    refine z_iadd hx hb dX9_logDay_23 ?_
    refine z_iconst hx hb dX9_logDay_24 ?_
    refine z_isub hx hb dX9_logDay_25 ?_
    refine z_canI (show (54 + i) - 4 = 50 + i from (by omega)) ?_
    refine z_lald (g := U) (v := U (50 + i)) hx hb hK hP 1 rfl (by decide) (by omega) rfl dX9_logDay_26 ?_
    refine z_last (g := U) (w2 := moW b sc tl cd pl cm h ++ (jrW ct (b 1) 94 (up U (54 + i) (U (50 + i))) ++ (jrW ct (b 2) 94 SP ++ (jrW ct (b 3) 376 SV ++ (irW ct (b 4) 150 TX ++ (irW ct (b 5) 2 NB)))))) hx hb hK hP hD hS 1 rfl (by decide) (by omega) dX9_logDay_27 (rfl) (fun H locs hP hD hS => ?_)
    refine z_iinc (k := 1) (lv' := [(1, .int (zI (i + (-1)))), (0, .ref (b 0))]) hx hb dX9_logDay_28 hl rfl (by decide) rfl (fun ls hl => ?_)
    refine lv_goto (tgt := 3) hx hb dX9_logDay_31 (by decide) ?_
    exact ih_3 (i + (-1), up U (54 + i) (U (50 + i))) ⟨(show 3 ≤ (i + (-1)) ∧ (i + (-1)) ≤ 39 from (by omega)), (show (up U (54 + i) (U (50 + i))) = lgN M (i + (-1)) from (by rw [hU]; exact lgN_S (by omega)))⟩ (show (i + (-1)).toNat < i.toNat from (by omega)) _ _ _ hP hD hS (lv_sub hl [1, 0] rfl)
theorem k_X9_logDay : yX9_logDay.cls ≠ "java/lang/invoke/MethodHandle" ∧ yX9_logDay.cls ≠ "java/lang/invoke/VarHandle" ∧ (parseMethodDescriptor yX9_logDay.desc).map (fun d => d.parameters.length) = some 0 := by decide +kernel
theorem k_X9_stepWarmth : yX9_stepWarmth.cls ≠ "java/lang/invoke/MethodHandle" ∧ yX9_stepWarmth.cls ≠ "java/lang/invoke/VarHandle" ∧ (parseMethodDescriptor yX9_stepWarmth.desc).map (fun d => d.parameters.length) = some 0 := by decide +kernel
set_option maxHeartbeats 4000000 in
set_option maxRecDepth 100000 in
theorem c_X9_hour (l : Launch) (D : va_G) (ct ad : Nat → Nat) (b : Nat → Nat) (M SP SV TX NB : Int → Int) (sc tl cd pl cm h : Int) (hI : gInv M) (hB : bInv M) (h9 : M 9 < 100500) : ZM l yX9_hour wsX9_hour ({ frames := 6, cells := 0, slots := 0, locals := 134 } : Room) D ct ad [.ref (b 0)] (moW b sc tl cd pl cm h ++ (jrW ct (b 1) 94 M ++ (jrW ct (b 2) 94 SP ++ (jrW ct (b 3) 376 SV ++ (irW ct (b 4) 150 TX ++ (irW ct (b 5) 2 NB)))))) (zD none (moW b sc tl cd pl cm h ++ (jrW ct (b 1) 94 (sp_hour M) ++ (jrW ct (b 2) 94 SP ++ (jrW ct (b 3) 376 SV ++ (irW ct (b 4) 150 TX ++ (irW ct (b 5) 2 NB))))))) := by
  refine ZM.of (cc := cX9_hour) (maxL := 1) (ret := none) (by decide +kernel) rfl (Nat.le_of_ble_eq_true rfl) ?_
  intro p e s m below meth c A ls hx hb hr hts hown hlocks hml hname hE hP hD hA hS hl
  have hK := hE.1
  have hf_0 := hts (.fieldLink RX9 7 "RodGridsModel" "m" "[J") (by decide +kernel)
  have hf_1 := hts (.constantLong RX9 174 (24)) (by decide +kernel)
  have hin_X9 : ∀ z ∈ u_ws RX9 TX9 11, z ∈ wsX9_hour := by decide +kernel
  have hl : lv_has ls 1 [(0, .ref (b 0))] := hl
  have i3 := hI.1
  have i4 := hI.2.1
  have j0 := hB.1
  have j1 := hB.2.1
  have j2 := hB.2.2.1
  have j4 := hB.2.2.2.2
  refine lv_aload_n hx hb dX9_hour_0 rfl (lv_at hl 0 rfl) ?_
  refine z_callV (C := RX9) (q0 := 0) (ci := 7) (As := []) (rest := []) ([] : va_W) ([] : va_W) hx hb hml hown hts hl hE hS hA (zr0 ([] : va_W) hP) (zr0D ([] : va_W) hD) (c_X9_stepWarmth l D ct ad b M SP SV TX NB sc tl cd pl cm h (by assumption) (by assumption)) gX9_hour_X9_stepWarmth rfl rfl k_X9_stepWarmth ⟨Nat.le_of_ble_eq_true rfl, Nat.le_of_ble_eq_true rfl⟩ rfl rfl rfl rfl (Nat.le_of_ble_eq_true rfl) ⟨Nat.le_of_ble_eq_true rfl, Nat.le_of_ble_eq_true rfl⟩ dX9_hour_1 rfl (fun v w1 H locs hpost hP hD hS => ?_)
  obtain ⟨rfl, rfl⟩ := hpost
  have hP := zr0' hP
  have hD := zr0D' hD
  have hP : va_P D vwCl (moW b sc tl cd pl cm h ++ (jrW ct (b 1) 94 (sp_h1 M) ++ (jrW ct (b 2) 94 SP ++ (jrW ct (b 3) 376 SV ++ (irW ct (b 4) 150 TX ++ (irW ct (b 5) 2 NB)))))) H := hP
  have hD : va_D A (moW b sc tl cd pl cm h ++ (jrW ct (b 1) 94 (sp_h1 M) ++ (jrW ct (b 2) 94 SP ++ (jrW ct (b 3) 376 SV ++ (irW ct (b 4) 150 TX ++ (irW ct (b 5) 2 NB)))))) := hD
  refine W.eq (g2 := F0 m 4 ls []) rfl ?_
  obtain ⟨N1, hN1⟩ : ∃ z : Int → Int, z = (sp_h1 M) := ⟨_, rfl⟩
  have hP : va_P D vwCl (moW b sc tl cd pl cm h ++ (jrW ct (b 1) 94 N1 ++ (jrW ct (b 2) 94 SP ++ (jrW ct (b 3) 376 SV ++ (irW ct (b 4) 150 TX ++ (irW ct (b 5) 2 NB)))))) H := by rw [hN1]; exact hP
  have hD : va_D A (moW b sc tl cd pl cm h ++ (jrW ct (b 1) 94 N1 ++ (jrW ct (b 2) 94 SP ++ (jrW ct (b 3) 376 SV ++ (irW ct (b 4) 150 TX ++ (irW ct (b 5) 2 NB)))))) := by rw [hN1]; exact hD
  have g1 : gInv N1 := by rw [hN1]; exact gInv_h1 hI
  have b1 : bInv N1 := by rw [hN1]; exact bInv_h1 hB
  have k1 := b1.1
  have k2 := b1.2.1
  have k3 := b1.2.2.1
  have k5 := b1.2.2.2.2
  have n9 : N1 9 = M 9 := by rw [hN1]; exact h1_n (by decide)
  have r1 : -1000030000 ≤ sp_rateM N1 ∧ sp_rateM N1 ≤ 1000000000 := sp_rateB b1 k2.2.2.2
  refine lv_aload_n hx hb dX9_hour_4 rfl (lv_at hl 0 rfl) ?_
  refine va_get (D := D) (ci := 7) (v := .ref (b 1)) (C := RX9) (T := TX9) (N := 11) hx hb hts hin_X9 hown hK hP 0 rfl rfl 0 (by decide) hf_0 (fun _ h9 => h9) rfl dX9_hour_5 ?_
  refine z_bipush hx hb dX9_hour_8 (by decide) ?_
  refine z_lald (g := N1) (v := N1 8) hx hb hK hP 1 rfl (by decide) (by omega) rfl dX9_hour_10 ?_
  refine z_lconst (z := 0) hx hb dX9_hour_11 rfl ?_
  refine z_lcmp_le (tgt := 55) hx hb dX9_hour_12 dX9_hour_13 (by decide) (by omega) (by omega) (fun hc_12 => ?_) (fun hc_12 => ?_)
  · have hc_12 := hc_12
    refine lv_aload_n hx hb dX9_hour_55 rfl (lv_at hl 0 rfl) ?_
    refine va_get (D := D) (ci := 7) (v := .ref (b 1)) (C := RX9) (T := TX9) (N := 11) hx hb hts hin_X9 hown hK hP 0 rfl rfl 0 (by decide) hf_0 (fun _ h9 => h9) rfl dX9_hour_56 ?_
    refine z_bipush hx hb dX9_hour_59 (by decide) ?_
    refine lv_dup2_11 hx hb dX9_hour_61 rfl rfl ?_
    refine z_lald (g := N1) (v := N1 11) hx hb hK hP 1 rfl (by decide) (by omega) rfl dX9_hour_62 ?_
    refine z_lconst (z := 1) hx hb dX9_hour_63 rfl ?_
    refine z_ladd hx hb dX9_hour_64 ?_
    refine z_last (g := N1) (w2 := moW b sc tl cd pl cm h ++ (jrW ct (b 1) 94 (up N1 11 ((N1 11) + 1)) ++ (jrW ct (b 2) 94 SP ++ (jrW ct (b 3) 376 SV ++ (irW ct (b 4) 150 TX ++ (irW ct (b 5) 2 NB)))))) hx hb hK hP hD hS 1 rfl (by decide) (by omega) dX9_hour_65 (rfl) (fun H locs hP hD hS => ?_)
    refine lv_aload_n hx hb dX9_hour_66 rfl (lv_at hl 0 rfl) ?_
    refine va_get (D := D) (ci := 7) (v := .ref (b 1)) (C := RX9) (T := TX9) (N := 11) hx hb hts hin_X9 hown hK hP 0 rfl rfl 0 (by decide) hf_0 (fun _ h9 => h9) rfl dX9_hour_67 ?_
    refine z_bipush hx hb dX9_hour_70 (by decide) ?_
    refine lv_dup2_11 hx hb dX9_hour_72 rfl rfl ?_
    refine z_lald (g := up N1 11 ((N1 11) + 1)) (v := N1 9) hx hb hK hP 1 rfl (by decide) (by omega) (show (up N1 11 ((N1 11) + 1)) 9 = N1 9 from by rw [up_n (by omega)]) dX9_hour_73 ?_
    refine z_lconst (z := 1) hx hb dX9_hour_74 rfl ?_
    refine z_ladd hx hb dX9_hour_75 ?_
    refine z_last (g := up N1 11 ((N1 11) + 1)) (w2 := moW b sc tl cd pl cm h ++ (jrW ct (b 1) 94 (up (up N1 11 ((N1 11) + 1)) 9 ((N1 9) + 1)) ++ (jrW ct (b 2) 94 SP ++ (jrW ct (b 3) 376 SV ++ (irW ct (b 4) 150 TX ++ (irW ct (b 5) 2 NB)))))) hx hb hK hP hD hS 1 rfl (by decide) (by omega) dX9_hour_76 (rfl) (fun H locs hP hD hS => ?_)
    obtain ⟨N3, hN3⟩ : ∃ z : Int → Int, z = up (up N1 11 ((N1 11) + 1)) 9 ((N1 9) + 1) := ⟨_, rfl⟩
    have hP : va_P D vwCl (moW b sc tl cd pl cm h ++ (jrW ct (b 1) 94 N3 ++ (jrW ct (b 2) 94 SP ++ (jrW ct (b 3) 376 SV ++ (irW ct (b 4) 150 TX ++ (irW ct (b 5) 2 NB)))))) H := by rw [hN3]; exact hP
    have hD : va_D A (moW b sc tl cd pl cm h ++ (jrW ct (b 1) 94 N3 ++ (jrW ct (b 2) 94 SP ++ (jrW ct (b 3) 376 SV ++ (irW ct (b 4) 150 TX ++ (irW ct (b 5) 2 NB)))))) := by rw [hN3]; exact hD
    have eN3 : N3 = sp_h3 N1 := by rw [hN3]; unfold sp_h3 sp_h2; rw [if_neg (by omega)]; all_goals rfl
    have g3 : gInv N3 := by rw [eN3]; exact gInv_h3 g1
    have b3 : bInv N3 := by rw [eN3]; exact bInv_h3 b1 (by omega)
    have m3 := b3.2.2.1
    have e9 : N3 9 = N1 9 + 1 := by rw [eN3]; exact h3_9
    refine lv_aload_n hx hb dX9_hour_77 rfl (lv_at hl 0 rfl) ?_
    refine va_get (D := D) (ci := 7) (v := .ref (b 1)) (C := RX9) (T := TX9) (N := 11) hx hb hts hin_X9 hown hK hP 0 rfl rfl 0 (by decide) hf_0 (fun _ h9 => h9) rfl dX9_hour_78 ?_
    refine z_bipush hx hb dX9_hour_81 (by decide) ?_
    refine z_lald (g := N3) (v := N3 9) hx hb hK hP 1 rfl (by decide) (by omega) rfl dX9_hour_83 ?_
    refine z_ldc2 hx hb 24 hown hf_1 (by decide) dX9_hour_84 ?_
    refine z_lrem hx hb dX9_hour_87 (by omega) (by omega) ?_
    refine z_lconst (z := 0) hx hb dX9_hour_88 rfl ?_
    refine z_lcmp_ne (tgt := 97) hx hb dX9_hour_89 dX9_hour_90 (by decide) (by omega) (by omega) (fun hc_89 => ?_) (fun hc_89 => ?_)
    · have hc_89 := hc_89
      exact z_vret hx hb hr hlocks hP hD hS ⟨Nat.le_of_ble_eq_true rfl, Nat.le_of_ble_eq_true rfl⟩ dX9_hour_97 (⟨rfl, by unfold sp_hour; rw [← hN1, ← eN3]; first | rw [if_pos (by omega)] | rw [if_neg (by omega)]⟩)
    · have hc_89 := hc_89
      refine lv_aload_n hx hb dX9_hour_93 rfl (lv_at hl 0 rfl) ?_
      refine z_callV (C := RX9) (q0 := 0) (ci := 7) (As := []) (rest := []) ([] : va_W) ([] : va_W) hx hb hml hown hts hl hE hS hA (zr0 ([] : va_W) hP) (zr0D ([] : va_W) hD) (c_X9_logDay l D ct ad b N3 SP SV TX NB sc tl cd pl cm h (by assumption) (by assumption)) gX9_hour_X9_logDay rfl rfl k_X9_logDay ⟨Nat.le_of_ble_eq_true rfl, Nat.le_of_ble_eq_true rfl⟩ rfl rfl rfl rfl (Nat.le_of_ble_eq_true rfl) ⟨Nat.le_of_ble_eq_true rfl, Nat.le_of_ble_eq_true rfl⟩ dX9_hour_94 rfl (fun v w1 H locs hpost hP hD hS => ?_)
      obtain ⟨rfl, rfl⟩ := hpost
      have hP := zr0' hP
      have hD := zr0D' hD
      have hP : va_P D vwCl (moW b sc tl cd pl cm h ++ (jrW ct (b 1) 94 (sp_end N3) ++ (jrW ct (b 2) 94 SP ++ (jrW ct (b 3) 376 SV ++ (irW ct (b 4) 150 TX ++ (irW ct (b 5) 2 NB)))))) H := hP
      have hD : va_D A (moW b sc tl cd pl cm h ++ (jrW ct (b 1) 94 (sp_end N3) ++ (jrW ct (b 2) 94 SP ++ (jrW ct (b 3) 376 SV ++ (irW ct (b 4) 150 TX ++ (irW ct (b 5) 2 NB)))))) := hD
      refine W.eq (g2 := F0 m 97 ls []) rfl ?_
      exact z_vret hx hb hr hlocks hP hD hS ⟨Nat.le_of_ble_eq_true rfl, Nat.le_of_ble_eq_true rfl⟩ dX9_hour_97 (⟨rfl, by unfold sp_hour; rw [← hN1, ← eN3]; first | rw [if_pos (by omega)] | rw [if_neg (by omega)]⟩)
  · have hc_12 := hc_12
    refine lv_aload_n hx hb dX9_hour_16 rfl (lv_at hl 0 rfl) ?_
    refine va_get (D := D) (ci := 7) (v := .ref (b 1)) (C := RX9) (T := TX9) (N := 11) hx hb hts hin_X9 hown hK hP 0 rfl rfl 0 (by decide) hf_0 (fun _ h9 => h9) rfl dX9_hour_17 ?_
    refine z_bipush hx hb dX9_hour_20 (by decide) ?_
    refine lv_dup2_11 hx hb dX9_hour_22 rfl rfl ?_
    refine z_lald (g := N1) (v := N1 12) hx hb hK hP 1 rfl (by decide) (by omega) rfl dX9_hour_23 ?_
    refine lv_aload_n hx hb dX9_hour_24 rfl (lv_at hl 0 rfl) ?_
    refine z_callV (C := RX9) (q0 := 0) (ci := 7) (As := []) (rest := [.long (zJ (N1 12)), .int (zI 12), .ref (b 1)]) ([] : va_W) ([] : va_W) hx hb hml hown hts hl hE hS hA (zr0 ([] : va_W) hP) (zr0D ([] : va_W) hD) (c_X9_rateNow l D ct ad b N1 SP SV TX NB sc tl cd pl cm h (by assumption) (by assumption)) gX9_hour_X9_rateNow rfl rfl k_X9_rateNow ⟨Nat.le_of_ble_eq_true rfl, Nat.le_of_ble_eq_true rfl⟩ rfl rfl rfl rfl (Nat.le_of_ble_eq_true rfl) ⟨Nat.le_of_ble_eq_true rfl, Nat.le_of_ble_eq_true rfl⟩ dX9_hour_25 rfl (fun v w1 H locs hpost hP hD hS => ?_)
    obtain ⟨rfl, rfl⟩ := hpost
    have hP := zr0' hP
    have hD := zr0D' hD
    have hP : va_P D vwCl (moW b sc tl cd pl cm h ++ (jrW ct (b 1) 94 N1 ++ (jrW ct (b 2) 94 SP ++ (jrW ct (b 3) 376 SV ++ (irW ct (b 4) 150 TX ++ (irW ct (b 5) 2 NB)))))) H := hP
    have hD : va_D A (moW b sc tl cd pl cm h ++ (jrW ct (b 1) 94 N1 ++ (jrW ct (b 2) 94 SP ++ (jrW ct (b 3) 376 SV ++ (irW ct (b 4) 150 TX ++ (irW ct (b 5) 2 NB)))))) := hD
    refine W.eq (g2 := F0 m 28 ls [.long (zJ (sp_rateM N1)), .long (zJ (N1 12)), .int (zI 12), .ref (b 1)]) rfl ?_
    refine z_ladd hx hb dX9_hour_28 ?_
    refine z_last (g := N1) (w2 := moW b sc tl cd pl cm h ++ (jrW ct (b 1) 94 (up N1 12 ((N1 12) + (sp_rateM N1))) ++ (jrW ct (b 2) 94 SP ++ (jrW ct (b 3) 376 SV ++ (irW ct (b 4) 150 TX ++ (irW ct (b 5) 2 NB)))))) hx hb hK hP hD hS 1 rfl (by decide) (by omega) dX9_hour_29 (rfl) (fun H locs hP hD hS => ?_)
    refine lv_aload_n hx hb dX9_hour_30 rfl (lv_at hl 0 rfl) ?_
    refine va_get (D := D) (ci := 7) (v := .ref (b 1)) (C := RX9) (T := TX9) (N := 11) hx hb hts hin_X9 hown hK hP 0 rfl rfl 0 (by decide) hf_0 (fun _ h9 => h9) rfl dX9_hour_31 ?_
    refine z_bipush hx hb dX9_hour_34 (by decide) ?_
    refine lv_dup2_11 hx hb dX9_hour_36 rfl rfl ?_
    refine z_lald (g := up N1 12 ((N1 12) + (sp_rateM N1))) (v := N1 10) hx hb hK hP 1 rfl (by decide) (by omega) (show (up N1 12 ((N1 12) + (sp_rateM N1))) 10 = N1 10 from by rw [up_n (by omega)]) dX9_hour_37 ?_
    refine z_lconst (z := 1) hx hb dX9_hour_38 rfl ?_
    refine z_ladd hx hb dX9_hour_39 ?_
    refine z_last (g := up N1 12 ((N1 12) + (sp_rateM N1))) (w2 := moW b sc tl cd pl cm h ++ (jrW ct (b 1) 94 (up (up N1 12 ((N1 12) + (sp_rateM N1))) 10 ((N1 10) + 1)) ++ (jrW ct (b 2) 94 SP ++ (jrW ct (b 3) 376 SV ++ (irW ct (b 4) 150 TX ++ (irW ct (b 5) 2 NB)))))) hx hb hK hP hD hS 1 rfl (by decide) (by omega) dX9_hour_40 (rfl) (fun H locs hP hD hS => ?_)
    refine lv_aload_n hx hb dX9_hour_41 rfl (lv_at hl 0 rfl) ?_
    refine va_get (D := D) (ci := 7) (v := .ref (b 1)) (C := RX9) (T := TX9) (N := 11) hx hb hts hin_X9 hown hK hP 0 rfl rfl 0 (by decide) hf_0 (fun _ h9 => h9) rfl dX9_hour_42 ?_
    refine z_bipush hx hb dX9_hour_45 (by decide) ?_
    refine lv_dup2_11 hx hb dX9_hour_47 rfl rfl ?_
    refine z_lald (g := up (up N1 12 ((N1 12) + (sp_rateM N1))) 10 ((N1 10) + 1)) (v := N1 8) hx hb hK hP 1 rfl (by decide) (by omega) (show (up (up N1 12 ((N1 12) + (sp_rateM N1))) 10 ((N1 10) + 1)) 8 = N1 8 from by rw [up_n (by omega), up_n (by omega)]) dX9_hour_48 ?_
    refine z_lconst (z := 1) hx hb dX9_hour_49 rfl ?_
    refine z_lsub hx hb dX9_hour_50 ?_
    refine z_last (g := up (up N1 12 ((N1 12) + (sp_rateM N1))) 10 ((N1 10) + 1)) (w2 := moW b sc tl cd pl cm h ++ (jrW ct (b 1) 94 (up (up (up N1 12 ((N1 12) + (sp_rateM N1))) 10 ((N1 10) + 1)) 8 ((N1 8) - 1)) ++ (jrW ct (b 2) 94 SP ++ (jrW ct (b 3) 376 SV ++ (irW ct (b 4) 150 TX ++ (irW ct (b 5) 2 NB)))))) hx hb hK hP hD hS 1 rfl (by decide) (by omega) dX9_hour_51 (rfl) (fun H locs hP hD hS => ?_)
    refine lv_goto (tgt := 66) hx hb dX9_hour_52 (by decide) ?_
    refine lv_aload_n hx hb dX9_hour_66 rfl (lv_at hl 0 rfl) ?_
    refine va_get (D := D) (ci := 7) (v := .ref (b 1)) (C := RX9) (T := TX9) (N := 11) hx hb hts hin_X9 hown hK hP 0 rfl rfl 0 (by decide) hf_0 (fun _ h9 => h9) rfl dX9_hour_67 ?_
    refine z_bipush hx hb dX9_hour_70 (by decide) ?_
    refine lv_dup2_11 hx hb dX9_hour_72 rfl rfl ?_
    refine z_lald (g := up (up (up N1 12 ((N1 12) + (sp_rateM N1))) 10 ((N1 10) + 1)) 8 ((N1 8) - 1)) (v := N1 9) hx hb hK hP 1 rfl (by decide) (by omega) (show (up (up (up N1 12 ((N1 12) + (sp_rateM N1))) 10 ((N1 10) + 1)) 8 ((N1 8) - 1)) 9 = N1 9 from by rw [up_n (by omega), up_n (by omega), up_n (by omega)]) dX9_hour_73 ?_
    refine z_lconst (z := 1) hx hb dX9_hour_74 rfl ?_
    refine z_ladd hx hb dX9_hour_75 ?_
    refine z_last (g := up (up (up N1 12 ((N1 12) + (sp_rateM N1))) 10 ((N1 10) + 1)) 8 ((N1 8) - 1)) (w2 := moW b sc tl cd pl cm h ++ (jrW ct (b 1) 94 (up (up (up (up N1 12 ((N1 12) + (sp_rateM N1))) 10 ((N1 10) + 1)) 8 ((N1 8) - 1)) 9 ((N1 9) + 1)) ++ (jrW ct (b 2) 94 SP ++ (jrW ct (b 3) 376 SV ++ (irW ct (b 4) 150 TX ++ (irW ct (b 5) 2 NB)))))) hx hb hK hP hD hS 1 rfl (by decide) (by omega) dX9_hour_76 (rfl) (fun H locs hP hD hS => ?_)
    obtain ⟨N3, hN3⟩ : ∃ z : Int → Int, z = up (up (up (up N1 12 ((N1 12) + (sp_rateM N1))) 10 ((N1 10) + 1)) 8 ((N1 8) - 1)) 9 ((N1 9) + 1) := ⟨_, rfl⟩
    have hP : va_P D vwCl (moW b sc tl cd pl cm h ++ (jrW ct (b 1) 94 N3 ++ (jrW ct (b 2) 94 SP ++ (jrW ct (b 3) 376 SV ++ (irW ct (b 4) 150 TX ++ (irW ct (b 5) 2 NB)))))) H := by rw [hN3]; exact hP
    have hD : va_D A (moW b sc tl cd pl cm h ++ (jrW ct (b 1) 94 N3 ++ (jrW ct (b 2) 94 SP ++ (jrW ct (b 3) 376 SV ++ (irW ct (b 4) 150 TX ++ (irW ct (b 5) 2 NB)))))) := by rw [hN3]; exact hD
    have eN3 : N3 = sp_h3 N1 := by rw [hN3]; unfold sp_h3 sp_h2; rw [if_pos (by omega)]; all_goals rfl
    have g3 : gInv N3 := by rw [eN3]; exact gInv_h3 g1
    have b3 : bInv N3 := by rw [eN3]; exact bInv_h3 b1 (by omega)
    have m3 := b3.2.2.1
    have e9 : N3 9 = N1 9 + 1 := by rw [eN3]; exact h3_9
    refine lv_aload_n hx hb dX9_hour_77 rfl (lv_at hl 0 rfl) ?_
    refine va_get (D := D) (ci := 7) (v := .ref (b 1)) (C := RX9) (T := TX9) (N := 11) hx hb hts hin_X9 hown hK hP 0 rfl rfl 0 (by decide) hf_0 (fun _ h9 => h9) rfl dX9_hour_78 ?_
    refine z_bipush hx hb dX9_hour_81 (by decide) ?_
    refine z_lald (g := N3) (v := N3 9) hx hb hK hP 1 rfl (by decide) (by omega) rfl dX9_hour_83 ?_
    refine z_ldc2 hx hb 24 hown hf_1 (by decide) dX9_hour_84 ?_
    refine z_lrem hx hb dX9_hour_87 (by omega) (by omega) ?_
    refine z_lconst (z := 0) hx hb dX9_hour_88 rfl ?_
    refine z_lcmp_ne (tgt := 97) hx hb dX9_hour_89 dX9_hour_90 (by decide) (by omega) (by omega) (fun hc_89 => ?_) (fun hc_89 => ?_)
    · have hc_89 := hc_89
      exact z_vret hx hb hr hlocks hP hD hS ⟨Nat.le_of_ble_eq_true rfl, Nat.le_of_ble_eq_true rfl⟩ dX9_hour_97 (⟨rfl, by unfold sp_hour; rw [← hN1, ← eN3]; first | rw [if_pos (by omega)] | rw [if_neg (by omega)]⟩)
    · have hc_89 := hc_89
      refine lv_aload_n hx hb dX9_hour_93 rfl (lv_at hl 0 rfl) ?_
      refine z_callV (C := RX9) (q0 := 0) (ci := 7) (As := []) (rest := []) ([] : va_W) ([] : va_W) hx hb hml hown hts hl hE hS hA (zr0 ([] : va_W) hP) (zr0D ([] : va_W) hD) (c_X9_logDay l D ct ad b N3 SP SV TX NB sc tl cd pl cm h (by assumption) (by assumption)) gX9_hour_X9_logDay rfl rfl k_X9_logDay ⟨Nat.le_of_ble_eq_true rfl, Nat.le_of_ble_eq_true rfl⟩ rfl rfl rfl rfl (Nat.le_of_ble_eq_true rfl) ⟨Nat.le_of_ble_eq_true rfl, Nat.le_of_ble_eq_true rfl⟩ dX9_hour_94 rfl (fun v w1 H locs hpost hP hD hS => ?_)
      obtain ⟨rfl, rfl⟩ := hpost
      have hP := zr0' hP
      have hD := zr0D' hD
      have hP : va_P D vwCl (moW b sc tl cd pl cm h ++ (jrW ct (b 1) 94 (sp_end N3) ++ (jrW ct (b 2) 94 SP ++ (jrW ct (b 3) 376 SV ++ (irW ct (b 4) 150 TX ++ (irW ct (b 5) 2 NB)))))) H := hP
      have hD : va_D A (moW b sc tl cd pl cm h ++ (jrW ct (b 1) 94 (sp_end N3) ++ (jrW ct (b 2) 94 SP ++ (jrW ct (b 3) 376 SV ++ (irW ct (b 4) 150 TX ++ (irW ct (b 5) 2 NB)))))) := hD
      refine W.eq (g2 := F0 m 97 ls []) rfl ?_
      exact z_vret hx hb hr hlocks hP hD hS ⟨Nat.le_of_ble_eq_true rfl, Nat.le_of_ble_eq_true rfl⟩ dX9_hour_97 (⟨rfl, by unfold sp_hour; rw [← hN1, ← eN3]; first | rw [if_pos (by omega)] | rw [if_neg (by omega)]⟩)
theorem k_X9_hour : yX9_hour.cls ≠ "java/lang/invoke/MethodHandle" ∧ yX9_hour.cls ≠ "java/lang/invoke/VarHandle" ∧ (parseMethodDescriptor yX9_hour.desc).map (fun d => d.parameters.length) = some 0 := by decide +kernel
set_option maxHeartbeats 4000000 in
set_option maxRecDepth 100000 in
theorem c_X9_passes (l : Launch) (D : va_G) (ct ad : Nat → Nat) (b : Nat → Nat) (M SP SV TX NB : Int → Int) (sc tl cd pl cm h : Int) (n : Int) (hI : gInv M) (hB : bInv M) (h1 : 0 ≤ n ∧ n ≤ 500) (h9 : M 9 + n ≤ 100500) : ZM l yX9_passes wsX9_passes ({ frames := 7, cells := 0, slots := 0, locals := 154 } : Room) D ct ad [.ref (b 0), .int (zI n)] (moW b sc tl cd pl cm h ++ (jrW ct (b 1) 94 M ++ (jrW ct (b 2) 94 SP ++ (jrW ct (b 3) 376 SV ++ (irW ct (b 4) 150 TX ++ (irW ct (b 5) 2 NB)))))) (zD (some (.int (zI (sp_err (sp_pass M n.toNat))))) (moW b sc tl cd pl cm h ++ (jrW ct (b 1) 94 (sp_pass M n.toNat) ++ (jrW ct (b 2) 94 SP ++ (jrW ct (b 3) 376 SV ++ (irW ct (b 4) 150 TX ++ (irW ct (b 5) 2 NB))))))) := by
  refine ZM.of (cc := cX9_passes) (maxL := 3) (ret := (some .int)) (by decide +kernel) rfl (Nat.le_of_ble_eq_true rfl) ?_
  intro p e s m below meth c A ls hx hb hr hts hown hlocks hml hname hE hP hD hA hS hl
  have hK := hE.1
  have hf_0 := hts (.fieldLink RX9 7 "RodGridsModel" "m" "[J") (by decide +kernel)
  have hf_1 := hts (.constantLong RX9 174 (24)) (by decide +kernel)
  have hf_2 := hts (.constantLong RX9 184 (-1999999999)) (by decide +kernel)
  have hf_3 := hts (.constantLong RX9 186 (2000000000)) (by decide +kernel)
  have hin_X9 : ∀ z ∈ u_ws RX9 TX9 11, z ∈ wsX9_passes := by decide +kernel
  have hl : lv_has ls 3 [(0, .ref (b 0)), (1, .int (zI n))] := hl
  have i3 := hI.1
  have i4 := hI.2.1
  have j0 := hB.1
  have j1 := hB.2.1
  have j2 := hB.2.2.1
  have j4 := hB.2.2.2.2
  refine z_iconst hx hb dX9_passes_0 ?_
  refine lv_istore_n (lv' := [(2, .int (zI 0)), (0, .ref (b 0)), (1, .int (zI n))]) hx hb dX9_passes_1 rfl hl (by decide) rfl (fun ls hl => ?_)
  refine z_loop (σ := Int × (Int → Int)) (fun q9 => (n - q9.1).toNat) (fun q9 => (0 ≤ q9.1 ∧ q9.1 ≤ n) ∧ (q9.2 = sp_pass M q9.1.toNat)) (fun q9 => moW b sc tl cd pl cm h ++ (jrW ct (b 1) 94 q9.2 ++ (jrW ct (b 2) 94 SP ++ (jrW ct (b 3) 376 SV ++ (irW ct (b 4) 150 TX ++ (irW ct (b 5) 2 NB)))))) (fun q9 => [(0, .ref (b 0)), (1, .int (zI n)), (2, .int (zI q9.1))]) (fun q9 => []) (0, M) ⟨(show 0 ≤ 0 ∧ 0 ≤ n from (by omega)), (show M = sp_pass M (0 : Int).toNat from (by rfl))⟩ hP hD hS (lv_sub hl [1, 2, 0] rfl) rfl ?_
  rintro ⟨i, N⟩ hI_2 ih_2 H locs ls hP hD hS hl
  obtain ⟨hi, hN⟩ := hI_2
  have hi : 0 ≤ i ∧ i ≤ n := hi
  have hN : N = sp_pass M i.toNat := hN
  have hP : va_P D vwCl (moW b sc tl cd pl cm h ++ (jrW ct (b 1) 94 N ++ (jrW ct (b 2) 94 SP ++ (jrW ct (b 3) 376 SV ++ (irW ct (b 4) 150 TX ++ (irW ct (b 5) 2 NB)))))) H := hP
  have hD : va_D A (moW b sc tl cd pl cm h ++ (jrW ct (b 1) 94 N ++ (jrW ct (b 2) 94 SP ++ (jrW ct (b 3) 376 SV ++ (irW ct (b 4) 150 TX ++ (irW ct (b 5) 2 NB)))))) := hD
  have hl : lv_has ls 3 [(0, .ref (b 0)), (1, .int (zI n)), (2, .int (zI i))] := hl
  have qN := sp_passI hI hB i.toNat (by omega)
  rw [← hN] at qN
  obtain ⟨gN, bN, t9⟩ := qN
  have l3 := bN.2.2.1
  refine lv_iload_n hx hb dX9_passes_2 rfl (lv_at hl 2 rfl) ?_
  refine lv_iload_n hx hb dX9_passes_3 rfl (lv_at hl 1 rfl) ?_
  refine z_icmp_ge (tgt := 17) hx hb dX9_passes_4 (by decide) (by omega) (by omega) (fun hc_4 => ?_) (fun hc_4 => ?_)
  · have hc_4 := hc_4
    refine lv_aload_n hx hb dX9_passes_17 rfl (lv_at hl 0 rfl) ?_
    refine va_get (D := D) (ci := 7) (v := .ref (b 1)) (C := RX9) (T := TX9) (N := 11) hx hb hts hin_X9 hown hK hP 0 rfl rfl 0 (by decide) hf_0 (fun _ h9 => h9) rfl dX9_passes_18 ?_
    refine z_bipush hx hb dX9_passes_21 (by decide) ?_
    refine z_lald (g := N) (v := N 12) hx hb hK hP 1 rfl (by decide) (by omega) rfl dX9_passes_23 ?_
    refine z_ldc2 hx hb 24 hown hf_1 (by decide) dX9_passes_24 ?_
    refine z_callS (As := [.long (zJ (N 12)), .long (zJ 24)]) (rest := []) ([] : va_W) (moW b sc tl cd pl cm h ++ (jrW ct (b 1) 94 N ++ (jrW ct (b 2) 94 SP ++ (jrW ct (b 3) 376 SV ++ (irW ct (b 4) 150 TX ++ (irW ct (b 5) 2 NB)))))) hx hb hml hown hts hl hE hS hA hP hD (c_X9_floor l D ct ad (N 12) 24 (by omega) (by omega)) gX9_passes_X9_floor rfl k_X9_floor ⟨Nat.le_of_ble_eq_true rfl, Nat.le_of_ble_eq_true rfl⟩ rfl (Nat.le_of_ble_eq_true rfl) ⟨Nat.le_of_ble_eq_true rfl, Nat.le_of_ble_eq_true rfl⟩ dX9_passes_27 rfl (fun v w1 H locs hpost hP hD hS => ?_)
    obtain ⟨rfl, rfl⟩ := hpost
    have hP : va_P D vwCl (moW b sc tl cd pl cm h ++ (jrW ct (b 1) 94 N ++ (jrW ct (b 2) 94 SP ++ (jrW ct (b 3) 376 SV ++ (irW ct (b 4) 150 TX ++ (irW ct (b 5) 2 NB)))))) H := hP
    have hD : va_D A (moW b sc tl cd pl cm h ++ (jrW ct (b 1) 94 N ++ (jrW ct (b 2) 94 SP ++ (jrW ct (b 3) 376 SV ++ (irW ct (b 4) 150 TX ++ (irW ct (b 5) 2 NB)))))) := hD
    refine W.eq (g2 := F0 m 30 ls [.long (zJ ((N 12) / 24))]) rfl ?_
    refine z_ldc2 hx hb (-1999999999) hown hf_2 (by decide) dX9_passes_30 ?_
    refine z_ldc2 hx hb 2000000000 hown hf_3 (by decide) dX9_passes_33 ?_
    refine z_callS (As := [.long (zJ ((N 12) / 24)), .long (zJ (-1999999999)), .long (zJ 2000000000)]) (rest := []) ([] : va_W) (moW b sc tl cd pl cm h ++ (jrW ct (b 1) 94 N ++ (jrW ct (b 2) 94 SP ++ (jrW ct (b 3) 376 SV ++ (irW ct (b 4) 150 TX ++ (irW ct (b 5) 2 NB)))))) hx hb hml hown hts hl hE hS hA hP hD (c_X9_within l D ct ad ((N 12) / 24) (-1999999999) 2000000000 (by omega) (by omega) (by omega) (by omega)) gX9_passes_X9_within rfl k_X9_within ⟨Nat.le_of_ble_eq_true rfl, Nat.le_of_ble_eq_true rfl⟩ rfl (Nat.le_of_ble_eq_true rfl) ⟨Nat.le_of_ble_eq_true rfl, Nat.le_of_ble_eq_true rfl⟩ dX9_passes_36 rfl (fun v w1 H locs hpost hP hD hS => ?_)
    obtain ⟨rfl, rfl⟩ := hpost
    have hP : va_P D vwCl (moW b sc tl cd pl cm h ++ (jrW ct (b 1) 94 N ++ (jrW ct (b 2) 94 SP ++ (jrW ct (b 3) 376 SV ++ (irW ct (b 4) 150 TX ++ (irW ct (b 5) 2 NB)))))) H := hP
    have hD : va_D A (moW b sc tl cd pl cm h ++ (jrW ct (b 1) 94 N ++ (jrW ct (b 2) 94 SP ++ (jrW ct (b 3) 376 SV ++ (irW ct (b 4) 150 TX ++ (irW ct (b 5) 2 NB)))))) := hD
    refine W.eq (g2 := F0 m 39 ls [.long (zJ (max (-1999999999) (min 2000000000 ((N 12) / 24))))]) rfl ?_
    refine z_l2i hx hb dX9_passes_39 ?_
    exact z_iret hx hb hr hlocks hP hD hS ⟨Nat.le_of_ble_eq_true rfl, Nat.le_of_ble_eq_true rfl⟩ dX9_passes_40 (⟨congrArg (fun z => some (Value.int (zI z))) (by rw [hN, show i = n by omega]; rfl), by rw [hN, show i = n by omega]⟩)
  · have hc_4 := hc_4
    refine lv_aload_n hx hb dX9_passes_7 rfl (lv_at hl 0 rfl) ?_
    refine z_callV (C := RX9) (q0 := 0) (ci := 7) (As := []) (rest := []) ([] : va_W) ([] : va_W) hx hb hml hown hts hl hE hS hA (zr0 ([] : va_W) hP) (zr0D ([] : va_W) hD) (c_X9_hour l D ct ad b N SP SV TX NB sc tl cd pl cm h (by assumption) (by assumption) (by omega)) gX9_passes_X9_hour rfl rfl k_X9_hour ⟨Nat.le_of_ble_eq_true rfl, Nat.le_of_ble_eq_true rfl⟩ rfl rfl rfl rfl (Nat.le_of_ble_eq_true rfl) ⟨Nat.le_of_ble_eq_true rfl, Nat.le_of_ble_eq_true rfl⟩ dX9_passes_8 rfl (fun v w1 H locs hpost hP hD hS => ?_)
    obtain ⟨rfl, rfl⟩ := hpost
    have hP := zr0' hP
    have hD := zr0D' hD
    have hP : va_P D vwCl (moW b sc tl cd pl cm h ++ (jrW ct (b 1) 94 (sp_hour N) ++ (jrW ct (b 2) 94 SP ++ (jrW ct (b 3) 376 SV ++ (irW ct (b 4) 150 TX ++ (irW ct (b 5) 2 NB)))))) H := hP
    have hD : va_D A (moW b sc tl cd pl cm h ++ (jrW ct (b 1) 94 (sp_hour N) ++ (jrW ct (b 2) 94 SP ++ (jrW ct (b 3) 376 SV ++ (irW ct (b 4) 150 TX ++ (irW ct (b 5) 2 NB)))))) := hD
    refine W.eq (g2 := F0 m 11 ls []) rfl ?_
    refine z_iinc (k := 2) (lv' := [(2, .int (zI (i + 1))), (0, .ref (b 0)), (1, .int (zI n))]) hx hb dX9_passes_11 hl rfl (by decide) rfl (fun ls hl => ?_)
    refine lv_goto (tgt := 2) hx hb dX9_passes_14 (by decide) ?_
    exact ih_2 (i + 1, (sp_hour N)) ⟨(show 0 ≤ (i + 1) ∧ (i + 1) ≤ n from (by omega)), (show (sp_hour N) = sp_pass M (i + 1).toNat from (by rw [sp_passS hi.1, ← hN]))⟩ (show (n - (i + 1)).toNat < (n - i).toNat from (by omega)) _ _ _ hP hD hS (lv_sub hl [1, 2, 0] rfl)
set_option maxHeartbeats 4000000 in
set_option maxRecDepth 100000 in
theorem c_X9_rodOf (l : Launch) (D : va_G) (ct ad : Nat → Nat) (b : Nat → Nat) (M SP SV TX NB : Int → Int) (sc tl cd pl cm h : Int) (r w : Int) (hI : gInv M) (hB : bInv M) (h1 : 0 ≤ r ∧ r < M 4) (h2 : 0 ≤ w ∧ w ≤ 4) : ZM l yX9_rodOf wsX9_rodOf ({ frames := 2, cells := 0, slots := 0, locals := 46 } : Room) D ct ad [.ref (b 0), .int (zI r), .int (zI w)] (moW b sc tl cd pl cm h ++ (jrW ct (b 1) 94 M ++ (jrW ct (b 2) 94 SP ++ (jrW ct (b 3) 376 SV ++ (irW ct (b 4) 150 TX ++ (irW ct (b 5) 2 NB)))))) (zD (some (.int (zI (sp_rodv M r w (M 6))))) (moW b sc tl cd pl cm h ++ (jrW ct (b 1) 94 M ++ (jrW ct (b 2) 94 SP ++ (jrW ct (b 3) 376 SV ++ (irW ct (b 4) 150 TX ++ (irW ct (b 5) 2 NB))))))) := by
  refine ZM.of (cc := cX9_rodOf) (maxL := 5) (ret := (some .int)) (by decide +kernel) rfl (Nat.le_of_ble_eq_true rfl) ?_
  intro p e s m below meth c A ls hx hb hr hts hown hlocks hml hname hE hP hD hA hS hl
  have hK := hE.1
  have hf_0 := hts (.fieldLink RX9 7 "RodGridsModel" "m" "[J") (by decide +kernel)
  have hin_X9 : ∀ z ∈ u_ws RX9 TX9 11, z ∈ wsX9_rodOf := by decide +kernel
  have hl : lv_has ls 5 [(0, .ref (b 0)), (1, .int (zI r)), (2, .int (zI w))] := hl
  have i3 := hI.1
  have i4 := hI.2.1
  have j0 := hB.1
  have j1 := hB.2.1
  have j2 := hB.2.2.1
  have j4 := hB.2.2.2.2
  have q := hI.2.2.2.1 r (by omega) (by omega)
  have sB := sp_strB (r := r) hI (by omega) j1.2.1
  refine lv_aload_n hx hb dX9_rodOf_0 rfl (lv_at hl 0 rfl) ?_
  refine lv_iload_n hx hb dX9_rodOf_1 rfl (lv_at hl 1 rfl) ?_
  refine lv_aload_n hx hb dX9_rodOf_2 rfl (lv_at hl 0 rfl) ?_
  refine va_get (D := D) (ci := 7) (v := .ref (b 1)) (C := RX9) (T := TX9) (N := 11) hx hb hts hin_X9 hown hK hP 0 rfl rfl 0 (by decide) hf_0 (fun _ h9 => h9) rfl dX9_rodOf_3 ?_
  refine z_bipush hx hb dX9_rodOf_6 (by decide) ?_
  refine z_lald (g := M) (v := M 6) hx hb hK hP 1 rfl (by decide) (by omega) rfl dX9_rodOf_8 ?_
  refine z_callV (C := RX9) (q0 := 0) (ci := 7) (As := [.int (zI r), .long (zJ (M 6))]) (rest := []) ([] : va_W) ([] : va_W) hx hb hml hown hts hl hE hS hA (zr0 ([] : va_W) hP) (zr0D ([] : va_W) hD) (c_X9_stretching l D ct ad b M SP SV TX NB sc tl cd pl cm h r (M 6) (by assumption) (by omega) (by omega)) gX9_rodOf_X9_stretching rfl rfl k_X9_stretching ⟨Nat.le_of_ble_eq_true rfl, Nat.le_of_ble_eq_true rfl⟩ rfl rfl rfl rfl (Nat.le_of_ble_eq_true rfl) ⟨Nat.le_of_ble_eq_true rfl, Nat.le_of_ble_eq_true rfl⟩ dX9_rodOf_9 rfl (fun v w1 H locs hpost hP hD hS => ?_)
  obtain ⟨rfl, rfl⟩ := hpost
  have hP := zr0' hP
  have hD := zr0D' hD
  have hP : va_P D vwCl (moW b sc tl cd pl cm h ++ (jrW ct (b 1) 94 M ++ (jrW ct (b 2) 94 SP ++ (jrW ct (b 3) 376 SV ++ (irW ct (b 4) 150 TX ++ (irW ct (b 5) 2 NB)))))) H := hP
  have hD : va_D A (moW b sc tl cd pl cm h ++ (jrW ct (b 1) 94 M ++ (jrW ct (b 2) 94 SP ++ (jrW ct (b 3) 376 SV ++ (irW ct (b 4) 150 TX ++ (irW ct (b 5) 2 NB)))))) := hD
  refine W.eq (g2 := F0 m 12 ls [.long (zJ (sp_str M r (M 6)))]) rfl ?_
  refine lv_lstore_n (lv' := [(3, .long (zJ (sp_str M r (M 6)))), (0, .ref (b 0)), (1, .int (zI r)), (2, .int (zI w))]) hx hb dX9_rodOf_12 rfl hl (by decide) rfl (fun ls hl => ?_)
  refine lv_iload_n hx hb dX9_rodOf_13 rfl (lv_at hl 3 rfl) ?_
  refine z_iconst hx hb dX9_rodOf_14 ?_
  refine z_icmp_ge (tgt := 33) hx hb dX9_rodOf_15 (by decide) (by omega) (by omega) (fun hc_15 => ?_) (fun hc_15 => ?_)
  · have hc_15 := hc_15
    refine lv_iload_n hx hb dX9_rodOf_33 rfl (lv_at hl 3 rfl) ?_
    refine z_iconst hx hb dX9_rodOf_34 ?_
    refine z_icmp_ne (tgt := 42) hx hb dX9_rodOf_35 (by decide) (by omega) (by omega) (fun hc_35 => ?_) (fun hc_35 => ?_)
    · have hc_35 := hc_35
      refine lv_lload_n hx hb dX9_rodOf_42 rfl (lv_at hl 0 rfl) ?_
      refine lv_aload_n hx hb dX9_rodOf_43 rfl (lv_at hl 1 rfl) ?_
      refine va_get (D := D) (ci := 7) (v := .ref (b 1)) (C := RX9) (T := TX9) (N := 11) hx hb hts hin_X9 hown hK hP 0 rfl rfl 0 (by decide) hf_0 (fun _ h9 => h9) rfl dX9_rodOf_44 ?_
      refine z_bipush hx hb dX9_rodOf_47 (by decide) ?_
      refine z_iconst hx hb dX9_rodOf_49 ?_
      refine lv_iload_n hx hb dX9_rodOf_50 rfl (lv_at hl 2 rfl) ?_
      refine z_imul hx hb dX9_rodOf_51 ?_
      refine z_iadd hx hb dX9_rodOf_52 ?_
      refine z_iconst hx hb dX9_rodOf_53 ?_
      refine z_iadd hx hb dX9_rodOf_54 ?_
      refine z_canI (show (22 + (3 * r)) + 2 = 24 + 3 * r from (by omega)) ?_
      refine z_lald (g := M) (v := M (24 + 3 * r)) hx hb hK hP 1 rfl (by decide) (by omega) rfl dX9_rodOf_55 ?_
      refine z_ladd hx hb dX9_rodOf_56 ?_
      refine z_l2i hx hb dX9_rodOf_57 ?_
      exact z_iret hx hb hr hlocks hP hD hS ⟨Nat.le_of_ble_eq_true rfl, Nat.le_of_ble_eq_true rfl⟩ dX9_rodOf_58 (⟨congrArg (fun z => some (Value.int (zI z))) (by unfold sp_rodv; first | (rcases (show w = 0 ∨ w = 1 ∨ w = 2 by omega) with h | h | h <;> subst h <;> (first | rw [if_pos rfl] | rw [if_neg (by omega), if_pos rfl] | rw [if_neg (by omega), if_neg (by omega), if_pos rfl]) <;> exact congrArg M (by omega)) | (rw [if_neg (by omega), if_neg (by omega), if_neg (by omega), if_pos (by omega)]) | (rw [if_neg (by omega), if_neg (by omega), if_neg (by omega), if_neg (by omega)]; omega)), rfl⟩)
    · have hc_35 := hc_35
      refine lv_lload_n hx hb dX9_rodOf_38 rfl (lv_at hl 0 rfl) ?_
      refine lv_goto (tgt := 57) hx hb dX9_rodOf_39 (by decide) ?_
      refine z_l2i hx hb dX9_rodOf_57 ?_
      exact z_iret hx hb hr hlocks hP hD hS ⟨Nat.le_of_ble_eq_true rfl, Nat.le_of_ble_eq_true rfl⟩ dX9_rodOf_58 (⟨congrArg (fun z => some (Value.int (zI z))) (by unfold sp_rodv; first | (rcases (show w = 0 ∨ w = 1 ∨ w = 2 by omega) with h | h | h <;> subst h <;> (first | rw [if_pos rfl] | rw [if_neg (by omega), if_pos rfl] | rw [if_neg (by omega), if_neg (by omega), if_pos rfl]) <;> exact congrArg M (by omega)) | (rw [if_neg (by omega), if_neg (by omega), if_neg (by omega), if_pos (by omega)]) | (rw [if_neg (by omega), if_neg (by omega), if_neg (by omega), if_neg (by omega)]; omega)), rfl⟩)
  · have hc_15 := hc_15
    refine lv_aload_n hx hb dX9_rodOf_18 rfl (lv_at hl 1 rfl) ?_
    refine z_bipush hx hb dX9_rodOf_19 (by decide) ?_
    refine z_iconst hx hb dX9_rodOf_21 ?_
    refine lv_iload_n hx hb dX9_rodOf_22 rfl (lv_at hl 2 rfl) ?_
    refine z_imul hx hb dX9_rodOf_23 ?_
    refine z_iadd hx hb dX9_rodOf_24 ?_
    refine lv_iload_n hx hb dX9_rodOf_25 rfl (lv_at hl 3 rfl) ?_
    refine z_iadd hx hb dX9_rodOf_26 ?_
    refine z_callV (C := RX9) (q0 := 0) (ci := 7) (As := [.int (zI ((22 + (3 * r)) + w))]) (rest := []) ([] : va_W) ([] : va_W) hx hb hml hown hts hl hE hS hA (zr0 ([] : va_W) hP) (zr0D ([] : va_W) hD) (c_X9_of l D ct ad b M SP SV TX NB sc tl cd pl cm h ((22 + (3 * r)) + w) (by omega)) gX9_rodOf_X9_of rfl rfl k_X9_of ⟨Nat.le_of_ble_eq_true rfl, Nat.le_of_ble_eq_true rfl⟩ rfl rfl rfl rfl (Nat.le_of_ble_eq_true rfl) ⟨Nat.le_of_ble_eq_true rfl, Nat.le_of_ble_eq_true rfl⟩ dX9_rodOf_27 rfl (fun v w1 H locs hpost hP hD hS => ?_)
    obtain ⟨rfl, rfl⟩ := hpost
    have hP := zr0' hP
    have hD := zr0D' hD
    have hP : va_P D vwCl (moW b sc tl cd pl cm h ++ (jrW ct (b 1) 94 M ++ (jrW ct (b 2) 94 SP ++ (jrW ct (b 3) 376 SV ++ (irW ct (b 4) 150 TX ++ (irW ct (b 5) 2 NB)))))) H := hP
    have hD : va_D A (moW b sc tl cd pl cm h ++ (jrW ct (b 1) 94 M ++ (jrW ct (b 2) 94 SP ++ (jrW ct (b 3) 376 SV ++ (irW ct (b 4) 150 TX ++ (irW ct (b 5) 2 NB)))))) := hD
    refine W.eq (g2 := F0 m 30 ls [.int (zI (M ((22 + (3 * r)) + w)))]) rfl ?_
    refine lv_goto (tgt := 58) hx hb dX9_rodOf_30 (by decide) ?_
    exact z_iret hx hb hr hlocks hP hD hS ⟨Nat.le_of_ble_eq_true rfl, Nat.le_of_ble_eq_true rfl⟩ dX9_rodOf_58 (⟨congrArg (fun z => some (Value.int (zI z))) (by unfold sp_rodv; first | (rcases (show w = 0 ∨ w = 1 ∨ w = 2 by omega) with h | h | h <;> subst h <;> (first | rw [if_pos rfl] | rw [if_neg (by omega), if_pos rfl] | rw [if_neg (by omega), if_neg (by omega), if_pos rfl]) <;> exact congrArg M (by omega)) | (rw [if_neg (by omega), if_neg (by omega), if_neg (by omega), if_pos (by omega)]) | (rw [if_neg (by omega), if_neg (by omega), if_neg (by omega), if_neg (by omega)]; omega)), rfl⟩)
set_option maxHeartbeats 4000000 in
set_option maxRecDepth 100000 in
theorem c_X9_wholeOf (l : Launch) (D : va_G) (ct ad : Nat → Nat) (b : Nat → Nat) (M SP SV TX NB : Int → Int) (sc tl cd pl cm h : Int) (w : Int) (hI : gInv M) (hB : bInv M) (h1 : 0 ≤ w ∧ w ≤ 17) : ZM l yX9_wholeOf wsX9_wholeOf ({ frames := 5, cells := 0, slots := 0, locals := 113 } : Room) D ct ad [.ref (b 0), .int (zI w)] (moW b sc tl cd pl cm h ++ (jrW ct (b 1) 94 M ++ (jrW ct (b 2) 94 SP ++ (jrW ct (b 3) 376 SV ++ (irW ct (b 4) 150 TX ++ (irW ct (b 5) 2 NB)))))) (zD (some (.int (zI (sp_wh M tl w)))) (moW b sc tl cd pl cm h ++ (jrW ct (b 1) 94 M ++ (jrW ct (b 2) 94 SP ++ (jrW ct (b 3) 376 SV ++ (irW ct (b 4) 150 TX ++ (irW ct (b 5) 2 NB))))))) := by
  refine ZM.of (cc := cX9_wholeOf) (maxL := 2) (ret := (some .int)) (by decide +kernel) rfl (Nat.le_of_ble_eq_true rfl) ?_
  intro p e s m below meth c A ls hx hb hr hts hown hlocks hml hname hE hP hD hA hS hl
  have hK := hE.1
  have hf_0 := hts (.fieldLink RX9 7 "RodGridsModel" "m" "[J") (by decide +kernel)
  have hf_1 := hts (.fieldLink RX9 197 "RodGridsModel" "textLength" "I") (by decide +kernel)
  have hin_X9 : ∀ z ∈ u_ws RX9 TX9 11, z ∈ wsX9_wholeOf := by decide +kernel
  have hl : lv_has ls 2 [(0, .ref (b 0)), (1, .int (zI w))] := hl
  have i3 := hI.1
  have i4 := hI.2.1
  have j0 := hB.1
  have j1 := hB.2.1
  have j2 := hB.2.2.1
  have j4 := hB.2.2.2.2
  have ql := sp_lenB hI hB j1.2.1
  refine lv_iload_n hx hb dX9_wholeOf_0 rfl (lv_at hl 1 rfl) ?_
  rcases (show w = 6 ∨ w = 7 ∨ w = 8 ∨ w = 9 ∨ w = 10 ∨ w = 11 ∨ w = 12 ∨ w = 13 ∨ w = 14 ∨ w = 15 ∨ w = 16 ∨ w = 17 ∨ (w < 6) from (by omega)) with hc_1 | hc_1 | hc_1 | hc_1 | hc_1 | hc_1 | hc_1 | hc_1 | hc_1 | hc_1 | hc_1 | hc_1 | hc_1
  · refine z_tabIn (off := 63) (tgt := 64) hx hb dX9_wholeOf_1 6 hc_1 (by decide) (by decide) rfl (by decide) ?_
    refine lv_aload_n hx hb dX9_wholeOf_64 rfl (lv_at hl 0 rfl) ?_
    refine z_callV (C := RX9) (q0 := 0) (ci := 7) (As := []) (rest := []) ([] : va_W) ([] : va_W) hx hb hml hown hts hl hE hS hA (zr0 ([] : va_W) hP) (zr0D ([] : va_W) hD) (c_X9_arc l D ct ad b M SP SV TX NB sc tl cd pl cm h (by assumption) (by assumption)) gX9_wholeOf_X9_arc rfl rfl k_X9_arc ⟨Nat.le_of_ble_eq_true rfl, Nat.le_of_ble_eq_true rfl⟩ rfl rfl rfl rfl (Nat.le_of_ble_eq_true rfl) ⟨Nat.le_of_ble_eq_true rfl, Nat.le_of_ble_eq_true rfl⟩ dX9_wholeOf_65 rfl (fun v w1 H locs hpost hP hD hS => ?_)
    obtain ⟨rfl, rfl⟩ := hpost
    have hP := zr0' hP
    have hD := zr0D' hD
    have hP : va_P D vwCl (moW b sc tl cd pl cm h ++ (jrW ct (b 1) 94 M ++ (jrW ct (b 2) 94 SP ++ (jrW ct (b 3) 376 SV ++ (irW ct (b 4) 150 TX ++ (irW ct (b 5) 2 NB)))))) H := hP
    have hD : va_D A (moW b sc tl cd pl cm h ++ (jrW ct (b 1) 94 M ++ (jrW ct (b 2) 94 SP ++ (jrW ct (b 3) 376 SV ++ (irW ct (b 4) 150 TX ++ (irW ct (b 5) 2 NB)))))) := hD
    refine W.eq (g2 := F0 m 68 ls [.long (zJ (sp_arc M (M 8)))]) rfl ?_
    refine z_l2i hx hb dX9_wholeOf_68 ?_
    exact z_iret hx hb hr hlocks hP hD hS ⟨Nat.le_of_ble_eq_true rfl, Nat.le_of_ble_eq_true rfl⟩ dX9_wholeOf_69 (⟨congrArg (fun z => some (Value.int (zI z))) (by unfold sp_wh; first | (subst hc_1; rfl) | (rw [if_neg (by omega)]; unfold sp_whole; rcases (show w = 0 ∨ w = 1 ∨ w = 2 ∨ w = 3 ∨ w = 4 ∨ w = 5 by omega) with h | h | h | h | h | h <;> subst h <;> rfl)), rfl⟩)
  · refine z_tabIn (off := 69) (tgt := 70) hx hb dX9_wholeOf_1 7 hc_1 (by decide) (by decide) rfl (by decide) ?_
    refine lv_aload_n hx hb dX9_wholeOf_70 rfl (lv_at hl 0 rfl) ?_
    refine z_callV (C := RX9) (q0 := 0) (ci := 7) (As := []) (rest := []) ([] : va_W) ([] : va_W) hx hb hml hown hts hl hE hS hA (zr0 ([] : va_W) hP) (zr0D ([] : va_W) hD) (c_X9_loss l D ct ad b M SP SV TX NB sc tl cd pl cm h (by assumption) (by assumption)) gX9_wholeOf_X9_loss rfl rfl k_X9_loss ⟨Nat.le_of_ble_eq_true rfl, Nat.le_of_ble_eq_true rfl⟩ rfl rfl rfl rfl (Nat.le_of_ble_eq_true rfl) ⟨Nat.le_of_ble_eq_true rfl, Nat.le_of_ble_eq_true rfl⟩ dX9_wholeOf_71 rfl (fun v w1 H locs hpost hP hD hS => ?_)
    obtain ⟨rfl, rfl⟩ := hpost
    have hP := zr0' hP
    have hD := zr0D' hD
    have hP : va_P D vwCl (moW b sc tl cd pl cm h ++ (jrW ct (b 1) 94 M ++ (jrW ct (b 2) 94 SP ++ (jrW ct (b 3) 376 SV ++ (irW ct (b 4) 150 TX ++ (irW ct (b 5) 2 NB)))))) H := hP
    have hD : va_D A (moW b sc tl cd pl cm h ++ (jrW ct (b 1) 94 M ++ (jrW ct (b 2) 94 SP ++ (jrW ct (b 3) 376 SV ++ (irW ct (b 4) 150 TX ++ (irW ct (b 5) 2 NB)))))) := hD
    refine W.eq (g2 := F0 m 74 ls [.long (zJ (sp_loss M (M 8)))]) rfl ?_
    refine z_l2i hx hb dX9_wholeOf_74 ?_
    exact z_iret hx hb hr hlocks hP hD hS ⟨Nat.le_of_ble_eq_true rfl, Nat.le_of_ble_eq_true rfl⟩ dX9_wholeOf_75 (⟨congrArg (fun z => some (Value.int (zI z))) (by unfold sp_wh; first | (subst hc_1; rfl) | (rw [if_neg (by omega)]; unfold sp_whole; rcases (show w = 0 ∨ w = 1 ∨ w = 2 ∨ w = 3 ∨ w = 4 ∨ w = 5 by omega) with h | h | h | h | h | h <;> subst h <;> rfl)), rfl⟩)
  · refine z_tabIn (off := 75) (tgt := 76) hx hb dX9_wholeOf_1 8 hc_1 (by decide) (by decide) rfl (by decide) ?_
    refine lv_aload_n hx hb dX9_wholeOf_76 rfl (lv_at hl 0 rfl) ?_
    refine lv_aload_n hx hb dX9_wholeOf_77 rfl (lv_at hl 0 rfl) ?_
    refine va_get (D := D) (ci := 7) (v := .ref (b 1)) (C := RX9) (T := TX9) (N := 11) hx hb hts hin_X9 hown hK hP 0 rfl rfl 0 (by decide) hf_0 (fun _ h9 => h9) rfl dX9_wholeOf_78 ?_
    refine z_bipush hx hb dX9_wholeOf_81 (by decide) ?_
    refine z_lald (g := M) (v := M 6) hx hb hK hP 1 rfl (by decide) (by omega) rfl dX9_wholeOf_83 ?_
    refine z_callV (C := RX9) (q0 := 0) (ci := 7) (As := [.long (zJ (M 6))]) (rest := []) ([] : va_W) ([] : va_W) hx hb hml hown hts hl hE hS hA (zr0 ([] : va_W) hP) (zr0D ([] : va_W) hD) (c_X9_lengthAt l D ct ad b M SP SV TX NB sc tl cd pl cm h (M 6) (by assumption) (by assumption) (by omega)) gX9_wholeOf_X9_lengthAt rfl rfl k_X9_lengthAt ⟨Nat.le_of_ble_eq_true rfl, Nat.le_of_ble_eq_true rfl⟩ rfl rfl rfl rfl (Nat.le_of_ble_eq_true rfl) ⟨Nat.le_of_ble_eq_true rfl, Nat.le_of_ble_eq_true rfl⟩ dX9_wholeOf_84 rfl (fun v w1 H locs hpost hP hD hS => ?_)
    obtain ⟨rfl, rfl⟩ := hpost
    have hP := zr0' hP
    have hD := zr0D' hD
    have hP : va_P D vwCl (moW b sc tl cd pl cm h ++ (jrW ct (b 1) 94 M ++ (jrW ct (b 2) 94 SP ++ (jrW ct (b 3) 376 SV ++ (irW ct (b 4) 150 TX ++ (irW ct (b 5) 2 NB)))))) H := hP
    have hD : va_D A (moW b sc tl cd pl cm h ++ (jrW ct (b 1) 94 M ++ (jrW ct (b 2) 94 SP ++ (jrW ct (b 3) 376 SV ++ (irW ct (b 4) 150 TX ++ (irW ct (b 5) 2 NB)))))) := hD
    refine W.eq (g2 := F0 m 87 ls [.long (zJ (sp_len M (M 6)))]) rfl ?_
    refine z_l2i hx hb dX9_wholeOf_87 ?_
    exact z_iret hx hb hr hlocks hP hD hS ⟨Nat.le_of_ble_eq_true rfl, Nat.le_of_ble_eq_true rfl⟩ dX9_wholeOf_88 (⟨congrArg (fun z => some (Value.int (zI z))) (by unfold sp_wh; first | (subst hc_1; rfl) | (rw [if_neg (by omega)]; unfold sp_whole; rcases (show w = 0 ∨ w = 1 ∨ w = 2 ∨ w = 3 ∨ w = 4 ∨ w = 5 by omega) with h | h | h | h | h | h <;> subst h <;> rfl)), rfl⟩)
  · refine z_tabIn (off := 88) (tgt := 89) hx hb dX9_wholeOf_1 9 hc_1 (by decide) (by decide) rfl (by decide) ?_
    refine lv_aload_n hx hb dX9_wholeOf_89 rfl (lv_at hl 0 rfl) ?_
    refine z_callV (C := RX9) (q0 := 0) (ci := 7) (As := []) (rest := []) ([] : va_W) ([] : va_W) hx hb hml hown hts hl hE hS hA (zr0 ([] : va_W) hP) (zr0D ([] : va_W) hD) (c_X9_rateNow l D ct ad b M SP SV TX NB sc tl cd pl cm h (by assumption) (by assumption)) gX9_wholeOf_X9_rateNow rfl rfl k_X9_rateNow ⟨Nat.le_of_ble_eq_true rfl, Nat.le_of_ble_eq_true rfl⟩ rfl rfl rfl rfl (Nat.le_of_ble_eq_true rfl) ⟨Nat.le_of_ble_eq_true rfl, Nat.le_of_ble_eq_true rfl⟩ dX9_wholeOf_90 rfl (fun v w1 H locs hpost hP hD hS => ?_)
    obtain ⟨rfl, rfl⟩ := hpost
    have hP := zr0' hP
    have hD := zr0D' hD
    have hP : va_P D vwCl (moW b sc tl cd pl cm h ++ (jrW ct (b 1) 94 M ++ (jrW ct (b 2) 94 SP ++ (jrW ct (b 3) 376 SV ++ (irW ct (b 4) 150 TX ++ (irW ct (b 5) 2 NB)))))) H := hP
    have hD : va_D A (moW b sc tl cd pl cm h ++ (jrW ct (b 1) 94 M ++ (jrW ct (b 2) 94 SP ++ (jrW ct (b 3) 376 SV ++ (irW ct (b 4) 150 TX ++ (irW ct (b 5) 2 NB)))))) := hD
    refine W.eq (g2 := F0 m 93 ls [.long (zJ (sp_rateM M))]) rfl ?_
    refine z_l2i hx hb dX9_wholeOf_93 ?_
    exact z_iret hx hb hr hlocks hP hD hS ⟨Nat.le_of_ble_eq_true rfl, Nat.le_of_ble_eq_true rfl⟩ dX9_wholeOf_94 (⟨congrArg (fun z => some (Value.int (zI z))) (by unfold sp_wh; first | (subst hc_1; rfl) | (rw [if_neg (by omega)]; unfold sp_whole; rcases (show w = 0 ∨ w = 1 ∨ w = 2 ∨ w = 3 ∨ w = 4 ∨ w = 5 by omega) with h | h | h | h | h | h <;> subst h <;> rfl)), rfl⟩)
  · refine z_tabIn (off := 94) (tgt := 95) hx hb dX9_wholeOf_1 10 hc_1 (by decide) (by decide) rfl (by decide) ?_
    refine lv_aload_n hx hb dX9_wholeOf_95 rfl (lv_at hl 0 rfl) ?_
    refine z_bipush hx hb dX9_wholeOf_96 (by decide) ?_
    refine lv_iload_n hx hb dX9_wholeOf_98 rfl (lv_at hl 1 rfl) ?_
    refine z_iadd hx hb dX9_wholeOf_99 ?_
    refine z_bipush hx hb dX9_wholeOf_100 (by decide) ?_
    refine z_isub hx hb dX9_wholeOf_102 ?_
    refine z_canI (show (9 + w) - 10 = (-1) + w from (by omega)) ?_
    refine z_callV (C := RX9) (q0 := 0) (ci := 7) (As := [.int (zI ((-1) + w))]) (rest := []) ([] : va_W) ([] : va_W) hx hb hml hown hts hl hE hS hA (zr0 ([] : va_W) hP) (zr0D ([] : va_W) hD) (c_X9_of l D ct ad b M SP SV TX NB sc tl cd pl cm h ((-1) + w) (by omega)) gX9_wholeOf_X9_of rfl rfl k_X9_of ⟨Nat.le_of_ble_eq_true rfl, Nat.le_of_ble_eq_true rfl⟩ rfl rfl rfl rfl (Nat.le_of_ble_eq_true rfl) ⟨Nat.le_of_ble_eq_true rfl, Nat.le_of_ble_eq_true rfl⟩ dX9_wholeOf_103 rfl (fun v w1 H locs hpost hP hD hS => ?_)
    obtain ⟨rfl, rfl⟩ := hpost
    have hP := zr0' hP
    have hD := zr0D' hD
    have hP : va_P D vwCl (moW b sc tl cd pl cm h ++ (jrW ct (b 1) 94 M ++ (jrW ct (b 2) 94 SP ++ (jrW ct (b 3) 376 SV ++ (irW ct (b 4) 150 TX ++ (irW ct (b 5) 2 NB)))))) H := hP
    have hD : va_D A (moW b sc tl cd pl cm h ++ (jrW ct (b 1) 94 M ++ (jrW ct (b 2) 94 SP ++ (jrW ct (b 3) 376 SV ++ (irW ct (b 4) 150 TX ++ (irW ct (b 5) 2 NB)))))) := hD
    refine W.eq (g2 := F0 m 106 ls [.int (zI (M ((-1) + w)))]) rfl ?_
    exact z_iret hx hb hr hlocks hP hD hS ⟨Nat.le_of_ble_eq_true rfl, Nat.le_of_ble_eq_true rfl⟩ dX9_wholeOf_106 (⟨congrArg (fun z => some (Value.int (zI z))) (by unfold sp_wh; first | (subst hc_1; rfl) | (rw [if_neg (by omega)]; unfold sp_whole; rcases (show w = 0 ∨ w = 1 ∨ w = 2 ∨ w = 3 ∨ w = 4 ∨ w = 5 by omega) with h | h | h | h | h | h <;> subst h <;> rfl)), rfl⟩)
  · refine z_tabIn (off := 94) (tgt := 95) hx hb dX9_wholeOf_1 11 hc_1 (by decide) (by decide) rfl (by decide) ?_
    refine lv_aload_n hx hb dX9_wholeOf_95 rfl (lv_at hl 0 rfl) ?_
    refine z_bipush hx hb dX9_wholeOf_96 (by decide) ?_
    refine lv_iload_n hx hb dX9_wholeOf_98 rfl (lv_at hl 1 rfl) ?_
    refine z_iadd hx hb dX9_wholeOf_99 ?_
    refine z_bipush hx hb dX9_wholeOf_100 (by decide) ?_
    refine z_isub hx hb dX9_wholeOf_102 ?_
    refine z_canI (show (9 + w) - 10 = (-1) + w from (by omega)) ?_
    refine z_callV (C := RX9) (q0 := 0) (ci := 7) (As := [.int (zI ((-1) + w))]) (rest := []) ([] : va_W) ([] : va_W) hx hb hml hown hts hl hE hS hA (zr0 ([] : va_W) hP) (zr0D ([] : va_W) hD) (c_X9_of l D ct ad b M SP SV TX NB sc tl cd pl cm h ((-1) + w) (by omega)) gX9_wholeOf_X9_of rfl rfl k_X9_of ⟨Nat.le_of_ble_eq_true rfl, Nat.le_of_ble_eq_true rfl⟩ rfl rfl rfl rfl (Nat.le_of_ble_eq_true rfl) ⟨Nat.le_of_ble_eq_true rfl, Nat.le_of_ble_eq_true rfl⟩ dX9_wholeOf_103 rfl (fun v w1 H locs hpost hP hD hS => ?_)
    obtain ⟨rfl, rfl⟩ := hpost
    have hP := zr0' hP
    have hD := zr0D' hD
    have hP : va_P D vwCl (moW b sc tl cd pl cm h ++ (jrW ct (b 1) 94 M ++ (jrW ct (b 2) 94 SP ++ (jrW ct (b 3) 376 SV ++ (irW ct (b 4) 150 TX ++ (irW ct (b 5) 2 NB)))))) H := hP
    have hD : va_D A (moW b sc tl cd pl cm h ++ (jrW ct (b 1) 94 M ++ (jrW ct (b 2) 94 SP ++ (jrW ct (b 3) 376 SV ++ (irW ct (b 4) 150 TX ++ (irW ct (b 5) 2 NB)))))) := hD
    refine W.eq (g2 := F0 m 106 ls [.int (zI (M ((-1) + w)))]) rfl ?_
    exact z_iret hx hb hr hlocks hP hD hS ⟨Nat.le_of_ble_eq_true rfl, Nat.le_of_ble_eq_true rfl⟩ dX9_wholeOf_106 (⟨congrArg (fun z => some (Value.int (zI z))) (by unfold sp_wh; first | (subst hc_1; rfl) | (rw [if_neg (by omega)]; unfold sp_whole; rcases (show w = 0 ∨ w = 1 ∨ w = 2 ∨ w = 3 ∨ w = 4 ∨ w = 5 by omega) with h | h | h | h | h | h <;> subst h <;> rfl)), rfl⟩)
  · refine z_tabIn (off := 94) (tgt := 95) hx hb dX9_wholeOf_1 12 hc_1 (by decide) (by decide) rfl (by decide) ?_
    refine lv_aload_n hx hb dX9_wholeOf_95 rfl (lv_at hl 0 rfl) ?_
    refine z_bipush hx hb dX9_wholeOf_96 (by decide) ?_
    refine lv_iload_n hx hb dX9_wholeOf_98 rfl (lv_at hl 1 rfl) ?_
    refine z_iadd hx hb dX9_wholeOf_99 ?_
    refine z_bipush hx hb dX9_wholeOf_100 (by decide) ?_
    refine z_isub hx hb dX9_wholeOf_102 ?_
    refine z_canI (show (9 + w) - 10 = (-1) + w from (by omega)) ?_
    refine z_callV (C := RX9) (q0 := 0) (ci := 7) (As := [.int (zI ((-1) + w))]) (rest := []) ([] : va_W) ([] : va_W) hx hb hml hown hts hl hE hS hA (zr0 ([] : va_W) hP) (zr0D ([] : va_W) hD) (c_X9_of l D ct ad b M SP SV TX NB sc tl cd pl cm h ((-1) + w) (by omega)) gX9_wholeOf_X9_of rfl rfl k_X9_of ⟨Nat.le_of_ble_eq_true rfl, Nat.le_of_ble_eq_true rfl⟩ rfl rfl rfl rfl (Nat.le_of_ble_eq_true rfl) ⟨Nat.le_of_ble_eq_true rfl, Nat.le_of_ble_eq_true rfl⟩ dX9_wholeOf_103 rfl (fun v w1 H locs hpost hP hD hS => ?_)
    obtain ⟨rfl, rfl⟩ := hpost
    have hP := zr0' hP
    have hD := zr0D' hD
    have hP : va_P D vwCl (moW b sc tl cd pl cm h ++ (jrW ct (b 1) 94 M ++ (jrW ct (b 2) 94 SP ++ (jrW ct (b 3) 376 SV ++ (irW ct (b 4) 150 TX ++ (irW ct (b 5) 2 NB)))))) H := hP
    have hD : va_D A (moW b sc tl cd pl cm h ++ (jrW ct (b 1) 94 M ++ (jrW ct (b 2) 94 SP ++ (jrW ct (b 3) 376 SV ++ (irW ct (b 4) 150 TX ++ (irW ct (b 5) 2 NB)))))) := hD
    refine W.eq (g2 := F0 m 106 ls [.int (zI (M ((-1) + w)))]) rfl ?_
    exact z_iret hx hb hr hlocks hP hD hS ⟨Nat.le_of_ble_eq_true rfl, Nat.le_of_ble_eq_true rfl⟩ dX9_wholeOf_106 (⟨congrArg (fun z => some (Value.int (zI z))) (by unfold sp_wh; first | (subst hc_1; rfl) | (rw [if_neg (by omega)]; unfold sp_whole; rcases (show w = 0 ∨ w = 1 ∨ w = 2 ∨ w = 3 ∨ w = 4 ∨ w = 5 by omega) with h | h | h | h | h | h <;> subst h <;> rfl)), rfl⟩)
  · refine z_tabIn (off := 106) (tgt := 107) hx hb dX9_wholeOf_1 13 hc_1 (by decide) (by decide) rfl (by decide) ?_
    refine lv_aload_n hx hb dX9_wholeOf_107 rfl (lv_at hl 0 rfl) ?_
    refine lv_iload_n hx hb dX9_wholeOf_108 rfl (lv_at hl 1 rfl) ?_
    refine z_bipush hx hb dX9_wholeOf_109 (by decide) ?_
    refine z_isub hx hb dX9_wholeOf_111 ?_
    refine z_callV (C := RX9) (q0 := 0) (ci := 7) (As := [.int (zI (w - 13))]) (rest := []) ([] : va_W) ([] : va_W) hx hb hml hown hts hl hE hS hA (zr0 ([] : va_W) hP) (zr0D ([] : va_W) hD) (c_X9_of l D ct ad b M SP SV TX NB sc tl cd pl cm h (w - 13) (by omega)) gX9_wholeOf_X9_of rfl rfl k_X9_of ⟨Nat.le_of_ble_eq_true rfl, Nat.le_of_ble_eq_true rfl⟩ rfl rfl rfl rfl (Nat.le_of_ble_eq_true rfl) ⟨Nat.le_of_ble_eq_true rfl, Nat.le_of_ble_eq_true rfl⟩ dX9_wholeOf_112 rfl (fun v w1 H locs hpost hP hD hS => ?_)
    obtain ⟨rfl, rfl⟩ := hpost
    have hP := zr0' hP
    have hD := zr0D' hD
    have hP : va_P D vwCl (moW b sc tl cd pl cm h ++ (jrW ct (b 1) 94 M ++ (jrW ct (b 2) 94 SP ++ (jrW ct (b 3) 376 SV ++ (irW ct (b 4) 150 TX ++ (irW ct (b 5) 2 NB)))))) H := hP
    have hD : va_D A (moW b sc tl cd pl cm h ++ (jrW ct (b 1) 94 M ++ (jrW ct (b 2) 94 SP ++ (jrW ct (b 3) 376 SV ++ (irW ct (b 4) 150 TX ++ (irW ct (b 5) 2 NB)))))) := hD
    refine W.eq (g2 := F0 m 115 ls [.int (zI (M (w - 13)))]) rfl ?_
    exact z_iret hx hb hr hlocks hP hD hS ⟨Nat.le_of_ble_eq_true rfl, Nat.le_of_ble_eq_true rfl⟩ dX9_wholeOf_115 (⟨congrArg (fun z => some (Value.int (zI z))) (by unfold sp_wh; first | (subst hc_1; rfl) | (rw [if_neg (by omega)]; unfold sp_whole; rcases (show w = 0 ∨ w = 1 ∨ w = 2 ∨ w = 3 ∨ w = 4 ∨ w = 5 by omega) with h | h | h | h | h | h <;> subst h <;> rfl)), rfl⟩)
  · refine z_tabIn (off := 106) (tgt := 107) hx hb dX9_wholeOf_1 14 hc_1 (by decide) (by decide) rfl (by decide) ?_
    refine lv_aload_n hx hb dX9_wholeOf_107 rfl (lv_at hl 0 rfl) ?_
    refine lv_iload_n hx hb dX9_wholeOf_108 rfl (lv_at hl 1 rfl) ?_
    refine z_bipush hx hb dX9_wholeOf_109 (by decide) ?_
    refine z_isub hx hb dX9_wholeOf_111 ?_
    refine z_callV (C := RX9) (q0 := 0) (ci := 7) (As := [.int (zI (w - 13))]) (rest := []) ([] : va_W) ([] : va_W) hx hb hml hown hts hl hE hS hA (zr0 ([] : va_W) hP) (zr0D ([] : va_W) hD) (c_X9_of l D ct ad b M SP SV TX NB sc tl cd pl cm h (w - 13) (by omega)) gX9_wholeOf_X9_of rfl rfl k_X9_of ⟨Nat.le_of_ble_eq_true rfl, Nat.le_of_ble_eq_true rfl⟩ rfl rfl rfl rfl (Nat.le_of_ble_eq_true rfl) ⟨Nat.le_of_ble_eq_true rfl, Nat.le_of_ble_eq_true rfl⟩ dX9_wholeOf_112 rfl (fun v w1 H locs hpost hP hD hS => ?_)
    obtain ⟨rfl, rfl⟩ := hpost
    have hP := zr0' hP
    have hD := zr0D' hD
    have hP : va_P D vwCl (moW b sc tl cd pl cm h ++ (jrW ct (b 1) 94 M ++ (jrW ct (b 2) 94 SP ++ (jrW ct (b 3) 376 SV ++ (irW ct (b 4) 150 TX ++ (irW ct (b 5) 2 NB)))))) H := hP
    have hD : va_D A (moW b sc tl cd pl cm h ++ (jrW ct (b 1) 94 M ++ (jrW ct (b 2) 94 SP ++ (jrW ct (b 3) 376 SV ++ (irW ct (b 4) 150 TX ++ (irW ct (b 5) 2 NB)))))) := hD
    refine W.eq (g2 := F0 m 115 ls [.int (zI (M (w - 13)))]) rfl ?_
    exact z_iret hx hb hr hlocks hP hD hS ⟨Nat.le_of_ble_eq_true rfl, Nat.le_of_ble_eq_true rfl⟩ dX9_wholeOf_115 (⟨congrArg (fun z => some (Value.int (zI z))) (by unfold sp_wh; first | (subst hc_1; rfl) | (rw [if_neg (by omega)]; unfold sp_whole; rcases (show w = 0 ∨ w = 1 ∨ w = 2 ∨ w = 3 ∨ w = 4 ∨ w = 5 by omega) with h | h | h | h | h | h <;> subst h <;> rfl)), rfl⟩)
  · refine z_tabIn (off := 106) (tgt := 107) hx hb dX9_wholeOf_1 15 hc_1 (by decide) (by decide) rfl (by decide) ?_
    refine lv_aload_n hx hb dX9_wholeOf_107 rfl (lv_at hl 0 rfl) ?_
    refine lv_iload_n hx hb dX9_wholeOf_108 rfl (lv_at hl 1 rfl) ?_
    refine z_bipush hx hb dX9_wholeOf_109 (by decide) ?_
    refine z_isub hx hb dX9_wholeOf_111 ?_
    refine z_callV (C := RX9) (q0 := 0) (ci := 7) (As := [.int (zI (w - 13))]) (rest := []) ([] : va_W) ([] : va_W) hx hb hml hown hts hl hE hS hA (zr0 ([] : va_W) hP) (zr0D ([] : va_W) hD) (c_X9_of l D ct ad b M SP SV TX NB sc tl cd pl cm h (w - 13) (by omega)) gX9_wholeOf_X9_of rfl rfl k_X9_of ⟨Nat.le_of_ble_eq_true rfl, Nat.le_of_ble_eq_true rfl⟩ rfl rfl rfl rfl (Nat.le_of_ble_eq_true rfl) ⟨Nat.le_of_ble_eq_true rfl, Nat.le_of_ble_eq_true rfl⟩ dX9_wholeOf_112 rfl (fun v w1 H locs hpost hP hD hS => ?_)
    obtain ⟨rfl, rfl⟩ := hpost
    have hP := zr0' hP
    have hD := zr0D' hD
    have hP : va_P D vwCl (moW b sc tl cd pl cm h ++ (jrW ct (b 1) 94 M ++ (jrW ct (b 2) 94 SP ++ (jrW ct (b 3) 376 SV ++ (irW ct (b 4) 150 TX ++ (irW ct (b 5) 2 NB)))))) H := hP
    have hD : va_D A (moW b sc tl cd pl cm h ++ (jrW ct (b 1) 94 M ++ (jrW ct (b 2) 94 SP ++ (jrW ct (b 3) 376 SV ++ (irW ct (b 4) 150 TX ++ (irW ct (b 5) 2 NB)))))) := hD
    refine W.eq (g2 := F0 m 115 ls [.int (zI (M (w - 13)))]) rfl ?_
    exact z_iret hx hb hr hlocks hP hD hS ⟨Nat.le_of_ble_eq_true rfl, Nat.le_of_ble_eq_true rfl⟩ dX9_wholeOf_115 (⟨congrArg (fun z => some (Value.int (zI z))) (by unfold sp_wh; first | (subst hc_1; rfl) | (rw [if_neg (by omega)]; unfold sp_whole; rcases (show w = 0 ∨ w = 1 ∨ w = 2 ∨ w = 3 ∨ w = 4 ∨ w = 5 by omega) with h | h | h | h | h | h <;> subst h <;> rfl)), rfl⟩)
  · refine z_tabIn (off := 115) (tgt := 116) hx hb dX9_wholeOf_1 16 hc_1 (by decide) (by decide) rfl (by decide) ?_
    refine lv_aload_n hx hb dX9_wholeOf_116 rfl (lv_at hl 0 rfl) ?_
    refine z_bipush hx hb dX9_wholeOf_117 (by decide) ?_
    refine z_callV (C := RX9) (q0 := 0) (ci := 7) (As := [.int (zI 15)]) (rest := []) ([] : va_W) ([] : va_W) hx hb hml hown hts hl hE hS hA (zr0 ([] : va_W) hP) (zr0D ([] : va_W) hD) (c_X9_of l D ct ad b M SP SV TX NB sc tl cd pl cm h 15 (by omega)) gX9_wholeOf_X9_of rfl rfl k_X9_of ⟨Nat.le_of_ble_eq_true rfl, Nat.le_of_ble_eq_true rfl⟩ rfl rfl rfl rfl (Nat.le_of_ble_eq_true rfl) ⟨Nat.le_of_ble_eq_true rfl, Nat.le_of_ble_eq_true rfl⟩ dX9_wholeOf_119 rfl (fun v w1 H locs hpost hP hD hS => ?_)
    obtain ⟨rfl, rfl⟩ := hpost
    have hP := zr0' hP
    have hD := zr0D' hD
    have hP : va_P D vwCl (moW b sc tl cd pl cm h ++ (jrW ct (b 1) 94 M ++ (jrW ct (b 2) 94 SP ++ (jrW ct (b 3) 376 SV ++ (irW ct (b 4) 150 TX ++ (irW ct (b 5) 2 NB)))))) H := hP
    have hD : va_D A (moW b sc tl cd pl cm h ++ (jrW ct (b 1) 94 M ++ (jrW ct (b 2) 94 SP ++ (jrW ct (b 3) 376 SV ++ (irW ct (b 4) 150 TX ++ (irW ct (b 5) 2 NB)))))) := hD
    refine W.eq (g2 := F0 m 122 ls [.int (zI (M 15))]) rfl ?_
    exact z_iret hx hb hr hlocks hP hD hS ⟨Nat.le_of_ble_eq_true rfl, Nat.le_of_ble_eq_true rfl⟩ dX9_wholeOf_122 (⟨congrArg (fun z => some (Value.int (zI z))) (by unfold sp_wh; first | (subst hc_1; rfl) | (rw [if_neg (by omega)]; unfold sp_whole; rcases (show w = 0 ∨ w = 1 ∨ w = 2 ∨ w = 3 ∨ w = 4 ∨ w = 5 by omega) with h | h | h | h | h | h <;> subst h <;> rfl)), rfl⟩)
  · refine z_tabIn (off := 122) (tgt := 123) hx hb dX9_wholeOf_1 17 hc_1 (by decide) (by decide) rfl (by decide) ?_
    refine lv_aload_n hx hb dX9_wholeOf_123 rfl (lv_at hl 0 rfl) ?_
    refine va_get (D := D) (ci := 7) (v := .int (zI tl)) (C := RX9) (T := TX9) (N := 11) hx hb hts hin_X9 hown hK hP 0 rfl rfl 5 (by decide) hf_1 (fun _ h9 => h9) rfl dX9_wholeOf_124 ?_
    exact z_iret hx hb hr hlocks hP hD hS ⟨Nat.le_of_ble_eq_true rfl, Nat.le_of_ble_eq_true rfl⟩ dX9_wholeOf_127 (⟨congrArg (fun z => some (Value.int (zI z))) (by unfold sp_wh; first | (subst hc_1; rfl) | (rw [if_neg (by omega)]; unfold sp_whole; rcases (show w = 0 ∨ w = 1 ∨ w = 2 ∨ w = 3 ∨ w = 4 ∨ w = 5 by omega) with h | h | h | h | h | h <;> subst h <;> rfl)), rfl⟩)
  · refine z_tabOut (tgt := 128) hx hb dX9_wholeOf_1 (by omega) (by omega) (by decide) ?_
    refine lv_aload_n hx hb dX9_wholeOf_128 rfl (lv_at hl 0 rfl) ?_
    refine z_iconst hx hb dX9_wholeOf_129 ?_
    refine lv_iload_n hx hb dX9_wholeOf_130 rfl (lv_at hl 1 rfl) ?_
    refine z_iadd hx hb dX9_wholeOf_131 ?_
    refine z_callV (C := RX9) (q0 := 0) (ci := 7) (As := [.int (zI (3 + w))]) (rest := []) ([] : va_W) ([] : va_W) hx hb hml hown hts hl hE hS hA (zr0 ([] : va_W) hP) (zr0D ([] : va_W) hD) (c_X9_of l D ct ad b M SP SV TX NB sc tl cd pl cm h (3 + w) (by omega)) gX9_wholeOf_X9_of rfl rfl k_X9_of ⟨Nat.le_of_ble_eq_true rfl, Nat.le_of_ble_eq_true rfl⟩ rfl rfl rfl rfl (Nat.le_of_ble_eq_true rfl) ⟨Nat.le_of_ble_eq_true rfl, Nat.le_of_ble_eq_true rfl⟩ dX9_wholeOf_132 rfl (fun v w1 H locs hpost hP hD hS => ?_)
    obtain ⟨rfl, rfl⟩ := hpost
    have hP := zr0' hP
    have hD := zr0D' hD
    have hP : va_P D vwCl (moW b sc tl cd pl cm h ++ (jrW ct (b 1) 94 M ++ (jrW ct (b 2) 94 SP ++ (jrW ct (b 3) 376 SV ++ (irW ct (b 4) 150 TX ++ (irW ct (b 5) 2 NB)))))) H := hP
    have hD : va_D A (moW b sc tl cd pl cm h ++ (jrW ct (b 1) 94 M ++ (jrW ct (b 2) 94 SP ++ (jrW ct (b 3) 376 SV ++ (irW ct (b 4) 150 TX ++ (irW ct (b 5) 2 NB)))))) := hD
    refine W.eq (g2 := F0 m 135 ls [.int (zI (M (3 + w)))]) rfl ?_
    exact z_iret hx hb hr hlocks hP hD hS ⟨Nat.le_of_ble_eq_true rfl, Nat.le_of_ble_eq_true rfl⟩ dX9_wholeOf_135 (⟨congrArg (fun z => some (Value.int (zI z))) (by unfold sp_wh; first | (subst hc_1; rfl) | (rw [if_neg (by omega)]; unfold sp_whole; rcases (show w = 0 ∨ w = 1 ∨ w = 2 ∨ w = 3 ∨ w = 4 ∨ w = 5 by omega) with h | h | h | h | h | h <;> subst h <;> rfl)), rfl⟩)
set_option maxHeartbeats 4000000 in
set_option maxRecDepth 100000 in
theorem c_X9_weight (l : Launch) (D : va_G) (ct ad : Nat → Nat) (b : Nat → Nat) (M SP SV TX NB : Int → Int) (sc tl cd pl cm h : Int) (r : Int) (hI : gInv M) (h1 : 0 ≤ r ∧ r < 9) : ZM l yX9_weight wsX9_weight ({ frames := 1, cells := 0, slots := 0, locals := 21 } : Room) D ct ad [.ref (b 0), .int (zI r)] (moW b sc tl cd pl cm h ++ (jrW ct (b 1) 94 M ++ (jrW ct (b 2) 94 SP ++ (jrW ct (b 3) 376 SV ++ (irW ct (b 4) 150 TX ++ (irW ct (b 5) 2 NB)))))) (zD (some (.long (zJ (sp_bal1 M r)))) (moW b sc tl cd pl cm h ++ (jrW ct (b 1) 94 M ++ (jrW ct (b 2) 94 SP ++ (jrW ct (b 3) 376 SV ++ (irW ct (b 4) 150 TX ++ (irW ct (b 5) 2 NB))))))) := by
  refine ZM.of (cc := cX9_weight) (maxL := 2) (ret := (some .long)) (by decide +kernel) rfl (Nat.le_of_ble_eq_true rfl) ?_
  intro p e s m below meth c A ls hx hb hr hts hown hlocks hml hname hE hP hD hA hS hl
  have hK := hE.1
  have hf_0 := hts (.fieldLink RX9 7 "RodGridsModel" "m" "[J") (by decide +kernel)
  have hin_X9 : ∀ z ∈ u_ws RX9 TX9 11, z ∈ wsX9_weight := by decide +kernel
  have hl : lv_has ls 2 [(0, .ref (b 0)), (1, .int (zI r))] := hl
  have i3 := hI.1
  have i4 := hI.2.1
  have q := hI.2.2.2.1 r h1.1 h1.2
  refine lv_aload_n hx hb dX9_weight_0 rfl (lv_at hl 0 rfl) ?_
  refine va_get (D := D) (ci := 7) (v := .ref (b 1)) (C := RX9) (T := TX9) (N := 11) hx hb hts hin_X9 hown hK hP 0 rfl rfl 0 (by decide) hf_0 (fun _ h9 => h9) rfl dX9_weight_1 ?_
  refine z_bipush hx hb dX9_weight_4 (by decide) ?_
  refine z_iconst hx hb dX9_weight_6 ?_
  refine lv_iload_n hx hb dX9_weight_7 rfl (lv_at hl 1 rfl) ?_
  refine z_imul hx hb dX9_weight_8 ?_
  refine z_iadd hx hb dX9_weight_9 ?_
  refine z_iconst hx hb dX9_weight_10 ?_
  refine z_iadd hx hb dX9_weight_11 ?_
  refine z_canI (show (22 + (3 * r)) + 1 = 23 + 3 * r from (by omega)) ?_
  refine z_lald (g := M) (v := M (23 + 3 * r)) hx hb hK hP 1 rfl (by decide) (by omega) rfl dX9_weight_12 ?_
  refine lv_aload_n hx hb dX9_weight_13 rfl (lv_at hl 0 rfl) ?_
  refine va_get (D := D) (ci := 7) (v := .ref (b 1)) (C := RX9) (T := TX9) (N := 11) hx hb hts hin_X9 hown hK hP 0 rfl rfl 0 (by decide) hf_0 (fun _ h9 => h9) rfl dX9_weight_14 ?_
  refine z_bipush hx hb dX9_weight_17 (by decide) ?_
  refine z_iconst hx hb dX9_weight_19 ?_
  refine lv_iload_n hx hb dX9_weight_20 rfl (lv_at hl 1 rfl) ?_
  refine z_imul hx hb dX9_weight_21 ?_
  refine z_iadd hx hb dX9_weight_22 ?_
  refine z_iconst hx hb dX9_weight_23 ?_
  refine z_iadd hx hb dX9_weight_24 ?_
  refine z_canI (show (22 + (3 * r)) + 2 = 24 + 3 * r from (by omega)) ?_
  refine z_lald (g := M) (v := M (24 + 3 * r)) hx hb hK hP 1 rfl (by decide) (by omega) rfl dX9_weight_25 ?_
  refine z_lmul hx hb dX9_weight_26 ?_
  refine lv_aload_n hx hb dX9_weight_27 rfl (lv_at hl 0 rfl) ?_
  refine va_get (D := D) (ci := 7) (v := .ref (b 1)) (C := RX9) (T := TX9) (N := 11) hx hb hts hin_X9 hown hK hP 0 rfl rfl 0 (by decide) hf_0 (fun _ h9 => h9) rfl dX9_weight_28 ?_
  refine z_bipush hx hb dX9_weight_31 (by decide) ?_
  refine lv_aload_n hx hb dX9_weight_33 rfl (lv_at hl 0 rfl) ?_
  refine z_bipush hx hb dX9_weight_34 (by decide) ?_
  refine z_iconst hx hb dX9_weight_36 ?_
  refine lv_iload_n hx hb dX9_weight_37 rfl (lv_at hl 1 rfl) ?_
  refine z_imul hx hb dX9_weight_38 ?_
  refine z_iadd hx hb dX9_weight_39 ?_
  refine z_callV (C := RX9) (q0 := 0) (ci := 7) (As := [.int (zI (22 + (3 * r)))]) (rest := [.int (zI 16), .ref (b 1), .long (zJ ((M (23 + 3 * r)) * (M (24 + 3 * r))))]) ([] : va_W) ([] : va_W) hx hb hml hown hts hl hE hS hA (zr0 ([] : va_W) hP) (zr0D ([] : va_W) hD) (c_X9_of l D ct ad b M SP SV TX NB sc tl cd pl cm h (22 + (3 * r)) (by omega)) gX9_weight_X9_of rfl rfl k_X9_of ⟨Nat.le_of_ble_eq_true rfl, Nat.le_of_ble_eq_true rfl⟩ rfl rfl rfl rfl (Nat.le_of_ble_eq_true rfl) ⟨Nat.le_of_ble_eq_true rfl, Nat.le_of_ble_eq_true rfl⟩ dX9_weight_40 rfl (fun v w1 H locs hpost hP hD hS => ?_)
  obtain ⟨rfl, rfl⟩ := hpost
  have hP := zr0' hP
  have hD := zr0D' hD
  have hP : va_P D vwCl (moW b sc tl cd pl cm h ++ (jrW ct (b 1) 94 M ++ (jrW ct (b 2) 94 SP ++ (jrW ct (b 3) 376 SV ++ (irW ct (b 4) 150 TX ++ (irW ct (b 5) 2 NB)))))) H := hP
  have hD : va_D A (moW b sc tl cd pl cm h ++ (jrW ct (b 1) 94 M ++ (jrW ct (b 2) 94 SP ++ (jrW ct (b 3) 376 SV ++ (irW ct (b 4) 150 TX ++ (irW ct (b 5) 2 NB)))))) := hD
  refine W.eq (g2 := F0 m 43 ls [.int (zI (M (22 + (3 * r)))), .int (zI 16), .ref (b 1), .long (zJ ((M (23 + 3 * r)) * (M (24 + 3 * r))))]) rfl ?_
  refine z_iadd hx hb dX9_weight_43 ?_
  refine z_lald (g := M) (v := M (16 + (M (22 + (3 * r))))) hx hb hK hP 1 rfl (by decide) (by omega) rfl dX9_weight_44 ?_
  refine z_lmul hx hb dX9_weight_45 ?_
  exact z_lret hx hb hr hlocks hP hD hS ⟨Nat.le_of_ble_eq_true rfl, Nat.le_of_ble_eq_true rfl⟩ dX9_weight_46 (⟨congrArg (fun z => some (Value.long (zJ z))) (rfl), rfl⟩)
theorem k_X9_weight : yX9_weight.cls ≠ "java/lang/invoke/MethodHandle" ∧ yX9_weight.cls ≠ "java/lang/invoke/VarHandle" ∧ (parseMethodDescriptor yX9_weight.desc).map (fun d => d.parameters.length) = some 1 := by decide +kernel
set_option maxHeartbeats 4000000 in
set_option maxRecDepth 100000 in
theorem c_X9_balanceNow (l : Launch) (D : va_G) (ct ad : Nat → Nat) (b : Nat → Nat) (M SP SV TX NB : Int → Int) (sc tl cd pl cm h : Int) (hI : gInv M) : ZM l yX9_balanceNow wsX9_balanceNow ({ frames := 2, cells := 0, slots := 0, locals := 42 } : Room) D ct ad [.ref (b 0)] (moW b sc tl cd pl cm h ++ (jrW ct (b 1) 94 M ++ (jrW ct (b 2) 94 SP ++ (jrW ct (b 3) 376 SV ++ (irW ct (b 4) 150 TX ++ (irW ct (b 5) 2 NB)))))) (zD (some (.long (zJ (sp_bal M)))) (moW b sc tl cd pl cm h ++ (jrW ct (b 1) 94 M ++ (jrW ct (b 2) 94 SP ++ (jrW ct (b 3) 376 SV ++ (irW ct (b 4) 150 TX ++ (irW ct (b 5) 2 NB))))))) := by
  refine ZM.of (cc := cX9_balanceNow) (maxL := 4) (ret := (some .long)) (by decide +kernel) rfl (Nat.le_of_ble_eq_true rfl) ?_
  intro p e s m below meth c A ls hx hb hr hts hown hlocks hml hname hE hP hD hA hS hl
  have hK := hE.1
  have hl : lv_has ls 4 [(0, .ref (b 0))] := hl
  have i3 := hI.1
  have i4 := hI.2.1
  refine z_lconst (z := 0) hx hb dX9_balanceNow_0 rfl ?_
  refine lv_lstore_n (lv' := [(1, .long (zJ 0)), (0, .ref (b 0))]) hx hb dX9_balanceNow_1 rfl hl (by decide) rfl (fun ls hl => ?_)
  refine z_iconst hx hb dX9_balanceNow_2 ?_
  refine lv_istore_n (lv' := [(3, .int (zI 0)), (1, .long (zJ 0)), (0, .ref (b 0))]) hx hb dX9_balanceNow_3 rfl hl (by decide) rfl (fun ls hl => ?_)
  refine z_loop (σ := Int × Int) (fun q9 => (M 4 - q9.1).toNat) (fun q9 => (0 ≤ q9.1 ∧ q9.1 ≤ M 4) ∧ (q9.2 = sp_balN M q9.1.toNat)) (fun q9 => moW b sc tl cd pl cm h ++ (jrW ct (b 1) 94 M ++ (jrW ct (b 2) 94 SP ++ (jrW ct (b 3) 376 SV ++ (irW ct (b 4) 150 TX ++ (irW ct (b 5) 2 NB)))))) (fun q9 => [(0, .ref (b 0)), (1, .long (zJ q9.2)), (3, .int (zI q9.1))]) (fun q9 => []) (0, 0) ⟨(show 0 ≤ 0 ∧ 0 ≤ M 4 from (by omega)), (show 0 = sp_balN M (0 : Int).toNat from (by rfl))⟩ hP hD hS (lv_sub hl [2, 1, 0] rfl) rfl ?_
  rintro ⟨i, s_⟩ hI_4 ih_4 H locs ls hP hD hS hl
  obtain ⟨hi, hs⟩ := hI_4
  have hi : 0 ≤ i ∧ i ≤ M 4 := hi
  have hs : s_ = sp_balN M i.toNat := hs
  have hP : va_P D vwCl (moW b sc tl cd pl cm h ++ (jrW ct (b 1) 94 M ++ (jrW ct (b 2) 94 SP ++ (jrW ct (b 3) 376 SV ++ (irW ct (b 4) 150 TX ++ (irW ct (b 5) 2 NB)))))) H := hP
  have hD : va_D A (moW b sc tl cd pl cm h ++ (jrW ct (b 1) 94 M ++ (jrW ct (b 2) 94 SP ++ (jrW ct (b 3) 376 SV ++ (irW ct (b 4) 150 TX ++ (irW ct (b 5) 2 NB)))))) := hD
  have hl : lv_has ls 4 [(0, .ref (b 0)), (1, .long (zJ s_)), (3, .int (zI i))] := hl
  refine lv_iload_n hx hb dX9_balanceNow_4 rfl (lv_at hl 2 rfl) ?_
  refine lv_aload_n hx hb dX9_balanceNow_5 rfl (lv_at hl 0 rfl) ?_
  refine z_iconst hx hb dX9_balanceNow_6 ?_
  refine z_callV (C := RX9) (q0 := 0) (ci := 7) (As := [.int (zI 4)]) (rest := [.int (zI i)]) ([] : va_W) ([] : va_W) hx hb hml hown hts hl hE hS hA (zr0 ([] : va_W) hP) (zr0D ([] : va_W) hD) (c_X9_of l D ct ad b M SP SV TX NB sc tl cd pl cm h 4 (by omega)) gX9_balanceNow_X9_of rfl rfl k_X9_of ⟨Nat.le_of_ble_eq_true rfl, Nat.le_of_ble_eq_true rfl⟩ rfl rfl rfl rfl (Nat.le_of_ble_eq_true rfl) ⟨Nat.le_of_ble_eq_true rfl, Nat.le_of_ble_eq_true rfl⟩ dX9_balanceNow_7 rfl (fun v w1 H locs hpost hP hD hS => ?_)
  obtain ⟨rfl, rfl⟩ := hpost
  have hP := zr0' hP
  have hD := zr0D' hD
  have hP : va_P D vwCl (moW b sc tl cd pl cm h ++ (jrW ct (b 1) 94 M ++ (jrW ct (b 2) 94 SP ++ (jrW ct (b 3) 376 SV ++ (irW ct (b 4) 150 TX ++ (irW ct (b 5) 2 NB)))))) H := hP
  have hD : va_D A (moW b sc tl cd pl cm h ++ (jrW ct (b 1) 94 M ++ (jrW ct (b 2) 94 SP ++ (jrW ct (b 3) 376 SV ++ (irW ct (b 4) 150 TX ++ (irW ct (b 5) 2 NB)))))) := hD
  refine W.eq (g2 := F0 m 10 ls [.int (zI (M 4)), .int (zI i)]) rfl ?_
  refine z_icmp_ge (tgt := 27) hx hb dX9_balanceNow_10 (by decide) (by omega) (by omega) (fun hc_10 => ?_) (fun hc_10 => ?_)
  · have hc_10 := hc_10
    refine lv_lload_n hx hb dX9_balanceNow_27 rfl (lv_at hl 1 rfl) ?_
    exact z_lret hx hb hr hlocks hP hD hS ⟨Nat.le_of_ble_eq_true rfl, Nat.le_of_ble_eq_true rfl⟩ dX9_balanceNow_28 (⟨congrArg (fun z => some (Value.long (zJ z))) (by rw [hs, show i = M 4 by omega]; rfl), rfl⟩)
  · have hc_10 := hc_10
    refine lv_lload_n hx hb dX9_balanceNow_13 rfl (lv_at hl 1 rfl) ?_
    refine lv_aload_n hx hb dX9_balanceNow_14 rfl (lv_at hl 0 rfl) ?_
    refine lv_iload_n hx hb dX9_balanceNow_15 rfl (lv_at hl 2 rfl) ?_
    refine z_callV (C := RX9) (q0 := 0) (ci := 7) (As := [.int (zI i)]) (rest := [.long (zJ s_)]) ([] : va_W) ([] : va_W) hx hb hml hown hts hl hE hS hA (zr0 ([] : va_W) hP) (zr0D ([] : va_W) hD) (c_X9_weight l D ct ad b M SP SV TX NB sc tl cd pl cm h i (by assumption) (by omega)) gX9_balanceNow_X9_weight rfl rfl k_X9_weight ⟨Nat.le_of_ble_eq_true rfl, Nat.le_of_ble_eq_true rfl⟩ rfl rfl rfl rfl (Nat.le_of_ble_eq_true rfl) ⟨Nat.le_of_ble_eq_true rfl, Nat.le_of_ble_eq_true rfl⟩ dX9_balanceNow_16 rfl (fun v w1 H locs hpost hP hD hS => ?_)
    obtain ⟨rfl, rfl⟩ := hpost
    have hP := zr0' hP
    have hD := zr0D' hD
    have hP : va_P D vwCl (moW b sc tl cd pl cm h ++ (jrW ct (b 1) 94 M ++ (jrW ct (b 2) 94 SP ++ (jrW ct (b 3) 376 SV ++ (irW ct (b 4) 150 TX ++ (irW ct (b 5) 2 NB)))))) H := hP
    have hD : va_D A (moW b sc tl cd pl cm h ++ (jrW ct (b 1) 94 M ++ (jrW ct (b 2) 94 SP ++ (jrW ct (b 3) 376 SV ++ (irW ct (b 4) 150 TX ++ (irW ct (b 5) 2 NB)))))) := hD
    refine W.eq (g2 := F0 m 19 ls [.long (zJ (sp_bal1 M i)), .long (zJ s_)]) rfl ?_
    refine z_ladd hx hb dX9_balanceNow_19 ?_
    refine lv_lstore_n (lv' := [(1, .long (zJ (s_ + (sp_bal1 M i)))), (0, .ref (b 0)), (3, .int (zI i))]) hx hb dX9_balanceNow_20 rfl hl (by decide) rfl (fun ls hl => ?_)
    refine z_iinc (k := 2) (lv' := [(3, .int (zI (i + 1))), (1, .long (zJ (s_ + (sp_bal1 M i)))), (0, .ref (b 0))]) hx hb dX9_balanceNow_21 hl rfl (by decide) rfl (fun ls hl => ?_)
    refine lv_goto (tgt := 4) hx hb dX9_balanceNow_24 (by decide) ?_
    exact ih_4 (i + 1, s_ + (sp_bal1 M i)) ⟨(show 0 ≤ (i + 1) ∧ (i + 1) ≤ M 4 from (by omega)), (show (s_ + (sp_bal1 M i)) = sp_balN M (i + 1).toNat from (by rw [sp_balS hi.1, ← hs]))⟩ (show (M 4 - (i + 1)).toNat < (M 4 - i).toNat from (by omega)) _ _ _ hP hD hS (lv_sub hl [2, 1, 0] rfl)
theorem k_X9_size : yX9_size.cls ≠ "java/lang/invoke/MethodHandle" ∧ yX9_size.cls ≠ "java/lang/invoke/VarHandle" ∧ (parseMethodDescriptor yX9_size.desc).map (fun d => d.parameters.length) = some 1 := by decide +kernel
set_option maxHeartbeats 4000000 in
set_option maxRecDepth 100000 in
theorem c_X9_bestNutNow (l : Launch) (D : va_G) (ct ad : Nat → Nat) (b : Nat → Nat) (M SP SV TX NB : Int → Int) (sc tl cd pl cm h : Int) (hI : gInv M) (hB : bInv M) : ZM l yX9_bestNutNow wsX9_bestNutNow ({ frames := 3, cells := 0, slots := 0, locals := 71 } : Room) D ct ad [.ref (b 0)] (moW b sc tl cd pl cm h ++ (jrW ct (b 1) 94 M ++ (jrW ct (b 2) 94 SP ++ (jrW ct (b 3) 376 SV ++ (irW ct (b 4) 150 TX ++ (irW ct (b 5) 2 NB)))))) (zD (some (.int (zI (sp_best M)))) (moW b sc tl cd pl cm h ++ (jrW ct (b 1) 94 M ++ (jrW ct (b 2) 94 SP ++ (jrW ct (b 3) 376 SV ++ (irW ct (b 4) 150 TX ++ (irW ct (b 5) 2 NB))))))) := by
  refine ZM.of (cc := cX9_bestNutNow) (maxL := 5) (ret := (some .int)) (by decide +kernel) rfl (Nat.le_of_ble_eq_true rfl) ?_
  intro p e s m below meth c A ls hx hb hr hts hown hlocks hml hname hE hP hD hA hS hl
  have hK := hE.1
  have hf_0 := hts (.fieldLink RX9 7 "RodGridsModel" "m" "[J") (by decide +kernel)
  have hf_1 := hts (.constantLong RX9 135 (10)) (by decide +kernel)
  have hin_X9 : ∀ z ∈ u_ws RX9 TX9 11, z ∈ wsX9_bestNutNow := by decide +kernel
  have hl : lv_has ls 5 [(0, .ref (b 0))] := hl
  have i3 := hI.1
  have i4 := hI.2.1
  have j0 := hB.1
  have j1 := hB.2.1
  have j2 := hB.2.2.1
  have j4 := hB.2.2.2.2
  have ql := sp_lenB hI hB j1.2.1
  refine lv_aload_n hx hb dX9_bestNutNow_0 rfl (lv_at hl 0 rfl) ?_
  refine lv_aload_n hx hb dX9_bestNutNow_1 rfl (lv_at hl 0 rfl) ?_
  refine va_get (D := D) (ci := 7) (v := .ref (b 1)) (C := RX9) (T := TX9) (N := 11) hx hb hts hin_X9 hown hK hP 0 rfl rfl 0 (by decide) hf_0 (fun _ h9 => h9) rfl dX9_bestNutNow_2 ?_
  refine z_bipush hx hb dX9_bestNutNow_5 (by decide) ?_
  refine z_lald (g := M) (v := M 6) hx hb hK hP 1 rfl (by decide) (by omega) rfl dX9_bestNutNow_7 ?_
  refine z_callV (C := RX9) (q0 := 0) (ci := 7) (As := [.long (zJ (M 6))]) (rest := []) ([] : va_W) ([] : va_W) hx hb hml hown hts hl hE hS hA (zr0 ([] : va_W) hP) (zr0D ([] : va_W) hD) (c_X9_rodsAt l D ct ad b M SP SV TX NB sc tl cd pl cm h (M 6) (by assumption) (by omega)) gX9_bestNutNow_X9_rodsAt rfl rfl k_X9_rodsAt ⟨Nat.le_of_ble_eq_true rfl, Nat.le_of_ble_eq_true rfl⟩ rfl rfl rfl rfl (Nat.le_of_ble_eq_true rfl) ⟨Nat.le_of_ble_eq_true rfl, Nat.le_of_ble_eq_true rfl⟩ dX9_bestNutNow_8 rfl (fun v w1 H locs hpost hP hD hS => ?_)
  obtain ⟨rfl, rfl⟩ := hpost
  have hP := zr0' hP
  have hD := zr0D' hD
  have hP : va_P D vwCl (moW b sc tl cd pl cm h ++ (jrW ct (b 1) 94 M ++ (jrW ct (b 2) 94 SP ++ (jrW ct (b 3) 376 SV ++ (irW ct (b 4) 150 TX ++ (irW ct (b 5) 2 NB)))))) H := hP
  have hD : va_D A (moW b sc tl cd pl cm h ++ (jrW ct (b 1) 94 M ++ (jrW ct (b 2) 94 SP ++ (jrW ct (b 3) 376 SV ++ (irW ct (b 4) 150 TX ++ (irW ct (b 5) 2 NB)))))) := hD
  refine W.eq (g2 := F0 m 11 ls [.long (zJ (sp_rods M (M 6)))]) rfl ?_
  refine lv_lstore_n (lv' := [(1, .long (zJ (sp_rods M (M 6)))), (0, .ref (b 0))]) hx hb dX9_bestNutNow_11 rfl hl (by decide) rfl (fun ls hl => ?_)
  refine z_sipush hx hb dX9_bestNutNow_12 (by decide) ?_
  refine lv_istore_n (lv' := [(3, .int (zI (-500))), (1, .long (zJ (sp_rods M (M 6)))), (0, .ref (b 0))]) hx hb dX9_bestNutNow_15 rfl hl (by decide) rfl (fun ls hl => ?_)
  refine z_sipush hx hb dX9_bestNutNow_16 (by decide) ?_
  refine lv_istore (lv' := [(4, .int (zI (-500))), (3, .int (zI (-500))), (1, .long (zJ (sp_rods M (M 6)))), (0, .ref (b 0))]) hx hb dX9_bestNutNow_19 hl (by decide) rfl (fun ls hl => ?_)
  refine z_loop (σ := Int × Int) (fun q9 => (501 - q9.1).toNat) (fun q9 => (-500 ≤ q9.1 ∧ q9.1 ≤ 501) ∧ (q9.2 = sp_bestN (sp_nr M (sp_rods M (M 6))) (q9.1 + 500).toNat)) (fun q9 => moW b sc tl cd pl cm h ++ (jrW ct (b 1) 94 M ++ (jrW ct (b 2) 94 SP ++ (jrW ct (b 3) 376 SV ++ (irW ct (b 4) 150 TX ++ (irW ct (b 5) 2 NB)))))) (fun q9 => [(0, .ref (b 0)), (1, .long (zJ (sp_rods M (M 6)))), (3, .int (zI q9.2)), (4, .int (zI q9.1))]) (fun q9 => []) ((-500), (-500)) ⟨(show -500 ≤ (-500) ∧ (-500) ≤ 501 from (by omega)), (show (-500) = sp_bestN (sp_nr M (sp_rods M (M 6))) ((-500) + 500).toNat from (by rfl))⟩ hP hD hS (lv_sub hl [3, 2, 1, 0] rfl) rfl ?_
  rintro ⟨i, n_⟩ hI_21 ih_21 H locs ls hP hD hS hl
  obtain ⟨hi, hn⟩ := hI_21
  have hi : -500 ≤ i ∧ i ≤ 501 := hi
  have hn : n_ = sp_bestN (sp_nr M (sp_rods M (M 6))) (i + 500).toNat := hn
  have hP : va_P D vwCl (moW b sc tl cd pl cm h ++ (jrW ct (b 1) 94 M ++ (jrW ct (b 2) 94 SP ++ (jrW ct (b 3) 376 SV ++ (irW ct (b 4) 150 TX ++ (irW ct (b 5) 2 NB)))))) H := hP
  have hD : va_D A (moW b sc tl cd pl cm h ++ (jrW ct (b 1) 94 M ++ (jrW ct (b 2) 94 SP ++ (jrW ct (b 3) 376 SV ++ (irW ct (b 4) 150 TX ++ (irW ct (b 5) 2 NB)))))) := hD
  have hl : lv_has ls 5 [(0, .ref (b 0)), (1, .long (zJ (sp_rods M (M 6)))), (3, .int (zI n_)), (4, .int (zI i))] := hl
  have nB := (sp_bestI (sp_nr M (sp_rods M (M 6))) (i + 500).toNat (by omega)).1
  rw [← hn] at nB
  refine lv_iload hx hb dX9_bestNutNow_21 (lv_at hl 3 rfl) ?_
  refine z_sipush hx hb dX9_bestNutNow_23 (by decide) ?_
  refine z_icmp_gt (tgt := 77) hx hb dX9_bestNutNow_26 (by decide) (by omega) (by omega) (fun hc_26 => ?_) (fun hc_26 => ?_)
  · have hc_26 := hc_26
    refine lv_iload_n hx hb dX9_bestNutNow_77 rfl (lv_at hl 2 rfl) ?_
    exact z_iret hx hb hr hlocks hP hD hS ⟨Nat.le_of_ble_eq_true rfl, Nat.le_of_ble_eq_true rfl⟩ dX9_bestNutNow_78 (⟨congrArg (fun z => some (Value.int (zI z))) (by rw [hn, show i = 501 by omega]; rfl), rfl⟩)
  · have hc_26 := hc_26
    refine lv_aload_n hx hb dX9_bestNutNow_29 rfl (lv_at hl 0 rfl) ?_
    refine lv_lload_n hx hb dX9_bestNutNow_30 rfl (lv_at hl 1 rfl) ?_
    refine z_ldc2 hx hb 10 hown hf_1 (by decide) dX9_bestNutNow_31 ?_
    refine lv_iload hx hb dX9_bestNutNow_34 (lv_at hl 3 rfl) ?_
    refine z_i2l hx hb dX9_bestNutNow_36 (by omega) ?_
    refine z_lmul hx hb dX9_bestNutNow_37 ?_
    refine z_ladd hx hb dX9_bestNutNow_38 ?_
    have rB := sp_rateB (len := sp_rods M (M 6) + 10 * i) hB j1.2.2.2
    refine z_callV (C := RX9) (q0 := 0) (ci := 7) (As := [.long (zJ ((sp_rods M (M 6)) + (10 * i)))]) (rest := []) ([] : va_W) ([] : va_W) hx hb hml hown hts hl hE hS hA (zr0 ([] : va_W) hP) (zr0D ([] : va_W) hD) (c_X9_rateBy l D ct ad b M SP SV TX NB sc tl cd pl cm h ((sp_rods M (M 6)) + (10 * i)) (by assumption) (by assumption) (by omega)) gX9_bestNutNow_X9_rateBy rfl rfl k_X9_rateBy ⟨Nat.le_of_ble_eq_true rfl, Nat.le_of_ble_eq_true rfl⟩ rfl rfl rfl rfl (Nat.le_of_ble_eq_true rfl) ⟨Nat.le_of_ble_eq_true rfl, Nat.le_of_ble_eq_true rfl⟩ dX9_bestNutNow_39 rfl (fun v w1 H locs hpost hP hD hS => ?_)
    obtain ⟨rfl, rfl⟩ := hpost
    have hP := zr0' hP
    have hD := zr0D' hD
    have hP : va_P D vwCl (moW b sc tl cd pl cm h ++ (jrW ct (b 1) 94 M ++ (jrW ct (b 2) 94 SP ++ (jrW ct (b 3) 376 SV ++ (irW ct (b 4) 150 TX ++ (irW ct (b 5) 2 NB)))))) H := hP
    have hD : va_D A (moW b sc tl cd pl cm h ++ (jrW ct (b 1) 94 M ++ (jrW ct (b 2) 94 SP ++ (jrW ct (b 3) 376 SV ++ (irW ct (b 4) 150 TX ++ (irW ct (b 5) 2 NB)))))) := hD
    refine W.eq (g2 := F0 m 42 ls [.long (zJ (sp_rate M ((sp_rods M (M 6)) + (10 * i)) (M 8)))]) rfl ?_
    refine z_callS (As := [.long (zJ (sp_rate M ((sp_rods M (M 6)) + (10 * i)) (M 8)))]) (rest := []) ([] : va_W) (moW b sc tl cd pl cm h ++ (jrW ct (b 1) 94 M ++ (jrW ct (b 2) 94 SP ++ (jrW ct (b 3) 376 SV ++ (irW ct (b 4) 150 TX ++ (irW ct (b 5) 2 NB)))))) hx hb hml hown hts hl hE hS hA hP hD (c_X9_size l D ct ad (sp_rate M ((sp_rods M (M 6)) + (10 * i)) (M 8)) (by omega)) gX9_bestNutNow_X9_size rfl k_X9_size ⟨Nat.le_of_ble_eq_true rfl, Nat.le_of_ble_eq_true rfl⟩ rfl (Nat.le_of_ble_eq_true rfl) ⟨Nat.le_of_ble_eq_true rfl, Nat.le_of_ble_eq_true rfl⟩ dX9_bestNutNow_42 rfl (fun v w1 H locs hpost hP hD hS => ?_)
    obtain ⟨rfl, rfl⟩ := hpost
    have hP : va_P D vwCl (moW b sc tl cd pl cm h ++ (jrW ct (b 1) 94 M ++ (jrW ct (b 2) 94 SP ++ (jrW ct (b 3) 376 SV ++ (irW ct (b 4) 150 TX ++ (irW ct (b 5) 2 NB)))))) H := hP
    have hD : va_D A (moW b sc tl cd pl cm h ++ (jrW ct (b 1) 94 M ++ (jrW ct (b 2) 94 SP ++ (jrW ct (b 3) 376 SV ++ (irW ct (b 4) 150 TX ++ (irW ct (b 5) 2 NB)))))) := hD
    refine W.eq (g2 := F0 m 45 ls [.long (zJ (sp_abs (sp_rate M ((sp_rods M (M 6)) + (10 * i)) (M 8))))]) rfl ?_
    refine lv_aload_n hx hb dX9_bestNutNow_45 rfl (lv_at hl 0 rfl) ?_
    refine lv_lload_n hx hb dX9_bestNutNow_46 rfl (lv_at hl 1 rfl) ?_
    refine z_ldc2 hx hb 10 hown hf_1 (by decide) dX9_bestNutNow_47 ?_
    refine lv_iload_n hx hb dX9_bestNutNow_50 rfl (lv_at hl 2 rfl) ?_
    refine z_i2l hx hb dX9_bestNutNow_51 (by omega) ?_
    refine z_lmul hx hb dX9_bestNutNow_52 ?_
    refine z_ladd hx hb dX9_bestNutNow_53 ?_
    have rB2 := sp_rateB (len := sp_rods M (M 6) + 10 * n_) hB j1.2.2.2
    refine z_callV (C := RX9) (q0 := 0) (ci := 7) (As := [.long (zJ ((sp_rods M (M 6)) + (10 * n_)))]) (rest := [.long (zJ (sp_abs (sp_rate M ((sp_rods M (M 6)) + (10 * i)) (M 8))))]) ([] : va_W) ([] : va_W) hx hb hml hown hts hl hE hS hA (zr0 ([] : va_W) hP) (zr0D ([] : va_W) hD) (c_X9_rateBy l D ct ad b M SP SV TX NB sc tl cd pl cm h ((sp_rods M (M 6)) + (10 * n_)) (by assumption) (by assumption) (by omega)) gX9_bestNutNow_X9_rateBy rfl rfl k_X9_rateBy ⟨Nat.le_of_ble_eq_true rfl, Nat.le_of_ble_eq_true rfl⟩ rfl rfl rfl rfl (Nat.le_of_ble_eq_true rfl) ⟨Nat.le_of_ble_eq_true rfl, Nat.le_of_ble_eq_true rfl⟩ dX9_bestNutNow_54 rfl (fun v w1 H locs hpost hP hD hS => ?_)
    obtain ⟨rfl, rfl⟩ := hpost
    have hP := zr0' hP
    have hD := zr0D' hD
    have hP : va_P D vwCl (moW b sc tl cd pl cm h ++ (jrW ct (b 1) 94 M ++ (jrW ct (b 2) 94 SP ++ (jrW ct (b 3) 376 SV ++ (irW ct (b 4) 150 TX ++ (irW ct (b 5) 2 NB)))))) H := hP
    have hD : va_D A (moW b sc tl cd pl cm h ++ (jrW ct (b 1) 94 M ++ (jrW ct (b 2) 94 SP ++ (jrW ct (b 3) 376 SV ++ (irW ct (b 4) 150 TX ++ (irW ct (b 5) 2 NB)))))) := hD
    refine W.eq (g2 := F0 m 57 ls [.long (zJ (sp_rate M ((sp_rods M (M 6)) + (10 * n_)) (M 8))), .long (zJ (sp_abs (sp_rate M ((sp_rods M (M 6)) + (10 * i)) (M 8))))]) rfl ?_
    have aa : sp_abs (sp_rate M (sp_rods M (M 6) + 10 * i) (M 8)) = sp_abs (sp_nr M (sp_rods M (M 6)) i) := rfl
    refine z_callS (As := [.long (zJ (sp_rate M ((sp_rods M (M 6)) + (10 * n_)) (M 8)))]) (rest := [.long (zJ (sp_abs (sp_rate M ((sp_rods M (M 6)) + (10 * i)) (M 8))))]) ([] : va_W) (moW b sc tl cd pl cm h ++ (jrW ct (b 1) 94 M ++ (jrW ct (b 2) 94 SP ++ (jrW ct (b 3) 376 SV ++ (irW ct (b 4) 150 TX ++ (irW ct (b 5) 2 NB)))))) hx hb hml hown hts hl hE hS hA hP hD (c_X9_size l D ct ad (sp_rate M ((sp_rods M (M 6)) + (10 * n_)) (M 8)) (by omega)) gX9_bestNutNow_X9_size rfl k_X9_size ⟨Nat.le_of_ble_eq_true rfl, Nat.le_of_ble_eq_true rfl⟩ rfl (Nat.le_of_ble_eq_true rfl) ⟨Nat.le_of_ble_eq_true rfl, Nat.le_of_ble_eq_true rfl⟩ dX9_bestNutNow_57 rfl (fun v w1 H locs hpost hP hD hS => ?_)
    obtain ⟨rfl, rfl⟩ := hpost
    have hP : va_P D vwCl (moW b sc tl cd pl cm h ++ (jrW ct (b 1) 94 M ++ (jrW ct (b 2) 94 SP ++ (jrW ct (b 3) 376 SV ++ (irW ct (b 4) 150 TX ++ (irW ct (b 5) 2 NB)))))) H := hP
    have hD : va_D A (moW b sc tl cd pl cm h ++ (jrW ct (b 1) 94 M ++ (jrW ct (b 2) 94 SP ++ (jrW ct (b 3) 376 SV ++ (irW ct (b 4) 150 TX ++ (irW ct (b 5) 2 NB)))))) := hD
    refine W.eq (g2 := F0 m 60 ls [.long (zJ (sp_abs (sp_rate M ((sp_rods M (M 6)) + (10 * n_)) (M 8)))), .long (zJ (sp_abs (sp_rate M ((sp_rods M (M 6)) + (10 * i)) (M 8))))]) rfl ?_
    refine z_lcmp_ge (tgt := 69) hx hb dX9_bestNutNow_60 dX9_bestNutNow_61 (by decide) (by unfold sp_abs; omega) (by unfold sp_abs; omega) (fun hc_60 => ?_) (fun hc_60 => ?_)
    · have hc_60 := hc_60
      refine lv_iload_n hx hb dX9_bestNutNow_69 rfl (lv_at hl 2 rfl) ?_
      refine lv_istore_n (lv' := [(3, .int (zI n_)), (0, .ref (b 0)), (1, .long (zJ (sp_rods M (M 6)))), (4, .int (zI i))]) hx hb dX9_bestNutNow_70 rfl hl (by decide) rfl (fun ls hl => ?_)
      refine z_iinc (k := 3) (lv' := [(4, .int (zI (i + 1))), (3, .int (zI n_)), (0, .ref (b 0)), (1, .long (zJ (sp_rods M (M 6))))]) hx hb dX9_bestNutNow_71 hl rfl (by decide) rfl (fun ls hl => ?_)
      refine lv_goto (tgt := 21) hx hb dX9_bestNutNow_74 (by decide) ?_
      exact ih_21 (i + 1, n_) ⟨(show -500 ≤ (i + 1) ∧ (i + 1) ≤ 501 from (by omega)), (show n_ = sp_bestN (sp_nr M (sp_rods M (M 6))) ((i + 1) + 500).toNat from (by rw [sp_bestS hi.1, ← hn]; first | exact (if_pos (by unfold sp_nr; omega)).symm | exact (if_neg (by unfold sp_nr; omega)).symm))⟩ (show (501 - (i + 1)).toNat < (501 - i).toNat from (by omega)) _ _ _ hP hD hS (lv_sub hl [2, 3, 1, 0] rfl)
    · have hc_60 := hc_60
      refine lv_iload hx hb dX9_bestNutNow_64 (lv_at hl 3 rfl) ?_
      refine lv_goto (tgt := 70) hx hb dX9_bestNutNow_66 (by decide) ?_
      refine lv_istore_n (lv' := [(3, .int (zI i)), (0, .ref (b 0)), (1, .long (zJ (sp_rods M (M 6)))), (4, .int (zI i))]) hx hb dX9_bestNutNow_70 rfl hl (by decide) rfl (fun ls hl => ?_)
      refine z_iinc (k := 3) (lv' := [(4, .int (zI (i + 1))), (3, .int (zI i)), (0, .ref (b 0)), (1, .long (zJ (sp_rods M (M 6))))]) hx hb dX9_bestNutNow_71 hl rfl (by decide) rfl (fun ls hl => ?_)
      refine lv_goto (tgt := 21) hx hb dX9_bestNutNow_74 (by decide) ?_
      exact ih_21 (i + 1, i) ⟨(show -500 ≤ (i + 1) ∧ (i + 1) ≤ 501 from (by omega)), (show i = sp_bestN (sp_nr M (sp_rods M (M 6))) ((i + 1) + 500).toNat from (by rw [sp_bestS hi.1, ← hn]; first | exact (if_pos (by unfold sp_nr; omega)).symm | exact (if_neg (by unfold sp_nr; omega)).symm))⟩ (show (501 - (i + 1)).toNat < (501 - i).toNat from (by omega)) _ _ _ hP hD hS (lv_sub hl [2, 3, 1, 0] rfl)
