set_option maxHeartbeats 4000000 in
set_option maxRecDepth 100000 in
theorem c_X9_here (l : Launch) (D : va_G) (ct ad : Nat → Nat) (b : Nat → Nat) (M SP SV TX NB : Int → Int) (sc tl cd pl cm h : Int) (ht : tInv TX tl) (hp : 0 ≤ pl ∧ pl ≤ tl) : ZM l yX9_here wsX9_here ({ frames := 0, cells := 0, slots := 0, locals := 0 } : Room) D ct ad [.ref (b 0)] (moW b sc tl cd pl cm h ++ (jrW ct (b 1) 94 M ++ (jrW ct (b 2) 94 SP ++ (jrW ct (b 3) 376 SV ++ (irW ct (b 4) 150 TX ++ (irW ct (b 5) 2 NB)))))) (zD (some (.int (zI (hrf TX tl pl)))) (moW b sc tl cd pl cm h ++ (jrW ct (b 1) 94 M ++ (jrW ct (b 2) 94 SP ++ (jrW ct (b 3) 376 SV ++ (irW ct (b 4) 150 TX ++ (irW ct (b 5) 2 NB))))))) := by
  refine ZM.of (cc := cX9_here) (maxL := 1) (ret := (some .int)) (by decide +kernel) rfl (Nat.le_of_ble_eq_true rfl) ?_
  intro p e s m below meth c A ls hx hb hr hts hown hlocks hml hname hE hP hD hA hS hl
  have hK := hE.1
  have hf_0 := hts (.fieldLink RX9 230 "RodGridsModel" "place" "I") (by decide +kernel)
  have hf_1 := hts (.fieldLink RX9 197 "RodGridsModel" "textLength" "I") (by decide +kernel)
  have hf_2 := hts (.constant RX9 233 (-2000000000)) (by decide +kernel)
  have hf_3 := hts (.fieldLink RX9 19 "RodGridsModel" "text" "[I") (by decide +kernel)
  have hin_X9 : ∀ z ∈ u_ws RX9 TX9 11, z ∈ wsX9_here := by decide +kernel
  have hl : lv_has ls 1 [(0, .ref (b 0))] := hl
  have t1 := ht.1
  refine lv_aload_n hx hb dX9_here_0 rfl (lv_at hl 0 rfl) ?_
  refine va_get (D := D) (ci := 7) (v := .int (zI pl)) (C := RX9) (T := TX9) (N := 11) hx hb hts hin_X9 hown hK hP 0 rfl rfl 7 (by decide) hf_0 (fun _ h9 => h9) rfl dX9_here_1 ?_
  refine lv_aload_n hx hb dX9_here_4 rfl (lv_at hl 0 rfl) ?_
  refine va_get (D := D) (ci := 7) (v := .int (zI tl)) (C := RX9) (T := TX9) (N := 11) hx hb hts hin_X9 hown hK hP 0 rfl rfl 5 (by decide) hf_1 (fun _ h9 => h9) rfl dX9_here_5 ?_
  refine z_icmp_ge (tgt := 23) hx hb dX9_here_8 (by decide) (by omega) (by omega) (fun hc_8 => ?_) (fun hc_8 => ?_)
  · have hc_8 := hc_8
    refine z_ldc hx hb (-2000000000) hown hf_2 (by decide) dX9_here_23 ?_
    exact z_iret hx hb hr hlocks hP hD hS ⟨Nat.le_of_ble_eq_true rfl, Nat.le_of_ble_eq_true rfl⟩ dX9_here_25 (⟨congrArg (fun z => some (Value.int (zI z))) (by unfold hrf; first | rw [if_pos (by omega)] | rw [if_neg (by omega)]), rfl⟩)
  · have hc_8 := hc_8
    refine lv_aload_n hx hb dX9_here_11 rfl (lv_at hl 0 rfl) ?_
    refine va_get (D := D) (ci := 7) (v := .ref (b 4)) (C := RX9) (T := TX9) (N := 11) hx hb hts hin_X9 hown hK hP 0 rfl rfl 4 (by decide) hf_3 (fun _ h9 => h9) rfl dX9_here_12 ?_
    refine lv_aload_n hx hb dX9_here_15 rfl (lv_at hl 0 rfl) ?_
    refine va_get (D := D) (ci := 7) (v := .int (zI pl)) (C := RX9) (T := TX9) (N := 11) hx hb hts hin_X9 hown hK hP 0 rfl rfl 7 (by decide) hf_0 (fun _ h9 => h9) rfl dX9_here_16 ?_
    refine z_iald (g := TX) (v := TX pl) hx hb hK hP 4 rfl (by decide) (by omega) rfl dX9_here_19 ?_
    refine lv_goto (tgt := 25) hx hb dX9_here_20 (by decide) ?_
    exact z_iret hx hb hr hlocks hP hD hS ⟨Nat.le_of_ble_eq_true rfl, Nat.le_of_ble_eq_true rfl⟩ dX9_here_25 (⟨congrArg (fun z => some (Value.int (zI z))) (by unfold hrf; first | rw [if_pos (by omega)] | rw [if_neg (by omega)]), rfl⟩)
theorem k_X9_here : yX9_here.cls ≠ "java/lang/invoke/MethodHandle" ∧ yX9_here.cls ≠ "java/lang/invoke/VarHandle" ∧ (parseMethodDescriptor yX9_here.desc).map (fun d => d.parameters.length) = some 0 := by decide +kernel
set_option maxHeartbeats 4000000 in
set_option maxRecDepth 100000 in
theorem c_X9_skips (l : Launch) (D : va_G) (ct ad : Nat → Nat) (b : Nat → Nat) (M SP SV TX NB : Int → Int) (sc tl cd pl cm h : Int) (ht : tInv TX tl) (hp : 0 ≤ pl ∧ pl ≤ tl) : ZM l yX9_skips wsX9_skips ({ frames := 1, cells := 0, slots := 0, locals := 20 } : Room) D ct ad [.ref (b 0)] (moW b sc tl cd pl cm h ++ (jrW ct (b 1) 94 M ++ (jrW ct (b 2) 94 SP ++ (jrW ct (b 3) 376 SV ++ (irW ct (b 4) 150 TX ++ (irW ct (b 5) 2 NB)))))) (zD (some (.int (zI (zB (pl < sk TX tl pl))))) (moW b sc tl cd (sk TX tl pl) cm h ++ (jrW ct (b 1) 94 M ++ (jrW ct (b 2) 94 SP ++ (jrW ct (b 3) 376 SV ++ (irW ct (b 4) 150 TX ++ (irW ct (b 5) 2 NB))))))) := by
  refine ZM.of (cc := cX9_skips) (maxL := 2) (ret := (some .boolean)) (by decide +kernel) rfl (Nat.le_of_ble_eq_true rfl) ?_
  intro p e s m below meth c A ls hx hb hr hts hown hlocks hml hname hE hP hD hA hS hl
  have hK := hE.1
  have hf_0 := hts (.fieldLink RX9 230 "RodGridsModel" "place" "I") (by decide +kernel)
  have hin_X9 : ∀ z ∈ u_ws RX9 TX9 11, z ∈ wsX9_skips := by decide +kernel
  have hl : lv_has ls 2 [(0, .ref (b 0))] := hl
  have t1 := ht.1
  refine lv_aload_n hx hb dX9_skips_0 rfl (lv_at hl 0 rfl) ?_
  refine va_get (D := D) (ci := 7) (v := .int (zI pl)) (C := RX9) (T := TX9) (N := 11) hx hb hts hin_X9 hown hK hP 0 rfl rfl 7 (by decide) hf_0 (fun _ h9 => h9) rfl dX9_skips_1 ?_
  refine lv_istore_n (lv' := [(1, .int (zI pl)), (0, .ref (b 0))]) hx hb dX9_skips_4 rfl hl (by decide) rfl (fun ls hl => ?_)
  refine z_loop (σ := Int) (fun q9 => (tl - q9).toNat) (fun q9 => (pl ≤ q9 ∧ q9 ≤ tl) ∧ (sk TX tl q9 = sk TX tl pl)) (fun q9 => moW b sc tl cd q9 cm h ++ (jrW ct (b 1) 94 M ++ (jrW ct (b 2) 94 SP ++ (jrW ct (b 3) 376 SV ++ (irW ct (b 4) 150 TX ++ (irW ct (b 5) 2 NB)))))) (fun q9 => [(0, .ref (b 0)), (1, .int (zI pl))]) (fun q9 => []) (pl) ⟨(show pl ≤ pl ∧ pl ≤ tl from (by omega)), (show sk TX tl pl = sk TX tl pl from (by rfl))⟩ hP hD hS (lv_sub hl [1, 0] rfl) rfl ?_
  rintro i hI_5 ih_5 H locs ls hP hD hS hl
  obtain ⟨hi, hs⟩ := hI_5
  have hi : pl ≤ i ∧ i ≤ tl := hi
  have hs : sk TX tl i = sk TX tl pl := hs
  have hP : va_P D vwCl (moW b sc tl cd i cm h ++ (jrW ct (b 1) 94 M ++ (jrW ct (b 2) 94 SP ++ (jrW ct (b 3) 376 SV ++ (irW ct (b 4) 150 TX ++ (irW ct (b 5) 2 NB)))))) H := hP
  have hD : va_D A (moW b sc tl cd i cm h ++ (jrW ct (b 1) 94 M ++ (jrW ct (b 2) 94 SP ++ (jrW ct (b 3) 376 SV ++ (irW ct (b 4) 150 TX ++ (irW ct (b 5) 2 NB)))))) := hD
  have hl : lv_has ls 2 [(0, .ref (b 0)), (1, .int (zI pl))] := hl
  have tB := tcB ht (p := i) (by omega)
  refine lv_aload_n hx hb dX9_skips_5 rfl (lv_at hl 0 rfl) ?_
  refine z_callV (C := RX9) (q0 := 0) (ci := 7) (As := []) (rest := []) ([] : va_W) ([] : va_W) hx hb hml hown hts hl hE hS hA (zr0 ([] : va_W) hP) (zr0D ([] : va_W) hD) (c_X9_here l D ct ad b M SP SV TX NB sc tl cd i cm h (by assumption) (by omega)) gX9_skips_X9_here rfl rfl k_X9_here ⟨Nat.le_of_ble_eq_true rfl, Nat.le_of_ble_eq_true rfl⟩ rfl rfl rfl rfl (Nat.le_of_ble_eq_true rfl) ⟨Nat.le_of_ble_eq_true rfl, Nat.le_of_ble_eq_true rfl⟩ dX9_skips_6 rfl (fun v w1 H locs hpost hP hD hS => ?_)
  obtain ⟨rfl, rfl⟩ := hpost
  have hP := zr0' hP
  have hD := zr0D' hD
  have hP : va_P D vwCl (moW b sc tl cd i cm h ++ (jrW ct (b 1) 94 M ++ (jrW ct (b 2) 94 SP ++ (jrW ct (b 3) 376 SV ++ (irW ct (b 4) 150 TX ++ (irW ct (b 5) 2 NB)))))) H := hP
  have hD : va_D A (moW b sc tl cd i cm h ++ (jrW ct (b 1) 94 M ++ (jrW ct (b 2) 94 SP ++ (jrW ct (b 3) 376 SV ++ (irW ct (b 4) 150 TX ++ (irW ct (b 5) 2 NB)))))) := hD
  refine W.eq (g2 := F0 m 9 ls [.int (zI (hrf TX tl i))]) rfl ?_
  refine z_bipush hx hb dX9_skips_9 (by decide) ?_
  refine z_icmp_ne (tgt := 27) hx hb dX9_skips_11 (by decide) (by omega) (by omega) (fun hc_11 => ?_) (fun hc_11 => ?_)
  · have hc_11 := hc_11
    have eE : i = sk TX tl pl := by rw [← hs]; exact (sk_f (by omega)).symm
    refine lv_aload_n hx hb dX9_skips_27 rfl (lv_at hl 0 rfl) ?_
    refine va_get (D := D) (ci := 7) (v := .int (zI i)) (C := RX9) (T := TX9) (N := 11) hx hb hts hin_X9 hown hK hP 0 rfl rfl 7 (by decide) hf_0 (fun _ h9 => h9) rfl dX9_skips_28 ?_
    refine lv_iload_n hx hb dX9_skips_31 rfl (lv_at hl 1 rfl) ?_
    refine z_icmp_le (tgt := 39) hx hb dX9_skips_32 (by decide) (by omega) (by omega) (fun hc_32 => ?_) (fun hc_32 => ?_)
    · have hc_32 := hc_32
      refine z_iconst hx hb dX9_skips_39 ?_
      exact z_zret hx hb hr (by first | rfl | exact zB_nar) hlocks hP hD hS ⟨Nat.le_of_ble_eq_true rfl, Nat.le_of_ble_eq_true rfl⟩ dX9_skips_40 (⟨congrArg (fun z => some (Value.int (zI z))) (by first | exact (zB_t (by omega)).symm | exact (zB_f (by omega)).symm | exact zB_c (by omega)), by rw [eE]⟩)
    · have hc_32 := hc_32
      refine z_iconst hx hb dX9_skips_35 ?_
      refine lv_goto (tgt := 40) hx hb dX9_skips_36 (by decide) ?_
      exact z_zret hx hb hr (by first | rfl | exact zB_nar) hlocks hP hD hS ⟨Nat.le_of_ble_eq_true rfl, Nat.le_of_ble_eq_true rfl⟩ dX9_skips_40 (⟨congrArg (fun z => some (Value.int (zI z))) (by first | exact (zB_t (by omega)).symm | exact (zB_f (by omega)).symm | exact zB_c (by omega)), by rw [eE]⟩)
  · have hc_11 := hc_11
    refine lv_aload_n hx hb dX9_skips_14 rfl (lv_at hl 0 rfl) ?_
    refine lv_dup hx hb dX9_skips_15 rfl ?_
    refine va_get (D := D) (ci := 7) (v := .int (zI i)) (C := RX9) (T := TX9) (N := 11) hx hb hts hin_X9 hown hK hP 0 rfl rfl 7 (by decide) hf_0 (fun _ h9 => h9) rfl dX9_skips_16 ?_
    refine z_iconst hx hb dX9_skips_19 ?_
    refine z_iadd hx hb dX9_skips_20 ?_
    refine z_put (ct := ct) (ad := ad) (ci := 7) (v := .int (zI (i + 1))) (ty := tyX9 7) (C := RX9) (T := TX9) (N := 11) (w2 := moW b sc tl cd (i + 1) cm h ++ (jrW ct (b 1) 94 M ++ (jrW ct (b 2) 94 SP ++ (jrW ct (b 3) 376 SV ++ (irW ct (b 4) 150 TX ++ (irW ct (b 5) 2 NB)))))) hx hb hts hin_X9 tyX9 tyX9_ok nmX9 hown hE hP hD hS 0 rfl rfl 7 (by decide) hf_0 (fun _ h9 => h9) rfl (by decide +kernel) rfl rfl (Nat.le_of_ble_eq_true rfl) dX9_skips_21 (rfl) (fun H locs hP hD hS => ?_)
    refine lv_goto (tgt := 5) hx hb dX9_skips_24 (by decide) ?_
    exact ih_5 (i + 1) ⟨(show pl ≤ (i + 1) ∧ (i + 1) ≤ tl from (by omega)), (show sk TX tl (i + 1) = sk TX tl pl from (by rw [← hs]; exact sk_t (by omega)))⟩ (show (tl - (i + 1)).toNat < (tl - i).toNat from (by omega)) _ _ _ hP hD hS (lv_sub hl [0, 1] rfl)
set_option maxHeartbeats 4000000 in
set_option maxRecDepth 100000 in
theorem c_X9_commandOf (l : Launch) (D : va_G) (ct ad : Nat → Nat) (v : Int) (h1 : -9223372036854775808 ≤ v ∧ v ≤ 9223372036854775807) : ZM l yX9_commandOf wsX9_commandOf ({ frames := 0, cells := 0, slots := 0, locals := 0 } : Room) D ct ad [.long (zJ v)] ([]) (zD (some (.int (zI (cmo v)))) ([])) := by
  refine ZM.of (cc := cX9_commandOf) (maxL := 2) (ret := (some .int)) (by decide +kernel) rfl (Nat.le_of_ble_eq_true rfl) ?_
  intro p e s m below meth c A ls hx hb hr hts hown hlocks hml hname hE hP hD hA hS hl
  have hK := hE.1
  have hf_0 := hts (.constantLong RX9 237 (7021767)) (by decide +kernel)
  have hf_1 := hts (.constantLong RX9 239 (90302)) (by decide +kernel)
  have hf_2 := hts (.constantLong RX9 241 (583)) (by decide +kernel)
  have hf_3 := hts (.constantLong RX9 243 (2774)) (by decide +kernel)
  have hf_4 := hts (.constantLong RX9 245 (453937)) (by decide +kernel)
  have hf_5 := hts (.constantLong RX9 247 (70312)) (by decide +kernel)
  have hf_6 := hts (.constantLong RX9 249 (158578)) (by decide +kernel)
  have hf_7 := hts (.constantLong RX9 251 (10793)) (by decide +kernel)
  have hf_8 := hts (.constantLong RX9 253 (40187)) (by decide +kernel)
  have hf_9 := hts (.constantLong RX9 255 (459652)) (by decide +kernel)
  have hf_10 := hts (.constantLong RX9 257 (14006)) (by decide +kernel)
  have hf_11 := hts (.constantLong RX9 259 (316189)) (by decide +kernel)
  have hf_12 := hts (.constant RX9 233 (-2000000000)) (by decide +kernel)
  have hl : lv_has ls 2 [(0, .long (zJ v))] := hl
  refine lv_lload_n hx hb dX9_commandOf_0 rfl (lv_at hl 0 rfl) ?_
  refine z_ldc2 hx hb 7021767 hown hf_0 (by decide) dX9_commandOf_1 ?_
  refine z_lcmp_eq (tgt := 32) hx hb dX9_commandOf_4 dX9_commandOf_5 (by decide) (by omega) (by omega) (fun hc_4 => ?_) (fun hc_4 => ?_)
  · have hc_4 := hc_4
    refine lv_lload_n hx hb dX9_commandOf_32 rfl (lv_at hl 0 rfl) ?_
    refine z_ldc2 hx hb 7021767 hown hf_0 (by decide) dX9_commandOf_33 ?_
    refine z_lcmp_ne (tgt := 44) hx hb dX9_commandOf_36 dX9_commandOf_37 (by decide) (by omega) (by omega) (fun hc_36 => ?_) (fun hc_36 => ?_)
    · have hc_36 := hc_36
      refine lv_lload_n hx hb dX9_commandOf_44 rfl (lv_at hl 0 rfl) ?_
      refine z_ldc2 hx hb 90302 hown hf_1 (by decide) dX9_commandOf_45 ?_
      refine z_lcmp_ne (tgt := 56) hx hb dX9_commandOf_48 dX9_commandOf_49 (by decide) (by omega) (by omega) (fun hc_48 => ?_) (fun hc_48 => ?_)
      · have hc_48 := hc_48
        refine lv_lload_n hx hb dX9_commandOf_56 rfl (lv_at hl 0 rfl) ?_
        refine z_ldc2 hx hb 583 hown hf_2 (by decide) dX9_commandOf_57 ?_
        refine z_lcmp_ne (tgt := 68) hx hb dX9_commandOf_60 dX9_commandOf_61 (by decide) (by omega) (by omega) (fun hc_60 => ?_) (fun hc_60 => ?_)
        · have hc_60 := hc_60
          refine z_iconst hx hb dX9_commandOf_68 ?_
          exact z_iret hx hb hr hlocks hP hD hS ⟨Nat.le_of_ble_eq_true rfl, Nat.le_of_ble_eq_true rfl⟩ dX9_commandOf_69 (⟨congrArg (fun z => some (Value.int (zI z))) (by unfold cmo; rw [if_neg (by omega), if_neg (by omega), if_neg (by omega), if_pos (by omega)]), rfl⟩)
        · have hc_60 := hc_60
          refine z_iconst hx hb dX9_commandOf_64 ?_
          refine lv_goto (tgt := 69) hx hb dX9_commandOf_65 (by decide) ?_
          exact z_iret hx hb hr hlocks hP hD hS ⟨Nat.le_of_ble_eq_true rfl, Nat.le_of_ble_eq_true rfl⟩ dX9_commandOf_69 (⟨congrArg (fun z => some (Value.int (zI z))) (by unfold cmo; rw [if_neg (by omega), if_neg (by omega), if_pos (by omega)]), rfl⟩)
      · have hc_48 := hc_48
        refine z_iconst hx hb dX9_commandOf_52 ?_
        refine lv_goto (tgt := 69) hx hb dX9_commandOf_53 (by decide) ?_
        exact z_iret hx hb hr hlocks hP hD hS ⟨Nat.le_of_ble_eq_true rfl, Nat.le_of_ble_eq_true rfl⟩ dX9_commandOf_69 (⟨congrArg (fun z => some (Value.int (zI z))) (by unfold cmo; rw [if_neg (by omega), if_pos (by omega)]), rfl⟩)
    · have hc_36 := hc_36
      refine z_iconst hx hb dX9_commandOf_40 ?_
      refine lv_goto (tgt := 69) hx hb dX9_commandOf_41 (by decide) ?_
      exact z_iret hx hb hr hlocks hP hD hS ⟨Nat.le_of_ble_eq_true rfl, Nat.le_of_ble_eq_true rfl⟩ dX9_commandOf_69 (⟨congrArg (fun z => some (Value.int (zI z))) (by unfold cmo; rw [if_pos (by omega)]), rfl⟩)
  · have hc_4 := hc_4
    refine lv_lload_n hx hb dX9_commandOf_8 rfl (lv_at hl 0 rfl) ?_
    refine z_ldc2 hx hb 90302 hown hf_1 (by decide) dX9_commandOf_9 ?_
    refine z_lcmp_eq (tgt := 32) hx hb dX9_commandOf_12 dX9_commandOf_13 (by decide) (by omega) (by omega) (fun hc_12 => ?_) (fun hc_12 => ?_)
    · have hc_12 := hc_12
      refine lv_lload_n hx hb dX9_commandOf_32 rfl (lv_at hl 0 rfl) ?_
      refine z_ldc2 hx hb 7021767 hown hf_0 (by decide) dX9_commandOf_33 ?_
      refine z_lcmp_ne (tgt := 44) hx hb dX9_commandOf_36 dX9_commandOf_37 (by decide) (by omega) (by omega) (fun hc_36 => ?_) (fun hc_36 => ?_)
      · have hc_36 := hc_36
        refine lv_lload_n hx hb dX9_commandOf_44 rfl (lv_at hl 0 rfl) ?_
        refine z_ldc2 hx hb 90302 hown hf_1 (by decide) dX9_commandOf_45 ?_
        refine z_lcmp_ne (tgt := 56) hx hb dX9_commandOf_48 dX9_commandOf_49 (by decide) (by omega) (by omega) (fun hc_48 => ?_) (fun hc_48 => ?_)
        · have hc_48 := hc_48
          refine lv_lload_n hx hb dX9_commandOf_56 rfl (lv_at hl 0 rfl) ?_
          refine z_ldc2 hx hb 583 hown hf_2 (by decide) dX9_commandOf_57 ?_
          refine z_lcmp_ne (tgt := 68) hx hb dX9_commandOf_60 dX9_commandOf_61 (by decide) (by omega) (by omega) (fun hc_60 => ?_) (fun hc_60 => ?_)
          · have hc_60 := hc_60
            refine z_iconst hx hb dX9_commandOf_68 ?_
            exact z_iret hx hb hr hlocks hP hD hS ⟨Nat.le_of_ble_eq_true rfl, Nat.le_of_ble_eq_true rfl⟩ dX9_commandOf_69 (⟨congrArg (fun z => some (Value.int (zI z))) (by unfold cmo; rw [if_neg (by omega), if_neg (by omega), if_neg (by omega), if_pos (by omega)]), rfl⟩)
          · have hc_60 := hc_60
            refine z_iconst hx hb dX9_commandOf_64 ?_
            refine lv_goto (tgt := 69) hx hb dX9_commandOf_65 (by decide) ?_
            exact z_iret hx hb hr hlocks hP hD hS ⟨Nat.le_of_ble_eq_true rfl, Nat.le_of_ble_eq_true rfl⟩ dX9_commandOf_69 (⟨congrArg (fun z => some (Value.int (zI z))) (by unfold cmo; rw [if_neg (by omega), if_neg (by omega), if_pos (by omega)]), rfl⟩)
        · have hc_48 := hc_48
          refine z_iconst hx hb dX9_commandOf_52 ?_
          refine lv_goto (tgt := 69) hx hb dX9_commandOf_53 (by decide) ?_
          exact z_iret hx hb hr hlocks hP hD hS ⟨Nat.le_of_ble_eq_true rfl, Nat.le_of_ble_eq_true rfl⟩ dX9_commandOf_69 (⟨congrArg (fun z => some (Value.int (zI z))) (by unfold cmo; rw [if_neg (by omega), if_pos (by omega)]), rfl⟩)
      · have hc_36 := hc_36
        refine z_iconst hx hb dX9_commandOf_40 ?_
        refine lv_goto (tgt := 69) hx hb dX9_commandOf_41 (by decide) ?_
        exact z_iret hx hb hr hlocks hP hD hS ⟨Nat.le_of_ble_eq_true rfl, Nat.le_of_ble_eq_true rfl⟩ dX9_commandOf_69 (⟨congrArg (fun z => some (Value.int (zI z))) (by unfold cmo; rw [if_pos (by omega)]), rfl⟩)
    · have hc_12 := hc_12
      refine lv_lload_n hx hb dX9_commandOf_16 rfl (lv_at hl 0 rfl) ?_
      refine z_ldc2 hx hb 583 hown hf_2 (by decide) dX9_commandOf_17 ?_
      refine z_lcmp_eq (tgt := 32) hx hb dX9_commandOf_20 dX9_commandOf_21 (by decide) (by omega) (by omega) (fun hc_20 => ?_) (fun hc_20 => ?_)
      · have hc_20 := hc_20
        refine lv_lload_n hx hb dX9_commandOf_32 rfl (lv_at hl 0 rfl) ?_
        refine z_ldc2 hx hb 7021767 hown hf_0 (by decide) dX9_commandOf_33 ?_
        refine z_lcmp_ne (tgt := 44) hx hb dX9_commandOf_36 dX9_commandOf_37 (by decide) (by omega) (by omega) (fun hc_36 => ?_) (fun hc_36 => ?_)
        · have hc_36 := hc_36
          refine lv_lload_n hx hb dX9_commandOf_44 rfl (lv_at hl 0 rfl) ?_
          refine z_ldc2 hx hb 90302 hown hf_1 (by decide) dX9_commandOf_45 ?_
          refine z_lcmp_ne (tgt := 56) hx hb dX9_commandOf_48 dX9_commandOf_49 (by decide) (by omega) (by omega) (fun hc_48 => ?_) (fun hc_48 => ?_)
          · have hc_48 := hc_48
            refine lv_lload_n hx hb dX9_commandOf_56 rfl (lv_at hl 0 rfl) ?_
            refine z_ldc2 hx hb 583 hown hf_2 (by decide) dX9_commandOf_57 ?_
            refine z_lcmp_ne (tgt := 68) hx hb dX9_commandOf_60 dX9_commandOf_61 (by decide) (by omega) (by omega) (fun hc_60 => ?_) (fun hc_60 => ?_)
            · have hc_60 := hc_60
              refine z_iconst hx hb dX9_commandOf_68 ?_
              exact z_iret hx hb hr hlocks hP hD hS ⟨Nat.le_of_ble_eq_true rfl, Nat.le_of_ble_eq_true rfl⟩ dX9_commandOf_69 (⟨congrArg (fun z => some (Value.int (zI z))) (by unfold cmo; rw [if_neg (by omega), if_neg (by omega), if_neg (by omega), if_pos (by omega)]), rfl⟩)
            · have hc_60 := hc_60
              refine z_iconst hx hb dX9_commandOf_64 ?_
              refine lv_goto (tgt := 69) hx hb dX9_commandOf_65 (by decide) ?_
              exact z_iret hx hb hr hlocks hP hD hS ⟨Nat.le_of_ble_eq_true rfl, Nat.le_of_ble_eq_true rfl⟩ dX9_commandOf_69 (⟨congrArg (fun z => some (Value.int (zI z))) (by unfold cmo; rw [if_neg (by omega), if_neg (by omega), if_pos (by omega)]), rfl⟩)
          · have hc_48 := hc_48
            refine z_iconst hx hb dX9_commandOf_52 ?_
            refine lv_goto (tgt := 69) hx hb dX9_commandOf_53 (by decide) ?_
            exact z_iret hx hb hr hlocks hP hD hS ⟨Nat.le_of_ble_eq_true rfl, Nat.le_of_ble_eq_true rfl⟩ dX9_commandOf_69 (⟨congrArg (fun z => some (Value.int (zI z))) (by unfold cmo; rw [if_neg (by omega), if_pos (by omega)]), rfl⟩)
        · have hc_36 := hc_36
          refine z_iconst hx hb dX9_commandOf_40 ?_
          refine lv_goto (tgt := 69) hx hb dX9_commandOf_41 (by decide) ?_
          exact z_iret hx hb hr hlocks hP hD hS ⟨Nat.le_of_ble_eq_true rfl, Nat.le_of_ble_eq_true rfl⟩ dX9_commandOf_69 (⟨congrArg (fun z => some (Value.int (zI z))) (by unfold cmo; rw [if_pos (by omega)]), rfl⟩)
      · have hc_20 := hc_20
        refine lv_lload_n hx hb dX9_commandOf_24 rfl (lv_at hl 0 rfl) ?_
        refine z_ldc2 hx hb 2774 hown hf_3 (by decide) dX9_commandOf_25 ?_
        refine z_lcmp_ne (tgt := 70) hx hb dX9_commandOf_28 dX9_commandOf_29 (by decide) (by omega) (by omega) (fun hc_28 => ?_) (fun hc_28 => ?_)
        · have hc_28 := hc_28
          refine lv_lload_n hx hb dX9_commandOf_70 rfl (lv_at hl 0 rfl) ?_
          refine z_ldc2 hx hb 453937 hown hf_4 (by decide) dX9_commandOf_71 ?_
          refine z_lcmp_eq (tgt := 102) hx hb dX9_commandOf_74 dX9_commandOf_75 (by decide) (by omega) (by omega) (fun hc_74 => ?_) (fun hc_74 => ?_)
          · have hc_74 := hc_74
            refine lv_lload_n hx hb dX9_commandOf_102 rfl (lv_at hl 0 rfl) ?_
            refine z_ldc2 hx hb 453937 hown hf_4 (by decide) dX9_commandOf_103 ?_
            refine z_lcmp_ne (tgt := 114) hx hb dX9_commandOf_106 dX9_commandOf_107 (by decide) (by omega) (by omega) (fun hc_106 => ?_) (fun hc_106 => ?_)
            · have hc_106 := hc_106
              refine lv_lload_n hx hb dX9_commandOf_114 rfl (lv_at hl 0 rfl) ?_
              refine z_ldc2 hx hb 70312 hown hf_5 (by decide) dX9_commandOf_115 ?_
              refine z_lcmp_ne (tgt := 126) hx hb dX9_commandOf_118 dX9_commandOf_119 (by decide) (by omega) (by omega) (fun hc_118 => ?_) (fun hc_118 => ?_)
              · have hc_118 := hc_118
                refine lv_lload_n hx hb dX9_commandOf_126 rfl (lv_at hl 0 rfl) ?_
                refine z_ldc2 hx hb 158578 hown hf_6 (by decide) dX9_commandOf_127 ?_
                refine z_lcmp_ne (tgt := 139) hx hb dX9_commandOf_130 dX9_commandOf_131 (by decide) (by omega) (by omega) (fun hc_130 => ?_) (fun hc_130 => ?_)
                · have hc_130 := hc_130
                  refine z_bipush hx hb dX9_commandOf_139 (by decide) ?_
                  exact z_iret hx hb hr hlocks hP hD hS ⟨Nat.le_of_ble_eq_true rfl, Nat.le_of_ble_eq_true rfl⟩ dX9_commandOf_141 (⟨congrArg (fun z => some (Value.int (zI z))) (by unfold cmo; rw [if_neg (by omega), if_neg (by omega), if_neg (by omega), if_neg (by omega), if_neg (by omega), if_neg (by omega), if_neg (by omega), if_pos (by omega)]), rfl⟩)
                · have hc_130 := hc_130
                  refine z_bipush hx hb dX9_commandOf_134 (by decide) ?_
                  refine lv_goto (tgt := 141) hx hb dX9_commandOf_136 (by decide) ?_
                  exact z_iret hx hb hr hlocks hP hD hS ⟨Nat.le_of_ble_eq_true rfl, Nat.le_of_ble_eq_true rfl⟩ dX9_commandOf_141 (⟨congrArg (fun z => some (Value.int (zI z))) (by unfold cmo; rw [if_neg (by omega), if_neg (by omega), if_neg (by omega), if_neg (by omega), if_neg (by omega), if_neg (by omega), if_pos (by omega)]), rfl⟩)
              · have hc_118 := hc_118
                refine z_iconst hx hb dX9_commandOf_122 ?_
                refine lv_goto (tgt := 141) hx hb dX9_commandOf_123 (by decide) ?_
                exact z_iret hx hb hr hlocks hP hD hS ⟨Nat.le_of_ble_eq_true rfl, Nat.le_of_ble_eq_true rfl⟩ dX9_commandOf_141 (⟨congrArg (fun z => some (Value.int (zI z))) (by unfold cmo; rw [if_neg (by omega), if_neg (by omega), if_neg (by omega), if_neg (by omega), if_neg (by omega), if_pos (by omega)]), rfl⟩)
            · have hc_106 := hc_106
              refine z_iconst hx hb dX9_commandOf_110 ?_
              refine lv_goto (tgt := 141) hx hb dX9_commandOf_111 (by decide) ?_
              exact z_iret hx hb hr hlocks hP hD hS ⟨Nat.le_of_ble_eq_true rfl, Nat.le_of_ble_eq_true rfl⟩ dX9_commandOf_141 (⟨congrArg (fun z => some (Value.int (zI z))) (by unfold cmo; rw [if_neg (by omega), if_neg (by omega), if_neg (by omega), if_neg (by omega), if_pos (by omega)]), rfl⟩)
          · have hc_74 := hc_74
            refine lv_lload_n hx hb dX9_commandOf_78 rfl (lv_at hl 0 rfl) ?_
            refine z_ldc2 hx hb 70312 hown hf_5 (by decide) dX9_commandOf_79 ?_
            refine z_lcmp_eq (tgt := 102) hx hb dX9_commandOf_82 dX9_commandOf_83 (by decide) (by omega) (by omega) (fun hc_82 => ?_) (fun hc_82 => ?_)
            · have hc_82 := hc_82
              refine lv_lload_n hx hb dX9_commandOf_102 rfl (lv_at hl 0 rfl) ?_
              refine z_ldc2 hx hb 453937 hown hf_4 (by decide) dX9_commandOf_103 ?_
              refine z_lcmp_ne (tgt := 114) hx hb dX9_commandOf_106 dX9_commandOf_107 (by decide) (by omega) (by omega) (fun hc_106 => ?_) (fun hc_106 => ?_)
              · have hc_106 := hc_106
                refine lv_lload_n hx hb dX9_commandOf_114 rfl (lv_at hl 0 rfl) ?_
                refine z_ldc2 hx hb 70312 hown hf_5 (by decide) dX9_commandOf_115 ?_
                refine z_lcmp_ne (tgt := 126) hx hb dX9_commandOf_118 dX9_commandOf_119 (by decide) (by omega) (by omega) (fun hc_118 => ?_) (fun hc_118 => ?_)
                · have hc_118 := hc_118
                  refine lv_lload_n hx hb dX9_commandOf_126 rfl (lv_at hl 0 rfl) ?_
                  refine z_ldc2 hx hb 158578 hown hf_6 (by decide) dX9_commandOf_127 ?_
                  refine z_lcmp_ne (tgt := 139) hx hb dX9_commandOf_130 dX9_commandOf_131 (by decide) (by omega) (by omega) (fun hc_130 => ?_) (fun hc_130 => ?_)
                  · have hc_130 := hc_130
                    refine z_bipush hx hb dX9_commandOf_139 (by decide) ?_
                    exact z_iret hx hb hr hlocks hP hD hS ⟨Nat.le_of_ble_eq_true rfl, Nat.le_of_ble_eq_true rfl⟩ dX9_commandOf_141 (⟨congrArg (fun z => some (Value.int (zI z))) (by unfold cmo; rw [if_neg (by omega), if_neg (by omega), if_neg (by omega), if_neg (by omega), if_neg (by omega), if_neg (by omega), if_neg (by omega), if_pos (by omega)]), rfl⟩)
                  · have hc_130 := hc_130
                    refine z_bipush hx hb dX9_commandOf_134 (by decide) ?_
                    refine lv_goto (tgt := 141) hx hb dX9_commandOf_136 (by decide) ?_
                    exact z_iret hx hb hr hlocks hP hD hS ⟨Nat.le_of_ble_eq_true rfl, Nat.le_of_ble_eq_true rfl⟩ dX9_commandOf_141 (⟨congrArg (fun z => some (Value.int (zI z))) (by unfold cmo; rw [if_neg (by omega), if_neg (by omega), if_neg (by omega), if_neg (by omega), if_neg (by omega), if_neg (by omega), if_pos (by omega)]), rfl⟩)
                · have hc_118 := hc_118
                  refine z_iconst hx hb dX9_commandOf_122 ?_
                  refine lv_goto (tgt := 141) hx hb dX9_commandOf_123 (by decide) ?_
                  exact z_iret hx hb hr hlocks hP hD hS ⟨Nat.le_of_ble_eq_true rfl, Nat.le_of_ble_eq_true rfl⟩ dX9_commandOf_141 (⟨congrArg (fun z => some (Value.int (zI z))) (by unfold cmo; rw [if_neg (by omega), if_neg (by omega), if_neg (by omega), if_neg (by omega), if_neg (by omega), if_pos (by omega)]), rfl⟩)
              · have hc_106 := hc_106
                refine z_iconst hx hb dX9_commandOf_110 ?_
                refine lv_goto (tgt := 141) hx hb dX9_commandOf_111 (by decide) ?_
                exact z_iret hx hb hr hlocks hP hD hS ⟨Nat.le_of_ble_eq_true rfl, Nat.le_of_ble_eq_true rfl⟩ dX9_commandOf_141 (⟨congrArg (fun z => some (Value.int (zI z))) (by unfold cmo; rw [if_neg (by omega), if_neg (by omega), if_neg (by omega), if_neg (by omega), if_pos (by omega)]), rfl⟩)
            · have hc_82 := hc_82
              refine lv_lload_n hx hb dX9_commandOf_86 rfl (lv_at hl 0 rfl) ?_
              refine z_ldc2 hx hb 158578 hown hf_6 (by decide) dX9_commandOf_87 ?_
              refine z_lcmp_eq (tgt := 102) hx hb dX9_commandOf_90 dX9_commandOf_91 (by decide) (by omega) (by omega) (fun hc_90 => ?_) (fun hc_90 => ?_)
              · have hc_90 := hc_90
                refine lv_lload_n hx hb dX9_commandOf_102 rfl (lv_at hl 0 rfl) ?_
                refine z_ldc2 hx hb 453937 hown hf_4 (by decide) dX9_commandOf_103 ?_
                refine z_lcmp_ne (tgt := 114) hx hb dX9_commandOf_106 dX9_commandOf_107 (by decide) (by omega) (by omega) (fun hc_106 => ?_) (fun hc_106 => ?_)
                · have hc_106 := hc_106
                  refine lv_lload_n hx hb dX9_commandOf_114 rfl (lv_at hl 0 rfl) ?_
                  refine z_ldc2 hx hb 70312 hown hf_5 (by decide) dX9_commandOf_115 ?_
                  refine z_lcmp_ne (tgt := 126) hx hb dX9_commandOf_118 dX9_commandOf_119 (by decide) (by omega) (by omega) (fun hc_118 => ?_) (fun hc_118 => ?_)
                  · have hc_118 := hc_118
                    refine lv_lload_n hx hb dX9_commandOf_126 rfl (lv_at hl 0 rfl) ?_
                    refine z_ldc2 hx hb 158578 hown hf_6 (by decide) dX9_commandOf_127 ?_
                    refine z_lcmp_ne (tgt := 139) hx hb dX9_commandOf_130 dX9_commandOf_131 (by decide) (by omega) (by omega) (fun hc_130 => ?_) (fun hc_130 => ?_)
                    · have hc_130 := hc_130
                      refine z_bipush hx hb dX9_commandOf_139 (by decide) ?_
                      exact z_iret hx hb hr hlocks hP hD hS ⟨Nat.le_of_ble_eq_true rfl, Nat.le_of_ble_eq_true rfl⟩ dX9_commandOf_141 (⟨congrArg (fun z => some (Value.int (zI z))) (by unfold cmo; rw [if_neg (by omega), if_neg (by omega), if_neg (by omega), if_neg (by omega), if_neg (by omega), if_neg (by omega), if_neg (by omega), if_pos (by omega)]), rfl⟩)
                    · have hc_130 := hc_130
                      refine z_bipush hx hb dX9_commandOf_134 (by decide) ?_
                      refine lv_goto (tgt := 141) hx hb dX9_commandOf_136 (by decide) ?_
                      exact z_iret hx hb hr hlocks hP hD hS ⟨Nat.le_of_ble_eq_true rfl, Nat.le_of_ble_eq_true rfl⟩ dX9_commandOf_141 (⟨congrArg (fun z => some (Value.int (zI z))) (by unfold cmo; rw [if_neg (by omega), if_neg (by omega), if_neg (by omega), if_neg (by omega), if_neg (by omega), if_neg (by omega), if_pos (by omega)]), rfl⟩)
                  · have hc_118 := hc_118
                    refine z_iconst hx hb dX9_commandOf_122 ?_
                    refine lv_goto (tgt := 141) hx hb dX9_commandOf_123 (by decide) ?_
                    exact z_iret hx hb hr hlocks hP hD hS ⟨Nat.le_of_ble_eq_true rfl, Nat.le_of_ble_eq_true rfl⟩ dX9_commandOf_141 (⟨congrArg (fun z => some (Value.int (zI z))) (by unfold cmo; rw [if_neg (by omega), if_neg (by omega), if_neg (by omega), if_neg (by omega), if_neg (by omega), if_pos (by omega)]), rfl⟩)
                · have hc_106 := hc_106
                  refine z_iconst hx hb dX9_commandOf_110 ?_
                  refine lv_goto (tgt := 141) hx hb dX9_commandOf_111 (by decide) ?_
                  exact z_iret hx hb hr hlocks hP hD hS ⟨Nat.le_of_ble_eq_true rfl, Nat.le_of_ble_eq_true rfl⟩ dX9_commandOf_141 (⟨congrArg (fun z => some (Value.int (zI z))) (by unfold cmo; rw [if_neg (by omega), if_neg (by omega), if_neg (by omega), if_neg (by omega), if_pos (by omega)]), rfl⟩)
              · have hc_90 := hc_90
                refine lv_lload_n hx hb dX9_commandOf_94 rfl (lv_at hl 0 rfl) ?_
                refine z_ldc2 hx hb 10793 hown hf_7 (by decide) dX9_commandOf_95 ?_
                refine z_lcmp_ne (tgt := 142) hx hb dX9_commandOf_98 dX9_commandOf_99 (by decide) (by omega) (by omega) (fun hc_98 => ?_) (fun hc_98 => ?_)
                · have hc_98 := hc_98
                  refine lv_lload_n hx hb dX9_commandOf_142 rfl (lv_at hl 0 rfl) ?_
                  refine z_ldc2 hx hb 40187 hown hf_8 (by decide) dX9_commandOf_143 ?_
                  refine z_lcmp_ne (tgt := 155) hx hb dX9_commandOf_146 dX9_commandOf_147 (by decide) (by omega) (by omega) (fun hc_146 => ?_) (fun hc_146 => ?_)
                  · have hc_146 := hc_146
                    refine lv_lload_n hx hb dX9_commandOf_155 rfl (lv_at hl 0 rfl) ?_
                    refine z_ldc2 hx hb 459652 hown hf_9 (by decide) dX9_commandOf_156 ?_
                    refine z_lcmp_ne (tgt := 168) hx hb dX9_commandOf_159 dX9_commandOf_160 (by decide) (by omega) (by omega) (fun hc_159 => ?_) (fun hc_159 => ?_)
                    · have hc_159 := hc_159
                      refine lv_lload_n hx hb dX9_commandOf_168 rfl (lv_at hl 0 rfl) ?_
                      refine z_ldc2 hx hb 14006 hown hf_10 (by decide) dX9_commandOf_169 ?_
                      refine z_lcmp_ne (tgt := 181) hx hb dX9_commandOf_172 dX9_commandOf_173 (by decide) (by omega) (by omega) (fun hc_172 => ?_) (fun hc_172 => ?_)
                      · have hc_172 := hc_172
                        refine lv_lload_n hx hb dX9_commandOf_181 rfl (lv_at hl 0 rfl) ?_
                        refine z_ldc2 hx hb 316189 hown hf_11 (by decide) dX9_commandOf_182 ?_
                        refine z_lcmp_ne (tgt := 194) hx hb dX9_commandOf_185 dX9_commandOf_186 (by decide) (by omega) (by omega) (fun hc_185 => ?_) (fun hc_185 => ?_)
                        · have hc_185 := hc_185
                          refine z_ldc hx hb (-2000000000) hown hf_12 (by decide) dX9_commandOf_194 ?_
                          exact z_iret hx hb hr hlocks hP hD hS ⟨Nat.le_of_ble_eq_true rfl, Nat.le_of_ble_eq_true rfl⟩ dX9_commandOf_196 (⟨congrArg (fun z => some (Value.int (zI z))) (by unfold cmo; rw [if_neg (by omega), if_neg (by omega), if_neg (by omega), if_neg (by omega), if_neg (by omega), if_neg (by omega), if_neg (by omega), if_neg (by omega), if_neg (by omega), if_neg (by omega), if_neg (by omega), if_neg (by omega)]), rfl⟩)
                        · have hc_185 := hc_185
                          refine z_bipush hx hb dX9_commandOf_189 (by decide) ?_
                          refine lv_goto (tgt := 196) hx hb dX9_commandOf_191 (by decide) ?_
                          exact z_iret hx hb hr hlocks hP hD hS ⟨Nat.le_of_ble_eq_true rfl, Nat.le_of_ble_eq_true rfl⟩ dX9_commandOf_196 (⟨congrArg (fun z => some (Value.int (zI z))) (by unfold cmo; rw [if_neg (by omega), if_neg (by omega), if_neg (by omega), if_neg (by omega), if_neg (by omega), if_neg (by omega), if_neg (by omega), if_neg (by omega), if_neg (by omega), if_neg (by omega), if_neg (by omega), if_pos (by omega)]), rfl⟩)
                      · have hc_172 := hc_172
                        refine z_bipush hx hb dX9_commandOf_176 (by decide) ?_
                        refine lv_goto (tgt := 196) hx hb dX9_commandOf_178 (by decide) ?_
                        exact z_iret hx hb hr hlocks hP hD hS ⟨Nat.le_of_ble_eq_true rfl, Nat.le_of_ble_eq_true rfl⟩ dX9_commandOf_196 (⟨congrArg (fun z => some (Value.int (zI z))) (by unfold cmo; rw [if_neg (by omega), if_neg (by omega), if_neg (by omega), if_neg (by omega), if_neg (by omega), if_neg (by omega), if_neg (by omega), if_neg (by omega), if_neg (by omega), if_neg (by omega), if_pos (by omega)]), rfl⟩)
                    · have hc_159 := hc_159
                      refine z_bipush hx hb dX9_commandOf_163 (by decide) ?_
                      refine lv_goto (tgt := 196) hx hb dX9_commandOf_165 (by decide) ?_
                      exact z_iret hx hb hr hlocks hP hD hS ⟨Nat.le_of_ble_eq_true rfl, Nat.le_of_ble_eq_true rfl⟩ dX9_commandOf_196 (⟨congrArg (fun z => some (Value.int (zI z))) (by unfold cmo; rw [if_neg (by omega), if_neg (by omega), if_neg (by omega), if_neg (by omega), if_neg (by omega), if_neg (by omega), if_neg (by omega), if_neg (by omega), if_neg (by omega), if_pos (by omega)]), rfl⟩)
                  · have hc_146 := hc_146
                    refine z_bipush hx hb dX9_commandOf_150 (by decide) ?_
                    refine lv_goto (tgt := 196) hx hb dX9_commandOf_152 (by decide) ?_
                    exact z_iret hx hb hr hlocks hP hD hS ⟨Nat.le_of_ble_eq_true rfl, Nat.le_of_ble_eq_true rfl⟩ dX9_commandOf_196 (⟨congrArg (fun z => some (Value.int (zI z))) (by unfold cmo; rw [if_neg (by omega), if_neg (by omega), if_neg (by omega), if_neg (by omega), if_neg (by omega), if_neg (by omega), if_neg (by omega), if_neg (by omega), if_pos (by omega)]), rfl⟩)
                · have hc_98 := hc_98
                  refine lv_lload_n hx hb dX9_commandOf_102 rfl (lv_at hl 0 rfl) ?_
                  refine z_ldc2 hx hb 453937 hown hf_4 (by decide) dX9_commandOf_103 ?_
                  refine z_lcmp_ne (tgt := 114) hx hb dX9_commandOf_106 dX9_commandOf_107 (by decide) (by omega) (by omega) (fun hc_106 => ?_) (fun hc_106 => ?_)
                  · have hc_106 := hc_106
                    refine lv_lload_n hx hb dX9_commandOf_114 rfl (lv_at hl 0 rfl) ?_
                    refine z_ldc2 hx hb 70312 hown hf_5 (by decide) dX9_commandOf_115 ?_
                    refine z_lcmp_ne (tgt := 126) hx hb dX9_commandOf_118 dX9_commandOf_119 (by decide) (by omega) (by omega) (fun hc_118 => ?_) (fun hc_118 => ?_)
                    · have hc_118 := hc_118
                      refine lv_lload_n hx hb dX9_commandOf_126 rfl (lv_at hl 0 rfl) ?_
                      refine z_ldc2 hx hb 158578 hown hf_6 (by decide) dX9_commandOf_127 ?_
                      refine z_lcmp_ne (tgt := 139) hx hb dX9_commandOf_130 dX9_commandOf_131 (by decide) (by omega) (by omega) (fun hc_130 => ?_) (fun hc_130 => ?_)
                      · have hc_130 := hc_130
                        refine z_bipush hx hb dX9_commandOf_139 (by decide) ?_
                        exact z_iret hx hb hr hlocks hP hD hS ⟨Nat.le_of_ble_eq_true rfl, Nat.le_of_ble_eq_true rfl⟩ dX9_commandOf_141 (⟨congrArg (fun z => some (Value.int (zI z))) (by unfold cmo; rw [if_neg (by omega), if_neg (by omega), if_neg (by omega), if_neg (by omega), if_neg (by omega), if_neg (by omega), if_neg (by omega), if_pos (by omega)]), rfl⟩)
                      · have hc_130 := hc_130
                        refine z_bipush hx hb dX9_commandOf_134 (by decide) ?_
                        refine lv_goto (tgt := 141) hx hb dX9_commandOf_136 (by decide) ?_
                        exact z_iret hx hb hr hlocks hP hD hS ⟨Nat.le_of_ble_eq_true rfl, Nat.le_of_ble_eq_true rfl⟩ dX9_commandOf_141 (⟨congrArg (fun z => some (Value.int (zI z))) (by unfold cmo; rw [if_neg (by omega), if_neg (by omega), if_neg (by omega), if_neg (by omega), if_neg (by omega), if_neg (by omega), if_pos (by omega)]), rfl⟩)
                    · have hc_118 := hc_118
                      refine z_iconst hx hb dX9_commandOf_122 ?_
                      refine lv_goto (tgt := 141) hx hb dX9_commandOf_123 (by decide) ?_
                      exact z_iret hx hb hr hlocks hP hD hS ⟨Nat.le_of_ble_eq_true rfl, Nat.le_of_ble_eq_true rfl⟩ dX9_commandOf_141 (⟨congrArg (fun z => some (Value.int (zI z))) (by unfold cmo; rw [if_neg (by omega), if_neg (by omega), if_neg (by omega), if_neg (by omega), if_neg (by omega), if_pos (by omega)]), rfl⟩)
                  · have hc_106 := hc_106
                    refine z_iconst hx hb dX9_commandOf_110 ?_
                    refine lv_goto (tgt := 141) hx hb dX9_commandOf_111 (by decide) ?_
                    exact z_iret hx hb hr hlocks hP hD hS ⟨Nat.le_of_ble_eq_true rfl, Nat.le_of_ble_eq_true rfl⟩ dX9_commandOf_141 (⟨congrArg (fun z => some (Value.int (zI z))) (by unfold cmo; rw [if_neg (by omega), if_neg (by omega), if_neg (by omega), if_neg (by omega), if_pos (by omega)]), rfl⟩)
        · have hc_28 := hc_28
          refine lv_lload_n hx hb dX9_commandOf_32 rfl (lv_at hl 0 rfl) ?_
          refine z_ldc2 hx hb 7021767 hown hf_0 (by decide) dX9_commandOf_33 ?_
          refine z_lcmp_ne (tgt := 44) hx hb dX9_commandOf_36 dX9_commandOf_37 (by decide) (by omega) (by omega) (fun hc_36 => ?_) (fun hc_36 => ?_)
          · have hc_36 := hc_36
            refine lv_lload_n hx hb dX9_commandOf_44 rfl (lv_at hl 0 rfl) ?_
            refine z_ldc2 hx hb 90302 hown hf_1 (by decide) dX9_commandOf_45 ?_
            refine z_lcmp_ne (tgt := 56) hx hb dX9_commandOf_48 dX9_commandOf_49 (by decide) (by omega) (by omega) (fun hc_48 => ?_) (fun hc_48 => ?_)
            · have hc_48 := hc_48
              refine lv_lload_n hx hb dX9_commandOf_56 rfl (lv_at hl 0 rfl) ?_
              refine z_ldc2 hx hb 583 hown hf_2 (by decide) dX9_commandOf_57 ?_
              refine z_lcmp_ne (tgt := 68) hx hb dX9_commandOf_60 dX9_commandOf_61 (by decide) (by omega) (by omega) (fun hc_60 => ?_) (fun hc_60 => ?_)
              · have hc_60 := hc_60
                refine z_iconst hx hb dX9_commandOf_68 ?_
                exact z_iret hx hb hr hlocks hP hD hS ⟨Nat.le_of_ble_eq_true rfl, Nat.le_of_ble_eq_true rfl⟩ dX9_commandOf_69 (⟨congrArg (fun z => some (Value.int (zI z))) (by unfold cmo; rw [if_neg (by omega), if_neg (by omega), if_neg (by omega), if_pos (by omega)]), rfl⟩)
              · have hc_60 := hc_60
                refine z_iconst hx hb dX9_commandOf_64 ?_
                refine lv_goto (tgt := 69) hx hb dX9_commandOf_65 (by decide) ?_
                exact z_iret hx hb hr hlocks hP hD hS ⟨Nat.le_of_ble_eq_true rfl, Nat.le_of_ble_eq_true rfl⟩ dX9_commandOf_69 (⟨congrArg (fun z => some (Value.int (zI z))) (by unfold cmo; rw [if_neg (by omega), if_neg (by omega), if_pos (by omega)]), rfl⟩)
            · have hc_48 := hc_48
              refine z_iconst hx hb dX9_commandOf_52 ?_
              refine lv_goto (tgt := 69) hx hb dX9_commandOf_53 (by decide) ?_
              exact z_iret hx hb hr hlocks hP hD hS ⟨Nat.le_of_ble_eq_true rfl, Nat.le_of_ble_eq_true rfl⟩ dX9_commandOf_69 (⟨congrArg (fun z => some (Value.int (zI z))) (by unfold cmo; rw [if_neg (by omega), if_pos (by omega)]), rfl⟩)
          · have hc_36 := hc_36
            refine z_iconst hx hb dX9_commandOf_40 ?_
            refine lv_goto (tgt := 69) hx hb dX9_commandOf_41 (by decide) ?_
            exact z_iret hx hb hr hlocks hP hD hS ⟨Nat.le_of_ble_eq_true rfl, Nat.le_of_ble_eq_true rfl⟩ dX9_commandOf_69 (⟨congrArg (fun z => some (Value.int (zI z))) (by unfold cmo; rw [if_pos (by omega)]), rfl⟩)
theorem k_X9_commandOf : yX9_commandOf.cls ≠ "java/lang/invoke/MethodHandle" ∧ yX9_commandOf.cls ≠ "java/lang/invoke/VarHandle" ∧ (parseMethodDescriptor yX9_commandOf.desc).map (fun d => d.parameters.length) = some 1 := by decide +kernel
set_option maxHeartbeats 4000000 in
set_option maxRecDepth 100000 in
theorem c_X9_readWord_ok (l : Launch) (D : va_G) (ct ad : Nat → Nat) (b : Nat → Nat) (M SP SV TX NB : Int → Int) (sc tl cd pl cm h : Int) (ht : tInv TX tl) (hp : 0 ≤ pl ∧ pl ≤ tl) (hok : cc TX tl pl ≠ -2000000000) : ZM l yX9_readWord wsX9_readWord ({ frames := 1, cells := 0, slots := 0, locals := 22 } : Room) D ct ad [.ref (b 0)] (moW b sc tl cd pl cm h ++ (jrW ct (b 1) 94 M ++ (jrW ct (b 2) 94 SP ++ (jrW ct (b 3) 376 SV ++ (irW ct (b 4) 150 TX ++ (irW ct (b 5) 2 NB)))))) (zD (some (.int (zI 1))) (moW b sc tl cd (we TX tl pl) (cc TX tl pl) h ++ (jrW ct (b 1) 94 M ++ (jrW ct (b 2) 94 SP ++ (jrW ct (b 3) 376 SV ++ (irW ct (b 4) 150 TX ++ (irW ct (b 5) 2 NB))))))) := by
  refine ZM.of (cc := cX9_readWord) (maxL := 4) (ret := (some .boolean)) (by decide +kernel) rfl (Nat.le_of_ble_eq_true rfl) ?_
  intro p e s m below meth c A ls hx hb hr hts hown hlocks hml hname hE hP hD hA hS hl
  have hK := hE.1
  have hf_0 := hts (.fieldLink RX9 230 "RodGridsModel" "place" "I") (by decide +kernel)
  have hf_1 := hts (.fieldLink RX9 269 "RodGridsModel" "command" "I") (by decide +kernel)
  have hf_2 := hts (.constant RX9 233 (-2000000000)) (by decide +kernel)
  have hf_3 := hts (.constantLong RX9 166 (-1)) (by decide +kernel)
  have hf_4 := hts (.constantLong RX9 261 (27)) (by decide +kernel)
  have hf_5 := hts (.constantLong RX9 263 (96)) (by decide +kernel)
  have hin_X9 : ∀ z ∈ u_ws RX9 TX9 11, z ∈ wsX9_readWord := by decide +kernel
  have hl : lv_has ls 4 [(0, .ref (b 0))] := hl
  have t1 := ht.1
  have ccB := cwN_B (TX := TX) (s := pl) (e := we TX tl pl) 12 (Nat.le_refl _)
  have ccB : cc TX tl pl = -2000000000 ∨ (0 ≤ cc TX tl pl ∧ cc TX tl pl ≤ 11) := ccB
  refine lv_aload_n hx hb dX9_readWord_0 rfl (lv_at hl 0 rfl) ?_
  refine va_get (D := D) (ci := 7) (v := .int (zI pl)) (C := RX9) (T := TX9) (N := 11) hx hb hts hin_X9 hown hK hP 0 rfl rfl 7 (by decide) hf_0 (fun _ h9 => h9) rfl dX9_readWord_1 ?_
  refine lv_istore_n (lv' := [(1, .int (zI pl)), (0, .ref (b 0))]) hx hb dX9_readWord_4 rfl hl (by decide) rfl (fun ls hl => ?_)
  refine z_lconst (z := 0) hx hb dX9_readWord_5 rfl ?_
  refine lv_lstore_n (lv' := [(2, .long (zJ 0)), (1, .int (zI pl)), (0, .ref (b 0))]) hx hb dX9_readWord_6 rfl hl (by decide) rfl (fun ls hl => ?_)
  refine z_loop (σ := Int × Int) (fun q9 => (tl - q9.1).toNat) (fun q9 => (pl ≤ q9.1 ∧ q9.1 ≤ tl) ∧ (we TX tl q9.1 = we TX tl pl) ∧ (∀ j : Int, pl ≤ j → j < q9.1 → 97 ≤ TX j ∧ TX j ≤ 122) ∧ (q9.1 - pl ≤ 6 → q9.2 = vN TX pl (q9.1 - pl).toNat)) (fun q9 => moW b sc tl cd q9.1 cm h ++ (jrW ct (b 1) 94 M ++ (jrW ct (b 2) 94 SP ++ (jrW ct (b 3) 376 SV ++ (irW ct (b 4) 150 TX ++ (irW ct (b 5) 2 NB)))))) (fun q9 => [(0, .ref (b 0)), (1, .int (zI pl)), (2, .long (zJ q9.2))]) (fun q9 => []) (pl, 0) ⟨(show pl ≤ pl ∧ pl ≤ tl from (by omega)), (show we TX tl pl = we TX tl pl from (by rfl)), (show ∀ j : Int, pl ≤ j → j < pl → 97 ≤ TX j ∧ TX j ≤ 122 from (fun j h1 h2 => by omega)), (show pl - pl ≤ 6 → 0 = vN TX pl (pl - pl).toNat from (fun _ => by rw [show (pl - pl).toNat = 0 by omega]; rfl))⟩ hP hD hS (lv_sub hl [2, 1, 0] rfl) rfl ?_
  rintro ⟨i, v_⟩ hI_7 ih_7 H locs ls hP hD hS hl
  obtain ⟨hi, hw, hL, hv⟩ := hI_7
  have hi : pl ≤ i ∧ i ≤ tl := hi
  have hw : we TX tl i = we TX tl pl := hw
  have hL : ∀ j : Int, pl ≤ j → j < i → 97 ≤ TX j ∧ TX j ≤ 122 := hL
  have hv : i - pl ≤ 6 → v_ = vN TX pl (i - pl).toNat := hv
  have hP : va_P D vwCl (moW b sc tl cd i cm h ++ (jrW ct (b 1) 94 M ++ (jrW ct (b 2) 94 SP ++ (jrW ct (b 3) 376 SV ++ (irW ct (b 4) 150 TX ++ (irW ct (b 5) 2 NB)))))) H := hP
  have hD : va_D A (moW b sc tl cd i cm h ++ (jrW ct (b 1) 94 M ++ (jrW ct (b 2) 94 SP ++ (jrW ct (b 3) 376 SV ++ (irW ct (b 4) 150 TX ++ (irW ct (b 5) 2 NB)))))) := hD
  have hl : lv_has ls 4 [(0, .ref (b 0)), (1, .int (zI pl)), (2, .long (zJ v_))] := hl
  have tB := tcB ht (p := i) (by omega)
  refine lv_aload_n hx hb dX9_readWord_7 rfl (lv_at hl 0 rfl) ?_
  refine z_callV (C := RX9) (q0 := 0) (ci := 7) (As := []) (rest := []) ([] : va_W) ([] : va_W) hx hb hml hown hts hl hE hS hA (zr0 ([] : va_W) hP) (zr0D ([] : va_W) hD) (c_X9_here l D ct ad b M SP SV TX NB sc tl cd i cm h (by assumption) (by omega)) gX9_readWord_X9_here rfl rfl k_X9_here ⟨Nat.le_of_ble_eq_true rfl, Nat.le_of_ble_eq_true rfl⟩ rfl rfl rfl rfl (Nat.le_of_ble_eq_true rfl) ⟨Nat.le_of_ble_eq_true rfl, Nat.le_of_ble_eq_true rfl⟩ dX9_readWord_8 rfl (fun v w1 H locs hpost hP hD hS => ?_)
  obtain ⟨rfl, rfl⟩ := hpost
  have hP := zr0' hP
  have hD := zr0D' hD
  have hP : va_P D vwCl (moW b sc tl cd i cm h ++ (jrW ct (b 1) 94 M ++ (jrW ct (b 2) 94 SP ++ (jrW ct (b 3) 376 SV ++ (irW ct (b 4) 150 TX ++ (irW ct (b 5) 2 NB)))))) H := hP
  have hD : va_D A (moW b sc tl cd i cm h ++ (jrW ct (b 1) 94 M ++ (jrW ct (b 2) 94 SP ++ (jrW ct (b 3) 376 SV ++ (irW ct (b 4) 150 TX ++ (irW ct (b 5) 2 NB)))))) := hD
  refine W.eq (g2 := F0 m 11 ls [.int (zI (hrf TX tl i))]) rfl ?_
  refine z_bipush hx hb dX9_readWord_11 (by decide) ?_
  refine z_bipush hx hb dX9_readWord_13 (by decide) ?_
  refine z_callS (As := [.int (zI (hrf TX tl i)), .int (zI 97), .int (zI 122)]) (rest := []) ([] : va_W) (moW b sc tl cd i cm h ++ (jrW ct (b 1) 94 M ++ (jrW ct (b 2) 94 SP ++ (jrW ct (b 3) 376 SV ++ (irW ct (b 4) 150 TX ++ (irW ct (b 5) 2 NB)))))) hx hb hml hown hts hl hE hS hA hP hD (c_X9_in l D ct ad (hrf TX tl i) 97 122 (by omega) (by omega) (by omega)) gX9_readWord_X9_in rfl k_X9_in ⟨Nat.le_of_ble_eq_true rfl, Nat.le_of_ble_eq_true rfl⟩ rfl (Nat.le_of_ble_eq_true rfl) ⟨Nat.le_of_ble_eq_true rfl, Nat.le_of_ble_eq_true rfl⟩ dX9_readWord_15 rfl (fun v w1 H locs hpost hP hD hS => ?_)
  obtain ⟨rfl, rfl⟩ := hpost
  have hP : va_P D vwCl (moW b sc tl cd i cm h ++ (jrW ct (b 1) 94 M ++ (jrW ct (b 2) 94 SP ++ (jrW ct (b 3) 376 SV ++ (irW ct (b 4) 150 TX ++ (irW ct (b 5) 2 NB)))))) H := hP
  have hD : va_D A (moW b sc tl cd i cm h ++ (jrW ct (b 1) 94 M ++ (jrW ct (b 2) 94 SP ++ (jrW ct (b 3) 376 SV ++ (irW ct (b 4) 150 TX ++ (irW ct (b 5) 2 NB)))))) := hD
  refine W.eq (g2 := F0 m 18 ls [.int (zI (zB (97 ≤ (hrf TX tl i) ∧ (hrf TX tl i) ≤ 122)))]) rfl ?_
  refine zb_if_eq (tgt := 67) hx hb dX9_readWord_18 (by decide) (fun hc_18 => ?_) (fun hc_18 => ?_)
  · have hc_18 := hc_18
    have eE : i = we TX tl pl := by rw [← hw]; exact (we_f (by omega)).symm
    refine lv_aload_n hx hb dX9_readWord_67 rfl (lv_at hl 0 rfl) ?_
    refine lv_aload_n hx hb dX9_readWord_68 rfl (lv_at hl 0 rfl) ?_
    refine va_get (D := D) (ci := 7) (v := .int (zI i)) (C := RX9) (T := TX9) (N := 11) hx hb hts hin_X9 hown hK hP 0 rfl rfl 7 (by decide) hf_0 (fun _ h9 => h9) rfl dX9_readWord_69 ?_
    refine lv_iload_n hx hb dX9_readWord_72 rfl (lv_at hl 1 rfl) ?_
    refine z_isub hx hb dX9_readWord_73 ?_
    refine z_iconst hx hb dX9_readWord_74 ?_
    refine z_icmp_le (tgt := 83) hx hb dX9_readWord_75 (by decide) (by omega) (by omega) (fun hc_75 => ?_) (fun hc_75 => ?_)
    · have hc_75 := hc_75
      have vB := vN_6 (s := pl) (i := i) hL (by omega)
      have hv5 := hv (by omega)
      refine lv_lload_n hx hb dX9_readWord_83 rfl (lv_at hl 2 rfl) ?_
      refine z_callS (As := [.long (zJ v_)]) (rest := [.ref (b 0)]) ([] : va_W) (moW b sc tl cd i cm h ++ (jrW ct (b 1) 94 M ++ (jrW ct (b 2) 94 SP ++ (jrW ct (b 3) 376 SV ++ (irW ct (b 4) 150 TX ++ (irW ct (b 5) 2 NB)))))) hx hb hml hown hts hl hE hS hA hP hD (c_X9_commandOf l D ct ad v_ (by omega)) gX9_readWord_X9_commandOf rfl k_X9_commandOf ⟨Nat.le_of_ble_eq_true rfl, Nat.le_of_ble_eq_true rfl⟩ rfl (Nat.le_of_ble_eq_true rfl) ⟨Nat.le_of_ble_eq_true rfl, Nat.le_of_ble_eq_true rfl⟩ dX9_readWord_84 rfl (fun v w1 H locs hpost hP hD hS => ?_)
      obtain ⟨rfl, rfl⟩ := hpost
      have hP : va_P D vwCl (moW b sc tl cd i cm h ++ (jrW ct (b 1) 94 M ++ (jrW ct (b 2) 94 SP ++ (jrW ct (b 3) 376 SV ++ (irW ct (b 4) 150 TX ++ (irW ct (b 5) 2 NB)))))) H := hP
      have hD : va_D A (moW b sc tl cd i cm h ++ (jrW ct (b 1) 94 M ++ (jrW ct (b 2) 94 SP ++ (jrW ct (b 3) 376 SV ++ (irW ct (b 4) 150 TX ++ (irW ct (b 5) 2 NB)))))) := hD
      refine W.eq (g2 := F0 m 87 ls [.int (zI (cmo v_)), .ref (b 0)]) rfl ?_
      refine z_canI (show cmo v_ = cc TX tl pl from (by rw [cc, ← eE, hv (by omega)]; exact cmo_cw hL (by omega))) ?_
      refine z_put (ct := ct) (ad := ad) (ci := 7) (v := .int (zI (cc TX tl pl))) (ty := tyX9 8) (C := RX9) (T := TX9) (N := 11) (w2 := moW b sc tl cd i (cc TX tl pl) h ++ (jrW ct (b 1) 94 M ++ (jrW ct (b 2) 94 SP ++ (jrW ct (b 3) 376 SV ++ (irW ct (b 4) 150 TX ++ (irW ct (b 5) 2 NB)))))) hx hb hts hin_X9 tyX9 tyX9_ok nmX9 hown hE hP hD hS 0 rfl rfl 8 (by decide) hf_1 (fun _ h9 => h9) rfl (by decide +kernel) rfl rfl (Nat.le_of_ble_eq_true rfl) dX9_readWord_87 (rfl) (fun H locs hP hD hS => ?_)
      refine lv_aload_n hx hb dX9_readWord_90 rfl (lv_at hl 0 rfl) ?_
      refine lv_aload_n hx hb dX9_readWord_91 rfl (lv_at hl 0 rfl) ?_
      refine va_get (D := D) (ci := 7) (v := .int (zI (cc TX tl pl))) (C := RX9) (T := TX9) (N := 11) hx hb hts hin_X9 hown hK hP 0 rfl rfl 8 (by decide) hf_1 (fun _ h9 => h9) rfl dX9_readWord_92 ?_
      refine z_ldc hx hb (-2000000000) hown hf_2 (by decide) dX9_readWord_95 ?_
      refine z_icmp_ne (tgt := 104) hx hb dX9_readWord_97 (by decide) (by omega) (by omega) (fun hc_97 => ?_) (fun hc_97 => ?_)
      · have hc_97 := hc_97
        refine lv_aload_n hx hb dX9_readWord_104 rfl (lv_at hl 0 rfl) ?_
        refine va_get (D := D) (ci := 7) (v := .int (zI i)) (C := RX9) (T := TX9) (N := 11) hx hb hts hin_X9 hown hK hP 0 rfl rfl 7 (by decide) hf_0 (fun _ h9 => h9) rfl dX9_readWord_105 ?_
        refine z_put (ct := ct) (ad := ad) (ci := 7) (v := .int (zI i)) (ty := tyX9 7) (C := RX9) (T := TX9) (N := 11) (w2 := moW b sc tl cd i (cc TX tl pl) h ++ (jrW ct (b 1) 94 M ++ (jrW ct (b 2) 94 SP ++ (jrW ct (b 3) 376 SV ++ (irW ct (b 4) 150 TX ++ (irW ct (b 5) 2 NB)))))) hx hb hts hin_X9 tyX9 tyX9_ok nmX9 hown hE hP hD hS 0 rfl rfl 7 (by decide) hf_0 (fun _ h9 => h9) rfl (by decide +kernel) rfl rfl (Nat.le_of_ble_eq_true rfl) dX9_readWord_108 (rfl) (fun H locs hP hD hS => ?_)
        refine lv_aload_n hx hb dX9_readWord_111 rfl (lv_at hl 0 rfl) ?_
        refine va_get (D := D) (ci := 7) (v := .int (zI (cc TX tl pl))) (C := RX9) (T := TX9) (N := 11) hx hb hts hin_X9 hown hK hP 0 rfl rfl 8 (by decide) hf_1 (fun _ h9 => h9) rfl dX9_readWord_112 ?_
        refine z_ldc hx hb (-2000000000) hown hf_2 (by decide) dX9_readWord_115 ?_
        refine z_icmp_eq (tgt := 124) hx hb dX9_readWord_117 (by decide) (by omega) (by omega) (fun hc_117 => ?_) (fun hc_117 => ?_)
        · have hc_117 := hc_117
          exact absurd hc_117 hok
        · have hc_117 := hc_117
          refine z_iconst hx hb dX9_readWord_120 ?_
          refine lv_goto (tgt := 125) hx hb dX9_readWord_121 (by decide) ?_
          exact z_zret hx hb hr (by first | rfl | exact zB_nar) hlocks hP hD hS ⟨Nat.le_of_ble_eq_true rfl, Nat.le_of_ble_eq_true rfl⟩ dX9_readWord_125 (⟨congrArg (fun z => some (Value.int (zI z))) (rfl), by first | rfl | rw [eE]⟩)
      · have hc_97 := hc_97
        exact absurd hc_97 hok
    · have hc_75 := hc_75
      refine z_ldc hx hb (-2000000000) hown hf_2 (by decide) dX9_readWord_78 ?_
      refine lv_goto (tgt := 87) hx hb dX9_readWord_80 (by decide) ?_
      refine z_canI (show (-2000000000) = cc TX tl pl from (by rw [cc, ← eE]; exact (cw_no (by omega)).symm)) ?_
      refine z_put (ct := ct) (ad := ad) (ci := 7) (v := .int (zI (cc TX tl pl))) (ty := tyX9 8) (C := RX9) (T := TX9) (N := 11) (w2 := moW b sc tl cd i (cc TX tl pl) h ++ (jrW ct (b 1) 94 M ++ (jrW ct (b 2) 94 SP ++ (jrW ct (b 3) 376 SV ++ (irW ct (b 4) 150 TX ++ (irW ct (b 5) 2 NB)))))) hx hb hts hin_X9 tyX9 tyX9_ok nmX9 hown hE hP hD hS 0 rfl rfl 8 (by decide) hf_1 (fun _ h9 => h9) rfl (by decide +kernel) rfl rfl (Nat.le_of_ble_eq_true rfl) dX9_readWord_87 (rfl) (fun H locs hP hD hS => ?_)
      refine lv_aload_n hx hb dX9_readWord_90 rfl (lv_at hl 0 rfl) ?_
      refine lv_aload_n hx hb dX9_readWord_91 rfl (lv_at hl 0 rfl) ?_
      refine va_get (D := D) (ci := 7) (v := .int (zI (cc TX tl pl))) (C := RX9) (T := TX9) (N := 11) hx hb hts hin_X9 hown hK hP 0 rfl rfl 8 (by decide) hf_1 (fun _ h9 => h9) rfl dX9_readWord_92 ?_
      refine z_ldc hx hb (-2000000000) hown hf_2 (by decide) dX9_readWord_95 ?_
      refine z_icmp_ne (tgt := 104) hx hb dX9_readWord_97 (by decide) (by omega) (by omega) (fun hc_97 => ?_) (fun hc_97 => ?_)
      · have hc_97 := hc_97
        refine lv_aload_n hx hb dX9_readWord_104 rfl (lv_at hl 0 rfl) ?_
        refine va_get (D := D) (ci := 7) (v := .int (zI i)) (C := RX9) (T := TX9) (N := 11) hx hb hts hin_X9 hown hK hP 0 rfl rfl 7 (by decide) hf_0 (fun _ h9 => h9) rfl dX9_readWord_105 ?_
        refine z_put (ct := ct) (ad := ad) (ci := 7) (v := .int (zI i)) (ty := tyX9 7) (C := RX9) (T := TX9) (N := 11) (w2 := moW b sc tl cd i (cc TX tl pl) h ++ (jrW ct (b 1) 94 M ++ (jrW ct (b 2) 94 SP ++ (jrW ct (b 3) 376 SV ++ (irW ct (b 4) 150 TX ++ (irW ct (b 5) 2 NB)))))) hx hb hts hin_X9 tyX9 tyX9_ok nmX9 hown hE hP hD hS 0 rfl rfl 7 (by decide) hf_0 (fun _ h9 => h9) rfl (by decide +kernel) rfl rfl (Nat.le_of_ble_eq_true rfl) dX9_readWord_108 (rfl) (fun H locs hP hD hS => ?_)
        refine lv_aload_n hx hb dX9_readWord_111 rfl (lv_at hl 0 rfl) ?_
        refine va_get (D := D) (ci := 7) (v := .int (zI (cc TX tl pl))) (C := RX9) (T := TX9) (N := 11) hx hb hts hin_X9 hown hK hP 0 rfl rfl 8 (by decide) hf_1 (fun _ h9 => h9) rfl dX9_readWord_112 ?_
        refine z_ldc hx hb (-2000000000) hown hf_2 (by decide) dX9_readWord_115 ?_
        refine z_icmp_eq (tgt := 124) hx hb dX9_readWord_117 (by decide) (by omega) (by omega) (fun hc_117 => ?_) (fun hc_117 => ?_)
        · have hc_117 := hc_117
          exact absurd hc_117 hok
        · have hc_117 := hc_117
          refine z_iconst hx hb dX9_readWord_120 ?_
          refine lv_goto (tgt := 125) hx hb dX9_readWord_121 (by decide) ?_
          exact z_zret hx hb hr (by first | rfl | exact zB_nar) hlocks hP hD hS ⟨Nat.le_of_ble_eq_true rfl, Nat.le_of_ble_eq_true rfl⟩ dX9_readWord_125 (⟨congrArg (fun z => some (Value.int (zI z))) (rfl), by first | rfl | rw [eE]⟩)
      · have hc_97 := hc_97
        exact absurd hc_97 hok
  · have hc_18 := hc_18
    refine lv_aload_n hx hb dX9_readWord_21 rfl (lv_at hl 0 rfl) ?_
    refine va_get (D := D) (ci := 7) (v := .int (zI i)) (C := RX9) (T := TX9) (N := 11) hx hb hts hin_X9 hown hK hP 0 rfl rfl 7 (by decide) hf_0 (fun _ h9 => h9) rfl dX9_readWord_22 ?_
    refine lv_iload_n hx hb dX9_readWord_25 rfl (lv_at hl 1 rfl) ?_
    refine z_isub hx hb dX9_readWord_26 ?_
    refine z_bipush hx hb dX9_readWord_27 (by decide) ?_
    refine z_icmp_ge (tgt := 50) hx hb dX9_readWord_29 (by decide) (by omega) (by omega) (fun hc_29 => ?_) (fun hc_29 => ?_)
    · have hc_29 := hc_29
      refine z_ldc2 hx hb (-1) hown hf_3 (by decide) dX9_readWord_50 ?_
      refine lv_lstore_n (lv' := [(2, .long (zJ (-1))), (0, .ref (b 0)), (1, .int (zI pl))]) hx hb dX9_readWord_53 rfl hl (by decide) rfl (fun ls hl => ?_)
      refine lv_aload_n hx hb dX9_readWord_54 rfl (lv_at hl 1 rfl) ?_
      refine lv_dup hx hb dX9_readWord_55 rfl ?_
      refine va_get (D := D) (ci := 7) (v := .int (zI i)) (C := RX9) (T := TX9) (N := 11) hx hb hts hin_X9 hown hK hP 0 rfl rfl 7 (by decide) hf_0 (fun _ h9 => h9) rfl dX9_readWord_56 ?_
      refine z_iconst hx hb dX9_readWord_59 ?_
      refine z_iadd hx hb dX9_readWord_60 ?_
      refine z_put (ct := ct) (ad := ad) (ci := 7) (v := .int (zI (i + 1))) (ty := tyX9 7) (C := RX9) (T := TX9) (N := 11) (w2 := moW b sc tl cd (i + 1) cm h ++ (jrW ct (b 1) 94 M ++ (jrW ct (b 2) 94 SP ++ (jrW ct (b 3) 376 SV ++ (irW ct (b 4) 150 TX ++ (irW ct (b 5) 2 NB)))))) hx hb hts hin_X9 tyX9 tyX9_ok nmX9 hown hE hP hD hS 0 rfl rfl 7 (by decide) hf_0 (fun _ h9 => h9) rfl (by decide +kernel) rfl rfl (Nat.le_of_ble_eq_true rfl) dX9_readWord_61 (rfl) (fun H locs hP hD hS => ?_)
      refine lv_goto (tgt := 7) hx hb dX9_readWord_64 (by decide) ?_
      exact ih_7 (i + 1, (-1)) ⟨(show pl ≤ (i + 1) ∧ (i + 1) ≤ tl from (by omega)), (show we TX tl (i + 1) = we TX tl pl from (by rw [← hw]; exact we_t (by omega))), (show ∀ j : Int, pl ≤ j → j < (i + 1) → 97 ≤ TX j ∧ TX j ≤ 122 from (fun j h1 h2 => by rcases (show j < i ∨ j = i by omega) with z | z <;> first | exact hL j h1 z | (rw [z]; omega))), (show (i + 1) - pl ≤ 6 → (-1) = vN TX pl ((i + 1) - pl).toNat from (fun z => by first | (rw [vNS hi.1, hv (by omega)]; omega) | omega))⟩ (show (tl - (i + 1)).toNat < (tl - i).toNat from (by omega)) _ _ _ hP hD hS (lv_sub hl [1, 2, 0] rfl)
    · have hc_29 := hc_29
      refine lv_lload_n hx hb dX9_readWord_32 rfl (lv_at hl 2 rfl) ?_
      refine z_ldc2 hx hb 27 hown hf_4 (by decide) dX9_readWord_33 ?_
      refine z_lmul hx hb dX9_readWord_36 ?_
      refine lv_aload_n hx hb dX9_readWord_37 rfl (lv_at hl 0 rfl) ?_
      refine z_callV (C := RX9) (q0 := 0) (ci := 7) (As := []) (rest := [.long (zJ (v_ * 27))]) ([] : va_W) ([] : va_W) hx hb hml hown hts hl hE hS hA (zr0 ([] : va_W) hP) (zr0D ([] : va_W) hD) (c_X9_here l D ct ad b M SP SV TX NB sc tl cd i cm h (by assumption) (by omega)) gX9_readWord_X9_here rfl rfl k_X9_here ⟨Nat.le_of_ble_eq_true rfl, Nat.le_of_ble_eq_true rfl⟩ rfl rfl rfl rfl (Nat.le_of_ble_eq_true rfl) ⟨Nat.le_of_ble_eq_true rfl, Nat.le_of_ble_eq_true rfl⟩ dX9_readWord_38 rfl (fun v w1 H locs hpost hP hD hS => ?_)
      obtain ⟨rfl, rfl⟩ := hpost
      have hP := zr0' hP
      have hD := zr0D' hD
      have hP : va_P D vwCl (moW b sc tl cd i cm h ++ (jrW ct (b 1) 94 M ++ (jrW ct (b 2) 94 SP ++ (jrW ct (b 3) 376 SV ++ (irW ct (b 4) 150 TX ++ (irW ct (b 5) 2 NB)))))) H := hP
      have hD : va_D A (moW b sc tl cd i cm h ++ (jrW ct (b 1) 94 M ++ (jrW ct (b 2) 94 SP ++ (jrW ct (b 3) 376 SV ++ (irW ct (b 4) 150 TX ++ (irW ct (b 5) 2 NB)))))) := hD
      refine W.eq (g2 := F0 m 41 ls [.int (zI (hrf TX tl i)), .long (zJ (v_ * 27))]) rfl ?_
      refine z_i2l hx hb dX9_readWord_41 (by omega) ?_
      refine z_ladd hx hb dX9_readWord_42 ?_
      refine z_ldc2 hx hb 96 hown hf_5 (by decide) dX9_readWord_43 ?_
      refine z_lsub hx hb dX9_readWord_46 ?_
      refine lv_goto (tgt := 53) hx hb dX9_readWord_47 (by decide) ?_
      refine lv_lstore_n (lv' := [(2, .long (zJ (((v_ * 27) + (hrf TX tl i)) - 96))), (0, .ref (b 0)), (1, .int (zI pl))]) hx hb dX9_readWord_53 rfl hl (by decide) rfl (fun ls hl => ?_)
      refine lv_aload_n hx hb dX9_readWord_54 rfl (lv_at hl 1 rfl) ?_
      refine lv_dup hx hb dX9_readWord_55 rfl ?_
      refine va_get (D := D) (ci := 7) (v := .int (zI i)) (C := RX9) (T := TX9) (N := 11) hx hb hts hin_X9 hown hK hP 0 rfl rfl 7 (by decide) hf_0 (fun _ h9 => h9) rfl dX9_readWord_56 ?_
      refine z_iconst hx hb dX9_readWord_59 ?_
      refine z_iadd hx hb dX9_readWord_60 ?_
      refine z_put (ct := ct) (ad := ad) (ci := 7) (v := .int (zI (i + 1))) (ty := tyX9 7) (C := RX9) (T := TX9) (N := 11) (w2 := moW b sc tl cd (i + 1) cm h ++ (jrW ct (b 1) 94 M ++ (jrW ct (b 2) 94 SP ++ (jrW ct (b 3) 376 SV ++ (irW ct (b 4) 150 TX ++ (irW ct (b 5) 2 NB)))))) hx hb hts hin_X9 tyX9 tyX9_ok nmX9 hown hE hP hD hS 0 rfl rfl 7 (by decide) hf_0 (fun _ h9 => h9) rfl (by decide +kernel) rfl rfl (Nat.le_of_ble_eq_true rfl) dX9_readWord_61 (rfl) (fun H locs hP hD hS => ?_)
      refine lv_goto (tgt := 7) hx hb dX9_readWord_64 (by decide) ?_
      exact ih_7 (i + 1, ((v_ * 27) + (hrf TX tl i)) - 96) ⟨(show pl ≤ (i + 1) ∧ (i + 1) ≤ tl from (by omega)), (show we TX tl (i + 1) = we TX tl pl from (by rw [← hw]; exact we_t (by omega))), (show ∀ j : Int, pl ≤ j → j < (i + 1) → 97 ≤ TX j ∧ TX j ≤ 122 from (fun j h1 h2 => by rcases (show j < i ∨ j = i by omega) with z | z <;> first | exact hL j h1 z | (rw [z]; omega))), (show (i + 1) - pl ≤ 6 → (((v_ * 27) + (hrf TX tl i)) - 96) = vN TX pl ((i + 1) - pl).toNat from (fun z => by first | (rw [vNS hi.1, hv (by omega)]; omega) | omega))⟩ (show (tl - (i + 1)).toNat < (tl - i).toNat from (by omega)) _ _ _ hP hD hS (lv_sub hl [1, 2, 0] rfl)
set_option maxHeartbeats 4000000 in
set_option maxRecDepth 100000 in
theorem c_X9_readWord_no (l : Launch) (D : va_G) (ct ad : Nat → Nat) (b : Nat → Nat) (M SP SV TX NB : Int → Int) (sc tl cd pl cm h : Int) (ht : tInv TX tl) (hp : 0 ≤ pl ∧ pl ≤ tl) (hno : cc TX tl pl = -2000000000) : ZM l yX9_readWord wsX9_readWord ({ frames := 1, cells := 0, slots := 0, locals := 22 } : Room) D ct ad [.ref (b 0)] (moW b sc tl cd pl cm h ++ (jrW ct (b 1) 94 M ++ (jrW ct (b 2) 94 SP ++ (jrW ct (b 3) 376 SV ++ (irW ct (b 4) 150 TX ++ (irW ct (b 5) 2 NB)))))) (zD (some (.int (zI 0))) (moW b sc tl cd pl (cc TX tl pl) h ++ (jrW ct (b 1) 94 M ++ (jrW ct (b 2) 94 SP ++ (jrW ct (b 3) 376 SV ++ (irW ct (b 4) 150 TX ++ (irW ct (b 5) 2 NB))))))) := by
  refine ZM.of (cc := cX9_readWord) (maxL := 4) (ret := (some .boolean)) (by decide +kernel) rfl (Nat.le_of_ble_eq_true rfl) ?_
  intro p e s m below meth c A ls hx hb hr hts hown hlocks hml hname hE hP hD hA hS hl
  have hK := hE.1
  have hf_0 := hts (.fieldLink RX9 230 "RodGridsModel" "place" "I") (by decide +kernel)
  have hf_1 := hts (.fieldLink RX9 269 "RodGridsModel" "command" "I") (by decide +kernel)
  have hf_2 := hts (.constant RX9 233 (-2000000000)) (by decide +kernel)
  have hf_3 := hts (.constantLong RX9 166 (-1)) (by decide +kernel)
  have hf_4 := hts (.constantLong RX9 261 (27)) (by decide +kernel)
  have hf_5 := hts (.constantLong RX9 263 (96)) (by decide +kernel)
  have hin_X9 : ∀ z ∈ u_ws RX9 TX9 11, z ∈ wsX9_readWord := by decide +kernel
  have hl : lv_has ls 4 [(0, .ref (b 0))] := hl
  have t1 := ht.1
  have ccB := cwN_B (TX := TX) (s := pl) (e := we TX tl pl) 12 (Nat.le_refl _)
  have ccB : cc TX tl pl = -2000000000 ∨ (0 ≤ cc TX tl pl ∧ cc TX tl pl ≤ 11) := ccB
  refine lv_aload_n hx hb dX9_readWord_0 rfl (lv_at hl 0 rfl) ?_
  refine va_get (D := D) (ci := 7) (v := .int (zI pl)) (C := RX9) (T := TX9) (N := 11) hx hb hts hin_X9 hown hK hP 0 rfl rfl 7 (by decide) hf_0 (fun _ h9 => h9) rfl dX9_readWord_1 ?_
  refine lv_istore_n (lv' := [(1, .int (zI pl)), (0, .ref (b 0))]) hx hb dX9_readWord_4 rfl hl (by decide) rfl (fun ls hl => ?_)
  refine z_lconst (z := 0) hx hb dX9_readWord_5 rfl ?_
  refine lv_lstore_n (lv' := [(2, .long (zJ 0)), (1, .int (zI pl)), (0, .ref (b 0))]) hx hb dX9_readWord_6 rfl hl (by decide) rfl (fun ls hl => ?_)
  refine z_loop (σ := Int × Int) (fun q9 => (tl - q9.1).toNat) (fun q9 => (pl ≤ q9.1 ∧ q9.1 ≤ tl) ∧ (we TX tl q9.1 = we TX tl pl) ∧ (∀ j : Int, pl ≤ j → j < q9.1 → 97 ≤ TX j ∧ TX j ≤ 122) ∧ (q9.1 - pl ≤ 6 → q9.2 = vN TX pl (q9.1 - pl).toNat)) (fun q9 => moW b sc tl cd q9.1 cm h ++ (jrW ct (b 1) 94 M ++ (jrW ct (b 2) 94 SP ++ (jrW ct (b 3) 376 SV ++ (irW ct (b 4) 150 TX ++ (irW ct (b 5) 2 NB)))))) (fun q9 => [(0, .ref (b 0)), (1, .int (zI pl)), (2, .long (zJ q9.2))]) (fun q9 => []) (pl, 0) ⟨(show pl ≤ pl ∧ pl ≤ tl from (by omega)), (show we TX tl pl = we TX tl pl from (by rfl)), (show ∀ j : Int, pl ≤ j → j < pl → 97 ≤ TX j ∧ TX j ≤ 122 from (fun j h1 h2 => by omega)), (show pl - pl ≤ 6 → 0 = vN TX pl (pl - pl).toNat from (fun _ => by rw [show (pl - pl).toNat = 0 by omega]; rfl))⟩ hP hD hS (lv_sub hl [2, 1, 0] rfl) rfl ?_
  rintro ⟨i, v_⟩ hI_7 ih_7 H locs ls hP hD hS hl
  obtain ⟨hi, hw, hL, hv⟩ := hI_7
  have hi : pl ≤ i ∧ i ≤ tl := hi
  have hw : we TX tl i = we TX tl pl := hw
  have hL : ∀ j : Int, pl ≤ j → j < i → 97 ≤ TX j ∧ TX j ≤ 122 := hL
  have hv : i - pl ≤ 6 → v_ = vN TX pl (i - pl).toNat := hv
  have hP : va_P D vwCl (moW b sc tl cd i cm h ++ (jrW ct (b 1) 94 M ++ (jrW ct (b 2) 94 SP ++ (jrW ct (b 3) 376 SV ++ (irW ct (b 4) 150 TX ++ (irW ct (b 5) 2 NB)))))) H := hP
  have hD : va_D A (moW b sc tl cd i cm h ++ (jrW ct (b 1) 94 M ++ (jrW ct (b 2) 94 SP ++ (jrW ct (b 3) 376 SV ++ (irW ct (b 4) 150 TX ++ (irW ct (b 5) 2 NB)))))) := hD
  have hl : lv_has ls 4 [(0, .ref (b 0)), (1, .int (zI pl)), (2, .long (zJ v_))] := hl
  have tB := tcB ht (p := i) (by omega)
  refine lv_aload_n hx hb dX9_readWord_7 rfl (lv_at hl 0 rfl) ?_
  refine z_callV (C := RX9) (q0 := 0) (ci := 7) (As := []) (rest := []) ([] : va_W) ([] : va_W) hx hb hml hown hts hl hE hS hA (zr0 ([] : va_W) hP) (zr0D ([] : va_W) hD) (c_X9_here l D ct ad b M SP SV TX NB sc tl cd i cm h (by assumption) (by omega)) gX9_readWord_X9_here rfl rfl k_X9_here ⟨Nat.le_of_ble_eq_true rfl, Nat.le_of_ble_eq_true rfl⟩ rfl rfl rfl rfl (Nat.le_of_ble_eq_true rfl) ⟨Nat.le_of_ble_eq_true rfl, Nat.le_of_ble_eq_true rfl⟩ dX9_readWord_8 rfl (fun v w1 H locs hpost hP hD hS => ?_)
  obtain ⟨rfl, rfl⟩ := hpost
  have hP := zr0' hP
  have hD := zr0D' hD
  have hP : va_P D vwCl (moW b sc tl cd i cm h ++ (jrW ct (b 1) 94 M ++ (jrW ct (b 2) 94 SP ++ (jrW ct (b 3) 376 SV ++ (irW ct (b 4) 150 TX ++ (irW ct (b 5) 2 NB)))))) H := hP
  have hD : va_D A (moW b sc tl cd i cm h ++ (jrW ct (b 1) 94 M ++ (jrW ct (b 2) 94 SP ++ (jrW ct (b 3) 376 SV ++ (irW ct (b 4) 150 TX ++ (irW ct (b 5) 2 NB)))))) := hD
  refine W.eq (g2 := F0 m 11 ls [.int (zI (hrf TX tl i))]) rfl ?_
  refine z_bipush hx hb dX9_readWord_11 (by decide) ?_
  refine z_bipush hx hb dX9_readWord_13 (by decide) ?_
  refine z_callS (As := [.int (zI (hrf TX tl i)), .int (zI 97), .int (zI 122)]) (rest := []) ([] : va_W) (moW b sc tl cd i cm h ++ (jrW ct (b 1) 94 M ++ (jrW ct (b 2) 94 SP ++ (jrW ct (b 3) 376 SV ++ (irW ct (b 4) 150 TX ++ (irW ct (b 5) 2 NB)))))) hx hb hml hown hts hl hE hS hA hP hD (c_X9_in l D ct ad (hrf TX tl i) 97 122 (by omega) (by omega) (by omega)) gX9_readWord_X9_in rfl k_X9_in ⟨Nat.le_of_ble_eq_true rfl, Nat.le_of_ble_eq_true rfl⟩ rfl (Nat.le_of_ble_eq_true rfl) ⟨Nat.le_of_ble_eq_true rfl, Nat.le_of_ble_eq_true rfl⟩ dX9_readWord_15 rfl (fun v w1 H locs hpost hP hD hS => ?_)
  obtain ⟨rfl, rfl⟩ := hpost
  have hP : va_P D vwCl (moW b sc tl cd i cm h ++ (jrW ct (b 1) 94 M ++ (jrW ct (b 2) 94 SP ++ (jrW ct (b 3) 376 SV ++ (irW ct (b 4) 150 TX ++ (irW ct (b 5) 2 NB)))))) H := hP
  have hD : va_D A (moW b sc tl cd i cm h ++ (jrW ct (b 1) 94 M ++ (jrW ct (b 2) 94 SP ++ (jrW ct (b 3) 376 SV ++ (irW ct (b 4) 150 TX ++ (irW ct (b 5) 2 NB)))))) := hD
  refine W.eq (g2 := F0 m 18 ls [.int (zI (zB (97 ≤ (hrf TX tl i) ∧ (hrf TX tl i) ≤ 122)))]) rfl ?_
  refine zb_if_eq (tgt := 67) hx hb dX9_readWord_18 (by decide) (fun hc_18 => ?_) (fun hc_18 => ?_)
  · have hc_18 := hc_18
    have eE : i = we TX tl pl := by rw [← hw]; exact (we_f (by omega)).symm
    refine lv_aload_n hx hb dX9_readWord_67 rfl (lv_at hl 0 rfl) ?_
    refine lv_aload_n hx hb dX9_readWord_68 rfl (lv_at hl 0 rfl) ?_
    refine va_get (D := D) (ci := 7) (v := .int (zI i)) (C := RX9) (T := TX9) (N := 11) hx hb hts hin_X9 hown hK hP 0 rfl rfl 7 (by decide) hf_0 (fun _ h9 => h9) rfl dX9_readWord_69 ?_
    refine lv_iload_n hx hb dX9_readWord_72 rfl (lv_at hl 1 rfl) ?_
    refine z_isub hx hb dX9_readWord_73 ?_
    refine z_iconst hx hb dX9_readWord_74 ?_
    refine z_icmp_le (tgt := 83) hx hb dX9_readWord_75 (by decide) (by omega) (by omega) (fun hc_75 => ?_) (fun hc_75 => ?_)
    · have hc_75 := hc_75
      have vB := vN_6 (s := pl) (i := i) hL (by omega)
      have hv5 := hv (by omega)
      refine lv_lload_n hx hb dX9_readWord_83 rfl (lv_at hl 2 rfl) ?_
      refine z_callS (As := [.long (zJ v_)]) (rest := [.ref (b 0)]) ([] : va_W) (moW b sc tl cd i cm h ++ (jrW ct (b 1) 94 M ++ (jrW ct (b 2) 94 SP ++ (jrW ct (b 3) 376 SV ++ (irW ct (b 4) 150 TX ++ (irW ct (b 5) 2 NB)))))) hx hb hml hown hts hl hE hS hA hP hD (c_X9_commandOf l D ct ad v_ (by omega)) gX9_readWord_X9_commandOf rfl k_X9_commandOf ⟨Nat.le_of_ble_eq_true rfl, Nat.le_of_ble_eq_true rfl⟩ rfl (Nat.le_of_ble_eq_true rfl) ⟨Nat.le_of_ble_eq_true rfl, Nat.le_of_ble_eq_true rfl⟩ dX9_readWord_84 rfl (fun v w1 H locs hpost hP hD hS => ?_)
      obtain ⟨rfl, rfl⟩ := hpost
      have hP : va_P D vwCl (moW b sc tl cd i cm h ++ (jrW ct (b 1) 94 M ++ (jrW ct (b 2) 94 SP ++ (jrW ct (b 3) 376 SV ++ (irW ct (b 4) 150 TX ++ (irW ct (b 5) 2 NB)))))) H := hP
      have hD : va_D A (moW b sc tl cd i cm h ++ (jrW ct (b 1) 94 M ++ (jrW ct (b 2) 94 SP ++ (jrW ct (b 3) 376 SV ++ (irW ct (b 4) 150 TX ++ (irW ct (b 5) 2 NB)))))) := hD
      refine W.eq (g2 := F0 m 87 ls [.int (zI (cmo v_)), .ref (b 0)]) rfl ?_
      refine z_canI (show cmo v_ = cc TX tl pl from (by rw [cc, ← eE, hv (by omega)]; exact cmo_cw hL (by omega))) ?_
      refine z_put (ct := ct) (ad := ad) (ci := 7) (v := .int (zI (cc TX tl pl))) (ty := tyX9 8) (C := RX9) (T := TX9) (N := 11) (w2 := moW b sc tl cd i (cc TX tl pl) h ++ (jrW ct (b 1) 94 M ++ (jrW ct (b 2) 94 SP ++ (jrW ct (b 3) 376 SV ++ (irW ct (b 4) 150 TX ++ (irW ct (b 5) 2 NB)))))) hx hb hts hin_X9 tyX9 tyX9_ok nmX9 hown hE hP hD hS 0 rfl rfl 8 (by decide) hf_1 (fun _ h9 => h9) rfl (by decide +kernel) rfl rfl (Nat.le_of_ble_eq_true rfl) dX9_readWord_87 (rfl) (fun H locs hP hD hS => ?_)
      refine lv_aload_n hx hb dX9_readWord_90 rfl (lv_at hl 0 rfl) ?_
      refine lv_aload_n hx hb dX9_readWord_91 rfl (lv_at hl 0 rfl) ?_
      refine va_get (D := D) (ci := 7) (v := .int (zI (cc TX tl pl))) (C := RX9) (T := TX9) (N := 11) hx hb hts hin_X9 hown hK hP 0 rfl rfl 8 (by decide) hf_1 (fun _ h9 => h9) rfl dX9_readWord_92 ?_
      refine z_ldc hx hb (-2000000000) hown hf_2 (by decide) dX9_readWord_95 ?_
      refine z_icmp_ne (tgt := 104) hx hb dX9_readWord_97 (by decide) (by omega) (by omega) (fun hc_97 => ?_) (fun hc_97 => ?_)
      · have hc_97 := hc_97
        exact absurd hno hc_97
      · have hc_97 := hc_97
        refine lv_iload_n hx hb dX9_readWord_100 rfl (lv_at hl 1 rfl) ?_
        refine lv_goto (tgt := 108) hx hb dX9_readWord_101 (by decide) ?_
        refine z_put (ct := ct) (ad := ad) (ci := 7) (v := .int (zI pl)) (ty := tyX9 7) (C := RX9) (T := TX9) (N := 11) (w2 := moW b sc tl cd pl (cc TX tl pl) h ++ (jrW ct (b 1) 94 M ++ (jrW ct (b 2) 94 SP ++ (jrW ct (b 3) 376 SV ++ (irW ct (b 4) 150 TX ++ (irW ct (b 5) 2 NB)))))) hx hb hts hin_X9 tyX9 tyX9_ok nmX9 hown hE hP hD hS 0 rfl rfl 7 (by decide) hf_0 (fun _ h9 => h9) rfl (by decide +kernel) rfl rfl (Nat.le_of_ble_eq_true rfl) dX9_readWord_108 (rfl) (fun H locs hP hD hS => ?_)
        refine lv_aload_n hx hb dX9_readWord_111 rfl (lv_at hl 0 rfl) ?_
        refine va_get (D := D) (ci := 7) (v := .int (zI (cc TX tl pl))) (C := RX9) (T := TX9) (N := 11) hx hb hts hin_X9 hown hK hP 0 rfl rfl 8 (by decide) hf_1 (fun _ h9 => h9) rfl dX9_readWord_112 ?_
        refine z_ldc hx hb (-2000000000) hown hf_2 (by decide) dX9_readWord_115 ?_
        refine z_icmp_eq (tgt := 124) hx hb dX9_readWord_117 (by decide) (by omega) (by omega) (fun hc_117 => ?_) (fun hc_117 => ?_)
        · have hc_117 := hc_117
          refine z_iconst hx hb dX9_readWord_124 ?_
          exact z_zret hx hb hr (by first | rfl | exact zB_nar) hlocks hP hD hS ⟨Nat.le_of_ble_eq_true rfl, Nat.le_of_ble_eq_true rfl⟩ dX9_readWord_125 (⟨congrArg (fun z => some (Value.int (zI z))) (rfl), by first | rfl | rw [eE]⟩)
        · have hc_117 := hc_117
          exact absurd hno hc_117
    · have hc_75 := hc_75
      refine z_ldc hx hb (-2000000000) hown hf_2 (by decide) dX9_readWord_78 ?_
      refine lv_goto (tgt := 87) hx hb dX9_readWord_80 (by decide) ?_
      refine z_canI (show (-2000000000) = cc TX tl pl from (by rw [cc, ← eE]; exact (cw_no (by omega)).symm)) ?_
      refine z_put (ct := ct) (ad := ad) (ci := 7) (v := .int (zI (cc TX tl pl))) (ty := tyX9 8) (C := RX9) (T := TX9) (N := 11) (w2 := moW b sc tl cd i (cc TX tl pl) h ++ (jrW ct (b 1) 94 M ++ (jrW ct (b 2) 94 SP ++ (jrW ct (b 3) 376 SV ++ (irW ct (b 4) 150 TX ++ (irW ct (b 5) 2 NB)))))) hx hb hts hin_X9 tyX9 tyX9_ok nmX9 hown hE hP hD hS 0 rfl rfl 8 (by decide) hf_1 (fun _ h9 => h9) rfl (by decide +kernel) rfl rfl (Nat.le_of_ble_eq_true rfl) dX9_readWord_87 (rfl) (fun H locs hP hD hS => ?_)
      refine lv_aload_n hx hb dX9_readWord_90 rfl (lv_at hl 0 rfl) ?_
      refine lv_aload_n hx hb dX9_readWord_91 rfl (lv_at hl 0 rfl) ?_
      refine va_get (D := D) (ci := 7) (v := .int (zI (cc TX tl pl))) (C := RX9) (T := TX9) (N := 11) hx hb hts hin_X9 hown hK hP 0 rfl rfl 8 (by decide) hf_1 (fun _ h9 => h9) rfl dX9_readWord_92 ?_
      refine z_ldc hx hb (-2000000000) hown hf_2 (by decide) dX9_readWord_95 ?_
      refine z_icmp_ne (tgt := 104) hx hb dX9_readWord_97 (by decide) (by omega) (by omega) (fun hc_97 => ?_) (fun hc_97 => ?_)
      · have hc_97 := hc_97
        exact absurd hno hc_97
      · have hc_97 := hc_97
        refine lv_iload_n hx hb dX9_readWord_100 rfl (lv_at hl 1 rfl) ?_
        refine lv_goto (tgt := 108) hx hb dX9_readWord_101 (by decide) ?_
        refine z_put (ct := ct) (ad := ad) (ci := 7) (v := .int (zI pl)) (ty := tyX9 7) (C := RX9) (T := TX9) (N := 11) (w2 := moW b sc tl cd pl (cc TX tl pl) h ++ (jrW ct (b 1) 94 M ++ (jrW ct (b 2) 94 SP ++ (jrW ct (b 3) 376 SV ++ (irW ct (b 4) 150 TX ++ (irW ct (b 5) 2 NB)))))) hx hb hts hin_X9 tyX9 tyX9_ok nmX9 hown hE hP hD hS 0 rfl rfl 7 (by decide) hf_0 (fun _ h9 => h9) rfl (by decide +kernel) rfl rfl (Nat.le_of_ble_eq_true rfl) dX9_readWord_108 (rfl) (fun H locs hP hD hS => ?_)
        refine lv_aload_n hx hb dX9_readWord_111 rfl (lv_at hl 0 rfl) ?_
        refine va_get (D := D) (ci := 7) (v := .int (zI (cc TX tl pl))) (C := RX9) (T := TX9) (N := 11) hx hb hts hin_X9 hown hK hP 0 rfl rfl 8 (by decide) hf_1 (fun _ h9 => h9) rfl dX9_readWord_112 ?_
        refine z_ldc hx hb (-2000000000) hown hf_2 (by decide) dX9_readWord_115 ?_
        refine z_icmp_eq (tgt := 124) hx hb dX9_readWord_117 (by decide) (by omega) (by omega) (fun hc_117 => ?_) (fun hc_117 => ?_)
        · have hc_117 := hc_117
          refine z_iconst hx hb dX9_readWord_124 ?_
          exact z_zret hx hb hr (by first | rfl | exact zB_nar) hlocks hP hD hS ⟨Nat.le_of_ble_eq_true rfl, Nat.le_of_ble_eq_true rfl⟩ dX9_readWord_125 (⟨congrArg (fun z => some (Value.int (zI z))) (rfl), by first | rfl | rw [eE]⟩)
        · have hc_117 := hc_117
          exact absurd hno hc_117
  · have hc_18 := hc_18
    refine lv_aload_n hx hb dX9_readWord_21 rfl (lv_at hl 0 rfl) ?_
    refine va_get (D := D) (ci := 7) (v := .int (zI i)) (C := RX9) (T := TX9) (N := 11) hx hb hts hin_X9 hown hK hP 0 rfl rfl 7 (by decide) hf_0 (fun _ h9 => h9) rfl dX9_readWord_22 ?_
    refine lv_iload_n hx hb dX9_readWord_25 rfl (lv_at hl 1 rfl) ?_
    refine z_isub hx hb dX9_readWord_26 ?_
    refine z_bipush hx hb dX9_readWord_27 (by decide) ?_
    refine z_icmp_ge (tgt := 50) hx hb dX9_readWord_29 (by decide) (by omega) (by omega) (fun hc_29 => ?_) (fun hc_29 => ?_)
    · have hc_29 := hc_29
      refine z_ldc2 hx hb (-1) hown hf_3 (by decide) dX9_readWord_50 ?_
      refine lv_lstore_n (lv' := [(2, .long (zJ (-1))), (0, .ref (b 0)), (1, .int (zI pl))]) hx hb dX9_readWord_53 rfl hl (by decide) rfl (fun ls hl => ?_)
      refine lv_aload_n hx hb dX9_readWord_54 rfl (lv_at hl 1 rfl) ?_
      refine lv_dup hx hb dX9_readWord_55 rfl ?_
      refine va_get (D := D) (ci := 7) (v := .int (zI i)) (C := RX9) (T := TX9) (N := 11) hx hb hts hin_X9 hown hK hP 0 rfl rfl 7 (by decide) hf_0 (fun _ h9 => h9) rfl dX9_readWord_56 ?_
      refine z_iconst hx hb dX9_readWord_59 ?_
      refine z_iadd hx hb dX9_readWord_60 ?_
      refine z_put (ct := ct) (ad := ad) (ci := 7) (v := .int (zI (i + 1))) (ty := tyX9 7) (C := RX9) (T := TX9) (N := 11) (w2 := moW b sc tl cd (i + 1) cm h ++ (jrW ct (b 1) 94 M ++ (jrW ct (b 2) 94 SP ++ (jrW ct (b 3) 376 SV ++ (irW ct (b 4) 150 TX ++ (irW ct (b 5) 2 NB)))))) hx hb hts hin_X9 tyX9 tyX9_ok nmX9 hown hE hP hD hS 0 rfl rfl 7 (by decide) hf_0 (fun _ h9 => h9) rfl (by decide +kernel) rfl rfl (Nat.le_of_ble_eq_true rfl) dX9_readWord_61 (rfl) (fun H locs hP hD hS => ?_)
      refine lv_goto (tgt := 7) hx hb dX9_readWord_64 (by decide) ?_
      exact ih_7 (i + 1, (-1)) ⟨(show pl ≤ (i + 1) ∧ (i + 1) ≤ tl from (by omega)), (show we TX tl (i + 1) = we TX tl pl from (by rw [← hw]; exact we_t (by omega))), (show ∀ j : Int, pl ≤ j → j < (i + 1) → 97 ≤ TX j ∧ TX j ≤ 122 from (fun j h1 h2 => by rcases (show j < i ∨ j = i by omega) with z | z <;> first | exact hL j h1 z | (rw [z]; omega))), (show (i + 1) - pl ≤ 6 → (-1) = vN TX pl ((i + 1) - pl).toNat from (fun z => by first | (rw [vNS hi.1, hv (by omega)]; omega) | omega))⟩ (show (tl - (i + 1)).toNat < (tl - i).toNat from (by omega)) _ _ _ hP hD hS (lv_sub hl [1, 2, 0] rfl)
    · have hc_29 := hc_29
      refine lv_lload_n hx hb dX9_readWord_32 rfl (lv_at hl 2 rfl) ?_
      refine z_ldc2 hx hb 27 hown hf_4 (by decide) dX9_readWord_33 ?_
      refine z_lmul hx hb dX9_readWord_36 ?_
      refine lv_aload_n hx hb dX9_readWord_37 rfl (lv_at hl 0 rfl) ?_
      refine z_callV (C := RX9) (q0 := 0) (ci := 7) (As := []) (rest := [.long (zJ (v_ * 27))]) ([] : va_W) ([] : va_W) hx hb hml hown hts hl hE hS hA (zr0 ([] : va_W) hP) (zr0D ([] : va_W) hD) (c_X9_here l D ct ad b M SP SV TX NB sc tl cd i cm h (by assumption) (by omega)) gX9_readWord_X9_here rfl rfl k_X9_here ⟨Nat.le_of_ble_eq_true rfl, Nat.le_of_ble_eq_true rfl⟩ rfl rfl rfl rfl (Nat.le_of_ble_eq_true rfl) ⟨Nat.le_of_ble_eq_true rfl, Nat.le_of_ble_eq_true rfl⟩ dX9_readWord_38 rfl (fun v w1 H locs hpost hP hD hS => ?_)
      obtain ⟨rfl, rfl⟩ := hpost
      have hP := zr0' hP
      have hD := zr0D' hD
      have hP : va_P D vwCl (moW b sc tl cd i cm h ++ (jrW ct (b 1) 94 M ++ (jrW ct (b 2) 94 SP ++ (jrW ct (b 3) 376 SV ++ (irW ct (b 4) 150 TX ++ (irW ct (b 5) 2 NB)))))) H := hP
      have hD : va_D A (moW b sc tl cd i cm h ++ (jrW ct (b 1) 94 M ++ (jrW ct (b 2) 94 SP ++ (jrW ct (b 3) 376 SV ++ (irW ct (b 4) 150 TX ++ (irW ct (b 5) 2 NB)))))) := hD
      refine W.eq (g2 := F0 m 41 ls [.int (zI (hrf TX tl i)), .long (zJ (v_ * 27))]) rfl ?_
      refine z_i2l hx hb dX9_readWord_41 (by omega) ?_
      refine z_ladd hx hb dX9_readWord_42 ?_
      refine z_ldc2 hx hb 96 hown hf_5 (by decide) dX9_readWord_43 ?_
      refine z_lsub hx hb dX9_readWord_46 ?_
      refine lv_goto (tgt := 53) hx hb dX9_readWord_47 (by decide) ?_
      refine lv_lstore_n (lv' := [(2, .long (zJ (((v_ * 27) + (hrf TX tl i)) - 96))), (0, .ref (b 0)), (1, .int (zI pl))]) hx hb dX9_readWord_53 rfl hl (by decide) rfl (fun ls hl => ?_)
      refine lv_aload_n hx hb dX9_readWord_54 rfl (lv_at hl 1 rfl) ?_
      refine lv_dup hx hb dX9_readWord_55 rfl ?_
      refine va_get (D := D) (ci := 7) (v := .int (zI i)) (C := RX9) (T := TX9) (N := 11) hx hb hts hin_X9 hown hK hP 0 rfl rfl 7 (by decide) hf_0 (fun _ h9 => h9) rfl dX9_readWord_56 ?_
      refine z_iconst hx hb dX9_readWord_59 ?_
      refine z_iadd hx hb dX9_readWord_60 ?_
      refine z_put (ct := ct) (ad := ad) (ci := 7) (v := .int (zI (i + 1))) (ty := tyX9 7) (C := RX9) (T := TX9) (N := 11) (w2 := moW b sc tl cd (i + 1) cm h ++ (jrW ct (b 1) 94 M ++ (jrW ct (b 2) 94 SP ++ (jrW ct (b 3) 376 SV ++ (irW ct (b 4) 150 TX ++ (irW ct (b 5) 2 NB)))))) hx hb hts hin_X9 tyX9 tyX9_ok nmX9 hown hE hP hD hS 0 rfl rfl 7 (by decide) hf_0 (fun _ h9 => h9) rfl (by decide +kernel) rfl rfl (Nat.le_of_ble_eq_true rfl) dX9_readWord_61 (rfl) (fun H locs hP hD hS => ?_)
      refine lv_goto (tgt := 7) hx hb dX9_readWord_64 (by decide) ?_
      exact ih_7 (i + 1, ((v_ * 27) + (hrf TX tl i)) - 96) ⟨(show pl ≤ (i + 1) ∧ (i + 1) ≤ tl from (by omega)), (show we TX tl (i + 1) = we TX tl pl from (by rw [← hw]; exact we_t (by omega))), (show ∀ j : Int, pl ≤ j → j < (i + 1) → 97 ≤ TX j ∧ TX j ≤ 122 from (fun j h1 h2 => by rcases (show j < i ∨ j = i by omega) with z | z <;> first | exact hL j h1 z | (rw [z]; omega))), (show (i + 1) - pl ≤ 6 → (((v_ * 27) + (hrf TX tl i)) - 96) = vN TX pl ((i + 1) - pl).toNat from (fun z => by first | (rw [vNS hi.1, hv (by omega)]; omega) | omega))⟩ (show (tl - (i + 1)).toNat < (tl - i).toNat from (by omega)) _ _ _ hP hD hS (lv_sub hl [1, 2, 0] rfl)
theorem k_X9_skips : yX9_skips.cls ≠ "java/lang/invoke/MethodHandle" ∧ yX9_skips.cls ≠ "java/lang/invoke/VarHandle" ∧ (parseMethodDescriptor yX9_skips.desc).map (fun d => d.parameters.length) = some 0 := by decide +kernel
set_option maxHeartbeats 4000000 in
set_option maxRecDepth 100000 in
theorem c_X9_readNumber_ok0 (l : Launch) (D : va_G) (ct ad : Nat → Nat) (b : Nat → Nat) (M SP SV TX NB : Int → Int) (sc tl cd pl cm h : Int) (ht : tInv TX tl) (hp : 0 ≤ pl ∧ pl ≤ tl) (hok : nok TX tl pl) : ZM l yX9_readNumber wsX9_readNumber ({ frames := 2, cells := 0, slots := 0, locals := 41 } : Room) D ct ad [.ref (b 0), .int (zI 0)] (moW b sc tl cd pl cm h ++ (jrW ct (b 1) 94 M ++ (jrW ct (b 2) 94 SP ++ (jrW ct (b 3) 376 SV ++ (irW ct (b 4) 150 TX ++ (irW ct (b 5) 2 NB)))))) (zD (some (.int (zI 1))) (moW b sc tl cd (dE TX tl pl) cm h ++ (jrW ct (b 1) 94 M ++ (jrW ct (b 2) 94 SP ++ (jrW ct (b 3) 376 SV ++ (irW ct (b 4) 150 TX ++ (irW ct (b 5) 2 (up NB 0 (nV TX tl pl))))))))) := by
  refine ZM.of (cc := cX9_readNumber) (maxL := 4) (ret := (some .boolean)) (by decide +kernel) rfl (Nat.le_of_ble_eq_true rfl) ?_
  intro p e s m below meth c A ls hx hb hr hts hown hlocks hml hname hE hP hD hA hS hl
  have hK := hE.1
  have hf_0 := hts (.fieldLink RX9 230 "RodGridsModel" "place" "I") (by decide +kernel)
  have hf_1 := hts (.fieldLink RX9 23 "RodGridsModel" "numbers" "[I") (by decide +kernel)
  have hin_X9 : ∀ z ∈ u_ws RX9 TX9 11, z ∈ wsX9_readNumber := by decide +kernel
  have hl : lv_has ls 4 [(0, .ref (b 0)), (1, .int (zI 0))] := hl
  have t1 := ht.1
  have sB := sk_B (TX := TX) hp.2
  have sL := sk_lt (TX := TX) hp.2
  have nB := (nV_B (TX := TX) hp.2).1
  have okf := hok.1
  have okg := hok.2
  refine lv_aload_n hx hb dX9_readNumber_0 rfl (lv_at hl 0 rfl) ?_
  refine z_callV (C := RX9) (q0 := 0) (ci := 7) (As := []) (rest := []) ([] : va_W) ([] : va_W) hx hb hml hown hts hl hE hS hA (zr0 ([] : va_W) hP) (zr0D ([] : va_W) hD) (c_X9_skips l D ct ad b M SP SV TX NB sc tl cd pl cm h (by assumption) (by omega)) gX9_readNumber_X9_skips rfl rfl k_X9_skips ⟨Nat.le_of_ble_eq_true rfl, Nat.le_of_ble_eq_true rfl⟩ rfl rfl rfl rfl (Nat.le_of_ble_eq_true rfl) ⟨Nat.le_of_ble_eq_true rfl, Nat.le_of_ble_eq_true rfl⟩ dX9_readNumber_1 rfl (fun v w1 H locs hpost hP hD hS => ?_)
  obtain ⟨rfl, rfl⟩ := hpost
  have hP := zr0' hP
  have hD := zr0D' hD
  have hP : va_P D vwCl (moW b sc tl cd (sk TX tl pl) cm h ++ (jrW ct (b 1) 94 M ++ (jrW ct (b 2) 94 SP ++ (jrW ct (b 3) 376 SV ++ (irW ct (b 4) 150 TX ++ (irW ct (b 5) 2 NB)))))) H := hP
  have hD : va_D A (moW b sc tl cd (sk TX tl pl) cm h ++ (jrW ct (b 1) 94 M ++ (jrW ct (b 2) 94 SP ++ (jrW ct (b 3) 376 SV ++ (irW ct (b 4) 150 TX ++ (irW ct (b 5) 2 NB)))))) := hD
  refine W.eq (g2 := F0 m 4 ls [.int (zI (zB (pl < sk TX tl pl)))]) rfl ?_
  refine zb_if_ne (tgt := 9) hx hb dX9_readNumber_4 (by decide) (fun hc_4 => ?_) (fun hc_4 => ?_)
  · have hc_4 := hc_4
    refine lv_aload_n hx hb dX9_readNumber_9 rfl (lv_at hl 0 rfl) ?_
    refine va_get (D := D) (ci := 7) (v := .int (zI (sk TX tl pl))) (C := RX9) (T := TX9) (N := 11) hx hb hts hin_X9 hown hK hP 0 rfl rfl 7 (by decide) hf_0 (fun _ h9 => h9) rfl dX9_readNumber_10 ?_
    refine lv_istore_n (lv' := [(2, .int (zI (sk TX tl pl))), (0, .ref (b 0)), (1, .int (zI 0))]) hx hb dX9_readNumber_13 rfl hl (by decide) rfl (fun ls hl => ?_)
    refine z_iconst hx hb dX9_readNumber_14 ?_
    refine lv_istore_n (lv' := [(3, .int (zI 0)), (2, .int (zI (sk TX tl pl))), (0, .ref (b 0)), (1, .int (zI 0))]) hx hb dX9_readNumber_15 rfl hl (by decide) rfl (fun ls hl => ?_)
    refine z_loop (σ := Int × Int) (fun q9 => (tl - q9.1).toNat) (fun q9 => (sk TX tl pl ≤ q9.1 ∧ q9.1 ≤ tl ∧ q9.1 ≤ sk TX tl pl + 7) ∧ (dvN TX tl (sk TX tl pl + 7 - q9.1).toNat q9.1 q9.2 = dvN TX tl 7 (sk TX tl pl) 0)) (fun q9 => moW b sc tl cd q9.1 cm h ++ (jrW ct (b 1) 94 M ++ (jrW ct (b 2) 94 SP ++ (jrW ct (b 3) 376 SV ++ (irW ct (b 4) 150 TX ++ (irW ct (b 5) 2 NB)))))) (fun q9 => [(0, .ref (b 0)), (1, .int (zI 0)), (2, .int (zI (sk TX tl pl))), (3, .int (zI q9.2))]) (fun q9 => []) ((sk TX tl pl), 0) ⟨(show sk TX tl pl ≤ (sk TX tl pl) ∧ (sk TX tl pl) ≤ tl ∧ (sk TX tl pl) ≤ sk TX tl pl + 7 from (by omega)), (show dvN TX tl (sk TX tl pl + 7 - (sk TX tl pl)).toNat (sk TX tl pl) 0 = dvN TX tl 7 (sk TX tl pl) 0 from (by rw [show (sk TX tl pl + 7 - sk TX tl pl).toNat = 7 by omega]))⟩ hP hD hS (lv_sub hl [2, 3, 1, 0] rfl) rfl ?_
    rintro ⟨i, n_⟩ hI_16 ih_16 H locs ls hP hD hS hl
    obtain ⟨hi, hd⟩ := hI_16
    have hi : sk TX tl pl ≤ i ∧ i ≤ tl ∧ i ≤ sk TX tl pl + 7 := hi
    have hd : dvN TX tl (sk TX tl pl + 7 - i).toNat i n_ = dvN TX tl 7 (sk TX tl pl) 0 := hd
    have hP : va_P D vwCl (moW b sc tl cd i cm h ++ (jrW ct (b 1) 94 M ++ (jrW ct (b 2) 94 SP ++ (jrW ct (b 3) 376 SV ++ (irW ct (b 4) 150 TX ++ (irW ct (b 5) 2 NB)))))) H := hP
    have hD : va_D A (moW b sc tl cd i cm h ++ (jrW ct (b 1) 94 M ++ (jrW ct (b 2) 94 SP ++ (jrW ct (b 3) 376 SV ++ (irW ct (b 4) 150 TX ++ (irW ct (b 5) 2 NB)))))) := hD
    have hl : lv_has ls 4 [(0, .ref (b 0)), (1, .int (zI 0)), (2, .int (zI (sk TX tl pl))), (3, .int (zI n_))] := hl
    have tB := tcB ht (p := i) (by omega)
    refine lv_aload_n hx hb dX9_readNumber_16 rfl (lv_at hl 0 rfl) ?_
    refine va_get (D := D) (ci := 7) (v := .int (zI i)) (C := RX9) (T := TX9) (N := 11) hx hb hts hin_X9 hown hK hP 0 rfl rfl 7 (by decide) hf_0 (fun _ h9 => h9) rfl dX9_readNumber_17 ?_
    refine lv_iload_n hx hb dX9_readNumber_20 rfl (lv_at hl 2 rfl) ?_
    refine z_bipush hx hb dX9_readNumber_21 (by decide) ?_
    refine z_iadd hx hb dX9_readNumber_23 ?_
    refine z_icmp_ge (tgt := 67) hx hb dX9_readNumber_24 (by decide) (by omega) (by omega) (fun hc_24 => ?_) (fun hc_24 => ?_)
    · have hc_24 := hc_24
      have eE : dvN TX tl 7 (sk TX tl pl) 0 = (i, n_) := by rw [← hd]; exact dvE (by omega)
      have e1 : dE TX tl pl = i := by unfold dE; rw [eE]
      have e2 : nV TX tl pl = n_ := by unfold nV; rw [eE]
      refine lv_aload_n hx hb dX9_readNumber_67 rfl (lv_at hl 0 rfl) ?_
      refine va_get (D := D) (ci := 7) (v := .ref (b 5)) (C := RX9) (T := TX9) (N := 11) hx hb hts hin_X9 hown hK hP 0 rfl rfl 9 (by decide) hf_1 (fun _ h9 => h9) rfl dX9_readNumber_68 ?_
      refine lv_iload_n hx hb dX9_readNumber_71 rfl (lv_at hl 1 rfl) ?_
      refine lv_iload_n hx hb dX9_readNumber_72 rfl (lv_at hl 3 rfl) ?_
      refine z_iast (g := NB) (w2 := moW b sc tl cd i cm h ++ (jrW ct (b 1) 94 M ++ (jrW ct (b 2) 94 SP ++ (jrW ct (b 3) 376 SV ++ (irW ct (b 4) 150 TX ++ (irW ct (b 5) 2 (up NB 0 n_))))))) hx hb hK hP hD hS 5 rfl (by decide) (by omega) dX9_readNumber_73 (rfl) (fun H locs hP hD hS => ?_)
      refine lv_aload_n hx hb dX9_readNumber_74 rfl (lv_at hl 0 rfl) ?_
      refine va_get (D := D) (ci := 7) (v := .int (zI i)) (C := RX9) (T := TX9) (N := 11) hx hb hts hin_X9 hown hK hP 0 rfl rfl 7 (by decide) hf_0 (fun _ h9 => h9) rfl dX9_readNumber_75 ?_
      refine lv_iload_n hx hb dX9_readNumber_78 rfl (lv_at hl 2 rfl) ?_
      refine z_icmp_le (tgt := 86) hx hb dX9_readNumber_79 (by decide) (by omega) (by omega) (fun hc_79 => ?_) (fun hc_79 => ?_)
      · have hc_79 := hc_79
        omega
      · have hc_79 := hc_79
        refine z_iconst hx hb dX9_readNumber_82 ?_
        refine lv_goto (tgt := 87) hx hb dX9_readNumber_83 (by decide) ?_
        exact z_zret hx hb hr (by first | rfl | exact zB_nar) hlocks hP hD hS ⟨Nat.le_of_ble_eq_true rfl, Nat.le_of_ble_eq_true rfl⟩ dX9_readNumber_87 (⟨congrArg (fun z => some (Value.int (zI z))) (rfl), by first | rfl | rw [e1, e2] | (rw [show sk TX tl pl = i by omega])⟩)
    · have hc_24 := hc_24
      refine lv_aload_n hx hb dX9_readNumber_27 rfl (lv_at hl 0 rfl) ?_
      refine z_callV (C := RX9) (q0 := 0) (ci := 7) (As := []) (rest := []) ([] : va_W) ([] : va_W) hx hb hml hown hts hl hE hS hA (zr0 ([] : va_W) hP) (zr0D ([] : va_W) hD) (c_X9_here l D ct ad b M SP SV TX NB sc tl cd i cm h (by assumption) (by omega)) gX9_readNumber_X9_here rfl rfl k_X9_here ⟨Nat.le_of_ble_eq_true rfl, Nat.le_of_ble_eq_true rfl⟩ rfl rfl rfl rfl (Nat.le_of_ble_eq_true rfl) ⟨Nat.le_of_ble_eq_true rfl, Nat.le_of_ble_eq_true rfl⟩ dX9_readNumber_28 rfl (fun v w1 H locs hpost hP hD hS => ?_)
      obtain ⟨rfl, rfl⟩ := hpost
      have hP := zr0' hP
      have hD := zr0D' hD
      have hP : va_P D vwCl (moW b sc tl cd i cm h ++ (jrW ct (b 1) 94 M ++ (jrW ct (b 2) 94 SP ++ (jrW ct (b 3) 376 SV ++ (irW ct (b 4) 150 TX ++ (irW ct (b 5) 2 NB)))))) H := hP
      have hD : va_D A (moW b sc tl cd i cm h ++ (jrW ct (b 1) 94 M ++ (jrW ct (b 2) 94 SP ++ (jrW ct (b 3) 376 SV ++ (irW ct (b 4) 150 TX ++ (irW ct (b 5) 2 NB)))))) := hD
      refine W.eq (g2 := F0 m 31 ls [.int (zI (hrf TX tl i))]) rfl ?_
      refine z_bipush hx hb dX9_readNumber_31 (by decide) ?_
      refine z_bipush hx hb dX9_readNumber_33 (by decide) ?_
      refine z_callS (As := [.int (zI (hrf TX tl i)), .int (zI 48), .int (zI 57)]) (rest := []) ([] : va_W) (moW b sc tl cd i cm h ++ (jrW ct (b 1) 94 M ++ (jrW ct (b 2) 94 SP ++ (jrW ct (b 3) 376 SV ++ (irW ct (b 4) 150 TX ++ (irW ct (b 5) 2 NB)))))) hx hb hml hown hts hl hE hS hA hP hD (c_X9_in l D ct ad (hrf TX tl i) 48 57 (by omega) (by omega) (by omega)) gX9_readNumber_X9_in rfl k_X9_in ⟨Nat.le_of_ble_eq_true rfl, Nat.le_of_ble_eq_true rfl⟩ rfl (Nat.le_of_ble_eq_true rfl) ⟨Nat.le_of_ble_eq_true rfl, Nat.le_of_ble_eq_true rfl⟩ dX9_readNumber_35 rfl (fun v w1 H locs hpost hP hD hS => ?_)
      obtain ⟨rfl, rfl⟩ := hpost
      have hP : va_P D vwCl (moW b sc tl cd i cm h ++ (jrW ct (b 1) 94 M ++ (jrW ct (b 2) 94 SP ++ (jrW ct (b 3) 376 SV ++ (irW ct (b 4) 150 TX ++ (irW ct (b 5) 2 NB)))))) H := hP
      have hD : va_D A (moW b sc tl cd i cm h ++ (jrW ct (b 1) 94 M ++ (jrW ct (b 2) 94 SP ++ (jrW ct (b 3) 376 SV ++ (irW ct (b 4) 150 TX ++ (irW ct (b 5) 2 NB)))))) := hD
      refine W.eq (g2 := F0 m 38 ls [.int (zI (zB (48 ≤ (hrf TX tl i) ∧ (hrf TX tl i) ≤ 57)))]) rfl ?_
      refine zb_if_eq (tgt := 67) hx hb dX9_readNumber_38 (by decide) (fun hc_38 => ?_) (fun hc_38 => ?_)
      · have hc_38 := hc_38
        have eE : dvN TX tl 7 (sk TX tl pl) 0 = (i, n_) := by rw [← hd]; exact dvE (by omega)
        have e1 : dE TX tl pl = i := by unfold dE; rw [eE]
        have e2 : nV TX tl pl = n_ := by unfold nV; rw [eE]
        refine lv_aload_n hx hb dX9_readNumber_67 rfl (lv_at hl 0 rfl) ?_
        refine va_get (D := D) (ci := 7) (v := .ref (b 5)) (C := RX9) (T := TX9) (N := 11) hx hb hts hin_X9 hown hK hP 0 rfl rfl 9 (by decide) hf_1 (fun _ h9 => h9) rfl dX9_readNumber_68 ?_
        refine lv_iload_n hx hb dX9_readNumber_71 rfl (lv_at hl 1 rfl) ?_
        refine lv_iload_n hx hb dX9_readNumber_72 rfl (lv_at hl 3 rfl) ?_
        refine z_iast (g := NB) (w2 := moW b sc tl cd i cm h ++ (jrW ct (b 1) 94 M ++ (jrW ct (b 2) 94 SP ++ (jrW ct (b 3) 376 SV ++ (irW ct (b 4) 150 TX ++ (irW ct (b 5) 2 (up NB 0 n_))))))) hx hb hK hP hD hS 5 rfl (by decide) (by omega) dX9_readNumber_73 (rfl) (fun H locs hP hD hS => ?_)
        refine lv_aload_n hx hb dX9_readNumber_74 rfl (lv_at hl 0 rfl) ?_
        refine va_get (D := D) (ci := 7) (v := .int (zI i)) (C := RX9) (T := TX9) (N := 11) hx hb hts hin_X9 hown hK hP 0 rfl rfl 7 (by decide) hf_0 (fun _ h9 => h9) rfl dX9_readNumber_75 ?_
        refine lv_iload_n hx hb dX9_readNumber_78 rfl (lv_at hl 2 rfl) ?_
        refine z_icmp_le (tgt := 86) hx hb dX9_readNumber_79 (by decide) (by omega) (by omega) (fun hc_79 => ?_) (fun hc_79 => ?_)
        · have hc_79 := hc_79
          omega
        · have hc_79 := hc_79
          refine z_iconst hx hb dX9_readNumber_82 ?_
          refine lv_goto (tgt := 87) hx hb dX9_readNumber_83 (by decide) ?_
          exact z_zret hx hb hr (by first | rfl | exact zB_nar) hlocks hP hD hS ⟨Nat.le_of_ble_eq_true rfl, Nat.le_of_ble_eq_true rfl⟩ dX9_readNumber_87 (⟨congrArg (fun z => some (Value.int (zI z))) (rfl), by first | rfl | rw [e1, e2] | (rw [show sk TX tl pl = i by omega])⟩)
      · have hc_38 := hc_38
        refine z_bipush hx hb dX9_readNumber_41 (by decide) ?_
        refine lv_iload_n hx hb dX9_readNumber_43 rfl (lv_at hl 3 rfl) ?_
        refine z_imul hx hb dX9_readNumber_44 ?_
        refine lv_aload_n hx hb dX9_readNumber_45 rfl (lv_at hl 0 rfl) ?_
        refine z_callV (C := RX9) (q0 := 0) (ci := 7) (As := []) (rest := [.int (zI (10 * n_))]) ([] : va_W) ([] : va_W) hx hb hml hown hts hl hE hS hA (zr0 ([] : va_W) hP) (zr0D ([] : va_W) hD) (c_X9_here l D ct ad b M SP SV TX NB sc tl cd i cm h (by assumption) (by omega)) gX9_readNumber_X9_here rfl rfl k_X9_here ⟨Nat.le_of_ble_eq_true rfl, Nat.le_of_ble_eq_true rfl⟩ rfl rfl rfl rfl (Nat.le_of_ble_eq_true rfl) ⟨Nat.le_of_ble_eq_true rfl, Nat.le_of_ble_eq_true rfl⟩ dX9_readNumber_46 rfl (fun v w1 H locs hpost hP hD hS => ?_)
        obtain ⟨rfl, rfl⟩ := hpost
        have hP := zr0' hP
        have hD := zr0D' hD
        have hP : va_P D vwCl (moW b sc tl cd i cm h ++ (jrW ct (b 1) 94 M ++ (jrW ct (b 2) 94 SP ++ (jrW ct (b 3) 376 SV ++ (irW ct (b 4) 150 TX ++ (irW ct (b 5) 2 NB)))))) H := hP
        have hD : va_D A (moW b sc tl cd i cm h ++ (jrW ct (b 1) 94 M ++ (jrW ct (b 2) 94 SP ++ (jrW ct (b 3) 376 SV ++ (irW ct (b 4) 150 TX ++ (irW ct (b 5) 2 NB)))))) := hD
        refine W.eq (g2 := F0 m 49 ls [.int (zI (hrf TX tl i)), .int (zI (10 * n_))]) rfl ?_
        refine z_iadd hx hb dX9_readNumber_49 ?_
        refine z_bipush hx hb dX9_readNumber_50 (by decide) ?_
        refine z_isub hx hb dX9_readNumber_52 ?_
        refine lv_istore_n (lv' := [(3, .int (zI (((10 * n_) + (hrf TX tl i)) - 48))), (0, .ref (b 0)), (1, .int (zI 0)), (2, .int (zI (sk TX tl pl)))]) hx hb dX9_readNumber_53 rfl hl (by decide) rfl (fun ls hl => ?_)
        refine lv_aload_n hx hb dX9_readNumber_54 rfl (lv_at hl 1 rfl) ?_
        refine lv_dup hx hb dX9_readNumber_55 rfl ?_
        refine va_get (D := D) (ci := 7) (v := .int (zI i)) (C := RX9) (T := TX9) (N := 11) hx hb hts hin_X9 hown hK hP 0 rfl rfl 7 (by decide) hf_0 (fun _ h9 => h9) rfl dX9_readNumber_56 ?_
        refine z_iconst hx hb dX9_readNumber_59 ?_
        refine z_iadd hx hb dX9_readNumber_60 ?_
        refine z_put (ct := ct) (ad := ad) (ci := 7) (v := .int (zI (i + 1))) (ty := tyX9 7) (C := RX9) (T := TX9) (N := 11) (w2 := moW b sc tl cd (i + 1) cm h ++ (jrW ct (b 1) 94 M ++ (jrW ct (b 2) 94 SP ++ (jrW ct (b 3) 376 SV ++ (irW ct (b 4) 150 TX ++ (irW ct (b 5) 2 NB)))))) hx hb hts hin_X9 tyX9 tyX9_ok nmX9 hown hE hP hD hS 0 rfl rfl 7 (by decide) hf_0 (fun _ h9 => h9) rfl (by decide +kernel) rfl rfl (Nat.le_of_ble_eq_true rfl) dX9_readNumber_61 (rfl) (fun H locs hP hD hS => ?_)
        refine lv_goto (tgt := 16) hx hb dX9_readNumber_64 (by decide) ?_
        exact ih_16 (i + 1, ((10 * n_) + (hrf TX tl i)) - 48) ⟨(show sk TX tl pl ≤ (i + 1) ∧ (i + 1) ≤ tl ∧ (i + 1) ≤ sk TX tl pl + 7 from (by omega)), (show dvN TX tl (sk TX tl pl + 7 - (i + 1)).toNat (i + 1) (((10 * n_) + (hrf TX tl i)) - 48) = dvN TX tl 7 (sk TX tl pl) 0 from (by rw [← hd, dvS (q := sk TX tl pl) (i := i) (x := n_) (by omega) (by omega)]; first | rfl | (congr 1; omega)))⟩ (show (tl - (i + 1)).toNat < (tl - i).toNat from (by omega)) _ _ _ hP hD hS (lv_sub hl [1, 2, 3, 0] rfl)
  · have hc_4 := hc_4
    omega
set_option maxHeartbeats 4000000 in
set_option maxRecDepth 100000 in
theorem c_X9_readNumber_ok1 (l : Launch) (D : va_G) (ct ad : Nat → Nat) (b : Nat → Nat) (M SP SV TX NB : Int → Int) (sc tl cd pl cm h : Int) (ht : tInv TX tl) (hp : 0 ≤ pl ∧ pl ≤ tl) (hok : nok TX tl pl) : ZM l yX9_readNumber wsX9_readNumber ({ frames := 2, cells := 0, slots := 0, locals := 41 } : Room) D ct ad [.ref (b 0), .int (zI 1)] (moW b sc tl cd pl cm h ++ (jrW ct (b 1) 94 M ++ (jrW ct (b 2) 94 SP ++ (jrW ct (b 3) 376 SV ++ (irW ct (b 4) 150 TX ++ (irW ct (b 5) 2 NB)))))) (zD (some (.int (zI 1))) (moW b sc tl cd (dE TX tl pl) cm h ++ (jrW ct (b 1) 94 M ++ (jrW ct (b 2) 94 SP ++ (jrW ct (b 3) 376 SV ++ (irW ct (b 4) 150 TX ++ (irW ct (b 5) 2 (up NB 1 (nV TX tl pl))))))))) := by
  refine ZM.of (cc := cX9_readNumber) (maxL := 4) (ret := (some .boolean)) (by decide +kernel) rfl (Nat.le_of_ble_eq_true rfl) ?_
  intro p e s m below meth c A ls hx hb hr hts hown hlocks hml hname hE hP hD hA hS hl
  have hK := hE.1
  have hf_0 := hts (.fieldLink RX9 230 "RodGridsModel" "place" "I") (by decide +kernel)
  have hf_1 := hts (.fieldLink RX9 23 "RodGridsModel" "numbers" "[I") (by decide +kernel)
  have hin_X9 : ∀ z ∈ u_ws RX9 TX9 11, z ∈ wsX9_readNumber := by decide +kernel
  have hl : lv_has ls 4 [(0, .ref (b 0)), (1, .int (zI 1))] := hl
  have t1 := ht.1
  have sB := sk_B (TX := TX) hp.2
  have sL := sk_lt (TX := TX) hp.2
  have nB := (nV_B (TX := TX) hp.2).1
  have okf := hok.1
  have okg := hok.2
  refine lv_aload_n hx hb dX9_readNumber_0 rfl (lv_at hl 0 rfl) ?_
  refine z_callV (C := RX9) (q0 := 0) (ci := 7) (As := []) (rest := []) ([] : va_W) ([] : va_W) hx hb hml hown hts hl hE hS hA (zr0 ([] : va_W) hP) (zr0D ([] : va_W) hD) (c_X9_skips l D ct ad b M SP SV TX NB sc tl cd pl cm h (by assumption) (by omega)) gX9_readNumber_X9_skips rfl rfl k_X9_skips ⟨Nat.le_of_ble_eq_true rfl, Nat.le_of_ble_eq_true rfl⟩ rfl rfl rfl rfl (Nat.le_of_ble_eq_true rfl) ⟨Nat.le_of_ble_eq_true rfl, Nat.le_of_ble_eq_true rfl⟩ dX9_readNumber_1 rfl (fun v w1 H locs hpost hP hD hS => ?_)
  obtain ⟨rfl, rfl⟩ := hpost
  have hP := zr0' hP
  have hD := zr0D' hD
  have hP : va_P D vwCl (moW b sc tl cd (sk TX tl pl) cm h ++ (jrW ct (b 1) 94 M ++ (jrW ct (b 2) 94 SP ++ (jrW ct (b 3) 376 SV ++ (irW ct (b 4) 150 TX ++ (irW ct (b 5) 2 NB)))))) H := hP
  have hD : va_D A (moW b sc tl cd (sk TX tl pl) cm h ++ (jrW ct (b 1) 94 M ++ (jrW ct (b 2) 94 SP ++ (jrW ct (b 3) 376 SV ++ (irW ct (b 4) 150 TX ++ (irW ct (b 5) 2 NB)))))) := hD
  refine W.eq (g2 := F0 m 4 ls [.int (zI (zB (pl < sk TX tl pl)))]) rfl ?_
  refine zb_if_ne (tgt := 9) hx hb dX9_readNumber_4 (by decide) (fun hc_4 => ?_) (fun hc_4 => ?_)
  · have hc_4 := hc_4
    refine lv_aload_n hx hb dX9_readNumber_9 rfl (lv_at hl 0 rfl) ?_
    refine va_get (D := D) (ci := 7) (v := .int (zI (sk TX tl pl))) (C := RX9) (T := TX9) (N := 11) hx hb hts hin_X9 hown hK hP 0 rfl rfl 7 (by decide) hf_0 (fun _ h9 => h9) rfl dX9_readNumber_10 ?_
    refine lv_istore_n (lv' := [(2, .int (zI (sk TX tl pl))), (0, .ref (b 0)), (1, .int (zI 1))]) hx hb dX9_readNumber_13 rfl hl (by decide) rfl (fun ls hl => ?_)
    refine z_iconst hx hb dX9_readNumber_14 ?_
    refine lv_istore_n (lv' := [(3, .int (zI 0)), (2, .int (zI (sk TX tl pl))), (0, .ref (b 0)), (1, .int (zI 1))]) hx hb dX9_readNumber_15 rfl hl (by decide) rfl (fun ls hl => ?_)
    refine z_loop (σ := Int × Int) (fun q9 => (tl - q9.1).toNat) (fun q9 => (sk TX tl pl ≤ q9.1 ∧ q9.1 ≤ tl ∧ q9.1 ≤ sk TX tl pl + 7) ∧ (dvN TX tl (sk TX tl pl + 7 - q9.1).toNat q9.1 q9.2 = dvN TX tl 7 (sk TX tl pl) 0)) (fun q9 => moW b sc tl cd q9.1 cm h ++ (jrW ct (b 1) 94 M ++ (jrW ct (b 2) 94 SP ++ (jrW ct (b 3) 376 SV ++ (irW ct (b 4) 150 TX ++ (irW ct (b 5) 2 NB)))))) (fun q9 => [(0, .ref (b 0)), (1, .int (zI 1)), (2, .int (zI (sk TX tl pl))), (3, .int (zI q9.2))]) (fun q9 => []) ((sk TX tl pl), 0) ⟨(show sk TX tl pl ≤ (sk TX tl pl) ∧ (sk TX tl pl) ≤ tl ∧ (sk TX tl pl) ≤ sk TX tl pl + 7 from (by omega)), (show dvN TX tl (sk TX tl pl + 7 - (sk TX tl pl)).toNat (sk TX tl pl) 0 = dvN TX tl 7 (sk TX tl pl) 0 from (by rw [show (sk TX tl pl + 7 - sk TX tl pl).toNat = 7 by omega]))⟩ hP hD hS (lv_sub hl [2, 3, 1, 0] rfl) rfl ?_
    rintro ⟨i, n_⟩ hI_16 ih_16 H locs ls hP hD hS hl
    obtain ⟨hi, hd⟩ := hI_16
    have hi : sk TX tl pl ≤ i ∧ i ≤ tl ∧ i ≤ sk TX tl pl + 7 := hi
    have hd : dvN TX tl (sk TX tl pl + 7 - i).toNat i n_ = dvN TX tl 7 (sk TX tl pl) 0 := hd
    have hP : va_P D vwCl (moW b sc tl cd i cm h ++ (jrW ct (b 1) 94 M ++ (jrW ct (b 2) 94 SP ++ (jrW ct (b 3) 376 SV ++ (irW ct (b 4) 150 TX ++ (irW ct (b 5) 2 NB)))))) H := hP
    have hD : va_D A (moW b sc tl cd i cm h ++ (jrW ct (b 1) 94 M ++ (jrW ct (b 2) 94 SP ++ (jrW ct (b 3) 376 SV ++ (irW ct (b 4) 150 TX ++ (irW ct (b 5) 2 NB)))))) := hD
    have hl : lv_has ls 4 [(0, .ref (b 0)), (1, .int (zI 1)), (2, .int (zI (sk TX tl pl))), (3, .int (zI n_))] := hl
    have tB := tcB ht (p := i) (by omega)
    refine lv_aload_n hx hb dX9_readNumber_16 rfl (lv_at hl 0 rfl) ?_
    refine va_get (D := D) (ci := 7) (v := .int (zI i)) (C := RX9) (T := TX9) (N := 11) hx hb hts hin_X9 hown hK hP 0 rfl rfl 7 (by decide) hf_0 (fun _ h9 => h9) rfl dX9_readNumber_17 ?_
    refine lv_iload_n hx hb dX9_readNumber_20 rfl (lv_at hl 2 rfl) ?_
    refine z_bipush hx hb dX9_readNumber_21 (by decide) ?_
    refine z_iadd hx hb dX9_readNumber_23 ?_
    refine z_icmp_ge (tgt := 67) hx hb dX9_readNumber_24 (by decide) (by omega) (by omega) (fun hc_24 => ?_) (fun hc_24 => ?_)
    · have hc_24 := hc_24
      have eE : dvN TX tl 7 (sk TX tl pl) 0 = (i, n_) := by rw [← hd]; exact dvE (by omega)
      have e1 : dE TX tl pl = i := by unfold dE; rw [eE]
      have e2 : nV TX tl pl = n_ := by unfold nV; rw [eE]
      refine lv_aload_n hx hb dX9_readNumber_67 rfl (lv_at hl 0 rfl) ?_
      refine va_get (D := D) (ci := 7) (v := .ref (b 5)) (C := RX9) (T := TX9) (N := 11) hx hb hts hin_X9 hown hK hP 0 rfl rfl 9 (by decide) hf_1 (fun _ h9 => h9) rfl dX9_readNumber_68 ?_
      refine lv_iload_n hx hb dX9_readNumber_71 rfl (lv_at hl 1 rfl) ?_
      refine lv_iload_n hx hb dX9_readNumber_72 rfl (lv_at hl 3 rfl) ?_
      refine z_iast (g := NB) (w2 := moW b sc tl cd i cm h ++ (jrW ct (b 1) 94 M ++ (jrW ct (b 2) 94 SP ++ (jrW ct (b 3) 376 SV ++ (irW ct (b 4) 150 TX ++ (irW ct (b 5) 2 (up NB 1 n_))))))) hx hb hK hP hD hS 5 rfl (by decide) (by omega) dX9_readNumber_73 (rfl) (fun H locs hP hD hS => ?_)
      refine lv_aload_n hx hb dX9_readNumber_74 rfl (lv_at hl 0 rfl) ?_
      refine va_get (D := D) (ci := 7) (v := .int (zI i)) (C := RX9) (T := TX9) (N := 11) hx hb hts hin_X9 hown hK hP 0 rfl rfl 7 (by decide) hf_0 (fun _ h9 => h9) rfl dX9_readNumber_75 ?_
      refine lv_iload_n hx hb dX9_readNumber_78 rfl (lv_at hl 2 rfl) ?_
      refine z_icmp_le (tgt := 86) hx hb dX9_readNumber_79 (by decide) (by omega) (by omega) (fun hc_79 => ?_) (fun hc_79 => ?_)
      · have hc_79 := hc_79
        omega
      · have hc_79 := hc_79
        refine z_iconst hx hb dX9_readNumber_82 ?_
        refine lv_goto (tgt := 87) hx hb dX9_readNumber_83 (by decide) ?_
        exact z_zret hx hb hr (by first | rfl | exact zB_nar) hlocks hP hD hS ⟨Nat.le_of_ble_eq_true rfl, Nat.le_of_ble_eq_true rfl⟩ dX9_readNumber_87 (⟨congrArg (fun z => some (Value.int (zI z))) (rfl), by first | rfl | rw [e1, e2] | (rw [show sk TX tl pl = i by omega])⟩)
    · have hc_24 := hc_24
      refine lv_aload_n hx hb dX9_readNumber_27 rfl (lv_at hl 0 rfl) ?_
      refine z_callV (C := RX9) (q0 := 0) (ci := 7) (As := []) (rest := []) ([] : va_W) ([] : va_W) hx hb hml hown hts hl hE hS hA (zr0 ([] : va_W) hP) (zr0D ([] : va_W) hD) (c_X9_here l D ct ad b M SP SV TX NB sc tl cd i cm h (by assumption) (by omega)) gX9_readNumber_X9_here rfl rfl k_X9_here ⟨Nat.le_of_ble_eq_true rfl, Nat.le_of_ble_eq_true rfl⟩ rfl rfl rfl rfl (Nat.le_of_ble_eq_true rfl) ⟨Nat.le_of_ble_eq_true rfl, Nat.le_of_ble_eq_true rfl⟩ dX9_readNumber_28 rfl (fun v w1 H locs hpost hP hD hS => ?_)
      obtain ⟨rfl, rfl⟩ := hpost
      have hP := zr0' hP
      have hD := zr0D' hD
      have hP : va_P D vwCl (moW b sc tl cd i cm h ++ (jrW ct (b 1) 94 M ++ (jrW ct (b 2) 94 SP ++ (jrW ct (b 3) 376 SV ++ (irW ct (b 4) 150 TX ++ (irW ct (b 5) 2 NB)))))) H := hP
      have hD : va_D A (moW b sc tl cd i cm h ++ (jrW ct (b 1) 94 M ++ (jrW ct (b 2) 94 SP ++ (jrW ct (b 3) 376 SV ++ (irW ct (b 4) 150 TX ++ (irW ct (b 5) 2 NB)))))) := hD
      refine W.eq (g2 := F0 m 31 ls [.int (zI (hrf TX tl i))]) rfl ?_
      refine z_bipush hx hb dX9_readNumber_31 (by decide) ?_
      refine z_bipush hx hb dX9_readNumber_33 (by decide) ?_
      refine z_callS (As := [.int (zI (hrf TX tl i)), .int (zI 48), .int (zI 57)]) (rest := []) ([] : va_W) (moW b sc tl cd i cm h ++ (jrW ct (b 1) 94 M ++ (jrW ct (b 2) 94 SP ++ (jrW ct (b 3) 376 SV ++ (irW ct (b 4) 150 TX ++ (irW ct (b 5) 2 NB)))))) hx hb hml hown hts hl hE hS hA hP hD (c_X9_in l D ct ad (hrf TX tl i) 48 57 (by omega) (by omega) (by omega)) gX9_readNumber_X9_in rfl k_X9_in ⟨Nat.le_of_ble_eq_true rfl, Nat.le_of_ble_eq_true rfl⟩ rfl (Nat.le_of_ble_eq_true rfl) ⟨Nat.le_of_ble_eq_true rfl, Nat.le_of_ble_eq_true rfl⟩ dX9_readNumber_35 rfl (fun v w1 H locs hpost hP hD hS => ?_)
      obtain ⟨rfl, rfl⟩ := hpost
      have hP : va_P D vwCl (moW b sc tl cd i cm h ++ (jrW ct (b 1) 94 M ++ (jrW ct (b 2) 94 SP ++ (jrW ct (b 3) 376 SV ++ (irW ct (b 4) 150 TX ++ (irW ct (b 5) 2 NB)))))) H := hP
      have hD : va_D A (moW b sc tl cd i cm h ++ (jrW ct (b 1) 94 M ++ (jrW ct (b 2) 94 SP ++ (jrW ct (b 3) 376 SV ++ (irW ct (b 4) 150 TX ++ (irW ct (b 5) 2 NB)))))) := hD
      refine W.eq (g2 := F0 m 38 ls [.int (zI (zB (48 ≤ (hrf TX tl i) ∧ (hrf TX tl i) ≤ 57)))]) rfl ?_
      refine zb_if_eq (tgt := 67) hx hb dX9_readNumber_38 (by decide) (fun hc_38 => ?_) (fun hc_38 => ?_)
      · have hc_38 := hc_38
        have eE : dvN TX tl 7 (sk TX tl pl) 0 = (i, n_) := by rw [← hd]; exact dvE (by omega)
        have e1 : dE TX tl pl = i := by unfold dE; rw [eE]
        have e2 : nV TX tl pl = n_ := by unfold nV; rw [eE]
        refine lv_aload_n hx hb dX9_readNumber_67 rfl (lv_at hl 0 rfl) ?_
        refine va_get (D := D) (ci := 7) (v := .ref (b 5)) (C := RX9) (T := TX9) (N := 11) hx hb hts hin_X9 hown hK hP 0 rfl rfl 9 (by decide) hf_1 (fun _ h9 => h9) rfl dX9_readNumber_68 ?_
        refine lv_iload_n hx hb dX9_readNumber_71 rfl (lv_at hl 1 rfl) ?_
        refine lv_iload_n hx hb dX9_readNumber_72 rfl (lv_at hl 3 rfl) ?_
        refine z_iast (g := NB) (w2 := moW b sc tl cd i cm h ++ (jrW ct (b 1) 94 M ++ (jrW ct (b 2) 94 SP ++ (jrW ct (b 3) 376 SV ++ (irW ct (b 4) 150 TX ++ (irW ct (b 5) 2 (up NB 1 n_))))))) hx hb hK hP hD hS 5 rfl (by decide) (by omega) dX9_readNumber_73 (rfl) (fun H locs hP hD hS => ?_)
        refine lv_aload_n hx hb dX9_readNumber_74 rfl (lv_at hl 0 rfl) ?_
        refine va_get (D := D) (ci := 7) (v := .int (zI i)) (C := RX9) (T := TX9) (N := 11) hx hb hts hin_X9 hown hK hP 0 rfl rfl 7 (by decide) hf_0 (fun _ h9 => h9) rfl dX9_readNumber_75 ?_
        refine lv_iload_n hx hb dX9_readNumber_78 rfl (lv_at hl 2 rfl) ?_
        refine z_icmp_le (tgt := 86) hx hb dX9_readNumber_79 (by decide) (by omega) (by omega) (fun hc_79 => ?_) (fun hc_79 => ?_)
        · have hc_79 := hc_79
          omega
        · have hc_79 := hc_79
          refine z_iconst hx hb dX9_readNumber_82 ?_
          refine lv_goto (tgt := 87) hx hb dX9_readNumber_83 (by decide) ?_
          exact z_zret hx hb hr (by first | rfl | exact zB_nar) hlocks hP hD hS ⟨Nat.le_of_ble_eq_true rfl, Nat.le_of_ble_eq_true rfl⟩ dX9_readNumber_87 (⟨congrArg (fun z => some (Value.int (zI z))) (rfl), by first | rfl | rw [e1, e2] | (rw [show sk TX tl pl = i by omega])⟩)
      · have hc_38 := hc_38
        refine z_bipush hx hb dX9_readNumber_41 (by decide) ?_
        refine lv_iload_n hx hb dX9_readNumber_43 rfl (lv_at hl 3 rfl) ?_
        refine z_imul hx hb dX9_readNumber_44 ?_
        refine lv_aload_n hx hb dX9_readNumber_45 rfl (lv_at hl 0 rfl) ?_
        refine z_callV (C := RX9) (q0 := 0) (ci := 7) (As := []) (rest := [.int (zI (10 * n_))]) ([] : va_W) ([] : va_W) hx hb hml hown hts hl hE hS hA (zr0 ([] : va_W) hP) (zr0D ([] : va_W) hD) (c_X9_here l D ct ad b M SP SV TX NB sc tl cd i cm h (by assumption) (by omega)) gX9_readNumber_X9_here rfl rfl k_X9_here ⟨Nat.le_of_ble_eq_true rfl, Nat.le_of_ble_eq_true rfl⟩ rfl rfl rfl rfl (Nat.le_of_ble_eq_true rfl) ⟨Nat.le_of_ble_eq_true rfl, Nat.le_of_ble_eq_true rfl⟩ dX9_readNumber_46 rfl (fun v w1 H locs hpost hP hD hS => ?_)
        obtain ⟨rfl, rfl⟩ := hpost
        have hP := zr0' hP
        have hD := zr0D' hD
        have hP : va_P D vwCl (moW b sc tl cd i cm h ++ (jrW ct (b 1) 94 M ++ (jrW ct (b 2) 94 SP ++ (jrW ct (b 3) 376 SV ++ (irW ct (b 4) 150 TX ++ (irW ct (b 5) 2 NB)))))) H := hP
        have hD : va_D A (moW b sc tl cd i cm h ++ (jrW ct (b 1) 94 M ++ (jrW ct (b 2) 94 SP ++ (jrW ct (b 3) 376 SV ++ (irW ct (b 4) 150 TX ++ (irW ct (b 5) 2 NB)))))) := hD
        refine W.eq (g2 := F0 m 49 ls [.int (zI (hrf TX tl i)), .int (zI (10 * n_))]) rfl ?_
        refine z_iadd hx hb dX9_readNumber_49 ?_
        refine z_bipush hx hb dX9_readNumber_50 (by decide) ?_
        refine z_isub hx hb dX9_readNumber_52 ?_
        refine lv_istore_n (lv' := [(3, .int (zI (((10 * n_) + (hrf TX tl i)) - 48))), (0, .ref (b 0)), (1, .int (zI 1)), (2, .int (zI (sk TX tl pl)))]) hx hb dX9_readNumber_53 rfl hl (by decide) rfl (fun ls hl => ?_)
        refine lv_aload_n hx hb dX9_readNumber_54 rfl (lv_at hl 1 rfl) ?_
        refine lv_dup hx hb dX9_readNumber_55 rfl ?_
        refine va_get (D := D) (ci := 7) (v := .int (zI i)) (C := RX9) (T := TX9) (N := 11) hx hb hts hin_X9 hown hK hP 0 rfl rfl 7 (by decide) hf_0 (fun _ h9 => h9) rfl dX9_readNumber_56 ?_
        refine z_iconst hx hb dX9_readNumber_59 ?_
        refine z_iadd hx hb dX9_readNumber_60 ?_
        refine z_put (ct := ct) (ad := ad) (ci := 7) (v := .int (zI (i + 1))) (ty := tyX9 7) (C := RX9) (T := TX9) (N := 11) (w2 := moW b sc tl cd (i + 1) cm h ++ (jrW ct (b 1) 94 M ++ (jrW ct (b 2) 94 SP ++ (jrW ct (b 3) 376 SV ++ (irW ct (b 4) 150 TX ++ (irW ct (b 5) 2 NB)))))) hx hb hts hin_X9 tyX9 tyX9_ok nmX9 hown hE hP hD hS 0 rfl rfl 7 (by decide) hf_0 (fun _ h9 => h9) rfl (by decide +kernel) rfl rfl (Nat.le_of_ble_eq_true rfl) dX9_readNumber_61 (rfl) (fun H locs hP hD hS => ?_)
        refine lv_goto (tgt := 16) hx hb dX9_readNumber_64 (by decide) ?_
        exact ih_16 (i + 1, ((10 * n_) + (hrf TX tl i)) - 48) ⟨(show sk TX tl pl ≤ (i + 1) ∧ (i + 1) ≤ tl ∧ (i + 1) ≤ sk TX tl pl + 7 from (by omega)), (show dvN TX tl (sk TX tl pl + 7 - (i + 1)).toNat (i + 1) (((10 * n_) + (hrf TX tl i)) - 48) = dvN TX tl 7 (sk TX tl pl) 0 from (by rw [← hd, dvS (q := sk TX tl pl) (i := i) (x := n_) (by omega) (by omega)]; first | rfl | (congr 1; omega)))⟩ (show (tl - (i + 1)).toNat < (tl - i).toNat from (by omega)) _ _ _ hP hD hS (lv_sub hl [1, 2, 3, 0] rfl)
  · have hc_4 := hc_4
    omega
set_option maxHeartbeats 4000000 in
set_option maxRecDepth 100000 in
theorem c_X9_readNumber_no0 (l : Launch) (D : va_G) (ct ad : Nat → Nat) (b : Nat → Nat) (M SP SV TX NB : Int → Int) (sc tl cd pl cm h : Int) (ht : tInv TX tl) (hp : 0 ≤ pl ∧ pl ≤ tl) (hno : ¬ nok TX tl pl) : ZM l yX9_readNumber wsX9_readNumber ({ frames := 2, cells := 0, slots := 0, locals := 41 } : Room) D ct ad [.ref (b 0), .int (zI 0)] (moW b sc tl cd pl cm h ++ (jrW ct (b 1) 94 M ++ (jrW ct (b 2) 94 SP ++ (jrW ct (b 3) 376 SV ++ (irW ct (b 4) 150 TX ++ (irW ct (b 5) 2 NB)))))) (fun v w => ∃ (NB1 : Int → Int), ((True)) ∧ v = (some (.int (zI 0))) ∧ w = moW b sc tl cd (sk TX tl pl) cm h ++ (jrW ct (b 1) 94 M ++ (jrW ct (b 2) 94 SP ++ (jrW ct (b 3) 376 SV ++ (irW ct (b 4) 150 TX ++ (irW ct (b 5) 2 NB1)))))) := by
  refine ZM.of (cc := cX9_readNumber) (maxL := 4) (ret := (some .boolean)) (by decide +kernel) rfl (Nat.le_of_ble_eq_true rfl) ?_
  intro p e s m below meth c A ls hx hb hr hts hown hlocks hml hname hE hP hD hA hS hl
  have hK := hE.1
  have hf_0 := hts (.fieldLink RX9 230 "RodGridsModel" "place" "I") (by decide +kernel)
  have hf_1 := hts (.fieldLink RX9 23 "RodGridsModel" "numbers" "[I") (by decide +kernel)
  have hin_X9 : ∀ z ∈ u_ws RX9 TX9 11, z ∈ wsX9_readNumber := by decide +kernel
  have hl : lv_has ls 4 [(0, .ref (b 0)), (1, .int (zI 0))] := hl
  have t1 := ht.1
  have sB := sk_B (TX := TX) hp.2
  have sL := sk_lt (TX := TX) hp.2
  have nB := (nV_B (TX := TX) hp.2).1
  have nof : tc TX tl pl = 32 → dE TX tl pl = sk TX tl pl := fun z => (Int.lt_or_eq_of_le nB.1).elim (fun q => absurd (show nok TX tl pl from ⟨z, q⟩) hno) (fun q => q.symm)
  refine lv_aload_n hx hb dX9_readNumber_0 rfl (lv_at hl 0 rfl) ?_
  refine z_callV (C := RX9) (q0 := 0) (ci := 7) (As := []) (rest := []) ([] : va_W) ([] : va_W) hx hb hml hown hts hl hE hS hA (zr0 ([] : va_W) hP) (zr0D ([] : va_W) hD) (c_X9_skips l D ct ad b M SP SV TX NB sc tl cd pl cm h (by assumption) (by omega)) gX9_readNumber_X9_skips rfl rfl k_X9_skips ⟨Nat.le_of_ble_eq_true rfl, Nat.le_of_ble_eq_true rfl⟩ rfl rfl rfl rfl (Nat.le_of_ble_eq_true rfl) ⟨Nat.le_of_ble_eq_true rfl, Nat.le_of_ble_eq_true rfl⟩ dX9_readNumber_1 rfl (fun v w1 H locs hpost hP hD hS => ?_)
  obtain ⟨rfl, rfl⟩ := hpost
  have hP := zr0' hP
  have hD := zr0D' hD
  have hP : va_P D vwCl (moW b sc tl cd (sk TX tl pl) cm h ++ (jrW ct (b 1) 94 M ++ (jrW ct (b 2) 94 SP ++ (jrW ct (b 3) 376 SV ++ (irW ct (b 4) 150 TX ++ (irW ct (b 5) 2 NB)))))) H := hP
  have hD : va_D A (moW b sc tl cd (sk TX tl pl) cm h ++ (jrW ct (b 1) 94 M ++ (jrW ct (b 2) 94 SP ++ (jrW ct (b 3) 376 SV ++ (irW ct (b 4) 150 TX ++ (irW ct (b 5) 2 NB)))))) := hD
  refine W.eq (g2 := F0 m 4 ls [.int (zI (zB (pl < sk TX tl pl)))]) rfl ?_
  refine zb_if_ne (tgt := 9) hx hb dX9_readNumber_4 (by decide) (fun hc_4 => ?_) (fun hc_4 => ?_)
  · have hc_4 := hc_4
    refine lv_aload_n hx hb dX9_readNumber_9 rfl (lv_at hl 0 rfl) ?_
    refine va_get (D := D) (ci := 7) (v := .int (zI (sk TX tl pl))) (C := RX9) (T := TX9) (N := 11) hx hb hts hin_X9 hown hK hP 0 rfl rfl 7 (by decide) hf_0 (fun _ h9 => h9) rfl dX9_readNumber_10 ?_
    refine lv_istore_n (lv' := [(2, .int (zI (sk TX tl pl))), (0, .ref (b 0)), (1, .int (zI 0))]) hx hb dX9_readNumber_13 rfl hl (by decide) rfl (fun ls hl => ?_)
    refine z_iconst hx hb dX9_readNumber_14 ?_
    refine lv_istore_n (lv' := [(3, .int (zI 0)), (2, .int (zI (sk TX tl pl))), (0, .ref (b 0)), (1, .int (zI 0))]) hx hb dX9_readNumber_15 rfl hl (by decide) rfl (fun ls hl => ?_)
    refine z_loop (σ := Int × Int) (fun q9 => (tl - q9.1).toNat) (fun q9 => (sk TX tl pl ≤ q9.1 ∧ q9.1 ≤ tl ∧ q9.1 ≤ sk TX tl pl + 7) ∧ (dvN TX tl (sk TX tl pl + 7 - q9.1).toNat q9.1 q9.2 = dvN TX tl 7 (sk TX tl pl) 0)) (fun q9 => moW b sc tl cd q9.1 cm h ++ (jrW ct (b 1) 94 M ++ (jrW ct (b 2) 94 SP ++ (jrW ct (b 3) 376 SV ++ (irW ct (b 4) 150 TX ++ (irW ct (b 5) 2 NB)))))) (fun q9 => [(0, .ref (b 0)), (1, .int (zI 0)), (2, .int (zI (sk TX tl pl))), (3, .int (zI q9.2))]) (fun q9 => []) ((sk TX tl pl), 0) ⟨(show sk TX tl pl ≤ (sk TX tl pl) ∧ (sk TX tl pl) ≤ tl ∧ (sk TX tl pl) ≤ sk TX tl pl + 7 from (by omega)), (show dvN TX tl (sk TX tl pl + 7 - (sk TX tl pl)).toNat (sk TX tl pl) 0 = dvN TX tl 7 (sk TX tl pl) 0 from (by rw [show (sk TX tl pl + 7 - sk TX tl pl).toNat = 7 by omega]))⟩ hP hD hS (lv_sub hl [2, 3, 1, 0] rfl) rfl ?_
    rintro ⟨i, n_⟩ hI_16 ih_16 H locs ls hP hD hS hl
    obtain ⟨hi, hd⟩ := hI_16
    have hi : sk TX tl pl ≤ i ∧ i ≤ tl ∧ i ≤ sk TX tl pl + 7 := hi
    have hd : dvN TX tl (sk TX tl pl + 7 - i).toNat i n_ = dvN TX tl 7 (sk TX tl pl) 0 := hd
    have hP : va_P D vwCl (moW b sc tl cd i cm h ++ (jrW ct (b 1) 94 M ++ (jrW ct (b 2) 94 SP ++ (jrW ct (b 3) 376 SV ++ (irW ct (b 4) 150 TX ++ (irW ct (b 5) 2 NB)))))) H := hP
    have hD : va_D A (moW b sc tl cd i cm h ++ (jrW ct (b 1) 94 M ++ (jrW ct (b 2) 94 SP ++ (jrW ct (b 3) 376 SV ++ (irW ct (b 4) 150 TX ++ (irW ct (b 5) 2 NB)))))) := hD
    have hl : lv_has ls 4 [(0, .ref (b 0)), (1, .int (zI 0)), (2, .int (zI (sk TX tl pl))), (3, .int (zI n_))] := hl
    have tB := tcB ht (p := i) (by omega)
    refine lv_aload_n hx hb dX9_readNumber_16 rfl (lv_at hl 0 rfl) ?_
    refine va_get (D := D) (ci := 7) (v := .int (zI i)) (C := RX9) (T := TX9) (N := 11) hx hb hts hin_X9 hown hK hP 0 rfl rfl 7 (by decide) hf_0 (fun _ h9 => h9) rfl dX9_readNumber_17 ?_
    refine lv_iload_n hx hb dX9_readNumber_20 rfl (lv_at hl 2 rfl) ?_
    refine z_bipush hx hb dX9_readNumber_21 (by decide) ?_
    refine z_iadd hx hb dX9_readNumber_23 ?_
    refine z_icmp_ge (tgt := 67) hx hb dX9_readNumber_24 (by decide) (by omega) (by omega) (fun hc_24 => ?_) (fun hc_24 => ?_)
    · have hc_24 := hc_24
      have eE : dvN TX tl 7 (sk TX tl pl) 0 = (i, n_) := by rw [← hd]; exact dvE (by omega)
      have e1 : dE TX tl pl = i := by unfold dE; rw [eE]
      have e2 : nV TX tl pl = n_ := by unfold nV; rw [eE]
      refine lv_aload_n hx hb dX9_readNumber_67 rfl (lv_at hl 0 rfl) ?_
      refine va_get (D := D) (ci := 7) (v := .ref (b 5)) (C := RX9) (T := TX9) (N := 11) hx hb hts hin_X9 hown hK hP 0 rfl rfl 9 (by decide) hf_1 (fun _ h9 => h9) rfl dX9_readNumber_68 ?_
      refine lv_iload_n hx hb dX9_readNumber_71 rfl (lv_at hl 1 rfl) ?_
      refine lv_iload_n hx hb dX9_readNumber_72 rfl (lv_at hl 3 rfl) ?_
      refine z_iast (g := NB) (w2 := moW b sc tl cd i cm h ++ (jrW ct (b 1) 94 M ++ (jrW ct (b 2) 94 SP ++ (jrW ct (b 3) 376 SV ++ (irW ct (b 4) 150 TX ++ (irW ct (b 5) 2 (up NB 0 n_))))))) hx hb hK hP hD hS 5 rfl (by decide) (by omega) dX9_readNumber_73 (rfl) (fun H locs hP hD hS => ?_)
      refine lv_aload_n hx hb dX9_readNumber_74 rfl (lv_at hl 0 rfl) ?_
      refine va_get (D := D) (ci := 7) (v := .int (zI i)) (C := RX9) (T := TX9) (N := 11) hx hb hts hin_X9 hown hK hP 0 rfl rfl 7 (by decide) hf_0 (fun _ h9 => h9) rfl dX9_readNumber_75 ?_
      refine lv_iload_n hx hb dX9_readNumber_78 rfl (lv_at hl 2 rfl) ?_
      refine z_icmp_le (tgt := 86) hx hb dX9_readNumber_79 (by decide) (by omega) (by omega) (fun hc_79 => ?_) (fun hc_79 => ?_)
      · have hc_79 := hc_79
        refine z_iconst hx hb dX9_readNumber_86 ?_
        exact z_zret hx hb hr (by first | rfl | exact zB_nar) hlocks hP hD hS ⟨Nat.le_of_ble_eq_true rfl, Nat.le_of_ble_eq_true rfl⟩ dX9_readNumber_87 (⟨(up NB 0 n_), trivial, rfl, by first | rfl | (rw [show sk TX tl pl = i by omega])⟩)
      · have hc_79 := hc_79
        omega
    · have hc_24 := hc_24
      refine lv_aload_n hx hb dX9_readNumber_27 rfl (lv_at hl 0 rfl) ?_
      refine z_callV (C := RX9) (q0 := 0) (ci := 7) (As := []) (rest := []) ([] : va_W) ([] : va_W) hx hb hml hown hts hl hE hS hA (zr0 ([] : va_W) hP) (zr0D ([] : va_W) hD) (c_X9_here l D ct ad b M SP SV TX NB sc tl cd i cm h (by assumption) (by omega)) gX9_readNumber_X9_here rfl rfl k_X9_here ⟨Nat.le_of_ble_eq_true rfl, Nat.le_of_ble_eq_true rfl⟩ rfl rfl rfl rfl (Nat.le_of_ble_eq_true rfl) ⟨Nat.le_of_ble_eq_true rfl, Nat.le_of_ble_eq_true rfl⟩ dX9_readNumber_28 rfl (fun v w1 H locs hpost hP hD hS => ?_)
      obtain ⟨rfl, rfl⟩ := hpost
      have hP := zr0' hP
      have hD := zr0D' hD
      have hP : va_P D vwCl (moW b sc tl cd i cm h ++ (jrW ct (b 1) 94 M ++ (jrW ct (b 2) 94 SP ++ (jrW ct (b 3) 376 SV ++ (irW ct (b 4) 150 TX ++ (irW ct (b 5) 2 NB)))))) H := hP
      have hD : va_D A (moW b sc tl cd i cm h ++ (jrW ct (b 1) 94 M ++ (jrW ct (b 2) 94 SP ++ (jrW ct (b 3) 376 SV ++ (irW ct (b 4) 150 TX ++ (irW ct (b 5) 2 NB)))))) := hD
      refine W.eq (g2 := F0 m 31 ls [.int (zI (hrf TX tl i))]) rfl ?_
      refine z_bipush hx hb dX9_readNumber_31 (by decide) ?_
      refine z_bipush hx hb dX9_readNumber_33 (by decide) ?_
      refine z_callS (As := [.int (zI (hrf TX tl i)), .int (zI 48), .int (zI 57)]) (rest := []) ([] : va_W) (moW b sc tl cd i cm h ++ (jrW ct (b 1) 94 M ++ (jrW ct (b 2) 94 SP ++ (jrW ct (b 3) 376 SV ++ (irW ct (b 4) 150 TX ++ (irW ct (b 5) 2 NB)))))) hx hb hml hown hts hl hE hS hA hP hD (c_X9_in l D ct ad (hrf TX tl i) 48 57 (by omega) (by omega) (by omega)) gX9_readNumber_X9_in rfl k_X9_in ⟨Nat.le_of_ble_eq_true rfl, Nat.le_of_ble_eq_true rfl⟩ rfl (Nat.le_of_ble_eq_true rfl) ⟨Nat.le_of_ble_eq_true rfl, Nat.le_of_ble_eq_true rfl⟩ dX9_readNumber_35 rfl (fun v w1 H locs hpost hP hD hS => ?_)
      obtain ⟨rfl, rfl⟩ := hpost
      have hP : va_P D vwCl (moW b sc tl cd i cm h ++ (jrW ct (b 1) 94 M ++ (jrW ct (b 2) 94 SP ++ (jrW ct (b 3) 376 SV ++ (irW ct (b 4) 150 TX ++ (irW ct (b 5) 2 NB)))))) H := hP
      have hD : va_D A (moW b sc tl cd i cm h ++ (jrW ct (b 1) 94 M ++ (jrW ct (b 2) 94 SP ++ (jrW ct (b 3) 376 SV ++ (irW ct (b 4) 150 TX ++ (irW ct (b 5) 2 NB)))))) := hD
      refine W.eq (g2 := F0 m 38 ls [.int (zI (zB (48 ≤ (hrf TX tl i) ∧ (hrf TX tl i) ≤ 57)))]) rfl ?_
      refine zb_if_eq (tgt := 67) hx hb dX9_readNumber_38 (by decide) (fun hc_38 => ?_) (fun hc_38 => ?_)
      · have hc_38 := hc_38
        have eE : dvN TX tl 7 (sk TX tl pl) 0 = (i, n_) := by rw [← hd]; exact dvE (by omega)
        have e1 : dE TX tl pl = i := by unfold dE; rw [eE]
        have e2 : nV TX tl pl = n_ := by unfold nV; rw [eE]
        refine lv_aload_n hx hb dX9_readNumber_67 rfl (lv_at hl 0 rfl) ?_
        refine va_get (D := D) (ci := 7) (v := .ref (b 5)) (C := RX9) (T := TX9) (N := 11) hx hb hts hin_X9 hown hK hP 0 rfl rfl 9 (by decide) hf_1 (fun _ h9 => h9) rfl dX9_readNumber_68 ?_
        refine lv_iload_n hx hb dX9_readNumber_71 rfl (lv_at hl 1 rfl) ?_
        refine lv_iload_n hx hb dX9_readNumber_72 rfl (lv_at hl 3 rfl) ?_
        refine z_iast (g := NB) (w2 := moW b sc tl cd i cm h ++ (jrW ct (b 1) 94 M ++ (jrW ct (b 2) 94 SP ++ (jrW ct (b 3) 376 SV ++ (irW ct (b 4) 150 TX ++ (irW ct (b 5) 2 (up NB 0 n_))))))) hx hb hK hP hD hS 5 rfl (by decide) (by omega) dX9_readNumber_73 (rfl) (fun H locs hP hD hS => ?_)
        refine lv_aload_n hx hb dX9_readNumber_74 rfl (lv_at hl 0 rfl) ?_
        refine va_get (D := D) (ci := 7) (v := .int (zI i)) (C := RX9) (T := TX9) (N := 11) hx hb hts hin_X9 hown hK hP 0 rfl rfl 7 (by decide) hf_0 (fun _ h9 => h9) rfl dX9_readNumber_75 ?_
        refine lv_iload_n hx hb dX9_readNumber_78 rfl (lv_at hl 2 rfl) ?_
        refine z_icmp_le (tgt := 86) hx hb dX9_readNumber_79 (by decide) (by omega) (by omega) (fun hc_79 => ?_) (fun hc_79 => ?_)
        · have hc_79 := hc_79
          refine z_iconst hx hb dX9_readNumber_86 ?_
          exact z_zret hx hb hr (by first | rfl | exact zB_nar) hlocks hP hD hS ⟨Nat.le_of_ble_eq_true rfl, Nat.le_of_ble_eq_true rfl⟩ dX9_readNumber_87 (⟨(up NB 0 n_), trivial, rfl, by first | rfl | (rw [show sk TX tl pl = i by omega])⟩)
        · have hc_79 := hc_79
          omega
      · have hc_38 := hc_38
        refine z_bipush hx hb dX9_readNumber_41 (by decide) ?_
        refine lv_iload_n hx hb dX9_readNumber_43 rfl (lv_at hl 3 rfl) ?_
        refine z_imul hx hb dX9_readNumber_44 ?_
        refine lv_aload_n hx hb dX9_readNumber_45 rfl (lv_at hl 0 rfl) ?_
        refine z_callV (C := RX9) (q0 := 0) (ci := 7) (As := []) (rest := [.int (zI (10 * n_))]) ([] : va_W) ([] : va_W) hx hb hml hown hts hl hE hS hA (zr0 ([] : va_W) hP) (zr0D ([] : va_W) hD) (c_X9_here l D ct ad b M SP SV TX NB sc tl cd i cm h (by assumption) (by omega)) gX9_readNumber_X9_here rfl rfl k_X9_here ⟨Nat.le_of_ble_eq_true rfl, Nat.le_of_ble_eq_true rfl⟩ rfl rfl rfl rfl (Nat.le_of_ble_eq_true rfl) ⟨Nat.le_of_ble_eq_true rfl, Nat.le_of_ble_eq_true rfl⟩ dX9_readNumber_46 rfl (fun v w1 H locs hpost hP hD hS => ?_)
        obtain ⟨rfl, rfl⟩ := hpost
        have hP := zr0' hP
        have hD := zr0D' hD
        have hP : va_P D vwCl (moW b sc tl cd i cm h ++ (jrW ct (b 1) 94 M ++ (jrW ct (b 2) 94 SP ++ (jrW ct (b 3) 376 SV ++ (irW ct (b 4) 150 TX ++ (irW ct (b 5) 2 NB)))))) H := hP
        have hD : va_D A (moW b sc tl cd i cm h ++ (jrW ct (b 1) 94 M ++ (jrW ct (b 2) 94 SP ++ (jrW ct (b 3) 376 SV ++ (irW ct (b 4) 150 TX ++ (irW ct (b 5) 2 NB)))))) := hD
        refine W.eq (g2 := F0 m 49 ls [.int (zI (hrf TX tl i)), .int (zI (10 * n_))]) rfl ?_
        refine z_iadd hx hb dX9_readNumber_49 ?_
        refine z_bipush hx hb dX9_readNumber_50 (by decide) ?_
        refine z_isub hx hb dX9_readNumber_52 ?_
        refine lv_istore_n (lv' := [(3, .int (zI (((10 * n_) + (hrf TX tl i)) - 48))), (0, .ref (b 0)), (1, .int (zI 0)), (2, .int (zI (sk TX tl pl)))]) hx hb dX9_readNumber_53 rfl hl (by decide) rfl (fun ls hl => ?_)
        refine lv_aload_n hx hb dX9_readNumber_54 rfl (lv_at hl 1 rfl) ?_
        refine lv_dup hx hb dX9_readNumber_55 rfl ?_
        refine va_get (D := D) (ci := 7) (v := .int (zI i)) (C := RX9) (T := TX9) (N := 11) hx hb hts hin_X9 hown hK hP 0 rfl rfl 7 (by decide) hf_0 (fun _ h9 => h9) rfl dX9_readNumber_56 ?_
        refine z_iconst hx hb dX9_readNumber_59 ?_
        refine z_iadd hx hb dX9_readNumber_60 ?_
        refine z_put (ct := ct) (ad := ad) (ci := 7) (v := .int (zI (i + 1))) (ty := tyX9 7) (C := RX9) (T := TX9) (N := 11) (w2 := moW b sc tl cd (i + 1) cm h ++ (jrW ct (b 1) 94 M ++ (jrW ct (b 2) 94 SP ++ (jrW ct (b 3) 376 SV ++ (irW ct (b 4) 150 TX ++ (irW ct (b 5) 2 NB)))))) hx hb hts hin_X9 tyX9 tyX9_ok nmX9 hown hE hP hD hS 0 rfl rfl 7 (by decide) hf_0 (fun _ h9 => h9) rfl (by decide +kernel) rfl rfl (Nat.le_of_ble_eq_true rfl) dX9_readNumber_61 (rfl) (fun H locs hP hD hS => ?_)
        refine lv_goto (tgt := 16) hx hb dX9_readNumber_64 (by decide) ?_
        exact ih_16 (i + 1, ((10 * n_) + (hrf TX tl i)) - 48) ⟨(show sk TX tl pl ≤ (i + 1) ∧ (i + 1) ≤ tl ∧ (i + 1) ≤ sk TX tl pl + 7 from (by omega)), (show dvN TX tl (sk TX tl pl + 7 - (i + 1)).toNat (i + 1) (((10 * n_) + (hrf TX tl i)) - 48) = dvN TX tl 7 (sk TX tl pl) 0 from (by rw [← hd, dvS (q := sk TX tl pl) (i := i) (x := n_) (by omega) (by omega)]; first | rfl | (congr 1; omega)))⟩ (show (tl - (i + 1)).toNat < (tl - i).toNat from (by omega)) _ _ _ hP hD hS (lv_sub hl [1, 2, 3, 0] rfl)
  · have hc_4 := hc_4
    refine z_iconst hx hb dX9_readNumber_7 ?_
    exact z_zret hx hb hr (by first | rfl | exact zB_nar) hlocks hP hD hS ⟨Nat.le_of_ble_eq_true rfl, Nat.le_of_ble_eq_true rfl⟩ dX9_readNumber_8 (⟨NB, trivial, rfl, by first | rfl | (rw [show sk TX tl pl = i by omega])⟩)
set_option maxHeartbeats 4000000 in
set_option maxRecDepth 100000 in
theorem c_X9_readNumber_no1 (l : Launch) (D : va_G) (ct ad : Nat → Nat) (b : Nat → Nat) (M SP SV TX NB : Int → Int) (sc tl cd pl cm h : Int) (ht : tInv TX tl) (hp : 0 ≤ pl ∧ pl ≤ tl) (hno : ¬ nok TX tl pl) : ZM l yX9_readNumber wsX9_readNumber ({ frames := 2, cells := 0, slots := 0, locals := 41 } : Room) D ct ad [.ref (b 0), .int (zI 1)] (moW b sc tl cd pl cm h ++ (jrW ct (b 1) 94 M ++ (jrW ct (b 2) 94 SP ++ (jrW ct (b 3) 376 SV ++ (irW ct (b 4) 150 TX ++ (irW ct (b 5) 2 NB)))))) (fun v w => ∃ (NB1 : Int → Int), ((True)) ∧ v = (some (.int (zI 0))) ∧ w = moW b sc tl cd (sk TX tl pl) cm h ++ (jrW ct (b 1) 94 M ++ (jrW ct (b 2) 94 SP ++ (jrW ct (b 3) 376 SV ++ (irW ct (b 4) 150 TX ++ (irW ct (b 5) 2 NB1)))))) := by
  refine ZM.of (cc := cX9_readNumber) (maxL := 4) (ret := (some .boolean)) (by decide +kernel) rfl (Nat.le_of_ble_eq_true rfl) ?_
  intro p e s m below meth c A ls hx hb hr hts hown hlocks hml hname hE hP hD hA hS hl
  have hK := hE.1
  have hf_0 := hts (.fieldLink RX9 230 "RodGridsModel" "place" "I") (by decide +kernel)
  have hf_1 := hts (.fieldLink RX9 23 "RodGridsModel" "numbers" "[I") (by decide +kernel)
  have hin_X9 : ∀ z ∈ u_ws RX9 TX9 11, z ∈ wsX9_readNumber := by decide +kernel
  have hl : lv_has ls 4 [(0, .ref (b 0)), (1, .int (zI 1))] := hl
  have t1 := ht.1
  have sB := sk_B (TX := TX) hp.2
  have sL := sk_lt (TX := TX) hp.2
  have nB := (nV_B (TX := TX) hp.2).1
  have nof : tc TX tl pl = 32 → dE TX tl pl = sk TX tl pl := fun z => (Int.lt_or_eq_of_le nB.1).elim (fun q => absurd (show nok TX tl pl from ⟨z, q⟩) hno) (fun q => q.symm)
  refine lv_aload_n hx hb dX9_readNumber_0 rfl (lv_at hl 0 rfl) ?_
  refine z_callV (C := RX9) (q0 := 0) (ci := 7) (As := []) (rest := []) ([] : va_W) ([] : va_W) hx hb hml hown hts hl hE hS hA (zr0 ([] : va_W) hP) (zr0D ([] : va_W) hD) (c_X9_skips l D ct ad b M SP SV TX NB sc tl cd pl cm h (by assumption) (by omega)) gX9_readNumber_X9_skips rfl rfl k_X9_skips ⟨Nat.le_of_ble_eq_true rfl, Nat.le_of_ble_eq_true rfl⟩ rfl rfl rfl rfl (Nat.le_of_ble_eq_true rfl) ⟨Nat.le_of_ble_eq_true rfl, Nat.le_of_ble_eq_true rfl⟩ dX9_readNumber_1 rfl (fun v w1 H locs hpost hP hD hS => ?_)
  obtain ⟨rfl, rfl⟩ := hpost
  have hP := zr0' hP
  have hD := zr0D' hD
  have hP : va_P D vwCl (moW b sc tl cd (sk TX tl pl) cm h ++ (jrW ct (b 1) 94 M ++ (jrW ct (b 2) 94 SP ++ (jrW ct (b 3) 376 SV ++ (irW ct (b 4) 150 TX ++ (irW ct (b 5) 2 NB)))))) H := hP
  have hD : va_D A (moW b sc tl cd (sk TX tl pl) cm h ++ (jrW ct (b 1) 94 M ++ (jrW ct (b 2) 94 SP ++ (jrW ct (b 3) 376 SV ++ (irW ct (b 4) 150 TX ++ (irW ct (b 5) 2 NB)))))) := hD
  refine W.eq (g2 := F0 m 4 ls [.int (zI (zB (pl < sk TX tl pl)))]) rfl ?_
  refine zb_if_ne (tgt := 9) hx hb dX9_readNumber_4 (by decide) (fun hc_4 => ?_) (fun hc_4 => ?_)
  · have hc_4 := hc_4
    refine lv_aload_n hx hb dX9_readNumber_9 rfl (lv_at hl 0 rfl) ?_
    refine va_get (D := D) (ci := 7) (v := .int (zI (sk TX tl pl))) (C := RX9) (T := TX9) (N := 11) hx hb hts hin_X9 hown hK hP 0 rfl rfl 7 (by decide) hf_0 (fun _ h9 => h9) rfl dX9_readNumber_10 ?_
    refine lv_istore_n (lv' := [(2, .int (zI (sk TX tl pl))), (0, .ref (b 0)), (1, .int (zI 1))]) hx hb dX9_readNumber_13 rfl hl (by decide) rfl (fun ls hl => ?_)
    refine z_iconst hx hb dX9_readNumber_14 ?_
    refine lv_istore_n (lv' := [(3, .int (zI 0)), (2, .int (zI (sk TX tl pl))), (0, .ref (b 0)), (1, .int (zI 1))]) hx hb dX9_readNumber_15 rfl hl (by decide) rfl (fun ls hl => ?_)
    refine z_loop (σ := Int × Int) (fun q9 => (tl - q9.1).toNat) (fun q9 => (sk TX tl pl ≤ q9.1 ∧ q9.1 ≤ tl ∧ q9.1 ≤ sk TX tl pl + 7) ∧ (dvN TX tl (sk TX tl pl + 7 - q9.1).toNat q9.1 q9.2 = dvN TX tl 7 (sk TX tl pl) 0)) (fun q9 => moW b sc tl cd q9.1 cm h ++ (jrW ct (b 1) 94 M ++ (jrW ct (b 2) 94 SP ++ (jrW ct (b 3) 376 SV ++ (irW ct (b 4) 150 TX ++ (irW ct (b 5) 2 NB)))))) (fun q9 => [(0, .ref (b 0)), (1, .int (zI 1)), (2, .int (zI (sk TX tl pl))), (3, .int (zI q9.2))]) (fun q9 => []) ((sk TX tl pl), 0) ⟨(show sk TX tl pl ≤ (sk TX tl pl) ∧ (sk TX tl pl) ≤ tl ∧ (sk TX tl pl) ≤ sk TX tl pl + 7 from (by omega)), (show dvN TX tl (sk TX tl pl + 7 - (sk TX tl pl)).toNat (sk TX tl pl) 0 = dvN TX tl 7 (sk TX tl pl) 0 from (by rw [show (sk TX tl pl + 7 - sk TX tl pl).toNat = 7 by omega]))⟩ hP hD hS (lv_sub hl [2, 3, 1, 0] rfl) rfl ?_
    rintro ⟨i, n_⟩ hI_16 ih_16 H locs ls hP hD hS hl
    obtain ⟨hi, hd⟩ := hI_16
    have hi : sk TX tl pl ≤ i ∧ i ≤ tl ∧ i ≤ sk TX tl pl + 7 := hi
    have hd : dvN TX tl (sk TX tl pl + 7 - i).toNat i n_ = dvN TX tl 7 (sk TX tl pl) 0 := hd
    have hP : va_P D vwCl (moW b sc tl cd i cm h ++ (jrW ct (b 1) 94 M ++ (jrW ct (b 2) 94 SP ++ (jrW ct (b 3) 376 SV ++ (irW ct (b 4) 150 TX ++ (irW ct (b 5) 2 NB)))))) H := hP
    have hD : va_D A (moW b sc tl cd i cm h ++ (jrW ct (b 1) 94 M ++ (jrW ct (b 2) 94 SP ++ (jrW ct (b 3) 376 SV ++ (irW ct (b 4) 150 TX ++ (irW ct (b 5) 2 NB)))))) := hD
    have hl : lv_has ls 4 [(0, .ref (b 0)), (1, .int (zI 1)), (2, .int (zI (sk TX tl pl))), (3, .int (zI n_))] := hl
    have tB := tcB ht (p := i) (by omega)
    refine lv_aload_n hx hb dX9_readNumber_16 rfl (lv_at hl 0 rfl) ?_
    refine va_get (D := D) (ci := 7) (v := .int (zI i)) (C := RX9) (T := TX9) (N := 11) hx hb hts hin_X9 hown hK hP 0 rfl rfl 7 (by decide) hf_0 (fun _ h9 => h9) rfl dX9_readNumber_17 ?_
    refine lv_iload_n hx hb dX9_readNumber_20 rfl (lv_at hl 2 rfl) ?_
    refine z_bipush hx hb dX9_readNumber_21 (by decide) ?_
    refine z_iadd hx hb dX9_readNumber_23 ?_
    refine z_icmp_ge (tgt := 67) hx hb dX9_readNumber_24 (by decide) (by omega) (by omega) (fun hc_24 => ?_) (fun hc_24 => ?_)
    · have hc_24 := hc_24
      have eE : dvN TX tl 7 (sk TX tl pl) 0 = (i, n_) := by rw [← hd]; exact dvE (by omega)
      have e1 : dE TX tl pl = i := by unfold dE; rw [eE]
      have e2 : nV TX tl pl = n_ := by unfold nV; rw [eE]
      refine lv_aload_n hx hb dX9_readNumber_67 rfl (lv_at hl 0 rfl) ?_
      refine va_get (D := D) (ci := 7) (v := .ref (b 5)) (C := RX9) (T := TX9) (N := 11) hx hb hts hin_X9 hown hK hP 0 rfl rfl 9 (by decide) hf_1 (fun _ h9 => h9) rfl dX9_readNumber_68 ?_
      refine lv_iload_n hx hb dX9_readNumber_71 rfl (lv_at hl 1 rfl) ?_
      refine lv_iload_n hx hb dX9_readNumber_72 rfl (lv_at hl 3 rfl) ?_
      refine z_iast (g := NB) (w2 := moW b sc tl cd i cm h ++ (jrW ct (b 1) 94 M ++ (jrW ct (b 2) 94 SP ++ (jrW ct (b 3) 376 SV ++ (irW ct (b 4) 150 TX ++ (irW ct (b 5) 2 (up NB 1 n_))))))) hx hb hK hP hD hS 5 rfl (by decide) (by omega) dX9_readNumber_73 (rfl) (fun H locs hP hD hS => ?_)
      refine lv_aload_n hx hb dX9_readNumber_74 rfl (lv_at hl 0 rfl) ?_
      refine va_get (D := D) (ci := 7) (v := .int (zI i)) (C := RX9) (T := TX9) (N := 11) hx hb hts hin_X9 hown hK hP 0 rfl rfl 7 (by decide) hf_0 (fun _ h9 => h9) rfl dX9_readNumber_75 ?_
      refine lv_iload_n hx hb dX9_readNumber_78 rfl (lv_at hl 2 rfl) ?_
      refine z_icmp_le (tgt := 86) hx hb dX9_readNumber_79 (by decide) (by omega) (by omega) (fun hc_79 => ?_) (fun hc_79 => ?_)
      · have hc_79 := hc_79
        refine z_iconst hx hb dX9_readNumber_86 ?_
        exact z_zret hx hb hr (by first | rfl | exact zB_nar) hlocks hP hD hS ⟨Nat.le_of_ble_eq_true rfl, Nat.le_of_ble_eq_true rfl⟩ dX9_readNumber_87 (⟨(up NB 1 n_), trivial, rfl, by first | rfl | (rw [show sk TX tl pl = i by omega])⟩)
      · have hc_79 := hc_79
        omega
    · have hc_24 := hc_24
      refine lv_aload_n hx hb dX9_readNumber_27 rfl (lv_at hl 0 rfl) ?_
      refine z_callV (C := RX9) (q0 := 0) (ci := 7) (As := []) (rest := []) ([] : va_W) ([] : va_W) hx hb hml hown hts hl hE hS hA (zr0 ([] : va_W) hP) (zr0D ([] : va_W) hD) (c_X9_here l D ct ad b M SP SV TX NB sc tl cd i cm h (by assumption) (by omega)) gX9_readNumber_X9_here rfl rfl k_X9_here ⟨Nat.le_of_ble_eq_true rfl, Nat.le_of_ble_eq_true rfl⟩ rfl rfl rfl rfl (Nat.le_of_ble_eq_true rfl) ⟨Nat.le_of_ble_eq_true rfl, Nat.le_of_ble_eq_true rfl⟩ dX9_readNumber_28 rfl (fun v w1 H locs hpost hP hD hS => ?_)
      obtain ⟨rfl, rfl⟩ := hpost
      have hP := zr0' hP
      have hD := zr0D' hD
      have hP : va_P D vwCl (moW b sc tl cd i cm h ++ (jrW ct (b 1) 94 M ++ (jrW ct (b 2) 94 SP ++ (jrW ct (b 3) 376 SV ++ (irW ct (b 4) 150 TX ++ (irW ct (b 5) 2 NB)))))) H := hP
      have hD : va_D A (moW b sc tl cd i cm h ++ (jrW ct (b 1) 94 M ++ (jrW ct (b 2) 94 SP ++ (jrW ct (b 3) 376 SV ++ (irW ct (b 4) 150 TX ++ (irW ct (b 5) 2 NB)))))) := hD
      refine W.eq (g2 := F0 m 31 ls [.int (zI (hrf TX tl i))]) rfl ?_
      refine z_bipush hx hb dX9_readNumber_31 (by decide) ?_
      refine z_bipush hx hb dX9_readNumber_33 (by decide) ?_
      refine z_callS (As := [.int (zI (hrf TX tl i)), .int (zI 48), .int (zI 57)]) (rest := []) ([] : va_W) (moW b sc tl cd i cm h ++ (jrW ct (b 1) 94 M ++ (jrW ct (b 2) 94 SP ++ (jrW ct (b 3) 376 SV ++ (irW ct (b 4) 150 TX ++ (irW ct (b 5) 2 NB)))))) hx hb hml hown hts hl hE hS hA hP hD (c_X9_in l D ct ad (hrf TX tl i) 48 57 (by omega) (by omega) (by omega)) gX9_readNumber_X9_in rfl k_X9_in ⟨Nat.le_of_ble_eq_true rfl, Nat.le_of_ble_eq_true rfl⟩ rfl (Nat.le_of_ble_eq_true rfl) ⟨Nat.le_of_ble_eq_true rfl, Nat.le_of_ble_eq_true rfl⟩ dX9_readNumber_35 rfl (fun v w1 H locs hpost hP hD hS => ?_)
      obtain ⟨rfl, rfl⟩ := hpost
      have hP : va_P D vwCl (moW b sc tl cd i cm h ++ (jrW ct (b 1) 94 M ++ (jrW ct (b 2) 94 SP ++ (jrW ct (b 3) 376 SV ++ (irW ct (b 4) 150 TX ++ (irW ct (b 5) 2 NB)))))) H := hP
      have hD : va_D A (moW b sc tl cd i cm h ++ (jrW ct (b 1) 94 M ++ (jrW ct (b 2) 94 SP ++ (jrW ct (b 3) 376 SV ++ (irW ct (b 4) 150 TX ++ (irW ct (b 5) 2 NB)))))) := hD
      refine W.eq (g2 := F0 m 38 ls [.int (zI (zB (48 ≤ (hrf TX tl i) ∧ (hrf TX tl i) ≤ 57)))]) rfl ?_
      refine zb_if_eq (tgt := 67) hx hb dX9_readNumber_38 (by decide) (fun hc_38 => ?_) (fun hc_38 => ?_)
      · have hc_38 := hc_38
        have eE : dvN TX tl 7 (sk TX tl pl) 0 = (i, n_) := by rw [← hd]; exact dvE (by omega)
        have e1 : dE TX tl pl = i := by unfold dE; rw [eE]
        have e2 : nV TX tl pl = n_ := by unfold nV; rw [eE]
        refine lv_aload_n hx hb dX9_readNumber_67 rfl (lv_at hl 0 rfl) ?_
        refine va_get (D := D) (ci := 7) (v := .ref (b 5)) (C := RX9) (T := TX9) (N := 11) hx hb hts hin_X9 hown hK hP 0 rfl rfl 9 (by decide) hf_1 (fun _ h9 => h9) rfl dX9_readNumber_68 ?_
        refine lv_iload_n hx hb dX9_readNumber_71 rfl (lv_at hl 1 rfl) ?_
        refine lv_iload_n hx hb dX9_readNumber_72 rfl (lv_at hl 3 rfl) ?_
        refine z_iast (g := NB) (w2 := moW b sc tl cd i cm h ++ (jrW ct (b 1) 94 M ++ (jrW ct (b 2) 94 SP ++ (jrW ct (b 3) 376 SV ++ (irW ct (b 4) 150 TX ++ (irW ct (b 5) 2 (up NB 1 n_))))))) hx hb hK hP hD hS 5 rfl (by decide) (by omega) dX9_readNumber_73 (rfl) (fun H locs hP hD hS => ?_)
        refine lv_aload_n hx hb dX9_readNumber_74 rfl (lv_at hl 0 rfl) ?_
        refine va_get (D := D) (ci := 7) (v := .int (zI i)) (C := RX9) (T := TX9) (N := 11) hx hb hts hin_X9 hown hK hP 0 rfl rfl 7 (by decide) hf_0 (fun _ h9 => h9) rfl dX9_readNumber_75 ?_
        refine lv_iload_n hx hb dX9_readNumber_78 rfl (lv_at hl 2 rfl) ?_
        refine z_icmp_le (tgt := 86) hx hb dX9_readNumber_79 (by decide) (by omega) (by omega) (fun hc_79 => ?_) (fun hc_79 => ?_)
        · have hc_79 := hc_79
          refine z_iconst hx hb dX9_readNumber_86 ?_
          exact z_zret hx hb hr (by first | rfl | exact zB_nar) hlocks hP hD hS ⟨Nat.le_of_ble_eq_true rfl, Nat.le_of_ble_eq_true rfl⟩ dX9_readNumber_87 (⟨(up NB 1 n_), trivial, rfl, by first | rfl | (rw [show sk TX tl pl = i by omega])⟩)
        · have hc_79 := hc_79
          omega
      · have hc_38 := hc_38
        refine z_bipush hx hb dX9_readNumber_41 (by decide) ?_
        refine lv_iload_n hx hb dX9_readNumber_43 rfl (lv_at hl 3 rfl) ?_
        refine z_imul hx hb dX9_readNumber_44 ?_
        refine lv_aload_n hx hb dX9_readNumber_45 rfl (lv_at hl 0 rfl) ?_
        refine z_callV (C := RX9) (q0 := 0) (ci := 7) (As := []) (rest := [.int (zI (10 * n_))]) ([] : va_W) ([] : va_W) hx hb hml hown hts hl hE hS hA (zr0 ([] : va_W) hP) (zr0D ([] : va_W) hD) (c_X9_here l D ct ad b M SP SV TX NB sc tl cd i cm h (by assumption) (by omega)) gX9_readNumber_X9_here rfl rfl k_X9_here ⟨Nat.le_of_ble_eq_true rfl, Nat.le_of_ble_eq_true rfl⟩ rfl rfl rfl rfl (Nat.le_of_ble_eq_true rfl) ⟨Nat.le_of_ble_eq_true rfl, Nat.le_of_ble_eq_true rfl⟩ dX9_readNumber_46 rfl (fun v w1 H locs hpost hP hD hS => ?_)
        obtain ⟨rfl, rfl⟩ := hpost
        have hP := zr0' hP
        have hD := zr0D' hD
        have hP : va_P D vwCl (moW b sc tl cd i cm h ++ (jrW ct (b 1) 94 M ++ (jrW ct (b 2) 94 SP ++ (jrW ct (b 3) 376 SV ++ (irW ct (b 4) 150 TX ++ (irW ct (b 5) 2 NB)))))) H := hP
        have hD : va_D A (moW b sc tl cd i cm h ++ (jrW ct (b 1) 94 M ++ (jrW ct (b 2) 94 SP ++ (jrW ct (b 3) 376 SV ++ (irW ct (b 4) 150 TX ++ (irW ct (b 5) 2 NB)))))) := hD
        refine W.eq (g2 := F0 m 49 ls [.int (zI (hrf TX tl i)), .int (zI (10 * n_))]) rfl ?_
        refine z_iadd hx hb dX9_readNumber_49 ?_
        refine z_bipush hx hb dX9_readNumber_50 (by decide) ?_
        refine z_isub hx hb dX9_readNumber_52 ?_
        refine lv_istore_n (lv' := [(3, .int (zI (((10 * n_) + (hrf TX tl i)) - 48))), (0, .ref (b 0)), (1, .int (zI 1)), (2, .int (zI (sk TX tl pl)))]) hx hb dX9_readNumber_53 rfl hl (by decide) rfl (fun ls hl => ?_)
        refine lv_aload_n hx hb dX9_readNumber_54 rfl (lv_at hl 1 rfl) ?_
        refine lv_dup hx hb dX9_readNumber_55 rfl ?_
        refine va_get (D := D) (ci := 7) (v := .int (zI i)) (C := RX9) (T := TX9) (N := 11) hx hb hts hin_X9 hown hK hP 0 rfl rfl 7 (by decide) hf_0 (fun _ h9 => h9) rfl dX9_readNumber_56 ?_
        refine z_iconst hx hb dX9_readNumber_59 ?_
        refine z_iadd hx hb dX9_readNumber_60 ?_
        refine z_put (ct := ct) (ad := ad) (ci := 7) (v := .int (zI (i + 1))) (ty := tyX9 7) (C := RX9) (T := TX9) (N := 11) (w2 := moW b sc tl cd (i + 1) cm h ++ (jrW ct (b 1) 94 M ++ (jrW ct (b 2) 94 SP ++ (jrW ct (b 3) 376 SV ++ (irW ct (b 4) 150 TX ++ (irW ct (b 5) 2 NB)))))) hx hb hts hin_X9 tyX9 tyX9_ok nmX9 hown hE hP hD hS 0 rfl rfl 7 (by decide) hf_0 (fun _ h9 => h9) rfl (by decide +kernel) rfl rfl (Nat.le_of_ble_eq_true rfl) dX9_readNumber_61 (rfl) (fun H locs hP hD hS => ?_)
        refine lv_goto (tgt := 16) hx hb dX9_readNumber_64 (by decide) ?_
        exact ih_16 (i + 1, ((10 * n_) + (hrf TX tl i)) - 48) ⟨(show sk TX tl pl ≤ (i + 1) ∧ (i + 1) ≤ tl ∧ (i + 1) ≤ sk TX tl pl + 7 from (by omega)), (show dvN TX tl (sk TX tl pl + 7 - (i + 1)).toNat (i + 1) (((10 * n_) + (hrf TX tl i)) - 48) = dvN TX tl 7 (sk TX tl pl) 0 from (by rw [← hd, dvS (q := sk TX tl pl) (i := i) (x := n_) (by omega) (by omega)]; first | rfl | (congr 1; omega)))⟩ (show (tl - (i + 1)).toNat < (tl - i).toNat from (by omega)) _ _ _ hP hD hS (lv_sub hl [1, 2, 3, 0] rfl)
  · have hc_4 := hc_4
    refine z_iconst hx hb dX9_readNumber_7 ?_
    exact z_zret hx hb hr (by first | rfl | exact zB_nar) hlocks hP hD hS ⟨Nat.le_of_ble_eq_true rfl, Nat.le_of_ble_eq_true rfl⟩ dX9_readNumber_8 (⟨NB, trivial, rfl, by first | rfl | (rw [show sk TX tl pl = i by omega])⟩)
set_option maxHeartbeats 4000000 in
set_option maxRecDepth 100000 in
theorem c_X9_manyFor (l : Launch) (D : va_G) (ct ad : Nat → Nat) (b : Nat → Nat) (M SP SV TX NB : Int → Int) (sc tl cd pl cm h : Int) (h1 : 0 ≤ cm ∧ cm ≤ 11) : ZM l yX9_manyFor wsX9_manyFor ({ frames := 0, cells := 0, slots := 0, locals := 0 } : Room) D ct ad [.ref (b 0)] (moW b sc tl cd pl cm h ++ (jrW ct (b 1) 94 M ++ (jrW ct (b 2) 94 SP ++ (jrW ct (b 3) 376 SV ++ (irW ct (b 4) 150 TX ++ (irW ct (b 5) 2 NB)))))) (zD (some (.int (zI (many cm)))) (moW b sc tl cd pl cm h ++ (jrW ct (b 1) 94 M ++ (jrW ct (b 2) 94 SP ++ (jrW ct (b 3) 376 SV ++ (irW ct (b 4) 150 TX ++ (irW ct (b 5) 2 NB))))))) := by
  refine ZM.of (cc := cX9_manyFor) (maxL := 1) (ret := (some .int)) (by decide +kernel) rfl (Nat.le_of_ble_eq_true rfl) ?_
  intro p e s m below meth c A ls hx hb hr hts hown hlocks hml hname hE hP hD hA hS hl
  have hK := hE.1
  have hf_0 := hts (.fieldLink RX9 269 "RodGridsModel" "command" "I") (by decide +kernel)
  have hin_X9 : ∀ z ∈ u_ws RX9 TX9 11, z ∈ wsX9_manyFor := by decide +kernel
  have hl : lv_has ls 1 [(0, .ref (b 0))] := hl
  refine lv_aload_n hx hb dX9_manyFor_0 rfl (lv_at hl 0 rfl) ?_
  refine va_get (D := D) (ci := 7) (v := .int (zI cm)) (C := RX9) (T := TX9) (N := 11) hx hb hts hin_X9 hown hK hP 0 rfl rfl 8 (by decide) hf_0 (fun _ h9 => h9) rfl dX9_manyFor_1 ?_
  rcases (show cm = 0 ∨ cm = 1 ∨ cm = 2 ∨ cm = 3 ∨ cm = 4 ∨ cm = 5 ∨ cm = 6 ∨ cm = 7 ∨ cm = 8 ∨ cm = 9 ∨ cm = 10 ∨ cm = 11 ∨ (cm < 0 ∨ 11 < cm) from (by omega)) with hc_4 | hc_4 | hc_4 | hc_4 | hc_4 | hc_4 | hc_4 | hc_4 | hc_4 | hc_4 | hc_4 | hc_4 | hc_4
  · refine z_tabIn (off := 66) (tgt := 70) hx hb dX9_manyFor_4 0 hc_4 (by decide) (by decide) rfl (by decide) ?_
    refine z_iconst hx hb dX9_manyFor_70 ?_
    exact z_iret hx hb hr hlocks hP hD hS ⟨Nat.le_of_ble_eq_true rfl, Nat.le_of_ble_eq_true rfl⟩ dX9_manyFor_71 (⟨congrArg (fun z => some (Value.int (zI z))) (by unfold many; first | (subst hc_4; rfl) | omega), rfl⟩)
  · refine z_tabIn (off := 68) (tgt := 72) hx hb dX9_manyFor_4 1 hc_4 (by decide) (by decide) rfl (by decide) ?_
    refine z_iconst hx hb dX9_manyFor_72 ?_
    exact z_iret hx hb hr hlocks hP hD hS ⟨Nat.le_of_ble_eq_true rfl, Nat.le_of_ble_eq_true rfl⟩ dX9_manyFor_73 (⟨congrArg (fun z => some (Value.int (zI z))) (by unfold many; first | (subst hc_4; rfl) | omega), rfl⟩)
  · refine z_tabIn (off := 68) (tgt := 72) hx hb dX9_manyFor_4 2 hc_4 (by decide) (by decide) rfl (by decide) ?_
    refine z_iconst hx hb dX9_manyFor_72 ?_
    exact z_iret hx hb hr hlocks hP hD hS ⟨Nat.le_of_ble_eq_true rfl, Nat.le_of_ble_eq_true rfl⟩ dX9_manyFor_73 (⟨congrArg (fun z => some (Value.int (zI z))) (by unfold many; first | (subst hc_4; rfl) | omega), rfl⟩)
  · refine z_tabIn (off := 68) (tgt := 72) hx hb dX9_manyFor_4 3 hc_4 (by decide) (by decide) rfl (by decide) ?_
    refine z_iconst hx hb dX9_manyFor_72 ?_
    exact z_iret hx hb hr hlocks hP hD hS ⟨Nat.le_of_ble_eq_true rfl, Nat.le_of_ble_eq_true rfl⟩ dX9_manyFor_73 (⟨congrArg (fun z => some (Value.int (zI z))) (by unfold many; first | (subst hc_4; rfl) | omega), rfl⟩)
  · refine z_tabIn (off := 68) (tgt := 72) hx hb dX9_manyFor_4 4 hc_4 (by decide) (by decide) rfl (by decide) ?_
    refine z_iconst hx hb dX9_manyFor_72 ?_
    exact z_iret hx hb hr hlocks hP hD hS ⟨Nat.le_of_ble_eq_true rfl, Nat.le_of_ble_eq_true rfl⟩ dX9_manyFor_73 (⟨congrArg (fun z => some (Value.int (zI z))) (by unfold many; first | (subst hc_4; rfl) | omega), rfl⟩)
  · refine z_tabIn (off := 68) (tgt := 72) hx hb dX9_manyFor_4 5 hc_4 (by decide) (by decide) rfl (by decide) ?_
    refine z_iconst hx hb dX9_manyFor_72 ?_
    exact z_iret hx hb hr hlocks hP hD hS ⟨Nat.le_of_ble_eq_true rfl, Nat.le_of_ble_eq_true rfl⟩ dX9_manyFor_73 (⟨congrArg (fun z => some (Value.int (zI z))) (by unfold many; first | (subst hc_4; rfl) | omega), rfl⟩)
  · refine z_tabIn (off := 66) (tgt := 70) hx hb dX9_manyFor_4 6 hc_4 (by decide) (by decide) rfl (by decide) ?_
    refine z_iconst hx hb dX9_manyFor_70 ?_
    exact z_iret hx hb hr hlocks hP hD hS ⟨Nat.le_of_ble_eq_true rfl, Nat.le_of_ble_eq_true rfl⟩ dX9_manyFor_71 (⟨congrArg (fun z => some (Value.int (zI z))) (by unfold many; first | (subst hc_4; rfl) | omega), rfl⟩)
  · refine z_tabIn (off := 66) (tgt := 70) hx hb dX9_manyFor_4 7 hc_4 (by decide) (by decide) rfl (by decide) ?_
    refine z_iconst hx hb dX9_manyFor_70 ?_
    exact z_iret hx hb hr hlocks hP hD hS ⟨Nat.le_of_ble_eq_true rfl, Nat.le_of_ble_eq_true rfl⟩ dX9_manyFor_71 (⟨congrArg (fun z => some (Value.int (zI z))) (by unfold many; first | (subst hc_4; rfl) | omega), rfl⟩)
  · refine z_tabIn (off := 66) (tgt := 70) hx hb dX9_manyFor_4 8 hc_4 (by decide) (by decide) rfl (by decide) ?_
    refine z_iconst hx hb dX9_manyFor_70 ?_
    exact z_iret hx hb hr hlocks hP hD hS ⟨Nat.le_of_ble_eq_true rfl, Nat.le_of_ble_eq_true rfl⟩ dX9_manyFor_71 (⟨congrArg (fun z => some (Value.int (zI z))) (by unfold many; first | (subst hc_4; rfl) | omega), rfl⟩)
  · refine z_tabIn (off := 64) (tgt := 68) hx hb dX9_manyFor_4 9 hc_4 (by decide) (by decide) rfl (by decide) ?_
    refine z_iconst hx hb dX9_manyFor_68 ?_
    exact z_iret hx hb hr hlocks hP hD hS ⟨Nat.le_of_ble_eq_true rfl, Nat.le_of_ble_eq_true rfl⟩ dX9_manyFor_69 (⟨congrArg (fun z => some (Value.int (zI z))) (by unfold many; first | (subst hc_4; rfl) | omega), rfl⟩)
  · refine z_tabIn (off := 68) (tgt := 72) hx hb dX9_manyFor_4 10 hc_4 (by decide) (by decide) rfl (by decide) ?_
    refine z_iconst hx hb dX9_manyFor_72 ?_
    exact z_iret hx hb hr hlocks hP hD hS ⟨Nat.le_of_ble_eq_true rfl, Nat.le_of_ble_eq_true rfl⟩ dX9_manyFor_73 (⟨congrArg (fun z => some (Value.int (zI z))) (by unfold many; first | (subst hc_4; rfl) | omega), rfl⟩)
  · refine z_tabIn (off := 66) (tgt := 70) hx hb dX9_manyFor_4 11 hc_4 (by decide) (by decide) rfl (by decide) ?_
    refine z_iconst hx hb dX9_manyFor_70 ?_
    exact z_iret hx hb hr hlocks hP hD hS ⟨Nat.le_of_ble_eq_true rfl, Nat.le_of_ble_eq_true rfl⟩ dX9_manyFor_71 (⟨congrArg (fun z => some (Value.int (zI z))) (by unfold many; first | (subst hc_4; rfl) | omega), rfl⟩)
  · refine z_tabOut (tgt := 72) hx hb dX9_manyFor_4 (by omega) (by omega) (by decide) ?_
    refine z_iconst hx hb dX9_manyFor_72 ?_
    exact z_iret hx hb hr hlocks hP hD hS ⟨Nat.le_of_ble_eq_true rfl, Nat.le_of_ble_eq_true rfl⟩ dX9_manyFor_73 (⟨congrArg (fun z => some (Value.int (zI z))) (by unfold many; first | (subst hc_4; rfl) | omega), rfl⟩)
