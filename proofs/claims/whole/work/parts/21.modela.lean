set_option maxHeartbeats 4000000 in
set_option maxRecDepth 100000 in
theorem c_X9_in (l : Launch) (D : va_G) (ct ad : Nat → Nat) (v lo hi : Int) (h1 : -2147483648 ≤ v ∧ v ≤ 2147483647) (h2 : -2147483648 ≤ lo ∧ lo ≤ 2147483647) (h3 : -2147483648 ≤ hi ∧ hi ≤ 2147483647) : ZM l yX9_in wsX9_in ({ frames := 0, cells := 0, slots := 0, locals := 0 } : Room) D ct ad [.int (zI v), .int (zI lo), .int (zI hi)] ([]) (zD (some (.int (zI (zB (lo ≤ v ∧ v ≤ hi))))) ([])) := by
  refine ZM.of (cc := cX9_in) (maxL := 3) (ret := (some .boolean)) (by decide +kernel) rfl (Nat.le_of_ble_eq_true rfl) ?_
  intro p e s m below meth c A ls hx hb hr hts hown hlocks hml hname hE hP hD hA hS hl
  have hK := hE.1
  have hl : lv_has ls 3 [(0, .int (zI v)), (1, .int (zI lo)), (2, .int (zI hi))] := hl
  refine lv_iload_n hx hb dX9_in_0 rfl (lv_at hl 0 rfl) ?_
  refine lv_iload_n hx hb dX9_in_1 rfl (lv_at hl 1 rfl) ?_
  refine z_icmp_lt (tgt := 14) hx hb dX9_in_2 (by decide) (by omega) (by omega) (fun hc_2 => ?_) (fun hc_2 => ?_)
  · have hc_2 := hc_2
    refine z_iconst hx hb dX9_in_14 ?_
    exact z_zret hx hb hr (by first | rfl | exact zB_nar) hlocks hP hD hS ⟨Nat.le_of_ble_eq_true rfl, Nat.le_of_ble_eq_true rfl⟩ dX9_in_15 (⟨congrArg (fun z => some (Value.int (zI z))) (by first | exact (zB_t (by omega)).symm | exact (zB_f (by omega)).symm | exact zB_c (by omega)), rfl⟩)
  · have hc_2 := hc_2
    refine lv_iload_n hx hb dX9_in_5 rfl (lv_at hl 0 rfl) ?_
    refine lv_iload_n hx hb dX9_in_6 rfl (lv_at hl 2 rfl) ?_
    refine z_icmp_gt (tgt := 14) hx hb dX9_in_7 (by decide) (by omega) (by omega) (fun hc_7 => ?_) (fun hc_7 => ?_)
    · have hc_7 := hc_7
      refine z_iconst hx hb dX9_in_14 ?_
      exact z_zret hx hb hr (by first | rfl | exact zB_nar) hlocks hP hD hS ⟨Nat.le_of_ble_eq_true rfl, Nat.le_of_ble_eq_true rfl⟩ dX9_in_15 (⟨congrArg (fun z => some (Value.int (zI z))) (by first | exact (zB_t (by omega)).symm | exact (zB_f (by omega)).symm | exact zB_c (by omega)), rfl⟩)
    · have hc_7 := hc_7
      refine z_iconst hx hb dX9_in_10 ?_
      refine lv_goto (tgt := 15) hx hb dX9_in_11 (by decide) ?_
      exact z_zret hx hb hr (by first | rfl | exact zB_nar) hlocks hP hD hS ⟨Nat.le_of_ble_eq_true rfl, Nat.le_of_ble_eq_true rfl⟩ dX9_in_15 (⟨congrArg (fun z => some (Value.int (zI z))) (by first | exact (zB_t (by omega)).symm | exact (zB_f (by omega)).symm | exact zB_c (by omega)), rfl⟩)
set_option maxHeartbeats 4000000 in
set_option maxRecDepth 100000 in
theorem c_X9_floor (l : Launch) (D : va_G) (ct ad : Nat → Nat) (a d : Int) (h1 : -4000000000000000000 ≤ a ∧ a ≤ 4000000000000000000) (h2 : 0 < d ∧ d ≤ 4000000000000000000) : ZM l yX9_floor wsX9_floor ({ frames := 0, cells := 0, slots := 0, locals := 0 } : Room) D ct ad [.long (zJ a), .long (zJ d)] ([]) (zD (some (.long (zJ (a / d)))) ([])) := by
  refine ZM.of (cc := cX9_floor) (maxL := 4) (ret := (some .long)) (by decide +kernel) rfl (Nat.le_of_ble_eq_true rfl) ?_
  intro p e s m below meth c A ls hx hb hr hts hown hlocks hml hname hE hP hD hA hS hl
  have hK := hE.1
  have hl : lv_has ls 4 [(0, .long (zJ a)), (2, .long (zJ d))] := hl
  refine lv_lload_n hx hb dX9_floor_0 rfl (lv_at hl 0 rfl) ?_
  refine z_lconst (z := 0) hx hb dX9_floor_1 rfl ?_
  refine z_lcmp_lt (tgt := 12) hx hb dX9_floor_2 dX9_floor_3 (by decide) (by omega) (by omega) (fun hc_2 => ?_) (fun hc_2 => ?_)
  · have hc_2 := hc_2
    refine lv_lload_n hx hb dX9_floor_12 rfl (lv_at hl 1 rfl) ?_
    refine z_lconst (z := 1) hx hb dX9_floor_13 rfl ?_
    refine z_lsub hx hb dX9_floor_14 ?_
    refine lv_lload_n hx hb dX9_floor_15 rfl (lv_at hl 0 rfl) ?_
    refine z_lsub hx hb dX9_floor_16 ?_
    refine lv_lload_n hx hb dX9_floor_17 rfl (lv_at hl 1 rfl) ?_
    refine z_ldiv hx hb dX9_floor_18 (by omega) (by omega) ?_
    refine z_lneg hx hb dX9_floor_19 ?_
    exact z_lret hx hb hr hlocks hP hD hS ⟨Nat.le_of_ble_eq_true rfl, Nat.le_of_ble_eq_true rfl⟩ dX9_floor_20 (⟨congrArg (fun z => some (Value.long (zJ z))) (by first | rfl | exact floor_neg (by omega) (by omega)), rfl⟩)
  · have hc_2 := hc_2
    refine lv_lload_n hx hb dX9_floor_6 rfl (lv_at hl 0 rfl) ?_
    refine lv_lload_n hx hb dX9_floor_7 rfl (lv_at hl 1 rfl) ?_
    refine z_ldiv hx hb dX9_floor_8 (by omega) (by omega) ?_
    refine lv_goto (tgt := 20) hx hb dX9_floor_9 (by decide) ?_
    exact z_lret hx hb hr hlocks hP hD hS ⟨Nat.le_of_ble_eq_true rfl, Nat.le_of_ble_eq_true rfl⟩ dX9_floor_20 (⟨congrArg (fun z => some (Value.long (zJ z))) (by first | rfl | exact floor_neg (by omega) (by omega)), rfl⟩)
set_option maxHeartbeats 4000000 in
set_option maxRecDepth 100000 in
theorem c_X9_within (l : Launch) (D : va_G) (ct ad : Nat → Nat) (v lo hi : Int) (h1 : -9223372036854775808 ≤ v ∧ v ≤ 9223372036854775807) (h2 : -9223372036854775808 ≤ lo ∧ lo ≤ 9223372036854775807) (h3 : -9223372036854775808 ≤ hi ∧ hi ≤ 9223372036854775807) (h4 : lo ≤ hi) : ZM l yX9_within wsX9_within ({ frames := 0, cells := 0, slots := 0, locals := 0 } : Room) D ct ad [.long (zJ v), .long (zJ lo), .long (zJ hi)] ([]) (zD (some (.long (zJ (max lo (min hi v))))) ([])) := by
  refine ZM.of (cc := cX9_within) (maxL := 6) (ret := (some .long)) (by decide +kernel) rfl (Nat.le_of_ble_eq_true rfl) ?_
  intro p e s m below meth c A ls hx hb hr hts hown hlocks hml hname hE hP hD hA hS hl
  have hK := hE.1
  have hl : lv_has ls 6 [(0, .long (zJ v)), (2, .long (zJ lo)), (4, .long (zJ hi))] := hl
  refine lv_lload_n hx hb dX9_within_0 rfl (lv_at hl 0 rfl) ?_
  refine lv_lload_n hx hb dX9_within_1 rfl (lv_at hl 1 rfl) ?_
  refine z_lcmp_ge (tgt := 10) hx hb dX9_within_2 dX9_within_3 (by decide) (by omega) (by omega) (fun hc_2 => ?_) (fun hc_2 => ?_)
  · have hc_2 := hc_2
    refine lv_lload_n hx hb dX9_within_10 rfl (lv_at hl 0 rfl) ?_
    refine lv_lload hx hb dX9_within_11 (lv_at hl 2 rfl) ?_
    refine z_lcmp_le (tgt := 22) hx hb dX9_within_13 dX9_within_14 (by decide) (by omega) (by omega) (fun hc_13 => ?_) (fun hc_13 => ?_)
    · have hc_13 := hc_13
      refine lv_lload_n hx hb dX9_within_22 rfl (lv_at hl 0 rfl) ?_
      exact z_lret hx hb hr hlocks hP hD hS ⟨Nat.le_of_ble_eq_true rfl, Nat.le_of_ble_eq_true rfl⟩ dX9_within_23 (⟨congrArg (fun z => some (Value.long (zJ z))) (by omega), rfl⟩)
    · have hc_13 := hc_13
      refine lv_lload hx hb dX9_within_17 (lv_at hl 2 rfl) ?_
      refine lv_goto (tgt := 23) hx hb dX9_within_19 (by decide) ?_
      exact z_lret hx hb hr hlocks hP hD hS ⟨Nat.le_of_ble_eq_true rfl, Nat.le_of_ble_eq_true rfl⟩ dX9_within_23 (⟨congrArg (fun z => some (Value.long (zJ z))) (by omega), rfl⟩)
  · have hc_2 := hc_2
    refine lv_lload_n hx hb dX9_within_6 rfl (lv_at hl 1 rfl) ?_
    refine lv_goto (tgt := 23) hx hb dX9_within_7 (by decide) ?_
    exact z_lret hx hb hr hlocks hP hD hS ⟨Nat.le_of_ble_eq_true rfl, Nat.le_of_ble_eq_true rfl⟩ dX9_within_23 (⟨congrArg (fun z => some (Value.long (zJ z))) (by omega), rfl⟩)
set_option maxHeartbeats 4000000 in
set_option maxRecDepth 100000 in
theorem c_X9_size (l : Launch) (D : va_G) (ct ad : Nat → Nat) (v : Int) (h1 : -9223372036854775808 ≤ v ∧ v ≤ 9223372036854775807) : ZM l yX9_size wsX9_size ({ frames := 0, cells := 0, slots := 0, locals := 0 } : Room) D ct ad [.long (zJ v)] ([]) (zD (some (.long (zJ (sp_abs v)))) ([])) := by
  refine ZM.of (cc := cX9_size) (maxL := 2) (ret := (some .long)) (by decide +kernel) rfl (Nat.le_of_ble_eq_true rfl) ?_
  intro p e s m below meth c A ls hx hb hr hts hown hlocks hml hname hE hP hD hA hS hl
  have hK := hE.1
  have hl : lv_has ls 2 [(0, .long (zJ v))] := hl
  refine lv_lload_n hx hb dX9_size_0 rfl (lv_at hl 0 rfl) ?_
  refine z_lconst (z := 0) hx hb dX9_size_1 rfl ?_
  refine z_lcmp_ge (tgt := 11) hx hb dX9_size_2 dX9_size_3 (by decide) (by omega) (by omega) (fun hc_2 => ?_) (fun hc_2 => ?_)
  · have hc_2 := hc_2
    refine lv_lload_n hx hb dX9_size_11 rfl (lv_at hl 0 rfl) ?_
    exact z_lret hx hb hr hlocks hP hD hS ⟨Nat.le_of_ble_eq_true rfl, Nat.le_of_ble_eq_true rfl⟩ dX9_size_12 (⟨congrArg (fun z => some (Value.long (zJ z))) (by unfold sp_abs; first | rw [if_pos (by omega)] | rw [if_neg (by omega)]), rfl⟩)
  · have hc_2 := hc_2
    refine lv_lload_n hx hb dX9_size_6 rfl (lv_at hl 0 rfl) ?_
    refine z_lneg hx hb dX9_size_7 ?_
    refine lv_goto (tgt := 12) hx hb dX9_size_8 (by decide) ?_
    exact z_lret hx hb hr hlocks hP hD hS ⟨Nat.le_of_ble_eq_true rfl, Nat.le_of_ble_eq_true rfl⟩ dX9_size_12 (⟨congrArg (fun z => some (Value.long (zJ z))) (by unfold sp_abs; first | rw [if_pos (by omega)] | rw [if_neg (by omega)]), rfl⟩)
set_option maxHeartbeats 4000000 in
set_option maxRecDepth 100000 in
theorem c_X9_bring (l : Launch) (D : va_G) (ct ad : Nat → Nat) (qa qb na nb : Nat) (F T : Int → Int) (x y : Int) (h1 : 0 ≤ x ∧ x + 94 ≤ (na : Int)) (h2 : 0 ≤ y ∧ y + 94 ≤ (nb : Int)) (h3 : na ≤ 376 ∧ nb ≤ 376) : ZM l yX9_bring wsX9_bring ({ frames := 0, cells := 0, slots := 0, locals := 0 } : Room) D ct ad [.ref qa, .int (zI x), .ref qb, .int (zI y)] (jrW ct qa na F ++ (jrW ct qb nb T)) (zD none (jrW ct qa na F ++ (jrW ct qb nb (brN F T x y 94)))) := by
  refine ZM.of (cc := cX9_bring) (maxL := 5) (ret := none) (by decide +kernel) rfl (Nat.le_of_ble_eq_true rfl) ?_
  intro p e s m below meth c A ls hx hb hr hts hown hlocks hml hname hE hP hD hA hS hl
  have hK := hE.1
  have hl : lv_has ls 5 [(0, .ref qa), (1, .int (zI x)), (2, .ref qb), (3, .int (zI y))] := hl
  refine z_iconst hx hb dX9_bring_0 ?_
  refine lv_istore (lv' := [(4, .int (zI 0)), (0, .ref qa), (1, .int (zI x)), (2, .ref qb), (3, .int (zI y))]) hx hb dX9_bring_1 hl (by decide) rfl (fun ls hl => ?_)
  refine z_loop (σ := Int × (Int → Int)) (fun q9 => (94 - q9.1).toNat) (fun q9 => (0 ≤ q9.1 ∧ q9.1 ≤ 94) ∧ (q9.2 = brN F T x y q9.1)) (fun q9 => jrW ct qa na F ++ (jrW ct qb nb q9.2)) (fun q9 => [(0, .ref qa), (1, .int (zI x)), (2, .ref qb), (3, .int (zI y)), (4, .int (zI q9.1))]) (fun q9 => []) (0, T) ⟨(show 0 ≤ 0 ∧ 0 ≤ 94 from (by omega)), (show T = brN F T x y 0 from (by rw [brN_0]))⟩ hP hD hS (lv_sub hl [1, 2, 3, 4, 0] rfl) rfl ?_
  rintro ⟨i, U⟩ hI_3 ih_3 H locs ls hP hD hS hl
  obtain ⟨hi, hU⟩ := hI_3
  have hi : 0 ≤ i ∧ i ≤ 94 := hi
  have hU : U = brN F T x y i := hU
  have hP : va_P D vwCl (jrW ct qa na F ++ (jrW ct qb nb U)) H := hP
  have hD : va_D A (jrW ct qa na F ++ (jrW ct qb nb U)) := hD
  have hl : lv_has ls 5 [(0, .ref qa), (1, .int (zI x)), (2, .ref qb), (3, .int (zI y)), (4, .int (zI i))] := hl
  refine lv_iload hx hb dX9_bring_3 (lv_at hl 4 rfl) ?_
  refine z_bipush hx hb dX9_bring_5 (by decide) ?_
  refine z_icmp_ge (tgt := 28) hx hb dX9_bring_7 (by decide) (by omega) (by omega) (fun hc_7 => ?_) (fun hc_7 => ?_)
  · have hc_7 := hc_7
    exact z_vret hx hb hr hlocks hP hD hS ⟨Nat.le_of_ble_eq_true rfl, Nat.le_of_ble_eq_true rfl⟩ dX9_bring_28 (⟨rfl, by rw [hU, show i = 94 by omega]⟩)
  · have hc_7 := hc_7
    refine lv_aload_n hx hb dX9_bring_10 rfl (lv_at hl 2 rfl) ?_
    refine lv_iload_n hx hb dX9_bring_11 rfl (lv_at hl 3 rfl) ?_
    refine lv_iload hx hb dX9_bring_12 (lv_at hl 4 rfl) ?_
    refine z_iadd hx hb dX9_bring_14 ?_
    refine lv_aload_n hx hb dX9_bring_15 rfl (lv_at hl 0 rfl) ?_
    refine lv_iload_n hx hb dX9_bring_16 rfl (lv_at hl 1 rfl) ?_
    refine lv_iload hx hb dX9_bring_17 (lv_at hl 4 rfl) ?_
    refine z_iadd hx hb dX9_bring_19 ?_
    refine z_lald (g := F) (v := F (x + i)) hx hb hK hP 0 rfl (by omega) (by omega) rfl dX9_bring_20 ?_
    refine z_last (g := U) (w2 := jrW ct qa na F ++ (jrW ct qb nb (up U (y + i) (F (x + i))))) hx hb hK hP hD hS 1 rfl (by omega) (by omega) dX9_bring_21 (rfl) (fun H locs hP hD hS => ?_)
    refine z_iinc (k := 4) (lv' := [(4, .int (zI (i + 1))), (0, .ref qa), (1, .int (zI x)), (2, .ref qb), (3, .int (zI y))]) hx hb dX9_bring_22 hl rfl (by decide) rfl (fun ls hl => ?_)
    refine lv_goto (tgt := 3) hx hb dX9_bring_25 (by decide) ?_
    exact ih_3 (i + 1, up U (y + i) (F (x + i))) ⟨(show 0 ≤ (i + 1) ∧ (i + 1) ≤ 94 from (by omega)), (show (up U (y + i) (F (x + i))) = brN F T x y (i + 1) from (by rw [hU]; exact brN_S hi.1))⟩ (show (94 - (i + 1)).toNat < (94 - i).toNat from (by omega)) _ _ _ hP hD hS (lv_sub hl [1, 2, 3, 4, 0] rfl)
set_option maxHeartbeats 4000000 in
set_option maxRecDepth 100000 in
theorem c_X9_of (l : Launch) (D : va_G) (ct ad : Nat → Nat) (b : Nat → Nat) (M SP SV TX NB : Int → Int) (sc tl cd pl cm h : Int) (k : Int) (h1 : 0 ≤ k ∧ k < 94) : ZM l yX9_of wsX9_of ({ frames := 0, cells := 0, slots := 0, locals := 0 } : Room) D ct ad [.ref (b 0), .int (zI k)] (moW b sc tl cd pl cm h ++ (jrW ct (b 1) 94 M ++ (jrW ct (b 2) 94 SP ++ (jrW ct (b 3) 376 SV ++ (irW ct (b 4) 150 TX ++ (irW ct (b 5) 2 NB)))))) (zD (some (.int (zI (M k)))) (moW b sc tl cd pl cm h ++ (jrW ct (b 1) 94 M ++ (jrW ct (b 2) 94 SP ++ (jrW ct (b 3) 376 SV ++ (irW ct (b 4) 150 TX ++ (irW ct (b 5) 2 NB))))))) := by
  refine ZM.of (cc := cX9_of) (maxL := 2) (ret := (some .int)) (by decide +kernel) rfl (Nat.le_of_ble_eq_true rfl) ?_
  intro p e s m below meth c A ls hx hb hr hts hown hlocks hml hname hE hP hD hA hS hl
  have hK := hE.1
  have hf_0 := hts (.fieldLink RX9 7 "RodGridsModel" "m" "[J") (by decide +kernel)
  have hin_X9 : ∀ z ∈ u_ws RX9 TX9 11, z ∈ wsX9_of := by decide +kernel
  have hl : lv_has ls 2 [(0, .ref (b 0)), (1, .int (zI k))] := hl
  refine lv_aload_n hx hb dX9_of_0 rfl (lv_at hl 0 rfl) ?_
  refine va_get (D := D) (ci := 7) (v := .ref (b 1)) (C := RX9) (T := TX9) (N := 11) hx hb hts hin_X9 hown hK hP 0 rfl rfl 0 (by decide) hf_0 (fun _ h9 => h9) rfl dX9_of_1 ?_
  refine lv_iload_n hx hb dX9_of_4 rfl (lv_at hl 1 rfl) ?_
  refine z_lald (g := M) (v := M k) hx hb hK hP 1 rfl (by decide) (by omega) rfl dX9_of_5 ?_
  refine z_l2i hx hb dX9_of_6 ?_
  exact z_iret hx hb hr hlocks hP hD hS ⟨Nat.le_of_ble_eq_true rfl, Nat.le_of_ble_eq_true rfl⟩ dX9_of_7 (⟨congrArg (fun z => some (Value.int (zI z))) (rfl), rfl⟩)
theorem k_X9_in : yX9_in.cls ≠ "java/lang/invoke/MethodHandle" ∧ yX9_in.cls ≠ "java/lang/invoke/VarHandle" ∧ (parseMethodDescriptor yX9_in.desc).map (fun d => d.parameters.length) = some 3 := by decide +kernel
theorem k_X9_of : yX9_of.cls ≠ "java/lang/invoke/MethodHandle" ∧ yX9_of.cls ≠ "java/lang/invoke/VarHandle" ∧ (parseMethodDescriptor yX9_of.desc).map (fun d => d.parameters.length) = some 1 := by decide +kernel
set_option maxHeartbeats 4000000 in
set_option maxRecDepth 100000 in
theorem c_X9_isMetal (l : Launch) (D : va_G) (ct ad : Nat → Nat) (b : Nat → Nat) (M SP SV TX NB : Int → Int) (sc tl cd pl cm h : Int) (k : Int) (hI : gInv M) (h1 : -2147483648 ≤ k ∧ k ≤ 2147483647) : ZM l yX9_isMetal wsX9_isMetal ({ frames := 1, cells := 0, slots := 0, locals := 22 } : Room) D ct ad [.ref (b 0), .int (zI k)] (moW b sc tl cd pl cm h ++ (jrW ct (b 1) 94 M ++ (jrW ct (b 2) 94 SP ++ (jrW ct (b 3) 376 SV ++ (irW ct (b 4) 150 TX ++ (irW ct (b 5) 2 NB)))))) (zD (some (.int (zI (zB (0 ≤ k ∧ k < M 3))))) (moW b sc tl cd pl cm h ++ (jrW ct (b 1) 94 M ++ (jrW ct (b 2) 94 SP ++ (jrW ct (b 3) 376 SV ++ (irW ct (b 4) 150 TX ++ (irW ct (b 5) 2 NB))))))) := by
  refine ZM.of (cc := cX9_isMetal) (maxL := 2) (ret := (some .boolean)) (by decide +kernel) rfl (Nat.le_of_ble_eq_true rfl) ?_
  intro p e s m below meth c A ls hx hb hr hts hown hlocks hml hname hE hP hD hA hS hl
  have hK := hE.1
  have hl : lv_has ls 2 [(0, .ref (b 0)), (1, .int (zI k))] := hl
  have i3 := hI.1
  have i4 := hI.2.1
  refine lv_iload_n hx hb dX9_isMetal_0 rfl (lv_at hl 1 rfl) ?_
  refine z_iconst hx hb dX9_isMetal_1 ?_
  refine lv_aload_n hx hb dX9_isMetal_2 rfl (lv_at hl 0 rfl) ?_
  refine z_iconst hx hb dX9_isMetal_3 ?_
  refine z_callV (C := RX9) (q0 := 0) (ci := 7) (As := [.int (zI 3)]) (rest := [.int (zI 0), .int (zI k)]) ([] : va_W) ([] : va_W) hx hb hml hown hts hl hE hS hA (zr0 ([] : va_W) hP) (zr0D ([] : va_W) hD) (c_X9_of l D ct ad b M SP SV TX NB sc tl cd pl cm h 3 (by omega)) gX9_isMetal_X9_of rfl rfl k_X9_of ⟨Nat.le_of_ble_eq_true rfl, Nat.le_of_ble_eq_true rfl⟩ rfl rfl rfl rfl (Nat.le_of_ble_eq_true rfl) ⟨Nat.le_of_ble_eq_true rfl, Nat.le_of_ble_eq_true rfl⟩ dX9_isMetal_4 rfl (fun v w1 H locs hpost hP hD hS => ?_)
  obtain ⟨rfl, rfl⟩ := hpost
  have hP := zr0' hP
  have hD := zr0D' hD
  have hP : va_P D vwCl (moW b sc tl cd pl cm h ++ (jrW ct (b 1) 94 M ++ (jrW ct (b 2) 94 SP ++ (jrW ct (b 3) 376 SV ++ (irW ct (b 4) 150 TX ++ (irW ct (b 5) 2 NB)))))) H := hP
  have hD : va_D A (moW b sc tl cd pl cm h ++ (jrW ct (b 1) 94 M ++ (jrW ct (b 2) 94 SP ++ (jrW ct (b 3) 376 SV ++ (irW ct (b 4) 150 TX ++ (irW ct (b 5) 2 NB)))))) := hD
  refine W.eq (g2 := F0 m 7 ls [.int (zI (M 3)), .int (zI 0), .int (zI k)]) rfl ?_
  refine z_iconst hx hb dX9_isMetal_7 ?_
  refine z_isub hx hb dX9_isMetal_8 ?_
  refine z_callS (As := [.int (zI k), .int (zI 0), .int (zI ((M 3) - 1))]) (rest := []) ([] : va_W) (moW b sc tl cd pl cm h ++ (jrW ct (b 1) 94 M ++ (jrW ct (b 2) 94 SP ++ (jrW ct (b 3) 376 SV ++ (irW ct (b 4) 150 TX ++ (irW ct (b 5) 2 NB)))))) hx hb hml hown hts hl hE hS hA hP hD (c_X9_in l D ct ad k 0 ((M 3) - 1) (by omega) (by omega) (by omega)) gX9_isMetal_X9_in rfl k_X9_in ⟨Nat.le_of_ble_eq_true rfl, Nat.le_of_ble_eq_true rfl⟩ rfl (Nat.le_of_ble_eq_true rfl) ⟨Nat.le_of_ble_eq_true rfl, Nat.le_of_ble_eq_true rfl⟩ dX9_isMetal_9 rfl (fun v w1 H locs hpost hP hD hS => ?_)
  obtain ⟨rfl, rfl⟩ := hpost
  have hP : va_P D vwCl (moW b sc tl cd pl cm h ++ (jrW ct (b 1) 94 M ++ (jrW ct (b 2) 94 SP ++ (jrW ct (b 3) 376 SV ++ (irW ct (b 4) 150 TX ++ (irW ct (b 5) 2 NB)))))) H := hP
  have hD : va_D A (moW b sc tl cd pl cm h ++ (jrW ct (b 1) 94 M ++ (jrW ct (b 2) 94 SP ++ (jrW ct (b 3) 376 SV ++ (irW ct (b 4) 150 TX ++ (irW ct (b 5) 2 NB)))))) := hD
  refine W.eq (g2 := F0 m 12 ls [.int (zI (zB (0 ≤ k ∧ k ≤ ((M 3) - 1))))]) rfl ?_
  exact z_zret hx hb hr (by first | rfl | exact zB_nar) hlocks hP hD hS ⟨Nat.le_of_ble_eq_true rfl, Nat.le_of_ble_eq_true rfl⟩ dX9_isMetal_12 (⟨congrArg (fun z => some (Value.int (zI z))) (by first | exact (zB_t (by omega)).symm | exact (zB_f (by omega)).symm | exact zB_c (by omega)), rfl⟩)
set_option maxHeartbeats 4000000 in
set_option maxRecDepth 100000 in
theorem c_X9_isRod (l : Launch) (D : va_G) (ct ad : Nat → Nat) (b : Nat → Nat) (M SP SV TX NB : Int → Int) (sc tl cd pl cm h : Int) (k : Int) (hI : gInv M) (h1 : -2147483648 ≤ k ∧ k ≤ 2147483647) : ZM l yX9_isRod wsX9_isRod ({ frames := 1, cells := 0, slots := 0, locals := 22 } : Room) D ct ad [.ref (b 0), .int (zI k)] (moW b sc tl cd pl cm h ++ (jrW ct (b 1) 94 M ++ (jrW ct (b 2) 94 SP ++ (jrW ct (b 3) 376 SV ++ (irW ct (b 4) 150 TX ++ (irW ct (b 5) 2 NB)))))) (zD (some (.int (zI (zB (0 ≤ k ∧ k < M 4))))) (moW b sc tl cd pl cm h ++ (jrW ct (b 1) 94 M ++ (jrW ct (b 2) 94 SP ++ (jrW ct (b 3) 376 SV ++ (irW ct (b 4) 150 TX ++ (irW ct (b 5) 2 NB))))))) := by
  refine ZM.of (cc := cX9_isRod) (maxL := 2) (ret := (some .boolean)) (by decide +kernel) rfl (Nat.le_of_ble_eq_true rfl) ?_
  intro p e s m below meth c A ls hx hb hr hts hown hlocks hml hname hE hP hD hA hS hl
  have hK := hE.1
  have hl : lv_has ls 2 [(0, .ref (b 0)), (1, .int (zI k))] := hl
  have i3 := hI.1
  have i4 := hI.2.1
  refine lv_iload_n hx hb dX9_isRod_0 rfl (lv_at hl 1 rfl) ?_
  refine z_iconst hx hb dX9_isRod_1 ?_
  refine lv_aload_n hx hb dX9_isRod_2 rfl (lv_at hl 0 rfl) ?_
  refine z_iconst hx hb dX9_isRod_3 ?_
  refine z_callV (C := RX9) (q0 := 0) (ci := 7) (As := [.int (zI 4)]) (rest := [.int (zI 0), .int (zI k)]) ([] : va_W) ([] : va_W) hx hb hml hown hts hl hE hS hA (zr0 ([] : va_W) hP) (zr0D ([] : va_W) hD) (c_X9_of l D ct ad b M SP SV TX NB sc tl cd pl cm h 4 (by omega)) gX9_isRod_X9_of rfl rfl k_X9_of ⟨Nat.le_of_ble_eq_true rfl, Nat.le_of_ble_eq_true rfl⟩ rfl rfl rfl rfl (Nat.le_of_ble_eq_true rfl) ⟨Nat.le_of_ble_eq_true rfl, Nat.le_of_ble_eq_true rfl⟩ dX9_isRod_4 rfl (fun v w1 H locs hpost hP hD hS => ?_)
  obtain ⟨rfl, rfl⟩ := hpost
  have hP := zr0' hP
  have hD := zr0D' hD
  have hP : va_P D vwCl (moW b sc tl cd pl cm h ++ (jrW ct (b 1) 94 M ++ (jrW ct (b 2) 94 SP ++ (jrW ct (b 3) 376 SV ++ (irW ct (b 4) 150 TX ++ (irW ct (b 5) 2 NB)))))) H := hP
  have hD : va_D A (moW b sc tl cd pl cm h ++ (jrW ct (b 1) 94 M ++ (jrW ct (b 2) 94 SP ++ (jrW ct (b 3) 376 SV ++ (irW ct (b 4) 150 TX ++ (irW ct (b 5) 2 NB)))))) := hD
  refine W.eq (g2 := F0 m 7 ls [.int (zI (M 4)), .int (zI 0), .int (zI k)]) rfl ?_
  refine z_iconst hx hb dX9_isRod_7 ?_
  refine z_isub hx hb dX9_isRod_8 ?_
  refine z_callS (As := [.int (zI k), .int (zI 0), .int (zI ((M 4) - 1))]) (rest := []) ([] : va_W) (moW b sc tl cd pl cm h ++ (jrW ct (b 1) 94 M ++ (jrW ct (b 2) 94 SP ++ (jrW ct (b 3) 376 SV ++ (irW ct (b 4) 150 TX ++ (irW ct (b 5) 2 NB)))))) hx hb hml hown hts hl hE hS hA hP hD (c_X9_in l D ct ad k 0 ((M 4) - 1) (by omega) (by omega) (by omega)) gX9_isRod_X9_in rfl k_X9_in ⟨Nat.le_of_ble_eq_true rfl, Nat.le_of_ble_eq_true rfl⟩ rfl (Nat.le_of_ble_eq_true rfl) ⟨Nat.le_of_ble_eq_true rfl, Nat.le_of_ble_eq_true rfl⟩ dX9_isRod_9 rfl (fun v w1 H locs hpost hP hD hS => ?_)
  obtain ⟨rfl, rfl⟩ := hpost
  have hP : va_P D vwCl (moW b sc tl cd pl cm h ++ (jrW ct (b 1) 94 M ++ (jrW ct (b 2) 94 SP ++ (jrW ct (b 3) 376 SV ++ (irW ct (b 4) 150 TX ++ (irW ct (b 5) 2 NB)))))) H := hP
  have hD : va_D A (moW b sc tl cd pl cm h ++ (jrW ct (b 1) 94 M ++ (jrW ct (b 2) 94 SP ++ (jrW ct (b 3) 376 SV ++ (irW ct (b 4) 150 TX ++ (irW ct (b 5) 2 NB)))))) := hD
  refine W.eq (g2 := F0 m 12 ls [.int (zI (zB (0 ≤ k ∧ k ≤ ((M 4) - 1))))]) rfl ?_
  exact z_zret hx hb hr (by first | rfl | exact zB_nar) hlocks hP hD hS ⟨Nat.le_of_ble_eq_true rfl, Nat.le_of_ble_eq_true rfl⟩ dX9_isRod_12 (⟨congrArg (fun z => some (Value.int (zI z))) (by first | exact (zB_t (by omega)).symm | exact (zB_f (by omega)).symm | exact zB_c (by omega)), rfl⟩)
set_option maxHeartbeats 4000000 in
set_option maxRecDepth 100000 in
theorem c_X9_isShelf (l : Launch) (D : va_G) (ct ad : Nat → Nat) (k : Int) (h1 : -2147483648 ≤ k ∧ k ≤ 2147483647) : ZM l yX9_isShelf wsX9_isShelf ({ frames := 1, cells := 0, slots := 0, locals := 22 } : Room) D ct ad [.int (zI k)] ([]) (zD (some (.int (zI (zB (0 ≤ k ∧ k ≤ 4))))) ([])) := by
  refine ZM.of (cc := cX9_isShelf) (maxL := 1) (ret := (some .boolean)) (by decide +kernel) rfl (Nat.le_of_ble_eq_true rfl) ?_
  intro p e s m below meth c A ls hx hb hr hts hown hlocks hml hname hE hP hD hA hS hl
  have hK := hE.1
  have hl : lv_has ls 1 [(0, .int (zI k))] := hl
  refine lv_iload_n hx hb dX9_isShelf_0 rfl (lv_at hl 0 rfl) ?_
  refine z_iconst hx hb dX9_isShelf_1 ?_
  refine z_iconst hx hb dX9_isShelf_2 ?_
  refine z_callS (As := [.int (zI k), .int (zI 0), .int (zI 4)]) (rest := []) ([] : va_W) ([] : va_W) hx hb hml hown hts hl hE hS hA hP hD (c_X9_in l D ct ad k 0 4 (by omega) (by omega) (by omega)) gX9_isShelf_X9_in rfl k_X9_in ⟨Nat.le_of_ble_eq_true rfl, Nat.le_of_ble_eq_true rfl⟩ rfl (Nat.le_of_ble_eq_true rfl) ⟨Nat.le_of_ble_eq_true rfl, Nat.le_of_ble_eq_true rfl⟩ dX9_isShelf_3 rfl (fun v w1 H locs hpost hP hD hS => ?_)
  obtain ⟨rfl, rfl⟩ := hpost
  have hP : va_P D vwCl ([]) H := hP
  have hD : va_D A ([]) := hD
  refine W.eq (g2 := F0 m 6 ls [.int (zI (zB (0 ≤ k ∧ k ≤ 4)))]) rfl ?_
  exact z_zret hx hb hr (by first | rfl | exact zB_nar) hlocks hP hD hS ⟨Nat.le_of_ble_eq_true rfl, Nat.le_of_ble_eq_true rfl⟩ dX9_isShelf_6 (⟨congrArg (fun z => some (Value.int (zI z))) (rfl), rfl⟩)
set_option maxHeartbeats 4000000 in
set_option maxRecDepth 100000 in
theorem c_X9_isStretch (l : Launch) (D : va_G) (ct ad : Nat → Nat) (k : Int) (h1 : -2147483648 ≤ k ∧ k ≤ 2147483647) : ZM l yX9_isStretch wsX9_isStretch ({ frames := 1, cells := 0, slots := 0, locals := 22 } : Room) D ct ad [.int (zI k)] ([]) (zD (some (.int (zI (zB (0 ≤ k ∧ k ≤ 500))))) ([])) := by
  refine ZM.of (cc := cX9_isStretch) (maxL := 1) (ret := (some .boolean)) (by decide +kernel) rfl (Nat.le_of_ble_eq_true rfl) ?_
  intro p e s m below meth c A ls hx hb hr hts hown hlocks hml hname hE hP hD hA hS hl
  have hK := hE.1
  have hl : lv_has ls 1 [(0, .int (zI k))] := hl
  refine lv_iload_n hx hb dX9_isStretch_0 rfl (lv_at hl 0 rfl) ?_
  refine z_iconst hx hb dX9_isStretch_1 ?_
  refine z_sipush hx hb dX9_isStretch_2 (by decide) ?_
  refine z_callS (As := [.int (zI k), .int (zI 0), .int (zI 500)]) (rest := []) ([] : va_W) ([] : va_W) hx hb hml hown hts hl hE hS hA hP hD (c_X9_in l D ct ad k 0 500 (by omega) (by omega) (by omega)) gX9_isStretch_X9_in rfl k_X9_in ⟨Nat.le_of_ble_eq_true rfl, Nat.le_of_ble_eq_true rfl⟩ rfl (Nat.le_of_ble_eq_true rfl) ⟨Nat.le_of_ble_eq_true rfl, Nat.le_of_ble_eq_true rfl⟩ dX9_isStretch_5 rfl (fun v w1 H locs hpost hP hD hS => ?_)
  obtain ⟨rfl, rfl⟩ := hpost
  have hP : va_P D vwCl ([]) H := hP
  have hD : va_D A ([]) := hD
  refine W.eq (g2 := F0 m 8 ls [.int (zI (zB (0 ≤ k ∧ k ≤ 500)))]) rfl ?_
  exact z_zret hx hb hr (by first | rfl | exact zB_nar) hlocks hP hD hS ⟨Nat.le_of_ble_eq_true rfl, Nat.le_of_ble_eq_true rfl⟩ dX9_isStretch_8 (⟨congrArg (fun z => some (Value.int (zI z))) (rfl), rfl⟩)
set_option maxHeartbeats 4000000 in
set_option maxRecDepth 100000 in
theorem c_X9_isLength (l : Launch) (D : va_G) (ct ad : Nat → Nat) (k : Int) (h1 : -2147483648 ≤ k ∧ k ≤ 2147483647) : ZM l yX9_isLength wsX9_isLength ({ frames := 1, cells := 0, slots := 0, locals := 22 } : Room) D ct ad [.int (zI k)] ([]) (zD (some (.int (zI (zB (1 ≤ k ∧ k ≤ 1000000))))) ([])) := by
  refine ZM.of (cc := cX9_isLength) (maxL := 1) (ret := (some .boolean)) (by decide +kernel) rfl (Nat.le_of_ble_eq_true rfl) ?_
  intro p e s m below meth c A ls hx hb hr hts hown hlocks hml hname hE hP hD hA hS hl
  have hK := hE.1
  have hf_0 := hts (.constant RX9 81 (1000000)) (by decide +kernel)
  have hl : lv_has ls 1 [(0, .int (zI k))] := hl
  refine lv_iload_n hx hb dX9_isLength_0 rfl (lv_at hl 0 rfl) ?_
  refine z_iconst hx hb dX9_isLength_1 ?_
  refine z_ldc hx hb 1000000 hown hf_0 (by decide) dX9_isLength_2 ?_
  refine z_callS (As := [.int (zI k), .int (zI 1), .int (zI 1000000)]) (rest := []) ([] : va_W) ([] : va_W) hx hb hml hown hts hl hE hS hA hP hD (c_X9_in l D ct ad k 1 1000000 (by omega) (by omega) (by omega)) gX9_isLength_X9_in rfl k_X9_in ⟨Nat.le_of_ble_eq_true rfl, Nat.le_of_ble_eq_true rfl⟩ rfl (Nat.le_of_ble_eq_true rfl) ⟨Nat.le_of_ble_eq_true rfl, Nat.le_of_ble_eq_true rfl⟩ dX9_isLength_4 rfl (fun v w1 H locs hpost hP hD hS => ?_)
  obtain ⟨rfl, rfl⟩ := hpost
  have hP : va_P D vwCl ([]) H := hP
  have hD : va_D A ([]) := hD
  refine W.eq (g2 := F0 m 7 ls [.int (zI (zB (1 ≤ k ∧ k ≤ 1000000)))]) rfl ?_
  exact z_zret hx hb hr (by first | rfl | exact zB_nar) hlocks hP hD hS ⟨Nat.le_of_ble_eq_true rfl, Nat.le_of_ble_eq_true rfl⟩ dX9_isLength_7 (⟨congrArg (fun z => some (Value.int (zI z))) (rfl), rfl⟩)
set_option maxHeartbeats 4000000 in
set_option maxRecDepth 100000 in
theorem c_X9_isWarmth (l : Launch) (D : va_G) (ct ad : Nat → Nat) (k : Int) (h1 : -2147483648 ≤ k ∧ k ≤ 2147483647) : ZM l yX9_isWarmth wsX9_isWarmth ({ frames := 1, cells := 0, slots := 0, locals := 22 } : Room) D ct ad [.int (zI k)] ([]) (zD (some (.int (zI (zB (-300 ≤ k ∧ k ≤ 600))))) ([])) := by
  refine ZM.of (cc := cX9_isWarmth) (maxL := 1) (ret := (some .boolean)) (by decide +kernel) rfl (Nat.le_of_ble_eq_true rfl) ?_
  intro p e s m below meth c A ls hx hb hr hts hown hlocks hml hname hE hP hD hA hS hl
  have hK := hE.1
  have hl : lv_has ls 1 [(0, .int (zI k))] := hl
  refine lv_iload_n hx hb dX9_isWarmth_0 rfl (lv_at hl 0 rfl) ?_
  refine z_sipush hx hb dX9_isWarmth_1 (by decide) ?_
  refine z_sipush hx hb dX9_isWarmth_4 (by decide) ?_
  refine z_callS (As := [.int (zI k), .int (zI (-300)), .int (zI 600)]) (rest := []) ([] : va_W) ([] : va_W) hx hb hml hown hts hl hE hS hA hP hD (c_X9_in l D ct ad k (-300) 600 (by omega) (by omega) (by omega)) gX9_isWarmth_X9_in rfl k_X9_in ⟨Nat.le_of_ble_eq_true rfl, Nat.le_of_ble_eq_true rfl⟩ rfl (Nat.le_of_ble_eq_true rfl) ⟨Nat.le_of_ble_eq_true rfl, Nat.le_of_ble_eq_true rfl⟩ dX9_isWarmth_7 rfl (fun v w1 H locs hpost hP hD hS => ?_)
  obtain ⟨rfl, rfl⟩ := hpost
  have hP : va_P D vwCl ([]) H := hP
  have hD : va_D A ([]) := hD
  refine W.eq (g2 := F0 m 10 ls [.int (zI (zB ((-300) ≤ k ∧ k ≤ 600)))]) rfl ?_
  exact z_zret hx hb hr (by first | rfl | exact zB_nar) hlocks hP hD hS ⟨Nat.le_of_ble_eq_true rfl, Nat.le_of_ble_eq_true rfl⟩ dX9_isWarmth_10 (⟨congrArg (fun z => some (Value.int (zI z))) (rfl), rfl⟩)
set_option maxHeartbeats 4000000 in
set_option maxRecDepth 100000 in
theorem c_X9_change (l : Launch) (D : va_G) (ct ad : Nat → Nat) (b : Nat → Nat) (M SP SV TX NB : Int → Int) (sc tl cd pl cm h : Int) (k v : Int) (h1 : 0 ≤ k ∧ k < 94) (h2 : -2147483648 ≤ v ∧ v ≤ 2147483647) : ZM l yX9_change wsX9_change ({ frames := 1, cells := 0, slots := 0, locals := 21 } : Room) D ct ad [.ref (b 0), .int (zI k), .int (zI v)] (moW b sc tl cd pl cm h ++ (jrW ct (b 1) 94 M ++ (jrW ct (b 2) 94 SP ++ (jrW ct (b 3) 376 SV ++ (irW ct (b 4) 150 TX ++ (irW ct (b 5) 2 NB)))))) (zD (some (.int (zI (M k)))) (moW b sc tl cd pl cm h ++ (jrW ct (b 1) 94 (up M k v) ++ (jrW ct (b 2) 94 SP ++ (jrW ct (b 3) 376 SV ++ (irW ct (b 4) 150 TX ++ (irW ct (b 5) 2 NB))))))) := by
  refine ZM.of (cc := cX9_change) (maxL := 4) (ret := (some .int)) (by decide +kernel) rfl (Nat.le_of_ble_eq_true rfl) ?_
  intro p e s m below meth c A ls hx hb hr hts hown hlocks hml hname hE hP hD hA hS hl
  have hK := hE.1
  have hf_0 := hts (.fieldLink RX9 7 "RodGridsModel" "m" "[J") (by decide +kernel)
  have hin_X9 : ∀ z ∈ u_ws RX9 TX9 11, z ∈ wsX9_change := by decide +kernel
  have hl : lv_has ls 4 [(0, .ref (b 0)), (1, .int (zI k)), (2, .int (zI v))] := hl
  refine lv_aload_n hx hb dX9_change_0 rfl (lv_at hl 0 rfl) ?_
  refine lv_iload_n hx hb dX9_change_1 rfl (lv_at hl 1 rfl) ?_
  refine z_callV (C := RX9) (q0 := 0) (ci := 7) (As := [.int (zI k)]) (rest := []) ([] : va_W) ([] : va_W) hx hb hml hown hts hl hE hS hA (zr0 ([] : va_W) hP) (zr0D ([] : va_W) hD) (c_X9_of l D ct ad b M SP SV TX NB sc tl cd pl cm h k (by omega)) gX9_change_X9_of rfl rfl k_X9_of ⟨Nat.le_of_ble_eq_true rfl, Nat.le_of_ble_eq_true rfl⟩ rfl rfl rfl rfl (Nat.le_of_ble_eq_true rfl) ⟨Nat.le_of_ble_eq_true rfl, Nat.le_of_ble_eq_true rfl⟩ dX9_change_2 rfl (fun v w1 H locs hpost hP hD hS => ?_)
  obtain ⟨rfl, rfl⟩ := hpost
  have hP := zr0' hP
  have hD := zr0D' hD
  have hP : va_P D vwCl (moW b sc tl cd pl cm h ++ (jrW ct (b 1) 94 M ++ (jrW ct (b 2) 94 SP ++ (jrW ct (b 3) 376 SV ++ (irW ct (b 4) 150 TX ++ (irW ct (b 5) 2 NB)))))) H := hP
  have hD : va_D A (moW b sc tl cd pl cm h ++ (jrW ct (b 1) 94 M ++ (jrW ct (b 2) 94 SP ++ (jrW ct (b 3) 376 SV ++ (irW ct (b 4) 150 TX ++ (irW ct (b 5) 2 NB)))))) := hD
  refine W.eq (g2 := F0 m 5 ls [.int (zI (M k))]) rfl ?_
  refine lv_istore_n (lv' := [(3, .int (zI (M k))), (0, .ref (b 0)), (1, .int (zI k)), (2, .int (zI v))]) hx hb dX9_change_5 rfl hl (by decide) rfl (fun ls hl => ?_)
  refine lv_aload_n hx hb dX9_change_6 rfl (lv_at hl 1 rfl) ?_
  refine va_get (D := D) (ci := 7) (v := .ref (b 1)) (C := RX9) (T := TX9) (N := 11) hx hb hts hin_X9 hown hK hP 0 rfl rfl 0 (by decide) hf_0 (fun _ h9 => h9) rfl dX9_change_7 ?_
  refine lv_iload_n hx hb dX9_change_10 rfl (lv_at hl 2 rfl) ?_
  refine lv_iload_n hx hb dX9_change_11 rfl (lv_at hl 3 rfl) ?_
  refine z_i2l hx hb dX9_change_12 (by omega) ?_
  refine z_last (g := M) (w2 := moW b sc tl cd pl cm h ++ (jrW ct (b 1) 94 (up M k v) ++ (jrW ct (b 2) 94 SP ++ (jrW ct (b 3) 376 SV ++ (irW ct (b 4) 150 TX ++ (irW ct (b 5) 2 NB)))))) hx hb hK hP hD hS 1 rfl (by decide) (by omega) dX9_change_13 (rfl) (fun H locs hP hD hS => ?_)
  refine lv_iload_n hx hb dX9_change_14 rfl (lv_at hl 0 rfl) ?_
  exact z_iret hx hb hr hlocks hP hD hS ⟨Nat.le_of_ble_eq_true rfl, Nat.le_of_ble_eq_true rfl⟩ dX9_change_15 (⟨congrArg (fun z => some (Value.int (zI z))) (rfl), rfl⟩)
theorem k_X9_bring : yX9_bring.cls ≠ "java/lang/invoke/MethodHandle" ∧ yX9_bring.cls ≠ "java/lang/invoke/VarHandle" ∧ (parseMethodDescriptor yX9_bring.desc).map (fun d => d.parameters.length) = some 4 := by decide +kernel
set_option maxHeartbeats 4000000 in
set_option maxRecDepth 100000 in
theorem c_X9_keep (l : Launch) (D : va_G) (ct ad : Nat → Nat) (b : Nat → Nat) (M SP SV TX NB : Int → Int) (sc tl cd pl cm h : Int) (h1 : 0 ≤ sc ∧ sc ≤ 4) : ZM l yX9_keep wsX9_keep ({ frames := 1, cells := 0, slots := 0, locals := 24 } : Room) D ct ad [.ref (b 0)] (moW b sc tl cd pl cm h ++ (jrW ct (b 1) 94 M ++ (jrW ct (b 2) 94 SP ++ (jrW ct (b 3) 376 SV ++ (irW ct (b 4) 150 TX ++ (irW ct (b 5) 2 NB)))))) (zD none (moW b (sv_n sc + 1) tl cd pl cm h ++ (jrW ct (b 1) 94 M ++ (jrW ct (b 2) 94 SP ++ (jrW ct (b 3) 376 (sv_keep SV M sc) ++ (irW ct (b 4) 150 TX ++ (irW ct (b 5) 2 NB))))))) := by
  refine ZM.of (cc := cX9_keep) (maxL := 2) (ret := none) (by decide +kernel) rfl (Nat.le_of_ble_eq_true rfl) ?_
  intro p e s m below meth c A ls hx hb hr hts hown hlocks hml hname hE hP hD hA hS hl
  have hK := hE.1
  have hf_0 := hts (.fieldLink RX9 46 "RodGridsModel" "savedCount" "I") (by decide +kernel)
  have hf_1 := hts (.fieldLink RX9 7 "RodGridsModel" "m" "[J") (by decide +kernel)
  have hf_2 := hts (.fieldLink RX9 16 "RodGridsModel" "saved" "[J") (by decide +kernel)
  have hin_X9 : ∀ z ∈ u_ws RX9 TX9 11, z ∈ wsX9_keep := by decide +kernel
  have hl : lv_has ls 2 [(0, .ref (b 0))] := hl
  refine lv_aload_n hx hb dX9_keep_0 rfl (lv_at hl 0 rfl) ?_
  refine va_get (D := D) (ci := 7) (v := .int (zI sc)) (C := RX9) (T := TX9) (N := 11) hx hb hts hin_X9 hown hK hP 0 rfl rfl 3 (by decide) hf_0 (fun _ h9 => h9) rfl dX9_keep_1 ?_
  refine z_iconst hx hb dX9_keep_4 ?_
  refine z_icmp_ne (tgt := 48) hx hb dX9_keep_5 (by decide) (by omega) (by omega) (fun hc_5 => ?_) (fun hc_5 => ?_)
  · have hc_5 := hc_5
    refine lv_aload_n hx hb dX9_keep_48 rfl (lv_at hl 0 rfl) ?_
    refine va_get (D := D) (ci := 7) (v := .ref (b 1)) (C := RX9) (T := TX9) (N := 11) hx hb hts hin_X9 hown hK hP 0 rfl rfl 0 (by decide) hf_1 (fun _ h9 => h9) rfl dX9_keep_49 ?_
    refine z_iconst hx hb dX9_keep_52 ?_
    refine lv_aload_n hx hb dX9_keep_53 rfl (lv_at hl 0 rfl) ?_
    refine va_get (D := D) (ci := 7) (v := .ref (b 3)) (C := RX9) (T := TX9) (N := 11) hx hb hts hin_X9 hown hK hP 0 rfl rfl 2 (by decide) hf_2 (fun _ h9 => h9) rfl dX9_keep_54 ?_
    refine z_bipush hx hb dX9_keep_57 (by decide) ?_
    refine lv_aload_n hx hb dX9_keep_59 rfl (lv_at hl 0 rfl) ?_
    refine va_get (D := D) (ci := 7) (v := .int (zI sc)) (C := RX9) (T := TX9) (N := 11) hx hb hts hin_X9 hown hK hP 0 rfl rfl 3 (by decide) hf_0 (fun _ h9 => h9) rfl dX9_keep_60 ?_
    refine z_imul hx hb dX9_keep_63 ?_
    have hperm := zperm (fun k : Nat => match k with | 0 => moW b sc tl cd pl cm h | 1 => jrW ct (b 1) 94 M | 2 => jrW ct (b 2) 94 SP | 3 => jrW ct (b 3) 376 SV | 4 => irW ct (b 4) 150 TX | _ => irW ct (b 5) 2 NB) [0, 1, 2, 3, 4, 5] [0, 2, 4, 5, 1, 3] (by decide)
    have hP : va_P D vwCl (moW b sc tl cd pl cm h ++ (jrW ct (b 2) 94 SP ++ (irW ct (b 4) 150 TX ++ (irW ct (b 5) 2 NB ++ (jrW ct (b 1) 94 M ++ (jrW ct (b 3) 376 SV)))))) s.heap := va_P.perm hperm hP
    have hD : va_D A (moW b sc tl cd pl cm h ++ (jrW ct (b 2) 94 SP ++ (irW ct (b 4) 150 TX ++ (irW ct (b 5) 2 NB ++ (jrW ct (b 1) 94 M ++ (jrW ct (b 3) 376 SV)))))) := va_D.perm hperm hD
    refine z_callS (As := [.ref (b 1), .int (zI 0), .ref (b 3), .int (zI (94 * sc))]) (rest := []) (moW b sc tl cd pl cm h ++ (jrW ct (b 2) 94 SP ++ (irW ct (b 4) 150 TX ++ (irW ct (b 5) 2 NB)))) ([] : va_W) hx hb hml hown hts hl hE hS hA (zr0 (moW b sc tl cd pl cm h ++ (jrW ct (b 2) 94 SP ++ (irW ct (b 4) 150 TX ++ (irW ct (b 5) 2 NB)))) hP) (zr0D (moW b sc tl cd pl cm h ++ (jrW ct (b 2) 94 SP ++ (irW ct (b 4) 150 TX ++ (irW ct (b 5) 2 NB)))) hD) (c_X9_bring l D ct ad (b 1) (b 3) 94 376 M SV 0 (94 * sc) (by omega) (by omega) (by omega)) gX9_keep_X9_bring rfl k_X9_bring ⟨Nat.le_of_ble_eq_true rfl, Nat.le_of_ble_eq_true rfl⟩ rfl (Nat.le_of_ble_eq_true rfl) ⟨Nat.le_of_ble_eq_true rfl, Nat.le_of_ble_eq_true rfl⟩ dX9_keep_64 rfl (fun v w1 H locs hpost hP hD hS => ?_)
    obtain ⟨rfl, rfl⟩ := hpost
    have hP := zr0' hP
    have hD := zr0D' hD
    have hP : va_P D vwCl (moW b sc tl cd pl cm h ++ (jrW ct (b 2) 94 SP ++ (irW ct (b 4) 150 TX ++ (irW ct (b 5) 2 NB ++ (jrW ct (b 1) 94 M ++ (jrW ct (b 3) 376 (brN M SV 0 (94 * sc) 94))))))) H := hP
    have hD : va_D A (moW b sc tl cd pl cm h ++ (jrW ct (b 2) 94 SP ++ (irW ct (b 4) 150 TX ++ (irW ct (b 5) 2 NB ++ (jrW ct (b 1) 94 M ++ (jrW ct (b 3) 376 (brN M SV 0 (94 * sc) 94))))))) := hD
    refine W.eq (g2 := F0 m 67 ls []) rfl ?_
    have hperm := zperm (fun k : Nat => match k with | 0 => moW b sc tl cd pl cm h | 1 => jrW ct (b 2) 94 SP | 2 => irW ct (b 4) 150 TX | 3 => irW ct (b 5) 2 NB | 4 => jrW ct (b 1) 94 M | _ => jrW ct (b 3) 376 (brN M SV 0 (94 * sc) 94)) [0, 1, 2, 3, 4, 5] [0, 4, 1, 5, 2, 3] (by decide)
    have hP : va_P D vwCl (moW b sc tl cd pl cm h ++ (jrW ct (b 1) 94 M ++ (jrW ct (b 2) 94 SP ++ (jrW ct (b 3) 376 (brN M SV 0 (94 * sc) 94) ++ (irW ct (b 4) 150 TX ++ (irW ct (b 5) 2 NB)))))) H := va_P.perm hperm hP
    have hD : va_D A (moW b sc tl cd pl cm h ++ (jrW ct (b 1) 94 M ++ (jrW ct (b 2) 94 SP ++ (jrW ct (b 3) 376 (brN M SV 0 (94 * sc) 94) ++ (irW ct (b 4) 150 TX ++ (irW ct (b 5) 2 NB)))))) := va_D.perm hperm hD
    refine lv_aload_n hx hb dX9_keep_67 rfl (lv_at hl 0 rfl) ?_
    refine lv_dup hx hb dX9_keep_68 rfl ?_
    refine va_get (D := D) (ci := 7) (v := .int (zI sc)) (C := RX9) (T := TX9) (N := 11) hx hb hts hin_X9 hown hK hP 0 rfl rfl 3 (by decide) hf_0 (fun _ h9 => h9) rfl dX9_keep_69 ?_
    refine z_iconst hx hb dX9_keep_72 ?_
    refine z_iadd hx hb dX9_keep_73 ?_
    refine z_put (ct := ct) (ad := ad) (ci := 7) (v := .int (zI (sc + 1))) (ty := tyX9 3) (C := RX9) (T := TX9) (N := 11) (w2 := moW b (sc + 1) tl cd pl cm h ++ (jrW ct (b 1) 94 M ++ (jrW ct (b 2) 94 SP ++ (jrW ct (b 3) 376 (brN M SV 0 (94 * sc) 94) ++ (irW ct (b 4) 150 TX ++ (irW ct (b 5) 2 NB)))))) hx hb hts hin_X9 tyX9 tyX9_ok nmX9 hown hE hP hD hS 0 rfl rfl 3 (by decide) hf_0 (fun _ h9 => h9) rfl (by decide +kernel) rfl rfl (Nat.le_of_ble_eq_true rfl) dX9_keep_74 (rfl) (fun H locs hP hD hS => ?_)
    exact z_vret hx hb hr hlocks hP hD hS ⟨Nat.le_of_ble_eq_true rfl, Nat.le_of_ble_eq_true rfl⟩ dX9_keep_77 (⟨rfl, by unfold sv_keep sv_n; first | (rw [if_pos (by omega), if_pos (by omega), hU, show i = 282 by omega, show sc - 1 = 3 by omega, show sc = 4 by omega]; rfl) | rw [if_neg (by omega), if_neg (by omega)]⟩)
  · have hc_5 := hc_5
    refine z_iconst hx hb dX9_keep_8 ?_
    refine lv_istore_n (lv' := [(1, .int (zI 0)), (0, .ref (b 0))]) hx hb dX9_keep_9 rfl hl (by decide) rfl (fun ls hl => ?_)
    refine z_loop (σ := Int × (Int → Int)) (fun q9 => (282 - q9.1).toNat) (fun q9 => (0 ≤ q9.1 ∧ q9.1 ≤ 282) ∧ (q9.2 = shN SV q9.1)) (fun q9 => moW b sc tl cd pl cm h ++ (jrW ct (b 1) 94 M ++ (jrW ct (b 2) 94 SP ++ (jrW ct (b 3) 376 q9.2 ++ (irW ct (b 4) 150 TX ++ (irW ct (b 5) 2 NB)))))) (fun q9 => [(0, .ref (b 0)), (1, .int (zI q9.1))]) (fun q9 => []) (0, SV) ⟨(show 0 ≤ 0 ∧ 0 ≤ 282 from (by omega)), (show SV = shN SV 0 from (by rw [shN_0]))⟩ hP hD hS (lv_sub hl [1, 0] rfl) rfl ?_
    rintro ⟨i, U⟩ hI_10 ih_10 H locs ls hP hD hS hl
    obtain ⟨hi, hU⟩ := hI_10
    have hi : 0 ≤ i ∧ i ≤ 282 := hi
    have hU : U = shN SV i := hU
    have hP : va_P D vwCl (moW b sc tl cd pl cm h ++ (jrW ct (b 1) 94 M ++ (jrW ct (b 2) 94 SP ++ (jrW ct (b 3) 376 U ++ (irW ct (b 4) 150 TX ++ (irW ct (b 5) 2 NB)))))) H := hP
    have hD : va_D A (moW b sc tl cd pl cm h ++ (jrW ct (b 1) 94 M ++ (jrW ct (b 2) 94 SP ++ (jrW ct (b 3) 376 U ++ (irW ct (b 4) 150 TX ++ (irW ct (b 5) 2 NB)))))) := hD
    have hl : lv_has ls 2 [(0, .ref (b 0)), (1, .int (zI i))] := hl
    refine lv_iload_n hx hb dX9_keep_10 rfl (lv_at hl 1 rfl) ?_
    refine z_sipush hx hb dX9_keep_11 (by decide) ?_
    refine z_icmp_ge (tgt := 38) hx hb dX9_keep_14 (by decide) (by omega) (by omega) (fun hc_14 => ?_) (fun hc_14 => ?_)
    · have hc_14 := hc_14
      refine lv_aload_n hx hb dX9_keep_38 rfl (lv_at hl 0 rfl) ?_
      refine lv_dup hx hb dX9_keep_39 rfl ?_
      refine va_get (D := D) (ci := 7) (v := .int (zI sc)) (C := RX9) (T := TX9) (N := 11) hx hb hts hin_X9 hown hK hP 0 rfl rfl 3 (by decide) hf_0 (fun _ h9 => h9) rfl dX9_keep_40 ?_
      refine z_iconst hx hb dX9_keep_43 ?_
      refine z_isub hx hb dX9_keep_44 ?_
      refine z_put (ct := ct) (ad := ad) (ci := 7) (v := .int (zI (sc - 1))) (ty := tyX9 3) (C := RX9) (T := TX9) (N := 11) (w2 := moW b (sc - 1) tl cd pl cm h ++ (jrW ct (b 1) 94 M ++ (jrW ct (b 2) 94 SP ++ (jrW ct (b 3) 376 U ++ (irW ct (b 4) 150 TX ++ (irW ct (b 5) 2 NB)))))) hx hb hts hin_X9 tyX9 tyX9_ok nmX9 hown hE hP hD hS 0 rfl rfl 3 (by decide) hf_0 (fun _ h9 => h9) rfl (by decide +kernel) rfl rfl (Nat.le_of_ble_eq_true rfl) dX9_keep_45 (rfl) (fun H locs hP hD hS => ?_)
      refine lv_aload_n hx hb dX9_keep_48 rfl (lv_at hl 0 rfl) ?_
      refine va_get (D := D) (ci := 7) (v := .ref (b 1)) (C := RX9) (T := TX9) (N := 11) hx hb hts hin_X9 hown hK hP 0 rfl rfl 0 (by decide) hf_1 (fun _ h9 => h9) rfl dX9_keep_49 ?_
      refine z_iconst hx hb dX9_keep_52 ?_
      refine lv_aload_n hx hb dX9_keep_53 rfl (lv_at hl 0 rfl) ?_
      refine va_get (D := D) (ci := 7) (v := .ref (b 3)) (C := RX9) (T := TX9) (N := 11) hx hb hts hin_X9 hown hK hP 0 rfl rfl 2 (by decide) hf_2 (fun _ h9 => h9) rfl dX9_keep_54 ?_
      refine z_bipush hx hb dX9_keep_57 (by decide) ?_
      refine lv_aload_n hx hb dX9_keep_59 rfl (lv_at hl 0 rfl) ?_
      refine va_get (D := D) (ci := 7) (v := .int (zI (sc - 1))) (C := RX9) (T := TX9) (N := 11) hx hb hts hin_X9 hown hK hP 0 rfl rfl 3 (by decide) hf_0 (fun _ h9 => h9) rfl dX9_keep_60 ?_
      refine z_imul hx hb dX9_keep_63 ?_
      have hperm := zperm (fun k : Nat => match k with | 0 => moW b (sc - 1) tl cd pl cm h | 1 => jrW ct (b 1) 94 M | 2 => jrW ct (b 2) 94 SP | 3 => jrW ct (b 3) 376 U | 4 => irW ct (b 4) 150 TX | _ => irW ct (b 5) 2 NB) [0, 1, 2, 3, 4, 5] [0, 2, 4, 5, 1, 3] (by decide)
      have hP : va_P D vwCl (moW b (sc - 1) tl cd pl cm h ++ (jrW ct (b 2) 94 SP ++ (irW ct (b 4) 150 TX ++ (irW ct (b 5) 2 NB ++ (jrW ct (b 1) 94 M ++ (jrW ct (b 3) 376 U)))))) H := va_P.perm hperm hP
      have hD : va_D A (moW b (sc - 1) tl cd pl cm h ++ (jrW ct (b 2) 94 SP ++ (irW ct (b 4) 150 TX ++ (irW ct (b 5) 2 NB ++ (jrW ct (b 1) 94 M ++ (jrW ct (b 3) 376 U)))))) := va_D.perm hperm hD
      refine z_callS (As := [.ref (b 1), .int (zI 0), .ref (b 3), .int (zI (94 * (sc - 1)))]) (rest := []) (moW b (sc - 1) tl cd pl cm h ++ (jrW ct (b 2) 94 SP ++ (irW ct (b 4) 150 TX ++ (irW ct (b 5) 2 NB)))) ([] : va_W) hx hb hml hown hts hl hE hS hA (zr0 (moW b (sc - 1) tl cd pl cm h ++ (jrW ct (b 2) 94 SP ++ (irW ct (b 4) 150 TX ++ (irW ct (b 5) 2 NB)))) hP) (zr0D (moW b (sc - 1) tl cd pl cm h ++ (jrW ct (b 2) 94 SP ++ (irW ct (b 4) 150 TX ++ (irW ct (b 5) 2 NB)))) hD) (c_X9_bring l D ct ad (b 1) (b 3) 94 376 M U 0 (94 * (sc - 1)) (by omega) (by omega) (by omega)) gX9_keep_X9_bring rfl k_X9_bring ⟨Nat.le_of_ble_eq_true rfl, Nat.le_of_ble_eq_true rfl⟩ rfl (Nat.le_of_ble_eq_true rfl) ⟨Nat.le_of_ble_eq_true rfl, Nat.le_of_ble_eq_true rfl⟩ dX9_keep_64 rfl (fun v w1 H locs hpost hP hD hS => ?_)
      obtain ⟨rfl, rfl⟩ := hpost
      have hP := zr0' hP
      have hD := zr0D' hD
      have hP : va_P D vwCl (moW b (sc - 1) tl cd pl cm h ++ (jrW ct (b 2) 94 SP ++ (irW ct (b 4) 150 TX ++ (irW ct (b 5) 2 NB ++ (jrW ct (b 1) 94 M ++ (jrW ct (b 3) 376 (brN M U 0 (94 * (sc - 1)) 94))))))) H := hP
      have hD : va_D A (moW b (sc - 1) tl cd pl cm h ++ (jrW ct (b 2) 94 SP ++ (irW ct (b 4) 150 TX ++ (irW ct (b 5) 2 NB ++ (jrW ct (b 1) 94 M ++ (jrW ct (b 3) 376 (brN M U 0 (94 * (sc - 1)) 94))))))) := hD
      refine W.eq (g2 := F0 m 67 ls []) rfl ?_
      have hperm := zperm (fun k : Nat => match k with | 0 => moW b (sc - 1) tl cd pl cm h | 1 => jrW ct (b 2) 94 SP | 2 => irW ct (b 4) 150 TX | 3 => irW ct (b 5) 2 NB | 4 => jrW ct (b 1) 94 M | _ => jrW ct (b 3) 376 (brN M U 0 (94 * (sc - 1)) 94)) [0, 1, 2, 3, 4, 5] [0, 4, 1, 5, 2, 3] (by decide)
      have hP : va_P D vwCl (moW b (sc - 1) tl cd pl cm h ++ (jrW ct (b 1) 94 M ++ (jrW ct (b 2) 94 SP ++ (jrW ct (b 3) 376 (brN M U 0 (94 * (sc - 1)) 94) ++ (irW ct (b 4) 150 TX ++ (irW ct (b 5) 2 NB)))))) H := va_P.perm hperm hP
      have hD : va_D A (moW b (sc - 1) tl cd pl cm h ++ (jrW ct (b 1) 94 M ++ (jrW ct (b 2) 94 SP ++ (jrW ct (b 3) 376 (brN M U 0 (94 * (sc - 1)) 94) ++ (irW ct (b 4) 150 TX ++ (irW ct (b 5) 2 NB)))))) := va_D.perm hperm hD
      refine lv_aload_n hx hb dX9_keep_67 rfl (lv_at hl 0 rfl) ?_
      refine lv_dup hx hb dX9_keep_68 rfl ?_
      refine va_get (D := D) (ci := 7) (v := .int (zI (sc - 1))) (C := RX9) (T := TX9) (N := 11) hx hb hts hin_X9 hown hK hP 0 rfl rfl 3 (by decide) hf_0 (fun _ h9 => h9) rfl dX9_keep_69 ?_
      refine z_iconst hx hb dX9_keep_72 ?_
      refine z_iadd hx hb dX9_keep_73 ?_
      refine z_canI (show (sc - 1) + 1 = sc from (by omega)) ?_
      refine z_put (ct := ct) (ad := ad) (ci := 7) (v := .int (zI sc)) (ty := tyX9 3) (C := RX9) (T := TX9) (N := 11) (w2 := moW b sc tl cd pl cm h ++ (jrW ct (b 1) 94 M ++ (jrW ct (b 2) 94 SP ++ (jrW ct (b 3) 376 (brN M U 0 (94 * (sc - 1)) 94) ++ (irW ct (b 4) 150 TX ++ (irW ct (b 5) 2 NB)))))) hx hb hts hin_X9 tyX9 tyX9_ok nmX9 hown hE hP hD hS 0 rfl rfl 3 (by decide) hf_0 (fun _ h9 => h9) rfl (by decide +kernel) rfl rfl (Nat.le_of_ble_eq_true rfl) dX9_keep_74 (rfl) (fun H locs hP hD hS => ?_)
      exact z_vret hx hb hr hlocks hP hD hS ⟨Nat.le_of_ble_eq_true rfl, Nat.le_of_ble_eq_true rfl⟩ dX9_keep_77 (⟨rfl, by unfold sv_keep sv_n; first | (rw [if_pos (by omega), if_pos (by omega), hU, show i = 282 by omega, show sc - 1 = 3 by omega, show sc = 4 by omega]; rfl) | rw [if_neg (by omega), if_neg (by omega)]⟩)
    · have hc_14 := hc_14
      refine lv_aload_n hx hb dX9_keep_17 rfl (lv_at hl 0 rfl) ?_
      refine va_get (D := D) (ci := 7) (v := .ref (b 3)) (C := RX9) (T := TX9) (N := 11) hx hb hts hin_X9 hown hK hP 0 rfl rfl 2 (by decide) hf_2 (fun _ h9 => h9) rfl dX9_keep_18 ?_
      refine lv_iload_n hx hb dX9_keep_21 rfl (lv_at hl 1 rfl) ?_
      refine lv_aload_n hx hb dX9_keep_22 rfl (lv_at hl 0 rfl) ?_
      refine va_get (D := D) (ci := 7) (v := .ref (b 3)) (C := RX9) (T := TX9) (N := 11) hx hb hts hin_X9 hown hK hP 0 rfl rfl 2 (by decide) hf_2 (fun _ h9 => h9) rfl dX9_keep_23 ?_
      refine lv_iload_n hx hb dX9_keep_26 rfl (lv_at hl 1 rfl) ?_
      refine z_bipush hx hb dX9_keep_27 (by decide) ?_
      refine z_iadd hx hb dX9_keep_29 ?_
      refine z_lald (g := U) (v := U (i + 94)) hx hb hK hP 3 rfl (by decide) (by omega) rfl dX9_keep_30 ?_
      refine z_last (g := U) (w2 := moW b sc tl cd pl cm h ++ (jrW ct (b 1) 94 M ++ (jrW ct (b 2) 94 SP ++ (jrW ct (b 3) 376 (up U i (U (i + 94))) ++ (irW ct (b 4) 150 TX ++ (irW ct (b 5) 2 NB)))))) hx hb hK hP hD hS 3 rfl (by decide) (by omega) dX9_keep_31 (rfl) (fun H locs hP hD hS => ?_)
      refine z_iinc (k := 1) (lv' := [(1, .int (zI (i + 1))), (0, .ref (b 0))]) hx hb dX9_keep_32 hl rfl (by decide) rfl (fun ls hl => ?_)
      refine lv_goto (tgt := 10) hx hb dX9_keep_35 (by decide) ?_
      exact ih_10 (i + 1, up U i (U (i + 94))) ⟨(show 0 ≤ (i + 1) ∧ (i + 1) ≤ 282 from (by omega)), (show (up U i (U (i + 94))) = shN SV (i + 1) from (by rw [hU]; exact shN_S hi.1))⟩ (show (282 - (i + 1)).toNat < (282 - i).toNat from (by omega)) _ _ _ hP hD hS (lv_sub hl [1, 0] rfl)
theorem k_X9_isStretch : yX9_isStretch.cls ≠ "java/lang/invoke/MethodHandle" ∧ yX9_isStretch.cls ≠ "java/lang/invoke/VarHandle" ∧ (parseMethodDescriptor yX9_isStretch.desc).map (fun d => d.parameters.length) = some 1 := by decide +kernel
set_option maxHeartbeats 4000000 in
set_option maxRecDepth 100000 in
theorem c_X9_notMetal (l : Launch) (D : va_G) (ct ad : Nat → Nat) (b : Nat → Nat) (M SP SV TX NB : Int → Int) (sc tl cd pl cm h : Int) (v : Int) (hI : gInv M) (h1 : -2147483648 ≤ v ∧ v ≤ 2147483647) : ZM l yX9_notMetal wsX9_notMetal ({ frames := 2, cells := 0, slots := 0, locals := 42 } : Room) D ct ad [.ref (b 0), .int (zI v)] (moW b sc tl cd pl cm h ++ (jrW ct (b 1) 94 M ++ (jrW ct (b 2) 94 SP ++ (jrW ct (b 3) 376 SV ++ (irW ct (b 4) 150 TX ++ (irW ct (b 5) 2 NB)))))) (zD (some (.int (zI (ck1 (ck_metal M v))))) (moW b sc tl cd pl cm h ++ (jrW ct (b 1) 94 M ++ (jrW ct (b 2) 94 SP ++ (jrW ct (b 3) 376 SV ++ (irW ct (b 4) 150 TX ++ (irW ct (b 5) 2 NB))))))) := by
  refine ZM.of (cc := cX9_notMetal) (maxL := 2) (ret := (some .int)) (by decide +kernel) rfl (Nat.le_of_ble_eq_true rfl) ?_
  intro p e s m below meth c A ls hx hb hr hts hown hlocks hml hname hE hP hD hA hS hl
  have hK := hE.1
  have hl : lv_has ls 2 [(0, .ref (b 0)), (1, .int (zI v))] := hl
  have i3 := hI.1
  have i4 := hI.2.1
  refine lv_iload_n hx hb dX9_notMetal_0 rfl (lv_at hl 1 rfl) ?_
  refine z_callS (As := [.int (zI v)]) (rest := []) ([] : va_W) (moW b sc tl cd pl cm h ++ (jrW ct (b 1) 94 M ++ (jrW ct (b 2) 94 SP ++ (jrW ct (b 3) 376 SV ++ (irW ct (b 4) 150 TX ++ (irW ct (b 5) 2 NB)))))) hx hb hml hown hts hl hE hS hA hP hD (c_X9_isStretch l D ct ad v (by omega)) gX9_notMetal_X9_isStretch rfl k_X9_isStretch ⟨Nat.le_of_ble_eq_true rfl, Nat.le_of_ble_eq_true rfl⟩ rfl (Nat.le_of_ble_eq_true rfl) ⟨Nat.le_of_ble_eq_true rfl, Nat.le_of_ble_eq_true rfl⟩ dX9_notMetal_1 rfl (fun v w1 H locs hpost hP hD hS => ?_)
  obtain ⟨rfl, rfl⟩ := hpost
  have hP : va_P D vwCl (moW b sc tl cd pl cm h ++ (jrW ct (b 1) 94 M ++ (jrW ct (b 2) 94 SP ++ (jrW ct (b 3) 376 SV ++ (irW ct (b 4) 150 TX ++ (irW ct (b 5) 2 NB)))))) H := hP
  have hD : va_D A (moW b sc tl cd pl cm h ++ (jrW ct (b 1) 94 M ++ (jrW ct (b 2) 94 SP ++ (jrW ct (b 3) 376 SV ++ (irW ct (b 4) 150 TX ++ (irW ct (b 5) 2 NB)))))) := hD
  refine W.eq (g2 := F0 m 4 ls [.int (zI (zB (0 ≤ v ∧ v ≤ 500)))]) rfl ?_
  refine zb_if_ne (tgt := 11) hx hb dX9_notMetal_4 (by decide) (fun hc_4 => ?_) (fun hc_4 => ?_)
  · have hc_4 := hc_4
    refine lv_aload_n hx hb dX9_notMetal_11 rfl (lv_at hl 0 rfl) ?_
    refine z_iconst hx hb dX9_notMetal_12 ?_
    refine z_callV (C := RX9) (q0 := 0) (ci := 7) (As := [.int (zI 3)]) (rest := []) ([] : va_W) ([] : va_W) hx hb hml hown hts hl hE hS hA (zr0 ([] : va_W) hP) (zr0D ([] : va_W) hD) (c_X9_of l D ct ad b M SP SV TX NB sc tl cd pl cm h 3 (by omega)) gX9_notMetal_X9_of rfl rfl k_X9_of ⟨Nat.le_of_ble_eq_true rfl, Nat.le_of_ble_eq_true rfl⟩ rfl rfl rfl rfl (Nat.le_of_ble_eq_true rfl) ⟨Nat.le_of_ble_eq_true rfl, Nat.le_of_ble_eq_true rfl⟩ dX9_notMetal_13 rfl (fun v w1 H locs hpost hP hD hS => ?_)
    obtain ⟨rfl, rfl⟩ := hpost
    have hP := zr0' hP
    have hD := zr0D' hD
    have hP : va_P D vwCl (moW b sc tl cd pl cm h ++ (jrW ct (b 1) 94 M ++ (jrW ct (b 2) 94 SP ++ (jrW ct (b 3) 376 SV ++ (irW ct (b 4) 150 TX ++ (irW ct (b 5) 2 NB)))))) H := hP
    have hD : va_D A (moW b sc tl cd pl cm h ++ (jrW ct (b 1) 94 M ++ (jrW ct (b 2) 94 SP ++ (jrW ct (b 3) 376 SV ++ (irW ct (b 4) 150 TX ++ (irW ct (b 5) 2 NB)))))) := hD
    refine W.eq (g2 := F0 m 16 ls [.int (zI (M 3))]) rfl ?_
    refine z_bipush hx hb dX9_notMetal_16 (by decide) ?_
    refine z_icmp_ne (tgt := 25) hx hb dX9_notMetal_18 (by decide) (by omega) (by omega) (fun hc_18 => ?_) (fun hc_18 => ?_)
    · have hc_18 := hc_18
      refine z_iconst hx hb dX9_notMetal_25 ?_
      exact z_iret hx hb hr hlocks hP hD hS ⟨Nat.le_of_ble_eq_true rfl, Nat.le_of_ble_eq_true rfl⟩ dX9_notMetal_26 (⟨congrArg (fun z => some (Value.int (zI z))) (by unfold ck1 ck_metal; (repeat' split) <;> omega), rfl⟩)
    · have hc_18 := hc_18
      refine z_iconst hx hb dX9_notMetal_21 ?_
      refine lv_goto (tgt := 26) hx hb dX9_notMetal_22 (by decide) ?_
      exact z_iret hx hb hr hlocks hP hD hS ⟨Nat.le_of_ble_eq_true rfl, Nat.le_of_ble_eq_true rfl⟩ dX9_notMetal_26 (⟨congrArg (fun z => some (Value.int (zI z))) (by unfold ck1 ck_metal; (repeat' split) <;> omega), rfl⟩)
  · have hc_4 := hc_4
    refine z_iconst hx hb dX9_notMetal_7 ?_
    refine lv_goto (tgt := 26) hx hb dX9_notMetal_8 (by decide) ?_
    exact z_iret hx hb hr hlocks hP hD hS ⟨Nat.le_of_ble_eq_true rfl, Nat.le_of_ble_eq_true rfl⟩ dX9_notMetal_26 (⟨congrArg (fun z => some (Value.int (zI z))) (by unfold ck1 ck_metal; (repeat' split) <;> omega), rfl⟩)
theorem k_X9_isLength : yX9_isLength.cls ≠ "java/lang/invoke/MethodHandle" ∧ yX9_isLength.cls ≠ "java/lang/invoke/VarHandle" ∧ (parseMethodDescriptor yX9_isLength.desc).map (fun d => d.parameters.length) = some 1 := by decide +kernel
theorem k_X9_isMetal : yX9_isMetal.cls ≠ "java/lang/invoke/MethodHandle" ∧ yX9_isMetal.cls ≠ "java/lang/invoke/VarHandle" ∧ (parseMethodDescriptor yX9_isMetal.desc).map (fun d => d.parameters.length) = some 1 := by decide +kernel
set_option maxHeartbeats 4000000 in
set_option maxRecDepth 100000 in
theorem c_X9_notRod (l : Launch) (D : va_G) (ct ad : Nat → Nat) (b : Nat → Nat) (M SP SV TX NB : Int → Int) (sc tl cd pl cm h : Int) (k d n : Int) (hI : gInv M) (h1 : -2147483648 ≤ k ∧ k ≤ 2147483647) (h2 : -2147483648 ≤ d ∧ d ≤ 2147483647) (h3 : -2147483648 ≤ n ∧ n ≤ 2147483647) : ZM l yX9_notRod wsX9_notRod ({ frames := 2, cells := 0, slots := 0, locals := 43 } : Room) D ct ad [.ref (b 0), .int (zI k), .int (zI d), .int (zI n)] (moW b sc tl cd pl cm h ++ (jrW ct (b 1) 94 M ++ (jrW ct (b 2) 94 SP ++ (jrW ct (b 3) 376 SV ++ (irW ct (b 4) 150 TX ++ (irW ct (b 5) 2 NB)))))) (zD (some (.int (zI (ck_rod M k d n)))) (moW b sc tl cd pl cm h ++ (jrW ct (b 1) 94 M ++ (jrW ct (b 2) 94 SP ++ (jrW ct (b 3) 376 SV ++ (irW ct (b 4) 150 TX ++ (irW ct (b 5) 2 NB))))))) := by
  refine ZM.of (cc := cX9_notRod) (maxL := 4) (ret := (some .int)) (by decide +kernel) rfl (Nat.le_of_ble_eq_true rfl) ?_
  intro p e s m below meth c A ls hx hb hr hts hown hlocks hml hname hE hP hD hA hS hl
  have hK := hE.1
  have hl : lv_has ls 4 [(0, .ref (b 0)), (1, .int (zI k)), (2, .int (zI d)), (3, .int (zI n))] := hl
  have i3 := hI.1
  have i4 := hI.2.1
  refine lv_aload_n hx hb dX9_notRod_0 rfl (lv_at hl 0 rfl) ?_
  refine lv_iload_n hx hb dX9_notRod_1 rfl (lv_at hl 1 rfl) ?_
  refine z_callV (C := RX9) (q0 := 0) (ci := 7) (As := [.int (zI k)]) (rest := []) ([] : va_W) ([] : va_W) hx hb hml hown hts hl hE hS hA (zr0 ([] : va_W) hP) (zr0D ([] : va_W) hD) (c_X9_isMetal l D ct ad b M SP SV TX NB sc tl cd pl cm h k (by assumption) (by omega)) gX9_notRod_X9_isMetal rfl rfl k_X9_isMetal ⟨Nat.le_of_ble_eq_true rfl, Nat.le_of_ble_eq_true rfl⟩ rfl rfl rfl rfl (Nat.le_of_ble_eq_true rfl) ⟨Nat.le_of_ble_eq_true rfl, Nat.le_of_ble_eq_true rfl⟩ dX9_notRod_2 rfl (fun v w1 H locs hpost hP hD hS => ?_)
  obtain ⟨rfl, rfl⟩ := hpost
  have hP := zr0' hP
  have hD := zr0D' hD
  have hP : va_P D vwCl (moW b sc tl cd pl cm h ++ (jrW ct (b 1) 94 M ++ (jrW ct (b 2) 94 SP ++ (jrW ct (b 3) 376 SV ++ (irW ct (b 4) 150 TX ++ (irW ct (b 5) 2 NB)))))) H := hP
  have hD : va_D A (moW b sc tl cd pl cm h ++ (jrW ct (b 1) 94 M ++ (jrW ct (b 2) 94 SP ++ (jrW ct (b 3) 376 SV ++ (irW ct (b 4) 150 TX ++ (irW ct (b 5) 2 NB)))))) := hD
  refine W.eq (g2 := F0 m 5 ls [.int (zI (zB (0 ≤ k ∧ k < M 3)))]) rfl ?_
  refine zb_if_ne (tgt := 10) hx hb dX9_notRod_5 (by decide) (fun hc_5 => ?_) (fun hc_5 => ?_)
  · have hc_5 := hc_5
    refine lv_iload_n hx hb dX9_notRod_10 rfl (lv_at hl 2 rfl) ?_
    refine z_iconst hx hb dX9_notRod_11 ?_
    refine z_icmp_eq (tgt := 20) hx hb dX9_notRod_12 (by decide) (by omega) (by omega) (fun hc_12 => ?_) (fun hc_12 => ?_)
    · have hc_12 := hc_12
      refine lv_iload_n hx hb dX9_notRod_20 rfl (lv_at hl 3 rfl) ?_
      refine z_callS (As := [.int (zI n)]) (rest := []) ([] : va_W) (moW b sc tl cd pl cm h ++ (jrW ct (b 1) 94 M ++ (jrW ct (b 2) 94 SP ++ (jrW ct (b 3) 376 SV ++ (irW ct (b 4) 150 TX ++ (irW ct (b 5) 2 NB)))))) hx hb hml hown hts hl hE hS hA hP hD (c_X9_isLength l D ct ad n (by omega)) gX9_notRod_X9_isLength rfl k_X9_isLength ⟨Nat.le_of_ble_eq_true rfl, Nat.le_of_ble_eq_true rfl⟩ rfl (Nat.le_of_ble_eq_true rfl) ⟨Nat.le_of_ble_eq_true rfl, Nat.le_of_ble_eq_true rfl⟩ dX9_notRod_21 rfl (fun v w1 H locs hpost hP hD hS => ?_)
      obtain ⟨rfl, rfl⟩ := hpost
      have hP : va_P D vwCl (moW b sc tl cd pl cm h ++ (jrW ct (b 1) 94 M ++ (jrW ct (b 2) 94 SP ++ (jrW ct (b 3) 376 SV ++ (irW ct (b 4) 150 TX ++ (irW ct (b 5) 2 NB)))))) H := hP
      have hD : va_D A (moW b sc tl cd pl cm h ++ (jrW ct (b 1) 94 M ++ (jrW ct (b 2) 94 SP ++ (jrW ct (b 3) 376 SV ++ (irW ct (b 4) 150 TX ++ (irW ct (b 5) 2 NB)))))) := hD
      refine W.eq (g2 := F0 m 24 ls [.int (zI (zB (1 ≤ n ∧ n ≤ 1000000)))]) rfl ?_
      refine zb_if_ne (tgt := 31) hx hb dX9_notRod_24 (by decide) (fun hc_24 => ?_) (fun hc_24 => ?_)
      · have hc_24 := hc_24
        refine lv_aload_n hx hb dX9_notRod_31 rfl (lv_at hl 0 rfl) ?_
        refine z_iconst hx hb dX9_notRod_32 ?_
        refine z_callV (C := RX9) (q0 := 0) (ci := 7) (As := [.int (zI 4)]) (rest := []) ([] : va_W) ([] : va_W) hx hb hml hown hts hl hE hS hA (zr0 ([] : va_W) hP) (zr0D ([] : va_W) hD) (c_X9_of l D ct ad b M SP SV TX NB sc tl cd pl cm h 4 (by omega)) gX9_notRod_X9_of rfl rfl k_X9_of ⟨Nat.le_of_ble_eq_true rfl, Nat.le_of_ble_eq_true rfl⟩ rfl rfl rfl rfl (Nat.le_of_ble_eq_true rfl) ⟨Nat.le_of_ble_eq_true rfl, Nat.le_of_ble_eq_true rfl⟩ dX9_notRod_33 rfl (fun v w1 H locs hpost hP hD hS => ?_)
        obtain ⟨rfl, rfl⟩ := hpost
        have hP := zr0' hP
        have hD := zr0D' hD
        have hP : va_P D vwCl (moW b sc tl cd pl cm h ++ (jrW ct (b 1) 94 M ++ (jrW ct (b 2) 94 SP ++ (jrW ct (b 3) 376 SV ++ (irW ct (b 4) 150 TX ++ (irW ct (b 5) 2 NB)))))) H := hP
        have hD : va_D A (moW b sc tl cd pl cm h ++ (jrW ct (b 1) 94 M ++ (jrW ct (b 2) 94 SP ++ (jrW ct (b 3) 376 SV ++ (irW ct (b 4) 150 TX ++ (irW ct (b 5) 2 NB)))))) := hD
        refine W.eq (g2 := F0 m 36 ls [.int (zI (M 4))]) rfl ?_
        refine z_bipush hx hb dX9_notRod_36 (by decide) ?_
        refine z_icmp_ne (tgt := 45) hx hb dX9_notRod_38 (by decide) (by omega) (by omega) (fun hc_38 => ?_) (fun hc_38 => ?_)
        · have hc_38 := hc_38
          refine z_iconst hx hb dX9_notRod_45 ?_
          exact z_iret hx hb hr hlocks hP hD hS ⟨Nat.le_of_ble_eq_true rfl, Nat.le_of_ble_eq_true rfl⟩ dX9_notRod_46 (⟨congrArg (fun z => some (Value.int (zI z))) (by unfold ck_rod; (repeat' split) <;> omega), rfl⟩)
        · have hc_38 := hc_38
          refine z_iconst hx hb dX9_notRod_41 ?_
          refine lv_goto (tgt := 46) hx hb dX9_notRod_42 (by decide) ?_
          exact z_iret hx hb hr hlocks hP hD hS ⟨Nat.le_of_ble_eq_true rfl, Nat.le_of_ble_eq_true rfl⟩ dX9_notRod_46 (⟨congrArg (fun z => some (Value.int (zI z))) (by unfold ck_rod; (repeat' split) <;> omega), rfl⟩)
      · have hc_24 := hc_24
        refine z_iconst hx hb dX9_notRod_27 ?_
        refine lv_goto (tgt := 46) hx hb dX9_notRod_28 (by decide) ?_
        exact z_iret hx hb hr hlocks hP hD hS ⟨Nat.le_of_ble_eq_true rfl, Nat.le_of_ble_eq_true rfl⟩ dX9_notRod_46 (⟨congrArg (fun z => some (Value.int (zI z))) (by unfold ck_rod; (repeat' split) <;> omega), rfl⟩)
    · have hc_12 := hc_12
      refine lv_iload_n hx hb dX9_notRod_15 rfl (lv_at hl 2 rfl) ?_
      refine z_iconst hx hb dX9_notRod_16 ?_
      refine z_icmp_ne (tgt := 27) hx hb dX9_notRod_17 (by decide) (by omega) (by omega) (fun hc_17 => ?_) (fun hc_17 => ?_)
      · have hc_17 := hc_17
        refine z_iconst hx hb dX9_notRod_27 ?_
        refine lv_goto (tgt := 46) hx hb dX9_notRod_28 (by decide) ?_
        exact z_iret hx hb hr hlocks hP hD hS ⟨Nat.le_of_ble_eq_true rfl, Nat.le_of_ble_eq_true rfl⟩ dX9_notRod_46 (⟨congrArg (fun z => some (Value.int (zI z))) (by unfold ck_rod; (repeat' split) <;> omega), rfl⟩)
      · have hc_17 := hc_17
        refine lv_iload_n hx hb dX9_notRod_20 rfl (lv_at hl 3 rfl) ?_
        refine z_callS (As := [.int (zI n)]) (rest := []) ([] : va_W) (moW b sc tl cd pl cm h ++ (jrW ct (b 1) 94 M ++ (jrW ct (b 2) 94 SP ++ (jrW ct (b 3) 376 SV ++ (irW ct (b 4) 150 TX ++ (irW ct (b 5) 2 NB)))))) hx hb hml hown hts hl hE hS hA hP hD (c_X9_isLength l D ct ad n (by omega)) gX9_notRod_X9_isLength rfl k_X9_isLength ⟨Nat.le_of_ble_eq_true rfl, Nat.le_of_ble_eq_true rfl⟩ rfl (Nat.le_of_ble_eq_true rfl) ⟨Nat.le_of_ble_eq_true rfl, Nat.le_of_ble_eq_true rfl⟩ dX9_notRod_21 rfl (fun v w1 H locs hpost hP hD hS => ?_)
        obtain ⟨rfl, rfl⟩ := hpost
        have hP : va_P D vwCl (moW b sc tl cd pl cm h ++ (jrW ct (b 1) 94 M ++ (jrW ct (b 2) 94 SP ++ (jrW ct (b 3) 376 SV ++ (irW ct (b 4) 150 TX ++ (irW ct (b 5) 2 NB)))))) H := hP
        have hD : va_D A (moW b sc tl cd pl cm h ++ (jrW ct (b 1) 94 M ++ (jrW ct (b 2) 94 SP ++ (jrW ct (b 3) 376 SV ++ (irW ct (b 4) 150 TX ++ (irW ct (b 5) 2 NB)))))) := hD
        refine W.eq (g2 := F0 m 24 ls [.int (zI (zB (1 ≤ n ∧ n ≤ 1000000)))]) rfl ?_
        refine zb_if_ne (tgt := 31) hx hb dX9_notRod_24 (by decide) (fun hc_24 => ?_) (fun hc_24 => ?_)
        · have hc_24 := hc_24
          refine lv_aload_n hx hb dX9_notRod_31 rfl (lv_at hl 0 rfl) ?_
          refine z_iconst hx hb dX9_notRod_32 ?_
          refine z_callV (C := RX9) (q0 := 0) (ci := 7) (As := [.int (zI 4)]) (rest := []) ([] : va_W) ([] : va_W) hx hb hml hown hts hl hE hS hA (zr0 ([] : va_W) hP) (zr0D ([] : va_W) hD) (c_X9_of l D ct ad b M SP SV TX NB sc tl cd pl cm h 4 (by omega)) gX9_notRod_X9_of rfl rfl k_X9_of ⟨Nat.le_of_ble_eq_true rfl, Nat.le_of_ble_eq_true rfl⟩ rfl rfl rfl rfl (Nat.le_of_ble_eq_true rfl) ⟨Nat.le_of_ble_eq_true rfl, Nat.le_of_ble_eq_true rfl⟩ dX9_notRod_33 rfl (fun v w1 H locs hpost hP hD hS => ?_)
          obtain ⟨rfl, rfl⟩ := hpost
          have hP := zr0' hP
          have hD := zr0D' hD
          have hP : va_P D vwCl (moW b sc tl cd pl cm h ++ (jrW ct (b 1) 94 M ++ (jrW ct (b 2) 94 SP ++ (jrW ct (b 3) 376 SV ++ (irW ct (b 4) 150 TX ++ (irW ct (b 5) 2 NB)))))) H := hP
          have hD : va_D A (moW b sc tl cd pl cm h ++ (jrW ct (b 1) 94 M ++ (jrW ct (b 2) 94 SP ++ (jrW ct (b 3) 376 SV ++ (irW ct (b 4) 150 TX ++ (irW ct (b 5) 2 NB)))))) := hD
          refine W.eq (g2 := F0 m 36 ls [.int (zI (M 4))]) rfl ?_
          refine z_bipush hx hb dX9_notRod_36 (by decide) ?_
          refine z_icmp_ne (tgt := 45) hx hb dX9_notRod_38 (by decide) (by omega) (by omega) (fun hc_38 => ?_) (fun hc_38 => ?_)
          · have hc_38 := hc_38
            refine z_iconst hx hb dX9_notRod_45 ?_
            exact z_iret hx hb hr hlocks hP hD hS ⟨Nat.le_of_ble_eq_true rfl, Nat.le_of_ble_eq_true rfl⟩ dX9_notRod_46 (⟨congrArg (fun z => some (Value.int (zI z))) (by unfold ck_rod; (repeat' split) <;> omega), rfl⟩)
          · have hc_38 := hc_38
            refine z_iconst hx hb dX9_notRod_41 ?_
            refine lv_goto (tgt := 46) hx hb dX9_notRod_42 (by decide) ?_
            exact z_iret hx hb hr hlocks hP hD hS ⟨Nat.le_of_ble_eq_true rfl, Nat.le_of_ble_eq_true rfl⟩ dX9_notRod_46 (⟨congrArg (fun z => some (Value.int (zI z))) (by unfold ck_rod; (repeat' split) <;> omega), rfl⟩)
        · have hc_24 := hc_24
          refine z_iconst hx hb dX9_notRod_27 ?_
          refine lv_goto (tgt := 46) hx hb dX9_notRod_28 (by decide) ?_
          exact z_iret hx hb hr hlocks hP hD hS ⟨Nat.le_of_ble_eq_true rfl, Nat.le_of_ble_eq_true rfl⟩ dX9_notRod_46 (⟨congrArg (fun z => some (Value.int (zI z))) (by unfold ck_rod; (repeat' split) <;> omega), rfl⟩)
  · have hc_5 := hc_5
    refine z_iconst hx hb dX9_notRod_8 ?_
    exact z_iret hx hb hr hlocks hP hD hS ⟨Nat.le_of_ble_eq_true rfl, Nat.le_of_ble_eq_true rfl⟩ dX9_notRod_9 (⟨congrArg (fun z => some (Value.int (zI z))) (by unfold ck_rod; (repeat' split) <;> omega), rfl⟩)
theorem k_X9_isRod : yX9_isRod.cls ≠ "java/lang/invoke/MethodHandle" ∧ yX9_isRod.cls ≠ "java/lang/invoke/VarHandle" ∧ (parseMethodDescriptor yX9_isRod.desc).map (fun d => d.parameters.length) = some 1 := by decide +kernel
set_option maxHeartbeats 4000000 in
set_option maxRecDepth 100000 in
theorem c_X9_notLength (l : Launch) (D : va_G) (ct ad : Nat → Nat) (b : Nat → Nat) (M SP SV TX NB : Int → Int) (sc tl cd pl cm h : Int) (r n : Int) (hI : gInv M) (h1 : -2147483648 ≤ r ∧ r ≤ 2147483647) (h3 : -2147483648 ≤ n ∧ n ≤ 2147483647) : ZM l yX9_notLength wsX9_notLength ({ frames := 2, cells := 0, slots := 0, locals := 43 } : Room) D ct ad [.ref (b 0), .int (zI r), .int (zI n)] (moW b sc tl cd pl cm h ++ (jrW ct (b 1) 94 M ++ (jrW ct (b 2) 94 SP ++ (jrW ct (b 3) 376 SV ++ (irW ct (b 4) 150 TX ++ (irW ct (b 5) 2 NB)))))) (zD (some (.int (zI (ck_length M r n)))) (moW b sc tl cd pl cm h ++ (jrW ct (b 1) 94 M ++ (jrW ct (b 2) 94 SP ++ (jrW ct (b 3) 376 SV ++ (irW ct (b 4) 150 TX ++ (irW ct (b 5) 2 NB))))))) := by
  refine ZM.of (cc := cX9_notLength) (maxL := 3) (ret := (some .int)) (by decide +kernel) rfl (Nat.le_of_ble_eq_true rfl) ?_
  intro p e s m below meth c A ls hx hb hr hts hown hlocks hml hname hE hP hD hA hS hl
  have hK := hE.1
  have hl : lv_has ls 3 [(0, .ref (b 0)), (1, .int (zI r)), (2, .int (zI n))] := hl
  have i3 := hI.1
  have i4 := hI.2.1
  refine lv_aload_n hx hb dX9_notLength_0 rfl (lv_at hl 0 rfl) ?_
  refine lv_iload_n hx hb dX9_notLength_1 rfl (lv_at hl 1 rfl) ?_
  refine z_callV (C := RX9) (q0 := 0) (ci := 7) (As := [.int (zI r)]) (rest := []) ([] : va_W) ([] : va_W) hx hb hml hown hts hl hE hS hA (zr0 ([] : va_W) hP) (zr0D ([] : va_W) hD) (c_X9_isRod l D ct ad b M SP SV TX NB sc tl cd pl cm h r (by assumption) (by omega)) gX9_notLength_X9_isRod rfl rfl k_X9_isRod ⟨Nat.le_of_ble_eq_true rfl, Nat.le_of_ble_eq_true rfl⟩ rfl rfl rfl rfl (Nat.le_of_ble_eq_true rfl) ⟨Nat.le_of_ble_eq_true rfl, Nat.le_of_ble_eq_true rfl⟩ dX9_notLength_2 rfl (fun v w1 H locs hpost hP hD hS => ?_)
  obtain ⟨rfl, rfl⟩ := hpost
  have hP := zr0' hP
  have hD := zr0D' hD
  have hP : va_P D vwCl (moW b sc tl cd pl cm h ++ (jrW ct (b 1) 94 M ++ (jrW ct (b 2) 94 SP ++ (jrW ct (b 3) 376 SV ++ (irW ct (b 4) 150 TX ++ (irW ct (b 5) 2 NB)))))) H := hP
  have hD : va_D A (moW b sc tl cd pl cm h ++ (jrW ct (b 1) 94 M ++ (jrW ct (b 2) 94 SP ++ (jrW ct (b 3) 376 SV ++ (irW ct (b 4) 150 TX ++ (irW ct (b 5) 2 NB)))))) := hD
  refine W.eq (g2 := F0 m 5 ls [.int (zI (zB (0 ≤ r ∧ r < M 4)))]) rfl ?_
  refine zb_if_ne (tgt := 12) hx hb dX9_notLength_5 (by decide) (fun hc_5 => ?_) (fun hc_5 => ?_)
  · have hc_5 := hc_5
    refine lv_iload_n hx hb dX9_notLength_12 rfl (lv_at hl 2 rfl) ?_
    refine z_callS (As := [.int (zI n)]) (rest := []) ([] : va_W) (moW b sc tl cd pl cm h ++ (jrW ct (b 1) 94 M ++ (jrW ct (b 2) 94 SP ++ (jrW ct (b 3) 376 SV ++ (irW ct (b 4) 150 TX ++ (irW ct (b 5) 2 NB)))))) hx hb hml hown hts hl hE hS hA hP hD (c_X9_isLength l D ct ad n (by omega)) gX9_notLength_X9_isLength rfl k_X9_isLength ⟨Nat.le_of_ble_eq_true rfl, Nat.le_of_ble_eq_true rfl⟩ rfl (Nat.le_of_ble_eq_true rfl) ⟨Nat.le_of_ble_eq_true rfl, Nat.le_of_ble_eq_true rfl⟩ dX9_notLength_13 rfl (fun v w1 H locs hpost hP hD hS => ?_)
    obtain ⟨rfl, rfl⟩ := hpost
    have hP : va_P D vwCl (moW b sc tl cd pl cm h ++ (jrW ct (b 1) 94 M ++ (jrW ct (b 2) 94 SP ++ (jrW ct (b 3) 376 SV ++ (irW ct (b 4) 150 TX ++ (irW ct (b 5) 2 NB)))))) H := hP
    have hD : va_D A (moW b sc tl cd pl cm h ++ (jrW ct (b 1) 94 M ++ (jrW ct (b 2) 94 SP ++ (jrW ct (b 3) 376 SV ++ (irW ct (b 4) 150 TX ++ (irW ct (b 5) 2 NB)))))) := hD
    refine W.eq (g2 := F0 m 16 ls [.int (zI (zB (1 ≤ n ∧ n ≤ 1000000)))]) rfl ?_
    refine zb_if_eq (tgt := 23) hx hb dX9_notLength_16 (by decide) (fun hc_16 => ?_) (fun hc_16 => ?_)
    · have hc_16 := hc_16
      refine z_iconst hx hb dX9_notLength_23 ?_
      exact z_iret hx hb hr hlocks hP hD hS ⟨Nat.le_of_ble_eq_true rfl, Nat.le_of_ble_eq_true rfl⟩ dX9_notLength_24 (⟨congrArg (fun z => some (Value.int (zI z))) (by unfold ck_length; (repeat' split) <;> omega), rfl⟩)
    · have hc_16 := hc_16
      refine z_iconst hx hb dX9_notLength_19 ?_
      refine lv_goto (tgt := 24) hx hb dX9_notLength_20 (by decide) ?_
      exact z_iret hx hb hr hlocks hP hD hS ⟨Nat.le_of_ble_eq_true rfl, Nat.le_of_ble_eq_true rfl⟩ dX9_notLength_24 (⟨congrArg (fun z => some (Value.int (zI z))) (by unfold ck_length; (repeat' split) <;> omega), rfl⟩)
  · have hc_5 := hc_5
    refine z_iconst hx hb dX9_notLength_8 ?_
    refine lv_goto (tgt := 24) hx hb dX9_notLength_9 (by decide) ?_
    exact z_iret hx hb hr hlocks hP hD hS ⟨Nat.le_of_ble_eq_true rfl, Nat.le_of_ble_eq_true rfl⟩ dX9_notLength_24 (⟨congrArg (fun z => some (Value.int (zI z))) (by unfold ck_length; (repeat' split) <;> omega), rfl⟩)
theorem k_X9_isShelf : yX9_isShelf.cls ≠ "java/lang/invoke/MethodHandle" ∧ yX9_isShelf.cls ≠ "java/lang/invoke/VarHandle" ∧ (parseMethodDescriptor yX9_isShelf.desc).map (fun d => d.parameters.length) = some 1 := by decide +kernel
theorem k_X9_isWarmth : yX9_isWarmth.cls ≠ "java/lang/invoke/MethodHandle" ∧ yX9_isWarmth.cls ≠ "java/lang/invoke/VarHandle" ∧ (parseMethodDescriptor yX9_isWarmth.desc).map (fun d => d.parameters.length) = some 1 := by decide +kernel
set_option maxHeartbeats 4000000 in
set_option maxRecDepth 100000 in
theorem c_X9_notShelf (l : Launch) (D : va_G) (ct ad : Nat → Nat) (k v : Int) (h1 : -2147483648 ≤ k ∧ k ≤ 2147483647) (h2 : -2147483648 ≤ v ∧ v ≤ 2147483647) : ZM l yX9_notShelf wsX9_notShelf ({ frames := 2, cells := 0, slots := 0, locals := 42 } : Room) D ct ad [.int (zI k), .int (zI v)] ([]) (zD (some (.int (zI (ck_warm k v)))) ([])) := by
  refine ZM.of (cc := cX9_notShelf) (maxL := 2) (ret := (some .int)) (by decide +kernel) rfl (Nat.le_of_ble_eq_true rfl) ?_
  intro p e s m below meth c A ls hx hb hr hts hown hlocks hml hname hE hP hD hA hS hl
  have hK := hE.1
  have hl : lv_has ls 2 [(0, .int (zI k)), (1, .int (zI v))] := hl
  refine lv_iload_n hx hb dX9_notShelf_0 rfl (lv_at hl 0 rfl) ?_
  refine z_callS (As := [.int (zI k)]) (rest := []) ([] : va_W) ([] : va_W) hx hb hml hown hts hl hE hS hA hP hD (c_X9_isShelf l D ct ad k (by omega)) gX9_notShelf_X9_isShelf rfl k_X9_isShelf ⟨Nat.le_of_ble_eq_true rfl, Nat.le_of_ble_eq_true rfl⟩ rfl (Nat.le_of_ble_eq_true rfl) ⟨Nat.le_of_ble_eq_true rfl, Nat.le_of_ble_eq_true rfl⟩ dX9_notShelf_1 rfl (fun v w1 H locs hpost hP hD hS => ?_)
  obtain ⟨rfl, rfl⟩ := hpost
  have hP : va_P D vwCl ([]) H := hP
  have hD : va_D A ([]) := hD
  refine W.eq (g2 := F0 m 4 ls [.int (zI (zB (0 ≤ k ∧ k ≤ 4)))]) rfl ?_
  refine zb_if_ne (tgt := 11) hx hb dX9_notShelf_4 (by decide) (fun hc_4 => ?_) (fun hc_4 => ?_)
  · have hc_4 := hc_4
    refine lv_iload_n hx hb dX9_notShelf_11 rfl (lv_at hl 1 rfl) ?_
    refine z_callS (As := [.int (zI v)]) (rest := []) ([] : va_W) ([] : va_W) hx hb hml hown hts hl hE hS hA hP hD (c_X9_isWarmth l D ct ad v (by omega)) gX9_notShelf_X9_isWarmth rfl k_X9_isWarmth ⟨Nat.le_of_ble_eq_true rfl, Nat.le_of_ble_eq_true rfl⟩ rfl (Nat.le_of_ble_eq_true rfl) ⟨Nat.le_of_ble_eq_true rfl, Nat.le_of_ble_eq_true rfl⟩ dX9_notShelf_12 rfl (fun v w1 H locs hpost hP hD hS => ?_)
    obtain ⟨rfl, rfl⟩ := hpost
    have hP : va_P D vwCl ([]) H := hP
    have hD : va_D A ([]) := hD
    refine W.eq (g2 := F0 m 15 ls [.int (zI (zB (-300 ≤ v ∧ v ≤ 600)))]) rfl ?_
    refine zb_if_eq (tgt := 22) hx hb dX9_notShelf_15 (by decide) (fun hc_15 => ?_) (fun hc_15 => ?_)
    · have hc_15 := hc_15
      refine z_iconst hx hb dX9_notShelf_22 ?_
      exact z_iret hx hb hr hlocks hP hD hS ⟨Nat.le_of_ble_eq_true rfl, Nat.le_of_ble_eq_true rfl⟩ dX9_notShelf_23 (⟨congrArg (fun z => some (Value.int (zI z))) (by unfold ck_warm; (repeat' split) <;> omega), rfl⟩)
    · have hc_15 := hc_15
      refine z_iconst hx hb dX9_notShelf_18 ?_
      refine lv_goto (tgt := 23) hx hb dX9_notShelf_19 (by decide) ?_
      exact z_iret hx hb hr hlocks hP hD hS ⟨Nat.le_of_ble_eq_true rfl, Nat.le_of_ble_eq_true rfl⟩ dX9_notShelf_23 (⟨congrArg (fun z => some (Value.int (zI z))) (by unfold ck_warm; (repeat' split) <;> omega), rfl⟩)
  · have hc_4 := hc_4
    refine z_iconst hx hb dX9_notShelf_7 ?_
    refine lv_goto (tgt := 23) hx hb dX9_notShelf_8 (by decide) ?_
    exact z_iret hx hb hr hlocks hP hD hS ⟨Nat.le_of_ble_eq_true rfl, Nat.le_of_ble_eq_true rfl⟩ dX9_notShelf_23 (⟨congrArg (fun z => some (Value.int (zI z))) (by unfold ck_warm; (repeat' split) <;> omega), rfl⟩)
set_option maxHeartbeats 4000000 in
set_option maxRecDepth 100000 in
theorem c_X9_notHang (l : Launch) (D : va_G) (ct ad : Nat → Nat) (k : Int) (h1 : -2147483648 ≤ k ∧ k ≤ 2147483647) : ZM l yX9_notHang wsX9_notHang ({ frames := 2, cells := 0, slots := 0, locals := 42 } : Room) D ct ad [.int (zI k)] ([]) (zD (some (.int (zI (ck_shelf k)))) ([])) := by
  refine ZM.of (cc := cX9_notHang) (maxL := 1) (ret := (some .int)) (by decide +kernel) rfl (Nat.le_of_ble_eq_true rfl) ?_
  intro p e s m below meth c A ls hx hb hr hts hown hlocks hml hname hE hP hD hA hS hl
  have hK := hE.1
  have hl : lv_has ls 1 [(0, .int (zI k))] := hl
  refine lv_iload_n hx hb dX9_notHang_0 rfl (lv_at hl 0 rfl) ?_
  refine z_callS (As := [.int (zI k)]) (rest := []) ([] : va_W) ([] : va_W) hx hb hml hown hts hl hE hS hA hP hD (c_X9_isShelf l D ct ad k (by omega)) gX9_notHang_X9_isShelf rfl k_X9_isShelf ⟨Nat.le_of_ble_eq_true rfl, Nat.le_of_ble_eq_true rfl⟩ rfl (Nat.le_of_ble_eq_true rfl) ⟨Nat.le_of_ble_eq_true rfl, Nat.le_of_ble_eq_true rfl⟩ dX9_notHang_1 rfl (fun v w1 H locs hpost hP hD hS => ?_)
  obtain ⟨rfl, rfl⟩ := hpost
  have hP : va_P D vwCl ([]) H := hP
  have hD : va_D A ([]) := hD
  refine W.eq (g2 := F0 m 4 ls [.int (zI (zB (0 ≤ k ∧ k ≤ 4)))]) rfl ?_
  refine zb_if_eq (tgt := 11) hx hb dX9_notHang_4 (by decide) (fun hc_4 => ?_) (fun hc_4 => ?_)
  · have hc_4 := hc_4
    refine z_iconst hx hb dX9_notHang_11 ?_
    exact z_iret hx hb hr hlocks hP hD hS ⟨Nat.le_of_ble_eq_true rfl, Nat.le_of_ble_eq_true rfl⟩ dX9_notHang_12 (⟨congrArg (fun z => some (Value.int (zI z))) (by unfold ck_shelf; (repeat' split) <;> omega), rfl⟩)
  · have hc_4 := hc_4
    refine z_iconst hx hb dX9_notHang_7 ?_
    refine lv_goto (tgt := 12) hx hb dX9_notHang_8 (by decide) ?_
    exact z_iret hx hb hr hlocks hP hD hS ⟨Nat.le_of_ble_eq_true rfl, Nat.le_of_ble_eq_true rfl⟩ dX9_notHang_12 (⟨congrArg (fun z => some (Value.int (zI z))) (by unfold ck_shelf; (repeat' split) <;> omega), rfl⟩)
set_option maxHeartbeats 4000000 in
set_option maxRecDepth 100000 in
theorem c_X9_notTurn (l : Launch) (D : va_G) (ct ad : Nat → Nat) (b : Nat → Nat) (M SP SV TX NB : Int → Int) (sc tl cd pl cm h : Int) (v : Int) (hI : gInv M) (hB : bInv M) (h1 : -2147483648 ≤ v ∧ v ≤ 2147483647) : ZM l yX9_notTurn wsX9_notTurn ({ frames := 1, cells := 0, slots := 0, locals := 22 } : Room) D ct ad [.ref (b 0), .int (zI v)] (moW b sc tl cd pl cm h ++ (jrW ct (b 1) 94 M ++ (jrW ct (b 2) 94 SP ++ (jrW ct (b 3) 376 SV ++ (irW ct (b 4) 150 TX ++ (irW ct (b 5) 2 NB)))))) (zD (some (.int (zI (ck1 (ck_turn M v))))) (moW b sc tl cd pl cm h ++ (jrW ct (b 1) 94 M ++ (jrW ct (b 2) 94 SP ++ (jrW ct (b 3) 376 SV ++ (irW ct (b 4) 150 TX ++ (irW ct (b 5) 2 NB))))))) := by
  refine ZM.of (cc := cX9_notTurn) (maxL := 2) (ret := (some .int)) (by decide +kernel) rfl (Nat.le_of_ble_eq_true rfl) ?_
  intro p e s m below meth c A ls hx hb hr hts hown hlocks hml hname hE hP hD hA hS hl
  have hK := hE.1
  have hl : lv_has ls 2 [(0, .ref (b 0)), (1, .int (zI v))] := hl
  have i3 := hI.1
  have i4 := hI.2.1
  have j0 := hB.1
  have j1 := hB.2.1
  have j2 := hB.2.2.1
  have j4 := hB.2.2.2.2
  refine lv_iload_n hx hb dX9_notTurn_0 rfl (lv_at hl 1 rfl) ?_
  refine z_sipush hx hb dX9_notTurn_1 (by decide) ?_
  refine z_sipush hx hb dX9_notTurn_4 (by decide) ?_
  refine z_callS (As := [.int (zI v), .int (zI (-1000)), .int (zI 1000)]) (rest := []) ([] : va_W) (moW b sc tl cd pl cm h ++ (jrW ct (b 1) 94 M ++ (jrW ct (b 2) 94 SP ++ (jrW ct (b 3) 376 SV ++ (irW ct (b 4) 150 TX ++ (irW ct (b 5) 2 NB)))))) hx hb hml hown hts hl hE hS hA hP hD (c_X9_in l D ct ad v (-1000) 1000 (by omega) (by omega) (by omega)) gX9_notTurn_X9_in rfl k_X9_in ⟨Nat.le_of_ble_eq_true rfl, Nat.le_of_ble_eq_true rfl⟩ rfl (Nat.le_of_ble_eq_true rfl) ⟨Nat.le_of_ble_eq_true rfl, Nat.le_of_ble_eq_true rfl⟩ dX9_notTurn_7 rfl (fun v w1 H locs hpost hP hD hS => ?_)
  obtain ⟨rfl, rfl⟩ := hpost
  have hP : va_P D vwCl (moW b sc tl cd pl cm h ++ (jrW ct (b 1) 94 M ++ (jrW ct (b 2) 94 SP ++ (jrW ct (b 3) 376 SV ++ (irW ct (b 4) 150 TX ++ (irW ct (b 5) 2 NB)))))) H := hP
  have hD : va_D A (moW b sc tl cd pl cm h ++ (jrW ct (b 1) 94 M ++ (jrW ct (b 2) 94 SP ++ (jrW ct (b 3) 376 SV ++ (irW ct (b 4) 150 TX ++ (irW ct (b 5) 2 NB)))))) := hD
  refine W.eq (g2 := F0 m 10 ls [.int (zI (zB ((-1000) ≤ v ∧ v ≤ 1000)))]) rfl ?_
  refine zb_if_ne (tgt := 17) hx hb dX9_notTurn_10 (by decide) (fun hc_10 => ?_) (fun hc_10 => ?_)
  · have hc_10 := hc_10
    refine lv_aload_n hx hb dX9_notTurn_17 rfl (lv_at hl 0 rfl) ?_
    refine z_bipush hx hb dX9_notTurn_18 (by decide) ?_
    refine z_callV (C := RX9) (q0 := 0) (ci := 7) (As := [.int (zI 7)]) (rest := []) ([] : va_W) ([] : va_W) hx hb hml hown hts hl hE hS hA (zr0 ([] : va_W) hP) (zr0D ([] : va_W) hD) (c_X9_of l D ct ad b M SP SV TX NB sc tl cd pl cm h 7 (by omega)) gX9_notTurn_X9_of rfl rfl k_X9_of ⟨Nat.le_of_ble_eq_true rfl, Nat.le_of_ble_eq_true rfl⟩ rfl rfl rfl rfl (Nat.le_of_ble_eq_true rfl) ⟨Nat.le_of_ble_eq_true rfl, Nat.le_of_ble_eq_true rfl⟩ dX9_notTurn_20 rfl (fun v w1 H locs hpost hP hD hS => ?_)
    obtain ⟨rfl, rfl⟩ := hpost
    have hP := zr0' hP
    have hD := zr0D' hD
    have hP : va_P D vwCl (moW b sc tl cd pl cm h ++ (jrW ct (b 1) 94 M ++ (jrW ct (b 2) 94 SP ++ (jrW ct (b 3) 376 SV ++ (irW ct (b 4) 150 TX ++ (irW ct (b 5) 2 NB)))))) H := hP
    have hD : va_D A (moW b sc tl cd pl cm h ++ (jrW ct (b 1) 94 M ++ (jrW ct (b 2) 94 SP ++ (jrW ct (b 3) 376 SV ++ (irW ct (b 4) 150 TX ++ (irW ct (b 5) 2 NB)))))) := hD
    refine W.eq (g2 := F0 m 23 ls [.int (zI (M 7))]) rfl ?_
    refine lv_iload_n hx hb dX9_notTurn_23 rfl (lv_at hl 1 rfl) ?_
    refine z_iadd hx hb dX9_notTurn_24 ?_
    refine z_sipush hx hb dX9_notTurn_25 (by decide) ?_
    refine z_sipush hx hb dX9_notTurn_28 (by decide) ?_
    refine z_callS (As := [.int (zI ((M 7) + v)), .int (zI (-500)), .int (zI 500)]) (rest := []) ([] : va_W) (moW b sc tl cd pl cm h ++ (jrW ct (b 1) 94 M ++ (jrW ct (b 2) 94 SP ++ (jrW ct (b 3) 376 SV ++ (irW ct (b 4) 150 TX ++ (irW ct (b 5) 2 NB)))))) hx hb hml hown hts hl hE hS hA hP hD (c_X9_in l D ct ad ((M 7) + v) (-500) 500 (by omega) (by omega) (by omega)) gX9_notTurn_X9_in rfl k_X9_in ⟨Nat.le_of_ble_eq_true rfl, Nat.le_of_ble_eq_true rfl⟩ rfl (Nat.le_of_ble_eq_true rfl) ⟨Nat.le_of_ble_eq_true rfl, Nat.le_of_ble_eq_true rfl⟩ dX9_notTurn_31 rfl (fun v w1 H locs hpost hP hD hS => ?_)
    obtain ⟨rfl, rfl⟩ := hpost
    have hP : va_P D vwCl (moW b sc tl cd pl cm h ++ (jrW ct (b 1) 94 M ++ (jrW ct (b 2) 94 SP ++ (jrW ct (b 3) 376 SV ++ (irW ct (b 4) 150 TX ++ (irW ct (b 5) 2 NB)))))) H := hP
    have hD : va_D A (moW b sc tl cd pl cm h ++ (jrW ct (b 1) 94 M ++ (jrW ct (b 2) 94 SP ++ (jrW ct (b 3) 376 SV ++ (irW ct (b 4) 150 TX ++ (irW ct (b 5) 2 NB)))))) := hD
    refine W.eq (g2 := F0 m 34 ls [.int (zI (zB ((-500) ≤ ((M 7) + v) ∧ ((M 7) + v) ≤ 500)))]) rfl ?_
    refine zb_if_eq (tgt := 41) hx hb dX9_notTurn_34 (by decide) (fun hc_34 => ?_) (fun hc_34 => ?_)
    · have hc_34 := hc_34
      refine z_iconst hx hb dX9_notTurn_41 ?_
      exact z_iret hx hb hr hlocks hP hD hS ⟨Nat.le_of_ble_eq_true rfl, Nat.le_of_ble_eq_true rfl⟩ dX9_notTurn_42 (⟨congrArg (fun z => some (Value.int (zI z))) (by unfold ck1 ck_turn; (repeat' split) <;> omega), rfl⟩)
    · have hc_34 := hc_34
      refine z_iconst hx hb dX9_notTurn_37 ?_
      refine lv_goto (tgt := 42) hx hb dX9_notTurn_38 (by decide) ?_
      exact z_iret hx hb hr hlocks hP hD hS ⟨Nat.le_of_ble_eq_true rfl, Nat.le_of_ble_eq_true rfl⟩ dX9_notTurn_42 (⟨congrArg (fun z => some (Value.int (zI z))) (by unfold ck1 ck_turn; (repeat' split) <;> omega), rfl⟩)
  · have hc_10 := hc_10
    refine z_iconst hx hb dX9_notTurn_13 ?_
    refine lv_goto (tgt := 42) hx hb dX9_notTurn_14 (by decide) ?_
    exact z_iret hx hb hr hlocks hP hD hS ⟨Nat.le_of_ble_eq_true rfl, Nat.le_of_ble_eq_true rfl⟩ dX9_notTurn_42 (⟨congrArg (fun z => some (Value.int (zI z))) (by unfold ck1 ck_turn; (repeat' split) <;> omega), rfl⟩)
set_option maxHeartbeats 4000000 in
set_option maxRecDepth 100000 in
theorem c_X9_notSet (l : Launch) (D : va_G) (ct ad : Nat → Nat) (w v : Int) (h1 : -2147483648 ≤ w ∧ w ≤ 2147483647) (h2 : -2147483648 ≤ v ∧ v ≤ 2147483647) : ZM l yX9_notSet wsX9_notSet ({ frames := 1, cells := 0, slots := 0, locals := 22 } : Room) D ct ad [.int (zI w), .int (zI v)] ([]) (zD (some (.int (zI (ck1 (ck_set w v))))) ([])) := by
  refine ZM.of (cc := cX9_notSet) (maxL := 2) (ret := (some .int)) (by decide +kernel) rfl (Nat.le_of_ble_eq_true rfl) ?_
  intro p e s m below meth c A ls hx hb hr hts hown hlocks hml hname hE hP hD hA hS hl
  have hK := hE.1
  have hf_0 := hts (.constant RX9 116 (100000)) (by decide +kernel)
  have hf_1 := hts (.constant RX9 117 (2000000)) (by decide +kernel)
  have hl : lv_has ls 2 [(0, .int (zI w)), (1, .int (zI v))] := hl
  refine lv_iload_n hx hb dX9_notSet_0 rfl (lv_at hl 0 rfl) ?_
  rcases (show w = 0 ∨ w = 1 ∨ (w ≠ 0 ∧ w ≠ 1) from (by omega)) with hc_1 | hc_1 | hc_1
  · refine lv_lookup (off := 27) (tgt := 28) hx hb dX9_notSet_1 (by decide) (by rw [zI_toInt (by omega), hc_1]; decide) (by decide) ?_
    refine lv_iload_n hx hb dX9_notSet_28 rfl (lv_at hl 1 rfl) ?_
    refine z_ldc hx hb 100000 hown hf_0 (by decide) dX9_notSet_29 ?_
    refine z_ldc hx hb 2000000 hown hf_1 (by decide) dX9_notSet_31 ?_
    refine z_callS (As := [.int (zI v), .int (zI 100000), .int (zI 2000000)]) (rest := []) ([] : va_W) ([] : va_W) hx hb hml hown hts hl hE hS hA hP hD (c_X9_in l D ct ad v 100000 2000000 (by omega) (by omega) (by omega)) gX9_notSet_X9_in rfl k_X9_in ⟨Nat.le_of_ble_eq_true rfl, Nat.le_of_ble_eq_true rfl⟩ rfl (Nat.le_of_ble_eq_true rfl) ⟨Nat.le_of_ble_eq_true rfl, Nat.le_of_ble_eq_true rfl⟩ dX9_notSet_33 rfl (fun v w1 H locs hpost hP hD hS => ?_)
    obtain ⟨rfl, rfl⟩ := hpost
    have hP : va_P D vwCl ([]) H := hP
    have hD : va_D A ([]) := hD
    refine W.eq (g2 := F0 m 36 ls [.int (zI (zB (100000 ≤ v ∧ v ≤ 2000000)))]) rfl ?_
    refine zb_if_eq (tgt := 43) hx hb dX9_notSet_36 (by decide) (fun hc_36 => ?_) (fun hc_36 => ?_)
    · have hc_36 := hc_36
      refine z_iconst hx hb dX9_notSet_43 ?_
      exact z_iret hx hb hr hlocks hP hD hS ⟨Nat.le_of_ble_eq_true rfl, Nat.le_of_ble_eq_true rfl⟩ dX9_notSet_44 (⟨congrArg (fun z => some (Value.int (zI z))) (by unfold ck1 ck_set; (repeat' split) <;> omega), rfl⟩)
    · have hc_36 := hc_36
      refine z_iconst hx hb dX9_notSet_39 ?_
      refine lv_goto (tgt := 44) hx hb dX9_notSet_40 (by decide) ?_
      exact z_iret hx hb hr hlocks hP hD hS ⟨Nat.le_of_ble_eq_true rfl, Nat.le_of_ble_eq_true rfl⟩ dX9_notSet_44 (⟨congrArg (fun z => some (Value.int (zI z))) (by unfold ck1 ck_set; (repeat' split) <;> omega), rfl⟩)
  · refine lv_lookup (off := 44) (tgt := 45) hx hb dX9_notSet_1 (by decide) (by rw [zI_toInt (by omega), hc_1]; decide) (by decide) ?_
    refine lv_iload_n hx hb dX9_notSet_45 rfl (lv_at hl 1 rfl) ?_
    refine z_iconst hx hb dX9_notSet_46 ?_
    refine z_bipush hx hb dX9_notSet_47 (by decide) ?_
    refine z_callS (As := [.int (zI v), .int (zI 1), .int (zI 24)]) (rest := []) ([] : va_W) ([] : va_W) hx hb hml hown hts hl hE hS hA hP hD (c_X9_in l D ct ad v 1 24 (by omega) (by omega) (by omega)) gX9_notSet_X9_in rfl k_X9_in ⟨Nat.le_of_ble_eq_true rfl, Nat.le_of_ble_eq_true rfl⟩ rfl (Nat.le_of_ble_eq_true rfl) ⟨Nat.le_of_ble_eq_true rfl, Nat.le_of_ble_eq_true rfl⟩ dX9_notSet_49 rfl (fun v w1 H locs hpost hP hD hS => ?_)
    obtain ⟨rfl, rfl⟩ := hpost
    have hP : va_P D vwCl ([]) H := hP
    have hD : va_D A ([]) := hD
    refine W.eq (g2 := F0 m 52 ls [.int (zI (zB (1 ≤ v ∧ v ≤ 24)))]) rfl ?_
    refine zb_if_eq (tgt := 59) hx hb dX9_notSet_52 (by decide) (fun hc_52 => ?_) (fun hc_52 => ?_)
    · have hc_52 := hc_52
      refine z_iconst hx hb dX9_notSet_59 ?_
      exact z_iret hx hb hr hlocks hP hD hS ⟨Nat.le_of_ble_eq_true rfl, Nat.le_of_ble_eq_true rfl⟩ dX9_notSet_60 (⟨congrArg (fun z => some (Value.int (zI z))) (by unfold ck1 ck_set; (repeat' split) <;> omega), rfl⟩)
    · have hc_52 := hc_52
      refine z_iconst hx hb dX9_notSet_55 ?_
      refine lv_goto (tgt := 60) hx hb dX9_notSet_56 (by decide) ?_
      exact z_iret hx hb hr hlocks hP hD hS ⟨Nat.le_of_ble_eq_true rfl, Nat.le_of_ble_eq_true rfl⟩ dX9_notSet_60 (⟨congrArg (fun z => some (Value.int (zI z))) (by unfold ck1 ck_set; (repeat' split) <;> omega), rfl⟩)
  · refine lv_lookup (off := 60) (tgt := 61) hx hb dX9_notSet_1 (by decide) (by rw [zI_toInt (by omega)]; show Op.lookupswitch.offset [(0, 27), (1, 44)] _ _ = _; rw [Op.lookupswitch.offset_cons, if_neg (by omega)]; rw [Op.lookupswitch.offset_cons, if_neg (by omega)]; rfl) (by decide) ?_
    refine lv_iload_n hx hb dX9_notSet_61 rfl (lv_at hl 0 rfl) ?_
    refine z_iconst hx hb dX9_notSet_62 ?_
    refine z_icmp_ne (tgt := 80) hx hb dX9_notSet_63 (by decide) (by omega) (by omega) (fun hc_63 => ?_) (fun hc_63 => ?_)
    · have hc_63 := hc_63
      refine z_iconst hx hb dX9_notSet_80 ?_
      exact z_iret hx hb hr hlocks hP hD hS ⟨Nat.le_of_ble_eq_true rfl, Nat.le_of_ble_eq_true rfl⟩ dX9_notSet_81 (⟨congrArg (fun z => some (Value.int (zI z))) (by unfold ck1 ck_set; (repeat' split) <;> omega), rfl⟩)
    · have hc_63 := hc_63
      refine lv_iload_n hx hb dX9_notSet_66 rfl (lv_at hl 1 rfl) ?_
      refine z_iconst hx hb dX9_notSet_67 ?_
      refine z_bipush hx hb dX9_notSet_68 (by decide) ?_
      refine z_callS (As := [.int (zI v), .int (zI 0), .int (zI 100)]) (rest := []) ([] : va_W) ([] : va_W) hx hb hml hown hts hl hE hS hA hP hD (c_X9_in l D ct ad v 0 100 (by omega) (by omega) (by omega)) gX9_notSet_X9_in rfl k_X9_in ⟨Nat.le_of_ble_eq_true rfl, Nat.le_of_ble_eq_true rfl⟩ rfl (Nat.le_of_ble_eq_true rfl) ⟨Nat.le_of_ble_eq_true rfl, Nat.le_of_ble_eq_true rfl⟩ dX9_notSet_70 rfl (fun v w1 H locs hpost hP hD hS => ?_)
      obtain ⟨rfl, rfl⟩ := hpost
      have hP : va_P D vwCl ([]) H := hP
      have hD : va_D A ([]) := hD
      refine W.eq (g2 := F0 m 73 ls [.int (zI (zB (0 ≤ v ∧ v ≤ 100)))]) rfl ?_
      refine zb_if_eq (tgt := 80) hx hb dX9_notSet_73 (by decide) (fun hc_73 => ?_) (fun hc_73 => ?_)
      · have hc_73 := hc_73
        refine z_iconst hx hb dX9_notSet_80 ?_
        exact z_iret hx hb hr hlocks hP hD hS ⟨Nat.le_of_ble_eq_true rfl, Nat.le_of_ble_eq_true rfl⟩ dX9_notSet_81 (⟨congrArg (fun z => some (Value.int (zI z))) (by unfold ck1 ck_set; (repeat' split) <;> omega), rfl⟩)
      · have hc_73 := hc_73
        refine z_iconst hx hb dX9_notSet_76 ?_
        refine lv_goto (tgt := 81) hx hb dX9_notSet_77 (by decide) ?_
        exact z_iret hx hb hr hlocks hP hD hS ⟨Nat.le_of_ble_eq_true rfl, Nat.le_of_ble_eq_true rfl⟩ dX9_notSet_81 (⟨congrArg (fun z => some (Value.int (zI z))) (by unfold ck1 ck_set; (repeat' split) <;> omega), rfl⟩)
set_option maxHeartbeats 4000000 in
set_option maxRecDepth 100000 in
theorem c_X9_notPass (l : Launch) (D : va_G) (ct ad : Nat → Nat) (b : Nat → Nat) (M SP SV TX NB : Int → Int) (sc tl cd pl cm h : Int) (n : Int) (hI : gInv M) (hB : bInv M) (h1 : -2147483648 ≤ n ∧ n ≤ 2147483647) : ZM l yX9_notPass wsX9_notPass ({ frames := 1, cells := 0, slots := 0, locals := 22 } : Room) D ct ad [.ref (b 0), .int (zI n)] (moW b sc tl cd pl cm h ++ (jrW ct (b 1) 94 M ++ (jrW ct (b 2) 94 SP ++ (jrW ct (b 3) 376 SV ++ (irW ct (b 4) 150 TX ++ (irW ct (b 5) 2 NB)))))) (zD (some (.int (zI (ck1 (ck_hours M n))))) (moW b sc tl cd pl cm h ++ (jrW ct (b 1) 94 M ++ (jrW ct (b 2) 94 SP ++ (jrW ct (b 3) 376 SV ++ (irW ct (b 4) 150 TX ++ (irW ct (b 5) 2 NB))))))) := by
  refine ZM.of (cc := cX9_notPass) (maxL := 2) (ret := (some .int)) (by decide +kernel) rfl (Nat.le_of_ble_eq_true rfl) ?_
  intro p e s m below meth c A ls hx hb hr hts hown hlocks hml hname hE hP hD hA hS hl
  have hK := hE.1
  have hf_0 := hts (.fieldLink RX9 7 "RodGridsModel" "m" "[J") (by decide +kernel)
  have hf_1 := hts (.constantLong RX9 179 (100000)) (by decide +kernel)
  have hin_X9 : ∀ z ∈ u_ws RX9 TX9 11, z ∈ wsX9_notPass := by decide +kernel
  have hl : lv_has ls 2 [(0, .ref (b 0)), (1, .int (zI n))] := hl
  have i3 := hI.1
  have i4 := hI.2.1
  have j0 := hB.1
  have j1 := hB.2.1
  have j2 := hB.2.2.1
  have j4 := hB.2.2.2.2
  refine lv_iload_n hx hb dX9_notPass_0 rfl (lv_at hl 1 rfl) ?_
  refine z_iconst hx hb dX9_notPass_1 ?_
  refine z_sipush hx hb dX9_notPass_2 (by decide) ?_
  refine z_callS (As := [.int (zI n), .int (zI 1), .int (zI 500)]) (rest := []) ([] : va_W) (moW b sc tl cd pl cm h ++ (jrW ct (b 1) 94 M ++ (jrW ct (b 2) 94 SP ++ (jrW ct (b 3) 376 SV ++ (irW ct (b 4) 150 TX ++ (irW ct (b 5) 2 NB)))))) hx hb hml hown hts hl hE hS hA hP hD (c_X9_in l D ct ad n 1 500 (by omega) (by omega) (by omega)) gX9_notPass_X9_in rfl k_X9_in ⟨Nat.le_of_ble_eq_true rfl, Nat.le_of_ble_eq_true rfl⟩ rfl (Nat.le_of_ble_eq_true rfl) ⟨Nat.le_of_ble_eq_true rfl, Nat.le_of_ble_eq_true rfl⟩ dX9_notPass_5 rfl (fun v w1 H locs hpost hP hD hS => ?_)
  obtain ⟨rfl, rfl⟩ := hpost
  have hP : va_P D vwCl (moW b sc tl cd pl cm h ++ (jrW ct (b 1) 94 M ++ (jrW ct (b 2) 94 SP ++ (jrW ct (b 3) 376 SV ++ (irW ct (b 4) 150 TX ++ (irW ct (b 5) 2 NB)))))) H := hP
  have hD : va_D A (moW b sc tl cd pl cm h ++ (jrW ct (b 1) 94 M ++ (jrW ct (b 2) 94 SP ++ (jrW ct (b 3) 376 SV ++ (irW ct (b 4) 150 TX ++ (irW ct (b 5) 2 NB)))))) := hD
  refine W.eq (g2 := F0 m 8 ls [.int (zI (zB (1 ≤ n ∧ n ≤ 500)))]) rfl ?_
  refine zb_if_ne (tgt := 15) hx hb dX9_notPass_8 (by decide) (fun hc_8 => ?_) (fun hc_8 => ?_)
  · have hc_8 := hc_8
    refine lv_aload_n hx hb dX9_notPass_15 rfl (lv_at hl 0 rfl) ?_
    refine va_get (D := D) (ci := 7) (v := .ref (b 1)) (C := RX9) (T := TX9) (N := 11) hx hb hts hin_X9 hown hK hP 0 rfl rfl 0 (by decide) hf_0 (fun _ h9 => h9) rfl dX9_notPass_16 ?_
    refine z_bipush hx hb dX9_notPass_19 (by decide) ?_
    refine z_lald (g := M) (v := M 9) hx hb hK hP 1 rfl (by decide) (by omega) rfl dX9_notPass_21 ?_
    refine lv_iload_n hx hb dX9_notPass_22 rfl (lv_at hl 1 rfl) ?_
    refine z_i2l hx hb dX9_notPass_23 (by omega) ?_
    refine z_ladd hx hb dX9_notPass_24 ?_
    refine z_ldc2 hx hb 100000 hown hf_1 (by decide) dX9_notPass_25 ?_
    refine z_lcmp_le (tgt := 36) hx hb dX9_notPass_28 dX9_notPass_29 (by decide) (by omega) (by omega) (fun hc_28 => ?_) (fun hc_28 => ?_)
    · have hc_28 := hc_28
      refine z_iconst hx hb dX9_notPass_36 ?_
      exact z_iret hx hb hr hlocks hP hD hS ⟨Nat.le_of_ble_eq_true rfl, Nat.le_of_ble_eq_true rfl⟩ dX9_notPass_37 (⟨congrArg (fun z => some (Value.int (zI z))) (by unfold ck1 ck_hours; (repeat' split) <;> omega), rfl⟩)
    · have hc_28 := hc_28
      refine z_iconst hx hb dX9_notPass_32 ?_
      refine lv_goto (tgt := 37) hx hb dX9_notPass_33 (by decide) ?_
      exact z_iret hx hb hr hlocks hP hD hS ⟨Nat.le_of_ble_eq_true rfl, Nat.le_of_ble_eq_true rfl⟩ dX9_notPass_37 (⟨congrArg (fun z => some (Value.int (zI z))) (by unfold ck1 ck_hours; (repeat' split) <;> omega), rfl⟩)
  · have hc_8 := hc_8
    refine z_iconst hx hb dX9_notPass_11 ?_
    refine lv_goto (tgt := 37) hx hb dX9_notPass_12 (by decide) ?_
    exact z_iret hx hb hr hlocks hP hD hS ⟨Nat.le_of_ble_eq_true rfl, Nat.le_of_ble_eq_true rfl⟩ dX9_notPass_37 (⟨congrArg (fun z => some (Value.int (zI z))) (by unfold ck1 ck_hours; (repeat' split) <;> omega), rfl⟩)
set_option maxHeartbeats 4000000 in
set_option maxRecDepth 100000 in
theorem c_X9_addsMetal (l : Launch) (D : va_G) (ct ad : Nat → Nat) (b : Nat → Nat) (M SP SV TX NB : Int → Int) (sc tl cd pl cm h : Int) (v : Int) (hI : gInv M) (h1 : M 3 < 6) (h2 : -2147483648 ≤ v ∧ v ≤ 2147483647) : ZM l yX9_addsMetal wsX9_addsMetal ({ frames := 1, cells := 0, slots := 0, locals := 21 } : Room) D ct ad [.ref (b 0), .int (zI v)] (moW b sc tl cd pl cm h ++ (jrW ct (b 1) 94 M ++ (jrW ct (b 2) 94 SP ++ (jrW ct (b 3) 376 SV ++ (irW ct (b 4) 150 TX ++ (irW ct (b 5) 2 NB)))))) (zD (some (.int (zI (M 3)))) (moW b sc tl cd pl cm h ++ (jrW ct (b 1) 94 (st_metal M v) ++ (jrW ct (b 2) 94 SP ++ (jrW ct (b 3) 376 SV ++ (irW ct (b 4) 150 TX ++ (irW ct (b 5) 2 NB))))))) := by
  refine ZM.of (cc := cX9_addsMetal) (maxL := 3) (ret := (some .int)) (by decide +kernel) rfl (Nat.le_of_ble_eq_true rfl) ?_
  intro p e s m below meth c A ls hx hb hr hts hown hlocks hml hname hE hP hD hA hS hl
  have hK := hE.1
  have hf_0 := hts (.fieldLink RX9 7 "RodGridsModel" "m" "[J") (by decide +kernel)
  have hin_X9 : ∀ z ∈ u_ws RX9 TX9 11, z ∈ wsX9_addsMetal := by decide +kernel
  have hl : lv_has ls 3 [(0, .ref (b 0)), (1, .int (zI v))] := hl
  have i3 := hI.1
  have i4 := hI.2.1
  refine lv_aload_n hx hb dX9_addsMetal_0 rfl (lv_at hl 0 rfl) ?_
  refine z_iconst hx hb dX9_addsMetal_1 ?_
  refine z_callV (C := RX9) (q0 := 0) (ci := 7) (As := [.int (zI 3)]) (rest := []) ([] : va_W) ([] : va_W) hx hb hml hown hts hl hE hS hA (zr0 ([] : va_W) hP) (zr0D ([] : va_W) hD) (c_X9_of l D ct ad b M SP SV TX NB sc tl cd pl cm h 3 (by omega)) gX9_addsMetal_X9_of rfl rfl k_X9_of ⟨Nat.le_of_ble_eq_true rfl, Nat.le_of_ble_eq_true rfl⟩ rfl rfl rfl rfl (Nat.le_of_ble_eq_true rfl) ⟨Nat.le_of_ble_eq_true rfl, Nat.le_of_ble_eq_true rfl⟩ dX9_addsMetal_2 rfl (fun v w1 H locs hpost hP hD hS => ?_)
  obtain ⟨rfl, rfl⟩ := hpost
  have hP := zr0' hP
  have hD := zr0D' hD
  have hP : va_P D vwCl (moW b sc tl cd pl cm h ++ (jrW ct (b 1) 94 M ++ (jrW ct (b 2) 94 SP ++ (jrW ct (b 3) 376 SV ++ (irW ct (b 4) 150 TX ++ (irW ct (b 5) 2 NB)))))) H := hP
  have hD : va_D A (moW b sc tl cd pl cm h ++ (jrW ct (b 1) 94 M ++ (jrW ct (b 2) 94 SP ++ (jrW ct (b 3) 376 SV ++ (irW ct (b 4) 150 TX ++ (irW ct (b 5) 2 NB)))))) := hD
  refine W.eq (g2 := F0 m 5 ls [.int (zI (M 3))]) rfl ?_
  refine lv_istore_n (lv' := [(2, .int (zI (M 3))), (0, .ref (b 0)), (1, .int (zI v))]) hx hb dX9_addsMetal_5 rfl hl (by decide) rfl (fun ls hl => ?_)
  refine lv_aload_n hx hb dX9_addsMetal_6 rfl (lv_at hl 1 rfl) ?_
  refine va_get (D := D) (ci := 7) (v := .ref (b 1)) (C := RX9) (T := TX9) (N := 11) hx hb hts hin_X9 hown hK hP 0 rfl rfl 0 (by decide) hf_0 (fun _ h9 => h9) rfl dX9_addsMetal_7 ?_
  refine z_bipush hx hb dX9_addsMetal_10 (by decide) ?_
  refine lv_iload_n hx hb dX9_addsMetal_12 rfl (lv_at hl 0 rfl) ?_
  refine z_iadd hx hb dX9_addsMetal_13 ?_
  refine lv_iload_n hx hb dX9_addsMetal_14 rfl (lv_at hl 2 rfl) ?_
  refine z_i2l hx hb dX9_addsMetal_15 (by omega) ?_
  refine z_last (g := M) (w2 := moW b sc tl cd pl cm h ++ (jrW ct (b 1) 94 (up M (16 + (M 3)) v) ++ (jrW ct (b 2) 94 SP ++ (jrW ct (b 3) 376 SV ++ (irW ct (b 4) 150 TX ++ (irW ct (b 5) 2 NB)))))) hx hb hK hP hD hS 1 rfl (by decide) (by omega) dX9_addsMetal_16 (rfl) (fun H locs hP hD hS => ?_)
  refine lv_aload_n hx hb dX9_addsMetal_17 rfl (lv_at hl 1 rfl) ?_
  refine va_get (D := D) (ci := 7) (v := .ref (b 1)) (C := RX9) (T := TX9) (N := 11) hx hb hts hin_X9 hown hK hP 0 rfl rfl 0 (by decide) hf_0 (fun _ h9 => h9) rfl dX9_addsMetal_18 ?_
  refine z_iconst hx hb dX9_addsMetal_21 ?_
  refine lv_dup2_11 hx hb dX9_addsMetal_22 rfl rfl ?_
  refine z_lald (g := up M (16 + (M 3)) v) (v := M 3) hx hb hK hP 1 rfl (by decide) (by omega) (show (up M (16 + (M 3)) v) 3 = M 3 from by rw [up_n (by omega)]) dX9_addsMetal_23 ?_
  refine z_lconst (z := 1) hx hb dX9_addsMetal_24 rfl ?_
  refine z_ladd hx hb dX9_addsMetal_25 ?_
  refine z_last (g := up M (16 + (M 3)) v) (w2 := moW b sc tl cd pl cm h ++ (jrW ct (b 1) 94 (up (up M (16 + (M 3)) v) 3 ((M 3) + 1)) ++ (jrW ct (b 2) 94 SP ++ (jrW ct (b 3) 376 SV ++ (irW ct (b 4) 150 TX ++ (irW ct (b 5) 2 NB)))))) hx hb hK hP hD hS 1 rfl (by decide) (by omega) dX9_addsMetal_26 (rfl) (fun H locs hP hD hS => ?_)
  refine lv_iload_n hx hb dX9_addsMetal_27 rfl (lv_at hl 0 rfl) ?_
  exact z_iret hx hb hr hlocks hP hD hS ⟨Nat.le_of_ble_eq_true rfl, Nat.le_of_ble_eq_true rfl⟩ dX9_addsMetal_28 (⟨congrArg (fun z => some (Value.int (zI z))) (rfl), rfl⟩)
set_option maxHeartbeats 4000000 in
set_option maxRecDepth 100000 in
theorem c_X9_addsRod (l : Launch) (D : va_G) (ct ad : Nat → Nat) (b : Nat → Nat) (M SP SV TX NB : Int → Int) (sc tl cd pl cm h : Int) (k d n : Int) (hI : gInv M) (h1 : M 4 < 9) (h2 : -2147483648 ≤ k ∧ k ≤ 2147483647) (h3 : -2147483648 ≤ d ∧ d ≤ 2147483647) (h4 : -2147483648 ≤ n ∧ n ≤ 2147483647) : ZM l yX9_addsRod wsX9_addsRod ({ frames := 1, cells := 0, slots := 0, locals := 21 } : Room) D ct ad [.ref (b 0), .int (zI k), .int (zI d), .int (zI n)] (moW b sc tl cd pl cm h ++ (jrW ct (b 1) 94 M ++ (jrW ct (b 2) 94 SP ++ (jrW ct (b 3) 376 SV ++ (irW ct (b 4) 150 TX ++ (irW ct (b 5) 2 NB)))))) (zD (some (.int (zI (M 4)))) (moW b sc tl cd pl cm h ++ (jrW ct (b 1) 94 (st_rod M k d n) ++ (jrW ct (b 2) 94 SP ++ (jrW ct (b 3) 376 SV ++ (irW ct (b 4) 150 TX ++ (irW ct (b 5) 2 NB))))))) := by
  refine ZM.of (cc := cX9_addsRod) (maxL := 5) (ret := (some .int)) (by decide +kernel) rfl (Nat.le_of_ble_eq_true rfl) ?_
  intro p e s m below meth c A ls hx hb hr hts hown hlocks hml hname hE hP hD hA hS hl
  have hK := hE.1
  have hf_0 := hts (.fieldLink RX9 7 "RodGridsModel" "m" "[J") (by decide +kernel)
  have hin_X9 : ∀ z ∈ u_ws RX9 TX9 11, z ∈ wsX9_addsRod := by decide +kernel
  have hl : lv_has ls 5 [(0, .ref (b 0)), (1, .int (zI k)), (2, .int (zI d)), (3, .int (zI n))] := hl
  have i3 := hI.1
  have i4 := hI.2.1
  refine lv_aload_n hx hb dX9_addsRod_0 rfl (lv_at hl 0 rfl) ?_
  refine z_iconst hx hb dX9_addsRod_1 ?_
  refine z_callV (C := RX9) (q0 := 0) (ci := 7) (As := [.int (zI 4)]) (rest := []) ([] : va_W) ([] : va_W) hx hb hml hown hts hl hE hS hA (zr0 ([] : va_W) hP) (zr0D ([] : va_W) hD) (c_X9_of l D ct ad b M SP SV TX NB sc tl cd pl cm h 4 (by omega)) gX9_addsRod_X9_of rfl rfl k_X9_of ⟨Nat.le_of_ble_eq_true rfl, Nat.le_of_ble_eq_true rfl⟩ rfl rfl rfl rfl (Nat.le_of_ble_eq_true rfl) ⟨Nat.le_of_ble_eq_true rfl, Nat.le_of_ble_eq_true rfl⟩ dX9_addsRod_2 rfl (fun v w1 H locs hpost hP hD hS => ?_)
  obtain ⟨rfl, rfl⟩ := hpost
  have hP := zr0' hP
  have hD := zr0D' hD
  have hP : va_P D vwCl (moW b sc tl cd pl cm h ++ (jrW ct (b 1) 94 M ++ (jrW ct (b 2) 94 SP ++ (jrW ct (b 3) 376 SV ++ (irW ct (b 4) 150 TX ++ (irW ct (b 5) 2 NB)))))) H := hP
  have hD : va_D A (moW b sc tl cd pl cm h ++ (jrW ct (b 1) 94 M ++ (jrW ct (b 2) 94 SP ++ (jrW ct (b 3) 376 SV ++ (irW ct (b 4) 150 TX ++ (irW ct (b 5) 2 NB)))))) := hD
  refine W.eq (g2 := F0 m 5 ls [.int (zI (M 4))]) rfl ?_
  refine lv_istore (lv' := [(4, .int (zI (M 4))), (0, .ref (b 0)), (1, .int (zI k)), (2, .int (zI d)), (3, .int (zI n))]) hx hb dX9_addsRod_5 hl (by decide) rfl (fun ls hl => ?_)
  refine lv_aload_n hx hb dX9_addsRod_7 rfl (lv_at hl 1 rfl) ?_
  refine va_get (D := D) (ci := 7) (v := .ref (b 1)) (C := RX9) (T := TX9) (N := 11) hx hb hts hin_X9 hown hK hP 0 rfl rfl 0 (by decide) hf_0 (fun _ h9 => h9) rfl dX9_addsRod_8 ?_
  refine z_bipush hx hb dX9_addsRod_11 (by decide) ?_
  refine z_iconst hx hb dX9_addsRod_13 ?_
  refine lv_iload hx hb dX9_addsRod_14 (lv_at hl 0 rfl) ?_
  refine z_imul hx hb dX9_addsRod_16 ?_
  refine z_iadd hx hb dX9_addsRod_17 ?_
  refine lv_iload_n hx hb dX9_addsRod_18 rfl (lv_at hl 2 rfl) ?_
  refine z_i2l hx hb dX9_addsRod_19 (by omega) ?_
  refine z_last (g := M) (w2 := moW b sc tl cd pl cm h ++ (jrW ct (b 1) 94 (up M (22 + (3 * (M 4))) k) ++ (jrW ct (b 2) 94 SP ++ (jrW ct (b 3) 376 SV ++ (irW ct (b 4) 150 TX ++ (irW ct (b 5) 2 NB)))))) hx hb hK hP hD hS 1 rfl (by decide) (by omega) dX9_addsRod_20 (rfl) (fun H locs hP hD hS => ?_)
  refine lv_aload_n hx hb dX9_addsRod_21 rfl (lv_at hl 1 rfl) ?_
  refine va_get (D := D) (ci := 7) (v := .ref (b 1)) (C := RX9) (T := TX9) (N := 11) hx hb hts hin_X9 hown hK hP 0 rfl rfl 0 (by decide) hf_0 (fun _ h9 => h9) rfl dX9_addsRod_22 ?_
  refine z_bipush hx hb dX9_addsRod_25 (by decide) ?_
  refine z_iconst hx hb dX9_addsRod_27 ?_
  refine lv_iload hx hb dX9_addsRod_28 (lv_at hl 0 rfl) ?_
  refine z_imul hx hb dX9_addsRod_30 ?_
  refine z_iadd hx hb dX9_addsRod_31 ?_
  refine z_iconst hx hb dX9_addsRod_32 ?_
  refine z_iadd hx hb dX9_addsRod_33 ?_
  refine z_canI (show (22 + (3 * (M 4))) + 1 = 23 + 3 * (M 4) from (by omega)) ?_
  refine lv_iload_n hx hb dX9_addsRod_34 rfl (lv_at hl 3 rfl) ?_
  refine z_i2l hx hb dX9_addsRod_35 (by omega) ?_
  refine z_last (g := up M (22 + (3 * (M 4))) k) (w2 := moW b sc tl cd pl cm h ++ (jrW ct (b 1) 94 (up (up M (22 + (3 * (M 4))) k) (23 + 3 * (M 4)) d) ++ (jrW ct (b 2) 94 SP ++ (jrW ct (b 3) 376 SV ++ (irW ct (b 4) 150 TX ++ (irW ct (b 5) 2 NB)))))) hx hb hK hP hD hS 1 rfl (by decide) (by omega) dX9_addsRod_36 (rfl) (fun H locs hP hD hS => ?_)
  refine lv_aload_n hx hb dX9_addsRod_37 rfl (lv_at hl 1 rfl) ?_
  refine va_get (D := D) (ci := 7) (v := .ref (b 1)) (C := RX9) (T := TX9) (N := 11) hx hb hts hin_X9 hown hK hP 0 rfl rfl 0 (by decide) hf_0 (fun _ h9 => h9) rfl dX9_addsRod_38 ?_
  refine z_bipush hx hb dX9_addsRod_41 (by decide) ?_
  refine z_iconst hx hb dX9_addsRod_43 ?_
  refine lv_iload hx hb dX9_addsRod_44 (lv_at hl 0 rfl) ?_
  refine z_imul hx hb dX9_addsRod_46 ?_
  refine z_iadd hx hb dX9_addsRod_47 ?_
  refine z_iconst hx hb dX9_addsRod_48 ?_
  refine z_iadd hx hb dX9_addsRod_49 ?_
  refine z_canI (show (22 + (3 * (M 4))) + 2 = 24 + 3 * (M 4) from (by omega)) ?_
  refine lv_iload_n hx hb dX9_addsRod_50 rfl (lv_at hl 4 rfl) ?_
  refine z_i2l hx hb dX9_addsRod_51 (by omega) ?_
  refine z_last (g := up (up M (22 + (3 * (M 4))) k) (23 + 3 * (M 4)) d) (w2 := moW b sc tl cd pl cm h ++ (jrW ct (b 1) 94 (up (up (up M (22 + (3 * (M 4))) k) (23 + 3 * (M 4)) d) (24 + 3 * (M 4)) n) ++ (jrW ct (b 2) 94 SP ++ (jrW ct (b 3) 376 SV ++ (irW ct (b 4) 150 TX ++ (irW ct (b 5) 2 NB)))))) hx hb hK hP hD hS 1 rfl (by decide) (by omega) dX9_addsRod_52 (rfl) (fun H locs hP hD hS => ?_)
  refine lv_aload_n hx hb dX9_addsRod_53 rfl (lv_at hl 1 rfl) ?_
  refine va_get (D := D) (ci := 7) (v := .ref (b 1)) (C := RX9) (T := TX9) (N := 11) hx hb hts hin_X9 hown hK hP 0 rfl rfl 0 (by decide) hf_0 (fun _ h9 => h9) rfl dX9_addsRod_54 ?_
  refine z_iconst hx hb dX9_addsRod_57 ?_
  refine lv_dup2_11 hx hb dX9_addsRod_58 rfl rfl ?_
  refine z_lald (g := up (up (up M (22 + (3 * (M 4))) k) (23 + 3 * (M 4)) d) (24 + 3 * (M 4)) n) (v := M 4) hx hb hK hP 1 rfl (by decide) (by omega) (show (up (up (up M (22 + (3 * (M 4))) k) (23 + 3 * (M 4)) d) (24 + 3 * (M 4)) n) 4 = M 4 from by rw [up_n (by omega), up_n (by omega), up_n (by omega)]) dX9_addsRod_59 ?_
  refine z_lconst (z := 1) hx hb dX9_addsRod_60 rfl ?_
  refine z_ladd hx hb dX9_addsRod_61 ?_
  refine z_last (g := up (up (up M (22 + (3 * (M 4))) k) (23 + 3 * (M 4)) d) (24 + 3 * (M 4)) n) (w2 := moW b sc tl cd pl cm h ++ (jrW ct (b 1) 94 (up (up (up (up M (22 + (3 * (M 4))) k) (23 + 3 * (M 4)) d) (24 + 3 * (M 4)) n) 4 ((M 4) + 1)) ++ (jrW ct (b 2) 94 SP ++ (jrW ct (b 3) 376 SV ++ (irW ct (b 4) 150 TX ++ (irW ct (b 5) 2 NB)))))) hx hb hK hP hD hS 1 rfl (by decide) (by omega) dX9_addsRod_62 (rfl) (fun H locs hP hD hS => ?_)
  refine lv_iload hx hb dX9_addsRod_63 (lv_at hl 0 rfl) ?_
  exact z_iret hx hb hr hlocks hP hD hS ⟨Nat.le_of_ble_eq_true rfl, Nat.le_of_ble_eq_true rfl⟩ dX9_addsRod_65 (⟨congrArg (fun z => some (Value.int (zI z))) (rfl), rfl⟩)
set_option maxHeartbeats 4000000 in
set_option maxRecDepth 100000 in
theorem c_X9_turns (l : Launch) (D : va_G) (ct ad : Nat → Nat) (b : Nat → Nat) (M SP SV TX NB : Int → Int) (sc tl cd pl cm h : Int) (v : Int) (h1 : -2147483648 ≤ v ∧ v ≤ 2147483647) : ZM l yX9_turns wsX9_turns ({ frames := 1, cells := 0, slots := 0, locals := 21 } : Room) D ct ad [.ref (b 0), .int (zI v)] (moW b sc tl cd pl cm h ++ (jrW ct (b 1) 94 M ++ (jrW ct (b 2) 94 SP ++ (jrW ct (b 3) 376 SV ++ (irW ct (b 4) 150 TX ++ (irW ct (b 5) 2 NB)))))) (zD (some (.int (zI (M 7 + v)))) (moW b sc tl cd pl cm h ++ (jrW ct (b 1) 94 (up M 7 (M 7 + v)) ++ (jrW ct (b 2) 94 SP ++ (jrW ct (b 3) 376 SV ++ (irW ct (b 4) 150 TX ++ (irW ct (b 5) 2 NB))))))) := by
  refine ZM.of (cc := cX9_turns) (maxL := 2) (ret := (some .int)) (by decide +kernel) rfl (Nat.le_of_ble_eq_true rfl) ?_
  intro p e s m below meth c A ls hx hb hr hts hown hlocks hml hname hE hP hD hA hS hl
  have hK := hE.1
  have hf_0 := hts (.fieldLink RX9 7 "RodGridsModel" "m" "[J") (by decide +kernel)
  have hin_X9 : ∀ z ∈ u_ws RX9 TX9 11, z ∈ wsX9_turns := by decide +kernel
  have hl : lv_has ls 2 [(0, .ref (b 0)), (1, .int (zI v))] := hl
  refine lv_aload_n hx hb dX9_turns_0 rfl (lv_at hl 0 rfl) ?_
  refine va_get (D := D) (ci := 7) (v := .ref (b 1)) (C := RX9) (T := TX9) (N := 11) hx hb hts hin_X9 hown hK hP 0 rfl rfl 0 (by decide) hf_0 (fun _ h9 => h9) rfl dX9_turns_1 ?_
  refine z_bipush hx hb dX9_turns_4 (by decide) ?_
  refine lv_dup2_11 hx hb dX9_turns_6 rfl rfl ?_
  refine z_lald (g := M) (v := M 7) hx hb hK hP 1 rfl (by decide) (by omega) rfl dX9_turns_7 ?_
  refine lv_iload_n hx hb dX9_turns_8 rfl (lv_at hl 1 rfl) ?_
  refine z_i2l hx hb dX9_turns_9 (by omega) ?_
  refine z_ladd hx hb dX9_turns_10 ?_
  refine z_last (g := M) (w2 := moW b sc tl cd pl cm h ++ (jrW ct (b 1) 94 (up M 7 ((M 7) + v)) ++ (jrW ct (b 2) 94 SP ++ (jrW ct (b 3) 376 SV ++ (irW ct (b 4) 150 TX ++ (irW ct (b 5) 2 NB)))))) hx hb hK hP hD hS 1 rfl (by decide) (by omega) dX9_turns_11 (rfl) (fun H locs hP hD hS => ?_)
  refine lv_aload_n hx hb dX9_turns_12 rfl (lv_at hl 0 rfl) ?_
  refine z_bipush hx hb dX9_turns_13 (by decide) ?_
  refine z_callV (C := RX9) (q0 := 0) (ci := 7) (As := [.int (zI 7)]) (rest := []) ([] : va_W) ([] : va_W) hx hb hml hown hts hl hE hS hA (zr0 ([] : va_W) hP) (zr0D ([] : va_W) hD) (c_X9_of l D ct ad b (up M 7 ((M 7) + v)) SP SV TX NB sc tl cd pl cm h 7 (by omega)) gX9_turns_X9_of rfl rfl k_X9_of ⟨Nat.le_of_ble_eq_true rfl, Nat.le_of_ble_eq_true rfl⟩ rfl rfl rfl rfl (Nat.le_of_ble_eq_true rfl) ⟨Nat.le_of_ble_eq_true rfl, Nat.le_of_ble_eq_true rfl⟩ dX9_turns_15 rfl (fun v w1 H locs hpost hP hD hS => ?_)
  obtain ⟨rfl, rfl⟩ := hpost
  have hP := zr0' hP
  have hD := zr0D' hD
  have hP : va_P D vwCl (moW b sc tl cd pl cm h ++ (jrW ct (b 1) 94 (up M 7 ((M 7) + v)) ++ (jrW ct (b 2) 94 SP ++ (jrW ct (b 3) 376 SV ++ (irW ct (b 4) 150 TX ++ (irW ct (b 5) 2 NB)))))) H := hP
  have hD : va_D A (moW b sc tl cd pl cm h ++ (jrW ct (b 1) 94 (up M 7 ((M 7) + v)) ++ (jrW ct (b 2) 94 SP ++ (jrW ct (b 3) 376 SV ++ (irW ct (b 4) 150 TX ++ (irW ct (b 5) 2 NB)))))) := hD
  refine W.eq (g2 := F0 m 18 ls [.int (zI ((up M 7 ((M 7) + v)) 7))]) rfl ?_
  exact z_iret hx hb hr hlocks hP hD hS ⟨Nat.le_of_ble_eq_true rfl, Nat.le_of_ble_eq_true rfl⟩ dX9_turns_18 (⟨congrArg (fun z => some (Value.int (zI z))) (rfl), rfl⟩)
set_option maxHeartbeats 4000000 in
set_option maxRecDepth 100000 in
theorem c_X9_thrown (l : Launch) (D : va_G) (ct ad : Nat → Nat) (b : Nat → Nat) (M SP SV TX NB : Int → Int) (sc tl cd pl cm h : Int)  : ZM l yX9_thrown wsX9_thrown ({ frames := 0, cells := 0, slots := 0, locals := 0 } : Room) D ct ad [.ref (b 0)] (moW b sc tl cd pl cm h ++ (jrW ct (b 1) 94 M ++ (jrW ct (b 2) 94 SP ++ (jrW ct (b 3) 376 SV ++ (irW ct (b 4) 150 TX ++ (irW ct (b 5) 2 NB)))))) (zD (some (.int (zI cd))) (moW b sc tl cd pl cm h ++ (jrW ct (b 1) 94 M ++ (jrW ct (b 2) 94 SP ++ (jrW ct (b 3) 376 SV ++ (irW ct (b 4) 150 TX ++ (irW ct (b 5) 2 NB))))))) := by
  refine ZM.of (cc := cX9_thrown) (maxL := 1) (ret := (some .int)) (by decide +kernel) rfl (Nat.le_of_ble_eq_true rfl) ?_
  intro p e s m below meth c A ls hx hb hr hts hown hlocks hml hname hE hP hD hA hS hl
  have hK := hE.1
  have hf_0 := hts (.fieldLink RX9 42 "RodGridsModel" "code" "I") (by decide +kernel)
  have hin_X9 : ∀ z ∈ u_ws RX9 TX9 11, z ∈ wsX9_thrown := by decide +kernel
  have hl : lv_has ls 1 [(0, .ref (b 0))] := hl
  refine lv_aload_n hx hb dX9_thrown_0 rfl (lv_at hl 0 rfl) ?_
  refine va_get (D := D) (ci := 7) (v := .int (zI cd)) (C := RX9) (T := TX9) (N := 11) hx hb hts hin_X9 hown hK hP 0 rfl rfl 6 (by decide) hf_0 (fun _ h9 => h9) rfl dX9_thrown_1 ?_
  exact z_iret hx hb hr hlocks hP hD hS ⟨Nat.le_of_ble_eq_true rfl, Nat.le_of_ble_eq_true rfl⟩ dX9_thrown_4 (⟨congrArg (fun z => some (Value.int (zI z))) (rfl), rfl⟩)
