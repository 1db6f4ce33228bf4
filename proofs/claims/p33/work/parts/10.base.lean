set_option maxHeartbeats 4000000 in
set_option maxRecDepth 100000 in
theorem c_J9_floorDiv_f86c9 (l : Launch) (D : va_G) (ct ad : Nat → Nat) (a b : Int) (ha : -9223372036854775807 ≤ a ∧ a ≤ 9223372036854775807) (hb : 0 < b ∧ b ≤ 9223372036854775807) : ZM l yJ9_floorDiv_f86c9 wsJ9_floorDiv_f86c9 ({ frames := 0, cells := 0, slots := 0, locals := 0 } : Room) D ct ad [.long (zJ a), .long (zJ b)] ([]) (zD (some (.long (zJ (a / b)))) ([])) := by
  refine ZM.of (cc := cJ9_floorDiv_f86c9) (maxL := 6) (ret := (some .long)) (by decide +kernel) rfl (Nat.le_of_ble_eq_true rfl) ?_
  intro p e s m below meth c A ls hx hb hr hts hown hlocks hml hname hE hP hD hA hS hl
  have hK := hE.1
  have hl : lv_has ls 6 [(0, .long (zJ a)), (2, .long (zJ b))] := hl
  refine lv_lload_n hx hb dJ9_floorDiv_f86c9_0 rfl (lv_at hl 0 rfl) ?_
  refine lv_lload_n hx hb dJ9_floorDiv_f86c9_1 rfl (lv_at hl 1 rfl) ?_
  refine z_ldivT hx hb dJ9_floorDiv_f86c9_2 (by omega) (by omega) ?_
  refine lv_lstore (lv' := [(4, .long (zJ (a.tdiv b))), (0, .long (zJ a)), (2, .long (zJ b))]) hx hb dJ9_floorDiv_f86c9_3 hl (by decide) rfl (fun ls hl => ?_)
  refine lv_lload_n hx hb dJ9_floorDiv_f86c9_5 rfl (lv_at hl 1 rfl) ?_
  refine lv_lload_n hx hb dJ9_floorDiv_f86c9_6 rfl (lv_at hl 2 rfl) ?_
  refine z_lxor_ge (tgt := 27) hx hb dJ9_floorDiv_f86c9_7 dJ9_floorDiv_f86c9_8 dJ9_floorDiv_f86c9_9 dJ9_floorDiv_f86c9_10 (by decide) (by omega) (by omega) (fun hc_7 => ?_) (fun hc_7 => ?_)
  · have hc_7 := hc_7
    refine lv_lload hx hb dJ9_floorDiv_f86c9_27 (lv_at hl 0 rfl) ?_
    exact z_lret hx hb hr hlocks hP hD hS ⟨Nat.le_of_ble_eq_true rfl, Nat.le_of_ble_eq_true rfl⟩ dJ9_floorDiv_f86c9_29 (⟨congrArg (fun z => some (Value.long (zJ z))) (by first | exact fdiv_a (by omega) | exact fdiv_b (by omega) (by omega) | exact fdiv_c (by omega) (by omega) (by omega)), rfl⟩)
  · have hc_7 := hc_7
    refine lv_lload hx hb dJ9_floorDiv_f86c9_13 (lv_at hl 0 rfl) ?_
    refine lv_lload_n hx hb dJ9_floorDiv_f86c9_15 rfl (lv_at hl 2 rfl) ?_
    refine z_lmul hx hb dJ9_floorDiv_f86c9_16 ?_
    refine lv_lload_n hx hb dJ9_floorDiv_f86c9_17 rfl (lv_at hl 1 rfl) ?_
    have hr_18 := fdiv_r (a := a) (b := b) (by omega)
    refine z_lcmp_eq (tgt := 27) hx hb dJ9_floorDiv_f86c9_18 dJ9_floorDiv_f86c9_19 (by decide) (by omega) (by omega) (fun hc_18 => ?_) (fun hc_18 => ?_)
    · have hc_18 := hc_18
      refine lv_lload hx hb dJ9_floorDiv_f86c9_27 (lv_at hl 0 rfl) ?_
      exact z_lret hx hb hr hlocks hP hD hS ⟨Nat.le_of_ble_eq_true rfl, Nat.le_of_ble_eq_true rfl⟩ dJ9_floorDiv_f86c9_29 (⟨congrArg (fun z => some (Value.long (zJ z))) (by first | exact fdiv_a (by omega) | exact fdiv_b (by omega) (by omega) | exact fdiv_c (by omega) (by omega) (by omega)), rfl⟩)
    · have hc_18 := hc_18
      refine lv_lload hx hb dJ9_floorDiv_f86c9_22 (lv_at hl 0 rfl) ?_
      refine z_lconst (z := 1) hx hb dJ9_floorDiv_f86c9_24 rfl ?_
      refine z_lsub hx hb dJ9_floorDiv_f86c9_25 ?_
      exact z_lret hx hb hr hlocks hP hD hS ⟨Nat.le_of_ble_eq_true rfl, Nat.le_of_ble_eq_true rfl⟩ dJ9_floorDiv_f86c9_26 (⟨congrArg (fun z => some (Value.long (zJ z))) (by first | exact fdiv_a (by omega) | exact fdiv_b (by omega) (by omega) | exact fdiv_c (by omega) (by omega) (by omega)), rfl⟩)
set_option maxHeartbeats 4000000 in
set_option maxRecDepth 100000 in
theorem c_X8_within (l : Launch) (D : va_G) (ct ad : Nat → Nat) (v lo hi : Int) (h1 : -2147483648 ≤ v ∧ v ≤ 2147483647) (h2 : -2147483648 ≤ lo ∧ lo ≤ 2147483647) (h3 : -2147483648 ≤ hi ∧ hi ≤ 2147483647) : ZM l yX8_within wsX8_within ({ frames := 0, cells := 0, slots := 0, locals := 0 } : Room) D ct ad [.int (zI v), .int (zI lo), .int (zI hi)] ([]) (zD (some (.int (zI (zB (lo ≤ v ∧ v ≤ hi))))) ([])) := by
  refine ZM.of (cc := cX8_within) (maxL := 3) (ret := (some .boolean)) (by decide +kernel) rfl (Nat.le_of_ble_eq_true rfl) ?_
  intro p e s m below meth c A ls hx hb hr hts hown hlocks hml hname hE hP hD hA hS hl
  have hK := hE.1
  have hl : lv_has ls 3 [(0, .int (zI v)), (1, .int (zI lo)), (2, .int (zI hi))] := hl
  refine lv_iload_n hx hb dX8_within_0 rfl (lv_at hl 0 rfl) ?_
  refine lv_iload_n hx hb dX8_within_1 rfl (lv_at hl 1 rfl) ?_
  refine z_icmp_lt (tgt := 14) hx hb dX8_within_2 (by decide) (by omega) (by omega) (fun hc_2 => ?_) (fun hc_2 => ?_)
  · have hc_2 := hc_2
    refine z_iconst hx hb dX8_within_14 ?_
    exact z_zret hx hb hr (by first | rfl | exact zB_nar) hlocks hP hD hS ⟨Nat.le_of_ble_eq_true rfl, Nat.le_of_ble_eq_true rfl⟩ dX8_within_15 (⟨congrArg (fun z => some (Value.int (zI z))) (by first | exact (zB_t (by omega)).symm | exact (zB_f (by omega)).symm | exact zB_c (by omega)), rfl⟩)
  · have hc_2 := hc_2
    refine lv_iload_n hx hb dX8_within_5 rfl (lv_at hl 0 rfl) ?_
    refine lv_iload_n hx hb dX8_within_6 rfl (lv_at hl 2 rfl) ?_
    refine z_icmp_gt (tgt := 14) hx hb dX8_within_7 (by decide) (by omega) (by omega) (fun hc_7 => ?_) (fun hc_7 => ?_)
    · have hc_7 := hc_7
      refine z_iconst hx hb dX8_within_14 ?_
      exact z_zret hx hb hr (by first | rfl | exact zB_nar) hlocks hP hD hS ⟨Nat.le_of_ble_eq_true rfl, Nat.le_of_ble_eq_true rfl⟩ dX8_within_15 (⟨congrArg (fun z => some (Value.int (zI z))) (by first | exact (zB_t (by omega)).symm | exact (zB_f (by omega)).symm | exact zB_c (by omega)), rfl⟩)
    · have hc_7 := hc_7
      refine z_iconst hx hb dX8_within_10 ?_
      refine lv_goto (tgt := 15) hx hb dX8_within_11 (by decide) ?_
      exact z_zret hx hb hr (by first | rfl | exact zB_nar) hlocks hP hD hS ⟨Nat.le_of_ble_eq_true rfl, Nat.le_of_ble_eq_true rfl⟩ dX8_within_15 (⟨congrArg (fun z => some (Value.int (zI z))) (by first | exact (zB_t (by omega)).symm | exact (zB_f (by omega)).symm | exact zB_c (by omega)), rfl⟩)
theorem k_X8_within : yX8_within.cls ≠ "java/lang/invoke/MethodHandle" ∧ yX8_within.cls ≠ "java/lang/invoke/VarHandle" ∧ (parseMethodDescriptor yX8_within.desc).map (fun d => d.parameters.length) = some 3 := by decide +kernel
set_option maxHeartbeats 4000000 in
set_option maxRecDepth 100000 in
theorem c_X8_isWarmth (l : Launch) (D : va_G) (ct ad : Nat → Nat) (v : Int) (h1 : -2147483648 ≤ v ∧ v ≤ 2147483647) : ZM l yX8_isWarmth wsX8_isWarmth ({ frames := 1, cells := 0, slots := 0, locals := 22 } : Room) D ct ad [.int (zI v)] ([]) (zD (some (.int (zI (zB (-300 ≤ v ∧ v ≤ 600))))) ([])) := by
  refine ZM.of (cc := cX8_isWarmth) (maxL := 1) (ret := (some .boolean)) (by decide +kernel) rfl (Nat.le_of_ble_eq_true rfl) ?_
  intro p e s m below meth c A ls hx hb hr hts hown hlocks hml hname hE hP hD hA hS hl
  have hK := hE.1
  have hl : lv_has ls 1 [(0, .int (zI v))] := hl
  refine lv_iload_n hx hb dX8_isWarmth_0 rfl (lv_at hl 0 rfl) ?_
  refine z_sipush hx hb dX8_isWarmth_1 (by decide) ?_
  refine z_sipush hx hb dX8_isWarmth_4 (by decide) ?_
  refine z_callS (As := [.int (zI v), .int (zI (-300)), .int (zI 600)]) (rest := []) ([] : va_W) ([] : va_W) hx hb hml hown hts hl hE hS hA hP hD (c_X8_within l D ct ad v (-300) 600 (by omega) (by omega) (by omega)) gX8_isWarmth_X8_within rfl k_X8_within ⟨Nat.le_of_ble_eq_true rfl, Nat.le_of_ble_eq_true rfl⟩ rfl (Nat.le_of_ble_eq_true rfl) ⟨Nat.le_of_ble_eq_true rfl, Nat.le_of_ble_eq_true rfl⟩ dX8_isWarmth_7 rfl (fun v w1 H locs hpost hP hD hS => ?_)
  obtain ⟨rfl, rfl⟩ := hpost
  have hP : va_P D vwCl ([]) H := hP
  have hD : va_D A ([]) := hD
  refine W.eq (g2 := F0 m 10 ls [.int (zI (zB ((-300) ≤ v ∧ v ≤ 600)))]) rfl ?_
  exact z_zret hx hb hr (by first | rfl | exact zB_nar) hlocks hP hD hS ⟨Nat.le_of_ble_eq_true rfl, Nat.le_of_ble_eq_true rfl⟩ dX8_isWarmth_10 (⟨congrArg (fun z => some (Value.int (zI z))) (by first | exact (zB_t (by omega)).symm | exact (zB_f (by omega)).symm | exact zB_c (by omega)), rfl⟩)
set_option maxHeartbeats 4000000 in
set_option maxRecDepth 100000 in
theorem c_X8_clamp (l : Launch) (D : va_G) (ct ad : Nat → Nat) (v lo hi : Int) (h1 : -9223372036854775808 ≤ v ∧ v ≤ 9223372036854775807) (h2 : -9223372036854775808 ≤ lo ∧ lo ≤ 9223372036854775807) (h3 : -9223372036854775808 ≤ hi ∧ hi ≤ 9223372036854775807) : ZM l yX8_clamp wsX8_clamp ({ frames := 1, cells := 0, slots := 0, locals := 17 } : Room) D ct ad [.long (zJ v), .long (zJ lo), .long (zJ hi)] ([]) (zD (some (.long (zJ (max lo (min hi v))))) ([])) := by
  refine ZM.of (cc := cX8_clamp) (maxL := 6) (ret := (some .long)) (by decide +kernel) rfl (Nat.le_of_ble_eq_true rfl) ?_
  intro p e s m below meth c A ls hx hb hr hts hown hlocks hml hname hE hP hD hA hS hl
  have hK := hE.1
  have hf_0 := hts (.methodLink RX8 310 Lib.MathLoose.min_long.x) (by decide +kernel)
  have hf_1 := hts (.static Lib.MathLoose.min_long.x) (by decide +kernel)
  have hf_2 := hts (.initialized "java/lang/Math") (by decide +kernel)
  have hf_3 := hts (.code Lib.MathLoose.min_long.x Lib.MathLoose.min_long.code 4 (some .long)) (by decide +kernel)
  have hf_4 := hts (.methodLink RX8 315 Lib.MathLoose.max_long.x) (by decide +kernel)
  have hf_5 := hts (.static Lib.MathLoose.max_long.x) (by decide +kernel)
  have hf_6 := hts (.code Lib.MathLoose.max_long.x Lib.MathLoose.max_long.code 4 (some .long)) (by decide +kernel)
  have hl : lv_has ls 6 [(0, .long (zJ v)), (2, .long (zJ lo)), (4, .long (zJ hi))] := hl
  refine lv_lload_n hx hb dX8_clamp_0 rfl (lv_at hl 1 rfl) ?_
  refine lv_lload hx hb dX8_clamp_1 (lv_at hl 2 rfl) ?_
  refine lv_lload_n hx hb dX8_clamp_3 rfl (lv_at hl 0 rfl) ?_
  refine z_mminl hx hb hml hl hown hf_0 hf_1 hf_2 hf_3 (Nat.le_of_ble_eq_true rfl) (Nat.le_of_ble_eq_true rfl) (Nat.le_of_ble_eq_true rfl) (Nat.le_of_ble_eq_true rfl) (by omega) (by omega) dX8_clamp_4 ?_
  refine z_mmaxl hx hb hml hl hown hf_4 hf_5 hf_2 hf_6 (Nat.le_of_ble_eq_true rfl) (Nat.le_of_ble_eq_true rfl) (Nat.le_of_ble_eq_true rfl) (Nat.le_of_ble_eq_true rfl) (by omega) (by omega) dX8_clamp_7 ?_
  exact z_lret hx hb hr hlocks hP hD hS ⟨Nat.le_of_ble_eq_true rfl, Nat.le_of_ble_eq_true rfl⟩ dX8_clamp_10 (⟨congrArg (fun z => some (Value.long (zJ z))) (rfl), rfl⟩)
theorem k_J9_floorDiv_f86c9 : yJ9_floorDiv_f86c9.cls ≠ "java/lang/invoke/MethodHandle" ∧ yJ9_floorDiv_f86c9.cls ≠ "java/lang/invoke/VarHandle" ∧ (parseMethodDescriptor yJ9_floorDiv_f86c9.desc).map (fun d => d.parameters.length) = some 2 := by decide +kernel
set_option maxHeartbeats 4000000 in
set_option maxRecDepth 100000 in
theorem c_X8_floorOf (l : Launch) (D : va_G) (ct ad : Nat → Nat) (v d : Int) (h1 : -9223372036854775807 ≤ v ∧ v ≤ 9223372036854775807) (h2 : 0 < d ∧ d ≤ 9223372036854775807) : ZM l yX8_floorOf wsX8_floorOf ({ frames := 1, cells := 0, slots := 0, locals := 25 } : Room) D ct ad [.long (zJ v), .long (zJ d)] ([]) (zD (some (.long (zJ (v / d)))) ([])) := by
  refine ZM.of (cc := cX8_floorOf) (maxL := 4) (ret := (some .long)) (by decide +kernel) rfl (Nat.le_of_ble_eq_true rfl) ?_
  intro p e s m below meth c A ls hx hb hr hts hown hlocks hml hname hE hP hD hA hS hl
  have hK := hE.1
  have hl : lv_has ls 4 [(0, .long (zJ v)), (2, .long (zJ d))] := hl
  refine lv_lload_n hx hb dX8_floorOf_0 rfl (lv_at hl 1 rfl) ?_
  refine z_lconst (z := 0) hx hb dX8_floorOf_1 rfl ?_
  refine z_lcmp_ne (tgt := 10) hx hb dX8_floorOf_2 dX8_floorOf_3 (by decide) (by omega) (by omega) (fun hc_2 => ?_) (fun hc_2 => ?_)
  · have hc_2 := hc_2
    refine lv_lload_n hx hb dX8_floorOf_10 rfl (lv_at hl 0 rfl) ?_
    refine lv_lload_n hx hb dX8_floorOf_11 rfl (lv_at hl 1 rfl) ?_
    refine z_callS (As := [.long (zJ v), .long (zJ d)]) (rest := []) ([] : va_W) ([] : va_W) hx hb hml hown hts hl hE hS hA hP hD (c_J9_floorDiv_f86c9 l D ct ad v d (by omega) (by omega)) gX8_floorOf_J9_floorDiv_f86c9 rfl k_J9_floorDiv_f86c9 ⟨Nat.le_of_ble_eq_true rfl, Nat.le_of_ble_eq_true rfl⟩ rfl (Nat.le_of_ble_eq_true rfl) ⟨Nat.le_of_ble_eq_true rfl, Nat.le_of_ble_eq_true rfl⟩ dX8_floorOf_12 rfl (fun v w1 H locs hpost hP hD hS => ?_)
    obtain ⟨rfl, rfl⟩ := hpost
    have hP : va_P D vwCl ([]) H := hP
    have hD : va_D A ([]) := hD
    refine W.eq (g2 := F0 m 15 ls [.long (zJ (v / d))]) rfl ?_
    exact z_lret hx hb hr hlocks hP hD hS ⟨Nat.le_of_ble_eq_true rfl, Nat.le_of_ble_eq_true rfl⟩ dX8_floorOf_15 (⟨congrArg (fun z => some (Value.long (zJ z))) (rfl), rfl⟩)
  · have hc_2 := hc_2
    omega
set_option maxHeartbeats 4000000 in
set_option maxRecDepth 100000 in
theorem c_X8_mix (l : Launch) (D : va_G) (ct ad : Nat → Nat) (h v : Int)  : ZM l yX8_mix wsX8_mix ({ frames := 0, cells := 0, slots := 0, locals := 0 } : Room) D ct ad [.long (zJ h), .long (zJ v)] ([]) (zD (some (.long (zJ (31 * h + v)))) ([])) := by
  refine ZM.of (cc := cX8_mix) (maxL := 4) (ret := (some .long)) (by decide +kernel) rfl (Nat.le_of_ble_eq_true rfl) ?_
  intro p e s m below meth c A ls hx hb hr hts hown hlocks hml hname hE hP hD hA hS hl
  have hK := hE.1
  have hf_0 := hts (.constantLong RX8 280 (31)) (by decide +kernel)
  have hl : lv_has ls 4 [(0, .long (zJ h)), (2, .long (zJ v))] := hl
  refine z_ldc2 hx hb 31 hown hf_0 (by decide) dX8_mix_0 ?_
  refine lv_lload_n hx hb dX8_mix_3 rfl (lv_at hl 0 rfl) ?_
  refine z_lmul hx hb dX8_mix_4 ?_
  refine lv_lload_n hx hb dX8_mix_5 rfl (lv_at hl 1 rfl) ?_
  refine z_ladd hx hb dX8_mix_6 ?_
  exact z_lret hx hb hr hlocks hP hD hS ⟨Nat.le_of_ble_eq_true rfl, Nat.le_of_ble_eq_true rfl⟩ dX8_mix_7 (⟨congrArg (fun z => some (Value.long (zJ z))) (rfl), rfl⟩)
