set_option maxHeartbeats 4000000 in
set_option maxRecDepth 100000 in
theorem c_J0_coder_7d493 (l : Launch) (D : va_G) (ct ad : Nat → Nat) (k : Nat) (hk : k < 12) : ZM l yJ0_coder_7d493 wsJ0_coder_7d493 ({ frames := 0, cells := 0, slots := 0, locals := 0 } : Room) D ct ad [.ref (ad (20 + k))] ([]) (zD (some (.int (zI 0))) ([])) := by
  refine ZM.of (cc := cJ0_coder_7d493) (maxL := 1) (ret := (some .byte)) (by decide +kernel) rfl (Nat.le_of_ble_eq_true rfl) ?_
  intro p e s m below meth c A ls hx hb hr hts hown hlocks hml hname hE hP hD hA hS hl
  have hK := hE.1
  have hf_0 := hts (.fieldLink RJ0 38 "java/lang/String" "COMPACT_STRINGS" "Z") (by decide +kernel)
  have hf_1 := hts (.fieldLink RJ0 15 "java/lang/String" "coder" "B") (by decide +kernel)
  have hl : lv_has ls 1 [(0, .ref (ad (20 + k)))] := hl
  refine va_gets (C := "java/lang/String") (n := "COMPACT_STRINGS") (d := "Z") (v := .int (zI 1)) hx hb hE.2.2.1.2.2.1.1 hS hown hf_0 (fun _ h9 => h9) dJ0_coder_7d493_0 ?_
  refine z_if_eq (tgt := 13) hx hb dJ0_coder_7d493_3 (by decide) (by omega) (fun hc_3 => ?_) (fun hc_3 => ?_)
  · have hc_3 := hc_3
    omega
  · have hc_3 := hc_3
    refine lv_aload_n hx hb dJ0_coder_7d493_6 rfl (lv_at hl 0 rfl) ?_
    refine vk_getf (o := "java/lang/String") (n := "coder") (d := "B") (v := .int (zI 0)) hx hb ((hE.2.2.1.1.2.2).1 k hk).2.1 hS hown hf_1 (fun _ h9 => h9) dJ0_coder_7d493_7 ?_
    refine lv_goto (tgt := 14) hx hb dJ0_coder_7d493_10 (by decide) ?_
    exact z_zret hx hb hr (by first | rfl | exact zB_nar) hlocks hP hD hS ⟨Nat.le_of_ble_eq_true rfl, Nat.le_of_ble_eq_true rfl⟩ dJ0_coder_7d493_14 (⟨congrArg (fun z => some (Value.int (zI z))) (rfl), rfl⟩)
set_option maxHeartbeats 4000000 in
set_option maxRecDepth 100000 in
theorem c_J0_isLatin1_aae02 (l : Launch) (D : va_G) (ct ad : Nat → Nat) (k : Nat) (hk : k < 12) : ZM l yJ0_isLatin1_aae02 wsJ0_isLatin1_aae02 ({ frames := 0, cells := 0, slots := 0, locals := 0 } : Room) D ct ad [.ref (ad (20 + k))] ([]) (zD (some (.int (zI 1))) ([])) := by
  refine ZM.of (cc := cJ0_isLatin1_aae02) (maxL := 1) (ret := (some .boolean)) (by decide +kernel) rfl (Nat.le_of_ble_eq_true rfl) ?_
  intro p e s m below meth c A ls hx hb hr hts hown hlocks hml hname hE hP hD hA hS hl
  have hK := hE.1
  have hf_0 := hts (.fieldLink RJ0 38 "java/lang/String" "COMPACT_STRINGS" "Z") (by decide +kernel)
  have hf_1 := hts (.fieldLink RJ0 15 "java/lang/String" "coder" "B") (by decide +kernel)
  have hl : lv_has ls 1 [(0, .ref (ad (20 + k)))] := hl
  refine va_gets (C := "java/lang/String") (n := "COMPACT_STRINGS") (d := "Z") (v := .int (zI 1)) hx hb hE.2.2.1.2.2.1.1 hS hown hf_0 (fun _ h9 => h9) dJ0_isLatin1_aae02_0 ?_
  refine z_if_eq (tgt := 17) hx hb dJ0_isLatin1_aae02_3 (by decide) (by omega) (fun hc_3 => ?_) (fun hc_3 => ?_)
  · have hc_3 := hc_3
    omega
  · have hc_3 := hc_3
    refine lv_aload_n hx hb dJ0_isLatin1_aae02_6 rfl (lv_at hl 0 rfl) ?_
    refine vk_getf (o := "java/lang/String") (n := "coder") (d := "B") (v := .int (zI 0)) hx hb ((hE.2.2.1.1.2.2).1 k hk).2.1 hS hown hf_1 (fun _ h9 => h9) dJ0_isLatin1_aae02_7 ?_
    refine z_if_ne (tgt := 17) hx hb dJ0_isLatin1_aae02_10 (by decide) (by omega) (fun hc_10 => ?_) (fun hc_10 => ?_)
    · have hc_10 := hc_10
      omega
    · have hc_10 := hc_10
      refine z_iconst hx hb dJ0_isLatin1_aae02_13 ?_
      refine lv_goto (tgt := 18) hx hb dJ0_isLatin1_aae02_14 (by decide) ?_
      exact z_zret hx hb hr (by first | rfl | exact zB_nar) hlocks hP hD hS ⟨Nat.le_of_ble_eq_true rfl, Nat.le_of_ble_eq_true rfl⟩ dJ0_isLatin1_aae02_18 (⟨congrArg (fun z => some (Value.int (zI z))) (rfl), rfl⟩)
theorem k_J0_coder_7d493 : yJ0_coder_7d493.cls ≠ "java/lang/invoke/MethodHandle" ∧ yJ0_coder_7d493.cls ≠ "java/lang/invoke/VarHandle" ∧ (parseMethodDescriptor yJ0_coder_7d493.desc).map (fun d => d.parameters.length) = some 0 := by decide +kernel
set_option maxHeartbeats 4000000 in
set_option maxRecDepth 100000 in
theorem c_J0_length_8abf5 (l : Launch) (D : va_G) (ct ad : Nat → Nat) (k : Nat) (hk : k < 12) : ZM l yJ0_length_8abf5 wsJ0_length_8abf5 ({ frames := 1, cells := 0, slots := 0, locals := 20 } : Room) D ct ad [.ref (ad (20 + k))] ([]) (zD (some (.int (zI (zLn k)))) ([])) := by
  refine ZM.of (cc := cJ0_length_8abf5) (maxL := 1) (ret := (some .int)) (by decide +kernel) rfl (Nat.le_of_ble_eq_true rfl) ?_
  intro p e s m below meth c A ls hx hb hr hts hown hlocks hml hname hE hP hD hA hS hl
  have hK := hE.1
  have hf_0 := hts (.fieldLink RJ0 9 "java/lang/String" "value" "[B") (by decide +kernel)
  have hl : lv_has ls 1 [(0, .ref (ad (20 + k)))] := hl
  have lB := zLn_B k hk
  refine lv_aload_n hx hb dJ0_length_8abf5_0 rfl (lv_at hl 0 rfl) ?_
  refine vk_getf (o := "java/lang/String") (n := "value") (d := "[B") (v := .ref (ad (40 + k))) hx hb ((hE.2.2.1.1.2.2).1 k hk).2.2.1 hS hown hf_0 (fun _ h9 => h9) dJ0_length_8abf5_1 ?_
  refine z_tlen (N := zWlen.getD k 0) hx hb ((hE.2.2.1.1.2.2).1 k hk).2.2.2 hS dJ0_length_8abf5_4 ?_
  refine W.eq (g2 := F0 m 5 ls [.int (zI (zLn k))]) rfl ?_
  refine lv_aload_n hx hb dJ0_length_8abf5_5 rfl (lv_at hl 0 rfl) ?_
  refine z_callVS (C := RJ0) (As := []) (rest := [.int (zI (zLn k))]) ([] : va_W) ([] : va_W) hx hb hml hown hts hl hE hS hA hP hD (c_J0_coder_7d493 l D ct ad k hk) gJ0_length_8abf5_J0_coder_7d493 rfl rfl k_J0_coder_7d493 ⟨Nat.le_of_ble_eq_true rfl, Nat.le_of_ble_eq_true rfl⟩ (show ∃ cell : Cell, s.heap[ad (20 + k)]? = some cell ∧ cell.vm.isStatics = false ∧ _ from vk_recv (i := k) hE.2.2.1.1.2.2 hk hS) rfl (Nat.le_of_ble_eq_true rfl) ⟨Nat.le_of_ble_eq_true rfl, Nat.le_of_ble_eq_true rfl⟩ dJ0_length_8abf5_6 rfl (fun v w1 H locs hpost hP hD hS => ?_)
  obtain ⟨rfl, rfl⟩ := hpost
  have hP : va_P D vwCl ([]) H := hP
  have hD : va_D A ([]) := hD
  refine W.eq (g2 := F0 m 9 ls [.int (zI 0), .int (zI (zLn k))]) rfl ?_
  refine z_ishr0 hx hb dJ0_length_8abf5_9 (by omega) ?_
  exact z_iret hx hb hr hlocks hP hD hS ⟨Nat.le_of_ble_eq_true rfl, Nat.le_of_ble_eq_true rfl⟩ dJ0_length_8abf5_10 (⟨congrArg (fun z => some (Value.int (zI z))) (rfl), rfl⟩)
set_option maxHeartbeats 4000000 in
set_option maxRecDepth 100000 in
theorem c_J3_n (l : Launch) (D : va_G) (ct ad : Nat → Nat) (i n : Int) (h1 : 0 ≤ i ∧ i < n ∧ n ≤ 1000) : ZM l yJ3_checkIndex_8e157 wsJ3_checkIndex_8e157 ({ frames := 0, cells := 0, slots := 0, locals := 0 } : Room) D ct ad [.int (zI i), .int (zI n), .null] ([]) (zD (some (.int (zI i))) ([])) := by
  refine ZM.of (cc := cJ3_checkIndex_8e157) (maxL := 3) (ret := (some .int)) (by decide +kernel) rfl (Nat.le_of_ble_eq_true rfl) ?_
  intro p e s m below meth c A ls hx hb hr hts hown hlocks hml hname hE hP hD hA hS hl
  have hK := hE.1
  have hl : lv_has ls 3 [(0, .int (zI i)), (1, .int (zI n)), (2, .null)] := hl
  refine lv_iload_n hx hb dJ3_checkIndex_8e157_0 rfl (lv_at hl 0 rfl) ?_
  refine z_if_lt (tgt := 9) hx hb dJ3_checkIndex_8e157_1 (by decide) (by omega) (fun hc_1 => ?_) (fun hc_1 => ?_)
  · have hc_1 := hc_1
    omega
  · have hc_1 := hc_1
    refine lv_iload_n hx hb dJ3_checkIndex_8e157_4 rfl (lv_at hl 0 rfl) ?_
    refine lv_iload_n hx hb dJ3_checkIndex_8e157_5 rfl (lv_at hl 1 rfl) ?_
    refine z_icmp_lt (tgt := 16) hx hb dJ3_checkIndex_8e157_6 (by decide) (by omega) (by omega) (fun hc_6 => ?_) (fun hc_6 => ?_)
    · have hc_6 := hc_6
      refine lv_iload_n hx hb dJ3_checkIndex_8e157_16 rfl (lv_at hl 0 rfl) ?_
      exact z_iret hx hb hr hlocks hP hD hS ⟨Nat.le_of_ble_eq_true rfl, Nat.le_of_ble_eq_true rfl⟩ dJ3_checkIndex_8e157_17 (⟨congrArg (fun z => some (Value.int (zI z))) (rfl), rfl⟩)
    · have hc_6 := hc_6
      omega
set_option maxHeartbeats 4000000 in
set_option maxRecDepth 100000 in
theorem c_J3_r (l : Launch) (D : va_G) (ct ad : Nat → Nat) (i n : Int) (t : Nat) (h1 : 0 ≤ i ∧ i < n ∧ n ≤ 1000) : ZM l yJ3_checkIndex_8e157 wsJ3_checkIndex_8e157 ({ frames := 0, cells := 0, slots := 0, locals := 0 } : Room) D ct ad [.int (zI i), .int (zI n), .ref t] ([]) (zD (some (.int (zI i))) ([])) := by
  refine ZM.of (cc := cJ3_checkIndex_8e157) (maxL := 3) (ret := (some .int)) (by decide +kernel) rfl (Nat.le_of_ble_eq_true rfl) ?_
  intro p e s m below meth c A ls hx hb hr hts hown hlocks hml hname hE hP hD hA hS hl
  have hK := hE.1
  have hl : lv_has ls 3 [(0, .int (zI i)), (1, .int (zI n)), (2, .ref t)] := hl
  refine lv_iload_n hx hb dJ3_checkIndex_8e157_0 rfl (lv_at hl 0 rfl) ?_
  refine z_if_lt (tgt := 9) hx hb dJ3_checkIndex_8e157_1 (by decide) (by omega) (fun hc_1 => ?_) (fun hc_1 => ?_)
  · have hc_1 := hc_1
    omega
  · have hc_1 := hc_1
    refine lv_iload_n hx hb dJ3_checkIndex_8e157_4 rfl (lv_at hl 0 rfl) ?_
    refine lv_iload_n hx hb dJ3_checkIndex_8e157_5 rfl (lv_at hl 1 rfl) ?_
    refine z_icmp_lt (tgt := 16) hx hb dJ3_checkIndex_8e157_6 (by decide) (by omega) (by omega) (fun hc_6 => ?_) (fun hc_6 => ?_)
    · have hc_6 := hc_6
      refine lv_iload_n hx hb dJ3_checkIndex_8e157_16 rfl (lv_at hl 0 rfl) ?_
      exact z_iret hx hb hr hlocks hP hD hS ⟨Nat.le_of_ble_eq_true rfl, Nat.le_of_ble_eq_true rfl⟩ dJ3_checkIndex_8e157_17 (⟨congrArg (fun z => some (Value.int (zI z))) (rfl), rfl⟩)
    · have hc_6 := hc_6
      omega
theorem k_J3_checkIndex_8e157 : yJ3_checkIndex_8e157.cls ≠ "java/lang/invoke/MethodHandle" ∧ yJ3_checkIndex_8e157.cls ≠ "java/lang/invoke/VarHandle" ∧ (parseMethodDescriptor yJ3_checkIndex_8e157.desc).map (fun d => d.parameters.length) = some 3 := by decide +kernel
set_option maxHeartbeats 4000000 in
set_option maxRecDepth 100000 in
theorem c_J0_checkIndex_df160 (l : Launch) (D : va_G) (ct ad : Nat → Nat) (i n : Int) (h1 : 0 ≤ i ∧ i < n ∧ n ≤ 1000) : ZM l yJ0_checkIndex_df160 wsJ0_checkIndex_df160 ({ frames := 1, cells := 0, slots := 0, locals := 22 } : Room) D ct ad [.int (zI i), .int (zI n)] ([]) (zD none ([])) := by
  refine ZM.of (cc := cJ0_checkIndex_df160) (maxL := 2) (ret := none) (by decide +kernel) rfl (Nat.le_of_ble_eq_true rfl) ?_
  intro p e s m below meth c A ls hx hb hr hts hown hlocks hml hname hE hP hD hA hS hl
  have hK := hE.1
  have hf_0 := hts (.fieldLink RJ0 1053 "jdk/internal/util/Preconditions" "SIOOBE_FORMATTER" "Ljava/util/function/BiFunction;") (by decide +kernel)
  have hl : lv_has ls 2 [(0, .int (zI i)), (1, .int (zI n))] := hl
  refine lv_iload_n hx hb dJ0_checkIndex_df160_0 rfl (lv_at hl 0 rfl) ?_
  refine lv_iload_n hx hb dJ0_checkIndex_df160_1 rfl (lv_at hl 1 rfl) ?_
  rcases hE.2.2.1.2.2.1.2 with hz | ⟨t9, hz⟩
  · refine va_gets (C := "jdk/internal/util/Preconditions") (n := "SIOOBE_FORMATTER") (d := "Ljava/util/function/BiFunction;") hx hb hz hS hown hf_0 (fun _ h9 => h9) dJ0_checkIndex_df160_2 ?_
    refine z_callS (As := [.int (zI i), .int (zI n), .null]) (rest := []) ([] : va_W) ([] : va_W) hx hb hml hown hts hl hE hS hA hP hD (c_J3_n l D ct ad i n (by omega)) gJ0_checkIndex_df160_J3_checkIndex_8e157 rfl k_J3_checkIndex_8e157 ⟨Nat.le_of_ble_eq_true rfl, Nat.le_of_ble_eq_true rfl⟩ rfl (Nat.le_of_ble_eq_true rfl) ⟨Nat.le_of_ble_eq_true rfl, Nat.le_of_ble_eq_true rfl⟩ dJ0_checkIndex_df160_5 rfl (fun v w1 H locs hpost hP hD hS => ?_)
    obtain ⟨rfl, rfl⟩ := hpost
    have hP : va_P D vwCl ([]) H := hP
    have hD : va_D A ([]) := hD
    refine W.eq (g2 := F0 m 8 ls [.int (zI i)]) rfl ?_
    refine lv_pop hx hb dJ0_checkIndex_df160_8 rfl ?_
    exact z_vret hx hb hr hlocks hP hD hS ⟨Nat.le_of_ble_eq_true rfl, Nat.le_of_ble_eq_true rfl⟩ dJ0_checkIndex_df160_9 (⟨rfl, rfl⟩)
  · refine va_gets (C := "jdk/internal/util/Preconditions") (n := "SIOOBE_FORMATTER") (d := "Ljava/util/function/BiFunction;") hx hb hz hS hown hf_0 (fun _ h9 => h9) dJ0_checkIndex_df160_2 ?_
    refine z_callS (As := [.int (zI i), .int (zI n), .ref t9]) (rest := []) ([] : va_W) ([] : va_W) hx hb hml hown hts hl hE hS hA hP hD (c_J3_r l D ct ad i n t9 (by omega)) gJ0_checkIndex_df160_J3_checkIndex_8e157 rfl k_J3_checkIndex_8e157 ⟨Nat.le_of_ble_eq_true rfl, Nat.le_of_ble_eq_true rfl⟩ rfl (Nat.le_of_ble_eq_true rfl) ⟨Nat.le_of_ble_eq_true rfl, Nat.le_of_ble_eq_true rfl⟩ dJ0_checkIndex_df160_5 rfl (fun v w1 H locs hpost hP hD hS => ?_)
    obtain ⟨rfl, rfl⟩ := hpost
    have hP : va_P D vwCl ([]) H := hP
    have hD : va_D A ([]) := hD
    refine W.eq (g2 := F0 m 8 ls [.int (zI i)]) rfl ?_
    refine lv_pop hx hb dJ0_checkIndex_df160_8 rfl ?_
    exact z_vret hx hb hr hlocks hP hD hS ⟨Nat.le_of_ble_eq_true rfl, Nat.le_of_ble_eq_true rfl⟩ dJ0_checkIndex_df160_9 (⟨rfl, rfl⟩)
theorem k_J0_checkIndex_df160 : yJ0_checkIndex_df160.cls ≠ "java/lang/invoke/MethodHandle" ∧ yJ0_checkIndex_df160.cls ≠ "java/lang/invoke/VarHandle" ∧ (parseMethodDescriptor yJ0_checkIndex_df160.desc).map (fun d => d.parameters.length) = some 2 := by decide +kernel
set_option maxHeartbeats 4000000 in
set_option maxRecDepth 100000 in
theorem c_J1_charAt_3b067 (l : Launch) (D : va_G) (ct ad : Nat → Nat) (k : Nat) (i : Int) (hk : k < 12) (h1 : 0 ≤ i ∧ i < zLn k) : ZM l yJ1_charAt_3b067 wsJ1_charAt_3b067 ({ frames := 2, cells := 0, slots := 0, locals := 43 } : Room) D ct ad [.ref (ad (40 + k)), .int (zI i)] ([]) (zD (some (.int (zI (zCh k i.toNat)))) ([])) := by
  refine ZM.of (cc := cJ1_charAt_3b067) (maxL := 2) (ret := (some .char)) (by decide +kernel) rfl (Nat.le_of_ble_eq_true rfl) ?_
  intro p e s m below meth c A ls hx hb hr hts hown hlocks hml hname hE hP hD hA hS hl
  have hK := hE.1
  have hl : lv_has ls 2 [(0, .ref (ad (40 + k))), (1, .int (zI i))] := hl
  have lB := zLn_B k hk
  have cB := zCh_B k i.toNat hk
  refine lv_iload_n hx hb dJ1_charAt_3b067_0 rfl (lv_at hl 1 rfl) ?_
  refine lv_aload_n hx hb dJ1_charAt_3b067_1 rfl (lv_at hl 0 rfl) ?_
  refine z_tlen (N := zWlen.getD k 0) hx hb ((hE.2.2.1.1.2.2).1 k hk).2.2.2 hS dJ1_charAt_3b067_2 ?_
  refine W.eq (g2 := F0 m 3 ls [.int (zI (zLn k)), .int (zI i)]) rfl ?_
  refine z_callS (As := [.int (zI i), .int (zI (zLn k))]) (rest := []) ([] : va_W) ([] : va_W) hx hb hml hown hts hl hE hS hA hP hD (c_J0_checkIndex_df160 l D ct ad i (zLn k) (by omega)) gJ1_charAt_3b067_J0_checkIndex_df160 rfl k_J0_checkIndex_df160 ⟨Nat.le_of_ble_eq_true rfl, Nat.le_of_ble_eq_true rfl⟩ rfl (Nat.le_of_ble_eq_true rfl) ⟨Nat.le_of_ble_eq_true rfl, Nat.le_of_ble_eq_true rfl⟩ dJ1_charAt_3b067_3 rfl (fun v w1 H locs hpost hP hD hS => ?_)
  obtain ⟨rfl, rfl⟩ := hpost
  have hP : va_P D vwCl ([]) H := hP
  have hD : va_D A ([]) := hD
  refine W.eq (g2 := F0 m 6 ls []) rfl ?_
  refine lv_aload_n hx hb dJ1_charAt_3b067_6 rfl (lv_at hl 0 rfl) ?_
  refine lv_iload_n hx hb dJ1_charAt_3b067_7 rfl (lv_at hl 1 rfl) ?_
  refine z_sbald (k := k) hx hb ((hE.2.2.1.1.2.2).1 k hk).2.2.2 hS hk (by omega) dJ1_charAt_3b067_8 ?_
  refine z_sipush hx hb dJ1_charAt_3b067_9 (by decide) ?_
  refine z_and255 hx hb dJ1_charAt_3b067_12 (by omega) ?_
  refine z_i2c hx hb dJ1_charAt_3b067_13 (by omega) ?_
  exact z_zret hx hb hr (zI_chn cB) hlocks hP hD hS ⟨Nat.le_of_ble_eq_true rfl, Nat.le_of_ble_eq_true rfl⟩ dJ1_charAt_3b067_14 (⟨congrArg (fun z => some (Value.int (zI z))) (rfl), rfl⟩)
theorem k_J0_isLatin1_aae02 : yJ0_isLatin1_aae02.cls ≠ "java/lang/invoke/MethodHandle" ∧ yJ0_isLatin1_aae02.cls ≠ "java/lang/invoke/VarHandle" ∧ (parseMethodDescriptor yJ0_isLatin1_aae02.desc).map (fun d => d.parameters.length) = some 0 := by decide +kernel
theorem k_J1_charAt_3b067 : yJ1_charAt_3b067.cls ≠ "java/lang/invoke/MethodHandle" ∧ yJ1_charAt_3b067.cls ≠ "java/lang/invoke/VarHandle" ∧ (parseMethodDescriptor yJ1_charAt_3b067.desc).map (fun d => d.parameters.length) = some 2 := by decide +kernel
set_option maxHeartbeats 4000000 in
set_option maxRecDepth 100000 in
theorem c_J0_charAt_5068e (l : Launch) (D : va_G) (ct ad : Nat → Nat) (k : Nat) (i : Int) (hk : k < 12) (h1 : 0 ≤ i ∧ i < zLn k) : ZM l yJ0_charAt_5068e wsJ0_charAt_5068e ({ frames := 3, cells := 0, slots := 0, locals := 64 } : Room) D ct ad [.ref (ad (20 + k)), .int (zI i)] ([]) (zD (some (.int (zI (zCh k i.toNat)))) ([])) := by
  refine ZM.of (cc := cJ0_charAt_5068e) (maxL := 2) (ret := (some .char)) (by decide +kernel) rfl (Nat.le_of_ble_eq_true rfl) ?_
  intro p e s m below meth c A ls hx hb hr hts hown hlocks hml hname hE hP hD hA hS hl
  have hK := hE.1
  have hf_0 := hts (.fieldLink RJ0 9 "java/lang/String" "value" "[B") (by decide +kernel)
  have hl : lv_has ls 2 [(0, .ref (ad (20 + k))), (1, .int (zI i))] := hl
  have lB := zLn_B k hk
  have cB := zCh_B k i.toNat hk
  refine lv_aload_n hx hb dJ0_charAt_5068e_0 rfl (lv_at hl 0 rfl) ?_
  refine z_callVS (C := RJ0) (As := []) (rest := []) ([] : va_W) ([] : va_W) hx hb hml hown hts hl hE hS hA hP hD (c_J0_isLatin1_aae02 l D ct ad k hk) gJ0_charAt_5068e_J0_isLatin1_aae02 rfl rfl k_J0_isLatin1_aae02 ⟨Nat.le_of_ble_eq_true rfl, Nat.le_of_ble_eq_true rfl⟩ (show ∃ cell : Cell, s.heap[ad (20 + k)]? = some cell ∧ cell.vm.isStatics = false ∧ _ from vk_recv (i := k) hE.2.2.1.1.2.2 hk hS) rfl (Nat.le_of_ble_eq_true rfl) ⟨Nat.le_of_ble_eq_true rfl, Nat.le_of_ble_eq_true rfl⟩ dJ0_charAt_5068e_1 rfl (fun v w1 H locs hpost hP hD hS => ?_)
  obtain ⟨rfl, rfl⟩ := hpost
  have hP : va_P D vwCl ([]) H := hP
  have hD : va_D A ([]) := hD
  refine W.eq (g2 := F0 m 4 ls [.int (zI 1)]) rfl ?_
  refine z_if_eq (tgt := 16) hx hb dJ0_charAt_5068e_4 (by decide) (by omega) (fun hc_4 => ?_) (fun hc_4 => ?_)
  · have hc_4 := hc_4
    omega
  · have hc_4 := hc_4
    refine lv_aload_n hx hb dJ0_charAt_5068e_7 rfl (lv_at hl 0 rfl) ?_
    refine vk_getf (o := "java/lang/String") (n := "value") (d := "[B") (v := .ref (ad (40 + k))) hx hb ((hE.2.2.1.1.2.2).1 k hk).2.2.1 hS hown hf_0 (fun _ h9 => h9) dJ0_charAt_5068e_8 ?_
    refine lv_iload_n hx hb dJ0_charAt_5068e_11 rfl (lv_at hl 1 rfl) ?_
    refine z_callS (As := [.ref (ad (40 + k)), .int (zI i)]) (rest := []) ([] : va_W) ([] : va_W) hx hb hml hown hts hl hE hS hA hP hD (c_J1_charAt_3b067 l D ct ad k i hk (by omega)) gJ0_charAt_5068e_J1_charAt_3b067 rfl k_J1_charAt_3b067 ⟨Nat.le_of_ble_eq_true rfl, Nat.le_of_ble_eq_true rfl⟩ rfl (Nat.le_of_ble_eq_true rfl) ⟨Nat.le_of_ble_eq_true rfl, Nat.le_of_ble_eq_true rfl⟩ dJ0_charAt_5068e_12 rfl (fun v w1 H locs hpost hP hD hS => ?_)
    obtain ⟨rfl, rfl⟩ := hpost
    have hP : va_P D vwCl ([]) H := hP
    have hD : va_D A ([]) := hD
    refine W.eq (g2 := F0 m 15 ls [.int (zI (zCh k i.toNat))]) rfl ?_
    exact z_zret hx hb hr (zI_chn cB) hlocks hP hD hS ⟨Nat.le_of_ble_eq_true rfl, Nat.le_of_ble_eq_true rfl⟩ dJ0_charAt_5068e_15 (⟨congrArg (fun z => some (Value.int (zI z))) (rfl), rfl⟩)
