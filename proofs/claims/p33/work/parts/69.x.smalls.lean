set_option maxHeartbeats 4000000 in
set_option maxRecDepth 100000 in
theorem c_L_low (l : Launch) (D : va_G) (ct ad : Nat → Nat) (v n : Int) (h1 : 0 < n ∧ n ≤ 2147483647) : ZM l yL_low wsL_low ({ frames := 0, cells := 0, slots := 0, locals := 0 } : Room) D ct ad [.int (zI v), .int (zI n)] ([]) (zD (some (.int (zI (sp_low v n)))) ([])) := by
  refine ZM.of (cc := cL_low) (maxL := 2) (ret := (some .int)) (by decide +kernel) rfl (Nat.le_of_ble_eq_true rfl) ?_
  intro p e s m below meth c A ls hx hb hr hts hown hlocks hml hname hE hP hD hA hS hl
  have hK := hE.1
  have hf_0 := hts (.constant RL 8 (2147483647)) (by decide +kernel)
  have hl : lv_has ls 2 [(0, .int (zI v)), (1, .int (zI n))] := hl
  refine lv_iload_n hx hb dL_low_0 rfl (lv_at hl 0 rfl) ?_
  refine z_ldc hx hb 2147483647 hown hf_0 (by decide) dL_low_1 ?_
  refine z_ilow hx hb dL_low_3 ?_
  refine lv_iload_n hx hb dL_low_4 rfl (lv_at hl 1 rfl) ?_
  refine z_irem hx hb dL_low_5 (by omega) (by omega) ?_
  exact z_iret hx hb hr hlocks hP hD hS ⟨Nat.le_of_ble_eq_true rfl, Nat.le_of_ble_eq_true rfl⟩ dL_low_6 (⟨congrArg (fun z => some (Value.int (zI z))) (rfl), rfl⟩)
set_option maxHeartbeats 4000000 in
set_option maxRecDepth 100000 in
theorem c_L_size (l : Launch) (D : va_G) (ct ad : Nat → Nat) (v : Int) (h1 : -9223372036854775808 ≤ v ∧ v ≤ 9223372036854775807) : ZM l yL_size wsL_size ({ frames := 0, cells := 0, slots := 0, locals := 0 } : Room) D ct ad [.long (zJ v)] ([]) (zD (some (.long (zJ (sp_abs v)))) ([])) := by
  refine ZM.of (cc := cL_size) (maxL := 2) (ret := (some .long)) (by decide +kernel) rfl (Nat.le_of_ble_eq_true rfl) ?_
  intro p e s m below meth c A ls hx hb hr hts hown hlocks hml hname hE hP hD hA hS hl
  have hK := hE.1
  have hl : lv_has ls 2 [(0, .long (zJ v))] := hl
  refine lv_lload_n hx hb dL_size_0 rfl (lv_at hl 0 rfl) ?_
  refine z_lconst (z := 0) hx hb dL_size_1 rfl ?_
  refine z_lcmp_ge (tgt := 11) hx hb dL_size_2 dL_size_3 (by decide) (by omega) (by omega) (fun hc_2 => ?_) (fun hc_2 => ?_)
  · have hc_2 := hc_2
    refine lv_lload_n hx hb dL_size_11 rfl (lv_at hl 0 rfl) ?_
    exact z_lret hx hb hr hlocks hP hD hS ⟨Nat.le_of_ble_eq_true rfl, Nat.le_of_ble_eq_true rfl⟩ dL_size_12 (⟨congrArg (fun z => some (Value.long (zJ z))) (by unfold sp_abs; first | rw [if_pos (by omega)] | rw [if_neg (by omega)]), rfl⟩)
  · have hc_2 := hc_2
    refine lv_lload_n hx hb dL_size_6 rfl (lv_at hl 0 rfl) ?_
    refine z_lneg hx hb dL_size_7 ?_
    refine lv_goto (tgt := 12) hx hb dL_size_8 (by decide) ?_
    exact z_lret hx hb hr hlocks hP hD hS ⟨Nat.le_of_ble_eq_true rfl, Nat.le_of_ble_eq_true rfl⟩ dL_size_12 (⟨congrArg (fun z => some (Value.long (zJ z))) (by unfold sp_abs; first | rw [if_pos (by omega)] | rw [if_neg (by omega)]), rfl⟩)
set_option maxHeartbeats 4000000 in
set_option maxRecDepth 100000 in
theorem c_L_lot (l : Launch) (D : va_G) (ct ad : Nat → Nat) (k : Int) (h1 : 0 ≤ k ∧ k ≤ 100000) : ZM l yL_lot wsL_lot ({ frames := 0, cells := 0, slots := 0, locals := 0 } : Room) D ct ad [.ref (ad 67), .int (zI k)] ([]) (fun v w => ∃ (v_ : Int), ((-2147483648 ≤ v_ ∧ v_ ≤ 2147483647)) ∧ v = (some (.int (zI v_))) ∧ w = []) := by
  refine ZM.of (cc := cL_lot) (maxL := 2) (ret := (some .int)) (by decide +kernel) rfl (Nat.le_of_ble_eq_true rfl) ?_
  intro p e s m below meth c A ls hx hb hr hts hown hlocks hml hname hE hP hD hA hS hl
  have hK := hE.1
  have hf_0 := hts (.constant RL 7 (-2015508039)) (by decide +kernel)
  have hl : lv_has ls 2 [(0, .ref (ad 67)), (1, .int (zI k))] := hl
  have hx68 := hE.2.2.2.1.1
  refine lv_iload_n hx hb dL_lot_0 rfl (lv_at hl 1 rfl) ?_
  refine lv_aload_n hx hb dL_lot_1 rfl (lv_at hl 0 rfl) ?_
  refine z_tlen hx hb hE.2.2.2.2 hS dL_lot_2 ?_
  refine z_icmp_ge (tgt := 12) hx hb dL_lot_3 (by decide) (by omega) (by omega) (fun hc_3 => ?_) (fun hc_3 => ?_)
  · have hc_3 := hc_3
    refine z_ldc hx hb (-2015508039) hown hf_0 (by decide) dL_lot_12 ?_
    refine lv_iload_n hx hb dL_lot_14 rfl (lv_at hl 1 rfl) ?_
    refine z_sipush hx hb dL_lot_15 (by decide) ?_
    refine z_iadd hx hb dL_lot_18 ?_
    refine z_imul hx hb dL_lot_19 ?_
    refine z_sipush hx hb dL_lot_20 (by decide) ?_
    refine z_iadd hx hb dL_lot_23 ?_
    exact z_iret hx hb hr hlocks hP hD hS ⟨Nat.le_of_ble_eq_true rfl, Nat.le_of_ble_eq_true rfl⟩ dL_lot_24 ((by obtain ⟨v9, e9, r9⟩ := zI_any (zI (((-2015508039) * (k + 2207)) + 2003)); exact ⟨v9, r9, by rw [e9], rfl⟩))
  · have hc_3 := hc_3
    refine lv_aload_n hx hb dL_lot_6 rfl (lv_at hl 0 rfl) ?_
    refine lv_iload_n hx hb dL_lot_7 rfl (lv_at hl 1 rfl) ?_
    refine z_ialdT (g := zXv ad) hx hb hE.2.2.2.2 hS (by omega) (by omega) dL_lot_8 ?_
    refine lv_goto (tgt := 24) hx hb dL_lot_9 (by decide) ?_
    exact z_iret hx hb hr hlocks hP hD hS ⟨Nat.le_of_ble_eq_true rfl, Nat.le_of_ble_eq_true rfl⟩ dL_lot_24 (⟨zXv ad k.toNat, (by have q9 := hE.2.2.2.1.2 k.toNat (by omega); unfold zXv; omega), rfl, rfl⟩)
