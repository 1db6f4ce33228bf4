set_option maxHeartbeats 4000000 in
set_option maxRecDepth 100000 in
theorem c_Jx29ce0_ordinal_8abf5 (l : Launch) (D : va_G) (ct ad : Nat → Nat) (k : Nat) (hk : k < 12) : ZM l yJx29ce0_ordinal_8abf5 wsJx29ce0_ordinal_8abf5 ({ frames := 0, cells := 0, slots := 0, locals := 0 } : Room) D ct ad [.ref (ad k)] ([]) (zD (some (.int (zI (zOrd k)))) ([])) := by
  refine ZM.of (cc := cJx29ce0_ordinal_8abf5) (maxL := 1) (ret := (some .int)) (by decide +kernel) rfl (Nat.le_of_ble_eq_true rfl) ?_
  intro p e s m below meth c A ls hx hb hr hts hown hlocks hml hname hE hP hD hA hS hl
  have hK := hE.1
  have hf_0 := hts (.fieldLink RJx29ce0 7 "java/lang/Enum" "ordinal" "I") (by decide +kernel)
  have hl : lv_has ls 1 [(0, .ref (ad k))] := hl
  refine lv_aload_n hx hb dJx29ce0_ordinal_8abf5_0 rfl (lv_at hl 0 rfl) ?_
  refine z_getE0 (i := k) hx hb hE.2.2.1.1.1 hk hS hown hf_0 dJx29ce0_ordinal_8abf5_1 ?_
  exact z_iret hx hb hr hlocks hP hD hS ⟨Nat.le_of_ble_eq_true rfl, Nat.le_of_ble_eq_true rfl⟩ dJx29ce0_ordinal_8abf5_4 (⟨congrArg (fun z => some (Value.int (zI z))) (rfl), rfl⟩)
