set_option maxHeartbeats 4000000 in
set_option maxRecDepth 100000 in
theorem c_X8_meanRate (l : Launch) (D : va_G) (ct ad : Nat → Nat) (u : Nat) (a r q : Nat → Nat) (b : Nat → Nat → Nat) (nx sz : Int) (S : Nat → Int → Int) (M TX : Int → Int) (tl pl ft n1 n2 : Int) (wd : Value) (hs : sInv M) : ZM l yX8_meanRate wsX8_meanRate ({ frames := 0, cells := 0, slots := 0, locals := 0 } : Room) D ct ad [.ref u] (x8W u a r q ++ (svW ct r b nx sz S ++ (sobjW a ++ (gridW ct a M ++ (benchW ct a M ++ (logW ct a M ++ (txtW ct q TX tl pl ft wd n1 n2))))))) (zD (some (.double (sp_mean M))) (x8W u a r q ++ (svW ct r b nx sz S ++ (sobjW a ++ (gridW ct a M ++ (benchW ct a M ++ (logW ct a M ++ (txtW ct q TX tl pl ft wd n1 n2)))))))) := by
  refine ZM.of (cc := cX8_meanRate) (maxL := 2) (ret := (some .double)) (by decide +kernel) rfl (Nat.le_of_ble_eq_true rfl) ?_
  intro p e s m below meth c A ls hx hb hr hts hown hlocks hml hname hE hP hD hA hS hl
  have hK := hE.1
  have hf_0 := hts (.fieldLink RX8 10 "RodGrids" "state" "LRodGrids$State;") (by decide +kernel)
  have hf_1 := hts (.fieldLink RX8 77 "RodGrids$State" "bench" "LRodGrids$Bench;") (by decide +kernel)
  have hf_2 := hts (.fieldLink RX8 168 "RodGrids$Bench" "went" "I") (by decide +kernel)
  have hf_3 := hts (.fieldLink RX8 147 "RodGrids$Bench" "rateSum" "J") (by decide +kernel)
  have hin_X1 : ∀ z ∈ u_ws RX1 TX1 12, z ∈ wsX8_meanRate := by decide +kernel
  have hin_X6 : ∀ z ∈ u_ws RX6 TX6 3, z ∈ wsX8_meanRate := by decide +kernel
  have hin_X8 : ∀ z ∈ u_ws RX8 TX8 3, z ∈ wsX8_meanRate := by decide +kernel
  have hl : lv_has ls 2 [(0, .ref u)] := hl
  have hI := hs.1
  have hB := hs.2.1
  have ha := hs.2.2
  have i3 := hI.1
  have i4 := hI.2.1
  have j0 := hB.1
  have j1 := hB.2.1
  have j2 := hB.2.2.1
  have j4 := hB.2.2.2.2
  refine lv_aload_n hx hb dX8_meanRate_0 rfl (lv_at hl 0 rfl) ?_
  refine va_get (D := D) (ci := 6) (v := .ref (a 0)) (C := RX8) (T := TX8) (N := 3) hx hb hts hin_X8 hown hK hP 0 rfl rfl 0 (by decide) hf_0 (fun _ h9 => h9) rfl dX8_meanRate_1 ?_
  refine va_get (D := D) (ci := 5) (v := .ref (a 6)) (C := RX6) (T := TX6) (N := 3) hx hb hts hin_X6 hown hK hP 47 rfl rfl 1 (by decide) hf_1 (fun _ h9 => h9) rfl dX8_meanRate_4 ?_
  refine va_get (D := D) (ci := 0) (v := .int (zI (M 10))) (C := RX1) (T := TX1) (N := 12) hx hb hts hin_X1 hown hK hP 53 rfl rfl 7 (by decide) hf_2 (fun _ h9 => h9) rfl dX8_meanRate_7 ?_
  refine lv_istore_n (lv' := [(1, .int (zI (M 10))), (0, .ref u)]) hx hb dX8_meanRate_10 rfl hl (by decide) rfl (fun ls hl => ?_)
  refine lv_iload_n hx hb dX8_meanRate_11 rfl (lv_at hl 0 rfl) ?_
  refine z_if_ne (tgt := 19) hx hb dX8_meanRate_12 (by decide) (by omega) (fun hc_12 => ?_) (fun hc_12 => ?_)
  · have hc_12 := hc_12
    refine lv_aload_n hx hb dX8_meanRate_19 rfl (lv_at hl 1 rfl) ?_
    refine va_get (D := D) (ci := 6) (v := .ref (a 0)) (C := RX8) (T := TX8) (N := 3) hx hb hts hin_X8 hown hK hP 0 rfl rfl 0 (by decide) hf_0 (fun _ h9 => h9) rfl dX8_meanRate_20 ?_
    refine va_get (D := D) (ci := 5) (v := .ref (a 6)) (C := RX6) (T := TX6) (N := 3) hx hb hts hin_X6 hown hK hP 47 rfl rfl 1 (by decide) hf_1 (fun _ h9 => h9) rfl dX8_meanRate_23 ?_
    refine va_get (D := D) (ci := 0) (v := .long (zJ (M 12))) (C := RX1) (T := TX1) (N := 12) hx hb hts hin_X1 hown hK hP 53 rfl rfl 9 (by decide) hf_3 (fun _ h9 => h9) rfl dX8_meanRate_26 ?_
    refine lv_l2d hx hb dX8_meanRate_29 ?_
    refine lv_iload_n hx hb dX8_meanRate_30 rfl (lv_at hl 0 rfl) ?_
    refine z_i2d hx hb dX8_meanRate_31 (by omega) ?_
    refine lv_ddiv hx hb dX8_meanRate_32 (ddiv_ok (by omega)) ?_
    exact z_dret hx hb hr hlocks hP hD hS ⟨Nat.le_of_ble_eq_true rfl, Nat.le_of_ble_eq_true rfl⟩ dX8_meanRate_33 (⟨congrArg (fun z => some (Value.double z)) (by unfold sp_mean; first | rw [if_pos (by omega)] | rw [if_neg (by omega)]), rfl⟩)
  · have hc_12 := hc_12
    refine lv_dconst0 hx hb dX8_meanRate_15 ?_
    refine lv_goto (tgt := 33) hx hb dX8_meanRate_16 (by decide) ?_
    exact z_dret hx hb hr hlocks hP hD hS ⟨Nat.le_of_ble_eq_true rfl, Nat.le_of_ble_eq_true rfl⟩ dX8_meanRate_33 (⟨congrArg (fun z => some (Value.double z)) (by unfold sp_mean; first | rw [if_pos (by omega)] | rw [if_neg (by omega)]), rfl⟩)
