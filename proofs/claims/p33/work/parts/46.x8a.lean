theorem k_X1_checkHours : yX1_checkHours.cls ≠ "java/lang/invoke/MethodHandle" ∧ yX1_checkHours.cls ≠ "java/lang/invoke/VarHandle" ∧ (parseMethodDescriptor yX1_checkHours.desc).map (fun d => d.parameters.length) = some 1 := by decide +kernel
theorem k_X1_checkSetting : yX1_checkSetting.cls ≠ "java/lang/invoke/MethodHandle" ∧ yX1_checkSetting.cls ≠ "java/lang/invoke/VarHandle" ∧ (parseMethodDescriptor yX1_checkSetting.desc).map (fun d => d.parameters.length) = some 2 := by decide +kernel
theorem k_X1_checkShelf : yX1_checkShelf.cls ≠ "java/lang/invoke/MethodHandle" ∧ yX1_checkShelf.cls ≠ "java/lang/invoke/VarHandle" ∧ (parseMethodDescriptor yX1_checkShelf.desc).map (fun d => d.parameters.length) = some 1 := by decide +kernel
theorem k_X1_checkShelfWarmth : yX1_checkShelfWarmth.cls ≠ "java/lang/invoke/MethodHandle" ∧ yX1_checkShelfWarmth.cls ≠ "java/lang/invoke/VarHandle" ∧ (parseMethodDescriptor yX1_checkShelfWarmth.desc).map (fun d => d.parameters.length) = some 2 := by decide +kernel
theorem k_X1_checkTurn : yX1_checkTurn.cls ≠ "java/lang/invoke/MethodHandle" ∧ yX1_checkTurn.cls ≠ "java/lang/invoke/VarHandle" ∧ (parseMethodDescriptor yX1_checkTurn.desc).map (fun d => d.parameters.length) = some 1 := by decide +kernel
theorem k_X4_checkLength : yX4_checkLength.cls ≠ "java/lang/invoke/MethodHandle" ∧ yX4_checkLength.cls ≠ "java/lang/invoke/VarHandle" ∧ (parseMethodDescriptor yX4_checkLength.desc).map (fun d => d.parameters.length) = some 2 := by decide +kernel
theorem k_X4_checkNewMetal : yX4_checkNewMetal.cls ≠ "java/lang/invoke/MethodHandle" ∧ yX4_checkNewMetal.cls ≠ "java/lang/invoke/VarHandle" ∧ (parseMethodDescriptor yX4_checkNewMetal.desc).map (fun d => d.parameters.length) = some 1 := by decide +kernel
theorem k_X4_checkNewRod : yX4_checkNewRod.cls ≠ "java/lang/invoke/MethodHandle" ∧ yX4_checkNewRod.cls ≠ "java/lang/invoke/VarHandle" ∧ (parseMethodDescriptor yX4_checkNewRod.desc).map (fun d => d.parameters.length) = some 3 := by decide +kernel
set_option maxHeartbeats 4000000 in
set_option maxRecDepth 100000 in
theorem c_X8_troubleWith (l : Launch) (D : va_G) (ct ad : Nat → Nat) (u : Nat) (a r q : Nat → Nat) (b : Nat → Nat → Nat) (nx sz : Int) (S : Nat → Int → Int) (M TX : Int → Int) (tl pl ft n1 n2 : Int) (wd : Value) (c_ x y : Int) (hs : sInv M) (hc : 0 ≤ c_ ∧ c_ ≤ 11) (hx_ : 0 ≤ x ∧ x ≤ 9999999) (hy_ : 0 ≤ y ∧ y ≤ 9999999) : ZM l yX8_troubleWith wsX8_troubleWith ({ frames := 3, cells := 0, slots := 0, locals := 66 } : Room) D ct ad [.ref u, .ref (ad c_.toNat), .int (zI x), .int (zI y)] (x8W u a r q ++ (svW ct r b nx sz S ++ (sobjW a ++ (gridW ct a M ++ (benchW ct a M ++ (logW ct a M ++ (txtW ct q TX tl pl ft wd n1 n2))))))) (zD (some (.int (zI (ckc M c_ x y)))) (x8W u a r q ++ (svW ct r b nx sz S ++ (sobjW a ++ (gridW ct a M ++ (benchW ct a M ++ (logW ct a M ++ (txtW ct q TX tl pl ft wd n1 n2)))))))) := by
  refine ZM.of (cc := cX8_troubleWith) (maxL := 4) (ret := (some .int)) (by decide +kernel) rfl (Nat.le_of_ble_eq_true rfl) ?_
  intro p e s m below meth c A ls hx hb hr hts hown hlocks hml hname hE hP hD hA hS hl
  have hK := hE.1
  have hf_0 := hts (.fieldLink RX8 299 "RodGrids$1" "$SwitchMap$RodGrids$Word" "[I") (by decide +kernel)
  have hf_1 := hts (.methodLink RX8 305 ⟨"RodGrids$Word", "ordinal", "()I"⟩) (by decide +kernel)
  have hf_2 := hts (.sameMethod "RodGrids$Word" "java/lang/Enum" "ordinal" "()I") (by decide +kernel)
  have hf_3 := hts (.selects RX7 ⟨"RodGrids$Word", "ordinal", "()I"⟩ yJx29ce0_ordinal_8abf5) (by decide +kernel)
  have hf_4 := hts (.instanceMethod yJx29ce0_ordinal_8abf5) (by decide +kernel)
  have hf_5 := hts (.code yJx29ce0_ordinal_8abf5 cJx29ce0_ordinal_8abf5 1 (some .int)) (by decide +kernel)
  have hf_6 := hts (.fieldLink RJx29ce0 7 "java/lang/Enum" "ordinal" "I") (by decide +kernel)
  have hf_7 := hts (.fieldLink RX8 10 "RodGrids" "state" "LRodGrids$State;") (by decide +kernel)
  have hf_8 := hts (.fieldLink RX8 30 "RodGrids$State" "grid" "LRodGrids$Grid;") (by decide +kernel)
  have hf_9 := hts (.fieldLink RX8 77 "RodGrids$State" "bench" "LRodGrids$Bench;") (by decide +kernel)
  have hin_X6 : ∀ z ∈ u_ws RX6 TX6 3, z ∈ wsX8_troubleWith := by decide +kernel
  have hin_X8 : ∀ z ∈ u_ws RX8 TX8 3, z ∈ wsX8_troubleWith := by decide +kernel
  have hl : lv_has ls 4 [(0, .ref u), (1, .ref (ad c_.toNat)), (2, .int (zI x)), (3, .int (zI y))] := hl
  have hI := hs.1
  have hB := hs.2.1
  have ha := hs.2.2
  have i3 := hI.1
  have i4 := hI.2.1
  have j0 := hB.1
  have j1 := hB.2.1
  have j2 := hB.2.2.1
  have j4 := hB.2.2.2.2
  have hk9 : c_.toNat < 12 := by omega
  have ho := zOrd_w hc
  refine lv_aload_n hx hb dX8_troubleWith_0 rfl (lv_at hl 1 rfl) ?_
  refine lv_ifnonnull (tgt := 6) hx hb dX8_troubleWith_1 (by decide) ?_
  refine va_gets (C := "RodGrids$1") (n := "$SwitchMap$RodGrids$Word") (d := "[I") hx hb hE.2.2.1.2.1.2.1.1 hS hown hf_0 (fun _ h9 => h9) dX8_troubleWith_6 ?_
  refine lv_aload_n hx hb dX8_troubleWith_9 rfl (lv_at hl 1 rfl) ?_
  refine z_ord (k := c_.toNat) hx hb hml hl hown hf_1 hf_2 hf_3 hf_4 hf_5 hf_6 hE hS hk9 ⟨Nat.le_of_ble_eq_true rfl, Nat.le_of_ble_eq_true rfl⟩ (Nat.le_of_ble_eq_true rfl) ⟨Nat.le_of_ble_eq_true rfl, Nat.le_of_ble_eq_true rfl⟩ dX8_troubleWith_10 ?_
  refine z_ialdT hx hb (hE.2.2.1.2.1.2.1.2) hS (by omega) (by decide) dX8_troubleWith_13 ?_
  refine z_canI (show zSwm (zOrd c_.toNat).toNat = (if c_ = 9 then 12 else if c_ = 10 then 10 else if c_ = 11 then 11 else c_ + 1) from zSw_w hc) ?_
  obtain ⟨k_, hk_⟩ : ∃ k_ : Int, k_ = (if c_ = 9 then 12 else if c_ = 10 then 10 else if c_ = 11 then 11 else c_ + 1) := ⟨_, rfl⟩
  refine z_canI (show (if c_ = 9 then 12 else if c_ = 10 then 10 else if c_ = 11 then 11 else c_ + 1) = k_ from hk_.symm) ?_
  rcases (show k_ = 1 ∨ k_ = 2 ∨ k_ = 3 ∨ k_ = 4 ∨ k_ = 5 ∨ k_ = 6 ∨ k_ = 7 ∨ k_ = 8 ∨ k_ = 9 ∨ k_ = 10 ∨ k_ = 11 ∨ (k_ < 1 ∨ 11 < k_) from (by omega)) with hc_14 | hc_14 | hc_14 | hc_14 | hc_14 | hc_14 | hc_14 | hc_14 | hc_14 | hc_14 | hc_14 | hc_14
  · refine z_tabIn (off := 58) (tgt := 72) hx hb dX8_troubleWith_14 1 hc_14 (by decide) (by decide) rfl (by decide) ?_
    refine lv_aload_n hx hb dX8_troubleWith_72 rfl (lv_at hl 0 rfl) ?_
    refine va_get (D := D) (ci := 6) (v := .ref (a 0)) (C := RX8) (T := TX8) (N := 3) hx hb hts hin_X8 hown hK hP 0 rfl rfl 0 (by decide) hf_7 (fun _ h9 => h9) rfl dX8_troubleWith_73 ?_
    refine va_get (D := D) (ci := 5) (v := .ref (a 1)) (C := RX6) (T := TX6) (N := 3) hx hb hts hin_X6 hown hK hP 47 rfl rfl 0 (by decide) hf_8 (fun _ h9 => h9) rfl dX8_troubleWith_76 ?_
    refine lv_iload_n hx hb dX8_troubleWith_79 rfl (lv_at hl 2 rfl) ?_
    refine z_callV (C := RX4) (q0 := 0) (ci := 3) (As := [.int (zI x)]) (rest := []) (x8W u a r q ++ (svW ct r b nx sz S ++ (sobjW a))) (benchW ct a M ++ (logW ct a M ++ (txtW ct q TX tl pl ft wd n1 n2))) hx hb hml hown hts hl hE hS hA hP hD (c_X4_checkNewMetal l D ct ad a M x (by assumption) (by omega)) gX8_troubleWith_X4_checkNewMetal rfl rfl k_X4_checkNewMetal ⟨Nat.le_of_ble_eq_true rfl, Nat.le_of_ble_eq_true rfl⟩ rfl rfl rfl rfl (Nat.le_of_ble_eq_true rfl) ⟨Nat.le_of_ble_eq_true rfl, Nat.le_of_ble_eq_true rfl⟩ dX8_troubleWith_80 rfl (fun v w1 H locs hpost hP hD hS => ?_)
    obtain ⟨rfl, rfl⟩ := hpost
    have hP : va_P D vwCl (x8W u a r q ++ (svW ct r b nx sz S ++ (sobjW a ++ (gridW ct a M ++ (benchW ct a M ++ (logW ct a M ++ (txtW ct q TX tl pl ft wd n1 n2))))))) H := hP
    have hD : va_D A (x8W u a r q ++ (svW ct r b nx sz S ++ (sobjW a ++ (gridW ct a M ++ (benchW ct a M ++ (logW ct a M ++ (txtW ct q TX tl pl ft wd n1 n2))))))) := hD
    refine W.eq (g2 := F0 m 83 ls [.int (zI (ck_metal M x))]) rfl ?_
    exact z_iret hx hb hr hlocks hP hD hS ⟨Nat.le_of_ble_eq_true rfl, Nat.le_of_ble_eq_true rfl⟩ dX8_troubleWith_83 (⟨congrArg (fun z => some (Value.int (zI z))) (by rw [show c_ = 0 by omega]; rfl), rfl⟩)
  · refine z_tabIn (off := 70) (tgt := 84) hx hb dX8_troubleWith_14 2 hc_14 (by decide) (by decide) rfl (by decide) ?_
    refine lv_aload_n hx hb dX8_troubleWith_84 rfl (lv_at hl 0 rfl) ?_
    refine va_get (D := D) (ci := 6) (v := .ref (a 0)) (C := RX8) (T := TX8) (N := 3) hx hb hts hin_X8 hown hK hP 0 rfl rfl 0 (by decide) hf_7 (fun _ h9 => h9) rfl dX8_troubleWith_85 ?_
    refine va_get (D := D) (ci := 5) (v := .ref (a 1)) (C := RX6) (T := TX6) (N := 3) hx hb hts hin_X6 hown hK hP 47 rfl rfl 0 (by decide) hf_8 (fun _ h9 => h9) rfl dX8_troubleWith_88 ?_
    refine lv_iload_n hx hb dX8_troubleWith_91 rfl (lv_at hl 2 rfl) ?_
    refine z_iconst hx hb dX8_troubleWith_92 ?_
    refine lv_iload_n hx hb dX8_troubleWith_93 rfl (lv_at hl 3 rfl) ?_
    refine z_callV (C := RX4) (q0 := 0) (ci := 3) (As := [.int (zI x), .int (zI 1), .int (zI y)]) (rest := []) (x8W u a r q ++ (svW ct r b nx sz S ++ (sobjW a))) (benchW ct a M ++ (logW ct a M ++ (txtW ct q TX tl pl ft wd n1 n2))) hx hb hml hown hts hl hE hS hA hP hD (c_X4_checkNewRod l D ct ad a M x 1 y (by assumption) (by omega) (by omega) (by omega)) gX8_troubleWith_X4_checkNewRod rfl rfl k_X4_checkNewRod ⟨Nat.le_of_ble_eq_true rfl, Nat.le_of_ble_eq_true rfl⟩ rfl rfl rfl rfl (Nat.le_of_ble_eq_true rfl) ⟨Nat.le_of_ble_eq_true rfl, Nat.le_of_ble_eq_true rfl⟩ dX8_troubleWith_94 rfl (fun v w1 H locs hpost hP hD hS => ?_)
    obtain ⟨rfl, rfl⟩ := hpost
    have hP : va_P D vwCl (x8W u a r q ++ (svW ct r b nx sz S ++ (sobjW a ++ (gridW ct a M ++ (benchW ct a M ++ (logW ct a M ++ (txtW ct q TX tl pl ft wd n1 n2))))))) H := hP
    have hD : va_D A (x8W u a r q ++ (svW ct r b nx sz S ++ (sobjW a ++ (gridW ct a M ++ (benchW ct a M ++ (logW ct a M ++ (txtW ct q TX tl pl ft wd n1 n2))))))) := hD
    refine W.eq (g2 := F0 m 97 ls [.int (zI (ck_rod M x 1 y))]) rfl ?_
    exact z_iret hx hb hr hlocks hP hD hS ⟨Nat.le_of_ble_eq_true rfl, Nat.le_of_ble_eq_true rfl⟩ dX8_troubleWith_97 (⟨congrArg (fun z => some (Value.int (zI z))) (by rw [show c_ = 1 by omega]; rfl), rfl⟩)
  · refine z_tabIn (off := 84) (tgt := 98) hx hb dX8_troubleWith_14 3 hc_14 (by decide) (by decide) rfl (by decide) ?_
    refine lv_aload_n hx hb dX8_troubleWith_98 rfl (lv_at hl 0 rfl) ?_
    refine va_get (D := D) (ci := 6) (v := .ref (a 0)) (C := RX8) (T := TX8) (N := 3) hx hb hts hin_X8 hown hK hP 0 rfl rfl 0 (by decide) hf_7 (fun _ h9 => h9) rfl dX8_troubleWith_99 ?_
    refine va_get (D := D) (ci := 5) (v := .ref (a 1)) (C := RX6) (T := TX6) (N := 3) hx hb hts hin_X6 hown hK hP 47 rfl rfl 0 (by decide) hf_8 (fun _ h9 => h9) rfl dX8_troubleWith_102 ?_
    refine lv_iload_n hx hb dX8_troubleWith_105 rfl (lv_at hl 2 rfl) ?_
    refine z_iconst hx hb dX8_troubleWith_106 ?_
    refine lv_iload_n hx hb dX8_troubleWith_107 rfl (lv_at hl 3 rfl) ?_
    refine z_callV (C := RX4) (q0 := 0) (ci := 3) (As := [.int (zI x), .int (zI (-1)), .int (zI y)]) (rest := []) (x8W u a r q ++ (svW ct r b nx sz S ++ (sobjW a))) (benchW ct a M ++ (logW ct a M ++ (txtW ct q TX tl pl ft wd n1 n2))) hx hb hml hown hts hl hE hS hA hP hD (c_X4_checkNewRod l D ct ad a M x (-1) y (by assumption) (by omega) (by omega) (by omega)) gX8_troubleWith_X4_checkNewRod rfl rfl k_X4_checkNewRod ⟨Nat.le_of_ble_eq_true rfl, Nat.le_of_ble_eq_true rfl⟩ rfl rfl rfl rfl (Nat.le_of_ble_eq_true rfl) ⟨Nat.le_of_ble_eq_true rfl, Nat.le_of_ble_eq_true rfl⟩ dX8_troubleWith_108 rfl (fun v w1 H locs hpost hP hD hS => ?_)
    obtain ⟨rfl, rfl⟩ := hpost
    have hP : va_P D vwCl (x8W u a r q ++ (svW ct r b nx sz S ++ (sobjW a ++ (gridW ct a M ++ (benchW ct a M ++ (logW ct a M ++ (txtW ct q TX tl pl ft wd n1 n2))))))) H := hP
    have hD : va_D A (x8W u a r q ++ (svW ct r b nx sz S ++ (sobjW a ++ (gridW ct a M ++ (benchW ct a M ++ (logW ct a M ++ (txtW ct q TX tl pl ft wd n1 n2))))))) := hD
    refine W.eq (g2 := F0 m 111 ls [.int (zI (ck_rod M x (-1) y))]) rfl ?_
    exact z_iret hx hb hr hlocks hP hD hS ⟨Nat.le_of_ble_eq_true rfl, Nat.le_of_ble_eq_true rfl⟩ dX8_troubleWith_111 (⟨congrArg (fun z => some (Value.int (zI z))) (by rw [show c_ = 2 by omega]; rfl), rfl⟩)
  · refine z_tabIn (off := 98) (tgt := 112) hx hb dX8_troubleWith_14 4 hc_14 (by decide) (by decide) rfl (by decide) ?_
    refine lv_aload_n hx hb dX8_troubleWith_112 rfl (lv_at hl 0 rfl) ?_
    refine va_get (D := D) (ci := 6) (v := .ref (a 0)) (C := RX8) (T := TX8) (N := 3) hx hb hts hin_X8 hown hK hP 0 rfl rfl 0 (by decide) hf_7 (fun _ h9 => h9) rfl dX8_troubleWith_113 ?_
    refine va_get (D := D) (ci := 5) (v := .ref (a 1)) (C := RX6) (T := TX6) (N := 3) hx hb hts hin_X6 hown hK hP 47 rfl rfl 0 (by decide) hf_8 (fun _ h9 => h9) rfl dX8_troubleWith_116 ?_
    refine lv_iload_n hx hb dX8_troubleWith_119 rfl (lv_at hl 2 rfl) ?_
    refine lv_iload_n hx hb dX8_troubleWith_120 rfl (lv_at hl 3 rfl) ?_
    refine z_callV (C := RX4) (q0 := 0) (ci := 3) (As := [.int (zI x), .int (zI y)]) (rest := []) (x8W u a r q ++ (svW ct r b nx sz S ++ (sobjW a))) (benchW ct a M ++ (logW ct a M ++ (txtW ct q TX tl pl ft wd n1 n2))) hx hb hml hown hts hl hE hS hA hP hD (c_X4_checkLength l D ct ad a M x y (by assumption) (by omega) (by omega)) gX8_troubleWith_X4_checkLength rfl rfl k_X4_checkLength ⟨Nat.le_of_ble_eq_true rfl, Nat.le_of_ble_eq_true rfl⟩ rfl rfl rfl rfl (Nat.le_of_ble_eq_true rfl) ⟨Nat.le_of_ble_eq_true rfl, Nat.le_of_ble_eq_true rfl⟩ dX8_troubleWith_121 rfl (fun v w1 H locs hpost hP hD hS => ?_)
    obtain ⟨rfl, rfl⟩ := hpost
    have hP : va_P D vwCl (x8W u a r q ++ (svW ct r b nx sz S ++ (sobjW a ++ (gridW ct a M ++ (benchW ct a M ++ (logW ct a M ++ (txtW ct q TX tl pl ft wd n1 n2))))))) H := hP
    have hD : va_D A (x8W u a r q ++ (svW ct r b nx sz S ++ (sobjW a ++ (gridW ct a M ++ (benchW ct a M ++ (logW ct a M ++ (txtW ct q TX tl pl ft wd n1 n2))))))) := hD
    refine W.eq (g2 := F0 m 124 ls [.int (zI (ck_length M x y))]) rfl ?_
    exact z_iret hx hb hr hlocks hP hD hS ⟨Nat.le_of_ble_eq_true rfl, Nat.le_of_ble_eq_true rfl⟩ dX8_troubleWith_124 (⟨congrArg (fun z => some (Value.int (zI z))) (by rw [show c_ = 3 by omega]; rfl), rfl⟩)
  · refine z_tabIn (off := 111) (tgt := 125) hx hb dX8_troubleWith_14 5 hc_14 (by decide) (by decide) rfl (by decide) ?_
    refine lv_aload_n hx hb dX8_troubleWith_125 rfl (lv_at hl 0 rfl) ?_
    refine va_get (D := D) (ci := 6) (v := .ref (a 0)) (C := RX8) (T := TX8) (N := 3) hx hb hts hin_X8 hown hK hP 0 rfl rfl 0 (by decide) hf_7 (fun _ h9 => h9) rfl dX8_troubleWith_126 ?_
    refine va_get (D := D) (ci := 5) (v := .ref (a 6)) (C := RX6) (T := TX6) (N := 3) hx hb hts hin_X6 hown hK hP 47 rfl rfl 1 (by decide) hf_9 (fun _ h9 => h9) rfl dX8_troubleWith_129 ?_
    refine lv_iload_n hx hb dX8_troubleWith_132 rfl (lv_at hl 2 rfl) ?_
    refine lv_iload_n hx hb dX8_troubleWith_133 rfl (lv_at hl 3 rfl) ?_
    refine z_callV (C := RX1) (q0 := 0) (ci := 0) (As := [.int (zI x), .int (zI y)]) (rest := []) (x8W u a r q ++ (svW ct r b nx sz S ++ (sobjW a ++ (gridW ct a M)))) (logW ct a M ++ (txtW ct q TX tl pl ft wd n1 n2)) hx hb hml hown hts hl hE hS hA hP hD (c_X1_checkShelfWarmth l D ct ad a M x y (by omega) (by omega)) gX8_troubleWith_X1_checkShelfWarmth rfl rfl k_X1_checkShelfWarmth ⟨Nat.le_of_ble_eq_true rfl, Nat.le_of_ble_eq_true rfl⟩ rfl rfl rfl rfl (Nat.le_of_ble_eq_true rfl) ⟨Nat.le_of_ble_eq_true rfl, Nat.le_of_ble_eq_true rfl⟩ dX8_troubleWith_134 rfl (fun v w1 H locs hpost hP hD hS => ?_)
    obtain ⟨rfl, rfl⟩ := hpost
    have hP : va_P D vwCl (x8W u a r q ++ (svW ct r b nx sz S ++ (sobjW a ++ (gridW ct a M ++ (benchW ct a M ++ (logW ct a M ++ (txtW ct q TX tl pl ft wd n1 n2))))))) H := hP
    have hD : va_D A (x8W u a r q ++ (svW ct r b nx sz S ++ (sobjW a ++ (gridW ct a M ++ (benchW ct a M ++ (logW ct a M ++ (txtW ct q TX tl pl ft wd n1 n2))))))) := hD
    refine W.eq (g2 := F0 m 137 ls [.int (zI (ck_warm x y))]) rfl ?_
    exact z_iret hx hb hr hlocks hP hD hS ⟨Nat.le_of_ble_eq_true rfl, Nat.le_of_ble_eq_true rfl⟩ dX8_troubleWith_137 (⟨congrArg (fun z => some (Value.int (zI z))) (by rw [show c_ = 4 by omega]; rfl), rfl⟩)
  · refine z_tabIn (off := 124) (tgt := 138) hx hb dX8_troubleWith_14 6 hc_14 (by decide) (by decide) rfl (by decide) ?_
    refine lv_aload_n hx hb dX8_troubleWith_138 rfl (lv_at hl 0 rfl) ?_
    refine va_get (D := D) (ci := 6) (v := .ref (a 0)) (C := RX8) (T := TX8) (N := 3) hx hb hts hin_X8 hown hK hP 0 rfl rfl 0 (by decide) hf_7 (fun _ h9 => h9) rfl dX8_troubleWith_139 ?_
    refine va_get (D := D) (ci := 5) (v := .ref (a 6)) (C := RX6) (T := TX6) (N := 3) hx hb hts hin_X6 hown hK hP 47 rfl rfl 1 (by decide) hf_9 (fun _ h9 => h9) rfl dX8_troubleWith_142 ?_
    refine lv_iload_n hx hb dX8_troubleWith_145 rfl (lv_at hl 2 rfl) ?_
    refine lv_iload_n hx hb dX8_troubleWith_146 rfl (lv_at hl 3 rfl) ?_
    refine z_ineg hx hb dX8_troubleWith_147 ?_
    refine z_callV (C := RX1) (q0 := 0) (ci := 0) (As := [.int (zI x), .int (zI (-y))]) (rest := []) (x8W u a r q ++ (svW ct r b nx sz S ++ (sobjW a ++ (gridW ct a M)))) (logW ct a M ++ (txtW ct q TX tl pl ft wd n1 n2)) hx hb hml hown hts hl hE hS hA hP hD (c_X1_checkShelfWarmth l D ct ad a M x (-y) (by omega) (by omega)) gX8_troubleWith_X1_checkShelfWarmth rfl rfl k_X1_checkShelfWarmth ⟨Nat.le_of_ble_eq_true rfl, Nat.le_of_ble_eq_true rfl⟩ rfl rfl rfl rfl (Nat.le_of_ble_eq_true rfl) ⟨Nat.le_of_ble_eq_true rfl, Nat.le_of_ble_eq_true rfl⟩ dX8_troubleWith_148 rfl (fun v w1 H locs hpost hP hD hS => ?_)
    obtain ⟨rfl, rfl⟩ := hpost
    have hP : va_P D vwCl (x8W u a r q ++ (svW ct r b nx sz S ++ (sobjW a ++ (gridW ct a M ++ (benchW ct a M ++ (logW ct a M ++ (txtW ct q TX tl pl ft wd n1 n2))))))) H := hP
    have hD : va_D A (x8W u a r q ++ (svW ct r b nx sz S ++ (sobjW a ++ (gridW ct a M ++ (benchW ct a M ++ (logW ct a M ++ (txtW ct q TX tl pl ft wd n1 n2))))))) := hD
    refine W.eq (g2 := F0 m 151 ls [.int (zI (ck_warm x (-y)))]) rfl ?_
    exact z_iret hx hb hr hlocks hP hD hS ⟨Nat.le_of_ble_eq_true rfl, Nat.le_of_ble_eq_true rfl⟩ dX8_troubleWith_151 (⟨congrArg (fun z => some (Value.int (zI z))) (by rw [show c_ = 5 by omega]; rfl), rfl⟩)
  · refine z_tabIn (off := 138) (tgt := 152) hx hb dX8_troubleWith_14 7 hc_14 (by decide) (by decide) rfl (by decide) ?_
    refine lv_aload_n hx hb dX8_troubleWith_152 rfl (lv_at hl 0 rfl) ?_
    refine va_get (D := D) (ci := 6) (v := .ref (a 0)) (C := RX8) (T := TX8) (N := 3) hx hb hts hin_X8 hown hK hP 0 rfl rfl 0 (by decide) hf_7 (fun _ h9 => h9) rfl dX8_troubleWith_153 ?_
    refine va_get (D := D) (ci := 5) (v := .ref (a 6)) (C := RX6) (T := TX6) (N := 3) hx hb hts hin_X6 hown hK hP 47 rfl rfl 1 (by decide) hf_9 (fun _ h9 => h9) rfl dX8_troubleWith_156 ?_
    refine lv_iload_n hx hb dX8_troubleWith_159 rfl (lv_at hl 2 rfl) ?_
    refine z_callV (C := RX1) (q0 := 0) (ci := 0) (As := [.int (zI x)]) (rest := []) (x8W u a r q ++ (svW ct r b nx sz S ++ (sobjW a ++ (gridW ct a M)))) (logW ct a M ++ (txtW ct q TX tl pl ft wd n1 n2)) hx hb hml hown hts hl hE hS hA hP hD (c_X1_checkShelf l D ct ad a M x (by omega)) gX8_troubleWith_X1_checkShelf rfl rfl k_X1_checkShelf ⟨Nat.le_of_ble_eq_true rfl, Nat.le_of_ble_eq_true rfl⟩ rfl rfl rfl rfl (Nat.le_of_ble_eq_true rfl) ⟨Nat.le_of_ble_eq_true rfl, Nat.le_of_ble_eq_true rfl⟩ dX8_troubleWith_160 rfl (fun v w1 H locs hpost hP hD hS => ?_)
    obtain ⟨rfl, rfl⟩ := hpost
    have hP : va_P D vwCl (x8W u a r q ++ (svW ct r b nx sz S ++ (sobjW a ++ (gridW ct a M ++ (benchW ct a M ++ (logW ct a M ++ (txtW ct q TX tl pl ft wd n1 n2))))))) H := hP
    have hD : va_D A (x8W u a r q ++ (svW ct r b nx sz S ++ (sobjW a ++ (gridW ct a M ++ (benchW ct a M ++ (logW ct a M ++ (txtW ct q TX tl pl ft wd n1 n2))))))) := hD
    refine W.eq (g2 := F0 m 163 ls [.int (zI (ck_shelf x))]) rfl ?_
    exact z_iret hx hb hr hlocks hP hD hS ⟨Nat.le_of_ble_eq_true rfl, Nat.le_of_ble_eq_true rfl⟩ dX8_troubleWith_163 (⟨congrArg (fun z => some (Value.int (zI z))) (by rw [show c_ = 6 by omega]; rfl), rfl⟩)
  · refine z_tabIn (off := 150) (tgt := 164) hx hb dX8_troubleWith_14 8 hc_14 (by decide) (by decide) rfl (by decide) ?_
    refine lv_aload_n hx hb dX8_troubleWith_164 rfl (lv_at hl 0 rfl) ?_
    refine va_get (D := D) (ci := 6) (v := .ref (a 0)) (C := RX8) (T := TX8) (N := 3) hx hb hts hin_X8 hown hK hP 0 rfl rfl 0 (by decide) hf_7 (fun _ h9 => h9) rfl dX8_troubleWith_165 ?_
    refine va_get (D := D) (ci := 5) (v := .ref (a 6)) (C := RX6) (T := TX6) (N := 3) hx hb hts hin_X6 hown hK hP 47 rfl rfl 1 (by decide) hf_9 (fun _ h9 => h9) rfl dX8_troubleWith_168 ?_
    refine lv_iload_n hx hb dX8_troubleWith_171 rfl (lv_at hl 2 rfl) ?_
    refine z_callV (C := RX1) (q0 := 0) (ci := 0) (As := [.int (zI x)]) (rest := []) (x8W u a r q ++ (svW ct r b nx sz S ++ (sobjW a ++ (gridW ct a M)))) (logW ct a M ++ (txtW ct q TX tl pl ft wd n1 n2)) hx hb hml hown hts hl hE hS hA hP hD (c_X1_checkTurn l D ct ad a M x (by assumption) (by omega)) gX8_troubleWith_X1_checkTurn rfl rfl k_X1_checkTurn ⟨Nat.le_of_ble_eq_true rfl, Nat.le_of_ble_eq_true rfl⟩ rfl rfl rfl rfl (Nat.le_of_ble_eq_true rfl) ⟨Nat.le_of_ble_eq_true rfl, Nat.le_of_ble_eq_true rfl⟩ dX8_troubleWith_172 rfl (fun v w1 H locs hpost hP hD hS => ?_)
    obtain ⟨rfl, rfl⟩ := hpost
    have hP : va_P D vwCl (x8W u a r q ++ (svW ct r b nx sz S ++ (sobjW a ++ (gridW ct a M ++ (benchW ct a M ++ (logW ct a M ++ (txtW ct q TX tl pl ft wd n1 n2))))))) H := hP
    have hD : va_D A (x8W u a r q ++ (svW ct r b nx sz S ++ (sobjW a ++ (gridW ct a M ++ (benchW ct a M ++ (logW ct a M ++ (txtW ct q TX tl pl ft wd n1 n2))))))) := hD
    refine W.eq (g2 := F0 m 175 ls [.int (zI (ck_turn M x))]) rfl ?_
    exact z_iret hx hb hr hlocks hP hD hS ⟨Nat.le_of_ble_eq_true rfl, Nat.le_of_ble_eq_true rfl⟩ dX8_troubleWith_175 (⟨congrArg (fun z => some (Value.int (zI z))) (by rw [show c_ = 7 by omega]; rfl), rfl⟩)
  · refine z_tabIn (off := 162) (tgt := 176) hx hb dX8_troubleWith_14 9 hc_14 (by decide) (by decide) rfl (by decide) ?_
    refine lv_aload_n hx hb dX8_troubleWith_176 rfl (lv_at hl 0 rfl) ?_
    refine va_get (D := D) (ci := 6) (v := .ref (a 0)) (C := RX8) (T := TX8) (N := 3) hx hb hts hin_X8 hown hK hP 0 rfl rfl 0 (by decide) hf_7 (fun _ h9 => h9) rfl dX8_troubleWith_177 ?_
    refine va_get (D := D) (ci := 5) (v := .ref (a 6)) (C := RX6) (T := TX6) (N := 3) hx hb hts hin_X6 hown hK hP 47 rfl rfl 1 (by decide) hf_9 (fun _ h9 => h9) rfl dX8_troubleWith_180 ?_
    refine lv_iload_n hx hb dX8_troubleWith_183 rfl (lv_at hl 2 rfl) ?_
    refine z_ineg hx hb dX8_troubleWith_184 ?_
    refine z_callV (C := RX1) (q0 := 0) (ci := 0) (As := [.int (zI (-x))]) (rest := []) (x8W u a r q ++ (svW ct r b nx sz S ++ (sobjW a ++ (gridW ct a M)))) (logW ct a M ++ (txtW ct q TX tl pl ft wd n1 n2)) hx hb hml hown hts hl hE hS hA hP hD (c_X1_checkTurn l D ct ad a M (-x) (by assumption) (by omega)) gX8_troubleWith_X1_checkTurn rfl rfl k_X1_checkTurn ⟨Nat.le_of_ble_eq_true rfl, Nat.le_of_ble_eq_true rfl⟩ rfl rfl rfl rfl (Nat.le_of_ble_eq_true rfl) ⟨Nat.le_of_ble_eq_true rfl, Nat.le_of_ble_eq_true rfl⟩ dX8_troubleWith_185 rfl (fun v w1 H locs hpost hP hD hS => ?_)
    obtain ⟨rfl, rfl⟩ := hpost
    have hP : va_P D vwCl (x8W u a r q ++ (svW ct r b nx sz S ++ (sobjW a ++ (gridW ct a M ++ (benchW ct a M ++ (logW ct a M ++ (txtW ct q TX tl pl ft wd n1 n2))))))) H := hP
    have hD : va_D A (x8W u a r q ++ (svW ct r b nx sz S ++ (sobjW a ++ (gridW ct a M ++ (benchW ct a M ++ (logW ct a M ++ (txtW ct q TX tl pl ft wd n1 n2))))))) := hD
    refine W.eq (g2 := F0 m 188 ls [.int (zI (ck_turn M (-x)))]) rfl ?_
    exact z_iret hx hb hr hlocks hP hD hS ⟨Nat.le_of_ble_eq_true rfl, Nat.le_of_ble_eq_true rfl⟩ dX8_troubleWith_188 (⟨congrArg (fun z => some (Value.int (zI z))) (by rw [show c_ = 8 by omega]; rfl), rfl⟩)
  · refine z_tabIn (off := 175) (tgt := 189) hx hb dX8_troubleWith_14 10 hc_14 (by decide) (by decide) rfl (by decide) ?_
    refine lv_aload_n hx hb dX8_troubleWith_189 rfl (lv_at hl 0 rfl) ?_
    refine va_get (D := D) (ci := 6) (v := .ref (a 0)) (C := RX8) (T := TX8) (N := 3) hx hb hts hin_X8 hown hK hP 0 rfl rfl 0 (by decide) hf_7 (fun _ h9 => h9) rfl dX8_troubleWith_190 ?_
    refine va_get (D := D) (ci := 5) (v := .ref (a 6)) (C := RX6) (T := TX6) (N := 3) hx hb hts hin_X6 hown hK hP 47 rfl rfl 1 (by decide) hf_9 (fun _ h9 => h9) rfl dX8_troubleWith_193 ?_
    refine lv_iload_n hx hb dX8_troubleWith_196 rfl (lv_at hl 2 rfl) ?_
    refine lv_iload_n hx hb dX8_troubleWith_197 rfl (lv_at hl 3 rfl) ?_
    refine z_callV (C := RX1) (q0 := 0) (ci := 0) (As := [.int (zI x), .int (zI y)]) (rest := []) (x8W u a r q ++ (svW ct r b nx sz S ++ (sobjW a ++ (gridW ct a M)))) (logW ct a M ++ (txtW ct q TX tl pl ft wd n1 n2)) hx hb hml hown hts hl hE hS hA hP hD (c_X1_checkSetting l D ct ad a M x y (by omega) (by omega)) gX8_troubleWith_X1_checkSetting rfl rfl k_X1_checkSetting ⟨Nat.le_of_ble_eq_true rfl, Nat.le_of_ble_eq_true rfl⟩ rfl rfl rfl rfl (Nat.le_of_ble_eq_true rfl) ⟨Nat.le_of_ble_eq_true rfl, Nat.le_of_ble_eq_true rfl⟩ dX8_troubleWith_198 rfl (fun v w1 H locs hpost hP hD hS => ?_)
    obtain ⟨rfl, rfl⟩ := hpost
    have hP : va_P D vwCl (x8W u a r q ++ (svW ct r b nx sz S ++ (sobjW a ++ (gridW ct a M ++ (benchW ct a M ++ (logW ct a M ++ (txtW ct q TX tl pl ft wd n1 n2))))))) H := hP
    have hD : va_D A (x8W u a r q ++ (svW ct r b nx sz S ++ (sobjW a ++ (gridW ct a M ++ (benchW ct a M ++ (logW ct a M ++ (txtW ct q TX tl pl ft wd n1 n2))))))) := hD
    refine W.eq (g2 := F0 m 201 ls [.int (zI (ck_set x y))]) rfl ?_
    exact z_iret hx hb hr hlocks hP hD hS ⟨Nat.le_of_ble_eq_true rfl, Nat.le_of_ble_eq_true rfl⟩ dX8_troubleWith_201 (⟨congrArg (fun z => some (Value.int (zI z))) (by rw [show c_ = 10 by omega]; rfl), rfl⟩)
  · refine z_tabIn (off := 188) (tgt := 202) hx hb dX8_troubleWith_14 11 hc_14 (by decide) (by decide) rfl (by decide) ?_
    refine lv_aload_n hx hb dX8_troubleWith_202 rfl (lv_at hl 0 rfl) ?_
    refine va_get (D := D) (ci := 6) (v := .ref (a 0)) (C := RX8) (T := TX8) (N := 3) hx hb hts hin_X8 hown hK hP 0 rfl rfl 0 (by decide) hf_7 (fun _ h9 => h9) rfl dX8_troubleWith_203 ?_
    refine va_get (D := D) (ci := 5) (v := .ref (a 6)) (C := RX6) (T := TX6) (N := 3) hx hb hts hin_X6 hown hK hP 47 rfl rfl 1 (by decide) hf_9 (fun _ h9 => h9) rfl dX8_troubleWith_206 ?_
    refine lv_iload_n hx hb dX8_troubleWith_209 rfl (lv_at hl 2 rfl) ?_
    refine z_callV (C := RX1) (q0 := 0) (ci := 0) (As := [.int (zI x)]) (rest := []) (x8W u a r q ++ (svW ct r b nx sz S ++ (sobjW a ++ (gridW ct a M)))) (logW ct a M ++ (txtW ct q TX tl pl ft wd n1 n2)) hx hb hml hown hts hl hE hS hA hP hD (c_X1_checkHours l D ct ad a M x (by assumption) (by omega)) gX8_troubleWith_X1_checkHours rfl rfl k_X1_checkHours ⟨Nat.le_of_ble_eq_true rfl, Nat.le_of_ble_eq_true rfl⟩ rfl rfl rfl rfl (Nat.le_of_ble_eq_true rfl) ⟨Nat.le_of_ble_eq_true rfl, Nat.le_of_ble_eq_true rfl⟩ dX8_troubleWith_210 rfl (fun v w1 H locs hpost hP hD hS => ?_)
    obtain ⟨rfl, rfl⟩ := hpost
    have hP : va_P D vwCl (x8W u a r q ++ (svW ct r b nx sz S ++ (sobjW a ++ (gridW ct a M ++ (benchW ct a M ++ (logW ct a M ++ (txtW ct q TX tl pl ft wd n1 n2))))))) H := hP
    have hD : va_D A (x8W u a r q ++ (svW ct r b nx sz S ++ (sobjW a ++ (gridW ct a M ++ (benchW ct a M ++ (logW ct a M ++ (txtW ct q TX tl pl ft wd n1 n2))))))) := hD
    refine W.eq (g2 := F0 m 213 ls [.int (zI (ck_hours M x))]) rfl ?_
    exact z_iret hx hb hr hlocks hP hD hS ⟨Nat.le_of_ble_eq_true rfl, Nat.le_of_ble_eq_true rfl⟩ dX8_troubleWith_213 (⟨congrArg (fun z => some (Value.int (zI z))) (by rw [show c_ = 11 by omega]; rfl), rfl⟩)
  · refine z_tabOut (tgt := 214) hx hb dX8_troubleWith_14 (by omega) (by omega) (by decide) ?_
    refine z_iconst hx hb dX8_troubleWith_214 ?_
    exact z_iret hx hb hr hlocks hP hD hS ⟨Nat.le_of_ble_eq_true rfl, Nat.le_of_ble_eq_true rfl⟩ dX8_troubleWith_215 (⟨congrArg (fun z => some (Value.int (zI z))) (by rw [show c_ = 9 by omega]; rfl), rfl⟩)
