theorem k_X1_changeNut : yX1_changeNut.cls ≠ "java/lang/invoke/MethodHandle" ∧ yX1_changeNut.cls ≠ "java/lang/invoke/VarHandle" ∧ (parseMethodDescriptor yX1_changeNut.desc).map (fun d => d.parameters.length) = some 1 := by decide +kernel
theorem k_X1_changeSetting : yX1_changeSetting.cls ≠ "java/lang/invoke/MethodHandle" ∧ yX1_changeSetting.cls ≠ "java/lang/invoke/VarHandle" ∧ (parseMethodDescriptor yX1_changeSetting.desc).map (fun d => d.parameters.length) = some 2 := by decide +kernel
theorem k_X1_changeShelf : yX1_changeShelf.cls ≠ "java/lang/invoke/MethodHandle" ∧ yX1_changeShelf.cls ≠ "java/lang/invoke/VarHandle" ∧ (parseMethodDescriptor yX1_changeShelf.desc).map (fun d => d.parameters.length) = some 1 := by decide +kernel
theorem k_X1_changeShelfWarmth : yX1_changeShelfWarmth.cls ≠ "java/lang/invoke/MethodHandle" ∧ yX1_changeShelfWarmth.cls ≠ "java/lang/invoke/VarHandle" ∧ (parseMethodDescriptor yX1_changeShelfWarmth.desc).map (fun d => d.parameters.length) = some 2 := by decide +kernel
theorem k_X1_fillDrive : yX1_fillDrive.cls ≠ "java/lang/invoke/MethodHandle" ∧ yX1_fillDrive.cls ≠ "java/lang/invoke/VarHandle" ∧ (parseMethodDescriptor yX1_fillDrive.desc).map (fun d => d.parameters.length) = some 0 := by decide +kernel
theorem k_X4_appendMetal : yX4_appendMetal.cls ≠ "java/lang/invoke/MethodHandle" ∧ yX4_appendMetal.cls ≠ "java/lang/invoke/VarHandle" ∧ (parseMethodDescriptor yX4_appendMetal.desc).map (fun d => d.parameters.length) = some 1 := by decide +kernel
theorem k_X4_appendRod : yX4_appendRod.cls ≠ "java/lang/invoke/MethodHandle" ∧ yX4_appendRod.cls ≠ "java/lang/invoke/VarHandle" ∧ (parseMethodDescriptor yX4_appendRod.desc).map (fun d => d.parameters.length) = some 3 := by decide +kernel
theorem k_X4_changeLength : yX4_changeLength.cls ≠ "java/lang/invoke/MethodHandle" ∧ yX4_changeLength.cls ≠ "java/lang/invoke/VarHandle" ∧ (parseMethodDescriptor yX4_changeLength.desc).map (fun d => d.parameters.length) = some 2 := by decide +kernel
theorem k_X6_passHours : yX6_passHours.cls ≠ "java/lang/invoke/MethodHandle" ∧ yX6_passHours.cls ≠ "java/lang/invoke/VarHandle" ∧ (parseMethodDescriptor yX6_passHours.desc).map (fun d => d.parameters.length) = some 1 := by decide +kernel
set_option maxHeartbeats 4000000 in
set_option maxRecDepth 100000 in
theorem c_X8_carryOut (l : Launch) (D : va_G) (ct ad : Nat → Nat) (u : Nat) (a r q : Nat → Nat) (b : Nat → Nat → Nat) (nx sz : Int) (S : Nat → Int → Int) (M TX : Int → Int) (tl pl ft n1 n2 : Int) (wd : Value) (c_ x y : Int) (hs : sInv M) (hc : 0 ≤ c_ ∧ c_ ≤ 11) (hx_ : 0 ≤ x ∧ x ≤ 9999999) (hy_ : 0 ≤ y ∧ y ≤ 9999999) (hok : ckc M c_ x y = 0) : ZM l yX8_carryOut wsX8_carryOut ({ frames := 5, cells := 0, slots := 0, locals := 122 } : Room) D ct ad [.ref u, .ref (ad c_.toNat), .int (zI x), .int (zI y)] (x8W u a r q ++ (svW ct r b nx sz S ++ (sobjW a ++ (gridW ct a M ++ (benchW ct a M ++ (logW ct a M ++ (txtW ct q TX tl pl ft wd n1 n2))))))) (zD none (x8W u a r q ++ (svW ct r b nx sz S ++ (sobjW a ++ (gridW ct a (stc M c_ x y) ++ (benchW ct a (stc M c_ x y) ++ (logW ct a (stc M c_ x y) ++ (txtW ct q TX tl pl ft wd n1 n2)))))))) := by
  refine ZM.of (cc := cX8_carryOut) (maxL := 4) (ret := none) (by decide +kernel) rfl (Nat.le_of_ble_eq_true rfl) ?_
  intro p e s m below meth c A ls hx hb hr hts hown hlocks hml hname hE hP hD hA hS hl
  have hK := hE.1
  have hf_0 := hts (.fieldLink RX8 299 "RodGrids$1" "$SwitchMap$RodGrids$Word" "[I") (by decide +kernel)
  have hf_1 := hts (.methodLink RX8 305 ⟨"RodGrids$Word", "ordinal", "()I"⟩) (by decide +kernel)
  have hf_2 := hts (.sameMethod "RodGrids$Word" "java/lang/Enum" "ordinal" "()I") (by decide +kernel)
  have hf_3 := hts (.selects RX7 ⟨"RodGrids$Word", "ordinal", "()I"⟩ yJx29ce0_ordinal_8abf5) (by decide +kernel)
  have hf_4 := hts (.instanceMethod yJx29ce0_ordinal_8abf5) (by decide +kernel)
  have hf_5 := hts (.code yJx29ce0_ordinal_8abf5 cJx29ce0_ordinal_8abf5 1 (some .int)) (by decide +kernel)
  have hf_6 := hts (.fieldLink RJx29ce0 7 "java/lang/Enum" "ordinal" "I") (by decide +kernel)
  have hf_7 := hts (.fieldLink RX8 10 "RodGrids" "state" "LRodGrids$State;") (by decide +kernel)
  have hf_8 := hts (.fieldLink RX8 30 "RodGrids$State" "grid" "LRodGrids$Grid;") (by decide +kernel)
  have hf_9 := hts (.fieldLink RX8 77 "RodGrids$State" "bench" "LRodGrids$Bench;") (by decide +kernel)
  have hin_X6 : ∀ z ∈ u_ws RX6 TX6 3, z ∈ wsX8_carryOut := by decide +kernel
  have hin_X8 : ∀ z ∈ u_ws RX8 TX8 3, z ∈ wsX8_carryOut := by decide +kernel
  have hl : lv_has ls 4 [(0, .ref u), (1, .ref (ad c_.toNat)), (2, .int (zI x)), (3, .int (zI y))] := hl
  have hI := hs.1
  have hB := hs.2.1
  have ha := hs.2.2
  have i3 := hI.1
  have i4 := hI.2.1
  have j0 := hB.1
  have j1 := hB.2.1
  have j2 := hB.2.2.1
  have j4 := hB.2.2.2.2
  have hk9 : c_.toNat < 12 := by omega
  have ho := zOrd_w hc
  refine lv_aload_n hx hb dX8_carryOut_0 rfl (lv_at hl 1 rfl) ?_
  refine lv_ifnonnull (tgt := 5) hx hb dX8_carryOut_1 (by decide) ?_
  refine va_gets (C := "RodGrids$1") (n := "$SwitchMap$RodGrids$Word") (d := "[I") hx hb hE.2.2.1.2.1.2.1.1 hS hown hf_0 (fun _ h9 => h9) dX8_carryOut_5 ?_
  refine lv_aload_n hx hb dX8_carryOut_8 rfl (lv_at hl 1 rfl) ?_
  refine z_ord (k := c_.toNat) hx hb hml hl hown hf_1 hf_2 hf_3 hf_4 hf_5 hf_6 hE hS hk9 ⟨Nat.le_of_ble_eq_true rfl, Nat.le_of_ble_eq_true rfl⟩ (Nat.le_of_ble_eq_true rfl) ⟨Nat.le_of_ble_eq_true rfl, Nat.le_of_ble_eq_true rfl⟩ dX8_carryOut_9 ?_
  refine z_ialdT hx hb (hE.2.2.1.2.1.2.1.2) hS (by omega) (by decide) dX8_carryOut_12 ?_
  refine z_canI (show zSwm (zOrd c_.toNat).toNat = (if c_ = 9 then 12 else if c_ = 10 then 10 else if c_ = 11 then 11 else c_ + 1) from zSw_w hc) ?_
  obtain ⟨k_, hk_⟩ : ∃ k_ : Int, k_ = (if c_ = 9 then 12 else if c_ = 10 then 10 else if c_ = 11 then 11 else c_ + 1) := ⟨_, rfl⟩
  refine z_canI (show (if c_ = 9 then 12 else if c_ = 10 then 10 else if c_ = 11 then 11 else c_ + 1) = k_ from hk_.symm) ?_
  rcases (show k_ = 1 ∨ k_ = 2 ∨ k_ = 3 ∨ k_ = 4 ∨ k_ = 5 ∨ k_ = 6 ∨ k_ = 7 ∨ k_ = 8 ∨ k_ = 9 ∨ k_ = 10 ∨ k_ = 11 ∨ k_ = 12 ∨ (k_ < 1 ∨ 12 < k_) from (by omega)) with hc_13 | hc_13 | hc_13 | hc_13 | hc_13 | hc_13 | hc_13 | hc_13 | hc_13 | hc_13 | hc_13 | hc_13 | hc_13
  · refine z_tabIn (off := 63) (tgt := 76) hx hb dX8_carryOut_13 1 hc_13 (by decide) (by decide) rfl (by decide) ?_
    have cK : c_ = 0 := by omega
    have fk : M 3 < 6 ∧ 0 ≤ x ∧ x ≤ 500 := by have q9 := hok; rw [cK, show ckc M _ x y = ck_metal M x from rfl] at q9; unfold ck_metal at q9; (repeat' split at q9) <;> omega
    refine lv_aload_n hx hb dX8_carryOut_76 rfl (lv_at hl 0 rfl) ?_
    refine va_get (D := D) (ci := 6) (v := .ref (a 0)) (C := RX8) (T := TX8) (N := 3) hx hb hts hin_X8 hown hK hP 0 rfl rfl 0 (by decide) hf_7 (fun _ h9 => h9) rfl dX8_carryOut_77 ?_
    refine va_get (D := D) (ci := 5) (v := .ref (a 1)) (C := RX6) (T := TX6) (N := 3) hx hb hts hin_X6 hown hK hP 47 rfl rfl 0 (by decide) hf_8 (fun _ h9 => h9) rfl dX8_carryOut_80 ?_
    refine lv_iload_n hx hb dX8_carryOut_83 rfl (lv_at hl 2 rfl) ?_
    refine z_callV (C := RX4) (q0 := 0) (ci := 3) (As := [.int (zI x)]) (rest := []) (x8W u a r q ++ (svW ct r b nx sz S ++ (sobjW a))) (benchW ct a M ++ (logW ct a M ++ (txtW ct q TX tl pl ft wd n1 n2))) hx hb hml hown hts hl hE hS hA hP hD (c_X4_appendMetal l D ct ad a M x (by assumption) (by omega)) gX8_carryOut_X4_appendMetal rfl rfl k_X4_appendMetal ⟨Nat.le_of_ble_eq_true rfl, Nat.le_of_ble_eq_true rfl⟩ rfl rfl rfl rfl (Nat.le_of_ble_eq_true rfl) ⟨Nat.le_of_ble_eq_true rfl, Nat.le_of_ble_eq_true rfl⟩ dX8_carryOut_84 rfl (fun v w1 H locs hpost hP hD hS => ?_)
    obtain ⟨rfl, rfl⟩ := hpost
    have hP : va_P D vwCl (x8W u a r q ++ (svW ct r b nx sz S ++ (sobjW a ++ (gridW ct a (st_metal M x) ++ (benchW ct a M ++ (logW ct a M ++ (txtW ct q TX tl pl ft wd n1 n2))))))) H := hP
    have hD : va_D A (x8W u a r q ++ (svW ct r b nx sz S ++ (sobjW a ++ (gridW ct a (st_metal M x) ++ (benchW ct a M ++ (logW ct a M ++ (txtW ct q TX tl pl ft wd n1 n2))))))) := hD
    have hP : va_P D vwCl (x8W u a r q ++ (svW ct r b nx sz S ++ (sobjW a ++ (gridW ct a (st_metal M x) ++ (benchW ct a (st_metal M x) ++ (logW ct a (st_metal M x) ++ (txtW ct q TX tl pl ft wd n1 n2))))))) H := by rw [benchW_ag (M := M) (N := (st_metal M x)) (fun j hj => metal_n (by omega) (by omega) (by omega)), logW_ag (M := M) (N := (st_metal M x)) (fun j hj => metal_n (by omega) (by omega) (by omega))]; exact hP
    have hD : va_D A (x8W u a r q ++ (svW ct r b nx sz S ++ (sobjW a ++ (gridW ct a (st_metal M x) ++ (benchW ct a (st_metal M x) ++ (logW ct a (st_metal M x) ++ (txtW ct q TX tl pl ft wd n1 n2))))))) := by rw [benchW_ag (M := M) (N := (st_metal M x)) (fun j hj => metal_n (by omega) (by omega) (by omega)), logW_ag (M := M) (N := (st_metal M x)) (fun j hj => metal_n (by omega) (by omega) (by omega))]; exact hD
    refine W.eq (g2 := F0 m 87 ls [.int (zI (M 3))]) rfl ?_
    refine lv_pop hx hb dX8_carryOut_87 rfl ?_
    refine lv_goto (tgt := 262) hx hb dX8_carryOut_88 (by decide) ?_
    exact z_vret hx hb hr hlocks hP hD hS ⟨Nat.le_of_ble_eq_true rfl, Nat.le_of_ble_eq_true rfl⟩ dX8_carryOut_262 (⟨rfl, by first | (rw [cK]; rfl) | (exfalso; omega)⟩)
  · refine z_tabIn (off := 78) (tgt := 91) hx hb dX8_carryOut_13 2 hc_13 (by decide) (by decide) rfl (by decide) ?_
    have cK : c_ = 1 := by omega
    have fk : M 4 < 9 ∧ (0 ≤ x ∧ x < M 3) ∧ 1 ≤ y ∧ y ≤ 1000000 := by have q9 := hok; rw [cK, show ckc M _ x y = ck_rod M x 1 y from rfl] at q9; unfold ck_rod at q9; (repeat' split at q9) <;> omega
    refine lv_aload_n hx hb dX8_carryOut_91 rfl (lv_at hl 0 rfl) ?_
    refine va_get (D := D) (ci := 6) (v := .ref (a 0)) (C := RX8) (T := TX8) (N := 3) hx hb hts hin_X8 hown hK hP 0 rfl rfl 0 (by decide) hf_7 (fun _ h9 => h9) rfl dX8_carryOut_92 ?_
    refine va_get (D := D) (ci := 5) (v := .ref (a 1)) (C := RX6) (T := TX6) (N := 3) hx hb hts hin_X6 hown hK hP 47 rfl rfl 0 (by decide) hf_8 (fun _ h9 => h9) rfl dX8_carryOut_95 ?_
    refine lv_iload_n hx hb dX8_carryOut_98 rfl (lv_at hl 2 rfl) ?_
    refine z_iconst hx hb dX8_carryOut_99 ?_
    refine lv_iload_n hx hb dX8_carryOut_100 rfl (lv_at hl 3 rfl) ?_
    refine z_callV (C := RX4) (q0 := 0) (ci := 3) (As := [.int (zI x), .int (zI 1), .int (zI y)]) (rest := []) (x8W u a r q ++ (svW ct r b nx sz S ++ (sobjW a))) (benchW ct a M ++ (logW ct a M ++ (txtW ct q TX tl pl ft wd n1 n2))) hx hb hml hown hts hl hE hS hA hP hD (c_X4_appendRod l D ct ad a M x 1 y (by assumption) (by omega)) gX8_carryOut_X4_appendRod rfl rfl k_X4_appendRod ⟨Nat.le_of_ble_eq_true rfl, Nat.le_of_ble_eq_true rfl⟩ rfl rfl rfl rfl (Nat.le_of_ble_eq_true rfl) ⟨Nat.le_of_ble_eq_true rfl, Nat.le_of_ble_eq_true rfl⟩ dX8_carryOut_101 rfl (fun v w1 H locs hpost hP hD hS => ?_)
    obtain ⟨rfl, rfl⟩ := hpost
    have hP : va_P D vwCl (x8W u a r q ++ (svW ct r b nx sz S ++ (sobjW a ++ (gridW ct a (st_rod M x 1 y) ++ (benchW ct a M ++ (logW ct a M ++ (txtW ct q TX tl pl ft wd n1 n2))))))) H := hP
    have hD : va_D A (x8W u a r q ++ (svW ct r b nx sz S ++ (sobjW a ++ (gridW ct a (st_rod M x 1 y) ++ (benchW ct a M ++ (logW ct a M ++ (txtW ct q TX tl pl ft wd n1 n2))))))) := hD
    have hP : va_P D vwCl (x8W u a r q ++ (svW ct r b nx sz S ++ (sobjW a ++ (gridW ct a (st_rod M x 1 y) ++ (benchW ct a (st_rod M x 1 y) ++ (logW ct a (st_rod M x 1 y) ++ (txtW ct q TX tl pl ft wd n1 n2))))))) H := by rw [benchW_ag (M := M) (N := (st_rod M x 1 y)) (fun j hj => rod_n (by omega) (by omega) (by omega)), logW_ag (M := M) (N := (st_rod M x 1 y)) (fun j hj => rod_n (by omega) (by omega) (by omega))]; exact hP
    have hD : va_D A (x8W u a r q ++ (svW ct r b nx sz S ++ (sobjW a ++ (gridW ct a (st_rod M x 1 y) ++ (benchW ct a (st_rod M x 1 y) ++ (logW ct a (st_rod M x 1 y) ++ (txtW ct q TX tl pl ft wd n1 n2))))))) := by rw [benchW_ag (M := M) (N := (st_rod M x 1 y)) (fun j hj => rod_n (by omega) (by omega) (by omega)), logW_ag (M := M) (N := (st_rod M x 1 y)) (fun j hj => rod_n (by omega) (by omega) (by omega))]; exact hD
    refine W.eq (g2 := F0 m 104 ls [.int (zI (M 4))]) rfl ?_
    refine lv_pop hx hb dX8_carryOut_104 rfl ?_
    refine lv_goto (tgt := 262) hx hb dX8_carryOut_105 (by decide) ?_
    exact z_vret hx hb hr hlocks hP hD hS ⟨Nat.le_of_ble_eq_true rfl, Nat.le_of_ble_eq_true rfl⟩ dX8_carryOut_262 (⟨rfl, by first | (rw [cK]; rfl) | (exfalso; omega)⟩)
  · refine z_tabIn (off := 95) (tgt := 108) hx hb dX8_carryOut_13 3 hc_13 (by decide) (by decide) rfl (by decide) ?_
    have cK : c_ = 2 := by omega
    have fk : M 4 < 9 ∧ (0 ≤ x ∧ x < M 3) ∧ 1 ≤ y ∧ y ≤ 1000000 := by have q9 := hok; rw [cK, show ckc M _ x y = ck_rod M x (-1) y from rfl] at q9; unfold ck_rod at q9; (repeat' split at q9) <;> omega
    refine lv_aload_n hx hb dX8_carryOut_108 rfl (lv_at hl 0 rfl) ?_
    refine va_get (D := D) (ci := 6) (v := .ref (a 0)) (C := RX8) (T := TX8) (N := 3) hx hb hts hin_X8 hown hK hP 0 rfl rfl 0 (by decide) hf_7 (fun _ h9 => h9) rfl dX8_carryOut_109 ?_
    refine va_get (D := D) (ci := 5) (v := .ref (a 1)) (C := RX6) (T := TX6) (N := 3) hx hb hts hin_X6 hown hK hP 47 rfl rfl 0 (by decide) hf_8 (fun _ h9 => h9) rfl dX8_carryOut_112 ?_
    refine lv_iload_n hx hb dX8_carryOut_115 rfl (lv_at hl 2 rfl) ?_
    refine z_iconst hx hb dX8_carryOut_116 ?_
    refine lv_iload_n hx hb dX8_carryOut_117 rfl (lv_at hl 3 rfl) ?_
    refine z_callV (C := RX4) (q0 := 0) (ci := 3) (As := [.int (zI x), .int (zI (-1)), .int (zI y)]) (rest := []) (x8W u a r q ++ (svW ct r b nx sz S ++ (sobjW a))) (benchW ct a M ++ (logW ct a M ++ (txtW ct q TX tl pl ft wd n1 n2))) hx hb hml hown hts hl hE hS hA hP hD (c_X4_appendRod l D ct ad a M x (-1) y (by assumption) (by omega)) gX8_carryOut_X4_appendRod rfl rfl k_X4_appendRod ⟨Nat.le_of_ble_eq_true rfl, Nat.le_of_ble_eq_true rfl⟩ rfl rfl rfl rfl (Nat.le_of_ble_eq_true rfl) ⟨Nat.le_of_ble_eq_true rfl, Nat.le_of_ble_eq_true rfl⟩ dX8_carryOut_118 rfl (fun v w1 H locs hpost hP hD hS => ?_)
    obtain ⟨rfl, rfl⟩ := hpost
    have hP : va_P D vwCl (x8W u a r q ++ (svW ct r b nx sz S ++ (sobjW a ++ (gridW ct a (st_rod M x (-1) y) ++ (benchW ct a M ++ (logW ct a M ++ (txtW ct q TX tl pl ft wd n1 n2))))))) H := hP
    have hD : va_D A (x8W u a r q ++ (svW ct r b nx sz S ++ (sobjW a ++ (gridW ct a (st_rod M x (-1) y) ++ (benchW ct a M ++ (logW ct a M ++ (txtW ct q TX tl pl ft wd n1 n2))))))) := hD
    have hP : va_P D vwCl (x8W u a r q ++ (svW ct r b nx sz S ++ (sobjW a ++ (gridW ct a (st_rod M x (-1) y) ++ (benchW ct a (st_rod M x (-1) y) ++ (logW ct a (st_rod M x (-1) y) ++ (txtW ct q TX tl pl ft wd n1 n2))))))) H := by rw [benchW_ag (M := M) (N := (st_rod M x (-1) y)) (fun j hj => rod_n (by omega) (by omega) (by omega)), logW_ag (M := M) (N := (st_rod M x (-1) y)) (fun j hj => rod_n (by omega) (by omega) (by omega))]; exact hP
    have hD : va_D A (x8W u a r q ++ (svW ct r b nx sz S ++ (sobjW a ++ (gridW ct a (st_rod M x (-1) y) ++ (benchW ct a (st_rod M x (-1) y) ++ (logW ct a (st_rod M x (-1) y) ++ (txtW ct q TX tl pl ft wd n1 n2))))))) := by rw [benchW_ag (M := M) (N := (st_rod M x (-1) y)) (fun j hj => rod_n (by omega) (by omega) (by omega)), logW_ag (M := M) (N := (st_rod M x (-1) y)) (fun j hj => rod_n (by omega) (by omega) (by omega))]; exact hD
    refine W.eq (g2 := F0 m 121 ls [.int (zI (M 4))]) rfl ?_
    refine lv_pop hx hb dX8_carryOut_121 rfl ?_
    refine lv_goto (tgt := 262) hx hb dX8_carryOut_122 (by decide) ?_
    exact z_vret hx hb hr hlocks hP hD hS ⟨Nat.le_of_ble_eq_true rfl, Nat.le_of_ble_eq_true rfl⟩ dX8_carryOut_262 (⟨rfl, by first | (rw [cK]; rfl) | (exfalso; omega)⟩)
  · refine z_tabIn (off := 112) (tgt := 125) hx hb dX8_carryOut_13 4 hc_13 (by decide) (by decide) rfl (by decide) ?_
    have cK : c_ = 3 := by omega
    have fk : (0 ≤ x ∧ x < M 4) ∧ 1 ≤ y ∧ y ≤ 1000000 := by have q9 := hok; rw [cK, show ckc M _ x y = ck_length M x y from rfl] at q9; unfold ck_length at q9; (repeat' split at q9) <;> omega
    refine lv_aload_n hx hb dX8_carryOut_125 rfl (lv_at hl 0 rfl) ?_
    refine va_get (D := D) (ci := 6) (v := .ref (a 0)) (C := RX8) (T := TX8) (N := 3) hx hb hts hin_X8 hown hK hP 0 rfl rfl 0 (by decide) hf_7 (fun _ h9 => h9) rfl dX8_carryOut_126 ?_
    refine va_get (D := D) (ci := 5) (v := .ref (a 1)) (C := RX6) (T := TX6) (N := 3) hx hb hts hin_X6 hown hK hP 47 rfl rfl 0 (by decide) hf_8 (fun _ h9 => h9) rfl dX8_carryOut_129 ?_
    refine lv_iload_n hx hb dX8_carryOut_132 rfl (lv_at hl 2 rfl) ?_
    refine lv_iload_n hx hb dX8_carryOut_133 rfl (lv_at hl 3 rfl) ?_
    refine z_callV (C := RX4) (q0 := 0) (ci := 3) (As := [.int (zI x), .int (zI y)]) (rest := []) (x8W u a r q ++ (svW ct r b nx sz S ++ (sobjW a))) (benchW ct a M ++ (logW ct a M ++ (txtW ct q TX tl pl ft wd n1 n2))) hx hb hml hown hts hl hE hS hA hP hD (c_X4_changeLength l D ct ad a M x y (by assumption) (by omega)) gX8_carryOut_X4_changeLength rfl rfl k_X4_changeLength ⟨Nat.le_of_ble_eq_true rfl, Nat.le_of_ble_eq_true rfl⟩ rfl rfl rfl rfl (Nat.le_of_ble_eq_true rfl) ⟨Nat.le_of_ble_eq_true rfl, Nat.le_of_ble_eq_true rfl⟩ dX8_carryOut_134 rfl (fun v w1 H locs hpost hP hD hS => ?_)
    obtain ⟨rfl, rfl⟩ := hpost
    have hP : va_P D vwCl (x8W u a r q ++ (svW ct r b nx sz S ++ (sobjW a ++ (gridW ct a (up M (24 + 3 * x) y) ++ (benchW ct a M ++ (logW ct a M ++ (txtW ct q TX tl pl ft wd n1 n2))))))) H := hP
    have hD : va_D A (x8W u a r q ++ (svW ct r b nx sz S ++ (sobjW a ++ (gridW ct a (up M (24 + 3 * x) y) ++ (benchW ct a M ++ (logW ct a M ++ (txtW ct q TX tl pl ft wd n1 n2))))))) := hD
    have hP : va_P D vwCl (x8W u a r q ++ (svW ct r b nx sz S ++ (sobjW a ++ (gridW ct a (up M (24 + 3 * x) y) ++ (benchW ct a (up M (24 + 3 * x) y) ++ (logW ct a (up M (24 + 3 * x) y) ++ (txtW ct q TX tl pl ft wd n1 n2))))))) H := by rw [benchW_ag (M := M) (N := (up M (24 + 3 * x) y)) (fun j hj => up_n (by omega)), logW_ag (M := M) (N := (up M (24 + 3 * x) y)) (fun j hj => up_n (by omega))]; exact hP
    have hD : va_D A (x8W u a r q ++ (svW ct r b nx sz S ++ (sobjW a ++ (gridW ct a (up M (24 + 3 * x) y) ++ (benchW ct a (up M (24 + 3 * x) y) ++ (logW ct a (up M (24 + 3 * x) y) ++ (txtW ct q TX tl pl ft wd n1 n2))))))) := by rw [benchW_ag (M := M) (N := (up M (24 + 3 * x) y)) (fun j hj => up_n (by omega)), logW_ag (M := M) (N := (up M (24 + 3 * x) y)) (fun j hj => up_n (by omega))]; exact hD
    refine W.eq (g2 := F0 m 137 ls [.int (zI (M (24 + 3 * x)))]) rfl ?_
    refine lv_pop hx hb dX8_carryOut_137 rfl ?_
    refine lv_goto (tgt := 262) hx hb dX8_carryOut_138 (by decide) ?_
    exact z_vret hx hb hr hlocks hP hD hS ⟨Nat.le_of_ble_eq_true rfl, Nat.le_of_ble_eq_true rfl⟩ dX8_carryOut_262 (⟨rfl, by first | (rw [cK]; rfl) | (exfalso; omega)⟩)
  · refine z_tabIn (off := 128) (tgt := 141) hx hb dX8_carryOut_13 5 hc_13 (by decide) (by decide) rfl (by decide) ?_
    have cK : c_ = 4 := by omega
    have fk : (0 ≤ x ∧ x ≤ 4) ∧ -300 ≤ y ∧ y ≤ 600 := by have q9 := hok; rw [cK, show ckc M _ x y = ck_warm x y from rfl] at q9; unfold ck_warm at q9; (repeat' split at q9) <;> omega
    refine lv_aload_n hx hb dX8_carryOut_141 rfl (lv_at hl 0 rfl) ?_
    refine va_get (D := D) (ci := 6) (v := .ref (a 0)) (C := RX8) (T := TX8) (N := 3) hx hb hts hin_X8 hown hK hP 0 rfl rfl 0 (by decide) hf_7 (fun _ h9 => h9) rfl dX8_carryOut_142 ?_
    refine va_get (D := D) (ci := 5) (v := .ref (a 6)) (C := RX6) (T := TX6) (N := 3) hx hb hts hin_X6 hown hK hP 47 rfl rfl 1 (by decide) hf_9 (fun _ h9 => h9) rfl dX8_carryOut_145 ?_
    refine lv_iload_n hx hb dX8_carryOut_148 rfl (lv_at hl 2 rfl) ?_
    refine lv_iload_n hx hb dX8_carryOut_149 rfl (lv_at hl 3 rfl) ?_
    refine z_callV (C := RX1) (q0 := 0) (ci := 0) (As := [.int (zI x), .int (zI y)]) (rest := []) (x8W u a r q ++ (svW ct r b nx sz S ++ (sobjW a ++ (gridW ct a M)))) (logW ct a M ++ (txtW ct q TX tl pl ft wd n1 n2)) hx hb hml hown hts hl hE hS hA hP hD (c_X1_changeShelfWarmth l D ct ad a M x y (by omega)) gX8_carryOut_X1_changeShelfWarmth rfl rfl k_X1_changeShelfWarmth ⟨Nat.le_of_ble_eq_true rfl, Nat.le_of_ble_eq_true rfl⟩ rfl rfl rfl rfl (Nat.le_of_ble_eq_true rfl) ⟨Nat.le_of_ble_eq_true rfl, Nat.le_of_ble_eq_true rfl⟩ dX8_carryOut_150 rfl (fun v w1 H locs hpost hP hD hS => ?_)
    obtain ⟨rfl, rfl⟩ := hpost
    have hP : va_P D vwCl (x8W u a r q ++ (svW ct r b nx sz S ++ (sobjW a ++ (gridW ct a M ++ (benchW ct a (up M (49 + x) y) ++ (logW ct a M ++ (txtW ct q TX tl pl ft wd n1 n2))))))) H := hP
    have hD : va_D A (x8W u a r q ++ (svW ct r b nx sz S ++ (sobjW a ++ (gridW ct a M ++ (benchW ct a (up M (49 + x) y) ++ (logW ct a M ++ (txtW ct q TX tl pl ft wd n1 n2))))))) := hD
    have hP : va_P D vwCl (x8W u a r q ++ (svW ct r b nx sz S ++ (sobjW a ++ (gridW ct a (up M (49 + x) y) ++ (benchW ct a (up M (49 + x) y) ++ (logW ct a (up M (49 + x) y) ++ (txtW ct q TX tl pl ft wd n1 n2))))))) H := by rw [gridW_ag (M := M) (N := (up M (49 + x) y)) (fun j hj => up_n (by omega)), logW_ag (M := M) (N := (up M (49 + x) y)) (fun j hj => up_n (by omega))]; exact hP
    have hD : va_D A (x8W u a r q ++ (svW ct r b nx sz S ++ (sobjW a ++ (gridW ct a (up M (49 + x) y) ++ (benchW ct a (up M (49 + x) y) ++ (logW ct a (up M (49 + x) y) ++ (txtW ct q TX tl pl ft wd n1 n2))))))) := by rw [gridW_ag (M := M) (N := (up M (49 + x) y)) (fun j hj => up_n (by omega)), logW_ag (M := M) (N := (up M (49 + x) y)) (fun j hj => up_n (by omega))]; exact hD
    refine W.eq (g2 := F0 m 153 ls [.int (zI (M (49 + x)))]) rfl ?_
    refine lv_pop hx hb dX8_carryOut_153 rfl ?_
    refine lv_goto (tgt := 262) hx hb dX8_carryOut_154 (by decide) ?_
    exact z_vret hx hb hr hlocks hP hD hS ⟨Nat.le_of_ble_eq_true rfl, Nat.le_of_ble_eq_true rfl⟩ dX8_carryOut_262 (⟨rfl, by first | (rw [cK]; rfl) | (exfalso; omega)⟩)
  · refine z_tabIn (off := 144) (tgt := 157) hx hb dX8_carryOut_13 6 hc_13 (by decide) (by decide) rfl (by decide) ?_
    have cK : c_ = 5 := by omega
    have fk : (0 ≤ x ∧ x ≤ 4) ∧ -300 ≤ -y ∧ -y ≤ 600 := by have q9 := hok; rw [cK, show ckc M _ x y = ck_warm x (-y) from rfl] at q9; unfold ck_warm at q9; (repeat' split at q9) <;> omega
    refine lv_aload_n hx hb dX8_carryOut_157 rfl (lv_at hl 0 rfl) ?_
    refine va_get (D := D) (ci := 6) (v := .ref (a 0)) (C := RX8) (T := TX8) (N := 3) hx hb hts hin_X8 hown hK hP 0 rfl rfl 0 (by decide) hf_7 (fun _ h9 => h9) rfl dX8_carryOut_158 ?_
    refine va_get (D := D) (ci := 5) (v := .ref (a 6)) (C := RX6) (T := TX6) (N := 3) hx hb hts hin_X6 hown hK hP 47 rfl rfl 1 (by decide) hf_9 (fun _ h9 => h9) rfl dX8_carryOut_161 ?_
    refine lv_iload_n hx hb dX8_carryOut_164 rfl (lv_at hl 2 rfl) ?_
    refine lv_iload_n hx hb dX8_carryOut_165 rfl (lv_at hl 3 rfl) ?_
    refine z_ineg hx hb dX8_carryOut_166 ?_
    refine z_callV (C := RX1) (q0 := 0) (ci := 0) (As := [.int (zI x), .int (zI (-y))]) (rest := []) (x8W u a r q ++ (svW ct r b nx sz S ++ (sobjW a ++ (gridW ct a M)))) (logW ct a M ++ (txtW ct q TX tl pl ft wd n1 n2)) hx hb hml hown hts hl hE hS hA hP hD (c_X1_changeShelfWarmth l D ct ad a M x (-y) (by omega)) gX8_carryOut_X1_changeShelfWarmth rfl rfl k_X1_changeShelfWarmth ⟨Nat.le_of_ble_eq_true rfl, Nat.le_of_ble_eq_true rfl⟩ rfl rfl rfl rfl (Nat.le_of_ble_eq_true rfl) ⟨Nat.le_of_ble_eq_true rfl, Nat.le_of_ble_eq_true rfl⟩ dX8_carryOut_167 rfl (fun v w1 H locs hpost hP hD hS => ?_)
    obtain ⟨rfl, rfl⟩ := hpost
    have hP : va_P D vwCl (x8W u a r q ++ (svW ct r b nx sz S ++ (sobjW a ++ (gridW ct a M ++ (benchW ct a (up M (49 + x) (-y)) ++ (logW ct a M ++ (txtW ct q TX tl pl ft wd n1 n2))))))) H := hP
    have hD : va_D A (x8W u a r q ++ (svW ct r b nx sz S ++ (sobjW a ++ (gridW ct a M ++ (benchW ct a (up M (49 + x) (-y)) ++ (logW ct a M ++ (txtW ct q TX tl pl ft wd n1 n2))))))) := hD
    have hP : va_P D vwCl (x8W u a r q ++ (svW ct r b nx sz S ++ (sobjW a ++ (gridW ct a (up M (49 + x) (-y)) ++ (benchW ct a (up M (49 + x) (-y)) ++ (logW ct a (up M (49 + x) (-y)) ++ (txtW ct q TX tl pl ft wd n1 n2))))))) H := by rw [gridW_ag (M := M) (N := (up M (49 + x) (-y))) (fun j hj => up_n (by omega)), logW_ag (M := M) (N := (up M (49 + x) (-y))) (fun j hj => up_n (by omega))]; exact hP
    have hD : va_D A (x8W u a r q ++ (svW ct r b nx sz S ++ (sobjW a ++ (gridW ct a (up M (49 + x) (-y)) ++ (benchW ct a (up M (49 + x) (-y)) ++ (logW ct a (up M (49 + x) (-y)) ++ (txtW ct q TX tl pl ft wd n1 n2))))))) := by rw [gridW_ag (M := M) (N := (up M (49 + x) (-y))) (fun j hj => up_n (by omega)), logW_ag (M := M) (N := (up M (49 + x) (-y))) (fun j hj => up_n (by omega))]; exact hD
    refine W.eq (g2 := F0 m 170 ls [.int (zI (M (49 + x)))]) rfl ?_
    refine lv_pop hx hb dX8_carryOut_170 rfl ?_
    refine lv_goto (tgt := 262) hx hb dX8_carryOut_171 (by decide) ?_
    exact z_vret hx hb hr hlocks hP hD hS ⟨Nat.le_of_ble_eq_true rfl, Nat.le_of_ble_eq_true rfl⟩ dX8_carryOut_262 (⟨rfl, by first | (rw [cK]; rfl) | (exfalso; omega)⟩)
  · refine z_tabIn (off := 161) (tgt := 174) hx hb dX8_carryOut_13 7 hc_13 (by decide) (by decide) rfl (by decide) ?_
    have cK : c_ = 6 := by omega
    have fk : 0 ≤ x ∧ x ≤ 4 := by have q9 := hok; rw [cK, show ckc M _ x y = ck_shelf x from rfl] at q9; unfold ck_shelf at q9; (repeat' split at q9) <;> omega
    refine lv_aload_n hx hb dX8_carryOut_174 rfl (lv_at hl 0 rfl) ?_
    refine va_get (D := D) (ci := 6) (v := .ref (a 0)) (C := RX8) (T := TX8) (N := 3) hx hb hts hin_X8 hown hK hP 0 rfl rfl 0 (by decide) hf_7 (fun _ h9 => h9) rfl dX8_carryOut_175 ?_
    refine va_get (D := D) (ci := 5) (v := .ref (a 6)) (C := RX6) (T := TX6) (N := 3) hx hb hts hin_X6 hown hK hP 47 rfl rfl 1 (by decide) hf_9 (fun _ h9 => h9) rfl dX8_carryOut_178 ?_
    refine lv_iload_n hx hb dX8_carryOut_181 rfl (lv_at hl 2 rfl) ?_
    refine z_callV (C := RX1) (q0 := 0) (ci := 0) (As := [.int (zI x)]) (rest := []) (x8W u a r q ++ (svW ct r b nx sz S ++ (sobjW a ++ (gridW ct a M)))) (logW ct a M ++ (txtW ct q TX tl pl ft wd n1 n2)) hx hb hml hown hts hl hE hS hA hP hD (c_X1_changeShelf l D ct ad a M x) gX8_carryOut_X1_changeShelf rfl rfl k_X1_changeShelf ⟨Nat.le_of_ble_eq_true rfl, Nat.le_of_ble_eq_true rfl⟩ rfl rfl rfl rfl (Nat.le_of_ble_eq_true rfl) ⟨Nat.le_of_ble_eq_true rfl, Nat.le_of_ble_eq_true rfl⟩ dX8_carryOut_182 rfl (fun v w1 H locs hpost hP hD hS => ?_)
    obtain ⟨rfl, rfl⟩ := hpost
    have hP : va_P D vwCl (x8W u a r q ++ (svW ct r b nx sz S ++ (sobjW a ++ (gridW ct a M ++ (benchW ct a (up M 5 x) ++ (logW ct a M ++ (txtW ct q TX tl pl ft wd n1 n2))))))) H := hP
    have hD : va_D A (x8W u a r q ++ (svW ct r b nx sz S ++ (sobjW a ++ (gridW ct a M ++ (benchW ct a (up M 5 x) ++ (logW ct a M ++ (txtW ct q TX tl pl ft wd n1 n2))))))) := hD
    have hP : va_P D vwCl (x8W u a r q ++ (svW ct r b nx sz S ++ (sobjW a ++ (gridW ct a (up M 5 x) ++ (benchW ct a (up M 5 x) ++ (logW ct a (up M 5 x) ++ (txtW ct q TX tl pl ft wd n1 n2))))))) H := by rw [gridW_ag (M := M) (N := (up M 5 x)) (fun j hj => up_n (by omega)), logW_ag (M := M) (N := (up M 5 x)) (fun j hj => up_n (by omega))]; exact hP
    have hD : va_D A (x8W u a r q ++ (svW ct r b nx sz S ++ (sobjW a ++ (gridW ct a (up M 5 x) ++ (benchW ct a (up M 5 x) ++ (logW ct a (up M 5 x) ++ (txtW ct q TX tl pl ft wd n1 n2))))))) := by rw [gridW_ag (M := M) (N := (up M 5 x)) (fun j hj => up_n (by omega)), logW_ag (M := M) (N := (up M 5 x)) (fun j hj => up_n (by omega))]; exact hD
    refine W.eq (g2 := F0 m 185 ls [.int (zI (M 5))]) rfl ?_
    refine lv_pop hx hb dX8_carryOut_185 rfl ?_
    refine lv_goto (tgt := 262) hx hb dX8_carryOut_186 (by decide) ?_
    exact z_vret hx hb hr hlocks hP hD hS ⟨Nat.le_of_ble_eq_true rfl, Nat.le_of_ble_eq_true rfl⟩ dX8_carryOut_262 (⟨rfl, by first | (rw [cK]; rfl) | (exfalso; omega)⟩)
  · refine z_tabIn (off := 176) (tgt := 189) hx hb dX8_carryOut_13 8 hc_13 (by decide) (by decide) rfl (by decide) ?_
    have cK : c_ = 7 := by omega
    have fk : -500 ≤ M 7 + x ∧ M 7 + x ≤ 500 := by have q9 := hok; rw [cK, show ckc M _ x y = ck_turn M x from rfl] at q9; unfold ck_turn at q9; (repeat' split at q9) <;> omega
    refine lv_aload_n hx hb dX8_carryOut_189 rfl (lv_at hl 0 rfl) ?_
    refine va_get (D := D) (ci := 6) (v := .ref (a 0)) (C := RX8) (T := TX8) (N := 3) hx hb hts hin_X8 hown hK hP 0 rfl rfl 0 (by decide) hf_7 (fun _ h9 => h9) rfl dX8_carryOut_190 ?_
    refine va_get (D := D) (ci := 5) (v := .ref (a 6)) (C := RX6) (T := TX6) (N := 3) hx hb hts hin_X6 hown hK hP 47 rfl rfl 1 (by decide) hf_9 (fun _ h9 => h9) rfl dX8_carryOut_193 ?_
    refine lv_iload_n hx hb dX8_carryOut_196 rfl (lv_at hl 2 rfl) ?_
    refine z_callV (C := RX1) (q0 := 0) (ci := 0) (As := [.int (zI x)]) (rest := []) (x8W u a r q ++ (svW ct r b nx sz S ++ (sobjW a ++ (gridW ct a M)))) (logW ct a M ++ (txtW ct q TX tl pl ft wd n1 n2)) hx hb hml hown hts hl hE hS hA hP hD (c_X1_changeNut l D ct ad a M x) gX8_carryOut_X1_changeNut rfl rfl k_X1_changeNut ⟨Nat.le_of_ble_eq_true rfl, Nat.le_of_ble_eq_true rfl⟩ rfl rfl rfl rfl (Nat.le_of_ble_eq_true rfl) ⟨Nat.le_of_ble_eq_true rfl, Nat.le_of_ble_eq_true rfl⟩ dX8_carryOut_197 rfl (fun v w1 H locs hpost hP hD hS => ?_)
    obtain ⟨rfl, rfl⟩ := hpost
    have hP : va_P D vwCl (x8W u a r q ++ (svW ct r b nx sz S ++ (sobjW a ++ (gridW ct a M ++ (benchW ct a (up M 7 (M 7 + x)) ++ (logW ct a M ++ (txtW ct q TX tl pl ft wd n1 n2))))))) H := hP
    have hD : va_D A (x8W u a r q ++ (svW ct r b nx sz S ++ (sobjW a ++ (gridW ct a M ++ (benchW ct a (up M 7 (M 7 + x)) ++ (logW ct a M ++ (txtW ct q TX tl pl ft wd n1 n2))))))) := hD
    have hP : va_P D vwCl (x8W u a r q ++ (svW ct r b nx sz S ++ (sobjW a ++ (gridW ct a (up M 7 (M 7 + x)) ++ (benchW ct a (up M 7 (M 7 + x)) ++ (logW ct a (up M 7 (M 7 + x)) ++ (txtW ct q TX tl pl ft wd n1 n2))))))) H := by rw [gridW_ag (M := M) (N := (up M 7 (M 7 + x))) (fun j hj => up_n (by omega)), logW_ag (M := M) (N := (up M 7 (M 7 + x))) (fun j hj => up_n (by omega))]; exact hP
    have hD : va_D A (x8W u a r q ++ (svW ct r b nx sz S ++ (sobjW a ++ (gridW ct a (up M 7 (M 7 + x)) ++ (benchW ct a (up M 7 (M 7 + x)) ++ (logW ct a (up M 7 (M 7 + x)) ++ (txtW ct q TX tl pl ft wd n1 n2))))))) := by rw [gridW_ag (M := M) (N := (up M 7 (M 7 + x))) (fun j hj => up_n (by omega)), logW_ag (M := M) (N := (up M 7 (M 7 + x))) (fun j hj => up_n (by omega))]; exact hD
    refine W.eq (g2 := F0 m 200 ls [.int (zI (M 7 + x))]) rfl ?_
    refine lv_pop hx hb dX8_carryOut_200 rfl ?_
    refine lv_goto (tgt := 262) hx hb dX8_carryOut_201 (by decide) ?_
    exact z_vret hx hb hr hlocks hP hD hS ⟨Nat.le_of_ble_eq_true rfl, Nat.le_of_ble_eq_true rfl⟩ dX8_carryOut_262 (⟨rfl, by first | (rw [cK]; rfl) | (exfalso; omega)⟩)
  · refine z_tabIn (off := 191) (tgt := 204) hx hb dX8_carryOut_13 9 hc_13 (by decide) (by decide) rfl (by decide) ?_
    have cK : c_ = 8 := by omega
    have fk : -500 ≤ M 7 + -x ∧ M 7 + -x ≤ 500 := by have q9 := hok; rw [cK, show ckc M _ x y = ck_turn M (-x) from rfl] at q9; unfold ck_turn at q9; (repeat' split at q9) <;> omega
    refine lv_aload_n hx hb dX8_carryOut_204 rfl (lv_at hl 0 rfl) ?_
    refine va_get (D := D) (ci := 6) (v := .ref (a 0)) (C := RX8) (T := TX8) (N := 3) hx hb hts hin_X8 hown hK hP 0 rfl rfl 0 (by decide) hf_7 (fun _ h9 => h9) rfl dX8_carryOut_205 ?_
    refine va_get (D := D) (ci := 5) (v := .ref (a 6)) (C := RX6) (T := TX6) (N := 3) hx hb hts hin_X6 hown hK hP 47 rfl rfl 1 (by decide) hf_9 (fun _ h9 => h9) rfl dX8_carryOut_208 ?_
    refine lv_iload_n hx hb dX8_carryOut_211 rfl (lv_at hl 2 rfl) ?_
    refine z_ineg hx hb dX8_carryOut_212 ?_
    refine z_callV (C := RX1) (q0 := 0) (ci := 0) (As := [.int (zI (-x))]) (rest := []) (x8W u a r q ++ (svW ct r b nx sz S ++ (sobjW a ++ (gridW ct a M)))) (logW ct a M ++ (txtW ct q TX tl pl ft wd n1 n2)) hx hb hml hown hts hl hE hS hA hP hD (c_X1_changeNut l D ct ad a M (-x)) gX8_carryOut_X1_changeNut rfl rfl k_X1_changeNut ⟨Nat.le_of_ble_eq_true rfl, Nat.le_of_ble_eq_true rfl⟩ rfl rfl rfl rfl (Nat.le_of_ble_eq_true rfl) ⟨Nat.le_of_ble_eq_true rfl, Nat.le_of_ble_eq_true rfl⟩ dX8_carryOut_213 rfl (fun v w1 H locs hpost hP hD hS => ?_)
    obtain ⟨rfl, rfl⟩ := hpost
    have hP : va_P D vwCl (x8W u a r q ++ (svW ct r b nx sz S ++ (sobjW a ++ (gridW ct a M ++ (benchW ct a (up M 7 (M 7 + (-x))) ++ (logW ct a M ++ (txtW ct q TX tl pl ft wd n1 n2))))))) H := hP
    have hD : va_D A (x8W u a r q ++ (svW ct r b nx sz S ++ (sobjW a ++ (gridW ct a M ++ (benchW ct a (up M 7 (M 7 + (-x))) ++ (logW ct a M ++ (txtW ct q TX tl pl ft wd n1 n2))))))) := hD
    have hP : va_P D vwCl (x8W u a r q ++ (svW ct r b nx sz S ++ (sobjW a ++ (gridW ct a (up M 7 (M 7 + (-x))) ++ (benchW ct a (up M 7 (M 7 + (-x))) ++ (logW ct a (up M 7 (M 7 + (-x))) ++ (txtW ct q TX tl pl ft wd n1 n2))))))) H := by rw [gridW_ag (M := M) (N := (up M 7 (M 7 + (-x)))) (fun j hj => up_n (by omega)), logW_ag (M := M) (N := (up M 7 (M 7 + (-x)))) (fun j hj => up_n (by omega))]; exact hP
    have hD : va_D A (x8W u a r q ++ (svW ct r b nx sz S ++ (sobjW a ++ (gridW ct a (up M 7 (M 7 + (-x))) ++ (benchW ct a (up M 7 (M 7 + (-x))) ++ (logW ct a (up M 7 (M 7 + (-x))) ++ (txtW ct q TX tl pl ft wd n1 n2))))))) := by rw [gridW_ag (M := M) (N := (up M 7 (M 7 + (-x)))) (fun j hj => up_n (by omega)), logW_ag (M := M) (N := (up M 7 (M 7 + (-x)))) (fun j hj => up_n (by omega))]; exact hD
    refine W.eq (g2 := F0 m 216 ls [.int (zI (M 7 + (-x)))]) rfl ?_
    refine lv_pop hx hb dX8_carryOut_216 rfl ?_
    refine lv_goto (tgt := 262) hx hb dX8_carryOut_217 (by decide) ?_
    exact z_vret hx hb hr hlocks hP hD hS ⟨Nat.le_of_ble_eq_true rfl, Nat.le_of_ble_eq_true rfl⟩ dX8_carryOut_262 (⟨rfl, by first | (rw [cK]; rfl) | (exfalso; omega)⟩)
  · refine z_tabIn (off := 221) (tgt := 234) hx hb dX8_carryOut_13 10 hc_13 (by decide) (by decide) rfl (by decide) ?_
    have cK : c_ = 10 := by omega
    have fk : 0 ≤ x ∧ x ≤ 2 := by have q9 := hok; rw [cK, show ckc M _ x y = ck_set x y from rfl] at q9; unfold ck_set at q9; (repeat' split at q9) <;> omega
    refine lv_aload_n hx hb dX8_carryOut_234 rfl (lv_at hl 0 rfl) ?_
    refine va_get (D := D) (ci := 6) (v := .ref (a 0)) (C := RX8) (T := TX8) (N := 3) hx hb hts hin_X8 hown hK hP 0 rfl rfl 0 (by decide) hf_7 (fun _ h9 => h9) rfl dX8_carryOut_235 ?_
    refine va_get (D := D) (ci := 5) (v := .ref (a 6)) (C := RX6) (T := TX6) (N := 3) hx hb hts hin_X6 hown hK hP 47 rfl rfl 1 (by decide) hf_9 (fun _ h9 => h9) rfl dX8_carryOut_238 ?_
    refine lv_iload_n hx hb dX8_carryOut_241 rfl (lv_at hl 2 rfl) ?_
    refine lv_iload_n hx hb dX8_carryOut_242 rfl (lv_at hl 3 rfl) ?_
    refine z_callV (C := RX1) (q0 := 0) (ci := 0) (As := [.int (zI x), .int (zI y)]) (rest := []) (x8W u a r q ++ (svW ct r b nx sz S ++ (sobjW a ++ (gridW ct a M)))) (logW ct a M ++ (txtW ct q TX tl pl ft wd n1 n2)) hx hb hml hown hts hl hE hS hA hP hD (c_X1_changeSetting l D ct ad a M x y (by omega)) gX8_carryOut_X1_changeSetting rfl rfl k_X1_changeSetting ⟨Nat.le_of_ble_eq_true rfl, Nat.le_of_ble_eq_true rfl⟩ rfl rfl rfl rfl (Nat.le_of_ble_eq_true rfl) ⟨Nat.le_of_ble_eq_true rfl, Nat.le_of_ble_eq_true rfl⟩ dX8_carryOut_243 rfl (fun v w1 H locs hpost hP hD hS => ?_)
    obtain ⟨rfl, rfl⟩ := hpost
    have hP : va_P D vwCl (x8W u a r q ++ (svW ct r b nx sz S ++ (sobjW a ++ (gridW ct a M ++ (benchW ct a (up M x y) ++ (logW ct a M ++ (txtW ct q TX tl pl ft wd n1 n2))))))) H := hP
    have hD : va_D A (x8W u a r q ++ (svW ct r b nx sz S ++ (sobjW a ++ (gridW ct a M ++ (benchW ct a (up M x y) ++ (logW ct a M ++ (txtW ct q TX tl pl ft wd n1 n2))))))) := hD
    have hP : va_P D vwCl (x8W u a r q ++ (svW ct r b nx sz S ++ (sobjW a ++ (gridW ct a (up M x y) ++ (benchW ct a (up M x y) ++ (logW ct a (up M x y) ++ (txtW ct q TX tl pl ft wd n1 n2))))))) H := by rw [gridW_ag (M := M) (N := (up M x y)) (fun j hj => up_n (by omega)), logW_ag (M := M) (N := (up M x y)) (fun j hj => up_n (by omega))]; exact hP
    have hD : va_D A (x8W u a r q ++ (svW ct r b nx sz S ++ (sobjW a ++ (gridW ct a (up M x y) ++ (benchW ct a (up M x y) ++ (logW ct a (up M x y) ++ (txtW ct q TX tl pl ft wd n1 n2))))))) := by rw [gridW_ag (M := M) (N := (up M x y)) (fun j hj => up_n (by omega)), logW_ag (M := M) (N := (up M x y)) (fun j hj => up_n (by omega))]; exact hD
    refine W.eq (g2 := F0 m 246 ls [.int (zI (M x))]) rfl ?_
    refine lv_pop hx hb dX8_carryOut_246 rfl ?_
    refine lv_goto (tgt := 262) hx hb dX8_carryOut_247 (by decide) ?_
    exact z_vret hx hb hr hlocks hP hD hS ⟨Nat.le_of_ble_eq_true rfl, Nat.le_of_ble_eq_true rfl⟩ dX8_carryOut_262 (⟨rfl, by first | (rw [cK]; rfl) | (exfalso; omega)⟩)
  · refine z_tabIn (off := 237) (tgt := 250) hx hb dX8_carryOut_13 11 hc_13 (by decide) (by decide) rfl (by decide) ?_
    have cK : c_ = 11 := by omega
    have fk : 1 ≤ x ∧ x ≤ 500 ∧ M 9 + x ≤ 100000 := by have q9 := hok; rw [cK, show ckc M _ x y = ck_hours M x from rfl] at q9; unfold ck_hours at q9; (repeat' split at q9) <;> omega
    refine lv_aload_n hx hb dX8_carryOut_250 rfl (lv_at hl 0 rfl) ?_
    refine va_get (D := D) (ci := 6) (v := .ref (a 0)) (C := RX8) (T := TX8) (N := 3) hx hb hts hin_X8 hown hK hP 0 rfl rfl 0 (by decide) hf_7 (fun _ h9 => h9) rfl dX8_carryOut_251 ?_
    refine lv_iload_n hx hb dX8_carryOut_254 rfl (lv_at hl 2 rfl) ?_
    refine z_callV (C := RX6) (q0 := 0) (ci := 5) (As := [.int (zI x)]) (rest := []) (x8W u a r q ++ (svW ct r b nx sz S)) (txtW ct q TX tl pl ft wd n1 n2) hx hb hml hown hts hl hE hS hA hP hD (c_X6_passHours l D ct ad a M x (by assumption) (by assumption) (by omega) (by omega)) gX8_carryOut_X6_passHours rfl rfl k_X6_passHours ⟨Nat.le_of_ble_eq_true rfl, Nat.le_of_ble_eq_true rfl⟩ rfl rfl rfl rfl (Nat.le_of_ble_eq_true rfl) ⟨Nat.le_of_ble_eq_true rfl, Nat.le_of_ble_eq_true rfl⟩ dX8_carryOut_255 rfl (fun v w1 H locs hpost hP hD hS => ?_)
    obtain ⟨rfl, rfl⟩ := hpost
    have hP : va_P D vwCl (x8W u a r q ++ (svW ct r b nx sz S ++ (sobjW a ++ (gridW ct a (sp_pass M x.toNat) ++ (benchW ct a (sp_pass M x.toNat) ++ (logW ct a (sp_pass M x.toNat) ++ (txtW ct q TX tl pl ft wd n1 n2))))))) H := hP
    have hD : va_D A (x8W u a r q ++ (svW ct r b nx sz S ++ (sobjW a ++ (gridW ct a (sp_pass M x.toNat) ++ (benchW ct a (sp_pass M x.toNat) ++ (logW ct a (sp_pass M x.toNat) ++ (txtW ct q TX tl pl ft wd n1 n2))))))) := hD
    refine W.eq (g2 := F0 m 258 ls [.int (zI (sp_err (sp_pass M x.toNat)))]) rfl ?_
    refine lv_pop hx hb dX8_carryOut_258 rfl ?_
    refine lv_goto (tgt := 262) hx hb dX8_carryOut_259 (by decide) ?_
    exact z_vret hx hb hr hlocks hP hD hS ⟨Nat.le_of_ble_eq_true rfl, Nat.le_of_ble_eq_true rfl⟩ dX8_carryOut_262 (⟨rfl, by first | (rw [cK]; rfl) | (exfalso; omega)⟩)
  · refine z_tabIn (off := 207) (tgt := 220) hx hb dX8_carryOut_13 12 hc_13 (by decide) (by decide) rfl (by decide) ?_
    have cK : c_ = 9 := by omega
    refine lv_aload_n hx hb dX8_carryOut_220 rfl (lv_at hl 0 rfl) ?_
    refine va_get (D := D) (ci := 6) (v := .ref (a 0)) (C := RX8) (T := TX8) (N := 3) hx hb hts hin_X8 hown hK hP 0 rfl rfl 0 (by decide) hf_7 (fun _ h9 => h9) rfl dX8_carryOut_221 ?_
    refine va_get (D := D) (ci := 5) (v := .ref (a 6)) (C := RX6) (T := TX6) (N := 3) hx hb hts hin_X6 hown hK hP 47 rfl rfl 1 (by decide) hf_9 (fun _ h9 => h9) rfl dX8_carryOut_224 ?_
    refine z_callV (C := RX1) (q0 := 0) (ci := 0) (As := []) (rest := []) (x8W u a r q ++ (svW ct r b nx sz S ++ (sobjW a ++ (gridW ct a M)))) (logW ct a M ++ (txtW ct q TX tl pl ft wd n1 n2)) hx hb hml hown hts hl hE hS hA hP hD (c_X1_fillDrive l D ct ad a M) gX8_carryOut_X1_fillDrive rfl rfl k_X1_fillDrive ⟨Nat.le_of_ble_eq_true rfl, Nat.le_of_ble_eq_true rfl⟩ rfl rfl rfl rfl (Nat.le_of_ble_eq_true rfl) ⟨Nat.le_of_ble_eq_true rfl, Nat.le_of_ble_eq_true rfl⟩ dX8_carryOut_227 rfl (fun v w1 H locs hpost hP hD hS => ?_)
    obtain ⟨rfl, rfl⟩ := hpost
    have hP : va_P D vwCl (x8W u a r q ++ (svW ct r b nx sz S ++ (sobjW a ++ (gridW ct a M ++ (benchW ct a (up M 8 192) ++ (logW ct a M ++ (txtW ct q TX tl pl ft wd n1 n2))))))) H := hP
    have hD : va_D A (x8W u a r q ++ (svW ct r b nx sz S ++ (sobjW a ++ (gridW ct a M ++ (benchW ct a (up M 8 192) ++ (logW ct a M ++ (txtW ct q TX tl pl ft wd n1 n2))))))) := hD
    have hP : va_P D vwCl (x8W u a r q ++ (svW ct r b nx sz S ++ (sobjW a ++ (gridW ct a (up M 8 192) ++ (benchW ct a (up M 8 192) ++ (logW ct a (up M 8 192) ++ (txtW ct q TX tl pl ft wd n1 n2))))))) H := by rw [gridW_ag (M := M) (N := (up M 8 192)) (fun j hj => up_n (by omega)), logW_ag (M := M) (N := (up M 8 192)) (fun j hj => up_n (by omega))]; exact hP
    have hD : va_D A (x8W u a r q ++ (svW ct r b nx sz S ++ (sobjW a ++ (gridW ct a (up M 8 192) ++ (benchW ct a (up M 8 192) ++ (logW ct a (up M 8 192) ++ (txtW ct q TX tl pl ft wd n1 n2))))))) := by rw [gridW_ag (M := M) (N := (up M 8 192)) (fun j hj => up_n (by omega)), logW_ag (M := M) (N := (up M 8 192)) (fun j hj => up_n (by omega))]; exact hD
    refine W.eq (g2 := F0 m 230 ls [.int (zI (M 8))]) rfl ?_
    refine lv_pop hx hb dX8_carryOut_230 rfl ?_
    refine lv_goto (tgt := 262) hx hb dX8_carryOut_231 (by decide) ?_
    exact z_vret hx hb hr hlocks hP hD hS ⟨Nat.le_of_ble_eq_true rfl, Nat.le_of_ble_eq_true rfl⟩ dX8_carryOut_262 (⟨rfl, by first | (rw [cK]; rfl) | (exfalso; omega)⟩)
  · refine z_tabOut (tgt := 262) hx hb dX8_carryOut_13 (by omega) (by omega) (by decide) ?_
    exact z_vret hx hb hr hlocks hP hD hS ⟨Nat.le_of_ble_eq_true rfl, Nat.le_of_ble_eq_true rfl⟩ dX8_carryOut_262 (⟨rfl, by first | (rw [cK]; rfl) | (exfalso; omega)⟩)
