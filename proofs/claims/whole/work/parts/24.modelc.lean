theorem k_X9_addsMetal : yX9_addsMetal.cls ≠ "java/lang/invoke/MethodHandle" ∧ yX9_addsMetal.cls ≠ "java/lang/invoke/VarHandle" ∧ (parseMethodDescriptor yX9_addsMetal.desc).map (fun d => d.parameters.length) = some 1 := by decide +kernel
theorem k_X9_keep : yX9_keep.cls ≠ "java/lang/invoke/MethodHandle" ∧ yX9_keep.cls ≠ "java/lang/invoke/VarHandle" ∧ (parseMethodDescriptor yX9_keep.desc).map (fun d => d.parameters.length) = some 0 := by decide +kernel
theorem k_X9_notMetal : yX9_notMetal.cls ≠ "java/lang/invoke/MethodHandle" ∧ yX9_notMetal.cls ≠ "java/lang/invoke/VarHandle" ∧ (parseMethodDescriptor yX9_notMetal.desc).map (fun d => d.parameters.length) = some 1 := by decide +kernel
set_option maxHeartbeats 4000000 in
set_option maxRecDepth 100000 in
theorem c_X9_addMetal_ok (l : Launch) (D : va_G) (ct ad : Nat → Nat) (b : Nat → Nat) (M SP SV TX NB : Int → Int) (sc tl cd pl cm h : Int) (v : Int) (hI : gInv M) (h2 : -2147483648 ≤ v ∧ v ≤ 2147483647) (hsc : 0 ≤ sc ∧ sc ≤ 4) (hok : ck1 (ck_metal M v) = 0) : ZM l yX9_addMetal wsX9_addMetal ({ frames := 3, cells := 0, slots := 0, locals := 63 } : Room) D ct ad [.ref (b 0), .int (zI v)] (moW b sc tl cd pl cm h ++ (jrW ct (b 1) 94 M ++ (jrW ct (b 2) 94 SP ++ (jrW ct (b 3) 376 SV ++ (irW ct (b 4) 150 TX ++ (irW ct (b 5) 2 NB)))))) (zD (some (.int (zI (M 3)))) (moW b (sv_n sc + 1) tl (ck1 (ck_metal M v)) pl cm h ++ (jrW ct (b 1) 94 (st_metal M v) ++ (jrW ct (b 2) 94 SP ++ (jrW ct (b 3) 376 (sv_keep SV M sc) ++ (irW ct (b 4) 150 TX ++ (irW ct (b 5) 2 NB))))))) := by
  refine ZM.of (cc := cX9_addMetal) (maxL := 2) (ret := (some .int)) (by decide +kernel) rfl (Nat.le_of_ble_eq_true rfl) ?_
  intro p e s m below meth c A ls hx hb hr hts hown hlocks hml hname hE hP hD hA hS hl
  have hK := hE.1
  have hf_0 := hts (.fieldLink RX9 42 "RodGridsModel" "code" "I") (by decide +kernel)
  have hin_X9 : ∀ z ∈ u_ws RX9 TX9 11, z ∈ wsX9_addMetal := by decide +kernel
  have hl : lv_has ls 2 [(0, .ref (b 0)), (1, .int (zI v))] := hl
  have i3 := hI.1
  have i4 := hI.2.1
  have ckb : 0 ≤ ck1 (ck_metal M v) ∧ ck1 (ck_metal M v) ≤ 3 := by unfold ck1 ck_metal; (repeat' split) <;> omega
  have okf : M 3 < 6 := by unfold ck1 ck_metal at hok; (repeat' split at hok) <;> omega
  refine lv_aload_n hx hb dX9_addMetal_0 rfl (lv_at hl 0 rfl) ?_
  refine lv_aload_n hx hb dX9_addMetal_1 rfl (lv_at hl 0 rfl) ?_
  refine lv_iload_n hx hb dX9_addMetal_2 rfl (lv_at hl 1 rfl) ?_
  refine z_callV (C := RX9) (q0 := 0) (ci := 7) (As := [.int (zI v)]) (rest := [.ref (b 0)]) ([] : va_W) ([] : va_W) hx hb hml hown hts hl hE hS hA (zr0 ([] : va_W) hP) (zr0D ([] : va_W) hD) (c_X9_notMetal l D ct ad b M SP SV TX NB sc tl cd pl cm h v (by assumption) (by omega)) gX9_addMetal_X9_notMetal rfl rfl k_X9_notMetal ⟨Nat.le_of_ble_eq_true rfl, Nat.le_of_ble_eq_true rfl⟩ rfl rfl rfl rfl (Nat.le_of_ble_eq_true rfl) ⟨Nat.le_of_ble_eq_true rfl, Nat.le_of_ble_eq_true rfl⟩ dX9_addMetal_3 rfl (fun v w1 H locs hpost hP hD hS => ?_)
  obtain ⟨rfl, rfl⟩ := hpost
  have hP := zr0' hP
  have hD := zr0D' hD
  have hP : va_P D vwCl (moW b sc tl cd pl cm h ++ (jrW ct (b 1) 94 M ++ (jrW ct (b 2) 94 SP ++ (jrW ct (b 3) 376 SV ++ (irW ct (b 4) 150 TX ++ (irW ct (b 5) 2 NB)))))) H := hP
  have hD : va_D A (moW b sc tl cd pl cm h ++ (jrW ct (b 1) 94 M ++ (jrW ct (b 2) 94 SP ++ (jrW ct (b 3) 376 SV ++ (irW ct (b 4) 150 TX ++ (irW ct (b 5) 2 NB)))))) := hD
  refine W.eq (g2 := F0 m 6 ls [.int (zI (ck1 (ck_metal M v))), .ref (b 0)]) rfl ?_
  refine z_put (ct := ct) (ad := ad) (ci := 7) (v := .int (zI (ck1 (ck_metal M v)))) (ty := tyX9 6) (C := RX9) (T := TX9) (N := 11) (w2 := moW b sc tl (ck1 (ck_metal M v)) pl cm h ++ (jrW ct (b 1) 94 M ++ (jrW ct (b 2) 94 SP ++ (jrW ct (b 3) 376 SV ++ (irW ct (b 4) 150 TX ++ (irW ct (b 5) 2 NB)))))) hx hb hts hin_X9 tyX9 tyX9_ok nmX9 hown hE hP hD hS 0 rfl rfl 6 (by decide) hf_0 (fun _ h9 => h9) rfl (by decide +kernel) rfl rfl (Nat.le_of_ble_eq_true rfl) dX9_addMetal_6 (rfl) (fun H locs hP hD hS => ?_)
  refine lv_aload_n hx hb dX9_addMetal_9 rfl (lv_at hl 0 rfl) ?_
  refine va_get (D := D) (ci := 7) (v := .int (zI (ck1 (ck_metal M v)))) (C := RX9) (T := TX9) (N := 11) hx hb hts hin_X9 hown hK hP 0 rfl rfl 6 (by decide) hf_0 (fun _ h9 => h9) rfl dX9_addMetal_10 ?_
  refine z_if_eq (tgt := 18) hx hb dX9_addMetal_13 (by decide) (by omega) (fun hc_13 => ?_) (fun hc_13 => ?_)
  · have hc_13 := hc_13
    refine lv_aload_n hx hb dX9_addMetal_18 rfl (lv_at hl 0 rfl) ?_
    refine z_callV (C := RX9) (q0 := 0) (ci := 7) (As := []) (rest := []) ([] : va_W) ([] : va_W) hx hb hml hown hts hl hE hS hA (zr0 ([] : va_W) hP) (zr0D ([] : va_W) hD) (c_X9_keep l D ct ad b M SP SV TX NB sc tl (ck1 (ck_metal M v)) pl cm h (by omega)) gX9_addMetal_X9_keep rfl rfl k_X9_keep ⟨Nat.le_of_ble_eq_true rfl, Nat.le_of_ble_eq_true rfl⟩ rfl rfl rfl rfl (Nat.le_of_ble_eq_true rfl) ⟨Nat.le_of_ble_eq_true rfl, Nat.le_of_ble_eq_true rfl⟩ dX9_addMetal_19 rfl (fun v w1 H locs hpost hP hD hS => ?_)
    obtain ⟨rfl, rfl⟩ := hpost
    have hP := zr0' hP
    have hD := zr0D' hD
    have hP : va_P D vwCl (moW b (sv_n sc + 1) tl (ck1 (ck_metal M v)) pl cm h ++ (jrW ct (b 1) 94 M ++ (jrW ct (b 2) 94 SP ++ (jrW ct (b 3) 376 (sv_keep SV M sc) ++ (irW ct (b 4) 150 TX ++ (irW ct (b 5) 2 NB)))))) H := hP
    have hD : va_D A (moW b (sv_n sc + 1) tl (ck1 (ck_metal M v)) pl cm h ++ (jrW ct (b 1) 94 M ++ (jrW ct (b 2) 94 SP ++ (jrW ct (b 3) 376 (sv_keep SV M sc) ++ (irW ct (b 4) 150 TX ++ (irW ct (b 5) 2 NB)))))) := hD
    refine W.eq (g2 := F0 m 22 ls []) rfl ?_
    refine lv_aload_n hx hb dX9_addMetal_22 rfl (lv_at hl 0 rfl) ?_
    refine lv_iload_n hx hb dX9_addMetal_23 rfl (lv_at hl 1 rfl) ?_
    refine z_callV (C := RX9) (q0 := 0) (ci := 7) (As := [.int (zI v)]) (rest := []) ([] : va_W) ([] : va_W) hx hb hml hown hts hl hE hS hA (zr0 ([] : va_W) hP) (zr0D ([] : va_W) hD) (c_X9_addsMetal l D ct ad b M SP (sv_keep SV M sc) TX NB (sv_n sc + 1) tl (ck1 (ck_metal M v)) pl cm h v (by assumption) (by omega) (by omega)) gX9_addMetal_X9_addsMetal rfl rfl k_X9_addsMetal ⟨Nat.le_of_ble_eq_true rfl, Nat.le_of_ble_eq_true rfl⟩ rfl rfl rfl rfl (Nat.le_of_ble_eq_true rfl) ⟨Nat.le_of_ble_eq_true rfl, Nat.le_of_ble_eq_true rfl⟩ dX9_addMetal_24 rfl (fun v w1 H locs hpost hP hD hS => ?_)
    obtain ⟨rfl, rfl⟩ := hpost
    have hP := zr0' hP
    have hD := zr0D' hD
    have hP : va_P D vwCl (moW b (sv_n sc + 1) tl (ck1 (ck_metal M v)) pl cm h ++ (jrW ct (b 1) 94 (st_metal M v) ++ (jrW ct (b 2) 94 SP ++ (jrW ct (b 3) 376 (sv_keep SV M sc) ++ (irW ct (b 4) 150 TX ++ (irW ct (b 5) 2 NB)))))) H := hP
    have hD : va_D A (moW b (sv_n sc + 1) tl (ck1 (ck_metal M v)) pl cm h ++ (jrW ct (b 1) 94 (st_metal M v) ++ (jrW ct (b 2) 94 SP ++ (jrW ct (b 3) 376 (sv_keep SV M sc) ++ (irW ct (b 4) 150 TX ++ (irW ct (b 5) 2 NB)))))) := hD
    refine W.eq (g2 := F0 m 27 ls [.int (zI (M 3))]) rfl ?_
    exact z_iret hx hb hr hlocks hP hD hS ⟨Nat.le_of_ble_eq_true rfl, Nat.le_of_ble_eq_true rfl⟩ dX9_addMetal_27 (⟨congrArg (fun z => some (Value.int (zI z))) (rfl), rfl⟩)
  · have hc_13 := hc_13
    exact absurd hok hc_13
set_option maxHeartbeats 4000000 in
set_option maxRecDepth 100000 in
theorem c_X9_addMetal_no (l : Launch) (D : va_G) (ct ad : Nat → Nat) (b : Nat → Nat) (M SP SV TX NB : Int → Int) (sc tl cd pl cm h : Int) (v : Int) (hI : gInv M) (h2 : -2147483648 ≤ v ∧ v ≤ 2147483647) (hno : ck1 (ck_metal M v) ≠ 0) : ZM l yX9_addMetal wsX9_addMetal ({ frames := 3, cells := 0, slots := 0, locals := 63 } : Room) D ct ad [.ref (b 0), .int (zI v)] (moW b sc tl cd pl cm h ++ (jrW ct (b 1) 94 M ++ (jrW ct (b 2) 94 SP ++ (jrW ct (b 3) 376 SV ++ (irW ct (b 4) 150 TX ++ (irW ct (b 5) 2 NB)))))) (zD (some (.int (zI 0))) (moW b sc tl (ck1 (ck_metal M v)) pl cm h ++ (jrW ct (b 1) 94 M ++ (jrW ct (b 2) 94 SP ++ (jrW ct (b 3) 376 SV ++ (irW ct (b 4) 150 TX ++ (irW ct (b 5) 2 NB))))))) := by
  refine ZM.of (cc := cX9_addMetal) (maxL := 2) (ret := (some .int)) (by decide +kernel) rfl (Nat.le_of_ble_eq_true rfl) ?_
  intro p e s m below meth c A ls hx hb hr hts hown hlocks hml hname hE hP hD hA hS hl
  have hK := hE.1
  have hf_0 := hts (.fieldLink RX9 42 "RodGridsModel" "code" "I") (by decide +kernel)
  have hin_X9 : ∀ z ∈ u_ws RX9 TX9 11, z ∈ wsX9_addMetal := by decide +kernel
  have hl : lv_has ls 2 [(0, .ref (b 0)), (1, .int (zI v))] := hl
  have i3 := hI.1
  have i4 := hI.2.1
  have ckb : 0 ≤ ck1 (ck_metal M v) ∧ ck1 (ck_metal M v) ≤ 3 := by unfold ck1 ck_metal; (repeat' split) <;> omega
  refine lv_aload_n hx hb dX9_addMetal_0 rfl (lv_at hl 0 rfl) ?_
  refine lv_aload_n hx hb dX9_addMetal_1 rfl (lv_at hl 0 rfl) ?_
  refine lv_iload_n hx hb dX9_addMetal_2 rfl (lv_at hl 1 rfl) ?_
  refine z_callV (C := RX9) (q0 := 0) (ci := 7) (As := [.int (zI v)]) (rest := [.ref (b 0)]) ([] : va_W) ([] : va_W) hx hb hml hown hts hl hE hS hA (zr0 ([] : va_W) hP) (zr0D ([] : va_W) hD) (c_X9_notMetal l D ct ad b M SP SV TX NB sc tl cd pl cm h v (by assumption) (by omega)) gX9_addMetal_X9_notMetal rfl rfl k_X9_notMetal ⟨Nat.le_of_ble_eq_true rfl, Nat.le_of_ble_eq_true rfl⟩ rfl rfl rfl rfl (Nat.le_of_ble_eq_true rfl) ⟨Nat.le_of_ble_eq_true rfl, Nat.le_of_ble_eq_true rfl⟩ dX9_addMetal_3 rfl (fun v w1 H locs hpost hP hD hS => ?_)
  obtain ⟨rfl, rfl⟩ := hpost
  have hP := zr0' hP
  have hD := zr0D' hD
  have hP : va_P D vwCl (moW b sc tl cd pl cm h ++ (jrW ct (b 1) 94 M ++ (jrW ct (b 2) 94 SP ++ (jrW ct (b 3) 376 SV ++ (irW ct (b 4) 150 TX ++ (irW ct (b 5) 2 NB)))))) H := hP
  have hD : va_D A (moW b sc tl cd pl cm h ++ (jrW ct (b 1) 94 M ++ (jrW ct (b 2) 94 SP ++ (jrW ct (b 3) 376 SV ++ (irW ct (b 4) 150 TX ++ (irW ct (b 5) 2 NB)))))) := hD
  refine W.eq (g2 := F0 m 6 ls [.int (zI (ck1 (ck_metal M v))), .ref (b 0)]) rfl ?_
  refine z_put (ct := ct) (ad := ad) (ci := 7) (v := .int (zI (ck1 (ck_metal M v)))) (ty := tyX9 6) (C := RX9) (T := TX9) (N := 11) (w2 := moW b sc tl (ck1 (ck_metal M v)) pl cm h ++ (jrW ct (b 1) 94 M ++ (jrW ct (b 2) 94 SP ++ (jrW ct (b 3) 376 SV ++ (irW ct (b 4) 150 TX ++ (irW ct (b 5) 2 NB)))))) hx hb hts hin_X9 tyX9 tyX9_ok nmX9 hown hE hP hD hS 0 rfl rfl 6 (by decide) hf_0 (fun _ h9 => h9) rfl (by decide +kernel) rfl rfl (Nat.le_of_ble_eq_true rfl) dX9_addMetal_6 (rfl) (fun H locs hP hD hS => ?_)
  refine lv_aload_n hx hb dX9_addMetal_9 rfl (lv_at hl 0 rfl) ?_
  refine va_get (D := D) (ci := 7) (v := .int (zI (ck1 (ck_metal M v)))) (C := RX9) (T := TX9) (N := 11) hx hb hts hin_X9 hown hK hP 0 rfl rfl 6 (by decide) hf_0 (fun _ h9 => h9) rfl dX9_addMetal_10 ?_
  refine z_if_eq (tgt := 18) hx hb dX9_addMetal_13 (by decide) (by omega) (fun hc_13 => ?_) (fun hc_13 => ?_)
  · have hc_13 := hc_13
    exact absurd hc_13 hno
  · have hc_13 := hc_13
    refine z_iconst hx hb dX9_addMetal_16 ?_
    exact z_iret hx hb hr hlocks hP hD hS ⟨Nat.le_of_ble_eq_true rfl, Nat.le_of_ble_eq_true rfl⟩ dX9_addMetal_17 (⟨congrArg (fun z => some (Value.int (zI z))) (rfl), rfl⟩)
theorem k_X9_change : yX9_change.cls ≠ "java/lang/invoke/MethodHandle" ∧ yX9_change.cls ≠ "java/lang/invoke/VarHandle" ∧ (parseMethodDescriptor yX9_change.desc).map (fun d => d.parameters.length) = some 2 := by decide +kernel
set_option maxHeartbeats 4000000 in
set_option maxRecDepth 100000 in
theorem c_X9_setStretch_ok (l : Launch) (D : va_G) (ct ad : Nat → Nat) (b : Nat → Nat) (M SP SV TX NB : Int → Int) (sc tl cd pl cm h : Int) (k v : Int) (hI : gInv M) (h1 : -2147483648 ≤ k ∧ k ≤ 2147483647) (h2 : -2147483648 ≤ v ∧ v ≤ 2147483647) (hsc : 0 ≤ sc ∧ sc ≤ 4) (hok : ck_stretch M k v = 0) : ZM l yX9_setStretch wsX9_setStretch ({ frames := 2, cells := 0, slots := 0, locals := 45 } : Room) D ct ad [.ref (b 0), .int (zI k), .int (zI v)] (moW b sc tl cd pl cm h ++ (jrW ct (b 1) 94 M ++ (jrW ct (b 2) 94 SP ++ (jrW ct (b 3) 376 SV ++ (irW ct (b 4) 150 TX ++ (irW ct (b 5) 2 NB)))))) (zD (some (.int (zI (M (16 + k))))) (moW b (sv_n sc + 1) tl (ck_stretch M k v) pl cm h ++ (jrW ct (b 1) 94 (up M (16 + k) v) ++ (jrW ct (b 2) 94 SP ++ (jrW ct (b 3) 376 (sv_keep SV M sc) ++ (irW ct (b 4) 150 TX ++ (irW ct (b 5) 2 NB))))))) := by
  refine ZM.of (cc := cX9_setStretch) (maxL := 3) (ret := (some .int)) (by decide +kernel) rfl (Nat.le_of_ble_eq_true rfl) ?_
  intro p e s m below meth c A ls hx hb hr hts hown hlocks hml hname hE hP hD hA hS hl
  have hK := hE.1
  have hf_0 := hts (.fieldLink RX9 42 "RodGridsModel" "code" "I") (by decide +kernel)
  have hin_X9 : ∀ z ∈ u_ws RX9 TX9 11, z ∈ wsX9_setStretch := by decide +kernel
  have hl : lv_has ls 3 [(0, .ref (b 0)), (1, .int (zI k)), (2, .int (zI v))] := hl
  have i3 := hI.1
  have i4 := hI.2.1
  have ckb : 0 ≤ ck_stretch M k v ∧ ck_stretch M k v ≤ 3 := by unfold ck_stretch; (repeat' split) <;> omega
  have okf : 0 ≤ k ∧ k < M 3 := by unfold ck_stretch at hok; (repeat' split at hok) <;> omega
  refine lv_aload_n hx hb dX9_setStretch_0 rfl (lv_at hl 0 rfl) ?_
  refine lv_aload_n hx hb dX9_setStretch_1 rfl (lv_at hl 0 rfl) ?_
  refine lv_iload_n hx hb dX9_setStretch_2 rfl (lv_at hl 1 rfl) ?_
  refine z_callV (C := RX9) (q0 := 0) (ci := 7) (As := [.int (zI k)]) (rest := [.ref (b 0)]) ([] : va_W) ([] : va_W) hx hb hml hown hts hl hE hS hA (zr0 ([] : va_W) hP) (zr0D ([] : va_W) hD) (c_X9_isMetal l D ct ad b M SP SV TX NB sc tl cd pl cm h k (by assumption) (by omega)) gX9_setStretch_X9_isMetal rfl rfl k_X9_isMetal ⟨Nat.le_of_ble_eq_true rfl, Nat.le_of_ble_eq_true rfl⟩ rfl rfl rfl rfl (Nat.le_of_ble_eq_true rfl) ⟨Nat.le_of_ble_eq_true rfl, Nat.le_of_ble_eq_true rfl⟩ dX9_setStretch_3 rfl (fun v w1 H locs hpost hP hD hS => ?_)
  obtain ⟨rfl, rfl⟩ := hpost
  have hP := zr0' hP
  have hD := zr0D' hD
  have hP : va_P D vwCl (moW b sc tl cd pl cm h ++ (jrW ct (b 1) 94 M ++ (jrW ct (b 2) 94 SP ++ (jrW ct (b 3) 376 SV ++ (irW ct (b 4) 150 TX ++ (irW ct (b 5) 2 NB)))))) H := hP
  have hD : va_D A (moW b sc tl cd pl cm h ++ (jrW ct (b 1) 94 M ++ (jrW ct (b 2) 94 SP ++ (jrW ct (b 3) 376 SV ++ (irW ct (b 4) 150 TX ++ (irW ct (b 5) 2 NB)))))) := hD
  refine W.eq (g2 := F0 m 6 ls [.int (zI (zB (0 ≤ k ∧ k < M 3))), .ref (b 0)]) rfl ?_
  refine zb_if_ne (tgt := 13) hx hb dX9_setStretch_6 (by decide) (fun hc_6 => ?_) (fun hc_6 => ?_)
  · have hc_6 := hc_6
    refine lv_iload_n hx hb dX9_setStretch_13 rfl (lv_at hl 2 rfl) ?_
    refine z_callS (As := [.int (zI v)]) (rest := [.ref (b 0)]) ([] : va_W) (moW b sc tl cd pl cm h ++ (jrW ct (b 1) 94 M ++ (jrW ct (b 2) 94 SP ++ (jrW ct (b 3) 376 SV ++ (irW ct (b 4) 150 TX ++ (irW ct (b 5) 2 NB)))))) hx hb hml hown hts hl hE hS hA hP hD (c_X9_isStretch l D ct ad v (by omega)) gX9_setStretch_X9_isStretch rfl k_X9_isStretch ⟨Nat.le_of_ble_eq_true rfl, Nat.le_of_ble_eq_true rfl⟩ rfl (Nat.le_of_ble_eq_true rfl) ⟨Nat.le_of_ble_eq_true rfl, Nat.le_of_ble_eq_true rfl⟩ dX9_setStretch_14 rfl (fun v w1 H locs hpost hP hD hS => ?_)
    obtain ⟨rfl, rfl⟩ := hpost
    have hP : va_P D vwCl (moW b sc tl cd pl cm h ++ (jrW ct (b 1) 94 M ++ (jrW ct (b 2) 94 SP ++ (jrW ct (b 3) 376 SV ++ (irW ct (b 4) 150 TX ++ (irW ct (b 5) 2 NB)))))) H := hP
    have hD : va_D A (moW b sc tl cd pl cm h ++ (jrW ct (b 1) 94 M ++ (jrW ct (b 2) 94 SP ++ (jrW ct (b 3) 376 SV ++ (irW ct (b 4) 150 TX ++ (irW ct (b 5) 2 NB)))))) := hD
    refine W.eq (g2 := F0 m 17 ls [.int (zI (zB (0 ≤ v ∧ v ≤ 500))), .ref (b 0)]) rfl ?_
    refine zb_if_eq (tgt := 24) hx hb dX9_setStretch_17 (by decide) (fun hc_17 => ?_) (fun hc_17 => ?_)
    · have hc_17 := hc_17
      refine z_iconst hx hb dX9_setStretch_24 ?_
      exfalso
      have hck : 2 = ck_stretch M k v := by unfold ck_stretch; (repeat' split) <;> omega
      omega
    · have hc_17 := hc_17
      refine z_iconst hx hb dX9_setStretch_20 ?_
      refine lv_goto (tgt := 25) hx hb dX9_setStretch_21 (by decide) ?_
      refine z_canI (show 0 = ck_stretch M k v from (by unfold ck_stretch; (repeat' split) <;> omega)) ?_
      refine z_put (ct := ct) (ad := ad) (ci := 7) (v := .int (zI (ck_stretch M k v))) (ty := tyX9 6) (C := RX9) (T := TX9) (N := 11) (w2 := moW b sc tl (ck_stretch M k v) pl cm h ++ (jrW ct (b 1) 94 M ++ (jrW ct (b 2) 94 SP ++ (jrW ct (b 3) 376 SV ++ (irW ct (b 4) 150 TX ++ (irW ct (b 5) 2 NB)))))) hx hb hts hin_X9 tyX9 tyX9_ok nmX9 hown hE hP hD hS 0 rfl rfl 6 (by decide) hf_0 (fun _ h9 => h9) rfl (by decide +kernel) rfl rfl (Nat.le_of_ble_eq_true rfl) dX9_setStretch_25 (rfl) (fun H locs hP hD hS => ?_)
      refine lv_aload_n hx hb dX9_setStretch_28 rfl (lv_at hl 0 rfl) ?_
      refine va_get (D := D) (ci := 7) (v := .int (zI (ck_stretch M k v))) (C := RX9) (T := TX9) (N := 11) hx hb hts hin_X9 hown hK hP 0 rfl rfl 6 (by decide) hf_0 (fun _ h9 => h9) rfl dX9_setStretch_29 ?_
      refine z_if_eq (tgt := 37) hx hb dX9_setStretch_32 (by decide) (by omega) (fun hc_32 => ?_) (fun hc_32 => ?_)
      · have hc_32 := hc_32
        refine lv_aload_n hx hb dX9_setStretch_37 rfl (lv_at hl 0 rfl) ?_
        refine z_callV (C := RX9) (q0 := 0) (ci := 7) (As := []) (rest := []) ([] : va_W) ([] : va_W) hx hb hml hown hts hl hE hS hA (zr0 ([] : va_W) hP) (zr0D ([] : va_W) hD) (c_X9_keep l D ct ad b M SP SV TX NB sc tl (ck_stretch M k v) pl cm h (by omega)) gX9_setStretch_X9_keep rfl rfl k_X9_keep ⟨Nat.le_of_ble_eq_true rfl, Nat.le_of_ble_eq_true rfl⟩ rfl rfl rfl rfl (Nat.le_of_ble_eq_true rfl) ⟨Nat.le_of_ble_eq_true rfl, Nat.le_of_ble_eq_true rfl⟩ dX9_setStretch_38 rfl (fun v w1 H locs hpost hP hD hS => ?_)
        obtain ⟨rfl, rfl⟩ := hpost
        have hP := zr0' hP
        have hD := zr0D' hD
        have hP : va_P D vwCl (moW b (sv_n sc + 1) tl (ck_stretch M k v) pl cm h ++ (jrW ct (b 1) 94 M ++ (jrW ct (b 2) 94 SP ++ (jrW ct (b 3) 376 (sv_keep SV M sc) ++ (irW ct (b 4) 150 TX ++ (irW ct (b 5) 2 NB)))))) H := hP
        have hD : va_D A (moW b (sv_n sc + 1) tl (ck_stretch M k v) pl cm h ++ (jrW ct (b 1) 94 M ++ (jrW ct (b 2) 94 SP ++ (jrW ct (b 3) 376 (sv_keep SV M sc) ++ (irW ct (b 4) 150 TX ++ (irW ct (b 5) 2 NB)))))) := hD
        refine W.eq (g2 := F0 m 41 ls []) rfl ?_
        refine lv_aload_n hx hb dX9_setStretch_41 rfl (lv_at hl 0 rfl) ?_
        refine z_bipush hx hb dX9_setStretch_42 (by decide) ?_
        refine lv_iload_n hx hb dX9_setStretch_44 rfl (lv_at hl 1 rfl) ?_
        refine z_iadd hx hb dX9_setStretch_45 ?_
        refine lv_iload_n hx hb dX9_setStretch_46 rfl (lv_at hl 2 rfl) ?_
        refine z_callV (C := RX9) (q0 := 0) (ci := 7) (As := [.int (zI (16 + k)), .int (zI v)]) (rest := []) ([] : va_W) ([] : va_W) hx hb hml hown hts hl hE hS hA (zr0 ([] : va_W) hP) (zr0D ([] : va_W) hD) (c_X9_change l D ct ad b M SP (sv_keep SV M sc) TX NB (sv_n sc + 1) tl (ck_stretch M k v) pl cm h (16 + k) v (by omega) (by omega)) gX9_setStretch_X9_change rfl rfl k_X9_change ⟨Nat.le_of_ble_eq_true rfl, Nat.le_of_ble_eq_true rfl⟩ rfl rfl rfl rfl (Nat.le_of_ble_eq_true rfl) ⟨Nat.le_of_ble_eq_true rfl, Nat.le_of_ble_eq_true rfl⟩ dX9_setStretch_47 rfl (fun v w1 H locs hpost hP hD hS => ?_)
        obtain ⟨rfl, rfl⟩ := hpost
        have hP := zr0' hP
        have hD := zr0D' hD
        have hP : va_P D vwCl (moW b (sv_n sc + 1) tl (ck_stretch M k v) pl cm h ++ (jrW ct (b 1) 94 (up M (16 + k) v) ++ (jrW ct (b 2) 94 SP ++ (jrW ct (b 3) 376 (sv_keep SV M sc) ++ (irW ct (b 4) 150 TX ++ (irW ct (b 5) 2 NB)))))) H := hP
        have hD : va_D A (moW b (sv_n sc + 1) tl (ck_stretch M k v) pl cm h ++ (jrW ct (b 1) 94 (up M (16 + k) v) ++ (jrW ct (b 2) 94 SP ++ (jrW ct (b 3) 376 (sv_keep SV M sc) ++ (irW ct (b 4) 150 TX ++ (irW ct (b 5) 2 NB)))))) := hD
        refine W.eq (g2 := F0 m 50 ls [.int (zI (M (16 + k)))]) rfl ?_
        exact z_iret hx hb hr hlocks hP hD hS ⟨Nat.le_of_ble_eq_true rfl, Nat.le_of_ble_eq_true rfl⟩ dX9_setStretch_50 (⟨congrArg (fun z => some (Value.int (zI z))) (rfl), rfl⟩)
      · have hc_32 := hc_32
        exact absurd hok hc_32
  · have hc_6 := hc_6
    refine z_iconst hx hb dX9_setStretch_9 ?_
    refine lv_goto (tgt := 25) hx hb dX9_setStretch_10 (by decide) ?_
    exfalso
    have hck : 1 = ck_stretch M k v := by unfold ck_stretch; (repeat' split) <;> omega
    omega
set_option maxHeartbeats 4000000 in
set_option maxRecDepth 100000 in
theorem c_X9_setStretch_no (l : Launch) (D : va_G) (ct ad : Nat → Nat) (b : Nat → Nat) (M SP SV TX NB : Int → Int) (sc tl cd pl cm h : Int) (k v : Int) (hI : gInv M) (h1 : -2147483648 ≤ k ∧ k ≤ 2147483647) (h2 : -2147483648 ≤ v ∧ v ≤ 2147483647) (hno : ck_stretch M k v ≠ 0) : ZM l yX9_setStretch wsX9_setStretch ({ frames := 2, cells := 0, slots := 0, locals := 43 } : Room) D ct ad [.ref (b 0), .int (zI k), .int (zI v)] (moW b sc tl cd pl cm h ++ (jrW ct (b 1) 94 M ++ (jrW ct (b 2) 94 SP ++ (jrW ct (b 3) 376 SV ++ (irW ct (b 4) 150 TX ++ (irW ct (b 5) 2 NB)))))) (zD (some (.int (zI 0))) (moW b sc tl (ck_stretch M k v) pl cm h ++ (jrW ct (b 1) 94 M ++ (jrW ct (b 2) 94 SP ++ (jrW ct (b 3) 376 SV ++ (irW ct (b 4) 150 TX ++ (irW ct (b 5) 2 NB))))))) := by
  refine ZM.of (cc := cX9_setStretch) (maxL := 3) (ret := (some .int)) (by decide +kernel) rfl (Nat.le_of_ble_eq_true rfl) ?_
  intro p e s m below meth c A ls hx hb hr hts hown hlocks hml hname hE hP hD hA hS hl
  have hK := hE.1
  have hf_0 := hts (.fieldLink RX9 42 "RodGridsModel" "code" "I") (by decide +kernel)
  have hin_X9 : ∀ z ∈ u_ws RX9 TX9 11, z ∈ wsX9_setStretch := by decide +kernel
  have hl : lv_has ls 3 [(0, .ref (b 0)), (1, .int (zI k)), (2, .int (zI v))] := hl
  have i3 := hI.1
  have i4 := hI.2.1
  have ckb : 0 ≤ ck_stretch M k v ∧ ck_stretch M k v ≤ 3 := by unfold ck_stretch; (repeat' split) <;> omega
  refine lv_aload_n hx hb dX9_setStretch_0 rfl (lv_at hl 0 rfl) ?_
  refine lv_aload_n hx hb dX9_setStretch_1 rfl (lv_at hl 0 rfl) ?_
  refine lv_iload_n hx hb dX9_setStretch_2 rfl (lv_at hl 1 rfl) ?_
  refine z_callV (C := RX9) (q0 := 0) (ci := 7) (As := [.int (zI k)]) (rest := [.ref (b 0)]) ([] : va_W) ([] : va_W) hx hb hml hown hts hl hE hS hA (zr0 ([] : va_W) hP) (zr0D ([] : va_W) hD) (c_X9_isMetal l D ct ad b M SP SV TX NB sc tl cd pl cm h k (by assumption) (by omega)) gX9_setStretch_X9_isMetal rfl rfl k_X9_isMetal ⟨Nat.le_of_ble_eq_true rfl, Nat.le_of_ble_eq_true rfl⟩ rfl rfl rfl rfl (Nat.le_of_ble_eq_true rfl) ⟨Nat.le_of_ble_eq_true rfl, Nat.le_of_ble_eq_true rfl⟩ dX9_setStretch_3 rfl (fun v w1 H locs hpost hP hD hS => ?_)
  obtain ⟨rfl, rfl⟩ := hpost
  have hP := zr0' hP
  have hD := zr0D' hD
  have hP : va_P D vwCl (moW b sc tl cd pl cm h ++ (jrW ct (b 1) 94 M ++ (jrW ct (b 2) 94 SP ++ (jrW ct (b 3) 376 SV ++ (irW ct (b 4) 150 TX ++ (irW ct (b 5) 2 NB)))))) H := hP
  have hD : va_D A (moW b sc tl cd pl cm h ++ (jrW ct (b 1) 94 M ++ (jrW ct (b 2) 94 SP ++ (jrW ct (b 3) 376 SV ++ (irW ct (b 4) 150 TX ++ (irW ct (b 5) 2 NB)))))) := hD
  refine W.eq (g2 := F0 m 6 ls [.int (zI (zB (0 ≤ k ∧ k < M 3))), .ref (b 0)]) rfl ?_
  refine zb_if_ne (tgt := 13) hx hb dX9_setStretch_6 (by decide) (fun hc_6 => ?_) (fun hc_6 => ?_)
  · have hc_6 := hc_6
    refine lv_iload_n hx hb dX9_setStretch_13 rfl (lv_at hl 2 rfl) ?_
    refine z_callS (As := [.int (zI v)]) (rest := [.ref (b 0)]) ([] : va_W) (moW b sc tl cd pl cm h ++ (jrW ct (b 1) 94 M ++ (jrW ct (b 2) 94 SP ++ (jrW ct (b 3) 376 SV ++ (irW ct (b 4) 150 TX ++ (irW ct (b 5) 2 NB)))))) hx hb hml hown hts hl hE hS hA hP hD (c_X9_isStretch l D ct ad v (by omega)) gX9_setStretch_X9_isStretch rfl k_X9_isStretch ⟨Nat.le_of_ble_eq_true rfl, Nat.le_of_ble_eq_true rfl⟩ rfl (Nat.le_of_ble_eq_true rfl) ⟨Nat.le_of_ble_eq_true rfl, Nat.le_of_ble_eq_true rfl⟩ dX9_setStretch_14 rfl (fun v w1 H locs hpost hP hD hS => ?_)
    obtain ⟨rfl, rfl⟩ := hpost
    have hP : va_P D vwCl (moW b sc tl cd pl cm h ++ (jrW ct (b 1) 94 M ++ (jrW ct (b 2) 94 SP ++ (jrW ct (b 3) 376 SV ++ (irW ct (b 4) 150 TX ++ (irW ct (b 5) 2 NB)))))) H := hP
    have hD : va_D A (moW b sc tl cd pl cm h ++ (jrW ct (b 1) 94 M ++ (jrW ct (b 2) 94 SP ++ (jrW ct (b 3) 376 SV ++ (irW ct (b 4) 150 TX ++ (irW ct (b 5) 2 NB)))))) := hD
    refine W.eq (g2 := F0 m 17 ls [.int (zI (zB (0 ≤ v ∧ v ≤ 500))), .ref (b 0)]) rfl ?_
    refine zb_if_eq (tgt := 24) hx hb dX9_setStretch_17 (by decide) (fun hc_17 => ?_) (fun hc_17 => ?_)
    · have hc_17 := hc_17
      refine z_iconst hx hb dX9_setStretch_24 ?_
      refine z_canI (show 2 = ck_stretch M k v from (by unfold ck_stretch; (repeat' split) <;> omega)) ?_
      refine z_put (ct := ct) (ad := ad) (ci := 7) (v := .int (zI (ck_stretch M k v))) (ty := tyX9 6) (C := RX9) (T := TX9) (N := 11) (w2 := moW b sc tl (ck_stretch M k v) pl cm h ++ (jrW ct (b 1) 94 M ++ (jrW ct (b 2) 94 SP ++ (jrW ct (b 3) 376 SV ++ (irW ct (b 4) 150 TX ++ (irW ct (b 5) 2 NB)))))) hx hb hts hin_X9 tyX9 tyX9_ok nmX9 hown hE hP hD hS 0 rfl rfl 6 (by decide) hf_0 (fun _ h9 => h9) rfl (by decide +kernel) rfl rfl (Nat.le_of_ble_eq_true rfl) dX9_setStretch_25 (rfl) (fun H locs hP hD hS => ?_)
      refine lv_aload_n hx hb dX9_setStretch_28 rfl (lv_at hl 0 rfl) ?_
      refine va_get (D := D) (ci := 7) (v := .int (zI (ck_stretch M k v))) (C := RX9) (T := TX9) (N := 11) hx hb hts hin_X9 hown hK hP 0 rfl rfl 6 (by decide) hf_0 (fun _ h9 => h9) rfl dX9_setStretch_29 ?_
      refine z_if_eq (tgt := 37) hx hb dX9_setStretch_32 (by decide) (by omega) (fun hc_32 => ?_) (fun hc_32 => ?_)
      · have hc_32 := hc_32
        exact absurd hc_32 hno
      · have hc_32 := hc_32
        refine z_iconst hx hb dX9_setStretch_35 ?_
        exact z_iret hx hb hr hlocks hP hD hS ⟨Nat.le_of_ble_eq_true rfl, Nat.le_of_ble_eq_true rfl⟩ dX9_setStretch_36 (⟨congrArg (fun z => some (Value.int (zI z))) (rfl), rfl⟩)
    · have hc_17 := hc_17
      refine z_iconst hx hb dX9_setStretch_20 ?_
      refine lv_goto (tgt := 25) hx hb dX9_setStretch_21 (by decide) ?_
      exfalso
      have hck : 0 = ck_stretch M k v := by unfold ck_stretch; (repeat' split) <;> omega
      omega
  · have hc_6 := hc_6
    refine z_iconst hx hb dX9_setStretch_9 ?_
    refine lv_goto (tgt := 25) hx hb dX9_setStretch_10 (by decide) ?_
    refine z_canI (show 1 = ck_stretch M k v from (by unfold ck_stretch; (repeat' split) <;> omega)) ?_
    refine z_put (ct := ct) (ad := ad) (ci := 7) (v := .int (zI (ck_stretch M k v))) (ty := tyX9 6) (C := RX9) (T := TX9) (N := 11) (w2 := moW b sc tl (ck_stretch M k v) pl cm h ++ (jrW ct (b 1) 94 M ++ (jrW ct (b 2) 94 SP ++ (jrW ct (b 3) 376 SV ++ (irW ct (b 4) 150 TX ++ (irW ct (b 5) 2 NB)))))) hx hb hts hin_X9 tyX9 tyX9_ok nmX9 hown hE hP hD hS 0 rfl rfl 6 (by decide) hf_0 (fun _ h9 => h9) rfl (by decide +kernel) rfl rfl (Nat.le_of_ble_eq_true rfl) dX9_setStretch_25 (rfl) (fun H locs hP hD hS => ?_)
    refine lv_aload_n hx hb dX9_setStretch_28 rfl (lv_at hl 0 rfl) ?_
    refine va_get (D := D) (ci := 7) (v := .int (zI (ck_stretch M k v))) (C := RX9) (T := TX9) (N := 11) hx hb hts hin_X9 hown hK hP 0 rfl rfl 6 (by decide) hf_0 (fun _ h9 => h9) rfl dX9_setStretch_29 ?_
    refine z_if_eq (tgt := 37) hx hb dX9_setStretch_32 (by decide) (by omega) (fun hc_32 => ?_) (fun hc_32 => ?_)
    · have hc_32 := hc_32
      exact absurd hc_32 hno
    · have hc_32 := hc_32
      refine z_iconst hx hb dX9_setStretch_35 ?_
      exact z_iret hx hb hr hlocks hP hD hS ⟨Nat.le_of_ble_eq_true rfl, Nat.le_of_ble_eq_true rfl⟩ dX9_setStretch_36 (⟨congrArg (fun z => some (Value.int (zI z))) (rfl), rfl⟩)
theorem k_X9_addsRod : yX9_addsRod.cls ≠ "java/lang/invoke/MethodHandle" ∧ yX9_addsRod.cls ≠ "java/lang/invoke/VarHandle" ∧ (parseMethodDescriptor yX9_addsRod.desc).map (fun d => d.parameters.length) = some 3 := by decide +kernel
theorem k_X9_notRod : yX9_notRod.cls ≠ "java/lang/invoke/MethodHandle" ∧ yX9_notRod.cls ≠ "java/lang/invoke/VarHandle" ∧ (parseMethodDescriptor yX9_notRod.desc).map (fun d => d.parameters.length) = some 3 := by decide +kernel
set_option maxHeartbeats 4000000 in
set_option maxRecDepth 100000 in
theorem c_X9_addRod_ok (l : Launch) (D : va_G) (ct ad : Nat → Nat) (b : Nat → Nat) (M SP SV TX NB : Int → Int) (sc tl cd pl cm h : Int) (k d n : Int) (hI : gInv M) (h1 : -2147483648 ≤ k ∧ k ≤ 2147483647) (h2 : -2147483648 ≤ d ∧ d ≤ 2147483647) (h3 : -2147483648 ≤ n ∧ n ≤ 2147483647) (hsc : 0 ≤ sc ∧ sc ≤ 4) (hok : ck_rod M k d n = 0) : ZM l yX9_addRod wsX9_addRod ({ frames := 3, cells := 0, slots := 0, locals := 66 } : Room) D ct ad [.ref (b 0), .int (zI k), .int (zI d), .int (zI n)] (moW b sc tl cd pl cm h ++ (jrW ct (b 1) 94 M ++ (jrW ct (b 2) 94 SP ++ (jrW ct (b 3) 376 SV ++ (irW ct (b 4) 150 TX ++ (irW ct (b 5) 2 NB)))))) (zD (some (.int (zI (M 4)))) (moW b (sv_n sc + 1) tl (ck_rod M k d n) pl cm h ++ (jrW ct (b 1) 94 (st_rod M k d n) ++ (jrW ct (b 2) 94 SP ++ (jrW ct (b 3) 376 (sv_keep SV M sc) ++ (irW ct (b 4) 150 TX ++ (irW ct (b 5) 2 NB))))))) := by
  refine ZM.of (cc := cX9_addRod) (maxL := 4) (ret := (some .int)) (by decide +kernel) rfl (Nat.le_of_ble_eq_true rfl) ?_
  intro p e s m below meth c A ls hx hb hr hts hown hlocks hml hname hE hP hD hA hS hl
  have hK := hE.1
  have hf_0 := hts (.fieldLink RX9 42 "RodGridsModel" "code" "I") (by decide +kernel)
  have hin_X9 : ∀ z ∈ u_ws RX9 TX9 11, z ∈ wsX9_addRod := by decide +kernel
  have hl : lv_has ls 4 [(0, .ref (b 0)), (1, .int (zI k)), (2, .int (zI d)), (3, .int (zI n))] := hl
  have i3 := hI.1
  have i4 := hI.2.1
  have ckb : 0 ≤ ck_rod M k d n ∧ ck_rod M k d n ≤ 3 := by unfold ck_rod; (repeat' split) <;> omega
  have okf : M 4 < 9 := by unfold ck_rod at hok; (repeat' split at hok) <;> omega
  refine lv_aload_n hx hb dX9_addRod_0 rfl (lv_at hl 0 rfl) ?_
  refine lv_aload_n hx hb dX9_addRod_1 rfl (lv_at hl 0 rfl) ?_
  refine lv_iload_n hx hb dX9_addRod_2 rfl (lv_at hl 1 rfl) ?_
  refine lv_iload_n hx hb dX9_addRod_3 rfl (lv_at hl 2 rfl) ?_
  refine lv_iload_n hx hb dX9_addRod_4 rfl (lv_at hl 3 rfl) ?_
  refine z_callV (C := RX9) (q0 := 0) (ci := 7) (As := [.int (zI k), .int (zI d), .int (zI n)]) (rest := [.ref (b 0)]) ([] : va_W) ([] : va_W) hx hb hml hown hts hl hE hS hA (zr0 ([] : va_W) hP) (zr0D ([] : va_W) hD) (c_X9_notRod l D ct ad b M SP SV TX NB sc tl cd pl cm h k d n (by assumption) (by omega) (by omega) (by omega)) gX9_addRod_X9_notRod rfl rfl k_X9_notRod ⟨Nat.le_of_ble_eq_true rfl, Nat.le_of_ble_eq_true rfl⟩ rfl rfl rfl rfl (Nat.le_of_ble_eq_true rfl) ⟨Nat.le_of_ble_eq_true rfl, Nat.le_of_ble_eq_true rfl⟩ dX9_addRod_5 rfl (fun v w1 H locs hpost hP hD hS => ?_)
  obtain ⟨rfl, rfl⟩ := hpost
  have hP := zr0' hP
  have hD := zr0D' hD
  have hP : va_P D vwCl (moW b sc tl cd pl cm h ++ (jrW ct (b 1) 94 M ++ (jrW ct (b 2) 94 SP ++ (jrW ct (b 3) 376 SV ++ (irW ct (b 4) 150 TX ++ (irW ct (b 5) 2 NB)))))) H := hP
  have hD : va_D A (moW b sc tl cd pl cm h ++ (jrW ct (b 1) 94 M ++ (jrW ct (b 2) 94 SP ++ (jrW ct (b 3) 376 SV ++ (irW ct (b 4) 150 TX ++ (irW ct (b 5) 2 NB)))))) := hD
  refine W.eq (g2 := F0 m 8 ls [.int (zI (ck_rod M k d n)), .ref (b 0)]) rfl ?_
  refine z_put (ct := ct) (ad := ad) (ci := 7) (v := .int (zI (ck_rod M k d n))) (ty := tyX9 6) (C := RX9) (T := TX9) (N := 11) (w2 := moW b sc tl (ck_rod M k d n) pl cm h ++ (jrW ct (b 1) 94 M ++ (jrW ct (b 2) 94 SP ++ (jrW ct (b 3) 376 SV ++ (irW ct (b 4) 150 TX ++ (irW ct (b 5) 2 NB)))))) hx hb hts hin_X9 tyX9 tyX9_ok nmX9 hown hE hP hD hS 0 rfl rfl 6 (by decide) hf_0 (fun _ h9 => h9) rfl (by decide +kernel) rfl rfl (Nat.le_of_ble_eq_true rfl) dX9_addRod_8 (rfl) (fun H locs hP hD hS => ?_)
  refine lv_aload_n hx hb dX9_addRod_11 rfl (lv_at hl 0 rfl) ?_
  refine va_get (D := D) (ci := 7) (v := .int (zI (ck_rod M k d n))) (C := RX9) (T := TX9) (N := 11) hx hb hts hin_X9 hown hK hP 0 rfl rfl 6 (by decide) hf_0 (fun _ h9 => h9) rfl dX9_addRod_12 ?_
  refine z_if_eq (tgt := 20) hx hb dX9_addRod_15 (by decide) (by omega) (fun hc_15 => ?_) (fun hc_15 => ?_)
  · have hc_15 := hc_15
    refine lv_aload_n hx hb dX9_addRod_20 rfl (lv_at hl 0 rfl) ?_
    refine z_callV (C := RX9) (q0 := 0) (ci := 7) (As := []) (rest := []) ([] : va_W) ([] : va_W) hx hb hml hown hts hl hE hS hA (zr0 ([] : va_W) hP) (zr0D ([] : va_W) hD) (c_X9_keep l D ct ad b M SP SV TX NB sc tl (ck_rod M k d n) pl cm h (by omega)) gX9_addRod_X9_keep rfl rfl k_X9_keep ⟨Nat.le_of_ble_eq_true rfl, Nat.le_of_ble_eq_true rfl⟩ rfl rfl rfl rfl (Nat.le_of_ble_eq_true rfl) ⟨Nat.le_of_ble_eq_true rfl, Nat.le_of_ble_eq_true rfl⟩ dX9_addRod_21 rfl (fun v w1 H locs hpost hP hD hS => ?_)
    obtain ⟨rfl, rfl⟩ := hpost
    have hP := zr0' hP
    have hD := zr0D' hD
    have hP : va_P D vwCl (moW b (sv_n sc + 1) tl (ck_rod M k d n) pl cm h ++ (jrW ct (b 1) 94 M ++ (jrW ct (b 2) 94 SP ++ (jrW ct (b 3) 376 (sv_keep SV M sc) ++ (irW ct (b 4) 150 TX ++ (irW ct (b 5) 2 NB)))))) H := hP
    have hD : va_D A (moW b (sv_n sc + 1) tl (ck_rod M k d n) pl cm h ++ (jrW ct (b 1) 94 M ++ (jrW ct (b 2) 94 SP ++ (jrW ct (b 3) 376 (sv_keep SV M sc) ++ (irW ct (b 4) 150 TX ++ (irW ct (b 5) 2 NB)))))) := hD
    refine W.eq (g2 := F0 m 24 ls []) rfl ?_
    refine lv_aload_n hx hb dX9_addRod_24 rfl (lv_at hl 0 rfl) ?_
    refine lv_iload_n hx hb dX9_addRod_25 rfl (lv_at hl 1 rfl) ?_
    refine lv_iload_n hx hb dX9_addRod_26 rfl (lv_at hl 2 rfl) ?_
    refine lv_iload_n hx hb dX9_addRod_27 rfl (lv_at hl 3 rfl) ?_
    refine z_callV (C := RX9) (q0 := 0) (ci := 7) (As := [.int (zI k), .int (zI d), .int (zI n)]) (rest := []) ([] : va_W) ([] : va_W) hx hb hml hown hts hl hE hS hA (zr0 ([] : va_W) hP) (zr0D ([] : va_W) hD) (c_X9_addsRod l D ct ad b M SP (sv_keep SV M sc) TX NB (sv_n sc + 1) tl (ck_rod M k d n) pl cm h k d n (by assumption) (by omega) (by omega) (by omega) (by omega)) gX9_addRod_X9_addsRod rfl rfl k_X9_addsRod ⟨Nat.le_of_ble_eq_true rfl, Nat.le_of_ble_eq_true rfl⟩ rfl rfl rfl rfl (Nat.le_of_ble_eq_true rfl) ⟨Nat.le_of_ble_eq_true rfl, Nat.le_of_ble_eq_true rfl⟩ dX9_addRod_28 rfl (fun v w1 H locs hpost hP hD hS => ?_)
    obtain ⟨rfl, rfl⟩ := hpost
    have hP := zr0' hP
    have hD := zr0D' hD
    have hP : va_P D vwCl (moW b (sv_n sc + 1) tl (ck_rod M k d n) pl cm h ++ (jrW ct (b 1) 94 (st_rod M k d n) ++ (jrW ct (b 2) 94 SP ++ (jrW ct (b 3) 376 (sv_keep SV M sc) ++ (irW ct (b 4) 150 TX ++ (irW ct (b 5) 2 NB)))))) H := hP
    have hD : va_D A (moW b (sv_n sc + 1) tl (ck_rod M k d n) pl cm h ++ (jrW ct (b 1) 94 (st_rod M k d n) ++ (jrW ct (b 2) 94 SP ++ (jrW ct (b 3) 376 (sv_keep SV M sc) ++ (irW ct (b 4) 150 TX ++ (irW ct (b 5) 2 NB)))))) := hD
    refine W.eq (g2 := F0 m 31 ls [.int (zI (M 4))]) rfl ?_
    exact z_iret hx hb hr hlocks hP hD hS ⟨Nat.le_of_ble_eq_true rfl, Nat.le_of_ble_eq_true rfl⟩ dX9_addRod_31 (⟨congrArg (fun z => some (Value.int (zI z))) (rfl), rfl⟩)
  · have hc_15 := hc_15
    exact absurd hok hc_15
set_option maxHeartbeats 4000000 in
set_option maxRecDepth 100000 in
theorem c_X9_addRod_no (l : Launch) (D : va_G) (ct ad : Nat → Nat) (b : Nat → Nat) (M SP SV TX NB : Int → Int) (sc tl cd pl cm h : Int) (k d n : Int) (hI : gInv M) (h1 : -2147483648 ≤ k ∧ k ≤ 2147483647) (h2 : -2147483648 ≤ d ∧ d ≤ 2147483647) (h3 : -2147483648 ≤ n ∧ n ≤ 2147483647) (hno : ck_rod M k d n ≠ 0) : ZM l yX9_addRod wsX9_addRod ({ frames := 3, cells := 0, slots := 0, locals := 66 } : Room) D ct ad [.ref (b 0), .int (zI k), .int (zI d), .int (zI n)] (moW b sc tl cd pl cm h ++ (jrW ct (b 1) 94 M ++ (jrW ct (b 2) 94 SP ++ (jrW ct (b 3) 376 SV ++ (irW ct (b 4) 150 TX ++ (irW ct (b 5) 2 NB)))))) (zD (some (.int (zI 0))) (moW b sc tl (ck_rod M k d n) pl cm h ++ (jrW ct (b 1) 94 M ++ (jrW ct (b 2) 94 SP ++ (jrW ct (b 3) 376 SV ++ (irW ct (b 4) 150 TX ++ (irW ct (b 5) 2 NB))))))) := by
  refine ZM.of (cc := cX9_addRod) (maxL := 4) (ret := (some .int)) (by decide +kernel) rfl (Nat.le_of_ble_eq_true rfl) ?_
  intro p e s m below meth c A ls hx hb hr hts hown hlocks hml hname hE hP hD hA hS hl
  have hK := hE.1
  have hf_0 := hts (.fieldLink RX9 42 "RodGridsModel" "code" "I") (by decide +kernel)
  have hin_X9 : ∀ z ∈ u_ws RX9 TX9 11, z ∈ wsX9_addRod := by decide +kernel
  have hl : lv_has ls 4 [(0, .ref (b 0)), (1, .int (zI k)), (2, .int (zI d)), (3, .int (zI n))] := hl
  have i3 := hI.1
  have i4 := hI.2.1
  have ckb : 0 ≤ ck_rod M k d n ∧ ck_rod M k d n ≤ 3 := by unfold ck_rod; (repeat' split) <;> omega
  refine lv_aload_n hx hb dX9_addRod_0 rfl (lv_at hl 0 rfl) ?_
  refine lv_aload_n hx hb dX9_addRod_1 rfl (lv_at hl 0 rfl) ?_
  refine lv_iload_n hx hb dX9_addRod_2 rfl (lv_at hl 1 rfl) ?_
  refine lv_iload_n hx hb dX9_addRod_3 rfl (lv_at hl 2 rfl) ?_
  refine lv_iload_n hx hb dX9_addRod_4 rfl (lv_at hl 3 rfl) ?_
  refine z_callV (C := RX9) (q0 := 0) (ci := 7) (As := [.int (zI k), .int (zI d), .int (zI n)]) (rest := [.ref (b 0)]) ([] : va_W) ([] : va_W) hx hb hml hown hts hl hE hS hA (zr0 ([] : va_W) hP) (zr0D ([] : va_W) hD) (c_X9_notRod l D ct ad b M SP SV TX NB sc tl cd pl cm h k d n (by assumption) (by omega) (by omega) (by omega)) gX9_addRod_X9_notRod rfl rfl k_X9_notRod ⟨Nat.le_of_ble_eq_true rfl, Nat.le_of_ble_eq_true rfl⟩ rfl rfl rfl rfl (Nat.le_of_ble_eq_true rfl) ⟨Nat.le_of_ble_eq_true rfl, Nat.le_of_ble_eq_true rfl⟩ dX9_addRod_5 rfl (fun v w1 H locs hpost hP hD hS => ?_)
  obtain ⟨rfl, rfl⟩ := hpost
  have hP := zr0' hP
  have hD := zr0D' hD
  have hP : va_P D vwCl (moW b sc tl cd pl cm h ++ (jrW ct (b 1) 94 M ++ (jrW ct (b 2) 94 SP ++ (jrW ct (b 3) 376 SV ++ (irW ct (b 4) 150 TX ++ (irW ct (b 5) 2 NB)))))) H := hP
  have hD : va_D A (moW b sc tl cd pl cm h ++ (jrW ct (b 1) 94 M ++ (jrW ct (b 2) 94 SP ++ (jrW ct (b 3) 376 SV ++ (irW ct (b 4) 150 TX ++ (irW ct (b 5) 2 NB)))))) := hD
  refine W.eq (g2 := F0 m 8 ls [.int (zI (ck_rod M k d n)), .ref (b 0)]) rfl ?_
  refine z_put (ct := ct) (ad := ad) (ci := 7) (v := .int (zI (ck_rod M k d n))) (ty := tyX9 6) (C := RX9) (T := TX9) (N := 11) (w2 := moW b sc tl (ck_rod M k d n) pl cm h ++ (jrW ct (b 1) 94 M ++ (jrW ct (b 2) 94 SP ++ (jrW ct (b 3) 376 SV ++ (irW ct (b 4) 150 TX ++ (irW ct (b 5) 2 NB)))))) hx hb hts hin_X9 tyX9 tyX9_ok nmX9 hown hE hP hD hS 0 rfl rfl 6 (by decide) hf_0 (fun _ h9 => h9) rfl (by decide +kernel) rfl rfl (Nat.le_of_ble_eq_true rfl) dX9_addRod_8 (rfl) (fun H locs hP hD hS => ?_)
  refine lv_aload_n hx hb dX9_addRod_11 rfl (lv_at hl 0 rfl) ?_
  refine va_get (D := D) (ci := 7) (v := .int (zI (ck_rod M k d n))) (C := RX9) (T := TX9) (N := 11) hx hb hts hin_X9 hown hK hP 0 rfl rfl 6 (by decide) hf_0 (fun _ h9 => h9) rfl dX9_addRod_12 ?_
  refine z_if_eq (tgt := 20) hx hb dX9_addRod_15 (by decide) (by omega) (fun hc_15 => ?_) (fun hc_15 => ?_)
  · have hc_15 := hc_15
    exact absurd hc_15 hno
  · have hc_15 := hc_15
    refine z_iconst hx hb dX9_addRod_18 ?_
    exact z_iret hx hb hr hlocks hP hD hS ⟨Nat.le_of_ble_eq_true rfl, Nat.le_of_ble_eq_true rfl⟩ dX9_addRod_19 (⟨congrArg (fun z => some (Value.int (zI z))) (rfl), rfl⟩)
set_option maxHeartbeats 4000000 in
set_option maxRecDepth 100000 in
theorem c_X9_removeRod_ok (l : Launch) (D : va_G) (ct ad : Nat → Nat) (b : Nat → Nat) (M SP SV TX NB : Int → Int) (sc tl cd pl cm h : Int) (r : Int) (hI : gInv M) (h1 : -2147483648 ≤ r ∧ r ≤ 2147483647) (hsc : 0 ≤ sc ∧ sc ≤ 4) (hok : ck_b (0 ≤ r ∧ r < M 4) = 0) : ZM l yX9_removeRod wsX9_removeRod ({ frames := 2, cells := 0, slots := 0, locals := 45 } : Room) D ct ad [.ref (b 0), .int (zI r)] (moW b sc tl cd pl cm h ++ (jrW ct (b 1) 94 M ++ (jrW ct (b 2) 94 SP ++ (jrW ct (b 3) 376 SV ++ (irW ct (b 4) 150 TX ++ (irW ct (b 5) 2 NB)))))) (zD (some (.int (zI (M 4 - 1)))) (moW b (sv_n sc + 1) tl (ck_b (0 ≤ r ∧ r < M 4)) pl cm h ++ (jrW ct (b 1) 94 (st_drop M r) ++ (jrW ct (b 2) 94 SP ++ (jrW ct (b 3) 376 (sv_keep SV M sc) ++ (irW ct (b 4) 150 TX ++ (irW ct (b 5) 2 NB))))))) := by
  refine ZM.of (cc := cX9_removeRod) (maxL := 3) (ret := (some .int)) (by decide +kernel) rfl (Nat.le_of_ble_eq_true rfl) ?_
  intro p e s m below meth c A ls hx hb hr hts hown hlocks hml hname hE hP hD hA hS hl
  have hK := hE.1
  have hf_0 := hts (.fieldLink RX9 42 "RodGridsModel" "code" "I") (by decide +kernel)
  have hf_1 := hts (.fieldLink RX9 7 "RodGridsModel" "m" "[J") (by decide +kernel)
  have hin_X9 : ∀ z ∈ u_ws RX9 TX9 11, z ∈ wsX9_removeRod := by decide +kernel
  have hl : lv_has ls 3 [(0, .ref (b 0)), (1, .int (zI r))] := hl
  have i3 := hI.1
  have i4 := hI.2.1
  have ckb : 0 ≤ ck_b (0 ≤ r ∧ r < M 4) ∧ ck_b (0 ≤ r ∧ r < M 4) ≤ 3 := by unfold ck_b; (repeat' split) <;> omega
  have okf : 0 ≤ r ∧ r < M 4 := by unfold ck_b at hok; (repeat' split at hok) <;> omega
  refine lv_aload_n hx hb dX9_removeRod_0 rfl (lv_at hl 0 rfl) ?_
  refine lv_aload_n hx hb dX9_removeRod_1 rfl (lv_at hl 0 rfl) ?_
  refine lv_iload_n hx hb dX9_removeRod_2 rfl (lv_at hl 1 rfl) ?_
  refine z_callV (C := RX9) (q0 := 0) (ci := 7) (As := [.int (zI r)]) (rest := [.ref (b 0)]) ([] : va_W) ([] : va_W) hx hb hml hown hts hl hE hS hA (zr0 ([] : va_W) hP) (zr0D ([] : va_W) hD) (c_X9_isRod l D ct ad b M SP SV TX NB sc tl cd pl cm h r (by assumption) (by omega)) gX9_removeRod_X9_isRod rfl rfl k_X9_isRod ⟨Nat.le_of_ble_eq_true rfl, Nat.le_of_ble_eq_true rfl⟩ rfl rfl rfl rfl (Nat.le_of_ble_eq_true rfl) ⟨Nat.le_of_ble_eq_true rfl, Nat.le_of_ble_eq_true rfl⟩ dX9_removeRod_3 rfl (fun v w1 H locs hpost hP hD hS => ?_)
  obtain ⟨rfl, rfl⟩ := hpost
  have hP := zr0' hP
  have hD := zr0D' hD
  have hP : va_P D vwCl (moW b sc tl cd pl cm h ++ (jrW ct (b 1) 94 M ++ (jrW ct (b 2) 94 SP ++ (jrW ct (b 3) 376 SV ++ (irW ct (b 4) 150 TX ++ (irW ct (b 5) 2 NB)))))) H := hP
  have hD : va_D A (moW b sc tl cd pl cm h ++ (jrW ct (b 1) 94 M ++ (jrW ct (b 2) 94 SP ++ (jrW ct (b 3) 376 SV ++ (irW ct (b 4) 150 TX ++ (irW ct (b 5) 2 NB)))))) := hD
  refine W.eq (g2 := F0 m 6 ls [.int (zI (zB (0 ≤ r ∧ r < M 4))), .ref (b 0)]) rfl ?_
  refine zb_if_eq (tgt := 13) hx hb dX9_removeRod_6 (by decide) (fun hc_6 => ?_) (fun hc_6 => ?_)
  · have hc_6 := hc_6
    refine z_iconst hx hb dX9_removeRod_13 ?_
    exfalso
    have hck : 1 = ck_b (0 ≤ r ∧ r < M 4) := by unfold ck_b; (repeat' split) <;> omega
    omega
  · have hc_6 := hc_6
    refine z_iconst hx hb dX9_removeRod_9 ?_
    refine lv_goto (tgt := 14) hx hb dX9_removeRod_10 (by decide) ?_
    refine z_canI (show 0 = ck_b (0 ≤ r ∧ r < M 4) from (by unfold ck_b; (repeat' split) <;> omega)) ?_
    refine z_put (ct := ct) (ad := ad) (ci := 7) (v := .int (zI (ck_b (0 ≤ r ∧ r < M 4)))) (ty := tyX9 6) (C := RX9) (T := TX9) (N := 11) (w2 := moW b sc tl (ck_b (0 ≤ r ∧ r < M 4)) pl cm h ++ (jrW ct (b 1) 94 M ++ (jrW ct (b 2) 94 SP ++ (jrW ct (b 3) 376 SV ++ (irW ct (b 4) 150 TX ++ (irW ct (b 5) 2 NB)))))) hx hb hts hin_X9 tyX9 tyX9_ok nmX9 hown hE hP hD hS 0 rfl rfl 6 (by decide) hf_0 (fun _ h9 => h9) rfl (by decide +kernel) rfl rfl (Nat.le_of_ble_eq_true rfl) dX9_removeRod_14 (rfl) (fun H locs hP hD hS => ?_)
    refine lv_aload_n hx hb dX9_removeRod_17 rfl (lv_at hl 0 rfl) ?_
    refine va_get (D := D) (ci := 7) (v := .int (zI (ck_b (0 ≤ r ∧ r < M 4)))) (C := RX9) (T := TX9) (N := 11) hx hb hts hin_X9 hown hK hP 0 rfl rfl 6 (by decide) hf_0 (fun _ h9 => h9) rfl dX9_removeRod_18 ?_
    refine z_if_eq (tgt := 26) hx hb dX9_removeRod_21 (by decide) (by omega) (fun hc_21 => ?_) (fun hc_21 => ?_)
    · have hc_21 := hc_21
      refine lv_aload_n hx hb dX9_removeRod_26 rfl (lv_at hl 0 rfl) ?_
      refine z_callV (C := RX9) (q0 := 0) (ci := 7) (As := []) (rest := []) ([] : va_W) ([] : va_W) hx hb hml hown hts hl hE hS hA (zr0 ([] : va_W) hP) (zr0D ([] : va_W) hD) (c_X9_keep l D ct ad b M SP SV TX NB sc tl (ck_b (0 ≤ r ∧ r < M 4)) pl cm h (by omega)) gX9_removeRod_X9_keep rfl rfl k_X9_keep ⟨Nat.le_of_ble_eq_true rfl, Nat.le_of_ble_eq_true rfl⟩ rfl rfl rfl rfl (Nat.le_of_ble_eq_true rfl) ⟨Nat.le_of_ble_eq_true rfl, Nat.le_of_ble_eq_true rfl⟩ dX9_removeRod_27 rfl (fun v w1 H locs hpost hP hD hS => ?_)
      obtain ⟨rfl, rfl⟩ := hpost
      have hP := zr0' hP
      have hD := zr0D' hD
      have hP : va_P D vwCl (moW b (sv_n sc + 1) tl (ck_b (0 ≤ r ∧ r < M 4)) pl cm h ++ (jrW ct (b 1) 94 M ++ (jrW ct (b 2) 94 SP ++ (jrW ct (b 3) 376 (sv_keep SV M sc) ++ (irW ct (b 4) 150 TX ++ (irW ct (b 5) 2 NB)))))) H := hP
      have hD : va_D A (moW b (sv_n sc + 1) tl (ck_b (0 ≤ r ∧ r < M 4)) pl cm h ++ (jrW ct (b 1) 94 M ++ (jrW ct (b 2) 94 SP ++ (jrW ct (b 3) 376 (sv_keep SV M sc) ++ (irW ct (b 4) 150 TX ++ (irW ct (b 5) 2 NB)))))) := hD
      refine W.eq (g2 := F0 m 30 ls []) rfl ?_
      refine lv_aload_n hx hb dX9_removeRod_30 rfl (lv_at hl 0 rfl) ?_
      refine va_get (D := D) (ci := 7) (v := .ref (b 1)) (C := RX9) (T := TX9) (N := 11) hx hb hts hin_X9 hown hK hP 0 rfl rfl 0 (by decide) hf_1 (fun _ h9 => h9) rfl dX9_removeRod_31 ?_
      refine z_iconst hx hb dX9_removeRod_34 ?_
      refine lv_dup2_11 hx hb dX9_removeRod_35 rfl rfl ?_
      refine z_lald (g := M) (v := M 4) hx hb hK hP 1 rfl (by decide) (by omega) rfl dX9_removeRod_36 ?_
      refine z_lconst (z := 1) hx hb dX9_removeRod_37 rfl ?_
      refine z_lsub hx hb dX9_removeRod_38 ?_
      refine z_last (g := M) (w2 := moW b (sv_n sc + 1) tl (ck_b (0 ≤ r ∧ r < M 4)) pl cm h ++ (jrW ct (b 1) 94 (up M 4 ((M 4) - 1)) ++ (jrW ct (b 2) 94 SP ++ (jrW ct (b 3) 376 (sv_keep SV M sc) ++ (irW ct (b 4) 150 TX ++ (irW ct (b 5) 2 NB)))))) hx hb hK hP hD hS 1 rfl (by decide) (by omega) dX9_removeRod_39 (rfl) (fun H locs hP hD hS => ?_)
      refine z_bipush hx hb dX9_removeRod_40 (by decide) ?_
      refine z_iconst hx hb dX9_removeRod_42 ?_
      refine lv_iload_n hx hb dX9_removeRod_43 rfl (lv_at hl 1 rfl) ?_
      refine z_imul hx hb dX9_removeRod_44 ?_
      refine z_iadd hx hb dX9_removeRod_45 ?_
      refine lv_istore_n (lv' := [(2, .int (zI (22 + (3 * r)))), (0, .ref (b 0)), (1, .int (zI r))]) hx hb dX9_removeRod_46 rfl hl (by decide) rfl (fun ls hl => ?_)
      refine z_loop (σ := Int × (Int → Int)) (fun q9 => (22 + 3 * M 4 - q9.1).toNat) (fun q9 => (22 + 3 * r ≤ q9.1 ∧ q9.1 ≤ 22 + 3 * (M 4 - 1)) ∧ (q9.2 = dmN M r q9.1) ∧ (q9.2 4 = M 4 - 1)) (fun q9 => moW b (sv_n sc + 1) tl (ck_b (0 ≤ r ∧ r < M 4)) pl cm h ++ (jrW ct (b 1) 94 q9.2 ++ (jrW ct (b 2) 94 SP ++ (jrW ct (b 3) 376 (sv_keep SV M sc) ++ (irW ct (b 4) 150 TX ++ (irW ct (b 5) 2 NB)))))) (fun q9 => [(0, .ref (b 0)), (1, .int (zI r)), (2, .int (zI q9.1))]) (fun q9 => []) (22 + (3 * r), up M 4 ((M 4) - 1)) ⟨(show 22 + 3 * r ≤ (22 + (3 * r)) ∧ (22 + (3 * r)) ≤ 22 + 3 * (M 4 - 1) from (by omega)), (show (up M 4 ((M 4) - 1)) = dmN M r (22 + (3 * r)) from (by exact dmN_0)), (show (up M 4 ((M 4) - 1)) 4 = M 4 - 1 from (by exact up_s))⟩ hP hD hS (lv_sub hl [1, 2, 0] rfl) rfl ?_
      rintro ⟨i, U⟩ hI_47 ih_47 H locs ls hP hD hS hl
      obtain ⟨hi, hU, hU4⟩ := hI_47
      have hi : 22 + 3 * r ≤ i ∧ i ≤ 22 + 3 * (M 4 - 1) := hi
      have hU : U = dmN M r i := hU
      have hU4 : U 4 = M 4 - 1 := hU4
      have hP : va_P D vwCl (moW b (sv_n sc + 1) tl (ck_b (0 ≤ r ∧ r < M 4)) pl cm h ++ (jrW ct (b 1) 94 U ++ (jrW ct (b 2) 94 SP ++ (jrW ct (b 3) 376 (sv_keep SV M sc) ++ (irW ct (b 4) 150 TX ++ (irW ct (b 5) 2 NB)))))) H := hP
      have hD : va_D A (moW b (sv_n sc + 1) tl (ck_b (0 ≤ r ∧ r < M 4)) pl cm h ++ (jrW ct (b 1) 94 U ++ (jrW ct (b 2) 94 SP ++ (jrW ct (b 3) 376 (sv_keep SV M sc) ++ (irW ct (b 4) 150 TX ++ (irW ct (b 5) 2 NB)))))) := hD
      have hl : lv_has ls 3 [(0, .ref (b 0)), (1, .int (zI r)), (2, .int (zI i))] := hl
      refine lv_iload_n hx hb dX9_removeRod_47 rfl (lv_at hl 2 rfl) ?_
      refine z_bipush hx hb dX9_removeRod_48 (by decide) ?_
      refine z_iconst hx hb dX9_removeRod_50 ?_
      refine lv_aload_n hx hb dX9_removeRod_51 rfl (lv_at hl 0 rfl) ?_
      refine z_iconst hx hb dX9_removeRod_52 ?_
      refine z_callV (C := RX9) (q0 := 0) (ci := 7) (As := [.int (zI 4)]) (rest := [.int (zI 3), .int (zI 22), .int (zI i)]) ([] : va_W) ([] : va_W) hx hb hml hown hts hl hE hS hA (zr0 ([] : va_W) hP) (zr0D ([] : va_W) hD) (c_X9_of l D ct ad b U SP (sv_keep SV M sc) TX NB (sv_n sc + 1) tl (ck_b (0 ≤ r ∧ r < M 4)) pl cm h 4 (by omega)) gX9_removeRod_X9_of rfl rfl k_X9_of ⟨Nat.le_of_ble_eq_true rfl, Nat.le_of_ble_eq_true rfl⟩ rfl rfl rfl rfl (Nat.le_of_ble_eq_true rfl) ⟨Nat.le_of_ble_eq_true rfl, Nat.le_of_ble_eq_true rfl⟩ dX9_removeRod_53 rfl (fun v w1 H locs hpost hP hD hS => ?_)
      obtain ⟨rfl, rfl⟩ := hpost
      have hP := zr0' hP
      have hD := zr0D' hD
      have hP : va_P D vwCl (moW b (sv_n sc + 1) tl (ck_b (0 ≤ r ∧ r < M 4)) pl cm h ++ (jrW ct (b 1) 94 U ++ (jrW ct (b 2) 94 SP ++ (jrW ct (b 3) 376 (sv_keep SV M sc) ++ (irW ct (b 4) 150 TX ++ (irW ct (b 5) 2 NB)))))) H := hP
      have hD : va_D A (moW b (sv_n sc + 1) tl (ck_b (0 ≤ r ∧ r < M 4)) pl cm h ++ (jrW ct (b 1) 94 U ++ (jrW ct (b 2) 94 SP ++ (jrW ct (b 3) 376 (sv_keep SV M sc) ++ (irW ct (b 4) 150 TX ++ (irW ct (b 5) 2 NB)))))) := hD
      refine W.eq (g2 := F0 m 56 ls [.int (zI (U 4)), .int (zI 3), .int (zI 22), .int (zI i)]) rfl ?_
      refine z_imul hx hb dX9_removeRod_56 ?_
      refine z_iadd hx hb dX9_removeRod_57 ?_
      refine z_icmp_ge (tgt := 81) hx hb dX9_removeRod_58 (by decide) (by omega) (by omega) (fun hc_58 => ?_) (fun hc_58 => ?_)
      · have hc_58 := hc_58
        refine lv_aload_n hx hb dX9_removeRod_81 rfl (lv_at hl 0 rfl) ?_
        refine z_iconst hx hb dX9_removeRod_82 ?_
        refine z_callV (C := RX9) (q0 := 0) (ci := 7) (As := [.int (zI 4)]) (rest := []) ([] : va_W) ([] : va_W) hx hb hml hown hts hl hE hS hA (zr0 ([] : va_W) hP) (zr0D ([] : va_W) hD) (c_X9_of l D ct ad b U SP (sv_keep SV M sc) TX NB (sv_n sc + 1) tl (ck_b (0 ≤ r ∧ r < M 4)) pl cm h 4 (by omega)) gX9_removeRod_X9_of rfl rfl k_X9_of ⟨Nat.le_of_ble_eq_true rfl, Nat.le_of_ble_eq_true rfl⟩ rfl rfl rfl rfl (Nat.le_of_ble_eq_true rfl) ⟨Nat.le_of_ble_eq_true rfl, Nat.le_of_ble_eq_true rfl⟩ dX9_removeRod_83 rfl (fun v w1 H locs hpost hP hD hS => ?_)
        obtain ⟨rfl, rfl⟩ := hpost
        have hP := zr0' hP
        have hD := zr0D' hD
        have hP : va_P D vwCl (moW b (sv_n sc + 1) tl (ck_b (0 ≤ r ∧ r < M 4)) pl cm h ++ (jrW ct (b 1) 94 U ++ (jrW ct (b 2) 94 SP ++ (jrW ct (b 3) 376 (sv_keep SV M sc) ++ (irW ct (b 4) 150 TX ++ (irW ct (b 5) 2 NB)))))) H := hP
        have hD : va_D A (moW b (sv_n sc + 1) tl (ck_b (0 ≤ r ∧ r < M 4)) pl cm h ++ (jrW ct (b 1) 94 U ++ (jrW ct (b 2) 94 SP ++ (jrW ct (b 3) 376 (sv_keep SV M sc) ++ (irW ct (b 4) 150 TX ++ (irW ct (b 5) 2 NB)))))) := hD
        refine W.eq (g2 := F0 m 86 ls [.int (zI (U 4))]) rfl ?_
        exact z_iret hx hb hr hlocks hP hD hS ⟨Nat.le_of_ble_eq_true rfl, Nat.le_of_ble_eq_true rfl⟩ dX9_removeRod_86 (⟨congrArg (fun z => some (Value.int (zI z))) (by first | exact hU4 | omega), by rw [hU, show i = 22 + 3 * (M 4 - 1) by omega, dmN_E]⟩)
      · have hc_58 := hc_58
        refine lv_aload_n hx hb dX9_removeRod_61 rfl (lv_at hl 0 rfl) ?_
        refine va_get (D := D) (ci := 7) (v := .ref (b 1)) (C := RX9) (T := TX9) (N := 11) hx hb hts hin_X9 hown hK hP 0 rfl rfl 0 (by decide) hf_1 (fun _ h9 => h9) rfl dX9_removeRod_62 ?_
        refine lv_iload_n hx hb dX9_removeRod_65 rfl (lv_at hl 2 rfl) ?_
        refine lv_aload_n hx hb dX9_removeRod_66 rfl (lv_at hl 0 rfl) ?_
        refine va_get (D := D) (ci := 7) (v := .ref (b 1)) (C := RX9) (T := TX9) (N := 11) hx hb hts hin_X9 hown hK hP 0 rfl rfl 0 (by decide) hf_1 (fun _ h9 => h9) rfl dX9_removeRod_67 ?_
        refine lv_iload_n hx hb dX9_removeRod_70 rfl (lv_at hl 2 rfl) ?_
        refine z_iconst hx hb dX9_removeRod_71 ?_
        refine z_iadd hx hb dX9_removeRod_72 ?_
        refine z_lald (g := U) (v := U (i + 3)) hx hb hK hP 1 rfl (by decide) (by omega) rfl dX9_removeRod_73 ?_
        refine z_last (g := U) (w2 := moW b (sv_n sc + 1) tl (ck_b (0 ≤ r ∧ r < M 4)) pl cm h ++ (jrW ct (b 1) 94 (up U i (U (i + 3))) ++ (jrW ct (b 2) 94 SP ++ (jrW ct (b 3) 376 (sv_keep SV M sc) ++ (irW ct (b 4) 150 TX ++ (irW ct (b 5) 2 NB)))))) hx hb hK hP hD hS 1 rfl (by decide) (by omega) dX9_removeRod_74 (rfl) (fun H locs hP hD hS => ?_)
        refine z_iinc (k := 2) (lv' := [(2, .int (zI (i + 1))), (0, .ref (b 0)), (1, .int (zI r))]) hx hb dX9_removeRod_75 hl rfl (by decide) rfl (fun ls hl => ?_)
        refine lv_goto (tgt := 47) hx hb dX9_removeRod_78 (by decide) ?_
        exact ih_47 (i + 1, up U i (U (i + 3))) ⟨(show 22 + 3 * r ≤ (i + 1) ∧ (i + 1) ≤ 22 + 3 * (M 4 - 1) from (by omega)), (show (up U i (U (i + 3))) = dmN M r (i + 1) from (by rw [hU]; exact dmN_S (by omega))), (show (up U i (U (i + 3))) 4 = M 4 - 1 from (by rw [up_n (by omega)]; exact hU4))⟩ (show (22 + 3 * M 4 - (i + 1)).toNat < (22 + 3 * M 4 - i).toNat from (by omega)) _ _ _ hP hD hS (lv_sub hl [1, 2, 0] rfl)
    · have hc_21 := hc_21
      exact absurd hok hc_21
set_option maxHeartbeats 4000000 in
set_option maxRecDepth 100000 in
theorem c_X9_removeRod_no (l : Launch) (D : va_G) (ct ad : Nat → Nat) (b : Nat → Nat) (M SP SV TX NB : Int → Int) (sc tl cd pl cm h : Int) (r : Int) (hI : gInv M) (h1 : -2147483648 ≤ r ∧ r ≤ 2147483647) (hno : ck_b (0 ≤ r ∧ r < M 4) ≠ 0) : ZM l yX9_removeRod wsX9_removeRod ({ frames := 2, cells := 0, slots := 0, locals := 43 } : Room) D ct ad [.ref (b 0), .int (zI r)] (moW b sc tl cd pl cm h ++ (jrW ct (b 1) 94 M ++ (jrW ct (b 2) 94 SP ++ (jrW ct (b 3) 376 SV ++ (irW ct (b 4) 150 TX ++ (irW ct (b 5) 2 NB)))))) (zD (some (.int (zI 0))) (moW b sc tl (ck_b (0 ≤ r ∧ r < M 4)) pl cm h ++ (jrW ct (b 1) 94 M ++ (jrW ct (b 2) 94 SP ++ (jrW ct (b 3) 376 SV ++ (irW ct (b 4) 150 TX ++ (irW ct (b 5) 2 NB))))))) := by
  refine ZM.of (cc := cX9_removeRod) (maxL := 3) (ret := (some .int)) (by decide +kernel) rfl (Nat.le_of_ble_eq_true rfl) ?_
  intro p e s m below meth c A ls hx hb hr hts hown hlocks hml hname hE hP hD hA hS hl
  have hK := hE.1
  have hf_0 := hts (.fieldLink RX9 42 "RodGridsModel" "code" "I") (by decide +kernel)
  have hin_X9 : ∀ z ∈ u_ws RX9 TX9 11, z ∈ wsX9_removeRod := by decide +kernel
  have hl : lv_has ls 3 [(0, .ref (b 0)), (1, .int (zI r))] := hl
  have i3 := hI.1
  have i4 := hI.2.1
  have ckb : 0 ≤ ck_b (0 ≤ r ∧ r < M 4) ∧ ck_b (0 ≤ r ∧ r < M 4) ≤ 3 := by unfold ck_b; (repeat' split) <;> omega
  refine lv_aload_n hx hb dX9_removeRod_0 rfl (lv_at hl 0 rfl) ?_
  refine lv_aload_n hx hb dX9_removeRod_1 rfl (lv_at hl 0 rfl) ?_
  refine lv_iload_n hx hb dX9_removeRod_2 rfl (lv_at hl 1 rfl) ?_
  refine z_callV (C := RX9) (q0 := 0) (ci := 7) (As := [.int (zI r)]) (rest := [.ref (b 0)]) ([] : va_W) ([] : va_W) hx hb hml hown hts hl hE hS hA (zr0 ([] : va_W) hP) (zr0D ([] : va_W) hD) (c_X9_isRod l D ct ad b M SP SV TX NB sc tl cd pl cm h r (by assumption) (by omega)) gX9_removeRod_X9_isRod rfl rfl k_X9_isRod ⟨Nat.le_of_ble_eq_true rfl, Nat.le_of_ble_eq_true rfl⟩ rfl rfl rfl rfl (Nat.le_of_ble_eq_true rfl) ⟨Nat.le_of_ble_eq_true rfl, Nat.le_of_ble_eq_true rfl⟩ dX9_removeRod_3 rfl (fun v w1 H locs hpost hP hD hS => ?_)
  obtain ⟨rfl, rfl⟩ := hpost
  have hP := zr0' hP
  have hD := zr0D' hD
  have hP : va_P D vwCl (moW b sc tl cd pl cm h ++ (jrW ct (b 1) 94 M ++ (jrW ct (b 2) 94 SP ++ (jrW ct (b 3) 376 SV ++ (irW ct (b 4) 150 TX ++ (irW ct (b 5) 2 NB)))))) H := hP
  have hD : va_D A (moW b sc tl cd pl cm h ++ (jrW ct (b 1) 94 M ++ (jrW ct (b 2) 94 SP ++ (jrW ct (b 3) 376 SV ++ (irW ct (b 4) 150 TX ++ (irW ct (b 5) 2 NB)))))) := hD
  refine W.eq (g2 := F0 m 6 ls [.int (zI (zB (0 ≤ r ∧ r < M 4))), .ref (b 0)]) rfl ?_
  refine zb_if_eq (tgt := 13) hx hb dX9_removeRod_6 (by decide) (fun hc_6 => ?_) (fun hc_6 => ?_)
  · have hc_6 := hc_6
    refine z_iconst hx hb dX9_removeRod_13 ?_
    refine z_canI (show 1 = ck_b (0 ≤ r ∧ r < M 4) from (by unfold ck_b; (repeat' split) <;> omega)) ?_
    refine z_put (ct := ct) (ad := ad) (ci := 7) (v := .int (zI (ck_b (0 ≤ r ∧ r < M 4)))) (ty := tyX9 6) (C := RX9) (T := TX9) (N := 11) (w2 := moW b sc tl (ck_b (0 ≤ r ∧ r < M 4)) pl cm h ++ (jrW ct (b 1) 94 M ++ (jrW ct (b 2) 94 SP ++ (jrW ct (b 3) 376 SV ++ (irW ct (b 4) 150 TX ++ (irW ct (b 5) 2 NB)))))) hx hb hts hin_X9 tyX9 tyX9_ok nmX9 hown hE hP hD hS 0 rfl rfl 6 (by decide) hf_0 (fun _ h9 => h9) rfl (by decide +kernel) rfl rfl (Nat.le_of_ble_eq_true rfl) dX9_removeRod_14 (rfl) (fun H locs hP hD hS => ?_)
    refine lv_aload_n hx hb dX9_removeRod_17 rfl (lv_at hl 0 rfl) ?_
    refine va_get (D := D) (ci := 7) (v := .int (zI (ck_b (0 ≤ r ∧ r < M 4)))) (C := RX9) (T := TX9) (N := 11) hx hb hts hin_X9 hown hK hP 0 rfl rfl 6 (by decide) hf_0 (fun _ h9 => h9) rfl dX9_removeRod_18 ?_
    refine z_if_eq (tgt := 26) hx hb dX9_removeRod_21 (by decide) (by omega) (fun hc_21 => ?_) (fun hc_21 => ?_)
    · have hc_21 := hc_21
      exact absurd hc_21 hno
    · have hc_21 := hc_21
      refine z_iconst hx hb dX9_removeRod_24 ?_
      exact z_iret hx hb hr hlocks hP hD hS ⟨Nat.le_of_ble_eq_true rfl, Nat.le_of_ble_eq_true rfl⟩ dX9_removeRod_25 (⟨congrArg (fun z => some (Value.int (zI z))) (rfl), rfl⟩)
  · have hc_6 := hc_6
    refine z_iconst hx hb dX9_removeRod_9 ?_
    refine lv_goto (tgt := 14) hx hb dX9_removeRod_10 (by decide) ?_
    exfalso
    have hck : 0 = ck_b (0 ≤ r ∧ r < M 4) := by unfold ck_b; (repeat' split) <;> omega
    omega
theorem k_X9_notLength : yX9_notLength.cls ≠ "java/lang/invoke/MethodHandle" ∧ yX9_notLength.cls ≠ "java/lang/invoke/VarHandle" ∧ (parseMethodDescriptor yX9_notLength.desc).map (fun d => d.parameters.length) = some 2 := by decide +kernel
set_option maxHeartbeats 4000000 in
set_option maxRecDepth 100000 in
theorem c_X9_setLength_ok (l : Launch) (D : va_G) (ct ad : Nat → Nat) (b : Nat → Nat) (M SP SV TX NB : Int → Int) (sc tl cd pl cm h : Int) (r n : Int) (hI : gInv M) (h1 : -2147483648 ≤ r ∧ r ≤ 2147483647) (h2 : -2147483648 ≤ n ∧ n ≤ 2147483647) (hsc : 0 ≤ sc ∧ sc ≤ 4) (hok : ck_length M r n = 0) : ZM l yX9_setLength wsX9_setLength ({ frames := 3, cells := 0, slots := 0, locals := 65 } : Room) D ct ad [.ref (b 0), .int (zI r), .int (zI n)] (moW b sc tl cd pl cm h ++ (jrW ct (b 1) 94 M ++ (jrW ct (b 2) 94 SP ++ (jrW ct (b 3) 376 SV ++ (irW ct (b 4) 150 TX ++ (irW ct (b 5) 2 NB)))))) (zD (some (.int (zI (M (24 + 3 * r))))) (moW b (sv_n sc + 1) tl (ck_length M r n) pl cm h ++ (jrW ct (b 1) 94 (up M (24 + 3 * r) n) ++ (jrW ct (b 2) 94 SP ++ (jrW ct (b 3) 376 (sv_keep SV M sc) ++ (irW ct (b 4) 150 TX ++ (irW ct (b 5) 2 NB))))))) := by
  refine ZM.of (cc := cX9_setLength) (maxL := 3) (ret := (some .int)) (by decide +kernel) rfl (Nat.le_of_ble_eq_true rfl) ?_
  intro p e s m below meth c A ls hx hb hr hts hown hlocks hml hname hE hP hD hA hS hl
  have hK := hE.1
  have hf_0 := hts (.fieldLink RX9 42 "RodGridsModel" "code" "I") (by decide +kernel)
  have hin_X9 : ∀ z ∈ u_ws RX9 TX9 11, z ∈ wsX9_setLength := by decide +kernel
  have hl : lv_has ls 3 [(0, .ref (b 0)), (1, .int (zI r)), (2, .int (zI n))] := hl
  have i3 := hI.1
  have i4 := hI.2.1
  have ckb : 0 ≤ ck_length M r n ∧ ck_length M r n ≤ 3 := by unfold ck_length; (repeat' split) <;> omega
  have okf : 0 ≤ r ∧ r < M 4 := by unfold ck_length at hok; (repeat' split at hok) <;> omega
  refine lv_aload_n hx hb dX9_setLength_0 rfl (lv_at hl 0 rfl) ?_
  refine lv_aload_n hx hb dX9_setLength_1 rfl (lv_at hl 0 rfl) ?_
  refine lv_iload_n hx hb dX9_setLength_2 rfl (lv_at hl 1 rfl) ?_
  refine lv_iload_n hx hb dX9_setLength_3 rfl (lv_at hl 2 rfl) ?_
  refine z_callV (C := RX9) (q0 := 0) (ci := 7) (As := [.int (zI r), .int (zI n)]) (rest := [.ref (b 0)]) ([] : va_W) ([] : va_W) hx hb hml hown hts hl hE hS hA (zr0 ([] : va_W) hP) (zr0D ([] : va_W) hD) (c_X9_notLength l D ct ad b M SP SV TX NB sc tl cd pl cm h r n (by assumption) (by omega) (by omega)) gX9_setLength_X9_notLength rfl rfl k_X9_notLength ⟨Nat.le_of_ble_eq_true rfl, Nat.le_of_ble_eq_true rfl⟩ rfl rfl rfl rfl (Nat.le_of_ble_eq_true rfl) ⟨Nat.le_of_ble_eq_true rfl, Nat.le_of_ble_eq_true rfl⟩ dX9_setLength_4 rfl (fun v w1 H locs hpost hP hD hS => ?_)
  obtain ⟨rfl, rfl⟩ := hpost
  have hP := zr0' hP
  have hD := zr0D' hD
  have hP : va_P D vwCl (moW b sc tl cd pl cm h ++ (jrW ct (b 1) 94 M ++ (jrW ct (b 2) 94 SP ++ (jrW ct (b 3) 376 SV ++ (irW ct (b 4) 150 TX ++ (irW ct (b 5) 2 NB)))))) H := hP
  have hD : va_D A (moW b sc tl cd pl cm h ++ (jrW ct (b 1) 94 M ++ (jrW ct (b 2) 94 SP ++ (jrW ct (b 3) 376 SV ++ (irW ct (b 4) 150 TX ++ (irW ct (b 5) 2 NB)))))) := hD
  refine W.eq (g2 := F0 m 7 ls [.int (zI (ck_length M r n)), .ref (b 0)]) rfl ?_
  refine z_put (ct := ct) (ad := ad) (ci := 7) (v := .int (zI (ck_length M r n))) (ty := tyX9 6) (C := RX9) (T := TX9) (N := 11) (w2 := moW b sc tl (ck_length M r n) pl cm h ++ (jrW ct (b 1) 94 M ++ (jrW ct (b 2) 94 SP ++ (jrW ct (b 3) 376 SV ++ (irW ct (b 4) 150 TX ++ (irW ct (b 5) 2 NB)))))) hx hb hts hin_X9 tyX9 tyX9_ok nmX9 hown hE hP hD hS 0 rfl rfl 6 (by decide) hf_0 (fun _ h9 => h9) rfl (by decide +kernel) rfl rfl (Nat.le_of_ble_eq_true rfl) dX9_setLength_7 (rfl) (fun H locs hP hD hS => ?_)
  refine lv_aload_n hx hb dX9_setLength_10 rfl (lv_at hl 0 rfl) ?_
  refine va_get (D := D) (ci := 7) (v := .int (zI (ck_length M r n))) (C := RX9) (T := TX9) (N := 11) hx hb hts hin_X9 hown hK hP 0 rfl rfl 6 (by decide) hf_0 (fun _ h9 => h9) rfl dX9_setLength_11 ?_
  refine z_if_eq (tgt := 19) hx hb dX9_setLength_14 (by decide) (by omega) (fun hc_14 => ?_) (fun hc_14 => ?_)
  · have hc_14 := hc_14
    refine lv_aload_n hx hb dX9_setLength_19 rfl (lv_at hl 0 rfl) ?_
    refine z_callV (C := RX9) (q0 := 0) (ci := 7) (As := []) (rest := []) ([] : va_W) ([] : va_W) hx hb hml hown hts hl hE hS hA (zr0 ([] : va_W) hP) (zr0D ([] : va_W) hD) (c_X9_keep l D ct ad b M SP SV TX NB sc tl (ck_length M r n) pl cm h (by omega)) gX9_setLength_X9_keep rfl rfl k_X9_keep ⟨Nat.le_of_ble_eq_true rfl, Nat.le_of_ble_eq_true rfl⟩ rfl rfl rfl rfl (Nat.le_of_ble_eq_true rfl) ⟨Nat.le_of_ble_eq_true rfl, Nat.le_of_ble_eq_true rfl⟩ dX9_setLength_20 rfl (fun v w1 H locs hpost hP hD hS => ?_)
    obtain ⟨rfl, rfl⟩ := hpost
    have hP := zr0' hP
    have hD := zr0D' hD
    have hP : va_P D vwCl (moW b (sv_n sc + 1) tl (ck_length M r n) pl cm h ++ (jrW ct (b 1) 94 M ++ (jrW ct (b 2) 94 SP ++ (jrW ct (b 3) 376 (sv_keep SV M sc) ++ (irW ct (b 4) 150 TX ++ (irW ct (b 5) 2 NB)))))) H := hP
    have hD : va_D A (moW b (sv_n sc + 1) tl (ck_length M r n) pl cm h ++ (jrW ct (b 1) 94 M ++ (jrW ct (b 2) 94 SP ++ (jrW ct (b 3) 376 (sv_keep SV M sc) ++ (irW ct (b 4) 150 TX ++ (irW ct (b 5) 2 NB)))))) := hD
    refine W.eq (g2 := F0 m 23 ls []) rfl ?_
    refine lv_aload_n hx hb dX9_setLength_23 rfl (lv_at hl 0 rfl) ?_
    refine z_bipush hx hb dX9_setLength_24 (by decide) ?_
    refine z_iconst hx hb dX9_setLength_26 ?_
    refine lv_iload_n hx hb dX9_setLength_27 rfl (lv_at hl 1 rfl) ?_
    refine z_imul hx hb dX9_setLength_28 ?_
    refine z_iadd hx hb dX9_setLength_29 ?_
    refine z_iconst hx hb dX9_setLength_30 ?_
    refine z_iadd hx hb dX9_setLength_31 ?_
    refine z_canI (show (22 + (3 * r)) + 2 = 24 + 3 * r from (by omega)) ?_
    refine lv_iload_n hx hb dX9_setLength_32 rfl (lv_at hl 2 rfl) ?_
    refine z_callV (C := RX9) (q0 := 0) (ci := 7) (As := [.int (zI (24 + 3 * r)), .int (zI n)]) (rest := []) ([] : va_W) ([] : va_W) hx hb hml hown hts hl hE hS hA (zr0 ([] : va_W) hP) (zr0D ([] : va_W) hD) (c_X9_change l D ct ad b M SP (sv_keep SV M sc) TX NB (sv_n sc + 1) tl (ck_length M r n) pl cm h (24 + 3 * r) n (by omega) (by omega)) gX9_setLength_X9_change rfl rfl k_X9_change ⟨Nat.le_of_ble_eq_true rfl, Nat.le_of_ble_eq_true rfl⟩ rfl rfl rfl rfl (Nat.le_of_ble_eq_true rfl) ⟨Nat.le_of_ble_eq_true rfl, Nat.le_of_ble_eq_true rfl⟩ dX9_setLength_33 rfl (fun v w1 H locs hpost hP hD hS => ?_)
    obtain ⟨rfl, rfl⟩ := hpost
    have hP := zr0' hP
    have hD := zr0D' hD
    have hP : va_P D vwCl (moW b (sv_n sc + 1) tl (ck_length M r n) pl cm h ++ (jrW ct (b 1) 94 (up M (24 + 3 * r) n) ++ (jrW ct (b 2) 94 SP ++ (jrW ct (b 3) 376 (sv_keep SV M sc) ++ (irW ct (b 4) 150 TX ++ (irW ct (b 5) 2 NB)))))) H := hP
    have hD : va_D A (moW b (sv_n sc + 1) tl (ck_length M r n) pl cm h ++ (jrW ct (b 1) 94 (up M (24 + 3 * r) n) ++ (jrW ct (b 2) 94 SP ++ (jrW ct (b 3) 376 (sv_keep SV M sc) ++ (irW ct (b 4) 150 TX ++ (irW ct (b 5) 2 NB)))))) := hD
    refine W.eq (g2 := F0 m 36 ls [.int (zI (M (24 + 3 * r)))]) rfl ?_
    exact z_iret hx hb hr hlocks hP hD hS ⟨Nat.le_of_ble_eq_true rfl, Nat.le_of_ble_eq_true rfl⟩ dX9_setLength_36 (⟨congrArg (fun z => some (Value.int (zI z))) (rfl), rfl⟩)
  · have hc_14 := hc_14
    exact absurd hok hc_14
set_option maxHeartbeats 4000000 in
set_option maxRecDepth 100000 in
theorem c_X9_setLength_no (l : Launch) (D : va_G) (ct ad : Nat → Nat) (b : Nat → Nat) (M SP SV TX NB : Int → Int) (sc tl cd pl cm h : Int) (r n : Int) (hI : gInv M) (h1 : -2147483648 ≤ r ∧ r ≤ 2147483647) (h2 : -2147483648 ≤ n ∧ n ≤ 2147483647) (hno : ck_length M r n ≠ 0) : ZM l yX9_setLength wsX9_setLength ({ frames := 3, cells := 0, slots := 0, locals := 65 } : Room) D ct ad [.ref (b 0), .int (zI r), .int (zI n)] (moW b sc tl cd pl cm h ++ (jrW ct (b 1) 94 M ++ (jrW ct (b 2) 94 SP ++ (jrW ct (b 3) 376 SV ++ (irW ct (b 4) 150 TX ++ (irW ct (b 5) 2 NB)))))) (zD (some (.int (zI 0))) (moW b sc tl (ck_length M r n) pl cm h ++ (jrW ct (b 1) 94 M ++ (jrW ct (b 2) 94 SP ++ (jrW ct (b 3) 376 SV ++ (irW ct (b 4) 150 TX ++ (irW ct (b 5) 2 NB))))))) := by
  refine ZM.of (cc := cX9_setLength) (maxL := 3) (ret := (some .int)) (by decide +kernel) rfl (Nat.le_of_ble_eq_true rfl) ?_
  intro p e s m below meth c A ls hx hb hr hts hown hlocks hml hname hE hP hD hA hS hl
  have hK := hE.1
  have hf_0 := hts (.fieldLink RX9 42 "RodGridsModel" "code" "I") (by decide +kernel)
  have hin_X9 : ∀ z ∈ u_ws RX9 TX9 11, z ∈ wsX9_setLength := by decide +kernel
  have hl : lv_has ls 3 [(0, .ref (b 0)), (1, .int (zI r)), (2, .int (zI n))] := hl
  have i3 := hI.1
  have i4 := hI.2.1
  have ckb : 0 ≤ ck_length M r n ∧ ck_length M r n ≤ 3 := by unfold ck_length; (repeat' split) <;> omega
  refine lv_aload_n hx hb dX9_setLength_0 rfl (lv_at hl 0 rfl) ?_
  refine lv_aload_n hx hb dX9_setLength_1 rfl (lv_at hl 0 rfl) ?_
  refine lv_iload_n hx hb dX9_setLength_2 rfl (lv_at hl 1 rfl) ?_
  refine lv_iload_n hx hb dX9_setLength_3 rfl (lv_at hl 2 rfl) ?_
  refine z_callV (C := RX9) (q0 := 0) (ci := 7) (As := [.int (zI r), .int (zI n)]) (rest := [.ref (b 0)]) ([] : va_W) ([] : va_W) hx hb hml hown hts hl hE hS hA (zr0 ([] : va_W) hP) (zr0D ([] : va_W) hD) (c_X9_notLength l D ct ad b M SP SV TX NB sc tl cd pl cm h r n (by assumption) (by omega) (by omega)) gX9_setLength_X9_notLength rfl rfl k_X9_notLength ⟨Nat.le_of_ble_eq_true rfl, Nat.le_of_ble_eq_true rfl⟩ rfl rfl rfl rfl (Nat.le_of_ble_eq_true rfl) ⟨Nat.le_of_ble_eq_true rfl, Nat.le_of_ble_eq_true rfl⟩ dX9_setLength_4 rfl (fun v w1 H locs hpost hP hD hS => ?_)
  obtain ⟨rfl, rfl⟩ := hpost
  have hP := zr0' hP
  have hD := zr0D' hD
  have hP : va_P D vwCl (moW b sc tl cd pl cm h ++ (jrW ct (b 1) 94 M ++ (jrW ct (b 2) 94 SP ++ (jrW ct (b 3) 376 SV ++ (irW ct (b 4) 150 TX ++ (irW ct (b 5) 2 NB)))))) H := hP
  have hD : va_D A (moW b sc tl cd pl cm h ++ (jrW ct (b 1) 94 M ++ (jrW ct (b 2) 94 SP ++ (jrW ct (b 3) 376 SV ++ (irW ct (b 4) 150 TX ++ (irW ct (b 5) 2 NB)))))) := hD
  refine W.eq (g2 := F0 m 7 ls [.int (zI (ck_length M r n)), .ref (b 0)]) rfl ?_
  refine z_put (ct := ct) (ad := ad) (ci := 7) (v := .int (zI (ck_length M r n))) (ty := tyX9 6) (C := RX9) (T := TX9) (N := 11) (w2 := moW b sc tl (ck_length M r n) pl cm h ++ (jrW ct (b 1) 94 M ++ (jrW ct (b 2) 94 SP ++ (jrW ct (b 3) 376 SV ++ (irW ct (b 4) 150 TX ++ (irW ct (b 5) 2 NB)))))) hx hb hts hin_X9 tyX9 tyX9_ok nmX9 hown hE hP hD hS 0 rfl rfl 6 (by decide) hf_0 (fun _ h9 => h9) rfl (by decide +kernel) rfl rfl (Nat.le_of_ble_eq_true rfl) dX9_setLength_7 (rfl) (fun H locs hP hD hS => ?_)
  refine lv_aload_n hx hb dX9_setLength_10 rfl (lv_at hl 0 rfl) ?_
  refine va_get (D := D) (ci := 7) (v := .int (zI (ck_length M r n))) (C := RX9) (T := TX9) (N := 11) hx hb hts hin_X9 hown hK hP 0 rfl rfl 6 (by decide) hf_0 (fun _ h9 => h9) rfl dX9_setLength_11 ?_
  refine z_if_eq (tgt := 19) hx hb dX9_setLength_14 (by decide) (by omega) (fun hc_14 => ?_) (fun hc_14 => ?_)
  · have hc_14 := hc_14
    exact absurd hc_14 hno
  · have hc_14 := hc_14
    refine z_iconst hx hb dX9_setLength_17 ?_
    exact z_iret hx hb hr hlocks hP hD hS ⟨Nat.le_of_ble_eq_true rfl, Nat.le_of_ble_eq_true rfl⟩ dX9_setLength_18 (⟨congrArg (fun z => some (Value.int (zI z))) (rfl), rfl⟩)
theorem k_X9_notShelf : yX9_notShelf.cls ≠ "java/lang/invoke/MethodHandle" ∧ yX9_notShelf.cls ≠ "java/lang/invoke/VarHandle" ∧ (parseMethodDescriptor yX9_notShelf.desc).map (fun d => d.parameters.length) = some 2 := by decide +kernel
set_option maxHeartbeats 4000000 in
set_option maxRecDepth 100000 in
theorem c_X9_setShelf_ok (l : Launch) (D : va_G) (ct ad : Nat → Nat) (b : Nat → Nat) (M SP SV TX NB : Int → Int) (sc tl cd pl cm h : Int) (k v : Int) (h1 : -2147483648 ≤ k ∧ k ≤ 2147483647) (h2 : -2147483648 ≤ v ∧ v ≤ 2147483647) (hsc : 0 ≤ sc ∧ sc ≤ 4) (hok : ck_warm k v = 0) : ZM l yX9_setShelf wsX9_setShelf ({ frames := 3, cells := 0, slots := 0, locals := 63 } : Room) D ct ad [.ref (b 0), .int (zI k), .int (zI v)] (moW b sc tl cd pl cm h ++ (jrW ct (b 1) 94 M ++ (jrW ct (b 2) 94 SP ++ (jrW ct (b 3) 376 SV ++ (irW ct (b 4) 150 TX ++ (irW ct (b 5) 2 NB)))))) (zD (some (.int (zI (M (49 + k))))) (moW b (sv_n sc + 1) tl (ck_warm k v) pl cm h ++ (jrW ct (b 1) 94 (up M (49 + k) v) ++ (jrW ct (b 2) 94 SP ++ (jrW ct (b 3) 376 (sv_keep SV M sc) ++ (irW ct (b 4) 150 TX ++ (irW ct (b 5) 2 NB))))))) := by
  refine ZM.of (cc := cX9_setShelf) (maxL := 3) (ret := (some .int)) (by decide +kernel) rfl (Nat.le_of_ble_eq_true rfl) ?_
  intro p e s m below meth c A ls hx hb hr hts hown hlocks hml hname hE hP hD hA hS hl
  have hK := hE.1
  have hf_0 := hts (.fieldLink RX9 42 "RodGridsModel" "code" "I") (by decide +kernel)
  have hin_X9 : ∀ z ∈ u_ws RX9 TX9 11, z ∈ wsX9_setShelf := by decide +kernel
  have hl : lv_has ls 3 [(0, .ref (b 0)), (1, .int (zI k)), (2, .int (zI v))] := hl
  have ckb : 0 ≤ ck_warm k v ∧ ck_warm k v ≤ 3 := by unfold ck_warm; (repeat' split) <;> omega
  have okf : 0 ≤ k ∧ k ≤ 4 := by unfold ck_warm at hok; (repeat' split at hok) <;> omega
  refine lv_aload_n hx hb dX9_setShelf_0 rfl (lv_at hl 0 rfl) ?_
  refine lv_iload_n hx hb dX9_setShelf_1 rfl (lv_at hl 1 rfl) ?_
  refine lv_iload_n hx hb dX9_setShelf_2 rfl (lv_at hl 2 rfl) ?_
  refine z_callS (As := [.int (zI k), .int (zI v)]) (rest := [.ref (b 0)]) ([] : va_W) (moW b sc tl cd pl cm h ++ (jrW ct (b 1) 94 M ++ (jrW ct (b 2) 94 SP ++ (jrW ct (b 3) 376 SV ++ (irW ct (b 4) 150 TX ++ (irW ct (b 5) 2 NB)))))) hx hb hml hown hts hl hE hS hA hP hD (c_X9_notShelf l D ct ad k v (by omega) (by omega)) gX9_setShelf_X9_notShelf rfl k_X9_notShelf ⟨Nat.le_of_ble_eq_true rfl, Nat.le_of_ble_eq_true rfl⟩ rfl (Nat.le_of_ble_eq_true rfl) ⟨Nat.le_of_ble_eq_true rfl, Nat.le_of_ble_eq_true rfl⟩ dX9_setShelf_3 rfl (fun v w1 H locs hpost hP hD hS => ?_)
  obtain ⟨rfl, rfl⟩ := hpost
  have hP : va_P D vwCl (moW b sc tl cd pl cm h ++ (jrW ct (b 1) 94 M ++ (jrW ct (b 2) 94 SP ++ (jrW ct (b 3) 376 SV ++ (irW ct (b 4) 150 TX ++ (irW ct (b 5) 2 NB)))))) H := hP
  have hD : va_D A (moW b sc tl cd pl cm h ++ (jrW ct (b 1) 94 M ++ (jrW ct (b 2) 94 SP ++ (jrW ct (b 3) 376 SV ++ (irW ct (b 4) 150 TX ++ (irW ct (b 5) 2 NB)))))) := hD
  refine W.eq (g2 := F0 m 6 ls [.int (zI (ck_warm k v)), .ref (b 0)]) rfl ?_
  refine z_put (ct := ct) (ad := ad) (ci := 7) (v := .int (zI (ck_warm k v))) (ty := tyX9 6) (C := RX9) (T := TX9) (N := 11) (w2 := moW b sc tl (ck_warm k v) pl cm h ++ (jrW ct (b 1) 94 M ++ (jrW ct (b 2) 94 SP ++ (jrW ct (b 3) 376 SV ++ (irW ct (b 4) 150 TX ++ (irW ct (b 5) 2 NB)))))) hx hb hts hin_X9 tyX9 tyX9_ok nmX9 hown hE hP hD hS 0 rfl rfl 6 (by decide) hf_0 (fun _ h9 => h9) rfl (by decide +kernel) rfl rfl (Nat.le_of_ble_eq_true rfl) dX9_setShelf_6 (rfl) (fun H locs hP hD hS => ?_)
  refine lv_aload_n hx hb dX9_setShelf_9 rfl (lv_at hl 0 rfl) ?_
  refine va_get (D := D) (ci := 7) (v := .int (zI (ck_warm k v))) (C := RX9) (T := TX9) (N := 11) hx hb hts hin_X9 hown hK hP 0 rfl rfl 6 (by decide) hf_0 (fun _ h9 => h9) rfl dX9_setShelf_10 ?_
  refine z_if_eq (tgt := 18) hx hb dX9_setShelf_13 (by decide) (by omega) (fun hc_13 => ?_) (fun hc_13 => ?_)
  · have hc_13 := hc_13
    refine lv_aload_n hx hb dX9_setShelf_18 rfl (lv_at hl 0 rfl) ?_
    refine z_callV (C := RX9) (q0 := 0) (ci := 7) (As := []) (rest := []) ([] : va_W) ([] : va_W) hx hb hml hown hts hl hE hS hA (zr0 ([] : va_W) hP) (zr0D ([] : va_W) hD) (c_X9_keep l D ct ad b M SP SV TX NB sc tl (ck_warm k v) pl cm h (by omega)) gX9_setShelf_X9_keep rfl rfl k_X9_keep ⟨Nat.le_of_ble_eq_true rfl, Nat.le_of_ble_eq_true rfl⟩ rfl rfl rfl rfl (Nat.le_of_ble_eq_true rfl) ⟨Nat.le_of_ble_eq_true rfl, Nat.le_of_ble_eq_true rfl⟩ dX9_setShelf_19 rfl (fun v w1 H locs hpost hP hD hS => ?_)
    obtain ⟨rfl, rfl⟩ := hpost
    have hP := zr0' hP
    have hD := zr0D' hD
    have hP : va_P D vwCl (moW b (sv_n sc + 1) tl (ck_warm k v) pl cm h ++ (jrW ct (b 1) 94 M ++ (jrW ct (b 2) 94 SP ++ (jrW ct (b 3) 376 (sv_keep SV M sc) ++ (irW ct (b 4) 150 TX ++ (irW ct (b 5) 2 NB)))))) H := hP
    have hD : va_D A (moW b (sv_n sc + 1) tl (ck_warm k v) pl cm h ++ (jrW ct (b 1) 94 M ++ (jrW ct (b 2) 94 SP ++ (jrW ct (b 3) 376 (sv_keep SV M sc) ++ (irW ct (b 4) 150 TX ++ (irW ct (b 5) 2 NB)))))) := hD
    refine W.eq (g2 := F0 m 22 ls []) rfl ?_
    refine lv_aload_n hx hb dX9_setShelf_22 rfl (lv_at hl 0 rfl) ?_
    refine z_bipush hx hb dX9_setShelf_23 (by decide) ?_
    refine lv_iload_n hx hb dX9_setShelf_25 rfl (lv_at hl 1 rfl) ?_
    refine z_iadd hx hb dX9_setShelf_26 ?_
    refine lv_iload_n hx hb dX9_setShelf_27 rfl (lv_at hl 2 rfl) ?_
    refine z_callV (C := RX9) (q0 := 0) (ci := 7) (As := [.int (zI (49 + k)), .int (zI v)]) (rest := []) ([] : va_W) ([] : va_W) hx hb hml hown hts hl hE hS hA (zr0 ([] : va_W) hP) (zr0D ([] : va_W) hD) (c_X9_change l D ct ad b M SP (sv_keep SV M sc) TX NB (sv_n sc + 1) tl (ck_warm k v) pl cm h (49 + k) v (by omega) (by omega)) gX9_setShelf_X9_change rfl rfl k_X9_change ⟨Nat.le_of_ble_eq_true rfl, Nat.le_of_ble_eq_true rfl⟩ rfl rfl rfl rfl (Nat.le_of_ble_eq_true rfl) ⟨Nat.le_of_ble_eq_true rfl, Nat.le_of_ble_eq_true rfl⟩ dX9_setShelf_28 rfl (fun v w1 H locs hpost hP hD hS => ?_)
    obtain ⟨rfl, rfl⟩ := hpost
    have hP := zr0' hP
    have hD := zr0D' hD
    have hP : va_P D vwCl (moW b (sv_n sc + 1) tl (ck_warm k v) pl cm h ++ (jrW ct (b 1) 94 (up M (49 + k) v) ++ (jrW ct (b 2) 94 SP ++ (jrW ct (b 3) 376 (sv_keep SV M sc) ++ (irW ct (b 4) 150 TX ++ (irW ct (b 5) 2 NB)))))) H := hP
    have hD : va_D A (moW b (sv_n sc + 1) tl (ck_warm k v) pl cm h ++ (jrW ct (b 1) 94 (up M (49 + k) v) ++ (jrW ct (b 2) 94 SP ++ (jrW ct (b 3) 376 (sv_keep SV M sc) ++ (irW ct (b 4) 150 TX ++ (irW ct (b 5) 2 NB)))))) := hD
    refine W.eq (g2 := F0 m 31 ls [.int (zI (M (49 + k)))]) rfl ?_
    exact z_iret hx hb hr hlocks hP hD hS ⟨Nat.le_of_ble_eq_true rfl, Nat.le_of_ble_eq_true rfl⟩ dX9_setShelf_31 (⟨congrArg (fun z => some (Value.int (zI z))) (rfl), rfl⟩)
  · have hc_13 := hc_13
    exact absurd hok hc_13
set_option maxHeartbeats 4000000 in
set_option maxRecDepth 100000 in
theorem c_X9_setShelf_no (l : Launch) (D : va_G) (ct ad : Nat → Nat) (b : Nat → Nat) (M SP SV TX NB : Int → Int) (sc tl cd pl cm h : Int) (k v : Int) (h1 : -2147483648 ≤ k ∧ k ≤ 2147483647) (h2 : -2147483648 ≤ v ∧ v ≤ 2147483647) (hno : ck_warm k v ≠ 0) : ZM l yX9_setShelf wsX9_setShelf ({ frames := 3, cells := 0, slots := 0, locals := 63 } : Room) D ct ad [.ref (b 0), .int (zI k), .int (zI v)] (moW b sc tl cd pl cm h ++ (jrW ct (b 1) 94 M ++ (jrW ct (b 2) 94 SP ++ (jrW ct (b 3) 376 SV ++ (irW ct (b 4) 150 TX ++ (irW ct (b 5) 2 NB)))))) (zD (some (.int (zI 0))) (moW b sc tl (ck_warm k v) pl cm h ++ (jrW ct (b 1) 94 M ++ (jrW ct (b 2) 94 SP ++ (jrW ct (b 3) 376 SV ++ (irW ct (b 4) 150 TX ++ (irW ct (b 5) 2 NB))))))) := by
  refine ZM.of (cc := cX9_setShelf) (maxL := 3) (ret := (some .int)) (by decide +kernel) rfl (Nat.le_of_ble_eq_true rfl) ?_
  intro p e s m below meth c A ls hx hb hr hts hown hlocks hml hname hE hP hD hA hS hl
  have hK := hE.1
  have hf_0 := hts (.fieldLink RX9 42 "RodGridsModel" "code" "I") (by decide +kernel)
  have hin_X9 : ∀ z ∈ u_ws RX9 TX9 11, z ∈ wsX9_setShelf := by decide +kernel
  have hl : lv_has ls 3 [(0, .ref (b 0)), (1, .int (zI k)), (2, .int (zI v))] := hl
  have ckb : 0 ≤ ck_warm k v ∧ ck_warm k v ≤ 3 := by unfold ck_warm; (repeat' split) <;> omega
  refine lv_aload_n hx hb dX9_setShelf_0 rfl (lv_at hl 0 rfl) ?_
  refine lv_iload_n hx hb dX9_setShelf_1 rfl (lv_at hl 1 rfl) ?_
  refine lv_iload_n hx hb dX9_setShelf_2 rfl (lv_at hl 2 rfl) ?_
  refine z_callS (As := [.int (zI k), .int (zI v)]) (rest := [.ref (b 0)]) ([] : va_W) (moW b sc tl cd pl cm h ++ (jrW ct (b 1) 94 M ++ (jrW ct (b 2) 94 SP ++ (jrW ct (b 3) 376 SV ++ (irW ct (b 4) 150 TX ++ (irW ct (b 5) 2 NB)))))) hx hb hml hown hts hl hE hS hA hP hD (c_X9_notShelf l D ct ad k v (by omega) (by omega)) gX9_setShelf_X9_notShelf rfl k_X9_notShelf ⟨Nat.le_of_ble_eq_true rfl, Nat.le_of_ble_eq_true rfl⟩ rfl (Nat.le_of_ble_eq_true rfl) ⟨Nat.le_of_ble_eq_true rfl, Nat.le_of_ble_eq_true rfl⟩ dX9_setShelf_3 rfl (fun v w1 H locs hpost hP hD hS => ?_)
  obtain ⟨rfl, rfl⟩ := hpost
  have hP : va_P D vwCl (moW b sc tl cd pl cm h ++ (jrW ct (b 1) 94 M ++ (jrW ct (b 2) 94 SP ++ (jrW ct (b 3) 376 SV ++ (irW ct (b 4) 150 TX ++ (irW ct (b 5) 2 NB)))))) H := hP
  have hD : va_D A (moW b sc tl cd pl cm h ++ (jrW ct (b 1) 94 M ++ (jrW ct (b 2) 94 SP ++ (jrW ct (b 3) 376 SV ++ (irW ct (b 4) 150 TX ++ (irW ct (b 5) 2 NB)))))) := hD
  refine W.eq (g2 := F0 m 6 ls [.int (zI (ck_warm k v)), .ref (b 0)]) rfl ?_
  refine z_put (ct := ct) (ad := ad) (ci := 7) (v := .int (zI (ck_warm k v))) (ty := tyX9 6) (C := RX9) (T := TX9) (N := 11) (w2 := moW b sc tl (ck_warm k v) pl cm h ++ (jrW ct (b 1) 94 M ++ (jrW ct (b 2) 94 SP ++ (jrW ct (b 3) 376 SV ++ (irW ct (b 4) 150 TX ++ (irW ct (b 5) 2 NB)))))) hx hb hts hin_X9 tyX9 tyX9_ok nmX9 hown hE hP hD hS 0 rfl rfl 6 (by decide) hf_0 (fun _ h9 => h9) rfl (by decide +kernel) rfl rfl (Nat.le_of_ble_eq_true rfl) dX9_setShelf_6 (rfl) (fun H locs hP hD hS => ?_)
  refine lv_aload_n hx hb dX9_setShelf_9 rfl (lv_at hl 0 rfl) ?_
  refine va_get (D := D) (ci := 7) (v := .int (zI (ck_warm k v))) (C := RX9) (T := TX9) (N := 11) hx hb hts hin_X9 hown hK hP 0 rfl rfl 6 (by decide) hf_0 (fun _ h9 => h9) rfl dX9_setShelf_10 ?_
  refine z_if_eq (tgt := 18) hx hb dX9_setShelf_13 (by decide) (by omega) (fun hc_13 => ?_) (fun hc_13 => ?_)
  · have hc_13 := hc_13
    exact absurd hc_13 hno
  · have hc_13 := hc_13
    refine z_iconst hx hb dX9_setShelf_16 ?_
    exact z_iret hx hb hr hlocks hP hD hS ⟨Nat.le_of_ble_eq_true rfl, Nat.le_of_ble_eq_true rfl⟩ dX9_setShelf_17 (⟨congrArg (fun z => some (Value.int (zI z))) (rfl), rfl⟩)
theorem k_X9_notHang : yX9_notHang.cls ≠ "java/lang/invoke/MethodHandle" ∧ yX9_notHang.cls ≠ "java/lang/invoke/VarHandle" ∧ (parseMethodDescriptor yX9_notHang.desc).map (fun d => d.parameters.length) = some 1 := by decide +kernel
set_option maxHeartbeats 4000000 in
set_option maxRecDepth 100000 in
theorem c_X9_hang_ok (l : Launch) (D : va_G) (ct ad : Nat → Nat) (b : Nat → Nat) (M SP SV TX NB : Int → Int) (sc tl cd pl cm h : Int) (k : Int) (h1 : -2147483648 ≤ k ∧ k ≤ 2147483647) (hsc : 0 ≤ sc ∧ sc ≤ 4) (hok : ck_shelf k = 0) : ZM l yX9_hang wsX9_hang ({ frames := 3, cells := 0, slots := 0, locals := 62 } : Room) D ct ad [.ref (b 0), .int (zI k)] (moW b sc tl cd pl cm h ++ (jrW ct (b 1) 94 M ++ (jrW ct (b 2) 94 SP ++ (jrW ct (b 3) 376 SV ++ (irW ct (b 4) 150 TX ++ (irW ct (b 5) 2 NB)))))) (zD (some (.int (zI (M 5)))) (moW b (sv_n sc + 1) tl (ck_shelf k) pl cm h ++ (jrW ct (b 1) 94 (up M 5 k) ++ (jrW ct (b 2) 94 SP ++ (jrW ct (b 3) 376 (sv_keep SV M sc) ++ (irW ct (b 4) 150 TX ++ (irW ct (b 5) 2 NB))))))) := by
  refine ZM.of (cc := cX9_hang) (maxL := 2) (ret := (some .int)) (by decide +kernel) rfl (Nat.le_of_ble_eq_true rfl) ?_
  intro p e s m below meth c A ls hx hb hr hts hown hlocks hml hname hE hP hD hA hS hl
  have hK := hE.1
  have hf_0 := hts (.fieldLink RX9 42 "RodGridsModel" "code" "I") (by decide +kernel)
  have hin_X9 : ∀ z ∈ u_ws RX9 TX9 11, z ∈ wsX9_hang := by decide +kernel
  have hl : lv_has ls 2 [(0, .ref (b 0)), (1, .int (zI k))] := hl
  have ckb : 0 ≤ ck_shelf k ∧ ck_shelf k ≤ 3 := by unfold ck_shelf; (repeat' split) <;> omega
  have okf : 0 ≤ k ∧ k ≤ 4 := by unfold ck_shelf at hok; (repeat' split at hok) <;> omega
  refine lv_aload_n hx hb dX9_hang_0 rfl (lv_at hl 0 rfl) ?_
  refine lv_iload_n hx hb dX9_hang_1 rfl (lv_at hl 1 rfl) ?_
  refine z_callS (As := [.int (zI k)]) (rest := [.ref (b 0)]) ([] : va_W) (moW b sc tl cd pl cm h ++ (jrW ct (b 1) 94 M ++ (jrW ct (b 2) 94 SP ++ (jrW ct (b 3) 376 SV ++ (irW ct (b 4) 150 TX ++ (irW ct (b 5) 2 NB)))))) hx hb hml hown hts hl hE hS hA hP hD (c_X9_notHang l D ct ad k (by omega)) gX9_hang_X9_notHang rfl k_X9_notHang ⟨Nat.le_of_ble_eq_true rfl, Nat.le_of_ble_eq_true rfl⟩ rfl (Nat.le_of_ble_eq_true rfl) ⟨Nat.le_of_ble_eq_true rfl, Nat.le_of_ble_eq_true rfl⟩ dX9_hang_2 rfl (fun v w1 H locs hpost hP hD hS => ?_)
  obtain ⟨rfl, rfl⟩ := hpost
  have hP : va_P D vwCl (moW b sc tl cd pl cm h ++ (jrW ct (b 1) 94 M ++ (jrW ct (b 2) 94 SP ++ (jrW ct (b 3) 376 SV ++ (irW ct (b 4) 150 TX ++ (irW ct (b 5) 2 NB)))))) H := hP
  have hD : va_D A (moW b sc tl cd pl cm h ++ (jrW ct (b 1) 94 M ++ (jrW ct (b 2) 94 SP ++ (jrW ct (b 3) 376 SV ++ (irW ct (b 4) 150 TX ++ (irW ct (b 5) 2 NB)))))) := hD
  refine W.eq (g2 := F0 m 5 ls [.int (zI (ck_shelf k)), .ref (b 0)]) rfl ?_
  refine z_put (ct := ct) (ad := ad) (ci := 7) (v := .int (zI (ck_shelf k))) (ty := tyX9 6) (C := RX9) (T := TX9) (N := 11) (w2 := moW b sc tl (ck_shelf k) pl cm h ++ (jrW ct (b 1) 94 M ++ (jrW ct (b 2) 94 SP ++ (jrW ct (b 3) 376 SV ++ (irW ct (b 4) 150 TX ++ (irW ct (b 5) 2 NB)))))) hx hb hts hin_X9 tyX9 tyX9_ok nmX9 hown hE hP hD hS 0 rfl rfl 6 (by decide) hf_0 (fun _ h9 => h9) rfl (by decide +kernel) rfl rfl (Nat.le_of_ble_eq_true rfl) dX9_hang_5 (rfl) (fun H locs hP hD hS => ?_)
  refine lv_aload_n hx hb dX9_hang_8 rfl (lv_at hl 0 rfl) ?_
  refine va_get (D := D) (ci := 7) (v := .int (zI (ck_shelf k))) (C := RX9) (T := TX9) (N := 11) hx hb hts hin_X9 hown hK hP 0 rfl rfl 6 (by decide) hf_0 (fun _ h9 => h9) rfl dX9_hang_9 ?_
  refine z_if_eq (tgt := 17) hx hb dX9_hang_12 (by decide) (by omega) (fun hc_12 => ?_) (fun hc_12 => ?_)
  · have hc_12 := hc_12
    refine lv_aload_n hx hb dX9_hang_17 rfl (lv_at hl 0 rfl) ?_
    refine z_callV (C := RX9) (q0 := 0) (ci := 7) (As := []) (rest := []) ([] : va_W) ([] : va_W) hx hb hml hown hts hl hE hS hA (zr0 ([] : va_W) hP) (zr0D ([] : va_W) hD) (c_X9_keep l D ct ad b M SP SV TX NB sc tl (ck_shelf k) pl cm h (by omega)) gX9_hang_X9_keep rfl rfl k_X9_keep ⟨Nat.le_of_ble_eq_true rfl, Nat.le_of_ble_eq_true rfl⟩ rfl rfl rfl rfl (Nat.le_of_ble_eq_true rfl) ⟨Nat.le_of_ble_eq_true rfl, Nat.le_of_ble_eq_true rfl⟩ dX9_hang_18 rfl (fun v w1 H locs hpost hP hD hS => ?_)
    obtain ⟨rfl, rfl⟩ := hpost
    have hP := zr0' hP
    have hD := zr0D' hD
    have hP : va_P D vwCl (moW b (sv_n sc + 1) tl (ck_shelf k) pl cm h ++ (jrW ct (b 1) 94 M ++ (jrW ct (b 2) 94 SP ++ (jrW ct (b 3) 376 (sv_keep SV M sc) ++ (irW ct (b 4) 150 TX ++ (irW ct (b 5) 2 NB)))))) H := hP
    have hD : va_D A (moW b (sv_n sc + 1) tl (ck_shelf k) pl cm h ++ (jrW ct (b 1) 94 M ++ (jrW ct (b 2) 94 SP ++ (jrW ct (b 3) 376 (sv_keep SV M sc) ++ (irW ct (b 4) 150 TX ++ (irW ct (b 5) 2 NB)))))) := hD
    refine W.eq (g2 := F0 m 21 ls []) rfl ?_
    refine lv_aload_n hx hb dX9_hang_21 rfl (lv_at hl 0 rfl) ?_
    refine z_iconst hx hb dX9_hang_22 ?_
    refine lv_iload_n hx hb dX9_hang_23 rfl (lv_at hl 1 rfl) ?_
    refine z_callV (C := RX9) (q0 := 0) (ci := 7) (As := [.int (zI 5), .int (zI k)]) (rest := []) ([] : va_W) ([] : va_W) hx hb hml hown hts hl hE hS hA (zr0 ([] : va_W) hP) (zr0D ([] : va_W) hD) (c_X9_change l D ct ad b M SP (sv_keep SV M sc) TX NB (sv_n sc + 1) tl (ck_shelf k) pl cm h 5 k (by omega) (by omega)) gX9_hang_X9_change rfl rfl k_X9_change ⟨Nat.le_of_ble_eq_true rfl, Nat.le_of_ble_eq_true rfl⟩ rfl rfl rfl rfl (Nat.le_of_ble_eq_true rfl) ⟨Nat.le_of_ble_eq_true rfl, Nat.le_of_ble_eq_true rfl⟩ dX9_hang_24 rfl (fun v w1 H locs hpost hP hD hS => ?_)
    obtain ⟨rfl, rfl⟩ := hpost
    have hP := zr0' hP
    have hD := zr0D' hD
    have hP : va_P D vwCl (moW b (sv_n sc + 1) tl (ck_shelf k) pl cm h ++ (jrW ct (b 1) 94 (up M 5 k) ++ (jrW ct (b 2) 94 SP ++ (jrW ct (b 3) 376 (sv_keep SV M sc) ++ (irW ct (b 4) 150 TX ++ (irW ct (b 5) 2 NB)))))) H := hP
    have hD : va_D A (moW b (sv_n sc + 1) tl (ck_shelf k) pl cm h ++ (jrW ct (b 1) 94 (up M 5 k) ++ (jrW ct (b 2) 94 SP ++ (jrW ct (b 3) 376 (sv_keep SV M sc) ++ (irW ct (b 4) 150 TX ++ (irW ct (b 5) 2 NB)))))) := hD
    refine W.eq (g2 := F0 m 27 ls [.int (zI (M 5))]) rfl ?_
    exact z_iret hx hb hr hlocks hP hD hS ⟨Nat.le_of_ble_eq_true rfl, Nat.le_of_ble_eq_true rfl⟩ dX9_hang_27 (⟨congrArg (fun z => some (Value.int (zI z))) (rfl), rfl⟩)
  · have hc_12 := hc_12
    exact absurd hok hc_12
set_option maxHeartbeats 4000000 in
set_option maxRecDepth 100000 in
theorem c_X9_hang_no (l : Launch) (D : va_G) (ct ad : Nat → Nat) (b : Nat → Nat) (M SP SV TX NB : Int → Int) (sc tl cd pl cm h : Int) (k : Int) (h1 : -2147483648 ≤ k ∧ k ≤ 2147483647) (hno : ck_shelf k ≠ 0) : ZM l yX9_hang wsX9_hang ({ frames := 3, cells := 0, slots := 0, locals := 62 } : Room) D ct ad [.ref (b 0), .int (zI k)] (moW b sc tl cd pl cm h ++ (jrW ct (b 1) 94 M ++ (jrW ct (b 2) 94 SP ++ (jrW ct (b 3) 376 SV ++ (irW ct (b 4) 150 TX ++ (irW ct (b 5) 2 NB)))))) (zD (some (.int (zI 0))) (moW b sc tl (ck_shelf k) pl cm h ++ (jrW ct (b 1) 94 M ++ (jrW ct (b 2) 94 SP ++ (jrW ct (b 3) 376 SV ++ (irW ct (b 4) 150 TX ++ (irW ct (b 5) 2 NB))))))) := by
  refine ZM.of (cc := cX9_hang) (maxL := 2) (ret := (some .int)) (by decide +kernel) rfl (Nat.le_of_ble_eq_true rfl) ?_
  intro p e s m below meth c A ls hx hb hr hts hown hlocks hml hname hE hP hD hA hS hl
  have hK := hE.1
  have hf_0 := hts (.fieldLink RX9 42 "RodGridsModel" "code" "I") (by decide +kernel)
  have hin_X9 : ∀ z ∈ u_ws RX9 TX9 11, z ∈ wsX9_hang := by decide +kernel
  have hl : lv_has ls 2 [(0, .ref (b 0)), (1, .int (zI k))] := hl
  have ckb : 0 ≤ ck_shelf k ∧ ck_shelf k ≤ 3 := by unfold ck_shelf; (repeat' split) <;> omega
  refine lv_aload_n hx hb dX9_hang_0 rfl (lv_at hl 0 rfl) ?_
  refine lv_iload_n hx hb dX9_hang_1 rfl (lv_at hl 1 rfl) ?_
  refine z_callS (As := [.int (zI k)]) (rest := [.ref (b 0)]) ([] : va_W) (moW b sc tl cd pl cm h ++ (jrW ct (b 1) 94 M ++ (jrW ct (b 2) 94 SP ++ (jrW ct (b 3) 376 SV ++ (irW ct (b 4) 150 TX ++ (irW ct (b 5) 2 NB)))))) hx hb hml hown hts hl hE hS hA hP hD (c_X9_notHang l D ct ad k (by omega)) gX9_hang_X9_notHang rfl k_X9_notHang ⟨Nat.le_of_ble_eq_true rfl, Nat.le_of_ble_eq_true rfl⟩ rfl (Nat.le_of_ble_eq_true rfl) ⟨Nat.le_of_ble_eq_true rfl, Nat.le_of_ble_eq_true rfl⟩ dX9_hang_2 rfl (fun v w1 H locs hpost hP hD hS => ?_)
  obtain ⟨rfl, rfl⟩ := hpost
  have hP : va_P D vwCl (moW b sc tl cd pl cm h ++ (jrW ct (b 1) 94 M ++ (jrW ct (b 2) 94 SP ++ (jrW ct (b 3) 376 SV ++ (irW ct (b 4) 150 TX ++ (irW ct (b 5) 2 NB)))))) H := hP
  have hD : va_D A (moW b sc tl cd pl cm h ++ (jrW ct (b 1) 94 M ++ (jrW ct (b 2) 94 SP ++ (jrW ct (b 3) 376 SV ++ (irW ct (b 4) 150 TX ++ (irW ct (b 5) 2 NB)))))) := hD
  refine W.eq (g2 := F0 m 5 ls [.int (zI (ck_shelf k)), .ref (b 0)]) rfl ?_
  refine z_put (ct := ct) (ad := ad) (ci := 7) (v := .int (zI (ck_shelf k))) (ty := tyX9 6) (C := RX9) (T := TX9) (N := 11) (w2 := moW b sc tl (ck_shelf k) pl cm h ++ (jrW ct (b 1) 94 M ++ (jrW ct (b 2) 94 SP ++ (jrW ct (b 3) 376 SV ++ (irW ct (b 4) 150 TX ++ (irW ct (b 5) 2 NB)))))) hx hb hts hin_X9 tyX9 tyX9_ok nmX9 hown hE hP hD hS 0 rfl rfl 6 (by decide) hf_0 (fun _ h9 => h9) rfl (by decide +kernel) rfl rfl (Nat.le_of_ble_eq_true rfl) dX9_hang_5 (rfl) (fun H locs hP hD hS => ?_)
  refine lv_aload_n hx hb dX9_hang_8 rfl (lv_at hl 0 rfl) ?_
  refine va_get (D := D) (ci := 7) (v := .int (zI (ck_shelf k))) (C := RX9) (T := TX9) (N := 11) hx hb hts hin_X9 hown hK hP 0 rfl rfl 6 (by decide) hf_0 (fun _ h9 => h9) rfl dX9_hang_9 ?_
  refine z_if_eq (tgt := 17) hx hb dX9_hang_12 (by decide) (by omega) (fun hc_12 => ?_) (fun hc_12 => ?_)
  · have hc_12 := hc_12
    exact absurd hc_12 hno
  · have hc_12 := hc_12
    refine z_iconst hx hb dX9_hang_15 ?_
    exact z_iret hx hb hr hlocks hP hD hS ⟨Nat.le_of_ble_eq_true rfl, Nat.le_of_ble_eq_true rfl⟩ dX9_hang_16 (⟨congrArg (fun z => some (Value.int (zI z))) (rfl), rfl⟩)
theorem k_X9_notTurn : yX9_notTurn.cls ≠ "java/lang/invoke/MethodHandle" ∧ yX9_notTurn.cls ≠ "java/lang/invoke/VarHandle" ∧ (parseMethodDescriptor yX9_notTurn.desc).map (fun d => d.parameters.length) = some 1 := by decide +kernel
theorem k_X9_turns : yX9_turns.cls ≠ "java/lang/invoke/MethodHandle" ∧ yX9_turns.cls ≠ "java/lang/invoke/VarHandle" ∧ (parseMethodDescriptor yX9_turns.desc).map (fun d => d.parameters.length) = some 1 := by decide +kernel
set_option maxHeartbeats 4000000 in
set_option maxRecDepth 100000 in
theorem c_X9_turnNut_ok (l : Launch) (D : va_G) (ct ad : Nat → Nat) (b : Nat → Nat) (M SP SV TX NB : Int → Int) (sc tl cd pl cm h : Int) (v : Int) (hI : gInv M) (hB : bInv M) (h1 : -2147483648 ≤ v ∧ v ≤ 2147483647) (hsc : 0 ≤ sc ∧ sc ≤ 4) (hok : ck1 (ck_turn M v) = 0) : ZM l yX9_turnNut wsX9_turnNut ({ frames := 2, cells := 0, slots := 0, locals := 45 } : Room) D ct ad [.ref (b 0), .int (zI v)] (moW b sc tl cd pl cm h ++ (jrW ct (b 1) 94 M ++ (jrW ct (b 2) 94 SP ++ (jrW ct (b 3) 376 SV ++ (irW ct (b 4) 150 TX ++ (irW ct (b 5) 2 NB)))))) (zD (some (.int (zI (M 7 + v)))) (moW b (sv_n sc + 1) tl (ck1 (ck_turn M v)) pl cm h ++ (jrW ct (b 1) 94 (up M 7 (M 7 + v)) ++ (jrW ct (b 2) 94 SP ++ (jrW ct (b 3) 376 (sv_keep SV M sc) ++ (irW ct (b 4) 150 TX ++ (irW ct (b 5) 2 NB))))))) := by
  refine ZM.of (cc := cX9_turnNut) (maxL := 2) (ret := (some .int)) (by decide +kernel) rfl (Nat.le_of_ble_eq_true rfl) ?_
  intro p e s m below meth c A ls hx hb hr hts hown hlocks hml hname hE hP hD hA hS hl
  have hK := hE.1
  have hf_0 := hts (.fieldLink RX9 42 "RodGridsModel" "code" "I") (by decide +kernel)
  have hin_X9 : ∀ z ∈ u_ws RX9 TX9 11, z ∈ wsX9_turnNut := by decide +kernel
  have hl : lv_has ls 2 [(0, .ref (b 0)), (1, .int (zI v))] := hl
  have i3 := hI.1
  have i4 := hI.2.1
  have j0 := hB.1
  have j1 := hB.2.1
  have j2 := hB.2.2.1
  have j4 := hB.2.2.2.2
  have ckb : 0 ≤ ck1 (ck_turn M v) ∧ ck1 (ck_turn M v) ≤ 3 := by unfold ck1 ck_turn; (repeat' split) <;> omega
  refine lv_aload_n hx hb dX9_turnNut_0 rfl (lv_at hl 0 rfl) ?_
  refine lv_aload_n hx hb dX9_turnNut_1 rfl (lv_at hl 0 rfl) ?_
  refine lv_iload_n hx hb dX9_turnNut_2 rfl (lv_at hl 1 rfl) ?_
  refine z_callV (C := RX9) (q0 := 0) (ci := 7) (As := [.int (zI v)]) (rest := [.ref (b 0)]) ([] : va_W) ([] : va_W) hx hb hml hown hts hl hE hS hA (zr0 ([] : va_W) hP) (zr0D ([] : va_W) hD) (c_X9_notTurn l D ct ad b M SP SV TX NB sc tl cd pl cm h v (by assumption) (by assumption) (by omega)) gX9_turnNut_X9_notTurn rfl rfl k_X9_notTurn ⟨Nat.le_of_ble_eq_true rfl, Nat.le_of_ble_eq_true rfl⟩ rfl rfl rfl rfl (Nat.le_of_ble_eq_true rfl) ⟨Nat.le_of_ble_eq_true rfl, Nat.le_of_ble_eq_true rfl⟩ dX9_turnNut_3 rfl (fun v w1 H locs hpost hP hD hS => ?_)
  obtain ⟨rfl, rfl⟩ := hpost
  have hP := zr0' hP
  have hD := zr0D' hD
  have hP : va_P D vwCl (moW b sc tl cd pl cm h ++ (jrW ct (b 1) 94 M ++ (jrW ct (b 2) 94 SP ++ (jrW ct (b 3) 376 SV ++ (irW ct (b 4) 150 TX ++ (irW ct (b 5) 2 NB)))))) H := hP
  have hD : va_D A (moW b sc tl cd pl cm h ++ (jrW ct (b 1) 94 M ++ (jrW ct (b 2) 94 SP ++ (jrW ct (b 3) 376 SV ++ (irW ct (b 4) 150 TX ++ (irW ct (b 5) 2 NB)))))) := hD
  refine W.eq (g2 := F0 m 6 ls [.int (zI (ck1 (ck_turn M v))), .ref (b 0)]) rfl ?_
  refine z_put (ct := ct) (ad := ad) (ci := 7) (v := .int (zI (ck1 (ck_turn M v)))) (ty := tyX9 6) (C := RX9) (T := TX9) (N := 11) (w2 := moW b sc tl (ck1 (ck_turn M v)) pl cm h ++ (jrW ct (b 1) 94 M ++ (jrW ct (b 2) 94 SP ++ (jrW ct (b 3) 376 SV ++ (irW ct (b 4) 150 TX ++ (irW ct (b 5) 2 NB)))))) hx hb hts hin_X9 tyX9 tyX9_ok nmX9 hown hE hP hD hS 0 rfl rfl 6 (by decide) hf_0 (fun _ h9 => h9) rfl (by decide +kernel) rfl rfl (Nat.le_of_ble_eq_true rfl) dX9_turnNut_6 (rfl) (fun H locs hP hD hS => ?_)
  refine lv_aload_n hx hb dX9_turnNut_9 rfl (lv_at hl 0 rfl) ?_
  refine va_get (D := D) (ci := 7) (v := .int (zI (ck1 (ck_turn M v)))) (C := RX9) (T := TX9) (N := 11) hx hb hts hin_X9 hown hK hP 0 rfl rfl 6 (by decide) hf_0 (fun _ h9 => h9) rfl dX9_turnNut_10 ?_
  refine z_if_eq (tgt := 18) hx hb dX9_turnNut_13 (by decide) (by omega) (fun hc_13 => ?_) (fun hc_13 => ?_)
  · have hc_13 := hc_13
    refine lv_aload_n hx hb dX9_turnNut_18 rfl (lv_at hl 0 rfl) ?_
    refine z_callV (C := RX9) (q0 := 0) (ci := 7) (As := []) (rest := []) ([] : va_W) ([] : va_W) hx hb hml hown hts hl hE hS hA (zr0 ([] : va_W) hP) (zr0D ([] : va_W) hD) (c_X9_keep l D ct ad b M SP SV TX NB sc tl (ck1 (ck_turn M v)) pl cm h (by omega)) gX9_turnNut_X9_keep rfl rfl k_X9_keep ⟨Nat.le_of_ble_eq_true rfl, Nat.le_of_ble_eq_true rfl⟩ rfl rfl rfl rfl (Nat.le_of_ble_eq_true rfl) ⟨Nat.le_of_ble_eq_true rfl, Nat.le_of_ble_eq_true rfl⟩ dX9_turnNut_19 rfl (fun v w1 H locs hpost hP hD hS => ?_)
    obtain ⟨rfl, rfl⟩ := hpost
    have hP := zr0' hP
    have hD := zr0D' hD
    have hP : va_P D vwCl (moW b (sv_n sc + 1) tl (ck1 (ck_turn M v)) pl cm h ++ (jrW ct (b 1) 94 M ++ (jrW ct (b 2) 94 SP ++ (jrW ct (b 3) 376 (sv_keep SV M sc) ++ (irW ct (b 4) 150 TX ++ (irW ct (b 5) 2 NB)))))) H := hP
    have hD : va_D A (moW b (sv_n sc + 1) tl (ck1 (ck_turn M v)) pl cm h ++ (jrW ct (b 1) 94 M ++ (jrW ct (b 2) 94 SP ++ (jrW ct (b 3) 376 (sv_keep SV M sc) ++ (irW ct (b 4) 150 TX ++ (irW ct (b 5) 2 NB)))))) := hD
    refine W.eq (g2 := F0 m 22 ls []) rfl ?_
    refine lv_aload_n hx hb dX9_turnNut_22 rfl (lv_at hl 0 rfl) ?_
    refine lv_iload_n hx hb dX9_turnNut_23 rfl (lv_at hl 1 rfl) ?_
    refine z_callV (C := RX9) (q0 := 0) (ci := 7) (As := [.int (zI v)]) (rest := []) ([] : va_W) ([] : va_W) hx hb hml hown hts hl hE hS hA (zr0 ([] : va_W) hP) (zr0D ([] : va_W) hD) (c_X9_turns l D ct ad b M SP (sv_keep SV M sc) TX NB (sv_n sc + 1) tl (ck1 (ck_turn M v)) pl cm h v (by omega)) gX9_turnNut_X9_turns rfl rfl k_X9_turns ⟨Nat.le_of_ble_eq_true rfl, Nat.le_of_ble_eq_true rfl⟩ rfl rfl rfl rfl (Nat.le_of_ble_eq_true rfl) ⟨Nat.le_of_ble_eq_true rfl, Nat.le_of_ble_eq_true rfl⟩ dX9_turnNut_24 rfl (fun v w1 H locs hpost hP hD hS => ?_)
    obtain ⟨rfl, rfl⟩ := hpost
    have hP := zr0' hP
    have hD := zr0D' hD
    have hP : va_P D vwCl (moW b (sv_n sc + 1) tl (ck1 (ck_turn M v)) pl cm h ++ (jrW ct (b 1) 94 (up M 7 (M 7 + v)) ++ (jrW ct (b 2) 94 SP ++ (jrW ct (b 3) 376 (sv_keep SV M sc) ++ (irW ct (b 4) 150 TX ++ (irW ct (b 5) 2 NB)))))) H := hP
    have hD : va_D A (moW b (sv_n sc + 1) tl (ck1 (ck_turn M v)) pl cm h ++ (jrW ct (b 1) 94 (up M 7 (M 7 + v)) ++ (jrW ct (b 2) 94 SP ++ (jrW ct (b 3) 376 (sv_keep SV M sc) ++ (irW ct (b 4) 150 TX ++ (irW ct (b 5) 2 NB)))))) := hD
    refine W.eq (g2 := F0 m 27 ls [.int (zI (M 7 + v))]) rfl ?_
    exact z_iret hx hb hr hlocks hP hD hS ⟨Nat.le_of_ble_eq_true rfl, Nat.le_of_ble_eq_true rfl⟩ dX9_turnNut_27 (⟨congrArg (fun z => some (Value.int (zI z))) (rfl), rfl⟩)
  · have hc_13 := hc_13
    exact absurd hok hc_13
set_option maxHeartbeats 4000000 in
set_option maxRecDepth 100000 in
theorem c_X9_turnNut_no (l : Launch) (D : va_G) (ct ad : Nat → Nat) (b : Nat → Nat) (M SP SV TX NB : Int → Int) (sc tl cd pl cm h : Int) (v : Int) (hI : gInv M) (hB : bInv M) (h1 : -2147483648 ≤ v ∧ v ≤ 2147483647) (hno : ck1 (ck_turn M v) ≠ 0) : ZM l yX9_turnNut wsX9_turnNut ({ frames := 2, cells := 0, slots := 0, locals := 43 } : Room) D ct ad [.ref (b 0), .int (zI v)] (moW b sc tl cd pl cm h ++ (jrW ct (b 1) 94 M ++ (jrW ct (b 2) 94 SP ++ (jrW ct (b 3) 376 SV ++ (irW ct (b 4) 150 TX ++ (irW ct (b 5) 2 NB)))))) (zD (some (.int (zI 0))) (moW b sc tl (ck1 (ck_turn M v)) pl cm h ++ (jrW ct (b 1) 94 M ++ (jrW ct (b 2) 94 SP ++ (jrW ct (b 3) 376 SV ++ (irW ct (b 4) 150 TX ++ (irW ct (b 5) 2 NB))))))) := by
  refine ZM.of (cc := cX9_turnNut) (maxL := 2) (ret := (some .int)) (by decide +kernel) rfl (Nat.le_of_ble_eq_true rfl) ?_
  intro p e s m below meth c A ls hx hb hr hts hown hlocks hml hname hE hP hD hA hS hl
  have hK := hE.1
  have hf_0 := hts (.fieldLink RX9 42 "RodGridsModel" "code" "I") (by decide +kernel)
  have hin_X9 : ∀ z ∈ u_ws RX9 TX9 11, z ∈ wsX9_turnNut := by decide +kernel
  have hl : lv_has ls 2 [(0, .ref (b 0)), (1, .int (zI v))] := hl
  have i3 := hI.1
  have i4 := hI.2.1
  have j0 := hB.1
  have j1 := hB.2.1
  have j2 := hB.2.2.1
  have j4 := hB.2.2.2.2
  have ckb : 0 ≤ ck1 (ck_turn M v) ∧ ck1 (ck_turn M v) ≤ 3 := by unfold ck1 ck_turn; (repeat' split) <;> omega
  refine lv_aload_n hx hb dX9_turnNut_0 rfl (lv_at hl 0 rfl) ?_
  refine lv_aload_n hx hb dX9_turnNut_1 rfl (lv_at hl 0 rfl) ?_
  refine lv_iload_n hx hb dX9_turnNut_2 rfl (lv_at hl 1 rfl) ?_
  refine z_callV (C := RX9) (q0 := 0) (ci := 7) (As := [.int (zI v)]) (rest := [.ref (b 0)]) ([] : va_W) ([] : va_W) hx hb hml hown hts hl hE hS hA (zr0 ([] : va_W) hP) (zr0D ([] : va_W) hD) (c_X9_notTurn l D ct ad b M SP SV TX NB sc tl cd pl cm h v (by assumption) (by assumption) (by omega)) gX9_turnNut_X9_notTurn rfl rfl k_X9_notTurn ⟨Nat.le_of_ble_eq_true rfl, Nat.le_of_ble_eq_true rfl⟩ rfl rfl rfl rfl (Nat.le_of_ble_eq_true rfl) ⟨Nat.le_of_ble_eq_true rfl, Nat.le_of_ble_eq_true rfl⟩ dX9_turnNut_3 rfl (fun v w1 H locs hpost hP hD hS => ?_)
  obtain ⟨rfl, rfl⟩ := hpost
  have hP := zr0' hP
  have hD := zr0D' hD
  have hP : va_P D vwCl (moW b sc tl cd pl cm h ++ (jrW ct (b 1) 94 M ++ (jrW ct (b 2) 94 SP ++ (jrW ct (b 3) 376 SV ++ (irW ct (b 4) 150 TX ++ (irW ct (b 5) 2 NB)))))) H := hP
  have hD : va_D A (moW b sc tl cd pl cm h ++ (jrW ct (b 1) 94 M ++ (jrW ct (b 2) 94 SP ++ (jrW ct (b 3) 376 SV ++ (irW ct (b 4) 150 TX ++ (irW ct (b 5) 2 NB)))))) := hD
  refine W.eq (g2 := F0 m 6 ls [.int (zI (ck1 (ck_turn M v))), .ref (b 0)]) rfl ?_
  refine z_put (ct := ct) (ad := ad) (ci := 7) (v := .int (zI (ck1 (ck_turn M v)))) (ty := tyX9 6) (C := RX9) (T := TX9) (N := 11) (w2 := moW b sc tl (ck1 (ck_turn M v)) pl cm h ++ (jrW ct (b 1) 94 M ++ (jrW ct (b 2) 94 SP ++ (jrW ct (b 3) 376 SV ++ (irW ct (b 4) 150 TX ++ (irW ct (b 5) 2 NB)))))) hx hb hts hin_X9 tyX9 tyX9_ok nmX9 hown hE hP hD hS 0 rfl rfl 6 (by decide) hf_0 (fun _ h9 => h9) rfl (by decide +kernel) rfl rfl (Nat.le_of_ble_eq_true rfl) dX9_turnNut_6 (rfl) (fun H locs hP hD hS => ?_)
  refine lv_aload_n hx hb dX9_turnNut_9 rfl (lv_at hl 0 rfl) ?_
  refine va_get (D := D) (ci := 7) (v := .int (zI (ck1 (ck_turn M v)))) (C := RX9) (T := TX9) (N := 11) hx hb hts hin_X9 hown hK hP 0 rfl rfl 6 (by decide) hf_0 (fun _ h9 => h9) rfl dX9_turnNut_10 ?_
  refine z_if_eq (tgt := 18) hx hb dX9_turnNut_13 (by decide) (by omega) (fun hc_13 => ?_) (fun hc_13 => ?_)
  · have hc_13 := hc_13
    exact absurd hc_13 hno
  · have hc_13 := hc_13
    refine z_iconst hx hb dX9_turnNut_16 ?_
    exact z_iret hx hb hr hlocks hP hD hS ⟨Nat.le_of_ble_eq_true rfl, Nat.le_of_ble_eq_true rfl⟩ dX9_turnNut_17 (⟨congrArg (fun z => some (Value.int (zI z))) (rfl), rfl⟩)
theorem k_X9_notSet : yX9_notSet.cls ≠ "java/lang/invoke/MethodHandle" ∧ yX9_notSet.cls ≠ "java/lang/invoke/VarHandle" ∧ (parseMethodDescriptor yX9_notSet.desc).map (fun d => d.parameters.length) = some 2 := by decide +kernel
set_option maxHeartbeats 4000000 in
set_option maxRecDepth 100000 in
theorem c_X9_set_ok (l : Launch) (D : va_G) (ct ad : Nat → Nat) (b : Nat → Nat) (M SP SV TX NB : Int → Int) (sc tl cd pl cm h : Int) (w v : Int) (h1 : -2147483648 ≤ w ∧ w ≤ 2147483647) (h2 : -2147483648 ≤ v ∧ v ≤ 2147483647) (hsc : 0 ≤ sc ∧ sc ≤ 4) (hok : ck1 (ck_set w v) = 0) : ZM l yX9_set wsX9_set ({ frames := 2, cells := 0, slots := 0, locals := 45 } : Room) D ct ad [.ref (b 0), .int (zI w), .int (zI v)] (moW b sc tl cd pl cm h ++ (jrW ct (b 1) 94 M ++ (jrW ct (b 2) 94 SP ++ (jrW ct (b 3) 376 SV ++ (irW ct (b 4) 150 TX ++ (irW ct (b 5) 2 NB)))))) (zD (some (.int (zI (M w)))) (moW b (sv_n sc + 1) tl (ck1 (ck_set w v)) pl cm h ++ (jrW ct (b 1) 94 (up M w v) ++ (jrW ct (b 2) 94 SP ++ (jrW ct (b 3) 376 (sv_keep SV M sc) ++ (irW ct (b 4) 150 TX ++ (irW ct (b 5) 2 NB))))))) := by
  refine ZM.of (cc := cX9_set) (maxL := 3) (ret := (some .int)) (by decide +kernel) rfl (Nat.le_of_ble_eq_true rfl) ?_
  intro p e s m below meth c A ls hx hb hr hts hown hlocks hml hname hE hP hD hA hS hl
  have hK := hE.1
  have hf_0 := hts (.fieldLink RX9 42 "RodGridsModel" "code" "I") (by decide +kernel)
  have hin_X9 : ∀ z ∈ u_ws RX9 TX9 11, z ∈ wsX9_set := by decide +kernel
  have hl : lv_has ls 3 [(0, .ref (b 0)), (1, .int (zI w)), (2, .int (zI v))] := hl
  have ckb : 0 ≤ ck1 (ck_set w v) ∧ ck1 (ck_set w v) ≤ 3 := by unfold ck1 ck_set; (repeat' split) <;> omega
  have okf : 0 ≤ w ∧ w ≤ 2 := by unfold ck1 ck_set at hok; (repeat' split at hok) <;> omega
  refine lv_aload_n hx hb dX9_set_0 rfl (lv_at hl 0 rfl) ?_
  refine lv_iload_n hx hb dX9_set_1 rfl (lv_at hl 1 rfl) ?_
  refine lv_iload_n hx hb dX9_set_2 rfl (lv_at hl 2 rfl) ?_
  refine z_callS (As := [.int (zI w), .int (zI v)]) (rest := [.ref (b 0)]) ([] : va_W) (moW b sc tl cd pl cm h ++ (jrW ct (b 1) 94 M ++ (jrW ct (b 2) 94 SP ++ (jrW ct (b 3) 376 SV ++ (irW ct (b 4) 150 TX ++ (irW ct (b 5) 2 NB)))))) hx hb hml hown hts hl hE hS hA hP hD (c_X9_notSet l D ct ad w v (by omega) (by omega)) gX9_set_X9_notSet rfl k_X9_notSet ⟨Nat.le_of_ble_eq_true rfl, Nat.le_of_ble_eq_true rfl⟩ rfl (Nat.le_of_ble_eq_true rfl) ⟨Nat.le_of_ble_eq_true rfl, Nat.le_of_ble_eq_true rfl⟩ dX9_set_3 rfl (fun v w1 H locs hpost hP hD hS => ?_)
  obtain ⟨rfl, rfl⟩ := hpost
  have hP : va_P D vwCl (moW b sc tl cd pl cm h ++ (jrW ct (b 1) 94 M ++ (jrW ct (b 2) 94 SP ++ (jrW ct (b 3) 376 SV ++ (irW ct (b 4) 150 TX ++ (irW ct (b 5) 2 NB)))))) H := hP
  have hD : va_D A (moW b sc tl cd pl cm h ++ (jrW ct (b 1) 94 M ++ (jrW ct (b 2) 94 SP ++ (jrW ct (b 3) 376 SV ++ (irW ct (b 4) 150 TX ++ (irW ct (b 5) 2 NB)))))) := hD
  refine W.eq (g2 := F0 m 6 ls [.int (zI (ck1 (ck_set w v))), .ref (b 0)]) rfl ?_
  refine z_put (ct := ct) (ad := ad) (ci := 7) (v := .int (zI (ck1 (ck_set w v)))) (ty := tyX9 6) (C := RX9) (T := TX9) (N := 11) (w2 := moW b sc tl (ck1 (ck_set w v)) pl cm h ++ (jrW ct (b 1) 94 M ++ (jrW ct (b 2) 94 SP ++ (jrW ct (b 3) 376 SV ++ (irW ct (b 4) 150 TX ++ (irW ct (b 5) 2 NB)))))) hx hb hts hin_X9 tyX9 tyX9_ok nmX9 hown hE hP hD hS 0 rfl rfl 6 (by decide) hf_0 (fun _ h9 => h9) rfl (by decide +kernel) rfl rfl (Nat.le_of_ble_eq_true rfl) dX9_set_6 (rfl) (fun H locs hP hD hS => ?_)
  refine lv_aload_n hx hb dX9_set_9 rfl (lv_at hl 0 rfl) ?_
  refine va_get (D := D) (ci := 7) (v := .int (zI (ck1 (ck_set w v)))) (C := RX9) (T := TX9) (N := 11) hx hb hts hin_X9 hown hK hP 0 rfl rfl 6 (by decide) hf_0 (fun _ h9 => h9) rfl dX9_set_10 ?_
  refine z_if_eq (tgt := 18) hx hb dX9_set_13 (by decide) (by omega) (fun hc_13 => ?_) (fun hc_13 => ?_)
  · have hc_13 := hc_13
    refine lv_aload_n hx hb dX9_set_18 rfl (lv_at hl 0 rfl) ?_
    refine z_callV (C := RX9) (q0 := 0) (ci := 7) (As := []) (rest := []) ([] : va_W) ([] : va_W) hx hb hml hown hts hl hE hS hA (zr0 ([] : va_W) hP) (zr0D ([] : va_W) hD) (c_X9_keep l D ct ad b M SP SV TX NB sc tl (ck1 (ck_set w v)) pl cm h (by omega)) gX9_set_X9_keep rfl rfl k_X9_keep ⟨Nat.le_of_ble_eq_true rfl, Nat.le_of_ble_eq_true rfl⟩ rfl rfl rfl rfl (Nat.le_of_ble_eq_true rfl) ⟨Nat.le_of_ble_eq_true rfl, Nat.le_of_ble_eq_true rfl⟩ dX9_set_19 rfl (fun v w1 H locs hpost hP hD hS => ?_)
    obtain ⟨rfl, rfl⟩ := hpost
    have hP := zr0' hP
    have hD := zr0D' hD
    have hP : va_P D vwCl (moW b (sv_n sc + 1) tl (ck1 (ck_set w v)) pl cm h ++ (jrW ct (b 1) 94 M ++ (jrW ct (b 2) 94 SP ++ (jrW ct (b 3) 376 (sv_keep SV M sc) ++ (irW ct (b 4) 150 TX ++ (irW ct (b 5) 2 NB)))))) H := hP
    have hD : va_D A (moW b (sv_n sc + 1) tl (ck1 (ck_set w v)) pl cm h ++ (jrW ct (b 1) 94 M ++ (jrW ct (b 2) 94 SP ++ (jrW ct (b 3) 376 (sv_keep SV M sc) ++ (irW ct (b 4) 150 TX ++ (irW ct (b 5) 2 NB)))))) := hD
    refine W.eq (g2 := F0 m 22 ls []) rfl ?_
    refine lv_aload_n hx hb dX9_set_22 rfl (lv_at hl 0 rfl) ?_
    refine lv_iload_n hx hb dX9_set_23 rfl (lv_at hl 1 rfl) ?_
    refine lv_iload_n hx hb dX9_set_24 rfl (lv_at hl 2 rfl) ?_
    refine z_callV (C := RX9) (q0 := 0) (ci := 7) (As := [.int (zI w), .int (zI v)]) (rest := []) ([] : va_W) ([] : va_W) hx hb hml hown hts hl hE hS hA (zr0 ([] : va_W) hP) (zr0D ([] : va_W) hD) (c_X9_change l D ct ad b M SP (sv_keep SV M sc) TX NB (sv_n sc + 1) tl (ck1 (ck_set w v)) pl cm h w v (by omega) (by omega)) gX9_set_X9_change rfl rfl k_X9_change ⟨Nat.le_of_ble_eq_true rfl, Nat.le_of_ble_eq_true rfl⟩ rfl rfl rfl rfl (Nat.le_of_ble_eq_true rfl) ⟨Nat.le_of_ble_eq_true rfl, Nat.le_of_ble_eq_true rfl⟩ dX9_set_25 rfl (fun v w1 H locs hpost hP hD hS => ?_)
    obtain ⟨rfl, rfl⟩ := hpost
    have hP := zr0' hP
    have hD := zr0D' hD
    have hP : va_P D vwCl (moW b (sv_n sc + 1) tl (ck1 (ck_set w v)) pl cm h ++ (jrW ct (b 1) 94 (up M w v) ++ (jrW ct (b 2) 94 SP ++ (jrW ct (b 3) 376 (sv_keep SV M sc) ++ (irW ct (b 4) 150 TX ++ (irW ct (b 5) 2 NB)))))) H := hP
    have hD : va_D A (moW b (sv_n sc + 1) tl (ck1 (ck_set w v)) pl cm h ++ (jrW ct (b 1) 94 (up M w v) ++ (jrW ct (b 2) 94 SP ++ (jrW ct (b 3) 376 (sv_keep SV M sc) ++ (irW ct (b 4) 150 TX ++ (irW ct (b 5) 2 NB)))))) := hD
    refine W.eq (g2 := F0 m 28 ls [.int (zI (M w))]) rfl ?_
    exact z_iret hx hb hr hlocks hP hD hS ⟨Nat.le_of_ble_eq_true rfl, Nat.le_of_ble_eq_true rfl⟩ dX9_set_28 (⟨congrArg (fun z => some (Value.int (zI z))) (rfl), rfl⟩)
  · have hc_13 := hc_13
    exact absurd hok hc_13
set_option maxHeartbeats 4000000 in
set_option maxRecDepth 100000 in
theorem c_X9_set_no (l : Launch) (D : va_G) (ct ad : Nat → Nat) (b : Nat → Nat) (M SP SV TX NB : Int → Int) (sc tl cd pl cm h : Int) (w v : Int) (h1 : -2147483648 ≤ w ∧ w ≤ 2147483647) (h2 : -2147483648 ≤ v ∧ v ≤ 2147483647) (hno : ck1 (ck_set w v) ≠ 0) : ZM l yX9_set wsX9_set ({ frames := 2, cells := 0, slots := 0, locals := 43 } : Room) D ct ad [.ref (b 0), .int (zI w), .int (zI v)] (moW b sc tl cd pl cm h ++ (jrW ct (b 1) 94 M ++ (jrW ct (b 2) 94 SP ++ (jrW ct (b 3) 376 SV ++ (irW ct (b 4) 150 TX ++ (irW ct (b 5) 2 NB)))))) (zD (some (.int (zI 0))) (moW b sc tl (ck1 (ck_set w v)) pl cm h ++ (jrW ct (b 1) 94 M ++ (jrW ct (b 2) 94 SP ++ (jrW ct (b 3) 376 SV ++ (irW ct (b 4) 150 TX ++ (irW ct (b 5) 2 NB))))))) := by
  refine ZM.of (cc := cX9_set) (maxL := 3) (ret := (some .int)) (by decide +kernel) rfl (Nat.le_of_ble_eq_true rfl) ?_
  intro p e s m below meth c A ls hx hb hr hts hown hlocks hml hname hE hP hD hA hS hl
  have hK := hE.1
  have hf_0 := hts (.fieldLink RX9 42 "RodGridsModel" "code" "I") (by decide +kernel)
  have hin_X9 : ∀ z ∈ u_ws RX9 TX9 11, z ∈ wsX9_set := by decide +kernel
  have hl : lv_has ls 3 [(0, .ref (b 0)), (1, .int (zI w)), (2, .int (zI v))] := hl
  have ckb : 0 ≤ ck1 (ck_set w v) ∧ ck1 (ck_set w v) ≤ 3 := by unfold ck1 ck_set; (repeat' split) <;> omega
  refine lv_aload_n hx hb dX9_set_0 rfl (lv_at hl 0 rfl) ?_
  refine lv_iload_n hx hb dX9_set_1 rfl (lv_at hl 1 rfl) ?_
  refine lv_iload_n hx hb dX9_set_2 rfl (lv_at hl 2 rfl) ?_
  refine z_callS (As := [.int (zI w), .int (zI v)]) (rest := [.ref (b 0)]) ([] : va_W) (moW b sc tl cd pl cm h ++ (jrW ct (b 1) 94 M ++ (jrW ct (b 2) 94 SP ++ (jrW ct (b 3) 376 SV ++ (irW ct (b 4) 150 TX ++ (irW ct (b 5) 2 NB)))))) hx hb hml hown hts hl hE hS hA hP hD (c_X9_notSet l D ct ad w v (by omega) (by omega)) gX9_set_X9_notSet rfl k_X9_notSet ⟨Nat.le_of_ble_eq_true rfl, Nat.le_of_ble_eq_true rfl⟩ rfl (Nat.le_of_ble_eq_true rfl) ⟨Nat.le_of_ble_eq_true rfl, Nat.le_of_ble_eq_true rfl⟩ dX9_set_3 rfl (fun v w1 H locs hpost hP hD hS => ?_)
  obtain ⟨rfl, rfl⟩ := hpost
  have hP : va_P D vwCl (moW b sc tl cd pl cm h ++ (jrW ct (b 1) 94 M ++ (jrW ct (b 2) 94 SP ++ (jrW ct (b 3) 376 SV ++ (irW ct (b 4) 150 TX ++ (irW ct (b 5) 2 NB)))))) H := hP
  have hD : va_D A (moW b sc tl cd pl cm h ++ (jrW ct (b 1) 94 M ++ (jrW ct (b 2) 94 SP ++ (jrW ct (b 3) 376 SV ++ (irW ct (b 4) 150 TX ++ (irW ct (b 5) 2 NB)))))) := hD
  refine W.eq (g2 := F0 m 6 ls [.int (zI (ck1 (ck_set w v))), .ref (b 0)]) rfl ?_
  refine z_put (ct := ct) (ad := ad) (ci := 7) (v := .int (zI (ck1 (ck_set w v)))) (ty := tyX9 6) (C := RX9) (T := TX9) (N := 11) (w2 := moW b sc tl (ck1 (ck_set w v)) pl cm h ++ (jrW ct (b 1) 94 M ++ (jrW ct (b 2) 94 SP ++ (jrW ct (b 3) 376 SV ++ (irW ct (b 4) 150 TX ++ (irW ct (b 5) 2 NB)))))) hx hb hts hin_X9 tyX9 tyX9_ok nmX9 hown hE hP hD hS 0 rfl rfl 6 (by decide) hf_0 (fun _ h9 => h9) rfl (by decide +kernel) rfl rfl (Nat.le_of_ble_eq_true rfl) dX9_set_6 (rfl) (fun H locs hP hD hS => ?_)
  refine lv_aload_n hx hb dX9_set_9 rfl (lv_at hl 0 rfl) ?_
  refine va_get (D := D) (ci := 7) (v := .int (zI (ck1 (ck_set w v)))) (C := RX9) (T := TX9) (N := 11) hx hb hts hin_X9 hown hK hP 0 rfl rfl 6 (by decide) hf_0 (fun _ h9 => h9) rfl dX9_set_10 ?_
  refine z_if_eq (tgt := 18) hx hb dX9_set_13 (by decide) (by omega) (fun hc_13 => ?_) (fun hc_13 => ?_)
  · have hc_13 := hc_13
    exact absurd hc_13 hno
  · have hc_13 := hc_13
    refine z_iconst hx hb dX9_set_16 ?_
    exact z_iret hx hb hr hlocks hP hD hS ⟨Nat.le_of_ble_eq_true rfl, Nat.le_of_ble_eq_true rfl⟩ dX9_set_17 (⟨congrArg (fun z => some (Value.int (zI z))) (rfl), rfl⟩)
theorem k_X9_notPass : yX9_notPass.cls ≠ "java/lang/invoke/MethodHandle" ∧ yX9_notPass.cls ≠ "java/lang/invoke/VarHandle" ∧ (parseMethodDescriptor yX9_notPass.desc).map (fun d => d.parameters.length) = some 1 := by decide +kernel
theorem k_X9_passes : yX9_passes.cls ≠ "java/lang/invoke/MethodHandle" ∧ yX9_passes.cls ≠ "java/lang/invoke/VarHandle" ∧ (parseMethodDescriptor yX9_passes.desc).map (fun d => d.parameters.length) = some 1 := by decide +kernel
set_option maxHeartbeats 4000000 in
set_option maxRecDepth 100000 in
theorem c_X9_pass_ok (l : Launch) (D : va_G) (ct ad : Nat → Nat) (b : Nat → Nat) (M SP SV TX NB : Int → Int) (sc tl cd pl cm h : Int) (n : Int) (hI : gInv M) (hB : bInv M) (h1 : -2147483648 ≤ n ∧ n ≤ 2147483647) (hsc : 0 ≤ sc ∧ sc ≤ 4) (hok : ck1 (ck_hours M n) = 0) : ZM l yX9_pass wsX9_pass ({ frames := 8, cells := 0, slots := 0, locals := 176 } : Room) D ct ad [.ref (b 0), .int (zI n)] (moW b sc tl cd pl cm h ++ (jrW ct (b 1) 94 M ++ (jrW ct (b 2) 94 SP ++ (jrW ct (b 3) 376 SV ++ (irW ct (b 4) 150 TX ++ (irW ct (b 5) 2 NB)))))) (zD (some (.int (zI (sp_err (sp_pass M n.toNat))))) (moW b (sv_n sc + 1) tl (ck1 (ck_hours M n)) pl cm h ++ (jrW ct (b 1) 94 (sp_pass M n.toNat) ++ (jrW ct (b 2) 94 SP ++ (jrW ct (b 3) 376 (sv_keep SV M sc) ++ (irW ct (b 4) 150 TX ++ (irW ct (b 5) 2 NB))))))) := by
  refine ZM.of (cc := cX9_pass) (maxL := 2) (ret := (some .int)) (by decide +kernel) rfl (Nat.le_of_ble_eq_true rfl) ?_
  intro p e s m below meth c A ls hx hb hr hts hown hlocks hml hname hE hP hD hA hS hl
  have hK := hE.1
  have hf_0 := hts (.fieldLink RX9 42 "RodGridsModel" "code" "I") (by decide +kernel)
  have hin_X9 : ∀ z ∈ u_ws RX9 TX9 11, z ∈ wsX9_pass := by decide +kernel
  have hl : lv_has ls 2 [(0, .ref (b 0)), (1, .int (zI n))] := hl
  have i3 := hI.1
  have i4 := hI.2.1
  have j0 := hB.1
  have j1 := hB.2.1
  have j2 := hB.2.2.1
  have j4 := hB.2.2.2.2
  have ckb : 0 ≤ ck1 (ck_hours M n) ∧ ck1 (ck_hours M n) ≤ 3 := by unfold ck1 ck_hours; (repeat' split) <;> omega
  have okf : 1 ≤ n ∧ n ≤ 500 ∧ M 9 + n ≤ 100000 := by unfold ck1 ck_hours at hok; (repeat' split at hok) <;> omega
  refine lv_aload_n hx hb dX9_pass_0 rfl (lv_at hl 0 rfl) ?_
  refine lv_aload_n hx hb dX9_pass_1 rfl (lv_at hl 0 rfl) ?_
  refine lv_iload_n hx hb dX9_pass_2 rfl (lv_at hl 1 rfl) ?_
  refine z_callV (C := RX9) (q0 := 0) (ci := 7) (As := [.int (zI n)]) (rest := [.ref (b 0)]) ([] : va_W) ([] : va_W) hx hb hml hown hts hl hE hS hA (zr0 ([] : va_W) hP) (zr0D ([] : va_W) hD) (c_X9_notPass l D ct ad b M SP SV TX NB sc tl cd pl cm h n (by assumption) (by assumption) (by omega)) gX9_pass_X9_notPass rfl rfl k_X9_notPass ⟨Nat.le_of_ble_eq_true rfl, Nat.le_of_ble_eq_true rfl⟩ rfl rfl rfl rfl (Nat.le_of_ble_eq_true rfl) ⟨Nat.le_of_ble_eq_true rfl, Nat.le_of_ble_eq_true rfl⟩ dX9_pass_3 rfl (fun v w1 H locs hpost hP hD hS => ?_)
  obtain ⟨rfl, rfl⟩ := hpost
  have hP := zr0' hP
  have hD := zr0D' hD
  have hP : va_P D vwCl (moW b sc tl cd pl cm h ++ (jrW ct (b 1) 94 M ++ (jrW ct (b 2) 94 SP ++ (jrW ct (b 3) 376 SV ++ (irW ct (b 4) 150 TX ++ (irW ct (b 5) 2 NB)))))) H := hP
  have hD : va_D A (moW b sc tl cd pl cm h ++ (jrW ct (b 1) 94 M ++ (jrW ct (b 2) 94 SP ++ (jrW ct (b 3) 376 SV ++ (irW ct (b 4) 150 TX ++ (irW ct (b 5) 2 NB)))))) := hD
  refine W.eq (g2 := F0 m 6 ls [.int (zI (ck1 (ck_hours M n))), .ref (b 0)]) rfl ?_
  refine z_put (ct := ct) (ad := ad) (ci := 7) (v := .int (zI (ck1 (ck_hours M n)))) (ty := tyX9 6) (C := RX9) (T := TX9) (N := 11) (w2 := moW b sc tl (ck1 (ck_hours M n)) pl cm h ++ (jrW ct (b 1) 94 M ++ (jrW ct (b 2) 94 SP ++ (jrW ct (b 3) 376 SV ++ (irW ct (b 4) 150 TX ++ (irW ct (b 5) 2 NB)))))) hx hb hts hin_X9 tyX9 tyX9_ok nmX9 hown hE hP hD hS 0 rfl rfl 6 (by decide) hf_0 (fun _ h9 => h9) rfl (by decide +kernel) rfl rfl (Nat.le_of_ble_eq_true rfl) dX9_pass_6 (rfl) (fun H locs hP hD hS => ?_)
  refine lv_aload_n hx hb dX9_pass_9 rfl (lv_at hl 0 rfl) ?_
  refine va_get (D := D) (ci := 7) (v := .int (zI (ck1 (ck_hours M n)))) (C := RX9) (T := TX9) (N := 11) hx hb hts hin_X9 hown hK hP 0 rfl rfl 6 (by decide) hf_0 (fun _ h9 => h9) rfl dX9_pass_10 ?_
  refine z_if_eq (tgt := 18) hx hb dX9_pass_13 (by decide) (by omega) (fun hc_13 => ?_) (fun hc_13 => ?_)
  · have hc_13 := hc_13
    refine lv_aload_n hx hb dX9_pass_18 rfl (lv_at hl 0 rfl) ?_
    refine z_callV (C := RX9) (q0 := 0) (ci := 7) (As := []) (rest := []) ([] : va_W) ([] : va_W) hx hb hml hown hts hl hE hS hA (zr0 ([] : va_W) hP) (zr0D ([] : va_W) hD) (c_X9_keep l D ct ad b M SP SV TX NB sc tl (ck1 (ck_hours M n)) pl cm h (by omega)) gX9_pass_X9_keep rfl rfl k_X9_keep ⟨Nat.le_of_ble_eq_true rfl, Nat.le_of_ble_eq_true rfl⟩ rfl rfl rfl rfl (Nat.le_of_ble_eq_true rfl) ⟨Nat.le_of_ble_eq_true rfl, Nat.le_of_ble_eq_true rfl⟩ dX9_pass_19 rfl (fun v w1 H locs hpost hP hD hS => ?_)
    obtain ⟨rfl, rfl⟩ := hpost
    have hP := zr0' hP
    have hD := zr0D' hD
    have hP : va_P D vwCl (moW b (sv_n sc + 1) tl (ck1 (ck_hours M n)) pl cm h ++ (jrW ct (b 1) 94 M ++ (jrW ct (b 2) 94 SP ++ (jrW ct (b 3) 376 (sv_keep SV M sc) ++ (irW ct (b 4) 150 TX ++ (irW ct (b 5) 2 NB)))))) H := hP
    have hD : va_D A (moW b (sv_n sc + 1) tl (ck1 (ck_hours M n)) pl cm h ++ (jrW ct (b 1) 94 M ++ (jrW ct (b 2) 94 SP ++ (jrW ct (b 3) 376 (sv_keep SV M sc) ++ (irW ct (b 4) 150 TX ++ (irW ct (b 5) 2 NB)))))) := hD
    refine W.eq (g2 := F0 m 22 ls []) rfl ?_
    refine lv_aload_n hx hb dX9_pass_22 rfl (lv_at hl 0 rfl) ?_
    refine lv_iload_n hx hb dX9_pass_23 rfl (lv_at hl 1 rfl) ?_
    refine z_callV (C := RX9) (q0 := 0) (ci := 7) (As := [.int (zI n)]) (rest := []) ([] : va_W) ([] : va_W) hx hb hml hown hts hl hE hS hA (zr0 ([] : va_W) hP) (zr0D ([] : va_W) hD) (c_X9_passes l D ct ad b M SP (sv_keep SV M sc) TX NB (sv_n sc + 1) tl (ck1 (ck_hours M n)) pl cm h n (by assumption) (by assumption) (by omega) (by omega)) gX9_pass_X9_passes rfl rfl k_X9_passes ⟨Nat.le_of_ble_eq_true rfl, Nat.le_of_ble_eq_true rfl⟩ rfl rfl rfl rfl (Nat.le_of_ble_eq_true rfl) ⟨Nat.le_of_ble_eq_true rfl, Nat.le_of_ble_eq_true rfl⟩ dX9_pass_24 rfl (fun v w1 H locs hpost hP hD hS => ?_)
    obtain ⟨rfl, rfl⟩ := hpost
    have hP := zr0' hP
    have hD := zr0D' hD
    have hP : va_P D vwCl (moW b (sv_n sc + 1) tl (ck1 (ck_hours M n)) pl cm h ++ (jrW ct (b 1) 94 (sp_pass M n.toNat) ++ (jrW ct (b 2) 94 SP ++ (jrW ct (b 3) 376 (sv_keep SV M sc) ++ (irW ct (b 4) 150 TX ++ (irW ct (b 5) 2 NB)))))) H := hP
    have hD : va_D A (moW b (sv_n sc + 1) tl (ck1 (ck_hours M n)) pl cm h ++ (jrW ct (b 1) 94 (sp_pass M n.toNat) ++ (jrW ct (b 2) 94 SP ++ (jrW ct (b 3) 376 (sv_keep SV M sc) ++ (irW ct (b 4) 150 TX ++ (irW ct (b 5) 2 NB)))))) := hD
    refine W.eq (g2 := F0 m 27 ls [.int (zI (sp_err (sp_pass M n.toNat)))]) rfl ?_
    exact z_iret hx hb hr hlocks hP hD hS ⟨Nat.le_of_ble_eq_true rfl, Nat.le_of_ble_eq_true rfl⟩ dX9_pass_27 (⟨congrArg (fun z => some (Value.int (zI z))) (rfl), rfl⟩)
  · have hc_13 := hc_13
    exact absurd hok hc_13
set_option maxHeartbeats 4000000 in
set_option maxRecDepth 100000 in
theorem c_X9_pass_no (l : Launch) (D : va_G) (ct ad : Nat → Nat) (b : Nat → Nat) (M SP SV TX NB : Int → Int) (sc tl cd pl cm h : Int) (n : Int) (hI : gInv M) (hB : bInv M) (h1 : -2147483648 ≤ n ∧ n ≤ 2147483647) (hno : ck1 (ck_hours M n) ≠ 0) : ZM l yX9_pass wsX9_pass ({ frames := 2, cells := 0, slots := 0, locals := 43 } : Room) D ct ad [.ref (b 0), .int (zI n)] (moW b sc tl cd pl cm h ++ (jrW ct (b 1) 94 M ++ (jrW ct (b 2) 94 SP ++ (jrW ct (b 3) 376 SV ++ (irW ct (b 4) 150 TX ++ (irW ct (b 5) 2 NB)))))) (zD (some (.int (zI 0))) (moW b sc tl (ck1 (ck_hours M n)) pl cm h ++ (jrW ct (b 1) 94 M ++ (jrW ct (b 2) 94 SP ++ (jrW ct (b 3) 376 SV ++ (irW ct (b 4) 150 TX ++ (irW ct (b 5) 2 NB))))))) := by
  refine ZM.of (cc := cX9_pass) (maxL := 2) (ret := (some .int)) (by decide +kernel) rfl (Nat.le_of_ble_eq_true rfl) ?_
  intro p e s m below meth c A ls hx hb hr hts hown hlocks hml hname hE hP hD hA hS hl
  have hK := hE.1
  have hf_0 := hts (.fieldLink RX9 42 "RodGridsModel" "code" "I") (by decide +kernel)
  have hin_X9 : ∀ z ∈ u_ws RX9 TX9 11, z ∈ wsX9_pass := by decide +kernel
  have hl : lv_has ls 2 [(0, .ref (b 0)), (1, .int (zI n))] := hl
  have i3 := hI.1
  have i4 := hI.2.1
  have j0 := hB.1
  have j1 := hB.2.1
  have j2 := hB.2.2.1
  have j4 := hB.2.2.2.2
  have ckb : 0 ≤ ck1 (ck_hours M n) ∧ ck1 (ck_hours M n) ≤ 3 := by unfold ck1 ck_hours; (repeat' split) <;> omega
  refine lv_aload_n hx hb dX9_pass_0 rfl (lv_at hl 0 rfl) ?_
  refine lv_aload_n hx hb dX9_pass_1 rfl (lv_at hl 0 rfl) ?_
  refine lv_iload_n hx hb dX9_pass_2 rfl (lv_at hl 1 rfl) ?_
  refine z_callV (C := RX9) (q0 := 0) (ci := 7) (As := [.int (zI n)]) (rest := [.ref (b 0)]) ([] : va_W) ([] : va_W) hx hb hml hown hts hl hE hS hA (zr0 ([] : va_W) hP) (zr0D ([] : va_W) hD) (c_X9_notPass l D ct ad b M SP SV TX NB sc tl cd pl cm h n (by assumption) (by assumption) (by omega)) gX9_pass_X9_notPass rfl rfl k_X9_notPass ⟨Nat.le_of_ble_eq_true rfl, Nat.le_of_ble_eq_true rfl⟩ rfl rfl rfl rfl (Nat.le_of_ble_eq_true rfl) ⟨Nat.le_of_ble_eq_true rfl, Nat.le_of_ble_eq_true rfl⟩ dX9_pass_3 rfl (fun v w1 H locs hpost hP hD hS => ?_)
  obtain ⟨rfl, rfl⟩ := hpost
  have hP := zr0' hP
  have hD := zr0D' hD
  have hP : va_P D vwCl (moW b sc tl cd pl cm h ++ (jrW ct (b 1) 94 M ++ (jrW ct (b 2) 94 SP ++ (jrW ct (b 3) 376 SV ++ (irW ct (b 4) 150 TX ++ (irW ct (b 5) 2 NB)))))) H := hP
  have hD : va_D A (moW b sc tl cd pl cm h ++ (jrW ct (b 1) 94 M ++ (jrW ct (b 2) 94 SP ++ (jrW ct (b 3) 376 SV ++ (irW ct (b 4) 150 TX ++ (irW ct (b 5) 2 NB)))))) := hD
  refine W.eq (g2 := F0 m 6 ls [.int (zI (ck1 (ck_hours M n))), .ref (b 0)]) rfl ?_
  refine z_put (ct := ct) (ad := ad) (ci := 7) (v := .int (zI (ck1 (ck_hours M n)))) (ty := tyX9 6) (C := RX9) (T := TX9) (N := 11) (w2 := moW b sc tl (ck1 (ck_hours M n)) pl cm h ++ (jrW ct (b 1) 94 M ++ (jrW ct (b 2) 94 SP ++ (jrW ct (b 3) 376 SV ++ (irW ct (b 4) 150 TX ++ (irW ct (b 5) 2 NB)))))) hx hb hts hin_X9 tyX9 tyX9_ok nmX9 hown hE hP hD hS 0 rfl rfl 6 (by decide) hf_0 (fun _ h9 => h9) rfl (by decide +kernel) rfl rfl (Nat.le_of_ble_eq_true rfl) dX9_pass_6 (rfl) (fun H locs hP hD hS => ?_)
  refine lv_aload_n hx hb dX9_pass_9 rfl (lv_at hl 0 rfl) ?_
  refine va_get (D := D) (ci := 7) (v := .int (zI (ck1 (ck_hours M n)))) (C := RX9) (T := TX9) (N := 11) hx hb hts hin_X9 hown hK hP 0 rfl rfl 6 (by decide) hf_0 (fun _ h9 => h9) rfl dX9_pass_10 ?_
  refine z_if_eq (tgt := 18) hx hb dX9_pass_13 (by decide) (by omega) (fun hc_13 => ?_) (fun hc_13 => ?_)
  · have hc_13 := hc_13
    exact absurd hc_13 hno
  · have hc_13 := hc_13
    refine z_iconst hx hb dX9_pass_16 ?_
    exact z_iret hx hb hr hlocks hP hD hS ⟨Nat.le_of_ble_eq_true rfl, Nat.le_of_ble_eq_true rfl⟩ dX9_pass_17 (⟨congrArg (fun z => some (Value.int (zI z))) (rfl), rfl⟩)
set_option maxHeartbeats 4000000 in
set_option maxRecDepth 100000 in
theorem c_X9_wind (l : Launch) (D : va_G) (ct ad : Nat → Nat) (b : Nat → Nat) (M SP SV TX NB : Int → Int) (sc tl cd pl cm h : Int) (hsc : 0 ≤ sc ∧ sc ≤ 4) : ZM l yX9_wind wsX9_wind ({ frames := 2, cells := 0, slots := 0, locals := 45 } : Room) D ct ad [.ref (b 0)] (moW b sc tl cd pl cm h ++ (jrW ct (b 1) 94 M ++ (jrW ct (b 2) 94 SP ++ (jrW ct (b 3) 376 SV ++ (irW ct (b 4) 150 TX ++ (irW ct (b 5) 2 NB)))))) (zD (some (.int (zI (M 8)))) (moW b (sv_n sc + 1) tl 0 pl cm h ++ (jrW ct (b 1) 94 (up M 8 192) ++ (jrW ct (b 2) 94 SP ++ (jrW ct (b 3) 376 (sv_keep SV M sc) ++ (irW ct (b 4) 150 TX ++ (irW ct (b 5) 2 NB))))))) := by
  refine ZM.of (cc := cX9_wind) (maxL := 1) (ret := (some .int)) (by decide +kernel) rfl (Nat.le_of_ble_eq_true rfl) ?_
  intro p e s m below meth c A ls hx hb hr hts hown hlocks hml hname hE hP hD hA hS hl
  have hK := hE.1
  have hf_0 := hts (.fieldLink RX9 42 "RodGridsModel" "code" "I") (by decide +kernel)
  have hin_X9 : ∀ z ∈ u_ws RX9 TX9 11, z ∈ wsX9_wind := by decide +kernel
  have hl : lv_has ls 1 [(0, .ref (b 0))] := hl
  refine lv_aload_n hx hb dX9_wind_0 rfl (lv_at hl 0 rfl) ?_
  refine z_iconst hx hb dX9_wind_1 ?_
  refine z_put (ct := ct) (ad := ad) (ci := 7) (v := .int (zI 0)) (ty := tyX9 6) (C := RX9) (T := TX9) (N := 11) (w2 := moW b sc tl 0 pl cm h ++ (jrW ct (b 1) 94 M ++ (jrW ct (b 2) 94 SP ++ (jrW ct (b 3) 376 SV ++ (irW ct (b 4) 150 TX ++ (irW ct (b 5) 2 NB)))))) hx hb hts hin_X9 tyX9 tyX9_ok nmX9 hown hE hP hD hS 0 rfl rfl 6 (by decide) hf_0 (fun _ h9 => h9) rfl (by decide +kernel) rfl rfl (Nat.le_of_ble_eq_true rfl) dX9_wind_2 (rfl) (fun H locs hP hD hS => ?_)
  refine lv_aload_n hx hb dX9_wind_5 rfl (lv_at hl 0 rfl) ?_
  refine z_callV (C := RX9) (q0 := 0) (ci := 7) (As := []) (rest := []) ([] : va_W) ([] : va_W) hx hb hml hown hts hl hE hS hA (zr0 ([] : va_W) hP) (zr0D ([] : va_W) hD) (c_X9_keep l D ct ad b M SP SV TX NB sc tl 0 pl cm h (by omega)) gX9_wind_X9_keep rfl rfl k_X9_keep ⟨Nat.le_of_ble_eq_true rfl, Nat.le_of_ble_eq_true rfl⟩ rfl rfl rfl rfl (Nat.le_of_ble_eq_true rfl) ⟨Nat.le_of_ble_eq_true rfl, Nat.le_of_ble_eq_true rfl⟩ dX9_wind_6 rfl (fun v w1 H locs hpost hP hD hS => ?_)
  obtain ⟨rfl, rfl⟩ := hpost
  have hP := zr0' hP
  have hD := zr0D' hD
  have hP : va_P D vwCl (moW b (sv_n sc + 1) tl 0 pl cm h ++ (jrW ct (b 1) 94 M ++ (jrW ct (b 2) 94 SP ++ (jrW ct (b 3) 376 (sv_keep SV M sc) ++ (irW ct (b 4) 150 TX ++ (irW ct (b 5) 2 NB)))))) H := hP
  have hD : va_D A (moW b (sv_n sc + 1) tl 0 pl cm h ++ (jrW ct (b 1) 94 M ++ (jrW ct (b 2) 94 SP ++ (jrW ct (b 3) 376 (sv_keep SV M sc) ++ (irW ct (b 4) 150 TX ++ (irW ct (b 5) 2 NB)))))) := hD
  refine W.eq (g2 := F0 m 9 ls []) rfl ?_
  refine lv_aload_n hx hb dX9_wind_9 rfl (lv_at hl 0 rfl) ?_
  refine z_bipush hx hb dX9_wind_10 (by decide) ?_
  refine z_sipush hx hb dX9_wind_12 (by decide) ?_
  refine z_callV (C := RX9) (q0 := 0) (ci := 7) (As := [.int (zI 8), .int (zI 192)]) (rest := []) ([] : va_W) ([] : va_W) hx hb hml hown hts hl hE hS hA (zr0 ([] : va_W) hP) (zr0D ([] : va_W) hD) (c_X9_change l D ct ad b M SP (sv_keep SV M sc) TX NB (sv_n sc + 1) tl 0 pl cm h 8 192 (by omega) (by omega)) gX9_wind_X9_change rfl rfl k_X9_change ⟨Nat.le_of_ble_eq_true rfl, Nat.le_of_ble_eq_true rfl⟩ rfl rfl rfl rfl (Nat.le_of_ble_eq_true rfl) ⟨Nat.le_of_ble_eq_true rfl, Nat.le_of_ble_eq_true rfl⟩ dX9_wind_15 rfl (fun v w1 H locs hpost hP hD hS => ?_)
  obtain ⟨rfl, rfl⟩ := hpost
  have hP := zr0' hP
  have hD := zr0D' hD
  have hP : va_P D vwCl (moW b (sv_n sc + 1) tl 0 pl cm h ++ (jrW ct (b 1) 94 (up M 8 192) ++ (jrW ct (b 2) 94 SP ++ (jrW ct (b 3) 376 (sv_keep SV M sc) ++ (irW ct (b 4) 150 TX ++ (irW ct (b 5) 2 NB)))))) H := hP
  have hD : va_D A (moW b (sv_n sc + 1) tl 0 pl cm h ++ (jrW ct (b 1) 94 (up M 8 192) ++ (jrW ct (b 2) 94 SP ++ (jrW ct (b 3) 376 (sv_keep SV M sc) ++ (irW ct (b 4) 150 TX ++ (irW ct (b 5) 2 NB)))))) := hD
  refine W.eq (g2 := F0 m 18 ls [.int (zI (M 8))]) rfl ?_
  exact z_iret hx hb hr hlocks hP hD hS ⟨Nat.le_of_ble_eq_true rfl, Nat.le_of_ble_eq_true rfl⟩ dX9_wind_18 (⟨congrArg (fun z => some (Value.int (zI z))) (rfl), rfl⟩)
