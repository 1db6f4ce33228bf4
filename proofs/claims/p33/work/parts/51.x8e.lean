set_option maxHeartbeats 4000000 in
set_option maxRecDepth 100000 in
theorem c_X8_refuse (l : Launch) (D : va_G) (ct ad : Nat → Nat) (k : Int) (h0 : k = 0) : ZM l yX8_refuse wsX8_refuse ({ frames := 0, cells := 0, slots := 0, locals := 0 } : Room) D ct ad [.int (zI k)] ([]) (zD none ([])) := by
  refine ZM.of (cc := cX8_refuse) (maxL := 1) (ret := none) (by decide +kernel) rfl (Nat.le_of_ble_eq_true rfl) ?_
  intro p e s m below meth c A ls hx hb hr hts hown hlocks hml hname hE hP hD hA hS hl
  have hK := hE.1
  have hl : lv_has ls 1 [(0, .int (zI k))] := hl
  refine lv_iload_n hx hb dX8_refuse_0 rfl (lv_at hl 0 rfl) ?_
  refine z_iconst hx hb dX8_refuse_1 ?_
  refine z_icmp_ne (tgt := 16) hx hb dX8_refuse_2 (by decide) (by omega) (by omega) (fun hc_2 => ?_) (fun hc_2 => ?_)
  · have hc_2 := hc_2
    refine lv_iload_n hx hb dX8_refuse_16 rfl (lv_at hl 0 rfl) ?_
    refine z_iconst hx hb dX8_refuse_17 ?_
    refine z_icmp_ne (tgt := 32) hx hb dX8_refuse_18 (by decide) (by omega) (by omega) (fun hc_18 => ?_) (fun hc_18 => ?_)
    · have hc_18 := hc_18
      refine lv_iload_n hx hb dX8_refuse_32 rfl (lv_at hl 0 rfl) ?_
      refine z_iconst hx hb dX8_refuse_33 ?_
      refine z_icmp_ne (tgt := 48) hx hb dX8_refuse_34 (by decide) (by omega) (by omega) (fun hc_34 => ?_) (fun hc_34 => ?_)
      · have hc_34 := hc_34
        exact z_vret hx hb hr hlocks hP hD hS ⟨Nat.le_of_ble_eq_true rfl, Nat.le_of_ble_eq_true rfl⟩ dX8_refuse_48 (⟨rfl, rfl⟩)
      · have hc_34 := hc_34
        omega
    · have hc_18 := hc_18
      omega
  · have hc_2 := hc_2
    omega
theorem k_X8_refuse : yX8_refuse.cls ≠ "java/lang/invoke/MethodHandle" ∧ yX8_refuse.cls ≠ "java/lang/invoke/VarHandle" ∧ (parseMethodDescriptor yX8_refuse.desc).map (fun d => d.parameters.length) = some 1 := by decide +kernel
set_option maxHeartbeats 4000000 in
set_option maxRecDepth 100000 in
theorem c_X8_addMetal (l : Launch) (D : va_G) (ct ad : Nat → Nat) (u : Nat) (a r q : Nat → Nat) (b : Nat → Nat → Nat) (nx sz : Int) (S : Nat → Int → Int) (M TX : Int → Int) (tl pl ft n1 n2 : Int) (wd : Value) (v : Int) (hs : sInv M) (hn : 0 ≤ nx ∧ nx ≤ 3) (hsz : 0 ≤ sz ∧ sz ≤ 4) (h2 : -2147483648 ≤ v ∧ v ≤ 2147483647) (hok : ck_metal M v = 0) : ZM l yX8_addMetal wsX8_addMetal ({ frames := 4, cells := 0, slots := 0, locals := 82 } : Room) D ct ad [.ref u, .int (zI v)] (x8W u a r q ++ (svW ct r b nx sz S ++ (sobjW a ++ (gridW ct a M ++ (benchW ct a M ++ (logW ct a M ++ (txtW ct q TX tl pl ft wd n1 n2))))))) (zD (some (.int (zI (M 3)))) (x8W u a r q ++ (svW ct r b ((nx + 1) % 4) (min (sz + 1) 4) (updS S nx M) ++ (sobjW a ++ (gridW ct a (st_metal M v) ++ (benchW ct a (st_metal M v) ++ (logW ct a (st_metal M v) ++ (txtW ct q TX tl pl ft wd n1 n2)))))))) := by
  refine ZM.of (cc := cX8_addMetal) (maxL := 2) (ret := (some .int)) (by decide +kernel) rfl (Nat.le_of_ble_eq_true rfl) ?_
  intro p e s m below meth c A ls hx hb hr hts hown hlocks hml hname hE hP hD hA hS hl
  have hK := hE.1
  have hf_0 := hts (.fieldLink RX8 10 "RodGrids" "state" "LRodGrids$State;") (by decide +kernel)
  have hf_1 := hts (.fieldLink RX8 30 "RodGrids$State" "grid" "LRodGrids$Grid;") (by decide +kernel)
  have hf_2 := hts (.fieldLink RX8 19 "RodGrids" "saved" "LRodGrids$SavedStates;") (by decide +kernel)
  have hin_X6 : ∀ z ∈ u_ws RX6 TX6 3, z ∈ wsX8_addMetal := by decide +kernel
  have hin_X8 : ∀ z ∈ u_ws RX8 TX8 3, z ∈ wsX8_addMetal := by decide +kernel
  have hl : lv_has ls 2 [(0, .ref u), (1, .int (zI v))] := hl
  have hI := hs.1
  have hB := hs.2.1
  have ha := hs.2.2
  have i3 := hI.1
  have i4 := hI.2.1
  have j0 := hB.1
  have j1 := hB.2.1
  have j2 := hB.2.2.1
  have j4 := hB.2.2.2.2
  have okf : M 3 < 6 := by have q9 := hok; unfold ck_metal at q9; (repeat' split at q9) <;> omega
  refine lv_aload_n hx hb dX8_addMetal_0 rfl (lv_at hl 0 rfl) ?_
  refine va_get (D := D) (ci := 6) (v := .ref (a 0)) (C := RX8) (T := TX8) (N := 3) hx hb hts hin_X8 hown hK hP 0 rfl rfl 0 (by decide) hf_0 (fun _ h9 => h9) rfl dX8_addMetal_1 ?_
  refine va_get (D := D) (ci := 5) (v := .ref (a 1)) (C := RX6) (T := TX6) (N := 3) hx hb hts hin_X6 hown hK hP 47 rfl rfl 0 (by decide) hf_1 (fun _ h9 => h9) rfl dX8_addMetal_4 ?_
  refine lv_iload_n hx hb dX8_addMetal_7 rfl (lv_at hl 1 rfl) ?_
  refine z_callV (C := RX4) (q0 := 0) (ci := 3) (As := [.int (zI v)]) (rest := []) (x8W u a r q ++ (svW ct r b nx sz S ++ (sobjW a))) (benchW ct a M ++ (logW ct a M ++ (txtW ct q TX tl pl ft wd n1 n2))) hx hb hml hown hts hl hE hS hA hP hD (c_X4_checkNewMetal l D ct ad a M v (by assumption) (by omega)) gX8_addMetal_X4_checkNewMetal rfl rfl k_X4_checkNewMetal ⟨Nat.le_of_ble_eq_true rfl, Nat.le_of_ble_eq_true rfl⟩ rfl rfl rfl rfl (Nat.le_of_ble_eq_true rfl) ⟨Nat.le_of_ble_eq_true rfl, Nat.le_of_ble_eq_true rfl⟩ dX8_addMetal_8 rfl (fun v w1 H locs hpost hP hD hS => ?_)
  obtain ⟨rfl, rfl⟩ := hpost
  have hP : va_P D vwCl (x8W u a r q ++ (svW ct r b nx sz S ++ (sobjW a ++ (gridW ct a M ++ (benchW ct a M ++ (logW ct a M ++ (txtW ct q TX tl pl ft wd n1 n2))))))) H := hP
  have hD : va_D A (x8W u a r q ++ (svW ct r b nx sz S ++ (sobjW a ++ (gridW ct a M ++ (benchW ct a M ++ (logW ct a M ++ (txtW ct q TX tl pl ft wd n1 n2))))))) := hD
  refine W.eq (g2 := F0 m 11 ls [.int (zI (ck_metal M v))]) rfl ?_
  refine z_callS (As := [.int (zI (ck_metal M v))]) (rest := []) ([] : va_W) (x8W u a r q ++ (svW ct r b nx sz S ++ (sobjW a ++ (gridW ct a M ++ (benchW ct a M ++ (logW ct a M ++ (txtW ct q TX tl pl ft wd n1 n2))))))) hx hb hml hown hts hl hE hS hA hP hD (c_X8_refuse l D ct ad (ck_metal M v) hok) gX8_addMetal_X8_refuse rfl k_X8_refuse ⟨Nat.le_of_ble_eq_true rfl, Nat.le_of_ble_eq_true rfl⟩ rfl (Nat.le_of_ble_eq_true rfl) ⟨Nat.le_of_ble_eq_true rfl, Nat.le_of_ble_eq_true rfl⟩ dX8_addMetal_11 rfl (fun v w1 H locs hpost hP hD hS => ?_)
  obtain ⟨rfl, rfl⟩ := hpost
  have hP : va_P D vwCl (x8W u a r q ++ (svW ct r b nx sz S ++ (sobjW a ++ (gridW ct a M ++ (benchW ct a M ++ (logW ct a M ++ (txtW ct q TX tl pl ft wd n1 n2))))))) H := hP
  have hD : va_D A (x8W u a r q ++ (svW ct r b nx sz S ++ (sobjW a ++ (gridW ct a M ++ (benchW ct a M ++ (logW ct a M ++ (txtW ct q TX tl pl ft wd n1 n2))))))) := hD
  refine W.eq (g2 := F0 m 14 ls []) rfl ?_
  refine lv_aload_n hx hb dX8_addMetal_14 rfl (lv_at hl 0 rfl) ?_
  refine va_get (D := D) (ci := 6) (v := .ref (r 0)) (C := RX8) (T := TX8) (N := 3) hx hb hts hin_X8 hown hK hP 0 rfl rfl 1 (by decide) hf_2 (fun _ h9 => h9) rfl dX8_addMetal_15 ?_
  refine lv_aload_n hx hb dX8_addMetal_18 rfl (lv_at hl 0 rfl) ?_
  refine va_get (D := D) (ci := 6) (v := .ref (a 0)) (C := RX8) (T := TX8) (N := 3) hx hb hts hin_X8 hown hK hP 0 rfl rfl 0 (by decide) hf_0 (fun _ h9 => h9) rfl dX8_addMetal_19 ?_
  refine z_callV (C := RX5) (q0 := 0) (ci := 4) (As := [.ref (a 0)]) (rest := []) (x8W u a r q) (txtW ct q TX tl pl ft wd n1 n2) hx hb hml hown hts hl hE hS hA hP hD (c_X5_push l D ct ad r a b nx sz S M (by omega) (by omega)) gX8_addMetal_X5_push rfl rfl k_X5_push ⟨Nat.le_of_ble_eq_true rfl, Nat.le_of_ble_eq_true rfl⟩ rfl rfl rfl rfl (Nat.le_of_ble_eq_true rfl) ⟨Nat.le_of_ble_eq_true rfl, Nat.le_of_ble_eq_true rfl⟩ dX8_addMetal_22 rfl (fun v w1 H locs hpost hP hD hS => ?_)
  obtain ⟨rfl, rfl⟩ := hpost
  have hP : va_P D vwCl (x8W u a r q ++ (svW ct r b ((nx + 1) % 4) (min (sz + 1) 4) (updS S nx M) ++ (sobjW a ++ (gridW ct a M ++ (benchW ct a M ++ (logW ct a M ++ (txtW ct q TX tl pl ft wd n1 n2))))))) H := hP
  have hD : va_D A (x8W u a r q ++ (svW ct r b ((nx + 1) % 4) (min (sz + 1) 4) (updS S nx M) ++ (sobjW a ++ (gridW ct a M ++ (benchW ct a M ++ (logW ct a M ++ (txtW ct q TX tl pl ft wd n1 n2))))))) := hD
  refine W.eq (g2 := F0 m 25 ls []) rfl ?_
  refine lv_aload_n hx hb dX8_addMetal_25 rfl (lv_at hl 0 rfl) ?_
  refine va_get (D := D) (ci := 6) (v := .ref (a 0)) (C := RX8) (T := TX8) (N := 3) hx hb hts hin_X8 hown hK hP 0 rfl rfl 0 (by decide) hf_0 (fun _ h9 => h9) rfl dX8_addMetal_26 ?_
  refine va_get (D := D) (ci := 5) (v := .ref (a 1)) (C := RX6) (T := TX6) (N := 3) hx hb hts hin_X6 hown hK hP 47 rfl rfl 0 (by decide) hf_1 (fun _ h9 => h9) rfl dX8_addMetal_29 ?_
  refine lv_iload_n hx hb dX8_addMetal_32 rfl (lv_at hl 1 rfl) ?_
  refine z_callV (C := RX4) (q0 := 0) (ci := 3) (As := [.int (zI v)]) (rest := []) (x8W u a r q ++ (svW ct r b ((nx + 1) % 4) (min (sz + 1) 4) (updS S nx M) ++ (sobjW a))) (benchW ct a M ++ (logW ct a M ++ (txtW ct q TX tl pl ft wd n1 n2))) hx hb hml hown hts hl hE hS hA hP hD (c_X4_appendMetal l D ct ad a M v (by assumption) (by omega)) gX8_addMetal_X4_appendMetal rfl rfl k_X4_appendMetal ⟨Nat.le_of_ble_eq_true rfl, Nat.le_of_ble_eq_true rfl⟩ rfl rfl rfl rfl (Nat.le_of_ble_eq_true rfl) ⟨Nat.le_of_ble_eq_true rfl, Nat.le_of_ble_eq_true rfl⟩ dX8_addMetal_33 rfl (fun v w1 H locs hpost hP hD hS => ?_)
  obtain ⟨rfl, rfl⟩ := hpost
  have hP : va_P D vwCl (x8W u a r q ++ (svW ct r b ((nx + 1) % 4) (min (sz + 1) 4) (updS S nx M) ++ (sobjW a ++ (gridW ct a (st_metal M v) ++ (benchW ct a M ++ (logW ct a M ++ (txtW ct q TX tl pl ft wd n1 n2))))))) H := hP
  have hD : va_D A (x8W u a r q ++ (svW ct r b ((nx + 1) % 4) (min (sz + 1) 4) (updS S nx M) ++ (sobjW a ++ (gridW ct a (st_metal M v) ++ (benchW ct a M ++ (logW ct a M ++ (txtW ct q TX tl pl ft wd n1 n2))))))) := hD
  have hP : va_P D vwCl (x8W u a r q ++ (svW ct r b ((nx + 1) % 4) (min (sz + 1) 4) (updS S nx M) ++ (sobjW a ++ (gridW ct a (st_metal M v) ++ (benchW ct a (st_metal M v) ++ (logW ct a (st_metal M v) ++ (txtW ct q TX tl pl ft wd n1 n2))))))) H := by rw [benchW_ag (M := M) (N := (st_metal M v)) (fun j hj => metal_n (by omega) (by omega) (by omega)), logW_ag (M := M) (N := (st_metal M v)) (fun j hj => metal_n (by omega) (by omega) (by omega))]; exact hP
  have hD : va_D A (x8W u a r q ++ (svW ct r b ((nx + 1) % 4) (min (sz + 1) 4) (updS S nx M) ++ (sobjW a ++ (gridW ct a (st_metal M v) ++ (benchW ct a (st_metal M v) ++ (logW ct a (st_metal M v) ++ (txtW ct q TX tl pl ft wd n1 n2))))))) := by rw [benchW_ag (M := M) (N := (st_metal M v)) (fun j hj => metal_n (by omega) (by omega) (by omega)), logW_ag (M := M) (N := (st_metal M v)) (fun j hj => metal_n (by omega) (by omega) (by omega))]; exact hD
  refine W.eq (g2 := F0 m 36 ls [.int (zI (M 3))]) rfl ?_
  exact z_iret hx hb hr hlocks hP hD hS ⟨Nat.le_of_ble_eq_true rfl, Nat.le_of_ble_eq_true rfl⟩ dX8_addMetal_36 (⟨congrArg (fun z => some (Value.int (zI z))) (rfl), rfl⟩)
theorem k_X4_changeStretch : yX4_changeStretch.cls ≠ "java/lang/invoke/MethodHandle" ∧ yX4_changeStretch.cls ≠ "java/lang/invoke/VarHandle" ∧ (parseMethodDescriptor yX4_changeStretch.desc).map (fun d => d.parameters.length) = some 2 := by decide +kernel
theorem k_X4_checkStretch : yX4_checkStretch.cls ≠ "java/lang/invoke/MethodHandle" ∧ yX4_checkStretch.cls ≠ "java/lang/invoke/VarHandle" ∧ (parseMethodDescriptor yX4_checkStretch.desc).map (fun d => d.parameters.length) = some 2 := by decide +kernel
set_option maxHeartbeats 4000000 in
set_option maxRecDepth 100000 in
theorem c_X8_setStretch (l : Launch) (D : va_G) (ct ad : Nat → Nat) (u : Nat) (a r q : Nat → Nat) (b : Nat → Nat → Nat) (nx sz : Int) (S : Nat → Int → Int) (M TX : Int → Int) (tl pl ft n1 n2 : Int) (wd : Value) (k v : Int) (hs : sInv M) (hn : 0 ≤ nx ∧ nx ≤ 3) (hsz : 0 ≤ sz ∧ sz ≤ 4) (h1 : -2147483648 ≤ k ∧ k ≤ 2147483647) (h2 : -2147483648 ≤ v ∧ v ≤ 2147483647) (hok : ck_stretch M k v = 0) : ZM l yX8_setStretch wsX8_setStretch ({ frames := 4, cells := 0, slots := 0, locals := 82 } : Room) D ct ad [.ref u, .int (zI k), .int (zI v)] (x8W u a r q ++ (svW ct r b nx sz S ++ (sobjW a ++ (gridW ct a M ++ (benchW ct a M ++ (logW ct a M ++ (txtW ct q TX tl pl ft wd n1 n2))))))) (zD (some (.int (zI (M (16 + k))))) (x8W u a r q ++ (svW ct r b ((nx + 1) % 4) (min (sz + 1) 4) (updS S nx M) ++ (sobjW a ++ (gridW ct a (up M (16 + k) v) ++ (benchW ct a (up M (16 + k) v) ++ (logW ct a (up M (16 + k) v) ++ (txtW ct q TX tl pl ft wd n1 n2)))))))) := by
  refine ZM.of (cc := cX8_setStretch) (maxL := 3) (ret := (some .int)) (by decide +kernel) rfl (Nat.le_of_ble_eq_true rfl) ?_
  intro p e s m below meth c A ls hx hb hr hts hown hlocks hml hname hE hP hD hA hS hl
  have hK := hE.1
  have hf_0 := hts (.fieldLink RX8 10 "RodGrids" "state" "LRodGrids$State;") (by decide +kernel)
  have hf_1 := hts (.fieldLink RX8 30 "RodGrids$State" "grid" "LRodGrids$Grid;") (by decide +kernel)
  have hf_2 := hts (.fieldLink RX8 19 "RodGrids" "saved" "LRodGrids$SavedStates;") (by decide +kernel)
  have hin_X6 : ∀ z ∈ u_ws RX6 TX6 3, z ∈ wsX8_setStretch := by decide +kernel
  have hin_X8 : ∀ z ∈ u_ws RX8 TX8 3, z ∈ wsX8_setStretch := by decide +kernel
  have hl : lv_has ls 3 [(0, .ref u), (1, .int (zI k)), (2, .int (zI v))] := hl
  have hI := hs.1
  have hB := hs.2.1
  have ha := hs.2.2
  have i3 := hI.1
  have i4 := hI.2.1
  have j0 := hB.1
  have j1 := hB.2.1
  have j2 := hB.2.2.1
  have j4 := hB.2.2.2.2
  have okf : 0 ≤ k ∧ k < M 3 := by have q9 := hok; unfold ck_stretch at q9; (repeat' split at q9) <;> omega
  refine lv_aload_n hx hb dX8_setStretch_0 rfl (lv_at hl 0 rfl) ?_
  refine va_get (D := D) (ci := 6) (v := .ref (a 0)) (C := RX8) (T := TX8) (N := 3) hx hb hts hin_X8 hown hK hP 0 rfl rfl 0 (by decide) hf_0 (fun _ h9 => h9) rfl dX8_setStretch_1 ?_
  refine va_get (D := D) (ci := 5) (v := .ref (a 1)) (C := RX6) (T := TX6) (N := 3) hx hb hts hin_X6 hown hK hP 47 rfl rfl 0 (by decide) hf_1 (fun _ h9 => h9) rfl dX8_setStretch_4 ?_
  refine lv_iload_n hx hb dX8_setStretch_7 rfl (lv_at hl 1 rfl) ?_
  refine lv_iload_n hx hb dX8_setStretch_8 rfl (lv_at hl 2 rfl) ?_
  refine z_callV (C := RX4) (q0 := 0) (ci := 3) (As := [.int (zI k), .int (zI v)]) (rest := []) (x8W u a r q ++ (svW ct r b nx sz S ++ (sobjW a))) (benchW ct a M ++ (logW ct a M ++ (txtW ct q TX tl pl ft wd n1 n2))) hx hb hml hown hts hl hE hS hA hP hD (c_X4_checkStretch l D ct ad a M k v (by assumption) (by omega) (by omega)) gX8_setStretch_X4_checkStretch rfl rfl k_X4_checkStretch ⟨Nat.le_of_ble_eq_true rfl, Nat.le_of_ble_eq_true rfl⟩ rfl rfl rfl rfl (Nat.le_of_ble_eq_true rfl) ⟨Nat.le_of_ble_eq_true rfl, Nat.le_of_ble_eq_true rfl⟩ dX8_setStretch_9 rfl (fun v w1 H locs hpost hP hD hS => ?_)
  obtain ⟨rfl, rfl⟩ := hpost
  have hP : va_P D vwCl (x8W u a r q ++ (svW ct r b nx sz S ++ (sobjW a ++ (gridW ct a M ++ (benchW ct a M ++ (logW ct a M ++ (txtW ct q TX tl pl ft wd n1 n2))))))) H := hP
  have hD : va_D A (x8W u a r q ++ (svW ct r b nx sz S ++ (sobjW a ++ (gridW ct a M ++ (benchW ct a M ++ (logW ct a M ++ (txtW ct q TX tl pl ft wd n1 n2))))))) := hD
  refine W.eq (g2 := F0 m 12 ls [.int (zI (ck_stretch M k v))]) rfl ?_
  refine z_callS (As := [.int (zI (ck_stretch M k v))]) (rest := []) ([] : va_W) (x8W u a r q ++ (svW ct r b nx sz S ++ (sobjW a ++ (gridW ct a M ++ (benchW ct a M ++ (logW ct a M ++ (txtW ct q TX tl pl ft wd n1 n2))))))) hx hb hml hown hts hl hE hS hA hP hD (c_X8_refuse l D ct ad (ck_stretch M k v) hok) gX8_setStretch_X8_refuse rfl k_X8_refuse ⟨Nat.le_of_ble_eq_true rfl, Nat.le_of_ble_eq_true rfl⟩ rfl (Nat.le_of_ble_eq_true rfl) ⟨Nat.le_of_ble_eq_true rfl, Nat.le_of_ble_eq_true rfl⟩ dX8_setStretch_12 rfl (fun v w1 H locs hpost hP hD hS => ?_)
  obtain ⟨rfl, rfl⟩ := hpost
  have hP : va_P D vwCl (x8W u a r q ++ (svW ct r b nx sz S ++ (sobjW a ++ (gridW ct a M ++ (benchW ct a M ++ (logW ct a M ++ (txtW ct q TX tl pl ft wd n1 n2))))))) H := hP
  have hD : va_D A (x8W u a r q ++ (svW ct r b nx sz S ++ (sobjW a ++ (gridW ct a M ++ (benchW ct a M ++ (logW ct a M ++ (txtW ct q TX tl pl ft wd n1 n2))))))) := hD
  refine W.eq (g2 := F0 m 15 ls []) rfl ?_
  refine lv_aload_n hx hb dX8_setStretch_15 rfl (lv_at hl 0 rfl) ?_
  refine va_get (D := D) (ci := 6) (v := .ref (r 0)) (C := RX8) (T := TX8) (N := 3) hx hb hts hin_X8 hown hK hP 0 rfl rfl 1 (by decide) hf_2 (fun _ h9 => h9) rfl dX8_setStretch_16 ?_
  refine lv_aload_n hx hb dX8_setStretch_19 rfl (lv_at hl 0 rfl) ?_
  refine va_get (D := D) (ci := 6) (v := .ref (a 0)) (C := RX8) (T := TX8) (N := 3) hx hb hts hin_X8 hown hK hP 0 rfl rfl 0 (by decide) hf_0 (fun _ h9 => h9) rfl dX8_setStretch_20 ?_
  refine z_callV (C := RX5) (q0 := 0) (ci := 4) (As := [.ref (a 0)]) (rest := []) (x8W u a r q) (txtW ct q TX tl pl ft wd n1 n2) hx hb hml hown hts hl hE hS hA hP hD (c_X5_push l D ct ad r a b nx sz S M (by omega) (by omega)) gX8_setStretch_X5_push rfl rfl k_X5_push ⟨Nat.le_of_ble_eq_true rfl, Nat.le_of_ble_eq_true rfl⟩ rfl rfl rfl rfl (Nat.le_of_ble_eq_true rfl) ⟨Nat.le_of_ble_eq_true rfl, Nat.le_of_ble_eq_true rfl⟩ dX8_setStretch_23 rfl (fun v w1 H locs hpost hP hD hS => ?_)
  obtain ⟨rfl, rfl⟩ := hpost
  have hP : va_P D vwCl (x8W u a r q ++ (svW ct r b ((nx + 1) % 4) (min (sz + 1) 4) (updS S nx M) ++ (sobjW a ++ (gridW ct a M ++ (benchW ct a M ++ (logW ct a M ++ (txtW ct q TX tl pl ft wd n1 n2))))))) H := hP
  have hD : va_D A (x8W u a r q ++ (svW ct r b ((nx + 1) % 4) (min (sz + 1) 4) (updS S nx M) ++ (sobjW a ++ (gridW ct a M ++ (benchW ct a M ++ (logW ct a M ++ (txtW ct q TX tl pl ft wd n1 n2))))))) := hD
  refine W.eq (g2 := F0 m 26 ls []) rfl ?_
  refine lv_aload_n hx hb dX8_setStretch_26 rfl (lv_at hl 0 rfl) ?_
  refine va_get (D := D) (ci := 6) (v := .ref (a 0)) (C := RX8) (T := TX8) (N := 3) hx hb hts hin_X8 hown hK hP 0 rfl rfl 0 (by decide) hf_0 (fun _ h9 => h9) rfl dX8_setStretch_27 ?_
  refine va_get (D := D) (ci := 5) (v := .ref (a 1)) (C := RX6) (T := TX6) (N := 3) hx hb hts hin_X6 hown hK hP 47 rfl rfl 0 (by decide) hf_1 (fun _ h9 => h9) rfl dX8_setStretch_30 ?_
  refine lv_iload_n hx hb dX8_setStretch_33 rfl (lv_at hl 1 rfl) ?_
  refine lv_iload_n hx hb dX8_setStretch_34 rfl (lv_at hl 2 rfl) ?_
  refine z_callV (C := RX4) (q0 := 0) (ci := 3) (As := [.int (zI k), .int (zI v)]) (rest := []) (x8W u a r q ++ (svW ct r b ((nx + 1) % 4) (min (sz + 1) 4) (updS S nx M) ++ (sobjW a))) (benchW ct a M ++ (logW ct a M ++ (txtW ct q TX tl pl ft wd n1 n2))) hx hb hml hown hts hl hE hS hA hP hD (c_X4_changeStretch l D ct ad a M k v (by assumption) (by omega)) gX8_setStretch_X4_changeStretch rfl rfl k_X4_changeStretch ⟨Nat.le_of_ble_eq_true rfl, Nat.le_of_ble_eq_true rfl⟩ rfl rfl rfl rfl (Nat.le_of_ble_eq_true rfl) ⟨Nat.le_of_ble_eq_true rfl, Nat.le_of_ble_eq_true rfl⟩ dX8_setStretch_35 rfl (fun v w1 H locs hpost hP hD hS => ?_)
  obtain ⟨rfl, rfl⟩ := hpost
  have hP : va_P D vwCl (x8W u a r q ++ (svW ct r b ((nx + 1) % 4) (min (sz + 1) 4) (updS S nx M) ++ (sobjW a ++ (gridW ct a (up M (16 + k) v) ++ (benchW ct a M ++ (logW ct a M ++ (txtW ct q TX tl pl ft wd n1 n2))))))) H := hP
  have hD : va_D A (x8W u a r q ++ (svW ct r b ((nx + 1) % 4) (min (sz + 1) 4) (updS S nx M) ++ (sobjW a ++ (gridW ct a (up M (16 + k) v) ++ (benchW ct a M ++ (logW ct a M ++ (txtW ct q TX tl pl ft wd n1 n2))))))) := hD
  have hP : va_P D vwCl (x8W u a r q ++ (svW ct r b ((nx + 1) % 4) (min (sz + 1) 4) (updS S nx M) ++ (sobjW a ++ (gridW ct a (up M (16 + k) v) ++ (benchW ct a (up M (16 + k) v) ++ (logW ct a (up M (16 + k) v) ++ (txtW ct q TX tl pl ft wd n1 n2))))))) H := by rw [benchW_ag (M := M) (N := (up M (16 + k) v)) (fun j hj => up_n (by omega)), logW_ag (M := M) (N := (up M (16 + k) v)) (fun j hj => up_n (by omega))]; exact hP
  have hD : va_D A (x8W u a r q ++ (svW ct r b ((nx + 1) % 4) (min (sz + 1) 4) (updS S nx M) ++ (sobjW a ++ (gridW ct a (up M (16 + k) v) ++ (benchW ct a (up M (16 + k) v) ++ (logW ct a (up M (16 + k) v) ++ (txtW ct q TX tl pl ft wd n1 n2))))))) := by rw [benchW_ag (M := M) (N := (up M (16 + k) v)) (fun j hj => up_n (by omega)), logW_ag (M := M) (N := (up M (16 + k) v)) (fun j hj => up_n (by omega))]; exact hD
  refine W.eq (g2 := F0 m 38 ls [.int (zI (M (16 + k)))]) rfl ?_
  exact z_iret hx hb hr hlocks hP hD hS ⟨Nat.le_of_ble_eq_true rfl, Nat.le_of_ble_eq_true rfl⟩ dX8_setStretch_38 (⟨congrArg (fun z => some (Value.int (zI z))) (rfl), rfl⟩)
set_option maxHeartbeats 4000000 in
set_option maxRecDepth 100000 in
theorem c_X8_addRod (l : Launch) (D : va_G) (ct ad : Nat → Nat) (u : Nat) (a r q : Nat → Nat) (b : Nat → Nat → Nat) (nx sz : Int) (S : Nat → Int → Int) (M TX : Int → Int) (tl pl ft n1 n2 : Int) (wd : Value) (k d n : Int) (hs : sInv M) (hn : 0 ≤ nx ∧ nx ≤ 3) (hsz : 0 ≤ sz ∧ sz ≤ 4) (h1 : -2147483648 ≤ k ∧ k ≤ 2147483647) (h2 : -2147483648 ≤ d ∧ d ≤ 2147483647) (h3 : -2147483648 ≤ n ∧ n ≤ 2147483647) (hok : ck_rod M k d n = 0) : ZM l yX8_addRod wsX8_addRod ({ frames := 4, cells := 0, slots := 0, locals := 82 } : Room) D ct ad [.ref u, .int (zI k), .int (zI d), .int (zI n)] (x8W u a r q ++ (svW ct r b nx sz S ++ (sobjW a ++ (gridW ct a M ++ (benchW ct a M ++ (logW ct a M ++ (txtW ct q TX tl pl ft wd n1 n2))))))) (zD (some (.int (zI (M 4)))) (x8W u a r q ++ (svW ct r b ((nx + 1) % 4) (min (sz + 1) 4) (updS S nx M) ++ (sobjW a ++ (gridW ct a (st_rod M k d n) ++ (benchW ct a (st_rod M k d n) ++ (logW ct a (st_rod M k d n) ++ (txtW ct q TX tl pl ft wd n1 n2)))))))) := by
  refine ZM.of (cc := cX8_addRod) (maxL := 4) (ret := (some .int)) (by decide +kernel) rfl (Nat.le_of_ble_eq_true rfl) ?_
  intro p e s m below meth c A ls hx hb hr hts hown hlocks hml hname hE hP hD hA hS hl
  have hK := hE.1
  have hf_0 := hts (.fieldLink RX8 10 "RodGrids" "state" "LRodGrids$State;") (by decide +kernel)
  have hf_1 := hts (.fieldLink RX8 30 "RodGrids$State" "grid" "LRodGrids$Grid;") (by decide +kernel)
  have hf_2 := hts (.fieldLink RX8 19 "RodGrids" "saved" "LRodGrids$SavedStates;") (by decide +kernel)
  have hin_X6 : ∀ z ∈ u_ws RX6 TX6 3, z ∈ wsX8_addRod := by decide +kernel
  have hin_X8 : ∀ z ∈ u_ws RX8 TX8 3, z ∈ wsX8_addRod := by decide +kernel
  have hl : lv_has ls 4 [(0, .ref u), (1, .int (zI k)), (2, .int (zI d)), (3, .int (zI n))] := hl
  have hI := hs.1
  have hB := hs.2.1
  have ha := hs.2.2
  have i3 := hI.1
  have i4 := hI.2.1
  have j0 := hB.1
  have j1 := hB.2.1
  have j2 := hB.2.2.1
  have j4 := hB.2.2.2.2
  have okf : M 4 < 9 := by have q9 := hok; unfold ck_rod at q9; (repeat' split at q9) <;> omega
  refine lv_aload_n hx hb dX8_addRod_0 rfl (lv_at hl 0 rfl) ?_
  refine va_get (D := D) (ci := 6) (v := .ref (a 0)) (C := RX8) (T := TX8) (N := 3) hx hb hts hin_X8 hown hK hP 0 rfl rfl 0 (by decide) hf_0 (fun _ h9 => h9) rfl dX8_addRod_1 ?_
  refine va_get (D := D) (ci := 5) (v := .ref (a 1)) (C := RX6) (T := TX6) (N := 3) hx hb hts hin_X6 hown hK hP 47 rfl rfl 0 (by decide) hf_1 (fun _ h9 => h9) rfl dX8_addRod_4 ?_
  refine lv_iload_n hx hb dX8_addRod_7 rfl (lv_at hl 1 rfl) ?_
  refine lv_iload_n hx hb dX8_addRod_8 rfl (lv_at hl 2 rfl) ?_
  refine lv_iload_n hx hb dX8_addRod_9 rfl (lv_at hl 3 rfl) ?_
  refine z_callV (C := RX4) (q0 := 0) (ci := 3) (As := [.int (zI k), .int (zI d), .int (zI n)]) (rest := []) (x8W u a r q ++ (svW ct r b nx sz S ++ (sobjW a))) (benchW ct a M ++ (logW ct a M ++ (txtW ct q TX tl pl ft wd n1 n2))) hx hb hml hown hts hl hE hS hA hP hD (c_X4_checkNewRod l D ct ad a M k d n (by assumption) (by omega) (by omega) (by omega)) gX8_addRod_X4_checkNewRod rfl rfl k_X4_checkNewRod ⟨Nat.le_of_ble_eq_true rfl, Nat.le_of_ble_eq_true rfl⟩ rfl rfl rfl rfl (Nat.le_of_ble_eq_true rfl) ⟨Nat.le_of_ble_eq_true rfl, Nat.le_of_ble_eq_true rfl⟩ dX8_addRod_10 rfl (fun v w1 H locs hpost hP hD hS => ?_)
  obtain ⟨rfl, rfl⟩ := hpost
  have hP : va_P D vwCl (x8W u a r q ++ (svW ct r b nx sz S ++ (sobjW a ++ (gridW ct a M ++ (benchW ct a M ++ (logW ct a M ++ (txtW ct q TX tl pl ft wd n1 n2))))))) H := hP
  have hD : va_D A (x8W u a r q ++ (svW ct r b nx sz S ++ (sobjW a ++ (gridW ct a M ++ (benchW ct a M ++ (logW ct a M ++ (txtW ct q TX tl pl ft wd n1 n2))))))) := hD
  refine W.eq (g2 := F0 m 13 ls [.int (zI (ck_rod M k d n))]) rfl ?_
  refine z_callS (As := [.int (zI (ck_rod M k d n))]) (rest := []) ([] : va_W) (x8W u a r q ++ (svW ct r b nx sz S ++ (sobjW a ++ (gridW ct a M ++ (benchW ct a M ++ (logW ct a M ++ (txtW ct q TX tl pl ft wd n1 n2))))))) hx hb hml hown hts hl hE hS hA hP hD (c_X8_refuse l D ct ad (ck_rod M k d n) hok) gX8_addRod_X8_refuse rfl k_X8_refuse ⟨Nat.le_of_ble_eq_true rfl, Nat.le_of_ble_eq_true rfl⟩ rfl (Nat.le_of_ble_eq_true rfl) ⟨Nat.le_of_ble_eq_true rfl, Nat.le_of_ble_eq_true rfl⟩ dX8_addRod_13 rfl (fun v w1 H locs hpost hP hD hS => ?_)
  obtain ⟨rfl, rfl⟩ := hpost
  have hP : va_P D vwCl (x8W u a r q ++ (svW ct r b nx sz S ++ (sobjW a ++ (gridW ct a M ++ (benchW ct a M ++ (logW ct a M ++ (txtW ct q TX tl pl ft wd n1 n2))))))) H := hP
  have hD : va_D A (x8W u a r q ++ (svW ct r b nx sz S ++ (sobjW a ++ (gridW ct a M ++ (benchW ct a M ++ (logW ct a M ++ (txtW ct q TX tl pl ft wd n1 n2))))))) := hD
  refine W.eq (g2 := F0 m 16 ls []) rfl ?_
  refine lv_aload_n hx hb dX8_addRod_16 rfl (lv_at hl 0 rfl) ?_
  refine va_get (D := D) (ci := 6) (v := .ref (r 0)) (C := RX8) (T := TX8) (N := 3) hx hb hts hin_X8 hown hK hP 0 rfl rfl 1 (by decide) hf_2 (fun _ h9 => h9) rfl dX8_addRod_17 ?_
  refine lv_aload_n hx hb dX8_addRod_20 rfl (lv_at hl 0 rfl) ?_
  refine va_get (D := D) (ci := 6) (v := .ref (a 0)) (C := RX8) (T := TX8) (N := 3) hx hb hts hin_X8 hown hK hP 0 rfl rfl 0 (by decide) hf_0 (fun _ h9 => h9) rfl dX8_addRod_21 ?_
  refine z_callV (C := RX5) (q0 := 0) (ci := 4) (As := [.ref (a 0)]) (rest := []) (x8W u a r q) (txtW ct q TX tl pl ft wd n1 n2) hx hb hml hown hts hl hE hS hA hP hD (c_X5_push l D ct ad r a b nx sz S M (by omega) (by omega)) gX8_addRod_X5_push rfl rfl k_X5_push ⟨Nat.le_of_ble_eq_true rfl, Nat.le_of_ble_eq_true rfl⟩ rfl rfl rfl rfl (Nat.le_of_ble_eq_true rfl) ⟨Nat.le_of_ble_eq_true rfl, Nat.le_of_ble_eq_true rfl⟩ dX8_addRod_24 rfl (fun v w1 H locs hpost hP hD hS => ?_)
  obtain ⟨rfl, rfl⟩ := hpost
  have hP : va_P D vwCl (x8W u a r q ++ (svW ct r b ((nx + 1) % 4) (min (sz + 1) 4) (updS S nx M) ++ (sobjW a ++ (gridW ct a M ++ (benchW ct a M ++ (logW ct a M ++ (txtW ct q TX tl pl ft wd n1 n2))))))) H := hP
  have hD : va_D A (x8W u a r q ++ (svW ct r b ((nx + 1) % 4) (min (sz + 1) 4) (updS S nx M) ++ (sobjW a ++ (gridW ct a M ++ (benchW ct a M ++ (logW ct a M ++ (txtW ct q TX tl pl ft wd n1 n2))))))) := hD
  refine W.eq (g2 := F0 m 27 ls []) rfl ?_
  refine lv_aload_n hx hb dX8_addRod_27 rfl (lv_at hl 0 rfl) ?_
  refine va_get (D := D) (ci := 6) (v := .ref (a 0)) (C := RX8) (T := TX8) (N := 3) hx hb hts hin_X8 hown hK hP 0 rfl rfl 0 (by decide) hf_0 (fun _ h9 => h9) rfl dX8_addRod_28 ?_
  refine va_get (D := D) (ci := 5) (v := .ref (a 1)) (C := RX6) (T := TX6) (N := 3) hx hb hts hin_X6 hown hK hP 47 rfl rfl 0 (by decide) hf_1 (fun _ h9 => h9) rfl dX8_addRod_31 ?_
  refine lv_iload_n hx hb dX8_addRod_34 rfl (lv_at hl 1 rfl) ?_
  refine lv_iload_n hx hb dX8_addRod_35 rfl (lv_at hl 2 rfl) ?_
  refine lv_iload_n hx hb dX8_addRod_36 rfl (lv_at hl 3 rfl) ?_
  refine z_callV (C := RX4) (q0 := 0) (ci := 3) (As := [.int (zI k), .int (zI d), .int (zI n)]) (rest := []) (x8W u a r q ++ (svW ct r b ((nx + 1) % 4) (min (sz + 1) 4) (updS S nx M) ++ (sobjW a))) (benchW ct a M ++ (logW ct a M ++ (txtW ct q TX tl pl ft wd n1 n2))) hx hb hml hown hts hl hE hS hA hP hD (c_X4_appendRod l D ct ad a M k d n (by assumption) (by omega)) gX8_addRod_X4_appendRod rfl rfl k_X4_appendRod ⟨Nat.le_of_ble_eq_true rfl, Nat.le_of_ble_eq_true rfl⟩ rfl rfl rfl rfl (Nat.le_of_ble_eq_true rfl) ⟨Nat.le_of_ble_eq_true rfl, Nat.le_of_ble_eq_true rfl⟩ dX8_addRod_37 rfl (fun v w1 H locs hpost hP hD hS => ?_)
  obtain ⟨rfl, rfl⟩ := hpost
  have hP : va_P D vwCl (x8W u a r q ++ (svW ct r b ((nx + 1) % 4) (min (sz + 1) 4) (updS S nx M) ++ (sobjW a ++ (gridW ct a (st_rod M k d n) ++ (benchW ct a M ++ (logW ct a M ++ (txtW ct q TX tl pl ft wd n1 n2))))))) H := hP
  have hD : va_D A (x8W u a r q ++ (svW ct r b ((nx + 1) % 4) (min (sz + 1) 4) (updS S nx M) ++ (sobjW a ++ (gridW ct a (st_rod M k d n) ++ (benchW ct a M ++ (logW ct a M ++ (txtW ct q TX tl pl ft wd n1 n2))))))) := hD
  have hP : va_P D vwCl (x8W u a r q ++ (svW ct r b ((nx + 1) % 4) (min (sz + 1) 4) (updS S nx M) ++ (sobjW a ++ (gridW ct a (st_rod M k d n) ++ (benchW ct a (st_rod M k d n) ++ (logW ct a (st_rod M k d n) ++ (txtW ct q TX tl pl ft wd n1 n2))))))) H := by rw [benchW_ag (M := M) (N := (st_rod M k d n)) (fun j hj => rod_n (by omega) (by omega) (by omega)), logW_ag (M := M) (N := (st_rod M k d n)) (fun j hj => rod_n (by omega) (by omega) (by omega))]; exact hP
  have hD : va_D A (x8W u a r q ++ (svW ct r b ((nx + 1) % 4) (min (sz + 1) 4) (updS S nx M) ++ (sobjW a ++ (gridW ct a (st_rod M k d n) ++ (benchW ct a (st_rod M k d n) ++ (logW ct a (st_rod M k d n) ++ (txtW ct q TX tl pl ft wd n1 n2))))))) := by rw [benchW_ag (M := M) (N := (st_rod M k d n)) (fun j hj => rod_n (by omega) (by omega) (by omega)), logW_ag (M := M) (N := (st_rod M k d n)) (fun j hj => rod_n (by omega) (by omega) (by omega))]; exact hD
  refine W.eq (g2 := F0 m 40 ls [.int (zI (M 4))]) rfl ?_
  exact z_iret hx hb hr hlocks hP hD hS ⟨Nat.le_of_ble_eq_true rfl, Nat.le_of_ble_eq_true rfl⟩ dX8_addRod_40 (⟨congrArg (fun z => some (Value.int (zI z))) (rfl), rfl⟩)
theorem k_X4_checkRod : yX4_checkRod.cls ≠ "java/lang/invoke/MethodHandle" ∧ yX4_checkRod.cls ≠ "java/lang/invoke/VarHandle" ∧ (parseMethodDescriptor yX4_checkRod.desc).map (fun d => d.parameters.length) = some 1 := by decide +kernel
theorem k_X4_dropRod : yX4_dropRod.cls ≠ "java/lang/invoke/MethodHandle" ∧ yX4_dropRod.cls ≠ "java/lang/invoke/VarHandle" ∧ (parseMethodDescriptor yX4_dropRod.desc).map (fun d => d.parameters.length) = some 1 := by decide +kernel
set_option maxHeartbeats 4000000 in
set_option maxRecDepth 100000 in
theorem c_X8_removeRod (l : Launch) (D : va_G) (ct ad : Nat → Nat) (u : Nat) (a r q : Nat → Nat) (b : Nat → Nat → Nat) (nx sz : Int) (S : Nat → Int → Int) (M TX : Int → Int) (tl pl ft n1 n2 : Int) (wd : Value) (k : Int) (hs : sInv M) (hn : 0 ≤ nx ∧ nx ≤ 3) (hsz : 0 ≤ sz ∧ sz ≤ 4) (h1 : -2147483648 ≤ k ∧ k ≤ 2147483647) (hok : 0 ≤ k ∧ k < M 4) : ZM l yX8_removeRod wsX8_removeRod ({ frames := 4, cells := 0, slots := 0, locals := 82 } : Room) D ct ad [.ref u, .int (zI k)] (x8W u a r q ++ (svW ct r b nx sz S ++ (sobjW a ++ (gridW ct a M ++ (benchW ct a M ++ (logW ct a M ++ (txtW ct q TX tl pl ft wd n1 n2))))))) (zD (some (.int (zI (M 4 - 1)))) (x8W u a r q ++ (svW ct r b ((nx + 1) % 4) (min (sz + 1) 4) (updS S nx M) ++ (sobjW a ++ (gridW ct a (st_drop M k) ++ (benchW ct a (st_drop M k) ++ (logW ct a (st_drop M k) ++ (txtW ct q TX tl pl ft wd n1 n2)))))))) := by
  refine ZM.of (cc := cX8_removeRod) (maxL := 2) (ret := (some .int)) (by decide +kernel) rfl (Nat.le_of_ble_eq_true rfl) ?_
  intro p e s m below meth c A ls hx hb hr hts hown hlocks hml hname hE hP hD hA hS hl
  have hK := hE.1
  have hf_0 := hts (.fieldLink RX8 10 "RodGrids" "state" "LRodGrids$State;") (by decide +kernel)
  have hf_1 := hts (.fieldLink RX8 30 "RodGrids$State" "grid" "LRodGrids$Grid;") (by decide +kernel)
  have hf_2 := hts (.fieldLink RX8 19 "RodGrids" "saved" "LRodGrids$SavedStates;") (by decide +kernel)
  have hin_X6 : ∀ z ∈ u_ws RX6 TX6 3, z ∈ wsX8_removeRod := by decide +kernel
  have hin_X8 : ∀ z ∈ u_ws RX8 TX8 3, z ∈ wsX8_removeRod := by decide +kernel
  have hl : lv_has ls 2 [(0, .ref u), (1, .int (zI k))] := hl
  have hI := hs.1
  have hB := hs.2.1
  have ha := hs.2.2
  have i3 := hI.1
  have i4 := hI.2.1
  have j0 := hB.1
  have j1 := hB.2.1
  have j2 := hB.2.2.1
  have j4 := hB.2.2.2.2
  refine lv_aload_n hx hb dX8_removeRod_0 rfl (lv_at hl 0 rfl) ?_
  refine va_get (D := D) (ci := 6) (v := .ref (a 0)) (C := RX8) (T := TX8) (N := 3) hx hb hts hin_X8 hown hK hP 0 rfl rfl 0 (by decide) hf_0 (fun _ h9 => h9) rfl dX8_removeRod_1 ?_
  refine va_get (D := D) (ci := 5) (v := .ref (a 1)) (C := RX6) (T := TX6) (N := 3) hx hb hts hin_X6 hown hK hP 47 rfl rfl 0 (by decide) hf_1 (fun _ h9 => h9) rfl dX8_removeRod_4 ?_
  refine lv_iload_n hx hb dX8_removeRod_7 rfl (lv_at hl 1 rfl) ?_
  refine z_callV (C := RX4) (q0 := 0) (ci := 3) (As := [.int (zI k)]) (rest := []) (x8W u a r q ++ (svW ct r b nx sz S ++ (sobjW a))) (benchW ct a M ++ (logW ct a M ++ (txtW ct q TX tl pl ft wd n1 n2))) hx hb hml hown hts hl hE hS hA hP hD (c_X4_checkRod l D ct ad a M k (by assumption) (by omega)) gX8_removeRod_X4_checkRod rfl rfl k_X4_checkRod ⟨Nat.le_of_ble_eq_true rfl, Nat.le_of_ble_eq_true rfl⟩ rfl rfl rfl rfl (Nat.le_of_ble_eq_true rfl) ⟨Nat.le_of_ble_eq_true rfl, Nat.le_of_ble_eq_true rfl⟩ dX8_removeRod_8 rfl (fun v w1 H locs hpost hP hD hS => ?_)
  obtain ⟨rfl, rfl⟩ := hpost
  have hP : va_P D vwCl (x8W u a r q ++ (svW ct r b nx sz S ++ (sobjW a ++ (gridW ct a M ++ (benchW ct a M ++ (logW ct a M ++ (txtW ct q TX tl pl ft wd n1 n2))))))) H := hP
  have hD : va_D A (x8W u a r q ++ (svW ct r b nx sz S ++ (sobjW a ++ (gridW ct a M ++ (benchW ct a M ++ (logW ct a M ++ (txtW ct q TX tl pl ft wd n1 n2))))))) := hD
  refine W.eq (g2 := F0 m 11 ls [.int (zI (if 0 ≤ k ∧ k < M 4 then 0 else 1))]) rfl ?_
  refine z_callS (As := [.int (zI (if 0 ≤ k ∧ k < M 4 then 0 else 1))]) (rest := []) ([] : va_W) (x8W u a r q ++ (svW ct r b nx sz S ++ (sobjW a ++ (gridW ct a M ++ (benchW ct a M ++ (logW ct a M ++ (txtW ct q TX tl pl ft wd n1 n2))))))) hx hb hml hown hts hl hE hS hA hP hD (c_X8_refuse l D ct ad (if 0 ≤ k ∧ k < M 4 then 0 else 1) (if_pos hok)) gX8_removeRod_X8_refuse rfl k_X8_refuse ⟨Nat.le_of_ble_eq_true rfl, Nat.le_of_ble_eq_true rfl⟩ rfl (Nat.le_of_ble_eq_true rfl) ⟨Nat.le_of_ble_eq_true rfl, Nat.le_of_ble_eq_true rfl⟩ dX8_removeRod_11 rfl (fun v w1 H locs hpost hP hD hS => ?_)
  obtain ⟨rfl, rfl⟩ := hpost
  have hP : va_P D vwCl (x8W u a r q ++ (svW ct r b nx sz S ++ (sobjW a ++ (gridW ct a M ++ (benchW ct a M ++ (logW ct a M ++ (txtW ct q TX tl pl ft wd n1 n2))))))) H := hP
  have hD : va_D A (x8W u a r q ++ (svW ct r b nx sz S ++ (sobjW a ++ (gridW ct a M ++ (benchW ct a M ++ (logW ct a M ++ (txtW ct q TX tl pl ft wd n1 n2))))))) := hD
  refine W.eq (g2 := F0 m 14 ls []) rfl ?_
  refine lv_aload_n hx hb dX8_removeRod_14 rfl (lv_at hl 0 rfl) ?_
  refine va_get (D := D) (ci := 6) (v := .ref (r 0)) (C := RX8) (T := TX8) (N := 3) hx hb hts hin_X8 hown hK hP 0 rfl rfl 1 (by decide) hf_2 (fun _ h9 => h9) rfl dX8_removeRod_15 ?_
  refine lv_aload_n hx hb dX8_removeRod_18 rfl (lv_at hl 0 rfl) ?_
  refine va_get (D := D) (ci := 6) (v := .ref (a 0)) (C := RX8) (T := TX8) (N := 3) hx hb hts hin_X8 hown hK hP 0 rfl rfl 0 (by decide) hf_0 (fun _ h9 => h9) rfl dX8_removeRod_19 ?_
  refine z_callV (C := RX5) (q0 := 0) (ci := 4) (As := [.ref (a 0)]) (rest := []) (x8W u a r q) (txtW ct q TX tl pl ft wd n1 n2) hx hb hml hown hts hl hE hS hA hP hD (c_X5_push l D ct ad r a b nx sz S M (by omega) (by omega)) gX8_removeRod_X5_push rfl rfl k_X5_push ⟨Nat.le_of_ble_eq_true rfl, Nat.le_of_ble_eq_true rfl⟩ rfl rfl rfl rfl (Nat.le_of_ble_eq_true rfl) ⟨Nat.le_of_ble_eq_true rfl, Nat.le_of_ble_eq_true rfl⟩ dX8_removeRod_22 rfl (fun v w1 H locs hpost hP hD hS => ?_)
  obtain ⟨rfl, rfl⟩ := hpost
  have hP : va_P D vwCl (x8W u a r q ++ (svW ct r b ((nx + 1) % 4) (min (sz + 1) 4) (updS S nx M) ++ (sobjW a ++ (gridW ct a M ++ (benchW ct a M ++ (logW ct a M ++ (txtW ct q TX tl pl ft wd n1 n2))))))) H := hP
  have hD : va_D A (x8W u a r q ++ (svW ct r b ((nx + 1) % 4) (min (sz + 1) 4) (updS S nx M) ++ (sobjW a ++ (gridW ct a M ++ (benchW ct a M ++ (logW ct a M ++ (txtW ct q TX tl pl ft wd n1 n2))))))) := hD
  refine W.eq (g2 := F0 m 25 ls []) rfl ?_
  refine lv_aload_n hx hb dX8_removeRod_25 rfl (lv_at hl 0 rfl) ?_
  refine va_get (D := D) (ci := 6) (v := .ref (a 0)) (C := RX8) (T := TX8) (N := 3) hx hb hts hin_X8 hown hK hP 0 rfl rfl 0 (by decide) hf_0 (fun _ h9 => h9) rfl dX8_removeRod_26 ?_
  refine va_get (D := D) (ci := 5) (v := .ref (a 1)) (C := RX6) (T := TX6) (N := 3) hx hb hts hin_X6 hown hK hP 47 rfl rfl 0 (by decide) hf_1 (fun _ h9 => h9) rfl dX8_removeRod_29 ?_
  refine lv_iload_n hx hb dX8_removeRod_32 rfl (lv_at hl 1 rfl) ?_
  refine z_callV (C := RX4) (q0 := 0) (ci := 3) (As := [.int (zI k)]) (rest := []) (x8W u a r q ++ (svW ct r b ((nx + 1) % 4) (min (sz + 1) 4) (updS S nx M) ++ (sobjW a))) (benchW ct a M ++ (logW ct a M ++ (txtW ct q TX tl pl ft wd n1 n2))) hx hb hml hown hts hl hE hS hA hP hD (c_X4_dropRod l D ct ad a M k (by assumption) (by omega)) gX8_removeRod_X4_dropRod rfl rfl k_X4_dropRod ⟨Nat.le_of_ble_eq_true rfl, Nat.le_of_ble_eq_true rfl⟩ rfl rfl rfl rfl (Nat.le_of_ble_eq_true rfl) ⟨Nat.le_of_ble_eq_true rfl, Nat.le_of_ble_eq_true rfl⟩ dX8_removeRod_33 rfl (fun v w1 H locs hpost hP hD hS => ?_)
  obtain ⟨rfl, rfl⟩ := hpost
  have hP : va_P D vwCl (x8W u a r q ++ (svW ct r b ((nx + 1) % 4) (min (sz + 1) 4) (updS S nx M) ++ (sobjW a ++ (gridW ct a (st_drop M k) ++ (benchW ct a M ++ (logW ct a M ++ (txtW ct q TX tl pl ft wd n1 n2))))))) H := hP
  have hD : va_D A (x8W u a r q ++ (svW ct r b ((nx + 1) % 4) (min (sz + 1) 4) (updS S nx M) ++ (sobjW a ++ (gridW ct a (st_drop M k) ++ (benchW ct a M ++ (logW ct a M ++ (txtW ct q TX tl pl ft wd n1 n2))))))) := hD
  have hP : va_P D vwCl (x8W u a r q ++ (svW ct r b ((nx + 1) % 4) (min (sz + 1) 4) (updS S nx M) ++ (sobjW a ++ (gridW ct a (st_drop M k) ++ (benchW ct a (st_drop M k) ++ (logW ct a (st_drop M k) ++ (txtW ct q TX tl pl ft wd n1 n2))))))) H := by rw [benchW_ag (M := M) (N := (st_drop M k)) (fun j hj => drop_n (by omega) (by omega) (by omega) (by omega)), logW_ag (M := M) (N := (st_drop M k)) (fun j hj => drop_n (by omega) (by omega) (by omega) (by omega))]; exact hP
  have hD : va_D A (x8W u a r q ++ (svW ct r b ((nx + 1) % 4) (min (sz + 1) 4) (updS S nx M) ++ (sobjW a ++ (gridW ct a (st_drop M k) ++ (benchW ct a (st_drop M k) ++ (logW ct a (st_drop M k) ++ (txtW ct q TX tl pl ft wd n1 n2))))))) := by rw [benchW_ag (M := M) (N := (st_drop M k)) (fun j hj => drop_n (by omega) (by omega) (by omega) (by omega)), logW_ag (M := M) (N := (st_drop M k)) (fun j hj => drop_n (by omega) (by omega) (by omega) (by omega))]; exact hD
  refine W.eq (g2 := F0 m 36 ls [.int (zI (M 4 - 1))]) rfl ?_
  exact z_iret hx hb hr hlocks hP hD hS ⟨Nat.le_of_ble_eq_true rfl, Nat.le_of_ble_eq_true rfl⟩ dX8_removeRod_36 (⟨congrArg (fun z => some (Value.int (zI z))) (rfl), rfl⟩)
set_option maxHeartbeats 4000000 in
set_option maxRecDepth 100000 in
theorem c_X8_setLength (l : Launch) (D : va_G) (ct ad : Nat → Nat) (u : Nat) (a r q : Nat → Nat) (b : Nat → Nat → Nat) (nx sz : Int) (S : Nat → Int → Int) (M TX : Int → Int) (tl pl ft n1 n2 : Int) (wd : Value) (k n : Int) (hs : sInv M) (hn : 0 ≤ nx ∧ nx ≤ 3) (hsz : 0 ≤ sz ∧ sz ≤ 4) (h1 : -2147483648 ≤ k ∧ k ≤ 2147483647) (h2 : -2147483648 ≤ n ∧ n ≤ 2147483647) (hok : ck_length M k n = 0) : ZM l yX8_setLength wsX8_setLength ({ frames := 4, cells := 0, slots := 0, locals := 82 } : Room) D ct ad [.ref u, .int (zI k), .int (zI n)] (x8W u a r q ++ (svW ct r b nx sz S ++ (sobjW a ++ (gridW ct a M ++ (benchW ct a M ++ (logW ct a M ++ (txtW ct q TX tl pl ft wd n1 n2))))))) (zD (some (.int (zI (M (24 + 3 * k))))) (x8W u a r q ++ (svW ct r b ((nx + 1) % 4) (min (sz + 1) 4) (updS S nx M) ++ (sobjW a ++ (gridW ct a (up M (24 + 3 * k) n) ++ (benchW ct a (up M (24 + 3 * k) n) ++ (logW ct a (up M (24 + 3 * k) n) ++ (txtW ct q TX tl pl ft wd n1 n2)))))))) := by
  refine ZM.of (cc := cX8_setLength) (maxL := 3) (ret := (some .int)) (by decide +kernel) rfl (Nat.le_of_ble_eq_true rfl) ?_
  intro p e s m below meth c A ls hx hb hr hts hown hlocks hml hname hE hP hD hA hS hl
  have hK := hE.1
  have hf_0 := hts (.fieldLink RX8 10 "RodGrids" "state" "LRodGrids$State;") (by decide +kernel)
  have hf_1 := hts (.fieldLink RX8 30 "RodGrids$State" "grid" "LRodGrids$Grid;") (by decide +kernel)
  have hf_2 := hts (.fieldLink RX8 19 "RodGrids" "saved" "LRodGrids$SavedStates;") (by decide +kernel)
  have hin_X6 : ∀ z ∈ u_ws RX6 TX6 3, z ∈ wsX8_setLength := by decide +kernel
  have hin_X8 : ∀ z ∈ u_ws RX8 TX8 3, z ∈ wsX8_setLength := by decide +kernel
  have hl : lv_has ls 3 [(0, .ref u), (1, .int (zI k)), (2, .int (zI n))] := hl
  have hI := hs.1
  have hB := hs.2.1
  have ha := hs.2.2
  have i3 := hI.1
  have i4 := hI.2.1
  have j0 := hB.1
  have j1 := hB.2.1
  have j2 := hB.2.2.1
  have j4 := hB.2.2.2.2
  have okf : 0 ≤ k ∧ k < M 4 := by have q9 := hok; unfold ck_length at q9; (repeat' split at q9) <;> omega
  refine lv_aload_n hx hb dX8_setLength_0 rfl (lv_at hl 0 rfl) ?_
  refine va_get (D := D) (ci := 6) (v := .ref (a 0)) (C := RX8) (T := TX8) (N := 3) hx hb hts hin_X8 hown hK hP 0 rfl rfl 0 (by decide) hf_0 (fun _ h9 => h9) rfl dX8_setLength_1 ?_
  refine va_get (D := D) (ci := 5) (v := .ref (a 1)) (C := RX6) (T := TX6) (N := 3) hx hb hts hin_X6 hown hK hP 47 rfl rfl 0 (by decide) hf_1 (fun _ h9 => h9) rfl dX8_setLength_4 ?_
  refine lv_iload_n hx hb dX8_setLength_7 rfl (lv_at hl 1 rfl) ?_
  refine lv_iload_n hx hb dX8_setLength_8 rfl (lv_at hl 2 rfl) ?_
  refine z_callV (C := RX4) (q0 := 0) (ci := 3) (As := [.int (zI k), .int (zI n)]) (rest := []) (x8W u a r q ++ (svW ct r b nx sz S ++ (sobjW a))) (benchW ct a M ++ (logW ct a M ++ (txtW ct q TX tl pl ft wd n1 n2))) hx hb hml hown hts hl hE hS hA hP hD (c_X4_checkLength l D ct ad a M k n (by assumption) (by omega) (by omega)) gX8_setLength_X4_checkLength rfl rfl k_X4_checkLength ⟨Nat.le_of_ble_eq_true rfl, Nat.le_of_ble_eq_true rfl⟩ rfl rfl rfl rfl (Nat.le_of_ble_eq_true rfl) ⟨Nat.le_of_ble_eq_true rfl, Nat.le_of_ble_eq_true rfl⟩ dX8_setLength_9 rfl (fun v w1 H locs hpost hP hD hS => ?_)
  obtain ⟨rfl, rfl⟩ := hpost
  have hP : va_P D vwCl (x8W u a r q ++ (svW ct r b nx sz S ++ (sobjW a ++ (gridW ct a M ++ (benchW ct a M ++ (logW ct a M ++ (txtW ct q TX tl pl ft wd n1 n2))))))) H := hP
  have hD : va_D A (x8W u a r q ++ (svW ct r b nx sz S ++ (sobjW a ++ (gridW ct a M ++ (benchW ct a M ++ (logW ct a M ++ (txtW ct q TX tl pl ft wd n1 n2))))))) := hD
  refine W.eq (g2 := F0 m 12 ls [.int (zI (ck_length M k n))]) rfl ?_
  refine z_callS (As := [.int (zI (ck_length M k n))]) (rest := []) ([] : va_W) (x8W u a r q ++ (svW ct r b nx sz S ++ (sobjW a ++ (gridW ct a M ++ (benchW ct a M ++ (logW ct a M ++ (txtW ct q TX tl pl ft wd n1 n2))))))) hx hb hml hown hts hl hE hS hA hP hD (c_X8_refuse l D ct ad (ck_length M k n) hok) gX8_setLength_X8_refuse rfl k_X8_refuse ⟨Nat.le_of_ble_eq_true rfl, Nat.le_of_ble_eq_true rfl⟩ rfl (Nat.le_of_ble_eq_true rfl) ⟨Nat.le_of_ble_eq_true rfl, Nat.le_of_ble_eq_true rfl⟩ dX8_setLength_12 rfl (fun v w1 H locs hpost hP hD hS => ?_)
  obtain ⟨rfl, rfl⟩ := hpost
  have hP : va_P D vwCl (x8W u a r q ++ (svW ct r b nx sz S ++ (sobjW a ++ (gridW ct a M ++ (benchW ct a M ++ (logW ct a M ++ (txtW ct q TX tl pl ft wd n1 n2))))))) H := hP
  have hD : va_D A (x8W u a r q ++ (svW ct r b nx sz S ++ (sobjW a ++ (gridW ct a M ++ (benchW ct a M ++ (logW ct a M ++ (txtW ct q TX tl pl ft wd n1 n2))))))) := hD
  refine W.eq (g2 := F0 m 15 ls []) rfl ?_
  refine lv_aload_n hx hb dX8_setLength_15 rfl (lv_at hl 0 rfl) ?_
  refine va_get (D := D) (ci := 6) (v := .ref (r 0)) (C := RX8) (T := TX8) (N := 3) hx hb hts hin_X8 hown hK hP 0 rfl rfl 1 (by decide) hf_2 (fun _ h9 => h9) rfl dX8_setLength_16 ?_
  refine lv_aload_n hx hb dX8_setLength_19 rfl (lv_at hl 0 rfl) ?_
  refine va_get (D := D) (ci := 6) (v := .ref (a 0)) (C := RX8) (T := TX8) (N := 3) hx hb hts hin_X8 hown hK hP 0 rfl rfl 0 (by decide) hf_0 (fun _ h9 => h9) rfl dX8_setLength_20 ?_
  refine z_callV (C := RX5) (q0 := 0) (ci := 4) (As := [.ref (a 0)]) (rest := []) (x8W u a r q) (txtW ct q TX tl pl ft wd n1 n2) hx hb hml hown hts hl hE hS hA hP hD (c_X5_push l D ct ad r a b nx sz S M (by omega) (by omega)) gX8_setLength_X5_push rfl rfl k_X5_push ⟨Nat.le_of_ble_eq_true rfl, Nat.le_of_ble_eq_true rfl⟩ rfl rfl rfl rfl (Nat.le_of_ble_eq_true rfl) ⟨Nat.le_of_ble_eq_true rfl, Nat.le_of_ble_eq_true rfl⟩ dX8_setLength_23 rfl (fun v w1 H locs hpost hP hD hS => ?_)
  obtain ⟨rfl, rfl⟩ := hpost
  have hP : va_P D vwCl (x8W u a r q ++ (svW ct r b ((nx + 1) % 4) (min (sz + 1) 4) (updS S nx M) ++ (sobjW a ++ (gridW ct a M ++ (benchW ct a M ++ (logW ct a M ++ (txtW ct q TX tl pl ft wd n1 n2))))))) H := hP
  have hD : va_D A (x8W u a r q ++ (svW ct r b ((nx + 1) % 4) (min (sz + 1) 4) (updS S nx M) ++ (sobjW a ++ (gridW ct a M ++ (benchW ct a M ++ (logW ct a M ++ (txtW ct q TX tl pl ft wd n1 n2))))))) := hD
  refine W.eq (g2 := F0 m 26 ls []) rfl ?_
  refine lv_aload_n hx hb dX8_setLength_26 rfl (lv_at hl 0 rfl) ?_
  refine va_get (D := D) (ci := 6) (v := .ref (a 0)) (C := RX8) (T := TX8) (N := 3) hx hb hts hin_X8 hown hK hP 0 rfl rfl 0 (by decide) hf_0 (fun _ h9 => h9) rfl dX8_setLength_27 ?_
  refine va_get (D := D) (ci := 5) (v := .ref (a 1)) (C := RX6) (T := TX6) (N := 3) hx hb hts hin_X6 hown hK hP 47 rfl rfl 0 (by decide) hf_1 (fun _ h9 => h9) rfl dX8_setLength_30 ?_
  refine lv_iload_n hx hb dX8_setLength_33 rfl (lv_at hl 1 rfl) ?_
  refine lv_iload_n hx hb dX8_setLength_34 rfl (lv_at hl 2 rfl) ?_
  refine z_callV (C := RX4) (q0 := 0) (ci := 3) (As := [.int (zI k), .int (zI n)]) (rest := []) (x8W u a r q ++ (svW ct r b ((nx + 1) % 4) (min (sz + 1) 4) (updS S nx M) ++ (sobjW a))) (benchW ct a M ++ (logW ct a M ++ (txtW ct q TX tl pl ft wd n1 n2))) hx hb hml hown hts hl hE hS hA hP hD (c_X4_changeLength l D ct ad a M k n (by assumption) (by omega)) gX8_setLength_X4_changeLength rfl rfl k_X4_changeLength ⟨Nat.le_of_ble_eq_true rfl, Nat.le_of_ble_eq_true rfl⟩ rfl rfl rfl rfl (Nat.le_of_ble_eq_true rfl) ⟨Nat.le_of_ble_eq_true rfl, Nat.le_of_ble_eq_true rfl⟩ dX8_setLength_35 rfl (fun v w1 H locs hpost hP hD hS => ?_)
  obtain ⟨rfl, rfl⟩ := hpost
  have hP : va_P D vwCl (x8W u a r q ++ (svW ct r b ((nx + 1) % 4) (min (sz + 1) 4) (updS S nx M) ++ (sobjW a ++ (gridW ct a (up M (24 + 3 * k) n) ++ (benchW ct a M ++ (logW ct a M ++ (txtW ct q TX tl pl ft wd n1 n2))))))) H := hP
  have hD : va_D A (x8W u a r q ++ (svW ct r b ((nx + 1) % 4) (min (sz + 1) 4) (updS S nx M) ++ (sobjW a ++ (gridW ct a (up M (24 + 3 * k) n) ++ (benchW ct a M ++ (logW ct a M ++ (txtW ct q TX tl pl ft wd n1 n2))))))) := hD
  have hP : va_P D vwCl (x8W u a r q ++ (svW ct r b ((nx + 1) % 4) (min (sz + 1) 4) (updS S nx M) ++ (sobjW a ++ (gridW ct a (up M (24 + 3 * k) n) ++ (benchW ct a (up M (24 + 3 * k) n) ++ (logW ct a (up M (24 + 3 * k) n) ++ (txtW ct q TX tl pl ft wd n1 n2))))))) H := by rw [benchW_ag (M := M) (N := (up M (24 + 3 * k) n)) (fun j hj => up_n (by omega)), logW_ag (M := M) (N := (up M (24 + 3 * k) n)) (fun j hj => up_n (by omega))]; exact hP
  have hD : va_D A (x8W u a r q ++ (svW ct r b ((nx + 1) % 4) (min (sz + 1) 4) (updS S nx M) ++ (sobjW a ++ (gridW ct a (up M (24 + 3 * k) n) ++ (benchW ct a (up M (24 + 3 * k) n) ++ (logW ct a (up M (24 + 3 * k) n) ++ (txtW ct q TX tl pl ft wd n1 n2))))))) := by rw [benchW_ag (M := M) (N := (up M (24 + 3 * k) n)) (fun j hj => up_n (by omega)), logW_ag (M := M) (N := (up M (24 + 3 * k) n)) (fun j hj => up_n (by omega))]; exact hD
  refine W.eq (g2 := F0 m 38 ls [.int (zI (M (24 + 3 * k)))]) rfl ?_
  exact z_iret hx hb hr hlocks hP hD hS ⟨Nat.le_of_ble_eq_true rfl, Nat.le_of_ble_eq_true rfl⟩ dX8_setLength_38 (⟨congrArg (fun z => some (Value.int (zI z))) (rfl), rfl⟩)
set_option maxHeartbeats 4000000 in
set_option maxRecDepth 100000 in
theorem c_X8_setShelf (l : Launch) (D : va_G) (ct ad : Nat → Nat) (u : Nat) (a r q : Nat → Nat) (b : Nat → Nat → Nat) (nx sz : Int) (S : Nat → Int → Int) (M TX : Int → Int) (tl pl ft n1 n2 : Int) (wd : Value) (k v : Int) (hs : sInv M) (hn : 0 ≤ nx ∧ nx ≤ 3) (hsz : 0 ≤ sz ∧ sz ≤ 4) (h1 : -2147483648 ≤ k ∧ k ≤ 2147483647) (h2 : -2147483648 ≤ v ∧ v ≤ 2147483647) (hok : ck_warm k v = 0) : ZM l yX8_setShelf wsX8_setShelf ({ frames := 4, cells := 0, slots := 0, locals := 82 } : Room) D ct ad [.ref u, .int (zI k), .int (zI v)] (x8W u a r q ++ (svW ct r b nx sz S ++ (sobjW a ++ (gridW ct a M ++ (benchW ct a M ++ (logW ct a M ++ (txtW ct q TX tl pl ft wd n1 n2))))))) (zD (some (.int (zI (M (49 + k))))) (x8W u a r q ++ (svW ct r b ((nx + 1) % 4) (min (sz + 1) 4) (updS S nx M) ++ (sobjW a ++ (gridW ct a (up M (49 + k) v) ++ (benchW ct a (up M (49 + k) v) ++ (logW ct a (up M (49 + k) v) ++ (txtW ct q TX tl pl ft wd n1 n2)))))))) := by
  refine ZM.of (cc := cX8_setShelf) (maxL := 3) (ret := (some .int)) (by decide +kernel) rfl (Nat.le_of_ble_eq_true rfl) ?_
  intro p e s m below meth c A ls hx hb hr hts hown hlocks hml hname hE hP hD hA hS hl
  have hK := hE.1
  have hf_0 := hts (.fieldLink RX8 10 "RodGrids" "state" "LRodGrids$State;") (by decide +kernel)
  have hf_1 := hts (.fieldLink RX8 77 "RodGrids$State" "bench" "LRodGrids$Bench;") (by decide +kernel)
  have hf_2 := hts (.fieldLink RX8 19 "RodGrids" "saved" "LRodGrids$SavedStates;") (by decide +kernel)
  have hin_X6 : ∀ z ∈ u_ws RX6 TX6 3, z ∈ wsX8_setShelf := by decide +kernel
  have hin_X8 : ∀ z ∈ u_ws RX8 TX8 3, z ∈ wsX8_setShelf := by decide +kernel
  have hl : lv_has ls 3 [(0, .ref u), (1, .int (zI k)), (2, .int (zI v))] := hl
  have hI := hs.1
  have hB := hs.2.1
  have ha := hs.2.2
  have i3 := hI.1
  have i4 := hI.2.1
  have j0 := hB.1
  have j1 := hB.2.1
  have j2 := hB.2.2.1
  have j4 := hB.2.2.2.2
  have okf : 0 ≤ k ∧ k ≤ 4 := by have q9 := hok; unfold ck_warm at q9; (repeat' split at q9) <;> omega
  refine lv_aload_n hx hb dX8_setShelf_0 rfl (lv_at hl 0 rfl) ?_
  refine va_get (D := D) (ci := 6) (v := .ref (a 0)) (C := RX8) (T := TX8) (N := 3) hx hb hts hin_X8 hown hK hP 0 rfl rfl 0 (by decide) hf_0 (fun _ h9 => h9) rfl dX8_setShelf_1 ?_
  refine va_get (D := D) (ci := 5) (v := .ref (a 6)) (C := RX6) (T := TX6) (N := 3) hx hb hts hin_X6 hown hK hP 47 rfl rfl 1 (by decide) hf_1 (fun _ h9 => h9) rfl dX8_setShelf_4 ?_
  refine lv_iload_n hx hb dX8_setShelf_7 rfl (lv_at hl 1 rfl) ?_
  refine lv_iload_n hx hb dX8_setShelf_8 rfl (lv_at hl 2 rfl) ?_
  refine z_callV (C := RX1) (q0 := 0) (ci := 0) (As := [.int (zI k), .int (zI v)]) (rest := []) (x8W u a r q ++ (svW ct r b nx sz S ++ (sobjW a ++ (gridW ct a M)))) (logW ct a M ++ (txtW ct q TX tl pl ft wd n1 n2)) hx hb hml hown hts hl hE hS hA hP hD (c_X1_checkShelfWarmth l D ct ad a M k v (by omega) (by omega)) gX8_setShelf_X1_checkShelfWarmth rfl rfl k_X1_checkShelfWarmth ⟨Nat.le_of_ble_eq_true rfl, Nat.le_of_ble_eq_true rfl⟩ rfl rfl rfl rfl (Nat.le_of_ble_eq_true rfl) ⟨Nat.le_of_ble_eq_true rfl, Nat.le_of_ble_eq_true rfl⟩ dX8_setShelf_9 rfl (fun v w1 H locs hpost hP hD hS => ?_)
  obtain ⟨rfl, rfl⟩ := hpost
  have hP : va_P D vwCl (x8W u a r q ++ (svW ct r b nx sz S ++ (sobjW a ++ (gridW ct a M ++ (benchW ct a M ++ (logW ct a M ++ (txtW ct q TX tl pl ft wd n1 n2))))))) H := hP
  have hD : va_D A (x8W u a r q ++ (svW ct r b nx sz S ++ (sobjW a ++ (gridW ct a M ++ (benchW ct a M ++ (logW ct a M ++ (txtW ct q TX tl pl ft wd n1 n2))))))) := hD
  refine W.eq (g2 := F0 m 12 ls [.int (zI (ck_warm k v))]) rfl ?_
  refine z_callS (As := [.int (zI (ck_warm k v))]) (rest := []) ([] : va_W) (x8W u a r q ++ (svW ct r b nx sz S ++ (sobjW a ++ (gridW ct a M ++ (benchW ct a M ++ (logW ct a M ++ (txtW ct q TX tl pl ft wd n1 n2))))))) hx hb hml hown hts hl hE hS hA hP hD (c_X8_refuse l D ct ad (ck_warm k v) hok) gX8_setShelf_X8_refuse rfl k_X8_refuse ⟨Nat.le_of_ble_eq_true rfl, Nat.le_of_ble_eq_true rfl⟩ rfl (Nat.le_of_ble_eq_true rfl) ⟨Nat.le_of_ble_eq_true rfl, Nat.le_of_ble_eq_true rfl⟩ dX8_setShelf_12 rfl (fun v w1 H locs hpost hP hD hS => ?_)
  obtain ⟨rfl, rfl⟩ := hpost
  have hP : va_P D vwCl (x8W u a r q ++ (svW ct r b nx sz S ++ (sobjW a ++ (gridW ct a M ++ (benchW ct a M ++ (logW ct a M ++ (txtW ct q TX tl pl ft wd n1 n2))))))) H := hP
  have hD : va_D A (x8W u a r q ++ (svW ct r b nx sz S ++ (sobjW a ++ (gridW ct a M ++ (benchW ct a M ++ (logW ct a M ++ (txtW ct q TX tl pl ft wd n1 n2))))))) := hD
  refine W.eq (g2 := F0 m 15 ls []) rfl ?_
  refine lv_aload_n hx hb dX8_setShelf_15 rfl (lv_at hl 0 rfl) ?_
  refine va_get (D := D) (ci := 6) (v := .ref (r 0)) (C := RX8) (T := TX8) (N := 3) hx hb hts hin_X8 hown hK hP 0 rfl rfl 1 (by decide) hf_2 (fun _ h9 => h9) rfl dX8_setShelf_16 ?_
  refine lv_aload_n hx hb dX8_setShelf_19 rfl (lv_at hl 0 rfl) ?_
  refine va_get (D := D) (ci := 6) (v := .ref (a 0)) (C := RX8) (T := TX8) (N := 3) hx hb hts hin_X8 hown hK hP 0 rfl rfl 0 (by decide) hf_0 (fun _ h9 => h9) rfl dX8_setShelf_20 ?_
  refine z_callV (C := RX5) (q0 := 0) (ci := 4) (As := [.ref (a 0)]) (rest := []) (x8W u a r q) (txtW ct q TX tl pl ft wd n1 n2) hx hb hml hown hts hl hE hS hA hP hD (c_X5_push l D ct ad r a b nx sz S M (by omega) (by omega)) gX8_setShelf_X5_push rfl rfl k_X5_push ⟨Nat.le_of_ble_eq_true rfl, Nat.le_of_ble_eq_true rfl⟩ rfl rfl rfl rfl (Nat.le_of_ble_eq_true rfl) ⟨Nat.le_of_ble_eq_true rfl, Nat.le_of_ble_eq_true rfl⟩ dX8_setShelf_23 rfl (fun v w1 H locs hpost hP hD hS => ?_)
  obtain ⟨rfl, rfl⟩ := hpost
  have hP : va_P D vwCl (x8W u a r q ++ (svW ct r b ((nx + 1) % 4) (min (sz + 1) 4) (updS S nx M) ++ (sobjW a ++ (gridW ct a M ++ (benchW ct a M ++ (logW ct a M ++ (txtW ct q TX tl pl ft wd n1 n2))))))) H := hP
  have hD : va_D A (x8W u a r q ++ (svW ct r b ((nx + 1) % 4) (min (sz + 1) 4) (updS S nx M) ++ (sobjW a ++ (gridW ct a M ++ (benchW ct a M ++ (logW ct a M ++ (txtW ct q TX tl pl ft wd n1 n2))))))) := hD
  refine W.eq (g2 := F0 m 26 ls []) rfl ?_
  refine lv_aload_n hx hb dX8_setShelf_26 rfl (lv_at hl 0 rfl) ?_
  refine va_get (D := D) (ci := 6) (v := .ref (a 0)) (C := RX8) (T := TX8) (N := 3) hx hb hts hin_X8 hown hK hP 0 rfl rfl 0 (by decide) hf_0 (fun _ h9 => h9) rfl dX8_setShelf_27 ?_
  refine va_get (D := D) (ci := 5) (v := .ref (a 6)) (C := RX6) (T := TX6) (N := 3) hx hb hts hin_X6 hown hK hP 47 rfl rfl 1 (by decide) hf_1 (fun _ h9 => h9) rfl dX8_setShelf_30 ?_
  refine lv_iload_n hx hb dX8_setShelf_33 rfl (lv_at hl 1 rfl) ?_
  refine lv_iload_n hx hb dX8_setShelf_34 rfl (lv_at hl 2 rfl) ?_
  refine z_callV (C := RX1) (q0 := 0) (ci := 0) (As := [.int (zI k), .int (zI v)]) (rest := []) (x8W u a r q ++ (svW ct r b ((nx + 1) % 4) (min (sz + 1) 4) (updS S nx M) ++ (sobjW a ++ (gridW ct a M)))) (logW ct a M ++ (txtW ct q TX tl pl ft wd n1 n2)) hx hb hml hown hts hl hE hS hA hP hD (c_X1_changeShelfWarmth l D ct ad a M k v (by omega)) gX8_setShelf_X1_changeShelfWarmth rfl rfl k_X1_changeShelfWarmth ⟨Nat.le_of_ble_eq_true rfl, Nat.le_of_ble_eq_true rfl⟩ rfl rfl rfl rfl (Nat.le_of_ble_eq_true rfl) ⟨Nat.le_of_ble_eq_true rfl, Nat.le_of_ble_eq_true rfl⟩ dX8_setShelf_35 rfl (fun v w1 H locs hpost hP hD hS => ?_)
  obtain ⟨rfl, rfl⟩ := hpost
  have hP : va_P D vwCl (x8W u a r q ++ (svW ct r b ((nx + 1) % 4) (min (sz + 1) 4) (updS S nx M) ++ (sobjW a ++ (gridW ct a M ++ (benchW ct a (up M (49 + k) v) ++ (logW ct a M ++ (txtW ct q TX tl pl ft wd n1 n2))))))) H := hP
  have hD : va_D A (x8W u a r q ++ (svW ct r b ((nx + 1) % 4) (min (sz + 1) 4) (updS S nx M) ++ (sobjW a ++ (gridW ct a M ++ (benchW ct a (up M (49 + k) v) ++ (logW ct a M ++ (txtW ct q TX tl pl ft wd n1 n2))))))) := hD
  have hP : va_P D vwCl (x8W u a r q ++ (svW ct r b ((nx + 1) % 4) (min (sz + 1) 4) (updS S nx M) ++ (sobjW a ++ (gridW ct a (up M (49 + k) v) ++ (benchW ct a (up M (49 + k) v) ++ (logW ct a (up M (49 + k) v) ++ (txtW ct q TX tl pl ft wd n1 n2))))))) H := by rw [gridW_ag (M := M) (N := (up M (49 + k) v)) (fun j hj => up_n (by omega)), logW_ag (M := M) (N := (up M (49 + k) v)) (fun j hj => up_n (by omega))]; exact hP
  have hD : va_D A (x8W u a r q ++ (svW ct r b ((nx + 1) % 4) (min (sz + 1) 4) (updS S nx M) ++ (sobjW a ++ (gridW ct a (up M (49 + k) v) ++ (benchW ct a (up M (49 + k) v) ++ (logW ct a (up M (49 + k) v) ++ (txtW ct q TX tl pl ft wd n1 n2))))))) := by rw [gridW_ag (M := M) (N := (up M (49 + k) v)) (fun j hj => up_n (by omega)), logW_ag (M := M) (N := (up M (49 + k) v)) (fun j hj => up_n (by omega))]; exact hD
  refine W.eq (g2 := F0 m 38 ls [.int (zI (M (49 + k)))]) rfl ?_
  exact z_iret hx hb hr hlocks hP hD hS ⟨Nat.le_of_ble_eq_true rfl, Nat.le_of_ble_eq_true rfl⟩ dX8_setShelf_38 (⟨congrArg (fun z => some (Value.int (zI z))) (rfl), rfl⟩)
set_option maxHeartbeats 4000000 in
set_option maxRecDepth 100000 in
theorem c_X8_hang (l : Launch) (D : va_G) (ct ad : Nat → Nat) (u : Nat) (a r q : Nat → Nat) (b : Nat → Nat → Nat) (nx sz : Int) (S : Nat → Int → Int) (M TX : Int → Int) (tl pl ft n1 n2 : Int) (wd : Value) (k : Int) (hs : sInv M) (hn : 0 ≤ nx ∧ nx ≤ 3) (hsz : 0 ≤ sz ∧ sz ≤ 4) (h1 : -2147483648 ≤ k ∧ k ≤ 2147483647) (hok : ck_shelf k = 0) : ZM l yX8_hang wsX8_hang ({ frames := 4, cells := 0, slots := 0, locals := 82 } : Room) D ct ad [.ref u, .int (zI k)] (x8W u a r q ++ (svW ct r b nx sz S ++ (sobjW a ++ (gridW ct a M ++ (benchW ct a M ++ (logW ct a M ++ (txtW ct q TX tl pl ft wd n1 n2))))))) (zD (some (.int (zI (M 5)))) (x8W u a r q ++ (svW ct r b ((nx + 1) % 4) (min (sz + 1) 4) (updS S nx M) ++ (sobjW a ++ (gridW ct a (up M 5 k) ++ (benchW ct a (up M 5 k) ++ (logW ct a (up M 5 k) ++ (txtW ct q TX tl pl ft wd n1 n2)))))))) := by
  refine ZM.of (cc := cX8_hang) (maxL := 2) (ret := (some .int)) (by decide +kernel) rfl (Nat.le_of_ble_eq_true rfl) ?_
  intro p e s m below meth c A ls hx hb hr hts hown hlocks hml hname hE hP hD hA hS hl
  have hK := hE.1
  have hf_0 := hts (.fieldLink RX8 10 "RodGrids" "state" "LRodGrids$State;") (by decide +kernel)
  have hf_1 := hts (.fieldLink RX8 77 "RodGrids$State" "bench" "LRodGrids$Bench;") (by decide +kernel)
  have hf_2 := hts (.fieldLink RX8 19 "RodGrids" "saved" "LRodGrids$SavedStates;") (by decide +kernel)
  have hin_X6 : ∀ z ∈ u_ws RX6 TX6 3, z ∈ wsX8_hang := by decide +kernel
  have hin_X8 : ∀ z ∈ u_ws RX8 TX8 3, z ∈ wsX8_hang := by decide +kernel
  have hl : lv_has ls 2 [(0, .ref u), (1, .int (zI k))] := hl
  have hI := hs.1
  have hB := hs.2.1
  have ha := hs.2.2
  have i3 := hI.1
  have i4 := hI.2.1
  have j0 := hB.1
  have j1 := hB.2.1
  have j2 := hB.2.2.1
  have j4 := hB.2.2.2.2
  have okf : 0 ≤ k ∧ k ≤ 4 := by have q9 := hok; unfold ck_shelf at q9; (repeat' split at q9) <;> omega
  refine lv_aload_n hx hb dX8_hang_0 rfl (lv_at hl 0 rfl) ?_
  refine va_get (D := D) (ci := 6) (v := .ref (a 0)) (C := RX8) (T := TX8) (N := 3) hx hb hts hin_X8 hown hK hP 0 rfl rfl 0 (by decide) hf_0 (fun _ h9 => h9) rfl dX8_hang_1 ?_
  refine va_get (D := D) (ci := 5) (v := .ref (a 6)) (C := RX6) (T := TX6) (N := 3) hx hb hts hin_X6 hown hK hP 47 rfl rfl 1 (by decide) hf_1 (fun _ h9 => h9) rfl dX8_hang_4 ?_
  refine lv_iload_n hx hb dX8_hang_7 rfl (lv_at hl 1 rfl) ?_
  refine z_callV (C := RX1) (q0 := 0) (ci := 0) (As := [.int (zI k)]) (rest := []) (x8W u a r q ++ (svW ct r b nx sz S ++ (sobjW a ++ (gridW ct a M)))) (logW ct a M ++ (txtW ct q TX tl pl ft wd n1 n2)) hx hb hml hown hts hl hE hS hA hP hD (c_X1_checkShelf l D ct ad a M k (by omega)) gX8_hang_X1_checkShelf rfl rfl k_X1_checkShelf ⟨Nat.le_of_ble_eq_true rfl, Nat.le_of_ble_eq_true rfl⟩ rfl rfl rfl rfl (Nat.le_of_ble_eq_true rfl) ⟨Nat.le_of_ble_eq_true rfl, Nat.le_of_ble_eq_true rfl⟩ dX8_hang_8 rfl (fun v w1 H locs hpost hP hD hS => ?_)
  obtain ⟨rfl, rfl⟩ := hpost
  have hP : va_P D vwCl (x8W u a r q ++ (svW ct r b nx sz S ++ (sobjW a ++ (gridW ct a M ++ (benchW ct a M ++ (logW ct a M ++ (txtW ct q TX tl pl ft wd n1 n2))))))) H := hP
  have hD : va_D A (x8W u a r q ++ (svW ct r b nx sz S ++ (sobjW a ++ (gridW ct a M ++ (benchW ct a M ++ (logW ct a M ++ (txtW ct q TX tl pl ft wd n1 n2))))))) := hD
  refine W.eq (g2 := F0 m 11 ls [.int (zI (ck_shelf k))]) rfl ?_
  refine z_callS (As := [.int (zI (ck_shelf k))]) (rest := []) ([] : va_W) (x8W u a r q ++ (svW ct r b nx sz S ++ (sobjW a ++ (gridW ct a M ++ (benchW ct a M ++ (logW ct a M ++ (txtW ct q TX tl pl ft wd n1 n2))))))) hx hb hml hown hts hl hE hS hA hP hD (c_X8_refuse l D ct ad (ck_shelf k) hok) gX8_hang_X8_refuse rfl k_X8_refuse ⟨Nat.le_of_ble_eq_true rfl, Nat.le_of_ble_eq_true rfl⟩ rfl (Nat.le_of_ble_eq_true rfl) ⟨Nat.le_of_ble_eq_true rfl, Nat.le_of_ble_eq_true rfl⟩ dX8_hang_11 rfl (fun v w1 H locs hpost hP hD hS => ?_)
  obtain ⟨rfl, rfl⟩ := hpost
  have hP : va_P D vwCl (x8W u a r q ++ (svW ct r b nx sz S ++ (sobjW a ++ (gridW ct a M ++ (benchW ct a M ++ (logW ct a M ++ (txtW ct q TX tl pl ft wd n1 n2))))))) H := hP
  have hD : va_D A (x8W u a r q ++ (svW ct r b nx sz S ++ (sobjW a ++ (gridW ct a M ++ (benchW ct a M ++ (logW ct a M ++ (txtW ct q TX tl pl ft wd n1 n2))))))) := hD
  refine W.eq (g2 := F0 m 14 ls []) rfl ?_
  refine lv_aload_n hx hb dX8_hang_14 rfl (lv_at hl 0 rfl) ?_
  refine va_get (D := D) (ci := 6) (v := .ref (r 0)) (C := RX8) (T := TX8) (N := 3) hx hb hts hin_X8 hown hK hP 0 rfl rfl 1 (by decide) hf_2 (fun _ h9 => h9) rfl dX8_hang_15 ?_
  refine lv_aload_n hx hb dX8_hang_18 rfl (lv_at hl 0 rfl) ?_
  refine va_get (D := D) (ci := 6) (v := .ref (a 0)) (C := RX8) (T := TX8) (N := 3) hx hb hts hin_X8 hown hK hP 0 rfl rfl 0 (by decide) hf_0 (fun _ h9 => h9) rfl dX8_hang_19 ?_
  refine z_callV (C := RX5) (q0 := 0) (ci := 4) (As := [.ref (a 0)]) (rest := []) (x8W u a r q) (txtW ct q TX tl pl ft wd n1 n2) hx hb hml hown hts hl hE hS hA hP hD (c_X5_push l D ct ad r a b nx sz S M (by omega) (by omega)) gX8_hang_X5_push rfl rfl k_X5_push ⟨Nat.le_of_ble_eq_true rfl, Nat.le_of_ble_eq_true rfl⟩ rfl rfl rfl rfl (Nat.le_of_ble_eq_true rfl) ⟨Nat.le_of_ble_eq_true rfl, Nat.le_of_ble_eq_true rfl⟩ dX8_hang_22 rfl (fun v w1 H locs hpost hP hD hS => ?_)
  obtain ⟨rfl, rfl⟩ := hpost
  have hP : va_P D vwCl (x8W u a r q ++ (svW ct r b ((nx + 1) % 4) (min (sz + 1) 4) (updS S nx M) ++ (sobjW a ++ (gridW ct a M ++ (benchW ct a M ++ (logW ct a M ++ (txtW ct q TX tl pl ft wd n1 n2))))))) H := hP
  have hD : va_D A (x8W u a r q ++ (svW ct r b ((nx + 1) % 4) (min (sz + 1) 4) (updS S nx M) ++ (sobjW a ++ (gridW ct a M ++ (benchW ct a M ++ (logW ct a M ++ (txtW ct q TX tl pl ft wd n1 n2))))))) := hD
  refine W.eq (g2 := F0 m 25 ls []) rfl ?_
  refine lv_aload_n hx hb dX8_hang_25 rfl (lv_at hl 0 rfl) ?_
  refine va_get (D := D) (ci := 6) (v := .ref (a 0)) (C := RX8) (T := TX8) (N := 3) hx hb hts hin_X8 hown hK hP 0 rfl rfl 0 (by decide) hf_0 (fun _ h9 => h9) rfl dX8_hang_26 ?_
  refine va_get (D := D) (ci := 5) (v := .ref (a 6)) (C := RX6) (T := TX6) (N := 3) hx hb hts hin_X6 hown hK hP 47 rfl rfl 1 (by decide) hf_1 (fun _ h9 => h9) rfl dX8_hang_29 ?_
  refine lv_iload_n hx hb dX8_hang_32 rfl (lv_at hl 1 rfl) ?_
  refine z_callV (C := RX1) (q0 := 0) (ci := 0) (As := [.int (zI k)]) (rest := []) (x8W u a r q ++ (svW ct r b ((nx + 1) % 4) (min (sz + 1) 4) (updS S nx M) ++ (sobjW a ++ (gridW ct a M)))) (logW ct a M ++ (txtW ct q TX tl pl ft wd n1 n2)) hx hb hml hown hts hl hE hS hA hP hD (c_X1_changeShelf l D ct ad a M k) gX8_hang_X1_changeShelf rfl rfl k_X1_changeShelf ⟨Nat.le_of_ble_eq_true rfl, Nat.le_of_ble_eq_true rfl⟩ rfl rfl rfl rfl (Nat.le_of_ble_eq_true rfl) ⟨Nat.le_of_ble_eq_true rfl, Nat.le_of_ble_eq_true rfl⟩ dX8_hang_33 rfl (fun v w1 H locs hpost hP hD hS => ?_)
  obtain ⟨rfl, rfl⟩ := hpost
  have hP : va_P D vwCl (x8W u a r q ++ (svW ct r b ((nx + 1) % 4) (min (sz + 1) 4) (updS S nx M) ++ (sobjW a ++ (gridW ct a M ++ (benchW ct a (up M 5 k) ++ (logW ct a M ++ (txtW ct q TX tl pl ft wd n1 n2))))))) H := hP
  have hD : va_D A (x8W u a r q ++ (svW ct r b ((nx + 1) % 4) (min (sz + 1) 4) (updS S nx M) ++ (sobjW a ++ (gridW ct a M ++ (benchW ct a (up M 5 k) ++ (logW ct a M ++ (txtW ct q TX tl pl ft wd n1 n2))))))) := hD
  have hP : va_P D vwCl (x8W u a r q ++ (svW ct r b ((nx + 1) % 4) (min (sz + 1) 4) (updS S nx M) ++ (sobjW a ++ (gridW ct a (up M 5 k) ++ (benchW ct a (up M 5 k) ++ (logW ct a (up M 5 k) ++ (txtW ct q TX tl pl ft wd n1 n2))))))) H := by rw [gridW_ag (M := M) (N := (up M 5 k)) (fun j hj => up_n (by omega)), logW_ag (M := M) (N := (up M 5 k)) (fun j hj => up_n (by omega))]; exact hP
  have hD : va_D A (x8W u a r q ++ (svW ct r b ((nx + 1) % 4) (min (sz + 1) 4) (updS S nx M) ++ (sobjW a ++ (gridW ct a (up M 5 k) ++ (benchW ct a (up M 5 k) ++ (logW ct a (up M 5 k) ++ (txtW ct q TX tl pl ft wd n1 n2))))))) := by rw [gridW_ag (M := M) (N := (up M 5 k)) (fun j hj => up_n (by omega)), logW_ag (M := M) (N := (up M 5 k)) (fun j hj => up_n (by omega))]; exact hD
  refine W.eq (g2 := F0 m 36 ls [.int (zI (M 5))]) rfl ?_
  exact z_iret hx hb hr hlocks hP hD hS ⟨Nat.le_of_ble_eq_true rfl, Nat.le_of_ble_eq_true rfl⟩ dX8_hang_36 (⟨congrArg (fun z => some (Value.int (zI z))) (rfl), rfl⟩)
set_option maxHeartbeats 4000000 in
set_option maxRecDepth 100000 in
theorem c_X8_turnNut (l : Launch) (D : va_G) (ct ad : Nat → Nat) (u : Nat) (a r q : Nat → Nat) (b : Nat → Nat → Nat) (nx sz : Int) (S : Nat → Int → Int) (M TX : Int → Int) (tl pl ft n1 n2 : Int) (wd : Value) (v : Int) (hs : sInv M) (hn : 0 ≤ nx ∧ nx ≤ 3) (hsz : 0 ≤ sz ∧ sz ≤ 4) (h1 : -2147483648 ≤ v ∧ v ≤ 2147483647) (hok : ck_turn M v = 0) : ZM l yX8_turnNut wsX8_turnNut ({ frames := 4, cells := 0, slots := 0, locals := 82 } : Room) D ct ad [.ref u, .int (zI v)] (x8W u a r q ++ (svW ct r b nx sz S ++ (sobjW a ++ (gridW ct a M ++ (benchW ct a M ++ (logW ct a M ++ (txtW ct q TX tl pl ft wd n1 n2))))))) (zD (some (.int (zI (M 7 + v)))) (x8W u a r q ++ (svW ct r b ((nx + 1) % 4) (min (sz + 1) 4) (updS S nx M) ++ (sobjW a ++ (gridW ct a (up M 7 (M 7 + v)) ++ (benchW ct a (up M 7 (M 7 + v)) ++ (logW ct a (up M 7 (M 7 + v)) ++ (txtW ct q TX tl pl ft wd n1 n2)))))))) := by
  refine ZM.of (cc := cX8_turnNut) (maxL := 2) (ret := (some .int)) (by decide +kernel) rfl (Nat.le_of_ble_eq_true rfl) ?_
  intro p e s m below meth c A ls hx hb hr hts hown hlocks hml hname hE hP hD hA hS hl
  have hK := hE.1
  have hf_0 := hts (.fieldLink RX8 10 "RodGrids" "state" "LRodGrids$State;") (by decide +kernel)
  have hf_1 := hts (.fieldLink RX8 77 "RodGrids$State" "bench" "LRodGrids$Bench;") (by decide +kernel)
  have hf_2 := hts (.fieldLink RX8 19 "RodGrids" "saved" "LRodGrids$SavedStates;") (by decide +kernel)
  have hin_X6 : ∀ z ∈ u_ws RX6 TX6 3, z ∈ wsX8_turnNut := by decide +kernel
  have hin_X8 : ∀ z ∈ u_ws RX8 TX8 3, z ∈ wsX8_turnNut := by decide +kernel
  have hl : lv_has ls 2 [(0, .ref u), (1, .int (zI v))] := hl
  have hI := hs.1
  have hB := hs.2.1
  have ha := hs.2.2
  have i3 := hI.1
  have i4 := hI.2.1
  have j0 := hB.1
  have j1 := hB.2.1
  have j2 := hB.2.2.1
  have j4 := hB.2.2.2.2
  refine lv_aload_n hx hb dX8_turnNut_0 rfl (lv_at hl 0 rfl) ?_
  refine va_get (D := D) (ci := 6) (v := .ref (a 0)) (C := RX8) (T := TX8) (N := 3) hx hb hts hin_X8 hown hK hP 0 rfl rfl 0 (by decide) hf_0 (fun _ h9 => h9) rfl dX8_turnNut_1 ?_
  refine va_get (D := D) (ci := 5) (v := .ref (a 6)) (C := RX6) (T := TX6) (N := 3) hx hb hts hin_X6 hown hK hP 47 rfl rfl 1 (by decide) hf_1 (fun _ h9 => h9) rfl dX8_turnNut_4 ?_
  refine lv_iload_n hx hb dX8_turnNut_7 rfl (lv_at hl 1 rfl) ?_
  refine z_callV (C := RX1) (q0 := 0) (ci := 0) (As := [.int (zI v)]) (rest := []) (x8W u a r q ++ (svW ct r b nx sz S ++ (sobjW a ++ (gridW ct a M)))) (logW ct a M ++ (txtW ct q TX tl pl ft wd n1 n2)) hx hb hml hown hts hl hE hS hA hP hD (c_X1_checkTurn l D ct ad a M v (by assumption) (by omega)) gX8_turnNut_X1_checkTurn rfl rfl k_X1_checkTurn ⟨Nat.le_of_ble_eq_true rfl, Nat.le_of_ble_eq_true rfl⟩ rfl rfl rfl rfl (Nat.le_of_ble_eq_true rfl) ⟨Nat.le_of_ble_eq_true rfl, Nat.le_of_ble_eq_true rfl⟩ dX8_turnNut_8 rfl (fun v w1 H locs hpost hP hD hS => ?_)
  obtain ⟨rfl, rfl⟩ := hpost
  have hP : va_P D vwCl (x8W u a r q ++ (svW ct r b nx sz S ++ (sobjW a ++ (gridW ct a M ++ (benchW ct a M ++ (logW ct a M ++ (txtW ct q TX tl pl ft wd n1 n2))))))) H := hP
  have hD : va_D A (x8W u a r q ++ (svW ct r b nx sz S ++ (sobjW a ++ (gridW ct a M ++ (benchW ct a M ++ (logW ct a M ++ (txtW ct q TX tl pl ft wd n1 n2))))))) := hD
  refine W.eq (g2 := F0 m 11 ls [.int (zI (ck_turn M v))]) rfl ?_
  refine z_callS (As := [.int (zI (ck_turn M v))]) (rest := []) ([] : va_W) (x8W u a r q ++ (svW ct r b nx sz S ++ (sobjW a ++ (gridW ct a M ++ (benchW ct a M ++ (logW ct a M ++ (txtW ct q TX tl pl ft wd n1 n2))))))) hx hb hml hown hts hl hE hS hA hP hD (c_X8_refuse l D ct ad (ck_turn M v) hok) gX8_turnNut_X8_refuse rfl k_X8_refuse ⟨Nat.le_of_ble_eq_true rfl, Nat.le_of_ble_eq_true rfl⟩ rfl (Nat.le_of_ble_eq_true rfl) ⟨Nat.le_of_ble_eq_true rfl, Nat.le_of_ble_eq_true rfl⟩ dX8_turnNut_11 rfl (fun v w1 H locs hpost hP hD hS => ?_)
  obtain ⟨rfl, rfl⟩ := hpost
  have hP : va_P D vwCl (x8W u a r q ++ (svW ct r b nx sz S ++ (sobjW a ++ (gridW ct a M ++ (benchW ct a M ++ (logW ct a M ++ (txtW ct q TX tl pl ft wd n1 n2))))))) H := hP
  have hD : va_D A (x8W u a r q ++ (svW ct r b nx sz S ++ (sobjW a ++ (gridW ct a M ++ (benchW ct a M ++ (logW ct a M ++ (txtW ct q TX tl pl ft wd n1 n2))))))) := hD
  refine W.eq (g2 := F0 m 14 ls []) rfl ?_
  refine lv_aload_n hx hb dX8_turnNut_14 rfl (lv_at hl 0 rfl) ?_
  refine va_get (D := D) (ci := 6) (v := .ref (r 0)) (C := RX8) (T := TX8) (N := 3) hx hb hts hin_X8 hown hK hP 0 rfl rfl 1 (by decide) hf_2 (fun _ h9 => h9) rfl dX8_turnNut_15 ?_
  refine lv_aload_n hx hb dX8_turnNut_18 rfl (lv_at hl 0 rfl) ?_
  refine va_get (D := D) (ci := 6) (v := .ref (a 0)) (C := RX8) (T := TX8) (N := 3) hx hb hts hin_X8 hown hK hP 0 rfl rfl 0 (by decide) hf_0 (fun _ h9 => h9) rfl dX8_turnNut_19 ?_
  refine z_callV (C := RX5) (q0 := 0) (ci := 4) (As := [.ref (a 0)]) (rest := []) (x8W u a r q) (txtW ct q TX tl pl ft wd n1 n2) hx hb hml hown hts hl hE hS hA hP hD (c_X5_push l D ct ad r a b nx sz S M (by omega) (by omega)) gX8_turnNut_X5_push rfl rfl k_X5_push ⟨Nat.le_of_ble_eq_true rfl, Nat.le_of_ble_eq_true rfl⟩ rfl rfl rfl rfl (Nat.le_of_ble_eq_true rfl) ⟨Nat.le_of_ble_eq_true rfl, Nat.le_of_ble_eq_true rfl⟩ dX8_turnNut_22 rfl (fun v w1 H locs hpost hP hD hS => ?_)
  obtain ⟨rfl, rfl⟩ := hpost
  have hP : va_P D vwCl (x8W u a r q ++ (svW ct r b ((nx + 1) % 4) (min (sz + 1) 4) (updS S nx M) ++ (sobjW a ++ (gridW ct a M ++ (benchW ct a M ++ (logW ct a M ++ (txtW ct q TX tl pl ft wd n1 n2))))))) H := hP
  have hD : va_D A (x8W u a r q ++ (svW ct r b ((nx + 1) % 4) (min (sz + 1) 4) (updS S nx M) ++ (sobjW a ++ (gridW ct a M ++ (benchW ct a M ++ (logW ct a M ++ (txtW ct q TX tl pl ft wd n1 n2))))))) := hD
  refine W.eq (g2 := F0 m 25 ls []) rfl ?_
  refine lv_aload_n hx hb dX8_turnNut_25 rfl (lv_at hl 0 rfl) ?_
  refine va_get (D := D) (ci := 6) (v := .ref (a 0)) (C := RX8) (T := TX8) (N := 3) hx hb hts hin_X8 hown hK hP 0 rfl rfl 0 (by decide) hf_0 (fun _ h9 => h9) rfl dX8_turnNut_26 ?_
  refine va_get (D := D) (ci := 5) (v := .ref (a 6)) (C := RX6) (T := TX6) (N := 3) hx hb hts hin_X6 hown hK hP 47 rfl rfl 1 (by decide) hf_1 (fun _ h9 => h9) rfl dX8_turnNut_29 ?_
  refine lv_iload_n hx hb dX8_turnNut_32 rfl (lv_at hl 1 rfl) ?_
  refine z_callV (C := RX1) (q0 := 0) (ci := 0) (As := [.int (zI v)]) (rest := []) (x8W u a r q ++ (svW ct r b ((nx + 1) % 4) (min (sz + 1) 4) (updS S nx M) ++ (sobjW a ++ (gridW ct a M)))) (logW ct a M ++ (txtW ct q TX tl pl ft wd n1 n2)) hx hb hml hown hts hl hE hS hA hP hD (c_X1_changeNut l D ct ad a M v) gX8_turnNut_X1_changeNut rfl rfl k_X1_changeNut ⟨Nat.le_of_ble_eq_true rfl, Nat.le_of_ble_eq_true rfl⟩ rfl rfl rfl rfl (Nat.le_of_ble_eq_true rfl) ⟨Nat.le_of_ble_eq_true rfl, Nat.le_of_ble_eq_true rfl⟩ dX8_turnNut_33 rfl (fun v w1 H locs hpost hP hD hS => ?_)
  obtain ⟨rfl, rfl⟩ := hpost
  have hP : va_P D vwCl (x8W u a r q ++ (svW ct r b ((nx + 1) % 4) (min (sz + 1) 4) (updS S nx M) ++ (sobjW a ++ (gridW ct a M ++ (benchW ct a (up M 7 (M 7 + v)) ++ (logW ct a M ++ (txtW ct q TX tl pl ft wd n1 n2))))))) H := hP
  have hD : va_D A (x8W u a r q ++ (svW ct r b ((nx + 1) % 4) (min (sz + 1) 4) (updS S nx M) ++ (sobjW a ++ (gridW ct a M ++ (benchW ct a (up M 7 (M 7 + v)) ++ (logW ct a M ++ (txtW ct q TX tl pl ft wd n1 n2))))))) := hD
  have hP : va_P D vwCl (x8W u a r q ++ (svW ct r b ((nx + 1) % 4) (min (sz + 1) 4) (updS S nx M) ++ (sobjW a ++ (gridW ct a (up M 7 (M 7 + v)) ++ (benchW ct a (up M 7 (M 7 + v)) ++ (logW ct a (up M 7 (M 7 + v)) ++ (txtW ct q TX tl pl ft wd n1 n2))))))) H := by rw [gridW_ag (M := M) (N := (up M 7 (M 7 + v))) (fun j hj => up_n (by omega)), logW_ag (M := M) (N := (up M 7 (M 7 + v))) (fun j hj => up_n (by omega))]; exact hP
  have hD : va_D A (x8W u a r q ++ (svW ct r b ((nx + 1) % 4) (min (sz + 1) 4) (updS S nx M) ++ (sobjW a ++ (gridW ct a (up M 7 (M 7 + v)) ++ (benchW ct a (up M 7 (M 7 + v)) ++ (logW ct a (up M 7 (M 7 + v)) ++ (txtW ct q TX tl pl ft wd n1 n2))))))) := by rw [gridW_ag (M := M) (N := (up M 7 (M 7 + v))) (fun j hj => up_n (by omega)), logW_ag (M := M) (N := (up M 7 (M 7 + v))) (fun j hj => up_n (by omega))]; exact hD
  refine W.eq (g2 := F0 m 36 ls [.int (zI (M 7 + v))]) rfl ?_
  exact z_iret hx hb hr hlocks hP hD hS ⟨Nat.le_of_ble_eq_true rfl, Nat.le_of_ble_eq_true rfl⟩ dX8_turnNut_36 (⟨congrArg (fun z => some (Value.int (zI z))) (rfl), rfl⟩)
set_option maxHeartbeats 4000000 in
set_option maxRecDepth 100000 in
theorem c_X8_wind (l : Launch) (D : va_G) (ct ad : Nat → Nat) (u : Nat) (a r q : Nat → Nat) (b : Nat → Nat → Nat) (nx sz : Int) (S : Nat → Int → Int) (M TX : Int → Int) (tl pl ft n1 n2 : Int) (wd : Value) (hs : sInv M) (hn : 0 ≤ nx ∧ nx ≤ 3) (hsz : 0 ≤ sz ∧ sz ≤ 4) : ZM l yX8_wind wsX8_wind ({ frames := 4, cells := 0, slots := 0, locals := 82 } : Room) D ct ad [.ref u] (x8W u a r q ++ (svW ct r b nx sz S ++ (sobjW a ++ (gridW ct a M ++ (benchW ct a M ++ (logW ct a M ++ (txtW ct q TX tl pl ft wd n1 n2))))))) (zD (some (.int (zI (M 8)))) (x8W u a r q ++ (svW ct r b ((nx + 1) % 4) (min (sz + 1) 4) (updS S nx M) ++ (sobjW a ++ (gridW ct a (up M 8 192) ++ (benchW ct a (up M 8 192) ++ (logW ct a (up M 8 192) ++ (txtW ct q TX tl pl ft wd n1 n2)))))))) := by
  refine ZM.of (cc := cX8_wind) (maxL := 1) (ret := (some .int)) (by decide +kernel) rfl (Nat.le_of_ble_eq_true rfl) ?_
  intro p e s m below meth c A ls hx hb hr hts hown hlocks hml hname hE hP hD hA hS hl
  have hK := hE.1
  have hf_0 := hts (.fieldLink RX8 19 "RodGrids" "saved" "LRodGrids$SavedStates;") (by decide +kernel)
  have hf_1 := hts (.fieldLink RX8 10 "RodGrids" "state" "LRodGrids$State;") (by decide +kernel)
  have hf_2 := hts (.fieldLink RX8 77 "RodGrids$State" "bench" "LRodGrids$Bench;") (by decide +kernel)
  have hin_X6 : ∀ z ∈ u_ws RX6 TX6 3, z ∈ wsX8_wind := by decide +kernel
  have hin_X8 : ∀ z ∈ u_ws RX8 TX8 3, z ∈ wsX8_wind := by decide +kernel
  have hl : lv_has ls 1 [(0, .ref u)] := hl
  have hI := hs.1
  have hB := hs.2.1
  have ha := hs.2.2
  have i3 := hI.1
  have i4 := hI.2.1
  have j0 := hB.1
  have j1 := hB.2.1
  have j2 := hB.2.2.1
  have j4 := hB.2.2.2.2
  refine lv_aload_n hx hb dX8_wind_0 rfl (lv_at hl 0 rfl) ?_
  refine va_get (D := D) (ci := 6) (v := .ref (r 0)) (C := RX8) (T := TX8) (N := 3) hx hb hts hin_X8 hown hK hP 0 rfl rfl 1 (by decide) hf_0 (fun _ h9 => h9) rfl dX8_wind_1 ?_
  refine lv_aload_n hx hb dX8_wind_4 rfl (lv_at hl 0 rfl) ?_
  refine va_get (D := D) (ci := 6) (v := .ref (a 0)) (C := RX8) (T := TX8) (N := 3) hx hb hts hin_X8 hown hK hP 0 rfl rfl 0 (by decide) hf_1 (fun _ h9 => h9) rfl dX8_wind_5 ?_
  refine z_callV (C := RX5) (q0 := 0) (ci := 4) (As := [.ref (a 0)]) (rest := []) (x8W u a r q) (txtW ct q TX tl pl ft wd n1 n2) hx hb hml hown hts hl hE hS hA hP hD (c_X5_push l D ct ad r a b nx sz S M (by omega) (by omega)) gX8_wind_X5_push rfl rfl k_X5_push ⟨Nat.le_of_ble_eq_true rfl, Nat.le_of_ble_eq_true rfl⟩ rfl rfl rfl rfl (Nat.le_of_ble_eq_true rfl) ⟨Nat.le_of_ble_eq_true rfl, Nat.le_of_ble_eq_true rfl⟩ dX8_wind_8 rfl (fun v w1 H locs hpost hP hD hS => ?_)
  obtain ⟨rfl, rfl⟩ := hpost
  have hP : va_P D vwCl (x8W u a r q ++ (svW ct r b ((nx + 1) % 4) (min (sz + 1) 4) (updS S nx M) ++ (sobjW a ++ (gridW ct a M ++ (benchW ct a M ++ (logW ct a M ++ (txtW ct q TX tl pl ft wd n1 n2))))))) H := hP
  have hD : va_D A (x8W u a r q ++ (svW ct r b ((nx + 1) % 4) (min (sz + 1) 4) (updS S nx M) ++ (sobjW a ++ (gridW ct a M ++ (benchW ct a M ++ (logW ct a M ++ (txtW ct q TX tl pl ft wd n1 n2))))))) := hD
  refine W.eq (g2 := F0 m 11 ls []) rfl ?_
  refine lv_aload_n hx hb dX8_wind_11 rfl (lv_at hl 0 rfl) ?_
  refine va_get (D := D) (ci := 6) (v := .ref (a 0)) (C := RX8) (T := TX8) (N := 3) hx hb hts hin_X8 hown hK hP 0 rfl rfl 0 (by decide) hf_1 (fun _ h9 => h9) rfl dX8_wind_12 ?_
  refine va_get (D := D) (ci := 5) (v := .ref (a 6)) (C := RX6) (T := TX6) (N := 3) hx hb hts hin_X6 hown hK hP 47 rfl rfl 1 (by decide) hf_2 (fun _ h9 => h9) rfl dX8_wind_15 ?_
  refine z_callV (C := RX1) (q0 := 0) (ci := 0) (As := []) (rest := []) (x8W u a r q ++ (svW ct r b ((nx + 1) % 4) (min (sz + 1) 4) (updS S nx M) ++ (sobjW a ++ (gridW ct a M)))) (logW ct a M ++ (txtW ct q TX tl pl ft wd n1 n2)) hx hb hml hown hts hl hE hS hA hP hD (c_X1_fillDrive l D ct ad a M) gX8_wind_X1_fillDrive rfl rfl k_X1_fillDrive ⟨Nat.le_of_ble_eq_true rfl, Nat.le_of_ble_eq_true rfl⟩ rfl rfl rfl rfl (Nat.le_of_ble_eq_true rfl) ⟨Nat.le_of_ble_eq_true rfl, Nat.le_of_ble_eq_true rfl⟩ dX8_wind_18 rfl (fun v w1 H locs hpost hP hD hS => ?_)
  obtain ⟨rfl, rfl⟩ := hpost
  have hP : va_P D vwCl (x8W u a r q ++ (svW ct r b ((nx + 1) % 4) (min (sz + 1) 4) (updS S nx M) ++ (sobjW a ++ (gridW ct a M ++ (benchW ct a (up M 8 192) ++ (logW ct a M ++ (txtW ct q TX tl pl ft wd n1 n2))))))) H := hP
  have hD : va_D A (x8W u a r q ++ (svW ct r b ((nx + 1) % 4) (min (sz + 1) 4) (updS S nx M) ++ (sobjW a ++ (gridW ct a M ++ (benchW ct a (up M 8 192) ++ (logW ct a M ++ (txtW ct q TX tl pl ft wd n1 n2))))))) := hD
  have hP : va_P D vwCl (x8W u a r q ++ (svW ct r b ((nx + 1) % 4) (min (sz + 1) 4) (updS S nx M) ++ (sobjW a ++ (gridW ct a (up M 8 192) ++ (benchW ct a (up M 8 192) ++ (logW ct a (up M 8 192) ++ (txtW ct q TX tl pl ft wd n1 n2))))))) H := by rw [gridW_ag (M := M) (N := (up M 8 192)) (fun j hj => up_n (by omega)), logW_ag (M := M) (N := (up M 8 192)) (fun j hj => up_n (by omega))]; exact hP
  have hD : va_D A (x8W u a r q ++ (svW ct r b ((nx + 1) % 4) (min (sz + 1) 4) (updS S nx M) ++ (sobjW a ++ (gridW ct a (up M 8 192) ++ (benchW ct a (up M 8 192) ++ (logW ct a (up M 8 192) ++ (txtW ct q TX tl pl ft wd n1 n2))))))) := by rw [gridW_ag (M := M) (N := (up M 8 192)) (fun j hj => up_n (by omega)), logW_ag (M := M) (N := (up M 8 192)) (fun j hj => up_n (by omega))]; exact hD
  refine W.eq (g2 := F0 m 21 ls [.int (zI (M 8))]) rfl ?_
  exact z_iret hx hb hr hlocks hP hD hS ⟨Nat.le_of_ble_eq_true rfl, Nat.le_of_ble_eq_true rfl⟩ dX8_wind_21 (⟨congrArg (fun z => some (Value.int (zI z))) (rfl), rfl⟩)
set_option maxHeartbeats 4000000 in
set_option maxRecDepth 100000 in
theorem c_X8_set (l : Launch) (D : va_G) (ct ad : Nat → Nat) (u : Nat) (a r q : Nat → Nat) (b : Nat → Nat → Nat) (nx sz : Int) (S : Nat → Int → Int) (M TX : Int → Int) (tl pl ft n1 n2 : Int) (wd : Value) (k v : Int) (hs : sInv M) (hn : 0 ≤ nx ∧ nx ≤ 3) (hsz : 0 ≤ sz ∧ sz ≤ 4) (h1 : -2147483648 ≤ k ∧ k ≤ 2147483647) (h2 : -2147483648 ≤ v ∧ v ≤ 2147483647) (hok : ck_set k v = 0) : ZM l yX8_set wsX8_set ({ frames := 4, cells := 0, slots := 0, locals := 82 } : Room) D ct ad [.ref u, .int (zI k), .int (zI v)] (x8W u a r q ++ (svW ct r b nx sz S ++ (sobjW a ++ (gridW ct a M ++ (benchW ct a M ++ (logW ct a M ++ (txtW ct q TX tl pl ft wd n1 n2))))))) (zD (some (.int (zI (M k)))) (x8W u a r q ++ (svW ct r b ((nx + 1) % 4) (min (sz + 1) 4) (updS S nx M) ++ (sobjW a ++ (gridW ct a (up M k v) ++ (benchW ct a (up M k v) ++ (logW ct a (up M k v) ++ (txtW ct q TX tl pl ft wd n1 n2)))))))) := by
  refine ZM.of (cc := cX8_set) (maxL := 3) (ret := (some .int)) (by decide +kernel) rfl (Nat.le_of_ble_eq_true rfl) ?_
  intro p e s m below meth c A ls hx hb hr hts hown hlocks hml hname hE hP hD hA hS hl
  have hK := hE.1
  have hf_0 := hts (.fieldLink RX8 10 "RodGrids" "state" "LRodGrids$State;") (by decide +kernel)
  have hf_1 := hts (.fieldLink RX8 77 "RodGrids$State" "bench" "LRodGrids$Bench;") (by decide +kernel)
  have hf_2 := hts (.fieldLink RX8 19 "RodGrids" "saved" "LRodGrids$SavedStates;") (by decide +kernel)
  have hin_X6 : ∀ z ∈ u_ws RX6 TX6 3, z ∈ wsX8_set := by decide +kernel
  have hin_X8 : ∀ z ∈ u_ws RX8 TX8 3, z ∈ wsX8_set := by decide +kernel
  have hl : lv_has ls 3 [(0, .ref u), (1, .int (zI k)), (2, .int (zI v))] := hl
  have hI := hs.1
  have hB := hs.2.1
  have ha := hs.2.2
  have i3 := hI.1
  have i4 := hI.2.1
  have j0 := hB.1
  have j1 := hB.2.1
  have j2 := hB.2.2.1
  have j4 := hB.2.2.2.2
  have okf : 0 ≤ k ∧ k ≤ 2 := by have q9 := hok; unfold ck_set at q9; (repeat' split at q9) <;> omega
  refine lv_aload_n hx hb dX8_set_0 rfl (lv_at hl 0 rfl) ?_
  refine va_get (D := D) (ci := 6) (v := .ref (a 0)) (C := RX8) (T := TX8) (N := 3) hx hb hts hin_X8 hown hK hP 0 rfl rfl 0 (by decide) hf_0 (fun _ h9 => h9) rfl dX8_set_1 ?_
  refine va_get (D := D) (ci := 5) (v := .ref (a 6)) (C := RX6) (T := TX6) (N := 3) hx hb hts hin_X6 hown hK hP 47 rfl rfl 1 (by decide) hf_1 (fun _ h9 => h9) rfl dX8_set_4 ?_
  refine lv_iload_n hx hb dX8_set_7 rfl (lv_at hl 1 rfl) ?_
  refine lv_iload_n hx hb dX8_set_8 rfl (lv_at hl 2 rfl) ?_
  refine z_callV (C := RX1) (q0 := 0) (ci := 0) (As := [.int (zI k), .int (zI v)]) (rest := []) (x8W u a r q ++ (svW ct r b nx sz S ++ (sobjW a ++ (gridW ct a M)))) (logW ct a M ++ (txtW ct q TX tl pl ft wd n1 n2)) hx hb hml hown hts hl hE hS hA hP hD (c_X1_checkSetting l D ct ad a M k v (by omega) (by omega)) gX8_set_X1_checkSetting rfl rfl k_X1_checkSetting ⟨Nat.le_of_ble_eq_true rfl, Nat.le_of_ble_eq_true rfl⟩ rfl rfl rfl rfl (Nat.le_of_ble_eq_true rfl) ⟨Nat.le_of_ble_eq_true rfl, Nat.le_of_ble_eq_true rfl⟩ dX8_set_9 rfl (fun v w1 H locs hpost hP hD hS => ?_)
  obtain ⟨rfl, rfl⟩ := hpost
  have hP : va_P D vwCl (x8W u a r q ++ (svW ct r b nx sz S ++ (sobjW a ++ (gridW ct a M ++ (benchW ct a M ++ (logW ct a M ++ (txtW ct q TX tl pl ft wd n1 n2))))))) H := hP
  have hD : va_D A (x8W u a r q ++ (svW ct r b nx sz S ++ (sobjW a ++ (gridW ct a M ++ (benchW ct a M ++ (logW ct a M ++ (txtW ct q TX tl pl ft wd n1 n2))))))) := hD
  refine W.eq (g2 := F0 m 12 ls [.int (zI (ck_set k v))]) rfl ?_
  refine z_callS (As := [.int (zI (ck_set k v))]) (rest := []) ([] : va_W) (x8W u a r q ++ (svW ct r b nx sz S ++ (sobjW a ++ (gridW ct a M ++ (benchW ct a M ++ (logW ct a M ++ (txtW ct q TX tl pl ft wd n1 n2))))))) hx hb hml hown hts hl hE hS hA hP hD (c_X8_refuse l D ct ad (ck_set k v) hok) gX8_set_X8_refuse rfl k_X8_refuse ⟨Nat.le_of_ble_eq_true rfl, Nat.le_of_ble_eq_true rfl⟩ rfl (Nat.le_of_ble_eq_true rfl) ⟨Nat.le_of_ble_eq_true rfl, Nat.le_of_ble_eq_true rfl⟩ dX8_set_12 rfl (fun v w1 H locs hpost hP hD hS => ?_)
  obtain ⟨rfl, rfl⟩ := hpost
  have hP : va_P D vwCl (x8W u a r q ++ (svW ct r b nx sz S ++ (sobjW a ++ (gridW ct a M ++ (benchW ct a M ++ (logW ct a M ++ (txtW ct q TX tl pl ft wd n1 n2))))))) H := hP
  have hD : va_D A (x8W u a r q ++ (svW ct r b nx sz S ++ (sobjW a ++ (gridW ct a M ++ (benchW ct a M ++ (logW ct a M ++ (txtW ct q TX tl pl ft wd n1 n2))))))) := hD
  refine W.eq (g2 := F0 m 15 ls []) rfl ?_
  refine lv_aload_n hx hb dX8_set_15 rfl (lv_at hl 0 rfl) ?_
  refine va_get (D := D) (ci := 6) (v := .ref (r 0)) (C := RX8) (T := TX8) (N := 3) hx hb hts hin_X8 hown hK hP 0 rfl rfl 1 (by decide) hf_2 (fun _ h9 => h9) rfl dX8_set_16 ?_
  refine lv_aload_n hx hb dX8_set_19 rfl (lv_at hl 0 rfl) ?_
  refine va_get (D := D) (ci := 6) (v := .ref (a 0)) (C := RX8) (T := TX8) (N := 3) hx hb hts hin_X8 hown hK hP 0 rfl rfl 0 (by decide) hf_0 (fun _ h9 => h9) rfl dX8_set_20 ?_
  refine z_callV (C := RX5) (q0 := 0) (ci := 4) (As := [.ref (a 0)]) (rest := []) (x8W u a r q) (txtW ct q TX tl pl ft wd n1 n2) hx hb hml hown hts hl hE hS hA hP hD (c_X5_push l D ct ad r a b nx sz S M (by omega) (by omega)) gX8_set_X5_push rfl rfl k_X5_push ⟨Nat.le_of_ble_eq_true rfl, Nat.le_of_ble_eq_true rfl⟩ rfl rfl rfl rfl (Nat.le_of_ble_eq_true rfl) ⟨Nat.le_of_ble_eq_true rfl, Nat.le_of_ble_eq_true rfl⟩ dX8_set_23 rfl (fun v w1 H locs hpost hP hD hS => ?_)
  obtain ⟨rfl, rfl⟩ := hpost
  have hP : va_P D vwCl (x8W u a r q ++ (svW ct r b ((nx + 1) % 4) (min (sz + 1) 4) (updS S nx M) ++ (sobjW a ++ (gridW ct a M ++ (benchW ct a M ++ (logW ct a M ++ (txtW ct q TX tl pl ft wd n1 n2))))))) H := hP
  have hD : va_D A (x8W u a r q ++ (svW ct r b ((nx + 1) % 4) (min (sz + 1) 4) (updS S nx M) ++ (sobjW a ++ (gridW ct a M ++ (benchW ct a M ++ (logW ct a M ++ (txtW ct q TX tl pl ft wd n1 n2))))))) := hD
  refine W.eq (g2 := F0 m 26 ls []) rfl ?_
  refine lv_aload_n hx hb dX8_set_26 rfl (lv_at hl 0 rfl) ?_
  refine va_get (D := D) (ci := 6) (v := .ref (a 0)) (C := RX8) (T := TX8) (N := 3) hx hb hts hin_X8 hown hK hP 0 rfl rfl 0 (by decide) hf_0 (fun _ h9 => h9) rfl dX8_set_27 ?_
  refine va_get (D := D) (ci := 5) (v := .ref (a 6)) (C := RX6) (T := TX6) (N := 3) hx hb hts hin_X6 hown hK hP 47 rfl rfl 1 (by decide) hf_1 (fun _ h9 => h9) rfl dX8_set_30 ?_
  refine lv_iload_n hx hb dX8_set_33 rfl (lv_at hl 1 rfl) ?_
  refine lv_iload_n hx hb dX8_set_34 rfl (lv_at hl 2 rfl) ?_
  refine z_callV (C := RX1) (q0 := 0) (ci := 0) (As := [.int (zI k), .int (zI v)]) (rest := []) (x8W u a r q ++ (svW ct r b ((nx + 1) % 4) (min (sz + 1) 4) (updS S nx M) ++ (sobjW a ++ (gridW ct a M)))) (logW ct a M ++ (txtW ct q TX tl pl ft wd n1 n2)) hx hb hml hown hts hl hE hS hA hP hD (c_X1_changeSetting l D ct ad a M k v (by omega)) gX8_set_X1_changeSetting rfl rfl k_X1_changeSetting ⟨Nat.le_of_ble_eq_true rfl, Nat.le_of_ble_eq_true rfl⟩ rfl rfl rfl rfl (Nat.le_of_ble_eq_true rfl) ⟨Nat.le_of_ble_eq_true rfl, Nat.le_of_ble_eq_true rfl⟩ dX8_set_35 rfl (fun v w1 H locs hpost hP hD hS => ?_)
  obtain ⟨rfl, rfl⟩ := hpost
  have hP : va_P D vwCl (x8W u a r q ++ (svW ct r b ((nx + 1) % 4) (min (sz + 1) 4) (updS S nx M) ++ (sobjW a ++ (gridW ct a M ++ (benchW ct a (up M k v) ++ (logW ct a M ++ (txtW ct q TX tl pl ft wd n1 n2))))))) H := hP
  have hD : va_D A (x8W u a r q ++ (svW ct r b ((nx + 1) % 4) (min (sz + 1) 4) (updS S nx M) ++ (sobjW a ++ (gridW ct a M ++ (benchW ct a (up M k v) ++ (logW ct a M ++ (txtW ct q TX tl pl ft wd n1 n2))))))) := hD
  have hP : va_P D vwCl (x8W u a r q ++ (svW ct r b ((nx + 1) % 4) (min (sz + 1) 4) (updS S nx M) ++ (sobjW a ++ (gridW ct a (up M k v) ++ (benchW ct a (up M k v) ++ (logW ct a (up M k v) ++ (txtW ct q TX tl pl ft wd n1 n2))))))) H := by rw [gridW_ag (M := M) (N := (up M k v)) (fun j hj => up_n (by omega)), logW_ag (M := M) (N := (up M k v)) (fun j hj => up_n (by omega))]; exact hP
  have hD : va_D A (x8W u a r q ++ (svW ct r b ((nx + 1) % 4) (min (sz + 1) 4) (updS S nx M) ++ (sobjW a ++ (gridW ct a (up M k v) ++ (benchW ct a (up M k v) ++ (logW ct a (up M k v) ++ (txtW ct q TX tl pl ft wd n1 n2))))))) := by rw [gridW_ag (M := M) (N := (up M k v)) (fun j hj => up_n (by omega)), logW_ag (M := M) (N := (up M k v)) (fun j hj => up_n (by omega))]; exact hD
  refine W.eq (g2 := F0 m 38 ls [.int (zI (M k))]) rfl ?_
  exact z_iret hx hb hr hlocks hP hD hS ⟨Nat.le_of_ble_eq_true rfl, Nat.le_of_ble_eq_true rfl⟩ dX8_set_38 (⟨congrArg (fun z => some (Value.int (zI z))) (rfl), rfl⟩)
set_option maxHeartbeats 4000000 in
set_option maxRecDepth 100000 in
theorem c_X8_pass (l : Launch) (D : va_G) (ct ad : Nat → Nat) (u : Nat) (a r q : Nat → Nat) (b : Nat → Nat → Nat) (nx sz : Int) (S : Nat → Int → Int) (M TX : Int → Int) (tl pl ft n1 n2 : Int) (wd : Value) (n : Int) (hs : sInv M) (hn : 0 ≤ nx ∧ nx ≤ 3) (hsz : 0 ≤ sz ∧ sz ≤ 4) (h1 : -2147483648 ≤ n ∧ n ≤ 2147483647) (hok : ck_hours M n = 0) : ZM l yX8_pass wsX8_pass ({ frames := 5, cells := 0, slots := 0, locals := 122 } : Room) D ct ad [.ref u, .int (zI n)] (x8W u a r q ++ (svW ct r b nx sz S ++ (sobjW a ++ (gridW ct a M ++ (benchW ct a M ++ (logW ct a M ++ (txtW ct q TX tl pl ft wd n1 n2))))))) (zD (some (.int (zI (sp_err (sp_pass M n.toNat))))) (x8W u a r q ++ (svW ct r b ((nx + 1) % 4) (min (sz + 1) 4) (updS S nx M) ++ (sobjW a ++ (gridW ct a (sp_pass M n.toNat) ++ (benchW ct a (sp_pass M n.toNat) ++ (logW ct a (sp_pass M n.toNat) ++ (txtW ct q TX tl pl ft wd n1 n2)))))))) := by
  refine ZM.of (cc := cX8_pass) (maxL := 2) (ret := (some .int)) (by decide +kernel) rfl (Nat.le_of_ble_eq_true rfl) ?_
  intro p e s m below meth c A ls hx hb hr hts hown hlocks hml hname hE hP hD hA hS hl
  have hK := hE.1
  have hf_0 := hts (.fieldLink RX8 10 "RodGrids" "state" "LRodGrids$State;") (by decide +kernel)
  have hf_1 := hts (.fieldLink RX8 77 "RodGrids$State" "bench" "LRodGrids$Bench;") (by decide +kernel)
  have hf_2 := hts (.fieldLink RX8 19 "RodGrids" "saved" "LRodGrids$SavedStates;") (by decide +kernel)
  have hin_X6 : ∀ z ∈ u_ws RX6 TX6 3, z ∈ wsX8_pass := by decide +kernel
  have hin_X8 : ∀ z ∈ u_ws RX8 TX8 3, z ∈ wsX8_pass := by decide +kernel
  have hl : lv_has ls 2 [(0, .ref u), (1, .int (zI n))] := hl
  have hI := hs.1
  have hB := hs.2.1
  have ha := hs.2.2
  have i3 := hI.1
  have i4 := hI.2.1
  have j0 := hB.1
  have j1 := hB.2.1
  have j2 := hB.2.2.1
  have j4 := hB.2.2.2.2
  have okf : 1 ≤ n ∧ n ≤ 500 ∧ M 9 + n ≤ 100000 := by have q9 := hok; unfold ck_hours at q9; (repeat' split at q9) <;> omega
  refine lv_aload_n hx hb dX8_pass_0 rfl (lv_at hl 0 rfl) ?_
  refine va_get (D := D) (ci := 6) (v := .ref (a 0)) (C := RX8) (T := TX8) (N := 3) hx hb hts hin_X8 hown hK hP 0 rfl rfl 0 (by decide) hf_0 (fun _ h9 => h9) rfl dX8_pass_1 ?_
  refine va_get (D := D) (ci := 5) (v := .ref (a 6)) (C := RX6) (T := TX6) (N := 3) hx hb hts hin_X6 hown hK hP 47 rfl rfl 1 (by decide) hf_1 (fun _ h9 => h9) rfl dX8_pass_4 ?_
  refine lv_iload_n hx hb dX8_pass_7 rfl (lv_at hl 1 rfl) ?_
  refine z_callV (C := RX1) (q0 := 0) (ci := 0) (As := [.int (zI n)]) (rest := []) (x8W u a r q ++ (svW ct r b nx sz S ++ (sobjW a ++ (gridW ct a M)))) (logW ct a M ++ (txtW ct q TX tl pl ft wd n1 n2)) hx hb hml hown hts hl hE hS hA hP hD (c_X1_checkHours l D ct ad a M n (by assumption) (by omega)) gX8_pass_X1_checkHours rfl rfl k_X1_checkHours ⟨Nat.le_of_ble_eq_true rfl, Nat.le_of_ble_eq_true rfl⟩ rfl rfl rfl rfl (Nat.le_of_ble_eq_true rfl) ⟨Nat.le_of_ble_eq_true rfl, Nat.le_of_ble_eq_true rfl⟩ dX8_pass_8 rfl (fun v w1 H locs hpost hP hD hS => ?_)
  obtain ⟨rfl, rfl⟩ := hpost
  have hP : va_P D vwCl (x8W u a r q ++ (svW ct r b nx sz S ++ (sobjW a ++ (gridW ct a M ++ (benchW ct a M ++ (logW ct a M ++ (txtW ct q TX tl pl ft wd n1 n2))))))) H := hP
  have hD : va_D A (x8W u a r q ++ (svW ct r b nx sz S ++ (sobjW a ++ (gridW ct a M ++ (benchW ct a M ++ (logW ct a M ++ (txtW ct q TX tl pl ft wd n1 n2))))))) := hD
  refine W.eq (g2 := F0 m 11 ls [.int (zI (ck_hours M n))]) rfl ?_
  refine z_callS (As := [.int (zI (ck_hours M n))]) (rest := []) ([] : va_W) (x8W u a r q ++ (svW ct r b nx sz S ++ (sobjW a ++ (gridW ct a M ++ (benchW ct a M ++ (logW ct a M ++ (txtW ct q TX tl pl ft wd n1 n2))))))) hx hb hml hown hts hl hE hS hA hP hD (c_X8_refuse l D ct ad (ck_hours M n) hok) gX8_pass_X8_refuse rfl k_X8_refuse ⟨Nat.le_of_ble_eq_true rfl, Nat.le_of_ble_eq_true rfl⟩ rfl (Nat.le_of_ble_eq_true rfl) ⟨Nat.le_of_ble_eq_true rfl, Nat.le_of_ble_eq_true rfl⟩ dX8_pass_11 rfl (fun v w1 H locs hpost hP hD hS => ?_)
  obtain ⟨rfl, rfl⟩ := hpost
  have hP : va_P D vwCl (x8W u a r q ++ (svW ct r b nx sz S ++ (sobjW a ++ (gridW ct a M ++ (benchW ct a M ++ (logW ct a M ++ (txtW ct q TX tl pl ft wd n1 n2))))))) H := hP
  have hD : va_D A (x8W u a r q ++ (svW ct r b nx sz S ++ (sobjW a ++ (gridW ct a M ++ (benchW ct a M ++ (logW ct a M ++ (txtW ct q TX tl pl ft wd n1 n2))))))) := hD
  refine W.eq (g2 := F0 m 14 ls []) rfl ?_
  refine lv_aload_n hx hb dX8_pass_14 rfl (lv_at hl 0 rfl) ?_
  refine va_get (D := D) (ci := 6) (v := .ref (r 0)) (C := RX8) (T := TX8) (N := 3) hx hb hts hin_X8 hown hK hP 0 rfl rfl 1 (by decide) hf_2 (fun _ h9 => h9) rfl dX8_pass_15 ?_
  refine lv_aload_n hx hb dX8_pass_18 rfl (lv_at hl 0 rfl) ?_
  refine va_get (D := D) (ci := 6) (v := .ref (a 0)) (C := RX8) (T := TX8) (N := 3) hx hb hts hin_X8 hown hK hP 0 rfl rfl 0 (by decide) hf_0 (fun _ h9 => h9) rfl dX8_pass_19 ?_
  refine z_callV (C := RX5) (q0 := 0) (ci := 4) (As := [.ref (a 0)]) (rest := []) (x8W u a r q) (txtW ct q TX tl pl ft wd n1 n2) hx hb hml hown hts hl hE hS hA hP hD (c_X5_push l D ct ad r a b nx sz S M (by omega) (by omega)) gX8_pass_X5_push rfl rfl k_X5_push ⟨Nat.le_of_ble_eq_true rfl, Nat.le_of_ble_eq_true rfl⟩ rfl rfl rfl rfl (Nat.le_of_ble_eq_true rfl) ⟨Nat.le_of_ble_eq_true rfl, Nat.le_of_ble_eq_true rfl⟩ dX8_pass_22 rfl (fun v w1 H locs hpost hP hD hS => ?_)
  obtain ⟨rfl, rfl⟩ := hpost
  have hP : va_P D vwCl (x8W u a r q ++ (svW ct r b ((nx + 1) % 4) (min (sz + 1) 4) (updS S nx M) ++ (sobjW a ++ (gridW ct a M ++ (benchW ct a M ++ (logW ct a M ++ (txtW ct q TX tl pl ft wd n1 n2))))))) H := hP
  have hD : va_D A (x8W u a r q ++ (svW ct r b ((nx + 1) % 4) (min (sz + 1) 4) (updS S nx M) ++ (sobjW a ++ (gridW ct a M ++ (benchW ct a M ++ (logW ct a M ++ (txtW ct q TX tl pl ft wd n1 n2))))))) := hD
  refine W.eq (g2 := F0 m 25 ls []) rfl ?_
  refine lv_aload_n hx hb dX8_pass_25 rfl (lv_at hl 0 rfl) ?_
  refine va_get (D := D) (ci := 6) (v := .ref (a 0)) (C := RX8) (T := TX8) (N := 3) hx hb hts hin_X8 hown hK hP 0 rfl rfl 0 (by decide) hf_0 (fun _ h9 => h9) rfl dX8_pass_26 ?_
  refine lv_iload_n hx hb dX8_pass_29 rfl (lv_at hl 1 rfl) ?_
  refine z_callV (C := RX6) (q0 := 0) (ci := 5) (As := [.int (zI n)]) (rest := []) (x8W u a r q ++ (svW ct r b ((nx + 1) % 4) (min (sz + 1) 4) (updS S nx M))) (txtW ct q TX tl pl ft wd n1 n2) hx hb hml hown hts hl hE hS hA hP hD (c_X6_passHours l D ct ad a M n (by assumption) (by assumption) (by omega) (by omega)) gX8_pass_X6_passHours rfl rfl k_X6_passHours ⟨Nat.le_of_ble_eq_true rfl, Nat.le_of_ble_eq_true rfl⟩ rfl rfl rfl rfl (Nat.le_of_ble_eq_true rfl) ⟨Nat.le_of_ble_eq_true rfl, Nat.le_of_ble_eq_true rfl⟩ dX8_pass_30 rfl (fun v w1 H locs hpost hP hD hS => ?_)
  obtain ⟨rfl, rfl⟩ := hpost
  have hP : va_P D vwCl (x8W u a r q ++ (svW ct r b ((nx + 1) % 4) (min (sz + 1) 4) (updS S nx M) ++ (sobjW a ++ (gridW ct a (sp_pass M n.toNat) ++ (benchW ct a (sp_pass M n.toNat) ++ (logW ct a (sp_pass M n.toNat) ++ (txtW ct q TX tl pl ft wd n1 n2))))))) H := hP
  have hD : va_D A (x8W u a r q ++ (svW ct r b ((nx + 1) % 4) (min (sz + 1) 4) (updS S nx M) ++ (sobjW a ++ (gridW ct a (sp_pass M n.toNat) ++ (benchW ct a (sp_pass M n.toNat) ++ (logW ct a (sp_pass M n.toNat) ++ (txtW ct q TX tl pl ft wd n1 n2))))))) := hD
  refine W.eq (g2 := F0 m 33 ls [.int (zI (sp_err (sp_pass M n.toNat)))]) rfl ?_
  exact z_iret hx hb hr hlocks hP hD hS ⟨Nat.le_of_ble_eq_true rfl, Nat.le_of_ble_eq_true rfl⟩ dX8_pass_33 (⟨congrArg (fun z => some (Value.int (zI z))) (rfl), rfl⟩)
