theorem tyk {v tl : Int} (hno : ¬ ((0 ≤ v ∧ v ≤ 127) ∧ tl < 150)) : (if 0 ≤ v ∧ v ≤ 127 then (if tl < 150 then 0 else 3) else 2 : Int) = (if 0 ≤ v ∧ v ≤ 127 then 3 else 2) := by
  by_cases h : 0 ≤ v ∧ v ≤ 127
  · rw [if_pos h, if_pos h, if_neg (by omega)]
  · rw [if_neg h, if_neg h]
set_option maxHeartbeats 4000000 in
set_option maxRecDepth 100000 in
theorem c_X8_refuse_1 (l : Launch) (D : va_G) (ct ad : Nat → Nat) (k : Int) (hst : l.stackTraces = false) (h0 : k = 1) : ZX l yX8_refuse wsX8_refuse ({ frames := 6, cells := 1, slots := 6, locals := 82 } : Room) D ct ad [.int (zI k)] ([]) "java/lang/IndexOutOfBoundsException" := by
  refine ZX.of (cc := cX8_refuse) (maxL := 1) (ret := none) (by decide +kernel) rfl (Nat.le_of_ble_eq_true rfl) ?_
  intro p e s m below meth c A ls hx hb hr hts hown hlocks hml hout hE hP hD hA hS hl
  have hK := hE.1
  have hf_0 := hts (.classLink RX8 282 "java/lang/IndexOutOfBoundsException") (by decide +kernel)
  have hf_1 := hts (.initialized "java/lang/IndexOutOfBoundsException") (by decide +kernel)
  have hl : lv_has ls 1 [(0, .int (zI k))] := hl
  refine lv_iload_n hx hb dX8_refuse_0 rfl (lv_at hl 0 rfl) ?_
  refine z_iconst hx hb dX8_refuse_1 ?_
  refine z_icmp_ne (tgt := 16) hx hb dX8_refuse_2 (by decide) (by omega) (by omega) (fun hc_2 => ?_) (fun hc_2 => ?_)
  · have hc_2 := hc_2
    omega
  · have hc_2 := hc_2
    exact z_throw (own := RX8) (cls := "java/lang/IndexOutOfBoundsException") (text := "there is nothing with this number") (ik := 282) (is := 284) (ic := 286) hx hb hst hown (by decide +kernel) hf_0 hf_1 hE.2.2.1.2.2.2.2.1 (fun w hw => hts w (by unfold wsX8_refuse; exact List.mem_cons_of_mem _ (List.mem_append_left _ (List.mem_append_left _ (List.mem_append_right _ hw))))) (by decide +kernel) (hE.2.1.1 _ (List.mem_of_getElem? (i := 18) rfl)) (by decide +kernel) hE hP hD hS hl hml dX8_refuse_5 dX8_refuse_8 dX8_refuse_9 dX8_refuse_12 dX8_refuse_15 hout ⟨Nat.le_of_ble_eq_true rfl, Nat.le_of_ble_eq_true rfl, Nat.le_of_ble_eq_true rfl, Nat.le_of_ble_eq_true rfl⟩ hlocks ⟨Nat.le_of_ble_eq_true rfl, Nat.le_of_ble_eq_true rfl⟩
set_option maxHeartbeats 4000000 in
set_option maxRecDepth 100000 in
theorem c_X8_refuse_2 (l : Launch) (D : va_G) (ct ad : Nat → Nat) (k : Int) (hst : l.stackTraces = false) (h0 : k = 2) : ZX l yX8_refuse wsX8_refuse ({ frames := 6, cells := 1, slots := 6, locals := 82 } : Room) D ct ad [.int (zI k)] ([]) "java/lang/IllegalArgumentException" := by
  refine ZX.of (cc := cX8_refuse) (maxL := 1) (ret := none) (by decide +kernel) rfl (Nat.le_of_ble_eq_true rfl) ?_
  intro p e s m below meth c A ls hx hb hr hts hown hlocks hml hout hE hP hD hA hS hl
  have hK := hE.1
  have hf_0 := hts (.classLink RX8 289 "java/lang/IllegalArgumentException") (by decide +kernel)
  have hf_1 := hts (.initialized "java/lang/IllegalArgumentException") (by decide +kernel)
  have hl : lv_has ls 1 [(0, .int (zI k))] := hl
  refine lv_iload_n hx hb dX8_refuse_0 rfl (lv_at hl 0 rfl) ?_
  refine z_iconst hx hb dX8_refuse_1 ?_
  refine z_icmp_ne (tgt := 16) hx hb dX8_refuse_2 (by decide) (by omega) (by omega) (fun hc_2 => ?_) (fun hc_2 => ?_)
  · have hc_2 := hc_2
    refine lv_iload_n hx hb dX8_refuse_16 rfl (lv_at hl 0 rfl) ?_
    refine z_iconst hx hb dX8_refuse_17 ?_
    refine z_icmp_ne (tgt := 32) hx hb dX8_refuse_18 (by decide) (by omega) (by omega) (fun hc_18 => ?_) (fun hc_18 => ?_)
    · have hc_18 := hc_18
      omega
    · have hc_18 := hc_18
      exact z_throw (own := RX8) (cls := "java/lang/IllegalArgumentException") (text := "an argument is out of its range") (ik := 289) (is := 291) (ic := 293) hx hb hst hown (by decide +kernel) hf_0 hf_1 hE.2.2.1.2.2.2.2.2.1 (fun w hw => hts w (by unfold wsX8_refuse; exact List.mem_cons_of_mem _ (List.mem_append_left _ (List.mem_append_right _ hw)))) (by decide +kernel) (hE.2.1.1 _ (List.mem_of_getElem? (i := 19) rfl)) (by decide +kernel) hE hP hD hS hl hml dX8_refuse_21 dX8_refuse_24 dX8_refuse_25 dX8_refuse_28 dX8_refuse_31 hout ⟨Nat.le_of_ble_eq_true rfl, Nat.le_of_ble_eq_true rfl, Nat.le_of_ble_eq_true rfl, Nat.le_of_ble_eq_true rfl⟩ hlocks ⟨Nat.le_of_ble_eq_true rfl, Nat.le_of_ble_eq_true rfl⟩
  · have hc_2 := hc_2
    omega
set_option maxHeartbeats 4000000 in
set_option maxRecDepth 100000 in
theorem c_X8_refuse_3 (l : Launch) (D : va_G) (ct ad : Nat → Nat) (k : Int) (hst : l.stackTraces = false) (h0 : k = 3) : ZX l yX8_refuse wsX8_refuse ({ frames := 6, cells := 1, slots := 6, locals := 82 } : Room) D ct ad [.int (zI k)] ([]) "java/lang/IllegalStateException" := by
  refine ZX.of (cc := cX8_refuse) (maxL := 1) (ret := none) (by decide +kernel) rfl (Nat.le_of_ble_eq_true rfl) ?_
  intro p e s m below meth c A ls hx hb hr hts hown hlocks hml hout hE hP hD hA hS hl
  have hK := hE.1
  have hf_0 := hts (.classLink RX8 294 "java/lang/IllegalStateException") (by decide +kernel)
  have hf_1 := hts (.initialized "java/lang/IllegalStateException") (by decide +kernel)
  have hl : lv_has ls 1 [(0, .int (zI k))] := hl
  refine lv_iload_n hx hb dX8_refuse_0 rfl (lv_at hl 0 rfl) ?_
  refine z_iconst hx hb dX8_refuse_1 ?_
  refine z_icmp_ne (tgt := 16) hx hb dX8_refuse_2 (by decide) (by omega) (by omega) (fun hc_2 => ?_) (fun hc_2 => ?_)
  · have hc_2 := hc_2
    refine lv_iload_n hx hb dX8_refuse_16 rfl (lv_at hl 0 rfl) ?_
    refine z_iconst hx hb dX8_refuse_17 ?_
    refine z_icmp_ne (tgt := 32) hx hb dX8_refuse_18 (by decide) (by omega) (by omega) (fun hc_18 => ?_) (fun hc_18 => ?_)
    · have hc_18 := hc_18
      refine lv_iload_n hx hb dX8_refuse_32 rfl (lv_at hl 0 rfl) ?_
      refine z_iconst hx hb dX8_refuse_33 ?_
      refine z_icmp_ne (tgt := 48) hx hb dX8_refuse_34 (by decide) (by omega) (by omega) (fun hc_34 => ?_) (fun hc_34 => ?_)
      · have hc_34 := hc_34
        omega
      · have hc_34 := hc_34
        exact z_throw (own := RX8) (cls := "java/lang/IllegalStateException") (text := "the bench does not allow this now") (ik := 294) (is := 296) (ic := 298) hx hb hst hown (by decide +kernel) hf_0 hf_1 hE.2.2.1.2.2.2.2.2.2 (fun w hw => hts w (by unfold wsX8_refuse; exact List.mem_cons_of_mem _ (List.mem_append_right _ hw))) (by decide +kernel) (hE.2.1.1 _ (List.mem_of_getElem? (i := 20) rfl)) (by decide +kernel) hE hP hD hS hl hml dX8_refuse_37 dX8_refuse_40 dX8_refuse_41 dX8_refuse_44 dX8_refuse_47 hout ⟨Nat.le_of_ble_eq_true rfl, Nat.le_of_ble_eq_true rfl, Nat.le_of_ble_eq_true rfl, Nat.le_of_ble_eq_true rfl⟩ hlocks ⟨Nat.le_of_ble_eq_true rfl, Nat.le_of_ble_eq_true rfl⟩
    · have hc_18 := hc_18
      omega
  · have hc_2 := hc_2
    omega
set_option maxHeartbeats 4000000 in
set_option maxRecDepth 100000 in
theorem c_X8_refuse_x (l : Launch) (D : va_G) (ct ad : Nat → Nat) (k : Int) (hst : l.stackTraces = false) (h0 : k = 1 ∨ k = 2 ∨ k = 3) : ZX l yX8_refuse wsX8_refuse ({ frames := 6, cells := 1, slots := 6, locals := 82 } : Room) D ct ad [.int (zI k)] ([]) (zEx k) := by
  rcases h0 with h | h | h
  · exact ZX.toE (c_X8_refuse_1 l D ct ad k hst h) (by rw [h]; rfl)
  · exact ZX.toE (c_X8_refuse_2 l D ct ad k hst h) (by rw [h]; rfl)
  · exact ZX.toE (c_X8_refuse_3 l D ct ad k hst h) (by rw [h]; rfl)
set_option maxHeartbeats 4000000 in
set_option maxRecDepth 100000 in
theorem c_X8_addMetal_x (l : Launch) (D : va_G) (ct ad : Nat → Nat) (u : Nat) (a r q : Nat → Nat) (b : Nat → Nat → Nat) (nx sz : Int) (S : Nat → Int → Int) (M TX : Int → Int) (tl pl ft n1 n2 : Int) (wd : Value) (v : Int) (hs : sInv M) (hst : l.stackTraces = false) (h2 : -2147483648 ≤ v ∧ v ≤ 2147483647) (hno : ck_metal M v ≠ 0) : ZX l yX8_addMetal wsX8_addMetal ({ frames := 7, cells := 1, slots := 6, locals := 102 } : Room) D ct ad [.ref u, .int (zI v)] (x8W u a r q ++ (svW ct r b nx sz S ++ (sobjW a ++ (gridW ct a M ++ (benchW ct a M ++ (logW ct a M ++ (txtW ct q TX tl pl ft wd n1 n2))))))) (zEx (ck_metal M v)) := by
  refine ZX.of (cc := cX8_addMetal) (maxL := 2) (ret := (some .int)) (by decide +kernel) rfl (Nat.le_of_ble_eq_true rfl) ?_
  intro p e s m below meth c A ls hx hb hr hts hown hlocks hml hout hE hP hD hA hS hl
  have hK := hE.1
  have hf_0 := hts (.fieldLink RX8 10 "RodGrids" "state" "LRodGrids$State;") (by decide +kernel)
  have hf_1 := hts (.fieldLink RX8 30 "RodGrids$State" "grid" "LRodGrids$Grid;") (by decide +kernel)
  have hin_X6 : ∀ z ∈ u_ws RX6 TX6 3, z ∈ wsX8_addMetal := by decide +kernel
  have hin_X8 : ∀ z ∈ u_ws RX8 TX8 3, z ∈ wsX8_addMetal := by decide +kernel
  have hl : lv_has ls 2 [(0, .ref u), (1, .int (zI v))] := hl
  have hI := hs.1
  have hB := hs.2.1
  have ha := hs.2.2
  have i3 := hI.1
  have i4 := hI.2.1
  have j0 := hB.1
  have j1 := hB.2.1
  have j2 := hB.2.2.1
  have j4 := hB.2.2.2.2
  have ckr : 0 ≤ ck_metal M v ∧ ck_metal M v ≤ 3 := by unfold ck_metal; (repeat' split) <;> omega
  refine lv_aload_n hx hb dX8_addMetal_0 rfl (lv_at hl 0 rfl) ?_
  refine va_get (D := D) (ci := 6) (v := .ref (a 0)) (C := RX8) (T := TX8) (N := 3) hx hb hts hin_X8 hown hK hP 0 rfl rfl 0 (by decide) hf_0 (fun _ h9 => h9) rfl dX8_addMetal_1 ?_
  refine va_get (D := D) (ci := 5) (v := .ref (a 1)) (C := RX6) (T := TX6) (N := 3) hx hb hts hin_X6 hown hK hP 47 rfl rfl 0 (by decide) hf_1 (fun _ h9 => h9) rfl dX8_addMetal_4 ?_
  refine lv_iload_n hx hb dX8_addMetal_7 rfl (lv_at hl 1 rfl) ?_
  refine z_callV (C := RX4) (q0 := 0) (ci := 3) (As := [.int (zI v)]) (rest := []) (x8W u a r q ++ (svW ct r b nx sz S ++ (sobjW a))) (benchW ct a M ++ (logW ct a M ++ (txtW ct q TX tl pl ft wd n1 n2))) hx hb hml hown hts hl hE hS hA hP hD (c_X4_checkNewMetal l D ct ad a M v (by assumption) (by omega)) gX8_addMetal_X4_checkNewMetal rfl rfl k_X4_checkNewMetal ⟨Nat.le_of_ble_eq_true rfl, Nat.le_of_ble_eq_true rfl⟩ rfl rfl rfl rfl (Nat.le_of_ble_eq_true rfl) ⟨Nat.le_of_ble_eq_true rfl, Nat.le_of_ble_eq_true rfl⟩ dX8_addMetal_8 rfl (fun v w1 H locs hpost hP hD hS => ?_)
  obtain ⟨rfl, rfl⟩ := hpost
  have hP : va_P D vwCl (x8W u a r q ++ (svW ct r b nx sz S ++ (sobjW a ++ (gridW ct a M ++ (benchW ct a M ++ (logW ct a M ++ (txtW ct q TX tl pl ft wd n1 n2))))))) H := hP
  have hD : va_D A (x8W u a r q ++ (svW ct r b nx sz S ++ (sobjW a ++ (gridW ct a M ++ (benchW ct a M ++ (logW ct a M ++ (txtW ct q TX tl pl ft wd n1 n2))))))) := hD
  refine W.eq (g2 := F0 m 11 ls [.int (zI (ck_metal M v))]) rfl ?_
  exact z_thrS (As := [.int (zI (ck_metal M v))]) (rest := []) ([] : va_W) (x8W u a r q ++ (svW ct r b nx sz S ++ (sobjW a ++ (gridW ct a M ++ (benchW ct a M ++ (logW ct a M ++ (txtW ct q TX tl pl ft wd n1 n2))))))) hx hb hml hown hts hl hE hS hA hP hD (c_X8_refuse_x l D ct ad (ck_metal M v) hst (by omega)) gX8_addMetal_X8_refuse rfl k_X8_refuse ⟨Nat.le_of_ble_eq_true rfl, Nat.le_of_ble_eq_true rfl⟩ rfl (Nat.le_of_ble_eq_true rfl) ⟨Nat.le_of_ble_eq_true rfl, Nat.le_of_ble_eq_true rfl⟩ dX8_addMetal_11 rfl hout hlocks ⟨Nat.le_of_ble_eq_true rfl, Nat.le_of_ble_eq_true rfl⟩ rfl
set_option maxHeartbeats 4000000 in
set_option maxRecDepth 100000 in
theorem c_X8_setStretch_x (l : Launch) (D : va_G) (ct ad : Nat → Nat) (u : Nat) (a r q : Nat → Nat) (b : Nat → Nat → Nat) (nx sz : Int) (S : Nat → Int → Int) (M TX : Int → Int) (tl pl ft n1 n2 : Int) (wd : Value) (k v : Int) (hs : sInv M) (hst : l.stackTraces = false) (h1 : -2147483648 ≤ k ∧ k ≤ 2147483647) (h2 : -2147483648 ≤ v ∧ v ≤ 2147483647) (hno : ck_stretch M k v ≠ 0) : ZX l yX8_setStretch wsX8_setStretch ({ frames := 7, cells := 1, slots := 6, locals := 102 } : Room) D ct ad [.ref u, .int (zI k), .int (zI v)] (x8W u a r q ++ (svW ct r b nx sz S ++ (sobjW a ++ (gridW ct a M ++ (benchW ct a M ++ (logW ct a M ++ (txtW ct q TX tl pl ft wd n1 n2))))))) (zEx (ck_stretch M k v)) := by
  refine ZX.of (cc := cX8_setStretch) (maxL := 3) (ret := (some .int)) (by decide +kernel) rfl (Nat.le_of_ble_eq_true rfl) ?_
  intro p e s m below meth c A ls hx hb hr hts hown hlocks hml hout hE hP hD hA hS hl
  have hK := hE.1
  have hf_0 := hts (.fieldLink RX8 10 "RodGrids" "state" "LRodGrids$State;") (by decide +kernel)
  have hf_1 := hts (.fieldLink RX8 30 "RodGrids$State" "grid" "LRodGrids$Grid;") (by decide +kernel)
  have hin_X6 : ∀ z ∈ u_ws RX6 TX6 3, z ∈ wsX8_setStretch := by decide +kernel
  have hin_X8 : ∀ z ∈ u_ws RX8 TX8 3, z ∈ wsX8_setStretch := by decide +kernel
  have hl : lv_has ls 3 [(0, .ref u), (1, .int (zI k)), (2, .int (zI v))] := hl
  have hI := hs.1
  have hB := hs.2.1
  have ha := hs.2.2
  have i3 := hI.1
  have i4 := hI.2.1
  have j0 := hB.1
  have j1 := hB.2.1
  have j2 := hB.2.2.1
  have j4 := hB.2.2.2.2
  have ckr : 0 ≤ ck_stretch M k v ∧ ck_stretch M k v ≤ 3 := by unfold ck_stretch; (repeat' split) <;> omega
  refine lv_aload_n hx hb dX8_setStretch_0 rfl (lv_at hl 0 rfl) ?_
  refine va_get (D := D) (ci := 6) (v := .ref (a 0)) (C := RX8) (T := TX8) (N := 3) hx hb hts hin_X8 hown hK hP 0 rfl rfl 0 (by decide) hf_0 (fun _ h9 => h9) rfl dX8_setStretch_1 ?_
  refine va_get (D := D) (ci := 5) (v := .ref (a 1)) (C := RX6) (T := TX6) (N := 3) hx hb hts hin_X6 hown hK hP 47 rfl rfl 0 (by decide) hf_1 (fun _ h9 => h9) rfl dX8_setStretch_4 ?_
  refine lv_iload_n hx hb dX8_setStretch_7 rfl (lv_at hl 1 rfl) ?_
  refine lv_iload_n hx hb dX8_setStretch_8 rfl (lv_at hl 2 rfl) ?_
  refine z_callV (C := RX4) (q0 := 0) (ci := 3) (As := [.int (zI k), .int (zI v)]) (rest := []) (x8W u a r q ++ (svW ct r b nx sz S ++ (sobjW a))) (benchW ct a M ++ (logW ct a M ++ (txtW ct q TX tl pl ft wd n1 n2))) hx hb hml hown hts hl hE hS hA hP hD (c_X4_checkStretch l D ct ad a M k v (by assumption) (by omega) (by omega)) gX8_setStretch_X4_checkStretch rfl rfl k_X4_checkStretch ⟨Nat.le_of_ble_eq_true rfl, Nat.le_of_ble_eq_true rfl⟩ rfl rfl rfl rfl (Nat.le_of_ble_eq_true rfl) ⟨Nat.le_of_ble_eq_true rfl, Nat.le_of_ble_eq_true rfl⟩ dX8_setStretch_9 rfl (fun v w1 H locs hpost hP hD hS => ?_)
  obtain ⟨rfl, rfl⟩ := hpost
  have hP : va_P D vwCl (x8W u a r q ++ (svW ct r b nx sz S ++ (sobjW a ++ (gridW ct a M ++ (benchW ct a M ++ (logW ct a M ++ (txtW ct q TX tl pl ft wd n1 n2))))))) H := hP
  have hD : va_D A (x8W u a r q ++ (svW ct r b nx sz S ++ (sobjW a ++ (gridW ct a M ++ (benchW ct a M ++ (logW ct a M ++ (txtW ct q TX tl pl ft wd n1 n2))))))) := hD
  refine W.eq (g2 := F0 m 12 ls [.int (zI (ck_stretch M k v))]) rfl ?_
  exact z_thrS (As := [.int (zI (ck_stretch M k v))]) (rest := []) ([] : va_W) (x8W u a r q ++ (svW ct r b nx sz S ++ (sobjW a ++ (gridW ct a M ++ (benchW ct a M ++ (logW ct a M ++ (txtW ct q TX tl pl ft wd n1 n2))))))) hx hb hml hown hts hl hE hS hA hP hD (c_X8_refuse_x l D ct ad (ck_stretch M k v) hst (by omega)) gX8_setStretch_X8_refuse rfl k_X8_refuse ⟨Nat.le_of_ble_eq_true rfl, Nat.le_of_ble_eq_true rfl⟩ rfl (Nat.le_of_ble_eq_true rfl) ⟨Nat.le_of_ble_eq_true rfl, Nat.le_of_ble_eq_true rfl⟩ dX8_setStretch_12 rfl hout hlocks ⟨Nat.le_of_ble_eq_true rfl, Nat.le_of_ble_eq_true rfl⟩ rfl
set_option maxHeartbeats 4000000 in
set_option maxRecDepth 100000 in
theorem c_X8_addRod_x (l : Launch) (D : va_G) (ct ad : Nat → Nat) (u : Nat) (a r q : Nat → Nat) (b : Nat → Nat → Nat) (nx sz : Int) (S : Nat → Int → Int) (M TX : Int → Int) (tl pl ft n1 n2 : Int) (wd : Value) (k d n : Int) (hs : sInv M) (hst : l.stackTraces = false) (h1 : -2147483648 ≤ k ∧ k ≤ 2147483647) (h2 : -2147483648 ≤ d ∧ d ≤ 2147483647) (h3 : -2147483648 ≤ n ∧ n ≤ 2147483647) (hno : ck_rod M k d n ≠ 0) : ZX l yX8_addRod wsX8_addRod ({ frames := 7, cells := 1, slots := 6, locals := 102 } : Room) D ct ad [.ref u, .int (zI k), .int (zI d), .int (zI n)] (x8W u a r q ++ (svW ct r b nx sz S ++ (sobjW a ++ (gridW ct a M ++ (benchW ct a M ++ (logW ct a M ++ (txtW ct q TX tl pl ft wd n1 n2))))))) (zEx (ck_rod M k d n)) := by
  refine ZX.of (cc := cX8_addRod) (maxL := 4) (ret := (some .int)) (by decide +kernel) rfl (Nat.le_of_ble_eq_true rfl) ?_
  intro p e s m below meth c A ls hx hb hr hts hown hlocks hml hout hE hP hD hA hS hl
  have hK := hE.1
  have hf_0 := hts (.fieldLink RX8 10 "RodGrids" "state" "LRodGrids$State;") (by decide +kernel)
  have hf_1 := hts (.fieldLink RX8 30 "RodGrids$State" "grid" "LRodGrids$Grid;") (by decide +kernel)
  have hin_X6 : ∀ z ∈ u_ws RX6 TX6 3, z ∈ wsX8_addRod := by decide +kernel
  have hin_X8 : ∀ z ∈ u_ws RX8 TX8 3, z ∈ wsX8_addRod := by decide +kernel
  have hl : lv_has ls 4 [(0, .ref u), (1, .int (zI k)), (2, .int (zI d)), (3, .int (zI n))] := hl
  have hI := hs.1
  have hB := hs.2.1
  have ha := hs.2.2
  have i3 := hI.1
  have i4 := hI.2.1
  have j0 := hB.1
  have j1 := hB.2.1
  have j2 := hB.2.2.1
  have j4 := hB.2.2.2.2
  have ckr : 0 ≤ ck_rod M k d n ∧ ck_rod M k d n ≤ 3 := by unfold ck_rod; (repeat' split) <;> omega
  refine lv_aload_n hx hb dX8_addRod_0 rfl (lv_at hl 0 rfl) ?_
  refine va_get (D := D) (ci := 6) (v := .ref (a 0)) (C := RX8) (T := TX8) (N := 3) hx hb hts hin_X8 hown hK hP 0 rfl rfl 0 (by decide) hf_0 (fun _ h9 => h9) rfl dX8_addRod_1 ?_
  refine va_get (D := D) (ci := 5) (v := .ref (a 1)) (C := RX6) (T := TX6) (N := 3) hx hb hts hin_X6 hown hK hP 47 rfl rfl 0 (by decide) hf_1 (fun _ h9 => h9) rfl dX8_addRod_4 ?_
  refine lv_iload_n hx hb dX8_addRod_7 rfl (lv_at hl 1 rfl) ?_
  refine lv_iload_n hx hb dX8_addRod_8 rfl (lv_at hl 2 rfl) ?_
  refine lv_iload_n hx hb dX8_addRod_9 rfl (lv_at hl 3 rfl) ?_
  refine z_callV (C := RX4) (q0 := 0) (ci := 3) (As := [.int (zI k), .int (zI d), .int (zI n)]) (rest := []) (x8W u a r q ++ (svW ct r b nx sz S ++ (sobjW a))) (benchW ct a M ++ (logW ct a M ++ (txtW ct q TX tl pl ft wd n1 n2))) hx hb hml hown hts hl hE hS hA hP hD (c_X4_checkNewRod l D ct ad a M k d n (by assumption) (by omega) (by omega) (by omega)) gX8_addRod_X4_checkNewRod rfl rfl k_X4_checkNewRod ⟨Nat.le_of_ble_eq_true rfl, Nat.le_of_ble_eq_true rfl⟩ rfl rfl rfl rfl (Nat.le_of_ble_eq_true rfl) ⟨Nat.le_of_ble_eq_true rfl, Nat.le_of_ble_eq_true rfl⟩ dX8_addRod_10 rfl (fun v w1 H locs hpost hP hD hS => ?_)
  obtain ⟨rfl, rfl⟩ := hpost
  have hP : va_P D vwCl (x8W u a r q ++ (svW ct r b nx sz S ++ (sobjW a ++ (gridW ct a M ++ (benchW ct a M ++ (logW ct a M ++ (txtW ct q TX tl pl ft wd n1 n2))))))) H := hP
  have hD : va_D A (x8W u a r q ++ (svW ct r b nx sz S ++ (sobjW a ++ (gridW ct a M ++ (benchW ct a M ++ (logW ct a M ++ (txtW ct q TX tl pl ft wd n1 n2))))))) := hD
  refine W.eq (g2 := F0 m 13 ls [.int (zI (ck_rod M k d n))]) rfl ?_
  exact z_thrS (As := [.int (zI (ck_rod M k d n))]) (rest := []) ([] : va_W) (x8W u a r q ++ (svW ct r b nx sz S ++ (sobjW a ++ (gridW ct a M ++ (benchW ct a M ++ (logW ct a M ++ (txtW ct q TX tl pl ft wd n1 n2))))))) hx hb hml hown hts hl hE hS hA hP hD (c_X8_refuse_x l D ct ad (ck_rod M k d n) hst (by omega)) gX8_addRod_X8_refuse rfl k_X8_refuse ⟨Nat.le_of_ble_eq_true rfl, Nat.le_of_ble_eq_true rfl⟩ rfl (Nat.le_of_ble_eq_true rfl) ⟨Nat.le_of_ble_eq_true rfl, Nat.le_of_ble_eq_true rfl⟩ dX8_addRod_13 rfl hout hlocks ⟨Nat.le_of_ble_eq_true rfl, Nat.le_of_ble_eq_true rfl⟩ rfl
set_option maxHeartbeats 4000000 in
set_option maxRecDepth 100000 in
theorem c_X8_setLength_x (l : Launch) (D : va_G) (ct ad : Nat → Nat) (u : Nat) (a r q : Nat → Nat) (b : Nat → Nat → Nat) (nx sz : Int) (S : Nat → Int → Int) (M TX : Int → Int) (tl pl ft n1 n2 : Int) (wd : Value) (k n : Int) (hs : sInv M) (hst : l.stackTraces = false) (h1 : -2147483648 ≤ k ∧ k ≤ 2147483647) (h2 : -2147483648 ≤ n ∧ n ≤ 2147483647) (hno : ck_length M k n ≠ 0) : ZX l yX8_setLength wsX8_setLength ({ frames := 7, cells := 1, slots := 6, locals := 102 } : Room) D ct ad [.ref u, .int (zI k), .int (zI n)] (x8W u a r q ++ (svW ct r b nx sz S ++ (sobjW a ++ (gridW ct a M ++ (benchW ct a M ++ (logW ct a M ++ (txtW ct q TX tl pl ft wd n1 n2))))))) (zEx (ck_length M k n)) := by
  refine ZX.of (cc := cX8_setLength) (maxL := 3) (ret := (some .int)) (by decide +kernel) rfl (Nat.le_of_ble_eq_true rfl) ?_
  intro p e s m below meth c A ls hx hb hr hts hown hlocks hml hout hE hP hD hA hS hl
  have hK := hE.1
  have hf_0 := hts (.fieldLink RX8 10 "RodGrids" "state" "LRodGrids$State;") (by decide +kernel)
  have hf_1 := hts (.fieldLink RX8 30 "RodGrids$State" "grid" "LRodGrids$Grid;") (by decide +kernel)
  have hin_X6 : ∀ z ∈ u_ws RX6 TX6 3, z ∈ wsX8_setLength := by decide +kernel
  have hin_X8 : ∀ z ∈ u_ws RX8 TX8 3, z ∈ wsX8_setLength := by decide +kernel
  have hl : lv_has ls 3 [(0, .ref u), (1, .int (zI k)), (2, .int (zI n))] := hl
  have hI := hs.1
  have hB := hs.2.1
  have ha := hs.2.2
  have i3 := hI.1
  have i4 := hI.2.1
  have j0 := hB.1
  have j1 := hB.2.1
  have j2 := hB.2.2.1
  have j4 := hB.2.2.2.2
  have ckr : 0 ≤ ck_length M k n ∧ ck_length M k n ≤ 3 := by unfold ck_length; (repeat' split) <;> omega
  refine lv_aload_n hx hb dX8_setLength_0 rfl (lv_at hl 0 rfl) ?_
  refine va_get (D := D) (ci := 6) (v := .ref (a 0)) (C := RX8) (T := TX8) (N := 3) hx hb hts hin_X8 hown hK hP 0 rfl rfl 0 (by decide) hf_0 (fun _ h9 => h9) rfl dX8_setLength_1 ?_
  refine va_get (D := D) (ci := 5) (v := .ref (a 1)) (C := RX6) (T := TX6) (N := 3) hx hb hts hin_X6 hown hK hP 47 rfl rfl 0 (by decide) hf_1 (fun _ h9 => h9) rfl dX8_setLength_4 ?_
  refine lv_iload_n hx hb dX8_setLength_7 rfl (lv_at hl 1 rfl) ?_
  refine lv_iload_n hx hb dX8_setLength_8 rfl (lv_at hl 2 rfl) ?_
  refine z_callV (C := RX4) (q0 := 0) (ci := 3) (As := [.int (zI k), .int (zI n)]) (rest := []) (x8W u a r q ++ (svW ct r b nx sz S ++ (sobjW a))) (benchW ct a M ++ (logW ct a M ++ (txtW ct q TX tl pl ft wd n1 n2))) hx hb hml hown hts hl hE hS hA hP hD (c_X4_checkLength l D ct ad a M k n (by assumption) (by omega) (by omega)) gX8_setLength_X4_checkLength rfl rfl k_X4_checkLength ⟨Nat.le_of_ble_eq_true rfl, Nat.le_of_ble_eq_true rfl⟩ rfl rfl rfl rfl (Nat.le_of_ble_eq_true rfl) ⟨Nat.le_of_ble_eq_true rfl, Nat.le_of_ble_eq_true rfl⟩ dX8_setLength_9 rfl (fun v w1 H locs hpost hP hD hS => ?_)
  obtain ⟨rfl, rfl⟩ := hpost
  have hP : va_P D vwCl (x8W u a r q ++ (svW ct r b nx sz S ++ (sobjW a ++ (gridW ct a M ++ (benchW ct a M ++ (logW ct a M ++ (txtW ct q TX tl pl ft wd n1 n2))))))) H := hP
  have hD : va_D A (x8W u a r q ++ (svW ct r b nx sz S ++ (sobjW a ++ (gridW ct a M ++ (benchW ct a M ++ (logW ct a M ++ (txtW ct q TX tl pl ft wd n1 n2))))))) := hD
  refine W.eq (g2 := F0 m 12 ls [.int (zI (ck_length M k n))]) rfl ?_
  exact z_thrS (As := [.int (zI (ck_length M k n))]) (rest := []) ([] : va_W) (x8W u a r q ++ (svW ct r b nx sz S ++ (sobjW a ++ (gridW ct a M ++ (benchW ct a M ++ (logW ct a M ++ (txtW ct q TX tl pl ft wd n1 n2))))))) hx hb hml hown hts hl hE hS hA hP hD (c_X8_refuse_x l D ct ad (ck_length M k n) hst (by omega)) gX8_setLength_X8_refuse rfl k_X8_refuse ⟨Nat.le_of_ble_eq_true rfl, Nat.le_of_ble_eq_true rfl⟩ rfl (Nat.le_of_ble_eq_true rfl) ⟨Nat.le_of_ble_eq_true rfl, Nat.le_of_ble_eq_true rfl⟩ dX8_setLength_12 rfl hout hlocks ⟨Nat.le_of_ble_eq_true rfl, Nat.le_of_ble_eq_true rfl⟩ rfl
set_option maxHeartbeats 4000000 in
set_option maxRecDepth 100000 in
theorem c_X8_setShelf_x (l : Launch) (D : va_G) (ct ad : Nat → Nat) (u : Nat) (a r q : Nat → Nat) (b : Nat → Nat → Nat) (nx sz : Int) (S : Nat → Int → Int) (M TX : Int → Int) (tl pl ft n1 n2 : Int) (wd : Value) (k v : Int) (hs : sInv M) (hst : l.stackTraces = false) (h1 : -2147483648 ≤ k ∧ k ≤ 2147483647) (h2 : -2147483648 ≤ v ∧ v ≤ 2147483647) (hno : ck_warm k v ≠ 0) : ZX l yX8_setShelf wsX8_setShelf ({ frames := 7, cells := 1, slots := 6, locals := 102 } : Room) D ct ad [.ref u, .int (zI k), .int (zI v)] (x8W u a r q ++ (svW ct r b nx sz S ++ (sobjW a ++ (gridW ct a M ++ (benchW ct a M ++ (logW ct a M ++ (txtW ct q TX tl pl ft wd n1 n2))))))) (zEx (ck_warm k v)) := by
  refine ZX.of (cc := cX8_setShelf) (maxL := 3) (ret := (some .int)) (by decide +kernel) rfl (Nat.le_of_ble_eq_true rfl) ?_
  intro p e s m below meth c A ls hx hb hr hts hown hlocks hml hout hE hP hD hA hS hl
  have hK := hE.1
  have hf_0 := hts (.fieldLink RX8 10 "RodGrids" "state" "LRodGrids$State;") (by decide +kernel)
  have hf_1 := hts (.fieldLink RX8 77 "RodGrids$State" "bench" "LRodGrids$Bench;") (by decide +kernel)
  have hin_X6 : ∀ z ∈ u_ws RX6 TX6 3, z ∈ wsX8_setShelf := by decide +kernel
  have hin_X8 : ∀ z ∈ u_ws RX8 TX8 3, z ∈ wsX8_setShelf := by decide +kernel
  have hl : lv_has ls 3 [(0, .ref u), (1, .int (zI k)), (2, .int (zI v))] := hl
  have hI := hs.1
  have hB := hs.2.1
  have ha := hs.2.2
  have i3 := hI.1
  have i4 := hI.2.1
  have j0 := hB.1
  have j1 := hB.2.1
  have j2 := hB.2.2.1
  have j4 := hB.2.2.2.2
  have ckr : 0 ≤ ck_warm k v ∧ ck_warm k v ≤ 3 := by unfold ck_warm; (repeat' split) <;> omega
  refine lv_aload_n hx hb dX8_setShelf_0 rfl (lv_at hl 0 rfl) ?_
  refine va_get (D := D) (ci := 6) (v := .ref (a 0)) (C := RX8) (T := TX8) (N := 3) hx hb hts hin_X8 hown hK hP 0 rfl rfl 0 (by decide) hf_0 (fun _ h9 => h9) rfl dX8_setShelf_1 ?_
  refine va_get (D := D) (ci := 5) (v := .ref (a 6)) (C := RX6) (T := TX6) (N := 3) hx hb hts hin_X6 hown hK hP 47 rfl rfl 1 (by decide) hf_1 (fun _ h9 => h9) rfl dX8_setShelf_4 ?_
  refine lv_iload_n hx hb dX8_setShelf_7 rfl (lv_at hl 1 rfl) ?_
  refine lv_iload_n hx hb dX8_setShelf_8 rfl (lv_at hl 2 rfl) ?_
  refine z_callV (C := RX1) (q0 := 0) (ci := 0) (As := [.int (zI k), .int (zI v)]) (rest := []) (x8W u a r q ++ (svW ct r b nx sz S ++ (sobjW a ++ (gridW ct a M)))) (logW ct a M ++ (txtW ct q TX tl pl ft wd n1 n2)) hx hb hml hown hts hl hE hS hA hP hD (c_X1_checkShelfWarmth l D ct ad a M k v (by omega) (by omega)) gX8_setShelf_X1_checkShelfWarmth rfl rfl k_X1_checkShelfWarmth ⟨Nat.le_of_ble_eq_true rfl, Nat.le_of_ble_eq_true rfl⟩ rfl rfl rfl rfl (Nat.le_of_ble_eq_true rfl) ⟨Nat.le_of_ble_eq_true rfl, Nat.le_of_ble_eq_true rfl⟩ dX8_setShelf_9 rfl (fun v w1 H locs hpost hP hD hS => ?_)
  obtain ⟨rfl, rfl⟩ := hpost
  have hP : va_P D vwCl (x8W u a r q ++ (svW ct r b nx sz S ++ (sobjW a ++ (gridW ct a M ++ (benchW ct a M ++ (logW ct a M ++ (txtW ct q TX tl pl ft wd n1 n2))))))) H := hP
  have hD : va_D A (x8W u a r q ++ (svW ct r b nx sz S ++ (sobjW a ++ (gridW ct a M ++ (benchW ct a M ++ (logW ct a M ++ (txtW ct q TX tl pl ft wd n1 n2))))))) := hD
  refine W.eq (g2 := F0 m 12 ls [.int (zI (ck_warm k v))]) rfl ?_
  exact z_thrS (As := [.int (zI (ck_warm k v))]) (rest := []) ([] : va_W) (x8W u a r q ++ (svW ct r b nx sz S ++ (sobjW a ++ (gridW ct a M ++ (benchW ct a M ++ (logW ct a M ++ (txtW ct q TX tl pl ft wd n1 n2))))))) hx hb hml hown hts hl hE hS hA hP hD (c_X8_refuse_x l D ct ad (ck_warm k v) hst (by omega)) gX8_setShelf_X8_refuse rfl k_X8_refuse ⟨Nat.le_of_ble_eq_true rfl, Nat.le_of_ble_eq_true rfl⟩ rfl (Nat.le_of_ble_eq_true rfl) ⟨Nat.le_of_ble_eq_true rfl, Nat.le_of_ble_eq_true rfl⟩ dX8_setShelf_12 rfl hout hlocks ⟨Nat.le_of_ble_eq_true rfl, Nat.le_of_ble_eq_true rfl⟩ rfl
set_option maxHeartbeats 4000000 in
set_option maxRecDepth 100000 in
theorem c_X8_hang_x (l : Launch) (D : va_G) (ct ad : Nat → Nat) (u : Nat) (a r q : Nat → Nat) (b : Nat → Nat → Nat) (nx sz : Int) (S : Nat → Int → Int) (M TX : Int → Int) (tl pl ft n1 n2 : Int) (wd : Value) (k : Int) (hs : sInv M) (hst : l.stackTraces = false) (h1 : -2147483648 ≤ k ∧ k ≤ 2147483647) (hno : ck_shelf k ≠ 0) : ZX l yX8_hang wsX8_hang ({ frames := 7, cells := 1, slots := 6, locals := 102 } : Room) D ct ad [.ref u, .int (zI k)] (x8W u a r q ++ (svW ct r b nx sz S ++ (sobjW a ++ (gridW ct a M ++ (benchW ct a M ++ (logW ct a M ++ (txtW ct q TX tl pl ft wd n1 n2))))))) (zEx (ck_shelf k)) := by
  refine ZX.of (cc := cX8_hang) (maxL := 2) (ret := (some .int)) (by decide +kernel) rfl (Nat.le_of_ble_eq_true rfl) ?_
  intro p e s m below meth c A ls hx hb hr hts hown hlocks hml hout hE hP hD hA hS hl
  have hK := hE.1
  have hf_0 := hts (.fieldLink RX8 10 "RodGrids" "state" "LRodGrids$State;") (by decide +kernel)
  have hf_1 := hts (.fieldLink RX8 77 "RodGrids$State" "bench" "LRodGrids$Bench;") (by decide +kernel)
  have hin_X6 : ∀ z ∈ u_ws RX6 TX6 3, z ∈ wsX8_hang := by decide +kernel
  have hin_X8 : ∀ z ∈ u_ws RX8 TX8 3, z ∈ wsX8_hang := by decide +kernel
  have hl : lv_has ls 2 [(0, .ref u), (1, .int (zI k))] := hl
  have hI := hs.1
  have hB := hs.2.1
  have ha := hs.2.2
  have i3 := hI.1
  have i4 := hI.2.1
  have j0 := hB.1
  have j1 := hB.2.1
  have j2 := hB.2.2.1
  have j4 := hB.2.2.2.2
  have ckr : 0 ≤ ck_shelf k ∧ ck_shelf k ≤ 3 := by unfold ck_shelf; (repeat' split) <;> omega
  refine lv_aload_n hx hb dX8_hang_0 rfl (lv_at hl 0 rfl) ?_
  refine va_get (D := D) (ci := 6) (v := .ref (a 0)) (C := RX8) (T := TX8) (N := 3) hx hb hts hin_X8 hown hK hP 0 rfl rfl 0 (by decide) hf_0 (fun _ h9 => h9) rfl dX8_hang_1 ?_
  refine va_get (D := D) (ci := 5) (v := .ref (a 6)) (C := RX6) (T := TX6) (N := 3) hx hb hts hin_X6 hown hK hP 47 rfl rfl 1 (by decide) hf_1 (fun _ h9 => h9) rfl dX8_hang_4 ?_
  refine lv_iload_n hx hb dX8_hang_7 rfl (lv_at hl 1 rfl) ?_
  refine z_callV (C := RX1) (q0 := 0) (ci := 0) (As := [.int (zI k)]) (rest := []) (x8W u a r q ++ (svW ct r b nx sz S ++ (sobjW a ++ (gridW ct a M)))) (logW ct a M ++ (txtW ct q TX tl pl ft wd n1 n2)) hx hb hml hown hts hl hE hS hA hP hD (c_X1_checkShelf l D ct ad a M k (by omega)) gX8_hang_X1_checkShelf rfl rfl k_X1_checkShelf ⟨Nat.le_of_ble_eq_true rfl, Nat.le_of_ble_eq_true rfl⟩ rfl rfl rfl rfl (Nat.le_of_ble_eq_true rfl) ⟨Nat.le_of_ble_eq_true rfl, Nat.le_of_ble_eq_true rfl⟩ dX8_hang_8 rfl (fun v w1 H locs hpost hP hD hS => ?_)
  obtain ⟨rfl, rfl⟩ := hpost
  have hP : va_P D vwCl (x8W u a r q ++ (svW ct r b nx sz S ++ (sobjW a ++ (gridW ct a M ++ (benchW ct a M ++ (logW ct a M ++ (txtW ct q TX tl pl ft wd n1 n2))))))) H := hP
  have hD : va_D A (x8W u a r q ++ (svW ct r b nx sz S ++ (sobjW a ++ (gridW ct a M ++ (benchW ct a M ++ (logW ct a M ++ (txtW ct q TX tl pl ft wd n1 n2))))))) := hD
  refine W.eq (g2 := F0 m 11 ls [.int (zI (ck_shelf k))]) rfl ?_
  exact z_thrS (As := [.int (zI (ck_shelf k))]) (rest := []) ([] : va_W) (x8W u a r q ++ (svW ct r b nx sz S ++ (sobjW a ++ (gridW ct a M ++ (benchW ct a M ++ (logW ct a M ++ (txtW ct q TX tl pl ft wd n1 n2))))))) hx hb hml hown hts hl hE hS hA hP hD (c_X8_refuse_x l D ct ad (ck_shelf k) hst (by omega)) gX8_hang_X8_refuse rfl k_X8_refuse ⟨Nat.le_of_ble_eq_true rfl, Nat.le_of_ble_eq_true rfl⟩ rfl (Nat.le_of_ble_eq_true rfl) ⟨Nat.le_of_ble_eq_true rfl, Nat.le_of_ble_eq_true rfl⟩ dX8_hang_11 rfl hout hlocks ⟨Nat.le_of_ble_eq_true rfl, Nat.le_of_ble_eq_true rfl⟩ rfl
set_option maxHeartbeats 4000000 in
set_option maxRecDepth 100000 in
theorem c_X8_turnNut_x (l : Launch) (D : va_G) (ct ad : Nat → Nat) (u : Nat) (a r q : Nat → Nat) (b : Nat → Nat → Nat) (nx sz : Int) (S : Nat → Int → Int) (M TX : Int → Int) (tl pl ft n1 n2 : Int) (wd : Value) (v : Int) (hs : sInv M) (hst : l.stackTraces = false) (h1 : -2147483648 ≤ v ∧ v ≤ 2147483647) (hno : ck_turn M v ≠ 0) : ZX l yX8_turnNut wsX8_turnNut ({ frames := 7, cells := 1, slots := 6, locals := 102 } : Room) D ct ad [.ref u, .int (zI v)] (x8W u a r q ++ (svW ct r b nx sz S ++ (sobjW a ++ (gridW ct a M ++ (benchW ct a M ++ (logW ct a M ++ (txtW ct q TX tl pl ft wd n1 n2))))))) (zEx (ck_turn M v)) := by
  refine ZX.of (cc := cX8_turnNut) (maxL := 2) (ret := (some .int)) (by decide +kernel) rfl (Nat.le_of_ble_eq_true rfl) ?_
  intro p e s m below meth c A ls hx hb hr hts hown hlocks hml hout hE hP hD hA hS hl
  have hK := hE.1
  have hf_0 := hts (.fieldLink RX8 10 "RodGrids" "state" "LRodGrids$State;") (by decide +kernel)
  have hf_1 := hts (.fieldLink RX8 77 "RodGrids$State" "bench" "LRodGrids$Bench;") (by decide +kernel)
  have hin_X6 : ∀ z ∈ u_ws RX6 TX6 3, z ∈ wsX8_turnNut := by decide +kernel
  have hin_X8 : ∀ z ∈ u_ws RX8 TX8 3, z ∈ wsX8_turnNut := by decide +kernel
  have hl : lv_has ls 2 [(0, .ref u), (1, .int (zI v))] := hl
  have hI := hs.1
  have hB := hs.2.1
  have ha := hs.2.2
  have i3 := hI.1
  have i4 := hI.2.1
  have j0 := hB.1
  have j1 := hB.2.1
  have j2 := hB.2.2.1
  have j4 := hB.2.2.2.2
  have ckr : 0 ≤ ck_turn M v ∧ ck_turn M v ≤ 3 := by unfold ck_turn; (repeat' split) <;> omega
  refine lv_aload_n hx hb dX8_turnNut_0 rfl (lv_at hl 0 rfl) ?_
  refine va_get (D := D) (ci := 6) (v := .ref (a 0)) (C := RX8) (T := TX8) (N := 3) hx hb hts hin_X8 hown hK hP 0 rfl rfl 0 (by decide) hf_0 (fun _ h9 => h9) rfl dX8_turnNut_1 ?_
  refine va_get (D := D) (ci := 5) (v := .ref (a 6)) (C := RX6) (T := TX6) (N := 3) hx hb hts hin_X6 hown hK hP 47 rfl rfl 1 (by decide) hf_1 (fun _ h9 => h9) rfl dX8_turnNut_4 ?_
  refine lv_iload_n hx hb dX8_turnNut_7 rfl (lv_at hl 1 rfl) ?_
  refine z_callV (C := RX1) (q0 := 0) (ci := 0) (As := [.int (zI v)]) (rest := []) (x8W u a r q ++ (svW ct r b nx sz S ++ (sobjW a ++ (gridW ct a M)))) (logW ct a M ++ (txtW ct q TX tl pl ft wd n1 n2)) hx hb hml hown hts hl hE hS hA hP hD (c_X1_checkTurn l D ct ad a M v (by assumption) (by omega)) gX8_turnNut_X1_checkTurn rfl rfl k_X1_checkTurn ⟨Nat.le_of_ble_eq_true rfl, Nat.le_of_ble_eq_true rfl⟩ rfl rfl rfl rfl (Nat.le_of_ble_eq_true rfl) ⟨Nat.le_of_ble_eq_true rfl, Nat.le_of_ble_eq_true rfl⟩ dX8_turnNut_8 rfl (fun v w1 H locs hpost hP hD hS => ?_)
  obtain ⟨rfl, rfl⟩ := hpost
  have hP : va_P D vwCl (x8W u a r q ++ (svW ct r b nx sz S ++ (sobjW a ++ (gridW ct a M ++ (benchW ct a M ++ (logW ct a M ++ (txtW ct q TX tl pl ft wd n1 n2))))))) H := hP
  have hD : va_D A (x8W u a r q ++ (svW ct r b nx sz S ++ (sobjW a ++ (gridW ct a M ++ (benchW ct a M ++ (logW ct a M ++ (txtW ct q TX tl pl ft wd n1 n2))))))) := hD
  refine W.eq (g2 := F0 m 11 ls [.int (zI (ck_turn M v))]) rfl ?_
  exact z_thrS (As := [.int (zI (ck_turn M v))]) (rest := []) ([] : va_W) (x8W u a r q ++ (svW ct r b nx sz S ++ (sobjW a ++ (gridW ct a M ++ (benchW ct a M ++ (logW ct a M ++ (txtW ct q TX tl pl ft wd n1 n2))))))) hx hb hml hown hts hl hE hS hA hP hD (c_X8_refuse_x l D ct ad (ck_turn M v) hst (by omega)) gX8_turnNut_X8_refuse rfl k_X8_refuse ⟨Nat.le_of_ble_eq_true rfl, Nat.le_of_ble_eq_true rfl⟩ rfl (Nat.le_of_ble_eq_true rfl) ⟨Nat.le_of_ble_eq_true rfl, Nat.le_of_ble_eq_true rfl⟩ dX8_turnNut_11 rfl hout hlocks ⟨Nat.le_of_ble_eq_true rfl, Nat.le_of_ble_eq_true rfl⟩ rfl
set_option maxHeartbeats 4000000 in
set_option maxRecDepth 100000 in
theorem c_X8_set_x (l : Launch) (D : va_G) (ct ad : Nat → Nat) (u : Nat) (a r q : Nat → Nat) (b : Nat → Nat → Nat) (nx sz : Int) (S : Nat → Int → Int) (M TX : Int → Int) (tl pl ft n1 n2 : Int) (wd : Value) (k v : Int) (hs : sInv M) (hst : l.stackTraces = false) (h1 : -2147483648 ≤ k ∧ k ≤ 2147483647) (h2 : -2147483648 ≤ v ∧ v ≤ 2147483647) (hno : ck_set k v ≠ 0) : ZX l yX8_set wsX8_set ({ frames := 7, cells := 1, slots := 6, locals := 102 } : Room) D ct ad [.ref u, .int (zI k), .int (zI v)] (x8W u a r q ++ (svW ct r b nx sz S ++ (sobjW a ++ (gridW ct a M ++ (benchW ct a M ++ (logW ct a M ++ (txtW ct q TX tl pl ft wd n1 n2))))))) (zEx (ck_set k v)) := by
  refine ZX.of (cc := cX8_set) (maxL := 3) (ret := (some .int)) (by decide +kernel) rfl (Nat.le_of_ble_eq_true rfl) ?_
  intro p e s m below meth c A ls hx hb hr hts hown hlocks hml hout hE hP hD hA hS hl
  have hK := hE.1
  have hf_0 := hts (.fieldLink RX8 10 "RodGrids" "state" "LRodGrids$State;") (by decide +kernel)
  have hf_1 := hts (.fieldLink RX8 77 "RodGrids$State" "bench" "LRodGrids$Bench;") (by decide +kernel)
  have hin_X6 : ∀ z ∈ u_ws RX6 TX6 3, z ∈ wsX8_set := by decide +kernel
  have hin_X8 : ∀ z ∈ u_ws RX8 TX8 3, z ∈ wsX8_set := by decide +kernel
  have hl : lv_has ls 3 [(0, .ref u), (1, .int (zI k)), (2, .int (zI v))] := hl
  have hI := hs.1
  have hB := hs.2.1
  have ha := hs.2.2
  have i3 := hI.1
  have i4 := hI.2.1
  have j0 := hB.1
  have j1 := hB.2.1
  have j2 := hB.2.2.1
  have j4 := hB.2.2.2.2
  have ckr : 0 ≤ ck_set k v ∧ ck_set k v ≤ 3 := by unfold ck_set; (repeat' split) <;> omega
  refine lv_aload_n hx hb dX8_set_0 rfl (lv_at hl 0 rfl) ?_
  refine va_get (D := D) (ci := 6) (v := .ref (a 0)) (C := RX8) (T := TX8) (N := 3) hx hb hts hin_X8 hown hK hP 0 rfl rfl 0 (by decide) hf_0 (fun _ h9 => h9) rfl dX8_set_1 ?_
  refine va_get (D := D) (ci := 5) (v := .ref (a 6)) (C := RX6) (T := TX6) (N := 3) hx hb hts hin_X6 hown hK hP 47 rfl rfl 1 (by decide) hf_1 (fun _ h9 => h9) rfl dX8_set_4 ?_
  refine lv_iload_n hx hb dX8_set_7 rfl (lv_at hl 1 rfl) ?_
  refine lv_iload_n hx hb dX8_set_8 rfl (lv_at hl 2 rfl) ?_
  refine z_callV (C := RX1) (q0 := 0) (ci := 0) (As := [.int (zI k), .int (zI v)]) (rest := []) (x8W u a r q ++ (svW ct r b nx sz S ++ (sobjW a ++ (gridW ct a M)))) (logW ct a M ++ (txtW ct q TX tl pl ft wd n1 n2)) hx hb hml hown hts hl hE hS hA hP hD (c_X1_checkSetting l D ct ad a M k v (by omega) (by omega)) gX8_set_X1_checkSetting rfl rfl k_X1_checkSetting ⟨Nat.le_of_ble_eq_true rfl, Nat.le_of_ble_eq_true rfl⟩ rfl rfl rfl rfl (Nat.le_of_ble_eq_true rfl) ⟨Nat.le_of_ble_eq_true rfl, Nat.le_of_ble_eq_true rfl⟩ dX8_set_9 rfl (fun v w1 H locs hpost hP hD hS => ?_)
  obtain ⟨rfl, rfl⟩ := hpost
  have hP : va_P D vwCl (x8W u a r q ++ (svW ct r b nx sz S ++ (sobjW a ++ (gridW ct a M ++ (benchW ct a M ++ (logW ct a M ++ (txtW ct q TX tl pl ft wd n1 n2))))))) H := hP
  have hD : va_D A (x8W u a r q ++ (svW ct r b nx sz S ++ (sobjW a ++ (gridW ct a M ++ (benchW ct a M ++ (logW ct a M ++ (txtW ct q TX tl pl ft wd n1 n2))))))) := hD
  refine W.eq (g2 := F0 m 12 ls [.int (zI (ck_set k v))]) rfl ?_
  exact z_thrS (As := [.int (zI (ck_set k v))]) (rest := []) ([] : va_W) (x8W u a r q ++ (svW ct r b nx sz S ++ (sobjW a ++ (gridW ct a M ++ (benchW ct a M ++ (logW ct a M ++ (txtW ct q TX tl pl ft wd n1 n2))))))) hx hb hml hown hts hl hE hS hA hP hD (c_X8_refuse_x l D ct ad (ck_set k v) hst (by omega)) gX8_set_X8_refuse rfl k_X8_refuse ⟨Nat.le_of_ble_eq_true rfl, Nat.le_of_ble_eq_true rfl⟩ rfl (Nat.le_of_ble_eq_true rfl) ⟨Nat.le_of_ble_eq_true rfl, Nat.le_of_ble_eq_true rfl⟩ dX8_set_12 rfl hout hlocks ⟨Nat.le_of_ble_eq_true rfl, Nat.le_of_ble_eq_true rfl⟩ rfl
set_option maxHeartbeats 4000000 in
set_option maxRecDepth 100000 in
theorem c_X8_pass_x (l : Launch) (D : va_G) (ct ad : Nat → Nat) (u : Nat) (a r q : Nat → Nat) (b : Nat → Nat → Nat) (nx sz : Int) (S : Nat → Int → Int) (M TX : Int → Int) (tl pl ft n1 n2 : Int) (wd : Value) (n : Int) (hs : sInv M) (hst : l.stackTraces = false) (h1 : -2147483648 ≤ n ∧ n ≤ 2147483647) (hno : ck_hours M n ≠ 0) : ZX l yX8_pass wsX8_pass ({ frames := 7, cells := 1, slots := 6, locals := 102 } : Room) D ct ad [.ref u, .int (zI n)] (x8W u a r q ++ (svW ct r b nx sz S ++ (sobjW a ++ (gridW ct a M ++ (benchW ct a M ++ (logW ct a M ++ (txtW ct q TX tl pl ft wd n1 n2))))))) (zEx (ck_hours M n)) := by
  refine ZX.of (cc := cX8_pass) (maxL := 2) (ret := (some .int)) (by decide +kernel) rfl (Nat.le_of_ble_eq_true rfl) ?_
  intro p e s m below meth c A ls hx hb hr hts hown hlocks hml hout hE hP hD hA hS hl
  have hK := hE.1
  have hf_0 := hts (.fieldLink RX8 10 "RodGrids" "state" "LRodGrids$State;") (by decide +kernel)
  have hf_1 := hts (.fieldLink RX8 77 "RodGrids$State" "bench" "LRodGrids$Bench;") (by decide +kernel)
  have hin_X6 : ∀ z ∈ u_ws RX6 TX6 3, z ∈ wsX8_pass := by decide +kernel
  have hin_X8 : ∀ z ∈ u_ws RX8 TX8 3, z ∈ wsX8_pass := by decide +kernel
  have hl : lv_has ls 2 [(0, .ref u), (1, .int (zI n))] := hl
  have hI := hs.1
  have hB := hs.2.1
  have ha := hs.2.2
  have i3 := hI.1
  have i4 := hI.2.1
  have j0 := hB.1
  have j1 := hB.2.1
  have j2 := hB.2.2.1
  have j4 := hB.2.2.2.2
  have ckr : 0 ≤ ck_hours M n ∧ ck_hours M n ≤ 3 := by unfold ck_hours; (repeat' split) <;> omega
  refine lv_aload_n hx hb dX8_pass_0 rfl (lv_at hl 0 rfl) ?_
  refine va_get (D := D) (ci := 6) (v := .ref (a 0)) (C := RX8) (T := TX8) (N := 3) hx hb hts hin_X8 hown hK hP 0 rfl rfl 0 (by decide) hf_0 (fun _ h9 => h9) rfl dX8_pass_1 ?_
  refine va_get (D := D) (ci := 5) (v := .ref (a 6)) (C := RX6) (T := TX6) (N := 3) hx hb hts hin_X6 hown hK hP 47 rfl rfl 1 (by decide) hf_1 (fun _ h9 => h9) rfl dX8_pass_4 ?_
  refine lv_iload_n hx hb dX8_pass_7 rfl (lv_at hl 1 rfl) ?_
  refine z_callV (C := RX1) (q0 := 0) (ci := 0) (As := [.int (zI n)]) (rest := []) (x8W u a r q ++ (svW ct r b nx sz S ++ (sobjW a ++ (gridW ct a M)))) (logW ct a M ++ (txtW ct q TX tl pl ft wd n1 n2)) hx hb hml hown hts hl hE hS hA hP hD (c_X1_checkHours l D ct ad a M n (by assumption) (by omega)) gX8_pass_X1_checkHours rfl rfl k_X1_checkHours ⟨Nat.le_of_ble_eq_true rfl, Nat.le_of_ble_eq_true rfl⟩ rfl rfl rfl rfl (Nat.le_of_ble_eq_true rfl) ⟨Nat.le_of_ble_eq_true rfl, Nat.le_of_ble_eq_true rfl⟩ dX8_pass_8 rfl (fun v w1 H locs hpost hP hD hS => ?_)
  obtain ⟨rfl, rfl⟩ := hpost
  have hP : va_P D vwCl (x8W u a r q ++ (svW ct r b nx sz S ++ (sobjW a ++ (gridW ct a M ++ (benchW ct a M ++ (logW ct a M ++ (txtW ct q TX tl pl ft wd n1 n2))))))) H := hP
  have hD : va_D A (x8W u a r q ++ (svW ct r b nx sz S ++ (sobjW a ++ (gridW ct a M ++ (benchW ct a M ++ (logW ct a M ++ (txtW ct q TX tl pl ft wd n1 n2))))))) := hD
  refine W.eq (g2 := F0 m 11 ls [.int (zI (ck_hours M n))]) rfl ?_
  exact z_thrS (As := [.int (zI (ck_hours M n))]) (rest := []) ([] : va_W) (x8W u a r q ++ (svW ct r b nx sz S ++ (sobjW a ++ (gridW ct a M ++ (benchW ct a M ++ (logW ct a M ++ (txtW ct q TX tl pl ft wd n1 n2))))))) hx hb hml hown hts hl hE hS hA hP hD (c_X8_refuse_x l D ct ad (ck_hours M n) hst (by omega)) gX8_pass_X8_refuse rfl k_X8_refuse ⟨Nat.le_of_ble_eq_true rfl, Nat.le_of_ble_eq_true rfl⟩ rfl (Nat.le_of_ble_eq_true rfl) ⟨Nat.le_of_ble_eq_true rfl, Nat.le_of_ble_eq_true rfl⟩ dX8_pass_11 rfl hout hlocks ⟨Nat.le_of_ble_eq_true rfl, Nat.le_of_ble_eq_true rfl⟩ rfl
set_option maxHeartbeats 4000000 in
set_option maxRecDepth 100000 in
theorem c_X8_shelf_x (l : Launch) (D : va_G) (ct ad : Nat → Nat) (u : Nat) (a r q : Nat → Nat) (b : Nat → Nat → Nat) (nx sz : Int) (S : Nat → Int → Int) (M TX : Int → Int) (tl pl ft n1 n2 : Int) (wd : Value) (k : Int) (hs : sInv M) (hst : l.stackTraces = false) (h1 : -2147483648 ≤ k ∧ k ≤ 2147483647) (hno : ck_shelf k ≠ 0) : ZX l yX8_shelf wsX8_shelf ({ frames := 7, cells := 1, slots := 6, locals := 102 } : Room) D ct ad [.ref u, .int (zI k)] (x8W u a r q ++ (svW ct r b nx sz S ++ (sobjW a ++ (gridW ct a M ++ (benchW ct a M ++ (logW ct a M ++ (txtW ct q TX tl pl ft wd n1 n2))))))) (zEx (ck_shelf k)) := by
  refine ZX.of (cc := cX8_shelf) (maxL := 2) (ret := (some .int)) (by decide +kernel) rfl (Nat.le_of_ble_eq_true rfl) ?_
  intro p e s m below meth c A ls hx hb hr hts hown hlocks hml hout hE hP hD hA hS hl
  have hK := hE.1
  have hf_0 := hts (.fieldLink RX8 10 "RodGrids" "state" "LRodGrids$State;") (by decide +kernel)
  have hf_1 := hts (.fieldLink RX8 77 "RodGrids$State" "bench" "LRodGrids$Bench;") (by decide +kernel)
  have hin_X6 : ∀ z ∈ u_ws RX6 TX6 3, z ∈ wsX8_shelf := by decide +kernel
  have hin_X8 : ∀ z ∈ u_ws RX8 TX8 3, z ∈ wsX8_shelf := by decide +kernel
  have hl : lv_has ls 2 [(0, .ref u), (1, .int (zI k))] := hl
  have hI := hs.1
  have hB := hs.2.1
  have ha := hs.2.2
  have i3 := hI.1
  have i4 := hI.2.1
  have j0 := hB.1
  have j1 := hB.2.1
  have j2 := hB.2.2.1
  have j4 := hB.2.2.2.2
  have ckr : 0 ≤ ck_shelf k ∧ ck_shelf k ≤ 3 := by unfold ck_shelf; (repeat' split) <;> omega
  refine lv_aload_n hx hb dX8_shelf_0 rfl (lv_at hl 0 rfl) ?_
  refine va_get (D := D) (ci := 6) (v := .ref (a 0)) (C := RX8) (T := TX8) (N := 3) hx hb hts hin_X8 hown hK hP 0 rfl rfl 0 (by decide) hf_0 (fun _ h9 => h9) rfl dX8_shelf_1 ?_
  refine va_get (D := D) (ci := 5) (v := .ref (a 6)) (C := RX6) (T := TX6) (N := 3) hx hb hts hin_X6 hown hK hP 47 rfl rfl 1 (by decide) hf_1 (fun _ h9 => h9) rfl dX8_shelf_4 ?_
  refine lv_iload_n hx hb dX8_shelf_7 rfl (lv_at hl 1 rfl) ?_
  refine z_callV (C := RX1) (q0 := 0) (ci := 0) (As := [.int (zI k)]) (rest := []) (x8W u a r q ++ (svW ct r b nx sz S ++ (sobjW a ++ (gridW ct a M)))) (logW ct a M ++ (txtW ct q TX tl pl ft wd n1 n2)) hx hb hml hown hts hl hE hS hA hP hD (c_X1_checkShelf l D ct ad a M k (by omega)) gX8_shelf_X1_checkShelf rfl rfl k_X1_checkShelf ⟨Nat.le_of_ble_eq_true rfl, Nat.le_of_ble_eq_true rfl⟩ rfl rfl rfl rfl (Nat.le_of_ble_eq_true rfl) ⟨Nat.le_of_ble_eq_true rfl, Nat.le_of_ble_eq_true rfl⟩ dX8_shelf_8 rfl (fun v w1 H locs hpost hP hD hS => ?_)
  obtain ⟨rfl, rfl⟩ := hpost
  have hP : va_P D vwCl (x8W u a r q ++ (svW ct r b nx sz S ++ (sobjW a ++ (gridW ct a M ++ (benchW ct a M ++ (logW ct a M ++ (txtW ct q TX tl pl ft wd n1 n2))))))) H := hP
  have hD : va_D A (x8W u a r q ++ (svW ct r b nx sz S ++ (sobjW a ++ (gridW ct a M ++ (benchW ct a M ++ (logW ct a M ++ (txtW ct q TX tl pl ft wd n1 n2))))))) := hD
  refine W.eq (g2 := F0 m 11 ls [.int (zI (ck_shelf k))]) rfl ?_
  exact z_thrS (As := [.int (zI (ck_shelf k))]) (rest := []) ([] : va_W) (x8W u a r q ++ (svW ct r b nx sz S ++ (sobjW a ++ (gridW ct a M ++ (benchW ct a M ++ (logW ct a M ++ (txtW ct q TX tl pl ft wd n1 n2))))))) hx hb hml hown hts hl hE hS hA hP hD (c_X8_refuse_x l D ct ad (ck_shelf k) hst (by omega)) gX8_shelf_X8_refuse rfl k_X8_refuse ⟨Nat.le_of_ble_eq_true rfl, Nat.le_of_ble_eq_true rfl⟩ rfl (Nat.le_of_ble_eq_true rfl) ⟨Nat.le_of_ble_eq_true rfl, Nat.le_of_ble_eq_true rfl⟩ dX8_shelf_11 rfl hout hlocks ⟨Nat.le_of_ble_eq_true rfl, Nat.le_of_ble_eq_true rfl⟩ rfl
set_option maxHeartbeats 4000000 in
set_option maxRecDepth 100000 in
theorem c_X8_removeRod_x (l : Launch) (D : va_G) (ct ad : Nat → Nat) (u : Nat) (a r q : Nat → Nat) (b : Nat → Nat → Nat) (nx sz : Int) (S : Nat → Int → Int) (M TX : Int → Int) (tl pl ft n1 n2 : Int) (wd : Value) (k : Int) (hs : sInv M) (hst : l.stackTraces = false) (h1 : -2147483648 ≤ k ∧ k ≤ 2147483647) (hno : ¬ (0 ≤ k ∧ k < M 4)) : ZX l yX8_removeRod wsX8_removeRod ({ frames := 7, cells := 1, slots := 6, locals := 102 } : Room) D ct ad [.ref u, .int (zI k)] (x8W u a r q ++ (svW ct r b nx sz S ++ (sobjW a ++ (gridW ct a M ++ (benchW ct a M ++ (logW ct a M ++ (txtW ct q TX tl pl ft wd n1 n2))))))) "java/lang/IndexOutOfBoundsException" := by
  refine ZX.of (cc := cX8_removeRod) (maxL := 2) (ret := (some .int)) (by decide +kernel) rfl (Nat.le_of_ble_eq_true rfl) ?_
  intro p e s m below meth c A ls hx hb hr hts hown hlocks hml hout hE hP hD hA hS hl
  have hK := hE.1
  have hf_0 := hts (.fieldLink RX8 10 "RodGrids" "state" "LRodGrids$State;") (by decide +kernel)
  have hf_1 := hts (.fieldLink RX8 30 "RodGrids$State" "grid" "LRodGrids$Grid;") (by decide +kernel)
  have hin_X6 : ∀ z ∈ u_ws RX6 TX6 3, z ∈ wsX8_removeRod := by decide +kernel
  have hin_X8 : ∀ z ∈ u_ws RX8 TX8 3, z ∈ wsX8_removeRod := by decide +kernel
  have hl : lv_has ls 2 [(0, .ref u), (1, .int (zI k))] := hl
  have hI := hs.1
  have hB := hs.2.1
  have ha := hs.2.2
  have i3 := hI.1
  have i4 := hI.2.1
  have j0 := hB.1
  have j1 := hB.2.1
  have j2 := hB.2.2.1
  have j4 := hB.2.2.2.2
  refine lv_aload_n hx hb dX8_removeRod_0 rfl (lv_at hl 0 rfl) ?_
  refine va_get (D := D) (ci := 6) (v := .ref (a 0)) (C := RX8) (T := TX8) (N := 3) hx hb hts hin_X8 hown hK hP 0 rfl rfl 0 (by decide) hf_0 (fun _ h9 => h9) rfl dX8_removeRod_1 ?_
  refine va_get (D := D) (ci := 5) (v := .ref (a 1)) (C := RX6) (T := TX6) (N := 3) hx hb hts hin_X6 hown hK hP 47 rfl rfl 0 (by decide) hf_1 (fun _ h9 => h9) rfl dX8_removeRod_4 ?_
  refine lv_iload_n hx hb dX8_removeRod_7 rfl (lv_at hl 1 rfl) ?_
  refine z_callV (C := RX4) (q0 := 0) (ci := 3) (As := [.int (zI k)]) (rest := []) (x8W u a r q ++ (svW ct r b nx sz S ++ (sobjW a))) (benchW ct a M ++ (logW ct a M ++ (txtW ct q TX tl pl ft wd n1 n2))) hx hb hml hown hts hl hE hS hA hP hD (c_X4_checkRod l D ct ad a M k (by assumption) (by omega)) gX8_removeRod_X4_checkRod rfl rfl k_X4_checkRod ⟨Nat.le_of_ble_eq_true rfl, Nat.le_of_ble_eq_true rfl⟩ rfl rfl rfl rfl (Nat.le_of_ble_eq_true rfl) ⟨Nat.le_of_ble_eq_true rfl, Nat.le_of_ble_eq_true rfl⟩ dX8_removeRod_8 rfl (fun v w1 H locs hpost hP hD hS => ?_)
  obtain ⟨rfl, rfl⟩ := hpost
  have hP : va_P D vwCl (x8W u a r q ++ (svW ct r b nx sz S ++ (sobjW a ++ (gridW ct a M ++ (benchW ct a M ++ (logW ct a M ++ (txtW ct q TX tl pl ft wd n1 n2))))))) H := hP
  have hD : va_D A (x8W u a r q ++ (svW ct r b nx sz S ++ (sobjW a ++ (gridW ct a M ++ (benchW ct a M ++ (logW ct a M ++ (txtW ct q TX tl pl ft wd n1 n2))))))) := hD
  refine W.eq (g2 := F0 m 11 ls [.int (zI (if 0 ≤ k ∧ k < M 4 then 0 else 1))]) rfl ?_
  exact z_thrS (As := [.int (zI (if 0 ≤ k ∧ k < M 4 then 0 else 1))]) (rest := []) ([] : va_W) (x8W u a r q ++ (svW ct r b nx sz S ++ (sobjW a ++ (gridW ct a M ++ (benchW ct a M ++ (logW ct a M ++ (txtW ct q TX tl pl ft wd n1 n2))))))) hx hb hml hown hts hl hE hS hA hP hD (ZX.toE (c_X8_refuse_x l D ct ad (if 0 ≤ k ∧ k < M 4 then 0 else 1) hst (by rw [if_neg hno]; omega)) (by rw [if_neg hno]; rfl)) gX8_removeRod_X8_refuse rfl k_X8_refuse ⟨Nat.le_of_ble_eq_true rfl, Nat.le_of_ble_eq_true rfl⟩ rfl (Nat.le_of_ble_eq_true rfl) ⟨Nat.le_of_ble_eq_true rfl, Nat.le_of_ble_eq_true rfl⟩ dX8_removeRod_11 rfl hout hlocks ⟨Nat.le_of_ble_eq_true rfl, Nat.le_of_ble_eq_true rfl⟩ rfl
set_option maxHeartbeats 4000000 in
set_option maxRecDepth 100000 in
theorem c_X8_stretch_x (l : Launch) (D : va_G) (ct ad : Nat → Nat) (u : Nat) (a r q : Nat → Nat) (b : Nat → Nat → Nat) (nx sz : Int) (S : Nat → Int → Int) (M TX : Int → Int) (tl pl ft n1 n2 : Int) (wd : Value) (k : Int) (hs : sInv M) (hst : l.stackTraces = false) (h1 : -2147483648 ≤ k ∧ k ≤ 2147483647) (hno : ¬ (0 ≤ k ∧ k < M 3)) : ZX l yX8_stretch wsX8_stretch ({ frames := 7, cells := 1, slots := 6, locals := 102 } : Room) D ct ad [.ref u, .int (zI k)] (x8W u a r q ++ (svW ct r b nx sz S ++ (sobjW a ++ (gridW ct a M ++ (benchW ct a M ++ (logW ct a M ++ (txtW ct q TX tl pl ft wd n1 n2))))))) "java/lang/IndexOutOfBoundsException" := by
  refine ZX.of (cc := cX8_stretch) (maxL := 2) (ret := (some .int)) (by decide +kernel) rfl (Nat.le_of_ble_eq_true rfl) ?_
  intro p e s m below meth c A ls hx hb hr hts hown hlocks hml hout hE hP hD hA hS hl
  have hK := hE.1
  have hf_0 := hts (.fieldLink RX8 10 "RodGrids" "state" "LRodGrids$State;") (by decide +kernel)
  have hf_1 := hts (.fieldLink RX8 30 "RodGrids$State" "grid" "LRodGrids$Grid;") (by decide +kernel)
  have hin_X6 : ∀ z ∈ u_ws RX6 TX6 3, z ∈ wsX8_stretch := by decide +kernel
  have hin_X8 : ∀ z ∈ u_ws RX8 TX8 3, z ∈ wsX8_stretch := by decide +kernel
  have hl : lv_has ls 2 [(0, .ref u), (1, .int (zI k))] := hl
  have hI := hs.1
  have hB := hs.2.1
  have ha := hs.2.2
  have i3 := hI.1
  have i4 := hI.2.1
  have j0 := hB.1
  have j1 := hB.2.1
  have j2 := hB.2.2.1
  have j4 := hB.2.2.2.2
  refine lv_aload_n hx hb dX8_stretch_0 rfl (lv_at hl 0 rfl) ?_
  refine va_get (D := D) (ci := 6) (v := .ref (a 0)) (C := RX8) (T := TX8) (N := 3) hx hb hts hin_X8 hown hK hP 0 rfl rfl 0 (by decide) hf_0 (fun _ h9 => h9) rfl dX8_stretch_1 ?_
  refine va_get (D := D) (ci := 5) (v := .ref (a 1)) (C := RX6) (T := TX6) (N := 3) hx hb hts hin_X6 hown hK hP 47 rfl rfl 0 (by decide) hf_1 (fun _ h9 => h9) rfl dX8_stretch_4 ?_
  refine lv_iload_n hx hb dX8_stretch_7 rfl (lv_at hl 1 rfl) ?_
  refine z_callV (C := RX4) (q0 := 0) (ci := 3) (As := [.int (zI k)]) (rest := []) (x8W u a r q ++ (svW ct r b nx sz S ++ (sobjW a))) (benchW ct a M ++ (logW ct a M ++ (txtW ct q TX tl pl ft wd n1 n2))) hx hb hml hown hts hl hE hS hA hP hD (c_X4_checkMetal l D ct ad a M k (by assumption) (by omega)) gX8_stretch_X4_checkMetal rfl rfl k_X4_checkMetal ⟨Nat.le_of_ble_eq_true rfl, Nat.le_of_ble_eq_true rfl⟩ rfl rfl rfl rfl (Nat.le_of_ble_eq_true rfl) ⟨Nat.le_of_ble_eq_true rfl, Nat.le_of_ble_eq_true rfl⟩ dX8_stretch_8 rfl (fun v w1 H locs hpost hP hD hS => ?_)
  obtain ⟨rfl, rfl⟩ := hpost
  have hP : va_P D vwCl (x8W u a r q ++ (svW ct r b nx sz S ++ (sobjW a ++ (gridW ct a M ++ (benchW ct a M ++ (logW ct a M ++ (txtW ct q TX tl pl ft wd n1 n2))))))) H := hP
  have hD : va_D A (x8W u a r q ++ (svW ct r b nx sz S ++ (sobjW a ++ (gridW ct a M ++ (benchW ct a M ++ (logW ct a M ++ (txtW ct q TX tl pl ft wd n1 n2))))))) := hD
  refine W.eq (g2 := F0 m 11 ls [.int (zI (if 0 ≤ k ∧ k < M 3 then 0 else 1))]) rfl ?_
  exact z_thrS (As := [.int (zI (if 0 ≤ k ∧ k < M 3 then 0 else 1))]) (rest := []) ([] : va_W) (x8W u a r q ++ (svW ct r b nx sz S ++ (sobjW a ++ (gridW ct a M ++ (benchW ct a M ++ (logW ct a M ++ (txtW ct q TX tl pl ft wd n1 n2))))))) hx hb hml hown hts hl hE hS hA hP hD (ZX.toE (c_X8_refuse_x l D ct ad (if 0 ≤ k ∧ k < M 3 then 0 else 1) hst (by rw [if_neg hno]; omega)) (by rw [if_neg hno]; rfl)) gX8_stretch_X8_refuse rfl k_X8_refuse ⟨Nat.le_of_ble_eq_true rfl, Nat.le_of_ble_eq_true rfl⟩ rfl (Nat.le_of_ble_eq_true rfl) ⟨Nat.le_of_ble_eq_true rfl, Nat.le_of_ble_eq_true rfl⟩ dX8_stretch_11 rfl hout hlocks ⟨Nat.le_of_ble_eq_true rfl, Nat.le_of_ble_eq_true rfl⟩ rfl
set_option maxHeartbeats 4000000 in
set_option maxRecDepth 100000 in
theorem c_X8_matchLength_x (l : Launch) (D : va_G) (ct ad : Nat → Nat) (u : Nat) (a r q : Nat → Nat) (b : Nat → Nat → Nat) (nx sz : Int) (S : Nat → Int → Int) (M TX : Int → Int) (tl pl ft n1 n2 : Int) (wd : Value) (k : Int) (hs : sInv M) (hst : l.stackTraces = false) (h1 : -2147483648 ≤ k ∧ k ≤ 2147483647) (hno : ¬ (0 ≤ k ∧ k < M 4)) : ZX l yX8_matchLength wsX8_matchLength ({ frames := 7, cells := 1, slots := 6, locals := 102 } : Room) D ct ad [.ref u, .int (zI k)] (x8W u a r q ++ (svW ct r b nx sz S ++ (sobjW a ++ (gridW ct a M ++ (benchW ct a M ++ (logW ct a M ++ (txtW ct q TX tl pl ft wd n1 n2))))))) "java/lang/IndexOutOfBoundsException" := by
  refine ZX.of (cc := cX8_matchLength) (maxL := 2) (ret := (some .int)) (by decide +kernel) rfl (Nat.le_of_ble_eq_true rfl) ?_
  intro p e s m below meth c A ls hx hb hr hts hown hlocks hml hout hE hP hD hA hS hl
  have hK := hE.1
  have hf_0 := hts (.fieldLink RX8 10 "RodGrids" "state" "LRodGrids$State;") (by decide +kernel)
  have hf_1 := hts (.fieldLink RX8 30 "RodGrids$State" "grid" "LRodGrids$Grid;") (by decide +kernel)
  have hin_X6 : ∀ z ∈ u_ws RX6 TX6 3, z ∈ wsX8_matchLength := by decide +kernel
  have hin_X8 : ∀ z ∈ u_ws RX8 TX8 3, z ∈ wsX8_matchLength := by decide +kernel
  have hl : lv_has ls 2 [(0, .ref u), (1, .int (zI k))] := hl
  have hI := hs.1
  have hB := hs.2.1
  have ha := hs.2.2
  have i3 := hI.1
  have i4 := hI.2.1
  have j0 := hB.1
  have j1 := hB.2.1
  have j2 := hB.2.2.1
  have j4 := hB.2.2.2.2
  refine lv_aload_n hx hb dX8_matchLength_0 rfl (lv_at hl 0 rfl) ?_
  refine va_get (D := D) (ci := 6) (v := .ref (a 0)) (C := RX8) (T := TX8) (N := 3) hx hb hts hin_X8 hown hK hP 0 rfl rfl 0 (by decide) hf_0 (fun _ h9 => h9) rfl dX8_matchLength_1 ?_
  refine va_get (D := D) (ci := 5) (v := .ref (a 1)) (C := RX6) (T := TX6) (N := 3) hx hb hts hin_X6 hown hK hP 47 rfl rfl 0 (by decide) hf_1 (fun _ h9 => h9) rfl dX8_matchLength_4 ?_
  refine lv_iload_n hx hb dX8_matchLength_7 rfl (lv_at hl 1 rfl) ?_
  refine z_callV (C := RX4) (q0 := 0) (ci := 3) (As := [.int (zI k)]) (rest := []) (x8W u a r q ++ (svW ct r b nx sz S ++ (sobjW a))) (benchW ct a M ++ (logW ct a M ++ (txtW ct q TX tl pl ft wd n1 n2))) hx hb hml hown hts hl hE hS hA hP hD (c_X4_checkRod l D ct ad a M k (by assumption) (by omega)) gX8_matchLength_X4_checkRod rfl rfl k_X4_checkRod ⟨Nat.le_of_ble_eq_true rfl, Nat.le_of_ble_eq_true rfl⟩ rfl rfl rfl rfl (Nat.le_of_ble_eq_true rfl) ⟨Nat.le_of_ble_eq_true rfl, Nat.le_of_ble_eq_true rfl⟩ dX8_matchLength_8 rfl (fun v w1 H locs hpost hP hD hS => ?_)
  obtain ⟨rfl, rfl⟩ := hpost
  have hP : va_P D vwCl (x8W u a r q ++ (svW ct r b nx sz S ++ (sobjW a ++ (gridW ct a M ++ (benchW ct a M ++ (logW ct a M ++ (txtW ct q TX tl pl ft wd n1 n2))))))) H := hP
  have hD : va_D A (x8W u a r q ++ (svW ct r b nx sz S ++ (sobjW a ++ (gridW ct a M ++ (benchW ct a M ++ (logW ct a M ++ (txtW ct q TX tl pl ft wd n1 n2))))))) := hD
  refine W.eq (g2 := F0 m 11 ls [.int (zI (if 0 ≤ k ∧ k < M 4 then 0 else 1))]) rfl ?_
  exact z_thrS (As := [.int (zI (if 0 ≤ k ∧ k < M 4 then 0 else 1))]) (rest := []) ([] : va_W) (x8W u a r q ++ (svW ct r b nx sz S ++ (sobjW a ++ (gridW ct a M ++ (benchW ct a M ++ (logW ct a M ++ (txtW ct q TX tl pl ft wd n1 n2))))))) hx hb hml hown hts hl hE hS hA hP hD (ZX.toE (c_X8_refuse_x l D ct ad (if 0 ≤ k ∧ k < M 4 then 0 else 1) hst (by rw [if_neg hno]; omega)) (by rw [if_neg hno]; rfl)) gX8_matchLength_X8_refuse rfl k_X8_refuse ⟨Nat.le_of_ble_eq_true rfl, Nat.le_of_ble_eq_true rfl⟩ rfl (Nat.le_of_ble_eq_true rfl) ⟨Nat.le_of_ble_eq_true rfl, Nat.le_of_ble_eq_true rfl⟩ dX8_matchLength_11 rfl hout hlocks ⟨Nat.le_of_ble_eq_true rfl, Nat.le_of_ble_eq_true rfl⟩ rfl
set_option maxHeartbeats 4000000 in
set_option maxRecDepth 100000 in
theorem c_X8_whole_x (l : Launch) (D : va_G) (ct ad : Nat → Nat) (u : Nat) (a r q : Nat → Nat) (b : Nat → Nat → Nat) (nx sz : Int) (S : Nat → Int → Int) (M TX : Int → Int) (tl pl ft n1 n2 : Int) (wd : Value) (w : Int) (hs : sInv M) (hst : l.stackTraces = false) (h1 : -2147483648 ≤ w ∧ w ≤ 2147483647) (hno : ¬ (0 ≤ w ∧ w ≤ 17)) : ZX l yX8_whole wsX8_whole ({ frames := 7, cells := 1, slots := 6, locals := 102 } : Room) D ct ad [.ref u, .int (zI w)] (x8W u a r q ++ (svW ct r b nx sz S ++ (sobjW a ++ (gridW ct a M ++ (benchW ct a M ++ (logW ct a M ++ (txtW ct q TX tl pl ft wd n1 n2))))))) "java/lang/IllegalArgumentException" := by
  refine ZX.of (cc := cX8_whole) (maxL := 2) (ret := (some .int)) (by decide +kernel) rfl (Nat.le_of_ble_eq_true rfl) ?_
  intro p e s m below meth c A ls hx hb hr hts hown hlocks hml hout hE hP hD hA hS hl
  have hK := hE.1
  have hl : lv_has ls 2 [(0, .ref u), (1, .int (zI w))] := hl
  have hI := hs.1
  have hB := hs.2.1
  have ha := hs.2.2
  have i3 := hI.1
  have i4 := hI.2.1
  have j0 := hB.1
  have j1 := hB.2.1
  have j2 := hB.2.2.1
  have j4 := hB.2.2.2.2
  refine lv_iload_n hx hb dX8_whole_0 rfl (lv_at hl 1 rfl) ?_
  refine z_iconst hx hb dX8_whole_1 ?_
  refine z_bipush hx hb dX8_whole_2 (by decide) ?_
  refine z_callS (As := [.int (zI w), .int (zI 0), .int (zI 17)]) (rest := []) ([] : va_W) (x8W u a r q ++ (svW ct r b nx sz S ++ (sobjW a ++ (gridW ct a M ++ (benchW ct a M ++ (logW ct a M ++ (txtW ct q TX tl pl ft wd n1 n2))))))) hx hb hml hown hts hl hE hS hA hP hD (c_X8_within l D ct ad w 0 17 (by omega) (by omega) (by omega)) gX8_whole_X8_within rfl k_X8_within ⟨Nat.le_of_ble_eq_true rfl, Nat.le_of_ble_eq_true rfl⟩ rfl (Nat.le_of_ble_eq_true rfl) ⟨Nat.le_of_ble_eq_true rfl, Nat.le_of_ble_eq_true rfl⟩ dX8_whole_4 rfl (fun v w1 H locs hpost hP hD hS => ?_)
  obtain ⟨rfl, rfl⟩ := hpost
  have hP : va_P D vwCl (x8W u a r q ++ (svW ct r b nx sz S ++ (sobjW a ++ (gridW ct a M ++ (benchW ct a M ++ (logW ct a M ++ (txtW ct q TX tl pl ft wd n1 n2))))))) H := hP
  have hD : va_D A (x8W u a r q ++ (svW ct r b nx sz S ++ (sobjW a ++ (gridW ct a M ++ (benchW ct a M ++ (logW ct a M ++ (txtW ct q TX tl pl ft wd n1 n2))))))) := hD
  refine W.eq (g2 := F0 m 7 ls [.int (zI (zB (0 ≤ w ∧ w ≤ 17)))]) rfl ?_
  refine zb_if_eq (tgt := 14) hx hb dX8_whole_7 (by decide) (fun hc_7 => ?_) (fun hc_7 => ?_)
  · have hc_7 := hc_7
    refine z_iconst hx hb dX8_whole_14 ?_
    exact z_thrS (As := [.int (zI 2)]) (rest := []) ([] : va_W) (x8W u a r q ++ (svW ct r b nx sz S ++ (sobjW a ++ (gridW ct a M ++ (benchW ct a M ++ (logW ct a M ++ (txtW ct q TX tl pl ft wd n1 n2))))))) hx hb hml hown hts hl hE hS hA hP hD (ZX.toE (c_X8_refuse_x l D ct ad 2 hst (by omega)) rfl) gX8_whole_X8_refuse rfl k_X8_refuse ⟨Nat.le_of_ble_eq_true rfl, Nat.le_of_ble_eq_true rfl⟩ rfl (Nat.le_of_ble_eq_true rfl) ⟨Nat.le_of_ble_eq_true rfl, Nat.le_of_ble_eq_true rfl⟩ dX8_whole_15 rfl hout hlocks ⟨Nat.le_of_ble_eq_true rfl, Nat.le_of_ble_eq_true rfl⟩ rfl
  · have hc_7 := hc_7
    exact absurd hc_7 hno
set_option maxHeartbeats 4000000 in
set_option maxRecDepth 100000 in
theorem c_X8_day_x (l : Launch) (D : va_G) (ct ad : Nat → Nat) (u : Nat) (a r q : Nat → Nat) (b : Nat → Nat → Nat) (nx sz : Int) (S : Nat → Int → Int) (M TX : Int → Int) (tl pl ft n1 n2 : Int) (wd : Value) (k w : Int) (hs : sInv M) (hst : l.stackTraces = false) (h1 : -2147483648 ≤ k ∧ k ≤ 2147483647) (h2 : -2147483648 ≤ w ∧ w ≤ 2147483647) (hno : ¬ (0 ≤ k ∧ 0 ≤ w ∧ w ≤ 3)) : ZX l yX8_day wsX8_day ({ frames := 7, cells := 1, slots := 6, locals := 102 } : Room) D ct ad [.ref u, .int (zI k), .int (zI w)] (x8W u a r q ++ (svW ct r b nx sz S ++ (sobjW a ++ (gridW ct a M ++ (benchW ct a M ++ (logW ct a M ++ (txtW ct q TX tl pl ft wd n1 n2))))))) "java/lang/IllegalArgumentException" := by
  refine ZX.of (cc := cX8_day) (maxL := 3) (ret := (some .long)) (by decide +kernel) rfl (Nat.le_of_ble_eq_true rfl) ?_
  intro p e s m below meth c A ls hx hb hr hts hown hlocks hml hout hE hP hD hA hS hl
  have hK := hE.1
  have hl : lv_has ls 3 [(0, .ref u), (1, .int (zI k)), (2, .int (zI w))] := hl
  have hI := hs.1
  have hB := hs.2.1
  have ha := hs.2.2
  have i3 := hI.1
  have i4 := hI.2.1
  have j0 := hB.1
  have j1 := hB.2.1
  have j2 := hB.2.2.1
  have j4 := hB.2.2.2.2
  refine lv_iload_n hx hb dX8_day_0 rfl (lv_at hl 1 rfl) ?_
  refine z_if_lt (tgt := 17) hx hb dX8_day_1 (by decide) (by omega) (fun hc_1 => ?_) (fun hc_1 => ?_)
  · have hc_1 := hc_1
    refine z_iconst hx hb dX8_day_17 ?_
    exact z_thrS (As := [.int (zI 2)]) (rest := []) ([] : va_W) (x8W u a r q ++ (svW ct r b nx sz S ++ (sobjW a ++ (gridW ct a M ++ (benchW ct a M ++ (logW ct a M ++ (txtW ct q TX tl pl ft wd n1 n2))))))) hx hb hml hown hts hl hE hS hA hP hD (ZX.toE (c_X8_refuse_x l D ct ad 2 hst (by omega)) rfl) gX8_day_X8_refuse rfl k_X8_refuse ⟨Nat.le_of_ble_eq_true rfl, Nat.le_of_ble_eq_true rfl⟩ rfl (Nat.le_of_ble_eq_true rfl) ⟨Nat.le_of_ble_eq_true rfl, Nat.le_of_ble_eq_true rfl⟩ dX8_day_18 rfl hout hlocks ⟨Nat.le_of_ble_eq_true rfl, Nat.le_of_ble_eq_true rfl⟩ rfl
  · have hc_1 := hc_1
    refine lv_iload_n hx hb dX8_day_4 rfl (lv_at hl 2 rfl) ?_
    refine z_iconst hx hb dX8_day_5 ?_
    refine z_iconst hx hb dX8_day_6 ?_
    refine z_callS (As := [.int (zI w), .int (zI 0), .int (zI 3)]) (rest := []) ([] : va_W) (x8W u a r q ++ (svW ct r b nx sz S ++ (sobjW a ++ (gridW ct a M ++ (benchW ct a M ++ (logW ct a M ++ (txtW ct q TX tl pl ft wd n1 n2))))))) hx hb hml hown hts hl hE hS hA hP hD (c_X8_within l D ct ad w 0 3 (by omega) (by omega) (by omega)) gX8_day_X8_within rfl k_X8_within ⟨Nat.le_of_ble_eq_true rfl, Nat.le_of_ble_eq_true rfl⟩ rfl (Nat.le_of_ble_eq_true rfl) ⟨Nat.le_of_ble_eq_true rfl, Nat.le_of_ble_eq_true rfl⟩ dX8_day_7 rfl (fun v w1 H locs hpost hP hD hS => ?_)
    obtain ⟨rfl, rfl⟩ := hpost
    have hP : va_P D vwCl (x8W u a r q ++ (svW ct r b nx sz S ++ (sobjW a ++ (gridW ct a M ++ (benchW ct a M ++ (logW ct a M ++ (txtW ct q TX tl pl ft wd n1 n2))))))) H := hP
    have hD : va_D A (x8W u a r q ++ (svW ct r b nx sz S ++ (sobjW a ++ (gridW ct a M ++ (benchW ct a M ++ (logW ct a M ++ (txtW ct q TX tl pl ft wd n1 n2))))))) := hD
    refine W.eq (g2 := F0 m 10 ls [.int (zI (zB (0 ≤ w ∧ w ≤ 3)))]) rfl ?_
    refine zb_if_eq (tgt := 17) hx hb dX8_day_10 (by decide) (fun hc_10 => ?_) (fun hc_10 => ?_)
    · have hc_10 := hc_10
      refine z_iconst hx hb dX8_day_17 ?_
      exact z_thrS (As := [.int (zI 2)]) (rest := []) ([] : va_W) (x8W u a r q ++ (svW ct r b nx sz S ++ (sobjW a ++ (gridW ct a M ++ (benchW ct a M ++ (logW ct a M ++ (txtW ct q TX tl pl ft wd n1 n2))))))) hx hb hml hown hts hl hE hS hA hP hD (ZX.toE (c_X8_refuse_x l D ct ad 2 hst (by omega)) rfl) gX8_day_X8_refuse rfl k_X8_refuse ⟨Nat.le_of_ble_eq_true rfl, Nat.le_of_ble_eq_true rfl⟩ rfl (Nat.le_of_ble_eq_true rfl) ⟨Nat.le_of_ble_eq_true rfl, Nat.le_of_ble_eq_true rfl⟩ dX8_day_18 rfl hout hlocks ⟨Nat.le_of_ble_eq_true rfl, Nat.le_of_ble_eq_true rfl⟩ rfl
    · have hc_10 := hc_10
      exact absurd ⟨by omega, hc_10⟩ hno
set_option maxHeartbeats 4000000 in
set_option maxRecDepth 100000 in
theorem c_X8_rateAt_x (l : Launch) (D : va_G) (ct ad : Nat → Nat) (u : Nat) (a r q : Nat → Nat) (b : Nat → Nat → Nat) (nx sz : Int) (S : Nat → Int → Int) (M TX : Int → Int) (tl pl ft n1 n2 : Int) (wd : Value) (t : Int) (hs : sInv M) (hst : l.stackTraces = false) (h1 : -2147483648 ≤ t ∧ t ≤ 2147483647) (hno : ¬ (-300 ≤ t ∧ t ≤ 600)) : ZX l yX8_rateAt wsX8_rateAt ({ frames := 7, cells := 1, slots := 6, locals := 102 } : Room) D ct ad [.ref u, .int (zI t)] (x8W u a r q ++ (svW ct r b nx sz S ++ (sobjW a ++ (gridW ct a M ++ (benchW ct a M ++ (logW ct a M ++ (txtW ct q TX tl pl ft wd n1 n2))))))) "java/lang/IllegalArgumentException" := by
  refine ZX.of (cc := cX8_rateAt) (maxL := 2) (ret := (some .int)) (by decide +kernel) rfl (Nat.le_of_ble_eq_true rfl) ?_
  intro p e s m below meth c A ls hx hb hr hts hown hlocks hml hout hE hP hD hA hS hl
  have hK := hE.1
  have hl : lv_has ls 2 [(0, .ref u), (1, .int (zI t))] := hl
  have hI := hs.1
  have hB := hs.2.1
  have ha := hs.2.2
  have i3 := hI.1
  have i4 := hI.2.1
  have j0 := hB.1
  have j1 := hB.2.1
  have j2 := hB.2.2.1
  have j4 := hB.2.2.2.2
  refine lv_iload_n hx hb dX8_rateAt_0 rfl (lv_at hl 1 rfl) ?_
  refine z_callS (As := [.int (zI t)]) (rest := []) ([] : va_W) (x8W u a r q ++ (svW ct r b nx sz S ++ (sobjW a ++ (gridW ct a M ++ (benchW ct a M ++ (logW ct a M ++ (txtW ct q TX tl pl ft wd n1 n2))))))) hx hb hml hown hts hl hE hS hA hP hD (c_X8_isWarmth l D ct ad t (by omega)) gX8_rateAt_X8_isWarmth rfl k_X8_isWarmth ⟨Nat.le_of_ble_eq_true rfl, Nat.le_of_ble_eq_true rfl⟩ rfl (Nat.le_of_ble_eq_true rfl) ⟨Nat.le_of_ble_eq_true rfl, Nat.le_of_ble_eq_true rfl⟩ dX8_rateAt_1 rfl (fun v w1 H locs hpost hP hD hS => ?_)
  obtain ⟨rfl, rfl⟩ := hpost
  have hP : va_P D vwCl (x8W u a r q ++ (svW ct r b nx sz S ++ (sobjW a ++ (gridW ct a M ++ (benchW ct a M ++ (logW ct a M ++ (txtW ct q TX tl pl ft wd n1 n2))))))) H := hP
  have hD : va_D A (x8W u a r q ++ (svW ct r b nx sz S ++ (sobjW a ++ (gridW ct a M ++ (benchW ct a M ++ (logW ct a M ++ (txtW ct q TX tl pl ft wd n1 n2))))))) := hD
  refine W.eq (g2 := F0 m 4 ls [.int (zI (zB (-300 ≤ t ∧ t ≤ 600)))]) rfl ?_
  refine zb_if_eq (tgt := 11) hx hb dX8_rateAt_4 (by decide) (fun hc_4 => ?_) (fun hc_4 => ?_)
  · have hc_4 := hc_4
    refine z_iconst hx hb dX8_rateAt_11 ?_
    exact z_thrS (As := [.int (zI 2)]) (rest := []) ([] : va_W) (x8W u a r q ++ (svW ct r b nx sz S ++ (sobjW a ++ (gridW ct a M ++ (benchW ct a M ++ (logW ct a M ++ (txtW ct q TX tl pl ft wd n1 n2))))))) hx hb hml hown hts hl hE hS hA hP hD (ZX.toE (c_X8_refuse_x l D ct ad 2 hst (by omega)) rfl) gX8_rateAt_X8_refuse rfl k_X8_refuse ⟨Nat.le_of_ble_eq_true rfl, Nat.le_of_ble_eq_true rfl⟩ rfl (Nat.le_of_ble_eq_true rfl) ⟨Nat.le_of_ble_eq_true rfl, Nat.le_of_ble_eq_true rfl⟩ dX8_rateAt_12 rfl hout hlocks ⟨Nat.le_of_ble_eq_true rfl, Nat.le_of_ble_eq_true rfl⟩ rfl
  · have hc_4 := hc_4
    exact absurd hc_4 hno
set_option maxHeartbeats 4000000 in
set_option maxRecDepth 100000 in
theorem c_X8_rangeOfRates_x (l : Launch) (D : va_G) (ct ad : Nat → Nat) (u : Nat) (a r q : Nat → Nat) (b : Nat → Nat → Nat) (nx sz : Int) (S : Nat → Int → Int) (M TX : Int → Int) (tl pl ft n1 n2 : Int) (wd : Value) (lo hi : Int) (hs : sInv M) (hst : l.stackTraces = false) (h1 : -2147483648 ≤ lo ∧ lo ≤ 2147483647) (h2 : -2147483648 ≤ hi ∧ hi ≤ 2147483647) (hno : ¬ (-300 ≤ lo ∧ lo ≤ hi ∧ hi ≤ 600)) : ZX l yX8_rangeOfRates wsX8_rangeOfRates ({ frames := 7, cells := 1, slots := 6, locals := 102 } : Room) D ct ad [.ref u, .int (zI lo), .int (zI hi)] (x8W u a r q ++ (svW ct r b nx sz S ++ (sobjW a ++ (gridW ct a M ++ (benchW ct a M ++ (logW ct a M ++ (txtW ct q TX tl pl ft wd n1 n2))))))) "java/lang/IllegalArgumentException" := by
  refine ZX.of (cc := cX8_rangeOfRates) (maxL := 3) (ret := (some .int)) (by decide +kernel) rfl (Nat.le_of_ble_eq_true rfl) ?_
  intro p e s m below meth c A ls hx hb hr hts hown hlocks hml hout hE hP hD hA hS hl
  have hK := hE.1
  have hl : lv_has ls 3 [(0, .ref u), (1, .int (zI lo)), (2, .int (zI hi))] := hl
  have hI := hs.1
  have hB := hs.2.1
  have ha := hs.2.2
  have i3 := hI.1
  have i4 := hI.2.1
  have j0 := hB.1
  have j1 := hB.2.1
  have j2 := hB.2.2.1
  have j4 := hB.2.2.2.2
  refine lv_iload_n hx hb dX8_rangeOfRates_0 rfl (lv_at hl 1 rfl) ?_
  refine z_callS (As := [.int (zI lo)]) (rest := []) ([] : va_W) (x8W u a r q ++ (svW ct r b nx sz S ++ (sobjW a ++ (gridW ct a M ++ (benchW ct a M ++ (logW ct a M ++ (txtW ct q TX tl pl ft wd n1 n2))))))) hx hb hml hown hts hl hE hS hA hP hD (c_X8_isWarmth l D ct ad lo (by omega)) gX8_rangeOfRates_X8_isWarmth rfl k_X8_isWarmth ⟨Nat.le_of_ble_eq_true rfl, Nat.le_of_ble_eq_true rfl⟩ rfl (Nat.le_of_ble_eq_true rfl) ⟨Nat.le_of_ble_eq_true rfl, Nat.le_of_ble_eq_true rfl⟩ dX8_rangeOfRates_1 rfl (fun v w1 H locs hpost hP hD hS => ?_)
  obtain ⟨rfl, rfl⟩ := hpost
  have hP : va_P D vwCl (x8W u a r q ++ (svW ct r b nx sz S ++ (sobjW a ++ (gridW ct a M ++ (benchW ct a M ++ (logW ct a M ++ (txtW ct q TX tl pl ft wd n1 n2))))))) H := hP
  have hD : va_D A (x8W u a r q ++ (svW ct r b nx sz S ++ (sobjW a ++ (gridW ct a M ++ (benchW ct a M ++ (logW ct a M ++ (txtW ct q TX tl pl ft wd n1 n2))))))) := hD
  refine W.eq (g2 := F0 m 4 ls [.int (zI (zB (-300 ≤ lo ∧ lo ≤ 600)))]) rfl ?_
  refine zb_if_eq (tgt := 22) hx hb dX8_rangeOfRates_4 (by decide) (fun hc_4 => ?_) (fun hc_4 => ?_)
  · have hc_4 := hc_4
    refine z_iconst hx hb dX8_rangeOfRates_22 ?_
    exact z_thrS (As := [.int (zI 2)]) (rest := []) ([] : va_W) (x8W u a r q ++ (svW ct r b nx sz S ++ (sobjW a ++ (gridW ct a M ++ (benchW ct a M ++ (logW ct a M ++ (txtW ct q TX tl pl ft wd n1 n2))))))) hx hb hml hown hts hl hE hS hA hP hD (ZX.toE (c_X8_refuse_x l D ct ad 2 hst (by omega)) rfl) gX8_rangeOfRates_X8_refuse rfl k_X8_refuse ⟨Nat.le_of_ble_eq_true rfl, Nat.le_of_ble_eq_true rfl⟩ rfl (Nat.le_of_ble_eq_true rfl) ⟨Nat.le_of_ble_eq_true rfl, Nat.le_of_ble_eq_true rfl⟩ dX8_rangeOfRates_23 rfl hout hlocks ⟨Nat.le_of_ble_eq_true rfl, Nat.le_of_ble_eq_true rfl⟩ rfl
  · have hc_4 := hc_4
    refine lv_iload_n hx hb dX8_rangeOfRates_7 rfl (lv_at hl 2 rfl) ?_
    refine lv_iload_n hx hb dX8_rangeOfRates_8 rfl (lv_at hl 1 rfl) ?_
    refine z_sipush hx hb dX8_rangeOfRates_9 (by decide) ?_
    refine z_callS (As := [.int (zI hi), .int (zI lo), .int (zI 600)]) (rest := []) ([] : va_W) (x8W u a r q ++ (svW ct r b nx sz S ++ (sobjW a ++ (gridW ct a M ++ (benchW ct a M ++ (logW ct a M ++ (txtW ct q TX tl pl ft wd n1 n2))))))) hx hb hml hown hts hl hE hS hA hP hD (c_X8_within l D ct ad hi lo 600 (by omega) (by omega) (by omega)) gX8_rangeOfRates_X8_within rfl k_X8_within ⟨Nat.le_of_ble_eq_true rfl, Nat.le_of_ble_eq_true rfl⟩ rfl (Nat.le_of_ble_eq_true rfl) ⟨Nat.le_of_ble_eq_true rfl, Nat.le_of_ble_eq_true rfl⟩ dX8_rangeOfRates_12 rfl (fun v w1 H locs hpost hP hD hS => ?_)
    obtain ⟨rfl, rfl⟩ := hpost
    have hP : va_P D vwCl (x8W u a r q ++ (svW ct r b nx sz S ++ (sobjW a ++ (gridW ct a M ++ (benchW ct a M ++ (logW ct a M ++ (txtW ct q TX tl pl ft wd n1 n2))))))) H := hP
    have hD : va_D A (x8W u a r q ++ (svW ct r b nx sz S ++ (sobjW a ++ (gridW ct a M ++ (benchW ct a M ++ (logW ct a M ++ (txtW ct q TX tl pl ft wd n1 n2))))))) := hD
    refine W.eq (g2 := F0 m 15 ls [.int (zI (zB (lo ≤ hi ∧ hi ≤ 600)))]) rfl ?_
    refine zb_if_eq (tgt := 22) hx hb dX8_rangeOfRates_15 (by decide) (fun hc_15 => ?_) (fun hc_15 => ?_)
    · have hc_15 := hc_15
      refine z_iconst hx hb dX8_rangeOfRates_22 ?_
      exact z_thrS (As := [.int (zI 2)]) (rest := []) ([] : va_W) (x8W u a r q ++ (svW ct r b nx sz S ++ (sobjW a ++ (gridW ct a M ++ (benchW ct a M ++ (logW ct a M ++ (txtW ct q TX tl pl ft wd n1 n2))))))) hx hb hml hown hts hl hE hS hA hP hD (ZX.toE (c_X8_refuse_x l D ct ad 2 hst (by omega)) rfl) gX8_rangeOfRates_X8_refuse rfl k_X8_refuse ⟨Nat.le_of_ble_eq_true rfl, Nat.le_of_ble_eq_true rfl⟩ rfl (Nat.le_of_ble_eq_true rfl) ⟨Nat.le_of_ble_eq_true rfl, Nat.le_of_ble_eq_true rfl⟩ dX8_rangeOfRates_23 rfl hout hlocks ⟨Nat.le_of_ble_eq_true rfl, Nat.le_of_ble_eq_true rfl⟩ rfl
    · have hc_15 := hc_15
      omega
set_option maxHeartbeats 4000000 in
set_option maxRecDepth 100000 in
theorem c_X8_changeWithin_x (l : Launch) (D : va_G) (ct ad : Nat → Nat) (u : Nat) (a r q : Nat → Nat) (b : Nat → Nat → Nat) (nx sz : Int) (S : Nat → Int → Int) (M TX : Int → Int) (tl pl ft n1 n2 : Int) (wd : Value) (n : Int) (hs : sInv M) (hst : l.stackTraces = false) (h1 : -2147483648 ≤ n ∧ n ≤ 2147483647) (hno : ¬ (0 ≤ n ∧ n ≤ 500)) : ZX l yX8_changeWithin wsX8_changeWithin ({ frames := 7, cells := 1, slots := 6, locals := 102 } : Room) D ct ad [.ref u, .int (zI n)] (x8W u a r q ++ (svW ct r b nx sz S ++ (sobjW a ++ (gridW ct a M ++ (benchW ct a M ++ (logW ct a M ++ (txtW ct q TX tl pl ft wd n1 n2))))))) "java/lang/IllegalArgumentException" := by
  refine ZX.of (cc := cX8_changeWithin) (maxL := 2) (ret := (some .long)) (by decide +kernel) rfl (Nat.le_of_ble_eq_true rfl) ?_
  intro p e s m below meth c A ls hx hb hr hts hown hlocks hml hout hE hP hD hA hS hl
  have hK := hE.1
  have hl : lv_has ls 2 [(0, .ref u), (1, .int (zI n))] := hl
  have hI := hs.1
  have hB := hs.2.1
  have ha := hs.2.2
  have i3 := hI.1
  have i4 := hI.2.1
  have j0 := hB.1
  have j1 := hB.2.1
  have j2 := hB.2.2.1
  have j4 := hB.2.2.2.2
  refine lv_iload_n hx hb dX8_changeWithin_0 rfl (lv_at hl 1 rfl) ?_
  refine z_iconst hx hb dX8_changeWithin_1 ?_
  refine z_sipush hx hb dX8_changeWithin_2 (by decide) ?_
  refine z_callS (As := [.int (zI n), .int (zI 0), .int (zI 500)]) (rest := []) ([] : va_W) (x8W u a r q ++ (svW ct r b nx sz S ++ (sobjW a ++ (gridW ct a M ++ (benchW ct a M ++ (logW ct a M ++ (txtW ct q TX tl pl ft wd n1 n2))))))) hx hb hml hown hts hl hE hS hA hP hD (c_X8_within l D ct ad n 0 500 (by omega) (by omega) (by omega)) gX8_changeWithin_X8_within rfl k_X8_within ⟨Nat.le_of_ble_eq_true rfl, Nat.le_of_ble_eq_true rfl⟩ rfl (Nat.le_of_ble_eq_true rfl) ⟨Nat.le_of_ble_eq_true rfl, Nat.le_of_ble_eq_true rfl⟩ dX8_changeWithin_5 rfl (fun v w1 H locs hpost hP hD hS => ?_)
  obtain ⟨rfl, rfl⟩ := hpost
  have hP : va_P D vwCl (x8W u a r q ++ (svW ct r b nx sz S ++ (sobjW a ++ (gridW ct a M ++ (benchW ct a M ++ (logW ct a M ++ (txtW ct q TX tl pl ft wd n1 n2))))))) H := hP
  have hD : va_D A (x8W u a r q ++ (svW ct r b nx sz S ++ (sobjW a ++ (gridW ct a M ++ (benchW ct a M ++ (logW ct a M ++ (txtW ct q TX tl pl ft wd n1 n2))))))) := hD
  refine W.eq (g2 := F0 m 8 ls [.int (zI (zB (0 ≤ n ∧ n ≤ 500)))]) rfl ?_
  refine zb_if_eq (tgt := 15) hx hb dX8_changeWithin_8 (by decide) (fun hc_8 => ?_) (fun hc_8 => ?_)
  · have hc_8 := hc_8
    refine z_iconst hx hb dX8_changeWithin_15 ?_
    exact z_thrS (As := [.int (zI 2)]) (rest := []) ([] : va_W) (x8W u a r q ++ (svW ct r b nx sz S ++ (sobjW a ++ (gridW ct a M ++ (benchW ct a M ++ (logW ct a M ++ (txtW ct q TX tl pl ft wd n1 n2))))))) hx hb hml hown hts hl hE hS hA hP hD (ZX.toE (c_X8_refuse_x l D ct ad 2 hst (by omega)) rfl) gX8_changeWithin_X8_refuse rfl k_X8_refuse ⟨Nat.le_of_ble_eq_true rfl, Nat.le_of_ble_eq_true rfl⟩ rfl (Nat.le_of_ble_eq_true rfl) ⟨Nat.le_of_ble_eq_true rfl, Nat.le_of_ble_eq_true rfl⟩ dX8_changeWithin_16 rfl hout hlocks ⟨Nat.le_of_ble_eq_true rfl, Nat.le_of_ble_eq_true rfl⟩ rfl
  · have hc_8 := hc_8
    exact absurd hc_8 hno
set_option maxHeartbeats 4000000 in
set_option maxRecDepth 100000 in
theorem c_X8_rod_x1 (l : Launch) (D : va_G) (ct ad : Nat → Nat) (u : Nat) (a r q : Nat → Nat) (b : Nat → Nat → Nat) (nx sz : Int) (S : Nat → Int → Int) (M TX : Int → Int) (tl pl ft n1 n2 : Int) (wd : Value) (k w : Int) (hs : sInv M) (hst : l.stackTraces = false) (h1 : -2147483648 ≤ k ∧ k ≤ 2147483647) (h2 : -2147483648 ≤ w ∧ w ≤ 2147483647) (hno : ¬ (0 ≤ k ∧ k < M 4)) : ZX l yX8_rod wsX8_rod ({ frames := 7, cells := 1, slots := 6, locals := 102 } : Room) D ct ad [.ref u, .int (zI k), .int (zI w)] (x8W u a r q ++ (svW ct r b nx sz S ++ (sobjW a ++ (gridW ct a M ++ (benchW ct a M ++ (logW ct a M ++ (txtW ct q TX tl pl ft wd n1 n2))))))) "java/lang/IndexOutOfBoundsException" := by
  refine ZX.of (cc := cX8_rod) (maxL := 3) (ret := (some .int)) (by decide +kernel) rfl (Nat.le_of_ble_eq_true rfl) ?_
  intro p e s m below meth c A ls hx hb hr hts hown hlocks hml hout hE hP hD hA hS hl
  have hK := hE.1
  have hf_0 := hts (.fieldLink RX8 10 "RodGrids" "state" "LRodGrids$State;") (by decide +kernel)
  have hf_1 := hts (.fieldLink RX8 30 "RodGrids$State" "grid" "LRodGrids$Grid;") (by decide +kernel)
  have hin_X6 : ∀ z ∈ u_ws RX6 TX6 3, z ∈ wsX8_rod := by decide +kernel
  have hin_X8 : ∀ z ∈ u_ws RX8 TX8 3, z ∈ wsX8_rod := by decide +kernel
  have hl : lv_has ls 3 [(0, .ref u), (1, .int (zI k)), (2, .int (zI w))] := hl
  have hI := hs.1
  have hB := hs.2.1
  have ha := hs.2.2
  have i3 := hI.1
  have i4 := hI.2.1
  have j0 := hB.1
  have j1 := hB.2.1
  have j2 := hB.2.2.1
  have j4 := hB.2.2.2.2
  refine lv_aload_n hx hb dX8_rod_0 rfl (lv_at hl 0 rfl) ?_
  refine va_get (D := D) (ci := 6) (v := .ref (a 0)) (C := RX8) (T := TX8) (N := 3) hx hb hts hin_X8 hown hK hP 0 rfl rfl 0 (by decide) hf_0 (fun _ h9 => h9) rfl dX8_rod_1 ?_
  refine va_get (D := D) (ci := 5) (v := .ref (a 1)) (C := RX6) (T := TX6) (N := 3) hx hb hts hin_X6 hown hK hP 47 rfl rfl 0 (by decide) hf_1 (fun _ h9 => h9) rfl dX8_rod_4 ?_
  refine lv_iload_n hx hb dX8_rod_7 rfl (lv_at hl 1 rfl) ?_
  refine z_callV (C := RX4) (q0 := 0) (ci := 3) (As := [.int (zI k)]) (rest := []) (x8W u a r q ++ (svW ct r b nx sz S ++ (sobjW a))) (benchW ct a M ++ (logW ct a M ++ (txtW ct q TX tl pl ft wd n1 n2))) hx hb hml hown hts hl hE hS hA hP hD (c_X4_checkRod l D ct ad a M k (by assumption) (by omega)) gX8_rod_X4_checkRod rfl rfl k_X4_checkRod ⟨Nat.le_of_ble_eq_true rfl, Nat.le_of_ble_eq_true rfl⟩ rfl rfl rfl rfl (Nat.le_of_ble_eq_true rfl) ⟨Nat.le_of_ble_eq_true rfl, Nat.le_of_ble_eq_true rfl⟩ dX8_rod_8 rfl (fun v w1 H locs hpost hP hD hS => ?_)
  obtain ⟨rfl, rfl⟩ := hpost
  have hP : va_P D vwCl (x8W u a r q ++ (svW ct r b nx sz S ++ (sobjW a ++ (gridW ct a M ++ (benchW ct a M ++ (logW ct a M ++ (txtW ct q TX tl pl ft wd n1 n2))))))) H := hP
  have hD : va_D A (x8W u a r q ++ (svW ct r b nx sz S ++ (sobjW a ++ (gridW ct a M ++ (benchW ct a M ++ (logW ct a M ++ (txtW ct q TX tl pl ft wd n1 n2))))))) := hD
  refine W.eq (g2 := F0 m 11 ls [.int (zI (if 0 ≤ k ∧ k < M 4 then 0 else 1))]) rfl ?_
  exact z_thrS (As := [.int (zI (if 0 ≤ k ∧ k < M 4 then 0 else 1))]) (rest := []) ([] : va_W) (x8W u a r q ++ (svW ct r b nx sz S ++ (sobjW a ++ (gridW ct a M ++ (benchW ct a M ++ (logW ct a M ++ (txtW ct q TX tl pl ft wd n1 n2))))))) hx hb hml hown hts hl hE hS hA hP hD (ZX.toE (c_X8_refuse_x l D ct ad (if 0 ≤ k ∧ k < M 4 then 0 else 1) hst (by rw [if_neg hno]; omega)) (by rw [if_neg hno]; rfl)) gX8_rod_X8_refuse rfl k_X8_refuse ⟨Nat.le_of_ble_eq_true rfl, Nat.le_of_ble_eq_true rfl⟩ rfl (Nat.le_of_ble_eq_true rfl) ⟨Nat.le_of_ble_eq_true rfl, Nat.le_of_ble_eq_true rfl⟩ dX8_rod_11 rfl hout hlocks ⟨Nat.le_of_ble_eq_true rfl, Nat.le_of_ble_eq_true rfl⟩ rfl
set_option maxHeartbeats 4000000 in
set_option maxRecDepth 100000 in
theorem c_X8_rod_x2 (l : Launch) (D : va_G) (ct ad : Nat → Nat) (u : Nat) (a r q : Nat → Nat) (b : Nat → Nat → Nat) (nx sz : Int) (S : Nat → Int → Int) (M TX : Int → Int) (tl pl ft n1 n2 : Int) (wd : Value) (k w : Int) (hs : sInv M) (hst : l.stackTraces = false) (h1 : -2147483648 ≤ k ∧ k ≤ 2147483647) (h2 : -2147483648 ≤ w ∧ w ≤ 2147483647) (hk : 0 ≤ k ∧ k < M 4) (hno : ¬ (0 ≤ w ∧ w ≤ 4)) : ZX l yX8_rod wsX8_rod ({ frames := 7, cells := 1, slots := 6, locals := 102 } : Room) D ct ad [.ref u, .int (zI k), .int (zI w)] (x8W u a r q ++ (svW ct r b nx sz S ++ (sobjW a ++ (gridW ct a M ++ (benchW ct a M ++ (logW ct a M ++ (txtW ct q TX tl pl ft wd n1 n2))))))) "java/lang/IllegalArgumentException" := by
  refine ZX.of (cc := cX8_rod) (maxL := 3) (ret := (some .int)) (by decide +kernel) rfl (Nat.le_of_ble_eq_true rfl) ?_
  intro p e s m below meth c A ls hx hb hr hts hown hlocks hml hout hE hP hD hA hS hl
  have hK := hE.1
  have hf_0 := hts (.fieldLink RX8 10 "RodGrids" "state" "LRodGrids$State;") (by decide +kernel)
  have hf_1 := hts (.fieldLink RX8 30 "RodGrids$State" "grid" "LRodGrids$Grid;") (by decide +kernel)
  have hin_X6 : ∀ z ∈ u_ws RX6 TX6 3, z ∈ wsX8_rod := by decide +kernel
  have hin_X8 : ∀ z ∈ u_ws RX8 TX8 3, z ∈ wsX8_rod := by decide +kernel
  have hl : lv_has ls 3 [(0, .ref u), (1, .int (zI k)), (2, .int (zI w))] := hl
  have hI := hs.1
  have hB := hs.2.1
  have ha := hs.2.2
  have i3 := hI.1
  have i4 := hI.2.1
  have j0 := hB.1
  have j1 := hB.2.1
  have j2 := hB.2.2.1
  have j4 := hB.2.2.2.2
  refine lv_aload_n hx hb dX8_rod_0 rfl (lv_at hl 0 rfl) ?_
  refine va_get (D := D) (ci := 6) (v := .ref (a 0)) (C := RX8) (T := TX8) (N := 3) hx hb hts hin_X8 hown hK hP 0 rfl rfl 0 (by decide) hf_0 (fun _ h9 => h9) rfl dX8_rod_1 ?_
  refine va_get (D := D) (ci := 5) (v := .ref (a 1)) (C := RX6) (T := TX6) (N := 3) hx hb hts hin_X6 hown hK hP 47 rfl rfl 0 (by decide) hf_1 (fun _ h9 => h9) rfl dX8_rod_4 ?_
  refine lv_iload_n hx hb dX8_rod_7 rfl (lv_at hl 1 rfl) ?_
  refine z_callV (C := RX4) (q0 := 0) (ci := 3) (As := [.int (zI k)]) (rest := []) (x8W u a r q ++ (svW ct r b nx sz S ++ (sobjW a))) (benchW ct a M ++ (logW ct a M ++ (txtW ct q TX tl pl ft wd n1 n2))) hx hb hml hown hts hl hE hS hA hP hD (c_X4_checkRod l D ct ad a M k (by assumption) (by omega)) gX8_rod_X4_checkRod rfl rfl k_X4_checkRod ⟨Nat.le_of_ble_eq_true rfl, Nat.le_of_ble_eq_true rfl⟩ rfl rfl rfl rfl (Nat.le_of_ble_eq_true rfl) ⟨Nat.le_of_ble_eq_true rfl, Nat.le_of_ble_eq_true rfl⟩ dX8_rod_8 rfl (fun v w1 H locs hpost hP hD hS => ?_)
  obtain ⟨rfl, rfl⟩ := hpost
  have hP : va_P D vwCl (x8W u a r q ++ (svW ct r b nx sz S ++ (sobjW a ++ (gridW ct a M ++ (benchW ct a M ++ (logW ct a M ++ (txtW ct q TX tl pl ft wd n1 n2))))))) H := hP
  have hD : va_D A (x8W u a r q ++ (svW ct r b nx sz S ++ (sobjW a ++ (gridW ct a M ++ (benchW ct a M ++ (logW ct a M ++ (txtW ct q TX tl pl ft wd n1 n2))))))) := hD
  refine W.eq (g2 := F0 m 11 ls [.int (zI (if 0 ≤ k ∧ k < M 4 then 0 else 1))]) rfl ?_
  refine z_callS (As := [.int (zI (if 0 ≤ k ∧ k < M 4 then 0 else 1))]) (rest := []) ([] : va_W) (x8W u a r q ++ (svW ct r b nx sz S ++ (sobjW a ++ (gridW ct a M ++ (benchW ct a M ++ (logW ct a M ++ (txtW ct q TX tl pl ft wd n1 n2))))))) hx hb hml hown hts hl hE hS hA hP hD (c_X8_refuse l D ct ad (if 0 ≤ k ∧ k < M 4 then 0 else 1) (if_pos hk)) gX8_rod_X8_refuse rfl k_X8_refuse ⟨Nat.le_of_ble_eq_true rfl, Nat.le_of_ble_eq_true rfl⟩ rfl (Nat.le_of_ble_eq_true rfl) ⟨Nat.le_of_ble_eq_true rfl, Nat.le_of_ble_eq_true rfl⟩ dX8_rod_11 rfl (fun v w1 H locs hpost hP hD hS => ?_)
  obtain ⟨rfl, rfl⟩ := hpost
  have hP : va_P D vwCl (x8W u a r q ++ (svW ct r b nx sz S ++ (sobjW a ++ (gridW ct a M ++ (benchW ct a M ++ (logW ct a M ++ (txtW ct q TX tl pl ft wd n1 n2))))))) H := hP
  have hD : va_D A (x8W u a r q ++ (svW ct r b nx sz S ++ (sobjW a ++ (gridW ct a M ++ (benchW ct a M ++ (logW ct a M ++ (txtW ct q TX tl pl ft wd n1 n2))))))) := hD
  refine W.eq (g2 := F0 m 14 ls []) rfl ?_
  refine lv_iload_n hx hb dX8_rod_14 rfl (lv_at hl 2 rfl) ?_
  refine z_iconst hx hb dX8_rod_15 ?_
  refine z_iconst hx hb dX8_rod_16 ?_
  refine z_callS (As := [.int (zI w), .int (zI 0), .int (zI 4)]) (rest := []) ([] : va_W) (x8W u a r q ++ (svW ct r b nx sz S ++ (sobjW a ++ (gridW ct a M ++ (benchW ct a M ++ (logW ct a M ++ (txtW ct q TX tl pl ft wd n1 n2))))))) hx hb hml hown hts hl hE hS hA hP hD (c_X8_within l D ct ad w 0 4 (by omega) (by omega) (by omega)) gX8_rod_X8_within rfl k_X8_within ⟨Nat.le_of_ble_eq_true rfl, Nat.le_of_ble_eq_true rfl⟩ rfl (Nat.le_of_ble_eq_true rfl) ⟨Nat.le_of_ble_eq_true rfl, Nat.le_of_ble_eq_true rfl⟩ dX8_rod_17 rfl (fun v w1 H locs hpost hP hD hS => ?_)
  obtain ⟨rfl, rfl⟩ := hpost
  have hP : va_P D vwCl (x8W u a r q ++ (svW ct r b nx sz S ++ (sobjW a ++ (gridW ct a M ++ (benchW ct a M ++ (logW ct a M ++ (txtW ct q TX tl pl ft wd n1 n2))))))) H := hP
  have hD : va_D A (x8W u a r q ++ (svW ct r b nx sz S ++ (sobjW a ++ (gridW ct a M ++ (benchW ct a M ++ (logW ct a M ++ (txtW ct q TX tl pl ft wd n1 n2))))))) := hD
  refine W.eq (g2 := F0 m 20 ls [.int (zI (zB (0 ≤ w ∧ w ≤ 4)))]) rfl ?_
  refine zb_if_eq (tgt := 27) hx hb dX8_rod_20 (by decide) (fun hc_20 => ?_) (fun hc_20 => ?_)
  · have hc_20 := hc_20
    refine z_iconst hx hb dX8_rod_27 ?_
    exact z_thrS (As := [.int (zI 2)]) (rest := []) ([] : va_W) (x8W u a r q ++ (svW ct r b nx sz S ++ (sobjW a ++ (gridW ct a M ++ (benchW ct a M ++ (logW ct a M ++ (txtW ct q TX tl pl ft wd n1 n2))))))) hx hb hml hown hts hl hE hS hA hP hD (ZX.toE (c_X8_refuse_x l D ct ad 2 hst (by omega)) rfl) gX8_rod_X8_refuse rfl k_X8_refuse ⟨Nat.le_of_ble_eq_true rfl, Nat.le_of_ble_eq_true rfl⟩ rfl (Nat.le_of_ble_eq_true rfl) ⟨Nat.le_of_ble_eq_true rfl, Nat.le_of_ble_eq_true rfl⟩ dX8_rod_28 rfl hout hlocks ⟨Nat.le_of_ble_eq_true rfl, Nat.le_of_ble_eq_true rfl⟩ rfl
  · have hc_20 := hc_20
    exact absurd hc_20 hno
set_option maxHeartbeats 4000000 in
set_option maxRecDepth 100000 in
theorem c_X8_type_x (l : Launch) (D : va_G) (ct ad : Nat → Nat) (u : Nat) (a r q : Nat → Nat) (b : Nat → Nat → Nat) (nx sz : Int) (S : Nat → Int → Int) (M TX : Int → Int) (tl pl ft n1 n2 : Int) (wd : Value) (v : Int) (hs : sInv M) (hst : l.stackTraces = false) (ht : tInv TX tl) (h1 : -2147483648 ≤ v ∧ v ≤ 2147483647) (hno : ¬ ((0 ≤ v ∧ v ≤ 127) ∧ tl < 150)) : ZX l yX8_type wsX8_type ({ frames := 7, cells := 1, slots := 6, locals := 102 } : Room) D ct ad [.ref u, .int (zI v)] (x8W u a r q ++ (svW ct r b nx sz S ++ (sobjW a ++ (gridW ct a M ++ (benchW ct a M ++ (logW ct a M ++ (txtW ct q TX tl pl ft wd n1 n2))))))) (zEx (if 0 ≤ v ∧ v ≤ 127 then 3 else 2)) := by
  refine ZX.of (cc := cX8_type) (maxL := 2) (ret := (some .int)) (by decide +kernel) rfl (Nat.le_of_ble_eq_true rfl) ?_
  intro p e s m below meth c A ls hx hb hr hts hown hlocks hml hout hE hP hD hA hS hl
  have hK := hE.1
  have hf_0 := hts (.fieldLink RX8 26 "RodGrids" "text" "LRodGrids$CommandText;") (by decide +kernel)
  have hin_X8 : ∀ z ∈ u_ws RX8 TX8 3, z ∈ wsX8_type := by decide +kernel
  have hl : lv_has ls 2 [(0, .ref u), (1, .int (zI v))] := hl
  have hI := hs.1
  have hB := hs.2.1
  have ha := hs.2.2
  have i3 := hI.1
  have i4 := hI.2.1
  have j0 := hB.1
  have j1 := hB.2.1
  have j2 := hB.2.2.1
  have j4 := hB.2.2.2.2
  have t1 := ht.1
  refine lv_aload_n hx hb dX8_type_0 rfl (lv_at hl 0 rfl) ?_
  refine va_get (D := D) (ci := 6) (v := .ref (q 0)) (C := RX8) (T := TX8) (N := 3) hx hb hts hin_X8 hown hK hP 0 rfl rfl 2 (by decide) hf_0 (fun _ h9 => h9) rfl dX8_type_1 ?_
  refine lv_iload_n hx hb dX8_type_4 rfl (lv_at hl 1 rfl) ?_
  refine z_callV (C := RX2) (q0 := 0) (ci := 1) (As := [.int (zI v)]) (rest := []) (x8W u a r q ++ (svW ct r b nx sz S ++ (sobjW a ++ (gridW ct a M ++ (benchW ct a M ++ (logW ct a M)))))) ([] : va_W) hx hb hml hown hts hl hE hS hA (zr0 (x8W u a r q ++ (svW ct r b nx sz S ++ (sobjW a ++ (gridW ct a M ++ (benchW ct a M ++ (logW ct a M)))))) hP) (zr0D (x8W u a r q ++ (svW ct r b nx sz S ++ (sobjW a ++ (gridW ct a M ++ (benchW ct a M ++ (logW ct a M)))))) hD) (c_X2_checkByte l D ct ad q TX tl pl ft n1 n2 wd v (by assumption) (by omega)) gX8_type_X2_checkByte rfl rfl k_X2_checkByte ⟨Nat.le_of_ble_eq_true rfl, Nat.le_of_ble_eq_true rfl⟩ rfl rfl rfl rfl (Nat.le_of_ble_eq_true rfl) ⟨Nat.le_of_ble_eq_true rfl, Nat.le_of_ble_eq_true rfl⟩ dX8_type_5 rfl (fun v w1 H locs hpost hP hD hS => ?_)
  obtain ⟨rfl, rfl⟩ := hpost
  have hP := zr0' hP
  have hD := zr0D' hD
  have hP : va_P D vwCl (x8W u a r q ++ (svW ct r b nx sz S ++ (sobjW a ++ (gridW ct a M ++ (benchW ct a M ++ (logW ct a M ++ (txtW ct q TX tl pl ft wd n1 n2))))))) H := hP
  have hD : va_D A (x8W u a r q ++ (svW ct r b nx sz S ++ (sobjW a ++ (gridW ct a M ++ (benchW ct a M ++ (logW ct a M ++ (txtW ct q TX tl pl ft wd n1 n2))))))) := hD
  refine W.eq (g2 := F0 m 8 ls [.int (zI (if 0 ≤ v ∧ v ≤ 127 then (if tl < 150 then 0 else 3) else 2))]) rfl ?_
  exact z_thrS (As := [.int (zI (if 0 ≤ v ∧ v ≤ 127 then (if tl < 150 then 0 else 3) else 2))]) (rest := []) ([] : va_W) (x8W u a r q ++ (svW ct r b nx sz S ++ (sobjW a ++ (gridW ct a M ++ (benchW ct a M ++ (logW ct a M ++ (txtW ct q TX tl pl ft wd n1 n2))))))) hx hb hml hown hts hl hE hS hA hP hD (ZX.toE (c_X8_refuse_x l D ct ad (if 0 ≤ v ∧ v ≤ 127 then (if tl < 150 then 0 else 3) else 2) hst (by rw [tyk hno]; split <;> omega)) (congrArg zEx (tyk hno))) gX8_type_X8_refuse rfl k_X8_refuse ⟨Nat.le_of_ble_eq_true rfl, Nat.le_of_ble_eq_true rfl⟩ rfl (Nat.le_of_ble_eq_true rfl) ⟨Nat.le_of_ble_eq_true rfl, Nat.le_of_ble_eq_true rfl⟩ dX8_type_8 rfl hout hlocks ⟨Nat.le_of_ble_eq_true rfl, Nat.le_of_ble_eq_true rfl⟩ rfl
set_option maxHeartbeats 4000000 in
set_option maxRecDepth 100000 in
theorem c_X8_undo_x (l : Launch) (D : va_G) (ct ad : Nat → Nat) (u : Nat) (a r q : Nat → Nat) (b : Nat → Nat → Nat) (nx sz : Int) (S : Nat → Int → Int) (M TX : Int → Int) (tl pl ft n1 n2 : Int) (wd : Value) (hs : sInv M) (hst : l.stackTraces = false) (hno : sz = 0) : ZX l yX8_undo wsX8_undo ({ frames := 7, cells := 1, slots := 6, locals := 102 } : Room) D ct ad [.ref u] (x8W u a r q ++ (svW ct r b nx sz S ++ (sobjW a ++ (gridW ct a M ++ (benchW ct a M ++ (logW ct a M ++ (txtW ct q TX tl pl ft wd n1 n2))))))) "java/lang/IllegalStateException" := by
  refine ZX.of (cc := cX8_undo) (maxL := 1) (ret := (some .int)) (by decide +kernel) rfl (Nat.le_of_ble_eq_true rfl) ?_
  intro p e s m below meth c A ls hx hb hr hts hown hlocks hml hout hE hP hD hA hS hl
  have hK := hE.1
  have hf_0 := hts (.fieldLink RX8 19 "RodGrids" "saved" "LRodGrids$SavedStates;") (by decide +kernel)
  have hf_1 := hts (.fieldLink RX8 231 "RodGrids$SavedStates" "size" "I") (by decide +kernel)
  have hin_X5 : ∀ z ∈ u_ws RX5 TX5 3, z ∈ wsX8_undo := by decide +kernel
  have hin_X8 : ∀ z ∈ u_ws RX8 TX8 3, z ∈ wsX8_undo := by decide +kernel
  have hl : lv_has ls 1 [(0, .ref u)] := hl
  have hI := hs.1
  have hB := hs.2.1
  have ha := hs.2.2
  have i3 := hI.1
  have i4 := hI.2.1
  have j0 := hB.1
  have j1 := hB.2.1
  have j2 := hB.2.2.1
  have j4 := hB.2.2.2.2
  refine lv_aload_n hx hb dX8_undo_0 rfl (lv_at hl 0 rfl) ?_
  refine va_get (D := D) (ci := 6) (v := .ref (r 0)) (C := RX8) (T := TX8) (N := 3) hx hb hts hin_X8 hown hK hP 0 rfl rfl 1 (by decide) hf_0 (fun _ h9 => h9) rfl dX8_undo_1 ?_
  refine va_get (D := D) (ci := 4) (v := .int (zI sz)) (C := RX5) (T := TX5) (N := 3) hx hb hts hin_X5 hown hK hP 1 rfl rfl 2 (by decide) hf_1 (fun _ h9 => h9) rfl dX8_undo_4 ?_
  refine z_if_le (tgt := 14) hx hb dX8_undo_7 (by decide) (by omega) (fun hc_7 => ?_) (fun hc_7 => ?_)
  · have hc_7 := hc_7
    refine z_iconst hx hb dX8_undo_14 ?_
    exact z_thrS (As := [.int (zI 3)]) (rest := []) ([] : va_W) (x8W u a r q ++ (svW ct r b nx sz S ++ (sobjW a ++ (gridW ct a M ++ (benchW ct a M ++ (logW ct a M ++ (txtW ct q TX tl pl ft wd n1 n2))))))) hx hb hml hown hts hl hE hS hA hP hD (ZX.toE (c_X8_refuse_x l D ct ad 3 hst (by omega)) rfl) gX8_undo_X8_refuse rfl k_X8_refuse ⟨Nat.le_of_ble_eq_true rfl, Nat.le_of_ble_eq_true rfl⟩ rfl (Nat.le_of_ble_eq_true rfl) ⟨Nat.le_of_ble_eq_true rfl, Nat.le_of_ble_eq_true rfl⟩ dX8_undo_15 rfl hout hlocks ⟨Nat.le_of_ble_eq_true rfl, Nat.le_of_ble_eq_true rfl⟩ rfl
  · have hc_7 := hc_7
    omega
