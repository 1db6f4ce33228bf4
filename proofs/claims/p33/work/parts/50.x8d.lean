theorem k_X2_findFault : yX2_findFault.cls ≠ "java/lang/invoke/MethodHandle" ∧ yX2_findFault.cls ≠ "java/lang/invoke/VarHandle" ∧ (parseMethodDescriptor yX2_findFault.desc).map (fun d => d.parameters.length) = some 0 := by decide +kernel
set_option maxHeartbeats 4000000 in
set_option maxRecDepth 100000 in
theorem c_X8_runCommands_no (l : Launch) (D : va_G) (ct ad : Nat → Nat) (u : Nat) (a r q : Nat → Nat) (b : Nat → Nat → Nat) (nx sz : Int) (S : Nat → Int → Int) (M TX : Int → Int) (tl pl ft n1 n2 : Int) (wd : Value) (hs : sInv M) (ht : tInv TX tl) (hn : 0 ≤ nx ∧ nx ≤ 3) (hsz : 0 ≤ sz ∧ sz ≤ 4) (hno : tf TX tl 0 ≠ -1) : ZM l yX8_runCommands wsX8_runCommands ({ frames := 9, cells := 0, slots := 0, locals := 194 } : Room) D ct ad [.ref u] (x8W u a r q ++ (svW ct r b nx sz S ++ (sobjW a ++ (gridW ct a M ++ (benchW ct a M ++ (logW ct a M ++ (txtW ct q TX tl pl ft wd n1 n2))))))) (fun v w => ∃ (pl2 : Int) (wd2 : Value) (m1 : Int) (m2 : Int), ((True)) ∧ v = (some (.int (zI (-10 - tf TX tl 0)))) ∧ w = x8W u a r q ++ (svW ct r b nx sz S ++ (sobjW a ++ (gridW ct a M ++ (benchW ct a M ++ (logW ct a M ++ (txtW ct q TX tl pl2 (tf TX tl 0) wd2 m1 m2))))))) := by
  refine ZM.of (cc := cX8_runCommands) (maxL := 3) (ret := (some .int)) (by decide +kernel) rfl (Nat.le_of_ble_eq_true rfl) ?_
  intro p e s m below meth c A ls hx hb hr hts hown hlocks hml hname hE hP hD hA hS hl
  have hK := hE.1
  have hf_0 := hts (.fieldLink RX8 26 "RodGrids" "text" "LRodGrids$CommandText;") (by decide +kernel)
  have hin_X8 : ∀ z ∈ u_ws RX8 TX8 3, z ∈ wsX8_runCommands := by decide +kernel
  have hl : lv_has ls 3 [(0, .ref u)] := hl
  have hI := hs.1
  have hB := hs.2.1
  have ha := hs.2.2
  have i3 := hI.1
  have i4 := hI.2.1
  have j0 := hB.1
  have j1 := hB.2.1
  have j2 := hB.2.2.1
  have j4 := hB.2.2.2.2
  have t1 := ht.1
  refine lv_aload_n hx hb dX8_runCommands_0 rfl (lv_at hl 0 rfl) ?_
  refine va_get (D := D) (ci := 6) (v := .ref (q 0)) (C := RX8) (T := TX8) (N := 3) hx hb hts hin_X8 hown hK hP 0 rfl rfl 2 (by decide) hf_0 (fun _ h9 => h9) rfl dX8_runCommands_1 ?_
  refine z_callV (C := RX2) (q0 := 0) (ci := 1) (As := []) (rest := []) (x8W u a r q ++ (svW ct r b nx sz S ++ (sobjW a ++ (gridW ct a M ++ (benchW ct a M ++ (logW ct a M)))))) ([] : va_W) hx hb hml hown hts hl hE hS hA (zr0 (x8W u a r q ++ (svW ct r b nx sz S ++ (sobjW a ++ (gridW ct a M ++ (benchW ct a M ++ (logW ct a M)))))) hP) (zr0D (x8W u a r q ++ (svW ct r b nx sz S ++ (sobjW a ++ (gridW ct a M ++ (benchW ct a M ++ (logW ct a M)))))) hD) (c_X2_findFault l D ct ad q TX tl pl ft n1 n2 wd (by assumption)) gX8_runCommands_X2_findFault rfl rfl k_X2_findFault ⟨Nat.le_of_ble_eq_true rfl, Nat.le_of_ble_eq_true rfl⟩ rfl rfl rfl rfl (Nat.le_of_ble_eq_true rfl) ⟨Nat.le_of_ble_eq_true rfl, Nat.le_of_ble_eq_true rfl⟩ dX8_runCommands_4 rfl (fun v w1 H locs hpost hP hD hS => ?_)
  obtain ⟨pl2_4, wd2_4, m1_4, m2_4, hx0_4, rfl, rfl⟩ := hpost
  have hP := zr0' hP
  have hD := zr0D' hD
  have hP : va_P D vwCl (x8W u a r q ++ (svW ct r b nx sz S ++ (sobjW a ++ (gridW ct a M ++ (benchW ct a M ++ (logW ct a M ++ (txtW ct q TX tl pl2_4 (tf TX tl 0) wd2_4 m1_4 m2_4))))))) H := hP
  have hD : va_D A (x8W u a r q ++ (svW ct r b nx sz S ++ (sobjW a ++ (gridW ct a M ++ (benchW ct a M ++ (logW ct a M ++ (txtW ct q TX tl pl2_4 (tf TX tl 0) wd2_4 m1_4 m2_4))))))) := hD
  refine W.eq (g2 := F0 m 7 ls [.int (zI (tf TX tl 0))]) rfl ?_
  refine lv_istore_n (lv' := [(1, .int (zI (tf TX tl 0))), (0, .ref u)]) hx hb dX8_runCommands_7 rfl hl (by decide) rfl (fun ls hl => ?_)
  have fB : -1 ≤ tf TX tl 0 ∧ tf TX tl 0 ≤ 150 := tfB ht
  refine lv_iload_n hx hb dX8_runCommands_8 rfl (lv_at hl 0 rfl) ?_
  refine z_iconst hx hb dX8_runCommands_9 ?_
  refine z_icmp_eq (tgt := 18) hx hb dX8_runCommands_10 (by decide) (by omega) (by omega) (fun hc_10 => ?_) (fun hc_10 => ?_)
  · have hc_10 := hc_10
    exact absurd hc_10 hno
  · have hc_10 := hc_10
    refine z_bipush hx hb dX8_runCommands_13 (by decide) ?_
    refine lv_iload_n hx hb dX8_runCommands_15 rfl (lv_at hl 0 rfl) ?_
    refine z_isub hx hb dX8_runCommands_16 ?_
    exact z_iret hx hb hr hlocks hP hD hS ⟨Nat.le_of_ble_eq_true rfl, Nat.le_of_ble_eq_true rfl⟩ dX8_runCommands_17 (⟨pl2_4, wd2_4, m1_4, m2_4, trivial, rfl, rfl⟩)
theorem k_X5_push : yX5_push.cls ≠ "java/lang/invoke/MethodHandle" ∧ yX5_push.cls ≠ "java/lang/invoke/VarHandle" ∧ (parseMethodDescriptor yX5_push.desc).map (fun d => d.parameters.length) = some 1 := by decide +kernel
theorem k_X8_carryOut : yX8_carryOut.cls ≠ "java/lang/invoke/MethodHandle" ∧ yX8_carryOut.cls ≠ "java/lang/invoke/VarHandle" ∧ (parseMethodDescriptor yX8_carryOut.desc).map (fun d => d.parameters.length) = some 3 := by decide +kernel
theorem k_X8_troubleWith : yX8_troubleWith.cls ≠ "java/lang/invoke/MethodHandle" ∧ yX8_troubleWith.cls ≠ "java/lang/invoke/VarHandle" ∧ (parseMethodDescriptor yX8_troubleWith.desc).map (fun d => d.parameters.length) = some 3 := by decide +kernel
set_option maxHeartbeats 4000000 in
set_option maxRecDepth 100000 in
theorem c_X8_runCommands_ok (l : Launch) (D : va_G) (ct ad : Nat → Nat) (u : Nat) (a r q : Nat → Nat) (b : Nat → Nat → Nat) (nx sz : Int) (S : Nat → Int → Int) (M TX : Int → Int) (tl pl ft n1 n2 : Int) (wd : Value) (hs : sInv M) (ht : tInv TX tl) (hn : 0 ≤ nx ∧ nx ≤ 3) (hsz : 0 ≤ sz ∧ sz ≤ 4) (hok : tf TX tl 0 = -1) : ZM l yX8_runCommands wsX8_runCommands ({ frames := 9, cells := 0, slots := 0, locals := 194 } : Room) D ct ad [.ref u] (x8W u a r q ++ (svW ct r b nx sz S ++ (sobjW a ++ (gridW ct a M ++ (benchW ct a M ++ (logW ct a M ++ (txtW ct q TX tl pl ft wd n1 n2))))))) (fun v w => ∃ (pl2 : Int) (wd2 : Value) (m1 : Int) (m2 : Int), ((True)) ∧ v = (some (.int (zI ((run TX tl M 0 0).2)))) ∧ w = x8W u a r q ++ (svW ct r b ((nx + 1) % 4) (min (sz + 1) 4) (updS S nx M) ++ (sobjW a ++ (gridW ct a ((run TX tl M 0 0).1) ++ (benchW ct a ((run TX tl M 0 0).1) ++ (logW ct a ((run TX tl M 0 0).1) ++ (txtW ct q TX tl pl2 (-1) wd2 m1 m2))))))) := by
  refine ZM.of (cc := cX8_runCommands) (maxL := 3) (ret := (some .int)) (by decide +kernel) rfl (Nat.le_of_ble_eq_true rfl) ?_
  intro p e s m below meth c A ls hx hb hr hts hown hlocks hml hname hE hP hD hA hS hl
  have hK := hE.1
  have hf_0 := hts (.fieldLink RX8 26 "RodGrids" "text" "LRodGrids$CommandText;") (by decide +kernel)
  have hf_1 := hts (.fieldLink RX8 19 "RodGrids" "saved" "LRodGrids$SavedStates;") (by decide +kernel)
  have hf_2 := hts (.fieldLink RX8 10 "RodGrids" "state" "LRodGrids$State;") (by decide +kernel)
  have hf_3 := hts (.fieldLink RX8 213 "RodGrids$CommandText" "word" "LRodGrids$Word;") (by decide +kernel)
  have hf_4 := hts (.fieldLink RX8 217 "RodGrids$CommandText" "first" "I") (by decide +kernel)
  have hf_5 := hts (.fieldLink RX8 220 "RodGrids$CommandText" "second" "I") (by decide +kernel)
  have hin_X2 : ∀ z ∈ u_ws RX2 TX2 7, z ∈ wsX8_runCommands := by decide +kernel
  have hin_X8 : ∀ z ∈ u_ws RX8 TX8 3, z ∈ wsX8_runCommands := by decide +kernel
  have hl : lv_has ls 3 [(0, .ref u)] := hl
  have hI := hs.1
  have hB := hs.2.1
  have ha := hs.2.2
  have i3 := hI.1
  have i4 := hI.2.1
  have j0 := hB.1
  have j1 := hB.2.1
  have j2 := hB.2.2.1
  have j4 := hB.2.2.2.2
  have t1 := ht.1
  refine lv_aload_n hx hb dX8_runCommands_0 rfl (lv_at hl 0 rfl) ?_
  refine va_get (D := D) (ci := 6) (v := .ref (q 0)) (C := RX8) (T := TX8) (N := 3) hx hb hts hin_X8 hown hK hP 0 rfl rfl 2 (by decide) hf_0 (fun _ h9 => h9) rfl dX8_runCommands_1 ?_
  refine z_callV (C := RX2) (q0 := 0) (ci := 1) (As := []) (rest := []) (x8W u a r q ++ (svW ct r b nx sz S ++ (sobjW a ++ (gridW ct a M ++ (benchW ct a M ++ (logW ct a M)))))) ([] : va_W) hx hb hml hown hts hl hE hS hA (zr0 (x8W u a r q ++ (svW ct r b nx sz S ++ (sobjW a ++ (gridW ct a M ++ (benchW ct a M ++ (logW ct a M)))))) hP) (zr0D (x8W u a r q ++ (svW ct r b nx sz S ++ (sobjW a ++ (gridW ct a M ++ (benchW ct a M ++ (logW ct a M)))))) hD) (c_X2_findFault l D ct ad q TX tl pl ft n1 n2 wd (by assumption)) gX8_runCommands_X2_findFault rfl rfl k_X2_findFault ⟨Nat.le_of_ble_eq_true rfl, Nat.le_of_ble_eq_true rfl⟩ rfl rfl rfl rfl (Nat.le_of_ble_eq_true rfl) ⟨Nat.le_of_ble_eq_true rfl, Nat.le_of_ble_eq_true rfl⟩ dX8_runCommands_4 rfl (fun v w1 H locs hpost hP hD hS => ?_)
  obtain ⟨pl2_4, wd2_4, m1_4, m2_4, hx0_4, rfl, rfl⟩ := hpost
  have hP := zr0' hP
  have hD := zr0D' hD
  have hP : va_P D vwCl (x8W u a r q ++ (svW ct r b nx sz S ++ (sobjW a ++ (gridW ct a M ++ (benchW ct a M ++ (logW ct a M ++ (txtW ct q TX tl pl2_4 (tf TX tl 0) wd2_4 m1_4 m2_4))))))) H := hP
  have hD : va_D A (x8W u a r q ++ (svW ct r b nx sz S ++ (sobjW a ++ (gridW ct a M ++ (benchW ct a M ++ (logW ct a M ++ (txtW ct q TX tl pl2_4 (tf TX tl 0) wd2_4 m1_4 m2_4))))))) := hD
  refine W.eq (g2 := F0 m 7 ls [.int (zI (tf TX tl 0))]) rfl ?_
  refine lv_istore_n (lv' := [(1, .int (zI (tf TX tl 0))), (0, .ref u)]) hx hb dX8_runCommands_7 rfl hl (by decide) rfl (fun ls hl => ?_)
  refine lv_iload_n hx hb dX8_runCommands_8 rfl (lv_at hl 0 rfl) ?_
  refine z_iconst hx hb dX8_runCommands_9 ?_
  refine z_icmp_eq (tgt := 18) hx hb dX8_runCommands_10 (by decide) (by omega) (by omega) (fun hc_10 => ?_) (fun hc_10 => ?_)
  · have hc_10 := hc_10
    refine lv_aload_n hx hb dX8_runCommands_18 rfl (lv_at hl 1 rfl) ?_
    refine va_get (D := D) (ci := 6) (v := .ref (r 0)) (C := RX8) (T := TX8) (N := 3) hx hb hts hin_X8 hown hK hP 0 rfl rfl 1 (by decide) hf_1 (fun _ h9 => h9) rfl dX8_runCommands_19 ?_
    refine lv_aload_n hx hb dX8_runCommands_22 rfl (lv_at hl 1 rfl) ?_
    refine va_get (D := D) (ci := 6) (v := .ref (a 0)) (C := RX8) (T := TX8) (N := 3) hx hb hts hin_X8 hown hK hP 0 rfl rfl 0 (by decide) hf_2 (fun _ h9 => h9) rfl dX8_runCommands_23 ?_
    refine z_callV (C := RX5) (q0 := 0) (ci := 4) (As := [.ref (a 0)]) (rest := []) (x8W u a r q) (txtW ct q TX tl pl2_4 (tf TX tl 0) wd2_4 m1_4 m2_4) hx hb hml hown hts hl hE hS hA hP hD (c_X5_push l D ct ad r a b nx sz S M (by omega) (by omega)) gX8_runCommands_X5_push rfl rfl k_X5_push ⟨Nat.le_of_ble_eq_true rfl, Nat.le_of_ble_eq_true rfl⟩ rfl rfl rfl rfl (Nat.le_of_ble_eq_true rfl) ⟨Nat.le_of_ble_eq_true rfl, Nat.le_of_ble_eq_true rfl⟩ dX8_runCommands_26 rfl (fun v w1 H locs hpost hP hD hS => ?_)
    obtain ⟨rfl, rfl⟩ := hpost
    have hP : va_P D vwCl (x8W u a r q ++ (svW ct r b ((nx + 1) % 4) (min (sz + 1) 4) (updS S nx M) ++ (sobjW a ++ (gridW ct a M ++ (benchW ct a M ++ (logW ct a M ++ (txtW ct q TX tl pl2_4 (tf TX tl 0) wd2_4 m1_4 m2_4))))))) H := hP
    have hD : va_D A (x8W u a r q ++ (svW ct r b ((nx + 1) % 4) (min (sz + 1) 4) (updS S nx M) ++ (sobjW a ++ (gridW ct a M ++ (benchW ct a M ++ (logW ct a M ++ (txtW ct q TX tl pl2_4 (tf TX tl 0) wd2_4 m1_4 m2_4))))))) := hD
    refine W.eq (g2 := F0 m 29 ls []) rfl ?_
    refine lv_aload_n hx hb dX8_runCommands_29 rfl (lv_at hl 1 rfl) ?_
    refine va_get (D := D) (ci := 6) (v := .ref (q 0)) (C := RX8) (T := TX8) (N := 3) hx hb hts hin_X8 hown hK hP 0 rfl rfl 2 (by decide) hf_0 (fun _ h9 => h9) rfl dX8_runCommands_30 ?_
    refine z_callV (C := RX2) (q0 := 0) (ci := 1) (As := []) (rest := []) (x8W u a r q ++ (svW ct r b ((nx + 1) % 4) (min (sz + 1) 4) (updS S nx M) ++ (sobjW a ++ (gridW ct a M ++ (benchW ct a M ++ (logW ct a M)))))) ([] : va_W) hx hb hml hown hts hl hE hS hA (zr0 (x8W u a r q ++ (svW ct r b ((nx + 1) % 4) (min (sz + 1) 4) (updS S nx M) ++ (sobjW a ++ (gridW ct a M ++ (benchW ct a M ++ (logW ct a M)))))) hP) (zr0D (x8W u a r q ++ (svW ct r b ((nx + 1) % 4) (min (sz + 1) 4) (updS S nx M) ++ (sobjW a ++ (gridW ct a M ++ (benchW ct a M ++ (logW ct a M)))))) hD) (c_X2_rewind l D ct ad q TX tl pl2_4 (tf TX tl 0) m1_4 m2_4 wd2_4 (by assumption)) gX8_runCommands_X2_rewind rfl rfl k_X2_rewind ⟨Nat.le_of_ble_eq_true rfl, Nat.le_of_ble_eq_true rfl⟩ rfl rfl rfl rfl (Nat.le_of_ble_eq_true rfl) ⟨Nat.le_of_ble_eq_true rfl, Nat.le_of_ble_eq_true rfl⟩ dX8_runCommands_33 rfl (fun v w1 H locs hpost hP hD hS => ?_)
    obtain ⟨rfl, rfl⟩ := hpost
    have hP := zr0' hP
    have hD := zr0D' hD
    have hP : va_P D vwCl (x8W u a r q ++ (svW ct r b ((nx + 1) % 4) (min (sz + 1) 4) (updS S nx M) ++ (sobjW a ++ (gridW ct a M ++ (benchW ct a M ++ (logW ct a M ++ (txtW ct q TX tl 0 (-1) wd2_4 m1_4 m2_4))))))) H := hP
    have hD : va_D A (x8W u a r q ++ (svW ct r b ((nx + 1) % 4) (min (sz + 1) 4) (updS S nx M) ++ (sobjW a ++ (gridW ct a M ++ (benchW ct a M ++ (logW ct a M ++ (txtW ct q TX tl 0 (-1) wd2_4 m1_4 m2_4))))))) := hD
    refine W.eq (g2 := F0 m 36 ls []) rfl ?_
    refine z_iconst hx hb dX8_runCommands_36 ?_
    refine lv_istore_n (lv' := [(2, .int (zI 0)), (1, .int (zI (tf TX tl 0))), (0, .ref u)]) hx hb dX8_runCommands_37 rfl hl (by decide) rfl (fun ls hl => ?_)
    refine z_loop (σ := Int × Int × (Int → Int) × Value × Int × Int) (fun q9 => (tl - q9.2.1).toNat) (fun q9 => (0 ≤ q9.1 ∧ q9.1 ≤ q9.2.1 ∧ q9.2.1 ≤ tl) ∧ (sInv q9.2.2.1) ∧ (run TX tl q9.2.2.1 q9.2.1 q9.1 = run TX tl M 0 0 ∧ tf TX tl q9.2.1 = -1)) (fun q9 => x8W u a r q ++ (svW ct r b ((nx + 1) % 4) (min (sz + 1) 4) (updS S nx M) ++ (sobjW a ++ (gridW ct a q9.2.2.1 ++ (benchW ct a q9.2.2.1 ++ (logW ct a q9.2.2.1 ++ (txtW ct q TX tl q9.2.1 (-1) q9.2.2.2.1 q9.2.2.2.2.1 q9.2.2.2.2.2))))))) (fun q9 => [(0, .ref u), (2, .int (zI q9.1))]) (fun q9 => []) (0, 0, M, wd2_4, m1_4, m2_4) ⟨(show 0 ≤ 0 ∧ 0 ≤ 0 ∧ 0 ≤ tl from (by omega)), (show sInv M from (by assumption)), (show run TX tl M 0 0 = run TX tl M 0 0 ∧ tf TX tl 0 = -1 from (by exact ⟨rfl, hok⟩))⟩ hP hD hS (lv_sub hl [2, 0] rfl) rfl ?_
    rintro ⟨d_, x, N, w2, k1, k2⟩ hI_38 ih_38 H locs ls hP hD hS hl
    obtain ⟨hx_, hz, hg⟩ := hI_38
    have hx_ : 0 ≤ d_ ∧ d_ ≤ x ∧ x ≤ tl := hx_
    have hz : sInv N := hz
    have hg : run TX tl N x d_ = run TX tl M 0 0 ∧ tf TX tl x = -1 := hg
    have hP : va_P D vwCl (x8W u a r q ++ (svW ct r b ((nx + 1) % 4) (min (sz + 1) 4) (updS S nx M) ++ (sobjW a ++ (gridW ct a N ++ (benchW ct a N ++ (logW ct a N ++ (txtW ct q TX tl x (-1) w2 k1 k2))))))) H := hP
    have hD : va_D A (x8W u a r q ++ (svW ct r b ((nx + 1) % 4) (min (sz + 1) 4) (updS S nx M) ++ (sobjW a ++ (gridW ct a N ++ (benchW ct a N ++ (logW ct a N ++ (txtW ct q TX tl x (-1) w2 k1 k2))))))) := hD
    have hl : lv_has ls 3 [(0, .ref u), (2, .int (zI d_))] := hl
    have sB := sk_B (TX := TX) (tl := tl) (p := x) (by omega)
    refine lv_iload_n hx hb dX8_runCommands_38 rfl (lv_at hl 1 rfl) ?_
    refine z_sipush hx hb dX8_runCommands_39 (by decide) ?_
    refine z_icmp_ge (tgt := 114) hx hb dX8_runCommands_42 (by decide) (by omega) (by omega) (fun hc_42 => ?_) (fun hc_42 => ?_)
    · have hc_42 := hc_42
      have hE2 : (N, d_) = run TX tl M 0 0 := by have s9 := sk_ge (TX := TX) (tl := tl) (p := x) (by omega); have rA := run_at (TX := TX) (tl := tl) (M := N) (n := d_) (by omega) s9; rw [← hg.1, rA, if_neg (by omega)]
      refine lv_iload_n hx hb dX8_runCommands_114 rfl (lv_at hl 1 rfl) ?_
      exact z_iret hx hb hr hlocks hP hD hS ⟨Nat.le_of_ble_eq_true rfl, Nat.le_of_ble_eq_true rfl⟩ dX8_runCommands_115 (⟨x, w2, k1, k2, trivial, by rw [← hE2], by rw [← hE2]⟩)
    · have hc_42 := hc_42
      refine lv_aload_n hx hb dX8_runCommands_45 rfl (lv_at hl 0 rfl) ?_
      refine va_get (D := D) (ci := 6) (v := .ref (q 0)) (C := RX8) (T := TX8) (N := 3) hx hb hts hin_X8 hown hK hP 0 rfl rfl 2 (by decide) hf_0 (fun _ h9 => h9) rfl dX8_runCommands_46 ?_
      by_cases jE : sk TX tl x < tl
      · skip
        have jF : cf TX tl (sk TX tl x) = -1 := Decidable.byContradiction fun w9 => by have tE := tf_eq (TX := TX) (tl := tl) (p := x) (by omega); rw [if_pos jE, if_neg w9] at tE; have cG := cf_ge (TX := TX) (tl := tl) (q := sk TX tl x) (by omega) w9; have := hg.2; omega
        refine z_callV (C := RX2) (q0 := 0) (ci := 1) (As := []) (rest := []) (x8W u a r q ++ (svW ct r b ((nx + 1) % 4) (min (sz + 1) 4) (updS S nx M) ++ (sobjW a ++ (gridW ct a N ++ (benchW ct a N ++ (logW ct a N)))))) ([] : va_W) hx hb hml hown hts hl hE hS hA (zr0 (x8W u a r q ++ (svW ct r b ((nx + 1) % 4) (min (sz + 1) 4) (updS S nx M) ++ (sobjW a ++ (gridW ct a N ++ (benchW ct a N ++ (logW ct a N)))))) hP) (zr0D (x8W u a r q ++ (svW ct r b ((nx + 1) % 4) (min (sz + 1) 4) (updS S nx M) ++ (sobjW a ++ (gridW ct a N ++ (benchW ct a N ++ (logW ct a N)))))) hD) (c_X2_readCommand_ok l D ct ad q TX tl x (-1) k1 k2 w2 (by assumption) (by omega) jE jF) gX8_runCommands_X2_readCommand rfl rfl k_X2_readCommand ⟨Nat.le_of_ble_eq_true rfl, Nat.le_of_ble_eq_true rfl⟩ rfl rfl rfl rfl (Nat.le_of_ble_eq_true rfl) ⟨Nat.le_of_ble_eq_true rfl, Nat.le_of_ble_eq_true rfl⟩ dX8_runCommands_49 rfl (fun v w1 H locs hpost hP hD hS => ?_)
        obtain ⟨rfl, rfl⟩ := hpost
        have hP := zr0' hP
        have hD := zr0D' hD
        have hP : va_P D vwCl (x8W u a r q ++ (svW ct r b ((nx + 1) % 4) (min (sz + 1) 4) (updS S nx M) ++ (sobjW a ++ (gridW ct a N ++ (benchW ct a N ++ (logW ct a N ++ (txtW ct q TX tl (cp TX tl (sk TX tl x)) (-1) (.ref (ad (cc TX tl (sk TX tl x)).toNat)) (cn1 TX tl (sk TX tl x)) (cn2 TX tl (sk TX tl x))))))))) H := hP
        have hD : va_D A (x8W u a r q ++ (svW ct r b ((nx + 1) % 4) (min (sz + 1) 4) (updS S nx M) ++ (sobjW a ++ (gridW ct a N ++ (benchW ct a N ++ (logW ct a N ++ (txtW ct q TX tl (cp TX tl (sk TX tl x)) (-1) (.ref (ad (cc TX tl (sk TX tl x)).toNat)) (cn1 TX tl (sk TX tl x)) (cn2 TX tl (sk TX tl x))))))))) := hD
        refine W.eq (g2 := F0 m 52 ls [.int (zI 1)]) rfl ?_
        refine z_if_eq (tgt := 114) hx hb dX8_runCommands_52 (by decide) (by omega) (fun hc_52 => ?_) (fun hc_52 => ?_)
        · have hc_52 := hc_52
          omega
        · have hc_52 := hc_52
          have cG := cf_B (TX := TX) (tl := tl) (q := sk TX tl x) (by omega) (by omega)
          have ccB : cc TX tl (sk TX tl x) = -2000000000 ∨ (0 ≤ cc TX tl (sk TX tl x) ∧ cc TX tl (sk TX tl x) ≤ 11) := cwN_B (TX := TX) (s := sk TX tl x) (e := we TX tl (sk TX tl x)) 12 (Nat.le_refl _)
          have cO := (cf_ok (TX := TX) (tl := tl) (q := sk TX tl x) (by omega) (by omega) jF).1
          have nB := cn_B (TX := TX) (tl := tl) (q := sk TX tl x) (by omega)
          have kB := ckcB N (cc TX tl (sk TX tl x)) (cn1 TX tl (sk TX tl x)) (cn2 TX tl (sk TX tl x))
          refine lv_aload_n hx hb dX8_runCommands_55 rfl (lv_at hl 0 rfl) ?_
          refine lv_aload_n hx hb dX8_runCommands_56 rfl (lv_at hl 0 rfl) ?_
          refine va_get (D := D) (ci := 6) (v := .ref (q 0)) (C := RX8) (T := TX8) (N := 3) hx hb hts hin_X8 hown hK hP 0 rfl rfl 2 (by decide) hf_0 (fun _ h9 => h9) rfl dX8_runCommands_57 ?_
          refine va_get (D := D) (ci := 1) (v := (.ref (ad (cc TX tl (sk TX tl x)).toNat))) (C := RX2) (T := TX2) (N := 7) hx hb hts hin_X2 hown hK hP 58 rfl rfl 4 (by decide) hf_3 (fun _ h9 => h9) rfl dX8_runCommands_60 ?_
          refine lv_aload_n hx hb dX8_runCommands_63 rfl (lv_at hl 0 rfl) ?_
          refine va_get (D := D) (ci := 6) (v := .ref (q 0)) (C := RX8) (T := TX8) (N := 3) hx hb hts hin_X8 hown hK hP 0 rfl rfl 2 (by decide) hf_0 (fun _ h9 => h9) rfl dX8_runCommands_64 ?_
          refine va_get (D := D) (ci := 1) (v := .int (zI (cn1 TX tl (sk TX tl x)))) (C := RX2) (T := TX2) (N := 7) hx hb hts hin_X2 hown hK hP 58 rfl rfl 5 (by decide) hf_4 (fun _ h9 => h9) rfl dX8_runCommands_67 ?_
          refine lv_aload_n hx hb dX8_runCommands_70 rfl (lv_at hl 0 rfl) ?_
          refine va_get (D := D) (ci := 6) (v := .ref (q 0)) (C := RX8) (T := TX8) (N := 3) hx hb hts hin_X8 hown hK hP 0 rfl rfl 2 (by decide) hf_0 (fun _ h9 => h9) rfl dX8_runCommands_71 ?_
          refine va_get (D := D) (ci := 1) (v := .int (zI (cn2 TX tl (sk TX tl x)))) (C := RX2) (T := TX2) (N := 7) hx hb hts hin_X2 hown hK hP 58 rfl rfl 6 (by decide) hf_5 (fun _ h9 => h9) rfl dX8_runCommands_74 ?_
          refine z_callV (C := RX8) (q0 := 0) (ci := 6) (As := [(.ref (ad (cc TX tl (sk TX tl x)).toNat)), .int (zI (cn1 TX tl (sk TX tl x))), .int (zI (cn2 TX tl (sk TX tl x)))]) (rest := []) ([] : va_W) ([] : va_W) hx hb hml hown hts hl hE hS hA (zr0 ([] : va_W) hP) (zr0D ([] : va_W) hD) (c_X8_troubleWith l D ct ad u a r q b ((nx + 1) % 4) (min (sz + 1) 4) (updS S nx M) N TX tl (cp TX tl (sk TX tl x)) (-1) (cn1 TX tl (sk TX tl x)) (cn2 TX tl (sk TX tl x)) (.ref (ad (cc TX tl (sk TX tl x)).toNat)) (cc TX tl (sk TX tl x)) (cn1 TX tl (sk TX tl x)) (cn2 TX tl (sk TX tl x)) hz (by omega) (by omega) (by omega)) gX8_runCommands_X8_troubleWith rfl rfl k_X8_troubleWith ⟨Nat.le_of_ble_eq_true rfl, Nat.le_of_ble_eq_true rfl⟩ rfl rfl rfl rfl (Nat.le_of_ble_eq_true rfl) ⟨Nat.le_of_ble_eq_true rfl, Nat.le_of_ble_eq_true rfl⟩ dX8_runCommands_77 rfl (fun v w1 H locs hpost hP hD hS => ?_)
          obtain ⟨rfl, rfl⟩ := hpost
          have hP := zr0' hP
          have hD := zr0D' hD
          have hP : va_P D vwCl (x8W u a r q ++ (svW ct r b ((nx + 1) % 4) (min (sz + 1) 4) (updS S nx M) ++ (sobjW a ++ (gridW ct a N ++ (benchW ct a N ++ (logW ct a N ++ (txtW ct q TX tl (cp TX tl (sk TX tl x)) (-1) (.ref (ad (cc TX tl (sk TX tl x)).toNat)) (cn1 TX tl (sk TX tl x)) (cn2 TX tl (sk TX tl x))))))))) H := hP
          have hD : va_D A (x8W u a r q ++ (svW ct r b ((nx + 1) % 4) (min (sz + 1) 4) (updS S nx M) ++ (sobjW a ++ (gridW ct a N ++ (benchW ct a N ++ (logW ct a N ++ (txtW ct q TX tl (cp TX tl (sk TX tl x)) (-1) (.ref (ad (cc TX tl (sk TX tl x)).toNat)) (cn1 TX tl (sk TX tl x)) (cn2 TX tl (sk TX tl x))))))))) := hD
          refine W.eq (g2 := F0 m 80 ls [.int (zI (ckc N (cc TX tl (sk TX tl x)) (cn1 TX tl (sk TX tl x)) (cn2 TX tl (sk TX tl x))))]) rfl ?_
          refine z_if_ne (tgt := 114) hx hb dX8_runCommands_80 (by decide) (by omega) (fun hc_80 => ?_) (fun hc_80 => ?_)
          · have hc_80 := hc_80
            have hE2 : (N, d_) = run TX tl M 0 0 := by have rA := run_at (TX := TX) (tl := tl) (M := N) (n := d_) (p := sk TX tl x) (by omega) (sk_sk (by omega)); rw [← hg.1, ← run_sk (by omega) (by omega), rA, if_pos jE, if_neg hc_80]
            refine lv_iload_n hx hb dX8_runCommands_114 rfl (lv_at hl 1 rfl) ?_
            exact z_iret hx hb hr hlocks hP hD hS ⟨Nat.le_of_ble_eq_true rfl, Nat.le_of_ble_eq_true rfl⟩ dX8_runCommands_115 (⟨(cp TX tl (sk TX tl x)), (.ref (ad (cc TX tl (sk TX tl x)).toNat)), (cn1 TX tl (sk TX tl x)), (cn2 TX tl (sk TX tl x)), trivial, by rw [← hE2], by rw [← hE2]⟩)
          · have hc_80 := hc_80
            refine lv_aload_n hx hb dX8_runCommands_83 rfl (lv_at hl 0 rfl) ?_
            refine lv_aload_n hx hb dX8_runCommands_84 rfl (lv_at hl 0 rfl) ?_
            refine va_get (D := D) (ci := 6) (v := .ref (q 0)) (C := RX8) (T := TX8) (N := 3) hx hb hts hin_X8 hown hK hP 0 rfl rfl 2 (by decide) hf_0 (fun _ h9 => h9) rfl dX8_runCommands_85 ?_
            refine va_get (D := D) (ci := 1) (v := (.ref (ad (cc TX tl (sk TX tl x)).toNat))) (C := RX2) (T := TX2) (N := 7) hx hb hts hin_X2 hown hK hP 58 rfl rfl 4 (by decide) hf_3 (fun _ h9 => h9) rfl dX8_runCommands_88 ?_
            refine lv_aload_n hx hb dX8_runCommands_91 rfl (lv_at hl 0 rfl) ?_
            refine va_get (D := D) (ci := 6) (v := .ref (q 0)) (C := RX8) (T := TX8) (N := 3) hx hb hts hin_X8 hown hK hP 0 rfl rfl 2 (by decide) hf_0 (fun _ h9 => h9) rfl dX8_runCommands_92 ?_
            refine va_get (D := D) (ci := 1) (v := .int (zI (cn1 TX tl (sk TX tl x)))) (C := RX2) (T := TX2) (N := 7) hx hb hts hin_X2 hown hK hP 58 rfl rfl 5 (by decide) hf_4 (fun _ h9 => h9) rfl dX8_runCommands_95 ?_
            refine lv_aload_n hx hb dX8_runCommands_98 rfl (lv_at hl 0 rfl) ?_
            refine va_get (D := D) (ci := 6) (v := .ref (q 0)) (C := RX8) (T := TX8) (N := 3) hx hb hts hin_X8 hown hK hP 0 rfl rfl 2 (by decide) hf_0 (fun _ h9 => h9) rfl dX8_runCommands_99 ?_
            refine va_get (D := D) (ci := 1) (v := .int (zI (cn2 TX tl (sk TX tl x)))) (C := RX2) (T := TX2) (N := 7) hx hb hts hin_X2 hown hK hP 58 rfl rfl 6 (by decide) hf_5 (fun _ h9 => h9) rfl dX8_runCommands_102 ?_
            refine z_callV (C := RX8) (q0 := 0) (ci := 6) (As := [(.ref (ad (cc TX tl (sk TX tl x)).toNat)), .int (zI (cn1 TX tl (sk TX tl x))), .int (zI (cn2 TX tl (sk TX tl x)))]) (rest := []) ([] : va_W) ([] : va_W) hx hb hml hown hts hl hE hS hA (zr0 ([] : va_W) hP) (zr0D ([] : va_W) hD) (c_X8_carryOut l D ct ad u a r q b ((nx + 1) % 4) (min (sz + 1) 4) (updS S nx M) N TX tl (cp TX tl (sk TX tl x)) (-1) (cn1 TX tl (sk TX tl x)) (cn2 TX tl (sk TX tl x)) (.ref (ad (cc TX tl (sk TX tl x)).toNat)) (cc TX tl (sk TX tl x)) (cn1 TX tl (sk TX tl x)) (cn2 TX tl (sk TX tl x)) hz (by omega) (by omega) (by omega) hc_80) gX8_runCommands_X8_carryOut rfl rfl k_X8_carryOut ⟨Nat.le_of_ble_eq_true rfl, Nat.le_of_ble_eq_true rfl⟩ rfl rfl rfl rfl (Nat.le_of_ble_eq_true rfl) ⟨Nat.le_of_ble_eq_true rfl, Nat.le_of_ble_eq_true rfl⟩ dX8_runCommands_105 rfl (fun v w1 H locs hpost hP hD hS => ?_)
            obtain ⟨rfl, rfl⟩ := hpost
            have hP := zr0' hP
            have hD := zr0D' hD
            have hP : va_P D vwCl (x8W u a r q ++ (svW ct r b ((nx + 1) % 4) (min (sz + 1) 4) (updS S nx M) ++ (sobjW a ++ (gridW ct a (stc N (cc TX tl (sk TX tl x)) (cn1 TX tl (sk TX tl x)) (cn2 TX tl (sk TX tl x))) ++ (benchW ct a (stc N (cc TX tl (sk TX tl x)) (cn1 TX tl (sk TX tl x)) (cn2 TX tl (sk TX tl x))) ++ (logW ct a (stc N (cc TX tl (sk TX tl x)) (cn1 TX tl (sk TX tl x)) (cn2 TX tl (sk TX tl x))) ++ (txtW ct q TX tl (cp TX tl (sk TX tl x)) (-1) (.ref (ad (cc TX tl (sk TX tl x)).toNat)) (cn1 TX tl (sk TX tl x)) (cn2 TX tl (sk TX tl x))))))))) H := hP
            have hD : va_D A (x8W u a r q ++ (svW ct r b ((nx + 1) % 4) (min (sz + 1) 4) (updS S nx M) ++ (sobjW a ++ (gridW ct a (stc N (cc TX tl (sk TX tl x)) (cn1 TX tl (sk TX tl x)) (cn2 TX tl (sk TX tl x))) ++ (benchW ct a (stc N (cc TX tl (sk TX tl x)) (cn1 TX tl (sk TX tl x)) (cn2 TX tl (sk TX tl x))) ++ (logW ct a (stc N (cc TX tl (sk TX tl x)) (cn1 TX tl (sk TX tl x)) (cn2 TX tl (sk TX tl x))) ++ (txtW ct q TX tl (cp TX tl (sk TX tl x)) (-1) (.ref (ad (cc TX tl (sk TX tl x)).toNat)) (cn1 TX tl (sk TX tl x)) (cn2 TX tl (sk TX tl x))))))))) := hD
            refine W.eq (g2 := F0 m 108 ls []) rfl ?_
            refine z_iinc (k := 1) (lv' := [(2, .int (zI (d_ + 1))), (0, .ref u)]) hx hb dX8_runCommands_108 hl rfl (by decide) rfl (fun ls hl => ?_)
            refine lv_goto (tgt := 38) hx hb dX8_runCommands_111 (by decide) ?_
            exact ih_38 (d_ + 1, (cp TX tl (sk TX tl x)), (stc N (cc TX tl (sk TX tl x)) (cn1 TX tl (sk TX tl x)) (cn2 TX tl (sk TX tl x))), (.ref (ad (cc TX tl (sk TX tl x)).toNat)), (cn1 TX tl (sk TX tl x)), (cn2 TX tl (sk TX tl x))) ⟨(show 0 ≤ (d_ + 1) ∧ (d_ + 1) ≤ (cp TX tl (sk TX tl x)) ∧ (cp TX tl (sk TX tl x)) ≤ tl from (by omega)), (show sInv (stc N (cc TX tl (sk TX tl x)) (cn1 TX tl (sk TX tl x)) (cn2 TX tl (sk TX tl x))) from (by exact sInv_stc hz (by omega) hc_80)), (show run TX tl (stc N (cc TX tl (sk TX tl x)) (cn1 TX tl (sk TX tl x)) (cn2 TX tl (sk TX tl x))) (cp TX tl (sk TX tl x)) (d_ + 1) = run TX tl M 0 0 ∧ tf TX tl (cp TX tl (sk TX tl x)) = -1 from (by exact ⟨by rw [← hg.1, ← run_sk (p := x) (by omega) (by omega), run_at (p := sk TX tl x) (by omega) (sk_sk (by omega)), if_pos jE, if_pos hc_80], by have tE := tf_eq (TX := TX) (tl := tl) (p := x) (by omega); rw [if_pos jE, if_pos jF] at tE; rw [← tE]; exact hg.2⟩))⟩ (show (tl - (cp TX tl (sk TX tl x))).toNat < (tl - x).toNat from (by omega)) _ _ _ hP hD hS (lv_sub hl [1, 0] rfl)
      · skip
        refine z_callV (C := RX2) (q0 := 0) (ci := 1) (As := []) (rest := []) (x8W u a r q ++ (svW ct r b ((nx + 1) % 4) (min (sz + 1) 4) (updS S nx M) ++ (sobjW a ++ (gridW ct a N ++ (benchW ct a N ++ (logW ct a N)))))) ([] : va_W) hx hb hml hown hts hl hE hS hA (zr0 (x8W u a r q ++ (svW ct r b ((nx + 1) % 4) (min (sz + 1) 4) (updS S nx M) ++ (sobjW a ++ (gridW ct a N ++ (benchW ct a N ++ (logW ct a N)))))) hP) (zr0D (x8W u a r q ++ (svW ct r b ((nx + 1) % 4) (min (sz + 1) 4) (updS S nx M) ++ (sobjW a ++ (gridW ct a N ++ (benchW ct a N ++ (logW ct a N)))))) hD) (c_X2_readCommand_end l D ct ad q TX tl x (-1) k1 k2 w2 (by assumption) (by omega) (by omega)) gX8_runCommands_X2_readCommand rfl rfl k_X2_readCommand ⟨Nat.le_of_ble_eq_true rfl, Nat.le_of_ble_eq_true rfl⟩ rfl rfl rfl rfl (Nat.le_of_ble_eq_true rfl) ⟨Nat.le_of_ble_eq_true rfl, Nat.le_of_ble_eq_true rfl⟩ dX8_runCommands_49 rfl (fun v w1 H locs hpost hP hD hS => ?_)
        obtain ⟨rfl, rfl⟩ := hpost
        have hP := zr0' hP
        have hD := zr0D' hD
        have hP : va_P D vwCl (x8W u a r q ++ (svW ct r b ((nx + 1) % 4) (min (sz + 1) 4) (updS S nx M) ++ (sobjW a ++ (gridW ct a N ++ (benchW ct a N ++ (logW ct a N ++ (txtW ct q TX tl (sk TX tl x) (-1) w2 k1 k2))))))) H := hP
        have hD : va_D A (x8W u a r q ++ (svW ct r b ((nx + 1) % 4) (min (sz + 1) 4) (updS S nx M) ++ (sobjW a ++ (gridW ct a N ++ (benchW ct a N ++ (logW ct a N ++ (txtW ct q TX tl (sk TX tl x) (-1) w2 k1 k2))))))) := hD
        refine W.eq (g2 := F0 m 52 ls [.int (zI 0)]) rfl ?_
        refine z_if_eq (tgt := 114) hx hb dX8_runCommands_52 (by decide) (by omega) (fun hc_52 => ?_) (fun hc_52 => ?_)
        · have hc_52 := hc_52
          have hE2 : (N, d_) = run TX tl M 0 0 := by have rA := run_at (TX := TX) (tl := tl) (M := N) (n := d_) (p := sk TX tl x) (by omega) (sk_sk (by omega)); rw [← hg.1, ← run_sk (by omega) (by omega), rA, if_neg (by omega)]
          refine lv_iload_n hx hb dX8_runCommands_114 rfl (lv_at hl 1 rfl) ?_
          exact z_iret hx hb hr hlocks hP hD hS ⟨Nat.le_of_ble_eq_true rfl, Nat.le_of_ble_eq_true rfl⟩ dX8_runCommands_115 (⟨(sk TX tl x), w2, k1, k2, trivial, by rw [← hE2], by rw [← hE2]⟩)
        · have hc_52 := hc_52
          omega
  · have hc_10 := hc_10
    exact absurd hok hc_10
