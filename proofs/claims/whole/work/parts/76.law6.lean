set_option maxHeartbeats 4000000 in
set_option maxRecDepth 100000 in
theorem law_c25 (p : Program) (l : Launch) (e : Env) (s : State) (m : MethodId) (below : List Frame) (meth : Method) (c : Code) (D : va_G) (ct ad : Nat → Nat) (b L : Nat) (xs : Nat → Int32) (u : Nat) (a r q : Nat → Nat) (b2 : Nat → Nat → Nat) (o0 : Nat) (mb : Nat → Nat) (hC : lwC p l s m meth c D ct ad b L xs) (i : Int) (hi : 0 ≤ i ∧ i + 4 ≤ (L : Int)) (cells slots : Nat) (hcap : cells + 1 ≤ 601024 ∧ slots + 6 ≤ 7293034) (ih : ∀ (H : Heap) (locs : List Loc) (ls : Array Slot), lwI s D ct b u a r q b2 o0 mb i H locs ls → W p l e room_1 s m #[Value.ref b] below meth c H locs (cells + 1) (slots + 6) (lw_Z below #[Value.ref b] s) (F0 m 1590 ls [])) (H : Heap) (locs : List Loc) (ls : Array Slot) (hI0 : lwI s D ct b u a r q b2 o0 mb i H locs ls) : W p l e room_1 s m #[Value.ref b] below meth c H locs cells slots (lw_Z below #[Value.ref b] s) (F0 m 1450 ls []) := by
  obtain ⟨hx, hb, hr, hml, hown, hts, hX, hbl, hlocks, hE, hst, hL⟩ := hC
  obtain ⟨nx, sz, S, M, TX, tl, pl, ft, n1, n2, wd, O, SP, SV, NB, cd, plm, cm, h, hR, hP, hD, hS, hl⟩ := hI0
  have hA : ∀ q : Nat, s.heap.size ≤ q → (fun q : Nat => s.heap.size ≤ q) q := fun _ h => h
  have hbA : ¬ (fun q : Nat => s.heap.size ≤ q) b := Nat.not_le.mpr hbl
  have hK := hE.1
  have hc0 : cells ≤ room_1.cells ∧ slots ≤ room_1.slots := by show cells ≤ 601024 ∧ slots ≤ 7293034; omega
  have hc1 : cells + 1 ≤ room_1.cells ∧ slots + 6 ≤ room_1.slots := hcap
  have hP : va_P D vwCl (x8W u a r q ++ (svW ct r b2 nx sz S ++ (sobjW a ++ (gridW ct a M ++ (benchW ct a M ++ (logW ct a M ++ (txtW ct q TX tl pl ft wd n1 n2 ++ (jrW ct o0 1 O ++ (moW mb sz tl cd plm cm h ++ (jrW ct (mb 1) 94 M ++ (jrW ct (mb 2) 94 SP ++ (jrW ct (mb 3) 376 SV ++ (irW ct (mb 4) 150 TX ++ (irW ct (mb 5) 2 NB)))))))))))))) H := hP
  have hD : va_D (fun q : Nat => s.heap.size ≤ q) (x8W u a r q ++ (svW ct r b2 nx sz S ++ (sobjW a ++ (gridW ct a M ++ (benchW ct a M ++ (logW ct a M ++ (txtW ct q TX tl pl ft wd n1 n2 ++ (jrW ct o0 1 O ++ (moW mb sz tl cd plm cm h ++ (jrW ct (mb 1) 94 M ++ (jrW ct (mb 2) 94 SP ++ (jrW ct (mb 3) 376 SV ++ (irW ct (mb 4) 150 TX ++ (irW ct (mb 5) 2 NB)))))))))))))) := hD
  have hs := hR.1
  have ht := hR.2.1
  have hI := hs.1
  have hB := hs.2.1
  have ha := hs.2.2
  have i3 := hI.1
  have i4 := hI.2.1
  have j0 := hB.1
  have j1 := hB.2.1
  have j2 := hB.2.2.1
  have j4 := hB.2.2.2.2
  have t1 := ht.1
  have hn := hR.2.2.1
  have hsz := hR.2.2.2.1
  have hsc := hR.2.2.2.1
  obtain ⟨v1, e1, r1⟩ := zI_any (xs (i + 1).toNat)
  by_cases hok : (0 ≤ v1 ∧ v1 ≤ 127) ∧ tl < 150
  · skip
    refine lv_aload_n hx hb dL_law_1450 rfl (lv_at hl 1 rfl) ?_
    refine lv_aload_n hx hb dL_law_1451 rfl (lv_at hl 0 rfl) ?_
    refine lv_iload hx hb dL_law_1452 (lv_at hl 4 rfl) ?_
    refine z_iconst hx hb dL_law_1454 ?_
    refine z_iadd hx hb dL_law_1455 ?_
    refine z_sld hx hb hX hbl hbA hS (by omega) hL e1 dL_law_1456 ?_
    refine lv_aload_n hx hb dL_law_1457 rfl (lv_at hl 3 rfl) ?_
    refine z_callSW (As := [.ref u, .int (zI v1), .ref o0]) (rest := []) ([] : va_W) (moW mb sz tl cd plm cm h ++ (jrW ct (mb 1) 94 M ++ (jrW ct (mb 2) 94 SP ++ (jrW ct (mb 3) 376 SV ++ (irW ct (mb 4) 150 TX ++ (irW ct (mb 5) 2 NB)))))) hx hb hml hown (fun w h => hts w (inL_179 w h)) hl hE hS hA hP hD (c_L_type_ok l D ct ad u a r q b2 nx sz S M TX tl pl ft n1 n2 wd o0 O v1 (by assumption) (by assumption) (by omega) hok (by omega)) gdL_179 rfl k_L_type ⟨Nat.le_of_ble_eq_true rfl, Nat.le_of_ble_eq_true rfl⟩ rfl (Nat.le_of_ble_eq_true rfl) hc0 dL_law_1458 rfl (fun v w1 H locs hpost hP hD hS => ?_)
    obtain ⟨rfl, rfl⟩ := hpost
    have hP : va_P D vwCl (x8W u a r q ++ (svW ct r b2 nx sz S ++ (sobjW a ++ (gridW ct a M ++ (benchW ct a M ++ (logW ct a M ++ (txtW ct q (up TX tl v1) (tl + 1) pl ft wd n1 n2 ++ (jrW ct o0 1 (up O 0 (tl + 1)) ++ (moW mb sz tl cd plm cm h ++ (jrW ct (mb 1) 94 M ++ (jrW ct (mb 2) 94 SP ++ (jrW ct (mb 3) 376 SV ++ (irW ct (mb 4) 150 TX ++ (irW ct (mb 5) 2 NB)))))))))))))) H := hP
    have hD : va_D (fun q : Nat => s.heap.size ≤ q) (x8W u a r q ++ (svW ct r b2 nx sz S ++ (sobjW a ++ (gridW ct a M ++ (benchW ct a M ++ (logW ct a M ++ (txtW ct q (up TX tl v1) (tl + 1) pl ft wd n1 n2 ++ (jrW ct o0 1 (up O 0 (tl + 1)) ++ (moW mb sz tl cd plm cm h ++ (jrW ct (mb 1) 94 M ++ (jrW ct (mb 2) 94 SP ++ (jrW ct (mb 3) 376 SV ++ (irW ct (mb 4) 150 TX ++ (irW ct (mb 5) 2 NB)))))))))))))) := hD
    refine W.eq (g2 := F0 m 1461 ls [.int (zI 0)]) rfl ?_
    refine lv_istore (lv' := [(5, .int (zI 0)), (0, .ref b), (1, .ref u), (2, .ref (mb 0)), (3, .ref o0), (4, .int (zI i))]) hx hb dL_law_1461 hl (by decide) rfl (fun ls hl => ?_)
    refine lv_aload_n hx hb dL_law_1463 rfl (lv_at hl 3 rfl) ?_
    refine lv_aload_n hx hb dL_law_1464 rfl (lv_at hl 1 rfl) ?_
    refine lv_iload hx hb dL_law_1465 (lv_at hl 5 rfl) ?_
    refine z_iconst hx hb dL_law_1467 ?_
    refine z_iadd hx hb dL_law_1468 ?_
    refine z_sld hx hb hX hbl hbA hS (by omega) hL e1 dL_law_1469 ?_
    refine z_callV (C := RX9) (q0 := 0) (ci := 7) (As := [.int (zI v1)]) (rest := []) (x8W u a r q ++ (svW ct r b2 nx sz S ++ (sobjW a ++ (gridW ct a M ++ (benchW ct a M ++ (logW ct a M ++ (txtW ct q (up TX tl v1) (tl + 1) pl ft wd n1 n2 ++ (jrW ct o0 1 (up O 0 (tl + 1)))))))))) ([] : va_W) hx hb hml hown (fun w h => hts w (inL_181 w h)) hl hE hS hA (zr0 (x8W u a r q ++ (svW ct r b2 nx sz S ++ (sobjW a ++ (gridW ct a M ++ (benchW ct a M ++ (logW ct a M ++ (txtW ct q (up TX tl v1) (tl + 1) pl ft wd n1 n2 ++ (jrW ct o0 1 (up O 0 (tl + 1)))))))))) hP) (zr0D (x8W u a r q ++ (svW ct r b2 nx sz S ++ (sobjW a ++ (gridW ct a M ++ (benchW ct a M ++ (logW ct a M ++ (txtW ct q (up TX tl v1) (tl + 1) pl ft wd n1 n2 ++ (jrW ct o0 1 (up O 0 (tl + 1)))))))))) hD) (c_X9_type_ok l D ct ad mb M SP SV TX NB sz tl cd plm cm h v1 (by assumption) (by omega) hok) gdL_181 rfl rfl k_X9_type ⟨Nat.le_of_ble_eq_true rfl, Nat.le_of_ble_eq_true rfl⟩ rfl rfl rfl rfl (Nat.le_of_ble_eq_true rfl) hc0 dL_law_1470 rfl (fun v w1 H locs hpost hP hD hS => ?_)
    obtain ⟨rfl, rfl⟩ := hpost
    have hP := zr0' hP
    have hD := zr0D' hD
    have hP : va_P D vwCl (x8W u a r q ++ (svW ct r b2 nx sz S ++ (sobjW a ++ (gridW ct a M ++ (benchW ct a M ++ (logW ct a M ++ (txtW ct q (up TX tl v1) (tl + 1) pl ft wd n1 n2 ++ (jrW ct o0 1 (up O 0 (tl + 1)) ++ (moW mb sz (tl + 1) 0 plm cm h ++ (jrW ct (mb 1) 94 M ++ (jrW ct (mb 2) 94 SP ++ (jrW ct (mb 3) 376 SV ++ (irW ct (mb 4) 150 (up TX tl v1) ++ (irW ct (mb 5) 2 NB)))))))))))))) H := hP
    have hD : va_D (fun q : Nat => s.heap.size ≤ q) (x8W u a r q ++ (svW ct r b2 nx sz S ++ (sobjW a ++ (gridW ct a M ++ (benchW ct a M ++ (logW ct a M ++ (txtW ct q (up TX tl v1) (tl + 1) pl ft wd n1 n2 ++ (jrW ct o0 1 (up O 0 (tl + 1)) ++ (moW mb sz (tl + 1) 0 plm cm h ++ (jrW ct (mb 1) 94 M ++ (jrW ct (mb 2) 94 SP ++ (jrW ct (mb 3) 376 SV ++ (irW ct (mb 4) 150 (up TX tl v1) ++ (irW ct (mb 5) 2 NB)))))))))))))) := hD
    refine W.eq (g2 := F0 m 1473 ls [.int (zI (tl + 1))]) rfl ?_
    refine lv_istore (lv' := [(6, .int (zI (tl + 1))), (5, .int (zI 0)), (0, .ref b), (1, .ref u), (2, .ref (mb 0)), (3, .ref o0), (4, .int (zI i))]) hx hb dL_law_1473 hl (by decide) rfl (fun ls hl => ?_)
    refine lv_aload_n hx hb dL_law_1475 rfl (lv_at hl 4 rfl) ?_
    refine z_callV (C := RX9) (q0 := 0) (ci := 7) (As := []) (rest := []) (x8W u a r q ++ (svW ct r b2 nx sz S ++ (sobjW a ++ (gridW ct a M ++ (benchW ct a M ++ (logW ct a M ++ (txtW ct q (up TX tl v1) (tl + 1) pl ft wd n1 n2 ++ (jrW ct o0 1 (up O 0 (tl + 1)))))))))) ([] : va_W) hx hb hml hown (fun w h => hts w (inL_94 w h)) hl hE hS hA (zr0 (x8W u a r q ++ (svW ct r b2 nx sz S ++ (sobjW a ++ (gridW ct a M ++ (benchW ct a M ++ (logW ct a M ++ (txtW ct q (up TX tl v1) (tl + 1) pl ft wd n1 n2 ++ (jrW ct o0 1 (up O 0 (tl + 1)))))))))) hP) (zr0D (x8W u a r q ++ (svW ct r b2 nx sz S ++ (sobjW a ++ (gridW ct a M ++ (benchW ct a M ++ (logW ct a M ++ (txtW ct q (up TX tl v1) (tl + 1) pl ft wd n1 n2 ++ (jrW ct o0 1 (up O 0 (tl + 1)))))))))) hD) (c_X9_thrown l D ct ad mb M SP SV (up TX tl v1) NB sz (tl + 1) 0 plm cm h) gdL_94 rfl rfl k_X9_thrown ⟨Nat.le_of_ble_eq_true rfl, Nat.le_of_ble_eq_true rfl⟩ rfl rfl rfl rfl (Nat.le_of_ble_eq_true rfl) hc0 dL_law_1476 rfl (fun v w1 H locs hpost hP hD hS => ?_)
    obtain ⟨rfl, rfl⟩ := hpost
    have hP := zr0' hP
    have hD := zr0D' hD
    have hP : va_P D vwCl (x8W u a r q ++ (svW ct r b2 nx sz S ++ (sobjW a ++ (gridW ct a M ++ (benchW ct a M ++ (logW ct a M ++ (txtW ct q (up TX tl v1) (tl + 1) pl ft wd n1 n2 ++ (jrW ct o0 1 (up O 0 (tl + 1)) ++ (moW mb sz (tl + 1) 0 plm cm h ++ (jrW ct (mb 1) 94 M ++ (jrW ct (mb 2) 94 SP ++ (jrW ct (mb 3) 376 SV ++ (irW ct (mb 4) 150 (up TX tl v1) ++ (irW ct (mb 5) 2 NB)))))))))))))) H := hP
    have hD : va_D (fun q : Nat => s.heap.size ≤ q) (x8W u a r q ++ (svW ct r b2 nx sz S ++ (sobjW a ++ (gridW ct a M ++ (benchW ct a M ++ (logW ct a M ++ (txtW ct q (up TX tl v1) (tl + 1) pl ft wd n1 n2 ++ (jrW ct o0 1 (up O 0 (tl + 1)) ++ (moW mb sz (tl + 1) 0 plm cm h ++ (jrW ct (mb 1) 94 M ++ (jrW ct (mb 2) 94 SP ++ (jrW ct (mb 3) 376 SV ++ (irW ct (mb 4) 150 (up TX tl v1) ++ (irW ct (mb 5) 2 NB)))))))))))))) := hD
    refine W.eq (g2 := F0 m 1479 ls [.int (zI 0)]) rfl ?_
    refine lv_iload hx hb dL_law_1479 (lv_at hl 1 rfl) ?_
    refine z_icmp_eqS (tgt := 1486) hx hb dL_law_1481 (by decide) ?_
    refine lv_iload hx hb dL_law_1486 (lv_at hl 1 rfl) ?_
    refine z_if_ne (tgt := 1503) hx hb dL_law_1488 (by decide) (by omega) (fun hc_1488 => ?_) (fun hc_1488 => ?_)
    · have hc_1488 := hc_1488
      exfalso; first | omega | (revert hc_1488; unfold ck1; split <;> omega)
    · have hc_1488 := hc_1488
      refine lv_aload_n hx hb dL_law_1491 rfl (lv_at hl 5 rfl) ?_
      refine z_iconst hx hb dL_law_1492 ?_
      refine z_lald (g := (up O 0 (tl + 1))) (v := tl + 1) hx hb hK hP 60 rfl (by decide) (by omega) (show (up O 0 (tl + 1)) 0 = tl + 1 from by rw [up_s]) dL_law_1493 ?_
      refine lv_iload hx hb dL_law_1494 (lv_at hl 0 rfl) ?_
      refine z_i2l hx hb dL_law_1496 (by omega) ?_
      refine z_lcmp_eqS (tgt := 1503) hx hb dL_law_1497 dL_law_1498 (by decide) ?_
      refine lv_goto (tgt := 1590) hx hb dL_law_1503 (by decide) ?_
      refine W.widen (k := cells + 1) (n := slots + 6) (Nat.le_add_right _ _) (Nat.le_add_right _ _) ?_
      exact ih _ _ _ ⟨nx, sz, S, M, (up TX tl v1), (tl + 1), pl, ft, n1, n2, wd, (up O 0 (tl + 1)), SP, SV, NB, 0, plm, cm, h, lwR_type hR hok, hP, hD, hS, lv_sub hl [2, 3, 4, 5, 6] rfl⟩
  · skip
    refine lv_aload_n hx hb dL_law_1450 rfl (lv_at hl 1 rfl) ?_
    refine lv_aload_n hx hb dL_law_1451 rfl (lv_at hl 0 rfl) ?_
    refine lv_iload hx hb dL_law_1452 (lv_at hl 4 rfl) ?_
    refine z_iconst hx hb dL_law_1454 ?_
    refine z_iadd hx hb dL_law_1455 ?_
    refine z_sld hx hb hX hbl hbA hS (by omega) hL e1 dL_law_1456 ?_
    refine lv_aload_n hx hb dL_law_1457 rfl (lv_at hl 3 rfl) ?_
    refine z_callSW (As := [.ref u, .int (zI v1), .ref o0]) (rest := []) ([] : va_W) (moW mb sz tl cd plm cm h ++ (jrW ct (mb 1) 94 M ++ (jrW ct (mb 2) 94 SP ++ (jrW ct (mb 3) 376 SV ++ (irW ct (mb 4) 150 TX ++ (irW ct (mb 5) 2 NB)))))) hx hb hml hown (fun w h => hts w (inL_179 w h)) hl hE hS hA hP hD (c_L_type_no l D ct ad u a r q b2 nx sz S M TX tl pl ft n1 n2 wd o0 O v1 (by assumption) hst (by assumption) (by omega) hok) gdL_179 rfl k_L_type ⟨Nat.le_of_ble_eq_true rfl, Nat.le_of_ble_eq_true rfl⟩ rfl (Nat.le_of_ble_eq_true rfl) hc1 dL_law_1458 rfl (fun v w1 H locs hpost hP hD hS => ?_)
    obtain ⟨rfl, rfl⟩ := hpost
    have hP : va_P D vwCl (x8W u a r q ++ (svW ct r b2 nx sz S ++ (sobjW a ++ (gridW ct a M ++ (benchW ct a M ++ (logW ct a M ++ (txtW ct q TX tl pl ft wd n1 n2 ++ (jrW ct o0 1 O ++ (moW mb sz tl cd plm cm h ++ (jrW ct (mb 1) 94 M ++ (jrW ct (mb 2) 94 SP ++ (jrW ct (mb 3) 376 SV ++ (irW ct (mb 4) 150 TX ++ (irW ct (mb 5) 2 NB)))))))))))))) H := hP
    have hD : va_D (fun q : Nat => s.heap.size ≤ q) (x8W u a r q ++ (svW ct r b2 nx sz S ++ (sobjW a ++ (gridW ct a M ++ (benchW ct a M ++ (logW ct a M ++ (txtW ct q TX tl pl ft wd n1 n2 ++ (jrW ct o0 1 O ++ (moW mb sz tl cd plm cm h ++ (jrW ct (mb 1) 94 M ++ (jrW ct (mb 2) 94 SP ++ (jrW ct (mb 3) 376 SV ++ (irW ct (mb 4) 150 TX ++ (irW ct (mb 5) 2 NB)))))))))))))) := hD
    refine W.eq (g2 := F0 m 1461 ls [.int (zI (if 0 ≤ v1 ∧ v1 ≤ 127 then 2 else 1))]) rfl ?_
    refine lv_istore (lv' := [(5, .int (zI (if 0 ≤ v1 ∧ v1 ≤ 127 then 2 else 1))), (0, .ref b), (1, .ref u), (2, .ref (mb 0)), (3, .ref o0), (4, .int (zI i))]) hx hb dL_law_1461 hl (by decide) rfl (fun ls hl => ?_)
    refine lv_aload_n hx hb dL_law_1463 rfl (lv_at hl 3 rfl) ?_
    refine lv_aload_n hx hb dL_law_1464 rfl (lv_at hl 1 rfl) ?_
    refine lv_iload hx hb dL_law_1465 (lv_at hl 5 rfl) ?_
    refine z_iconst hx hb dL_law_1467 ?_
    refine z_iadd hx hb dL_law_1468 ?_
    refine z_sld hx hb hX hbl hbA hS (by omega) hL e1 dL_law_1469 ?_
    refine z_callV (C := RX9) (q0 := 0) (ci := 7) (As := [.int (zI v1)]) (rest := []) (x8W u a r q ++ (svW ct r b2 nx sz S ++ (sobjW a ++ (gridW ct a M ++ (benchW ct a M ++ (logW ct a M ++ (txtW ct q TX tl pl ft wd n1 n2 ++ (jrW ct o0 1 O)))))))) ([] : va_W) hx hb hml hown (fun w h => hts w (inL_181 w h)) hl hE hS hA (zr0 (x8W u a r q ++ (svW ct r b2 nx sz S ++ (sobjW a ++ (gridW ct a M ++ (benchW ct a M ++ (logW ct a M ++ (txtW ct q TX tl pl ft wd n1 n2 ++ (jrW ct o0 1 O)))))))) hP) (zr0D (x8W u a r q ++ (svW ct r b2 nx sz S ++ (sobjW a ++ (gridW ct a M ++ (benchW ct a M ++ (logW ct a M ++ (txtW ct q TX tl pl ft wd n1 n2 ++ (jrW ct o0 1 O)))))))) hD) (c_X9_type_no l D ct ad mb M SP SV TX NB sz tl cd plm cm h v1 (by assumption) (by omega) hok) gdL_181 rfl rfl k_X9_type ⟨Nat.le_of_ble_eq_true rfl, Nat.le_of_ble_eq_true rfl⟩ rfl rfl rfl rfl (Nat.le_of_ble_eq_true rfl) hc1 dL_law_1470 rfl (fun v w1 H locs hpost hP hD hS => ?_)
    obtain ⟨rfl, rfl⟩ := hpost
    have hP := zr0' hP
    have hD := zr0D' hD
    have hP : va_P D vwCl (x8W u a r q ++ (svW ct r b2 nx sz S ++ (sobjW a ++ (gridW ct a M ++ (benchW ct a M ++ (logW ct a M ++ (txtW ct q TX tl pl ft wd n1 n2 ++ (jrW ct o0 1 O ++ (moW mb sz tl (if 0 ≤ v1 ∧ v1 ≤ 127 then 2 else 1) plm cm h ++ (jrW ct (mb 1) 94 M ++ (jrW ct (mb 2) 94 SP ++ (jrW ct (mb 3) 376 SV ++ (irW ct (mb 4) 150 TX ++ (irW ct (mb 5) 2 NB)))))))))))))) H := hP
    have hD : va_D (fun q : Nat => s.heap.size ≤ q) (x8W u a r q ++ (svW ct r b2 nx sz S ++ (sobjW a ++ (gridW ct a M ++ (benchW ct a M ++ (logW ct a M ++ (txtW ct q TX tl pl ft wd n1 n2 ++ (jrW ct o0 1 O ++ (moW mb sz tl (if 0 ≤ v1 ∧ v1 ≤ 127 then 2 else 1) plm cm h ++ (jrW ct (mb 1) 94 M ++ (jrW ct (mb 2) 94 SP ++ (jrW ct (mb 3) 376 SV ++ (irW ct (mb 4) 150 TX ++ (irW ct (mb 5) 2 NB)))))))))))))) := hD
    refine W.eq (g2 := F0 m 1473 ls [.int (zI 0)]) rfl ?_
    refine lv_istore (lv' := [(6, .int (zI 0)), (5, .int (zI (if 0 ≤ v1 ∧ v1 ≤ 127 then 2 else 1))), (0, .ref b), (1, .ref u), (2, .ref (mb 0)), (3, .ref o0), (4, .int (zI i))]) hx hb dL_law_1473 hl (by decide) rfl (fun ls hl => ?_)
    refine lv_aload_n hx hb dL_law_1475 rfl (lv_at hl 4 rfl) ?_
    refine z_callV (C := RX9) (q0 := 0) (ci := 7) (As := []) (rest := []) (x8W u a r q ++ (svW ct r b2 nx sz S ++ (sobjW a ++ (gridW ct a M ++ (benchW ct a M ++ (logW ct a M ++ (txtW ct q TX tl pl ft wd n1 n2 ++ (jrW ct o0 1 O)))))))) ([] : va_W) hx hb hml hown (fun w h => hts w (inL_94 w h)) hl hE hS hA (zr0 (x8W u a r q ++ (svW ct r b2 nx sz S ++ (sobjW a ++ (gridW ct a M ++ (benchW ct a M ++ (logW ct a M ++ (txtW ct q TX tl pl ft wd n1 n2 ++ (jrW ct o0 1 O)))))))) hP) (zr0D (x8W u a r q ++ (svW ct r b2 nx sz S ++ (sobjW a ++ (gridW ct a M ++ (benchW ct a M ++ (logW ct a M ++ (txtW ct q TX tl pl ft wd n1 n2 ++ (jrW ct o0 1 O)))))))) hD) (c_X9_thrown l D ct ad mb M SP SV TX NB sz tl (if 0 ≤ v1 ∧ v1 ≤ 127 then 2 else 1) plm cm h) gdL_94 rfl rfl k_X9_thrown ⟨Nat.le_of_ble_eq_true rfl, Nat.le_of_ble_eq_true rfl⟩ rfl rfl rfl rfl (Nat.le_of_ble_eq_true rfl) hc1 dL_law_1476 rfl (fun v w1 H locs hpost hP hD hS => ?_)
    obtain ⟨rfl, rfl⟩ := hpost
    have hP := zr0' hP
    have hD := zr0D' hD
    have hP : va_P D vwCl (x8W u a r q ++ (svW ct r b2 nx sz S ++ (sobjW a ++ (gridW ct a M ++ (benchW ct a M ++ (logW ct a M ++ (txtW ct q TX tl pl ft wd n1 n2 ++ (jrW ct o0 1 O ++ (moW mb sz tl (if 0 ≤ v1 ∧ v1 ≤ 127 then 2 else 1) plm cm h ++ (jrW ct (mb 1) 94 M ++ (jrW ct (mb 2) 94 SP ++ (jrW ct (mb 3) 376 SV ++ (irW ct (mb 4) 150 TX ++ (irW ct (mb 5) 2 NB)))))))))))))) H := hP
    have hD : va_D (fun q : Nat => s.heap.size ≤ q) (x8W u a r q ++ (svW ct r b2 nx sz S ++ (sobjW a ++ (gridW ct a M ++ (benchW ct a M ++ (logW ct a M ++ (txtW ct q TX tl pl ft wd n1 n2 ++ (jrW ct o0 1 O ++ (moW mb sz tl (if 0 ≤ v1 ∧ v1 ≤ 127 then 2 else 1) plm cm h ++ (jrW ct (mb 1) 94 M ++ (jrW ct (mb 2) 94 SP ++ (jrW ct (mb 3) 376 SV ++ (irW ct (mb 4) 150 TX ++ (irW ct (mb 5) 2 NB)))))))))))))) := hD
    refine W.eq (g2 := F0 m 1479 ls [.int (zI (if 0 ≤ v1 ∧ v1 ≤ 127 then 2 else 1))]) rfl ?_
    refine lv_iload hx hb dL_law_1479 (lv_at hl 1 rfl) ?_
    refine z_icmp_eqS (tgt := 1486) hx hb dL_law_1481 (by decide) ?_
    refine lv_iload hx hb dL_law_1486 (lv_at hl 1 rfl) ?_
    refine z_if_ne (tgt := 1503) hx hb dL_law_1488 (by decide) ⟨by split <;> omega, by split <;> omega⟩ (fun hc_1488 => ?_) (fun hc_1488 => ?_)
    · have hc_1488 := hc_1488
      refine lv_goto (tgt := 1590) hx hb dL_law_1503 (by decide) ?_
      exact ih _ _ _ ⟨nx, sz, S, M, TX, tl, pl, ft, n1, n2, wd, O, SP, SV, NB, (if 0 ≤ v1 ∧ v1 ≤ 127 then 2 else 1), plm, cm, h, hR, hP, hD, hS, lv_sub hl [2, 3, 4, 5, 6] rfl⟩
    · have hc_1488 := hc_1488
      exfalso; revert hc_1488; split <;> omega
set_option maxHeartbeats 4000000 in
set_option maxRecDepth 100000 in
theorem law_c26 (p : Program) (l : Launch) (e : Env) (s : State) (m : MethodId) (below : List Frame) (meth : Method) (c : Code) (D : va_G) (ct ad : Nat → Nat) (b L : Nat) (xs : Nat → Int32) (u : Nat) (a r q : Nat → Nat) (b2 : Nat → Nat → Nat) (o0 : Nat) (mb : Nat → Nat) (hC : lwC p l s m meth c D ct ad b L xs) (i : Int) (hi : 0 ≤ i ∧ i + 4 ≤ (L : Int)) (cells slots : Nat) (hcap : cells + 1 ≤ 601024 ∧ slots + 6 ≤ 7293034) (ih : ∀ (H : Heap) (locs : List Loc) (ls : Array Slot), lwI s D ct b u a r q b2 o0 mb i H locs ls → W p l e room_1 s m #[Value.ref b] below meth c H locs (cells + 1) (slots + 6) (lw_Z below #[Value.ref b] s) (F0 m 1590 ls [])) (H : Heap) (locs : List Loc) (ls : Array Slot) (hI0 : lwI s D ct b u a r q b2 o0 mb i H locs ls) : W p l e room_1 s m #[Value.ref b] below meth c H locs cells slots (lw_Z below #[Value.ref b] s) (F0 m 1506 ls []) := by
  obtain ⟨hx, hb, hr, hml, hown, hts, hX, hbl, hlocks, hE, hst, hL⟩ := hC
  obtain ⟨nx, sz, S, M, TX, tl, pl, ft, n1, n2, wd, O, SP, SV, NB, cd, plm, cm, h, hR, hP, hD, hS, hl⟩ := hI0
  have hA : ∀ q : Nat, s.heap.size ≤ q → (fun q : Nat => s.heap.size ≤ q) q := fun _ h => h
  have hbA : ¬ (fun q : Nat => s.heap.size ≤ q) b := Nat.not_le.mpr hbl
  have hK := hE.1
  have hc0 : cells ≤ room_1.cells ∧ slots ≤ room_1.slots := by show cells ≤ 601024 ∧ slots ≤ 7293034; omega
  have hc1 : cells + 1 ≤ room_1.cells ∧ slots + 6 ≤ room_1.slots := hcap
  have hP : va_P D vwCl (x8W u a r q ++ (svW ct r b2 nx sz S ++ (sobjW a ++ (gridW ct a M ++ (benchW ct a M ++ (logW ct a M ++ (txtW ct q TX tl pl ft wd n1 n2 ++ (jrW ct o0 1 O ++ (moW mb sz tl cd plm cm h ++ (jrW ct (mb 1) 94 M ++ (jrW ct (mb 2) 94 SP ++ (jrW ct (mb 3) 376 SV ++ (irW ct (mb 4) 150 TX ++ (irW ct (mb 5) 2 NB)))))))))))))) H := hP
  have hD : va_D (fun q : Nat => s.heap.size ≤ q) (x8W u a r q ++ (svW ct r b2 nx sz S ++ (sobjW a ++ (gridW ct a M ++ (benchW ct a M ++ (logW ct a M ++ (txtW ct q TX tl pl ft wd n1 n2 ++ (jrW ct o0 1 O ++ (moW mb sz tl cd plm cm h ++ (jrW ct (mb 1) 94 M ++ (jrW ct (mb 2) 94 SP ++ (jrW ct (mb 3) 376 SV ++ (irW ct (mb 4) 150 TX ++ (irW ct (mb 5) 2 NB)))))))))))))) := hD
  have hs := hR.1
  have ht := hR.2.1
  have hI := hs.1
  have hB := hs.2.1
  have ha := hs.2.2
  have i3 := hI.1
  have i4 := hI.2.1
  have j0 := hB.1
  have j1 := hB.2.1
  have j2 := hB.2.2.1
  have j4 := hB.2.2.2.2
  have t1 := ht.1
  have hn := hR.2.2.1
  have hsz := hR.2.2.2.1
  have hsc := hR.2.2.2.1
  refine lv_aload_n hx hb dL_law_1506 rfl (lv_at hl 1 rfl) ?_
  refine z_callV (C := RX8) (q0 := 0) (ci := 6) (As := []) (rest := []) ([] : va_W) (jrW ct o0 1 O ++ (moW mb sz tl cd plm cm h ++ (jrW ct (mb 1) 94 M ++ (jrW ct (mb 2) 94 SP ++ (jrW ct (mb 3) 376 SV ++ (irW ct (mb 4) 150 TX ++ (irW ct (mb 5) 2 NB))))))) hx hb hml hown (fun w h => hts w (inL_182 w h)) hl hE hS hA hP hD (c_X8_clearCommands l D ct ad u a r q b2 nx sz S M TX tl pl ft n1 n2 wd (by assumption) (by assumption)) gdL_182 rfl rfl k_X8_clearCommands ⟨Nat.le_of_ble_eq_true rfl, Nat.le_of_ble_eq_true rfl⟩ rfl rfl rfl rfl (Nat.le_of_ble_eq_true rfl) hc0 dL_law_1507 rfl (fun v w1 H locs hpost hP hD hS => ?_)
  obtain ⟨rfl, rfl⟩ := hpost
  have hP : va_P D vwCl (x8W u a r q ++ (svW ct r b2 nx sz S ++ (sobjW a ++ (gridW ct a M ++ (benchW ct a M ++ (logW ct a M ++ (txtW ct q TX 0 pl ft wd n1 n2 ++ (jrW ct o0 1 O ++ (moW mb sz tl cd plm cm h ++ (jrW ct (mb 1) 94 M ++ (jrW ct (mb 2) 94 SP ++ (jrW ct (mb 3) 376 SV ++ (irW ct (mb 4) 150 TX ++ (irW ct (mb 5) 2 NB)))))))))))))) H := hP
  have hD : va_D (fun q : Nat => s.heap.size ≤ q) (x8W u a r q ++ (svW ct r b2 nx sz S ++ (sobjW a ++ (gridW ct a M ++ (benchW ct a M ++ (logW ct a M ++ (txtW ct q TX 0 pl ft wd n1 n2 ++ (jrW ct o0 1 O ++ (moW mb sz tl cd plm cm h ++ (jrW ct (mb 1) 94 M ++ (jrW ct (mb 2) 94 SP ++ (jrW ct (mb 3) 376 SV ++ (irW ct (mb 4) 150 TX ++ (irW ct (mb 5) 2 NB)))))))))))))) := hD
  refine W.eq (g2 := F0 m 1510 ls [.int (zI tl)]) rfl ?_
  refine lv_aload_n hx hb dL_law_1510 rfl (lv_at hl 2 rfl) ?_
  refine z_callV (C := RX9) (q0 := 0) (ci := 7) (As := []) (rest := [.int (zI tl)]) (x8W u a r q ++ (svW ct r b2 nx sz S ++ (sobjW a ++ (gridW ct a M ++ (benchW ct a M ++ (logW ct a M ++ (txtW ct q TX 0 pl ft wd n1 n2 ++ (jrW ct o0 1 O)))))))) ([] : va_W) hx hb hml hown (fun w h => hts w (inL_185 w h)) hl hE hS hA (zr0 (x8W u a r q ++ (svW ct r b2 nx sz S ++ (sobjW a ++ (gridW ct a M ++ (benchW ct a M ++ (logW ct a M ++ (txtW ct q TX 0 pl ft wd n1 n2 ++ (jrW ct o0 1 O)))))))) hP) (zr0D (x8W u a r q ++ (svW ct r b2 nx sz S ++ (sobjW a ++ (gridW ct a M ++ (benchW ct a M ++ (logW ct a M ++ (txtW ct q TX 0 pl ft wd n1 n2 ++ (jrW ct o0 1 O)))))))) hD) (c_X9_clearCommands l D ct ad mb M SP SV TX NB sz tl cd plm cm h (by assumption)) gdL_185 rfl rfl k_X9_clearCommands ⟨Nat.le_of_ble_eq_true rfl, Nat.le_of_ble_eq_true rfl⟩ rfl rfl rfl rfl (Nat.le_of_ble_eq_true rfl) hc0 dL_law_1511 rfl (fun v w1 H locs hpost hP hD hS => ?_)
  obtain ⟨rfl, rfl⟩ := hpost
  have hP := zr0' hP
  have hD := zr0D' hD
  have hP : va_P D vwCl (x8W u a r q ++ (svW ct r b2 nx sz S ++ (sobjW a ++ (gridW ct a M ++ (benchW ct a M ++ (logW ct a M ++ (txtW ct q TX 0 pl ft wd n1 n2 ++ (jrW ct o0 1 O ++ (moW mb sz 0 0 plm cm h ++ (jrW ct (mb 1) 94 M ++ (jrW ct (mb 2) 94 SP ++ (jrW ct (mb 3) 376 SV ++ (irW ct (mb 4) 150 TX ++ (irW ct (mb 5) 2 NB)))))))))))))) H := hP
  have hD : va_D (fun q : Nat => s.heap.size ≤ q) (x8W u a r q ++ (svW ct r b2 nx sz S ++ (sobjW a ++ (gridW ct a M ++ (benchW ct a M ++ (logW ct a M ++ (txtW ct q TX 0 pl ft wd n1 n2 ++ (jrW ct o0 1 O ++ (moW mb sz 0 0 plm cm h ++ (jrW ct (mb 1) 94 M ++ (jrW ct (mb 2) 94 SP ++ (jrW ct (mb 3) 376 SV ++ (irW ct (mb 4) 150 TX ++ (irW ct (mb 5) 2 NB)))))))))))))) := hD
  refine W.eq (g2 := F0 m 1514 ls [.int (zI tl), .int (zI tl)]) rfl ?_
  refine z_icmp_eqS (tgt := 1590) hx hb dL_law_1514 (by decide) ?_
  refine W.widen (k := cells + 1) (n := slots + 6) (Nat.le_add_right _ _) (Nat.le_add_right _ _) ?_
  exact ih _ _ _ ⟨nx, sz, S, M, TX, 0, pl, ft, n1, n2, wd, O, SP, SV, NB, 0, plm, cm, h, lwR_clear hR, hP, hD, hS, lv_sub hl [0, 1, 2, 3, 4] rfl⟩
set_option maxHeartbeats 4000000 in
set_option maxRecDepth 100000 in
theorem law_c27 (p : Program) (l : Launch) (e : Env) (s : State) (m : MethodId) (below : List Frame) (meth : Method) (c : Code) (D : va_G) (ct ad : Nat → Nat) (b L : Nat) (xs : Nat → Int32) (u : Nat) (a r q : Nat → Nat) (b2 : Nat → Nat → Nat) (o0 : Nat) (mb : Nat → Nat) (hC : lwC p l s m meth c D ct ad b L xs) (i : Int) (hi : 0 ≤ i ∧ i + 4 ≤ (L : Int)) (cells slots : Nat) (hcap : cells + 1 ≤ 601024 ∧ slots + 6 ≤ 7293034) (ih : ∀ (H : Heap) (locs : List Loc) (ls : Array Slot), lwI s D ct b u a r q b2 o0 mb i H locs ls → W p l e room_1 s m #[Value.ref b] below meth c H locs (cells + 1) (slots + 6) (lw_Z below #[Value.ref b] s) (F0 m 1590 ls [])) (H : Heap) (locs : List Loc) (ls : Array Slot) (hI0 : lwI s D ct b u a r q b2 o0 mb i H locs ls) : W p l e room_1 s m #[Value.ref b] below meth c H locs cells slots (lw_Z below #[Value.ref b] s) (F0 m 1519 ls []) := by
  obtain ⟨hx, hb, hr, hml, hown, hts, hX, hbl, hlocks, hE, hst, hL⟩ := hC
  obtain ⟨nx, sz, S, M, TX, tl, pl, ft, n1, n2, wd, O, SP, SV, NB, cd, plm, cm, h, hR, hP, hD, hS, hl⟩ := hI0
  have hA : ∀ q : Nat, s.heap.size ≤ q → (fun q : Nat => s.heap.size ≤ q) q := fun _ h => h
  have hbA : ¬ (fun q : Nat => s.heap.size ≤ q) b := Nat.not_le.mpr hbl
  have hK := hE.1
  have hc0 : cells ≤ room_1.cells ∧ slots ≤ room_1.slots := by show cells ≤ 601024 ∧ slots ≤ 7293034; omega
  have hc1 : cells + 1 ≤ room_1.cells ∧ slots + 6 ≤ room_1.slots := hcap
  have hP : va_P D vwCl (x8W u a r q ++ (svW ct r b2 nx sz S ++ (sobjW a ++ (gridW ct a M ++ (benchW ct a M ++ (logW ct a M ++ (txtW ct q TX tl pl ft wd n1 n2 ++ (jrW ct o0 1 O ++ (moW mb sz tl cd plm cm h ++ (jrW ct (mb 1) 94 M ++ (jrW ct (mb 2) 94 SP ++ (jrW ct (mb 3) 376 SV ++ (irW ct (mb 4) 150 TX ++ (irW ct (mb 5) 2 NB)))))))))))))) H := hP
  have hD : va_D (fun q : Nat => s.heap.size ≤ q) (x8W u a r q ++ (svW ct r b2 nx sz S ++ (sobjW a ++ (gridW ct a M ++ (benchW ct a M ++ (logW ct a M ++ (txtW ct q TX tl pl ft wd n1 n2 ++ (jrW ct o0 1 O ++ (moW mb sz tl cd plm cm h ++ (jrW ct (mb 1) 94 M ++ (jrW ct (mb 2) 94 SP ++ (jrW ct (mb 3) 376 SV ++ (irW ct (mb 4) 150 TX ++ (irW ct (mb 5) 2 NB)))))))))))))) := hD
  have hs := hR.1
  have ht := hR.2.1
  have hI := hs.1
  have hB := hs.2.1
  have ha := hs.2.2
  have i3 := hI.1
  have i4 := hI.2.1
  have j0 := hB.1
  have j1 := hB.2.1
  have j2 := hB.2.2.1
  have j4 := hB.2.2.2.2
  have t1 := ht.1
  have hn := hR.2.2.1
  have hsz := hR.2.2.2.1
  have hsc := hR.2.2.2.1
  by_cases hok : tf TX tl 0 = -1
  · skip
    refine lv_aload_n hx hb dL_law_1519 rfl (lv_at hl 1 rfl) ?_
    refine z_callV (C := RX8) (q0 := 0) (ci := 6) (As := []) (rest := []) ([] : va_W) (jrW ct o0 1 O ++ (moW mb sz tl cd plm cm h ++ (jrW ct (mb 1) 94 M ++ (jrW ct (mb 2) 94 SP ++ (jrW ct (mb 3) 376 SV ++ (irW ct (mb 4) 150 TX ++ (irW ct (mb 5) 2 NB))))))) hx hb hml hown (fun w h => hts w (inL_186 w h)) hl hE hS hA hP hD (c_X8_runCommands_ok l D ct ad u a r q b2 nx sz S M TX tl pl ft n1 n2 wd (by assumption) (by assumption) (by omega) (by omega) hok) gdL_186 rfl rfl k_X8_runCommands ⟨Nat.le_of_ble_eq_true rfl, Nat.le_of_ble_eq_true rfl⟩ rfl rfl rfl rfl (Nat.le_of_ble_eq_true rfl) hc0 dL_law_1520 rfl (fun v w1 H locs hpost hP hD hS => ?_)
    obtain ⟨pl2_1520, wd2_1520, m1_1520, m2_1520, hx0_1520, rfl, rfl⟩ := hpost
    have hP : va_P D vwCl (x8W u a r q ++ (svW ct r b2 ((nx + 1) % 4) (min (sz + 1) 4) (updS S nx M) ++ (sobjW a ++ (gridW ct a ((run TX tl M 0 0).1) ++ (benchW ct a ((run TX tl M 0 0).1) ++ (logW ct a ((run TX tl M 0 0).1) ++ (txtW ct q TX tl pl2_1520 (-1) wd2_1520 m1_1520 m2_1520 ++ (jrW ct o0 1 O ++ (moW mb sz tl cd plm cm h ++ (jrW ct (mb 1) 94 M ++ (jrW ct (mb 2) 94 SP ++ (jrW ct (mb 3) 376 SV ++ (irW ct (mb 4) 150 TX ++ (irW ct (mb 5) 2 NB)))))))))))))) H := hP
    have hD : va_D (fun q : Nat => s.heap.size ≤ q) (x8W u a r q ++ (svW ct r b2 ((nx + 1) % 4) (min (sz + 1) 4) (updS S nx M) ++ (sobjW a ++ (gridW ct a ((run TX tl M 0 0).1) ++ (benchW ct a ((run TX tl M 0 0).1) ++ (logW ct a ((run TX tl M 0 0).1) ++ (txtW ct q TX tl pl2_1520 (-1) wd2_1520 m1_1520 m2_1520 ++ (jrW ct o0 1 O ++ (moW mb sz tl cd plm cm h ++ (jrW ct (mb 1) 94 M ++ (jrW ct (mb 2) 94 SP ++ (jrW ct (mb 3) 376 SV ++ (irW ct (mb 4) 150 TX ++ (irW ct (mb 5) 2 NB)))))))))))))) := hD
    refine W.eq (g2 := F0 m 1523 ls [.int (zI ((run TX tl M 0 0).2))]) rfl ?_
    refine lv_aload_n hx hb dL_law_1523 rfl (lv_at hl 2 rfl) ?_
    refine z_callV (C := RX9) (q0 := 0) (ci := 7) (As := []) (rest := [.int (zI ((run TX tl M 0 0).2))]) (x8W u a r q ++ (svW ct r b2 ((nx + 1) % 4) (min (sz + 1) 4) (updS S nx M) ++ (sobjW a ++ (gridW ct a ((run TX tl M 0 0).1) ++ (benchW ct a ((run TX tl M 0 0).1) ++ (logW ct a ((run TX tl M 0 0).1) ++ (txtW ct q TX tl pl2_1520 (-1) wd2_1520 m1_1520 m2_1520 ++ (jrW ct o0 1 O)))))))) ([] : va_W) hx hb hml hown (fun w h => hts w (inL_189 w h)) hl hE hS hA (zr0 (x8W u a r q ++ (svW ct r b2 ((nx + 1) % 4) (min (sz + 1) 4) (updS S nx M) ++ (sobjW a ++ (gridW ct a ((run TX tl M 0 0).1) ++ (benchW ct a ((run TX tl M 0 0).1) ++ (logW ct a ((run TX tl M 0 0).1) ++ (txtW ct q TX tl pl2_1520 (-1) wd2_1520 m1_1520 m2_1520 ++ (jrW ct o0 1 O)))))))) hP) (zr0D (x8W u a r q ++ (svW ct r b2 ((nx + 1) % 4) (min (sz + 1) 4) (updS S nx M) ++ (sobjW a ++ (gridW ct a ((run TX tl M 0 0).1) ++ (benchW ct a ((run TX tl M 0 0).1) ++ (logW ct a ((run TX tl M 0 0).1) ++ (txtW ct q TX tl pl2_1520 (-1) wd2_1520 m1_1520 m2_1520 ++ (jrW ct o0 1 O)))))))) hD) (c_X9_runCommands_ok l D ct ad mb M SP SV TX NB sz tl cd plm cm h (by assumption) (by assumption) (by omega) hok) gdL_189 rfl rfl k_X9_runCommands ⟨Nat.le_of_ble_eq_true rfl, Nat.le_of_ble_eq_true rfl⟩ rfl rfl rfl rfl (Nat.le_of_ble_eq_true rfl) hc0 dL_law_1524 rfl (fun v w1 H locs hpost hP hD hS => ?_)
    obtain ⟨pl4_1524, NB4_1524, cm4_1524, hx0_1524, rfl, rfl⟩ := hpost
    have hP := zr0' hP
    have hD := zr0D' hD
    have hP : va_P D vwCl (x8W u a r q ++ (svW ct r b2 ((nx + 1) % 4) (min (sz + 1) 4) (updS S nx M) ++ (sobjW a ++ (gridW ct a ((run TX tl M 0 0).1) ++ (benchW ct a ((run TX tl M 0 0).1) ++ (logW ct a ((run TX tl M 0 0).1) ++ (txtW ct q TX tl pl2_1520 (-1) wd2_1520 m1_1520 m2_1520 ++ (jrW ct o0 1 O ++ (moW mb (sv_n sz + 1) tl 0 pl4_1524 cm4_1524 h ++ (jrW ct (mb 1) 94 ((run TX tl M 0 0).1) ++ (jrW ct (mb 2) 94 SP ++ (jrW ct (mb 3) 376 (sv_keep SV M sz) ++ (irW ct (mb 4) 150 TX ++ (irW ct (mb 5) 2 NB4_1524)))))))))))))) H := hP
    have hD : va_D (fun q : Nat => s.heap.size ≤ q) (x8W u a r q ++ (svW ct r b2 ((nx + 1) % 4) (min (sz + 1) 4) (updS S nx M) ++ (sobjW a ++ (gridW ct a ((run TX tl M 0 0).1) ++ (benchW ct a ((run TX tl M 0 0).1) ++ (logW ct a ((run TX tl M 0 0).1) ++ (txtW ct q TX tl pl2_1520 (-1) wd2_1520 m1_1520 m2_1520 ++ (jrW ct o0 1 O ++ (moW mb (sv_n sz + 1) tl 0 pl4_1524 cm4_1524 h ++ (jrW ct (mb 1) 94 ((run TX tl M 0 0).1) ++ (jrW ct (mb 2) 94 SP ++ (jrW ct (mb 3) 376 (sv_keep SV M sz) ++ (irW ct (mb 4) 150 TX ++ (irW ct (mb 5) 2 NB4_1524)))))))))))))) := hD
    refine W.eq (g2 := F0 m 1527 ls [.int (zI ((run TX tl M 0 0).2)), .int (zI ((run TX tl M 0 0).2))]) rfl ?_
    refine z_icmp_eqS (tgt := 1590) hx hb dL_law_1527 (by decide) ?_
    refine W.widen (k := cells + 1) (n := slots + 6) (Nat.le_add_right _ _) (Nat.le_add_right _ _) ?_
    have e9 : (sv_n sz + 1) = (min (sz + 1) 4) := by have q9 := sv_min (sz := sz); have := hR.2.2.2.1; omega
    rw [e9] at hP hD
    exact ih _ _ _ ⟨((nx + 1) % 4), (min (sz + 1) 4), (updS S nx M), ((run TX tl M 0 0).1), TX, tl, pl2_1520, (-1), m1_1520, m2_1520, wd2_1520, O, SP, (sv_keep SV M sz), NB4_1524, 0, pl4_1524, cm4_1524, h, lwR_push hR (sInv_run hs), hP, hD, hS, lv_sub hl [0, 1, 2, 3, 4] rfl⟩
  · skip
    refine lv_aload_n hx hb dL_law_1519 rfl (lv_at hl 1 rfl) ?_
    refine z_callV (C := RX8) (q0 := 0) (ci := 6) (As := []) (rest := []) ([] : va_W) (jrW ct o0 1 O ++ (moW mb sz tl cd plm cm h ++ (jrW ct (mb 1) 94 M ++ (jrW ct (mb 2) 94 SP ++ (jrW ct (mb 3) 376 SV ++ (irW ct (mb 4) 150 TX ++ (irW ct (mb 5) 2 NB))))))) hx hb hml hown (fun w h => hts w (inL_186 w h)) hl hE hS hA hP hD (c_X8_runCommands_no l D ct ad u a r q b2 nx sz S M TX tl pl ft n1 n2 wd (by assumption) (by assumption) (by omega) (by omega) hok) gdL_186 rfl rfl k_X8_runCommands ⟨Nat.le_of_ble_eq_true rfl, Nat.le_of_ble_eq_true rfl⟩ rfl rfl rfl rfl (Nat.le_of_ble_eq_true rfl) hc0 dL_law_1520 rfl (fun v w1 H locs hpost hP hD hS => ?_)
    obtain ⟨pl2_1520, wd2_1520, m1_1520, m2_1520, hx0_1520, rfl, rfl⟩ := hpost
    have hP : va_P D vwCl (x8W u a r q ++ (svW ct r b2 nx sz S ++ (sobjW a ++ (gridW ct a M ++ (benchW ct a M ++ (logW ct a M ++ (txtW ct q TX tl pl2_1520 (tf TX tl 0) wd2_1520 m1_1520 m2_1520 ++ (jrW ct o0 1 O ++ (moW mb sz tl cd plm cm h ++ (jrW ct (mb 1) 94 M ++ (jrW ct (mb 2) 94 SP ++ (jrW ct (mb 3) 376 SV ++ (irW ct (mb 4) 150 TX ++ (irW ct (mb 5) 2 NB)))))))))))))) H := hP
    have hD : va_D (fun q : Nat => s.heap.size ≤ q) (x8W u a r q ++ (svW ct r b2 nx sz S ++ (sobjW a ++ (gridW ct a M ++ (benchW ct a M ++ (logW ct a M ++ (txtW ct q TX tl pl2_1520 (tf TX tl 0) wd2_1520 m1_1520 m2_1520 ++ (jrW ct o0 1 O ++ (moW mb sz tl cd plm cm h ++ (jrW ct (mb 1) 94 M ++ (jrW ct (mb 2) 94 SP ++ (jrW ct (mb 3) 376 SV ++ (irW ct (mb 4) 150 TX ++ (irW ct (mb 5) 2 NB)))))))))))))) := hD
    refine W.eq (g2 := F0 m 1523 ls [.int (zI (-10 - tf TX tl 0))]) rfl ?_
    refine lv_aload_n hx hb dL_law_1523 rfl (lv_at hl 2 rfl) ?_
    refine z_callV (C := RX9) (q0 := 0) (ci := 7) (As := []) (rest := [.int (zI (-10 - tf TX tl 0))]) (x8W u a r q ++ (svW ct r b2 nx sz S ++ (sobjW a ++ (gridW ct a M ++ (benchW ct a M ++ (logW ct a M ++ (txtW ct q TX tl pl2_1520 (tf TX tl 0) wd2_1520 m1_1520 m2_1520 ++ (jrW ct o0 1 O)))))))) ([] : va_W) hx hb hml hown (fun w h => hts w (inL_189 w h)) hl hE hS hA (zr0 (x8W u a r q ++ (svW ct r b2 nx sz S ++ (sobjW a ++ (gridW ct a M ++ (benchW ct a M ++ (logW ct a M ++ (txtW ct q TX tl pl2_1520 (tf TX tl 0) wd2_1520 m1_1520 m2_1520 ++ (jrW ct o0 1 O)))))))) hP) (zr0D (x8W u a r q ++ (svW ct r b2 nx sz S ++ (sobjW a ++ (gridW ct a M ++ (benchW ct a M ++ (logW ct a M ++ (txtW ct q TX tl pl2_1520 (tf TX tl 0) wd2_1520 m1_1520 m2_1520 ++ (jrW ct o0 1 O)))))))) hD) (c_X9_runCommands_no l D ct ad mb M SP SV TX NB sz tl cd plm cm h (by assumption) (by assumption) hok) gdL_189 rfl rfl k_X9_runCommands ⟨Nat.le_of_ble_eq_true rfl, Nat.le_of_ble_eq_true rfl⟩ rfl rfl rfl rfl (Nat.le_of_ble_eq_true rfl) hc0 dL_law_1524 rfl (fun v w1 H locs hpost hP hD hS => ?_)
    obtain ⟨NB3_1524, cm3_1524, hx0_1524, rfl, rfl⟩ := hpost
    have hP := zr0' hP
    have hD := zr0D' hD
    have hP : va_P D vwCl (x8W u a r q ++ (svW ct r b2 nx sz S ++ (sobjW a ++ (gridW ct a M ++ (benchW ct a M ++ (logW ct a M ++ (txtW ct q TX tl pl2_1520 (tf TX tl 0) wd2_1520 m1_1520 m2_1520 ++ (jrW ct o0 1 O ++ (moW mb sz tl 0 (tf TX tl 0) cm3_1524 h ++ (jrW ct (mb 1) 94 M ++ (jrW ct (mb 2) 94 SP ++ (jrW ct (mb 3) 376 SV ++ (irW ct (mb 4) 150 TX ++ (irW ct (mb 5) 2 NB3_1524)))))))))))))) H := hP
    have hD : va_D (fun q : Nat => s.heap.size ≤ q) (x8W u a r q ++ (svW ct r b2 nx sz S ++ (sobjW a ++ (gridW ct a M ++ (benchW ct a M ++ (logW ct a M ++ (txtW ct q TX tl pl2_1520 (tf TX tl 0) wd2_1520 m1_1520 m2_1520 ++ (jrW ct o0 1 O ++ (moW mb sz tl 0 (tf TX tl 0) cm3_1524 h ++ (jrW ct (mb 1) 94 M ++ (jrW ct (mb 2) 94 SP ++ (jrW ct (mb 3) 376 SV ++ (irW ct (mb 4) 150 TX ++ (irW ct (mb 5) 2 NB3_1524)))))))))))))) := hD
    refine W.eq (g2 := F0 m 1527 ls [.int (zI (-10 - tf TX tl 0)), .int (zI (-10 - tf TX tl 0))]) rfl ?_
    refine z_icmp_eqS (tgt := 1590) hx hb dL_law_1527 (by decide) ?_
    refine W.widen (k := cells + 1) (n := slots + 6) (Nat.le_add_right _ _) (Nat.le_add_right _ _) ?_
    exact ih _ _ _ ⟨nx, sz, S, M, TX, tl, pl2_1520, (tf TX tl 0), m1_1520, m2_1520, wd2_1520, O, SP, SV, NB3_1524, 0, (tf TX tl 0), cm3_1524, h, hR, hP, hD, hS, lv_sub hl [0, 1, 2, 3, 4] rfl⟩
set_option maxHeartbeats 4000000 in
set_option maxRecDepth 100000 in
theorem law_c28 (p : Program) (l : Launch) (e : Env) (s : State) (m : MethodId) (below : List Frame) (meth : Method) (c : Code) (D : va_G) (ct ad : Nat → Nat) (b L : Nat) (xs : Nat → Int32) (u : Nat) (a r q : Nat → Nat) (b2 : Nat → Nat → Nat) (o0 : Nat) (mb : Nat → Nat) (hC : lwC p l s m meth c D ct ad b L xs) (i : Int) (hi : 0 ≤ i ∧ i + 4 ≤ (L : Int)) (cells slots : Nat) (hcap : cells + 1 ≤ 601024 ∧ slots + 6 ≤ 7293034) (ih : ∀ (H : Heap) (locs : List Loc) (ls : Array Slot), lwI s D ct b u a r q b2 o0 mb i H locs ls → W p l e room_1 s m #[Value.ref b] below meth c H locs (cells + 1) (slots + 6) (lw_Z below #[Value.ref b] s) (F0 m 1590 ls [])) (H : Heap) (locs : List Loc) (ls : Array Slot) (hI0 : lwI s D ct b u a r q b2 o0 mb i H locs ls) : W p l e room_1 s m #[Value.ref b] below meth c H locs cells slots (lw_Z below #[Value.ref b] s) (F0 m 1532 ls []) := by
  obtain ⟨hx, hb, hr, hml, hown, hts, hX, hbl, hlocks, hE, hst, hL⟩ := hC
  obtain ⟨nx, sz, S, M, TX, tl, pl, ft, n1, n2, wd, O, SP, SV, NB, cd, plm, cm, h, hR, hP, hD, hS, hl⟩ := hI0
  have hA : ∀ q : Nat, s.heap.size ≤ q → (fun q : Nat => s.heap.size ≤ q) q := fun _ h => h
  have hbA : ¬ (fun q : Nat => s.heap.size ≤ q) b := Nat.not_le.mpr hbl
  have hK := hE.1
  have hc0 : cells ≤ room_1.cells ∧ slots ≤ room_1.slots := by show cells ≤ 601024 ∧ slots ≤ 7293034; omega
  have hc1 : cells + 1 ≤ room_1.cells ∧ slots + 6 ≤ room_1.slots := hcap
  have hP : va_P D vwCl (x8W u a r q ++ (svW ct r b2 nx sz S ++ (sobjW a ++ (gridW ct a M ++ (benchW ct a M ++ (logW ct a M ++ (txtW ct q TX tl pl ft wd n1 n2 ++ (jrW ct o0 1 O ++ (moW mb sz tl cd plm cm h ++ (jrW ct (mb 1) 94 M ++ (jrW ct (mb 2) 94 SP ++ (jrW ct (mb 3) 376 SV ++ (irW ct (mb 4) 150 TX ++ (irW ct (mb 5) 2 NB)))))))))))))) H := hP
  have hD : va_D (fun q : Nat => s.heap.size ≤ q) (x8W u a r q ++ (svW ct r b2 nx sz S ++ (sobjW a ++ (gridW ct a M ++ (benchW ct a M ++ (logW ct a M ++ (txtW ct q TX tl pl ft wd n1 n2 ++ (jrW ct o0 1 O ++ (moW mb sz tl cd plm cm h ++ (jrW ct (mb 1) 94 M ++ (jrW ct (mb 2) 94 SP ++ (jrW ct (mb 3) 376 SV ++ (irW ct (mb 4) 150 TX ++ (irW ct (mb 5) 2 NB)))))))))))))) := hD
  have hs := hR.1
  have ht := hR.2.1
  have hI := hs.1
  have hB := hs.2.1
  have ha := hs.2.2
  have i3 := hI.1
  have i4 := hI.2.1
  have j0 := hB.1
  have j1 := hB.2.1
  have j2 := hB.2.2.1
  have j4 := hB.2.2.2.2
  have t1 := ht.1
  have hn := hR.2.2.1
  have hsz := hR.2.2.2.1
  have hsc := hR.2.2.2.1
  by_cases hok : 1 ≤ sz ∧ sz ≤ 4
  · skip
    refine lv_aload_n hx hb dL_law_1532 rfl (lv_at hl 1 rfl) ?_
    refine lv_aload_n hx hb dL_law_1533 rfl (lv_at hl 3 rfl) ?_
    refine z_callSW (As := [.ref u, .ref o0]) (rest := []) ([] : va_W) (moW mb sz tl cd plm cm h ++ (jrW ct (mb 1) 94 M ++ (jrW ct (mb 2) 94 SP ++ (jrW ct (mb 3) 376 SV ++ (irW ct (mb 4) 150 TX ++ (irW ct (mb 5) 2 NB)))))) hx hb hml hown (fun w h => hts w (inL_190 w h)) hl hE hS hA hP hD (c_L_undo_ok l D ct ad u a r q b2 nx sz S M TX tl pl ft n1 n2 wd o0 O (by assumption) (by omega) hok (by omega)) gdL_190 rfl k_L_undo ⟨Nat.le_of_ble_eq_true rfl, Nat.le_of_ble_eq_true rfl⟩ rfl (Nat.le_of_ble_eq_true rfl) hc0 dL_law_1534 rfl (fun v w1 H locs hpost hP hD hS => ?_)
    obtain ⟨rfl, rfl⟩ := hpost
    have hP : va_P D vwCl (x8W u a r q ++ (svW ct r b2 ((nx + 3) % 4) (sz - 1) S ++ (sobjW a ++ (gridW ct a (S ((nx + 3) % 4).toNat) ++ (benchW ct a (S ((nx + 3) % 4).toNat) ++ (logW ct a (S ((nx + 3) % 4).toNat) ++ (txtW ct q TX tl pl ft wd n1 n2 ++ (jrW ct o0 1 (up O 0 (sz - 1)) ++ (moW mb sz tl cd plm cm h ++ (jrW ct (mb 1) 94 M ++ (jrW ct (mb 2) 94 SP ++ (jrW ct (mb 3) 376 SV ++ (irW ct (mb 4) 150 TX ++ (irW ct (mb 5) 2 NB)))))))))))))) H := hP
    have hD : va_D (fun q : Nat => s.heap.size ≤ q) (x8W u a r q ++ (svW ct r b2 ((nx + 3) % 4) (sz - 1) S ++ (sobjW a ++ (gridW ct a (S ((nx + 3) % 4).toNat) ++ (benchW ct a (S ((nx + 3) % 4).toNat) ++ (logW ct a (S ((nx + 3) % 4).toNat) ++ (txtW ct q TX tl pl ft wd n1 n2 ++ (jrW ct o0 1 (up O 0 (sz - 1)) ++ (moW mb sz tl cd plm cm h ++ (jrW ct (mb 1) 94 M ++ (jrW ct (mb 2) 94 SP ++ (jrW ct (mb 3) 376 SV ++ (irW ct (mb 4) 150 TX ++ (irW ct (mb 5) 2 NB)))))))))))))) := hD
    refine W.eq (g2 := F0 m 1537 ls [.int (zI 0)]) rfl ?_
    refine lv_istore (lv' := [(5, .int (zI 0)), (0, .ref b), (1, .ref u), (2, .ref (mb 0)), (3, .ref o0), (4, .int (zI i))]) hx hb dL_law_1537 hl (by decide) rfl (fun ls hl => ?_)
    refine lv_aload_n hx hb dL_law_1539 rfl (lv_at hl 3 rfl) ?_
    refine z_callV (C := RX9) (q0 := 0) (ci := 7) (As := []) (rest := []) (x8W u a r q ++ (svW ct r b2 ((nx + 3) % 4) (sz - 1) S ++ (sobjW a ++ (gridW ct a (S ((nx + 3) % 4).toNat) ++ (benchW ct a (S ((nx + 3) % 4).toNat) ++ (logW ct a (S ((nx + 3) % 4).toNat) ++ (txtW ct q TX tl pl ft wd n1 n2 ++ (jrW ct o0 1 (up O 0 (sz - 1)))))))))) ([] : va_W) hx hb hml hown (fun w h => hts w (inL_193 w h)) hl hE hS hA (zr0 (x8W u a r q ++ (svW ct r b2 ((nx + 3) % 4) (sz - 1) S ++ (sobjW a ++ (gridW ct a (S ((nx + 3) % 4).toNat) ++ (benchW ct a (S ((nx + 3) % 4).toNat) ++ (logW ct a (S ((nx + 3) % 4).toNat) ++ (txtW ct q TX tl pl ft wd n1 n2 ++ (jrW ct o0 1 (up O 0 (sz - 1)))))))))) hP) (zr0D (x8W u a r q ++ (svW ct r b2 ((nx + 3) % 4) (sz - 1) S ++ (sobjW a ++ (gridW ct a (S ((nx + 3) % 4).toNat) ++ (benchW ct a (S ((nx + 3) % 4).toNat) ++ (logW ct a (S ((nx + 3) % 4).toNat) ++ (txtW ct q TX tl pl ft wd n1 n2 ++ (jrW ct o0 1 (up O 0 (sz - 1)))))))))) hD) (c_X9_undo_ok l D ct ad mb M SP SV TX NB sz tl cd plm cm h hok) gdL_193 rfl rfl k_X9_undo ⟨Nat.le_of_ble_eq_true rfl, Nat.le_of_ble_eq_true rfl⟩ rfl rfl rfl rfl (Nat.le_of_ble_eq_true rfl) hc0 dL_law_1540 rfl (fun v w1 H locs hpost hP hD hS => ?_)
    obtain ⟨rfl, rfl⟩ := hpost
    have hP := zr0' hP
    have hD := zr0D' hD
    have hP : va_P D vwCl (x8W u a r q ++ (svW ct r b2 ((nx + 3) % 4) (sz - 1) S ++ (sobjW a ++ (gridW ct a (S ((nx + 3) % 4).toNat) ++ (benchW ct a (S ((nx + 3) % 4).toNat) ++ (logW ct a (S ((nx + 3) % 4).toNat) ++ (txtW ct q TX tl pl ft wd n1 n2 ++ (jrW ct o0 1 (up O 0 (sz - 1)) ++ (moW mb (sz - 1) tl 0 plm cm h ++ (jrW ct (mb 1) 94 (brN SV M (94 * (sz - 1)) 0 94) ++ (jrW ct (mb 2) 94 SP ++ (jrW ct (mb 3) 376 SV ++ (irW ct (mb 4) 150 TX ++ (irW ct (mb 5) 2 NB)))))))))))))) H := hP
    have hD : va_D (fun q : Nat => s.heap.size ≤ q) (x8W u a r q ++ (svW ct r b2 ((nx + 3) % 4) (sz - 1) S ++ (sobjW a ++ (gridW ct a (S ((nx + 3) % 4).toNat) ++ (benchW ct a (S ((nx + 3) % 4).toNat) ++ (logW ct a (S ((nx + 3) % 4).toNat) ++ (txtW ct q TX tl pl ft wd n1 n2 ++ (jrW ct o0 1 (up O 0 (sz - 1)) ++ (moW mb (sz - 1) tl 0 plm cm h ++ (jrW ct (mb 1) 94 (brN SV M (94 * (sz - 1)) 0 94) ++ (jrW ct (mb 2) 94 SP ++ (jrW ct (mb 3) 376 SV ++ (irW ct (mb 4) 150 TX ++ (irW ct (mb 5) 2 NB)))))))))))))) := hD
    refine W.eq (g2 := F0 m 1543 ls [.int (zI (sz - 1))]) rfl ?_
    refine lv_istore (lv' := [(6, .int (zI (sz - 1))), (5, .int (zI 0)), (0, .ref b), (1, .ref u), (2, .ref (mb 0)), (3, .ref o0), (4, .int (zI i))]) hx hb dL_law_1543 hl (by decide) rfl (fun ls hl => ?_)
    refine lv_aload_n hx hb dL_law_1545 rfl (lv_at hl 4 rfl) ?_
    refine z_callV (C := RX9) (q0 := 0) (ci := 7) (As := []) (rest := []) (x8W u a r q ++ (svW ct r b2 ((nx + 3) % 4) (sz - 1) S ++ (sobjW a ++ (gridW ct a (S ((nx + 3) % 4).toNat) ++ (benchW ct a (S ((nx + 3) % 4).toNat) ++ (logW ct a (S ((nx + 3) % 4).toNat) ++ (txtW ct q TX tl pl ft wd n1 n2 ++ (jrW ct o0 1 (up O 0 (sz - 1)))))))))) ([] : va_W) hx hb hml hown (fun w h => hts w (inL_94 w h)) hl hE hS hA (zr0 (x8W u a r q ++ (svW ct r b2 ((nx + 3) % 4) (sz - 1) S ++ (sobjW a ++ (gridW ct a (S ((nx + 3) % 4).toNat) ++ (benchW ct a (S ((nx + 3) % 4).toNat) ++ (logW ct a (S ((nx + 3) % 4).toNat) ++ (txtW ct q TX tl pl ft wd n1 n2 ++ (jrW ct o0 1 (up O 0 (sz - 1)))))))))) hP) (zr0D (x8W u a r q ++ (svW ct r b2 ((nx + 3) % 4) (sz - 1) S ++ (sobjW a ++ (gridW ct a (S ((nx + 3) % 4).toNat) ++ (benchW ct a (S ((nx + 3) % 4).toNat) ++ (logW ct a (S ((nx + 3) % 4).toNat) ++ (txtW ct q TX tl pl ft wd n1 n2 ++ (jrW ct o0 1 (up O 0 (sz - 1)))))))))) hD) (c_X9_thrown l D ct ad mb (brN SV M (94 * (sz - 1)) 0 94) SP SV TX NB (sz - 1) tl 0 plm cm h) gdL_94 rfl rfl k_X9_thrown ⟨Nat.le_of_ble_eq_true rfl, Nat.le_of_ble_eq_true rfl⟩ rfl rfl rfl rfl (Nat.le_of_ble_eq_true rfl) hc0 dL_law_1546 rfl (fun v w1 H locs hpost hP hD hS => ?_)
    obtain ⟨rfl, rfl⟩ := hpost
    have hP := zr0' hP
    have hD := zr0D' hD
    have hP : va_P D vwCl (x8W u a r q ++ (svW ct r b2 ((nx + 3) % 4) (sz - 1) S ++ (sobjW a ++ (gridW ct a (S ((nx + 3) % 4).toNat) ++ (benchW ct a (S ((nx + 3) % 4).toNat) ++ (logW ct a (S ((nx + 3) % 4).toNat) ++ (txtW ct q TX tl pl ft wd n1 n2 ++ (jrW ct o0 1 (up O 0 (sz - 1)) ++ (moW mb (sz - 1) tl 0 plm cm h ++ (jrW ct (mb 1) 94 (brN SV M (94 * (sz - 1)) 0 94) ++ (jrW ct (mb 2) 94 SP ++ (jrW ct (mb 3) 376 SV ++ (irW ct (mb 4) 150 TX ++ (irW ct (mb 5) 2 NB)))))))))))))) H := hP
    have hD : va_D (fun q : Nat => s.heap.size ≤ q) (x8W u a r q ++ (svW ct r b2 ((nx + 3) % 4) (sz - 1) S ++ (sobjW a ++ (gridW ct a (S ((nx + 3) % 4).toNat) ++ (benchW ct a (S ((nx + 3) % 4).toNat) ++ (logW ct a (S ((nx + 3) % 4).toNat) ++ (txtW ct q TX tl pl ft wd n1 n2 ++ (jrW ct o0 1 (up O 0 (sz - 1)) ++ (moW mb (sz - 1) tl 0 plm cm h ++ (jrW ct (mb 1) 94 (brN SV M (94 * (sz - 1)) 0 94) ++ (jrW ct (mb 2) 94 SP ++ (jrW ct (mb 3) 376 SV ++ (irW ct (mb 4) 150 TX ++ (irW ct (mb 5) 2 NB)))))))))))))) := hD
    refine W.eq (g2 := F0 m 1549 ls [.int (zI 0)]) rfl ?_
    refine lv_iload hx hb dL_law_1549 (lv_at hl 1 rfl) ?_
    refine z_icmp_eqS (tgt := 1556) hx hb dL_law_1551 (by decide) ?_
    refine lv_iload hx hb dL_law_1556 (lv_at hl 1 rfl) ?_
    refine z_if_ne (tgt := 1573) hx hb dL_law_1558 (by decide) (by omega) (fun hc_1558 => ?_) (fun hc_1558 => ?_)
    · have hc_1558 := hc_1558
      exfalso; first | omega | (revert hc_1558; unfold ck1; split <;> omega)
    · have hc_1558 := hc_1558
      refine lv_aload_n hx hb dL_law_1561 rfl (lv_at hl 5 rfl) ?_
      refine z_iconst hx hb dL_law_1562 ?_
      refine z_lald (g := (up O 0 (sz - 1))) (v := sz - 1) hx hb hK hP 60 rfl (by decide) (by omega) (show (up O 0 (sz - 1)) 0 = sz - 1 from by rw [up_s]) dL_law_1563 ?_
      refine lv_iload hx hb dL_law_1564 (lv_at hl 0 rfl) ?_
      refine z_i2l hx hb dL_law_1566 (by omega) ?_
      refine z_lcmp_eqS (tgt := 1573) hx hb dL_law_1567 dL_law_1568 (by decide) ?_
      refine lv_goto (tgt := 1590) hx hb dL_law_1573 (by decide) ?_
      refine W.widen (k := cells + 1) (n := slots + 6) (Nat.le_add_right _ _) (Nat.le_add_right _ _) ?_
      rw [lwR_back hR hok ct (mb 1)] at hP hD
      exact ih _ _ _ ⟨((nx + 3) % 4), (sz - 1), S, (S ((nx + 3) % 4).toNat), TX, tl, pl, ft, n1, n2, wd, (up O 0 (sz - 1)), SP, SV, NB, 0, plm, cm, h, lwR_undo hR hok, hP, hD, hS, lv_sub hl [2, 3, 4, 5, 6] rfl⟩
  · skip
    refine lv_aload_n hx hb dL_law_1532 rfl (lv_at hl 1 rfl) ?_
    refine lv_aload_n hx hb dL_law_1533 rfl (lv_at hl 3 rfl) ?_
    refine z_callSW (As := [.ref u, .ref o0]) (rest := []) ([] : va_W) (moW mb sz tl cd plm cm h ++ (jrW ct (mb 1) 94 M ++ (jrW ct (mb 2) 94 SP ++ (jrW ct (mb 3) 376 SV ++ (irW ct (mb 4) 150 TX ++ (irW ct (mb 5) 2 NB)))))) hx hb hml hown (fun w h => hts w (inL_190 w h)) hl hE hS hA hP hD (c_L_undo_no l D ct ad u a r q b2 nx sz S M TX tl pl ft n1 n2 wd o0 O (by assumption) hst (by omega)) gdL_190 rfl k_L_undo ⟨Nat.le_of_ble_eq_true rfl, Nat.le_of_ble_eq_true rfl⟩ rfl (Nat.le_of_ble_eq_true rfl) hc1 dL_law_1534 rfl (fun v w1 H locs hpost hP hD hS => ?_)
    obtain ⟨rfl, rfl⟩ := hpost
    have hP : va_P D vwCl (x8W u a r q ++ (svW ct r b2 nx sz S ++ (sobjW a ++ (gridW ct a M ++ (benchW ct a M ++ (logW ct a M ++ (txtW ct q TX tl pl ft wd n1 n2 ++ (jrW ct o0 1 O ++ (moW mb sz tl cd plm cm h ++ (jrW ct (mb 1) 94 M ++ (jrW ct (mb 2) 94 SP ++ (jrW ct (mb 3) 376 SV ++ (irW ct (mb 4) 150 TX ++ (irW ct (mb 5) 2 NB)))))))))))))) H := hP
    have hD : va_D (fun q : Nat => s.heap.size ≤ q) (x8W u a r q ++ (svW ct r b2 nx sz S ++ (sobjW a ++ (gridW ct a M ++ (benchW ct a M ++ (logW ct a M ++ (txtW ct q TX tl pl ft wd n1 n2 ++ (jrW ct o0 1 O ++ (moW mb sz tl cd plm cm h ++ (jrW ct (mb 1) 94 M ++ (jrW ct (mb 2) 94 SP ++ (jrW ct (mb 3) 376 SV ++ (irW ct (mb 4) 150 TX ++ (irW ct (mb 5) 2 NB)))))))))))))) := hD
    refine W.eq (g2 := F0 m 1537 ls [.int (zI 1)]) rfl ?_
    refine lv_istore (lv' := [(5, .int (zI 1)), (0, .ref b), (1, .ref u), (2, .ref (mb 0)), (3, .ref o0), (4, .int (zI i))]) hx hb dL_law_1537 hl (by decide) rfl (fun ls hl => ?_)
    refine lv_aload_n hx hb dL_law_1539 rfl (lv_at hl 3 rfl) ?_
    refine z_callV (C := RX9) (q0 := 0) (ci := 7) (As := []) (rest := []) (x8W u a r q ++ (svW ct r b2 nx sz S ++ (sobjW a ++ (gridW ct a M ++ (benchW ct a M ++ (logW ct a M ++ (txtW ct q TX tl pl ft wd n1 n2 ++ (jrW ct o0 1 O)))))))) ([] : va_W) hx hb hml hown (fun w h => hts w (inL_193 w h)) hl hE hS hA (zr0 (x8W u a r q ++ (svW ct r b2 nx sz S ++ (sobjW a ++ (gridW ct a M ++ (benchW ct a M ++ (logW ct a M ++ (txtW ct q TX tl pl ft wd n1 n2 ++ (jrW ct o0 1 O)))))))) hP) (zr0D (x8W u a r q ++ (svW ct r b2 nx sz S ++ (sobjW a ++ (gridW ct a M ++ (benchW ct a M ++ (logW ct a M ++ (txtW ct q TX tl pl ft wd n1 n2 ++ (jrW ct o0 1 O)))))))) hD) (c_X9_undo_no l D ct ad mb M SP SV TX NB sz tl cd plm cm h (by omega)) gdL_193 rfl rfl k_X9_undo ⟨Nat.le_of_ble_eq_true rfl, Nat.le_of_ble_eq_true rfl⟩ rfl rfl rfl rfl (Nat.le_of_ble_eq_true rfl) hc1 dL_law_1540 rfl (fun v w1 H locs hpost hP hD hS => ?_)
    obtain ⟨rfl, rfl⟩ := hpost
    have hP := zr0' hP
    have hD := zr0D' hD
    have hP : va_P D vwCl (x8W u a r q ++ (svW ct r b2 nx sz S ++ (sobjW a ++ (gridW ct a M ++ (benchW ct a M ++ (logW ct a M ++ (txtW ct q TX tl pl ft wd n1 n2 ++ (jrW ct o0 1 O ++ (moW mb sz tl 1 plm cm h ++ (jrW ct (mb 1) 94 M ++ (jrW ct (mb 2) 94 SP ++ (jrW ct (mb 3) 376 SV ++ (irW ct (mb 4) 150 TX ++ (irW ct (mb 5) 2 NB)))))))))))))) H := hP
    have hD : va_D (fun q : Nat => s.heap.size ≤ q) (x8W u a r q ++ (svW ct r b2 nx sz S ++ (sobjW a ++ (gridW ct a M ++ (benchW ct a M ++ (logW ct a M ++ (txtW ct q TX tl pl ft wd n1 n2 ++ (jrW ct o0 1 O ++ (moW mb sz tl 1 plm cm h ++ (jrW ct (mb 1) 94 M ++ (jrW ct (mb 2) 94 SP ++ (jrW ct (mb 3) 376 SV ++ (irW ct (mb 4) 150 TX ++ (irW ct (mb 5) 2 NB)))))))))))))) := hD
    refine W.eq (g2 := F0 m 1543 ls [.int (zI 0)]) rfl ?_
    refine lv_istore (lv' := [(6, .int (zI 0)), (5, .int (zI 1)), (0, .ref b), (1, .ref u), (2, .ref (mb 0)), (3, .ref o0), (4, .int (zI i))]) hx hb dL_law_1543 hl (by decide) rfl (fun ls hl => ?_)
    refine lv_aload_n hx hb dL_law_1545 rfl (lv_at hl 4 rfl) ?_
    refine z_callV (C := RX9) (q0 := 0) (ci := 7) (As := []) (rest := []) (x8W u a r q ++ (svW ct r b2 nx sz S ++ (sobjW a ++ (gridW ct a M ++ (benchW ct a M ++ (logW ct a M ++ (txtW ct q TX tl pl ft wd n1 n2 ++ (jrW ct o0 1 O)))))))) ([] : va_W) hx hb hml hown (fun w h => hts w (inL_94 w h)) hl hE hS hA (zr0 (x8W u a r q ++ (svW ct r b2 nx sz S ++ (sobjW a ++ (gridW ct a M ++ (benchW ct a M ++ (logW ct a M ++ (txtW ct q TX tl pl ft wd n1 n2 ++ (jrW ct o0 1 O)))))))) hP) (zr0D (x8W u a r q ++ (svW ct r b2 nx sz S ++ (sobjW a ++ (gridW ct a M ++ (benchW ct a M ++ (logW ct a M ++ (txtW ct q TX tl pl ft wd n1 n2 ++ (jrW ct o0 1 O)))))))) hD) (c_X9_thrown l D ct ad mb M SP SV TX NB sz tl 1 plm cm h) gdL_94 rfl rfl k_X9_thrown ⟨Nat.le_of_ble_eq_true rfl, Nat.le_of_ble_eq_true rfl⟩ rfl rfl rfl rfl (Nat.le_of_ble_eq_true rfl) hc1 dL_law_1546 rfl (fun v w1 H locs hpost hP hD hS => ?_)
    obtain ⟨rfl, rfl⟩ := hpost
    have hP := zr0' hP
    have hD := zr0D' hD
    have hP : va_P D vwCl (x8W u a r q ++ (svW ct r b2 nx sz S ++ (sobjW a ++ (gridW ct a M ++ (benchW ct a M ++ (logW ct a M ++ (txtW ct q TX tl pl ft wd n1 n2 ++ (jrW ct o0 1 O ++ (moW mb sz tl 1 plm cm h ++ (jrW ct (mb 1) 94 M ++ (jrW ct (mb 2) 94 SP ++ (jrW ct (mb 3) 376 SV ++ (irW ct (mb 4) 150 TX ++ (irW ct (mb 5) 2 NB)))))))))))))) H := hP
    have hD : va_D (fun q : Nat => s.heap.size ≤ q) (x8W u a r q ++ (svW ct r b2 nx sz S ++ (sobjW a ++ (gridW ct a M ++ (benchW ct a M ++ (logW ct a M ++ (txtW ct q TX tl pl ft wd n1 n2 ++ (jrW ct o0 1 O ++ (moW mb sz tl 1 plm cm h ++ (jrW ct (mb 1) 94 M ++ (jrW ct (mb 2) 94 SP ++ (jrW ct (mb 3) 376 SV ++ (irW ct (mb 4) 150 TX ++ (irW ct (mb 5) 2 NB)))))))))))))) := hD
    refine W.eq (g2 := F0 m 1549 ls [.int (zI 1)]) rfl ?_
    refine lv_iload hx hb dL_law_1549 (lv_at hl 1 rfl) ?_
    refine z_icmp_eqS (tgt := 1556) hx hb dL_law_1551 (by decide) ?_
    refine lv_iload hx hb dL_law_1556 (lv_at hl 1 rfl) ?_
    refine z_if_ne (tgt := 1573) hx hb dL_law_1558 (by decide) (by omega) (fun hc_1558 => ?_) (fun hc_1558 => ?_)
    · have hc_1558 := hc_1558
      refine lv_goto (tgt := 1590) hx hb dL_law_1573 (by decide) ?_
      exact ih _ _ _ ⟨nx, sz, S, M, TX, tl, pl, ft, n1, n2, wd, O, SP, SV, NB, 1, plm, cm, h, hR, hP, hD, hS, lv_sub hl [2, 3, 4, 5, 6] rfl⟩
    · have hc_1558 := hc_1558
      exfalso; first | omega | (revert hc_1558; unfold ck1; split <;> omega)
set_option maxHeartbeats 4000000 in
set_option maxRecDepth 100000 in
theorem law_c29 (p : Program) (l : Launch) (e : Env) (s : State) (m : MethodId) (below : List Frame) (meth : Method) (c : Code) (D : va_G) (ct ad : Nat → Nat) (b L : Nat) (xs : Nat → Int32) (u : Nat) (a r q : Nat → Nat) (b2 : Nat → Nat → Nat) (o0 : Nat) (mb : Nat → Nat) (hC : lwC p l s m meth c D ct ad b L xs) (i : Int) (hi : 0 ≤ i ∧ i + 4 ≤ (L : Int)) (cells slots : Nat) (hcap : cells + 1 ≤ 601024 ∧ slots + 6 ≤ 7293034) (ih : ∀ (H : Heap) (locs : List Loc) (ls : Array Slot), lwI s D ct b u a r q b2 o0 mb i H locs ls → W p l e room_1 s m #[Value.ref b] below meth c H locs (cells + 1) (slots + 6) (lw_Z below #[Value.ref b] s) (F0 m 1590 ls [])) (H : Heap) (locs : List Loc) (ls : Array Slot) (hI0 : lwI s D ct b u a r q b2 o0 mb i H locs ls) : W p l e room_1 s m #[Value.ref b] below meth c H locs cells slots (lw_Z below #[Value.ref b] s) (F0 m 1576 ls []) := by
  obtain ⟨hx, hb, hr, hml, hown, hts, hX, hbl, hlocks, hE, hst, hL⟩ := hC
  obtain ⟨nx, sz, S, M, TX, tl, pl, ft, n1, n2, wd, O, SP, SV, NB, cd, plm, cm, h, hR, hP, hD, hS, hl⟩ := hI0
  have hA : ∀ q : Nat, s.heap.size ≤ q → (fun q : Nat => s.heap.size ≤ q) q := fun _ h => h
  have hbA : ¬ (fun q : Nat => s.heap.size ≤ q) b := Nat.not_le.mpr hbl
  have hK := hE.1
  have hc0 : cells ≤ room_1.cells ∧ slots ≤ room_1.slots := by show cells ≤ 601024 ∧ slots ≤ 7293034; omega
  have hc1 : cells + 1 ≤ room_1.cells ∧ slots + 6 ≤ room_1.slots := hcap
  have hP : va_P D vwCl (x8W u a r q ++ (svW ct r b2 nx sz S ++ (sobjW a ++ (gridW ct a M ++ (benchW ct a M ++ (logW ct a M ++ (txtW ct q TX tl pl ft wd n1 n2 ++ (jrW ct o0 1 O ++ (moW mb sz tl cd plm cm h ++ (jrW ct (mb 1) 94 M ++ (jrW ct (mb 2) 94 SP ++ (jrW ct (mb 3) 376 SV ++ (irW ct (mb 4) 150 TX ++ (irW ct (mb 5) 2 NB)))))))))))))) H := hP
  have hD : va_D (fun q : Nat => s.heap.size ≤ q) (x8W u a r q ++ (svW ct r b2 nx sz S ++ (sobjW a ++ (gridW ct a M ++ (benchW ct a M ++ (logW ct a M ++ (txtW ct q TX tl pl ft wd n1 n2 ++ (jrW ct o0 1 O ++ (moW mb sz tl cd plm cm h ++ (jrW ct (mb 1) 94 M ++ (jrW ct (mb 2) 94 SP ++ (jrW ct (mb 3) 376 SV ++ (irW ct (mb 4) 150 TX ++ (irW ct (mb 5) 2 NB)))))))))))))) := hD
  have hs := hR.1
  have ht := hR.2.1
  have hI := hs.1
  have hB := hs.2.1
  have ha := hs.2.2
  have i3 := hI.1
  have i4 := hI.2.1
  have j0 := hB.1
  have j1 := hB.2.1
  have j2 := hB.2.2.1
  have j4 := hB.2.2.2.2
  have t1 := ht.1
  have hn := hR.2.2.1
  have hsz := hR.2.2.2.1
  have hsc := hR.2.2.2.1
  refine lv_aload_n hx hb dL_law_1576 rfl (lv_at hl 1 rfl) ?_
  refine z_callV (C := RX8) (q0 := 0) (ci := 6) (As := []) (rest := []) ([] : va_W) (jrW ct o0 1 O ++ (moW mb sz tl cd plm cm h ++ (jrW ct (mb 1) 94 M ++ (jrW ct (mb 2) 94 SP ++ (jrW ct (mb 3) 376 SV ++ (irW ct (mb 4) 150 TX ++ (irW ct (mb 5) 2 NB))))))) hx hb hml hown (fun w h => hts w (inL_194 w h)) hl hE hS hA hP hD (c_X8_digest l D ct ad u a r q b2 nx sz S M TX tl pl ft n1 n2 wd (by assumption) (by assumption) (by omega) (by omega)) gdL_194 rfl rfl k_X8_digest ⟨Nat.le_of_ble_eq_true rfl, Nat.le_of_ble_eq_true rfl⟩ rfl rfl rfl rfl (Nat.le_of_ble_eq_true rfl) hc0 dL_law_1577 rfl (fun v w1 H locs hpost hP hD hS => ?_)
  obtain ⟨rfl, rfl⟩ := hpost
  have hP : va_P D vwCl (x8W u a r q ++ (svW ct r b2 nx sz S ++ (sobjW a ++ (gridW ct a M ++ (benchW ct a M ++ (logW ct a M ++ (txtW ct q TX tl pl ft wd n1 n2 ++ (jrW ct o0 1 O ++ (moW mb sz tl cd plm cm h ++ (jrW ct (mb 1) 94 M ++ (jrW ct (mb 2) 94 SP ++ (jrW ct (mb 3) 376 SV ++ (irW ct (mb 4) 150 TX ++ (irW ct (mb 5) 2 NB)))))))))))))) H := hP
  have hD : va_D (fun q : Nat => s.heap.size ≤ q) (x8W u a r q ++ (svW ct r b2 nx sz S ++ (sobjW a ++ (gridW ct a M ++ (benchW ct a M ++ (logW ct a M ++ (txtW ct q TX tl pl ft wd n1 n2 ++ (jrW ct o0 1 O ++ (moW mb sz tl cd plm cm h ++ (jrW ct (mb 1) 94 M ++ (jrW ct (mb 2) 94 SP ++ (jrW ct (mb 3) 376 SV ++ (irW ct (mb 4) 150 TX ++ (irW ct (mb 5) 2 NB)))))))))))))) := hD
  refine W.eq (g2 := F0 m 1580 ls [.long (zJ (dgst M tl sz (sp_bits M)))]) rfl ?_
  refine lv_aload_n hx hb dL_law_1580 rfl (lv_at hl 2 rfl) ?_
  refine z_callV (C := RX9) (q0 := 0) (ci := 7) (As := []) (rest := [.long (zJ (dgst M tl sz (sp_bits M)))]) (x8W u a r q ++ (svW ct r b2 nx sz S ++ (sobjW a ++ (gridW ct a M ++ (benchW ct a M ++ (logW ct a M ++ (txtW ct q TX tl pl ft wd n1 n2 ++ (jrW ct o0 1 O)))))))) ([] : va_W) hx hb hml hown (fun w h => hts w (inL_197 w h)) hl hE hS hA (zr0 (x8W u a r q ++ (svW ct r b2 nx sz S ++ (sobjW a ++ (gridW ct a M ++ (benchW ct a M ++ (logW ct a M ++ (txtW ct q TX tl pl ft wd n1 n2 ++ (jrW ct o0 1 O)))))))) hP) (zr0D (x8W u a r q ++ (svW ct r b2 nx sz S ++ (sobjW a ++ (gridW ct a M ++ (benchW ct a M ++ (logW ct a M ++ (txtW ct q TX tl pl ft wd n1 n2 ++ (jrW ct o0 1 O)))))))) hD) (c_X9_digest l D ct ad mb M SP SV TX NB sz tl cd plm cm h (by assumption) (by assumption) (by omega)) gdL_197 rfl rfl k_X9_digest ⟨Nat.le_of_ble_eq_true rfl, Nat.le_of_ble_eq_true rfl⟩ rfl rfl rfl rfl (Nat.le_of_ble_eq_true rfl) hc0 dL_law_1581 rfl (fun v w1 H locs hpost hP hD hS => ?_)
  obtain ⟨rfl, rfl⟩ := hpost
  have hP := zr0' hP
  have hD := zr0D' hD
  have hP : va_P D vwCl (x8W u a r q ++ (svW ct r b2 nx sz S ++ (sobjW a ++ (gridW ct a M ++ (benchW ct a M ++ (logW ct a M ++ (txtW ct q TX tl pl ft wd n1 n2 ++ (jrW ct o0 1 O ++ (moW mb sz tl 0 plm cm (dgst M tl sz (sp_bits M)) ++ (jrW ct (mb 1) 94 M ++ (jrW ct (mb 2) 94 SP ++ (jrW ct (mb 3) 376 SV ++ (irW ct (mb 4) 150 TX ++ (irW ct (mb 5) 2 NB)))))))))))))) H := hP
  have hD : va_D (fun q : Nat => s.heap.size ≤ q) (x8W u a r q ++ (svW ct r b2 nx sz S ++ (sobjW a ++ (gridW ct a M ++ (benchW ct a M ++ (logW ct a M ++ (txtW ct q TX tl pl ft wd n1 n2 ++ (jrW ct o0 1 O ++ (moW mb sz tl 0 plm cm (dgst M tl sz (sp_bits M)) ++ (jrW ct (mb 1) 94 M ++ (jrW ct (mb 2) 94 SP ++ (jrW ct (mb 3) 376 SV ++ (irW ct (mb 4) 150 TX ++ (irW ct (mb 5) 2 NB)))))))))))))) := hD
  refine W.eq (g2 := F0 m 1584 ls [.long (zJ (dgst M tl sz (sp_bits M))), .long (zJ (dgst M tl sz (sp_bits M)))]) rfl ?_
  refine z_lcmp_eqS (tgt := 1590) hx hb dL_law_1584 dL_law_1585 (by decide) ?_
  refine W.widen (k := cells + 1) (n := slots + 6) (Nat.le_add_right _ _) (Nat.le_add_right _ _) ?_
  exact ih _ _ _ ⟨nx, sz, S, M, TX, tl, pl, ft, n1, n2, wd, O, SP, SV, NB, 0, plm, cm, (dgst M tl sz (sp_bits M)), hR, hP, hD, hS, lv_sub hl [0, 1, 2, 3, 4] rfl⟩
