theorem sp_rangeB {M : Int → Int} {lo hi : Int} (hB : bInv M) : -2147483648 ≤ sp_range M lo hi ∧ sp_range M lo hi ≤ 2147483647 := by
  have q := sp_mxB (lo := lo) hB ((hi - lo) / 10).toNat
  unfold sp_range
  omega
theorem absB {x B : Int} (h : -B ≤ x ∧ x ≤ B) : 0 ≤ sp_abs x ∧ sp_abs x ≤ B := by
  unfold sp_abs
  split <;> omega
theorem updS_back {S : Nat → Int → Int} {M : Int → Int} {nx : Int} (h : 0 ≤ nx ∧ nx ≤ 3) : updS S nx M (((nx + 1) % 4 + 3) % 4).toNat = M := by
  unfold updS
  exact if_pos (by omega)
theorem k_L_low : yL_low.cls ≠ "java/lang/invoke/MethodHandle" ∧ yL_low.cls ≠ "java/lang/invoke/VarHandle" ∧ (parseMethodDescriptor yL_low.desc).map (fun d => d.parameters.length) = some 2 := by decide +kernel
theorem k_L_size : yL_size.cls ≠ "java/lang/invoke/MethodHandle" ∧ yL_size.cls ≠ "java/lang/invoke/VarHandle" ∧ (parseMethodDescriptor yL_size.desc).map (fun d => d.parameters.length) = some 1 := by decide +kernel
theorem k_L_undo : yL_undo.cls ≠ "java/lang/invoke/MethodHandle" ∧ yL_undo.cls ≠ "java/lang/invoke/VarHandle" ∧ (parseMethodDescriptor yL_undo.desc).map (fun d => d.parameters.length) = some 1 := by decide +kernel
set_option maxHeartbeats 4000000 in
set_option maxRecDepth 100000 in
theorem g_L_thoughts_299 (l : Launch) (D : va_G) (ct ad : Nat → Nat) (u : Nat) (a r q : Nat → Nat) (b : Nat → Nat → Nat) (nx sz : Int) (S : Nat → Int → Int) (M TX : Int → Int) (tl pl ft n1 n2 : Int) (wd : Value) (x : Int)  (hL : LInv M) (ht : tInv TX tl) (hn : 0 ≤ nx ∧ nx ≤ 3) (hsz : 0 ≤ sz ∧ sz ≤ 4) (hx9 : -2147483648 ≤ x ∧ x ≤ 2147483647) (h9 : M 9 ≤ 99000)  : ZG l yL_thoughts cL_thoughts wsL_thoughts ({ frames := 7, cells := 0, slots := 0, locals := 172 } : Room) 21 (some .boolean) D ct ad [.ref u, .int (zI x)] (fun v w => ∃ (nx2 : Int) (sz2 : Int) (S2 : Nat → Int → Int), ((0 ≤ nx2 ∧ nx2 ≤ 3) ∧ (0 ≤ sz2 ∧ sz2 ≤ 4)) ∧ v = (some (.int (zI 1))) ∧ w = x8W u a r q ++ (svW ct r b nx2 sz2 S2 ++ (sobjW a ++ (gridW ct a M ++ (benchW ct a M ++ (logW ct a M ++ (txtW ct q TX tl pl ft wd n1 n2))))))) 0 0 299 (x8W u a r q ++ (svW ct r b nx sz S ++ (sobjW a ++ (gridW ct a M ++ (benchW ct a M ++ (logW ct a M ++ (txtW ct q TX tl pl ft wd n1 n2))))))) [(0, .ref u)] [] := by
  intro p e s m below meth c A H locs ls hx hb hr hts hown hlocks hml hE hA hP hD hS hl
  have hK := hE.1
  have hf_0 := hts (.constant RL 169 (1000000)) (by decide +kernel)
  have hl : lv_has ls 21 [(0, .ref u)] := hl
  have hs := hL.1
  have hI := hs.1
  have hB := hs.2.1
  have ha := hs.2.2
  have t1 := ht.1
  have i4 := hI.2.1
  have b0 := sp_balB hI (M 4).toNat (by omega)
  have b1 : sp_bal M = sp_balN M (M 4).toNat := rfl
  refine z_iconst hx hb dL_thoughts_299 ?_
  refine lv_istore (lv' := [(16, .int (zI 0)), (0, .ref u)]) hx hb dL_thoughts_300 hl (by decide) rfl (fun ls hl => ?_)
  refine z_loop (σ := Int × Int × Int × (Nat → Int → Int)) (fun q9 => (M 4 - q9.1).toNat) (fun q9 => (0 ≤ q9.1 ∧ q9.1 ≤ M 4) ∧ (0 ≤ q9.2.1 ∧ q9.2.1 ≤ 3) ∧ (0 ≤ q9.2.2.1 ∧ q9.2.2.1 ≤ 4)) (fun q9 => x8W u a r q ++ (svW ct r b q9.2.1 q9.2.2.1 q9.2.2.2 ++ (sobjW a ++ (gridW ct a M ++ (benchW ct a M ++ (logW ct a M ++ (txtW ct q TX tl pl ft wd n1 n2))))))) (fun q9 => [(0, .ref u), (16, .int (zI q9.1))]) (fun q9 => []) (0, nx, sz, S) ⟨(show 0 ≤ 0 ∧ 0 ≤ M 4 from (by omega)), (show 0 ≤ nx ∧ nx ≤ 3 from (by omega)), (show 0 ≤ sz ∧ sz ≤ 4 from (by omega))⟩ hP hD hS (lv_sub hl [1, 0] rfl) rfl ?_
  rintro ⟨i, nv, sv_, Sv⟩ hI_302 ih_302 H locs ls hP hD hS hl
  obtain ⟨hi, hnv, hsv⟩ := hI_302
  have hi : 0 ≤ i ∧ i ≤ M 4 := hi
  have hnv : 0 ≤ nv ∧ nv ≤ 3 := hnv
  have hsv : 0 ≤ sv_ ∧ sv_ ≤ 4 := hsv
  have hP : va_P D vwCl (x8W u a r q ++ (svW ct r b nv sv_ Sv ++ (sobjW a ++ (gridW ct a M ++ (benchW ct a M ++ (logW ct a M ++ (txtW ct q TX tl pl ft wd n1 n2))))))) H := hP
  have hD : va_D A (x8W u a r q ++ (svW ct r b nv sv_ Sv ++ (sobjW a ++ (gridW ct a M ++ (benchW ct a M ++ (logW ct a M ++ (txtW ct q TX tl pl ft wd n1 n2))))))) := hD
  have hl : lv_has ls 21 [(0, .ref u), (16, .int (zI i))] := hl
  refine lv_iload hx hb dL_thoughts_302 (lv_at hl 1 rfl) ?_
  refine lv_aload_n hx hb dL_thoughts_304 rfl (lv_at hl 0 rfl) ?_
  refine z_iconst hx hb dL_thoughts_305 ?_
  refine z_callSW (As := [.ref u, .int (zI 1)]) (rest := [.int (zI i)]) ([] : va_W) ([] : va_W) hx hb hml hown hts hl hE hS hA (zr0 ([] : va_W) hP) (zr0D ([] : va_W) hD) (c_L_whole_ok l D ct ad u a r q b nv sv_ Sv M TX tl pl ft n1 n2 wd 1 (by assumption) (by omega) (by omega)) gL_thoughts_L_whole rfl k_L_whole ⟨Nat.le_of_ble_eq_true rfl, Nat.le_of_ble_eq_true rfl⟩ rfl (Nat.le_of_ble_eq_true rfl) ⟨Nat.le_of_ble_eq_true rfl, Nat.le_of_ble_eq_true rfl⟩ dL_thoughts_306 rfl (fun v w1 H locs hpost hP hD hS => ?_)
  obtain ⟨rfl, rfl⟩ := hpost
  have hP := zr0' hP
  have hD := zr0D' hD
  have hP : va_P D vwCl (x8W u a r q ++ (svW ct r b nv sv_ Sv ++ (sobjW a ++ (gridW ct a M ++ (benchW ct a M ++ (logW ct a M ++ (txtW ct q TX tl pl ft wd n1 n2))))))) H := hP
  have hD : va_D A (x8W u a r q ++ (svW ct r b nv sv_ Sv ++ (sobjW a ++ (gridW ct a M ++ (benchW ct a M ++ (logW ct a M ++ (txtW ct q TX tl pl ft wd n1 n2))))))) := hD
  refine W.eq (g2 := F0 m 309 ls [.int (zI (sp_wh M tl 1)), .int (zI i)]) rfl ?_
  refine z_canI (show sp_wh M tl 1 = M 4 from rfl) ?_
  refine z_icmp_ge (tgt := 415) hx hb dL_thoughts_309 (by decide) (by omega) (by omega) (fun hc_309 => ?_) (fun hc_309 => ?_)
  · have hc_309 := hc_309
    refine z_iconst hx hb dL_thoughts_415 ?_
    exact z_zret hx hb hr (by first | rfl | exact zB_nar) hlocks hP hD hS ⟨Nat.le_of_ble_eq_true rfl, Nat.le_of_ble_eq_true rfl⟩ dL_thoughts_416 (⟨nv, sv_, Sv, ⟨by omega, by omega⟩, rfl, rfl⟩)
  · have hc_309 := hc_309
    have mI := match_is hI (r := i) (by omega)
    have mB := match_bal hI (r := i) (by omega)
    have hs4 : sInv (up M (24 + 3 * i) (sp_match M i)) := sInv_len hs ((if_pos (by omega)).trans (if_pos (by omega)))
    have i5 := hs4.1.2.1
    have b2 := sp_balB hs4.1 ((up M (24 + 3 * i) (sp_match M i)) 4).toNat (by omega)
    have b3 : sp_bal (up M (24 + 3 * i) (sp_match M i)) = sp_balN (up M (24 + 3 * i) (sp_match M i)) ((up M (24 + 3 * i) (sp_match M i)) 4).toNat := rfl
    have q9 := hI.2.2.2.1 i (by omega) (by omega)
    have a1 := absB (x := sp_bal M) (B := 4500000000) (by omega)
    have a2 := absB (x := sp_bal (up M (24 + 3 * i) (sp_match M i))) (B := 4500000000) (by omega)
    refine lv_aload_n hx hb dL_thoughts_312 rfl (lv_at hl 0 rfl) ?_
    refine lv_iload hx hb dL_thoughts_313 (lv_at hl 1 rfl) ?_
    refine z_callSW (As := [.ref u, .int (zI i)]) (rest := []) ([] : va_W) ([] : va_W) hx hb hml hown hts hl hE hS hA (zr0 ([] : va_W) hP) (zr0D ([] : va_W) hD) (c_L_matchLength_ok l D ct ad u a r q b nv sv_ Sv M TX tl pl ft n1 n2 wd i (by assumption) (by omega) (by omega)) gL_thoughts_L_matchLength rfl k_L_matchLength ⟨Nat.le_of_ble_eq_true rfl, Nat.le_of_ble_eq_true rfl⟩ rfl (Nat.le_of_ble_eq_true rfl) ⟨Nat.le_of_ble_eq_true rfl, Nat.le_of_ble_eq_true rfl⟩ dL_thoughts_315 rfl (fun v w1 H locs hpost hP hD hS => ?_)
    obtain ⟨rfl, rfl⟩ := hpost
    have hP := zr0' hP
    have hD := zr0D' hD
    have hP : va_P D vwCl (x8W u a r q ++ (svW ct r b nv sv_ Sv ++ (sobjW a ++ (gridW ct a M ++ (benchW ct a M ++ (logW ct a M ++ (txtW ct q TX tl pl ft wd n1 n2))))))) H := hP
    have hD : va_D A (x8W u a r q ++ (svW ct r b nv sv_ Sv ++ (sobjW a ++ (gridW ct a M ++ (benchW ct a M ++ (logW ct a M ++ (txtW ct q TX tl pl ft wd n1 n2))))))) := hD
    refine W.eq (g2 := F0 m 318 ls [.int (zI (sp_match M i))]) rfl ?_
    refine lv_istore (lv' := [(17, .int (zI (sp_match M i))), (0, .ref u), (16, .int (zI i))]) hx hb dL_thoughts_318 hl (by decide) rfl (fun ls hl => ?_)
    refine lv_aload_n hx hb dL_thoughts_320 rfl (lv_at hl 1 rfl) ?_
    refine lv_iload hx hb dL_thoughts_321 (lv_at hl 2 rfl) ?_
    refine z_iconst hx hb dL_thoughts_323 ?_
    refine z_callSW (As := [.ref u, .int (zI i), .int (zI 2)]) (rest := []) ([] : va_W) ([] : va_W) hx hb hml hown hts hl hE hS hA (zr0 ([] : va_W) hP) (zr0D ([] : va_W) hD) (c_L_rod_ok l D ct ad u a r q b nv sv_ Sv M TX tl pl ft n1 n2 wd i 2 (by assumption) (by omega) (by omega) (by omega)) gL_thoughts_L_rod rfl k_L_rod ⟨Nat.le_of_ble_eq_true rfl, Nat.le_of_ble_eq_true rfl⟩ rfl (Nat.le_of_ble_eq_true rfl) ⟨Nat.le_of_ble_eq_true rfl, Nat.le_of_ble_eq_true rfl⟩ dL_thoughts_324 rfl (fun v w1 H locs hpost hP hD hS => ?_)
    obtain ⟨rfl, rfl⟩ := hpost
    have hP := zr0' hP
    have hD := zr0D' hD
    have hP : va_P D vwCl (x8W u a r q ++ (svW ct r b nv sv_ Sv ++ (sobjW a ++ (gridW ct a M ++ (benchW ct a M ++ (logW ct a M ++ (txtW ct q TX tl pl ft wd n1 n2))))))) H := hP
    have hD : va_D A (x8W u a r q ++ (svW ct r b nv sv_ Sv ++ (sobjW a ++ (gridW ct a M ++ (benchW ct a M ++ (logW ct a M ++ (txtW ct q TX tl pl ft wd n1 n2))))))) := hD
    refine W.eq (g2 := F0 m 327 ls [.int (zI (sp_rodv M i 2 (M 6)))]) rfl ?_
    refine z_canI (show sp_rodv M i 2 (M 6) = M (24 + 3 * i) from rfl) ?_
    refine lv_istore (lv' := [(18, .int (zI (M (24 + 3 * i)))), (17, .int (zI (sp_match M i))), (0, .ref u), (16, .int (zI i))]) hx hb dL_thoughts_327 hl (by decide) rfl (fun ls hl => ?_)
    refine lv_aload_n hx hb dL_thoughts_329 rfl (lv_at hl 2 rfl) ?_
    refine z_callV (C := RX8) (q0 := 0) (ci := 6) (As := []) (rest := []) ([] : va_W) ([] : va_W) hx hb hml hown hts hl hE hS hA (zr0 ([] : va_W) hP) (zr0D ([] : va_W) hD) (c_X8_balance l D ct ad u a r q b nv sv_ Sv M TX tl pl ft n1 n2 wd (by assumption)) gL_thoughts_X8_balance rfl rfl k_X8_balance ⟨Nat.le_of_ble_eq_true rfl, Nat.le_of_ble_eq_true rfl⟩ rfl rfl rfl rfl (Nat.le_of_ble_eq_true rfl) ⟨Nat.le_of_ble_eq_true rfl, Nat.le_of_ble_eq_true rfl⟩ dL_thoughts_330 rfl (fun v w1 H locs hpost hP hD hS => ?_)
    obtain ⟨rfl, rfl⟩ := hpost
    have hP := zr0' hP
    have hD := zr0D' hD
    have hP : va_P D vwCl (x8W u a r q ++ (svW ct r b nv sv_ Sv ++ (sobjW a ++ (gridW ct a M ++ (benchW ct a M ++ (logW ct a M ++ (txtW ct q TX tl pl ft wd n1 n2))))))) H := hP
    have hD : va_D A (x8W u a r q ++ (svW ct r b nv sv_ Sv ++ (sobjW a ++ (gridW ct a M ++ (benchW ct a M ++ (logW ct a M ++ (txtW ct q TX tl pl ft wd n1 n2))))))) := hD
    refine W.eq (g2 := F0 m 333 ls [.long (zJ (sp_bal M))]) rfl ?_
    refine z_callS (As := [.long (zJ (sp_bal M))]) (rest := []) ([] : va_W) (x8W u a r q ++ (svW ct r b nv sv_ Sv ++ (sobjW a ++ (gridW ct a M ++ (benchW ct a M ++ (logW ct a M ++ (txtW ct q TX tl pl ft wd n1 n2))))))) hx hb hml hown hts hl hE hS hA hP hD (c_L_size l D ct ad (sp_bal M) (by omega)) gL_thoughts_L_size rfl k_L_size ⟨Nat.le_of_ble_eq_true rfl, Nat.le_of_ble_eq_true rfl⟩ rfl (Nat.le_of_ble_eq_true rfl) ⟨Nat.le_of_ble_eq_true rfl, Nat.le_of_ble_eq_true rfl⟩ dL_thoughts_333 rfl (fun v w1 H locs hpost hP hD hS => ?_)
    obtain ⟨rfl, rfl⟩ := hpost
    have hP : va_P D vwCl (x8W u a r q ++ (svW ct r b nv sv_ Sv ++ (sobjW a ++ (gridW ct a M ++ (benchW ct a M ++ (logW ct a M ++ (txtW ct q TX tl pl ft wd n1 n2))))))) H := hP
    have hD : va_D A (x8W u a r q ++ (svW ct r b nv sv_ Sv ++ (sobjW a ++ (gridW ct a M ++ (benchW ct a M ++ (logW ct a M ++ (txtW ct q TX tl pl ft wd n1 n2))))))) := hD
    refine W.eq (g2 := F0 m 336 ls [.long (zJ (sp_abs (sp_bal M)))]) rfl ?_
    refine lv_lstore (lv' := [(19, .long (zJ (sp_abs (sp_bal M)))), (18, .int (zI (M (24 + 3 * i)))), (17, .int (zI (sp_match M i))), (0, .ref u), (16, .int (zI i))]) hx hb dL_thoughts_336 hl (by decide) rfl (fun ls hl => ?_)
    refine lv_iload hx hb dL_thoughts_338 (lv_at hl 2 rfl) ?_
    refine z_iconst hx hb dL_thoughts_340 ?_
    refine z_icmp_lt (tgt := 407) hx hb dL_thoughts_341 (by decide) (by omega) (by omega) (fun hc_341 => ?_) (fun hc_341 => ?_)
    · have hc_341 := hc_341
      omega
    have hc_341 := hc_341
    refine lv_iload hx hb dL_thoughts_344 (lv_at hl 2 rfl) ?_
    refine z_ldc hx hb 1000000 hown hf_0 (by decide) dL_thoughts_346 ?_
    refine z_icmp_gt (tgt := 407) hx hb dL_thoughts_348 (by decide) (by omega) (by omega) (fun hc_348 => ?_) (fun hc_348 => ?_)
    · have hc_348 := hc_348
      omega
    have hc_348 := hc_348
    refine lv_aload_n hx hb dL_thoughts_351 rfl (lv_at hl 3 rfl) ?_
    refine lv_iload hx hb dL_thoughts_352 (lv_at hl 4 rfl) ?_
    refine lv_iload hx hb dL_thoughts_354 (lv_at hl 2 rfl) ?_
    refine z_callSW (As := [.ref u, .int (zI i), .int (zI (sp_match M i))]) (rest := []) ([] : va_W) ([] : va_W) hx hb hml hown hts hl hE hS hA (zr0 ([] : va_W) hP) (zr0D ([] : va_W) hD) (c_L_setLength_ok l D ct ad u a r q b nv sv_ Sv M TX tl pl ft n1 n2 wd i (sp_match M i) (by assumption) (by omega) (by omega) (by omega) (by omega) ((if_pos (by omega)).trans (if_pos (by omega)))) gL_thoughts_L_setLength rfl k_L_setLength ⟨Nat.le_of_ble_eq_true rfl, Nat.le_of_ble_eq_true rfl⟩ rfl (Nat.le_of_ble_eq_true rfl) ⟨Nat.le_of_ble_eq_true rfl, Nat.le_of_ble_eq_true rfl⟩ dL_thoughts_356 rfl (fun v w1 H locs hpost hP hD hS => ?_)
    obtain ⟨rfl, rfl⟩ := hpost
    have hP := zr0' hP
    have hD := zr0D' hD
    have hP : va_P D vwCl (x8W u a r q ++ (svW ct r b ((nv + 1) % 4) (min (sv_ + 1) 4) (updS Sv nv M) ++ (sobjW a ++ (gridW ct a (up M (24 + 3 * i) (sp_match M i)) ++ (benchW ct a (up M (24 + 3 * i) (sp_match M i)) ++ (logW ct a (up M (24 + 3 * i) (sp_match M i)) ++ (txtW ct q TX tl pl ft wd n1 n2))))))) H := hP
    have hD : va_D A (x8W u a r q ++ (svW ct r b ((nv + 1) % 4) (min (sv_ + 1) 4) (updS Sv nv M) ++ (sobjW a ++ (gridW ct a (up M (24 + 3 * i) (sp_match M i)) ++ (benchW ct a (up M (24 + 3 * i) (sp_match M i)) ++ (logW ct a (up M (24 + 3 * i) (sp_match M i)) ++ (txtW ct q TX tl pl ft wd n1 n2))))))) := hD
    refine W.eq (g2 := F0 m 359 ls [.int (zI (M (24 + 3 * i)))]) rfl ?_
    refine lv_iload hx hb dL_thoughts_359 (lv_at hl 1 rfl) ?_
    refine z_icmp_ne (tgt := 407) hx hb dL_thoughts_361 (by decide) (by omega) (by omega) (fun hc_361 => ?_) (fun hc_361 => ?_)
    · have hc_361 := hc_361
      omega
    have hc_361 := hc_361
    refine lv_aload_n hx hb dL_thoughts_364 rfl (lv_at hl 3 rfl) ?_
    refine z_callV (C := RX8) (q0 := 0) (ci := 6) (As := []) (rest := []) ([] : va_W) ([] : va_W) hx hb hml hown hts hl hE hS hA (zr0 ([] : va_W) hP) (zr0D ([] : va_W) hD) (c_X8_balance l D ct ad u a r q b ((nv + 1) % 4) (min (sv_ + 1) 4) (updS Sv nv M) (up M (24 + 3 * i) (sp_match M i)) TX tl pl ft n1 n2 wd (by assumption)) gL_thoughts_X8_balance rfl rfl k_X8_balance ⟨Nat.le_of_ble_eq_true rfl, Nat.le_of_ble_eq_true rfl⟩ rfl rfl rfl rfl (Nat.le_of_ble_eq_true rfl) ⟨Nat.le_of_ble_eq_true rfl, Nat.le_of_ble_eq_true rfl⟩ dL_thoughts_365 rfl (fun v w1 H locs hpost hP hD hS => ?_)
    obtain ⟨rfl, rfl⟩ := hpost
    have hP := zr0' hP
    have hD := zr0D' hD
    have hP : va_P D vwCl (x8W u a r q ++ (svW ct r b ((nv + 1) % 4) (min (sv_ + 1) 4) (updS Sv nv M) ++ (sobjW a ++ (gridW ct a (up M (24 + 3 * i) (sp_match M i)) ++ (benchW ct a (up M (24 + 3 * i) (sp_match M i)) ++ (logW ct a (up M (24 + 3 * i) (sp_match M i)) ++ (txtW ct q TX tl pl ft wd n1 n2))))))) H := hP
    have hD : va_D A (x8W u a r q ++ (svW ct r b ((nv + 1) % 4) (min (sv_ + 1) 4) (updS Sv nv M) ++ (sobjW a ++ (gridW ct a (up M (24 + 3 * i) (sp_match M i)) ++ (benchW ct a (up M (24 + 3 * i) (sp_match M i)) ++ (logW ct a (up M (24 + 3 * i) (sp_match M i)) ++ (txtW ct q TX tl pl ft wd n1 n2))))))) := hD
    refine W.eq (g2 := F0 m 368 ls [.long (zJ (sp_bal (up M (24 + 3 * i) (sp_match M i))))]) rfl ?_
    refine z_callS (As := [.long (zJ (sp_bal (up M (24 + 3 * i) (sp_match M i))))]) (rest := []) ([] : va_W) (x8W u a r q ++ (svW ct r b ((nv + 1) % 4) (min (sv_ + 1) 4) (updS Sv nv M) ++ (sobjW a ++ (gridW ct a (up M (24 + 3 * i) (sp_match M i)) ++ (benchW ct a (up M (24 + 3 * i) (sp_match M i)) ++ (logW ct a (up M (24 + 3 * i) (sp_match M i)) ++ (txtW ct q TX tl pl ft wd n1 n2))))))) hx hb hml hown hts hl hE hS hA hP hD (c_L_size l D ct ad (sp_bal (up M (24 + 3 * i) (sp_match M i))) (by omega)) gL_thoughts_L_size rfl k_L_size ⟨Nat.le_of_ble_eq_true rfl, Nat.le_of_ble_eq_true rfl⟩ rfl (Nat.le_of_ble_eq_true rfl) ⟨Nat.le_of_ble_eq_true rfl, Nat.le_of_ble_eq_true rfl⟩ dL_thoughts_368 rfl (fun v w1 H locs hpost hP hD hS => ?_)
    obtain ⟨rfl, rfl⟩ := hpost
    have hP : va_P D vwCl (x8W u a r q ++ (svW ct r b ((nv + 1) % 4) (min (sv_ + 1) 4) (updS Sv nv M) ++ (sobjW a ++ (gridW ct a (up M (24 + 3 * i) (sp_match M i)) ++ (benchW ct a (up M (24 + 3 * i) (sp_match M i)) ++ (logW ct a (up M (24 + 3 * i) (sp_match M i)) ++ (txtW ct q TX tl pl ft wd n1 n2))))))) H := hP
    have hD : va_D A (x8W u a r q ++ (svW ct r b ((nv + 1) % 4) (min (sv_ + 1) 4) (updS Sv nv M) ++ (sobjW a ++ (gridW ct a (up M (24 + 3 * i) (sp_match M i)) ++ (benchW ct a (up M (24 + 3 * i) (sp_match M i)) ++ (logW ct a (up M (24 + 3 * i) (sp_match M i)) ++ (txtW ct q TX tl pl ft wd n1 n2))))))) := hD
    refine W.eq (g2 := F0 m 371 ls [.long (zJ (sp_abs (sp_bal (up M (24 + 3 * i) (sp_match M i)))))]) rfl ?_
    refine lv_lload hx hb dL_thoughts_371 (lv_at hl 0 rfl) ?_
    refine z_lcmp_gt (tgt := 407) hx hb dL_thoughts_373 dL_thoughts_374 (by decide) (by omega) (by omega) (fun hc_373 => ?_) (fun hc_373 => ?_)
    · have hc_373 := hc_373
      omega
    have hc_373 := hc_373
    refine lv_aload_n hx hb dL_thoughts_377 rfl (lv_at hl 3 rfl) ?_
    refine lv_iload hx hb dL_thoughts_378 (lv_at hl 4 rfl) ?_
    refine z_callSW (As := [.ref u, .int (zI i)]) (rest := []) ([] : va_W) ([] : va_W) hx hb hml hown hts hl hE hS hA (zr0 ([] : va_W) hP) (zr0D ([] : va_W) hD) (c_L_matchLength_ok l D ct ad u a r q b ((nv + 1) % 4) (min (sv_ + 1) 4) (updS Sv nv M) (up M (24 + 3 * i) (sp_match M i)) TX tl pl ft n1 n2 wd i (by assumption) (by omega) (by rw [up_n (show (4 : Int) ≠ 24 + 3 * i by omega)]; omega)) gL_thoughts_L_matchLength rfl k_L_matchLength ⟨Nat.le_of_ble_eq_true rfl, Nat.le_of_ble_eq_true rfl⟩ rfl (Nat.le_of_ble_eq_true rfl) ⟨Nat.le_of_ble_eq_true rfl, Nat.le_of_ble_eq_true rfl⟩ dL_thoughts_380 rfl (fun v w1 H locs hpost hP hD hS => ?_)
    obtain ⟨rfl, rfl⟩ := hpost
    have hP := zr0' hP
    have hD := zr0D' hD
    have hP : va_P D vwCl (x8W u a r q ++ (svW ct r b ((nv + 1) % 4) (min (sv_ + 1) 4) (updS Sv nv M) ++ (sobjW a ++ (gridW ct a (up M (24 + 3 * i) (sp_match M i)) ++ (benchW ct a (up M (24 + 3 * i) (sp_match M i)) ++ (logW ct a (up M (24 + 3 * i) (sp_match M i)) ++ (txtW ct q TX tl pl ft wd n1 n2))))))) H := hP
    have hD : va_D A (x8W u a r q ++ (svW ct r b ((nv + 1) % 4) (min (sv_ + 1) 4) (updS Sv nv M) ++ (sobjW a ++ (gridW ct a (up M (24 + 3 * i) (sp_match M i)) ++ (benchW ct a (up M (24 + 3 * i) (sp_match M i)) ++ (logW ct a (up M (24 + 3 * i) (sp_match M i)) ++ (txtW ct q TX tl pl ft wd n1 n2))))))) := hD
    refine W.eq (g2 := F0 m 383 ls [.int (zI (sp_match (up M (24 + 3 * i) (sp_match M i)) i))]) rfl ?_
    refine z_canI (show sp_match (up M (24 + 3 * i) (sp_match M i)) i = sp_match M i from (match_len hI (by omega))) ?_
    refine lv_iload hx hb dL_thoughts_383 (lv_at hl 2 rfl) ?_
    refine z_icmp_ne (tgt := 407) hx hb dL_thoughts_385 (by decide) (by omega) (by omega) (fun hc_385 => ?_) (fun hc_385 => ?_)
    · have hc_385 := hc_385
      omega
    have hc_385 := hc_385
    refine lv_aload_n hx hb dL_thoughts_388 rfl (lv_at hl 3 rfl) ?_
    refine z_callSW (As := [.ref u]) (rest := []) ([] : va_W) ([] : va_W) hx hb hml hown hts hl hE hS hA (zr0 ([] : va_W) hP) (zr0D ([] : va_W) hD) (c_L_undo_ok l D ct ad u a r q b ((nv + 1) % 4) (min (sv_ + 1) 4) (updS Sv nv M) (up M (24 + 3 * i) (sp_match M i)) TX tl pl ft n1 n2 wd (by assumption) (by omega) (by omega)) gL_thoughts_L_undo rfl k_L_undo ⟨Nat.le_of_ble_eq_true rfl, Nat.le_of_ble_eq_true rfl⟩ rfl (Nat.le_of_ble_eq_true rfl) ⟨Nat.le_of_ble_eq_true rfl, Nat.le_of_ble_eq_true rfl⟩ dL_thoughts_389 rfl (fun v w1 H locs hpost hP hD hS => ?_)
    obtain ⟨rfl, rfl⟩ := hpost
    have hP := zr0' hP
    have hD := zr0D' hD
    have hP : va_P D vwCl (x8W u a r q ++ (svW ct r b ((((nv + 1) % 4) + 3) % 4) ((min (sv_ + 1) 4) - 1) (updS Sv nv M) ++ (sobjW a ++ (gridW ct a ((updS Sv nv M) ((((nv + 1) % 4) + 3) % 4).toNat) ++ (benchW ct a ((updS Sv nv M) ((((nv + 1) % 4) + 3) % 4).toNat) ++ (logW ct a ((updS Sv nv M) ((((nv + 1) % 4) + 3) % 4).toNat) ++ (txtW ct q TX tl pl ft wd n1 n2))))))) H := hP
    have hD : va_D A (x8W u a r q ++ (svW ct r b ((((nv + 1) % 4) + 3) % 4) ((min (sv_ + 1) 4) - 1) (updS Sv nv M) ++ (sobjW a ++ (gridW ct a ((updS Sv nv M) ((((nv + 1) % 4) + 3) % 4).toNat) ++ (benchW ct a ((updS Sv nv M) ((((nv + 1) % 4) + 3) % 4).toNat) ++ (logW ct a ((updS Sv nv M) ((((nv + 1) % 4) + 3) % 4).toNat) ++ (txtW ct q TX tl pl ft wd n1 n2))))))) := hD
    refine W.eq (g2 := F0 m 392 ls [.int (zI ((min (sv_ + 1) 4) - 1))]) rfl ?_
    have eW9 : ((updS Sv nv M) ((((nv + 1) % 4) + 3) % 4).toNat) = M := (updS_back (by omega))
    rw [eW9] at hP hD
    have hP : va_P D vwCl (x8W u a r q ++ (svW ct r b ((((nv + 1) % 4) + 3) % 4) ((min (sv_ + 1) 4) - 1) (updS Sv nv M) ++ (sobjW a ++ (gridW ct a M ++ (benchW ct a M ++ (logW ct a M ++ (txtW ct q TX tl pl ft wd n1 n2))))))) H := hP
    have hD : va_D A (x8W u a r q ++ (svW ct r b ((((nv + 1) % 4) + 3) % 4) ((min (sv_ + 1) 4) - 1) (updS Sv nv M) ++ (sobjW a ++ (gridW ct a M ++ (benchW ct a M ++ (logW ct a M ++ (txtW ct q TX tl pl ft wd n1 n2))))))) := hD
    refine z_if_lt (tgt := 407) hx hb dL_thoughts_392 (by decide) (by omega) (fun hc_392 => ?_) (fun hc_392 => ?_)
    · have hc_392 := hc_392
      omega
    have hc_392 := hc_392
    refine lv_aload_n hx hb dL_thoughts_395 rfl (lv_at hl 3 rfl) ?_
    refine lv_iload hx hb dL_thoughts_396 (lv_at hl 4 rfl) ?_
    refine z_iconst hx hb dL_thoughts_398 ?_
    refine z_callSW (As := [.ref u, .int (zI i), .int (zI 2)]) (rest := []) ([] : va_W) ([] : va_W) hx hb hml hown hts hl hE hS hA (zr0 ([] : va_W) hP) (zr0D ([] : va_W) hD) (c_L_rod_ok l D ct ad u a r q b ((((nv + 1) % 4) + 3) % 4) ((min (sv_ + 1) 4) - 1) (updS Sv nv M) M TX tl pl ft n1 n2 wd i 2 (by assumption) (by omega) (by omega) (by omega)) gL_thoughts_L_rod rfl k_L_rod ⟨Nat.le_of_ble_eq_true rfl, Nat.le_of_ble_eq_true rfl⟩ rfl (Nat.le_of_ble_eq_true rfl) ⟨Nat.le_of_ble_eq_true rfl, Nat.le_of_ble_eq_true rfl⟩ dL_thoughts_399 rfl (fun v w1 H locs hpost hP hD hS => ?_)
    obtain ⟨rfl, rfl⟩ := hpost
    have hP := zr0' hP
    have hD := zr0D' hD
    have hP : va_P D vwCl (x8W u a r q ++ (svW ct r b ((((nv + 1) % 4) + 3) % 4) ((min (sv_ + 1) 4) - 1) (updS Sv nv M) ++ (sobjW a ++ (gridW ct a M ++ (benchW ct a M ++ (logW ct a M ++ (txtW ct q TX tl pl ft wd n1 n2))))))) H := hP
    have hD : va_D A (x8W u a r q ++ (svW ct r b ((((nv + 1) % 4) + 3) % 4) ((min (sv_ + 1) 4) - 1) (updS Sv nv M) ++ (sobjW a ++ (gridW ct a M ++ (benchW ct a M ++ (logW ct a M ++ (txtW ct q TX tl pl ft wd n1 n2))))))) := hD
    refine W.eq (g2 := F0 m 402 ls [.int (zI (sp_rodv M i 2 (M 6)))]) rfl ?_
    refine z_canI (show sp_rodv M i 2 (M 6) = M (24 + 3 * i) from rfl) ?_
    refine lv_iload hx hb dL_thoughts_402 (lv_at hl 1 rfl) ?_
    refine z_icmp_eq (tgt := 409) hx hb dL_thoughts_404 (by decide) (by omega) (by omega) (fun hc_404 => ?_) (fun hc_404 => ?_)
    · have hc_404 := hc_404
      refine z_iinc (k := 4) (lv' := [(16, .int (zI (i + 1))), (19, .long (zJ (sp_abs (sp_bal M)))), (18, .int (zI (M (24 + 3 * i)))), (17, .int (zI (sp_match M i))), (0, .ref u)]) hx hb dL_thoughts_409 hl rfl (by decide) rfl (fun ls hl => ?_)
      refine lv_goto (tgt := 302) hx hb dL_thoughts_412 (by decide) ?_
      exact ih_302 (i + 1, ((((nv + 1) % 4) + 3) % 4), ((min (sv_ + 1) 4) - 1), (updS Sv nv M)) ⟨(show 0 ≤ (i + 1) ∧ (i + 1) ≤ M 4 from (by omega)), (show 0 ≤ ((((nv + 1) % 4) + 3) % 4) ∧ ((((nv + 1) % 4) + 3) % 4) ≤ 3 from (by omega)), (show 0 ≤ ((min (sv_ + 1) 4) - 1) ∧ ((min (sv_ + 1) 4) - 1) ≤ 4 from (by omega))⟩ (show (M 4 - (i + 1)).toNat < (M 4 - i).toNat from (by omega)) _ _ _ hP hD hS (lv_sub hl [4, 0] rfl)
    · have hc_404 := hc_404
      omega
set_option maxHeartbeats 4000000 in
set_option maxRecDepth 100000 in
theorem g_L_thoughts_245 (l : Launch) (D : va_G) (ct ad : Nat → Nat) (u : Nat) (a r q : Nat → Nat) (b : Nat → Nat → Nat) (nx sz : Int) (S : Nat → Int → Int) (M TX : Int → Int) (tl pl ft n1 n2 : Int) (wd : Value) (x : Int) (hrs : Int) (hL : LInv M) (ht : tInv TX tl) (hn : 0 ≤ nx ∧ nx ≤ 3) (hsz : 0 ≤ sz ∧ sz ≤ 4) (hx9 : -2147483648 ≤ x ∧ x ≤ 2147483647) (h9 : M 9 ≤ 99000) (hh9 : 0 ≤ hrs ∧ hrs < 100) : ZG l yL_thoughts cL_thoughts wsL_thoughts ({ frames := 7, cells := 0, slots := 0, locals := 172 } : Room) 21 (some .boolean) D ct ad [.ref u, .int (zI x)] (fun v w => ∃ (nx2 : Int) (sz2 : Int) (S2 : Nat → Int → Int), ((0 ≤ nx2 ∧ nx2 ≤ 3) ∧ (0 ≤ sz2 ∧ sz2 ≤ 4)) ∧ v = (some (.int (zI 1))) ∧ w = x8W u a r q ++ (svW ct r b nx2 sz2 S2 ++ (sobjW a ++ (gridW ct a M ++ (benchW ct a M ++ (logW ct a M ++ (txtW ct q TX tl pl ft wd n1 n2))))))) 0 0 245 (x8W u a r q ++ (svW ct r b nx sz S ++ (sobjW a ++ (gridW ct a M ++ (benchW ct a M ++ (logW ct a M ++ (txtW ct q TX tl pl ft wd n1 n2))))))) [(0, .ref u), (7, .int (zI hrs)), (8, .long (zJ (sp_cs M (min hrs (M 8)).toNat)))] [] := by
  intro p e s m below meth c A H locs ls hx hb hr hts hown hlocks hml hE hA hP hD hS hl
  have hK := hE.1
  have hf_0 := hts (.constant RL 17 (-2100000001)) (by decide +kernel)
  have hl : lv_has ls 21 [(0, .ref u), (7, .int (zI hrs)), (8, .long (zJ (sp_cs M (min hrs (M 8)).toNat)))] := hl
  have hs := hL.1
  have hI := hs.1
  have hB := hs.2.1
  have ha := hs.2.2
  have t1 := ht.1
  have j1 := hB.2.1
  have j2 := hB.2.2.1
  refine lv_aload_n hx hb dL_thoughts_245 rfl (lv_at hl 0 rfl) ?_
  refine z_callV (C := RX8) (q0 := 0) (ci := 6) (As := []) (rest := []) ([] : va_W) ([] : va_W) hx hb hml hown hts hl hE hS hA (zr0 ([] : va_W) hP) (zr0D ([] : va_W) hD) (c_X8_rates l D ct ad u a r q b nx sz S M TX tl pl ft n1 n2 wd (by assumption)) gL_thoughts_X8_rates rfl rfl k_X8_rates ⟨Nat.le_of_ble_eq_true rfl, Nat.le_of_ble_eq_true rfl⟩ rfl rfl rfl rfl (Nat.le_of_ble_eq_true rfl) ⟨Nat.le_of_ble_eq_true rfl, Nat.le_of_ble_eq_true rfl⟩ dL_thoughts_246 rfl (fun v w1 H locs hpost hP hD hS => ?_)
  obtain ⟨rfl, rfl⟩ := hpost
  have hP := zr0' hP
  have hD := zr0D' hD
  have hP : va_P D vwCl (x8W u a r q ++ (svW ct r b nx sz S ++ (sobjW a ++ (gridW ct a M ++ (benchW ct a M ++ (logW ct a M ++ (txtW ct q TX tl pl ft wd n1 n2))))))) H := hP
  have hD : va_D A (x8W u a r q ++ (svW ct r b nx sz S ++ (sobjW a ++ (gridW ct a M ++ (benchW ct a M ++ (logW ct a M ++ (txtW ct q TX tl pl ft wd n1 n2))))))) := hD
  refine W.eq (g2 := F0 m 249 ls [.long (zJ (M 12))]) rfl ?_
  refine lv_lstore (lv' := [(14, .long (zJ (M 12))), (0, .ref u), (7, .int (zI hrs)), (8, .long (zJ (sp_cs M (min hrs (M 8)).toNat)))]) hx hb dL_thoughts_249 hl (by decide) rfl (fun ls hl => ?_)
  refine lv_iload hx hb dL_thoughts_251 (lv_at hl 2 rfl) ?_
  refine z_if_le (tgt := 299) hx hb dL_thoughts_253 (by decide) (by omega) (fun hc_253 => ?_) (fun hc_253 => ?_)
  · have hc_253 := hc_253
    exact g_L_thoughts_299 l D ct ad u a r q b nx sz S M TX tl pl ft n1 n2 wd x (by assumption) (by assumption) (by omega) (by omega) (by omega) (by omega) p e s m below meth c A _ _ _ hx hb hr hts hown hlocks hml hE hA hP hD hS (lv_sub hl [1] rfl)
  · have hc_253 := hc_253
    refine lv_aload_n hx hb dL_thoughts_256 rfl (lv_at hl 1 rfl) ?_
    refine lv_iload hx hb dL_thoughts_257 (lv_at hl 2 rfl) ?_
    refine z_callSW (As := [.ref u, .int (zI hrs)]) (rest := []) ([] : va_W) ([] : va_W) hx hb hml hown hts hl hE hS hA (zr0 ([] : va_W) hP) (zr0D ([] : va_W) hD) (c_L_pass_ok l D ct ad u a r q b nx sz S M TX tl pl ft n1 n2 wd hrs (by assumption) (by omega) (by omega) (by omega) ((if_pos (by omega)).trans (if_pos (by omega)))) gL_thoughts_L_pass rfl k_L_pass ⟨Nat.le_of_ble_eq_true rfl, Nat.le_of_ble_eq_true rfl⟩ rfl (Nat.le_of_ble_eq_true rfl) ⟨Nat.le_of_ble_eq_true rfl, Nat.le_of_ble_eq_true rfl⟩ dL_thoughts_259 rfl (fun v w1 H locs hpost hP hD hS => ?_)
    obtain ⟨rfl, rfl⟩ := hpost
    have hP := zr0' hP
    have hD := zr0D' hD
    have hP : va_P D vwCl (x8W u a r q ++ (svW ct r b ((nx + 1) % 4) (min (sz + 1) 4) (updS S nx M) ++ (sobjW a ++ (gridW ct a (sp_pass M hrs.toNat) ++ (benchW ct a (sp_pass M hrs.toNat) ++ (logW ct a (sp_pass M hrs.toNat) ++ (txtW ct q TX tl pl ft wd n1 n2))))))) H := hP
    have hD : va_D A (x8W u a r q ++ (svW ct r b ((nx + 1) % 4) (min (sz + 1) 4) (updS S nx M) ++ (sobjW a ++ (gridW ct a (sp_pass M hrs.toNat) ++ (benchW ct a (sp_pass M hrs.toNat) ++ (logW ct a (sp_pass M hrs.toNat) ++ (txtW ct q TX tl pl ft wd n1 n2))))))) := hD
    refine W.eq (g2 := F0 m 262 ls [.int (zI (sp_err (sp_pass M hrs.toNat)))]) rfl ?_
    have eB9 : -1999999999 ≤ sp_err (sp_pass M hrs.toNat) ∧ sp_err (sp_pass M hrs.toNat) ≤ 2000000000 := by unfold sp_err; omega
    have hs3 : sInv (sp_pass M hrs.toNat) := sInv_pass hs ((if_pos (by omega)).trans (if_pos (by omega)))
    have kN := hs3.2.1.2.2.1
    have kA := hs3.2.2
    have pc9 := (pass_cs hI hB ha hrs.toNat (by omega)).2.2.2
    rw [show ((hrs.toNat : Nat) : Int) = hrs by omega] at pc9
    refine z_ldc hx hb (-2100000001) hown hf_0 (by decide) dL_thoughts_262 ?_
    refine z_icmp_eq (tgt := 297) hx hb dL_thoughts_264 (by decide) (by omega) (by omega) (fun hc_264 => ?_) (fun hc_264 => ?_)
    · have hc_264 := hc_264
      omega
    have hc_264 := hc_264
    refine lv_aload_n hx hb dL_thoughts_267 rfl (lv_at hl 1 rfl) ?_
    refine z_callV (C := RX8) (q0 := 0) (ci := 6) (As := []) (rest := []) ([] : va_W) ([] : va_W) hx hb hml hown hts hl hE hS hA (zr0 ([] : va_W) hP) (zr0D ([] : va_W) hD) (c_X8_rates l D ct ad u a r q b ((nx + 1) % 4) (min (sz + 1) 4) (updS S nx M) (sp_pass M hrs.toNat) TX tl pl ft n1 n2 wd (by assumption)) gL_thoughts_X8_rates rfl rfl k_X8_rates ⟨Nat.le_of_ble_eq_true rfl, Nat.le_of_ble_eq_true rfl⟩ rfl rfl rfl rfl (Nat.le_of_ble_eq_true rfl) ⟨Nat.le_of_ble_eq_true rfl, Nat.le_of_ble_eq_true rfl⟩ dL_thoughts_268 rfl (fun v w1 H locs hpost hP hD hS => ?_)
    obtain ⟨rfl, rfl⟩ := hpost
    have hP := zr0' hP
    have hD := zr0D' hD
    have hP : va_P D vwCl (x8W u a r q ++ (svW ct r b ((nx + 1) % 4) (min (sz + 1) 4) (updS S nx M) ++ (sobjW a ++ (gridW ct a (sp_pass M hrs.toNat) ++ (benchW ct a (sp_pass M hrs.toNat) ++ (logW ct a (sp_pass M hrs.toNat) ++ (txtW ct q TX tl pl ft wd n1 n2))))))) H := hP
    have hD : va_D A (x8W u a r q ++ (svW ct r b ((nx + 1) % 4) (min (sz + 1) 4) (updS S nx M) ++ (sobjW a ++ (gridW ct a (sp_pass M hrs.toNat) ++ (benchW ct a (sp_pass M hrs.toNat) ++ (logW ct a (sp_pass M hrs.toNat) ++ (txtW ct q TX tl pl ft wd n1 n2))))))) := hD
    refine W.eq (g2 := F0 m 271 ls [.long (zJ ((sp_pass M hrs.toNat) 12))]) rfl ?_
    refine lv_lload hx hb dL_thoughts_271 (lv_at hl 0 rfl) ?_
    refine lv_lload hx hb dL_thoughts_273 (lv_at hl 3 rfl) ?_
    refine z_ladd hx hb dL_thoughts_275 ?_
    refine z_lcmp_ne (tgt := 297) hx hb dL_thoughts_276 dL_thoughts_277 (by decide) (by omega) (by omega) (fun hc_276 => ?_) (fun hc_276 => ?_)
    · have hc_276 := hc_276
      omega
    have hc_276 := hc_276
    refine lv_aload_n hx hb dL_thoughts_280 rfl (lv_at hl 1 rfl) ?_
    refine z_callSW (As := [.ref u]) (rest := []) ([] : va_W) ([] : va_W) hx hb hml hown hts hl hE hS hA (zr0 ([] : va_W) hP) (zr0D ([] : va_W) hD) (c_L_undo_ok l D ct ad u a r q b ((nx + 1) % 4) (min (sz + 1) 4) (updS S nx M) (sp_pass M hrs.toNat) TX tl pl ft n1 n2 wd (by assumption) (by omega) (by omega)) gL_thoughts_L_undo rfl k_L_undo ⟨Nat.le_of_ble_eq_true rfl, Nat.le_of_ble_eq_true rfl⟩ rfl (Nat.le_of_ble_eq_true rfl) ⟨Nat.le_of_ble_eq_true rfl, Nat.le_of_ble_eq_true rfl⟩ dL_thoughts_281 rfl (fun v w1 H locs hpost hP hD hS => ?_)
    obtain ⟨rfl, rfl⟩ := hpost
    have hP := zr0' hP
    have hD := zr0D' hD
    have hP : va_P D vwCl (x8W u a r q ++ (svW ct r b ((((nx + 1) % 4) + 3) % 4) ((min (sz + 1) 4) - 1) (updS S nx M) ++ (sobjW a ++ (gridW ct a ((updS S nx M) ((((nx + 1) % 4) + 3) % 4).toNat) ++ (benchW ct a ((updS S nx M) ((((nx + 1) % 4) + 3) % 4).toNat) ++ (logW ct a ((updS S nx M) ((((nx + 1) % 4) + 3) % 4).toNat) ++ (txtW ct q TX tl pl ft wd n1 n2))))))) H := hP
    have hD : va_D A (x8W u a r q ++ (svW ct r b ((((nx + 1) % 4) + 3) % 4) ((min (sz + 1) 4) - 1) (updS S nx M) ++ (sobjW a ++ (gridW ct a ((updS S nx M) ((((nx + 1) % 4) + 3) % 4).toNat) ++ (benchW ct a ((updS S nx M) ((((nx + 1) % 4) + 3) % 4).toNat) ++ (logW ct a ((updS S nx M) ((((nx + 1) % 4) + 3) % 4).toNat) ++ (txtW ct q TX tl pl ft wd n1 n2))))))) := hD
    refine W.eq (g2 := F0 m 284 ls [.int (zI ((min (sz + 1) 4) - 1))]) rfl ?_
    have eW9 : ((updS S nx M) ((((nx + 1) % 4) + 3) % 4).toNat) = M := (updS_back (by omega))
    rw [eW9] at hP hD
    have hP : va_P D vwCl (x8W u a r q ++ (svW ct r b ((((nx + 1) % 4) + 3) % 4) ((min (sz + 1) 4) - 1) (updS S nx M) ++ (sobjW a ++ (gridW ct a M ++ (benchW ct a M ++ (logW ct a M ++ (txtW ct q TX tl pl ft wd n1 n2))))))) H := hP
    have hD : va_D A (x8W u a r q ++ (svW ct r b ((((nx + 1) % 4) + 3) % 4) ((min (sz + 1) 4) - 1) (updS S nx M) ++ (sobjW a ++ (gridW ct a M ++ (benchW ct a M ++ (logW ct a M ++ (txtW ct q TX tl pl ft wd n1 n2))))))) := hD
    refine z_if_lt (tgt := 297) hx hb dL_thoughts_284 (by decide) (by omega) (fun hc_284 => ?_) (fun hc_284 => ?_)
    · have hc_284 := hc_284
      omega
    have hc_284 := hc_284
    refine lv_aload_n hx hb dL_thoughts_287 rfl (lv_at hl 1 rfl) ?_
    refine z_callV (C := RX8) (q0 := 0) (ci := 6) (As := []) (rest := []) ([] : va_W) ([] : va_W) hx hb hml hown hts hl hE hS hA (zr0 ([] : va_W) hP) (zr0D ([] : va_W) hD) (c_X8_rates l D ct ad u a r q b ((((nx + 1) % 4) + 3) % 4) ((min (sz + 1) 4) - 1) (updS S nx M) M TX tl pl ft n1 n2 wd (by assumption)) gL_thoughts_X8_rates rfl rfl k_X8_rates ⟨Nat.le_of_ble_eq_true rfl, Nat.le_of_ble_eq_true rfl⟩ rfl rfl rfl rfl (Nat.le_of_ble_eq_true rfl) ⟨Nat.le_of_ble_eq_true rfl, Nat.le_of_ble_eq_true rfl⟩ dL_thoughts_288 rfl (fun v w1 H locs hpost hP hD hS => ?_)
    obtain ⟨rfl, rfl⟩ := hpost
    have hP := zr0' hP
    have hD := zr0D' hD
    have hP : va_P D vwCl (x8W u a r q ++ (svW ct r b ((((nx + 1) % 4) + 3) % 4) ((min (sz + 1) 4) - 1) (updS S nx M) ++ (sobjW a ++ (gridW ct a M ++ (benchW ct a M ++ (logW ct a M ++ (txtW ct q TX tl pl ft wd n1 n2))))))) H := hP
    have hD : va_D A (x8W u a r q ++ (svW ct r b ((((nx + 1) % 4) + 3) % 4) ((min (sz + 1) 4) - 1) (updS S nx M) ++ (sobjW a ++ (gridW ct a M ++ (benchW ct a M ++ (logW ct a M ++ (txtW ct q TX tl pl ft wd n1 n2))))))) := hD
    refine W.eq (g2 := F0 m 291 ls [.long (zJ (M 12))]) rfl ?_
    refine lv_lload hx hb dL_thoughts_291 (lv_at hl 0 rfl) ?_
    refine z_lcmp_eq (tgt := 299) hx hb dL_thoughts_293 dL_thoughts_294 (by decide) (by omega) (by omega) (fun hc_293 => ?_) (fun hc_293 => ?_)
    · have hc_293 := hc_293
      exact g_L_thoughts_299 l D ct ad u a r q b ((((nx + 1) % 4) + 3) % 4) ((min (sz + 1) 4) - 1) (updS S nx M) M TX tl pl ft n1 n2 wd x (by assumption) (by assumption) (by omega) (by omega) (by omega) (by omega) p e s m below meth c A _ _ _ hx hb hr hts hown hlocks hml hE hA hP hD hS (lv_sub hl [1] rfl)
    · have hc_293 := hc_293
      omega
set_option maxHeartbeats 4000000 in
set_option maxRecDepth 100000 in
theorem g_L_thoughts_164 (l : Launch) (D : va_G) (ct ad : Nat → Nat) (u : Nat) (a r q : Nat → Nat) (b : Nat → Nat → Nat) (nx sz : Int) (S : Nat → Int → Int) (M TX : Int → Int) (tl pl ft n1 n2 : Int) (wd : Value) (x : Int) (hrs : Int) (hL : LInv M) (ht : tInv TX tl) (hn : 0 ≤ nx ∧ nx ≤ 3) (hsz : 0 ≤ sz ∧ sz ≤ 4) (hx9 : -2147483648 ≤ x ∧ x ≤ 2147483647) (h9 : M 9 ≤ 99000) (hh9 : 0 ≤ hrs ∧ hrs < 100) : ZG l yL_thoughts cL_thoughts wsL_thoughts ({ frames := 7, cells := 0, slots := 0, locals := 172 } : Room) 21 (some .boolean) D ct ad [.ref u, .int (zI x)] (fun v w => ∃ (nx2 : Int) (sz2 : Int) (S2 : Nat → Int → Int), ((0 ≤ nx2 ∧ nx2 ≤ 3) ∧ (0 ≤ sz2 ∧ sz2 ≤ 4)) ∧ v = (some (.int (zI 1))) ∧ w = x8W u a r q ++ (svW ct r b nx2 sz2 S2 ++ (sobjW a ++ (gridW ct a M ++ (benchW ct a M ++ (logW ct a M ++ (txtW ct q TX tl pl ft wd n1 n2))))))) 0 0 164 (x8W u a r q ++ (svW ct r b nx sz S ++ (sobjW a ++ (gridW ct a M ++ (benchW ct a M ++ (logW ct a M ++ (txtW ct q TX tl pl ft wd n1 n2))))))) [(0, .ref u), (4, .int (zI (sp_best M))), (7, .int (zI hrs)), (8, .long (zJ (sp_cs M (min hrs (M 8)).toNat)))] [] := by
  intro p e s m below meth c A H locs ls hx hb hr hts hown hlocks hml hE hA hP hD hS hl
  have hK := hE.1
  have hl : lv_has ls 21 [(0, .ref u), (4, .int (zI (sp_best M))), (7, .int (zI hrs)), (8, .long (zJ (sp_cs M (min hrs (M 8)).toNat)))] := hl
  have hs := hL.1
  have hI := hs.1
  have hB := hs.2.1
  have ha := hs.2.2
  have t1 := ht.1
  have j1 := hB.2.1
  have bB := sp_bestB (M := M)
  have rB0 := sp_rateB (len := sp_len M (M 6)) hB j1.2.2.2
  have rB1 : sp_rateM M = sp_rate M (sp_len M (M 6)) (M 8) := rfl
  have aM := absB (x := sp_rateM M) (B := 1000030000) (by omega)
  refine lv_aload_n hx hb dL_thoughts_164 rfl (lv_at hl 0 rfl) ?_
  refine z_iconst hx hb dL_thoughts_165 ?_
  refine z_callSW (As := [.ref u, .int (zI 4)]) (rest := []) ([] : va_W) ([] : va_W) hx hb hml hown hts hl hE hS hA (zr0 ([] : va_W) hP) (zr0D ([] : va_W) hD) (c_L_whole_ok l D ct ad u a r q b nx sz S M TX tl pl ft n1 n2 wd 4 (by assumption) (by omega) (by omega)) gL_thoughts_L_whole rfl k_L_whole ⟨Nat.le_of_ble_eq_true rfl, Nat.le_of_ble_eq_true rfl⟩ rfl (Nat.le_of_ble_eq_true rfl) ⟨Nat.le_of_ble_eq_true rfl, Nat.le_of_ble_eq_true rfl⟩ dL_thoughts_166 rfl (fun v w1 H locs hpost hP hD hS => ?_)
  obtain ⟨rfl, rfl⟩ := hpost
  have hP := zr0' hP
  have hD := zr0D' hD
  have hP : va_P D vwCl (x8W u a r q ++ (svW ct r b nx sz S ++ (sobjW a ++ (gridW ct a M ++ (benchW ct a M ++ (logW ct a M ++ (txtW ct q TX tl pl ft wd n1 n2))))))) H := hP
  have hD : va_D A (x8W u a r q ++ (svW ct r b nx sz S ++ (sobjW a ++ (gridW ct a M ++ (benchW ct a M ++ (logW ct a M ++ (txtW ct q TX tl pl ft wd n1 n2))))))) := hD
  refine W.eq (g2 := F0 m 169 ls [.int (zI (sp_wh M tl 4))]) rfl ?_
  refine z_canI (show sp_wh M tl 4 = M 7 from rfl) ?_
  refine lv_istore (lv' := [(11, .int (zI (M 7))), (0, .ref u), (4, .int (zI (sp_best M))), (7, .int (zI hrs)), (8, .long (zJ (sp_cs M (min hrs (M 8)).toNat)))]) hx hb dL_thoughts_169 hl (by decide) rfl (fun ls hl => ?_)
  refine lv_aload_n hx hb dL_thoughts_171 rfl (lv_at hl 1 rfl) ?_
  refine z_bipush hx hb dL_thoughts_172 (by decide) ?_
  refine z_callSW (As := [.ref u, .int (zI 9)]) (rest := []) ([] : va_W) ([] : va_W) hx hb hml hown hts hl hE hS hA (zr0 ([] : va_W) hP) (zr0D ([] : va_W) hD) (c_L_whole_ok l D ct ad u a r q b nx sz S M TX tl pl ft n1 n2 wd 9 (by assumption) (by omega) (by omega)) gL_thoughts_L_whole rfl k_L_whole ⟨Nat.le_of_ble_eq_true rfl, Nat.le_of_ble_eq_true rfl⟩ rfl (Nat.le_of_ble_eq_true rfl) ⟨Nat.le_of_ble_eq_true rfl, Nat.le_of_ble_eq_true rfl⟩ dL_thoughts_174 rfl (fun v w1 H locs hpost hP hD hS => ?_)
  obtain ⟨rfl, rfl⟩ := hpost
  have hP := zr0' hP
  have hD := zr0D' hD
  have hP : va_P D vwCl (x8W u a r q ++ (svW ct r b nx sz S ++ (sobjW a ++ (gridW ct a M ++ (benchW ct a M ++ (logW ct a M ++ (txtW ct q TX tl pl ft wd n1 n2))))))) H := hP
  have hD : va_D A (x8W u a r q ++ (svW ct r b nx sz S ++ (sobjW a ++ (gridW ct a M ++ (benchW ct a M ++ (logW ct a M ++ (txtW ct q TX tl pl ft wd n1 n2))))))) := hD
  refine W.eq (g2 := F0 m 177 ls [.int (zI (sp_wh M tl 9))]) rfl ?_
  refine z_canI (show sp_wh M tl 9 = sp_rateM M from rfl) ?_
  refine z_i2l hx hb dL_thoughts_177 (by omega) ?_
  refine z_callS (As := [.long (zJ (sp_rateM M))]) (rest := []) ([] : va_W) (x8W u a r q ++ (svW ct r b nx sz S ++ (sobjW a ++ (gridW ct a M ++ (benchW ct a M ++ (logW ct a M ++ (txtW ct q TX tl pl ft wd n1 n2))))))) hx hb hml hown hts hl hE hS hA hP hD (c_L_size l D ct ad (sp_rateM M) (by omega)) gL_thoughts_L_size rfl k_L_size ⟨Nat.le_of_ble_eq_true rfl, Nat.le_of_ble_eq_true rfl⟩ rfl (Nat.le_of_ble_eq_true rfl) ⟨Nat.le_of_ble_eq_true rfl, Nat.le_of_ble_eq_true rfl⟩ dL_thoughts_178 rfl (fun v w1 H locs hpost hP hD hS => ?_)
  obtain ⟨rfl, rfl⟩ := hpost
  have hP : va_P D vwCl (x8W u a r q ++ (svW ct r b nx sz S ++ (sobjW a ++ (gridW ct a M ++ (benchW ct a M ++ (logW ct a M ++ (txtW ct q TX tl pl ft wd n1 n2))))))) H := hP
  have hD : va_D A (x8W u a r q ++ (svW ct r b nx sz S ++ (sobjW a ++ (gridW ct a M ++ (benchW ct a M ++ (logW ct a M ++ (txtW ct q TX tl pl ft wd n1 n2))))))) := hD
  refine W.eq (g2 := F0 m 181 ls [.long (zJ (sp_abs (sp_rateM M)))]) rfl ?_
  refine lv_lstore (lv' := [(12, .long (zJ (sp_abs (sp_rateM M)))), (11, .int (zI (M 7))), (0, .ref u), (4, .int (zI (sp_best M))), (7, .int (zI hrs)), (8, .long (zJ (sp_cs M (min hrs (M 8)).toNat)))]) hx hb dL_thoughts_181 hl (by decide) rfl (fun ls hl => ?_)
  refine lv_aload_n hx hb dL_thoughts_183 rfl (lv_at hl 2 rfl) ?_
  refine lv_iload hx hb dL_thoughts_184 (lv_at hl 3 rfl) ?_
  refine lv_iload hx hb dL_thoughts_186 (lv_at hl 1 rfl) ?_
  refine z_isub hx hb dL_thoughts_188 ?_
  refine z_callSW (As := [.ref u, .int (zI ((sp_best M) - (M 7)))]) (rest := []) ([] : va_W) ([] : va_W) hx hb hml hown hts hl hE hS hA (zr0 ([] : va_W) hP) (zr0D ([] : va_W) hD) (c_L_turnNut_ok l D ct ad u a r q b nx sz S M TX tl pl ft n1 n2 wd ((sp_best M) - (M 7)) (by assumption) (by omega) (by omega) (by omega) ((if_pos (by omega)).trans (if_pos (by omega)))) gL_thoughts_L_turnNut rfl k_L_turnNut ⟨Nat.le_of_ble_eq_true rfl, Nat.le_of_ble_eq_true rfl⟩ rfl (Nat.le_of_ble_eq_true rfl) ⟨Nat.le_of_ble_eq_true rfl, Nat.le_of_ble_eq_true rfl⟩ dL_thoughts_189 rfl (fun v w1 H locs hpost hP hD hS => ?_)
  obtain ⟨rfl, rfl⟩ := hpost
  have hP := zr0' hP
  have hD := zr0D' hD
  have hP : va_P D vwCl (x8W u a r q ++ (svW ct r b ((nx + 1) % 4) (min (sz + 1) 4) (updS S nx M) ++ (sobjW a ++ (gridW ct a (up M 7 (M 7 + ((sp_best M) - (M 7)))) ++ (benchW ct a (up M 7 (M 7 + ((sp_best M) - (M 7)))) ++ (logW ct a (up M 7 (M 7 + ((sp_best M) - (M 7)))) ++ (txtW ct q TX tl pl ft wd n1 n2))))))) H := hP
  have hD : va_D A (x8W u a r q ++ (svW ct r b ((nx + 1) % 4) (min (sz + 1) 4) (updS S nx M) ++ (sobjW a ++ (gridW ct a (up M 7 (M 7 + ((sp_best M) - (M 7)))) ++ (benchW ct a (up M 7 (M 7 + ((sp_best M) - (M 7)))) ++ (logW ct a (up M 7 (M 7 + ((sp_best M) - (M 7)))) ++ (txtW ct q TX tl pl ft wd n1 n2))))))) := hD
  refine W.eq (g2 := F0 m 192 ls [.int (zI (M 7 + ((sp_best M) - (M 7))))]) rfl ?_
  refine z_canI (show M 7 + ((sp_best M) - (M 7)) = sp_best M from (by omega)) ?_
  have eW9 : (up M 7 (M 7 + ((sp_best M) - (M 7)))) = (up M 7 (sp_best M)) := (by rw [show M 7 + (sp_best M - M 7) = sp_best M by omega])
  rw [eW9] at hP hD
  have hP : va_P D vwCl (x8W u a r q ++ (svW ct r b ((nx + 1) % 4) (min (sz + 1) 4) (updS S nx M) ++ (sobjW a ++ (gridW ct a (up M 7 (sp_best M)) ++ (benchW ct a (up M 7 (sp_best M)) ++ (logW ct a (up M 7 (sp_best M)) ++ (txtW ct q TX tl pl ft wd n1 n2))))))) H := hP
  have hD : va_D A (x8W u a r q ++ (svW ct r b ((nx + 1) % 4) (min (sz + 1) 4) (updS S nx M) ++ (sobjW a ++ (gridW ct a (up M 7 (sp_best M)) ++ (benchW ct a (up M 7 (sp_best M)) ++ (logW ct a (up M 7 (sp_best M)) ++ (txtW ct q TX tl pl ft wd n1 n2))))))) := hD
  have hs2 : sInv (up M 7 (sp_best M)) := by have q9 := sInv_turn hs (v := sp_best M - M 7) ((if_pos (by omega)).trans (if_pos (by omega))); rw [show M 7 + (sp_best M - M 7) = sp_best M by omega] at q9; exact q9
  have rN0 := sp_rateB (len := sp_len (up M 7 (sp_best M)) ((up M 7 (sp_best M)) 6)) hs2.2.1 hs2.2.1.2.1.2.2.2
  have rN1 : sp_rateM (up M 7 (sp_best M)) = sp_rate (up M 7 (sp_best M)) (sp_len (up M 7 (sp_best M)) ((up M 7 (sp_best M)) 6)) ((up M 7 (sp_best M)) 8) := rfl
  have aN := absB (x := sp_rateM (up M 7 (sp_best M))) (B := 1000030000) (by omega)
  have bR := best_rate hI hB
  refine lv_iload hx hb dL_thoughts_192 (lv_at hl 3 rfl) ?_
  refine z_icmp_ne (tgt := 243) hx hb dL_thoughts_194 (by decide) (by omega) (by omega) (fun hc_194 => ?_) (fun hc_194 => ?_)
  · have hc_194 := hc_194
    omega
  have hc_194 := hc_194
  refine lv_aload_n hx hb dL_thoughts_197 rfl (lv_at hl 2 rfl) ?_
  refine z_bipush hx hb dL_thoughts_198 (by decide) ?_
  refine z_callSW (As := [.ref u, .int (zI 9)]) (rest := []) ([] : va_W) ([] : va_W) hx hb hml hown hts hl hE hS hA (zr0 ([] : va_W) hP) (zr0D ([] : va_W) hD) (c_L_whole_ok l D ct ad u a r q b ((nx + 1) % 4) (min (sz + 1) 4) (updS S nx M) (up M 7 (sp_best M)) TX tl pl ft n1 n2 wd 9 (by assumption) (by omega) (by omega)) gL_thoughts_L_whole rfl k_L_whole ⟨Nat.le_of_ble_eq_true rfl, Nat.le_of_ble_eq_true rfl⟩ rfl (Nat.le_of_ble_eq_true rfl) ⟨Nat.le_of_ble_eq_true rfl, Nat.le_of_ble_eq_true rfl⟩ dL_thoughts_200 rfl (fun v w1 H locs hpost hP hD hS => ?_)
  obtain ⟨rfl, rfl⟩ := hpost
  have hP := zr0' hP
  have hD := zr0D' hD
  have hP : va_P D vwCl (x8W u a r q ++ (svW ct r b ((nx + 1) % 4) (min (sz + 1) 4) (updS S nx M) ++ (sobjW a ++ (gridW ct a (up M 7 (sp_best M)) ++ (benchW ct a (up M 7 (sp_best M)) ++ (logW ct a (up M 7 (sp_best M)) ++ (txtW ct q TX tl pl ft wd n1 n2))))))) H := hP
  have hD : va_D A (x8W u a r q ++ (svW ct r b ((nx + 1) % 4) (min (sz + 1) 4) (updS S nx M) ++ (sobjW a ++ (gridW ct a (up M 7 (sp_best M)) ++ (benchW ct a (up M 7 (sp_best M)) ++ (logW ct a (up M 7 (sp_best M)) ++ (txtW ct q TX tl pl ft wd n1 n2))))))) := hD
  refine W.eq (g2 := F0 m 203 ls [.int (zI (sp_wh (up M 7 (sp_best M)) tl 9))]) rfl ?_
  refine z_canI (show sp_wh (up M 7 (sp_best M)) tl 9 = sp_rateM (up M 7 (sp_best M)) from rfl) ?_
  refine z_i2l hx hb dL_thoughts_203 (by omega) ?_
  refine z_callS (As := [.long (zJ (sp_rateM (up M 7 (sp_best M))))]) (rest := []) ([] : va_W) (x8W u a r q ++ (svW ct r b ((nx + 1) % 4) (min (sz + 1) 4) (updS S nx M) ++ (sobjW a ++ (gridW ct a (up M 7 (sp_best M)) ++ (benchW ct a (up M 7 (sp_best M)) ++ (logW ct a (up M 7 (sp_best M)) ++ (txtW ct q TX tl pl ft wd n1 n2))))))) hx hb hml hown hts hl hE hS hA hP hD (c_L_size l D ct ad (sp_rateM (up M 7 (sp_best M))) (by omega)) gL_thoughts_L_size rfl k_L_size ⟨Nat.le_of_ble_eq_true rfl, Nat.le_of_ble_eq_true rfl⟩ rfl (Nat.le_of_ble_eq_true rfl) ⟨Nat.le_of_ble_eq_true rfl, Nat.le_of_ble_eq_true rfl⟩ dL_thoughts_204 rfl (fun v w1 H locs hpost hP hD hS => ?_)
  obtain ⟨rfl, rfl⟩ := hpost
  have hP : va_P D vwCl (x8W u a r q ++ (svW ct r b ((nx + 1) % 4) (min (sz + 1) 4) (updS S nx M) ++ (sobjW a ++ (gridW ct a (up M 7 (sp_best M)) ++ (benchW ct a (up M 7 (sp_best M)) ++ (logW ct a (up M 7 (sp_best M)) ++ (txtW ct q TX tl pl ft wd n1 n2))))))) H := hP
  have hD : va_D A (x8W u a r q ++ (svW ct r b ((nx + 1) % 4) (min (sz + 1) 4) (updS S nx M) ++ (sobjW a ++ (gridW ct a (up M 7 (sp_best M)) ++ (benchW ct a (up M 7 (sp_best M)) ++ (logW ct a (up M 7 (sp_best M)) ++ (txtW ct q TX tl pl ft wd n1 n2))))))) := hD
  refine W.eq (g2 := F0 m 207 ls [.long (zJ (sp_abs (sp_rateM (up M 7 (sp_best M)))))]) rfl ?_
  refine lv_lload hx hb dL_thoughts_207 (lv_at hl 0 rfl) ?_
  refine z_lcmp_gt (tgt := 243) hx hb dL_thoughts_209 dL_thoughts_210 (by decide) (by omega) (by omega) (fun hc_209 => ?_) (fun hc_209 => ?_)
  · have hc_209 := hc_209
    omega
  have hc_209 := hc_209
  refine lv_aload_n hx hb dL_thoughts_213 rfl (lv_at hl 2 rfl) ?_
  refine lv_iload hx hb dL_thoughts_214 (lv_at hl 1 rfl) ?_
  refine lv_iload hx hb dL_thoughts_216 (lv_at hl 3 rfl) ?_
  refine z_isub hx hb dL_thoughts_218 ?_
  refine z_callSW (As := [.ref u, .int (zI ((M 7) - (sp_best M)))]) (rest := []) ([] : va_W) ([] : va_W) hx hb hml hown hts hl hE hS hA (zr0 ([] : va_W) hP) (zr0D ([] : va_W) hD) (c_L_turnNut_ok l D ct ad u a r q b ((nx + 1) % 4) (min (sz + 1) 4) (updS S nx M) (up M 7 (sp_best M)) TX tl pl ft n1 n2 wd ((M 7) - (sp_best M)) (by assumption) (by omega) (by omega) (by omega) (by unfold ck_turn; rw [up_s]; exact (if_pos (by omega)).trans (if_pos (by omega)))) gL_thoughts_L_turnNut rfl k_L_turnNut ⟨Nat.le_of_ble_eq_true rfl, Nat.le_of_ble_eq_true rfl⟩ rfl (Nat.le_of_ble_eq_true rfl) ⟨Nat.le_of_ble_eq_true rfl, Nat.le_of_ble_eq_true rfl⟩ dL_thoughts_219 rfl (fun v w1 H locs hpost hP hD hS => ?_)
  obtain ⟨rfl, rfl⟩ := hpost
  have hP := zr0' hP
  have hD := zr0D' hD
  have hP : va_P D vwCl (x8W u a r q ++ (svW ct r b ((((nx + 1) % 4) + 1) % 4) (min ((min (sz + 1) 4) + 1) 4) (updS (updS S nx M) ((nx + 1) % 4) (up M 7 (sp_best M))) ++ (sobjW a ++ (gridW ct a (up (up M 7 (sp_best M)) 7 ((up M 7 (sp_best M)) 7 + ((M 7) - (sp_best M)))) ++ (benchW ct a (up (up M 7 (sp_best M)) 7 ((up M 7 (sp_best M)) 7 + ((M 7) - (sp_best M)))) ++ (logW ct a (up (up M 7 (sp_best M)) 7 ((up M 7 (sp_best M)) 7 + ((M 7) - (sp_best M)))) ++ (txtW ct q TX tl pl ft wd n1 n2))))))) H := hP
  have hD : va_D A (x8W u a r q ++ (svW ct r b ((((nx + 1) % 4) + 1) % 4) (min ((min (sz + 1) 4) + 1) 4) (updS (updS S nx M) ((nx + 1) % 4) (up M 7 (sp_best M))) ++ (sobjW a ++ (gridW ct a (up (up M 7 (sp_best M)) 7 ((up M 7 (sp_best M)) 7 + ((M 7) - (sp_best M)))) ++ (benchW ct a (up (up M 7 (sp_best M)) 7 ((up M 7 (sp_best M)) 7 + ((M 7) - (sp_best M)))) ++ (logW ct a (up (up M 7 (sp_best M)) 7 ((up M 7 (sp_best M)) 7 + ((M 7) - (sp_best M)))) ++ (txtW ct q TX tl pl ft wd n1 n2))))))) := hD
  refine W.eq (g2 := F0 m 222 ls [.int (zI ((up M 7 (sp_best M)) 7 + ((M 7) - (sp_best M))))]) rfl ?_
  refine z_canI (show (up M 7 (sp_best M)) 7 + ((M 7) - (sp_best M)) = M 7 from (by rw [up_s]; omega)) ?_
  have eW9 : (up (up M 7 (sp_best M)) 7 ((up M 7 (sp_best M)) 7 + ((M 7) - (sp_best M)))) = M := (by rw [up_s, up_up]; exact up_self (by omega))
  rw [eW9] at hP hD
  have hP : va_P D vwCl (x8W u a r q ++ (svW ct r b ((((nx + 1) % 4) + 1) % 4) (min ((min (sz + 1) 4) + 1) 4) (updS (updS S nx M) ((nx + 1) % 4) (up M 7 (sp_best M))) ++ (sobjW a ++ (gridW ct a M ++ (benchW ct a M ++ (logW ct a M ++ (txtW ct q TX tl pl ft wd n1 n2))))))) H := hP
  have hD : va_D A (x8W u a r q ++ (svW ct r b ((((nx + 1) % 4) + 1) % 4) (min ((min (sz + 1) 4) + 1) 4) (updS (updS S nx M) ((nx + 1) % 4) (up M 7 (sp_best M))) ++ (sobjW a ++ (gridW ct a M ++ (benchW ct a M ++ (logW ct a M ++ (txtW ct q TX tl pl ft wd n1 n2))))))) := hD
  refine lv_iload hx hb dL_thoughts_222 (lv_at hl 1 rfl) ?_
  refine z_icmp_ne (tgt := 243) hx hb dL_thoughts_224 (by decide) (by omega) (by omega) (fun hc_224 => ?_) (fun hc_224 => ?_)
  · have hc_224 := hc_224
    omega
  have hc_224 := hc_224
  refine lv_aload_n hx hb dL_thoughts_227 rfl (lv_at hl 2 rfl) ?_
  refine z_bipush hx hb dL_thoughts_228 (by decide) ?_
  refine z_callSW (As := [.ref u, .int (zI 9)]) (rest := []) ([] : va_W) ([] : va_W) hx hb hml hown hts hl hE hS hA (zr0 ([] : va_W) hP) (zr0D ([] : va_W) hD) (c_L_whole_ok l D ct ad u a r q b ((((nx + 1) % 4) + 1) % 4) (min ((min (sz + 1) 4) + 1) 4) (updS (updS S nx M) ((nx + 1) % 4) (up M 7 (sp_best M))) M TX tl pl ft n1 n2 wd 9 (by assumption) (by omega) (by omega)) gL_thoughts_L_whole rfl k_L_whole ⟨Nat.le_of_ble_eq_true rfl, Nat.le_of_ble_eq_true rfl⟩ rfl (Nat.le_of_ble_eq_true rfl) ⟨Nat.le_of_ble_eq_true rfl, Nat.le_of_ble_eq_true rfl⟩ dL_thoughts_230 rfl (fun v w1 H locs hpost hP hD hS => ?_)
  obtain ⟨rfl, rfl⟩ := hpost
  have hP := zr0' hP
  have hD := zr0D' hD
  have hP : va_P D vwCl (x8W u a r q ++ (svW ct r b ((((nx + 1) % 4) + 1) % 4) (min ((min (sz + 1) 4) + 1) 4) (updS (updS S nx M) ((nx + 1) % 4) (up M 7 (sp_best M))) ++ (sobjW a ++ (gridW ct a M ++ (benchW ct a M ++ (logW ct a M ++ (txtW ct q TX tl pl ft wd n1 n2))))))) H := hP
  have hD : va_D A (x8W u a r q ++ (svW ct r b ((((nx + 1) % 4) + 1) % 4) (min ((min (sz + 1) 4) + 1) 4) (updS (updS S nx M) ((nx + 1) % 4) (up M 7 (sp_best M))) ++ (sobjW a ++ (gridW ct a M ++ (benchW ct a M ++ (logW ct a M ++ (txtW ct q TX tl pl ft wd n1 n2))))))) := hD
  refine W.eq (g2 := F0 m 233 ls [.int (zI (sp_wh M tl 9))]) rfl ?_
  refine z_canI (show sp_wh M tl 9 = sp_rateM M from rfl) ?_
  refine z_i2l hx hb dL_thoughts_233 (by omega) ?_
  refine z_callS (As := [.long (zJ (sp_rateM M))]) (rest := []) ([] : va_W) (x8W u a r q ++ (svW ct r b ((((nx + 1) % 4) + 1) % 4) (min ((min (sz + 1) 4) + 1) 4) (updS (updS S nx M) ((nx + 1) % 4) (up M 7 (sp_best M))) ++ (sobjW a ++ (gridW ct a M ++ (benchW ct a M ++ (logW ct a M ++ (txtW ct q TX tl pl ft wd n1 n2))))))) hx hb hml hown hts hl hE hS hA hP hD (c_L_size l D ct ad (sp_rateM M) (by omega)) gL_thoughts_L_size rfl k_L_size ⟨Nat.le_of_ble_eq_true rfl, Nat.le_of_ble_eq_true rfl⟩ rfl (Nat.le_of_ble_eq_true rfl) ⟨Nat.le_of_ble_eq_true rfl, Nat.le_of_ble_eq_true rfl⟩ dL_thoughts_234 rfl (fun v w1 H locs hpost hP hD hS => ?_)
  obtain ⟨rfl, rfl⟩ := hpost
  have hP : va_P D vwCl (x8W u a r q ++ (svW ct r b ((((nx + 1) % 4) + 1) % 4) (min ((min (sz + 1) 4) + 1) 4) (updS (updS S nx M) ((nx + 1) % 4) (up M 7 (sp_best M))) ++ (sobjW a ++ (gridW ct a M ++ (benchW ct a M ++ (logW ct a M ++ (txtW ct q TX tl pl ft wd n1 n2))))))) H := hP
  have hD : va_D A (x8W u a r q ++ (svW ct r b ((((nx + 1) % 4) + 1) % 4) (min ((min (sz + 1) 4) + 1) 4) (updS (updS S nx M) ((nx + 1) % 4) (up M 7 (sp_best M))) ++ (sobjW a ++ (gridW ct a M ++ (benchW ct a M ++ (logW ct a M ++ (txtW ct q TX tl pl ft wd n1 n2))))))) := hD
  refine W.eq (g2 := F0 m 237 ls [.long (zJ (sp_abs (sp_rateM M)))]) rfl ?_
  refine lv_lload hx hb dL_thoughts_237 (lv_at hl 0 rfl) ?_
  refine z_lcmp_eq (tgt := 245) hx hb dL_thoughts_239 dL_thoughts_240 (by decide) (by omega) (by omega) (fun hc_239 => ?_) (fun hc_239 => ?_)
  · have hc_239 := hc_239
    exact g_L_thoughts_245 l D ct ad u a r q b ((((nx + 1) % 4) + 1) % 4) (min ((min (sz + 1) 4) + 1) 4) (updS (updS S nx M) ((nx + 1) % 4) (up M 7 (sp_best M))) M TX tl pl ft n1 n2 wd x hrs (by assumption) (by assumption) (by omega) (by omega) (by omega) (by omega) (show 0 ≤ hrs ∧ hrs < 100 from (by first | assumption | omega)) p e s m below meth c A _ _ _ hx hb hr hts hown hlocks hml hE hA hP hD hS (lv_sub hl [2, 4, 5] rfl)
  · have hc_239 := hc_239
    omega
set_option maxHeartbeats 4000000 in
set_option maxRecDepth 100000 in
theorem g_L_thoughts_101 (l : Launch) (D : va_G) (ct ad : Nat → Nat) (u : Nat) (a r q : Nat → Nat) (b : Nat → Nat → Nat) (nx sz : Int) (S : Nat → Int → Int) (M TX : Int → Int) (tl pl ft n1 n2 : Int) (wd : Value) (x : Int) (lo : Int) (hrs : Int) (f_ : Int) (hL : LInv M) (ht : tInv TX tl) (hn : 0 ≤ nx ∧ nx ≤ 3) (hsz : 0 ≤ sz ∧ sz ≤ 4) (hx9 : -2147483648 ≤ x ∧ x ≤ 2147483647) (h9 : M 9 ≤ 99000) (hlo9 : -300 ≤ lo ∧ lo ≤ 600) (hh9 : 0 ≤ hrs ∧ hrs < 100) (hf : f_ = 0 ∨ f_ = 1) (hz : f_ = 1 → ∀ j : Int, 0 ≤ j → j < M 4 → M (16 + M (22 + 3 * j)) = 0) : ZG l yL_thoughts cL_thoughts wsL_thoughts ({ frames := 7, cells := 0, slots := 0, locals := 172 } : Room) 21 (some .boolean) D ct ad [.ref u, .int (zI x)] (fun v w => ∃ (nx2 : Int) (sz2 : Int) (S2 : Nat → Int → Int), ((0 ≤ nx2 ∧ nx2 ≤ 3) ∧ (0 ≤ sz2 ∧ sz2 ≤ 4)) ∧ v = (some (.int (zI 1))) ∧ w = x8W u a r q ++ (svW ct r b nx2 sz2 S2 ++ (sobjW a ++ (gridW ct a M ++ (benchW ct a M ++ (logW ct a M ++ (txtW ct q TX tl pl ft wd n1 n2))))))) 0 0 101 (x8W u a r q ++ (svW ct r b nx sz S ++ (sobjW a ++ (gridW ct a M ++ (benchW ct a M ++ (logW ct a M ++ (txtW ct q TX tl pl ft wd n1 n2))))))) [(0, .ref u), (2, .long (zJ (dgst M tl sz (sp_bits M)))), (4, .int (zI (sp_best M))), (5, .int (zI lo)), (6, .int (zI (sp_range M lo 600))), (7, .int (zI hrs)), (8, .long (zJ (sp_cs M (min hrs (M 8)).toNat))), (10, .int (zI f_))] [] := by
  intro p e s m below meth c A H locs ls hx hb hr hts hown hlocks hml hE hA hP hD hS hl
  have hK := hE.1
  have hl : lv_has ls 21 [(0, .ref u), (2, .long (zJ (dgst M tl sz (sp_bits M)))), (4, .int (zI (sp_best M))), (5, .int (zI lo)), (6, .int (zI (sp_range M lo 600))), (7, .int (zI hrs)), (8, .long (zJ (sp_cs M (min hrs (M 8)).toNat))), (10, .int (zI f_))] := hl
  have hs := hL.1
  have hI := hs.1
  have hB := hs.2.1
  have ha := hs.2.2
  have t1 := ht.1
  have j1 := hB.2.1
  have bB := sp_bestB (M := M)
  have rG := sp_rangeB (lo := lo) (hi := 600) hB
  have rN := range_nn (M := M) (lo := lo) (hi := 600)
  have rS : f_ = 1 → sp_range M lo 600 = 0 := fun z => range_still hI (hz z)
  refine lv_aload_n hx hb dL_thoughts_101 rfl (lv_at hl 0 rfl) ?_
  refine z_callV (C := RX8) (q0 := 0) (ci := 6) (As := []) (rest := []) ([] : va_W) ([] : va_W) hx hb hml hown hts hl hE hS hA (zr0 ([] : va_W) hP) (zr0D ([] : va_W) hD) (c_X8_digest l D ct ad u a r q b nx sz S M TX tl pl ft n1 n2 wd (by assumption) (by assumption) (by omega) (by omega)) gL_thoughts_X8_digest rfl rfl k_X8_digest ⟨Nat.le_of_ble_eq_true rfl, Nat.le_of_ble_eq_true rfl⟩ rfl rfl rfl rfl (Nat.le_of_ble_eq_true rfl) ⟨Nat.le_of_ble_eq_true rfl, Nat.le_of_ble_eq_true rfl⟩ dL_thoughts_102 rfl (fun v w1 H locs hpost hP hD hS => ?_)
  obtain ⟨rfl, rfl⟩ := hpost
  have hP := zr0' hP
  have hD := zr0D' hD
  have hP : va_P D vwCl (x8W u a r q ++ (svW ct r b nx sz S ++ (sobjW a ++ (gridW ct a M ++ (benchW ct a M ++ (logW ct a M ++ (txtW ct q TX tl pl ft wd n1 n2))))))) H := hP
  have hD : va_D A (x8W u a r q ++ (svW ct r b nx sz S ++ (sobjW a ++ (gridW ct a M ++ (benchW ct a M ++ (logW ct a M ++ (txtW ct q TX tl pl ft wd n1 n2))))))) := hD
  refine W.eq (g2 := F0 m 105 ls [.long (zJ (dgst M tl sz (sp_bits M)))]) rfl ?_
  refine lv_lload_n hx hb dL_thoughts_105 rfl (lv_at hl 1 rfl) ?_
  refine z_lcmp_neS (tgt := 162) hx hb dL_thoughts_106 dL_thoughts_107 (by decide) ?_
  refine lv_iload hx hb dL_thoughts_110 (lv_at hl 2 rfl) ?_
  refine z_sipush hx hb dL_thoughts_112 (by decide) ?_
  refine z_icmp_lt (tgt := 162) hx hb dL_thoughts_115 (by decide) (by omega) (by omega) (fun hc_115 => ?_) (fun hc_115 => ?_)
  · have hc_115 := hc_115
    omega
  have hc_115 := hc_115
  refine lv_iload hx hb dL_thoughts_118 (lv_at hl 2 rfl) ?_
  refine z_sipush hx hb dL_thoughts_120 (by decide) ?_
  refine z_icmp_gt (tgt := 162) hx hb dL_thoughts_123 (by decide) (by omega) (by omega) (fun hc_123 => ?_) (fun hc_123 => ?_)
  · have hc_123 := hc_123
    omega
  have hc_123 := hc_123
  refine lv_iload hx hb dL_thoughts_126 (lv_at hl 4 rfl) ?_
  refine z_if_lt (tgt := 162) hx hb dL_thoughts_128 (by decide) (by omega) (fun hc_128 => ?_) (fun hc_128 => ?_)
  · have hc_128 := hc_128
    omega
  have hc_128 := hc_128
  refine lv_aload_n hx hb dL_thoughts_131 rfl (lv_at hl 0 rfl) ?_
  refine lv_iload hx hb dL_thoughts_132 (lv_at hl 3 rfl) ?_
  refine lv_iload hx hb dL_thoughts_134 (lv_at hl 3 rfl) ?_
  refine z_callSW (As := [.ref u, .int (zI lo), .int (zI lo)]) (rest := []) ([] : va_W) ([] : va_W) hx hb hml hown hts hl hE hS hA (zr0 ([] : va_W) hP) (zr0D ([] : va_W) hD) (c_L_rangeOfRates_ok l D ct ad u a r q b nx sz S M TX tl pl ft n1 n2 wd lo lo (by assumption) (by omega) (by omega) (by omega)) gL_thoughts_L_rangeOfRates rfl k_L_rangeOfRates ⟨Nat.le_of_ble_eq_true rfl, Nat.le_of_ble_eq_true rfl⟩ rfl (Nat.le_of_ble_eq_true rfl) ⟨Nat.le_of_ble_eq_true rfl, Nat.le_of_ble_eq_true rfl⟩ dL_thoughts_136 rfl (fun v w1 H locs hpost hP hD hS => ?_)
  obtain ⟨rfl, rfl⟩ := hpost
  have hP := zr0' hP
  have hD := zr0D' hD
  have hP : va_P D vwCl (x8W u a r q ++ (svW ct r b nx sz S ++ (sobjW a ++ (gridW ct a M ++ (benchW ct a M ++ (logW ct a M ++ (txtW ct q TX tl pl ft wd n1 n2))))))) H := hP
  have hD : va_D A (x8W u a r q ++ (svW ct r b nx sz S ++ (sobjW a ++ (gridW ct a M ++ (benchW ct a M ++ (logW ct a M ++ (txtW ct q TX tl pl ft wd n1 n2))))))) := hD
  refine W.eq (g2 := F0 m 139 ls [.int (zI (sp_range M lo lo))]) rfl ?_
  refine z_canI (show sp_range M lo lo = 0 from range_1) ?_
  refine z_if_ne (tgt := 162) hx hb dL_thoughts_139 (by decide) (by omega) (fun hc_139 => ?_) (fun hc_139 => ?_)
  · have hc_139 := hc_139
    omega
  have hc_139 := hc_139
  refine lv_iload hx hb dL_thoughts_142 (lv_at hl 7 rfl) ?_
  refine z_if_eq (tgt := 152) hx hb dL_thoughts_144 (by decide) (by omega) (fun hc_144 => ?_) (fun hc_144 => ?_)
  · have hc_144 := hc_144
    refine lv_aload_n hx hb dL_thoughts_152 rfl (lv_at hl 0 rfl) ?_
    refine z_iconst hx hb dL_thoughts_153 ?_
    refine z_callSW (As := [.ref u, .int (zI 0)]) (rest := []) ([] : va_W) ([] : va_W) hx hb hml hown hts hl hE hS hA (zr0 ([] : va_W) hP) (zr0D ([] : va_W) hD) (c_L_changeWithin_ok l D ct ad u a r q b nx sz S M TX tl pl ft n1 n2 wd 0 (by assumption) (by omega) (by omega)) gL_thoughts_L_changeWithin rfl k_L_changeWithin ⟨Nat.le_of_ble_eq_true rfl, Nat.le_of_ble_eq_true rfl⟩ rfl (Nat.le_of_ble_eq_true rfl) ⟨Nat.le_of_ble_eq_true rfl, Nat.le_of_ble_eq_true rfl⟩ dL_thoughts_154 rfl (fun v w1 H locs hpost hP hD hS => ?_)
    obtain ⟨rfl, rfl⟩ := hpost
    have hP := zr0' hP
    have hD := zr0D' hD
    have hP : va_P D vwCl (x8W u a r q ++ (svW ct r b nx sz S ++ (sobjW a ++ (gridW ct a M ++ (benchW ct a M ++ (logW ct a M ++ (txtW ct q TX tl pl ft wd n1 n2))))))) H := hP
    have hD : va_D A (x8W u a r q ++ (svW ct r b nx sz S ++ (sobjW a ++ (gridW ct a M ++ (benchW ct a M ++ (logW ct a M ++ (txtW ct q TX tl pl ft wd n1 n2))))))) := hD
    refine W.eq (g2 := F0 m 157 ls [.long (zJ (sp_cs M (min 0 (M 8)).toNat))]) rfl ?_
    refine z_canL (show sp_cs M (min 0 (M 8)).toNat = 0 from (by rw [show (min 0 (M 8)).toNat = 0 by omega]; rfl)) ?_
    refine z_lconst (z := 0) hx hb dL_thoughts_157 rfl ?_
    refine z_lcmp_eq (tgt := 164) hx hb dL_thoughts_158 dL_thoughts_159 (by decide) (by omega) (by omega) (fun hc_158 => ?_) (fun hc_158 => ?_)
    · have hc_158 := hc_158
      exact g_L_thoughts_164 l D ct ad u a r q b nx sz S M TX tl pl ft n1 n2 wd x hrs (by assumption) (by assumption) (by omega) (by omega) (by omega) (by omega) (show 0 ≤ hrs ∧ hrs < 100 from (by first | assumption | omega)) p e s m below meth c A _ _ _ hx hb hr hts hown hlocks hml hE hA hP hD hS (lv_sub hl [0, 2, 5, 6] rfl)
    · have hc_158 := hc_158
      omega
  · have hc_144 := hc_144
    refine lv_iload hx hb dL_thoughts_147 (lv_at hl 4 rfl) ?_
    refine z_if_ne (tgt := 162) hx hb dL_thoughts_149 (by decide) (by omega) (fun hc_149 => ?_) (fun hc_149 => ?_)
    · have hc_149 := hc_149
      omega
    have hc_149 := hc_149
    refine lv_aload_n hx hb dL_thoughts_152 rfl (lv_at hl 0 rfl) ?_
    refine z_iconst hx hb dL_thoughts_153 ?_
    refine z_callSW (As := [.ref u, .int (zI 0)]) (rest := []) ([] : va_W) ([] : va_W) hx hb hml hown hts hl hE hS hA (zr0 ([] : va_W) hP) (zr0D ([] : va_W) hD) (c_L_changeWithin_ok l D ct ad u a r q b nx sz S M TX tl pl ft n1 n2 wd 0 (by assumption) (by omega) (by omega)) gL_thoughts_L_changeWithin rfl k_L_changeWithin ⟨Nat.le_of_ble_eq_true rfl, Nat.le_of_ble_eq_true rfl⟩ rfl (Nat.le_of_ble_eq_true rfl) ⟨Nat.le_of_ble_eq_true rfl, Nat.le_of_ble_eq_true rfl⟩ dL_thoughts_154 rfl (fun v w1 H locs hpost hP hD hS => ?_)
    obtain ⟨rfl, rfl⟩ := hpost
    have hP := zr0' hP
    have hD := zr0D' hD
    have hP : va_P D vwCl (x8W u a r q ++ (svW ct r b nx sz S ++ (sobjW a ++ (gridW ct a M ++ (benchW ct a M ++ (logW ct a M ++ (txtW ct q TX tl pl ft wd n1 n2))))))) H := hP
    have hD : va_D A (x8W u a r q ++ (svW ct r b nx sz S ++ (sobjW a ++ (gridW ct a M ++ (benchW ct a M ++ (logW ct a M ++ (txtW ct q TX tl pl ft wd n1 n2))))))) := hD
    refine W.eq (g2 := F0 m 157 ls [.long (zJ (sp_cs M (min 0 (M 8)).toNat))]) rfl ?_
    refine z_canL (show sp_cs M (min 0 (M 8)).toNat = 0 from (by rw [show (min 0 (M 8)).toNat = 0 by omega]; rfl)) ?_
    refine z_lconst (z := 0) hx hb dL_thoughts_157 rfl ?_
    refine z_lcmp_eq (tgt := 164) hx hb dL_thoughts_158 dL_thoughts_159 (by decide) (by omega) (by omega) (fun hc_158 => ?_) (fun hc_158 => ?_)
    · have hc_158 := hc_158
      exact g_L_thoughts_164 l D ct ad u a r q b nx sz S M TX tl pl ft n1 n2 wd x hrs (by assumption) (by assumption) (by omega) (by omega) (by omega) (by omega) (show 0 ≤ hrs ∧ hrs < 100 from (by first | assumption | omega)) p e s m below meth c A _ _ _ hx hb hr hts hown hlocks hml hE hA hP hD hS (lv_sub hl [0, 2, 5, 6] rfl)
    · have hc_158 := hc_158
      omega
set_option maxHeartbeats 4000000 in
set_option maxRecDepth 100000 in
theorem c_L_thoughts (l : Launch) (D : va_G) (ct ad : Nat → Nat) (u : Nat) (a r q : Nat → Nat) (b : Nat → Nat → Nat) (nx sz : Int) (S : Nat → Int → Int) (M TX : Int → Int) (tl pl ft n1 n2 : Int) (wd : Value) (x : Int) (hL : LInv M) (ht : tInv TX tl) (hn : 0 ≤ nx ∧ nx ≤ 3) (hsz : 0 ≤ sz ∧ sz ≤ 4) (hx9 : -2147483648 ≤ x ∧ x ≤ 2147483647) (h9 : M 9 ≤ 99000) : ZM l yL_thoughts wsL_thoughts ({ frames := 7, cells := 0, slots := 0, locals := 172 } : Room) D ct ad [.ref u, .int (zI x)] (x8W u a r q ++ (svW ct r b nx sz S ++ (sobjW a ++ (gridW ct a M ++ (benchW ct a M ++ (logW ct a M ++ (txtW ct q TX tl pl ft wd n1 n2))))))) (fun v w => ∃ (nx2 : Int) (sz2 : Int) (S2 : Nat → Int → Int), ((0 ≤ nx2 ∧ nx2 ≤ 3) ∧ (0 ≤ sz2 ∧ sz2 ≤ 4)) ∧ v = (some (.int (zI 1))) ∧ w = x8W u a r q ++ (svW ct r b nx2 sz2 S2 ++ (sobjW a ++ (gridW ct a M ++ (benchW ct a M ++ (logW ct a M ++ (txtW ct q TX tl pl ft wd n1 n2))))))) := by
  refine ZM.of (cc := cL_thoughts) (maxL := 21) (ret := (some .boolean)) (by decide +kernel) rfl (Nat.le_of_ble_eq_true rfl) ?_
  intro p e s m below meth c A ls hx hb hr hts hown hlocks hml hname hE hP hD hA hS hl
  have hK := hE.1
  have hl : lv_has ls 21 [(0, .ref u), (1, .int (zI x))] := hl
  have hs := hL.1
  have hI := hs.1
  have hB := hs.2.1
  have ha := hs.2.2
  have t1 := ht.1
  have i4 := hI.2.1
  have j1 := hB.2.1
  have lw1 := sp_lowB (v := x) (n := 901) (by decide)
  have lw2 := sp_lowB (v := x / 16) (n := 100) (by decide)
  refine lv_aload_n hx hb dL_thoughts_0 rfl (lv_at hl 0 rfl) ?_
  refine z_callV (C := RX8) (q0 := 0) (ci := 6) (As := []) (rest := []) ([] : va_W) ([] : va_W) hx hb hml hown hts hl hE hS hA (zr0 ([] : va_W) hP) (zr0D ([] : va_W) hD) (c_X8_digest l D ct ad u a r q b nx sz S M TX tl pl ft n1 n2 wd (by assumption) (by assumption) (by omega) (by omega)) gL_thoughts_X8_digest rfl rfl k_X8_digest ⟨Nat.le_of_ble_eq_true rfl, Nat.le_of_ble_eq_true rfl⟩ rfl rfl rfl rfl (Nat.le_of_ble_eq_true rfl) ⟨Nat.le_of_ble_eq_true rfl, Nat.le_of_ble_eq_true rfl⟩ dL_thoughts_1 rfl (fun v w1 H locs hpost hP hD hS => ?_)
  obtain ⟨rfl, rfl⟩ := hpost
  have hP := zr0' hP
  have hD := zr0D' hD
  have hP : va_P D vwCl (x8W u a r q ++ (svW ct r b nx sz S ++ (sobjW a ++ (gridW ct a M ++ (benchW ct a M ++ (logW ct a M ++ (txtW ct q TX tl pl ft wd n1 n2))))))) H := hP
  have hD : va_D A (x8W u a r q ++ (svW ct r b nx sz S ++ (sobjW a ++ (gridW ct a M ++ (benchW ct a M ++ (logW ct a M ++ (txtW ct q TX tl pl ft wd n1 n2))))))) := hD
  refine W.eq (g2 := F0 m 4 ls [.long (zJ (dgst M tl sz (sp_bits M)))]) rfl ?_
  refine lv_lstore_n (lv' := [(2, .long (zJ (dgst M tl sz (sp_bits M)))), (0, .ref u), (1, .int (zI x))]) hx hb dL_thoughts_4 rfl hl (by decide) rfl (fun ls hl => ?_)
  refine lv_aload_n hx hb dL_thoughts_5 rfl (lv_at hl 1 rfl) ?_
  refine z_callV (C := RX8) (q0 := 0) (ci := 6) (As := []) (rest := []) ([] : va_W) ([] : va_W) hx hb hml hown hts hl hE hS hA (zr0 ([] : va_W) hP) (zr0D ([] : va_W) hD) (c_X8_bestNut l D ct ad u a r q b nx sz S M TX tl pl ft n1 n2 wd (by assumption)) gL_thoughts_X8_bestNut rfl rfl k_X8_bestNut ⟨Nat.le_of_ble_eq_true rfl, Nat.le_of_ble_eq_true rfl⟩ rfl rfl rfl rfl (Nat.le_of_ble_eq_true rfl) ⟨Nat.le_of_ble_eq_true rfl, Nat.le_of_ble_eq_true rfl⟩ dL_thoughts_6 rfl (fun v w1 H locs hpost hP hD hS => ?_)
  obtain ⟨rfl, rfl⟩ := hpost
  have hP := zr0' hP
  have hD := zr0D' hD
  have hP : va_P D vwCl (x8W u a r q ++ (svW ct r b nx sz S ++ (sobjW a ++ (gridW ct a M ++ (benchW ct a M ++ (logW ct a M ++ (txtW ct q TX tl pl ft wd n1 n2))))))) H := hP
  have hD : va_D A (x8W u a r q ++ (svW ct r b nx sz S ++ (sobjW a ++ (gridW ct a M ++ (benchW ct a M ++ (logW ct a M ++ (txtW ct q TX tl pl ft wd n1 n2))))))) := hD
  refine W.eq (g2 := F0 m 9 ls [.int (zI (sp_best M))]) rfl ?_
  refine lv_istore (lv' := [(4, .int (zI (sp_best M))), (2, .long (zJ (dgst M tl sz (sp_bits M)))), (0, .ref u), (1, .int (zI x))]) hx hb dL_thoughts_9 hl (by decide) rfl (fun ls hl => ?_)
  refine lv_iload_n hx hb dL_thoughts_11 rfl (lv_at hl 3 rfl) ?_
  refine z_sipush hx hb dL_thoughts_12 (by decide) ?_
  refine z_callS (As := [.int (zI x), .int (zI 901)]) (rest := []) ([] : va_W) (x8W u a r q ++ (svW ct r b nx sz S ++ (sobjW a ++ (gridW ct a M ++ (benchW ct a M ++ (logW ct a M ++ (txtW ct q TX tl pl ft wd n1 n2))))))) hx hb hml hown hts hl hE hS hA hP hD (c_L_low l D ct ad x 901 (by omega)) gL_thoughts_L_low rfl k_L_low ⟨Nat.le_of_ble_eq_true rfl, Nat.le_of_ble_eq_true rfl⟩ rfl (Nat.le_of_ble_eq_true rfl) ⟨Nat.le_of_ble_eq_true rfl, Nat.le_of_ble_eq_true rfl⟩ dL_thoughts_15 rfl (fun v w1 H locs hpost hP hD hS => ?_)
  obtain ⟨rfl, rfl⟩ := hpost
  have hP : va_P D vwCl (x8W u a r q ++ (svW ct r b nx sz S ++ (sobjW a ++ (gridW ct a M ++ (benchW ct a M ++ (logW ct a M ++ (txtW ct q TX tl pl ft wd n1 n2))))))) H := hP
  have hD : va_D A (x8W u a r q ++ (svW ct r b nx sz S ++ (sobjW a ++ (gridW ct a M ++ (benchW ct a M ++ (logW ct a M ++ (txtW ct q TX tl pl ft wd n1 n2))))))) := hD
  refine W.eq (g2 := F0 m 18 ls [.int (zI (sp_low x 901))]) rfl ?_
  refine z_sipush hx hb dL_thoughts_18 (by decide) ?_
  refine z_isub hx hb dL_thoughts_21 ?_
  obtain ⟨lo, hlo⟩ : ∃ z : Int, z = (sp_low x 901) - 300 := ⟨_, rfl⟩
  refine z_canI (show (sp_low x 901) - 300 = lo from hlo.symm) ?_
  refine lv_istore (lv' := [(5, .int (zI lo)), (4, .int (zI (sp_best M))), (2, .long (zJ (dgst M tl sz (sp_bits M)))), (0, .ref u), (1, .int (zI x))]) hx hb dL_thoughts_22 hl (by decide) rfl (fun ls hl => ?_)
  refine lv_aload_n hx hb dL_thoughts_24 rfl (lv_at hl 3 rfl) ?_
  refine lv_iload hx hb dL_thoughts_25 (lv_at hl 0 rfl) ?_
  refine z_sipush hx hb dL_thoughts_27 (by decide) ?_
  refine z_callSW (As := [.ref u, .int (zI lo), .int (zI 600)]) (rest := []) ([] : va_W) ([] : va_W) hx hb hml hown hts hl hE hS hA (zr0 ([] : va_W) hP) (zr0D ([] : va_W) hD) (c_L_rangeOfRates_ok l D ct ad u a r q b nx sz S M TX tl pl ft n1 n2 wd lo 600 (by assumption) (by omega) (by omega) (by omega)) gL_thoughts_L_rangeOfRates rfl k_L_rangeOfRates ⟨Nat.le_of_ble_eq_true rfl, Nat.le_of_ble_eq_true rfl⟩ rfl (Nat.le_of_ble_eq_true rfl) ⟨Nat.le_of_ble_eq_true rfl, Nat.le_of_ble_eq_true rfl⟩ dL_thoughts_30 rfl (fun v w1 H locs hpost hP hD hS => ?_)
  obtain ⟨rfl, rfl⟩ := hpost
  have hP := zr0' hP
  have hD := zr0D' hD
  have hP : va_P D vwCl (x8W u a r q ++ (svW ct r b nx sz S ++ (sobjW a ++ (gridW ct a M ++ (benchW ct a M ++ (logW ct a M ++ (txtW ct q TX tl pl ft wd n1 n2))))))) H := hP
  have hD : va_D A (x8W u a r q ++ (svW ct r b nx sz S ++ (sobjW a ++ (gridW ct a M ++ (benchW ct a M ++ (logW ct a M ++ (txtW ct q TX tl pl ft wd n1 n2))))))) := hD
  refine W.eq (g2 := F0 m 33 ls [.int (zI (sp_range M lo 600))]) rfl ?_
  refine lv_istore (lv' := [(6, .int (zI (sp_range M lo 600))), (5, .int (zI lo)), (4, .int (zI (sp_best M))), (2, .long (zJ (dgst M tl sz (sp_bits M)))), (0, .ref u), (1, .int (zI x))]) hx hb dL_thoughts_33 hl (by decide) rfl (fun ls hl => ?_)
  refine lv_iload_n hx hb dL_thoughts_35 rfl (lv_at hl 5 rfl) ?_
  refine z_iconst hx hb dL_thoughts_36 ?_
  refine z_ishr (n := 4) (d := 16) hx hb dL_thoughts_37 (by omega) (by decide) (by decide) ?_
  refine z_bipush hx hb dL_thoughts_38 (by decide) ?_
  refine z_callS (As := [.int (zI (x / 16)), .int (zI 100)]) (rest := []) ([] : va_W) (x8W u a r q ++ (svW ct r b nx sz S ++ (sobjW a ++ (gridW ct a M ++ (benchW ct a M ++ (logW ct a M ++ (txtW ct q TX tl pl ft wd n1 n2))))))) hx hb hml hown hts hl hE hS hA hP hD (c_L_low l D ct ad (x / 16) 100 (by omega)) gL_thoughts_L_low rfl k_L_low ⟨Nat.le_of_ble_eq_true rfl, Nat.le_of_ble_eq_true rfl⟩ rfl (Nat.le_of_ble_eq_true rfl) ⟨Nat.le_of_ble_eq_true rfl, Nat.le_of_ble_eq_true rfl⟩ dL_thoughts_40 rfl (fun v w1 H locs hpost hP hD hS => ?_)
  obtain ⟨rfl, rfl⟩ := hpost
  have hP : va_P D vwCl (x8W u a r q ++ (svW ct r b nx sz S ++ (sobjW a ++ (gridW ct a M ++ (benchW ct a M ++ (logW ct a M ++ (txtW ct q TX tl pl ft wd n1 n2))))))) H := hP
  have hD : va_D A (x8W u a r q ++ (svW ct r b nx sz S ++ (sobjW a ++ (gridW ct a M ++ (benchW ct a M ++ (logW ct a M ++ (txtW ct q TX tl pl ft wd n1 n2))))))) := hD
  refine W.eq (g2 := F0 m 43 ls [.int (zI (sp_low (x / 16) 100))]) rfl ?_
  obtain ⟨hrs, hhrs⟩ : ∃ z : Int, z = sp_low (x / 16) 100 := ⟨_, rfl⟩
  refine z_canI (show sp_low (x / 16) 100 = hrs from hhrs.symm) ?_
  refine lv_istore (lv' := [(7, .int (zI hrs)), (6, .int (zI (sp_range M lo 600))), (5, .int (zI lo)), (4, .int (zI (sp_best M))), (2, .long (zJ (dgst M tl sz (sp_bits M)))), (0, .ref u), (1, .int (zI x))]) hx hb dL_thoughts_43 hl (by decide) rfl (fun ls hl => ?_)
  refine lv_aload_n hx hb dL_thoughts_45 rfl (lv_at hl 5 rfl) ?_
  refine lv_iload hx hb dL_thoughts_46 (lv_at hl 0 rfl) ?_
  refine z_callSW (As := [.ref u, .int (zI hrs)]) (rest := []) ([] : va_W) ([] : va_W) hx hb hml hown hts hl hE hS hA (zr0 ([] : va_W) hP) (zr0D ([] : va_W) hD) (c_L_changeWithin_ok l D ct ad u a r q b nx sz S M TX tl pl ft n1 n2 wd hrs (by assumption) (by omega) (by omega)) gL_thoughts_L_changeWithin rfl k_L_changeWithin ⟨Nat.le_of_ble_eq_true rfl, Nat.le_of_ble_eq_true rfl⟩ rfl (Nat.le_of_ble_eq_true rfl) ⟨Nat.le_of_ble_eq_true rfl, Nat.le_of_ble_eq_true rfl⟩ dL_thoughts_48 rfl (fun v w1 H locs hpost hP hD hS => ?_)
  obtain ⟨rfl, rfl⟩ := hpost
  have hP := zr0' hP
  have hD := zr0D' hD
  have hP : va_P D vwCl (x8W u a r q ++ (svW ct r b nx sz S ++ (sobjW a ++ (gridW ct a M ++ (benchW ct a M ++ (logW ct a M ++ (txtW ct q TX tl pl ft wd n1 n2))))))) H := hP
  have hD : va_D A (x8W u a r q ++ (svW ct r b nx sz S ++ (sobjW a ++ (gridW ct a M ++ (benchW ct a M ++ (logW ct a M ++ (txtW ct q TX tl pl ft wd n1 n2))))))) := hD
  refine W.eq (g2 := F0 m 51 ls [.long (zJ (sp_cs M (min hrs (M 8)).toNat))]) rfl ?_
  refine lv_lstore (lv' := [(8, .long (zJ (sp_cs M (min hrs (M 8)).toNat))), (7, .int (zI hrs)), (6, .int (zI (sp_range M lo 600))), (5, .int (zI lo)), (4, .int (zI (sp_best M))), (2, .long (zJ (dgst M tl sz (sp_bits M)))), (0, .ref u), (1, .int (zI x))]) hx hb dL_thoughts_51 hl (by decide) rfl (fun ls hl => ?_)
  refine z_iconst hx hb dL_thoughts_53 ?_
  refine lv_istore (lv' := [(10, .int (zI 1)), (8, .long (zJ (sp_cs M (min hrs (M 8)).toNat))), (7, .int (zI hrs)), (6, .int (zI (sp_range M lo 600))), (5, .int (zI lo)), (4, .int (zI (sp_best M))), (2, .long (zJ (dgst M tl sz (sp_bits M)))), (0, .ref u), (1, .int (zI x))]) hx hb dL_thoughts_54 hl (by decide) rfl (fun ls hl => ?_)
  refine z_iconst hx hb dL_thoughts_56 ?_
  refine lv_istore (lv' := [(11, .int (zI 0)), (10, .int (zI 1)), (8, .long (zJ (sp_cs M (min hrs (M 8)).toNat))), (7, .int (zI hrs)), (6, .int (zI (sp_range M lo 600))), (5, .int (zI lo)), (4, .int (zI (sp_best M))), (2, .long (zJ (dgst M tl sz (sp_bits M)))), (0, .ref u), (1, .int (zI x))]) hx hb dL_thoughts_57 hl (by decide) rfl (fun ls hl => ?_)
  refine z_loop (σ := Int × Int) (fun q9 => (M 4 - q9.2).toNat) (fun q9 => (0 ≤ q9.2 ∧ q9.2 ≤ M 4) ∧ (q9.1 = 0 ∨ q9.1 = 1) ∧ (q9.1 = 1 → ∀ j : Int, 0 ≤ j → j < q9.2 → M (16 + M (22 + 3 * j)) = 0)) (fun q9 => x8W u a r q ++ (svW ct r b nx sz S ++ (sobjW a ++ (gridW ct a M ++ (benchW ct a M ++ (logW ct a M ++ (txtW ct q TX tl pl ft wd n1 n2))))))) (fun q9 => [(0, .ref u), (2, .long (zJ (dgst M tl sz (sp_bits M)))), (4, .int (zI (sp_best M))), (5, .int (zI lo)), (6, .int (zI (sp_range M lo 600))), (7, .int (zI hrs)), (8, .long (zJ (sp_cs M (min hrs (M 8)).toNat))), (10, .int (zI q9.1)), (11, .int (zI q9.2))]) (fun q9 => []) (1, 0) ⟨(show 0 ≤ 0 ∧ 0 ≤ M 4 from (by omega)), (show 1 = 0 ∨ 1 = 1 from (by omega)), (show 1 = 1 → ∀ j : Int, 0 ≤ j → j < 0 → M (16 + M (22 + 3 * j)) = 0 from (by intro _ j a1 a2; omega))⟩ hP hD hS (lv_sub hl [8, 7, 6, 5, 4, 3, 2, 1, 0] rfl) rfl ?_
  rintro ⟨f_, i⟩ hI_59 ih_59 H locs ls hP hD hS hl
  obtain ⟨hi, hf, hz⟩ := hI_59
  have hi : 0 ≤ i ∧ i ≤ M 4 := hi
  have hf : f_ = 0 ∨ f_ = 1 := hf
  have hz : f_ = 1 → ∀ j : Int, 0 ≤ j → j < i → M (16 + M (22 + 3 * j)) = 0 := hz
  have hP : va_P D vwCl (x8W u a r q ++ (svW ct r b nx sz S ++ (sobjW a ++ (gridW ct a M ++ (benchW ct a M ++ (logW ct a M ++ (txtW ct q TX tl pl ft wd n1 n2))))))) H := hP
  have hD : va_D A (x8W u a r q ++ (svW ct r b nx sz S ++ (sobjW a ++ (gridW ct a M ++ (benchW ct a M ++ (logW ct a M ++ (txtW ct q TX tl pl ft wd n1 n2))))))) := hD
  have hl : lv_has ls 21 [(0, .ref u), (2, .long (zJ (dgst M tl sz (sp_bits M)))), (4, .int (zI (sp_best M))), (5, .int (zI lo)), (6, .int (zI (sp_range M lo 600))), (7, .int (zI hrs)), (8, .long (zJ (sp_cs M (min hrs (M 8)).toNat))), (10, .int (zI f_)), (11, .int (zI i))] := hl
  refine lv_iload hx hb dL_thoughts_59 (lv_at hl 8 rfl) ?_
  refine lv_aload_n hx hb dL_thoughts_61 rfl (lv_at hl 0 rfl) ?_
  refine z_iconst hx hb dL_thoughts_62 ?_
  refine z_callSW (As := [.ref u, .int (zI 1)]) (rest := [.int (zI i)]) ([] : va_W) ([] : va_W) hx hb hml hown hts hl hE hS hA (zr0 ([] : va_W) hP) (zr0D ([] : va_W) hD) (c_L_whole_ok l D ct ad u a r q b nx sz S M TX tl pl ft n1 n2 wd 1 (by assumption) (by omega) (by omega)) gL_thoughts_L_whole rfl k_L_whole ⟨Nat.le_of_ble_eq_true rfl, Nat.le_of_ble_eq_true rfl⟩ rfl (Nat.le_of_ble_eq_true rfl) ⟨Nat.le_of_ble_eq_true rfl, Nat.le_of_ble_eq_true rfl⟩ dL_thoughts_63 rfl (fun v w1 H locs hpost hP hD hS => ?_)
  obtain ⟨rfl, rfl⟩ := hpost
  have hP := zr0' hP
  have hD := zr0D' hD
  have hP : va_P D vwCl (x8W u a r q ++ (svW ct r b nx sz S ++ (sobjW a ++ (gridW ct a M ++ (benchW ct a M ++ (logW ct a M ++ (txtW ct q TX tl pl ft wd n1 n2))))))) H := hP
  have hD : va_D A (x8W u a r q ++ (svW ct r b nx sz S ++ (sobjW a ++ (gridW ct a M ++ (benchW ct a M ++ (logW ct a M ++ (txtW ct q TX tl pl ft wd n1 n2))))))) := hD
  refine W.eq (g2 := F0 m 66 ls [.int (zI (sp_wh M tl 1)), .int (zI i)]) rfl ?_
  refine z_canI (show sp_wh M tl 1 = M 4 from rfl) ?_
  refine z_icmp_ge (tgt := 101) hx hb dL_thoughts_66 (by decide) (by omega) (by omega) (fun hc_66 => ?_) (fun hc_66 => ?_)
  · have hc_66 := hc_66
    exact g_L_thoughts_101 l D ct ad u a r q b nx sz S M TX tl pl ft n1 n2 wd x lo hrs f_ (by assumption) (by assumption) (by omega) (by omega) (by omega) (by omega) (show -300 ≤ lo ∧ lo ≤ 600 from (by first | assumption | omega)) (show 0 ≤ hrs ∧ hrs < 100 from (by first | assumption | omega)) (show f_ = 0 ∨ f_ = 1 from (by first | assumption | omega)) (show f_ = 1 → ∀ j : Int, 0 ≤ j → j < M 4 → M (16 + M (22 + 3 * j)) = 0 from (by intro z j a1 a2; exact hz z j a1 (by omega))) p e s m below meth c A _ _ _ hx hb hr hts hown hlocks hml hE hA hP hD hS (lv_sub hl [0, 1, 2, 3, 4, 5, 6, 7] rfl)
  · have hc_66 := hc_66
    have q0 := hI.2.2.2.1 i (by omega) (by omega)
    have q1 := hI.2.2.2.2 i (by omega) (by omega)
    have q2 := hI.2.2.1 (M (22 + 3 * i)) (by omega) (by omega)
    refine lv_iload hx hb dL_thoughts_69 (lv_at hl 7 rfl) ?_
    refine z_if_eq (tgt := 92) hx hb dL_thoughts_71 (by decide) (by omega) (fun hc_71 => ?_) (fun hc_71 => ?_)
    · have hc_71 := hc_71
      refine z_iconst hx hb dL_thoughts_92 ?_
      refine lv_istore (lv' := [(10, .int (zI 0)), (0, .ref u), (2, .long (zJ (dgst M tl sz (sp_bits M)))), (4, .int (zI (sp_best M))), (5, .int (zI lo)), (6, .int (zI (sp_range M lo 600))), (7, .int (zI hrs)), (8, .long (zJ (sp_cs M (min hrs (M 8)).toNat))), (11, .int (zI i))]) hx hb dL_thoughts_93 hl (by decide) rfl (fun ls hl => ?_)
      refine z_iinc (k := 8) (lv' := [(11, .int (zI (i + 1))), (10, .int (zI 0)), (0, .ref u), (2, .long (zJ (dgst M tl sz (sp_bits M)))), (4, .int (zI (sp_best M))), (5, .int (zI lo)), (6, .int (zI (sp_range M lo 600))), (7, .int (zI hrs)), (8, .long (zJ (sp_cs M (min hrs (M 8)).toNat)))]) hx hb dL_thoughts_95 hl rfl (by decide) rfl (fun ls hl => ?_)
      refine lv_goto (tgt := 59) hx hb dL_thoughts_98 (by decide) ?_
      exact ih_59 (0, i + 1) ⟨(show 0 ≤ (i + 1) ∧ (i + 1) ≤ M 4 from (by omega)), (show 0 = 0 ∨ 0 = 1 from (by omega)), (show 0 = 1 → ∀ j : Int, 0 ≤ j → j < (i + 1) → M (16 + M (22 + 3 * j)) = 0 from (by first | (intro z; exfalso; omega) | (intro z j a1 a2; by_cases e9 : j = i; (subst e9; exact hc_85); (exact hz (by omega) j a1 (by omega)))))⟩ (show (M 4 - (i + 1)).toNat < (M 4 - i).toNat from (by omega)) _ _ _ hP hD hS (lv_sub hl [2, 3, 4, 5, 6, 7, 8, 1, 0] rfl)
    · have hc_71 := hc_71
      refine lv_aload_n hx hb dL_thoughts_74 rfl (lv_at hl 0 rfl) ?_
      refine lv_aload_n hx hb dL_thoughts_75 rfl (lv_at hl 0 rfl) ?_
      refine lv_iload hx hb dL_thoughts_76 (lv_at hl 8 rfl) ?_
      refine z_iconst hx hb dL_thoughts_78 ?_
      refine z_callSW (As := [.ref u, .int (zI i), .int (zI 0)]) (rest := [.ref u]) ([] : va_W) ([] : va_W) hx hb hml hown hts hl hE hS hA (zr0 ([] : va_W) hP) (zr0D ([] : va_W) hD) (c_L_rod_ok l D ct ad u a r q b nx sz S M TX tl pl ft n1 n2 wd i 0 (by assumption) (by omega) (by omega) (by omega)) gL_thoughts_L_rod rfl k_L_rod ⟨Nat.le_of_ble_eq_true rfl, Nat.le_of_ble_eq_true rfl⟩ rfl (Nat.le_of_ble_eq_true rfl) ⟨Nat.le_of_ble_eq_true rfl, Nat.le_of_ble_eq_true rfl⟩ dL_thoughts_79 rfl (fun v w1 H locs hpost hP hD hS => ?_)
      obtain ⟨rfl, rfl⟩ := hpost
      have hP := zr0' hP
      have hD := zr0D' hD
      have hP : va_P D vwCl (x8W u a r q ++ (svW ct r b nx sz S ++ (sobjW a ++ (gridW ct a M ++ (benchW ct a M ++ (logW ct a M ++ (txtW ct q TX tl pl ft wd n1 n2))))))) H := hP
      have hD : va_D A (x8W u a r q ++ (svW ct r b nx sz S ++ (sobjW a ++ (gridW ct a M ++ (benchW ct a M ++ (logW ct a M ++ (txtW ct q TX tl pl ft wd n1 n2))))))) := hD
      refine W.eq (g2 := F0 m 82 ls [.int (zI (sp_rodv M i 0 (M 6))), .ref u]) rfl ?_
      refine z_canI (show sp_rodv M i 0 (M 6) = M (22 + 3 * i) from rfl) ?_
      refine z_callSW (As := [.ref u, .int (zI (M (22 + 3 * i)))]) (rest := []) ([] : va_W) ([] : va_W) hx hb hml hown hts hl hE hS hA (zr0 ([] : va_W) hP) (zr0D ([] : va_W) hD) (c_L_stretch_ok l D ct ad u a r q b nx sz S M TX tl pl ft n1 n2 wd (M (22 + 3 * i)) (by assumption) (by omega) (by omega)) gL_thoughts_L_stretch rfl k_L_stretch ⟨Nat.le_of_ble_eq_true rfl, Nat.le_of_ble_eq_true rfl⟩ rfl (Nat.le_of_ble_eq_true rfl) ⟨Nat.le_of_ble_eq_true rfl, Nat.le_of_ble_eq_true rfl⟩ dL_thoughts_82 rfl (fun v w1 H locs hpost hP hD hS => ?_)
      obtain ⟨rfl, rfl⟩ := hpost
      have hP := zr0' hP
      have hD := zr0D' hD
      have hP : va_P D vwCl (x8W u a r q ++ (svW ct r b nx sz S ++ (sobjW a ++ (gridW ct a M ++ (benchW ct a M ++ (logW ct a M ++ (txtW ct q TX tl pl ft wd n1 n2))))))) H := hP
      have hD : va_D A (x8W u a r q ++ (svW ct r b nx sz S ++ (sobjW a ++ (gridW ct a M ++ (benchW ct a M ++ (logW ct a M ++ (txtW ct q TX tl pl ft wd n1 n2))))))) := hD
      refine W.eq (g2 := F0 m 85 ls [.int (zI (M (16 + (M (22 + 3 * i)))))]) rfl ?_
      refine z_if_ne (tgt := 92) hx hb dL_thoughts_85 (by decide) (by omega) (fun hc_85 => ?_) (fun hc_85 => ?_)
      · have hc_85 := hc_85
        refine z_iconst hx hb dL_thoughts_92 ?_
        refine lv_istore (lv' := [(10, .int (zI 0)), (0, .ref u), (2, .long (zJ (dgst M tl sz (sp_bits M)))), (4, .int (zI (sp_best M))), (5, .int (zI lo)), (6, .int (zI (sp_range M lo 600))), (7, .int (zI hrs)), (8, .long (zJ (sp_cs M (min hrs (M 8)).toNat))), (11, .int (zI i))]) hx hb dL_thoughts_93 hl (by decide) rfl (fun ls hl => ?_)
        refine z_iinc (k := 8) (lv' := [(11, .int (zI (i + 1))), (10, .int (zI 0)), (0, .ref u), (2, .long (zJ (dgst M tl sz (sp_bits M)))), (4, .int (zI (sp_best M))), (5, .int (zI lo)), (6, .int (zI (sp_range M lo 600))), (7, .int (zI hrs)), (8, .long (zJ (sp_cs M (min hrs (M 8)).toNat)))]) hx hb dL_thoughts_95 hl rfl (by decide) rfl (fun ls hl => ?_)
        refine lv_goto (tgt := 59) hx hb dL_thoughts_98 (by decide) ?_
        exact ih_59 (0, i + 1) ⟨(show 0 ≤ (i + 1) ∧ (i + 1) ≤ M 4 from (by omega)), (show 0 = 0 ∨ 0 = 1 from (by omega)), (show 0 = 1 → ∀ j : Int, 0 ≤ j → j < (i + 1) → M (16 + M (22 + 3 * j)) = 0 from (by first | (intro z; exfalso; omega) | (intro z j a1 a2; by_cases e9 : j = i; (subst e9; exact hc_85); (exact hz (by omega) j a1 (by omega)))))⟩ (show (M 4 - (i + 1)).toNat < (M 4 - i).toNat from (by omega)) _ _ _ hP hD hS (lv_sub hl [2, 3, 4, 5, 6, 7, 8, 1, 0] rfl)
      · have hc_85 := hc_85
        refine z_iconst hx hb dL_thoughts_88 ?_
        refine lv_goto (tgt := 93) hx hb dL_thoughts_89 (by decide) ?_
        refine lv_istore (lv' := [(10, .int (zI 1)), (0, .ref u), (2, .long (zJ (dgst M tl sz (sp_bits M)))), (4, .int (zI (sp_best M))), (5, .int (zI lo)), (6, .int (zI (sp_range M lo 600))), (7, .int (zI hrs)), (8, .long (zJ (sp_cs M (min hrs (M 8)).toNat))), (11, .int (zI i))]) hx hb dL_thoughts_93 hl (by decide) rfl (fun ls hl => ?_)
        refine z_iinc (k := 8) (lv' := [(11, .int (zI (i + 1))), (10, .int (zI 1)), (0, .ref u), (2, .long (zJ (dgst M tl sz (sp_bits M)))), (4, .int (zI (sp_best M))), (5, .int (zI lo)), (6, .int (zI (sp_range M lo 600))), (7, .int (zI hrs)), (8, .long (zJ (sp_cs M (min hrs (M 8)).toNat)))]) hx hb dL_thoughts_95 hl rfl (by decide) rfl (fun ls hl => ?_)
        refine lv_goto (tgt := 59) hx hb dL_thoughts_98 (by decide) ?_
        exact ih_59 (1, i + 1) ⟨(show 0 ≤ (i + 1) ∧ (i + 1) ≤ M 4 from (by omega)), (show 1 = 0 ∨ 1 = 1 from (by omega)), (show 1 = 1 → ∀ j : Int, 0 ≤ j → j < (i + 1) → M (16 + M (22 + 3 * j)) = 0 from (by first | (intro z; exfalso; omega) | (intro z j a1 a2; by_cases e9 : j = i; (subst e9; exact hc_85); (exact hz (by omega) j a1 (by omega)))))⟩ (show (M 4 - (i + 1)).toNat < (M 4 - i).toNat from (by omega)) _ _ _ hP hD hS (lv_sub hl [2, 3, 4, 5, 6, 7, 8, 1, 0] rfl)
