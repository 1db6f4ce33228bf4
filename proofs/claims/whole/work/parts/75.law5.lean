set_option maxHeartbeats 4000000 in
set_option maxRecDepth 100000 in
theorem law_c21 (p : Program) (l : Launch) (e : Env) (s : State) (m : MethodId) (below : List Frame) (meth : Method) (c : Code) (D : va_G) (ct ad : Nat → Nat) (b L : Nat) (xs : Nat → Int32) (u : Nat) (a r q : Nat → Nat) (b2 : Nat → Nat → Nat) (o0 : Nat) (mb : Nat → Nat) (hC : lwC p l s m meth c D ct ad b L xs) (i : Int) (hi : 0 ≤ i ∧ i + 4 ≤ (L : Int)) (cells slots : Nat) (hcap : cells + 1 ≤ 601024 ∧ slots + 6 ≤ 7293034) (ih : ∀ (H : Heap) (locs : List Loc) (ls : Array Slot), lwI s D ct b u a r q b2 o0 mb i H locs ls → W p l e room_1 s m #[Value.ref b] below meth c H locs (cells + 1) (slots + 6) (lw_Z below #[Value.ref b] s) (F0 m 1590 ls [])) (H : Heap) (locs : List Loc) (ls : Array Slot) (hI0 : lwI s D ct b u a r q b2 o0 mb i H locs ls) : W p l e room_1 s m #[Value.ref b] below meth c H locs cells slots (lw_Z below #[Value.ref b] s) (F0 m 1258 ls []) := by
  obtain ⟨hx, hb, hr, hml, hown, hts, hX, hbl, hlocks, hE, hst, hL⟩ := hC
  obtain ⟨nx, sz, S, M, TX, tl, pl, ft, n1, n2, wd, O, SP, SV, NB, cd, plm, cm, h, hR, hP, hD, hS, hl⟩ := hI0
  have hA : ∀ q : Nat, s.heap.size ≤ q → (fun q : Nat => s.heap.size ≤ q) q := fun _ h => h
  have hbA : ¬ (fun q : Nat => s.heap.size ≤ q) b := Nat.not_le.mpr hbl
  have hK := hE.1
  have hc0 : cells ≤ room_1.cells ∧ slots ≤ room_1.slots := by show cells ≤ 601024 ∧ slots ≤ 7293034; omega
  have hc1 : cells + 1 ≤ room_1.cells ∧ slots + 6 ≤ room_1.slots := hcap
  have hP : va_P D vwCl (x8W u a r q ++ (svW ct r b2 nx sz S ++ (sobjW a ++ (gridW ct a M ++ (benchW ct a M ++ (logW ct a M ++ (txtW ct q TX tl pl ft wd n1 n2 ++ (jrW ct o0 1 O ++ (moW mb sz tl cd plm cm h ++ (jrW ct (mb 1) 94 M ++ (jrW ct (mb 2) 94 SP ++ (jrW ct (mb 3) 376 SV ++ (irW ct (mb 4) 150 TX ++ (irW ct (mb 5) 2 NB)))))))))))))) H := hP
  have hD : va_D (fun q : Nat => s.heap.size ≤ q) (x8W u a r q ++ (svW ct r b2 nx sz S ++ (sobjW a ++ (gridW ct a M ++ (benchW ct a M ++ (logW ct a M ++ (txtW ct q TX tl pl ft wd n1 n2 ++ (jrW ct o0 1 O ++ (moW mb sz tl cd plm cm h ++ (jrW ct (mb 1) 94 M ++ (jrW ct (mb 2) 94 SP ++ (jrW ct (mb 3) 376 SV ++ (irW ct (mb 4) 150 TX ++ (irW ct (mb 5) 2 NB)))))))))))))) := hD
  have hs := hR.1
  have ht := hR.2.1
  have hI := hs.1
  have hB := hs.2.1
  have ha := hs.2.2
  have i3 := hI.1
  have i4 := hI.2.1
  have j0 := hB.1
  have j1 := hB.2.1
  have j2 := hB.2.2.1
  have j4 := hB.2.2.2.2
  have t1 := ht.1
  have hn := hR.2.2.1
  have hsz := hR.2.2.2.1
  have hsc := hR.2.2.2.1
  obtain ⟨v1, e1, r1⟩ := zI_any (xs (i + 1).toNat)
  by_cases hok : 0 ≤ v1 ∧ v1 < M 4
  · skip
    have hv : -2147483648 ≤ sp_match M v1 ∧ sp_match M v1 ≤ 2147483647 := sp_matchB
    refine lv_aload_n hx hb dL_law_1258 rfl (lv_at hl 1 rfl) ?_
    refine lv_aload_n hx hb dL_law_1259 rfl (lv_at hl 0 rfl) ?_
    refine lv_iload hx hb dL_law_1260 (lv_at hl 4 rfl) ?_
    refine z_iconst hx hb dL_law_1262 ?_
    refine z_iadd hx hb dL_law_1263 ?_
    refine z_sld hx hb hX hbl hbA hS (by omega) hL e1 dL_law_1264 ?_
    refine lv_aload_n hx hb dL_law_1265 rfl (lv_at hl 3 rfl) ?_
    refine z_callSW (As := [.ref u, .int (zI v1), .ref o0]) (rest := []) ([] : va_W) (moW mb sz tl cd plm cm h ++ (jrW ct (mb 1) 94 M ++ (jrW ct (mb 2) 94 SP ++ (jrW ct (mb 3) 376 SV ++ (irW ct (mb 4) 150 TX ++ (irW ct (mb 5) 2 NB)))))) hx hb hml hown (fun w h => hts w (inL_166 w h)) hl hE hS hA hP hD (c_L_matchLength_ok l D ct ad u a r q b2 nx sz S M TX tl pl ft n1 n2 wd o0 O v1 (by assumption) (by omega) hok hv) gdL_166 rfl k_L_matchLength ⟨Nat.le_of_ble_eq_true rfl, Nat.le_of_ble_eq_true rfl⟩ rfl (Nat.le_of_ble_eq_true rfl) hc0 dL_law_1266 rfl (fun v w1 H locs hpost hP hD hS => ?_)
    obtain ⟨rfl, rfl⟩ := hpost
    have hP : va_P D vwCl (x8W u a r q ++ (svW ct r b2 nx sz S ++ (sobjW a ++ (gridW ct a M ++ (benchW ct a M ++ (logW ct a M ++ (txtW ct q TX tl pl ft wd n1 n2 ++ (jrW ct o0 1 (up O 0 (sp_match M v1)) ++ (moW mb sz tl cd plm cm h ++ (jrW ct (mb 1) 94 M ++ (jrW ct (mb 2) 94 SP ++ (jrW ct (mb 3) 376 SV ++ (irW ct (mb 4) 150 TX ++ (irW ct (mb 5) 2 NB)))))))))))))) H := hP
    have hD : va_D (fun q : Nat => s.heap.size ≤ q) (x8W u a r q ++ (svW ct r b2 nx sz S ++ (sobjW a ++ (gridW ct a M ++ (benchW ct a M ++ (logW ct a M ++ (txtW ct q TX tl pl ft wd n1 n2 ++ (jrW ct o0 1 (up O 0 (sp_match M v1)) ++ (moW mb sz tl cd plm cm h ++ (jrW ct (mb 1) 94 M ++ (jrW ct (mb 2) 94 SP ++ (jrW ct (mb 3) 376 SV ++ (irW ct (mb 4) 150 TX ++ (irW ct (mb 5) 2 NB)))))))))))))) := hD
    refine W.eq (g2 := F0 m 1269 ls [.int (zI 0)]) rfl ?_
    refine lv_istore (lv' := [(5, .int (zI 0)), (0, .ref b), (1, .ref u), (2, .ref (mb 0)), (3, .ref o0), (4, .int (zI i))]) hx hb dL_law_1269 hl (by decide) rfl (fun ls hl => ?_)
    refine lv_aload_n hx hb dL_law_1271 rfl (lv_at hl 3 rfl) ?_
    refine lv_aload_n hx hb dL_law_1272 rfl (lv_at hl 1 rfl) ?_
    refine lv_iload hx hb dL_law_1273 (lv_at hl 5 rfl) ?_
    refine z_iconst hx hb dL_law_1275 ?_
    refine z_iadd hx hb dL_law_1276 ?_
    refine z_sld hx hb hX hbl hbA hS (by omega) hL e1 dL_law_1277 ?_
    refine z_callV (C := RX9) (q0 := 0) (ci := 7) (As := [.int (zI v1)]) (rest := []) (x8W u a r q ++ (svW ct r b2 nx sz S ++ (sobjW a ++ (gridW ct a M ++ (benchW ct a M ++ (logW ct a M ++ (txtW ct q TX tl pl ft wd n1 n2 ++ (jrW ct o0 1 (up O 0 (sp_match M v1)))))))))) ([] : va_W) hx hb hml hown (fun w h => hts w (inL_168 w h)) hl hE hS hA (zr0 (x8W u a r q ++ (svW ct r b2 nx sz S ++ (sobjW a ++ (gridW ct a M ++ (benchW ct a M ++ (logW ct a M ++ (txtW ct q TX tl pl ft wd n1 n2 ++ (jrW ct o0 1 (up O 0 (sp_match M v1)))))))))) hP) (zr0D (x8W u a r q ++ (svW ct r b2 nx sz S ++ (sobjW a ++ (gridW ct a M ++ (benchW ct a M ++ (logW ct a M ++ (txtW ct q TX tl pl ft wd n1 n2 ++ (jrW ct o0 1 (up O 0 (sp_match M v1)))))))))) hD) (c_X9_matchLength_ok l D ct ad mb M SP SV TX NB sz tl cd plm cm h v1 (by assumption) (by omega) (if_pos hok)) gdL_168 rfl rfl k_X9_matchLength ⟨Nat.le_of_ble_eq_true rfl, Nat.le_of_ble_eq_true rfl⟩ rfl rfl rfl rfl (Nat.le_of_ble_eq_true rfl) hc0 dL_law_1278 rfl (fun v w1 H locs hpost hP hD hS => ?_)
    obtain ⟨rfl, rfl⟩ := hpost
    have hP := zr0' hP
    have hD := zr0D' hD
    have hP : va_P D vwCl (x8W u a r q ++ (svW ct r b2 nx sz S ++ (sobjW a ++ (gridW ct a M ++ (benchW ct a M ++ (logW ct a M ++ (txtW ct q TX tl pl ft wd n1 n2 ++ (jrW ct o0 1 (up O 0 (sp_match M v1)) ++ (moW mb sz tl (ck_b (0 ≤ v1 ∧ v1 < M 4)) plm cm h ++ (jrW ct (mb 1) 94 M ++ (jrW ct (mb 2) 94 SP ++ (jrW ct (mb 3) 376 SV ++ (irW ct (mb 4) 150 TX ++ (irW ct (mb 5) 2 NB)))))))))))))) H := hP
    have hD : va_D (fun q : Nat => s.heap.size ≤ q) (x8W u a r q ++ (svW ct r b2 nx sz S ++ (sobjW a ++ (gridW ct a M ++ (benchW ct a M ++ (logW ct a M ++ (txtW ct q TX tl pl ft wd n1 n2 ++ (jrW ct o0 1 (up O 0 (sp_match M v1)) ++ (moW mb sz tl (ck_b (0 ≤ v1 ∧ v1 < M 4)) plm cm h ++ (jrW ct (mb 1) 94 M ++ (jrW ct (mb 2) 94 SP ++ (jrW ct (mb 3) 376 SV ++ (irW ct (mb 4) 150 TX ++ (irW ct (mb 5) 2 NB)))))))))))))) := hD
    refine W.eq (g2 := F0 m 1281 ls [.int (zI (sp_match M v1))]) rfl ?_
    refine lv_istore (lv' := [(6, .int (zI (sp_match M v1))), (5, .int (zI 0)), (0, .ref b), (1, .ref u), (2, .ref (mb 0)), (3, .ref o0), (4, .int (zI i))]) hx hb dL_law_1281 hl (by decide) rfl (fun ls hl => ?_)
    refine lv_aload_n hx hb dL_law_1283 rfl (lv_at hl 4 rfl) ?_
    refine z_callV (C := RX9) (q0 := 0) (ci := 7) (As := []) (rest := []) (x8W u a r q ++ (svW ct r b2 nx sz S ++ (sobjW a ++ (gridW ct a M ++ (benchW ct a M ++ (logW ct a M ++ (txtW ct q TX tl pl ft wd n1 n2 ++ (jrW ct o0 1 (up O 0 (sp_match M v1)))))))))) ([] : va_W) hx hb hml hown (fun w h => hts w (inL_94 w h)) hl hE hS hA (zr0 (x8W u a r q ++ (svW ct r b2 nx sz S ++ (sobjW a ++ (gridW ct a M ++ (benchW ct a M ++ (logW ct a M ++ (txtW ct q TX tl pl ft wd n1 n2 ++ (jrW ct o0 1 (up O 0 (sp_match M v1)))))))))) hP) (zr0D (x8W u a r q ++ (svW ct r b2 nx sz S ++ (sobjW a ++ (gridW ct a M ++ (benchW ct a M ++ (logW ct a M ++ (txtW ct q TX tl pl ft wd n1 n2 ++ (jrW ct o0 1 (up O 0 (sp_match M v1)))))))))) hD) (c_X9_thrown l D ct ad mb M SP SV TX NB sz tl (ck_b (0 ≤ v1 ∧ v1 < M 4)) plm cm h) gdL_94 rfl rfl k_X9_thrown ⟨Nat.le_of_ble_eq_true rfl, Nat.le_of_ble_eq_true rfl⟩ rfl rfl rfl rfl (Nat.le_of_ble_eq_true rfl) hc0 dL_law_1284 rfl (fun v w1 H locs hpost hP hD hS => ?_)
    obtain ⟨rfl, rfl⟩ := hpost
    have hP := zr0' hP
    have hD := zr0D' hD
    have hP : va_P D vwCl (x8W u a r q ++ (svW ct r b2 nx sz S ++ (sobjW a ++ (gridW ct a M ++ (benchW ct a M ++ (logW ct a M ++ (txtW ct q TX tl pl ft wd n1 n2 ++ (jrW ct o0 1 (up O 0 (sp_match M v1)) ++ (moW mb sz tl (ck_b (0 ≤ v1 ∧ v1 < M 4)) plm cm h ++ (jrW ct (mb 1) 94 M ++ (jrW ct (mb 2) 94 SP ++ (jrW ct (mb 3) 376 SV ++ (irW ct (mb 4) 150 TX ++ (irW ct (mb 5) 2 NB)))))))))))))) H := hP
    have hD : va_D (fun q : Nat => s.heap.size ≤ q) (x8W u a r q ++ (svW ct r b2 nx sz S ++ (sobjW a ++ (gridW ct a M ++ (benchW ct a M ++ (logW ct a M ++ (txtW ct q TX tl pl ft wd n1 n2 ++ (jrW ct o0 1 (up O 0 (sp_match M v1)) ++ (moW mb sz tl (ck_b (0 ≤ v1 ∧ v1 < M 4)) plm cm h ++ (jrW ct (mb 1) 94 M ++ (jrW ct (mb 2) 94 SP ++ (jrW ct (mb 3) 376 SV ++ (irW ct (mb 4) 150 TX ++ (irW ct (mb 5) 2 NB)))))))))))))) := hD
    refine W.eq (g2 := F0 m 1287 ls [.int (zI (ck_b (0 ≤ v1 ∧ v1 < M 4)))]) rfl ?_
    refine lv_iload hx hb dL_law_1287 (lv_at hl 1 rfl) ?_
    refine z_canI (show 0 = ck_b (0 ≤ v1 ∧ v1 < M 4) from (if_pos hok).symm) ?_
    refine z_icmp_eqS (tgt := 1294) hx hb dL_law_1289 (by decide) ?_
    refine lv_iload hx hb dL_law_1294 (lv_at hl 1 rfl) ?_
    refine z_if_ne (tgt := 1311) hx hb dL_law_1296 (by decide) (by omega) (fun hc_1296 => ?_) (fun hc_1296 => ?_)
    · have hc_1296 := hc_1296
      exfalso; first | omega | (revert hc_1296; unfold ck1; split <;> omega)
    · have hc_1296 := hc_1296
      refine lv_aload_n hx hb dL_law_1299 rfl (lv_at hl 5 rfl) ?_
      refine z_iconst hx hb dL_law_1300 ?_
      refine z_lald (g := (up O 0 (sp_match M v1))) (v := sp_match M v1) hx hb hK hP 60 rfl (by decide) (by omega) (show (up O 0 (sp_match M v1)) 0 = sp_match M v1 from by rw [up_s]) dL_law_1301 ?_
      refine lv_iload hx hb dL_law_1302 (lv_at hl 0 rfl) ?_
      refine z_i2l hx hb dL_law_1304 (by omega) ?_
      refine z_lcmp_eqS (tgt := 1311) hx hb dL_law_1305 dL_law_1306 (by decide) ?_
      refine lv_goto (tgt := 1590) hx hb dL_law_1311 (by decide) ?_
      refine W.widen (k := cells + 1) (n := slots + 6) (Nat.le_add_right _ _) (Nat.le_add_right _ _) ?_
      exact ih _ _ _ ⟨nx, sz, S, M, TX, tl, pl, ft, n1, n2, wd, (up O 0 (sp_match M v1)), SP, SV, NB, (ck_b (0 ≤ v1 ∧ v1 < M 4)), plm, cm, h, hR, hP, hD, hS, lv_sub hl [2, 3, 4, 5, 6] rfl⟩
  · skip
    refine lv_aload_n hx hb dL_law_1258 rfl (lv_at hl 1 rfl) ?_
    refine lv_aload_n hx hb dL_law_1259 rfl (lv_at hl 0 rfl) ?_
    refine lv_iload hx hb dL_law_1260 (lv_at hl 4 rfl) ?_
    refine z_iconst hx hb dL_law_1262 ?_
    refine z_iadd hx hb dL_law_1263 ?_
    refine z_sld hx hb hX hbl hbA hS (by omega) hL e1 dL_law_1264 ?_
    refine lv_aload_n hx hb dL_law_1265 rfl (lv_at hl 3 rfl) ?_
    refine z_callSW (As := [.ref u, .int (zI v1), .ref o0]) (rest := []) ([] : va_W) (moW mb sz tl cd plm cm h ++ (jrW ct (mb 1) 94 M ++ (jrW ct (mb 2) 94 SP ++ (jrW ct (mb 3) 376 SV ++ (irW ct (mb 4) 150 TX ++ (irW ct (mb 5) 2 NB)))))) hx hb hml hown (fun w h => hts w (inL_166 w h)) hl hE hS hA hP hD (c_L_matchLength_no l D ct ad u a r q b2 nx sz S M TX tl pl ft n1 n2 wd o0 O v1 (by assumption) hst (by omega) hok) gdL_166 rfl k_L_matchLength ⟨Nat.le_of_ble_eq_true rfl, Nat.le_of_ble_eq_true rfl⟩ rfl (Nat.le_of_ble_eq_true rfl) hc1 dL_law_1266 rfl (fun v w1 H locs hpost hP hD hS => ?_)
    obtain ⟨rfl, rfl⟩ := hpost
    have hP : va_P D vwCl (x8W u a r q ++ (svW ct r b2 nx sz S ++ (sobjW a ++ (gridW ct a M ++ (benchW ct a M ++ (logW ct a M ++ (txtW ct q TX tl pl ft wd n1 n2 ++ (jrW ct o0 1 O ++ (moW mb sz tl cd plm cm h ++ (jrW ct (mb 1) 94 M ++ (jrW ct (mb 2) 94 SP ++ (jrW ct (mb 3) 376 SV ++ (irW ct (mb 4) 150 TX ++ (irW ct (mb 5) 2 NB)))))))))))))) H := hP
    have hD : va_D (fun q : Nat => s.heap.size ≤ q) (x8W u a r q ++ (svW ct r b2 nx sz S ++ (sobjW a ++ (gridW ct a M ++ (benchW ct a M ++ (logW ct a M ++ (txtW ct q TX tl pl ft wd n1 n2 ++ (jrW ct o0 1 O ++ (moW mb sz tl cd plm cm h ++ (jrW ct (mb 1) 94 M ++ (jrW ct (mb 2) 94 SP ++ (jrW ct (mb 3) 376 SV ++ (irW ct (mb 4) 150 TX ++ (irW ct (mb 5) 2 NB)))))))))))))) := hD
    refine W.eq (g2 := F0 m 1269 ls [.int (zI 1)]) rfl ?_
    refine lv_istore (lv' := [(5, .int (zI 1)), (0, .ref b), (1, .ref u), (2, .ref (mb 0)), (3, .ref o0), (4, .int (zI i))]) hx hb dL_law_1269 hl (by decide) rfl (fun ls hl => ?_)
    refine lv_aload_n hx hb dL_law_1271 rfl (lv_at hl 3 rfl) ?_
    refine lv_aload_n hx hb dL_law_1272 rfl (lv_at hl 1 rfl) ?_
    refine lv_iload hx hb dL_law_1273 (lv_at hl 5 rfl) ?_
    refine z_iconst hx hb dL_law_1275 ?_
    refine z_iadd hx hb dL_law_1276 ?_
    refine z_sld hx hb hX hbl hbA hS (by omega) hL e1 dL_law_1277 ?_
    refine z_callV (C := RX9) (q0 := 0) (ci := 7) (As := [.int (zI v1)]) (rest := []) (x8W u a r q ++ (svW ct r b2 nx sz S ++ (sobjW a ++ (gridW ct a M ++ (benchW ct a M ++ (logW ct a M ++ (txtW ct q TX tl pl ft wd n1 n2 ++ (jrW ct o0 1 O)))))))) ([] : va_W) hx hb hml hown (fun w h => hts w (inL_168 w h)) hl hE hS hA (zr0 (x8W u a r q ++ (svW ct r b2 nx sz S ++ (sobjW a ++ (gridW ct a M ++ (benchW ct a M ++ (logW ct a M ++ (txtW ct q TX tl pl ft wd n1 n2 ++ (jrW ct o0 1 O)))))))) hP) (zr0D (x8W u a r q ++ (svW ct r b2 nx sz S ++ (sobjW a ++ (gridW ct a M ++ (benchW ct a M ++ (logW ct a M ++ (txtW ct q TX tl pl ft wd n1 n2 ++ (jrW ct o0 1 O)))))))) hD) (c_X9_matchLength_no l D ct ad mb M SP SV TX NB sz tl cd plm cm h v1 (by assumption) (by omega) (by unfold ck_b; rw [if_neg hok]; omega)) gdL_168 rfl rfl k_X9_matchLength ⟨Nat.le_of_ble_eq_true rfl, Nat.le_of_ble_eq_true rfl⟩ rfl rfl rfl rfl (Nat.le_of_ble_eq_true rfl) hc1 dL_law_1278 rfl (fun v w1 H locs hpost hP hD hS => ?_)
    obtain ⟨rfl, rfl⟩ := hpost
    have hP := zr0' hP
    have hD := zr0D' hD
    have hP : va_P D vwCl (x8W u a r q ++ (svW ct r b2 nx sz S ++ (sobjW a ++ (gridW ct a M ++ (benchW ct a M ++ (logW ct a M ++ (txtW ct q TX tl pl ft wd n1 n2 ++ (jrW ct o0 1 O ++ (moW mb sz tl (ck_b (0 ≤ v1 ∧ v1 < M 4)) plm cm h ++ (jrW ct (mb 1) 94 M ++ (jrW ct (mb 2) 94 SP ++ (jrW ct (mb 3) 376 SV ++ (irW ct (mb 4) 150 TX ++ (irW ct (mb 5) 2 NB)))))))))))))) H := hP
    have hD : va_D (fun q : Nat => s.heap.size ≤ q) (x8W u a r q ++ (svW ct r b2 nx sz S ++ (sobjW a ++ (gridW ct a M ++ (benchW ct a M ++ (logW ct a M ++ (txtW ct q TX tl pl ft wd n1 n2 ++ (jrW ct o0 1 O ++ (moW mb sz tl (ck_b (0 ≤ v1 ∧ v1 < M 4)) plm cm h ++ (jrW ct (mb 1) 94 M ++ (jrW ct (mb 2) 94 SP ++ (jrW ct (mb 3) 376 SV ++ (irW ct (mb 4) 150 TX ++ (irW ct (mb 5) 2 NB)))))))))))))) := hD
    refine W.eq (g2 := F0 m 1281 ls [.int (zI 0)]) rfl ?_
    refine lv_istore (lv' := [(6, .int (zI 0)), (5, .int (zI 1)), (0, .ref b), (1, .ref u), (2, .ref (mb 0)), (3, .ref o0), (4, .int (zI i))]) hx hb dL_law_1281 hl (by decide) rfl (fun ls hl => ?_)
    refine lv_aload_n hx hb dL_law_1283 rfl (lv_at hl 4 rfl) ?_
    refine z_callV (C := RX9) (q0 := 0) (ci := 7) (As := []) (rest := []) (x8W u a r q ++ (svW ct r b2 nx sz S ++ (sobjW a ++ (gridW ct a M ++ (benchW ct a M ++ (logW ct a M ++ (txtW ct q TX tl pl ft wd n1 n2 ++ (jrW ct o0 1 O)))))))) ([] : va_W) hx hb hml hown (fun w h => hts w (inL_94 w h)) hl hE hS hA (zr0 (x8W u a r q ++ (svW ct r b2 nx sz S ++ (sobjW a ++ (gridW ct a M ++ (benchW ct a M ++ (logW ct a M ++ (txtW ct q TX tl pl ft wd n1 n2 ++ (jrW ct o0 1 O)))))))) hP) (zr0D (x8W u a r q ++ (svW ct r b2 nx sz S ++ (sobjW a ++ (gridW ct a M ++ (benchW ct a M ++ (logW ct a M ++ (txtW ct q TX tl pl ft wd n1 n2 ++ (jrW ct o0 1 O)))))))) hD) (c_X9_thrown l D ct ad mb M SP SV TX NB sz tl (ck_b (0 ≤ v1 ∧ v1 < M 4)) plm cm h) gdL_94 rfl rfl k_X9_thrown ⟨Nat.le_of_ble_eq_true rfl, Nat.le_of_ble_eq_true rfl⟩ rfl rfl rfl rfl (Nat.le_of_ble_eq_true rfl) hc1 dL_law_1284 rfl (fun v w1 H locs hpost hP hD hS => ?_)
    obtain ⟨rfl, rfl⟩ := hpost
    have hP := zr0' hP
    have hD := zr0D' hD
    have hP : va_P D vwCl (x8W u a r q ++ (svW ct r b2 nx sz S ++ (sobjW a ++ (gridW ct a M ++ (benchW ct a M ++ (logW ct a M ++ (txtW ct q TX tl pl ft wd n1 n2 ++ (jrW ct o0 1 O ++ (moW mb sz tl (ck_b (0 ≤ v1 ∧ v1 < M 4)) plm cm h ++ (jrW ct (mb 1) 94 M ++ (jrW ct (mb 2) 94 SP ++ (jrW ct (mb 3) 376 SV ++ (irW ct (mb 4) 150 TX ++ (irW ct (mb 5) 2 NB)))))))))))))) H := hP
    have hD : va_D (fun q : Nat => s.heap.size ≤ q) (x8W u a r q ++ (svW ct r b2 nx sz S ++ (sobjW a ++ (gridW ct a M ++ (benchW ct a M ++ (logW ct a M ++ (txtW ct q TX tl pl ft wd n1 n2 ++ (jrW ct o0 1 O ++ (moW mb sz tl (ck_b (0 ≤ v1 ∧ v1 < M 4)) plm cm h ++ (jrW ct (mb 1) 94 M ++ (jrW ct (mb 2) 94 SP ++ (jrW ct (mb 3) 376 SV ++ (irW ct (mb 4) 150 TX ++ (irW ct (mb 5) 2 NB)))))))))))))) := hD
    refine W.eq (g2 := F0 m 1287 ls [.int (zI (ck_b (0 ≤ v1 ∧ v1 < M 4)))]) rfl ?_
    refine lv_iload hx hb dL_law_1287 (lv_at hl 1 rfl) ?_
    refine z_canI (show 1 = ck_b (0 ≤ v1 ∧ v1 < M 4) from (if_neg hok).symm) ?_
    refine z_icmp_eqS (tgt := 1294) hx hb dL_law_1289 (by decide) ?_
    refine lv_iload hx hb dL_law_1294 (lv_at hl 1 rfl) ?_
    refine z_if_ne (tgt := 1311) hx hb dL_law_1296 (by decide) (by omega) (fun hc_1296 => ?_) (fun hc_1296 => ?_)
    · have hc_1296 := hc_1296
      refine lv_goto (tgt := 1590) hx hb dL_law_1311 (by decide) ?_
      exact ih _ _ _ ⟨nx, sz, S, M, TX, tl, pl, ft, n1, n2, wd, O, SP, SV, NB, (ck_b (0 ≤ v1 ∧ v1 < M 4)), plm, cm, h, hR, hP, hD, hS, lv_sub hl [2, 3, 4, 5, 6] rfl⟩
    · have hc_1296 := hc_1296
      exfalso; first | omega | (revert hc_1296; unfold ck1; split <;> omega)
set_option maxHeartbeats 4000000 in
set_option maxRecDepth 100000 in
theorem law_c22 (p : Program) (l : Launch) (e : Env) (s : State) (m : MethodId) (below : List Frame) (meth : Method) (c : Code) (D : va_G) (ct ad : Nat → Nat) (b L : Nat) (xs : Nat → Int32) (u : Nat) (a r q : Nat → Nat) (b2 : Nat → Nat → Nat) (o0 : Nat) (mb : Nat → Nat) (hC : lwC p l s m meth c D ct ad b L xs) (i : Int) (hi : 0 ≤ i ∧ i + 4 ≤ (L : Int)) (cells slots : Nat) (hcap : cells + 1 ≤ 601024 ∧ slots + 6 ≤ 7293034) (ih : ∀ (H : Heap) (locs : List Loc) (ls : Array Slot), lwI s D ct b u a r q b2 o0 mb i H locs ls → W p l e room_1 s m #[Value.ref b] below meth c H locs (cells + 1) (slots + 6) (lw_Z below #[Value.ref b] s) (F0 m 1590 ls [])) (H : Heap) (locs : List Loc) (ls : Array Slot) (hI0 : lwI s D ct b u a r q b2 o0 mb i H locs ls) : W p l e room_1 s m #[Value.ref b] below meth c H locs cells slots (lw_Z below #[Value.ref b] s) (F0 m 1314 ls []) := by
  obtain ⟨hx, hb, hr, hml, hown, hts, hX, hbl, hlocks, hE, hst, hL⟩ := hC
  obtain ⟨nx, sz, S, M, TX, tl, pl, ft, n1, n2, wd, O, SP, SV, NB, cd, plm, cm, h, hR, hP, hD, hS, hl⟩ := hI0
  have hA : ∀ q : Nat, s.heap.size ≤ q → (fun q : Nat => s.heap.size ≤ q) q := fun _ h => h
  have hbA : ¬ (fun q : Nat => s.heap.size ≤ q) b := Nat.not_le.mpr hbl
  have hK := hE.1
  have hc0 : cells ≤ room_1.cells ∧ slots ≤ room_1.slots := by show cells ≤ 601024 ∧ slots ≤ 7293034; omega
  have hc1 : cells + 1 ≤ room_1.cells ∧ slots + 6 ≤ room_1.slots := hcap
  have hP : va_P D vwCl (x8W u a r q ++ (svW ct r b2 nx sz S ++ (sobjW a ++ (gridW ct a M ++ (benchW ct a M ++ (logW ct a M ++ (txtW ct q TX tl pl ft wd n1 n2 ++ (jrW ct o0 1 O ++ (moW mb sz tl cd plm cm h ++ (jrW ct (mb 1) 94 M ++ (jrW ct (mb 2) 94 SP ++ (jrW ct (mb 3) 376 SV ++ (irW ct (mb 4) 150 TX ++ (irW ct (mb 5) 2 NB)))))))))))))) H := hP
  have hD : va_D (fun q : Nat => s.heap.size ≤ q) (x8W u a r q ++ (svW ct r b2 nx sz S ++ (sobjW a ++ (gridW ct a M ++ (benchW ct a M ++ (logW ct a M ++ (txtW ct q TX tl pl ft wd n1 n2 ++ (jrW ct o0 1 O ++ (moW mb sz tl cd plm cm h ++ (jrW ct (mb 1) 94 M ++ (jrW ct (mb 2) 94 SP ++ (jrW ct (mb 3) 376 SV ++ (irW ct (mb 4) 150 TX ++ (irW ct (mb 5) 2 NB)))))))))))))) := hD
  have hs := hR.1
  have ht := hR.2.1
  have hI := hs.1
  have hB := hs.2.1
  have ha := hs.2.2
  have i3 := hI.1
  have i4 := hI.2.1
  have j0 := hB.1
  have j1 := hB.2.1
  have j2 := hB.2.2.1
  have j4 := hB.2.2.2.2
  have t1 := ht.1
  have hn := hR.2.2.1
  have hsz := hR.2.2.2.1
  have hsc := hR.2.2.2.1
  refine lv_aload_n hx hb dL_law_1314 rfl (lv_at hl 1 rfl) ?_
  refine z_callV (C := RX8) (q0 := 0) (ci := 6) (As := []) (rest := []) ([] : va_W) (jrW ct o0 1 O ++ (moW mb sz tl cd plm cm h ++ (jrW ct (mb 1) 94 M ++ (jrW ct (mb 2) 94 SP ++ (jrW ct (mb 3) 376 SV ++ (irW ct (mb 4) 150 TX ++ (irW ct (mb 5) 2 NB))))))) hx hb hml hown (fun w h => hts w (inL_169 w h)) hl hE hS hA hP hD (c_X8_bestNut l D ct ad u a r q b2 nx sz S M TX tl pl ft n1 n2 wd (by assumption)) gdL_169 rfl rfl k_X8_bestNut ⟨Nat.le_of_ble_eq_true rfl, Nat.le_of_ble_eq_true rfl⟩ rfl rfl rfl rfl (Nat.le_of_ble_eq_true rfl) hc0 dL_law_1315 rfl (fun v w1 H locs hpost hP hD hS => ?_)
  obtain ⟨rfl, rfl⟩ := hpost
  have hP : va_P D vwCl (x8W u a r q ++ (svW ct r b2 nx sz S ++ (sobjW a ++ (gridW ct a M ++ (benchW ct a M ++ (logW ct a M ++ (txtW ct q TX tl pl ft wd n1 n2 ++ (jrW ct o0 1 O ++ (moW mb sz tl cd plm cm h ++ (jrW ct (mb 1) 94 M ++ (jrW ct (mb 2) 94 SP ++ (jrW ct (mb 3) 376 SV ++ (irW ct (mb 4) 150 TX ++ (irW ct (mb 5) 2 NB)))))))))))))) H := hP
  have hD : va_D (fun q : Nat => s.heap.size ≤ q) (x8W u a r q ++ (svW ct r b2 nx sz S ++ (sobjW a ++ (gridW ct a M ++ (benchW ct a M ++ (logW ct a M ++ (txtW ct q TX tl pl ft wd n1 n2 ++ (jrW ct o0 1 O ++ (moW mb sz tl cd plm cm h ++ (jrW ct (mb 1) 94 M ++ (jrW ct (mb 2) 94 SP ++ (jrW ct (mb 3) 376 SV ++ (irW ct (mb 4) 150 TX ++ (irW ct (mb 5) 2 NB)))))))))))))) := hD
  refine W.eq (g2 := F0 m 1318 ls [.int (zI (sp_best M))]) rfl ?_
  refine lv_aload_n hx hb dL_law_1318 rfl (lv_at hl 2 rfl) ?_
  refine z_callV (C := RX9) (q0 := 0) (ci := 7) (As := []) (rest := [.int (zI (sp_best M))]) (x8W u a r q ++ (svW ct r b2 nx sz S ++ (sobjW a ++ (gridW ct a M ++ (benchW ct a M ++ (logW ct a M ++ (txtW ct q TX tl pl ft wd n1 n2 ++ (jrW ct o0 1 O)))))))) ([] : va_W) hx hb hml hown (fun w h => hts w (inL_172 w h)) hl hE hS hA (zr0 (x8W u a r q ++ (svW ct r b2 nx sz S ++ (sobjW a ++ (gridW ct a M ++ (benchW ct a M ++ (logW ct a M ++ (txtW ct q TX tl pl ft wd n1 n2 ++ (jrW ct o0 1 O)))))))) hP) (zr0D (x8W u a r q ++ (svW ct r b2 nx sz S ++ (sobjW a ++ (gridW ct a M ++ (benchW ct a M ++ (logW ct a M ++ (txtW ct q TX tl pl ft wd n1 n2 ++ (jrW ct o0 1 O)))))))) hD) (c_X9_bestNut l D ct ad mb M SP SV TX NB sz tl cd plm cm h (by assumption) (by assumption)) gdL_172 rfl rfl k_X9_bestNut ⟨Nat.le_of_ble_eq_true rfl, Nat.le_of_ble_eq_true rfl⟩ rfl rfl rfl rfl (Nat.le_of_ble_eq_true rfl) hc0 dL_law_1319 rfl (fun v w1 H locs hpost hP hD hS => ?_)
  obtain ⟨rfl, rfl⟩ := hpost
  have hP := zr0' hP
  have hD := zr0D' hD
  have hP : va_P D vwCl (x8W u a r q ++ (svW ct r b2 nx sz S ++ (sobjW a ++ (gridW ct a M ++ (benchW ct a M ++ (logW ct a M ++ (txtW ct q TX tl pl ft wd n1 n2 ++ (jrW ct o0 1 O ++ (moW mb sz tl 0 plm cm h ++ (jrW ct (mb 1) 94 M ++ (jrW ct (mb 2) 94 SP ++ (jrW ct (mb 3) 376 SV ++ (irW ct (mb 4) 150 TX ++ (irW ct (mb 5) 2 NB)))))))))))))) H := hP
  have hD : va_D (fun q : Nat => s.heap.size ≤ q) (x8W u a r q ++ (svW ct r b2 nx sz S ++ (sobjW a ++ (gridW ct a M ++ (benchW ct a M ++ (logW ct a M ++ (txtW ct q TX tl pl ft wd n1 n2 ++ (jrW ct o0 1 O ++ (moW mb sz tl 0 plm cm h ++ (jrW ct (mb 1) 94 M ++ (jrW ct (mb 2) 94 SP ++ (jrW ct (mb 3) 376 SV ++ (irW ct (mb 4) 150 TX ++ (irW ct (mb 5) 2 NB)))))))))))))) := hD
  refine W.eq (g2 := F0 m 1322 ls [.int (zI (sp_best M)), .int (zI (sp_best M))]) rfl ?_
  refine z_icmp_eqS (tgt := 1590) hx hb dL_law_1322 (by decide) ?_
  refine W.widen (k := cells + 1) (n := slots + 6) (Nat.le_add_right _ _) (Nat.le_add_right _ _) ?_
  exact ih _ _ _ ⟨nx, sz, S, M, TX, tl, pl, ft, n1, n2, wd, O, SP, SV, NB, 0, plm, cm, h, hR, hP, hD, hS, lv_sub hl [0, 1, 2, 3, 4] rfl⟩
set_option maxHeartbeats 4000000 in
set_option maxRecDepth 100000 in
theorem law_c23 (p : Program) (l : Launch) (e : Env) (s : State) (m : MethodId) (below : List Frame) (meth : Method) (c : Code) (D : va_G) (ct ad : Nat → Nat) (b L : Nat) (xs : Nat → Int32) (u : Nat) (a r q : Nat → Nat) (b2 : Nat → Nat → Nat) (o0 : Nat) (mb : Nat → Nat) (hC : lwC p l s m meth c D ct ad b L xs) (i : Int) (hi : 0 ≤ i ∧ i + 4 ≤ (L : Int)) (cells slots : Nat) (hcap : cells + 1 ≤ 601024 ∧ slots + 6 ≤ 7293034) (ih : ∀ (H : Heap) (locs : List Loc) (ls : Array Slot), lwI s D ct b u a r q b2 o0 mb i H locs ls → W p l e room_1 s m #[Value.ref b] below meth c H locs (cells + 1) (slots + 6) (lw_Z below #[Value.ref b] s) (F0 m 1590 ls [])) (H : Heap) (locs : List Loc) (ls : Array Slot) (hI0 : lwI s D ct b u a r q b2 o0 mb i H locs ls) : W p l e room_1 s m #[Value.ref b] below meth c H locs cells slots (lw_Z below #[Value.ref b] s) (F0 m 1327 ls []) := by
  obtain ⟨hx, hb, hr, hml, hown, hts, hX, hbl, hlocks, hE, hst, hL⟩ := hC
  obtain ⟨nx, sz, S, M, TX, tl, pl, ft, n1, n2, wd, O, SP, SV, NB, cd, plm, cm, h, hR, hP, hD, hS, hl⟩ := hI0
  have hA : ∀ q : Nat, s.heap.size ≤ q → (fun q : Nat => s.heap.size ≤ q) q := fun _ h => h
  have hbA : ¬ (fun q : Nat => s.heap.size ≤ q) b := Nat.not_le.mpr hbl
  have hK := hE.1
  have hc0 : cells ≤ room_1.cells ∧ slots ≤ room_1.slots := by show cells ≤ 601024 ∧ slots ≤ 7293034; omega
  have hc1 : cells + 1 ≤ room_1.cells ∧ slots + 6 ≤ room_1.slots := hcap
  have hP : va_P D vwCl (x8W u a r q ++ (svW ct r b2 nx sz S ++ (sobjW a ++ (gridW ct a M ++ (benchW ct a M ++ (logW ct a M ++ (txtW ct q TX tl pl ft wd n1 n2 ++ (jrW ct o0 1 O ++ (moW mb sz tl cd plm cm h ++ (jrW ct (mb 1) 94 M ++ (jrW ct (mb 2) 94 SP ++ (jrW ct (mb 3) 376 SV ++ (irW ct (mb 4) 150 TX ++ (irW ct (mb 5) 2 NB)))))))))))))) H := hP
  have hD : va_D (fun q : Nat => s.heap.size ≤ q) (x8W u a r q ++ (svW ct r b2 nx sz S ++ (sobjW a ++ (gridW ct a M ++ (benchW ct a M ++ (logW ct a M ++ (txtW ct q TX tl pl ft wd n1 n2 ++ (jrW ct o0 1 O ++ (moW mb sz tl cd plm cm h ++ (jrW ct (mb 1) 94 M ++ (jrW ct (mb 2) 94 SP ++ (jrW ct (mb 3) 376 SV ++ (irW ct (mb 4) 150 TX ++ (irW ct (mb 5) 2 NB)))))))))))))) := hD
  have hs := hR.1
  have ht := hR.2.1
  have hI := hs.1
  have hB := hs.2.1
  have ha := hs.2.2
  have i3 := hI.1
  have i4 := hI.2.1
  have j0 := hB.1
  have j1 := hB.2.1
  have j2 := hB.2.2.1
  have j4 := hB.2.2.2.2
  have t1 := ht.1
  have hn := hR.2.2.1
  have hsz := hR.2.2.2.1
  have hsc := hR.2.2.2.1
  obtain ⟨v1, e1, r1⟩ := zI_any (xs (i + 1).toNat)
  obtain ⟨v2, e2, r2⟩ := zI_any (xs (i + 2).toNat)
  by_cases hok : -300 ≤ v1 ∧ v1 ≤ v2 ∧ v2 ≤ 600
  · skip
    have hv : -2147483648 ≤ sp_range M v1 v2 ∧ sp_range M v1 v2 ≤ 2147483647 := sp_rangeB hB
    refine lv_aload_n hx hb dL_law_1327 rfl (lv_at hl 1 rfl) ?_
    refine lv_aload_n hx hb dL_law_1328 rfl (lv_at hl 0 rfl) ?_
    refine lv_iload hx hb dL_law_1329 (lv_at hl 4 rfl) ?_
    refine z_iconst hx hb dL_law_1331 ?_
    refine z_iadd hx hb dL_law_1332 ?_
    refine z_sld hx hb hX hbl hbA hS (by omega) hL e1 dL_law_1333 ?_
    refine lv_aload_n hx hb dL_law_1334 rfl (lv_at hl 0 rfl) ?_
    refine lv_iload hx hb dL_law_1335 (lv_at hl 4 rfl) ?_
    refine z_iconst hx hb dL_law_1337 ?_
    refine z_iadd hx hb dL_law_1338 ?_
    refine z_sld hx hb hX hbl hbA hS (by omega) hL e2 dL_law_1339 ?_
    refine lv_aload_n hx hb dL_law_1340 rfl (lv_at hl 3 rfl) ?_
    refine z_callSW (As := [.ref u, .int (zI v1), .int (zI v2), .ref o0]) (rest := []) ([] : va_W) (moW mb sz tl cd plm cm h ++ (jrW ct (mb 1) 94 M ++ (jrW ct (mb 2) 94 SP ++ (jrW ct (mb 3) 376 SV ++ (irW ct (mb 4) 150 TX ++ (irW ct (mb 5) 2 NB)))))) hx hb hml hown (fun w h => hts w (inL_173 w h)) hl hE hS hA hP hD (c_L_rangeOfRates_ok l D ct ad u a r q b2 nx sz S M TX tl pl ft n1 n2 wd o0 O v1 v2 (by assumption) (by omega) (by omega) hok hv) gdL_173 rfl k_L_rangeOfRates ⟨Nat.le_of_ble_eq_true rfl, Nat.le_of_ble_eq_true rfl⟩ rfl (Nat.le_of_ble_eq_true rfl) hc0 dL_law_1341 rfl (fun v w1 H locs hpost hP hD hS => ?_)
    obtain ⟨rfl, rfl⟩ := hpost
    have hP : va_P D vwCl (x8W u a r q ++ (svW ct r b2 nx sz S ++ (sobjW a ++ (gridW ct a M ++ (benchW ct a M ++ (logW ct a M ++ (txtW ct q TX tl pl ft wd n1 n2 ++ (jrW ct o0 1 (up O 0 (sp_range M v1 v2)) ++ (moW mb sz tl cd plm cm h ++ (jrW ct (mb 1) 94 M ++ (jrW ct (mb 2) 94 SP ++ (jrW ct (mb 3) 376 SV ++ (irW ct (mb 4) 150 TX ++ (irW ct (mb 5) 2 NB)))))))))))))) H := hP
    have hD : va_D (fun q : Nat => s.heap.size ≤ q) (x8W u a r q ++ (svW ct r b2 nx sz S ++ (sobjW a ++ (gridW ct a M ++ (benchW ct a M ++ (logW ct a M ++ (txtW ct q TX tl pl ft wd n1 n2 ++ (jrW ct o0 1 (up O 0 (sp_range M v1 v2)) ++ (moW mb sz tl cd plm cm h ++ (jrW ct (mb 1) 94 M ++ (jrW ct (mb 2) 94 SP ++ (jrW ct (mb 3) 376 SV ++ (irW ct (mb 4) 150 TX ++ (irW ct (mb 5) 2 NB)))))))))))))) := hD
    refine W.eq (g2 := F0 m 1344 ls [.int (zI 0)]) rfl ?_
    refine lv_istore (lv' := [(5, .int (zI 0)), (0, .ref b), (1, .ref u), (2, .ref (mb 0)), (3, .ref o0), (4, .int (zI i))]) hx hb dL_law_1344 hl (by decide) rfl (fun ls hl => ?_)
    refine lv_aload_n hx hb dL_law_1346 rfl (lv_at hl 3 rfl) ?_
    refine lv_aload_n hx hb dL_law_1347 rfl (lv_at hl 1 rfl) ?_
    refine lv_iload hx hb dL_law_1348 (lv_at hl 5 rfl) ?_
    refine z_iconst hx hb dL_law_1350 ?_
    refine z_iadd hx hb dL_law_1351 ?_
    refine z_sld hx hb hX hbl hbA hS (by omega) hL e1 dL_law_1352 ?_
    refine lv_aload_n hx hb dL_law_1353 rfl (lv_at hl 1 rfl) ?_
    refine lv_iload hx hb dL_law_1354 (lv_at hl 5 rfl) ?_
    refine z_iconst hx hb dL_law_1356 ?_
    refine z_iadd hx hb dL_law_1357 ?_
    refine z_sld hx hb hX hbl hbA hS (by omega) hL e2 dL_law_1358 ?_
    refine z_callV (C := RX9) (q0 := 0) (ci := 7) (As := [.int (zI v1), .int (zI v2)]) (rest := []) (x8W u a r q ++ (svW ct r b2 nx sz S ++ (sobjW a ++ (gridW ct a M ++ (benchW ct a M ++ (logW ct a M ++ (txtW ct q TX tl pl ft wd n1 n2 ++ (jrW ct o0 1 (up O 0 (sp_range M v1 v2)))))))))) ([] : va_W) hx hb hml hown (fun w h => hts w (inL_175 w h)) hl hE hS hA (zr0 (x8W u a r q ++ (svW ct r b2 nx sz S ++ (sobjW a ++ (gridW ct a M ++ (benchW ct a M ++ (logW ct a M ++ (txtW ct q TX tl pl ft wd n1 n2 ++ (jrW ct o0 1 (up O 0 (sp_range M v1 v2)))))))))) hP) (zr0D (x8W u a r q ++ (svW ct r b2 nx sz S ++ (sobjW a ++ (gridW ct a M ++ (benchW ct a M ++ (logW ct a M ++ (txtW ct q TX tl pl ft wd n1 n2 ++ (jrW ct o0 1 (up O 0 (sp_range M v1 v2)))))))))) hD) (c_X9_rangeOfRates_ok l D ct ad mb M SP SV TX NB sz tl cd plm cm h v1 v2 (by assumption) (by assumption) (by omega) (by omega) (if_pos hok)) gdL_175 rfl rfl k_X9_rangeOfRates ⟨Nat.le_of_ble_eq_true rfl, Nat.le_of_ble_eq_true rfl⟩ rfl rfl rfl rfl (Nat.le_of_ble_eq_true rfl) hc0 dL_law_1359 rfl (fun v w1 H locs hpost hP hD hS => ?_)
    obtain ⟨rfl, rfl⟩ := hpost
    have hP := zr0' hP
    have hD := zr0D' hD
    have hP : va_P D vwCl (x8W u a r q ++ (svW ct r b2 nx sz S ++ (sobjW a ++ (gridW ct a M ++ (benchW ct a M ++ (logW ct a M ++ (txtW ct q TX tl pl ft wd n1 n2 ++ (jrW ct o0 1 (up O 0 (sp_range M v1 v2)) ++ (moW mb sz tl (ck_b (-300 ≤ v1 ∧ v1 ≤ v2 ∧ v2 ≤ 600)) plm cm h ++ (jrW ct (mb 1) 94 M ++ (jrW ct (mb 2) 94 SP ++ (jrW ct (mb 3) 376 SV ++ (irW ct (mb 4) 150 TX ++ (irW ct (mb 5) 2 NB)))))))))))))) H := hP
    have hD : va_D (fun q : Nat => s.heap.size ≤ q) (x8W u a r q ++ (svW ct r b2 nx sz S ++ (sobjW a ++ (gridW ct a M ++ (benchW ct a M ++ (logW ct a M ++ (txtW ct q TX tl pl ft wd n1 n2 ++ (jrW ct o0 1 (up O 0 (sp_range M v1 v2)) ++ (moW mb sz tl (ck_b (-300 ≤ v1 ∧ v1 ≤ v2 ∧ v2 ≤ 600)) plm cm h ++ (jrW ct (mb 1) 94 M ++ (jrW ct (mb 2) 94 SP ++ (jrW ct (mb 3) 376 SV ++ (irW ct (mb 4) 150 TX ++ (irW ct (mb 5) 2 NB)))))))))))))) := hD
    refine W.eq (g2 := F0 m 1362 ls [.int (zI (sp_range M v1 v2))]) rfl ?_
    refine lv_istore (lv' := [(6, .int (zI (sp_range M v1 v2))), (5, .int (zI 0)), (0, .ref b), (1, .ref u), (2, .ref (mb 0)), (3, .ref o0), (4, .int (zI i))]) hx hb dL_law_1362 hl (by decide) rfl (fun ls hl => ?_)
    refine lv_aload_n hx hb dL_law_1364 rfl (lv_at hl 4 rfl) ?_
    refine z_callV (C := RX9) (q0 := 0) (ci := 7) (As := []) (rest := []) (x8W u a r q ++ (svW ct r b2 nx sz S ++ (sobjW a ++ (gridW ct a M ++ (benchW ct a M ++ (logW ct a M ++ (txtW ct q TX tl pl ft wd n1 n2 ++ (jrW ct o0 1 (up O 0 (sp_range M v1 v2)))))))))) ([] : va_W) hx hb hml hown (fun w h => hts w (inL_94 w h)) hl hE hS hA (zr0 (x8W u a r q ++ (svW ct r b2 nx sz S ++ (sobjW a ++ (gridW ct a M ++ (benchW ct a M ++ (logW ct a M ++ (txtW ct q TX tl pl ft wd n1 n2 ++ (jrW ct o0 1 (up O 0 (sp_range M v1 v2)))))))))) hP) (zr0D (x8W u a r q ++ (svW ct r b2 nx sz S ++ (sobjW a ++ (gridW ct a M ++ (benchW ct a M ++ (logW ct a M ++ (txtW ct q TX tl pl ft wd n1 n2 ++ (jrW ct o0 1 (up O 0 (sp_range M v1 v2)))))))))) hD) (c_X9_thrown l D ct ad mb M SP SV TX NB sz tl (ck_b (-300 ≤ v1 ∧ v1 ≤ v2 ∧ v2 ≤ 600)) plm cm h) gdL_94 rfl rfl k_X9_thrown ⟨Nat.le_of_ble_eq_true rfl, Nat.le_of_ble_eq_true rfl⟩ rfl rfl rfl rfl (Nat.le_of_ble_eq_true rfl) hc0 dL_law_1365 rfl (fun v w1 H locs hpost hP hD hS => ?_)
    obtain ⟨rfl, rfl⟩ := hpost
    have hP := zr0' hP
    have hD := zr0D' hD
    have hP : va_P D vwCl (x8W u a r q ++ (svW ct r b2 nx sz S ++ (sobjW a ++ (gridW ct a M ++ (benchW ct a M ++ (logW ct a M ++ (txtW ct q TX tl pl ft wd n1 n2 ++ (jrW ct o0 1 (up O 0 (sp_range M v1 v2)) ++ (moW mb sz tl (ck_b (-300 ≤ v1 ∧ v1 ≤ v2 ∧ v2 ≤ 600)) plm cm h ++ (jrW ct (mb 1) 94 M ++ (jrW ct (mb 2) 94 SP ++ (jrW ct (mb 3) 376 SV ++ (irW ct (mb 4) 150 TX ++ (irW ct (mb 5) 2 NB)))))))))))))) H := hP
    have hD : va_D (fun q : Nat => s.heap.size ≤ q) (x8W u a r q ++ (svW ct r b2 nx sz S ++ (sobjW a ++ (gridW ct a M ++ (benchW ct a M ++ (logW ct a M ++ (txtW ct q TX tl pl ft wd n1 n2 ++ (jrW ct o0 1 (up O 0 (sp_range M v1 v2)) ++ (moW mb sz tl (ck_b (-300 ≤ v1 ∧ v1 ≤ v2 ∧ v2 ≤ 600)) plm cm h ++ (jrW ct (mb 1) 94 M ++ (jrW ct (mb 2) 94 SP ++ (jrW ct (mb 3) 376 SV ++ (irW ct (mb 4) 150 TX ++ (irW ct (mb 5) 2 NB)))))))))))))) := hD
    refine W.eq (g2 := F0 m 1368 ls [.int (zI (ck_b (-300 ≤ v1 ∧ v1 ≤ v2 ∧ v2 ≤ 600)))]) rfl ?_
    refine lv_iload hx hb dL_law_1368 (lv_at hl 1 rfl) ?_
    refine z_canI (show 0 = ck_b (-300 ≤ v1 ∧ v1 ≤ v2 ∧ v2 ≤ 600) from (if_pos hok).symm) ?_
    refine z_icmp_eqS (tgt := 1375) hx hb dL_law_1370 (by decide) ?_
    refine lv_iload hx hb dL_law_1375 (lv_at hl 1 rfl) ?_
    refine z_if_ne (tgt := 1392) hx hb dL_law_1377 (by decide) (by omega) (fun hc_1377 => ?_) (fun hc_1377 => ?_)
    · have hc_1377 := hc_1377
      exfalso; first | omega | (revert hc_1377; unfold ck1; split <;> omega)
    · have hc_1377 := hc_1377
      refine lv_aload_n hx hb dL_law_1380 rfl (lv_at hl 5 rfl) ?_
      refine z_iconst hx hb dL_law_1381 ?_
      refine z_lald (g := (up O 0 (sp_range M v1 v2))) (v := sp_range M v1 v2) hx hb hK hP 60 rfl (by decide) (by omega) (show (up O 0 (sp_range M v1 v2)) 0 = sp_range M v1 v2 from by rw [up_s]) dL_law_1382 ?_
      refine lv_iload hx hb dL_law_1383 (lv_at hl 0 rfl) ?_
      refine z_i2l hx hb dL_law_1385 (by omega) ?_
      refine z_lcmp_eqS (tgt := 1392) hx hb dL_law_1386 dL_law_1387 (by decide) ?_
      refine lv_goto (tgt := 1590) hx hb dL_law_1392 (by decide) ?_
      refine W.widen (k := cells + 1) (n := slots + 6) (Nat.le_add_right _ _) (Nat.le_add_right _ _) ?_
      exact ih _ _ _ ⟨nx, sz, S, M, TX, tl, pl, ft, n1, n2, wd, (up O 0 (sp_range M v1 v2)), SP, SV, NB, (ck_b (-300 ≤ v1 ∧ v1 ≤ v2 ∧ v2 ≤ 600)), plm, cm, h, hR, hP, hD, hS, lv_sub hl [2, 3, 4, 5, 6] rfl⟩
  · skip
    refine lv_aload_n hx hb dL_law_1327 rfl (lv_at hl 1 rfl) ?_
    refine lv_aload_n hx hb dL_law_1328 rfl (lv_at hl 0 rfl) ?_
    refine lv_iload hx hb dL_law_1329 (lv_at hl 4 rfl) ?_
    refine z_iconst hx hb dL_law_1331 ?_
    refine z_iadd hx hb dL_law_1332 ?_
    refine z_sld hx hb hX hbl hbA hS (by omega) hL e1 dL_law_1333 ?_
    refine lv_aload_n hx hb dL_law_1334 rfl (lv_at hl 0 rfl) ?_
    refine lv_iload hx hb dL_law_1335 (lv_at hl 4 rfl) ?_
    refine z_iconst hx hb dL_law_1337 ?_
    refine z_iadd hx hb dL_law_1338 ?_
    refine z_sld hx hb hX hbl hbA hS (by omega) hL e2 dL_law_1339 ?_
    refine lv_aload_n hx hb dL_law_1340 rfl (lv_at hl 3 rfl) ?_
    refine z_callSW (As := [.ref u, .int (zI v1), .int (zI v2), .ref o0]) (rest := []) ([] : va_W) (moW mb sz tl cd plm cm h ++ (jrW ct (mb 1) 94 M ++ (jrW ct (mb 2) 94 SP ++ (jrW ct (mb 3) 376 SV ++ (irW ct (mb 4) 150 TX ++ (irW ct (mb 5) 2 NB)))))) hx hb hml hown (fun w h => hts w (inL_173 w h)) hl hE hS hA hP hD (c_L_rangeOfRates_no l D ct ad u a r q b2 nx sz S M TX tl pl ft n1 n2 wd o0 O v1 v2 (by assumption) hst (by omega) (by omega) hok) gdL_173 rfl k_L_rangeOfRates ⟨Nat.le_of_ble_eq_true rfl, Nat.le_of_ble_eq_true rfl⟩ rfl (Nat.le_of_ble_eq_true rfl) hc1 dL_law_1341 rfl (fun v w1 H locs hpost hP hD hS => ?_)
    obtain ⟨rfl, rfl⟩ := hpost
    have hP : va_P D vwCl (x8W u a r q ++ (svW ct r b2 nx sz S ++ (sobjW a ++ (gridW ct a M ++ (benchW ct a M ++ (logW ct a M ++ (txtW ct q TX tl pl ft wd n1 n2 ++ (jrW ct o0 1 O ++ (moW mb sz tl cd plm cm h ++ (jrW ct (mb 1) 94 M ++ (jrW ct (mb 2) 94 SP ++ (jrW ct (mb 3) 376 SV ++ (irW ct (mb 4) 150 TX ++ (irW ct (mb 5) 2 NB)))))))))))))) H := hP
    have hD : va_D (fun q : Nat => s.heap.size ≤ q) (x8W u a r q ++ (svW ct r b2 nx sz S ++ (sobjW a ++ (gridW ct a M ++ (benchW ct a M ++ (logW ct a M ++ (txtW ct q TX tl pl ft wd n1 n2 ++ (jrW ct o0 1 O ++ (moW mb sz tl cd plm cm h ++ (jrW ct (mb 1) 94 M ++ (jrW ct (mb 2) 94 SP ++ (jrW ct (mb 3) 376 SV ++ (irW ct (mb 4) 150 TX ++ (irW ct (mb 5) 2 NB)))))))))))))) := hD
    refine W.eq (g2 := F0 m 1344 ls [.int (zI 1)]) rfl ?_
    refine lv_istore (lv' := [(5, .int (zI 1)), (0, .ref b), (1, .ref u), (2, .ref (mb 0)), (3, .ref o0), (4, .int (zI i))]) hx hb dL_law_1344 hl (by decide) rfl (fun ls hl => ?_)
    refine lv_aload_n hx hb dL_law_1346 rfl (lv_at hl 3 rfl) ?_
    refine lv_aload_n hx hb dL_law_1347 rfl (lv_at hl 1 rfl) ?_
    refine lv_iload hx hb dL_law_1348 (lv_at hl 5 rfl) ?_
    refine z_iconst hx hb dL_law_1350 ?_
    refine z_iadd hx hb dL_law_1351 ?_
    refine z_sld hx hb hX hbl hbA hS (by omega) hL e1 dL_law_1352 ?_
    refine lv_aload_n hx hb dL_law_1353 rfl (lv_at hl 1 rfl) ?_
    refine lv_iload hx hb dL_law_1354 (lv_at hl 5 rfl) ?_
    refine z_iconst hx hb dL_law_1356 ?_
    refine z_iadd hx hb dL_law_1357 ?_
    refine z_sld hx hb hX hbl hbA hS (by omega) hL e2 dL_law_1358 ?_
    refine z_callV (C := RX9) (q0 := 0) (ci := 7) (As := [.int (zI v1), .int (zI v2)]) (rest := []) (x8W u a r q ++ (svW ct r b2 nx sz S ++ (sobjW a ++ (gridW ct a M ++ (benchW ct a M ++ (logW ct a M ++ (txtW ct q TX tl pl ft wd n1 n2 ++ (jrW ct o0 1 O)))))))) ([] : va_W) hx hb hml hown (fun w h => hts w (inL_175 w h)) hl hE hS hA (zr0 (x8W u a r q ++ (svW ct r b2 nx sz S ++ (sobjW a ++ (gridW ct a M ++ (benchW ct a M ++ (logW ct a M ++ (txtW ct q TX tl pl ft wd n1 n2 ++ (jrW ct o0 1 O)))))))) hP) (zr0D (x8W u a r q ++ (svW ct r b2 nx sz S ++ (sobjW a ++ (gridW ct a M ++ (benchW ct a M ++ (logW ct a M ++ (txtW ct q TX tl pl ft wd n1 n2 ++ (jrW ct o0 1 O)))))))) hD) (c_X9_rangeOfRates_no l D ct ad mb M SP SV TX NB sz tl cd plm cm h v1 v2 (by assumption) (by assumption) (by omega) (by omega) (by unfold ck_b; rw [if_neg hok]; omega)) gdL_175 rfl rfl k_X9_rangeOfRates ⟨Nat.le_of_ble_eq_true rfl, Nat.le_of_ble_eq_true rfl⟩ rfl rfl rfl rfl (Nat.le_of_ble_eq_true rfl) hc1 dL_law_1359 rfl (fun v w1 H locs hpost hP hD hS => ?_)
    obtain ⟨rfl, rfl⟩ := hpost
    have hP := zr0' hP
    have hD := zr0D' hD
    have hP : va_P D vwCl (x8W u a r q ++ (svW ct r b2 nx sz S ++ (sobjW a ++ (gridW ct a M ++ (benchW ct a M ++ (logW ct a M ++ (txtW ct q TX tl pl ft wd n1 n2 ++ (jrW ct o0 1 O ++ (moW mb sz tl (ck_b (-300 ≤ v1 ∧ v1 ≤ v2 ∧ v2 ≤ 600)) plm cm h ++ (jrW ct (mb 1) 94 M ++ (jrW ct (mb 2) 94 SP ++ (jrW ct (mb 3) 376 SV ++ (irW ct (mb 4) 150 TX ++ (irW ct (mb 5) 2 NB)))))))))))))) H := hP
    have hD : va_D (fun q : Nat => s.heap.size ≤ q) (x8W u a r q ++ (svW ct r b2 nx sz S ++ (sobjW a ++ (gridW ct a M ++ (benchW ct a M ++ (logW ct a M ++ (txtW ct q TX tl pl ft wd n1 n2 ++ (jrW ct o0 1 O ++ (moW mb sz tl (ck_b (-300 ≤ v1 ∧ v1 ≤ v2 ∧ v2 ≤ 600)) plm cm h ++ (jrW ct (mb 1) 94 M ++ (jrW ct (mb 2) 94 SP ++ (jrW ct (mb 3) 376 SV ++ (irW ct (mb 4) 150 TX ++ (irW ct (mb 5) 2 NB)))))))))))))) := hD
    refine W.eq (g2 := F0 m 1362 ls [.int (zI 0)]) rfl ?_
    refine lv_istore (lv' := [(6, .int (zI 0)), (5, .int (zI 1)), (0, .ref b), (1, .ref u), (2, .ref (mb 0)), (3, .ref o0), (4, .int (zI i))]) hx hb dL_law_1362 hl (by decide) rfl (fun ls hl => ?_)
    refine lv_aload_n hx hb dL_law_1364 rfl (lv_at hl 4 rfl) ?_
    refine z_callV (C := RX9) (q0 := 0) (ci := 7) (As := []) (rest := []) (x8W u a r q ++ (svW ct r b2 nx sz S ++ (sobjW a ++ (gridW ct a M ++ (benchW ct a M ++ (logW ct a M ++ (txtW ct q TX tl pl ft wd n1 n2 ++ (jrW ct o0 1 O)))))))) ([] : va_W) hx hb hml hown (fun w h => hts w (inL_94 w h)) hl hE hS hA (zr0 (x8W u a r q ++ (svW ct r b2 nx sz S ++ (sobjW a ++ (gridW ct a M ++ (benchW ct a M ++ (logW ct a M ++ (txtW ct q TX tl pl ft wd n1 n2 ++ (jrW ct o0 1 O)))))))) hP) (zr0D (x8W u a r q ++ (svW ct r b2 nx sz S ++ (sobjW a ++ (gridW ct a M ++ (benchW ct a M ++ (logW ct a M ++ (txtW ct q TX tl pl ft wd n1 n2 ++ (jrW ct o0 1 O)))))))) hD) (c_X9_thrown l D ct ad mb M SP SV TX NB sz tl (ck_b (-300 ≤ v1 ∧ v1 ≤ v2 ∧ v2 ≤ 600)) plm cm h) gdL_94 rfl rfl k_X9_thrown ⟨Nat.le_of_ble_eq_true rfl, Nat.le_of_ble_eq_true rfl⟩ rfl rfl rfl rfl (Nat.le_of_ble_eq_true rfl) hc1 dL_law_1365 rfl (fun v w1 H locs hpost hP hD hS => ?_)
    obtain ⟨rfl, rfl⟩ := hpost
    have hP := zr0' hP
    have hD := zr0D' hD
    have hP : va_P D vwCl (x8W u a r q ++ (svW ct r b2 nx sz S ++ (sobjW a ++ (gridW ct a M ++ (benchW ct a M ++ (logW ct a M ++ (txtW ct q TX tl pl ft wd n1 n2 ++ (jrW ct o0 1 O ++ (moW mb sz tl (ck_b (-300 ≤ v1 ∧ v1 ≤ v2 ∧ v2 ≤ 600)) plm cm h ++ (jrW ct (mb 1) 94 M ++ (jrW ct (mb 2) 94 SP ++ (jrW ct (mb 3) 376 SV ++ (irW ct (mb 4) 150 TX ++ (irW ct (mb 5) 2 NB)))))))))))))) H := hP
    have hD : va_D (fun q : Nat => s.heap.size ≤ q) (x8W u a r q ++ (svW ct r b2 nx sz S ++ (sobjW a ++ (gridW ct a M ++ (benchW ct a M ++ (logW ct a M ++ (txtW ct q TX tl pl ft wd n1 n2 ++ (jrW ct o0 1 O ++ (moW mb sz tl (ck_b (-300 ≤ v1 ∧ v1 ≤ v2 ∧ v2 ≤ 600)) plm cm h ++ (jrW ct (mb 1) 94 M ++ (jrW ct (mb 2) 94 SP ++ (jrW ct (mb 3) 376 SV ++ (irW ct (mb 4) 150 TX ++ (irW ct (mb 5) 2 NB)))))))))))))) := hD
    refine W.eq (g2 := F0 m 1368 ls [.int (zI (ck_b (-300 ≤ v1 ∧ v1 ≤ v2 ∧ v2 ≤ 600)))]) rfl ?_
    refine lv_iload hx hb dL_law_1368 (lv_at hl 1 rfl) ?_
    refine z_canI (show 1 = ck_b (-300 ≤ v1 ∧ v1 ≤ v2 ∧ v2 ≤ 600) from (if_neg hok).symm) ?_
    refine z_icmp_eqS (tgt := 1375) hx hb dL_law_1370 (by decide) ?_
    refine lv_iload hx hb dL_law_1375 (lv_at hl 1 rfl) ?_
    refine z_if_ne (tgt := 1392) hx hb dL_law_1377 (by decide) (by omega) (fun hc_1377 => ?_) (fun hc_1377 => ?_)
    · have hc_1377 := hc_1377
      refine lv_goto (tgt := 1590) hx hb dL_law_1392 (by decide) ?_
      exact ih _ _ _ ⟨nx, sz, S, M, TX, tl, pl, ft, n1, n2, wd, O, SP, SV, NB, (ck_b (-300 ≤ v1 ∧ v1 ≤ v2 ∧ v2 ≤ 600)), plm, cm, h, hR, hP, hD, hS, lv_sub hl [2, 3, 4, 5, 6] rfl⟩
    · have hc_1377 := hc_1377
      exfalso; first | omega | (revert hc_1377; unfold ck1; split <;> omega)
set_option maxHeartbeats 4000000 in
set_option maxRecDepth 100000 in
theorem law_c24 (p : Program) (l : Launch) (e : Env) (s : State) (m : MethodId) (below : List Frame) (meth : Method) (c : Code) (D : va_G) (ct ad : Nat → Nat) (b L : Nat) (xs : Nat → Int32) (u : Nat) (a r q : Nat → Nat) (b2 : Nat → Nat → Nat) (o0 : Nat) (mb : Nat → Nat) (hC : lwC p l s m meth c D ct ad b L xs) (i : Int) (hi : 0 ≤ i ∧ i + 4 ≤ (L : Int)) (cells slots : Nat) (hcap : cells + 1 ≤ 601024 ∧ slots + 6 ≤ 7293034) (ih : ∀ (H : Heap) (locs : List Loc) (ls : Array Slot), lwI s D ct b u a r q b2 o0 mb i H locs ls → W p l e room_1 s m #[Value.ref b] below meth c H locs (cells + 1) (slots + 6) (lw_Z below #[Value.ref b] s) (F0 m 1590 ls [])) (H : Heap) (locs : List Loc) (ls : Array Slot) (hI0 : lwI s D ct b u a r q b2 o0 mb i H locs ls) : W p l e room_1 s m #[Value.ref b] below meth c H locs cells slots (lw_Z below #[Value.ref b] s) (F0 m 1395 ls []) := by
  obtain ⟨hx, hb, hr, hml, hown, hts, hX, hbl, hlocks, hE, hst, hL⟩ := hC
  obtain ⟨nx, sz, S, M, TX, tl, pl, ft, n1, n2, wd, O, SP, SV, NB, cd, plm, cm, h, hR, hP, hD, hS, hl⟩ := hI0
  have hA : ∀ q : Nat, s.heap.size ≤ q → (fun q : Nat => s.heap.size ≤ q) q := fun _ h => h
  have hbA : ¬ (fun q : Nat => s.heap.size ≤ q) b := Nat.not_le.mpr hbl
  have hK := hE.1
  have hc0 : cells ≤ room_1.cells ∧ slots ≤ room_1.slots := by show cells ≤ 601024 ∧ slots ≤ 7293034; omega
  have hc1 : cells + 1 ≤ room_1.cells ∧ slots + 6 ≤ room_1.slots := hcap
  have hP : va_P D vwCl (x8W u a r q ++ (svW ct r b2 nx sz S ++ (sobjW a ++ (gridW ct a M ++ (benchW ct a M ++ (logW ct a M ++ (txtW ct q TX tl pl ft wd n1 n2 ++ (jrW ct o0 1 O ++ (moW mb sz tl cd plm cm h ++ (jrW ct (mb 1) 94 M ++ (jrW ct (mb 2) 94 SP ++ (jrW ct (mb 3) 376 SV ++ (irW ct (mb 4) 150 TX ++ (irW ct (mb 5) 2 NB)))))))))))))) H := hP
  have hD : va_D (fun q : Nat => s.heap.size ≤ q) (x8W u a r q ++ (svW ct r b2 nx sz S ++ (sobjW a ++ (gridW ct a M ++ (benchW ct a M ++ (logW ct a M ++ (txtW ct q TX tl pl ft wd n1 n2 ++ (jrW ct o0 1 O ++ (moW mb sz tl cd plm cm h ++ (jrW ct (mb 1) 94 M ++ (jrW ct (mb 2) 94 SP ++ (jrW ct (mb 3) 376 SV ++ (irW ct (mb 4) 150 TX ++ (irW ct (mb 5) 2 NB)))))))))))))) := hD
  have hs := hR.1
  have ht := hR.2.1
  have hI := hs.1
  have hB := hs.2.1
  have ha := hs.2.2
  have i3 := hI.1
  have i4 := hI.2.1
  have j0 := hB.1
  have j1 := hB.2.1
  have j2 := hB.2.2.1
  have j4 := hB.2.2.2.2
  have t1 := ht.1
  have hn := hR.2.2.1
  have hsz := hR.2.2.2.1
  have hsc := hR.2.2.2.1
  obtain ⟨v1, e1, r1⟩ := zI_any (xs (i + 1).toNat)
  by_cases hok : 0 ≤ v1 ∧ v1 ≤ 500
  · skip
    refine lv_aload_n hx hb dL_law_1395 rfl (lv_at hl 1 rfl) ?_
    refine lv_aload_n hx hb dL_law_1396 rfl (lv_at hl 0 rfl) ?_
    refine lv_iload hx hb dL_law_1397 (lv_at hl 4 rfl) ?_
    refine z_iconst hx hb dL_law_1399 ?_
    refine z_iadd hx hb dL_law_1400 ?_
    refine z_sld hx hb hX hbl hbA hS (by omega) hL e1 dL_law_1401 ?_
    refine lv_aload_n hx hb dL_law_1402 rfl (lv_at hl 3 rfl) ?_
    refine z_callSW (As := [.ref u, .int (zI v1), .ref o0]) (rest := []) ([] : va_W) (moW mb sz tl cd plm cm h ++ (jrW ct (mb 1) 94 M ++ (jrW ct (mb 2) 94 SP ++ (jrW ct (mb 3) 376 SV ++ (irW ct (mb 4) 150 TX ++ (irW ct (mb 5) 2 NB)))))) hx hb hml hown (fun w h => hts w (inL_176 w h)) hl hE hS hA hP hD (c_L_changeWithin_ok l D ct ad u a r q b2 nx sz S M TX tl pl ft n1 n2 wd o0 O v1 (by assumption) (by omega) hok) gdL_176 rfl k_L_changeWithin ⟨Nat.le_of_ble_eq_true rfl, Nat.le_of_ble_eq_true rfl⟩ rfl (Nat.le_of_ble_eq_true rfl) hc0 dL_law_1403 rfl (fun v w1 H locs hpost hP hD hS => ?_)
    obtain ⟨rfl, rfl⟩ := hpost
    have hP : va_P D vwCl (x8W u a r q ++ (svW ct r b2 nx sz S ++ (sobjW a ++ (gridW ct a M ++ (benchW ct a M ++ (logW ct a M ++ (txtW ct q TX tl pl ft wd n1 n2 ++ (jrW ct o0 1 (up O 0 (sp_cs M (min v1 (M 8)).toNat)) ++ (moW mb sz tl cd plm cm h ++ (jrW ct (mb 1) 94 M ++ (jrW ct (mb 2) 94 SP ++ (jrW ct (mb 3) 376 SV ++ (irW ct (mb 4) 150 TX ++ (irW ct (mb 5) 2 NB)))))))))))))) H := hP
    have hD : va_D (fun q : Nat => s.heap.size ≤ q) (x8W u a r q ++ (svW ct r b2 nx sz S ++ (sobjW a ++ (gridW ct a M ++ (benchW ct a M ++ (logW ct a M ++ (txtW ct q TX tl pl ft wd n1 n2 ++ (jrW ct o0 1 (up O 0 (sp_cs M (min v1 (M 8)).toNat)) ++ (moW mb sz tl cd plm cm h ++ (jrW ct (mb 1) 94 M ++ (jrW ct (mb 2) 94 SP ++ (jrW ct (mb 3) 376 SV ++ (irW ct (mb 4) 150 TX ++ (irW ct (mb 5) 2 NB)))))))))))))) := hD
    refine W.eq (g2 := F0 m 1406 ls [.int (zI 0)]) rfl ?_
    refine lv_istore (lv' := [(5, .int (zI 0)), (0, .ref b), (1, .ref u), (2, .ref (mb 0)), (3, .ref o0), (4, .int (zI i))]) hx hb dL_law_1406 hl (by decide) rfl (fun ls hl => ?_)
    refine lv_aload_n hx hb dL_law_1408 rfl (lv_at hl 3 rfl) ?_
    refine lv_aload_n hx hb dL_law_1409 rfl (lv_at hl 1 rfl) ?_
    refine lv_iload hx hb dL_law_1410 (lv_at hl 5 rfl) ?_
    refine z_iconst hx hb dL_law_1412 ?_
    refine z_iadd hx hb dL_law_1413 ?_
    refine z_sld hx hb hX hbl hbA hS (by omega) hL e1 dL_law_1414 ?_
    refine z_callV (C := RX9) (q0 := 0) (ci := 7) (As := [.int (zI v1)]) (rest := []) (x8W u a r q ++ (svW ct r b2 nx sz S ++ (sobjW a ++ (gridW ct a M ++ (benchW ct a M ++ (logW ct a M ++ (txtW ct q TX tl pl ft wd n1 n2 ++ (jrW ct o0 1 (up O 0 (sp_cs M (min v1 (M 8)).toNat)))))))))) ([] : va_W) hx hb hml hown (fun w h => hts w (inL_178 w h)) hl hE hS hA (zr0 (x8W u a r q ++ (svW ct r b2 nx sz S ++ (sobjW a ++ (gridW ct a M ++ (benchW ct a M ++ (logW ct a M ++ (txtW ct q TX tl pl ft wd n1 n2 ++ (jrW ct o0 1 (up O 0 (sp_cs M (min v1 (M 8)).toNat)))))))))) hP) (zr0D (x8W u a r q ++ (svW ct r b2 nx sz S ++ (sobjW a ++ (gridW ct a M ++ (benchW ct a M ++ (logW ct a M ++ (txtW ct q TX tl pl ft wd n1 n2 ++ (jrW ct o0 1 (up O 0 (sp_cs M (min v1 (M 8)).toNat)))))))))) hD) (c_X9_changeWithin_ok l D ct ad mb M SP SV TX NB sz tl cd plm cm h v1 (by assumption) (by assumption) (by omega) ha (if_pos hok)) gdL_178 rfl rfl k_X9_changeWithin ⟨Nat.le_of_ble_eq_true rfl, Nat.le_of_ble_eq_true rfl⟩ rfl rfl rfl rfl (Nat.le_of_ble_eq_true rfl) hc0 dL_law_1415 rfl (fun v w1 H locs hpost hP hD hS => ?_)
    obtain ⟨rfl, rfl⟩ := hpost
    have hP := zr0' hP
    have hD := zr0D' hD
    have hP : va_P D vwCl (x8W u a r q ++ (svW ct r b2 nx sz S ++ (sobjW a ++ (gridW ct a M ++ (benchW ct a M ++ (logW ct a M ++ (txtW ct q TX tl pl ft wd n1 n2 ++ (jrW ct o0 1 (up O 0 (sp_cs M (min v1 (M 8)).toNat)) ++ (moW mb sz tl (ck_b (0 ≤ v1 ∧ v1 ≤ 500)) plm cm h ++ (jrW ct (mb 1) 94 M ++ (jrW ct (mb 2) 94 (brN M SP 0 0 94) ++ (jrW ct (mb 3) 376 SV ++ (irW ct (mb 4) 150 TX ++ (irW ct (mb 5) 2 NB)))))))))))))) H := hP
    have hD : va_D (fun q : Nat => s.heap.size ≤ q) (x8W u a r q ++ (svW ct r b2 nx sz S ++ (sobjW a ++ (gridW ct a M ++ (benchW ct a M ++ (logW ct a M ++ (txtW ct q TX tl pl ft wd n1 n2 ++ (jrW ct o0 1 (up O 0 (sp_cs M (min v1 (M 8)).toNat)) ++ (moW mb sz tl (ck_b (0 ≤ v1 ∧ v1 ≤ 500)) plm cm h ++ (jrW ct (mb 1) 94 M ++ (jrW ct (mb 2) 94 (brN M SP 0 0 94) ++ (jrW ct (mb 3) 376 SV ++ (irW ct (mb 4) 150 TX ++ (irW ct (mb 5) 2 NB)))))))))))))) := hD
    refine W.eq (g2 := F0 m 1418 ls [.long (zJ (sp_cs M (min v1 (M 8)).toNat))]) rfl ?_
    refine lv_lstore (lv' := [(6, .long (zJ (sp_cs M (min v1 (M 8)).toNat))), (5, .int (zI 0)), (0, .ref b), (1, .ref u), (2, .ref (mb 0)), (3, .ref o0), (4, .int (zI i))]) hx hb dL_law_1418 hl (by decide) rfl (fun ls hl => ?_)
    refine lv_aload_n hx hb dL_law_1420 rfl (lv_at hl 4 rfl) ?_
    refine z_callV (C := RX9) (q0 := 0) (ci := 7) (As := []) (rest := []) (x8W u a r q ++ (svW ct r b2 nx sz S ++ (sobjW a ++ (gridW ct a M ++ (benchW ct a M ++ (logW ct a M ++ (txtW ct q TX tl pl ft wd n1 n2 ++ (jrW ct o0 1 (up O 0 (sp_cs M (min v1 (M 8)).toNat)))))))))) ([] : va_W) hx hb hml hown (fun w h => hts w (inL_94 w h)) hl hE hS hA (zr0 (x8W u a r q ++ (svW ct r b2 nx sz S ++ (sobjW a ++ (gridW ct a M ++ (benchW ct a M ++ (logW ct a M ++ (txtW ct q TX tl pl ft wd n1 n2 ++ (jrW ct o0 1 (up O 0 (sp_cs M (min v1 (M 8)).toNat)))))))))) hP) (zr0D (x8W u a r q ++ (svW ct r b2 nx sz S ++ (sobjW a ++ (gridW ct a M ++ (benchW ct a M ++ (logW ct a M ++ (txtW ct q TX tl pl ft wd n1 n2 ++ (jrW ct o0 1 (up O 0 (sp_cs M (min v1 (M 8)).toNat)))))))))) hD) (c_X9_thrown l D ct ad mb M (brN M SP 0 0 94) SV TX NB sz tl (ck_b (0 ≤ v1 ∧ v1 ≤ 500)) plm cm h) gdL_94 rfl rfl k_X9_thrown ⟨Nat.le_of_ble_eq_true rfl, Nat.le_of_ble_eq_true rfl⟩ rfl rfl rfl rfl (Nat.le_of_ble_eq_true rfl) hc0 dL_law_1421 rfl (fun v w1 H locs hpost hP hD hS => ?_)
    obtain ⟨rfl, rfl⟩ := hpost
    have hP := zr0' hP
    have hD := zr0D' hD
    have hP : va_P D vwCl (x8W u a r q ++ (svW ct r b2 nx sz S ++ (sobjW a ++ (gridW ct a M ++ (benchW ct a M ++ (logW ct a M ++ (txtW ct q TX tl pl ft wd n1 n2 ++ (jrW ct o0 1 (up O 0 (sp_cs M (min v1 (M 8)).toNat)) ++ (moW mb sz tl (ck_b (0 ≤ v1 ∧ v1 ≤ 500)) plm cm h ++ (jrW ct (mb 1) 94 M ++ (jrW ct (mb 2) 94 (brN M SP 0 0 94) ++ (jrW ct (mb 3) 376 SV ++ (irW ct (mb 4) 150 TX ++ (irW ct (mb 5) 2 NB)))))))))))))) H := hP
    have hD : va_D (fun q : Nat => s.heap.size ≤ q) (x8W u a r q ++ (svW ct r b2 nx sz S ++ (sobjW a ++ (gridW ct a M ++ (benchW ct a M ++ (logW ct a M ++ (txtW ct q TX tl pl ft wd n1 n2 ++ (jrW ct o0 1 (up O 0 (sp_cs M (min v1 (M 8)).toNat)) ++ (moW mb sz tl (ck_b (0 ≤ v1 ∧ v1 ≤ 500)) plm cm h ++ (jrW ct (mb 1) 94 M ++ (jrW ct (mb 2) 94 (brN M SP 0 0 94) ++ (jrW ct (mb 3) 376 SV ++ (irW ct (mb 4) 150 TX ++ (irW ct (mb 5) 2 NB)))))))))))))) := hD
    refine W.eq (g2 := F0 m 1424 ls [.int (zI (ck_b (0 ≤ v1 ∧ v1 ≤ 500)))]) rfl ?_
    refine lv_iload hx hb dL_law_1424 (lv_at hl 1 rfl) ?_
    refine z_canI (show 0 = ck_b (0 ≤ v1 ∧ v1 ≤ 500) from (if_pos hok).symm) ?_
    refine z_icmp_eqS (tgt := 1431) hx hb dL_law_1426 (by decide) ?_
    refine lv_iload hx hb dL_law_1431 (lv_at hl 1 rfl) ?_
    refine z_if_ne (tgt := 1447) hx hb dL_law_1433 (by decide) (by omega) (fun hc_1433 => ?_) (fun hc_1433 => ?_)
    · have hc_1433 := hc_1433
      exfalso; first | omega | (revert hc_1433; unfold ck1; split <;> omega)
    · have hc_1433 := hc_1433
      refine lv_aload_n hx hb dL_law_1436 rfl (lv_at hl 5 rfl) ?_
      refine z_iconst hx hb dL_law_1437 ?_
      refine z_lald (g := (up O 0 (sp_cs M (min v1 (M 8)).toNat))) (v := sp_cs M (min v1 (M 8)).toNat) hx hb hK hP 60 rfl (by decide) (by omega) (show (up O 0 (sp_cs M (min v1 (M 8)).toNat)) 0 = sp_cs M (min v1 (M 8)).toNat from by rw [up_s]) dL_law_1438 ?_
      refine lv_lload hx hb dL_law_1439 (lv_at hl 0 rfl) ?_
      refine z_lcmp_eqS (tgt := 1447) hx hb dL_law_1441 dL_law_1442 (by decide) ?_
      refine lv_goto (tgt := 1590) hx hb dL_law_1447 (by decide) ?_
      refine W.widen (k := cells + 1) (n := slots + 6) (Nat.le_add_right _ _) (Nat.le_add_right _ _) ?_
      exact ih _ _ _ ⟨nx, sz, S, M, TX, tl, pl, ft, n1, n2, wd, (up O 0 (sp_cs M (min v1 (M 8)).toNat)), (brN M SP 0 0 94), SV, NB, (ck_b (0 ≤ v1 ∧ v1 ≤ 500)), plm, cm, h, hR, hP, hD, hS, lv_sub hl [2, 3, 4, 5, 6] rfl⟩
  · skip
    refine lv_aload_n hx hb dL_law_1395 rfl (lv_at hl 1 rfl) ?_
    refine lv_aload_n hx hb dL_law_1396 rfl (lv_at hl 0 rfl) ?_
    refine lv_iload hx hb dL_law_1397 (lv_at hl 4 rfl) ?_
    refine z_iconst hx hb dL_law_1399 ?_
    refine z_iadd hx hb dL_law_1400 ?_
    refine z_sld hx hb hX hbl hbA hS (by omega) hL e1 dL_law_1401 ?_
    refine lv_aload_n hx hb dL_law_1402 rfl (lv_at hl 3 rfl) ?_
    refine z_callSW (As := [.ref u, .int (zI v1), .ref o0]) (rest := []) ([] : va_W) (moW mb sz tl cd plm cm h ++ (jrW ct (mb 1) 94 M ++ (jrW ct (mb 2) 94 SP ++ (jrW ct (mb 3) 376 SV ++ (irW ct (mb 4) 150 TX ++ (irW ct (mb 5) 2 NB)))))) hx hb hml hown (fun w h => hts w (inL_176 w h)) hl hE hS hA hP hD (c_L_changeWithin_no l D ct ad u a r q b2 nx sz S M TX tl pl ft n1 n2 wd o0 O v1 (by assumption) hst (by omega) hok) gdL_176 rfl k_L_changeWithin ⟨Nat.le_of_ble_eq_true rfl, Nat.le_of_ble_eq_true rfl⟩ rfl (Nat.le_of_ble_eq_true rfl) hc1 dL_law_1403 rfl (fun v w1 H locs hpost hP hD hS => ?_)
    obtain ⟨rfl, rfl⟩ := hpost
    have hP : va_P D vwCl (x8W u a r q ++ (svW ct r b2 nx sz S ++ (sobjW a ++ (gridW ct a M ++ (benchW ct a M ++ (logW ct a M ++ (txtW ct q TX tl pl ft wd n1 n2 ++ (jrW ct o0 1 O ++ (moW mb sz tl cd plm cm h ++ (jrW ct (mb 1) 94 M ++ (jrW ct (mb 2) 94 SP ++ (jrW ct (mb 3) 376 SV ++ (irW ct (mb 4) 150 TX ++ (irW ct (mb 5) 2 NB)))))))))))))) H := hP
    have hD : va_D (fun q : Nat => s.heap.size ≤ q) (x8W u a r q ++ (svW ct r b2 nx sz S ++ (sobjW a ++ (gridW ct a M ++ (benchW ct a M ++ (logW ct a M ++ (txtW ct q TX tl pl ft wd n1 n2 ++ (jrW ct o0 1 O ++ (moW mb sz tl cd plm cm h ++ (jrW ct (mb 1) 94 M ++ (jrW ct (mb 2) 94 SP ++ (jrW ct (mb 3) 376 SV ++ (irW ct (mb 4) 150 TX ++ (irW ct (mb 5) 2 NB)))))))))))))) := hD
    refine W.eq (g2 := F0 m 1406 ls [.int (zI 1)]) rfl ?_
    refine lv_istore (lv' := [(5, .int (zI 1)), (0, .ref b), (1, .ref u), (2, .ref (mb 0)), (3, .ref o0), (4, .int (zI i))]) hx hb dL_law_1406 hl (by decide) rfl (fun ls hl => ?_)
    refine lv_aload_n hx hb dL_law_1408 rfl (lv_at hl 3 rfl) ?_
    refine lv_aload_n hx hb dL_law_1409 rfl (lv_at hl 1 rfl) ?_
    refine lv_iload hx hb dL_law_1410 (lv_at hl 5 rfl) ?_
    refine z_iconst hx hb dL_law_1412 ?_
    refine z_iadd hx hb dL_law_1413 ?_
    refine z_sld hx hb hX hbl hbA hS (by omega) hL e1 dL_law_1414 ?_
    refine z_callV (C := RX9) (q0 := 0) (ci := 7) (As := [.int (zI v1)]) (rest := []) (x8W u a r q ++ (svW ct r b2 nx sz S ++ (sobjW a ++ (gridW ct a M ++ (benchW ct a M ++ (logW ct a M ++ (txtW ct q TX tl pl ft wd n1 n2 ++ (jrW ct o0 1 O)))))))) ([] : va_W) hx hb hml hown (fun w h => hts w (inL_178 w h)) hl hE hS hA (zr0 (x8W u a r q ++ (svW ct r b2 nx sz S ++ (sobjW a ++ (gridW ct a M ++ (benchW ct a M ++ (logW ct a M ++ (txtW ct q TX tl pl ft wd n1 n2 ++ (jrW ct o0 1 O)))))))) hP) (zr0D (x8W u a r q ++ (svW ct r b2 nx sz S ++ (sobjW a ++ (gridW ct a M ++ (benchW ct a M ++ (logW ct a M ++ (txtW ct q TX tl pl ft wd n1 n2 ++ (jrW ct o0 1 O)))))))) hD) (c_X9_changeWithin_no l D ct ad mb M SP SV TX NB sz tl cd plm cm h v1 (by assumption) (by assumption) (by omega) ha (by unfold ck_b; rw [if_neg hok]; omega)) gdL_178 rfl rfl k_X9_changeWithin ⟨Nat.le_of_ble_eq_true rfl, Nat.le_of_ble_eq_true rfl⟩ rfl rfl rfl rfl (Nat.le_of_ble_eq_true rfl) hc1 dL_law_1415 rfl (fun v w1 H locs hpost hP hD hS => ?_)
    obtain ⟨rfl, rfl⟩ := hpost
    have hP := zr0' hP
    have hD := zr0D' hD
    have hP : va_P D vwCl (x8W u a r q ++ (svW ct r b2 nx sz S ++ (sobjW a ++ (gridW ct a M ++ (benchW ct a M ++ (logW ct a M ++ (txtW ct q TX tl pl ft wd n1 n2 ++ (jrW ct o0 1 O ++ (moW mb sz tl (ck_b (0 ≤ v1 ∧ v1 ≤ 500)) plm cm h ++ (jrW ct (mb 1) 94 M ++ (jrW ct (mb 2) 94 SP ++ (jrW ct (mb 3) 376 SV ++ (irW ct (mb 4) 150 TX ++ (irW ct (mb 5) 2 NB)))))))))))))) H := hP
    have hD : va_D (fun q : Nat => s.heap.size ≤ q) (x8W u a r q ++ (svW ct r b2 nx sz S ++ (sobjW a ++ (gridW ct a M ++ (benchW ct a M ++ (logW ct a M ++ (txtW ct q TX tl pl ft wd n1 n2 ++ (jrW ct o0 1 O ++ (moW mb sz tl (ck_b (0 ≤ v1 ∧ v1 ≤ 500)) plm cm h ++ (jrW ct (mb 1) 94 M ++ (jrW ct (mb 2) 94 SP ++ (jrW ct (mb 3) 376 SV ++ (irW ct (mb 4) 150 TX ++ (irW ct (mb 5) 2 NB)))))))))))))) := hD
    refine W.eq (g2 := F0 m 1418 ls [.long (zJ 0)]) rfl ?_
    refine lv_lstore (lv' := [(6, .long (zJ 0)), (5, .int (zI 1)), (0, .ref b), (1, .ref u), (2, .ref (mb 0)), (3, .ref o0), (4, .int (zI i))]) hx hb dL_law_1418 hl (by decide) rfl (fun ls hl => ?_)
    refine lv_aload_n hx hb dL_law_1420 rfl (lv_at hl 4 rfl) ?_
    refine z_callV (C := RX9) (q0 := 0) (ci := 7) (As := []) (rest := []) (x8W u a r q ++ (svW ct r b2 nx sz S ++ (sobjW a ++ (gridW ct a M ++ (benchW ct a M ++ (logW ct a M ++ (txtW ct q TX tl pl ft wd n1 n2 ++ (jrW ct o0 1 O)))))))) ([] : va_W) hx hb hml hown (fun w h => hts w (inL_94 w h)) hl hE hS hA (zr0 (x8W u a r q ++ (svW ct r b2 nx sz S ++ (sobjW a ++ (gridW ct a M ++ (benchW ct a M ++ (logW ct a M ++ (txtW ct q TX tl pl ft wd n1 n2 ++ (jrW ct o0 1 O)))))))) hP) (zr0D (x8W u a r q ++ (svW ct r b2 nx sz S ++ (sobjW a ++ (gridW ct a M ++ (benchW ct a M ++ (logW ct a M ++ (txtW ct q TX tl pl ft wd n1 n2 ++ (jrW ct o0 1 O)))))))) hD) (c_X9_thrown l D ct ad mb M SP SV TX NB sz tl (ck_b (0 ≤ v1 ∧ v1 ≤ 500)) plm cm h) gdL_94 rfl rfl k_X9_thrown ⟨Nat.le_of_ble_eq_true rfl, Nat.le_of_ble_eq_true rfl⟩ rfl rfl rfl rfl (Nat.le_of_ble_eq_true rfl) hc1 dL_law_1421 rfl (fun v w1 H locs hpost hP hD hS => ?_)
    obtain ⟨rfl, rfl⟩ := hpost
    have hP := zr0' hP
    have hD := zr0D' hD
    have hP : va_P D vwCl (x8W u a r q ++ (svW ct r b2 nx sz S ++ (sobjW a ++ (gridW ct a M ++ (benchW ct a M ++ (logW ct a M ++ (txtW ct q TX tl pl ft wd n1 n2 ++ (jrW ct o0 1 O ++ (moW mb sz tl (ck_b (0 ≤ v1 ∧ v1 ≤ 500)) plm cm h ++ (jrW ct (mb 1) 94 M ++ (jrW ct (mb 2) 94 SP ++ (jrW ct (mb 3) 376 SV ++ (irW ct (mb 4) 150 TX ++ (irW ct (mb 5) 2 NB)))))))))))))) H := hP
    have hD : va_D (fun q : Nat => s.heap.size ≤ q) (x8W u a r q ++ (svW ct r b2 nx sz S ++ (sobjW a ++ (gridW ct a M ++ (benchW ct a M ++ (logW ct a M ++ (txtW ct q TX tl pl ft wd n1 n2 ++ (jrW ct o0 1 O ++ (moW mb sz tl (ck_b (0 ≤ v1 ∧ v1 ≤ 500)) plm cm h ++ (jrW ct (mb 1) 94 M ++ (jrW ct (mb 2) 94 SP ++ (jrW ct (mb 3) 376 SV ++ (irW ct (mb 4) 150 TX ++ (irW ct (mb 5) 2 NB)))))))))))))) := hD
    refine W.eq (g2 := F0 m 1424 ls [.int (zI (ck_b (0 ≤ v1 ∧ v1 ≤ 500)))]) rfl ?_
    refine lv_iload hx hb dL_law_1424 (lv_at hl 1 rfl) ?_
    refine z_canI (show 1 = ck_b (0 ≤ v1 ∧ v1 ≤ 500) from (if_neg hok).symm) ?_
    refine z_icmp_eqS (tgt := 1431) hx hb dL_law_1426 (by decide) ?_
    refine lv_iload hx hb dL_law_1431 (lv_at hl 1 rfl) ?_
    refine z_if_ne (tgt := 1447) hx hb dL_law_1433 (by decide) (by omega) (fun hc_1433 => ?_) (fun hc_1433 => ?_)
    · have hc_1433 := hc_1433
      refine lv_goto (tgt := 1590) hx hb dL_law_1447 (by decide) ?_
      exact ih _ _ _ ⟨nx, sz, S, M, TX, tl, pl, ft, n1, n2, wd, O, SP, SV, NB, (ck_b (0 ≤ v1 ∧ v1 ≤ 500)), plm, cm, h, hR, hP, hD, hS, lv_sub hl [2, 3, 4, 5, 6] rfl⟩
    · have hc_1433 := hc_1433
      exfalso; first | omega | (revert hc_1433; unfold ck1; split <;> omega)
