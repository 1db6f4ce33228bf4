/-! an hour, as the law looks at it -/
theorem sp_errB {M : Int → Int} : -2147483648 ≤ sp_err M ∧ sp_err M ≤ 2147483647 := by
  unfold sp_err
  omega
theorem td24 {a : Int} : (0 ≤ a → a.tdiv 24 = a / 24) ∧ (a < 0 → a.tdiv 24 = -((-a) / 24)) :=
  ⟨fun h => Int.tdiv_eq_ediv_of_nonneg h, fun h => by rw [← Int.tdiv_eq_ediv_of_nonneg (by omega), Int.neg_tdiv, Int.neg_neg]⟩
theorem hour_all {M : Int → Int} (hI : gInv M) (hB : bInv M) : (0 < M 8 → sp_pass M (1 : Int).toNat 8 = M 8 - 1 ∧ sp_pass M (1 : Int).toNat 12 = M 12 + sp_rt M (sp_warm M (M 6)) ∧ sp_pass M (1 : Int).toNat 10 = M 10 + 1 ∧ sp_cs M (min 1 (M 8)).toNat = sp_rt M (sp_warm M (M 6))) ∧ (¬ 0 < M 8 → sp_pass M (1 : Int).toNat 8 = M 8 ∧ sp_pass M (1 : Int).toNat 12 = M 12 ∧ sp_pass M (1 : Int).toNat 10 = M 10 ∧ sp_cs M (min 1 (M 8)).toNat = 0) ∧ sp_pass M (1 : Int).toNat 6 = sp_warm M (M 6) ∧ sp_pass M (1 : Int).toNat 9 = M 9 + 1 := by
  have v := hour_v hI
  have w := hour_10 (M := M)
  have c := cs_one hB
  show (0 < M 8 → sp_hour M 8 = M 8 - 1 ∧ sp_hour M 12 = M 12 + sp_rt M (sp_warm M (M 6)) ∧ sp_hour M 10 = M 10 + 1 ∧ _) ∧ (¬ 0 < M 8 → sp_hour M 8 = M 8 ∧ sp_hour M 12 = M 12 ∧ sp_hour M 10 = M 10 ∧ _) ∧ sp_hour M 6 = sp_warm M (M 6) ∧ sp_hour M 9 = M 9 + 1
  rw [v.1, v.2.1, v.2.2, w.1, w.2, c]
  refine ⟨fun h => ?_, fun h => ?_, rfl, rfl⟩
  · rw [if_pos h, if_pos h, if_pos h, if_pos h]
    exact ⟨rfl, rfl, rfl, rfl⟩
  · rw [if_neg h, if_neg h, if_neg h, if_neg h]
    exact ⟨rfl, rfl, by omega, rfl⟩
theorem ck_one {M : Int → Int} (h : M 9 + 1 ≤ 100000) : ck_hours M 1 = 0 := (if_pos (by omega)).trans (if_pos h)
set_option maxHeartbeats 4000000 in
set_option maxRecDepth 100000 in
theorem g_L_hour_289 (l : Launch) (D : va_G) (ct ad : Nat → Nat) (u : Nat) (a r q : Nat → Nat) (b : Nat → Nat → Nat) (nx sz : Int) (S : Nat → Int → Int) (M TX : Int → Int) (tl pl ft n1 n2 : Int) (wd : Value)  (hL : LInv M) (ht : tInv TX tl) (hn : 0 ≤ nx ∧ nx ≤ 3) (hsz : 0 ≤ sz ∧ sz ≤ 4) (h9 : M 9 + 1 ≤ 100000)  : ZG l yL_hour cL_hour wsL_hour ({ frames := 7, cells := 0, slots := 0, locals := 169 } : Room) 19 (some .boolean) D ct ad [.ref u] (zD (some (.int (zI 1))) (x8W u a r q ++ (svW ct r b ((nx + 1) % 4) (min (sz + 1) 4) (updS S nx M) ++ (sobjW a ++ (gridW ct a (sp_pass M (1 : Int).toNat) ++ (benchW ct a (sp_pass M (1 : Int).toNat) ++ (logW ct a (sp_pass M (1 : Int).toNat) ++ (txtW ct q TX tl pl ft wd n1 n2)))))))) 0 0 289 (x8W u a r q ++ (svW ct r b ((nx + 1) % 4) (min (sz + 1) 4) (updS S nx M) ++ (sobjW a ++ (gridW ct a (sp_pass M (1 : Int).toNat) ++ (benchW ct a (sp_pass M (1 : Int).toNat) ++ (logW ct a (sp_pass M (1 : Int).toNat) ++ (txtW ct q TX tl pl ft wd n1 n2))))))) [(0, .ref u), (1, .int (zI (M 6))), (4, .int (zI (M 8))), (5, .int (zI (M 10))), (6, .int (zI (M 9))), (7, .long (zJ (M 12)))] [] := by
  intro p e s m below meth c A H locs ls hx hb hr hts hown hlocks hml hE hA hP hD hS hl
  have hK := hE.1
  have hl : lv_has ls 19 [(0, .ref u), (1, .int (zI (M 6))), (4, .int (zI (M 8))), (5, .int (zI (M 10))), (6, .int (zI (M 9))), (7, .long (zJ (M 12)))] := hl
  have hs := hL.1
  have hI := hs.1
  have hB := hs.2.1
  have ha := hs.2.2
  have t1 := ht.1
  have hA1 := hour_all hI hB
  have hs1 : sInv (sp_pass M (1 : Int).toNat) := (LInv_pass hL (ck_one h9)).1.1
  have j2 := hB.2.2.1
  have kN := hs1.2.1.2.2.1
  have jN := hs1.2.1.2.1
  have nd := hour_day hI hB
  have hrb := sp_rateB (len := sp_len (sp_pass M (1 : Int).toNat) ((sp_pass M (1 : Int).toNat) 6)) hs1.2.1 jN.2.2.2
  have hrb2 : sp_rateM (sp_pass M (1 : Int).toNat) = sp_rate (sp_pass M (1 : Int).toNat) (sp_len (sp_pass M (1 : Int).toNat) ((sp_pass M (1 : Int).toNat) 6)) ((sp_pass M (1 : Int).toNat) 8) := rfl
  refine lv_aload_n hx hb dL_hour_289 rfl (lv_at hl 0 rfl) ?_
  refine z_bipush hx hb dL_hour_290 (by decide) ?_
  refine z_callSW (As := [.ref u, .int (zI 10)]) (rest := []) ([] : va_W) ([] : va_W) hx hb hml hown hts hl hE hS hA (zr0 ([] : va_W) hP) (zr0D ([] : va_W) hD) (c_L_whole_ok l D ct ad u a r q b ((nx + 1) % 4) (min (sz + 1) 4) (updS S nx M) (sp_pass M (1 : Int).toNat) TX tl pl ft n1 n2 wd 10 (by assumption) (by omega) (by omega)) gL_hour_L_whole rfl k_L_whole ⟨Nat.le_of_ble_eq_true rfl, Nat.le_of_ble_eq_true rfl⟩ rfl (Nat.le_of_ble_eq_true rfl) ⟨Nat.le_of_ble_eq_true rfl, Nat.le_of_ble_eq_true rfl⟩ dL_hour_292 rfl (fun v w1 H locs hpost hP hD hS => ?_)
  obtain ⟨rfl, rfl⟩ := hpost
  have hP := zr0' hP
  have hD := zr0D' hD
  have hP : va_P D vwCl (x8W u a r q ++ (svW ct r b ((nx + 1) % 4) (min (sz + 1) 4) (updS S nx M) ++ (sobjW a ++ (gridW ct a (sp_pass M (1 : Int).toNat) ++ (benchW ct a (sp_pass M (1 : Int).toNat) ++ (logW ct a (sp_pass M (1 : Int).toNat) ++ (txtW ct q TX tl pl ft wd n1 n2))))))) H := hP
  have hD : va_D A (x8W u a r q ++ (svW ct r b ((nx + 1) % 4) (min (sz + 1) 4) (updS S nx M) ++ (sobjW a ++ (gridW ct a (sp_pass M (1 : Int).toNat) ++ (benchW ct a (sp_pass M (1 : Int).toNat) ++ (logW ct a (sp_pass M (1 : Int).toNat) ++ (txtW ct q TX tl pl ft wd n1 n2))))))) := hD
  refine W.eq (g2 := F0 m 295 ls [.int (zI (sp_wh (sp_pass M (1 : Int).toNat) tl 10))]) rfl ?_
  refine z_canI (show sp_wh (sp_pass M (1 : Int).toNat) tl 10 = (sp_pass M (1 : Int).toNat) 9 from rfl) ?_
  refine lv_iload hx hb dL_hour_295 (lv_at hl 4 rfl) ?_
  refine z_iconst hx hb dL_hour_297 ?_
  refine z_iadd hx hb dL_hour_298 ?_
  refine z_icmp_ne (tgt := 349) hx hb dL_hour_299 (by decide) (by omega) (by omega) (fun hc_299 => ?_) (fun hc_299 => ?_)
  · have hc_299 := hc_299
    omega
  have hc_299 := hc_299
  refine lv_iload hx hb dL_hour_302 (lv_at hl 4 rfl) ?_
  refine z_iconst hx hb dL_hour_304 ?_
  refine z_iadd hx hb dL_hour_305 ?_
  refine z_bipush hx hb dL_hour_306 (by decide) ?_
  refine z_irem hx hb dL_hour_308 (by omega) (by omega) ?_
  refine z_if_ne (tgt := 345) hx hb dL_hour_309 (by decide) (by omega) (fun hc_309 => ?_) (fun hc_309 => ?_)
  · have hc_309 := hc_309
    refine z_iconst hx hb dL_hour_345 ?_
    refine lv_goto (tgt := 350) hx hb dL_hour_346 (by decide) ?_
    exact z_zret hx hb hr (by first | rfl | exact zB_nar) hlocks hP hD hS ⟨Nat.le_of_ble_eq_true rfl, Nat.le_of_ble_eq_true rfl⟩ dL_hour_350 (⟨congrArg (fun z => some (Value.int (zI z))) (rfl), rfl⟩)
  · have hc_309 := hc_309
    refine lv_aload_n hx hb dL_hour_312 rfl (lv_at hl 0 rfl) ?_
    refine z_iconst hx hb dL_hour_313 ?_
    refine z_iconst hx hb dL_hour_314 ?_
    refine z_callSW (As := [.ref u, .int (zI 0), .int (zI 0)]) (rest := []) ([] : va_W) ([] : va_W) hx hb hml hown hts hl hE hS hA (zr0 ([] : va_W) hP) (zr0D ([] : va_W) hD) (c_L_day_ok l D ct ad u a r q b ((nx + 1) % 4) (min (sz + 1) 4) (updS S nx M) (sp_pass M (1 : Int).toNat) TX tl pl ft n1 n2 wd 0 0 (by assumption) (by omega) (by omega) (by omega)) gL_hour_L_day rfl k_L_day ⟨Nat.le_of_ble_eq_true rfl, Nat.le_of_ble_eq_true rfl⟩ rfl (Nat.le_of_ble_eq_true rfl) ⟨Nat.le_of_ble_eq_true rfl, Nat.le_of_ble_eq_true rfl⟩ dL_hour_315 rfl (fun v w1 H locs hpost hP hD hS => ?_)
    obtain ⟨rfl, rfl⟩ := hpost
    have hP := zr0' hP
    have hD := zr0D' hD
    have hP : va_P D vwCl (x8W u a r q ++ (svW ct r b ((nx + 1) % 4) (min (sz + 1) 4) (updS S nx M) ++ (sobjW a ++ (gridW ct a (sp_pass M (1 : Int).toNat) ++ (benchW ct a (sp_pass M (1 : Int).toNat) ++ (logW ct a (sp_pass M (1 : Int).toNat) ++ (txtW ct q TX tl pl ft wd n1 n2))))))) H := hP
    have hD : va_D A (x8W u a r q ++ (svW ct r b ((nx + 1) % 4) (min (sz + 1) 4) (updS S nx M) ++ (sobjW a ++ (gridW ct a (sp_pass M (1 : Int).toNat) ++ (benchW ct a (sp_pass M (1 : Int).toNat) ++ (logW ct a (sp_pass M (1 : Int).toNat) ++ (txtW ct q TX tl pl ft wd n1 n2))))))) := hD
    refine W.eq (g2 := F0 m 318 ls [.long (zJ (sp_dayv (sp_pass M (1 : Int).toNat) 0 0))]) rfl ?_
    refine z_canL (show sp_dayv (sp_pass M (1 : Int).toNat) 0 0 = (sp_pass M (1 : Int).toNat) 6 from (nd hc_309).1) ?_
    refine lv_aload_n hx hb dL_hour_318 rfl (lv_at hl 0 rfl) ?_
    refine z_iconst hx hb dL_hour_319 ?_
    refine z_callSW (As := [.ref u, .int (zI 3)]) (rest := [.long (zJ ((sp_pass M (1 : Int).toNat) 6))]) ([] : va_W) ([] : va_W) hx hb hml hown hts hl hE hS hA (zr0 ([] : va_W) hP) (zr0D ([] : va_W) hD) (c_L_whole_ok l D ct ad u a r q b ((nx + 1) % 4) (min (sz + 1) 4) (updS S nx M) (sp_pass M (1 : Int).toNat) TX tl pl ft n1 n2 wd 3 (by assumption) (by omega) (by omega)) gL_hour_L_whole rfl k_L_whole ⟨Nat.le_of_ble_eq_true rfl, Nat.le_of_ble_eq_true rfl⟩ rfl (Nat.le_of_ble_eq_true rfl) ⟨Nat.le_of_ble_eq_true rfl, Nat.le_of_ble_eq_true rfl⟩ dL_hour_320 rfl (fun v w1 H locs hpost hP hD hS => ?_)
    obtain ⟨rfl, rfl⟩ := hpost
    have hP := zr0' hP
    have hD := zr0D' hD
    have hP : va_P D vwCl (x8W u a r q ++ (svW ct r b ((nx + 1) % 4) (min (sz + 1) 4) (updS S nx M) ++ (sobjW a ++ (gridW ct a (sp_pass M (1 : Int).toNat) ++ (benchW ct a (sp_pass M (1 : Int).toNat) ++ (logW ct a (sp_pass M (1 : Int).toNat) ++ (txtW ct q TX tl pl ft wd n1 n2))))))) H := hP
    have hD : va_D A (x8W u a r q ++ (svW ct r b ((nx + 1) % 4) (min (sz + 1) 4) (updS S nx M) ++ (sobjW a ++ (gridW ct a (sp_pass M (1 : Int).toNat) ++ (benchW ct a (sp_pass M (1 : Int).toNat) ++ (logW ct a (sp_pass M (1 : Int).toNat) ++ (txtW ct q TX tl pl ft wd n1 n2))))))) := hD
    refine W.eq (g2 := F0 m 323 ls [.int (zI (sp_wh (sp_pass M (1 : Int).toNat) tl 3)), .long (zJ ((sp_pass M (1 : Int).toNat) 6))]) rfl ?_
    refine z_canI (show sp_wh (sp_pass M (1 : Int).toNat) tl 3 = (sp_pass M (1 : Int).toNat) 6 from rfl) ?_
    refine z_i2l hx hb dL_hour_323 (by omega) ?_
    refine z_lcmp_neS (tgt := 349) hx hb dL_hour_324 dL_hour_325 (by decide) ?_
    refine lv_aload_n hx hb dL_hour_328 rfl (lv_at hl 0 rfl) ?_
    refine z_iconst hx hb dL_hour_329 ?_
    refine z_iconst hx hb dL_hour_330 ?_
    refine z_callSW (As := [.ref u, .int (zI 0), .int (zI 1)]) (rest := []) ([] : va_W) ([] : va_W) hx hb hml hown hts hl hE hS hA (zr0 ([] : va_W) hP) (zr0D ([] : va_W) hD) (c_L_day_ok l D ct ad u a r q b ((nx + 1) % 4) (min (sz + 1) 4) (updS S nx M) (sp_pass M (1 : Int).toNat) TX tl pl ft n1 n2 wd 0 1 (by assumption) (by omega) (by omega) (by omega)) gL_hour_L_day rfl k_L_day ⟨Nat.le_of_ble_eq_true rfl, Nat.le_of_ble_eq_true rfl⟩ rfl (Nat.le_of_ble_eq_true rfl) ⟨Nat.le_of_ble_eq_true rfl, Nat.le_of_ble_eq_true rfl⟩ dL_hour_331 rfl (fun v w1 H locs hpost hP hD hS => ?_)
    obtain ⟨rfl, rfl⟩ := hpost
    have hP := zr0' hP
    have hD := zr0D' hD
    have hP : va_P D vwCl (x8W u a r q ++ (svW ct r b ((nx + 1) % 4) (min (sz + 1) 4) (updS S nx M) ++ (sobjW a ++ (gridW ct a (sp_pass M (1 : Int).toNat) ++ (benchW ct a (sp_pass M (1 : Int).toNat) ++ (logW ct a (sp_pass M (1 : Int).toNat) ++ (txtW ct q TX tl pl ft wd n1 n2))))))) H := hP
    have hD : va_D A (x8W u a r q ++ (svW ct r b ((nx + 1) % 4) (min (sz + 1) 4) (updS S nx M) ++ (sobjW a ++ (gridW ct a (sp_pass M (1 : Int).toNat) ++ (benchW ct a (sp_pass M (1 : Int).toNat) ++ (logW ct a (sp_pass M (1 : Int).toNat) ++ (txtW ct q TX tl pl ft wd n1 n2))))))) := hD
    refine W.eq (g2 := F0 m 334 ls [.long (zJ (sp_dayv (sp_pass M (1 : Int).toNat) 0 1))]) rfl ?_
    refine z_canL (show sp_dayv (sp_pass M (1 : Int).toNat) 0 1 = sp_rateM (sp_pass M (1 : Int).toNat) from (nd hc_309).2) ?_
    refine lv_aload_n hx hb dL_hour_334 rfl (lv_at hl 0 rfl) ?_
    refine z_bipush hx hb dL_hour_335 (by decide) ?_
    refine z_callSW (As := [.ref u, .int (zI 9)]) (rest := [.long (zJ (sp_rateM (sp_pass M (1 : Int).toNat)))]) ([] : va_W) ([] : va_W) hx hb hml hown hts hl hE hS hA (zr0 ([] : va_W) hP) (zr0D ([] : va_W) hD) (c_L_whole_ok l D ct ad u a r q b ((nx + 1) % 4) (min (sz + 1) 4) (updS S nx M) (sp_pass M (1 : Int).toNat) TX tl pl ft n1 n2 wd 9 (by assumption) (by omega) (by omega)) gL_hour_L_whole rfl k_L_whole ⟨Nat.le_of_ble_eq_true rfl, Nat.le_of_ble_eq_true rfl⟩ rfl (Nat.le_of_ble_eq_true rfl) ⟨Nat.le_of_ble_eq_true rfl, Nat.le_of_ble_eq_true rfl⟩ dL_hour_337 rfl (fun v w1 H locs hpost hP hD hS => ?_)
    obtain ⟨rfl, rfl⟩ := hpost
    have hP := zr0' hP
    have hD := zr0D' hD
    have hP : va_P D vwCl (x8W u a r q ++ (svW ct r b ((nx + 1) % 4) (min (sz + 1) 4) (updS S nx M) ++ (sobjW a ++ (gridW ct a (sp_pass M (1 : Int).toNat) ++ (benchW ct a (sp_pass M (1 : Int).toNat) ++ (logW ct a (sp_pass M (1 : Int).toNat) ++ (txtW ct q TX tl pl ft wd n1 n2))))))) H := hP
    have hD : va_D A (x8W u a r q ++ (svW ct r b ((nx + 1) % 4) (min (sz + 1) 4) (updS S nx M) ++ (sobjW a ++ (gridW ct a (sp_pass M (1 : Int).toNat) ++ (benchW ct a (sp_pass M (1 : Int).toNat) ++ (logW ct a (sp_pass M (1 : Int).toNat) ++ (txtW ct q TX tl pl ft wd n1 n2))))))) := hD
    refine W.eq (g2 := F0 m 340 ls [.int (zI (sp_wh (sp_pass M (1 : Int).toNat) tl 9)), .long (zJ (sp_rateM (sp_pass M (1 : Int).toNat)))]) rfl ?_
    refine z_canI (show sp_wh (sp_pass M (1 : Int).toNat) tl 9 = sp_rateM (sp_pass M (1 : Int).toNat) from rfl) ?_
    refine z_i2l hx hb dL_hour_340 (by omega) ?_
    refine z_lcmp_neS (tgt := 349) hx hb dL_hour_341 dL_hour_342 (by decide) ?_
    refine z_iconst hx hb dL_hour_345 ?_
    refine lv_goto (tgt := 350) hx hb dL_hour_346 (by decide) ?_
    exact z_zret hx hb hr (by first | rfl | exact zB_nar) hlocks hP hD hS ⟨Nat.le_of_ble_eq_true rfl, Nat.le_of_ble_eq_true rfl⟩ dL_hour_350 (⟨congrArg (fun z => some (Value.int (zI z))) (rfl), rfl⟩)
set_option maxHeartbeats 4000000 in
set_option maxRecDepth 100000 in
theorem g_L_hour_267 (l : Launch) (D : va_G) (ct ad : Nat → Nat) (u : Nat) (a r q : Nat → Nat) (b : Nat → Nat → Nat) (nx sz : Int) (S : Nat → Int → Int) (M TX : Int → Int) (tl pl ft n1 n2 : Int) (wd : Value)  (hL : LInv M) (ht : tInv TX tl) (hn : 0 ≤ nx ∧ nx ≤ 3) (hsz : 0 ≤ sz ∧ sz ≤ 4) (h9 : M 9 + 1 ≤ 100000)  : ZG l yL_hour cL_hour wsL_hour ({ frames := 7, cells := 0, slots := 0, locals := 169 } : Room) 19 (some .boolean) D ct ad [.ref u] (zD (some (.int (zI 1))) (x8W u a r q ++ (svW ct r b ((nx + 1) % 4) (min (sz + 1) 4) (updS S nx M) ++ (sobjW a ++ (gridW ct a (sp_pass M (1 : Int).toNat) ++ (benchW ct a (sp_pass M (1 : Int).toNat) ++ (logW ct a (sp_pass M (1 : Int).toNat) ++ (txtW ct q TX tl pl ft wd n1 n2)))))))) 0 0 267 (x8W u a r q ++ (svW ct r b ((nx + 1) % 4) (min (sz + 1) 4) (updS S nx M) ++ (sobjW a ++ (gridW ct a (sp_pass M (1 : Int).toNat) ++ (benchW ct a (sp_pass M (1 : Int).toNat) ++ (logW ct a (sp_pass M (1 : Int).toNat) ++ (txtW ct q TX tl pl ft wd n1 n2))))))) [(0, .ref u), (1, .int (zI (M 6))), (4, .int (zI (M 8))), (5, .int (zI (M 10))), (6, .int (zI (M 9))), (7, .long (zJ (M 12)))] [] := by
  intro p e s m below meth c A H locs ls hx hb hr hts hown hlocks hml hE hA hP hD hS hl
  have hK := hE.1
  have hl : lv_has ls 19 [(0, .ref u), (1, .int (zI (M 6))), (4, .int (zI (M 8))), (5, .int (zI (M 10))), (6, .int (zI (M 9))), (7, .long (zJ (M 12)))] := hl
  have hs := hL.1
  have hI := hs.1
  have hB := hs.2.1
  have ha := hs.2.2
  have t1 := ht.1
  have hA1 := hour_all hI hB
  have hs1 : sInv (sp_pass M (1 : Int).toNat) := (LInv_pass hL (ck_one h9)).1.1
  have j1 := hB.2.1
  have j2 := hB.2.2.1
  have kN := hs1.2.1.2.2.1
  refine lv_aload_n hx hb dL_hour_267 rfl (lv_at hl 0 rfl) ?_
  refine z_bipush hx hb dL_hour_268 (by decide) ?_
  refine z_callSW (As := [.ref u, .int (zI 11)]) (rest := []) ([] : va_W) ([] : va_W) hx hb hml hown hts hl hE hS hA (zr0 ([] : va_W) hP) (zr0D ([] : va_W) hD) (c_L_whole_ok l D ct ad u a r q b ((nx + 1) % 4) (min (sz + 1) 4) (updS S nx M) (sp_pass M (1 : Int).toNat) TX tl pl ft n1 n2 wd 11 (by assumption) (by omega) (by omega)) gL_hour_L_whole rfl k_L_whole ⟨Nat.le_of_ble_eq_true rfl, Nat.le_of_ble_eq_true rfl⟩ rfl (Nat.le_of_ble_eq_true rfl) ⟨Nat.le_of_ble_eq_true rfl, Nat.le_of_ble_eq_true rfl⟩ dL_hour_270 rfl (fun v w1 H locs hpost hP hD hS => ?_)
  obtain ⟨rfl, rfl⟩ := hpost
  have hP := zr0' hP
  have hD := zr0D' hD
  have hP : va_P D vwCl (x8W u a r q ++ (svW ct r b ((nx + 1) % 4) (min (sz + 1) 4) (updS S nx M) ++ (sobjW a ++ (gridW ct a (sp_pass M (1 : Int).toNat) ++ (benchW ct a (sp_pass M (1 : Int).toNat) ++ (logW ct a (sp_pass M (1 : Int).toNat) ++ (txtW ct q TX tl pl ft wd n1 n2))))))) H := hP
  have hD : va_D A (x8W u a r q ++ (svW ct r b ((nx + 1) % 4) (min (sz + 1) 4) (updS S nx M) ++ (sobjW a ++ (gridW ct a (sp_pass M (1 : Int).toNat) ++ (benchW ct a (sp_pass M (1 : Int).toNat) ++ (logW ct a (sp_pass M (1 : Int).toNat) ++ (txtW ct q TX tl pl ft wd n1 n2))))))) := hD
  refine W.eq (g2 := F0 m 273 ls [.int (zI (sp_wh (sp_pass M (1 : Int).toNat) tl 11))]) rfl ?_
  refine z_canI (show sp_wh (sp_pass M (1 : Int).toNat) tl 11 = (sp_pass M (1 : Int).toNat) 10 from rfl) ?_
  refine lv_iload hx hb dL_hour_273 (lv_at hl 3 rfl) ?_
  refine lv_iload hx hb dL_hour_275 (lv_at hl 2 rfl) ?_
  refine z_if_le (tgt := 284) hx hb dL_hour_277 (by decide) (by omega) (fun hc_277 => ?_) (fun hc_277 => ?_)
  · have hc_277 := hc_277
    refine z_iconst hx hb dL_hour_284 ?_
    refine z_iadd hx hb dL_hour_285 ?_
    refine z_icmp_ne (tgt := 349) hx hb dL_hour_286 (by decide) (by omega) (by omega) (fun hc_286 => ?_) (fun hc_286 => ?_)
    · have hc_286 := hc_286
      omega
    have hc_286 := hc_286
    exact g_L_hour_289 l D ct ad u a r q b nx sz S M TX tl pl ft n1 n2 wd (by assumption) (by assumption) (by omega) (by omega) (by omega) p e s m below meth c A _ _ _ hx hb hr hts hown hlocks hml hE hA hP hD hS (lv_sub hl [0, 1, 2, 3, 4, 5] rfl)
  · have hc_277 := hc_277
    refine z_iconst hx hb dL_hour_280 ?_
    refine lv_goto (tgt := 285) hx hb dL_hour_281 (by decide) ?_
    refine z_iadd hx hb dL_hour_285 ?_
    refine z_icmp_ne (tgt := 349) hx hb dL_hour_286 (by decide) (by omega) (by omega) (fun hc_286 => ?_) (fun hc_286 => ?_)
    · have hc_286 := hc_286
      omega
    have hc_286 := hc_286
    exact g_L_hour_289 l D ct ad u a r q b nx sz S M TX tl pl ft n1 n2 wd (by assumption) (by assumption) (by omega) (by omega) (by omega) p e s m below meth c A _ _ _ hx hb hr hts hown hlocks hml hE hA hP hD hS (lv_sub hl [0, 1, 2, 3, 4, 5] rfl)
set_option maxHeartbeats 4000000 in
set_option maxRecDepth 100000 in
theorem g_L_hour_202 (l : Launch) (D : va_G) (ct ad : Nat → Nat) (u : Nat) (a r q : Nat → Nat) (b : Nat → Nat → Nat) (nx sz : Int) (S : Nat → Int → Int) (M TX : Int → Int) (tl pl ft n1 n2 : Int) (wd : Value) (stp : Int) (cs : Int) (due : Int) (b2_ : Int) (hL : LInv M) (ht : tInv TX tl) (hn : 0 ≤ nx ∧ nx ≤ 3) (hsz : 0 ≤ sz ∧ sz ≤ 4) (h9 : M 9 + 1 ≤ 100000) (hst : M 6 + stp = sp_warm M (M 6)) (hcs : cs = sp_cs M (min 1 (M 8)).toNat) (hdu : due = (sp_pass M (1 : Int).toNat) 12) (hb2 : b2_ = max (-1999999999) (min 2000000000 (due / 24))) (hdb : -200000000000000 ≤ due ∧ due ≤ 200000000000000) : ZG l yL_hour cL_hour wsL_hour ({ frames := 7, cells := 0, slots := 0, locals := 169 } : Room) 19 (some .boolean) D ct ad [.ref u] (zD (some (.int (zI 1))) (x8W u a r q ++ (svW ct r b ((nx + 1) % 4) (min (sz + 1) 4) (updS S nx M) ++ (sobjW a ++ (gridW ct a (sp_pass M (1 : Int).toNat) ++ (benchW ct a (sp_pass M (1 : Int).toNat) ++ (logW ct a (sp_pass M (1 : Int).toNat) ++ (txtW ct q TX tl pl ft wd n1 n2)))))))) 0 0 202 (x8W u a r q ++ (svW ct r b ((nx + 1) % 4) (min (sz + 1) 4) (updS S nx M) ++ (sobjW a ++ (gridW ct a (sp_pass M (1 : Int).toNat) ++ (benchW ct a (sp_pass M (1 : Int).toNat) ++ (logW ct a (sp_pass M (1 : Int).toNat) ++ (txtW ct q TX tl pl ft wd n1 n2))))))) [(0, .ref u), (1, .int (zI (M 6))), (4, .int (zI (M 8))), (5, .int (zI (M 10))), (6, .int (zI (M 9))), (7, .long (zJ (M 12))), (10, .int (zI stp)), (12, .long (zJ cs)), (14, .int (zI (sp_err (sp_pass M (1 : Int).toNat)))), (15, .long (zJ due))] [.long (zJ b2_)] := by
  intro p e s m below meth c A H locs ls hx hb hr hts hown hlocks hml hE hA hP hD hS hl
  have hK := hE.1
  have hl : lv_has ls 19 [(0, .ref u), (1, .int (zI (M 6))), (4, .int (zI (M 8))), (5, .int (zI (M 10))), (6, .int (zI (M 9))), (7, .long (zJ (M 12))), (10, .int (zI stp)), (12, .long (zJ cs)), (14, .int (zI (sp_err (sp_pass M (1 : Int).toNat)))), (15, .long (zJ due))] := hl
  have hs := hL.1
  have hI := hs.1
  have hB := hs.2.1
  have ha := hs.2.2
  have t1 := ht.1
  have hA1 := hour_all hI hB
  have hs1 : sInv (sp_pass M (1 : Int).toNat) := (LInv_pass hL (ck_one h9)).1.1
  have j1 := hB.2.1
  have j2 := hB.2.2.1
  have eB9 := sp_errB (M := (sp_pass M (1 : Int).toNat))
  have eE9 : sp_err (sp_pass M (1 : Int).toNat) = max (-1999999999) (min 2000000000 ((sp_pass M (1 : Int).toNat) 12 / 24)) := rfl
  have jN := hs1.2.1.2.1
  have kN := hs1.2.1.2.2.1
  have hrb := sp_rateB (len := sp_len M (sp_warm M (M 6))) hB j1.2.2.2
  have hrb2 : sp_rt M (sp_warm M (M 6)) = sp_rate M (sp_len M (sp_warm M (M 6))) (M 8) := rfl
  refine lv_lstore (lv' := [(17, .long (zJ b2_)), (0, .ref u), (1, .int (zI (M 6))), (4, .int (zI (M 8))), (5, .int (zI (M 10))), (6, .int (zI (M 9))), (7, .long (zJ (M 12))), (10, .int (zI stp)), (12, .long (zJ cs)), (14, .int (zI (sp_err (sp_pass M (1 : Int).toNat)))), (15, .long (zJ due))]) hx hb dL_hour_202 hl (by decide) rfl (fun ls hl => ?_)
  refine lv_aload_n hx hb dL_hour_204 rfl (lv_at hl 1 rfl) ?_
  refine z_iconst hx hb dL_hour_205 ?_
  refine z_callSW (As := [.ref u, .int (zI 3)]) (rest := []) ([] : va_W) ([] : va_W) hx hb hml hown hts hl hE hS hA (zr0 ([] : va_W) hP) (zr0D ([] : va_W) hD) (c_L_whole_ok l D ct ad u a r q b ((nx + 1) % 4) (min (sz + 1) 4) (updS S nx M) (sp_pass M (1 : Int).toNat) TX tl pl ft n1 n2 wd 3 (by assumption) (by omega) (by omega)) gL_hour_L_whole rfl k_L_whole ⟨Nat.le_of_ble_eq_true rfl, Nat.le_of_ble_eq_true rfl⟩ rfl (Nat.le_of_ble_eq_true rfl) ⟨Nat.le_of_ble_eq_true rfl, Nat.le_of_ble_eq_true rfl⟩ dL_hour_206 rfl (fun v w1 H locs hpost hP hD hS => ?_)
  obtain ⟨rfl, rfl⟩ := hpost
  have hP := zr0' hP
  have hD := zr0D' hD
  have hP : va_P D vwCl (x8W u a r q ++ (svW ct r b ((nx + 1) % 4) (min (sz + 1) 4) (updS S nx M) ++ (sobjW a ++ (gridW ct a (sp_pass M (1 : Int).toNat) ++ (benchW ct a (sp_pass M (1 : Int).toNat) ++ (logW ct a (sp_pass M (1 : Int).toNat) ++ (txtW ct q TX tl pl ft wd n1 n2))))))) H := hP
  have hD : va_D A (x8W u a r q ++ (svW ct r b ((nx + 1) % 4) (min (sz + 1) 4) (updS S nx M) ++ (sobjW a ++ (gridW ct a (sp_pass M (1 : Int).toNat) ++ (benchW ct a (sp_pass M (1 : Int).toNat) ++ (logW ct a (sp_pass M (1 : Int).toNat) ++ (txtW ct q TX tl pl ft wd n1 n2))))))) := hD
  refine W.eq (g2 := F0 m 209 ls [.int (zI (sp_wh (sp_pass M (1 : Int).toNat) tl 3))]) rfl ?_
  refine z_canI (show sp_wh (sp_pass M (1 : Int).toNat) tl 3 = (sp_pass M (1 : Int).toNat) 6 from rfl) ?_
  refine lv_iload_n hx hb dL_hour_209 rfl (lv_at hl 2 rfl) ?_
  refine lv_iload hx hb dL_hour_210 (lv_at hl 7 rfl) ?_
  refine z_iadd hx hb dL_hour_212 ?_
  refine z_icmp_ne (tgt := 349) hx hb dL_hour_213 (by decide) (by omega) (by omega) (fun hc_213 => ?_) (fun hc_213 => ?_)
  · have hc_213 := hc_213
    omega
  have hc_213 := hc_213
  refine lv_aload_n hx hb dL_hour_216 rfl (lv_at hl 1 rfl) ?_
  refine z_callV (C := RX8) (q0 := 0) (ci := 6) (As := []) (rest := []) ([] : va_W) ([] : va_W) hx hb hml hown hts hl hE hS hA (zr0 ([] : va_W) hP) (zr0D ([] : va_W) hD) (c_X8_rates l D ct ad u a r q b ((nx + 1) % 4) (min (sz + 1) 4) (updS S nx M) (sp_pass M (1 : Int).toNat) TX tl pl ft n1 n2 wd (by assumption)) gL_hour_X8_rates rfl rfl k_X8_rates ⟨Nat.le_of_ble_eq_true rfl, Nat.le_of_ble_eq_true rfl⟩ rfl rfl rfl rfl (Nat.le_of_ble_eq_true rfl) ⟨Nat.le_of_ble_eq_true rfl, Nat.le_of_ble_eq_true rfl⟩ dL_hour_217 rfl (fun v w1 H locs hpost hP hD hS => ?_)
  obtain ⟨rfl, rfl⟩ := hpost
  have hP := zr0' hP
  have hD := zr0D' hD
  have hP : va_P D vwCl (x8W u a r q ++ (svW ct r b ((nx + 1) % 4) (min (sz + 1) 4) (updS S nx M) ++ (sobjW a ++ (gridW ct a (sp_pass M (1 : Int).toNat) ++ (benchW ct a (sp_pass M (1 : Int).toNat) ++ (logW ct a (sp_pass M (1 : Int).toNat) ++ (txtW ct q TX tl pl ft wd n1 n2))))))) H := hP
  have hD : va_D A (x8W u a r q ++ (svW ct r b ((nx + 1) % 4) (min (sz + 1) 4) (updS S nx M) ++ (sobjW a ++ (gridW ct a (sp_pass M (1 : Int).toNat) ++ (benchW ct a (sp_pass M (1 : Int).toNat) ++ (logW ct a (sp_pass M (1 : Int).toNat) ++ (txtW ct q TX tl pl ft wd n1 n2))))))) := hD
  refine W.eq (g2 := F0 m 220 ls [.long (zJ ((sp_pass M (1 : Int).toNat) 12))]) rfl ?_
  refine lv_lload hx hb dL_hour_220 (lv_at hl 10 rfl) ?_
  refine z_lcmp_ne (tgt := 349) hx hb dL_hour_222 dL_hour_223 (by decide) (by omega) (by omega) (fun hc_222 => ?_) (fun hc_222 => ?_)
  · have hc_222 := hc_222
    omega
  have hc_222 := hc_222
  refine lv_lload hx hb dL_hour_226 (lv_at hl 8 rfl) ?_
  refine lv_lload hx hb dL_hour_228 (lv_at hl 10 rfl) ?_
  refine lv_lload hx hb dL_hour_230 (lv_at hl 6 rfl) ?_
  refine z_lsub hx hb dL_hour_232 ?_
  refine z_lcmp_ne (tgt := 349) hx hb dL_hour_233 dL_hour_234 (by decide) (by omega) (by omega) (fun hc_233 => ?_) (fun hc_233 => ?_)
  · have hc_233 := hc_233
    omega
  have hc_233 := hc_233
  refine lv_iload hx hb dL_hour_237 (lv_at hl 9 rfl) ?_
  refine z_i2l hx hb dL_hour_239 (by omega) ?_
  refine lv_lload hx hb dL_hour_240 (lv_at hl 0 rfl) ?_
  refine z_lcmp_ne (tgt := 349) hx hb dL_hour_242 dL_hour_243 (by decide) (by omega) (by omega) (fun hc_242 => ?_) (fun hc_242 => ?_)
  · have hc_242 := hc_242
    omega
  have hc_242 := hc_242
  refine lv_aload_n hx hb dL_hour_246 rfl (lv_at hl 1 rfl) ?_
  refine z_iconst hx hb dL_hour_247 ?_
  refine z_callSW (As := [.ref u, .int (zI 5)]) (rest := []) ([] : va_W) ([] : va_W) hx hb hml hown hts hl hE hS hA (zr0 ([] : va_W) hP) (zr0D ([] : va_W) hD) (c_L_whole_ok l D ct ad u a r q b ((nx + 1) % 4) (min (sz + 1) 4) (updS S nx M) (sp_pass M (1 : Int).toNat) TX tl pl ft n1 n2 wd 5 (by assumption) (by omega) (by omega)) gL_hour_L_whole rfl k_L_whole ⟨Nat.le_of_ble_eq_true rfl, Nat.le_of_ble_eq_true rfl⟩ rfl (Nat.le_of_ble_eq_true rfl) ⟨Nat.le_of_ble_eq_true rfl, Nat.le_of_ble_eq_true rfl⟩ dL_hour_248 rfl (fun v w1 H locs hpost hP hD hS => ?_)
  obtain ⟨rfl, rfl⟩ := hpost
  have hP := zr0' hP
  have hD := zr0D' hD
  have hP : va_P D vwCl (x8W u a r q ++ (svW ct r b ((nx + 1) % 4) (min (sz + 1) 4) (updS S nx M) ++ (sobjW a ++ (gridW ct a (sp_pass M (1 : Int).toNat) ++ (benchW ct a (sp_pass M (1 : Int).toNat) ++ (logW ct a (sp_pass M (1 : Int).toNat) ++ (txtW ct q TX tl pl ft wd n1 n2))))))) H := hP
  have hD : va_D A (x8W u a r q ++ (svW ct r b ((nx + 1) % 4) (min (sz + 1) 4) (updS S nx M) ++ (sobjW a ++ (gridW ct a (sp_pass M (1 : Int).toNat) ++ (benchW ct a (sp_pass M (1 : Int).toNat) ++ (logW ct a (sp_pass M (1 : Int).toNat) ++ (txtW ct q TX tl pl ft wd n1 n2))))))) := hD
  refine W.eq (g2 := F0 m 251 ls [.int (zI (sp_wh (sp_pass M (1 : Int).toNat) tl 5))]) rfl ?_
  refine z_canI (show sp_wh (sp_pass M (1 : Int).toNat) tl 5 = (sp_pass M (1 : Int).toNat) 8 from rfl) ?_
  refine lv_iload hx hb dL_hour_251 (lv_at hl 3 rfl) ?_
  refine z_if_le (tgt := 263) hx hb dL_hour_253 (by decide) (by omega) (fun hc_253 => ?_) (fun hc_253 => ?_)
  · have hc_253 := hc_253
    refine z_iconst hx hb dL_hour_263 ?_
    refine z_icmp_ne (tgt := 349) hx hb dL_hour_264 (by decide) (by omega) (by omega) (fun hc_264 => ?_) (fun hc_264 => ?_)
    · have hc_264 := hc_264
      omega
    have hc_264 := hc_264
    exact g_L_hour_267 l D ct ad u a r q b nx sz S M TX tl pl ft n1 n2 wd (by assumption) (by assumption) (by omega) (by omega) (by omega) p e s m below meth c A _ _ _ hx hb hr hts hown hlocks hml hE hA hP hD hS (lv_sub hl [1, 2, 3, 4, 5, 6] rfl)
  · have hc_253 := hc_253
    refine lv_iload hx hb dL_hour_256 (lv_at hl 3 rfl) ?_
    refine z_iconst hx hb dL_hour_258 ?_
    refine z_isub hx hb dL_hour_259 ?_
    refine lv_goto (tgt := 264) hx hb dL_hour_260 (by decide) ?_
    refine z_icmp_ne (tgt := 349) hx hb dL_hour_264 (by decide) (by omega) (by omega) (fun hc_264 => ?_) (fun hc_264 => ?_)
    · have hc_264 := hc_264
      omega
    have hc_264 := hc_264
    exact g_L_hour_267 l D ct ad u a r q b nx sz S M TX tl pl ft n1 n2 wd (by assumption) (by assumption) (by omega) (by omega) (by omega) p e s m below meth c A _ _ _ hx hb hr hts hown hlocks hml hE hA hP hD hS (lv_sub hl [1, 2, 3, 4, 5, 6] rfl)
set_option maxHeartbeats 4000000 in
set_option maxRecDepth 100000 in
theorem g_L_hour_168 (l : Launch) (D : va_G) (ct ad : Nat → Nat) (u : Nat) (a r q : Nat → Nat) (b : Nat → Nat → Nat) (nx sz : Int) (S : Nat → Int → Int) (M TX : Int → Int) (tl pl ft n1 n2 : Int) (wd : Value) (stp : Int) (cs : Int) (due : Int) (by_ : Int) (hL : LInv M) (ht : tInv TX tl) (hn : 0 ≤ nx ∧ nx ≤ 3) (hsz : 0 ≤ sz ∧ sz ≤ 4) (h9 : M 9 + 1 ≤ 100000) (hst : M 6 + stp = sp_warm M (M 6)) (hcs : cs = sp_cs M (min 1 (M 8)).toNat) (hdu : due = (sp_pass M (1 : Int).toNat) 12) (hby_ : by_ = due / 24) (hdb : -200000000000000 ≤ due ∧ due ≤ 200000000000000) : ZG l yL_hour cL_hour wsL_hour ({ frames := 7, cells := 0, slots := 0, locals := 169 } : Room) 19 (some .boolean) D ct ad [.ref u] (zD (some (.int (zI 1))) (x8W u a r q ++ (svW ct r b ((nx + 1) % 4) (min (sz + 1) 4) (updS S nx M) ++ (sobjW a ++ (gridW ct a (sp_pass M (1 : Int).toNat) ++ (benchW ct a (sp_pass M (1 : Int).toNat) ++ (logW ct a (sp_pass M (1 : Int).toNat) ++ (txtW ct q TX tl pl ft wd n1 n2)))))))) 0 0 168 (x8W u a r q ++ (svW ct r b ((nx + 1) % 4) (min (sz + 1) 4) (updS S nx M) ++ (sobjW a ++ (gridW ct a (sp_pass M (1 : Int).toNat) ++ (benchW ct a (sp_pass M (1 : Int).toNat) ++ (logW ct a (sp_pass M (1 : Int).toNat) ++ (txtW ct q TX tl pl ft wd n1 n2))))))) [(0, .ref u), (1, .int (zI (M 6))), (4, .int (zI (M 8))), (5, .int (zI (M 10))), (6, .int (zI (M 9))), (7, .long (zJ (M 12))), (10, .int (zI stp)), (12, .long (zJ cs)), (14, .int (zI (sp_err (sp_pass M (1 : Int).toNat)))), (15, .long (zJ due))] [.long (zJ by_)] := by
  intro p e s m below meth c A H locs ls hx hb hr hts hown hlocks hml hE hA hP hD hS hl
  have hK := hE.1
  have hf_0 := hts (.constantLong RL 143 (2000000000)) (by decide +kernel)
  have hf_1 := hts (.constantLong RL 145 (-1999999999)) (by decide +kernel)
  have hl : lv_has ls 19 [(0, .ref u), (1, .int (zI (M 6))), (4, .int (zI (M 8))), (5, .int (zI (M 10))), (6, .int (zI (M 9))), (7, .long (zJ (M 12))), (10, .int (zI stp)), (12, .long (zJ cs)), (14, .int (zI (sp_err (sp_pass M (1 : Int).toNat)))), (15, .long (zJ due))] := hl
  have hs := hL.1
  have hI := hs.1
  have hB := hs.2.1
  have ha := hs.2.2
  have t1 := ht.1
  refine lv_lstore (lv' := [(17, .long (zJ by_)), (0, .ref u), (1, .int (zI (M 6))), (4, .int (zI (M 8))), (5, .int (zI (M 10))), (6, .int (zI (M 9))), (7, .long (zJ (M 12))), (10, .int (zI stp)), (12, .long (zJ cs)), (14, .int (zI (sp_err (sp_pass M (1 : Int).toNat)))), (15, .long (zJ due))]) hx hb dL_hour_168 hl (by decide) rfl (fun ls hl => ?_)
  refine lv_lload hx hb dL_hour_170 (lv_at hl 0 rfl) ?_
  refine z_ldc2 hx hb 2000000000 hown hf_0 (by decide) dL_hour_172 ?_
  refine z_lcmp_le (tgt := 185) hx hb dL_hour_175 dL_hour_176 (by decide) (by omega) (by omega) (fun hc_175 => ?_) (fun hc_175 => ?_)
  · have hc_175 := hc_175
    refine lv_lload hx hb dL_hour_185 (lv_at hl 0 rfl) ?_
    refine z_ldc2 hx hb (-1999999999) hown hf_1 (by decide) dL_hour_187 ?_
    refine z_lcmp_ge (tgt := 200) hx hb dL_hour_190 dL_hour_191 (by decide) (by omega) (by omega) (fun hc_190 => ?_) (fun hc_190 => ?_)
    · have hc_190 := hc_190
      refine lv_lload hx hb dL_hour_200 (lv_at hl 0 rfl) ?_
      exact g_L_hour_202 l D ct ad u a r q b nx sz S M TX tl pl ft n1 n2 wd stp cs due by_ (by assumption) (by assumption) (by omega) (by omega) (by omega) (show M 6 + stp = sp_warm M (M 6) from (by first | assumption | omega)) (show cs = sp_cs M (min 1 (M 8)).toNat from (by first | assumption | omega)) (show due = (sp_pass M (1 : Int).toNat) 12 from (by first | assumption | omega)) (show by_ = max (-1999999999) (min 2000000000 (due / 24)) from (by first | assumption | omega)) (show -200000000000000 ≤ due ∧ due ≤ 200000000000000 from (by first | assumption | omega)) p e s m below meth c A _ _ _ hx hb hr hts hown hlocks hml hE hA hP hD hS (lv_sub hl [1, 2, 3, 4, 5, 6, 7, 8, 9, 10] rfl)
    · have hc_190 := hc_190
      refine z_ldc2 hx hb (-1999999999) hown hf_1 (by decide) dL_hour_194 ?_
      refine lv_goto (tgt := 202) hx hb dL_hour_197 (by decide) ?_
      exact g_L_hour_202 l D ct ad u a r q b nx sz S M TX tl pl ft n1 n2 wd stp cs due (-1999999999) (by assumption) (by assumption) (by omega) (by omega) (by omega) (show M 6 + stp = sp_warm M (M 6) from (by first | assumption | omega)) (show cs = sp_cs M (min 1 (M 8)).toNat from (by first | assumption | omega)) (show due = (sp_pass M (1 : Int).toNat) 12 from (by first | assumption | omega)) (show (-1999999999) = max (-1999999999) (min 2000000000 (due / 24)) from (by first | assumption | omega)) (show -200000000000000 ≤ due ∧ due ≤ 200000000000000 from (by first | assumption | omega)) p e s m below meth c A _ _ _ hx hb hr hts hown hlocks hml hE hA hP hD hS (lv_sub hl [1, 2, 3, 4, 5, 6, 7, 8, 9, 10] rfl)
  · have hc_175 := hc_175
    refine z_ldc2 hx hb 2000000000 hown hf_0 (by decide) dL_hour_179 ?_
    refine lv_goto (tgt := 202) hx hb dL_hour_182 (by decide) ?_
    exact g_L_hour_202 l D ct ad u a r q b nx sz S M TX tl pl ft n1 n2 wd stp cs due 2000000000 (by assumption) (by assumption) (by omega) (by omega) (by omega) (show M 6 + stp = sp_warm M (M 6) from (by first | assumption | omega)) (show cs = sp_cs M (min 1 (M 8)).toNat from (by first | assumption | omega)) (show due = (sp_pass M (1 : Int).toNat) 12 from (by first | assumption | omega)) (show 2000000000 = max (-1999999999) (min 2000000000 (due / 24)) from (by first | assumption | omega)) (show -200000000000000 ≤ due ∧ due ≤ 200000000000000 from (by first | assumption | omega)) p e s m below meth c A _ _ _ hx hb hr hts hown hlocks hml hE hA hP hD hS (lv_sub hl [1, 2, 3, 4, 5, 6, 7, 8, 9, 10] rfl)
set_option maxHeartbeats 4000000 in
set_option maxRecDepth 100000 in
theorem g_L_hour_135 (l : Launch) (D : va_G) (ct ad : Nat → Nat) (u : Nat) (a r q : Nat → Nat) (b : Nat → Nat → Nat) (nx sz : Int) (S : Nat → Int → Int) (M TX : Int → Int) (tl pl ft n1 n2 : Int) (wd : Value) (stp : Int) (cs : Int) (ra : Int) (k_ : Int) (hL : LInv M) (ht : tInv TX tl) (hn : 0 ≤ nx ∧ nx ≤ 3) (hsz : 0 ≤ sz ∧ sz ≤ 4) (h9 : M 9 + 1 ≤ 100000) (hst : M 6 + stp = sp_warm M (M 6)) (hcs : cs = sp_cs M (min 1 (M 8)).toNat) (hra : ra = sp_rt M (sp_warm M (M 6))) (hk : (0 < M 8 → k_ = ra) ∧ (¬ 0 < M 8 → k_ = 0)) (hrb : -1000030000 ≤ ra ∧ ra ≤ 1000000000) : ZG l yL_hour cL_hour wsL_hour ({ frames := 7, cells := 0, slots := 0, locals := 169 } : Room) 19 (some .boolean) D ct ad [.ref u] (zD (some (.int (zI 1))) (x8W u a r q ++ (svW ct r b ((nx + 1) % 4) (min (sz + 1) 4) (updS S nx M) ++ (sobjW a ++ (gridW ct a (sp_pass M (1 : Int).toNat) ++ (benchW ct a (sp_pass M (1 : Int).toNat) ++ (logW ct a (sp_pass M (1 : Int).toNat) ++ (txtW ct q TX tl pl ft wd n1 n2)))))))) 0 0 135 (x8W u a r q ++ (svW ct r b ((nx + 1) % 4) (min (sz + 1) 4) (updS S nx M) ++ (sobjW a ++ (gridW ct a (sp_pass M (1 : Int).toNat) ++ (benchW ct a (sp_pass M (1 : Int).toNat) ++ (logW ct a (sp_pass M (1 : Int).toNat) ++ (txtW ct q TX tl pl ft wd n1 n2))))))) [(0, .ref u), (1, .int (zI (M 6))), (4, .int (zI (M 8))), (5, .int (zI (M 10))), (6, .int (zI (M 9))), (7, .long (zJ (M 12))), (10, .int (zI stp)), (12, .long (zJ cs)), (14, .int (zI (sp_err (sp_pass M (1 : Int).toNat)))), (11, .int (zI ra))] [.int (zI k_), .long (zJ (M 12))] := by
  intro p e s m below meth c A H locs ls hx hb hr hts hown hlocks hml hE hA hP hD hS hl
  have hK := hE.1
  have hf_0 := hts (.constantLong RL 114 (24)) (by decide +kernel)
  have hl : lv_has ls 19 [(0, .ref u), (1, .int (zI (M 6))), (4, .int (zI (M 8))), (5, .int (zI (M 10))), (6, .int (zI (M 9))), (7, .long (zJ (M 12))), (10, .int (zI stp)), (12, .long (zJ cs)), (14, .int (zI (sp_err (sp_pass M (1 : Int).toNat)))), (11, .int (zI ra))] := hl
  have hs := hL.1
  have hI := hs.1
  have hB := hs.2.1
  have ha := hs.2.2
  have t1 := ht.1
  have hA1 := hour_all hI hB
  have j2 := hB.2.2.1
  have hs1 : sInv (sp_pass M (1 : Int).toNat) := (LInv_pass hL (ck_one h9)).1.1
  refine z_i2l hx hb dL_hour_135 (by omega) ?_
  refine z_ladd hx hb dL_hour_136 ?_
  obtain ⟨due, hdue⟩ : ∃ z : Int, z = (M 12) + k_ := ⟨_, rfl⟩
  refine z_canL (show (M 12) + k_ = due from hdue.symm) ?_
  refine lv_lstore (lv' := [(15, .long (zJ due)), (0, .ref u), (1, .int (zI (M 6))), (4, .int (zI (M 8))), (5, .int (zI (M 10))), (6, .int (zI (M 9))), (7, .long (zJ (M 12))), (10, .int (zI stp)), (12, .long (zJ cs)), (14, .int (zI (sp_err (sp_pass M (1 : Int).toNat)))), (11, .int (zI ra))]) hx hb dL_hour_137 hl (by decide) rfl (fun ls hl => ?_)
  refine lv_lload hx hb dL_hour_139 (lv_at hl 0 rfl) ?_
  refine z_ldc2 hx hb 24 hown hf_0 (by decide) dL_hour_141 ?_
  refine z_ldivT hx hb dL_hour_144 (by omega) (by omega) ?_
  obtain ⟨by0, hby0⟩ : ∃ z : Int, z = due.tdiv 24 := ⟨_, rfl⟩
  refine z_canL (show due.tdiv 24 = by0 from hby0.symm) ?_
  have htd := td24 (a := due)
  refine lv_lstore (lv' := [(17, .long (zJ by0)), (15, .long (zJ due)), (0, .ref u), (1, .int (zI (M 6))), (4, .int (zI (M 8))), (5, .int (zI (M 10))), (6, .int (zI (M 9))), (7, .long (zJ (M 12))), (10, .int (zI stp)), (12, .long (zJ cs)), (14, .int (zI (sp_err (sp_pass M (1 : Int).toNat)))), (11, .int (zI ra))]) hx hb dL_hour_145 hl (by decide) rfl (fun ls hl => ?_)
  refine lv_lload hx hb dL_hour_147 (lv_at hl 0 rfl) ?_
  refine z_ldc2 hx hb 24 hown hf_0 (by decide) dL_hour_149 ?_
  refine z_lmul hx hb dL_hour_152 ?_
  refine lv_lload hx hb dL_hour_153 (lv_at hl 1 rfl) ?_
  refine z_lcmp_le (tgt := 166) hx hb dL_hour_155 dL_hour_156 (by decide) (by omega) (by omega) (fun hc_155 => ?_) (fun hc_155 => ?_)
  · have hc_155 := hc_155
    refine lv_lload hx hb dL_hour_166 (lv_at hl 0 rfl) ?_
    exact g_L_hour_168 l D ct ad u a r q b nx sz S M TX tl pl ft n1 n2 wd stp cs due by0 (by assumption) (by assumption) (by omega) (by omega) (by omega) (show M 6 + stp = sp_warm M (M 6) from (by first | assumption | omega)) (show cs = sp_cs M (min 1 (M 8)).toNat from (by first | assumption | omega)) (show due = (sp_pass M (1 : Int).toNat) 12 from (by omega)) (show by0 = due / 24 from (by first | assumption | omega)) (show -200000000000000 ≤ due ∧ due ≤ 200000000000000 from (by first | assumption | omega)) p e s m below meth c A _ _ _ hx hb hr hts hown hlocks hml hE hA hP hD hS (lv_sub hl [2, 3, 4, 5, 6, 7, 8, 9, 10, 1] rfl)
  · have hc_155 := hc_155
    refine lv_lload hx hb dL_hour_159 (lv_at hl 0 rfl) ?_
    refine z_lconst (z := 1) hx hb dL_hour_161 rfl ?_
    refine z_lsub hx hb dL_hour_162 ?_
    refine lv_goto (tgt := 168) hx hb dL_hour_163 (by decide) ?_
    exact g_L_hour_168 l D ct ad u a r q b nx sz S M TX tl pl ft n1 n2 wd stp cs due (by0 - 1) (by assumption) (by assumption) (by omega) (by omega) (by omega) (show M 6 + stp = sp_warm M (M 6) from (by first | assumption | omega)) (show cs = sp_cs M (min 1 (M 8)).toNat from (by first | assumption | omega)) (show due = (sp_pass M (1 : Int).toNat) 12 from (by omega)) (show (by0 - 1) = due / 24 from (by first | assumption | omega)) (show -200000000000000 ≤ due ∧ due ≤ 200000000000000 from (by first | assumption | omega)) p e s m below meth c A _ _ _ hx hb hr hts hown hlocks hml hE hA hP hD hS (lv_sub hl [2, 3, 4, 5, 6, 7, 8, 9, 10, 1] rfl)
set_option maxHeartbeats 4000000 in
set_option maxRecDepth 100000 in
theorem g_L_hour_96 (l : Launch) (D : va_G) (ct ad : Nat → Nat) (u : Nat) (a r q : Nat → Nat) (b : Nat → Nat → Nat) (nx sz : Int) (S : Nat → Int → Int) (M TX : Int → Int) (tl pl ft n1 n2 : Int) (wd : Value) (stp : Int) (hL : LInv M) (ht : tInv TX tl) (hn : 0 ≤ nx ∧ nx ≤ 3) (hsz : 0 ≤ sz ∧ sz ≤ 4) (h9 : M 9 + 1 ≤ 100000) (hst : M 6 + stp = sp_warm M (M 6)) : ZG l yL_hour cL_hour wsL_hour ({ frames := 7, cells := 0, slots := 0, locals := 169 } : Room) 19 (some .boolean) D ct ad [.ref u] (zD (some (.int (zI 1))) (x8W u a r q ++ (svW ct r b ((nx + 1) % 4) (min (sz + 1) 4) (updS S nx M) ++ (sobjW a ++ (gridW ct a (sp_pass M (1 : Int).toNat) ++ (benchW ct a (sp_pass M (1 : Int).toNat) ++ (logW ct a (sp_pass M (1 : Int).toNat) ++ (txtW ct q TX tl pl ft wd n1 n2)))))))) 0 0 96 (x8W u a r q ++ (svW ct r b nx sz S ++ (sobjW a ++ (gridW ct a M ++ (benchW ct a M ++ (logW ct a M ++ (txtW ct q TX tl pl ft wd n1 n2))))))) [(0, .ref u), (1, .int (zI (M 6))), (4, .int (zI (M 8))), (5, .int (zI (M 10))), (6, .int (zI (M 9))), (7, .long (zJ (M 12)))] [.int (zI stp)] := by
  intro p e s m below meth c A H locs ls hx hb hr hts hown hlocks hml hE hA hP hD hS hl
  have hK := hE.1
  have hl : lv_has ls 19 [(0, .ref u), (1, .int (zI (M 6))), (4, .int (zI (M 8))), (5, .int (zI (M 10))), (6, .int (zI (M 9))), (7, .long (zJ (M 12)))] := hl
  have hs := hL.1
  have hI := hs.1
  have hB := hs.2.1
  have ha := hs.2.2
  have t1 := ht.1
  have j1 := hB.2.1
  have j2 := hB.2.2.1
  have wB := sp_warmB hB j1.2.1
  refine lv_istore (lv' := [(10, .int (zI stp)), (0, .ref u), (1, .int (zI (M 6))), (4, .int (zI (M 8))), (5, .int (zI (M 10))), (6, .int (zI (M 9))), (7, .long (zJ (M 12)))]) hx hb dL_hour_96 hl (by decide) rfl (fun ls hl => ?_)
  refine lv_aload_n hx hb dL_hour_98 rfl (lv_at hl 1 rfl) ?_
  refine lv_iload_n hx hb dL_hour_99 rfl (lv_at hl 2 rfl) ?_
  refine lv_iload hx hb dL_hour_100 (lv_at hl 0 rfl) ?_
  refine z_iadd hx hb dL_hour_102 ?_
  refine z_callSW (As := [.ref u, .int (zI ((M 6) + stp))]) (rest := []) ([] : va_W) ([] : va_W) hx hb hml hown hts hl hE hS hA (zr0 ([] : va_W) hP) (zr0D ([] : va_W) hD) (c_L_rateAt_ok l D ct ad u a r q b nx sz S M TX tl pl ft n1 n2 wd ((M 6) + stp) (by assumption) (by omega) (by omega)) gL_hour_L_rateAt rfl k_L_rateAt ⟨Nat.le_of_ble_eq_true rfl, Nat.le_of_ble_eq_true rfl⟩ rfl (Nat.le_of_ble_eq_true rfl) ⟨Nat.le_of_ble_eq_true rfl, Nat.le_of_ble_eq_true rfl⟩ dL_hour_103 rfl (fun v w1 H locs hpost hP hD hS => ?_)
  obtain ⟨rfl, rfl⟩ := hpost
  have hP := zr0' hP
  have hD := zr0D' hD
  have hP : va_P D vwCl (x8W u a r q ++ (svW ct r b nx sz S ++ (sobjW a ++ (gridW ct a M ++ (benchW ct a M ++ (logW ct a M ++ (txtW ct q TX tl pl ft wd n1 n2))))))) H := hP
  have hD : va_D A (x8W u a r q ++ (svW ct r b nx sz S ++ (sobjW a ++ (gridW ct a M ++ (benchW ct a M ++ (logW ct a M ++ (txtW ct q TX tl pl ft wd n1 n2))))))) := hD
  refine W.eq (g2 := F0 m 106 ls [.int (zI (sp_rt M ((M 6) + stp)))]) rfl ?_
  refine z_canI (show sp_rt M ((M 6) + stp) = sp_rt M (sp_warm M (M 6)) from (by rw [hst])) ?_
  obtain ⟨ra, hra⟩ : ∃ z : Int, z = sp_rt M (sp_warm M (M 6)) := ⟨_, rfl⟩
  refine z_canI (show sp_rt M (sp_warm M (M 6)) = ra from hra.symm) ?_
  have hrb := sp_rateB (len := sp_len M (sp_warm M (M 6))) hB j1.2.2.2
  have hrb2 : -1000030000 ≤ ra ∧ ra ≤ 1000000000 := by rw [hra]; exact hrb
  refine lv_istore (lv' := [(11, .int (zI ra)), (10, .int (zI stp)), (0, .ref u), (1, .int (zI (M 6))), (4, .int (zI (M 8))), (5, .int (zI (M 10))), (6, .int (zI (M 9))), (7, .long (zJ (M 12)))]) hx hb dL_hour_106 hl (by decide) rfl (fun ls hl => ?_)
  refine lv_aload_n hx hb dL_hour_108 rfl (lv_at hl 2 rfl) ?_
  refine z_iconst hx hb dL_hour_109 ?_
  refine z_callSW (As := [.ref u, .int (zI 1)]) (rest := []) ([] : va_W) ([] : va_W) hx hb hml hown hts hl hE hS hA (zr0 ([] : va_W) hP) (zr0D ([] : va_W) hD) (c_L_changeWithin_ok l D ct ad u a r q b nx sz S M TX tl pl ft n1 n2 wd 1 (by assumption) (by omega) (by omega)) gL_hour_L_changeWithin rfl k_L_changeWithin ⟨Nat.le_of_ble_eq_true rfl, Nat.le_of_ble_eq_true rfl⟩ rfl (Nat.le_of_ble_eq_true rfl) ⟨Nat.le_of_ble_eq_true rfl, Nat.le_of_ble_eq_true rfl⟩ dL_hour_110 rfl (fun v w1 H locs hpost hP hD hS => ?_)
  obtain ⟨rfl, rfl⟩ := hpost
  have hP := zr0' hP
  have hD := zr0D' hD
  have hP : va_P D vwCl (x8W u a r q ++ (svW ct r b nx sz S ++ (sobjW a ++ (gridW ct a M ++ (benchW ct a M ++ (logW ct a M ++ (txtW ct q TX tl pl ft wd n1 n2))))))) H := hP
  have hD : va_D A (x8W u a r q ++ (svW ct r b nx sz S ++ (sobjW a ++ (gridW ct a M ++ (benchW ct a M ++ (logW ct a M ++ (txtW ct q TX tl pl ft wd n1 n2))))))) := hD
  refine W.eq (g2 := F0 m 113 ls [.long (zJ (sp_cs M (min 1 (M 8)).toNat))]) rfl ?_
  obtain ⟨cs, hcs⟩ : ∃ z : Int, z = sp_cs M (min 1 (M 8)).toNat := ⟨_, rfl⟩
  refine z_canL (show sp_cs M (min 1 (M 8)).toNat = cs from hcs.symm) ?_
  refine lv_lstore (lv' := [(12, .long (zJ cs)), (11, .int (zI ra)), (10, .int (zI stp)), (0, .ref u), (1, .int (zI (M 6))), (4, .int (zI (M 8))), (5, .int (zI (M 10))), (6, .int (zI (M 9))), (7, .long (zJ (M 12)))]) hx hb dL_hour_113 hl (by decide) rfl (fun ls hl => ?_)
  refine lv_aload_n hx hb dL_hour_115 rfl (lv_at hl 3 rfl) ?_
  refine z_iconst hx hb dL_hour_116 ?_
  refine z_callSW (As := [.ref u, .int (zI 1)]) (rest := []) ([] : va_W) ([] : va_W) hx hb hml hown hts hl hE hS hA (zr0 ([] : va_W) hP) (zr0D ([] : va_W) hD) (c_L_pass_ok l D ct ad u a r q b nx sz S M TX tl pl ft n1 n2 wd 1 (by assumption) (by omega) (by omega) (by omega) (ck_one h9)) gL_hour_L_pass rfl k_L_pass ⟨Nat.le_of_ble_eq_true rfl, Nat.le_of_ble_eq_true rfl⟩ rfl (Nat.le_of_ble_eq_true rfl) ⟨Nat.le_of_ble_eq_true rfl, Nat.le_of_ble_eq_true rfl⟩ dL_hour_117 rfl (fun v w1 H locs hpost hP hD hS => ?_)
  obtain ⟨rfl, rfl⟩ := hpost
  have hP := zr0' hP
  have hD := zr0D' hD
  have hP : va_P D vwCl (x8W u a r q ++ (svW ct r b ((nx + 1) % 4) (min (sz + 1) 4) (updS S nx M) ++ (sobjW a ++ (gridW ct a (sp_pass M (1 : Int).toNat) ++ (benchW ct a (sp_pass M (1 : Int).toNat) ++ (logW ct a (sp_pass M (1 : Int).toNat) ++ (txtW ct q TX tl pl ft wd n1 n2))))))) H := hP
  have hD : va_D A (x8W u a r q ++ (svW ct r b ((nx + 1) % 4) (min (sz + 1) 4) (updS S nx M) ++ (sobjW a ++ (gridW ct a (sp_pass M (1 : Int).toNat) ++ (benchW ct a (sp_pass M (1 : Int).toNat) ++ (logW ct a (sp_pass M (1 : Int).toNat) ++ (txtW ct q TX tl pl ft wd n1 n2))))))) := hD
  refine W.eq (g2 := F0 m 120 ls [.int (zI (sp_err (sp_pass M (1 : Int).toNat)))]) rfl ?_
  refine lv_istore (lv' := [(14, .int (zI (sp_err (sp_pass M (1 : Int).toNat)))), (12, .long (zJ cs)), (11, .int (zI ra)), (10, .int (zI stp)), (0, .ref u), (1, .int (zI (M 6))), (4, .int (zI (M 8))), (5, .int (zI (M 10))), (6, .int (zI (M 9))), (7, .long (zJ (M 12)))]) hx hb dL_hour_120 hl (by decide) rfl (fun ls hl => ?_)
  refine lv_lload hx hb dL_hour_122 (lv_at hl 9 rfl) ?_
  refine lv_iload hx hb dL_hour_124 (lv_at hl 6 rfl) ?_
  refine z_if_le (tgt := 134) hx hb dL_hour_126 (by decide) (by omega) (fun hc_126 => ?_) (fun hc_126 => ?_)
  · have hc_126 := hc_126
    refine z_iconst hx hb dL_hour_134 ?_
    exact g_L_hour_135 l D ct ad u a r q b nx sz S M TX tl pl ft n1 n2 wd stp cs ra 0 (by assumption) (by assumption) (by omega) (by omega) (by omega) (show M 6 + stp = sp_warm M (M 6) from (by first | assumption | omega)) (show cs = sp_cs M (min 1 (M 8)).toNat from (by first | assumption | omega)) (show ra = sp_rt M (sp_warm M (M 6)) from (by first | assumption | omega)) (show (0 < M 8 → 0 = ra) ∧ (¬ 0 < M 8 → 0 = 0) from (by first | assumption | omega)) (show -1000030000 ≤ ra ∧ ra ≤ 1000000000 from (by first | assumption | omega)) p e s m below meth c A _ _ _ hx hb hr hts hown hlocks hml hE hA hP hD hS (lv_sub hl [4, 5, 6, 7, 8, 9, 3, 1, 0, 2] rfl)
  · have hc_126 := hc_126
    refine lv_iload hx hb dL_hour_129 (lv_at hl 2 rfl) ?_
    refine lv_goto (tgt := 135) hx hb dL_hour_131 (by decide) ?_
    exact g_L_hour_135 l D ct ad u a r q b nx sz S M TX tl pl ft n1 n2 wd stp cs ra ra (by assumption) (by assumption) (by omega) (by omega) (by omega) (show M 6 + stp = sp_warm M (M 6) from (by first | assumption | omega)) (show cs = sp_cs M (min 1 (M 8)).toNat from (by first | assumption | omega)) (show ra = sp_rt M (sp_warm M (M 6)) from (by first | assumption | omega)) (show (0 < M 8 → ra = ra) ∧ (¬ 0 < M 8 → ra = 0) from (by first | assumption | omega)) (show -1000030000 ≤ ra ∧ ra ≤ 1000000000 from (by first | assumption | omega)) p e s m below meth c A _ _ _ hx hb hr hts hown hlocks hml hE hA hP hD hS (lv_sub hl [4, 5, 6, 7, 8, 9, 3, 1, 0, 2] rfl)
set_option maxHeartbeats 4000000 in
set_option maxRecDepth 100000 in
theorem c_L_hour (l : Launch) (D : va_G) (ct ad : Nat → Nat) (u : Nat) (a r q : Nat → Nat) (b : Nat → Nat → Nat) (nx sz : Int) (S : Nat → Int → Int) (M TX : Int → Int) (tl pl ft n1 n2 : Int) (wd : Value) (hL : LInv M) (ht : tInv TX tl) (hn : 0 ≤ nx ∧ nx ≤ 3) (hsz : 0 ≤ sz ∧ sz ≤ 4) (h9 : M 9 + 1 ≤ 100000) : ZM l yL_hour wsL_hour ({ frames := 7, cells := 0, slots := 0, locals := 169 } : Room) D ct ad [.ref u] (x8W u a r q ++ (svW ct r b nx sz S ++ (sobjW a ++ (gridW ct a M ++ (benchW ct a M ++ (logW ct a M ++ (txtW ct q TX tl pl ft wd n1 n2))))))) (zD (some (.int (zI 1))) (x8W u a r q ++ (svW ct r b ((nx + 1) % 4) (min (sz + 1) 4) (updS S nx M) ++ (sobjW a ++ (gridW ct a (sp_pass M (1 : Int).toNat) ++ (benchW ct a (sp_pass M (1 : Int).toNat) ++ (logW ct a (sp_pass M (1 : Int).toNat) ++ (txtW ct q TX tl pl ft wd n1 n2)))))))) := by
  refine ZM.of (cc := cL_hour) (maxL := 19) (ret := (some .boolean)) (by decide +kernel) rfl (Nat.le_of_ble_eq_true rfl) ?_
  intro p e s m below meth c A ls hx hb hr hts hown hlocks hml hname hE hP hD hA hS hl
  have hK := hE.1
  have hl : lv_has ls 19 [(0, .ref u)] := hl
  have hs := hL.1
  have hI := hs.1
  have hB := hs.2.1
  have ha := hs.2.2
  have t1 := ht.1
  have j0 := hB.1
  have j1 := hB.2.1
  have j2 := hB.2.2.1
  have hsh := hB.2.2.2.1 (M 5) (by omega) (by omega)
  have wB := sp_warmB hB j1.2.1
  refine lv_aload_n hx hb dL_hour_0 rfl (lv_at hl 0 rfl) ?_
  refine z_iconst hx hb dL_hour_1 ?_
  refine z_callSW (As := [.ref u, .int (zI 3)]) (rest := []) ([] : va_W) ([] : va_W) hx hb hml hown hts hl hE hS hA (zr0 ([] : va_W) hP) (zr0D ([] : va_W) hD) (c_L_whole_ok l D ct ad u a r q b nx sz S M TX tl pl ft n1 n2 wd 3 (by assumption) (by omega) (by omega)) gL_hour_L_whole rfl k_L_whole ⟨Nat.le_of_ble_eq_true rfl, Nat.le_of_ble_eq_true rfl⟩ rfl (Nat.le_of_ble_eq_true rfl) ⟨Nat.le_of_ble_eq_true rfl, Nat.le_of_ble_eq_true rfl⟩ dL_hour_2 rfl (fun v w1 H locs hpost hP hD hS => ?_)
  obtain ⟨rfl, rfl⟩ := hpost
  have hP := zr0' hP
  have hD := zr0D' hD
  have hP : va_P D vwCl (x8W u a r q ++ (svW ct r b nx sz S ++ (sobjW a ++ (gridW ct a M ++ (benchW ct a M ++ (logW ct a M ++ (txtW ct q TX tl pl ft wd n1 n2))))))) H := hP
  have hD : va_D A (x8W u a r q ++ (svW ct r b nx sz S ++ (sobjW a ++ (gridW ct a M ++ (benchW ct a M ++ (logW ct a M ++ (txtW ct q TX tl pl ft wd n1 n2))))))) := hD
  refine W.eq (g2 := F0 m 5 ls [.int (zI (sp_wh M tl 3))]) rfl ?_
  refine z_canI (show sp_wh M tl 3 = M 6 from rfl) ?_
  refine lv_istore_n (lv' := [(1, .int (zI (M 6))), (0, .ref u)]) hx hb dL_hour_5 rfl hl (by decide) rfl (fun ls hl => ?_)
  refine lv_aload_n hx hb dL_hour_6 rfl (lv_at hl 1 rfl) ?_
  refine lv_aload_n hx hb dL_hour_7 rfl (lv_at hl 1 rfl) ?_
  refine z_iconst hx hb dL_hour_8 ?_
  refine z_callSW (As := [.ref u, .int (zI 2)]) (rest := [.ref u]) ([] : va_W) ([] : va_W) hx hb hml hown hts hl hE hS hA (zr0 ([] : va_W) hP) (zr0D ([] : va_W) hD) (c_L_whole_ok l D ct ad u a r q b nx sz S M TX tl pl ft n1 n2 wd 2 (by assumption) (by omega) (by omega)) gL_hour_L_whole rfl k_L_whole ⟨Nat.le_of_ble_eq_true rfl, Nat.le_of_ble_eq_true rfl⟩ rfl (Nat.le_of_ble_eq_true rfl) ⟨Nat.le_of_ble_eq_true rfl, Nat.le_of_ble_eq_true rfl⟩ dL_hour_9 rfl (fun v w1 H locs hpost hP hD hS => ?_)
  obtain ⟨rfl, rfl⟩ := hpost
  have hP := zr0' hP
  have hD := zr0D' hD
  have hP : va_P D vwCl (x8W u a r q ++ (svW ct r b nx sz S ++ (sobjW a ++ (gridW ct a M ++ (benchW ct a M ++ (logW ct a M ++ (txtW ct q TX tl pl ft wd n1 n2))))))) H := hP
  have hD : va_D A (x8W u a r q ++ (svW ct r b nx sz S ++ (sobjW a ++ (gridW ct a M ++ (benchW ct a M ++ (logW ct a M ++ (txtW ct q TX tl pl ft wd n1 n2))))))) := hD
  refine W.eq (g2 := F0 m 12 ls [.int (zI (sp_wh M tl 2)), .ref u]) rfl ?_
  refine z_canI (show sp_wh M tl 2 = M 5 from rfl) ?_
  refine z_callSW (As := [.ref u, .int (zI (M 5))]) (rest := []) ([] : va_W) ([] : va_W) hx hb hml hown hts hl hE hS hA (zr0 ([] : va_W) hP) (zr0D ([] : va_W) hD) (c_L_shelf_ok l D ct ad u a r q b nx sz S M TX tl pl ft n1 n2 wd (M 5) (by assumption) (by omega) (if_pos (by omega))) gL_hour_L_shelf rfl k_L_shelf ⟨Nat.le_of_ble_eq_true rfl, Nat.le_of_ble_eq_true rfl⟩ rfl (Nat.le_of_ble_eq_true rfl) ⟨Nat.le_of_ble_eq_true rfl, Nat.le_of_ble_eq_true rfl⟩ dL_hour_12 rfl (fun v w1 H locs hpost hP hD hS => ?_)
  obtain ⟨rfl, rfl⟩ := hpost
  have hP := zr0' hP
  have hD := zr0D' hD
  have hP : va_P D vwCl (x8W u a r q ++ (svW ct r b nx sz S ++ (sobjW a ++ (gridW ct a M ++ (benchW ct a M ++ (logW ct a M ++ (txtW ct q TX tl pl ft wd n1 n2))))))) H := hP
  have hD : va_D A (x8W u a r q ++ (svW ct r b nx sz S ++ (sobjW a ++ (gridW ct a M ++ (benchW ct a M ++ (logW ct a M ++ (txtW ct q TX tl pl ft wd n1 n2))))))) := hD
  refine W.eq (g2 := F0 m 15 ls [.int (zI (M (49 + (M 5))))]) rfl ?_
  refine lv_istore_n (lv' := [(2, .int (zI (M (49 + (M 5))))), (1, .int (zI (M 6))), (0, .ref u)]) hx hb dL_hour_15 rfl hl (by decide) rfl (fun ls hl => ?_)
  refine lv_aload_n hx hb dL_hour_16 rfl (lv_at hl 2 rfl) ?_
  refine z_bipush hx hb dL_hour_17 (by decide) ?_
  refine z_callSW (As := [.ref u, .int (zI 14)]) (rest := []) ([] : va_W) ([] : va_W) hx hb hml hown hts hl hE hS hA (zr0 ([] : va_W) hP) (zr0D ([] : va_W) hD) (c_L_whole_ok l D ct ad u a r q b nx sz S M TX tl pl ft n1 n2 wd 14 (by assumption) (by omega) (by omega)) gL_hour_L_whole rfl k_L_whole ⟨Nat.le_of_ble_eq_true rfl, Nat.le_of_ble_eq_true rfl⟩ rfl (Nat.le_of_ble_eq_true rfl) ⟨Nat.le_of_ble_eq_true rfl, Nat.le_of_ble_eq_true rfl⟩ dL_hour_19 rfl (fun v w1 H locs hpost hP hD hS => ?_)
  obtain ⟨rfl, rfl⟩ := hpost
  have hP := zr0' hP
  have hD := zr0D' hD
  have hP : va_P D vwCl (x8W u a r q ++ (svW ct r b nx sz S ++ (sobjW a ++ (gridW ct a M ++ (benchW ct a M ++ (logW ct a M ++ (txtW ct q TX tl pl ft wd n1 n2))))))) H := hP
  have hD : va_D A (x8W u a r q ++ (svW ct r b nx sz S ++ (sobjW a ++ (gridW ct a M ++ (benchW ct a M ++ (logW ct a M ++ (txtW ct q TX tl pl ft wd n1 n2))))))) := hD
  refine W.eq (g2 := F0 m 22 ls [.int (zI (sp_wh M tl 14))]) rfl ?_
  refine z_canI (show sp_wh M tl 14 = M 1 from rfl) ?_
  refine lv_istore_n (lv' := [(3, .int (zI (M 1))), (2, .int (zI (M (49 + (M 5))))), (1, .int (zI (M 6))), (0, .ref u)]) hx hb dL_hour_22 rfl hl (by decide) rfl (fun ls hl => ?_)
  refine lv_aload_n hx hb dL_hour_23 rfl (lv_at hl 3 rfl) ?_
  refine z_iconst hx hb dL_hour_24 ?_
  refine z_callSW (As := [.ref u, .int (zI 5)]) (rest := []) ([] : va_W) ([] : va_W) hx hb hml hown hts hl hE hS hA (zr0 ([] : va_W) hP) (zr0D ([] : va_W) hD) (c_L_whole_ok l D ct ad u a r q b nx sz S M TX tl pl ft n1 n2 wd 5 (by assumption) (by omega) (by omega)) gL_hour_L_whole rfl k_L_whole ⟨Nat.le_of_ble_eq_true rfl, Nat.le_of_ble_eq_true rfl⟩ rfl (Nat.le_of_ble_eq_true rfl) ⟨Nat.le_of_ble_eq_true rfl, Nat.le_of_ble_eq_true rfl⟩ dL_hour_25 rfl (fun v w1 H locs hpost hP hD hS => ?_)
  obtain ⟨rfl, rfl⟩ := hpost
  have hP := zr0' hP
  have hD := zr0D' hD
  have hP : va_P D vwCl (x8W u a r q ++ (svW ct r b nx sz S ++ (sobjW a ++ (gridW ct a M ++ (benchW ct a M ++ (logW ct a M ++ (txtW ct q TX tl pl ft wd n1 n2))))))) H := hP
  have hD : va_D A (x8W u a r q ++ (svW ct r b nx sz S ++ (sobjW a ++ (gridW ct a M ++ (benchW ct a M ++ (logW ct a M ++ (txtW ct q TX tl pl ft wd n1 n2))))))) := hD
  refine W.eq (g2 := F0 m 28 ls [.int (zI (sp_wh M tl 5))]) rfl ?_
  refine z_canI (show sp_wh M tl 5 = M 8 from rfl) ?_
  refine lv_istore (lv' := [(4, .int (zI (M 8))), (3, .int (zI (M 1))), (2, .int (zI (M (49 + (M 5))))), (1, .int (zI (M 6))), (0, .ref u)]) hx hb dL_hour_28 hl (by decide) rfl (fun ls hl => ?_)
  refine lv_aload_n hx hb dL_hour_30 rfl (lv_at hl 4 rfl) ?_
  refine z_bipush hx hb dL_hour_31 (by decide) ?_
  refine z_callSW (As := [.ref u, .int (zI 11)]) (rest := []) ([] : va_W) ([] : va_W) hx hb hml hown hts hl hE hS hA (zr0 ([] : va_W) hP) (zr0D ([] : va_W) hD) (c_L_whole_ok l D ct ad u a r q b nx sz S M TX tl pl ft n1 n2 wd 11 (by assumption) (by omega) (by omega)) gL_hour_L_whole rfl k_L_whole ⟨Nat.le_of_ble_eq_true rfl, Nat.le_of_ble_eq_true rfl⟩ rfl (Nat.le_of_ble_eq_true rfl) ⟨Nat.le_of_ble_eq_true rfl, Nat.le_of_ble_eq_true rfl⟩ dL_hour_33 rfl (fun v w1 H locs hpost hP hD hS => ?_)
  obtain ⟨rfl, rfl⟩ := hpost
  have hP := zr0' hP
  have hD := zr0D' hD
  have hP : va_P D vwCl (x8W u a r q ++ (svW ct r b nx sz S ++ (sobjW a ++ (gridW ct a M ++ (benchW ct a M ++ (logW ct a M ++ (txtW ct q TX tl pl ft wd n1 n2))))))) H := hP
  have hD : va_D A (x8W u a r q ++ (svW ct r b nx sz S ++ (sobjW a ++ (gridW ct a M ++ (benchW ct a M ++ (logW ct a M ++ (txtW ct q TX tl pl ft wd n1 n2))))))) := hD
  refine W.eq (g2 := F0 m 36 ls [.int (zI (sp_wh M tl 11))]) rfl ?_
  refine z_canI (show sp_wh M tl 11 = M 10 from rfl) ?_
  refine lv_istore (lv' := [(5, .int (zI (M 10))), (4, .int (zI (M 8))), (3, .int (zI (M 1))), (2, .int (zI (M (49 + (M 5))))), (1, .int (zI (M 6))), (0, .ref u)]) hx hb dL_hour_36 hl (by decide) rfl (fun ls hl => ?_)
  refine lv_aload_n hx hb dL_hour_38 rfl (lv_at hl 5 rfl) ?_
  refine z_bipush hx hb dL_hour_39 (by decide) ?_
  refine z_callSW (As := [.ref u, .int (zI 10)]) (rest := []) ([] : va_W) ([] : va_W) hx hb hml hown hts hl hE hS hA (zr0 ([] : va_W) hP) (zr0D ([] : va_W) hD) (c_L_whole_ok l D ct ad u a r q b nx sz S M TX tl pl ft n1 n2 wd 10 (by assumption) (by omega) (by omega)) gL_hour_L_whole rfl k_L_whole ⟨Nat.le_of_ble_eq_true rfl, Nat.le_of_ble_eq_true rfl⟩ rfl (Nat.le_of_ble_eq_true rfl) ⟨Nat.le_of_ble_eq_true rfl, Nat.le_of_ble_eq_true rfl⟩ dL_hour_41 rfl (fun v w1 H locs hpost hP hD hS => ?_)
  obtain ⟨rfl, rfl⟩ := hpost
  have hP := zr0' hP
  have hD := zr0D' hD
  have hP : va_P D vwCl (x8W u a r q ++ (svW ct r b nx sz S ++ (sobjW a ++ (gridW ct a M ++ (benchW ct a M ++ (logW ct a M ++ (txtW ct q TX tl pl ft wd n1 n2))))))) H := hP
  have hD : va_D A (x8W u a r q ++ (svW ct r b nx sz S ++ (sobjW a ++ (gridW ct a M ++ (benchW ct a M ++ (logW ct a M ++ (txtW ct q TX tl pl ft wd n1 n2))))))) := hD
  refine W.eq (g2 := F0 m 44 ls [.int (zI (sp_wh M tl 10))]) rfl ?_
  refine z_canI (show sp_wh M tl 10 = M 9 from rfl) ?_
  refine lv_istore (lv' := [(6, .int (zI (M 9))), (5, .int (zI (M 10))), (4, .int (zI (M 8))), (3, .int (zI (M 1))), (2, .int (zI (M (49 + (M 5))))), (1, .int (zI (M 6))), (0, .ref u)]) hx hb dL_hour_44 hl (by decide) rfl (fun ls hl => ?_)
  refine lv_aload_n hx hb dL_hour_46 rfl (lv_at hl 6 rfl) ?_
  refine z_callV (C := RX8) (q0 := 0) (ci := 6) (As := []) (rest := []) ([] : va_W) ([] : va_W) hx hb hml hown hts hl hE hS hA (zr0 ([] : va_W) hP) (zr0D ([] : va_W) hD) (c_X8_rates l D ct ad u a r q b nx sz S M TX tl pl ft n1 n2 wd (by assumption)) gL_hour_X8_rates rfl rfl k_X8_rates ⟨Nat.le_of_ble_eq_true rfl, Nat.le_of_ble_eq_true rfl⟩ rfl rfl rfl rfl (Nat.le_of_ble_eq_true rfl) ⟨Nat.le_of_ble_eq_true rfl, Nat.le_of_ble_eq_true rfl⟩ dL_hour_47 rfl (fun v w1 H locs hpost hP hD hS => ?_)
  obtain ⟨rfl, rfl⟩ := hpost
  have hP := zr0' hP
  have hD := zr0D' hD
  have hP : va_P D vwCl (x8W u a r q ++ (svW ct r b nx sz S ++ (sobjW a ++ (gridW ct a M ++ (benchW ct a M ++ (logW ct a M ++ (txtW ct q TX tl pl ft wd n1 n2))))))) H := hP
  have hD : va_D A (x8W u a r q ++ (svW ct r b nx sz S ++ (sobjW a ++ (gridW ct a M ++ (benchW ct a M ++ (logW ct a M ++ (txtW ct q TX tl pl ft wd n1 n2))))))) := hD
  refine W.eq (g2 := F0 m 50 ls [.long (zJ (M 12))]) rfl ?_
  refine lv_lstore (lv' := [(7, .long (zJ (M 12))), (6, .int (zI (M 9))), (5, .int (zI (M 10))), (4, .int (zI (M 8))), (3, .int (zI (M 1))), (2, .int (zI (M (49 + (M 5))))), (1, .int (zI (M 6))), (0, .ref u)]) hx hb dL_hour_50 hl (by decide) rfl (fun ls hl => ?_)
  refine lv_iload_n hx hb dL_hour_52 rfl (lv_at hl 5 rfl) ?_
  refine lv_iload_n hx hb dL_hour_53 rfl (lv_at hl 6 rfl) ?_
  refine z_isub hx hb dL_hour_54 ?_
  obtain ⟨far, hfar⟩ : ∃ z : Int, z = (M (49 + (M 5))) - (M 6) := ⟨_, rfl⟩
  refine z_canI (show (M (49 + (M 5))) - (M 6) = far from hfar.symm) ?_
  refine lv_istore (lv' := [(9, .int (zI far)), (7, .long (zJ (M 12))), (6, .int (zI (M 9))), (5, .int (zI (M 10))), (4, .int (zI (M 8))), (3, .int (zI (M 1))), (2, .int (zI (M (49 + (M 5))))), (1, .int (zI (M 6))), (0, .ref u)]) hx hb dL_hour_55 hl (by decide) rfl (fun ls hl => ?_)
  refine lv_iload hx hb dL_hour_57 (lv_at hl 0 rfl) ?_
  refine z_if_lt (tgt := 69) hx hb dL_hour_59 (by decide) (by omega) (fun hc_59 => ?_) (fun hc_59 => ?_)
  · have hc_59 := hc_59
    refine lv_iload_n hx hb dL_hour_69 rfl (lv_at hl 5 rfl) ?_
    refine z_iconst hx hb dL_hour_70 ?_
    refine z_isub hx hb dL_hour_71 ?_
    refine lv_iload hx hb dL_hour_72 (lv_at hl 0 rfl) ?_
    refine z_isub hx hb dL_hour_74 ?_
    refine lv_iload_n hx hb dL_hour_75 rfl (lv_at hl 5 rfl) ?_
    refine z_idiv hx hb dL_hour_76 (by omega) (by omega) ?_
    refine z_ineg hx hb dL_hour_77 ?_
    refine lv_istore (lv' := [(10, .int (zI (-((((M 1) - 1) - far) / (M 1))))), (9, .int (zI far)), (7, .long (zJ (M 12))), (6, .int (zI (M 9))), (5, .int (zI (M 10))), (4, .int (zI (M 8))), (3, .int (zI (M 1))), (2, .int (zI (M (49 + (M 5))))), (1, .int (zI (M 6))), (0, .ref u)]) hx hb dL_hour_78 hl (by decide) rfl (fun ls hl => ?_)
    refine lv_iload hx hb dL_hour_80 (lv_at hl 0 rfl) ?_
    refine z_if_ne (tgt := 94) hx hb dL_hour_82 (by decide) (by first | omega | (have k9 := warm_a (M := M) (t := M 6) hc_59 hfar; omega) | (have k9 := warm_b hB (t := M 6) hc_59 hfar; omega)) (fun hc_82 => ?_) (fun hc_82 => ?_)
    · have hc_82 := hc_82
      refine lv_iload hx hb dL_hour_94 (lv_at hl 0 rfl) ?_
      exact g_L_hour_96 l D ct ad u a r q b nx sz S M TX tl pl ft n1 n2 wd (-((((M 1) - 1) - far) / (M 1))) (by assumption) (by assumption) (by omega) (by omega) (by omega) (show M 6 + (-((((M 1) - 1) - far) / (M 1))) = sp_warm M (M 6) from (by first | (have k9 := warm_a (M := M) (t := M 6) hc_59 hfar; omega) | (have k9 := warm_b hB (t := M 6) hc_59 hfar; omega))) p e s m below meth c A _ _ _ hx hb hr hts hown hlocks hml hE hA hP hD hS (lv_sub hl [9, 8, 5, 4, 3, 2] rfl)
    · have hc_82 := hc_82
      have k9 := warm_b hB (t := M 6) hc_59 hfar; omega
  · have hc_59 := hc_59
    refine lv_iload hx hb dL_hour_62 (lv_at hl 0 rfl) ?_
    refine lv_iload_n hx hb dL_hour_64 rfl (lv_at hl 5 rfl) ?_
    refine z_idiv hx hb dL_hour_65 (by omega) (by omega) ?_
    refine lv_goto (tgt := 78) hx hb dL_hour_66 (by decide) ?_
    refine lv_istore (lv' := [(10, .int (zI (far / (M 1)))), (9, .int (zI far)), (7, .long (zJ (M 12))), (6, .int (zI (M 9))), (5, .int (zI (M 10))), (4, .int (zI (M 8))), (3, .int (zI (M 1))), (2, .int (zI (M (49 + (M 5))))), (1, .int (zI (M 6))), (0, .ref u)]) hx hb dL_hour_78 hl (by decide) rfl (fun ls hl => ?_)
    refine lv_iload hx hb dL_hour_80 (lv_at hl 0 rfl) ?_
    refine z_if_ne (tgt := 94) hx hb dL_hour_82 (by decide) (by first | omega | (have k9 := warm_a (M := M) (t := M 6) hc_59 hfar; omega) | (have k9 := warm_b hB (t := M 6) hc_59 hfar; omega)) (fun hc_82 => ?_) (fun hc_82 => ?_)
    · have hc_82 := hc_82
      refine lv_iload hx hb dL_hour_94 (lv_at hl 0 rfl) ?_
      exact g_L_hour_96 l D ct ad u a r q b nx sz S M TX tl pl ft n1 n2 wd (far / (M 1)) (by assumption) (by assumption) (by omega) (by omega) (by omega) (show M 6 + (far / (M 1)) = sp_warm M (M 6) from (by first | (have k9 := warm_a (M := M) (t := M 6) hc_59 hfar; omega) | (have k9 := warm_b hB (t := M 6) hc_59 hfar; omega))) p e s m below meth c A _ _ _ hx hb hr hts hown hlocks hml hE hA hP hD hS (lv_sub hl [9, 8, 5, 4, 3, 2] rfl)
    · have hc_82 := hc_82
      refine lv_iload hx hb dL_hour_85 (lv_at hl 1 rfl) ?_
      refine z_if_le (tgt := 94) hx hb dL_hour_87 (by decide) (by omega) (fun hc_87 => ?_) (fun hc_87 => ?_)
      · have hc_87 := hc_87
        refine lv_iload hx hb dL_hour_94 (lv_at hl 0 rfl) ?_
        exact g_L_hour_96 l D ct ad u a r q b nx sz S M TX tl pl ft n1 n2 wd (far / (M 1)) (by assumption) (by assumption) (by omega) (by omega) (by omega) (show M 6 + (far / (M 1)) = sp_warm M (M 6) from (by first | (have k9 := warm_a (M := M) (t := M 6) hc_59 hfar; omega) | (have k9 := warm_b hB (t := M 6) hc_59 hfar; omega))) p e s m below meth c A _ _ _ hx hb hr hts hown hlocks hml hE hA hP hD hS (lv_sub hl [9, 8, 5, 4, 3, 2] rfl)
      · have hc_87 := hc_87
        refine z_iconst hx hb dL_hour_90 ?_
        refine lv_goto (tgt := 96) hx hb dL_hour_91 (by decide) ?_
        exact g_L_hour_96 l D ct ad u a r q b nx sz S M TX tl pl ft n1 n2 wd 1 (by assumption) (by assumption) (by omega) (by omega) (by omega) (show M 6 + 1 = sp_warm M (M 6) from (by first | (have k9 := warm_a (M := M) (t := M 6) hc_59 hfar; omega) | (have k9 := warm_b hB (t := M 6) hc_59 hfar; omega))) p e s m below meth c A _ _ _ hx hb hr hts hown hlocks hml hE hA hP hD hS (lv_sub hl [9, 8, 5, 4, 3, 2] rfl)
