theorem sp_whB {M : Int → Int} {tl w : Int} (h : sInv M) (ht : 0 ≤ tl ∧ tl ≤ 150) : -2147483648 ≤ sp_wh M tl w ∧ sp_wh M tl w ≤ 2147483647 := by
  have i3 := h.1.1
  have i4 := h.1.2.1
  have j0 := h.2.1.1
  have j1 := h.2.1.2.1
  have j2 := h.2.1.2.2.1
  have j4 := h.2.1.2.2.2.2
  have ha := h.2.2
  have qa := sp_arcB h.2.1 j1.2.2.2
  have ql := sp_lenB h.1 h.2.1 j1.2.1
  have qr := sp_rateB (len := sp_len M (M 6)) h.2.1 j1.2.2.2
  unfold sp_wh sp_whole sp_rateM
  (repeat' split) <;> omega
theorem sp_bestB {M : Int → Int} : -500 ≤ sp_best M ∧ sp_best M ≤ 500 := (sp_best_is (sp_nr M (sp_rods M (M 6)))).1
theorem mxW_e {M : Int → Int} {tl h : Int} : mixN h (fun k => sp_wh M tl k) (18 : Int).toNat = mxW M tl h := rfl
theorem k_X8_balance : yX8_balance.cls ≠ "java/lang/invoke/MethodHandle" ∧ yX8_balance.cls ≠ "java/lang/invoke/VarHandle" ∧ (parseMethodDescriptor yX8_balance.desc).map (fun d => d.parameters.length) = some 0 := by decide +kernel
theorem k_X8_balanceBits : yX8_balanceBits.cls ≠ "java/lang/invoke/MethodHandle" ∧ yX8_balanceBits.cls ≠ "java/lang/invoke/VarHandle" ∧ (parseMethodDescriptor yX8_balanceBits.desc).map (fun d => d.parameters.length) = some 0 := by decide +kernel
theorem k_X8_bestNut : yX8_bestNut.cls ≠ "java/lang/invoke/MethodHandle" ∧ yX8_bestNut.cls ≠ "java/lang/invoke/VarHandle" ∧ (parseMethodDescriptor yX8_bestNut.desc).map (fun d => d.parameters.length) = some 0 := by decide +kernel
theorem k_X8_mix : yX8_mix.cls ≠ "java/lang/invoke/MethodHandle" ∧ yX8_mix.cls ≠ "java/lang/invoke/VarHandle" ∧ (parseMethodDescriptor yX8_mix.desc).map (fun d => d.parameters.length) = some 2 := by decide +kernel
theorem k_X8_rates : yX8_rates.cls ≠ "java/lang/invoke/MethodHandle" ∧ yX8_rates.cls ≠ "java/lang/invoke/VarHandle" ∧ (parseMethodDescriptor yX8_rates.desc).map (fun d => d.parameters.length) = some 0 := by decide +kernel
set_option maxHeartbeats 4000000 in
set_option maxRecDepth 100000 in
theorem c_X8_digest (l : Launch) (D : va_G) (ct ad : Nat → Nat) (u : Nat) (a r q : Nat → Nat) (b : Nat → Nat → Nat) (nx sz : Int) (S : Nat → Int → Int) (M TX : Int → Int) (tl pl ft n1 n2 : Int) (wd : Value) (hs : sInv M) (ht : tInv TX tl) (hn : 0 ≤ nx ∧ nx ≤ 3) (hsz : 0 ≤ sz ∧ sz ≤ 4) : ZM l yX8_digest wsX8_digest ({ frames := 6, cells := 0, slots := 0, locals := 148 } : Room) D ct ad [.ref u] (x8W u a r q ++ (svW ct r b nx sz S ++ (sobjW a ++ (gridW ct a M ++ (benchW ct a M ++ (logW ct a M ++ (txtW ct q TX tl pl ft wd n1 n2))))))) (zD (some (.long (zJ (dgst M tl sz (sp_bits M))))) (x8W u a r q ++ (svW ct r b nx sz S ++ (sobjW a ++ (gridW ct a M ++ (benchW ct a M ++ (logW ct a M ++ (txtW ct q TX tl pl ft wd n1 n2)))))))) := by
  refine ZM.of (cc := cX8_digest) (maxL := 5) (ret := (some .long)) (by decide +kernel) rfl (Nat.le_of_ble_eq_true rfl) ?_
  intro p e s m below meth c A ls hx hb hr hts hown hlocks hml hname hE hP hD hA hS hl
  have hK := hE.1
  have hf_0 := hts (.constantLong RX8 238 (43239)) (by decide +kernel)
  have hf_1 := hts (.fieldLink RX8 19 "RodGrids" "saved" "LRodGrids$SavedStates;") (by decide +kernel)
  have hf_2 := hts (.fieldLink RX8 231 "RodGrids$SavedStates" "size" "I") (by decide +kernel)
  have hf_3 := hts (.fieldLink RX8 10 "RodGrids" "state" "LRodGrids$State;") (by decide +kernel)
  have hf_4 := hts (.fieldLink RX8 30 "RodGrids$State" "grid" "LRodGrids$Grid;") (by decide +kernel)
  have hf_5 := hts (.fieldLink RX8 256 "RodGrids$Grid" "metals" "I") (by decide +kernel)
  have hf_6 := hts (.fieldLink RX8 265 "RodGrids$Grid" "rods" "I") (by decide +kernel)
  have hf_7 := hts (.fieldLink RX8 158 "RodGrids$State" "log" "LRodGrids$DayLog;") (by decide +kernel)
  have hf_8 := hts (.fieldLink RX8 271 "RodGrids$DayLog" "days" "I") (by decide +kernel)
  have hin_X3 : ∀ z ∈ u_ws RX3 TX3 2, z ∈ wsX8_digest := by decide +kernel
  have hin_X4 : ∀ z ∈ u_ws RX4 TX4 6, z ∈ wsX8_digest := by decide +kernel
  have hin_X5 : ∀ z ∈ u_ws RX5 TX5 3, z ∈ wsX8_digest := by decide +kernel
  have hin_X6 : ∀ z ∈ u_ws RX6 TX6 3, z ∈ wsX8_digest := by decide +kernel
  have hin_X8 : ∀ z ∈ u_ws RX8 TX8 3, z ∈ wsX8_digest := by decide +kernel
  have hl : lv_has ls 5 [(0, .ref u)] := hl
  have hI := hs.1
  have hB := hs.2.1
  have ha := hs.2.2
  have i3 := hI.1
  have i4 := hI.2.1
  have j0 := hB.1
  have j1 := hB.2.1
  have j2 := hB.2.2.1
  have j4 := hB.2.2.2.2
  have t1 := ht.1
  have j15 := hB.2.2.2.2
  refine z_ldc2 hx hb 43239 hown hf_0 (by decide) dX8_digest_0 ?_
  refine lv_aload_n hx hb dX8_digest_3 rfl (lv_at hl 0 rfl) ?_
  refine va_get (D := D) (ci := 6) (v := .ref (r 0)) (C := RX8) (T := TX8) (N := 3) hx hb hts hin_X8 hown hK hP 0 rfl rfl 1 (by decide) hf_1 (fun _ h9 => h9) rfl dX8_digest_4 ?_
  refine va_get (D := D) (ci := 4) (v := .int (zI sz)) (C := RX5) (T := TX5) (N := 3) hx hb hts hin_X5 hown hK hP 1 rfl rfl 2 (by decide) hf_2 (fun _ h9 => h9) rfl dX8_digest_7 ?_
  refine z_i2l hx hb dX8_digest_10 (by omega) ?_
  refine z_callS (As := [.long (zJ 43239), .long (zJ sz)]) (rest := []) ([] : va_W) (x8W u a r q ++ (svW ct r b nx sz S ++ (sobjW a ++ (gridW ct a M ++ (benchW ct a M ++ (logW ct a M ++ (txtW ct q TX tl pl ft wd n1 n2))))))) hx hb hml hown hts hl hE hS hA hP hD (c_X8_mix l D ct ad 43239 sz) gX8_digest_X8_mix rfl k_X8_mix ⟨Nat.le_of_ble_eq_true rfl, Nat.le_of_ble_eq_true rfl⟩ rfl (Nat.le_of_ble_eq_true rfl) ⟨Nat.le_of_ble_eq_true rfl, Nat.le_of_ble_eq_true rfl⟩ dX8_digest_11 rfl (fun v w1 H locs hpost hP hD hS => ?_)
  obtain ⟨rfl, rfl⟩ := hpost
  have hP : va_P D vwCl (x8W u a r q ++ (svW ct r b nx sz S ++ (sobjW a ++ (gridW ct a M ++ (benchW ct a M ++ (logW ct a M ++ (txtW ct q TX tl pl ft wd n1 n2))))))) H := hP
  have hD : va_D A (x8W u a r q ++ (svW ct r b nx sz S ++ (sobjW a ++ (gridW ct a M ++ (benchW ct a M ++ (logW ct a M ++ (txtW ct q TX tl pl ft wd n1 n2))))))) := hD
  refine W.eq (g2 := F0 m 14 ls [.long (zJ (31 * 43239 + sz))]) rfl ?_
  refine lv_lstore_n (lv' := [(1, .long (zJ (31 * 43239 + sz))), (0, .ref u)]) hx hb dX8_digest_14 rfl hl (by decide) rfl (fun ls hl => ?_)
  refine z_iconst hx hb dX8_digest_15 ?_
  refine lv_istore_n (lv' := [(3, .int (zI 0)), (1, .long (zJ (31 * 43239 + sz))), (0, .ref u)]) hx hb dX8_digest_16 rfl hl (by decide) rfl (fun ls hl => ?_)
  refine z_loop (σ := Int × Int) (fun q9 => (18 - q9.1).toNat) (fun q9 => (0 ≤ q9.1 ∧ q9.1 ≤ 18) ∧ (q9.2 = mixN (31 * 43239 + sz) (fun k => sp_wh M tl k) (Int.toNat (q9.1)))) (fun q9 => x8W u a r q ++ (svW ct r b nx sz S ++ (sobjW a ++ (gridW ct a M ++ (benchW ct a M ++ (logW ct a M ++ (txtW ct q TX tl pl ft wd n1 n2))))))) (fun q9 => [(0, .ref u), (1, .long (zJ q9.2)), (3, .int (zI q9.1))]) (fun q9 => []) (0, 31 * 43239 + sz) ⟨(show 0 ≤ 0 ∧ 0 ≤ 18 from (by omega)), (show (31 * 43239 + sz) = mixN (31 * 43239 + sz) (fun k => sp_wh M tl k) (Int.toNat (0)) from (by first | rfl | exact eN))⟩ hP hD hS (lv_sub hl [2, 1, 0] rfl) rfl ?_
  rintro ⟨i, g_⟩ hI_17 ih_17 H locs ls hP hD hS hl
  obtain ⟨hi, hg⟩ := hI_17
  have hi : 0 ≤ i ∧ i ≤ 18 := hi
  have hg : g_ = mixN (31 * 43239 + sz) (fun k => sp_wh M tl k) (Int.toNat (i)) := hg
  have hP : va_P D vwCl (x8W u a r q ++ (svW ct r b nx sz S ++ (sobjW a ++ (gridW ct a M ++ (benchW ct a M ++ (logW ct a M ++ (txtW ct q TX tl pl ft wd n1 n2))))))) H := hP
  have hD : va_D A (x8W u a r q ++ (svW ct r b nx sz S ++ (sobjW a ++ (gridW ct a M ++ (benchW ct a M ++ (logW ct a M ++ (txtW ct q TX tl pl ft wd n1 n2))))))) := hD
  have hl : lv_has ls 5 [(0, .ref u), (1, .long (zJ g_)), (3, .int (zI i))] := hl
  refine lv_iload_n hx hb dX8_digest_17 rfl (lv_at hl 2 rfl) ?_
  refine z_bipush hx hb dX8_digest_18 (by decide) ?_
  refine z_icmp_ge (tgt := 40) hx hb dX8_digest_20 (by decide) (by omega) (by omega) (fun hc_20 => ?_) (fun hc_20 => ?_)
  · have hc_20 := hc_20
    have eA : g_ = mxW M tl (31 * 43239 + sz) := by rw [hg, show i = 18 by omega]; rfl
    refine lv_lload_n hx hb dX8_digest_40 rfl (lv_at hl 1 rfl) ?_
    refine lv_aload_n hx hb dX8_digest_41 rfl (lv_at hl 0 rfl) ?_
    refine z_callV (C := RX8) (q0 := 0) (ci := 6) (As := []) (rest := [.long (zJ g_)]) ([] : va_W) ([] : va_W) hx hb hml hown hts hl hE hS hA (zr0 ([] : va_W) hP) (zr0D ([] : va_W) hD) (c_X8_balance l D ct ad u a r q b nx sz S M TX tl pl ft n1 n2 wd (by assumption)) gX8_digest_X8_balance rfl rfl k_X8_balance ⟨Nat.le_of_ble_eq_true rfl, Nat.le_of_ble_eq_true rfl⟩ rfl rfl rfl rfl (Nat.le_of_ble_eq_true rfl) ⟨Nat.le_of_ble_eq_true rfl, Nat.le_of_ble_eq_true rfl⟩ dX8_digest_42 rfl (fun v w1 H locs hpost hP hD hS => ?_)
    obtain ⟨rfl, rfl⟩ := hpost
    have hP := zr0' hP
    have hD := zr0D' hD
    have hP : va_P D vwCl (x8W u a r q ++ (svW ct r b nx sz S ++ (sobjW a ++ (gridW ct a M ++ (benchW ct a M ++ (logW ct a M ++ (txtW ct q TX tl pl ft wd n1 n2))))))) H := hP
    have hD : va_D A (x8W u a r q ++ (svW ct r b nx sz S ++ (sobjW a ++ (gridW ct a M ++ (benchW ct a M ++ (logW ct a M ++ (txtW ct q TX tl pl ft wd n1 n2))))))) := hD
    refine W.eq (g2 := F0 m 45 ls [.long (zJ (sp_bal M)), .long (zJ g_)]) rfl ?_
    refine z_callS (As := [.long (zJ g_), .long (zJ (sp_bal M))]) (rest := []) ([] : va_W) (x8W u a r q ++ (svW ct r b nx sz S ++ (sobjW a ++ (gridW ct a M ++ (benchW ct a M ++ (logW ct a M ++ (txtW ct q TX tl pl ft wd n1 n2))))))) hx hb hml hown hts hl hE hS hA hP hD (c_X8_mix l D ct ad g_ (sp_bal M)) gX8_digest_X8_mix rfl k_X8_mix ⟨Nat.le_of_ble_eq_true rfl, Nat.le_of_ble_eq_true rfl⟩ rfl (Nat.le_of_ble_eq_true rfl) ⟨Nat.le_of_ble_eq_true rfl, Nat.le_of_ble_eq_true rfl⟩ dX8_digest_45 rfl (fun v w1 H locs hpost hP hD hS => ?_)
    obtain ⟨rfl, rfl⟩ := hpost
    have hP : va_P D vwCl (x8W u a r q ++ (svW ct r b nx sz S ++ (sobjW a ++ (gridW ct a M ++ (benchW ct a M ++ (logW ct a M ++ (txtW ct q TX tl pl ft wd n1 n2))))))) H := hP
    have hD : va_D A (x8W u a r q ++ (svW ct r b nx sz S ++ (sobjW a ++ (gridW ct a M ++ (benchW ct a M ++ (logW ct a M ++ (txtW ct q TX tl pl ft wd n1 n2))))))) := hD
    refine W.eq (g2 := F0 m 48 ls [.long (zJ (31 * g_ + (sp_bal M)))]) rfl ?_
    refine lv_aload_n hx hb dX8_digest_48 rfl (lv_at hl 0 rfl) ?_
    refine z_callV (C := RX8) (q0 := 0) (ci := 6) (As := []) (rest := [.long (zJ (31 * g_ + (sp_bal M)))]) ([] : va_W) ([] : va_W) hx hb hml hown hts hl hE hS hA (zr0 ([] : va_W) hP) (zr0D ([] : va_W) hD) (c_X8_rates l D ct ad u a r q b nx sz S M TX tl pl ft n1 n2 wd (by assumption)) gX8_digest_X8_rates rfl rfl k_X8_rates ⟨Nat.le_of_ble_eq_true rfl, Nat.le_of_ble_eq_true rfl⟩ rfl rfl rfl rfl (Nat.le_of_ble_eq_true rfl) ⟨Nat.le_of_ble_eq_true rfl, Nat.le_of_ble_eq_true rfl⟩ dX8_digest_49 rfl (fun v w1 H locs hpost hP hD hS => ?_)
    obtain ⟨rfl, rfl⟩ := hpost
    have hP := zr0' hP
    have hD := zr0D' hD
    have hP : va_P D vwCl (x8W u a r q ++ (svW ct r b nx sz S ++ (sobjW a ++ (gridW ct a M ++ (benchW ct a M ++ (logW ct a M ++ (txtW ct q TX tl pl ft wd n1 n2))))))) H := hP
    have hD : va_D A (x8W u a r q ++ (svW ct r b nx sz S ++ (sobjW a ++ (gridW ct a M ++ (benchW ct a M ++ (logW ct a M ++ (txtW ct q TX tl pl ft wd n1 n2))))))) := hD
    refine W.eq (g2 := F0 m 52 ls [.long (zJ (M 12)), .long (zJ (31 * g_ + (sp_bal M)))]) rfl ?_
    refine z_callS (As := [.long (zJ (31 * g_ + (sp_bal M))), .long (zJ (M 12))]) (rest := []) ([] : va_W) (x8W u a r q ++ (svW ct r b nx sz S ++ (sobjW a ++ (gridW ct a M ++ (benchW ct a M ++ (logW ct a M ++ (txtW ct q TX tl pl ft wd n1 n2))))))) hx hb hml hown hts hl hE hS hA hP hD (c_X8_mix l D ct ad (31 * g_ + (sp_bal M)) (M 12)) gX8_digest_X8_mix rfl k_X8_mix ⟨Nat.le_of_ble_eq_true rfl, Nat.le_of_ble_eq_true rfl⟩ rfl (Nat.le_of_ble_eq_true rfl) ⟨Nat.le_of_ble_eq_true rfl, Nat.le_of_ble_eq_true rfl⟩ dX8_digest_52 rfl (fun v w1 H locs hpost hP hD hS => ?_)
    obtain ⟨rfl, rfl⟩ := hpost
    have hP : va_P D vwCl (x8W u a r q ++ (svW ct r b nx sz S ++ (sobjW a ++ (gridW ct a M ++ (benchW ct a M ++ (logW ct a M ++ (txtW ct q TX tl pl ft wd n1 n2))))))) H := hP
    have hD : va_D A (x8W u a r q ++ (svW ct r b nx sz S ++ (sobjW a ++ (gridW ct a M ++ (benchW ct a M ++ (logW ct a M ++ (txtW ct q TX tl pl ft wd n1 n2))))))) := hD
    refine W.eq (g2 := F0 m 55 ls [.long (zJ (31 * (31 * g_ + (sp_bal M)) + (M 12)))]) rfl ?_
    refine lv_aload_n hx hb dX8_digest_55 rfl (lv_at hl 0 rfl) ?_
    refine z_callV (C := RX8) (q0 := 0) (ci := 6) (As := []) (rest := [.long (zJ (31 * (31 * g_ + (sp_bal M)) + (M 12)))]) ([] : va_W) ([] : va_W) hx hb hml hown hts hl hE hS hA (zr0 ([] : va_W) hP) (zr0D ([] : va_W) hD) (c_X8_balanceBits l D ct ad u a r q b nx sz S M TX tl pl ft n1 n2 wd (by assumption)) gX8_digest_X8_balanceBits rfl rfl k_X8_balanceBits ⟨Nat.le_of_ble_eq_true rfl, Nat.le_of_ble_eq_true rfl⟩ rfl rfl rfl rfl (Nat.le_of_ble_eq_true rfl) ⟨Nat.le_of_ble_eq_true rfl, Nat.le_of_ble_eq_true rfl⟩ dX8_digest_56 rfl (fun v w1 H locs hpost hP hD hS => ?_)
    obtain ⟨rfl, rfl⟩ := hpost
    have hP := zr0' hP
    have hD := zr0D' hD
    have hP : va_P D vwCl (x8W u a r q ++ (svW ct r b nx sz S ++ (sobjW a ++ (gridW ct a M ++ (benchW ct a M ++ (logW ct a M ++ (txtW ct q TX tl pl ft wd n1 n2))))))) H := hP
    have hD : va_D A (x8W u a r q ++ (svW ct r b nx sz S ++ (sobjW a ++ (gridW ct a M ++ (benchW ct a M ++ (logW ct a M ++ (txtW ct q TX tl pl ft wd n1 n2))))))) := hD
    refine W.eq (g2 := F0 m 59 ls [.int (zI (sp_bits M)), .long (zJ (31 * (31 * g_ + (sp_bal M)) + (M 12)))]) rfl ?_
    have bb := sp_bitsB (M := M)
    refine z_i2l hx hb dX8_digest_59 (by omega) ?_
    refine z_callS (As := [.long (zJ (31 * (31 * g_ + (sp_bal M)) + (M 12))), .long (zJ (sp_bits M))]) (rest := []) ([] : va_W) (x8W u a r q ++ (svW ct r b nx sz S ++ (sobjW a ++ (gridW ct a M ++ (benchW ct a M ++ (logW ct a M ++ (txtW ct q TX tl pl ft wd n1 n2))))))) hx hb hml hown hts hl hE hS hA hP hD (c_X8_mix l D ct ad (31 * (31 * g_ + (sp_bal M)) + (M 12)) (sp_bits M)) gX8_digest_X8_mix rfl k_X8_mix ⟨Nat.le_of_ble_eq_true rfl, Nat.le_of_ble_eq_true rfl⟩ rfl (Nat.le_of_ble_eq_true rfl) ⟨Nat.le_of_ble_eq_true rfl, Nat.le_of_ble_eq_true rfl⟩ dX8_digest_60 rfl (fun v w1 H locs hpost hP hD hS => ?_)
    obtain ⟨rfl, rfl⟩ := hpost
    have hP : va_P D vwCl (x8W u a r q ++ (svW ct r b nx sz S ++ (sobjW a ++ (gridW ct a M ++ (benchW ct a M ++ (logW ct a M ++ (txtW ct q TX tl pl ft wd n1 n2))))))) H := hP
    have hD : va_D A (x8W u a r q ++ (svW ct r b nx sz S ++ (sobjW a ++ (gridW ct a M ++ (benchW ct a M ++ (logW ct a M ++ (txtW ct q TX tl pl ft wd n1 n2))))))) := hD
    refine W.eq (g2 := F0 m 63 ls [.long (zJ (31 * (31 * (31 * g_ + (sp_bal M)) + (M 12)) + (sp_bits M)))]) rfl ?_
    refine z_canL (show 31 * (31 * (31 * g_ + (sp_bal M)) + (M 12)) + (sp_bits M) = (31 * (31 * (31 * mxW M tl (31 * 43239 + sz) + sp_bal M) + M 12) + sp_bits M) from by rw [eA]) ?_
    refine lv_lstore_n (lv' := [(1, .long (zJ (31 * (31 * (31 * mxW M tl (31 * 43239 + sz) + sp_bal M) + M 12) + sp_bits M))), (0, .ref u), (3, .int (zI i))]) hx hb dX8_digest_63 rfl hl (by decide) rfl (fun ls hl => ?_)
    refine z_iconst hx hb dX8_digest_64 ?_
    refine lv_istore_n (lv' := [(3, .int (zI 0)), (1, .long (zJ (31 * (31 * (31 * mxW M tl (31 * 43239 + sz) + sp_bal M) + M 12) + sp_bits M))), (0, .ref u)]) hx hb dX8_digest_65 rfl hl (by decide) rfl (fun ls hl => ?_)
    refine z_loop (σ := Int × Int) (fun q9 => (M 3 - q9.1).toNat) (fun q9 => (0 ≤ q9.1 ∧ q9.1 ≤ M 3) ∧ (q9.2 = mixN (31 * (31 * (31 * mxW M tl (31 * 43239 + sz) + sp_bal M) + M 12) + sp_bits M) (fun k => M (16 + k)) (Int.toNat (q9.1)))) (fun q9 => x8W u a r q ++ (svW ct r b nx sz S ++ (sobjW a ++ (gridW ct a M ++ (benchW ct a M ++ (logW ct a M ++ (txtW ct q TX tl pl ft wd n1 n2))))))) (fun q9 => [(0, .ref u), (1, .long (zJ q9.2)), (3, .int (zI q9.1))]) (fun q9 => []) (0, (31 * (31 * (31 * mxW M tl (31 * 43239 + sz) + sp_bal M) + M 12) + sp_bits M)) ⟨(show 0 ≤ 0 ∧ 0 ≤ M 3 from (by omega)), (show (31 * (31 * (31 * mxW M tl (31 * 43239 + sz) + sp_bal M) + M 12) + sp_bits M) = mixN (31 * (31 * (31 * mxW M tl (31 * 43239 + sz) + sp_bal M) + M 12) + sp_bits M) (fun k => M (16 + k)) (Int.toNat (0)) from (by first | rfl | exact eN))⟩ hP hD hS (lv_sub hl [2, 1, 0] rfl) rfl ?_
    rintro ⟨i, g_⟩ hI_66 ih_66 H locs ls hP hD hS hl
    obtain ⟨hi, hg⟩ := hI_66
    have hi : 0 ≤ i ∧ i ≤ M 3 := hi
    have hg : g_ = mixN (31 * (31 * (31 * mxW M tl (31 * 43239 + sz) + sp_bal M) + M 12) + sp_bits M) (fun k => M (16 + k)) (Int.toNat (i)) := hg
    have hP : va_P D vwCl (x8W u a r q ++ (svW ct r b nx sz S ++ (sobjW a ++ (gridW ct a M ++ (benchW ct a M ++ (logW ct a M ++ (txtW ct q TX tl pl ft wd n1 n2))))))) H := hP
    have hD : va_D A (x8W u a r q ++ (svW ct r b nx sz S ++ (sobjW a ++ (gridW ct a M ++ (benchW ct a M ++ (logW ct a M ++ (txtW ct q TX tl pl ft wd n1 n2))))))) := hD
    have hl : lv_has ls 5 [(0, .ref u), (1, .long (zJ g_)), (3, .int (zI i))] := hl
    refine lv_iload_n hx hb dX8_digest_66 rfl (lv_at hl 2 rfl) ?_
    refine lv_aload_n hx hb dX8_digest_67 rfl (lv_at hl 0 rfl) ?_
    refine va_get (D := D) (ci := 6) (v := .ref (a 0)) (C := RX8) (T := TX8) (N := 3) hx hb hts hin_X8 hown hK hP 0 rfl rfl 0 (by decide) hf_3 (fun _ h9 => h9) rfl dX8_digest_68 ?_
    refine va_get (D := D) (ci := 5) (v := .ref (a 1)) (C := RX6) (T := TX6) (N := 3) hx hb hts hin_X6 hown hK hP 47 rfl rfl 0 (by decide) hf_4 (fun _ h9 => h9) rfl dX8_digest_71 ?_
    refine va_get (D := D) (ci := 3) (v := .int (zI (M 3))) (C := RX4) (T := TX4) (N := 6) hx hb hts hin_X4 hown hK hP 48 rfl rfl 0 (by decide) hf_5 (fun _ h9 => h9) rfl dX8_digest_74 ?_
    refine z_icmp_ge (tgt := 97) hx hb dX8_digest_77 (by decide) (by omega) (by omega) (fun hc_77 => ?_) (fun hc_77 => ?_)
    · have hc_77 := hc_77
      have eN : g_ = mixN (mx1 M (31 * (31 * (31 * mxW M tl (31 * 43239 + sz) + sp_bal M) + M 12) + sp_bits M)) (fun k => M (49 + k)) (0 : Int).toNat := by rw [hg, show i = M 3 by omega]; rfl
      refine z_iconst hx hb dX8_digest_97 ?_
      refine lv_istore_n (lv' := [(3, .int (zI 0)), (0, .ref u), (1, .long (zJ g_))]) hx hb dX8_digest_98 rfl hl (by decide) rfl (fun ls hl => ?_)
      refine z_loop (σ := Int × Int) (fun q9 => (5 - q9.1).toNat) (fun q9 => (0 ≤ q9.1 ∧ q9.1 ≤ 5) ∧ (q9.2 = mixN (mx1 M (31 * (31 * (31 * mxW M tl (31 * 43239 + sz) + sp_bal M) + M 12) + sp_bits M)) (fun k => M (49 + k)) (Int.toNat (q9.1)))) (fun q9 => x8W u a r q ++ (svW ct r b nx sz S ++ (sobjW a ++ (gridW ct a M ++ (benchW ct a M ++ (logW ct a M ++ (txtW ct q TX tl pl ft wd n1 n2))))))) (fun q9 => [(0, .ref u), (1, .long (zJ q9.2)), (3, .int (zI q9.1))]) (fun q9 => []) (0, g_) ⟨(show 0 ≤ 0 ∧ 0 ≤ 5 from (by omega)), (show g_ = mixN (mx1 M (31 * (31 * (31 * mxW M tl (31 * 43239 + sz) + sp_bal M) + M 12) + sp_bits M)) (fun k => M (49 + k)) (Int.toNat (0)) from (by first | rfl | exact eN))⟩ hP hD hS (lv_sub hl [1, 2, 0] rfl) rfl ?_
      rintro ⟨i, g_⟩ hI_99 ih_99 H locs ls hP hD hS hl
      obtain ⟨hi, hg⟩ := hI_99
      have hi : 0 ≤ i ∧ i ≤ 5 := hi
      have hg : g_ = mixN (mx1 M (31 * (31 * (31 * mxW M tl (31 * 43239 + sz) + sp_bal M) + M 12) + sp_bits M)) (fun k => M (49 + k)) (Int.toNat (i)) := hg
      have hP : va_P D vwCl (x8W u a r q ++ (svW ct r b nx sz S ++ (sobjW a ++ (gridW ct a M ++ (benchW ct a M ++ (logW ct a M ++ (txtW ct q TX tl pl ft wd n1 n2))))))) H := hP
      have hD : va_D A (x8W u a r q ++ (svW ct r b nx sz S ++ (sobjW a ++ (gridW ct a M ++ (benchW ct a M ++ (logW ct a M ++ (txtW ct q TX tl pl ft wd n1 n2))))))) := hD
      have hl : lv_has ls 5 [(0, .ref u), (1, .long (zJ g_)), (3, .int (zI i))] := hl
      refine lv_iload_n hx hb dX8_digest_99 rfl (lv_at hl 2 rfl) ?_
      refine z_iconst hx hb dX8_digest_100 ?_
      refine z_icmp_ge (tgt := 121) hx hb dX8_digest_101 (by decide) (by omega) (by omega) (fun hc_101 => ?_) (fun hc_101 => ?_)
      · have hc_101 := hc_101
        have eN : g_ = mixN (mx2 M (mx1 M (31 * (31 * (31 * mxW M tl (31 * 43239 + sz) + sp_bal M) + M 12) + sp_bits M))) (fun k => sp_rodv M (k / 5) (k % 5) (M 6)) (5 * (0 : Int)).toNat := by rw [hg, show i = 5 by omega]; rfl
        refine z_iconst hx hb dX8_digest_121 ?_
        refine lv_istore_n (lv' := [(3, .int (zI 0)), (0, .ref u), (1, .long (zJ g_))]) hx hb dX8_digest_122 rfl hl (by decide) rfl (fun ls hl => ?_)
        refine z_loop (σ := Int × Int) (fun q9 => (M 4 - q9.1).toNat) (fun q9 => (0 ≤ q9.1 ∧ q9.1 ≤ M 4) ∧ (q9.2 = mixN (mx2 M (mx1 M (31 * (31 * (31 * mxW M tl (31 * 43239 + sz) + sp_bal M) + M 12) + sp_bits M))) (fun k => sp_rodv M (k / 5) (k % 5) (M 6)) (Int.toNat (5 * q9.1)))) (fun q9 => x8W u a r q ++ (svW ct r b nx sz S ++ (sobjW a ++ (gridW ct a M ++ (benchW ct a M ++ (logW ct a M ++ (txtW ct q TX tl pl ft wd n1 n2))))))) (fun q9 => [(0, .ref u), (1, .long (zJ q9.2)), (3, .int (zI q9.1))]) (fun q9 => []) (0, g_) ⟨(show 0 ≤ 0 ∧ 0 ≤ M 4 from (by omega)), (show g_ = mixN (mx2 M (mx1 M (31 * (31 * (31 * mxW M tl (31 * 43239 + sz) + sp_bal M) + M 12) + sp_bits M))) (fun k => sp_rodv M (k / 5) (k % 5) (M 6)) (Int.toNat (5 * 0)) from (by first | rfl | exact eN))⟩ hP hD hS (lv_sub hl [1, 2, 0] rfl) rfl ?_
        rintro ⟨i, g_⟩ hI_123 ih_123 H locs ls hP hD hS hl
        obtain ⟨hi, hg⟩ := hI_123
        have hi : 0 ≤ i ∧ i ≤ M 4 := hi
        have hg : g_ = mixN (mx2 M (mx1 M (31 * (31 * (31 * mxW M tl (31 * 43239 + sz) + sp_bal M) + M 12) + sp_bits M))) (fun k => sp_rodv M (k / 5) (k % 5) (M 6)) (Int.toNat (5 * i)) := hg
        have hP : va_P D vwCl (x8W u a r q ++ (svW ct r b nx sz S ++ (sobjW a ++ (gridW ct a M ++ (benchW ct a M ++ (logW ct a M ++ (txtW ct q TX tl pl ft wd n1 n2))))))) H := hP
        have hD : va_D A (x8W u a r q ++ (svW ct r b nx sz S ++ (sobjW a ++ (gridW ct a M ++ (benchW ct a M ++ (logW ct a M ++ (txtW ct q TX tl pl ft wd n1 n2))))))) := hD
        have hl : lv_has ls 5 [(0, .ref u), (1, .long (zJ g_)), (3, .int (zI i))] := hl
        refine lv_iload_n hx hb dX8_digest_123 rfl (lv_at hl 2 rfl) ?_
        refine lv_aload_n hx hb dX8_digest_124 rfl (lv_at hl 0 rfl) ?_
        refine va_get (D := D) (ci := 6) (v := .ref (a 0)) (C := RX8) (T := TX8) (N := 3) hx hb hts hin_X8 hown hK hP 0 rfl rfl 0 (by decide) hf_3 (fun _ h9 => h9) rfl dX8_digest_125 ?_
        refine va_get (D := D) (ci := 5) (v := .ref (a 1)) (C := RX6) (T := TX6) (N := 3) hx hb hts hin_X6 hown hK hP 47 rfl rfl 0 (by decide) hf_4 (fun _ h9 => h9) rfl dX8_digest_128 ?_
        refine va_get (D := D) (ci := 3) (v := .int (zI (M 4))) (C := RX4) (T := TX4) (N := 6) hx hb hts hin_X4 hown hK hP 48 rfl rfl 2 (by decide) hf_6 (fun _ h9 => h9) rfl dX8_digest_131 ?_
        refine z_icmp_ge (tgt := 171) hx hb dX8_digest_134 (by decide) (by omega) (by omega) (fun hc_134 => ?_) (fun hc_134 => ?_)
        · have hc_134 := hc_134
          have eN : g_ = mixN (mx3 M (mx2 M (mx1 M (31 * (31 * (31 * mxW M tl (31 * 43239 + sz) + sp_bal M) + M 12) + sp_bits M)))) (fun k => M (54 + k)) (4 * (0 : Int)).toNat := by rw [hg, show i = M 4 by omega]; rfl
          refine z_iconst hx hb dX8_digest_171 ?_
          refine lv_istore_n (lv' := [(3, .int (zI 0)), (0, .ref u), (1, .long (zJ g_))]) hx hb dX8_digest_172 rfl hl (by decide) rfl (fun ls hl => ?_)
          refine z_loop (σ := Int × Int) (fun q9 => (M 15 - q9.1).toNat) (fun q9 => (0 ≤ q9.1 ∧ q9.1 ≤ M 15) ∧ (q9.2 = mixN (mx3 M (mx2 M (mx1 M (31 * (31 * (31 * mxW M tl (31 * 43239 + sz) + sp_bal M) + M 12) + sp_bits M)))) (fun k => M (54 + k)) (Int.toNat (4 * q9.1)))) (fun q9 => x8W u a r q ++ (svW ct r b nx sz S ++ (sobjW a ++ (gridW ct a M ++ (benchW ct a M ++ (logW ct a M ++ (txtW ct q TX tl pl ft wd n1 n2))))))) (fun q9 => [(0, .ref u), (1, .long (zJ q9.2)), (3, .int (zI q9.1))]) (fun q9 => []) (0, g_) ⟨(show 0 ≤ 0 ∧ 0 ≤ M 15 from (by omega)), (show g_ = mixN (mx3 M (mx2 M (mx1 M (31 * (31 * (31 * mxW M tl (31 * 43239 + sz) + sp_bal M) + M 12) + sp_bits M)))) (fun k => M (54 + k)) (Int.toNat (4 * 0)) from (by first | rfl | exact eN))⟩ hP hD hS (lv_sub hl [1, 2, 0] rfl) rfl ?_
          rintro ⟨i, g_⟩ hI_173 ih_173 H locs ls hP hD hS hl
          obtain ⟨hi, hg⟩ := hI_173
          have hi : 0 ≤ i ∧ i ≤ M 15 := hi
          have hg : g_ = mixN (mx3 M (mx2 M (mx1 M (31 * (31 * (31 * mxW M tl (31 * 43239 + sz) + sp_bal M) + M 12) + sp_bits M)))) (fun k => M (54 + k)) (Int.toNat (4 * i)) := hg
          have hP : va_P D vwCl (x8W u a r q ++ (svW ct r b nx sz S ++ (sobjW a ++ (gridW ct a M ++ (benchW ct a M ++ (logW ct a M ++ (txtW ct q TX tl pl ft wd n1 n2))))))) H := hP
          have hD : va_D A (x8W u a r q ++ (svW ct r b nx sz S ++ (sobjW a ++ (gridW ct a M ++ (benchW ct a M ++ (logW ct a M ++ (txtW ct q TX tl pl ft wd n1 n2))))))) := hD
          have hl : lv_has ls 5 [(0, .ref u), (1, .long (zJ g_)), (3, .int (zI i))] := hl
          refine lv_iload_n hx hb dX8_digest_173 rfl (lv_at hl 2 rfl) ?_
          refine lv_aload_n hx hb dX8_digest_174 rfl (lv_at hl 0 rfl) ?_
          refine va_get (D := D) (ci := 6) (v := .ref (a 0)) (C := RX8) (T := TX8) (N := 3) hx hb hts hin_X8 hown hK hP 0 rfl rfl 0 (by decide) hf_3 (fun _ h9 => h9) rfl dX8_digest_175 ?_
          refine va_get (D := D) (ci := 5) (v := .ref (a 9)) (C := RX6) (T := TX6) (N := 3) hx hb hts hin_X6 hown hK hP 47 rfl rfl 2 (by decide) hf_7 (fun _ h9 => h9) rfl dX8_digest_178 ?_
          refine va_get (D := D) (ci := 2) (v := .int (zI (M 15))) (C := RX3) (T := TX3) (N := 2) hx hb hts hin_X3 hown hK hP 56 rfl rfl 0 (by decide) hf_8 (fun _ h9 => h9) rfl dX8_digest_181 ?_
          refine z_icmp_ge (tgt := 220) hx hb dX8_digest_184 (by decide) (by omega) (by omega) (fun hc_184 => ?_) (fun hc_184 => ?_)
          · have hc_184 := hc_184
            have eN : g_ = mx4 M (mx3 M (mx2 M (mx1 M (31 * (31 * (31 * mxW M tl (31 * 43239 + sz) + sp_bal M) + M 12) + sp_bits M)))) := by rw [hg, show i = M 15 by omega]; rfl
            refine lv_lload_n hx hb dX8_digest_220 rfl (lv_at hl 1 rfl) ?_
            refine lv_aload_n hx hb dX8_digest_221 rfl (lv_at hl 0 rfl) ?_
            refine z_callV (C := RX8) (q0 := 0) (ci := 6) (As := []) (rest := [.long (zJ g_)]) ([] : va_W) ([] : va_W) hx hb hml hown hts hl hE hS hA (zr0 ([] : va_W) hP) (zr0D ([] : va_W) hD) (c_X8_bestNut l D ct ad u a r q b nx sz S M TX tl pl ft n1 n2 wd (by assumption)) gX8_digest_X8_bestNut rfl rfl k_X8_bestNut ⟨Nat.le_of_ble_eq_true rfl, Nat.le_of_ble_eq_true rfl⟩ rfl rfl rfl rfl (Nat.le_of_ble_eq_true rfl) ⟨Nat.le_of_ble_eq_true rfl, Nat.le_of_ble_eq_true rfl⟩ dX8_digest_222 rfl (fun v w1 H locs hpost hP hD hS => ?_)
            obtain ⟨rfl, rfl⟩ := hpost
            have hP := zr0' hP
            have hD := zr0D' hD
            have hP : va_P D vwCl (x8W u a r q ++ (svW ct r b nx sz S ++ (sobjW a ++ (gridW ct a M ++ (benchW ct a M ++ (logW ct a M ++ (txtW ct q TX tl pl ft wd n1 n2))))))) H := hP
            have hD : va_D A (x8W u a r q ++ (svW ct r b nx sz S ++ (sobjW a ++ (gridW ct a M ++ (benchW ct a M ++ (logW ct a M ++ (txtW ct q TX tl pl ft wd n1 n2))))))) := hD
            refine W.eq (g2 := F0 m 225 ls [.int (zI (sp_best M)), .long (zJ g_)]) rfl ?_
            have bB := sp_bestB (M := M)
            refine z_i2l hx hb dX8_digest_225 (by omega) ?_
            refine z_callS (As := [.long (zJ g_), .long (zJ (sp_best M))]) (rest := []) ([] : va_W) (x8W u a r q ++ (svW ct r b nx sz S ++ (sobjW a ++ (gridW ct a M ++ (benchW ct a M ++ (logW ct a M ++ (txtW ct q TX tl pl ft wd n1 n2))))))) hx hb hml hown hts hl hE hS hA hP hD (c_X8_mix l D ct ad g_ (sp_best M)) gX8_digest_X8_mix rfl k_X8_mix ⟨Nat.le_of_ble_eq_true rfl, Nat.le_of_ble_eq_true rfl⟩ rfl (Nat.le_of_ble_eq_true rfl) ⟨Nat.le_of_ble_eq_true rfl, Nat.le_of_ble_eq_true rfl⟩ dX8_digest_226 rfl (fun v w1 H locs hpost hP hD hS => ?_)
            obtain ⟨rfl, rfl⟩ := hpost
            have hP : va_P D vwCl (x8W u a r q ++ (svW ct r b nx sz S ++ (sobjW a ++ (gridW ct a M ++ (benchW ct a M ++ (logW ct a M ++ (txtW ct q TX tl pl ft wd n1 n2))))))) H := hP
            have hD : va_D A (x8W u a r q ++ (svW ct r b nx sz S ++ (sobjW a ++ (gridW ct a M ++ (benchW ct a M ++ (logW ct a M ++ (txtW ct q TX tl pl ft wd n1 n2))))))) := hD
            refine W.eq (g2 := F0 m 229 ls [.long (zJ (31 * g_ + (sp_best M)))]) rfl ?_
            exact z_lret hx hb hr hlocks hP hD hS ⟨Nat.le_of_ble_eq_true rfl, Nat.le_of_ble_eq_true rfl⟩ dX8_digest_229 (⟨congrArg (fun z => some (Value.long (zJ z))) (by rw [eN]; rfl), rfl⟩)
          · have hc_184 := hc_184
            refine z_iconst hx hb dX8_digest_187 ?_
            refine lv_istore (lv' := [(4, .int (zI 0)), (0, .ref u), (1, .long (zJ g_)), (3, .int (zI i))]) hx hb dX8_digest_188 hl (by decide) rfl (fun ls hl => ?_)
            refine z_loop (σ := Int × Int) (fun q9 => (4 - q9.1).toNat) (fun q9 => (0 ≤ q9.1 ∧ q9.1 ≤ 4) ∧ (q9.2 = mixN (mx3 M (mx2 M (mx1 M (31 * (31 * (31 * mxW M tl (31 * 43239 + sz) + sp_bal M) + M 12) + sp_bits M)))) (fun k => M (54 + k)) (Int.toNat (4 * i + q9.1)))) (fun q9 => x8W u a r q ++ (svW ct r b nx sz S ++ (sobjW a ++ (gridW ct a M ++ (benchW ct a M ++ (logW ct a M ++ (txtW ct q TX tl pl ft wd n1 n2))))))) (fun q9 => [(0, .ref u), (1, .long (zJ q9.2)), (3, .int (zI i)), (4, .int (zI q9.1))]) (fun q9 => []) (0, g_) ⟨(show 0 ≤ 0 ∧ 0 ≤ 4 from (by omega)), (show g_ = mixN (mx3 M (mx2 M (mx1 M (31 * (31 * (31 * mxW M tl (31 * 43239 + sz) + sp_bal M) + M 12) + sp_bits M)))) (fun k => M (54 + k)) (Int.toNat (4 * i + 0)) from (by rw [hg, show 4 * i + 0 = 4 * i by omega]))⟩ hP hD hS (lv_sub hl [1, 2, 3, 0] rfl) rfl ?_
            rintro ⟨w, g2⟩ hI_190 ih_190 H locs ls hP hD hS hl
            obtain ⟨hi2, hg2⟩ := hI_190
            have hi2 : 0 ≤ w ∧ w ≤ 4 := hi2
            have hg2 : g2 = mixN (mx3 M (mx2 M (mx1 M (31 * (31 * (31 * mxW M tl (31 * 43239 + sz) + sp_bal M) + M 12) + sp_bits M)))) (fun k => M (54 + k)) (Int.toNat (4 * i + w)) := hg2
            have hP : va_P D vwCl (x8W u a r q ++ (svW ct r b nx sz S ++ (sobjW a ++ (gridW ct a M ++ (benchW ct a M ++ (logW ct a M ++ (txtW ct q TX tl pl ft wd n1 n2))))))) H := hP
            have hD : va_D A (x8W u a r q ++ (svW ct r b nx sz S ++ (sobjW a ++ (gridW ct a M ++ (benchW ct a M ++ (logW ct a M ++ (txtW ct q TX tl pl ft wd n1 n2))))))) := hD
            have hl : lv_has ls 5 [(0, .ref u), (1, .long (zJ g2)), (3, .int (zI i)), (4, .int (zI w))] := hl
            refine lv_iload hx hb dX8_digest_190 (lv_at hl 3 rfl) ?_
            refine z_iconst hx hb dX8_digest_192 ?_
            refine z_icmp_ge (tgt := 214) hx hb dX8_digest_193 (by decide) (by omega) (by omega) (fun hc_193 => ?_) (fun hc_193 => ?_)
            · have hc_193 := hc_193
              refine z_iinc (k := 2) (lv' := [(3, .int (zI (i + 1))), (0, .ref u), (1, .long (zJ g2)), (4, .int (zI w))]) hx hb dX8_digest_214 hl rfl (by decide) rfl (fun ls hl => ?_)
              refine lv_goto (tgt := 173) hx hb dX8_digest_217 (by decide) ?_
              exact ih_173 (i + 1, g2) ⟨(show 0 ≤ (i + 1) ∧ (i + 1) ≤ M 15 from (by omega)), (show g2 = mixN (mx3 M (mx2 M (mx1 M (31 * (31 * (31 * mxW M tl (31 * 43239 + sz) + sp_bal M) + M 12) + sp_bits M)))) (fun k => M (54 + k)) (Int.toNat (4 * (i + 1))) from (by rw [hg2, show w = 4 by omega, show 4 * i + 4 = 4 * (i + 1) by omega]))⟩ (show (M 15 - (i + 1)).toNat < (M 15 - i).toNat from (by omega)) _ _ _ hP hD hS (lv_sub hl [1, 2, 0] rfl)
            · have hc_193 := hc_193
              refine lv_lload_n hx hb dX8_digest_196 rfl (lv_at hl 1 rfl) ?_
              refine lv_aload_n hx hb dX8_digest_197 rfl (lv_at hl 0 rfl) ?_
              refine lv_iload_n hx hb dX8_digest_198 rfl (lv_at hl 2 rfl) ?_
              refine lv_iload hx hb dX8_digest_199 (lv_at hl 3 rfl) ?_
              refine z_callV (C := RX8) (q0 := 0) (ci := 6) (As := [.int (zI i), .int (zI w)]) (rest := [.long (zJ g2)]) ([] : va_W) ([] : va_W) hx hb hml hown hts hl hE hS hA (zr0 ([] : va_W) hP) (zr0D ([] : va_W) hD) (c_X8_day l D ct ad u a r q b nx sz S M TX tl pl ft n1 n2 wd i w (by assumption) (by omega) (by omega) (by omega)) gX8_digest_X8_day rfl rfl k_X8_day ⟨Nat.le_of_ble_eq_true rfl, Nat.le_of_ble_eq_true rfl⟩ rfl rfl rfl rfl (Nat.le_of_ble_eq_true rfl) ⟨Nat.le_of_ble_eq_true rfl, Nat.le_of_ble_eq_true rfl⟩ dX8_digest_201 rfl (fun v w1 H locs hpost hP hD hS => ?_)
              obtain ⟨rfl, rfl⟩ := hpost
              have hP := zr0' hP
              have hD := zr0D' hD
              have hP : va_P D vwCl (x8W u a r q ++ (svW ct r b nx sz S ++ (sobjW a ++ (gridW ct a M ++ (benchW ct a M ++ (logW ct a M ++ (txtW ct q TX tl pl ft wd n1 n2))))))) H := hP
              have hD : va_D A (x8W u a r q ++ (svW ct r b nx sz S ++ (sobjW a ++ (gridW ct a M ++ (benchW ct a M ++ (logW ct a M ++ (txtW ct q TX tl pl ft wd n1 n2))))))) := hD
              refine W.eq (g2 := F0 m 204 ls [.long (zJ (sp_dayv M i w)), .long (zJ g2)]) rfl ?_
              refine z_callS (As := [.long (zJ g2), .long (zJ (sp_dayv M i w))]) (rest := []) ([] : va_W) (x8W u a r q ++ (svW ct r b nx sz S ++ (sobjW a ++ (gridW ct a M ++ (benchW ct a M ++ (logW ct a M ++ (txtW ct q TX tl pl ft wd n1 n2))))))) hx hb hml hown hts hl hE hS hA hP hD (c_X8_mix l D ct ad g2 (sp_dayv M i w)) gX8_digest_X8_mix rfl k_X8_mix ⟨Nat.le_of_ble_eq_true rfl, Nat.le_of_ble_eq_true rfl⟩ rfl (Nat.le_of_ble_eq_true rfl) ⟨Nat.le_of_ble_eq_true rfl, Nat.le_of_ble_eq_true rfl⟩ dX8_digest_204 rfl (fun v w1 H locs hpost hP hD hS => ?_)
              obtain ⟨rfl, rfl⟩ := hpost
              have hP : va_P D vwCl (x8W u a r q ++ (svW ct r b nx sz S ++ (sobjW a ++ (gridW ct a M ++ (benchW ct a M ++ (logW ct a M ++ (txtW ct q TX tl pl ft wd n1 n2))))))) H := hP
              have hD : va_D A (x8W u a r q ++ (svW ct r b nx sz S ++ (sobjW a ++ (gridW ct a M ++ (benchW ct a M ++ (logW ct a M ++ (txtW ct q TX tl pl ft wd n1 n2))))))) := hD
              refine W.eq (g2 := F0 m 207 ls [.long (zJ (31 * g2 + (sp_dayv M i w)))]) rfl ?_
              refine lv_lstore_n (lv' := [(1, .long (zJ (31 * g2 + (sp_dayv M i w)))), (0, .ref u), (3, .int (zI i)), (4, .int (zI w))]) hx hb dX8_digest_207 rfl hl (by decide) rfl (fun ls hl => ?_)
              refine z_iinc (k := 3) (lv' := [(4, .int (zI (w + 1))), (1, .long (zJ (31 * g2 + (sp_dayv M i w)))), (0, .ref u), (3, .int (zI i))]) hx hb dX8_digest_208 hl rfl (by decide) rfl (fun ls hl => ?_)
              refine lv_goto (tgt := 190) hx hb dX8_digest_211 (by decide) ?_
              exact ih_190 (w + 1, 31 * g2 + (sp_dayv M i w)) ⟨(show 0 ≤ (w + 1) ∧ (w + 1) ≤ 4 from (by omega)), (show (31 * g2 + (sp_dayv M i w)) = mixN (mx3 M (mx2 M (mx1 M (31 * (31 * (31 * mxW M tl (31 * 43239 + sz) + sp_bal M) + M 12) + sp_bits M)))) (fun k => M (54 + k)) (Int.toNat (4 * i + (w + 1))) from (by rw [show 4 * i + (w + 1) = 4 * i + w + 1 by omega, mixS (by omega), ← hg2]; exact congrArg (fun z => 31 * g2 + z) ((if_pos (show i < M 15 by omega)).trans (congrArg M (by omega)))))⟩ (show (4 - (w + 1)).toNat < (4 - w).toNat from (by omega)) _ _ _ hP hD hS (lv_sub hl [2, 1, 3, 0] rfl)
        · have hc_134 := hc_134
          refine z_iconst hx hb dX8_digest_137 ?_
          refine lv_istore (lv' := [(4, .int (zI 0)), (0, .ref u), (1, .long (zJ g_)), (3, .int (zI i))]) hx hb dX8_digest_138 hl (by decide) rfl (fun ls hl => ?_)
          refine z_loop (σ := Int × Int) (fun q9 => (5 - q9.1).toNat) (fun q9 => (0 ≤ q9.1 ∧ q9.1 ≤ 5) ∧ (q9.2 = mixN (mx2 M (mx1 M (31 * (31 * (31 * mxW M tl (31 * 43239 + sz) + sp_bal M) + M 12) + sp_bits M))) (fun k => sp_rodv M (k / 5) (k % 5) (M 6)) (Int.toNat (5 * i + q9.1)))) (fun q9 => x8W u a r q ++ (svW ct r b nx sz S ++ (sobjW a ++ (gridW ct a M ++ (benchW ct a M ++ (logW ct a M ++ (txtW ct q TX tl pl ft wd n1 n2))))))) (fun q9 => [(0, .ref u), (1, .long (zJ q9.2)), (3, .int (zI i)), (4, .int (zI q9.1))]) (fun q9 => []) (0, g_) ⟨(show 0 ≤ 0 ∧ 0 ≤ 5 from (by omega)), (show g_ = mixN (mx2 M (mx1 M (31 * (31 * (31 * mxW M tl (31 * 43239 + sz) + sp_bal M) + M 12) + sp_bits M))) (fun k => sp_rodv M (k / 5) (k % 5) (M 6)) (Int.toNat (5 * i + 0)) from (by rw [hg, show 5 * i + 0 = 5 * i by omega]))⟩ hP hD hS (lv_sub hl [1, 2, 3, 0] rfl) rfl ?_
          rintro ⟨w, g2⟩ hI_140 ih_140 H locs ls hP hD hS hl
          obtain ⟨hi2, hg2⟩ := hI_140
          have hi2 : 0 ≤ w ∧ w ≤ 5 := hi2
          have hg2 : g2 = mixN (mx2 M (mx1 M (31 * (31 * (31 * mxW M tl (31 * 43239 + sz) + sp_bal M) + M 12) + sp_bits M))) (fun k => sp_rodv M (k / 5) (k % 5) (M 6)) (Int.toNat (5 * i + w)) := hg2
          have hP : va_P D vwCl (x8W u a r q ++ (svW ct r b nx sz S ++ (sobjW a ++ (gridW ct a M ++ (benchW ct a M ++ (logW ct a M ++ (txtW ct q TX tl pl ft wd n1 n2))))))) H := hP
          have hD : va_D A (x8W u a r q ++ (svW ct r b nx sz S ++ (sobjW a ++ (gridW ct a M ++ (benchW ct a M ++ (logW ct a M ++ (txtW ct q TX tl pl ft wd n1 n2))))))) := hD
          have hl : lv_has ls 5 [(0, .ref u), (1, .long (zJ g2)), (3, .int (zI i)), (4, .int (zI w))] := hl
          refine lv_iload hx hb dX8_digest_140 (lv_at hl 3 rfl) ?_
          refine z_iconst hx hb dX8_digest_142 ?_
          refine z_icmp_ge (tgt := 165) hx hb dX8_digest_143 (by decide) (by omega) (by omega) (fun hc_143 => ?_) (fun hc_143 => ?_)
          · have hc_143 := hc_143
            refine z_iinc (k := 2) (lv' := [(3, .int (zI (i + 1))), (0, .ref u), (1, .long (zJ g2)), (4, .int (zI w))]) hx hb dX8_digest_165 hl rfl (by decide) rfl (fun ls hl => ?_)
            refine lv_goto (tgt := 123) hx hb dX8_digest_168 (by decide) ?_
            exact ih_123 (i + 1, g2) ⟨(show 0 ≤ (i + 1) ∧ (i + 1) ≤ M 4 from (by omega)), (show g2 = mixN (mx2 M (mx1 M (31 * (31 * (31 * mxW M tl (31 * 43239 + sz) + sp_bal M) + M 12) + sp_bits M))) (fun k => sp_rodv M (k / 5) (k % 5) (M 6)) (Int.toNat (5 * (i + 1))) from (by rw [hg2, show w = 5 by omega, show 5 * i + 5 = 5 * (i + 1) by omega]))⟩ (show (M 4 - (i + 1)).toNat < (M 4 - i).toNat from (by omega)) _ _ _ hP hD hS (lv_sub hl [1, 2, 0] rfl)
          · have hc_143 := hc_143
            refine lv_lload_n hx hb dX8_digest_146 rfl (lv_at hl 1 rfl) ?_
            refine lv_aload_n hx hb dX8_digest_147 rfl (lv_at hl 0 rfl) ?_
            refine lv_iload_n hx hb dX8_digest_148 rfl (lv_at hl 2 rfl) ?_
            refine lv_iload hx hb dX8_digest_149 (lv_at hl 3 rfl) ?_
            have sB9 := sp_rodvB (r := i) (w := w) (t := M 6) hI (by omega) j1.2.1
            refine z_callV (C := RX8) (q0 := 0) (ci := 6) (As := [.int (zI i), .int (zI w)]) (rest := [.long (zJ g2)]) ([] : va_W) ([] : va_W) hx hb hml hown hts hl hE hS hA (zr0 ([] : va_W) hP) (zr0D ([] : va_W) hD) (c_X8_rod l D ct ad u a r q b nx sz S M TX tl pl ft n1 n2 wd i w (by assumption) (by omega) (by omega) (by omega)) gX8_digest_X8_rod rfl rfl k_X8_rod ⟨Nat.le_of_ble_eq_true rfl, Nat.le_of_ble_eq_true rfl⟩ rfl rfl rfl rfl (Nat.le_of_ble_eq_true rfl) ⟨Nat.le_of_ble_eq_true rfl, Nat.le_of_ble_eq_true rfl⟩ dX8_digest_151 rfl (fun v w1 H locs hpost hP hD hS => ?_)
            obtain ⟨rfl, rfl⟩ := hpost
            have hP := zr0' hP
            have hD := zr0D' hD
            have hP : va_P D vwCl (x8W u a r q ++ (svW ct r b nx sz S ++ (sobjW a ++ (gridW ct a M ++ (benchW ct a M ++ (logW ct a M ++ (txtW ct q TX tl pl ft wd n1 n2))))))) H := hP
            have hD : va_D A (x8W u a r q ++ (svW ct r b nx sz S ++ (sobjW a ++ (gridW ct a M ++ (benchW ct a M ++ (logW ct a M ++ (txtW ct q TX tl pl ft wd n1 n2))))))) := hD
            refine W.eq (g2 := F0 m 154 ls [.int (zI (sp_rodv M i w (M 6))), .long (zJ g2)]) rfl ?_
            refine z_i2l hx hb dX8_digest_154 (by omega) ?_
            refine z_callS (As := [.long (zJ g2), .long (zJ (sp_rodv M i w (M 6)))]) (rest := []) ([] : va_W) (x8W u a r q ++ (svW ct r b nx sz S ++ (sobjW a ++ (gridW ct a M ++ (benchW ct a M ++ (logW ct a M ++ (txtW ct q TX tl pl ft wd n1 n2))))))) hx hb hml hown hts hl hE hS hA hP hD (c_X8_mix l D ct ad g2 (sp_rodv M i w (M 6))) gX8_digest_X8_mix rfl k_X8_mix ⟨Nat.le_of_ble_eq_true rfl, Nat.le_of_ble_eq_true rfl⟩ rfl (Nat.le_of_ble_eq_true rfl) ⟨Nat.le_of_ble_eq_true rfl, Nat.le_of_ble_eq_true rfl⟩ dX8_digest_155 rfl (fun v w1 H locs hpost hP hD hS => ?_)
            obtain ⟨rfl, rfl⟩ := hpost
            have hP : va_P D vwCl (x8W u a r q ++ (svW ct r b nx sz S ++ (sobjW a ++ (gridW ct a M ++ (benchW ct a M ++ (logW ct a M ++ (txtW ct q TX tl pl ft wd n1 n2))))))) H := hP
            have hD : va_D A (x8W u a r q ++ (svW ct r b nx sz S ++ (sobjW a ++ (gridW ct a M ++ (benchW ct a M ++ (logW ct a M ++ (txtW ct q TX tl pl ft wd n1 n2))))))) := hD
            refine W.eq (g2 := F0 m 158 ls [.long (zJ (31 * g2 + (sp_rodv M i w (M 6))))]) rfl ?_
            refine lv_lstore_n (lv' := [(1, .long (zJ (31 * g2 + (sp_rodv M i w (M 6))))), (0, .ref u), (3, .int (zI i)), (4, .int (zI w))]) hx hb dX8_digest_158 rfl hl (by decide) rfl (fun ls hl => ?_)
            refine z_iinc (k := 3) (lv' := [(4, .int (zI (w + 1))), (1, .long (zJ (31 * g2 + (sp_rodv M i w (M 6))))), (0, .ref u), (3, .int (zI i))]) hx hb dX8_digest_159 hl rfl (by decide) rfl (fun ls hl => ?_)
            refine lv_goto (tgt := 140) hx hb dX8_digest_162 (by decide) ?_
            exact ih_140 (w + 1, 31 * g2 + (sp_rodv M i w (M 6))) ⟨(show 0 ≤ (w + 1) ∧ (w + 1) ≤ 5 from (by omega)), (show (31 * g2 + (sp_rodv M i w (M 6))) = mixN (mx2 M (mx1 M (31 * (31 * (31 * mxW M tl (31 * 43239 + sz) + sp_bal M) + M 12) + sp_bits M))) (fun k => sp_rodv M (k / 5) (k % 5) (M 6)) (Int.toNat (5 * i + (w + 1))) from (by rw [show 5 * i + (w + 1) = 5 * i + w + 1 by omega, mixS (by omega), ← hg2, show (5 * i + w) / 5 = i by omega, show (5 * i + w) % 5 = w by omega]))⟩ (show (5 - (w + 1)).toNat < (5 - w).toNat from (by omega)) _ _ _ hP hD hS (lv_sub hl [2, 1, 3, 0] rfl)
      · have hc_101 := hc_101
        refine lv_lload_n hx hb dX8_digest_104 rfl (lv_at hl 1 rfl) ?_
        refine lv_aload_n hx hb dX8_digest_105 rfl (lv_at hl 0 rfl) ?_
        refine lv_iload_n hx hb dX8_digest_106 rfl (lv_at hl 2 rfl) ?_
        have q8 := hB.2.2.2.1 i (by omega) (by omega)
        refine z_callV (C := RX8) (q0 := 0) (ci := 6) (As := [.int (zI i)]) (rest := [.long (zJ g_)]) ([] : va_W) ([] : va_W) hx hb hml hown hts hl hE hS hA (zr0 ([] : va_W) hP) (zr0D ([] : va_W) hD) (c_X8_shelf l D ct ad u a r q b nx sz S M TX tl pl ft n1 n2 wd i (by assumption) (by omega) (by unfold ck_shelf; exact if_pos (by omega))) gX8_digest_X8_shelf rfl rfl k_X8_shelf ⟨Nat.le_of_ble_eq_true rfl, Nat.le_of_ble_eq_true rfl⟩ rfl rfl rfl rfl (Nat.le_of_ble_eq_true rfl) ⟨Nat.le_of_ble_eq_true rfl, Nat.le_of_ble_eq_true rfl⟩ dX8_digest_107 rfl (fun v w1 H locs hpost hP hD hS => ?_)
        obtain ⟨rfl, rfl⟩ := hpost
        have hP := zr0' hP
        have hD := zr0D' hD
        have hP : va_P D vwCl (x8W u a r q ++ (svW ct r b nx sz S ++ (sobjW a ++ (gridW ct a M ++ (benchW ct a M ++ (logW ct a M ++ (txtW ct q TX tl pl ft wd n1 n2))))))) H := hP
        have hD : va_D A (x8W u a r q ++ (svW ct r b nx sz S ++ (sobjW a ++ (gridW ct a M ++ (benchW ct a M ++ (logW ct a M ++ (txtW ct q TX tl pl ft wd n1 n2))))))) := hD
        refine W.eq (g2 := F0 m 110 ls [.int (zI (M (49 + i))), .long (zJ g_)]) rfl ?_
        refine z_i2l hx hb dX8_digest_110 (by omega) ?_
        refine z_callS (As := [.long (zJ g_), .long (zJ (M (49 + i)))]) (rest := []) ([] : va_W) (x8W u a r q ++ (svW ct r b nx sz S ++ (sobjW a ++ (gridW ct a M ++ (benchW ct a M ++ (logW ct a M ++ (txtW ct q TX tl pl ft wd n1 n2))))))) hx hb hml hown hts hl hE hS hA hP hD (c_X8_mix l D ct ad g_ (M (49 + i))) gX8_digest_X8_mix rfl k_X8_mix ⟨Nat.le_of_ble_eq_true rfl, Nat.le_of_ble_eq_true rfl⟩ rfl (Nat.le_of_ble_eq_true rfl) ⟨Nat.le_of_ble_eq_true rfl, Nat.le_of_ble_eq_true rfl⟩ dX8_digest_111 rfl (fun v w1 H locs hpost hP hD hS => ?_)
        obtain ⟨rfl, rfl⟩ := hpost
        have hP : va_P D vwCl (x8W u a r q ++ (svW ct r b nx sz S ++ (sobjW a ++ (gridW ct a M ++ (benchW ct a M ++ (logW ct a M ++ (txtW ct q TX tl pl ft wd n1 n2))))))) H := hP
        have hD : va_D A (x8W u a r q ++ (svW ct r b nx sz S ++ (sobjW a ++ (gridW ct a M ++ (benchW ct a M ++ (logW ct a M ++ (txtW ct q TX tl pl ft wd n1 n2))))))) := hD
        refine W.eq (g2 := F0 m 114 ls [.long (zJ (31 * g_ + (M (49 + i))))]) rfl ?_
        refine lv_lstore_n (lv' := [(1, .long (zJ (31 * g_ + (M (49 + i))))), (0, .ref u), (3, .int (zI i))]) hx hb dX8_digest_114 rfl hl (by decide) rfl (fun ls hl => ?_)
        refine z_iinc (k := 2) (lv' := [(3, .int (zI (i + 1))), (1, .long (zJ (31 * g_ + (M (49 + i))))), (0, .ref u)]) hx hb dX8_digest_115 hl rfl (by decide) rfl (fun ls hl => ?_)
        refine lv_goto (tgt := 99) hx hb dX8_digest_118 (by decide) ?_
        exact ih_99 (i + 1, 31 * g_ + (M (49 + i))) ⟨(show 0 ≤ (i + 1) ∧ (i + 1) ≤ 5 from (by omega)), (show (31 * g_ + (M (49 + i))) = mixN (mx1 M (31 * (31 * (31 * mxW M tl (31 * 43239 + sz) + sp_bal M) + M 12) + sp_bits M)) (fun k => M (49 + k)) (Int.toNat ((i + 1))) from (by rw [mixS hi.1, ← hg]))⟩ (show (5 - (i + 1)).toNat < (5 - i).toNat from (by omega)) _ _ _ hP hD hS (lv_sub hl [2, 1, 0] rfl)
    · have hc_77 := hc_77
      refine lv_lload_n hx hb dX8_digest_80 rfl (lv_at hl 1 rfl) ?_
      refine lv_aload_n hx hb dX8_digest_81 rfl (lv_at hl 0 rfl) ?_
      refine lv_iload_n hx hb dX8_digest_82 rfl (lv_at hl 2 rfl) ?_
      have q9 := hI.2.2.1 i (by omega) (by omega)
      refine z_callV (C := RX8) (q0 := 0) (ci := 6) (As := [.int (zI i)]) (rest := [.long (zJ g_)]) ([] : va_W) ([] : va_W) hx hb hml hown hts hl hE hS hA (zr0 ([] : va_W) hP) (zr0D ([] : va_W) hD) (c_X8_stretch l D ct ad u a r q b nx sz S M TX tl pl ft n1 n2 wd i (by assumption) (by omega) (by omega)) gX8_digest_X8_stretch rfl rfl k_X8_stretch ⟨Nat.le_of_ble_eq_true rfl, Nat.le_of_ble_eq_true rfl⟩ rfl rfl rfl rfl (Nat.le_of_ble_eq_true rfl) ⟨Nat.le_of_ble_eq_true rfl, Nat.le_of_ble_eq_true rfl⟩ dX8_digest_83 rfl (fun v w1 H locs hpost hP hD hS => ?_)
      obtain ⟨rfl, rfl⟩ := hpost
      have hP := zr0' hP
      have hD := zr0D' hD
      have hP : va_P D vwCl (x8W u a r q ++ (svW ct r b nx sz S ++ (sobjW a ++ (gridW ct a M ++ (benchW ct a M ++ (logW ct a M ++ (txtW ct q TX tl pl ft wd n1 n2))))))) H := hP
      have hD : va_D A (x8W u a r q ++ (svW ct r b nx sz S ++ (sobjW a ++ (gridW ct a M ++ (benchW ct a M ++ (logW ct a M ++ (txtW ct q TX tl pl ft wd n1 n2))))))) := hD
      refine W.eq (g2 := F0 m 86 ls [.int (zI (M (16 + i))), .long (zJ g_)]) rfl ?_
      refine z_i2l hx hb dX8_digest_86 (by omega) ?_
      refine z_callS (As := [.long (zJ g_), .long (zJ (M (16 + i)))]) (rest := []) ([] : va_W) (x8W u a r q ++ (svW ct r b nx sz S ++ (sobjW a ++ (gridW ct a M ++ (benchW ct a M ++ (logW ct a M ++ (txtW ct q TX tl pl ft wd n1 n2))))))) hx hb hml hown hts hl hE hS hA hP hD (c_X8_mix l D ct ad g_ (M (16 + i))) gX8_digest_X8_mix rfl k_X8_mix ⟨Nat.le_of_ble_eq_true rfl, Nat.le_of_ble_eq_true rfl⟩ rfl (Nat.le_of_ble_eq_true rfl) ⟨Nat.le_of_ble_eq_true rfl, Nat.le_of_ble_eq_true rfl⟩ dX8_digest_87 rfl (fun v w1 H locs hpost hP hD hS => ?_)
      obtain ⟨rfl, rfl⟩ := hpost
      have hP : va_P D vwCl (x8W u a r q ++ (svW ct r b nx sz S ++ (sobjW a ++ (gridW ct a M ++ (benchW ct a M ++ (logW ct a M ++ (txtW ct q TX tl pl ft wd n1 n2))))))) H := hP
      have hD : va_D A (x8W u a r q ++ (svW ct r b nx sz S ++ (sobjW a ++ (gridW ct a M ++ (benchW ct a M ++ (logW ct a M ++ (txtW ct q TX tl pl ft wd n1 n2))))))) := hD
      refine W.eq (g2 := F0 m 90 ls [.long (zJ (31 * g_ + (M (16 + i))))]) rfl ?_
      refine lv_lstore_n (lv' := [(1, .long (zJ (31 * g_ + (M (16 + i))))), (0, .ref u), (3, .int (zI i))]) hx hb dX8_digest_90 rfl hl (by decide) rfl (fun ls hl => ?_)
      refine z_iinc (k := 2) (lv' := [(3, .int (zI (i + 1))), (1, .long (zJ (31 * g_ + (M (16 + i))))), (0, .ref u)]) hx hb dX8_digest_91 hl rfl (by decide) rfl (fun ls hl => ?_)
      refine lv_goto (tgt := 66) hx hb dX8_digest_94 (by decide) ?_
      exact ih_66 (i + 1, 31 * g_ + (M (16 + i))) ⟨(show 0 ≤ (i + 1) ∧ (i + 1) ≤ M 3 from (by omega)), (show (31 * g_ + (M (16 + i))) = mixN (31 * (31 * (31 * mxW M tl (31 * 43239 + sz) + sp_bal M) + M 12) + sp_bits M) (fun k => M (16 + k)) (Int.toNat ((i + 1))) from (by rw [mixS hi.1, ← hg]))⟩ (show (M 3 - (i + 1)).toNat < (M 3 - i).toNat from (by omega)) _ _ _ hP hD hS (lv_sub hl [2, 1, 0] rfl)
  · have hc_20 := hc_20
    refine lv_lload_n hx hb dX8_digest_23 rfl (lv_at hl 1 rfl) ?_
    refine lv_aload_n hx hb dX8_digest_24 rfl (lv_at hl 0 rfl) ?_
    refine lv_iload_n hx hb dX8_digest_25 rfl (lv_at hl 2 rfl) ?_
    refine z_callV (C := RX8) (q0 := 0) (ci := 6) (As := [.int (zI i)]) (rest := [.long (zJ g_)]) ([] : va_W) ([] : va_W) hx hb hml hown hts hl hE hS hA (zr0 ([] : va_W) hP) (zr0D ([] : va_W) hD) (c_X8_whole l D ct ad u a r q b nx sz S M TX tl pl ft n1 n2 wd i (by assumption) (by omega) (by omega)) gX8_digest_X8_whole rfl rfl k_X8_whole ⟨Nat.le_of_ble_eq_true rfl, Nat.le_of_ble_eq_true rfl⟩ rfl rfl rfl rfl (Nat.le_of_ble_eq_true rfl) ⟨Nat.le_of_ble_eq_true rfl, Nat.le_of_ble_eq_true rfl⟩ dX8_digest_26 rfl (fun v w1 H locs hpost hP hD hS => ?_)
    obtain ⟨rfl, rfl⟩ := hpost
    have hP := zr0' hP
    have hD := zr0D' hD
    have hP : va_P D vwCl (x8W u a r q ++ (svW ct r b nx sz S ++ (sobjW a ++ (gridW ct a M ++ (benchW ct a M ++ (logW ct a M ++ (txtW ct q TX tl pl ft wd n1 n2))))))) H := hP
    have hD : va_D A (x8W u a r q ++ (svW ct r b nx sz S ++ (sobjW a ++ (gridW ct a M ++ (benchW ct a M ++ (logW ct a M ++ (txtW ct q TX tl pl ft wd n1 n2))))))) := hD
    refine W.eq (g2 := F0 m 29 ls [.int (zI (sp_wh M tl i)), .long (zJ g_)]) rfl ?_
    have wB := sp_whB (w := i) hs ht.1
    refine z_i2l hx hb dX8_digest_29 (by omega) ?_
    refine z_callS (As := [.long (zJ g_), .long (zJ (sp_wh M tl i))]) (rest := []) ([] : va_W) (x8W u a r q ++ (svW ct r b nx sz S ++ (sobjW a ++ (gridW ct a M ++ (benchW ct a M ++ (logW ct a M ++ (txtW ct q TX tl pl ft wd n1 n2))))))) hx hb hml hown hts hl hE hS hA hP hD (c_X8_mix l D ct ad g_ (sp_wh M tl i)) gX8_digest_X8_mix rfl k_X8_mix ⟨Nat.le_of_ble_eq_true rfl, Nat.le_of_ble_eq_true rfl⟩ rfl (Nat.le_of_ble_eq_true rfl) ⟨Nat.le_of_ble_eq_true rfl, Nat.le_of_ble_eq_true rfl⟩ dX8_digest_30 rfl (fun v w1 H locs hpost hP hD hS => ?_)
    obtain ⟨rfl, rfl⟩ := hpost
    have hP : va_P D vwCl (x8W u a r q ++ (svW ct r b nx sz S ++ (sobjW a ++ (gridW ct a M ++ (benchW ct a M ++ (logW ct a M ++ (txtW ct q TX tl pl ft wd n1 n2))))))) H := hP
    have hD : va_D A (x8W u a r q ++ (svW ct r b nx sz S ++ (sobjW a ++ (gridW ct a M ++ (benchW ct a M ++ (logW ct a M ++ (txtW ct q TX tl pl ft wd n1 n2))))))) := hD
    refine W.eq (g2 := F0 m 33 ls [.long (zJ (31 * g_ + (sp_wh M tl i)))]) rfl ?_
    refine lv_lstore_n (lv' := [(1, .long (zJ (31 * g_ + (sp_wh M tl i)))), (0, .ref u), (3, .int (zI i))]) hx hb dX8_digest_33 rfl hl (by decide) rfl (fun ls hl => ?_)
    refine z_iinc (k := 2) (lv' := [(3, .int (zI (i + 1))), (1, .long (zJ (31 * g_ + (sp_wh M tl i)))), (0, .ref u)]) hx hb dX8_digest_34 hl rfl (by decide) rfl (fun ls hl => ?_)
    refine lv_goto (tgt := 17) hx hb dX8_digest_37 (by decide) ?_
    exact ih_17 (i + 1, 31 * g_ + (sp_wh M tl i)) ⟨(show 0 ≤ (i + 1) ∧ (i + 1) ≤ 18 from (by omega)), (show (31 * g_ + (sp_wh M tl i)) = mixN (31 * 43239 + sz) (fun k => sp_wh M tl k) (Int.toNat ((i + 1))) from (by rw [mixS hi.1, ← hg]))⟩ (show (18 - (i + 1)).toNat < (18 - i).toNat from (by omega)) _ _ _ hP hD hS (lv_sub hl [2, 1, 0] rfl)
