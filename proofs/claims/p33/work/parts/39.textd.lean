theorem k_X2_wordBetween : yX2_wordBetween.cls ≠ "java/lang/invoke/MethodHandle" ∧ yX2_wordBetween.cls ≠ "java/lang/invoke/VarHandle" ∧ (parseMethodDescriptor yX2_wordBetween.desc).map (fun d => d.parameters.length) = some 2 := by decide +kernel
set_option maxHeartbeats 4000000 in
set_option maxRecDepth 100000 in
theorem c_X2_readWord_ok (l : Launch) (D : va_G) (ct ad : Nat → Nat) (q : Nat → Nat) (TX : Int → Int) (tl pl ft n1 n2 : Int) (wd : Value) (ht : tInv TX tl) (hp : 0 ≤ pl ∧ pl ≤ tl) (hok : cc TX tl pl ≠ -2000000000) : ZM l yX2_readWord wsX2_readWord ({ frames := 6, cells := 0, slots := 0, locals := 132 } : Room) D ct ad [.ref (q 0)] (txtW ct q TX tl pl ft wd n1 n2) (zD (some (.int (zI 1))) (txtW ct q TX tl (we TX tl pl) ft (.ref (ad (cc TX tl pl).toNat)) n1 n2)) := by
  refine ZM.of (cc := cX2_readWord) (maxL := 2) (ret := (some .boolean)) (by decide +kernel) rfl (Nat.le_of_ble_eq_true rfl) ?_
  intro p e s m below meth c A ls hx hb hr hts hown hlocks hml hname hE hP hD hA hS hl
  have hK := hE.1
  have hf_0 := hts (.fieldLink RX2 23 "RodGrids$CommandText" "place" "I") (by decide +kernel)
  have hf_1 := hts (.fieldLink RX2 19 "RodGrids$CommandText" "length" "I") (by decide +kernel)
  have hf_2 := hts (.fieldLink RX2 56 "RodGrids$CommandText" "word" "LRodGrids$Word;") (by decide +kernel)
  have hin_X2 : ∀ z ∈ u_ws RX2 TX2 7, z ∈ wsX2_readWord := by decide +kernel
  have hl : lv_has ls 2 [(0, .ref (q 0))] := hl
  have t1 := ht.1
  have wB := we_B (TX := TX) hp.2
  refine lv_aload_n hx hb dX2_readWord_0 rfl (lv_at hl 0 rfl) ?_
  refine va_get (D := D) (ci := 1) (v := .int (zI pl)) (C := RX2) (T := TX2) (N := 7) hx hb hts hin_X2 hown hK hP 0 rfl rfl 2 (by decide) hf_0 (fun _ h9 => h9) rfl dX2_readWord_1 ?_
  refine lv_istore_n (lv' := [(1, .int (zI pl)), (0, .ref (q 0))]) hx hb dX2_readWord_4 rfl hl (by decide) rfl (fun ls hl => ?_)
  refine z_loop (σ := Int) (fun q9 => (tl - q9).toNat) (fun q9 => (pl ≤ q9 ∧ q9 ≤ tl) ∧ (we TX tl q9 = we TX tl pl)) (fun q9 => txtW ct q TX tl q9 ft wd n1 n2) (fun q9 => [(0, .ref (q 0)), (1, .int (zI pl))]) (fun q9 => []) (pl) ⟨(show pl ≤ pl ∧ pl ≤ tl from (by omega)), (show we TX tl pl = we TX tl pl from (by rfl))⟩ hP hD hS (lv_sub hl [1, 0] rfl) rfl ?_
  rintro i hI_5 ih_5 H locs ls hP hD hS hl
  obtain ⟨hi, hw⟩ := hI_5
  have hi : pl ≤ i ∧ i ≤ tl := hi
  have hw : we TX tl i = we TX tl pl := hw
  have hP : va_P D vwCl (txtW ct q TX tl i ft wd n1 n2) H := hP
  have hD : va_D A (txtW ct q TX tl i ft wd n1 n2) := hD
  have hl : lv_has ls 2 [(0, .ref (q 0)), (1, .int (zI pl))] := hl
  have tB := tcB ht (p := i) (by omega)
  refine lv_aload_n hx hb dX2_readWord_5 rfl (lv_at hl 0 rfl) ?_
  refine va_get (D := D) (ci := 1) (v := .int (zI i)) (C := RX2) (T := TX2) (N := 7) hx hb hts hin_X2 hown hK hP 0 rfl rfl 2 (by decide) hf_0 (fun _ h9 => h9) rfl dX2_readWord_6 ?_
  refine lv_aload_n hx hb dX2_readWord_9 rfl (lv_at hl 0 rfl) ?_
  refine va_get (D := D) (ci := 1) (v := .int (zI tl)) (C := RX2) (T := TX2) (N := 7) hx hb hts hin_X2 hown hK hP 0 rfl rfl 1 (by decide) hf_1 (fun _ h9 => h9) rfl dX2_readWord_10 ?_
  refine z_icmp_ge (tgt := 47) hx hb dX2_readWord_13 (by decide) (by omega) (by omega) (fun hc_13 => ?_) (fun hc_13 => ?_)
  · have hc_13 := hc_13
    have eX : i = we TX tl pl := by rw [← hw]; exact (we_f (by omega)).symm
    have hP : va_P D vwCl (txtW ct q TX tl (we TX tl pl) ft wd n1 n2) H := by rw [← eX]; exact hP
    have hD : va_D A (txtW ct q TX tl (we TX tl pl) ft wd n1 n2) := by rw [← eX]; exact hD
    refine lv_aload_n hx hb dX2_readWord_47 rfl (lv_at hl 0 rfl) ?_
    refine lv_aload_n hx hb dX2_readWord_48 rfl (lv_at hl 0 rfl) ?_
    refine lv_iload_n hx hb dX2_readWord_49 rfl (lv_at hl 1 rfl) ?_
    refine lv_aload_n hx hb dX2_readWord_50 rfl (lv_at hl 0 rfl) ?_
    refine va_get (D := D) (ci := 1) (v := .int (zI (we TX tl pl))) (C := RX2) (T := TX2) (N := 7) hx hb hts hin_X2 hown hK hP 0 rfl rfl 2 (by decide) hf_0 (fun _ h9 => h9) rfl dX2_readWord_51 ?_
    refine z_callV (C := RX2) (q0 := 0) (ci := 1) (As := [.int (zI pl), .int (zI (we TX tl pl))]) (rest := [.ref (q 0)]) ([] : va_W) ([] : va_W) hx hb hml hown hts hl hE hS hA (zr0 ([] : va_W) hP) (zr0D ([] : va_W) hD) (c_X2_wordBetween_ok l D ct ad q TX tl (we TX tl pl) ft n1 n2 wd pl (we TX tl pl) (by assumption) (by omega) (show cw TX pl (we TX tl pl) ≠ -2000000000 from hok)) gX2_readWord_X2_wordBetween rfl rfl k_X2_wordBetween ⟨Nat.le_of_ble_eq_true rfl, Nat.le_of_ble_eq_true rfl⟩ rfl rfl rfl rfl (Nat.le_of_ble_eq_true rfl) ⟨Nat.le_of_ble_eq_true rfl, Nat.le_of_ble_eq_true rfl⟩ dX2_readWord_54 rfl (fun v w1 H locs hpost hP hD hS => ?_)
    obtain ⟨rfl, rfl⟩ := hpost
    have hP := zr0' hP
    have hD := zr0D' hD
    have hP : va_P D vwCl (txtW ct q TX tl (we TX tl pl) ft wd n1 n2) H := hP
    have hD : va_D A (txtW ct q TX tl (we TX tl pl) ft wd n1 n2) := hD
    refine W.eq (g2 := F0 m 57 ls [.ref (ad (cw TX pl (we TX tl pl)).toNat), .ref (q 0)]) rfl ?_
    refine z_put (ct := ct) (ad := ad) (ci := 1) (v := .ref (ad (cw TX pl (we TX tl pl)).toNat)) (ty := tyX2 4) (C := RX2) (T := TX2) (N := 7) (w2 := txtW ct q TX tl (we TX tl pl) ft (.ref (ad (cw TX pl (we TX tl pl)).toNat)) n1 n2) hx hb hts hin_X2 tyX2 tyX2_ok nmX2 hown hE hP hD hS 0 rfl rfl 4 (by decide) hf_2 (fun _ h9 => h9) rfl (by decide +kernel) rfl rfl (Nat.le_of_ble_eq_true rfl) dX2_readWord_57 (rfl) (fun H locs hP hD hS => ?_)
    refine lv_aload_n hx hb dX2_readWord_60 rfl (lv_at hl 0 rfl) ?_
    refine va_get (D := D) (ci := 1) (v := .ref (ad (cw TX pl (we TX tl pl)).toNat)) (C := RX2) (T := TX2) (N := 7) hx hb hts hin_X2 hown hK hP 0 rfl rfl 4 (by decide) hf_2 (fun _ h9 => h9) rfl dX2_readWord_61 ?_
    refine lv_ifnonnull (tgt := 75) hx hb dX2_readWord_64 (by decide) ?_
    refine z_iconst hx hb dX2_readWord_75 ?_
    refine lv_goto (tgt := 80) hx hb dX2_readWord_76 (by decide) ?_
    exact z_zret hx hb hr (by first | rfl | exact zB_nar) hlocks hP hD hS ⟨Nat.le_of_ble_eq_true rfl, Nat.le_of_ble_eq_true rfl⟩ dX2_readWord_80 (⟨congrArg (fun z => some (Value.int (zI z))) (by rfl), rfl⟩)
  · have hc_13 := hc_13
    refine lv_aload_n hx hb dX2_readWord_16 rfl (lv_at hl 0 rfl) ?_
    refine z_callV (C := RX2) (q0 := 0) (ci := 1) (As := []) (rest := []) ([] : va_W) ([] : va_W) hx hb hml hown hts hl hE hS hA (zr0 ([] : va_W) hP) (zr0D ([] : va_W) hD) (c_X2_byteHere l D ct ad q TX tl i ft n1 n2 wd (by assumption) (by omega)) gX2_readWord_X2_byteHere rfl rfl k_X2_byteHere ⟨Nat.le_of_ble_eq_true rfl, Nat.le_of_ble_eq_true rfl⟩ rfl rfl rfl rfl (Nat.le_of_ble_eq_true rfl) ⟨Nat.le_of_ble_eq_true rfl, Nat.le_of_ble_eq_true rfl⟩ dX2_readWord_17 rfl (fun v w1 H locs hpost hP hD hS => ?_)
    obtain ⟨rfl, rfl⟩ := hpost
    have hP := zr0' hP
    have hD := zr0D' hD
    have hP : va_P D vwCl (txtW ct q TX tl i ft wd n1 n2) H := hP
    have hD : va_D A (txtW ct q TX tl i ft wd n1 n2) := hD
    refine W.eq (g2 := F0 m 20 ls [.int (zI (tc TX tl i))]) rfl ?_
    refine z_bipush hx hb dX2_readWord_20 (by decide) ?_
    refine z_icmp_lt (tgt := 47) hx hb dX2_readWord_22 (by decide) (by omega) (by omega) (fun hc_22 => ?_) (fun hc_22 => ?_)
    · have hc_22 := hc_22
      have eX : i = we TX tl pl := by rw [← hw]; exact (we_f (by omega)).symm
      have hP : va_P D vwCl (txtW ct q TX tl (we TX tl pl) ft wd n1 n2) H := by rw [← eX]; exact hP
      have hD : va_D A (txtW ct q TX tl (we TX tl pl) ft wd n1 n2) := by rw [← eX]; exact hD
      refine lv_aload_n hx hb dX2_readWord_47 rfl (lv_at hl 0 rfl) ?_
      refine lv_aload_n hx hb dX2_readWord_48 rfl (lv_at hl 0 rfl) ?_
      refine lv_iload_n hx hb dX2_readWord_49 rfl (lv_at hl 1 rfl) ?_
      refine lv_aload_n hx hb dX2_readWord_50 rfl (lv_at hl 0 rfl) ?_
      refine va_get (D := D) (ci := 1) (v := .int (zI (we TX tl pl))) (C := RX2) (T := TX2) (N := 7) hx hb hts hin_X2 hown hK hP 0 rfl rfl 2 (by decide) hf_0 (fun _ h9 => h9) rfl dX2_readWord_51 ?_
      refine z_callV (C := RX2) (q0 := 0) (ci := 1) (As := [.int (zI pl), .int (zI (we TX tl pl))]) (rest := [.ref (q 0)]) ([] : va_W) ([] : va_W) hx hb hml hown hts hl hE hS hA (zr0 ([] : va_W) hP) (zr0D ([] : va_W) hD) (c_X2_wordBetween_ok l D ct ad q TX tl (we TX tl pl) ft n1 n2 wd pl (we TX tl pl) (by assumption) (by omega) (show cw TX pl (we TX tl pl) ≠ -2000000000 from hok)) gX2_readWord_X2_wordBetween rfl rfl k_X2_wordBetween ⟨Nat.le_of_ble_eq_true rfl, Nat.le_of_ble_eq_true rfl⟩ rfl rfl rfl rfl (Nat.le_of_ble_eq_true rfl) ⟨Nat.le_of_ble_eq_true rfl, Nat.le_of_ble_eq_true rfl⟩ dX2_readWord_54 rfl (fun v w1 H locs hpost hP hD hS => ?_)
      obtain ⟨rfl, rfl⟩ := hpost
      have hP := zr0' hP
      have hD := zr0D' hD
      have hP : va_P D vwCl (txtW ct q TX tl (we TX tl pl) ft wd n1 n2) H := hP
      have hD : va_D A (txtW ct q TX tl (we TX tl pl) ft wd n1 n2) := hD
      refine W.eq (g2 := F0 m 57 ls [.ref (ad (cw TX pl (we TX tl pl)).toNat), .ref (q 0)]) rfl ?_
      refine z_put (ct := ct) (ad := ad) (ci := 1) (v := .ref (ad (cw TX pl (we TX tl pl)).toNat)) (ty := tyX2 4) (C := RX2) (T := TX2) (N := 7) (w2 := txtW ct q TX tl (we TX tl pl) ft (.ref (ad (cw TX pl (we TX tl pl)).toNat)) n1 n2) hx hb hts hin_X2 tyX2 tyX2_ok nmX2 hown hE hP hD hS 0 rfl rfl 4 (by decide) hf_2 (fun _ h9 => h9) rfl (by decide +kernel) rfl rfl (Nat.le_of_ble_eq_true rfl) dX2_readWord_57 (rfl) (fun H locs hP hD hS => ?_)
      refine lv_aload_n hx hb dX2_readWord_60 rfl (lv_at hl 0 rfl) ?_
      refine va_get (D := D) (ci := 1) (v := .ref (ad (cw TX pl (we TX tl pl)).toNat)) (C := RX2) (T := TX2) (N := 7) hx hb hts hin_X2 hown hK hP 0 rfl rfl 4 (by decide) hf_2 (fun _ h9 => h9) rfl dX2_readWord_61 ?_
      refine lv_ifnonnull (tgt := 75) hx hb dX2_readWord_64 (by decide) ?_
      refine z_iconst hx hb dX2_readWord_75 ?_
      refine lv_goto (tgt := 80) hx hb dX2_readWord_76 (by decide) ?_
      exact z_zret hx hb hr (by first | rfl | exact zB_nar) hlocks hP hD hS ⟨Nat.le_of_ble_eq_true rfl, Nat.le_of_ble_eq_true rfl⟩ dX2_readWord_80 (⟨congrArg (fun z => some (Value.int (zI z))) (by rfl), rfl⟩)
    · have hc_22 := hc_22
      refine lv_aload_n hx hb dX2_readWord_25 rfl (lv_at hl 0 rfl) ?_
      refine z_callV (C := RX2) (q0 := 0) (ci := 1) (As := []) (rest := []) ([] : va_W) ([] : va_W) hx hb hml hown hts hl hE hS hA (zr0 ([] : va_W) hP) (zr0D ([] : va_W) hD) (c_X2_byteHere l D ct ad q TX tl i ft n1 n2 wd (by assumption) (by omega)) gX2_readWord_X2_byteHere rfl rfl k_X2_byteHere ⟨Nat.le_of_ble_eq_true rfl, Nat.le_of_ble_eq_true rfl⟩ rfl rfl rfl rfl (Nat.le_of_ble_eq_true rfl) ⟨Nat.le_of_ble_eq_true rfl, Nat.le_of_ble_eq_true rfl⟩ dX2_readWord_26 rfl (fun v w1 H locs hpost hP hD hS => ?_)
      obtain ⟨rfl, rfl⟩ := hpost
      have hP := zr0' hP
      have hD := zr0D' hD
      have hP : va_P D vwCl (txtW ct q TX tl i ft wd n1 n2) H := hP
      have hD : va_D A (txtW ct q TX tl i ft wd n1 n2) := hD
      refine W.eq (g2 := F0 m 29 ls [.int (zI (tc TX tl i))]) rfl ?_
      refine z_bipush hx hb dX2_readWord_29 (by decide) ?_
      refine z_icmp_gt (tgt := 47) hx hb dX2_readWord_31 (by decide) (by omega) (by omega) (fun hc_31 => ?_) (fun hc_31 => ?_)
      · have hc_31 := hc_31
        have eX : i = we TX tl pl := by rw [← hw]; exact (we_f (by omega)).symm
        have hP : va_P D vwCl (txtW ct q TX tl (we TX tl pl) ft wd n1 n2) H := by rw [← eX]; exact hP
        have hD : va_D A (txtW ct q TX tl (we TX tl pl) ft wd n1 n2) := by rw [← eX]; exact hD
        refine lv_aload_n hx hb dX2_readWord_47 rfl (lv_at hl 0 rfl) ?_
        refine lv_aload_n hx hb dX2_readWord_48 rfl (lv_at hl 0 rfl) ?_
        refine lv_iload_n hx hb dX2_readWord_49 rfl (lv_at hl 1 rfl) ?_
        refine lv_aload_n hx hb dX2_readWord_50 rfl (lv_at hl 0 rfl) ?_
        refine va_get (D := D) (ci := 1) (v := .int (zI (we TX tl pl))) (C := RX2) (T := TX2) (N := 7) hx hb hts hin_X2 hown hK hP 0 rfl rfl 2 (by decide) hf_0 (fun _ h9 => h9) rfl dX2_readWord_51 ?_
        refine z_callV (C := RX2) (q0 := 0) (ci := 1) (As := [.int (zI pl), .int (zI (we TX tl pl))]) (rest := [.ref (q 0)]) ([] : va_W) ([] : va_W) hx hb hml hown hts hl hE hS hA (zr0 ([] : va_W) hP) (zr0D ([] : va_W) hD) (c_X2_wordBetween_ok l D ct ad q TX tl (we TX tl pl) ft n1 n2 wd pl (we TX tl pl) (by assumption) (by omega) (show cw TX pl (we TX tl pl) ≠ -2000000000 from hok)) gX2_readWord_X2_wordBetween rfl rfl k_X2_wordBetween ⟨Nat.le_of_ble_eq_true rfl, Nat.le_of_ble_eq_true rfl⟩ rfl rfl rfl rfl (Nat.le_of_ble_eq_true rfl) ⟨Nat.le_of_ble_eq_true rfl, Nat.le_of_ble_eq_true rfl⟩ dX2_readWord_54 rfl (fun v w1 H locs hpost hP hD hS => ?_)
        obtain ⟨rfl, rfl⟩ := hpost
        have hP := zr0' hP
        have hD := zr0D' hD
        have hP : va_P D vwCl (txtW ct q TX tl (we TX tl pl) ft wd n1 n2) H := hP
        have hD : va_D A (txtW ct q TX tl (we TX tl pl) ft wd n1 n2) := hD
        refine W.eq (g2 := F0 m 57 ls [.ref (ad (cw TX pl (we TX tl pl)).toNat), .ref (q 0)]) rfl ?_
        refine z_put (ct := ct) (ad := ad) (ci := 1) (v := .ref (ad (cw TX pl (we TX tl pl)).toNat)) (ty := tyX2 4) (C := RX2) (T := TX2) (N := 7) (w2 := txtW ct q TX tl (we TX tl pl) ft (.ref (ad (cw TX pl (we TX tl pl)).toNat)) n1 n2) hx hb hts hin_X2 tyX2 tyX2_ok nmX2 hown hE hP hD hS 0 rfl rfl 4 (by decide) hf_2 (fun _ h9 => h9) rfl (by decide +kernel) rfl rfl (Nat.le_of_ble_eq_true rfl) dX2_readWord_57 (rfl) (fun H locs hP hD hS => ?_)
        refine lv_aload_n hx hb dX2_readWord_60 rfl (lv_at hl 0 rfl) ?_
        refine va_get (D := D) (ci := 1) (v := .ref (ad (cw TX pl (we TX tl pl)).toNat)) (C := RX2) (T := TX2) (N := 7) hx hb hts hin_X2 hown hK hP 0 rfl rfl 4 (by decide) hf_2 (fun _ h9 => h9) rfl dX2_readWord_61 ?_
        refine lv_ifnonnull (tgt := 75) hx hb dX2_readWord_64 (by decide) ?_
        refine z_iconst hx hb dX2_readWord_75 ?_
        refine lv_goto (tgt := 80) hx hb dX2_readWord_76 (by decide) ?_
        exact z_zret hx hb hr (by first | rfl | exact zB_nar) hlocks hP hD hS ⟨Nat.le_of_ble_eq_true rfl, Nat.le_of_ble_eq_true rfl⟩ dX2_readWord_80 (⟨congrArg (fun z => some (Value.int (zI z))) (by rfl), rfl⟩)
      · have hc_31 := hc_31
        refine lv_aload_n hx hb dX2_readWord_34 rfl (lv_at hl 0 rfl) ?_
        refine lv_dup hx hb dX2_readWord_35 rfl ?_
        refine va_get (D := D) (ci := 1) (v := .int (zI i)) (C := RX2) (T := TX2) (N := 7) hx hb hts hin_X2 hown hK hP 0 rfl rfl 2 (by decide) hf_0 (fun _ h9 => h9) rfl dX2_readWord_36 ?_
        refine z_iconst hx hb dX2_readWord_39 ?_
        refine z_iadd hx hb dX2_readWord_40 ?_
        refine z_put (ct := ct) (ad := ad) (ci := 1) (v := .int (zI (i + 1))) (ty := tyX2 2) (C := RX2) (T := TX2) (N := 7) (w2 := txtW ct q TX tl (i + 1) ft wd n1 n2) hx hb hts hin_X2 tyX2 tyX2_ok nmX2 hown hE hP hD hS 0 rfl rfl 2 (by decide) hf_0 (fun _ h9 => h9) rfl (by decide +kernel) rfl rfl (Nat.le_of_ble_eq_true rfl) dX2_readWord_41 (rfl) (fun H locs hP hD hS => ?_)
        refine lv_goto (tgt := 5) hx hb dX2_readWord_44 (by decide) ?_
        exact ih_5 (i + 1) ⟨(show pl ≤ (i + 1) ∧ (i + 1) ≤ tl from (by omega)), (show we TX tl (i + 1) = we TX tl pl from (by rw [← hw]; exact we_t (by omega)))⟩ (show (tl - (i + 1)).toNat < (tl - i).toNat from (by omega)) _ _ _ hP hD hS (lv_sub hl [0, 1] rfl)
set_option maxHeartbeats 4000000 in
set_option maxRecDepth 100000 in
theorem c_X2_readWord_no (l : Launch) (D : va_G) (ct ad : Nat → Nat) (q : Nat → Nat) (TX : Int → Int) (tl pl ft n1 n2 : Int) (wd : Value) (ht : tInv TX tl) (hp : 0 ≤ pl ∧ pl ≤ tl) (hno : cc TX tl pl = -2000000000) : ZM l yX2_readWord wsX2_readWord ({ frames := 6, cells := 0, slots := 0, locals := 132 } : Room) D ct ad [.ref (q 0)] (txtW ct q TX tl pl ft wd n1 n2) (zD (some (.int (zI 0))) (txtW ct q TX tl (we TX tl pl) pl .null n1 n2)) := by
  refine ZM.of (cc := cX2_readWord) (maxL := 2) (ret := (some .boolean)) (by decide +kernel) rfl (Nat.le_of_ble_eq_true rfl) ?_
  intro p e s m below meth c A ls hx hb hr hts hown hlocks hml hname hE hP hD hA hS hl
  have hK := hE.1
  have hf_0 := hts (.fieldLink RX2 23 "RodGrids$CommandText" "place" "I") (by decide +kernel)
  have hf_1 := hts (.fieldLink RX2 19 "RodGrids$CommandText" "length" "I") (by decide +kernel)
  have hf_2 := hts (.fieldLink RX2 56 "RodGrids$CommandText" "word" "LRodGrids$Word;") (by decide +kernel)
  have hin_X2 : ∀ z ∈ u_ws RX2 TX2 7, z ∈ wsX2_readWord := by decide +kernel
  have hl : lv_has ls 2 [(0, .ref (q 0))] := hl
  have t1 := ht.1
  have wB := we_B (TX := TX) hp.2
  refine lv_aload_n hx hb dX2_readWord_0 rfl (lv_at hl 0 rfl) ?_
  refine va_get (D := D) (ci := 1) (v := .int (zI pl)) (C := RX2) (T := TX2) (N := 7) hx hb hts hin_X2 hown hK hP 0 rfl rfl 2 (by decide) hf_0 (fun _ h9 => h9) rfl dX2_readWord_1 ?_
  refine lv_istore_n (lv' := [(1, .int (zI pl)), (0, .ref (q 0))]) hx hb dX2_readWord_4 rfl hl (by decide) rfl (fun ls hl => ?_)
  refine z_loop (σ := Int) (fun q9 => (tl - q9).toNat) (fun q9 => (pl ≤ q9 ∧ q9 ≤ tl) ∧ (we TX tl q9 = we TX tl pl)) (fun q9 => txtW ct q TX tl q9 ft wd n1 n2) (fun q9 => [(0, .ref (q 0)), (1, .int (zI pl))]) (fun q9 => []) (pl) ⟨(show pl ≤ pl ∧ pl ≤ tl from (by omega)), (show we TX tl pl = we TX tl pl from (by rfl))⟩ hP hD hS (lv_sub hl [1, 0] rfl) rfl ?_
  rintro i hI_5 ih_5 H locs ls hP hD hS hl
  obtain ⟨hi, hw⟩ := hI_5
  have hi : pl ≤ i ∧ i ≤ tl := hi
  have hw : we TX tl i = we TX tl pl := hw
  have hP : va_P D vwCl (txtW ct q TX tl i ft wd n1 n2) H := hP
  have hD : va_D A (txtW ct q TX tl i ft wd n1 n2) := hD
  have hl : lv_has ls 2 [(0, .ref (q 0)), (1, .int (zI pl))] := hl
  have tB := tcB ht (p := i) (by omega)
  refine lv_aload_n hx hb dX2_readWord_5 rfl (lv_at hl 0 rfl) ?_
  refine va_get (D := D) (ci := 1) (v := .int (zI i)) (C := RX2) (T := TX2) (N := 7) hx hb hts hin_X2 hown hK hP 0 rfl rfl 2 (by decide) hf_0 (fun _ h9 => h9) rfl dX2_readWord_6 ?_
  refine lv_aload_n hx hb dX2_readWord_9 rfl (lv_at hl 0 rfl) ?_
  refine va_get (D := D) (ci := 1) (v := .int (zI tl)) (C := RX2) (T := TX2) (N := 7) hx hb hts hin_X2 hown hK hP 0 rfl rfl 1 (by decide) hf_1 (fun _ h9 => h9) rfl dX2_readWord_10 ?_
  refine z_icmp_ge (tgt := 47) hx hb dX2_readWord_13 (by decide) (by omega) (by omega) (fun hc_13 => ?_) (fun hc_13 => ?_)
  · have hc_13 := hc_13
    have eX : i = we TX tl pl := by rw [← hw]; exact (we_f (by omega)).symm
    have hP : va_P D vwCl (txtW ct q TX tl (we TX tl pl) ft wd n1 n2) H := by rw [← eX]; exact hP
    have hD : va_D A (txtW ct q TX tl (we TX tl pl) ft wd n1 n2) := by rw [← eX]; exact hD
    refine lv_aload_n hx hb dX2_readWord_47 rfl (lv_at hl 0 rfl) ?_
    refine lv_aload_n hx hb dX2_readWord_48 rfl (lv_at hl 0 rfl) ?_
    refine lv_iload_n hx hb dX2_readWord_49 rfl (lv_at hl 1 rfl) ?_
    refine lv_aload_n hx hb dX2_readWord_50 rfl (lv_at hl 0 rfl) ?_
    refine va_get (D := D) (ci := 1) (v := .int (zI (we TX tl pl))) (C := RX2) (T := TX2) (N := 7) hx hb hts hin_X2 hown hK hP 0 rfl rfl 2 (by decide) hf_0 (fun _ h9 => h9) rfl dX2_readWord_51 ?_
    refine z_callV (C := RX2) (q0 := 0) (ci := 1) (As := [.int (zI pl), .int (zI (we TX tl pl))]) (rest := [.ref (q 0)]) ([] : va_W) ([] : va_W) hx hb hml hown hts hl hE hS hA (zr0 ([] : va_W) hP) (zr0D ([] : va_W) hD) (c_X2_wordBetween_no l D ct ad q TX tl (we TX tl pl) ft n1 n2 wd pl (we TX tl pl) (by assumption) (by omega) (show cw TX pl (we TX tl pl) = -2000000000 from hno)) gX2_readWord_X2_wordBetween rfl rfl k_X2_wordBetween ⟨Nat.le_of_ble_eq_true rfl, Nat.le_of_ble_eq_true rfl⟩ rfl rfl rfl rfl (Nat.le_of_ble_eq_true rfl) ⟨Nat.le_of_ble_eq_true rfl, Nat.le_of_ble_eq_true rfl⟩ dX2_readWord_54 rfl (fun v w1 H locs hpost hP hD hS => ?_)
    obtain ⟨rfl, rfl⟩ := hpost
    have hP := zr0' hP
    have hD := zr0D' hD
    have hP : va_P D vwCl (txtW ct q TX tl (we TX tl pl) ft wd n1 n2) H := hP
    have hD : va_D A (txtW ct q TX tl (we TX tl pl) ft wd n1 n2) := hD
    refine W.eq (g2 := F0 m 57 ls [.null, .ref (q 0)]) rfl ?_
    refine z_put (ct := ct) (ad := ad) (ci := 1) (v := .null) (ty := tyX2 4) (C := RX2) (T := TX2) (N := 7) (w2 := txtW ct q TX tl (we TX tl pl) ft .null n1 n2) hx hb hts hin_X2 tyX2 tyX2_ok nmX2 hown hE hP hD hS 0 rfl rfl 4 (by decide) hf_2 (fun _ h9 => h9) rfl (by decide +kernel) rfl rfl (Nat.le_of_ble_eq_true rfl) dX2_readWord_57 (rfl) (fun H locs hP hD hS => ?_)
    refine lv_aload_n hx hb dX2_readWord_60 rfl (lv_at hl 0 rfl) ?_
    refine va_get (D := D) (ci := 1) (v := .null) (C := RX2) (T := TX2) (N := 7) hx hb hts hin_X2 hown hK hP 0 rfl rfl 4 (by decide) hf_2 (fun _ h9 => h9) rfl dX2_readWord_61 ?_
    refine lv_ifnonnullN hx hb dX2_readWord_64 ?_
    refine lv_aload_n hx hb dX2_readWord_67 rfl (lv_at hl 0 rfl) ?_
    refine lv_iload_n hx hb dX2_readWord_68 rfl (lv_at hl 1 rfl) ?_
    refine z_callV (C := RX2) (q0 := 0) (ci := 1) (As := [.int (zI pl)]) (rest := []) ([] : va_W) ([] : va_W) hx hb hml hown hts hl hE hS hA (zr0 ([] : va_W) hP) (zr0D ([] : va_W) hD) (c_X2_failAt l D ct ad q TX tl (we TX tl pl) ft n1 n2 .null pl (by assumption)) gX2_readWord_X2_failAt rfl rfl k_X2_failAt ⟨Nat.le_of_ble_eq_true rfl, Nat.le_of_ble_eq_true rfl⟩ rfl rfl rfl rfl (Nat.le_of_ble_eq_true rfl) ⟨Nat.le_of_ble_eq_true rfl, Nat.le_of_ble_eq_true rfl⟩ dX2_readWord_69 rfl (fun v w1 H locs hpost hP hD hS => ?_)
    obtain ⟨rfl, rfl⟩ := hpost
    have hP := zr0' hP
    have hD := zr0D' hD
    have hP : va_P D vwCl (txtW ct q TX tl (we TX tl pl) pl .null n1 n2) H := hP
    have hD : va_D A (txtW ct q TX tl (we TX tl pl) pl .null n1 n2) := hD
    refine W.eq (g2 := F0 m 72 ls [.int (zI 0)]) rfl ?_
    refine z_if_eq (tgt := 79) hx hb dX2_readWord_72 (by decide) (by omega) (fun hc_72 => ?_) (fun hc_72 => ?_)
    · have hc_72 := hc_72
      refine z_iconst hx hb dX2_readWord_79 ?_
      exact z_zret hx hb hr (by first | rfl | exact zB_nar) hlocks hP hD hS ⟨Nat.le_of_ble_eq_true rfl, Nat.le_of_ble_eq_true rfl⟩ dX2_readWord_80 (⟨congrArg (fun z => some (Value.int (zI z))) (by rfl), rfl⟩)
    · have hc_72 := hc_72
      omega
  · have hc_13 := hc_13
    refine lv_aload_n hx hb dX2_readWord_16 rfl (lv_at hl 0 rfl) ?_
    refine z_callV (C := RX2) (q0 := 0) (ci := 1) (As := []) (rest := []) ([] : va_W) ([] : va_W) hx hb hml hown hts hl hE hS hA (zr0 ([] : va_W) hP) (zr0D ([] : va_W) hD) (c_X2_byteHere l D ct ad q TX tl i ft n1 n2 wd (by assumption) (by omega)) gX2_readWord_X2_byteHere rfl rfl k_X2_byteHere ⟨Nat.le_of_ble_eq_true rfl, Nat.le_of_ble_eq_true rfl⟩ rfl rfl rfl rfl (Nat.le_of_ble_eq_true rfl) ⟨Nat.le_of_ble_eq_true rfl, Nat.le_of_ble_eq_true rfl⟩ dX2_readWord_17 rfl (fun v w1 H locs hpost hP hD hS => ?_)
    obtain ⟨rfl, rfl⟩ := hpost
    have hP := zr0' hP
    have hD := zr0D' hD
    have hP : va_P D vwCl (txtW ct q TX tl i ft wd n1 n2) H := hP
    have hD : va_D A (txtW ct q TX tl i ft wd n1 n2) := hD
    refine W.eq (g2 := F0 m 20 ls [.int (zI (tc TX tl i))]) rfl ?_
    refine z_bipush hx hb dX2_readWord_20 (by decide) ?_
    refine z_icmp_lt (tgt := 47) hx hb dX2_readWord_22 (by decide) (by omega) (by omega) (fun hc_22 => ?_) (fun hc_22 => ?_)
    · have hc_22 := hc_22
      have eX : i = we TX tl pl := by rw [← hw]; exact (we_f (by omega)).symm
      have hP : va_P D vwCl (txtW ct q TX tl (we TX tl pl) ft wd n1 n2) H := by rw [← eX]; exact hP
      have hD : va_D A (txtW ct q TX tl (we TX tl pl) ft wd n1 n2) := by rw [← eX]; exact hD
      refine lv_aload_n hx hb dX2_readWord_47 rfl (lv_at hl 0 rfl) ?_
      refine lv_aload_n hx hb dX2_readWord_48 rfl (lv_at hl 0 rfl) ?_
      refine lv_iload_n hx hb dX2_readWord_49 rfl (lv_at hl 1 rfl) ?_
      refine lv_aload_n hx hb dX2_readWord_50 rfl (lv_at hl 0 rfl) ?_
      refine va_get (D := D) (ci := 1) (v := .int (zI (we TX tl pl))) (C := RX2) (T := TX2) (N := 7) hx hb hts hin_X2 hown hK hP 0 rfl rfl 2 (by decide) hf_0 (fun _ h9 => h9) rfl dX2_readWord_51 ?_
      refine z_callV (C := RX2) (q0 := 0) (ci := 1) (As := [.int (zI pl), .int (zI (we TX tl pl))]) (rest := [.ref (q 0)]) ([] : va_W) ([] : va_W) hx hb hml hown hts hl hE hS hA (zr0 ([] : va_W) hP) (zr0D ([] : va_W) hD) (c_X2_wordBetween_no l D ct ad q TX tl (we TX tl pl) ft n1 n2 wd pl (we TX tl pl) (by assumption) (by omega) (show cw TX pl (we TX tl pl) = -2000000000 from hno)) gX2_readWord_X2_wordBetween rfl rfl k_X2_wordBetween ⟨Nat.le_of_ble_eq_true rfl, Nat.le_of_ble_eq_true rfl⟩ rfl rfl rfl rfl (Nat.le_of_ble_eq_true rfl) ⟨Nat.le_of_ble_eq_true rfl, Nat.le_of_ble_eq_true rfl⟩ dX2_readWord_54 rfl (fun v w1 H locs hpost hP hD hS => ?_)
      obtain ⟨rfl, rfl⟩ := hpost
      have hP := zr0' hP
      have hD := zr0D' hD
      have hP : va_P D vwCl (txtW ct q TX tl (we TX tl pl) ft wd n1 n2) H := hP
      have hD : va_D A (txtW ct q TX tl (we TX tl pl) ft wd n1 n2) := hD
      refine W.eq (g2 := F0 m 57 ls [.null, .ref (q 0)]) rfl ?_
      refine z_put (ct := ct) (ad := ad) (ci := 1) (v := .null) (ty := tyX2 4) (C := RX2) (T := TX2) (N := 7) (w2 := txtW ct q TX tl (we TX tl pl) ft .null n1 n2) hx hb hts hin_X2 tyX2 tyX2_ok nmX2 hown hE hP hD hS 0 rfl rfl 4 (by decide) hf_2 (fun _ h9 => h9) rfl (by decide +kernel) rfl rfl (Nat.le_of_ble_eq_true rfl) dX2_readWord_57 (rfl) (fun H locs hP hD hS => ?_)
      refine lv_aload_n hx hb dX2_readWord_60 rfl (lv_at hl 0 rfl) ?_
      refine va_get (D := D) (ci := 1) (v := .null) (C := RX2) (T := TX2) (N := 7) hx hb hts hin_X2 hown hK hP 0 rfl rfl 4 (by decide) hf_2 (fun _ h9 => h9) rfl dX2_readWord_61 ?_
      refine lv_ifnonnullN hx hb dX2_readWord_64 ?_
      refine lv_aload_n hx hb dX2_readWord_67 rfl (lv_at hl 0 rfl) ?_
      refine lv_iload_n hx hb dX2_readWord_68 rfl (lv_at hl 1 rfl) ?_
      refine z_callV (C := RX2) (q0 := 0) (ci := 1) (As := [.int (zI pl)]) (rest := []) ([] : va_W) ([] : va_W) hx hb hml hown hts hl hE hS hA (zr0 ([] : va_W) hP) (zr0D ([] : va_W) hD) (c_X2_failAt l D ct ad q TX tl (we TX tl pl) ft n1 n2 .null pl (by assumption)) gX2_readWord_X2_failAt rfl rfl k_X2_failAt ⟨Nat.le_of_ble_eq_true rfl, Nat.le_of_ble_eq_true rfl⟩ rfl rfl rfl rfl (Nat.le_of_ble_eq_true rfl) ⟨Nat.le_of_ble_eq_true rfl, Nat.le_of_ble_eq_true rfl⟩ dX2_readWord_69 rfl (fun v w1 H locs hpost hP hD hS => ?_)
      obtain ⟨rfl, rfl⟩ := hpost
      have hP := zr0' hP
      have hD := zr0D' hD
      have hP : va_P D vwCl (txtW ct q TX tl (we TX tl pl) pl .null n1 n2) H := hP
      have hD : va_D A (txtW ct q TX tl (we TX tl pl) pl .null n1 n2) := hD
      refine W.eq (g2 := F0 m 72 ls [.int (zI 0)]) rfl ?_
      refine z_if_eq (tgt := 79) hx hb dX2_readWord_72 (by decide) (by omega) (fun hc_72 => ?_) (fun hc_72 => ?_)
      · have hc_72 := hc_72
        refine z_iconst hx hb dX2_readWord_79 ?_
        exact z_zret hx hb hr (by first | rfl | exact zB_nar) hlocks hP hD hS ⟨Nat.le_of_ble_eq_true rfl, Nat.le_of_ble_eq_true rfl⟩ dX2_readWord_80 (⟨congrArg (fun z => some (Value.int (zI z))) (by rfl), rfl⟩)
      · have hc_72 := hc_72
        omega
    · have hc_22 := hc_22
      refine lv_aload_n hx hb dX2_readWord_25 rfl (lv_at hl 0 rfl) ?_
      refine z_callV (C := RX2) (q0 := 0) (ci := 1) (As := []) (rest := []) ([] : va_W) ([] : va_W) hx hb hml hown hts hl hE hS hA (zr0 ([] : va_W) hP) (zr0D ([] : va_W) hD) (c_X2_byteHere l D ct ad q TX tl i ft n1 n2 wd (by assumption) (by omega)) gX2_readWord_X2_byteHere rfl rfl k_X2_byteHere ⟨Nat.le_of_ble_eq_true rfl, Nat.le_of_ble_eq_true rfl⟩ rfl rfl rfl rfl (Nat.le_of_ble_eq_true rfl) ⟨Nat.le_of_ble_eq_true rfl, Nat.le_of_ble_eq_true rfl⟩ dX2_readWord_26 rfl (fun v w1 H locs hpost hP hD hS => ?_)
      obtain ⟨rfl, rfl⟩ := hpost
      have hP := zr0' hP
      have hD := zr0D' hD
      have hP : va_P D vwCl (txtW ct q TX tl i ft wd n1 n2) H := hP
      have hD : va_D A (txtW ct q TX tl i ft wd n1 n2) := hD
      refine W.eq (g2 := F0 m 29 ls [.int (zI (tc TX tl i))]) rfl ?_
      refine z_bipush hx hb dX2_readWord_29 (by decide) ?_
      refine z_icmp_gt (tgt := 47) hx hb dX2_readWord_31 (by decide) (by omega) (by omega) (fun hc_31 => ?_) (fun hc_31 => ?_)
      · have hc_31 := hc_31
        have eX : i = we TX tl pl := by rw [← hw]; exact (we_f (by omega)).symm
        have hP : va_P D vwCl (txtW ct q TX tl (we TX tl pl) ft wd n1 n2) H := by rw [← eX]; exact hP
        have hD : va_D A (txtW ct q TX tl (we TX tl pl) ft wd n1 n2) := by rw [← eX]; exact hD
        refine lv_aload_n hx hb dX2_readWord_47 rfl (lv_at hl 0 rfl) ?_
        refine lv_aload_n hx hb dX2_readWord_48 rfl (lv_at hl 0 rfl) ?_
        refine lv_iload_n hx hb dX2_readWord_49 rfl (lv_at hl 1 rfl) ?_
        refine lv_aload_n hx hb dX2_readWord_50 rfl (lv_at hl 0 rfl) ?_
        refine va_get (D := D) (ci := 1) (v := .int (zI (we TX tl pl))) (C := RX2) (T := TX2) (N := 7) hx hb hts hin_X2 hown hK hP 0 rfl rfl 2 (by decide) hf_0 (fun _ h9 => h9) rfl dX2_readWord_51 ?_
        refine z_callV (C := RX2) (q0 := 0) (ci := 1) (As := [.int (zI pl), .int (zI (we TX tl pl))]) (rest := [.ref (q 0)]) ([] : va_W) ([] : va_W) hx hb hml hown hts hl hE hS hA (zr0 ([] : va_W) hP) (zr0D ([] : va_W) hD) (c_X2_wordBetween_no l D ct ad q TX tl (we TX tl pl) ft n1 n2 wd pl (we TX tl pl) (by assumption) (by omega) (show cw TX pl (we TX tl pl) = -2000000000 from hno)) gX2_readWord_X2_wordBetween rfl rfl k_X2_wordBetween ⟨Nat.le_of_ble_eq_true rfl, Nat.le_of_ble_eq_true rfl⟩ rfl rfl rfl rfl (Nat.le_of_ble_eq_true rfl) ⟨Nat.le_of_ble_eq_true rfl, Nat.le_of_ble_eq_true rfl⟩ dX2_readWord_54 rfl (fun v w1 H locs hpost hP hD hS => ?_)
        obtain ⟨rfl, rfl⟩ := hpost
        have hP := zr0' hP
        have hD := zr0D' hD
        have hP : va_P D vwCl (txtW ct q TX tl (we TX tl pl) ft wd n1 n2) H := hP
        have hD : va_D A (txtW ct q TX tl (we TX tl pl) ft wd n1 n2) := hD
        refine W.eq (g2 := F0 m 57 ls [.null, .ref (q 0)]) rfl ?_
        refine z_put (ct := ct) (ad := ad) (ci := 1) (v := .null) (ty := tyX2 4) (C := RX2) (T := TX2) (N := 7) (w2 := txtW ct q TX tl (we TX tl pl) ft .null n1 n2) hx hb hts hin_X2 tyX2 tyX2_ok nmX2 hown hE hP hD hS 0 rfl rfl 4 (by decide) hf_2 (fun _ h9 => h9) rfl (by decide +kernel) rfl rfl (Nat.le_of_ble_eq_true rfl) dX2_readWord_57 (rfl) (fun H locs hP hD hS => ?_)
        refine lv_aload_n hx hb dX2_readWord_60 rfl (lv_at hl 0 rfl) ?_
        refine va_get (D := D) (ci := 1) (v := .null) (C := RX2) (T := TX2) (N := 7) hx hb hts hin_X2 hown hK hP 0 rfl rfl 4 (by decide) hf_2 (fun _ h9 => h9) rfl dX2_readWord_61 ?_
        refine lv_ifnonnullN hx hb dX2_readWord_64 ?_
        refine lv_aload_n hx hb dX2_readWord_67 rfl (lv_at hl 0 rfl) ?_
        refine lv_iload_n hx hb dX2_readWord_68 rfl (lv_at hl 1 rfl) ?_
        refine z_callV (C := RX2) (q0 := 0) (ci := 1) (As := [.int (zI pl)]) (rest := []) ([] : va_W) ([] : va_W) hx hb hml hown hts hl hE hS hA (zr0 ([] : va_W) hP) (zr0D ([] : va_W) hD) (c_X2_failAt l D ct ad q TX tl (we TX tl pl) ft n1 n2 .null pl (by assumption)) gX2_readWord_X2_failAt rfl rfl k_X2_failAt ⟨Nat.le_of_ble_eq_true rfl, Nat.le_of_ble_eq_true rfl⟩ rfl rfl rfl rfl (Nat.le_of_ble_eq_true rfl) ⟨Nat.le_of_ble_eq_true rfl, Nat.le_of_ble_eq_true rfl⟩ dX2_readWord_69 rfl (fun v w1 H locs hpost hP hD hS => ?_)
        obtain ⟨rfl, rfl⟩ := hpost
        have hP := zr0' hP
        have hD := zr0D' hD
        have hP : va_P D vwCl (txtW ct q TX tl (we TX tl pl) pl .null n1 n2) H := hP
        have hD : va_D A (txtW ct q TX tl (we TX tl pl) pl .null n1 n2) := hD
        refine W.eq (g2 := F0 m 72 ls [.int (zI 0)]) rfl ?_
        refine z_if_eq (tgt := 79) hx hb dX2_readWord_72 (by decide) (by omega) (fun hc_72 => ?_) (fun hc_72 => ?_)
        · have hc_72 := hc_72
          refine z_iconst hx hb dX2_readWord_79 ?_
          exact z_zret hx hb hr (by first | rfl | exact zB_nar) hlocks hP hD hS ⟨Nat.le_of_ble_eq_true rfl, Nat.le_of_ble_eq_true rfl⟩ dX2_readWord_80 (⟨congrArg (fun z => some (Value.int (zI z))) (by rfl), rfl⟩)
        · have hc_72 := hc_72
          omega
      · have hc_31 := hc_31
        refine lv_aload_n hx hb dX2_readWord_34 rfl (lv_at hl 0 rfl) ?_
        refine lv_dup hx hb dX2_readWord_35 rfl ?_
        refine va_get (D := D) (ci := 1) (v := .int (zI i)) (C := RX2) (T := TX2) (N := 7) hx hb hts hin_X2 hown hK hP 0 rfl rfl 2 (by decide) hf_0 (fun _ h9 => h9) rfl dX2_readWord_36 ?_
        refine z_iconst hx hb dX2_readWord_39 ?_
        refine z_iadd hx hb dX2_readWord_40 ?_
        refine z_put (ct := ct) (ad := ad) (ci := 1) (v := .int (zI (i + 1))) (ty := tyX2 2) (C := RX2) (T := TX2) (N := 7) (w2 := txtW ct q TX tl (i + 1) ft wd n1 n2) hx hb hts hin_X2 tyX2 tyX2_ok nmX2 hown hE hP hD hS 0 rfl rfl 2 (by decide) hf_0 (fun _ h9 => h9) rfl (by decide +kernel) rfl rfl (Nat.le_of_ble_eq_true rfl) dX2_readWord_41 (rfl) (fun H locs hP hD hS => ?_)
        refine lv_goto (tgt := 5) hx hb dX2_readWord_44 (by decide) ?_
        exact ih_5 (i + 1) ⟨(show pl ≤ (i + 1) ∧ (i + 1) ≤ tl from (by omega)), (show we TX tl (i + 1) = we TX tl pl from (by rw [← hw]; exact we_t (by omega)))⟩ (show (tl - (i + 1)).toNat < (tl - i).toNat from (by omega)) _ _ _ hP hD hS (lv_sub hl [0, 1] rfl)
theorem k_X2_readNumber : yX2_readNumber.cls ≠ "java/lang/invoke/MethodHandle" ∧ yX2_readNumber.cls ≠ "java/lang/invoke/VarHandle" ∧ (parseMethodDescriptor yX2_readNumber.desc).map (fun d => d.parameters.length) = some 0 := by decide +kernel
set_option maxHeartbeats 4000000 in
set_option maxRecDepth 100000 in
theorem c_X2_readNumbers_ok (l : Launch) (D : va_G) (ct ad : Nat → Nat) (q : Nat → Nat) (TX : Int → Int) (tl ft n1 n2 qs : Int) (ht : tInv TX tl) (hq : 0 ≤ qs ∧ qs ≤ tl) (hcc : cc TX tl qs ≠ -2000000000) (h1k : 1 ≤ many (cc TX tl qs) → nok TX tl (we TX tl qs)) (h2k : 2 ≤ many (cc TX tl qs) → nok TX tl (c1 TX tl qs)) : ZM l yX2_readNumbers wsX2_readNumbers ({ frames := 2, cells := 0, slots := 0, locals := 43 } : Room) D ct ad [.ref (q 0)] (txtW ct q TX tl (we TX tl qs) ft (.ref (ad (cc TX tl qs).toNat)) n1 n2) (zD (some (.int (zI 1))) (txtW ct q TX tl (c2 TX tl qs) ft (.ref (ad (cc TX tl qs).toNat)) (cn1 TX tl qs) (cn2 TX tl qs))) := by
  refine ZM.of (cc := cX2_readNumbers) (maxL := 2) (ret := (some .boolean)) (by decide +kernel) rfl (Nat.le_of_ble_eq_true rfl) ?_
  intro p e s m below meth c A ls hx hb hr hts hown hlocks hml hname hE hP hD hA hS hl
  have hK := hE.1
  have hf_0 := hts (.fieldLink RX2 56 "RodGrids$CommandText" "word" "LRodGrids$Word;") (by decide +kernel)
  have hf_1 := hts (.fieldLink RX2 64 "RodGrids$Word" "numbers" "I") (by decide +kernel)
  have hf_2 := hts (.fieldLink RX2 72 "RodGrids$CommandText" "first" "I") (by decide +kernel)
  have hf_3 := hts (.fieldLink RX2 75 "RodGrids$CommandText" "second" "I") (by decide +kernel)
  have hin_X2 : ∀ z ∈ u_ws RX2 TX2 7, z ∈ wsX2_readNumbers := by decide +kernel
  have hl : lv_has ls 2 [(0, .ref (q 0))] := hl
  have t1 := ht.1
  have cB := c_B (TX := TX) (tl := tl) (q := qs) hq.2
  have mB := manyB (cc TX tl qs)
  have ccB : cc TX tl qs = -2000000000 ∨ (0 ≤ cc TX tl qs ∧ cc TX tl qs ≤ 11) := cwN_B (TX := TX) (s := qs) (e := we TX tl qs) 12 (Nat.le_refl _)
  have hk9 : (cc TX tl qs).toNat < 12 := by omega
  have nm := zNum_w (c := cc TX tl qs) (by omega)
  have e1 : 1 ≤ many (cc TX tl qs) → c1 TX tl qs = dE TX tl (we TX tl qs) := fun z => if_pos z
  have nB0 := nV_B (TX := TX) (tl := tl) (p := we TX tl qs) cB.1.2
  have nB1 := nV_B (TX := TX) (tl := tl) (p := dE TX tl (we TX tl qs)) nB0.1.2
  have sB0 := sk_B (TX := TX) (tl := tl) (p := we TX tl qs) cB.1.2
  have sB1 := sk_B (TX := TX) (tl := tl) (p := dE TX tl (we TX tl qs)) nB0.1.2
  have nc := cn_B (TX := TX) (tl := tl) (q := qs) hq.2
  refine lv_aload_n hx hb dX2_readNumbers_0 rfl (lv_at hl 0 rfl) ?_
  refine va_get (D := D) (ci := 1) (v := (.ref (ad (cc TX tl qs).toNat))) (C := RX2) (T := TX2) (N := 7) hx hb hts hin_X2 hown hK hP 0 rfl rfl 4 (by decide) hf_0 (fun _ h9 => h9) rfl dX2_readNumbers_1 ?_
  refine lv_ifnonnull (tgt := 11) hx hb dX2_readNumbers_4 (by decide) ?_
  refine lv_aload_n hx hb dX2_readNumbers_11 rfl (lv_at hl 0 rfl) ?_
  refine va_get (D := D) (ci := 1) (v := (.ref (ad (cc TX tl qs).toNat))) (C := RX2) (T := TX2) (N := 7) hx hb hts hin_X2 hown hK hP 0 rfl rfl 4 (by decide) hf_0 (fun _ h9 => h9) rfl dX2_readNumbers_12 ?_
  refine z_getE1 (i := (cc TX tl qs).toNat) hx hb hE.2.2.1.1.1 hk9 hS hown hf_1 dX2_readNumbers_15 ?_
  refine z_canI (show zNum ((cc TX tl qs).toNat) = many (cc TX tl qs) from nm) ?_
  refine lv_istore_n (lv' := [(1, .int (zI (many (cc TX tl qs)))), (0, .ref (q 0))]) hx hb dX2_readNumbers_18 rfl hl (by decide) rfl (fun ls hl => ?_)
  refine lv_aload_n hx hb dX2_readNumbers_19 rfl (lv_at hl 1 rfl) ?_
  refine lv_iload_n hx hb dX2_readNumbers_20 rfl (lv_at hl 0 rfl) ?_
  refine z_if_le (tgt := 31) hx hb dX2_readNumbers_21 (by decide) (by omega) (fun hc_21 => ?_) (fun hc_21 => ?_)
  · have hc_21 := hc_21
    refine z_iconst hx hb dX2_readNumbers_31 ?_
    refine z_canI (show 0 = cn1 TX tl qs from (by rw [cn1, if_neg (by omega)])) ?_
    refine z_put (ct := ct) (ad := ad) (ci := 1) (v := .int (zI (cn1 TX tl qs))) (ty := tyX2 5) (C := RX2) (T := TX2) (N := 7) (w2 := txtW ct q TX tl (we TX tl qs) ft (.ref (ad (cc TX tl qs).toNat)) (cn1 TX tl qs) n2) hx hb hts hin_X2 tyX2 tyX2_ok nmX2 hown hE hP hD hS 0 rfl rfl 5 (by decide) hf_2 (fun _ h9 => h9) rfl (by decide +kernel) rfl rfl (Nat.le_of_ble_eq_true rfl) dX2_readNumbers_32 (rfl) (fun H locs hP hD hS => ?_)
    refine lv_aload_n hx hb dX2_readNumbers_35 rfl (lv_at hl 1 rfl) ?_
    refine lv_iload_n hx hb dX2_readNumbers_36 rfl (lv_at hl 0 rfl) ?_
    refine z_iconst hx hb dX2_readNumbers_37 ?_
    refine z_icmp_le (tgt := 56) hx hb dX2_readNumbers_38 (by decide) (by omega) (by omega) (fun hc_38 => ?_) (fun hc_38 => ?_)
    · have hc_38 := hc_38
      refine z_iconst hx hb dX2_readNumbers_56 ?_
      refine z_canI (show 0 = cn2 TX tl qs from (by rw [cn2, if_neg (by omega)])) ?_
      refine z_put (ct := ct) (ad := ad) (ci := 1) (v := .int (zI (cn2 TX tl qs))) (ty := tyX2 6) (C := RX2) (T := TX2) (N := 7) (w2 := txtW ct q TX tl (we TX tl qs) ft (.ref (ad (cc TX tl qs).toNat)) (cn1 TX tl qs) (cn2 TX tl qs)) hx hb hts hin_X2 tyX2 tyX2_ok nmX2 hown hE hP hD hS 0 rfl rfl 6 (by decide) hf_3 (fun _ h9 => h9) rfl (by decide +kernel) rfl rfl (Nat.le_of_ble_eq_true rfl) dX2_readNumbers_57 (rfl) (fun H locs hP hD hS => ?_)
      have eX : (we TX tl qs) = c2 TX tl qs := by rw [c2, if_neg (by omega), c1, if_neg (by omega)]
      have hP : va_P D vwCl (txtW ct q TX tl (c2 TX tl qs) ft (.ref (ad (cc TX tl qs).toNat)) (cn1 TX tl qs) (cn2 TX tl qs)) H := by rw [← eX]; exact hP
      have hD : va_D A (txtW ct q TX tl (c2 TX tl qs) ft (.ref (ad (cc TX tl qs).toNat)) (cn1 TX tl qs) (cn2 TX tl qs)) := by rw [← eX]; exact hD
      refine lv_aload_n hx hb dX2_readNumbers_60 rfl (lv_at hl 1 rfl) ?_
      refine va_get (D := D) (ci := 1) (v := .int (zI (cn1 TX tl qs))) (C := RX2) (T := TX2) (N := 7) hx hb hts hin_X2 hown hK hP 0 rfl rfl 5 (by decide) hf_2 (fun _ h9 => h9) rfl dX2_readNumbers_61 ?_
      refine z_iconst hx hb dX2_readNumbers_64 ?_
      refine z_icmp_eq (tgt := 80) hx hb dX2_readNumbers_65 (by decide) (by omega) (by omega) (fun hc_65 => ?_) (fun hc_65 => ?_)
      · have hc_65 := hc_65
        omega
      · have hc_65 := hc_65
        refine lv_aload_n hx hb dX2_readNumbers_68 rfl (lv_at hl 1 rfl) ?_
        refine va_get (D := D) (ci := 1) (v := .int (zI (cn2 TX tl qs))) (C := RX2) (T := TX2) (N := 7) hx hb hts hin_X2 hown hK hP 0 rfl rfl 6 (by decide) hf_3 (fun _ h9 => h9) rfl dX2_readNumbers_69 ?_
        refine z_iconst hx hb dX2_readNumbers_72 ?_
        refine z_icmp_eq (tgt := 80) hx hb dX2_readNumbers_73 (by decide) (by omega) (by omega) (fun hc_73 => ?_) (fun hc_73 => ?_)
        · have hc_73 := hc_73
          omega
        · have hc_73 := hc_73
          refine z_iconst hx hb dX2_readNumbers_76 ?_
          refine lv_goto (tgt := 81) hx hb dX2_readNumbers_77 (by decide) ?_
          exact z_zret hx hb hr (by first | rfl | exact zB_nar) hlocks hP hD hS ⟨Nat.le_of_ble_eq_true rfl, Nat.le_of_ble_eq_true rfl⟩ dX2_readNumbers_81 (⟨congrArg (fun z => some (Value.int (zI z))) (rfl), rfl⟩)
    · have hc_38 := hc_38
      omega
  · have hc_21 := hc_21
    refine lv_aload_n hx hb dX2_readNumbers_24 rfl (lv_at hl 1 rfl) ?_
    refine z_callV (C := RX2) (q0 := 0) (ci := 1) (As := []) (rest := [.ref (q 0)]) ([] : va_W) ([] : va_W) hx hb hml hown hts hl hE hS hA (zr0 ([] : va_W) hP) (zr0D ([] : va_W) hD) (c_X2_readNumber_ok l D ct ad q TX tl (we TX tl qs) ft n1 n2 (.ref (ad (cc TX tl qs).toNat)) (by assumption) (by omega) (h1k (by omega))) gX2_readNumbers_X2_readNumber rfl rfl k_X2_readNumber ⟨Nat.le_of_ble_eq_true rfl, Nat.le_of_ble_eq_true rfl⟩ rfl rfl rfl rfl (Nat.le_of_ble_eq_true rfl) ⟨Nat.le_of_ble_eq_true rfl, Nat.le_of_ble_eq_true rfl⟩ dX2_readNumbers_25 rfl (fun v w1 H locs hpost hP hD hS => ?_)
    obtain ⟨rfl, rfl⟩ := hpost
    have hP := zr0' hP
    have hD := zr0D' hD
    have hP : va_P D vwCl (txtW ct q TX tl (dE TX tl (we TX tl qs)) ft (.ref (ad (cc TX tl qs).toNat)) n1 n2) H := hP
    have hD : va_D A (txtW ct q TX tl (dE TX tl (we TX tl qs)) ft (.ref (ad (cc TX tl qs).toNat)) n1 n2) := hD
    refine W.eq (g2 := F0 m 28 ls [.int (zI (nV TX tl (we TX tl qs))), .ref (q 0)]) rfl ?_
    refine lv_goto (tgt := 32) hx hb dX2_readNumbers_28 (by decide) ?_
    refine z_canI (show nV TX tl (we TX tl qs) = cn1 TX tl qs from (by rw [cn1, if_pos (by omega)])) ?_
    refine z_put (ct := ct) (ad := ad) (ci := 1) (v := .int (zI (cn1 TX tl qs))) (ty := tyX2 5) (C := RX2) (T := TX2) (N := 7) (w2 := txtW ct q TX tl (dE TX tl (we TX tl qs)) ft (.ref (ad (cc TX tl qs).toNat)) (cn1 TX tl qs) n2) hx hb hts hin_X2 tyX2 tyX2_ok nmX2 hown hE hP hD hS 0 rfl rfl 5 (by decide) hf_2 (fun _ h9 => h9) rfl (by decide +kernel) rfl rfl (Nat.le_of_ble_eq_true rfl) dX2_readNumbers_32 (rfl) (fun H locs hP hD hS => ?_)
    refine lv_aload_n hx hb dX2_readNumbers_35 rfl (lv_at hl 1 rfl) ?_
    refine lv_iload_n hx hb dX2_readNumbers_36 rfl (lv_at hl 0 rfl) ?_
    refine z_iconst hx hb dX2_readNumbers_37 ?_
    refine z_icmp_le (tgt := 56) hx hb dX2_readNumbers_38 (by decide) (by omega) (by omega) (fun hc_38 => ?_) (fun hc_38 => ?_)
    · have hc_38 := hc_38
      refine z_iconst hx hb dX2_readNumbers_56 ?_
      refine z_canI (show 0 = cn2 TX tl qs from (by rw [cn2, if_neg (by omega)])) ?_
      refine z_put (ct := ct) (ad := ad) (ci := 1) (v := .int (zI (cn2 TX tl qs))) (ty := tyX2 6) (C := RX2) (T := TX2) (N := 7) (w2 := txtW ct q TX tl (dE TX tl (we TX tl qs)) ft (.ref (ad (cc TX tl qs).toNat)) (cn1 TX tl qs) (cn2 TX tl qs)) hx hb hts hin_X2 tyX2 tyX2_ok nmX2 hown hE hP hD hS 0 rfl rfl 6 (by decide) hf_3 (fun _ h9 => h9) rfl (by decide +kernel) rfl rfl (Nat.le_of_ble_eq_true rfl) dX2_readNumbers_57 (rfl) (fun H locs hP hD hS => ?_)
      have eX : (dE TX tl (we TX tl qs)) = c2 TX tl qs := by rw [c2, if_neg (by omega), c1, if_pos (by omega)]
      have hP : va_P D vwCl (txtW ct q TX tl (c2 TX tl qs) ft (.ref (ad (cc TX tl qs).toNat)) (cn1 TX tl qs) (cn2 TX tl qs)) H := by rw [← eX]; exact hP
      have hD : va_D A (txtW ct q TX tl (c2 TX tl qs) ft (.ref (ad (cc TX tl qs).toNat)) (cn1 TX tl qs) (cn2 TX tl qs)) := by rw [← eX]; exact hD
      refine lv_aload_n hx hb dX2_readNumbers_60 rfl (lv_at hl 1 rfl) ?_
      refine va_get (D := D) (ci := 1) (v := .int (zI (cn1 TX tl qs))) (C := RX2) (T := TX2) (N := 7) hx hb hts hin_X2 hown hK hP 0 rfl rfl 5 (by decide) hf_2 (fun _ h9 => h9) rfl dX2_readNumbers_61 ?_
      refine z_iconst hx hb dX2_readNumbers_64 ?_
      refine z_icmp_eq (tgt := 80) hx hb dX2_readNumbers_65 (by decide) (by omega) (by omega) (fun hc_65 => ?_) (fun hc_65 => ?_)
      · have hc_65 := hc_65
        omega
      · have hc_65 := hc_65
        refine lv_aload_n hx hb dX2_readNumbers_68 rfl (lv_at hl 1 rfl) ?_
        refine va_get (D := D) (ci := 1) (v := .int (zI (cn2 TX tl qs))) (C := RX2) (T := TX2) (N := 7) hx hb hts hin_X2 hown hK hP 0 rfl rfl 6 (by decide) hf_3 (fun _ h9 => h9) rfl dX2_readNumbers_69 ?_
        refine z_iconst hx hb dX2_readNumbers_72 ?_
        refine z_icmp_eq (tgt := 80) hx hb dX2_readNumbers_73 (by decide) (by omega) (by omega) (fun hc_73 => ?_) (fun hc_73 => ?_)
        · have hc_73 := hc_73
          omega
        · have hc_73 := hc_73
          refine z_iconst hx hb dX2_readNumbers_76 ?_
          refine lv_goto (tgt := 81) hx hb dX2_readNumbers_77 (by decide) ?_
          exact z_zret hx hb hr (by first | rfl | exact zB_nar) hlocks hP hD hS ⟨Nat.le_of_ble_eq_true rfl, Nat.le_of_ble_eq_true rfl⟩ dX2_readNumbers_81 (⟨congrArg (fun z => some (Value.int (zI z))) (rfl), rfl⟩)
    · have hc_38 := hc_38
      refine lv_aload_n hx hb dX2_readNumbers_41 rfl (lv_at hl 1 rfl) ?_
      refine va_get (D := D) (ci := 1) (v := .int (zI (cn1 TX tl qs))) (C := RX2) (T := TX2) (N := 7) hx hb hts hin_X2 hown hK hP 0 rfl rfl 5 (by decide) hf_2 (fun _ h9 => h9) rfl dX2_readNumbers_42 ?_
      refine z_iconst hx hb dX2_readNumbers_45 ?_
      refine z_icmp_eq (tgt := 56) hx hb dX2_readNumbers_46 (by decide) (by omega) (by omega) (fun hc_46 => ?_) (fun hc_46 => ?_)
      · have hc_46 := hc_46
        omega
      · have hc_46 := hc_46
        refine lv_aload_n hx hb dX2_readNumbers_49 rfl (lv_at hl 1 rfl) ?_
        refine z_callV (C := RX2) (q0 := 0) (ci := 1) (As := []) (rest := [.ref (q 0)]) ([] : va_W) ([] : va_W) hx hb hml hown hts hl hE hS hA (zr0 ([] : va_W) hP) (zr0D ([] : va_W) hD) (c_X2_readNumber_ok l D ct ad q TX tl (dE TX tl (we TX tl qs)) ft (cn1 TX tl qs) n2 (.ref (ad (cc TX tl qs).toNat)) (by assumption) (by omega) (by rw [← e1 (by omega)]; exact h2k (by omega))) gX2_readNumbers_X2_readNumber rfl rfl k_X2_readNumber ⟨Nat.le_of_ble_eq_true rfl, Nat.le_of_ble_eq_true rfl⟩ rfl rfl rfl rfl (Nat.le_of_ble_eq_true rfl) ⟨Nat.le_of_ble_eq_true rfl, Nat.le_of_ble_eq_true rfl⟩ dX2_readNumbers_50 rfl (fun v w1 H locs hpost hP hD hS => ?_)
        obtain ⟨rfl, rfl⟩ := hpost
        have hP := zr0' hP
        have hD := zr0D' hD
        have hP : va_P D vwCl (txtW ct q TX tl (dE TX tl (dE TX tl (we TX tl qs))) ft (.ref (ad (cc TX tl qs).toNat)) (cn1 TX tl qs) n2) H := hP
        have hD : va_D A (txtW ct q TX tl (dE TX tl (dE TX tl (we TX tl qs))) ft (.ref (ad (cc TX tl qs).toNat)) (cn1 TX tl qs) n2) := hD
        refine W.eq (g2 := F0 m 53 ls [.int (zI (nV TX tl (dE TX tl (we TX tl qs)))), .ref (q 0)]) rfl ?_
        refine lv_goto (tgt := 57) hx hb dX2_readNumbers_53 (by decide) ?_
        refine z_canI (show nV TX tl (dE TX tl (we TX tl qs)) = cn2 TX tl qs from (by rw [cn2, if_pos (by omega), e1 (by omega)])) ?_
        refine z_put (ct := ct) (ad := ad) (ci := 1) (v := .int (zI (cn2 TX tl qs))) (ty := tyX2 6) (C := RX2) (T := TX2) (N := 7) (w2 := txtW ct q TX tl (dE TX tl (dE TX tl (we TX tl qs))) ft (.ref (ad (cc TX tl qs).toNat)) (cn1 TX tl qs) (cn2 TX tl qs)) hx hb hts hin_X2 tyX2 tyX2_ok nmX2 hown hE hP hD hS 0 rfl rfl 6 (by decide) hf_3 (fun _ h9 => h9) rfl (by decide +kernel) rfl rfl (Nat.le_of_ble_eq_true rfl) dX2_readNumbers_57 (rfl) (fun H locs hP hD hS => ?_)
        have eX : (dE TX tl (dE TX tl (we TX tl qs))) = c2 TX tl qs := by rw [c2, if_pos (by omega), c1, if_pos (by omega)]
        have hP : va_P D vwCl (txtW ct q TX tl (c2 TX tl qs) ft (.ref (ad (cc TX tl qs).toNat)) (cn1 TX tl qs) (cn2 TX tl qs)) H := by rw [← eX]; exact hP
        have hD : va_D A (txtW ct q TX tl (c2 TX tl qs) ft (.ref (ad (cc TX tl qs).toNat)) (cn1 TX tl qs) (cn2 TX tl qs)) := by rw [← eX]; exact hD
        refine lv_aload_n hx hb dX2_readNumbers_60 rfl (lv_at hl 1 rfl) ?_
        refine va_get (D := D) (ci := 1) (v := .int (zI (cn1 TX tl qs))) (C := RX2) (T := TX2) (N := 7) hx hb hts hin_X2 hown hK hP 0 rfl rfl 5 (by decide) hf_2 (fun _ h9 => h9) rfl dX2_readNumbers_61 ?_
        refine z_iconst hx hb dX2_readNumbers_64 ?_
        refine z_icmp_eq (tgt := 80) hx hb dX2_readNumbers_65 (by decide) (by omega) (by omega) (fun hc_65 => ?_) (fun hc_65 => ?_)
        · have hc_65 := hc_65
          omega
        · have hc_65 := hc_65
          refine lv_aload_n hx hb dX2_readNumbers_68 rfl (lv_at hl 1 rfl) ?_
          refine va_get (D := D) (ci := 1) (v := .int (zI (cn2 TX tl qs))) (C := RX2) (T := TX2) (N := 7) hx hb hts hin_X2 hown hK hP 0 rfl rfl 6 (by decide) hf_3 (fun _ h9 => h9) rfl dX2_readNumbers_69 ?_
          refine z_iconst hx hb dX2_readNumbers_72 ?_
          refine z_icmp_eq (tgt := 80) hx hb dX2_readNumbers_73 (by decide) (by omega) (by omega) (fun hc_73 => ?_) (fun hc_73 => ?_)
          · have hc_73 := hc_73
            omega
          · have hc_73 := hc_73
            refine z_iconst hx hb dX2_readNumbers_76 ?_
            refine lv_goto (tgt := 81) hx hb dX2_readNumbers_77 (by decide) ?_
            exact z_zret hx hb hr (by first | rfl | exact zB_nar) hlocks hP hD hS ⟨Nat.le_of_ble_eq_true rfl, Nat.le_of_ble_eq_true rfl⟩ dX2_readNumbers_81 (⟨congrArg (fun z => some (Value.int (zI z))) (rfl), rfl⟩)
set_option maxHeartbeats 4000000 in
set_option maxRecDepth 100000 in
theorem c_X2_readNumbers_no (l : Launch) (D : va_G) (ct ad : Nat → Nat) (q : Nat → Nat) (TX : Int → Int) (tl ft n1 n2 qs : Int) (ht : tInv TX tl) (hq : 0 ≤ qs ∧ qs ≤ tl) (hcc : cc TX tl qs ≠ -2000000000) (hno : ¬ ((1 ≤ many (cc TX tl qs) → nok TX tl (we TX tl qs)) ∧ (2 ≤ many (cc TX tl qs) → nok TX tl (c1 TX tl qs)))) : ZM l yX2_readNumbers wsX2_readNumbers ({ frames := 2, cells := 0, slots := 0, locals := 43 } : Room) D ct ad [.ref (q 0)] (txtW ct q TX tl (we TX tl qs) ft (.ref (ad (cc TX tl qs).toNat)) n1 n2) (fun v w => ∃ (pl2 : Int) (m1 : Int) (m2 : Int), ((True)) ∧ v = (some (.int (zI 0))) ∧ w = txtW ct q TX tl pl2 (cf TX tl qs) (.ref (ad (cc TX tl qs).toNat)) m1 m2) := by
  refine ZM.of (cc := cX2_readNumbers) (maxL := 2) (ret := (some .boolean)) (by decide +kernel) rfl (Nat.le_of_ble_eq_true rfl) ?_
  intro p e s m below meth c A ls hx hb hr hts hown hlocks hml hname hE hP hD hA hS hl
  have hK := hE.1
  have hf_0 := hts (.fieldLink RX2 56 "RodGrids$CommandText" "word" "LRodGrids$Word;") (by decide +kernel)
  have hf_1 := hts (.fieldLink RX2 64 "RodGrids$Word" "numbers" "I") (by decide +kernel)
  have hf_2 := hts (.fieldLink RX2 72 "RodGrids$CommandText" "first" "I") (by decide +kernel)
  have hf_3 := hts (.fieldLink RX2 75 "RodGrids$CommandText" "second" "I") (by decide +kernel)
  have hin_X2 : ∀ z ∈ u_ws RX2 TX2 7, z ∈ wsX2_readNumbers := by decide +kernel
  have hl : lv_has ls 2 [(0, .ref (q 0))] := hl
  have t1 := ht.1
  have cB := c_B (TX := TX) (tl := tl) (q := qs) hq.2
  have mB := manyB (cc TX tl qs)
  have ccB : cc TX tl qs = -2000000000 ∨ (0 ≤ cc TX tl qs ∧ cc TX tl qs ≤ 11) := cwN_B (TX := TX) (s := qs) (e := we TX tl qs) 12 (Nat.le_refl _)
  have hk9 : (cc TX tl qs).toNat < 12 := by omega
  have nm := zNum_w (c := cc TX tl qs) (by omega)
  have e1 : 1 ≤ many (cc TX tl qs) → c1 TX tl qs = dE TX tl (we TX tl qs) := fun z => if_pos z
  have nB0 := nV_B (TX := TX) (tl := tl) (p := we TX tl qs) cB.1.2
  have nB1 := nV_B (TX := TX) (tl := tl) (p := dE TX tl (we TX tl qs)) nB0.1.2
  have sB0 := sk_B (TX := TX) (tl := tl) (p := we TX tl qs) cB.1.2
  have sB1 := sk_B (TX := TX) (tl := tl) (p := dE TX tl (we TX tl qs)) nB0.1.2
  have nc := cn_B (TX := TX) (tl := tl) (q := qs) hq.2
  refine lv_aload_n hx hb dX2_readNumbers_0 rfl (lv_at hl 0 rfl) ?_
  refine va_get (D := D) (ci := 1) (v := (.ref (ad (cc TX tl qs).toNat))) (C := RX2) (T := TX2) (N := 7) hx hb hts hin_X2 hown hK hP 0 rfl rfl 4 (by decide) hf_0 (fun _ h9 => h9) rfl dX2_readNumbers_1 ?_
  refine lv_ifnonnull (tgt := 11) hx hb dX2_readNumbers_4 (by decide) ?_
  refine lv_aload_n hx hb dX2_readNumbers_11 rfl (lv_at hl 0 rfl) ?_
  refine va_get (D := D) (ci := 1) (v := (.ref (ad (cc TX tl qs).toNat))) (C := RX2) (T := TX2) (N := 7) hx hb hts hin_X2 hown hK hP 0 rfl rfl 4 (by decide) hf_0 (fun _ h9 => h9) rfl dX2_readNumbers_12 ?_
  refine z_getE1 (i := (cc TX tl qs).toNat) hx hb hE.2.2.1.1.1 hk9 hS hown hf_1 dX2_readNumbers_15 ?_
  refine z_canI (show zNum ((cc TX tl qs).toNat) = many (cc TX tl qs) from nm) ?_
  refine lv_istore_n (lv' := [(1, .int (zI (many (cc TX tl qs)))), (0, .ref (q 0))]) hx hb dX2_readNumbers_18 rfl hl (by decide) rfl (fun ls hl => ?_)
  refine lv_aload_n hx hb dX2_readNumbers_19 rfl (lv_at hl 1 rfl) ?_
  refine lv_iload_n hx hb dX2_readNumbers_20 rfl (lv_at hl 0 rfl) ?_
  refine z_if_le (tgt := 31) hx hb dX2_readNumbers_21 (by decide) (by omega) (fun hc_21 => ?_) (fun hc_21 => ?_)
  · have hc_21 := hc_21
    refine z_iconst hx hb dX2_readNumbers_31 ?_
    refine z_put (ct := ct) (ad := ad) (ci := 1) (v := .int (zI 0)) (ty := tyX2 5) (C := RX2) (T := TX2) (N := 7) (w2 := txtW ct q TX tl (we TX tl qs) ft (.ref (ad (cc TX tl qs).toNat)) 0 n2) hx hb hts hin_X2 tyX2 tyX2_ok nmX2 hown hE hP hD hS 0 rfl rfl 5 (by decide) hf_2 (fun _ h9 => h9) rfl (by decide +kernel) rfl rfl (Nat.le_of_ble_eq_true rfl) dX2_readNumbers_32 (rfl) (fun H locs hP hD hS => ?_)
    refine lv_aload_n hx hb dX2_readNumbers_35 rfl (lv_at hl 1 rfl) ?_
    refine lv_iload_n hx hb dX2_readNumbers_36 rfl (lv_at hl 0 rfl) ?_
    refine z_iconst hx hb dX2_readNumbers_37 ?_
    refine z_icmp_le (tgt := 56) hx hb dX2_readNumbers_38 (by decide) (by omega) (by omega) (fun hc_38 => ?_) (fun hc_38 => ?_)
    · have hc_38 := hc_38
      refine z_iconst hx hb dX2_readNumbers_56 ?_
      refine z_put (ct := ct) (ad := ad) (ci := 1) (v := .int (zI 0)) (ty := tyX2 6) (C := RX2) (T := TX2) (N := 7) (w2 := txtW ct q TX tl (we TX tl qs) ft (.ref (ad (cc TX tl qs).toNat)) 0 0) hx hb hts hin_X2 tyX2 tyX2_ok nmX2 hown hE hP hD hS 0 rfl rfl 6 (by decide) hf_3 (fun _ h9 => h9) rfl (by decide +kernel) rfl rfl (Nat.le_of_ble_eq_true rfl) dX2_readNumbers_57 (rfl) (fun H locs hP hD hS => ?_)
      refine lv_aload_n hx hb dX2_readNumbers_60 rfl (lv_at hl 1 rfl) ?_
      refine va_get (D := D) (ci := 1) (v := .int (zI 0)) (C := RX2) (T := TX2) (N := 7) hx hb hts hin_X2 hown hK hP 0 rfl rfl 5 (by decide) hf_2 (fun _ h9 => h9) rfl dX2_readNumbers_61 ?_
      refine z_iconst hx hb dX2_readNumbers_64 ?_
      refine z_icmp_eq (tgt := 80) hx hb dX2_readNumbers_65 (by decide) (by omega) (by omega) (fun hc_65 => ?_) (fun hc_65 => ?_)
      · have hc_65 := hc_65
        omega
      · have hc_65 := hc_65
        refine lv_aload_n hx hb dX2_readNumbers_68 rfl (lv_at hl 1 rfl) ?_
        refine va_get (D := D) (ci := 1) (v := .int (zI 0)) (C := RX2) (T := TX2) (N := 7) hx hb hts hin_X2 hown hK hP 0 rfl rfl 6 (by decide) hf_3 (fun _ h9 => h9) rfl dX2_readNumbers_69 ?_
        refine z_iconst hx hb dX2_readNumbers_72 ?_
        refine z_icmp_eq (tgt := 80) hx hb dX2_readNumbers_73 (by decide) (by omega) (by omega) (fun hc_73 => ?_) (fun hc_73 => ?_)
        · have hc_73 := hc_73
          omega
        · have hc_73 := hc_73
          exact absurd ⟨fun z => by first | exact jB | (exfalso; omega), fun z => by first | (rw [e1 (by omega)]; exact jC) | (exfalso; omega)⟩ hno
    · have hc_38 := hc_38
      omega
  · have hc_21 := hc_21
    refine lv_aload_n hx hb dX2_readNumbers_24 rfl (lv_at hl 1 rfl) ?_
    by_cases jB : nok TX tl (we TX tl qs)
    · skip
      refine z_callV (C := RX2) (q0 := 0) (ci := 1) (As := []) (rest := [.ref (q 0)]) ([] : va_W) ([] : va_W) hx hb hml hown hts hl hE hS hA (zr0 ([] : va_W) hP) (zr0D ([] : va_W) hD) (c_X2_readNumber_ok l D ct ad q TX tl (we TX tl qs) ft n1 n2 (.ref (ad (cc TX tl qs).toNat)) (by assumption) (by omega) jB) gX2_readNumbers_X2_readNumber rfl rfl k_X2_readNumber ⟨Nat.le_of_ble_eq_true rfl, Nat.le_of_ble_eq_true rfl⟩ rfl rfl rfl rfl (Nat.le_of_ble_eq_true rfl) ⟨Nat.le_of_ble_eq_true rfl, Nat.le_of_ble_eq_true rfl⟩ dX2_readNumbers_25 rfl (fun v w1 H locs hpost hP hD hS => ?_)
      obtain ⟨rfl, rfl⟩ := hpost
      have hP := zr0' hP
      have hD := zr0D' hD
      have hP : va_P D vwCl (txtW ct q TX tl (dE TX tl (we TX tl qs)) ft (.ref (ad (cc TX tl qs).toNat)) n1 n2) H := hP
      have hD : va_D A (txtW ct q TX tl (dE TX tl (we TX tl qs)) ft (.ref (ad (cc TX tl qs).toNat)) n1 n2) := hD
      refine W.eq (g2 := F0 m 28 ls [.int (zI (nV TX tl (we TX tl qs))), .ref (q 0)]) rfl ?_
      refine lv_goto (tgt := 32) hx hb dX2_readNumbers_28 (by decide) ?_
      refine z_put (ct := ct) (ad := ad) (ci := 1) (v := .int (zI (nV TX tl (we TX tl qs)))) (ty := tyX2 5) (C := RX2) (T := TX2) (N := 7) (w2 := txtW ct q TX tl (dE TX tl (we TX tl qs)) ft (.ref (ad (cc TX tl qs).toNat)) (nV TX tl (we TX tl qs)) n2) hx hb hts hin_X2 tyX2 tyX2_ok nmX2 hown hE hP hD hS 0 rfl rfl 5 (by decide) hf_2 (fun _ h9 => h9) rfl (by decide +kernel) rfl rfl (Nat.le_of_ble_eq_true rfl) dX2_readNumbers_32 (rfl) (fun H locs hP hD hS => ?_)
      refine lv_aload_n hx hb dX2_readNumbers_35 rfl (lv_at hl 1 rfl) ?_
      refine lv_iload_n hx hb dX2_readNumbers_36 rfl (lv_at hl 0 rfl) ?_
      refine z_iconst hx hb dX2_readNumbers_37 ?_
      refine z_icmp_le (tgt := 56) hx hb dX2_readNumbers_38 (by decide) (by omega) (by omega) (fun hc_38 => ?_) (fun hc_38 => ?_)
      · have hc_38 := hc_38
        refine z_iconst hx hb dX2_readNumbers_56 ?_
        refine z_put (ct := ct) (ad := ad) (ci := 1) (v := .int (zI 0)) (ty := tyX2 6) (C := RX2) (T := TX2) (N := 7) (w2 := txtW ct q TX tl (dE TX tl (we TX tl qs)) ft (.ref (ad (cc TX tl qs).toNat)) (nV TX tl (we TX tl qs)) 0) hx hb hts hin_X2 tyX2 tyX2_ok nmX2 hown hE hP hD hS 0 rfl rfl 6 (by decide) hf_3 (fun _ h9 => h9) rfl (by decide +kernel) rfl rfl (Nat.le_of_ble_eq_true rfl) dX2_readNumbers_57 (rfl) (fun H locs hP hD hS => ?_)
        refine lv_aload_n hx hb dX2_readNumbers_60 rfl (lv_at hl 1 rfl) ?_
        refine va_get (D := D) (ci := 1) (v := .int (zI (nV TX tl (we TX tl qs)))) (C := RX2) (T := TX2) (N := 7) hx hb hts hin_X2 hown hK hP 0 rfl rfl 5 (by decide) hf_2 (fun _ h9 => h9) rfl dX2_readNumbers_61 ?_
        refine z_iconst hx hb dX2_readNumbers_64 ?_
        refine z_icmp_eq (tgt := 80) hx hb dX2_readNumbers_65 (by decide) (by omega) (by omega) (fun hc_65 => ?_) (fun hc_65 => ?_)
        · have hc_65 := hc_65
          omega
        · have hc_65 := hc_65
          refine lv_aload_n hx hb dX2_readNumbers_68 rfl (lv_at hl 1 rfl) ?_
          refine va_get (D := D) (ci := 1) (v := .int (zI 0)) (C := RX2) (T := TX2) (N := 7) hx hb hts hin_X2 hown hK hP 0 rfl rfl 6 (by decide) hf_3 (fun _ h9 => h9) rfl dX2_readNumbers_69 ?_
          refine z_iconst hx hb dX2_readNumbers_72 ?_
          refine z_icmp_eq (tgt := 80) hx hb dX2_readNumbers_73 (by decide) (by omega) (by omega) (fun hc_73 => ?_) (fun hc_73 => ?_)
          · have hc_73 := hc_73
            omega
          · have hc_73 := hc_73
            exact absurd ⟨fun z => by first | exact jB | (exfalso; omega), fun z => by first | (rw [e1 (by omega)]; exact jC) | (exfalso; omega)⟩ hno
      · have hc_38 := hc_38
        refine lv_aload_n hx hb dX2_readNumbers_41 rfl (lv_at hl 1 rfl) ?_
        refine va_get (D := D) (ci := 1) (v := .int (zI (nV TX tl (we TX tl qs)))) (C := RX2) (T := TX2) (N := 7) hx hb hts hin_X2 hown hK hP 0 rfl rfl 5 (by decide) hf_2 (fun _ h9 => h9) rfl dX2_readNumbers_42 ?_
        refine z_iconst hx hb dX2_readNumbers_45 ?_
        refine z_icmp_eq (tgt := 56) hx hb dX2_readNumbers_46 (by decide) (by omega) (by omega) (fun hc_46 => ?_) (fun hc_46 => ?_)
        · have hc_46 := hc_46
          omega
        · have hc_46 := hc_46
          refine lv_aload_n hx hb dX2_readNumbers_49 rfl (lv_at hl 1 rfl) ?_
          by_cases jC : nok TX tl (dE TX tl (we TX tl qs))
          · skip
            refine z_callV (C := RX2) (q0 := 0) (ci := 1) (As := []) (rest := [.ref (q 0)]) ([] : va_W) ([] : va_W) hx hb hml hown hts hl hE hS hA (zr0 ([] : va_W) hP) (zr0D ([] : va_W) hD) (c_X2_readNumber_ok l D ct ad q TX tl (dE TX tl (we TX tl qs)) ft (nV TX tl (we TX tl qs)) n2 (.ref (ad (cc TX tl qs).toNat)) (by assumption) (by omega) jC) gX2_readNumbers_X2_readNumber rfl rfl k_X2_readNumber ⟨Nat.le_of_ble_eq_true rfl, Nat.le_of_ble_eq_true rfl⟩ rfl rfl rfl rfl (Nat.le_of_ble_eq_true rfl) ⟨Nat.le_of_ble_eq_true rfl, Nat.le_of_ble_eq_true rfl⟩ dX2_readNumbers_50 rfl (fun v w1 H locs hpost hP hD hS => ?_)
            obtain ⟨rfl, rfl⟩ := hpost
            have hP := zr0' hP
            have hD := zr0D' hD
            have hP : va_P D vwCl (txtW ct q TX tl (dE TX tl (dE TX tl (we TX tl qs))) ft (.ref (ad (cc TX tl qs).toNat)) (nV TX tl (we TX tl qs)) n2) H := hP
            have hD : va_D A (txtW ct q TX tl (dE TX tl (dE TX tl (we TX tl qs))) ft (.ref (ad (cc TX tl qs).toNat)) (nV TX tl (we TX tl qs)) n2) := hD
            refine W.eq (g2 := F0 m 53 ls [.int (zI (nV TX tl (dE TX tl (we TX tl qs)))), .ref (q 0)]) rfl ?_
            refine lv_goto (tgt := 57) hx hb dX2_readNumbers_53 (by decide) ?_
            refine z_put (ct := ct) (ad := ad) (ci := 1) (v := .int (zI (nV TX tl (dE TX tl (we TX tl qs))))) (ty := tyX2 6) (C := RX2) (T := TX2) (N := 7) (w2 := txtW ct q TX tl (dE TX tl (dE TX tl (we TX tl qs))) ft (.ref (ad (cc TX tl qs).toNat)) (nV TX tl (we TX tl qs)) (nV TX tl (dE TX tl (we TX tl qs)))) hx hb hts hin_X2 tyX2 tyX2_ok nmX2 hown hE hP hD hS 0 rfl rfl 6 (by decide) hf_3 (fun _ h9 => h9) rfl (by decide +kernel) rfl rfl (Nat.le_of_ble_eq_true rfl) dX2_readNumbers_57 (rfl) (fun H locs hP hD hS => ?_)
            refine lv_aload_n hx hb dX2_readNumbers_60 rfl (lv_at hl 1 rfl) ?_
            refine va_get (D := D) (ci := 1) (v := .int (zI (nV TX tl (we TX tl qs)))) (C := RX2) (T := TX2) (N := 7) hx hb hts hin_X2 hown hK hP 0 rfl rfl 5 (by decide) hf_2 (fun _ h9 => h9) rfl dX2_readNumbers_61 ?_
            refine z_iconst hx hb dX2_readNumbers_64 ?_
            refine z_icmp_eq (tgt := 80) hx hb dX2_readNumbers_65 (by decide) (by omega) (by omega) (fun hc_65 => ?_) (fun hc_65 => ?_)
            · have hc_65 := hc_65
              omega
            · have hc_65 := hc_65
              refine lv_aload_n hx hb dX2_readNumbers_68 rfl (lv_at hl 1 rfl) ?_
              refine va_get (D := D) (ci := 1) (v := .int (zI (nV TX tl (dE TX tl (we TX tl qs))))) (C := RX2) (T := TX2) (N := 7) hx hb hts hin_X2 hown hK hP 0 rfl rfl 6 (by decide) hf_3 (fun _ h9 => h9) rfl dX2_readNumbers_69 ?_
              refine z_iconst hx hb dX2_readNumbers_72 ?_
              refine z_icmp_eq (tgt := 80) hx hb dX2_readNumbers_73 (by decide) (by omega) (by omega) (fun hc_73 => ?_) (fun hc_73 => ?_)
              · have hc_73 := hc_73
                omega
              · have hc_73 := hc_73
                exact absurd ⟨fun z => by first | exact jB | (exfalso; omega), fun z => by first | (rw [e1 (by omega)]; exact jC) | (exfalso; omega)⟩ hno
          · skip
            refine z_callV (C := RX2) (q0 := 0) (ci := 1) (As := []) (rest := [.ref (q 0)]) ([] : va_W) ([] : va_W) hx hb hml hown hts hl hE hS hA (zr0 ([] : va_W) hP) (zr0D ([] : va_W) hD) (c_X2_readNumber_no l D ct ad q TX tl (dE TX tl (we TX tl qs)) ft (nV TX tl (we TX tl qs)) n2 (.ref (ad (cc TX tl qs).toNat)) (by assumption) (by omega) jC) gX2_readNumbers_X2_readNumber rfl rfl k_X2_readNumber ⟨Nat.le_of_ble_eq_true rfl, Nat.le_of_ble_eq_true rfl⟩ rfl rfl rfl rfl (Nat.le_of_ble_eq_true rfl) ⟨Nat.le_of_ble_eq_true rfl, Nat.le_of_ble_eq_true rfl⟩ dX2_readNumbers_50 rfl (fun v w1 H locs hpost hP hD hS => ?_)
            obtain ⟨rfl, rfl⟩ := hpost
            have hP := zr0' hP
            have hD := zr0D' hD
            have hP : va_P D vwCl (txtW ct q TX tl (sk TX tl (dE TX tl (we TX tl qs))) (sk TX tl (dE TX tl (we TX tl qs))) (.ref (ad (cc TX tl qs).toNat)) (nV TX tl (we TX tl qs)) n2) H := hP
            have hD : va_D A (txtW ct q TX tl (sk TX tl (dE TX tl (we TX tl qs))) (sk TX tl (dE TX tl (we TX tl qs))) (.ref (ad (cc TX tl qs).toNat)) (nV TX tl (we TX tl qs)) n2) := hD
            refine W.eq (g2 := F0 m 53 ls [.int (zI (-1)), .ref (q 0)]) rfl ?_
            refine lv_goto (tgt := 57) hx hb dX2_readNumbers_53 (by decide) ?_
            refine z_put (ct := ct) (ad := ad) (ci := 1) (v := .int (zI (-1))) (ty := tyX2 6) (C := RX2) (T := TX2) (N := 7) (w2 := txtW ct q TX tl (sk TX tl (dE TX tl (we TX tl qs))) (sk TX tl (dE TX tl (we TX tl qs))) (.ref (ad (cc TX tl qs).toNat)) (nV TX tl (we TX tl qs)) (-1)) hx hb hts hin_X2 tyX2 tyX2_ok nmX2 hown hE hP hD hS 0 rfl rfl 6 (by decide) hf_3 (fun _ h9 => h9) rfl (by decide +kernel) rfl rfl (Nat.le_of_ble_eq_true rfl) dX2_readNumbers_57 (rfl) (fun H locs hP hD hS => ?_)
            refine lv_aload_n hx hb dX2_readNumbers_60 rfl (lv_at hl 1 rfl) ?_
            refine va_get (D := D) (ci := 1) (v := .int (zI (nV TX tl (we TX tl qs)))) (C := RX2) (T := TX2) (N := 7) hx hb hts hin_X2 hown hK hP 0 rfl rfl 5 (by decide) hf_2 (fun _ h9 => h9) rfl dX2_readNumbers_61 ?_
            refine z_iconst hx hb dX2_readNumbers_64 ?_
            refine z_icmp_eq (tgt := 80) hx hb dX2_readNumbers_65 (by decide) (by omega) (by omega) (fun hc_65 => ?_) (fun hc_65 => ?_)
            · have hc_65 := hc_65
              omega
            · have hc_65 := hc_65
              refine lv_aload_n hx hb dX2_readNumbers_68 rfl (lv_at hl 1 rfl) ?_
              refine va_get (D := D) (ci := 1) (v := .int (zI (-1))) (C := RX2) (T := TX2) (N := 7) hx hb hts hin_X2 hown hK hP 0 rfl rfl 6 (by decide) hf_3 (fun _ h9 => h9) rfl dX2_readNumbers_69 ?_
              refine z_iconst hx hb dX2_readNumbers_72 ?_
              refine z_icmp_eq (tgt := 80) hx hb dX2_readNumbers_73 (by decide) (by omega) (by omega) (fun hc_73 => ?_) (fun hc_73 => ?_)
              · have hc_73 := hc_73
                refine z_iconst hx hb dX2_readNumbers_80 ?_
                exact z_zret hx hb hr (by first | rfl | exact zB_nar) hlocks hP hD hS ⟨Nat.le_of_ble_eq_true rfl, Nat.le_of_ble_eq_true rfl⟩ dX2_readNumbers_81 (⟨(sk TX tl (dE TX tl (we TX tl qs))), (nV TX tl (we TX tl qs)), (-1), trivial, rfl, by rw [cf_2 hcc jB (by omega) (by rw [e1 (by omega)]; exact jC), e1 (by omega)]⟩)
              · have hc_73 := hc_73
                omega
    · skip
      refine z_callV (C := RX2) (q0 := 0) (ci := 1) (As := []) (rest := [.ref (q 0)]) ([] : va_W) ([] : va_W) hx hb hml hown hts hl hE hS hA (zr0 ([] : va_W) hP) (zr0D ([] : va_W) hD) (c_X2_readNumber_no l D ct ad q TX tl (we TX tl qs) ft n1 n2 (.ref (ad (cc TX tl qs).toNat)) (by assumption) (by omega) jB) gX2_readNumbers_X2_readNumber rfl rfl k_X2_readNumber ⟨Nat.le_of_ble_eq_true rfl, Nat.le_of_ble_eq_true rfl⟩ rfl rfl rfl rfl (Nat.le_of_ble_eq_true rfl) ⟨Nat.le_of_ble_eq_true rfl, Nat.le_of_ble_eq_true rfl⟩ dX2_readNumbers_25 rfl (fun v w1 H locs hpost hP hD hS => ?_)
      obtain ⟨rfl, rfl⟩ := hpost
      have hP := zr0' hP
      have hD := zr0D' hD
      have hP : va_P D vwCl (txtW ct q TX tl (sk TX tl (we TX tl qs)) (sk TX tl (we TX tl qs)) (.ref (ad (cc TX tl qs).toNat)) n1 n2) H := hP
      have hD : va_D A (txtW ct q TX tl (sk TX tl (we TX tl qs)) (sk TX tl (we TX tl qs)) (.ref (ad (cc TX tl qs).toNat)) n1 n2) := hD
      refine W.eq (g2 := F0 m 28 ls [.int (zI (-1)), .ref (q 0)]) rfl ?_
      refine lv_goto (tgt := 32) hx hb dX2_readNumbers_28 (by decide) ?_
      refine z_put (ct := ct) (ad := ad) (ci := 1) (v := .int (zI (-1))) (ty := tyX2 5) (C := RX2) (T := TX2) (N := 7) (w2 := txtW ct q TX tl (sk TX tl (we TX tl qs)) (sk TX tl (we TX tl qs)) (.ref (ad (cc TX tl qs).toNat)) (-1) n2) hx hb hts hin_X2 tyX2 tyX2_ok nmX2 hown hE hP hD hS 0 rfl rfl 5 (by decide) hf_2 (fun _ h9 => h9) rfl (by decide +kernel) rfl rfl (Nat.le_of_ble_eq_true rfl) dX2_readNumbers_32 (rfl) (fun H locs hP hD hS => ?_)
      refine lv_aload_n hx hb dX2_readNumbers_35 rfl (lv_at hl 1 rfl) ?_
      refine lv_iload_n hx hb dX2_readNumbers_36 rfl (lv_at hl 0 rfl) ?_
      refine z_iconst hx hb dX2_readNumbers_37 ?_
      refine z_icmp_le (tgt := 56) hx hb dX2_readNumbers_38 (by decide) (by omega) (by omega) (fun hc_38 => ?_) (fun hc_38 => ?_)
      · have hc_38 := hc_38
        refine z_iconst hx hb dX2_readNumbers_56 ?_
        refine z_put (ct := ct) (ad := ad) (ci := 1) (v := .int (zI 0)) (ty := tyX2 6) (C := RX2) (T := TX2) (N := 7) (w2 := txtW ct q TX tl (sk TX tl (we TX tl qs)) (sk TX tl (we TX tl qs)) (.ref (ad (cc TX tl qs).toNat)) (-1) 0) hx hb hts hin_X2 tyX2 tyX2_ok nmX2 hown hE hP hD hS 0 rfl rfl 6 (by decide) hf_3 (fun _ h9 => h9) rfl (by decide +kernel) rfl rfl (Nat.le_of_ble_eq_true rfl) dX2_readNumbers_57 (rfl) (fun H locs hP hD hS => ?_)
        refine lv_aload_n hx hb dX2_readNumbers_60 rfl (lv_at hl 1 rfl) ?_
        refine va_get (D := D) (ci := 1) (v := .int (zI (-1))) (C := RX2) (T := TX2) (N := 7) hx hb hts hin_X2 hown hK hP 0 rfl rfl 5 (by decide) hf_2 (fun _ h9 => h9) rfl dX2_readNumbers_61 ?_
        refine z_iconst hx hb dX2_readNumbers_64 ?_
        refine z_icmp_eq (tgt := 80) hx hb dX2_readNumbers_65 (by decide) (by omega) (by omega) (fun hc_65 => ?_) (fun hc_65 => ?_)
        · have hc_65 := hc_65
          refine z_iconst hx hb dX2_readNumbers_80 ?_
          exact z_zret hx hb hr (by first | rfl | exact zB_nar) hlocks hP hD hS ⟨Nat.le_of_ble_eq_true rfl, Nat.le_of_ble_eq_true rfl⟩ dX2_readNumbers_81 (⟨(sk TX tl (we TX tl qs)), (-1), 0, trivial, rfl, by rw [cf_1 hcc (by omega) jB]⟩)
        · have hc_65 := hc_65
          omega
      · have hc_38 := hc_38
        refine lv_aload_n hx hb dX2_readNumbers_41 rfl (lv_at hl 1 rfl) ?_
        refine va_get (D := D) (ci := 1) (v := .int (zI (-1))) (C := RX2) (T := TX2) (N := 7) hx hb hts hin_X2 hown hK hP 0 rfl rfl 5 (by decide) hf_2 (fun _ h9 => h9) rfl dX2_readNumbers_42 ?_
        refine z_iconst hx hb dX2_readNumbers_45 ?_
        refine z_icmp_eq (tgt := 56) hx hb dX2_readNumbers_46 (by decide) (by omega) (by omega) (fun hc_46 => ?_) (fun hc_46 => ?_)
        · have hc_46 := hc_46
          refine z_iconst hx hb dX2_readNumbers_56 ?_
          refine z_put (ct := ct) (ad := ad) (ci := 1) (v := .int (zI 0)) (ty := tyX2 6) (C := RX2) (T := TX2) (N := 7) (w2 := txtW ct q TX tl (sk TX tl (we TX tl qs)) (sk TX tl (we TX tl qs)) (.ref (ad (cc TX tl qs).toNat)) (-1) 0) hx hb hts hin_X2 tyX2 tyX2_ok nmX2 hown hE hP hD hS 0 rfl rfl 6 (by decide) hf_3 (fun _ h9 => h9) rfl (by decide +kernel) rfl rfl (Nat.le_of_ble_eq_true rfl) dX2_readNumbers_57 (rfl) (fun H locs hP hD hS => ?_)
          refine lv_aload_n hx hb dX2_readNumbers_60 rfl (lv_at hl 1 rfl) ?_
          refine va_get (D := D) (ci := 1) (v := .int (zI (-1))) (C := RX2) (T := TX2) (N := 7) hx hb hts hin_X2 hown hK hP 0 rfl rfl 5 (by decide) hf_2 (fun _ h9 => h9) rfl dX2_readNumbers_61 ?_
          refine z_iconst hx hb dX2_readNumbers_64 ?_
          refine z_icmp_eq (tgt := 80) hx hb dX2_readNumbers_65 (by decide) (by omega) (by omega) (fun hc_65 => ?_) (fun hc_65 => ?_)
          · have hc_65 := hc_65
            refine z_iconst hx hb dX2_readNumbers_80 ?_
            exact z_zret hx hb hr (by first | rfl | exact zB_nar) hlocks hP hD hS ⟨Nat.le_of_ble_eq_true rfl, Nat.le_of_ble_eq_true rfl⟩ dX2_readNumbers_81 (⟨(sk TX tl (we TX tl qs)), (-1), 0, trivial, rfl, by rw [cf_1 hcc (by omega) jB]⟩)
          · have hc_65 := hc_65
            omega
        · have hc_46 := hc_46
          omega
