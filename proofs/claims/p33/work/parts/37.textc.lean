theorem k_J0_charAt_5068e : yJ0_charAt_5068e.cls ≠ "java/lang/invoke/MethodHandle" ∧ yJ0_charAt_5068e.cls ≠ "java/lang/invoke/VarHandle" ∧ (parseMethodDescriptor yJ0_charAt_5068e.desc).map (fun d => d.parameters.length) = some 1 := by decide +kernel
theorem k_J0_length_8abf5 : yJ0_length_8abf5.cls ≠ "java/lang/invoke/MethodHandle" ∧ yJ0_length_8abf5.cls ≠ "java/lang/invoke/VarHandle" ∧ (parseMethodDescriptor yJ0_length_8abf5.desc).map (fun d => d.parameters.length) = some 0 := by decide +kernel
set_option maxHeartbeats 4000000 in
set_option maxRecDepth 100000 in
theorem c_X2_isBetween (l : Launch) (D : va_G) (ct ad : Nat → Nat) (q : Nat → Nat) (TX : Int → Int) (tl pl ft n1 n2 : Int) (wd : Value) (k : Nat) (s_ e_ : Int) (ht : tInv TX tl) (hk : k < 12) (hse : 0 ≤ s_ ∧ s_ ≤ e_ ∧ e_ ≤ tl) : ZM l yX2_isBetween wsX2_isBetween ({ frames := 4, cells := 0, slots := 0, locals := 85 } : Room) D ct ad [.ref (q 0), .ref (ad (20 + k)), .int (zI s_), .int (zI e_)] (txtW ct q TX tl pl ft wd n1 n2) (zD (some (.int (zI (zB (isW TX (k : Int) s_ e_))))) (txtW ct q TX tl pl ft wd n1 n2)) := by
  refine ZM.of (cc := cX2_isBetween) (maxL := 5) (ret := (some .boolean)) (by decide +kernel) rfl (Nat.le_of_ble_eq_true rfl) ?_
  intro p e s m below meth c A ls hx hb hr hts hown hlocks hml hname hE hP hD hA hS hl
  have hK := hE.1
  have hf_0 := hts (.fieldLink RX2 19 "RodGrids$CommandText" "length" "I") (by decide +kernel)
  have hf_1 := hts (.fieldLink RX2 9 "RodGrids$CommandText" "bytes" "[B") (by decide +kernel)
  have hin_X2 : ∀ z ∈ u_ws RX2 TX2 7, z ∈ wsX2_isBetween := by decide +kernel
  have hl : lv_has ls 5 [(0, .ref (q 0)), (1, .ref (ad (20 + k))), (2, .int (zI s_)), (3, .int (zI e_))] := hl
  have t1 := ht.1
  have lB := zLn_B k hk
  refine lv_aload_n hx hb dX2_isBetween_0 rfl (lv_at hl 1 rfl) ?_
  refine z_callVS (C := RJ0) (As := []) (rest := []) ([] : va_W) (txtW ct q TX tl pl ft wd n1 n2) hx hb hml hown hts hl hE hS hA hP hD (c_J0_length_8abf5 l D ct ad k hk) gX2_isBetween_J0_length_8abf5 rfl rfl k_J0_length_8abf5 ⟨Nat.le_of_ble_eq_true rfl, Nat.le_of_ble_eq_true rfl⟩ (show ∃ cell : Cell, s.heap[ad (20 + k)]? = some cell ∧ cell.vm.isStatics = false ∧ _ from vk_recv (i := k) hE.2.2.1.1.2.2 hk hS) rfl (Nat.le_of_ble_eq_true rfl) ⟨Nat.le_of_ble_eq_true rfl, Nat.le_of_ble_eq_true rfl⟩ dX2_isBetween_1 rfl (fun v w1 H locs hpost hP hD hS => ?_)
  obtain ⟨rfl, rfl⟩ := hpost
  have hP : va_P D vwCl (txtW ct q TX tl pl ft wd n1 n2) H := hP
  have hD : va_D A (txtW ct q TX tl pl ft wd n1 n2) := hD
  refine W.eq (g2 := F0 m 4 ls [.int (zI (zLn k))]) rfl ?_
  refine lv_iload_n hx hb dX2_isBetween_4 rfl (lv_at hl 3 rfl) ?_
  refine lv_iload_n hx hb dX2_isBetween_5 rfl (lv_at hl 2 rfl) ?_
  refine z_isub hx hb dX2_isBetween_6 ?_
  refine z_icmp_ne (tgt := 22) hx hb dX2_isBetween_7 (by decide) (by omega) (by omega) (fun hc_7 => ?_) (fun hc_7 => ?_)
  · have hc_7 := hc_7
    refine z_iconst hx hb dX2_isBetween_22 ?_
    exact z_zret hx hb hr (by first | rfl | exact zB_nar) hlocks hP hD hS ⟨Nat.le_of_ble_eq_true rfl, Nat.le_of_ble_eq_true rfl⟩ dX2_isBetween_23 (⟨congrArg (fun z => some (Value.int (zI z))) (by first | exact (zB_f (fun h => by have := ((isW_of hk).mp h).1; omega)).symm | exact (zB_f (fun h => hc_51 (((isW_of hk).mp h).2 i (by omega) (by omega)))).symm | exact (zB_t ((isW_of hk).mpr ⟨he, fun j a b => hm j a (by omega)⟩)).symm), rfl⟩)
  · have hc_7 := hc_7
    refine lv_iload_n hx hb dX2_isBetween_10 rfl (lv_at hl 2 rfl) ?_
    refine z_if_lt (tgt := 22) hx hb dX2_isBetween_11 (by decide) (by omega) (fun hc_11 => ?_) (fun hc_11 => ?_)
    · have hc_11 := hc_11
      omega
    · have hc_11 := hc_11
      refine lv_iload_n hx hb dX2_isBetween_14 rfl (lv_at hl 3 rfl) ?_
      refine lv_aload_n hx hb dX2_isBetween_15 rfl (lv_at hl 0 rfl) ?_
      refine va_get (D := D) (ci := 1) (v := .int (zI tl)) (C := RX2) (T := TX2) (N := 7) hx hb hts hin_X2 hown hK hP 0 rfl rfl 1 (by decide) hf_0 (fun _ h9 => h9) rfl dX2_isBetween_16 ?_
      refine z_icmp_le (tgt := 24) hx hb dX2_isBetween_19 (by decide) (by omega) (by omega) (fun hc_19 => ?_) (fun hc_19 => ?_)
      · have hc_19 := hc_19
        refine z_iconst hx hb dX2_isBetween_24 ?_
        refine lv_istore (lv' := [(4, .int (zI 0)), (0, .ref (q 0)), (1, .ref (ad (20 + k))), (2, .int (zI s_)), (3, .int (zI e_))]) hx hb dX2_isBetween_25 hl (by decide) rfl (fun ls hl => ?_)
        refine z_loop (σ := Int) (fun q9 => (zLn k - q9).toNat) (fun q9 => (0 ≤ q9 ∧ q9 ≤ zLn k) ∧ (e_ - s_ = zLn k) ∧ (∀ j : Int, 0 ≤ j → j < q9 → zCh k j.toNat = TX (s_ + j))) (fun q9 => txtW ct q TX tl pl ft wd n1 n2) (fun q9 => [(0, .ref (q 0)), (1, .ref (ad (20 + k))), (2, .int (zI s_)), (3, .int (zI e_)), (4, .int (zI q9))]) (fun q9 => []) (0) ⟨(show 0 ≤ 0 ∧ 0 ≤ zLn k from (by omega)), (show e_ - s_ = zLn k from (by omega)), (show ∀ j : Int, 0 ≤ j → j < 0 → zCh k j.toNat = TX (s_ + j) from (fun j a b => by omega))⟩ hP hD hS (lv_sub hl [1, 2, 3, 4, 0] rfl) rfl ?_
        rintro i hI_27 ih_27 H locs ls hP hD hS hl
        obtain ⟨hi, he, hm⟩ := hI_27
        have hi : 0 ≤ i ∧ i ≤ zLn k := hi
        have he : e_ - s_ = zLn k := he
        have hm : ∀ j : Int, 0 ≤ j → j < i → zCh k j.toNat = TX (s_ + j) := hm
        have hP : va_P D vwCl (txtW ct q TX tl pl ft wd n1 n2) H := hP
        have hD : va_D A (txtW ct q TX tl pl ft wd n1 n2) := hD
        have hl : lv_has ls 5 [(0, .ref (q 0)), (1, .ref (ad (20 + k))), (2, .int (zI s_)), (3, .int (zI e_)), (4, .int (zI i))] := hl
        refine lv_iload hx hb dX2_isBetween_27 (lv_at hl 4 rfl) ?_
        refine lv_aload_n hx hb dX2_isBetween_29 rfl (lv_at hl 1 rfl) ?_
        refine z_callVS (C := RJ0) (As := []) (rest := [.int (zI i)]) ([] : va_W) (txtW ct q TX tl pl ft wd n1 n2) hx hb hml hown hts hl hE hS hA hP hD (c_J0_length_8abf5 l D ct ad k hk) gX2_isBetween_J0_length_8abf5 rfl rfl k_J0_length_8abf5 ⟨Nat.le_of_ble_eq_true rfl, Nat.le_of_ble_eq_true rfl⟩ (show ∃ cell : Cell, H[ad (20 + k)]? = some cell ∧ cell.vm.isStatics = false ∧ _ from vk_recv (i := k) hE.2.2.1.1.2.2 hk hS) rfl (Nat.le_of_ble_eq_true rfl) ⟨Nat.le_of_ble_eq_true rfl, Nat.le_of_ble_eq_true rfl⟩ dX2_isBetween_30 rfl (fun v w1 H locs hpost hP hD hS => ?_)
        obtain ⟨rfl, rfl⟩ := hpost
        have hP : va_P D vwCl (txtW ct q TX tl pl ft wd n1 n2) H := hP
        have hD : va_D A (txtW ct q TX tl pl ft wd n1 n2) := hD
        refine W.eq (g2 := F0 m 33 ls [.int (zI (zLn k)), .int (zI i)]) rfl ?_
        refine z_icmp_ge (tgt := 62) hx hb dX2_isBetween_33 (by decide) (by omega) (by omega) (fun hc_33 => ?_) (fun hc_33 => ?_)
        · have hc_33 := hc_33
          refine z_iconst hx hb dX2_isBetween_62 ?_
          exact z_zret hx hb hr (by first | rfl | exact zB_nar) hlocks hP hD hS ⟨Nat.le_of_ble_eq_true rfl, Nat.le_of_ble_eq_true rfl⟩ dX2_isBetween_63 (⟨congrArg (fun z => some (Value.int (zI z))) (by first | exact (zB_f (fun h => by have := ((isW_of hk).mp h).1; omega)).symm | exact (zB_f (fun h => hc_51 (((isW_of hk).mp h).2 i (by omega) (by omega)))).symm | exact (zB_t ((isW_of hk).mpr ⟨he, fun j a b => hm j a (by omega)⟩)).symm), rfl⟩)
        · have hc_33 := hc_33
          refine lv_aload_n hx hb dX2_isBetween_36 rfl (lv_at hl 1 rfl) ?_
          refine lv_iload hx hb dX2_isBetween_37 (lv_at hl 4 rfl) ?_
          refine z_callVS (C := RJ0) (As := [.int (zI i)]) (rest := []) ([] : va_W) (txtW ct q TX tl pl ft wd n1 n2) hx hb hml hown hts hl hE hS hA hP hD (c_J0_charAt_5068e l D ct ad k i hk (by omega)) gX2_isBetween_J0_charAt_5068e rfl rfl k_J0_charAt_5068e ⟨Nat.le_of_ble_eq_true rfl, Nat.le_of_ble_eq_true rfl⟩ (show ∃ cell : Cell, H[ad (20 + k)]? = some cell ∧ cell.vm.isStatics = false ∧ _ from vk_recv (i := k) hE.2.2.1.1.2.2 hk hS) rfl (Nat.le_of_ble_eq_true rfl) ⟨Nat.le_of_ble_eq_true rfl, Nat.le_of_ble_eq_true rfl⟩ dX2_isBetween_39 rfl (fun v w1 H locs hpost hP hD hS => ?_)
          obtain ⟨rfl, rfl⟩ := hpost
          have hP : va_P D vwCl (txtW ct q TX tl pl ft wd n1 n2) H := hP
          have hD : va_D A (txtW ct q TX tl pl ft wd n1 n2) := hD
          refine W.eq (g2 := F0 m 42 ls [.int (zI (zCh k i.toNat))]) rfl ?_
          refine lv_aload_n hx hb dX2_isBetween_42 rfl (lv_at hl 0 rfl) ?_
          refine va_get (D := D) (ci := 1) (v := .ref (q 1)) (C := RX2) (T := TX2) (N := 7) hx hb hts hin_X2 hown hK hP 0 rfl rfl 0 (by decide) hf_1 (fun _ h9 => h9) rfl dX2_isBetween_43 ?_
          refine lv_iload_n hx hb dX2_isBetween_46 rfl (lv_at hl 2 rfl) ?_
          refine lv_iload hx hb dX2_isBetween_47 (lv_at hl 4 rfl) ?_
          refine z_iadd hx hb dX2_isBetween_49 ?_
          have cB := zCh_B k i.toNat hk
          have xB := ht.2 (s_ + i) (by omega) (by omega)
          refine z_bald (g := TX) (v := TX (s_ + i)) hx hb hK hP 1 rfl (by decide) (by omega) rfl dX2_isBetween_50 ?_
          refine z_icmp_eq (tgt := 56) hx hb dX2_isBetween_51 (by decide) (by omega) (by omega) (fun hc_51 => ?_) (fun hc_51 => ?_)
          · have hc_51 := hc_51
            refine z_iinc (k := 4) (lv' := [(4, .int (zI (i + 1))), (0, .ref (q 0)), (1, .ref (ad (20 + k))), (2, .int (zI s_)), (3, .int (zI e_))]) hx hb dX2_isBetween_56 hl rfl (by decide) rfl (fun ls hl => ?_)
            refine lv_goto (tgt := 27) hx hb dX2_isBetween_59 (by decide) ?_
            exact ih_27 (i + 1) ⟨(show 0 ≤ (i + 1) ∧ (i + 1) ≤ zLn k from (by omega)), (show e_ - s_ = zLn k from (by omega)), (show ∀ j : Int, 0 ≤ j → j < (i + 1) → zCh k j.toNat = TX (s_ + j) from (fun j a b => by rcases (show j < i ∨ j = i by omega) with z | z <;> first | exact hm j a z | (rw [z]; omega)))⟩ (show (zLn k - (i + 1)).toNat < (zLn k - i).toNat from (by omega)) _ _ _ hP hD hS (lv_sub hl [1, 2, 3, 4, 0] rfl)
          · have hc_51 := hc_51
            refine z_iconst hx hb dX2_isBetween_54 ?_
            exact z_zret hx hb hr (by first | rfl | exact zB_nar) hlocks hP hD hS ⟨Nat.le_of_ble_eq_true rfl, Nat.le_of_ble_eq_true rfl⟩ dX2_isBetween_55 (⟨congrArg (fun z => some (Value.int (zI z))) (by first | exact (zB_f (fun h => by have := ((isW_of hk).mp h).1; omega)).symm | exact (zB_f (fun h => hc_51 (((isW_of hk).mp h).2 i (by omega) (by omega)))).symm | exact (zB_t ((isW_of hk).mpr ⟨he, fun j a b => hm j a (by omega)⟩)).symm), rfl⟩)
      · have hc_19 := hc_19
        omega
theorem k_X2_isBetween : yX2_isBetween.cls ≠ "java/lang/invoke/MethodHandle" ∧ yX2_isBetween.cls ≠ "java/lang/invoke/VarHandle" ∧ (parseMethodDescriptor yX2_isBetween.desc).map (fun d => d.parameters.length) = some 3 := by decide +kernel
set_option maxHeartbeats 4000000 in
set_option maxRecDepth 100000 in
theorem c_X2_wordBetween_ok (l : Launch) (D : va_G) (ct ad : Nat → Nat) (q : Nat → Nat) (TX : Int → Int) (tl pl ft n1 n2 : Int) (wd : Value) (s_ e_ : Int) (ht : tInv TX tl) (hse : 0 ≤ s_ ∧ s_ ≤ e_ ∧ e_ ≤ tl) (hok : cw TX s_ e_ ≠ -2000000000) : ZM l yX2_wordBetween wsX2_wordBetween ({ frames := 5, cells := 0, slots := 0, locals := 109 } : Room) D ct ad [.ref (q 0), .int (zI s_), .int (zI e_)] (txtW ct q TX tl pl ft wd n1 n2) (zD (some (.ref (ad (cw TX s_ e_).toNat))) (txtW ct q TX tl pl ft wd n1 n2)) := by
  refine ZM.of (cc := cX2_wordBetween) (maxL := 4) (ret := (some (.object "RodGrids$Word"))) (by decide +kernel) rfl (Nat.le_of_ble_eq_true rfl) ?_
  intro p e s m below meth c A ls hx hb hr hts hown hlocks hml hname hE hP hD hA hS hl
  have hK := hE.1
  have hf_0 := hts (.fieldLink RX2 82 "RodGrids$Word" "letters" "Ljava/lang/String;") (by decide +kernel)
  have hl : lv_has ls 4 [(0, .ref (q 0)), (1, .int (zI s_)), (2, .int (zI e_))] := hl
  have t1 := ht.1
  refine z_iconst hx hb dX2_wordBetween_0 ?_
  refine lv_istore_n (lv' := [(3, .int (zI 0)), (0, .ref (q 0)), (1, .int (zI s_)), (2, .int (zI e_))]) hx hb dX2_wordBetween_1 rfl hl (by decide) rfl (fun ls hl => ?_)
  refine z_loop (σ := Int) (fun q9 => (12 - q9).toNat) (fun q9 => (0 ≤ q9 ∧ q9 ≤ 12) ∧ (cwN TX s_ e_ (12 - q9 : Int).toNat = cw TX s_ e_)) (fun q9 => txtW ct q TX tl pl ft wd n1 n2) (fun q9 => [(0, .ref (q 0)), (1, .int (zI s_)), (2, .int (zI e_)), (3, .int (zI q9))]) (fun q9 => []) (0) ⟨(show 0 ≤ 0 ∧ 0 ≤ 12 from (by omega)), (show cwN TX s_ e_ (12 - 0 : Int).toNat = cw TX s_ e_ from (by rfl))⟩ hP hD hS (lv_sub hl [1, 2, 3, 0] rfl) rfl ?_
  rintro i hI_2 ih_2 H locs ls hP hD hS hl
  obtain ⟨hi, hw⟩ := hI_2
  have hi : 0 ≤ i ∧ i ≤ 12 := hi
  have hw : cwN TX s_ e_ (12 - i : Int).toNat = cw TX s_ e_ := hw
  have hP : va_P D vwCl (txtW ct q TX tl pl ft wd n1 n2) H := hP
  have hD : va_D A (txtW ct q TX tl pl ft wd n1 n2) := hD
  have hl : lv_has ls 4 [(0, .ref (q 0)), (1, .int (zI s_)), (2, .int (zI e_)), (3, .int (zI i))] := hl
  refine lv_iload_n hx hb dX2_wordBetween_2 rfl (lv_at hl 3 rfl) ?_
  refine va_getsN (host := RX8) (C := RX8) (n := "WORDS") (d := "[LRodGrids$Word;") hx hb (hE.2.2.1.2.1.1.1) hS hown (va_Nw.use rfl (hE.2.1.1 _ (List.mem_of_getElem? (i := 2) rfl))) (fun _ h9 => h9) dX2_wordBetween_3 ?_
  refine z_tlen (N := 12) hx hb hE.2.2.1.2.1.1.2 hS dX2_wordBetween_6 ?_
  refine W.eq (g2 := F0 m 7 ls [.int (zI 12), .int (zI i)]) rfl ?_
  refine z_icmp_ge (tgt := 39) hx hb dX2_wordBetween_7 (by decide) (by omega) (by omega) (fun hc_7 => ?_) (fun hc_7 => ?_)
  · have hc_7 := hc_7
    exfalso; have hE8 : cw TX s_ e_ = -2000000000 := (by rw [← hw, show (12 - i : Int).toNat = 0 by omega]; rfl); exact hok hE8
  · have hc_7 := hc_7
    have hik : ((i.toNat : Nat) : Int) = i := by omega
    have hk9 : i.toNat < 12 := by omega
    refine lv_aload_n hx hb dX2_wordBetween_10 rfl (lv_at hl 0 rfl) ?_
    refine va_getsN (host := RX8) (C := RX8) (n := "WORDS") (d := "[LRodGrids$Word;") hx hb (hE.2.2.1.2.1.1.1) hS hown (va_Nw.use rfl (hE.2.1.1 _ (List.mem_of_getElem? (i := 2) rfl))) (fun _ h9 => h9) dX2_wordBetween_11 ?_
    refine lv_iload_n hx hb dX2_wordBetween_14 rfl (lv_at hl 3 rfl) ?_
    refine z_tq (f := ad) hx hb hE.2.2.1.2.1.1.2 hS (by omega) (by decide) dX2_wordBetween_15 ?_
    refine va_getX (o := "RodGrids$Word") (n := "letters") (d := "Ljava/lang/String;") (v := fun i => .ref (ad (20 + i))) (ad := ad) (i := i.toNat) hx hb hE.2.2.1.1.2.1 hk9 hS hown hf_0 (fun _ h9 => h9) dX2_wordBetween_16 ?_
    refine lv_iload_n hx hb dX2_wordBetween_19 rfl (lv_at hl 1 rfl) ?_
    refine lv_iload_n hx hb dX2_wordBetween_20 rfl (lv_at hl 2 rfl) ?_
    refine z_callV (C := RX2) (q0 := 0) (ci := 1) (As := [.ref (ad (20 + i.toNat)), .int (zI s_), .int (zI e_)]) (rest := []) ([] : va_W) ([] : va_W) hx hb hml hown hts hl hE hS hA (zr0 ([] : va_W) hP) (zr0D ([] : va_W) hD) (c_X2_isBetween l D ct ad q TX tl pl ft n1 n2 wd i.toNat s_ e_ (by assumption) hk9 (by omega)) gX2_wordBetween_X2_isBetween rfl rfl k_X2_isBetween ⟨Nat.le_of_ble_eq_true rfl, Nat.le_of_ble_eq_true rfl⟩ rfl rfl rfl rfl (Nat.le_of_ble_eq_true rfl) ⟨Nat.le_of_ble_eq_true rfl, Nat.le_of_ble_eq_true rfl⟩ dX2_wordBetween_21 rfl (fun v w1 H locs hpost hP hD hS => ?_)
    obtain ⟨rfl, rfl⟩ := hpost
    have hP := zr0' hP
    have hD := zr0D' hD
    have hP : va_P D vwCl (txtW ct q TX tl pl ft wd n1 n2) H := hP
    have hD : va_D A (txtW ct q TX tl pl ft wd n1 n2) := hD
    refine W.eq (g2 := F0 m 24 ls [.int (zI (zB (isW TX (i.toNat : Int) s_ e_)))]) rfl ?_
    refine zb_if_eq (tgt := 33) hx hb dX2_wordBetween_24 (by decide) (fun hc_24 => ?_) (fun hc_24 => ?_)
    · have hc_24 := hc_24
      refine z_iinc (k := 3) (lv' := [(3, .int (zI (i + 1))), (0, .ref (q 0)), (1, .int (zI s_)), (2, .int (zI e_))]) hx hb dX2_wordBetween_33 hl rfl (by decide) rfl (fun ls hl => ?_)
      refine lv_goto (tgt := 2) hx hb dX2_wordBetween_36 (by decide) ?_
      exact ih_2 (i + 1) ⟨(show 0 ≤ (i + 1) ∧ (i + 1) ≤ 12 from (by omega)), (show cwN TX s_ e_ (12 - (i + 1) : Int).toNat = cw TX s_ e_ from (by rw [← hw, cmS (i := i) (by omega), if_neg (by rw [← hik]; exact hc_24)]))⟩ (show (12 - (i + 1)).toNat < (12 - i).toNat from (by omega)) _ _ _ hP hD hS (lv_sub hl [1, 2, 3, 0] rfl)
    · have hc_24 := hc_24
      have hE9 : cw TX s_ e_ = i := by rw [← hw, cmS (i := i) (by omega), if_pos (by rw [← hik]; exact hc_24)]
      refine va_getsN (host := RX8) (C := RX8) (n := "WORDS") (d := "[LRodGrids$Word;") hx hb (hE.2.2.1.2.1.1.1) hS hown (va_Nw.use rfl (hE.2.1.1 _ (List.mem_of_getElem? (i := 2) rfl))) (fun _ h9 => h9) dX2_wordBetween_27 ?_
      refine lv_iload_n hx hb dX2_wordBetween_30 rfl (lv_at hl 3 rfl) ?_
      refine z_tq (f := ad) hx hb hE.2.2.1.2.1.1.2 hS (by omega) (by decide) dX2_wordBetween_31 ?_
      exact z_aretR hx hb hr hlocks hP hD hS ⟨Nat.le_of_ble_eq_true rfl, Nat.le_of_ble_eq_true rfl⟩ dX2_wordBetween_32 (⟨by rw [hE9], rfl⟩)
set_option maxHeartbeats 4000000 in
set_option maxRecDepth 100000 in
theorem c_X2_wordBetween_no (l : Launch) (D : va_G) (ct ad : Nat → Nat) (q : Nat → Nat) (TX : Int → Int) (tl pl ft n1 n2 : Int) (wd : Value) (s_ e_ : Int) (ht : tInv TX tl) (hse : 0 ≤ s_ ∧ s_ ≤ e_ ∧ e_ ≤ tl) (hno : cw TX s_ e_ = -2000000000) : ZM l yX2_wordBetween wsX2_wordBetween ({ frames := 5, cells := 0, slots := 0, locals := 109 } : Room) D ct ad [.ref (q 0), .int (zI s_), .int (zI e_)] (txtW ct q TX tl pl ft wd n1 n2) (zD (some (.null)) (txtW ct q TX tl pl ft wd n1 n2)) := by
  refine ZM.of (cc := cX2_wordBetween) (maxL := 4) (ret := (some (.object "RodGrids$Word"))) (by decide +kernel) rfl (Nat.le_of_ble_eq_true rfl) ?_
  intro p e s m below meth c A ls hx hb hr hts hown hlocks hml hname hE hP hD hA hS hl
  have hK := hE.1
  have hf_0 := hts (.fieldLink RX2 82 "RodGrids$Word" "letters" "Ljava/lang/String;") (by decide +kernel)
  have hl : lv_has ls 4 [(0, .ref (q 0)), (1, .int (zI s_)), (2, .int (zI e_))] := hl
  have t1 := ht.1
  refine z_iconst hx hb dX2_wordBetween_0 ?_
  refine lv_istore_n (lv' := [(3, .int (zI 0)), (0, .ref (q 0)), (1, .int (zI s_)), (2, .int (zI e_))]) hx hb dX2_wordBetween_1 rfl hl (by decide) rfl (fun ls hl => ?_)
  refine z_loop (σ := Int) (fun q9 => (12 - q9).toNat) (fun q9 => (0 ≤ q9 ∧ q9 ≤ 12) ∧ (cwN TX s_ e_ (12 - q9 : Int).toNat = cw TX s_ e_)) (fun q9 => txtW ct q TX tl pl ft wd n1 n2) (fun q9 => [(0, .ref (q 0)), (1, .int (zI s_)), (2, .int (zI e_)), (3, .int (zI q9))]) (fun q9 => []) (0) ⟨(show 0 ≤ 0 ∧ 0 ≤ 12 from (by omega)), (show cwN TX s_ e_ (12 - 0 : Int).toNat = cw TX s_ e_ from (by rfl))⟩ hP hD hS (lv_sub hl [1, 2, 3, 0] rfl) rfl ?_
  rintro i hI_2 ih_2 H locs ls hP hD hS hl
  obtain ⟨hi, hw⟩ := hI_2
  have hi : 0 ≤ i ∧ i ≤ 12 := hi
  have hw : cwN TX s_ e_ (12 - i : Int).toNat = cw TX s_ e_ := hw
  have hP : va_P D vwCl (txtW ct q TX tl pl ft wd n1 n2) H := hP
  have hD : va_D A (txtW ct q TX tl pl ft wd n1 n2) := hD
  have hl : lv_has ls 4 [(0, .ref (q 0)), (1, .int (zI s_)), (2, .int (zI e_)), (3, .int (zI i))] := hl
  refine lv_iload_n hx hb dX2_wordBetween_2 rfl (lv_at hl 3 rfl) ?_
  refine va_getsN (host := RX8) (C := RX8) (n := "WORDS") (d := "[LRodGrids$Word;") hx hb (hE.2.2.1.2.1.1.1) hS hown (va_Nw.use rfl (hE.2.1.1 _ (List.mem_of_getElem? (i := 2) rfl))) (fun _ h9 => h9) dX2_wordBetween_3 ?_
  refine z_tlen (N := 12) hx hb hE.2.2.1.2.1.1.2 hS dX2_wordBetween_6 ?_
  refine W.eq (g2 := F0 m 7 ls [.int (zI 12), .int (zI i)]) rfl ?_
  refine z_icmp_ge (tgt := 39) hx hb dX2_wordBetween_7 (by decide) (by omega) (by omega) (fun hc_7 => ?_) (fun hc_7 => ?_)
  · have hc_7 := hc_7
    have hE8 : cw TX s_ e_ = -2000000000 := by rw [← hw, show (12 - i : Int).toNat = 0 by omega]; rfl
    refine lv_null hx hb dX2_wordBetween_39 ?_
    exact z_aretN hx hb hr hlocks hP hD hS ⟨Nat.le_of_ble_eq_true rfl, Nat.le_of_ble_eq_true rfl⟩ dX2_wordBetween_40 (⟨rfl, rfl⟩)
  · have hc_7 := hc_7
    have hik : ((i.toNat : Nat) : Int) = i := by omega
    have hk9 : i.toNat < 12 := by omega
    refine lv_aload_n hx hb dX2_wordBetween_10 rfl (lv_at hl 0 rfl) ?_
    refine va_getsN (host := RX8) (C := RX8) (n := "WORDS") (d := "[LRodGrids$Word;") hx hb (hE.2.2.1.2.1.1.1) hS hown (va_Nw.use rfl (hE.2.1.1 _ (List.mem_of_getElem? (i := 2) rfl))) (fun _ h9 => h9) dX2_wordBetween_11 ?_
    refine lv_iload_n hx hb dX2_wordBetween_14 rfl (lv_at hl 3 rfl) ?_
    refine z_tq (f := ad) hx hb hE.2.2.1.2.1.1.2 hS (by omega) (by decide) dX2_wordBetween_15 ?_
    refine va_getX (o := "RodGrids$Word") (n := "letters") (d := "Ljava/lang/String;") (v := fun i => .ref (ad (20 + i))) (ad := ad) (i := i.toNat) hx hb hE.2.2.1.1.2.1 hk9 hS hown hf_0 (fun _ h9 => h9) dX2_wordBetween_16 ?_
    refine lv_iload_n hx hb dX2_wordBetween_19 rfl (lv_at hl 1 rfl) ?_
    refine lv_iload_n hx hb dX2_wordBetween_20 rfl (lv_at hl 2 rfl) ?_
    refine z_callV (C := RX2) (q0 := 0) (ci := 1) (As := [.ref (ad (20 + i.toNat)), .int (zI s_), .int (zI e_)]) (rest := []) ([] : va_W) ([] : va_W) hx hb hml hown hts hl hE hS hA (zr0 ([] : va_W) hP) (zr0D ([] : va_W) hD) (c_X2_isBetween l D ct ad q TX tl pl ft n1 n2 wd i.toNat s_ e_ (by assumption) hk9 (by omega)) gX2_wordBetween_X2_isBetween rfl rfl k_X2_isBetween ⟨Nat.le_of_ble_eq_true rfl, Nat.le_of_ble_eq_true rfl⟩ rfl rfl rfl rfl (Nat.le_of_ble_eq_true rfl) ⟨Nat.le_of_ble_eq_true rfl, Nat.le_of_ble_eq_true rfl⟩ dX2_wordBetween_21 rfl (fun v w1 H locs hpost hP hD hS => ?_)
    obtain ⟨rfl, rfl⟩ := hpost
    have hP := zr0' hP
    have hD := zr0D' hD
    have hP : va_P D vwCl (txtW ct q TX tl pl ft wd n1 n2) H := hP
    have hD : va_D A (txtW ct q TX tl pl ft wd n1 n2) := hD
    refine W.eq (g2 := F0 m 24 ls [.int (zI (zB (isW TX (i.toNat : Int) s_ e_)))]) rfl ?_
    refine zb_if_eq (tgt := 33) hx hb dX2_wordBetween_24 (by decide) (fun hc_24 => ?_) (fun hc_24 => ?_)
    · have hc_24 := hc_24
      refine z_iinc (k := 3) (lv' := [(3, .int (zI (i + 1))), (0, .ref (q 0)), (1, .int (zI s_)), (2, .int (zI e_))]) hx hb dX2_wordBetween_33 hl rfl (by decide) rfl (fun ls hl => ?_)
      refine lv_goto (tgt := 2) hx hb dX2_wordBetween_36 (by decide) ?_
      exact ih_2 (i + 1) ⟨(show 0 ≤ (i + 1) ∧ (i + 1) ≤ 12 from (by omega)), (show cwN TX s_ e_ (12 - (i + 1) : Int).toNat = cw TX s_ e_ from (by rw [← hw, cmS (i := i) (by omega), if_neg (by rw [← hik]; exact hc_24)]))⟩ (show (12 - (i + 1)).toNat < (12 - i).toNat from (by omega)) _ _ _ hP hD hS (lv_sub hl [1, 2, 3, 0] rfl)
    · have hc_24 := hc_24
      exfalso; have hE9 : cw TX s_ e_ = i := (by rw [← hw, cmS (i := i) (by omega), if_pos (by rw [← hik]; exact hc_24)]); omega
