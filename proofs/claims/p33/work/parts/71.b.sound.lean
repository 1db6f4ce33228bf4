theorem k_X8_meanRate : yX8_meanRate.cls ≠ "java/lang/invoke/MethodHandle" ∧ yX8_meanRate.cls ≠ "java/lang/invoke/VarHandle" ∧ (parseMethodDescriptor yX8_meanRate.desc).map (fun d => d.parameters.length) = some 0 := by decide +kernel
set_option maxHeartbeats 4000000 in
set_option maxRecDepth 100000 in
theorem g_L_sound_751 (l : Launch) (D : va_G) (ct ad : Nat → Nat) (u : Nat) (a r q : Nat → Nat) (b : Nat → Nat → Nat) (nx sz : Int) (S : Nat → Int → Int) (M TX : Int → Int) (tl pl ft n1 n2 : Int) (wd : Value)  (hL : LInv M) (ht : tInv TX tl)  : ZG l yL_sound cL_sound wsL_sound ({ frames := 7, cells := 0, slots := 0, locals := 164 } : Room) 20 (some .boolean) D ct ad [.ref u] (zD (some (.int (zI 1))) (x8W u a r q ++ (svW ct r b nx sz S ++ (sobjW a ++ (gridW ct a M ++ (benchW ct a M ++ (logW ct a M ++ (txtW ct q TX tl pl ft wd n1 n2)))))))) 0 0 751 (x8W u a r q ++ (svW ct r b nx sz S ++ (sobjW a ++ (gridW ct a M ++ (benchW ct a M ++ (logW ct a M ++ (txtW ct q TX tl pl ft wd n1 n2))))))) [(0, .ref u), (5, .int (zI (M 6)))] [] := by
  intro p e s m below meth c A H locs ls hx hb hr hts hown hlocks hml hE hA hP hD hS hl
  have hK := hE.1
  have hl : lv_has ls 20 [(0, .ref u), (5, .int (zI (M 6)))] := hl
  have hs := hL.1
  have hI := hs.1
  have hB := hs.2.1
  have ha := hs.2.2
  have t1 := ht.1
  have j1 := hB.2.1
  refine lv_aload_n hx hb dL_sound_751 rfl (lv_at hl 0 rfl) ?_
  refine z_iconst hx hb dL_sound_752 ?_
  refine z_callSW (As := [.ref u, .int (zI 4)]) (rest := []) ([] : va_W) ([] : va_W) hx hb hml hown hts hl hE hS hA (zr0 ([] : va_W) hP) (zr0D ([] : va_W) hD) (c_L_whole_ok l D ct ad u a r q b nx sz S M TX tl pl ft n1 n2 wd 4 (by assumption) (by omega) (by omega)) gL_sound_L_whole rfl k_L_whole ⟨Nat.le_of_ble_eq_true rfl, Nat.le_of_ble_eq_true rfl⟩ rfl (Nat.le_of_ble_eq_true rfl) ⟨Nat.le_of_ble_eq_true rfl, Nat.le_of_ble_eq_true rfl⟩ dL_sound_753 rfl (fun v w1 H locs hpost hP hD hS => ?_)
  obtain ⟨rfl, rfl⟩ := hpost
  have hP := zr0' hP
  have hD := zr0D' hD
  have hP : va_P D vwCl (x8W u a r q ++ (svW ct r b nx sz S ++ (sobjW a ++ (gridW ct a M ++ (benchW ct a M ++ (logW ct a M ++ (txtW ct q TX tl pl ft wd n1 n2))))))) H := hP
  have hD : va_D A (x8W u a r q ++ (svW ct r b nx sz S ++ (sobjW a ++ (gridW ct a M ++ (benchW ct a M ++ (logW ct a M ++ (txtW ct q TX tl pl ft wd n1 n2))))))) := hD
  refine W.eq (g2 := F0 m 756 ls [.int (zI (sp_wh M tl 4))]) rfl ?_
  refine z_canI (show sp_wh M tl 4 = M 7 from rfl) ?_
  refine z_sipush hx hb dL_sound_756 (by decide) ?_
  refine z_icmp_lt (tgt := 812) hx hb dL_sound_759 (by decide) (by omega) (by omega) (fun hc_759 => ?_) (fun hc_759 => ?_)
  · have hc_759 := hc_759
    omega
  have hc_759 := hc_759
  refine lv_aload_n hx hb dL_sound_762 rfl (lv_at hl 0 rfl) ?_
  refine z_iconst hx hb dL_sound_763 ?_
  refine z_callSW (As := [.ref u, .int (zI 4)]) (rest := []) ([] : va_W) ([] : va_W) hx hb hml hown hts hl hE hS hA (zr0 ([] : va_W) hP) (zr0D ([] : va_W) hD) (c_L_whole_ok l D ct ad u a r q b nx sz S M TX tl pl ft n1 n2 wd 4 (by assumption) (by omega) (by omega)) gL_sound_L_whole rfl k_L_whole ⟨Nat.le_of_ble_eq_true rfl, Nat.le_of_ble_eq_true rfl⟩ rfl (Nat.le_of_ble_eq_true rfl) ⟨Nat.le_of_ble_eq_true rfl, Nat.le_of_ble_eq_true rfl⟩ dL_sound_764 rfl (fun v w1 H locs hpost hP hD hS => ?_)
  obtain ⟨rfl, rfl⟩ := hpost
  have hP := zr0' hP
  have hD := zr0D' hD
  have hP : va_P D vwCl (x8W u a r q ++ (svW ct r b nx sz S ++ (sobjW a ++ (gridW ct a M ++ (benchW ct a M ++ (logW ct a M ++ (txtW ct q TX tl pl ft wd n1 n2))))))) H := hP
  have hD : va_D A (x8W u a r q ++ (svW ct r b nx sz S ++ (sobjW a ++ (gridW ct a M ++ (benchW ct a M ++ (logW ct a M ++ (txtW ct q TX tl pl ft wd n1 n2))))))) := hD
  refine W.eq (g2 := F0 m 767 ls [.int (zI (sp_wh M tl 4))]) rfl ?_
  refine z_canI (show sp_wh M tl 4 = M 7 from rfl) ?_
  refine z_sipush hx hb dL_sound_767 (by decide) ?_
  refine z_icmp_gt (tgt := 812) hx hb dL_sound_770 (by decide) (by omega) (by omega) (fun hc_770 => ?_) (fun hc_770 => ?_)
  · have hc_770 := hc_770
    omega
  have hc_770 := hc_770
  refine lv_aload_n hx hb dL_sound_773 rfl (lv_at hl 0 rfl) ?_
  refine z_iconst hx hb dL_sound_774 ?_
  refine z_callSW (As := [.ref u, .int (zI 5)]) (rest := []) ([] : va_W) ([] : va_W) hx hb hml hown hts hl hE hS hA (zr0 ([] : va_W) hP) (zr0D ([] : va_W) hD) (c_L_whole_ok l D ct ad u a r q b nx sz S M TX tl pl ft n1 n2 wd 5 (by assumption) (by omega) (by omega)) gL_sound_L_whole rfl k_L_whole ⟨Nat.le_of_ble_eq_true rfl, Nat.le_of_ble_eq_true rfl⟩ rfl (Nat.le_of_ble_eq_true rfl) ⟨Nat.le_of_ble_eq_true rfl, Nat.le_of_ble_eq_true rfl⟩ dL_sound_775 rfl (fun v w1 H locs hpost hP hD hS => ?_)
  obtain ⟨rfl, rfl⟩ := hpost
  have hP := zr0' hP
  have hD := zr0D' hD
  have hP : va_P D vwCl (x8W u a r q ++ (svW ct r b nx sz S ++ (sobjW a ++ (gridW ct a M ++ (benchW ct a M ++ (logW ct a M ++ (txtW ct q TX tl pl ft wd n1 n2))))))) H := hP
  have hD : va_D A (x8W u a r q ++ (svW ct r b nx sz S ++ (sobjW a ++ (gridW ct a M ++ (benchW ct a M ++ (logW ct a M ++ (txtW ct q TX tl pl ft wd n1 n2))))))) := hD
  refine W.eq (g2 := F0 m 778 ls [.int (zI (sp_wh M tl 5))]) rfl ?_
  refine z_canI (show sp_wh M tl 5 = M 8 from rfl) ?_
  refine z_if_lt (tgt := 812) hx hb dL_sound_778 (by decide) (by omega) (fun hc_778 => ?_) (fun hc_778 => ?_)
  · have hc_778 := hc_778
    omega
  have hc_778 := hc_778
  refine lv_aload_n hx hb dL_sound_781 rfl (lv_at hl 0 rfl) ?_
  refine z_iconst hx hb dL_sound_782 ?_
  refine z_callSW (As := [.ref u, .int (zI 5)]) (rest := []) ([] : va_W) ([] : va_W) hx hb hml hown hts hl hE hS hA (zr0 ([] : va_W) hP) (zr0D ([] : va_W) hD) (c_L_whole_ok l D ct ad u a r q b nx sz S M TX tl pl ft n1 n2 wd 5 (by assumption) (by omega) (by omega)) gL_sound_L_whole rfl k_L_whole ⟨Nat.le_of_ble_eq_true rfl, Nat.le_of_ble_eq_true rfl⟩ rfl (Nat.le_of_ble_eq_true rfl) ⟨Nat.le_of_ble_eq_true rfl, Nat.le_of_ble_eq_true rfl⟩ dL_sound_783 rfl (fun v w1 H locs hpost hP hD hS => ?_)
  obtain ⟨rfl, rfl⟩ := hpost
  have hP := zr0' hP
  have hD := zr0D' hD
  have hP : va_P D vwCl (x8W u a r q ++ (svW ct r b nx sz S ++ (sobjW a ++ (gridW ct a M ++ (benchW ct a M ++ (logW ct a M ++ (txtW ct q TX tl pl ft wd n1 n2))))))) H := hP
  have hD : va_D A (x8W u a r q ++ (svW ct r b nx sz S ++ (sobjW a ++ (gridW ct a M ++ (benchW ct a M ++ (logW ct a M ++ (txtW ct q TX tl pl ft wd n1 n2))))))) := hD
  refine W.eq (g2 := F0 m 786 ls [.int (zI (sp_wh M tl 5))]) rfl ?_
  refine z_canI (show sp_wh M tl 5 = M 8 from rfl) ?_
  refine z_sipush hx hb dL_sound_786 (by decide) ?_
  refine z_icmp_gt (tgt := 812) hx hb dL_sound_789 (by decide) (by omega) (by omega) (fun hc_789 => ?_) (fun hc_789 => ?_)
  · have hc_789 := hc_789
    omega
  have hc_789 := hc_789
  refine lv_iload hx hb dL_sound_792 (lv_at hl 1 rfl) ?_
  refine z_sipush hx hb dL_sound_794 (by decide) ?_
  refine z_icmp_lt (tgt := 812) hx hb dL_sound_797 (by decide) (by omega) (by omega) (fun hc_797 => ?_) (fun hc_797 => ?_)
  · have hc_797 := hc_797
    omega
  have hc_797 := hc_797
  refine lv_iload hx hb dL_sound_800 (lv_at hl 1 rfl) ?_
  refine z_sipush hx hb dL_sound_802 (by decide) ?_
  refine z_icmp_gt (tgt := 812) hx hb dL_sound_805 (by decide) (by omega) (by omega) (fun hc_805 => ?_) (fun hc_805 => ?_)
  · have hc_805 := hc_805
    omega
  have hc_805 := hc_805
  refine z_iconst hx hb dL_sound_808 ?_
  refine lv_goto (tgt := 813) hx hb dL_sound_809 (by decide) ?_
  exact z_zret hx hb hr (by first | rfl | exact zB_nar) hlocks hP hD hS ⟨Nat.le_of_ble_eq_true rfl, Nat.le_of_ble_eq_true rfl⟩ dL_sound_813 (⟨congrArg (fun z => some (Value.int (zI z))) (rfl), rfl⟩)
set_option maxHeartbeats 4000000 in
set_option maxRecDepth 100000 in
theorem g_L_sound_725 (l : Launch) (D : va_G) (ct ad : Nat → Nat) (u : Nat) (a r q : Nat → Nat) (b : Nat → Nat → Nat) (nx sz : Int) (S : Nat → Int → Int) (M TX : Int → Int) (tl pl ft n1 n2 : Int) (wd : Value) (bal_ : Int) (hL : LInv M) (ht : tInv TX tl) (eB : bal_ = sp_bal M) : ZG l yL_sound cL_sound wsL_sound ({ frames := 7, cells := 0, slots := 0, locals := 164 } : Room) 20 (some .boolean) D ct ad [.ref u] (zD (some (.int (zI 1))) (x8W u a r q ++ (svW ct r b nx sz S ++ (sobjW a ++ (gridW ct a M ++ (benchW ct a M ++ (logW ct a M ++ (txtW ct q TX tl pl ft wd n1 n2)))))))) 0 0 725 (x8W u a r q ++ (svW ct r b nx sz S ++ (sobjW a ++ (gridW ct a M ++ (benchW ct a M ++ (logW ct a M ++ (txtW ct q TX tl pl ft wd n1 n2))))))) [(0, .ref u), (3, .long (zJ bal_)), (5, .int (zI (M 6)))] [] := by
  intro p e s m below meth c A H locs ls hx hb hr hts hown hlocks hml hE hA hP hD hS hl
  have hK := hE.1
  have hl : lv_has ls 20 [(0, .ref u), (3, .long (zJ bal_)), (5, .int (zI (M 6)))] := hl
  have hs := hL.1
  have hI := hs.1
  have hB := hs.2.1
  have ha := hs.2.2
  have t1 := ht.1
  have i4 := hI.2.1
  have qb := sp_balB hI (M 4).toNat (by omega)
  have qb2 : sp_bal M = sp_balN M (M 4).toNat := rfl
  have qS := sp_bitsS hI
  have qSB := sp_bitsB (M := M)
  refine lv_lload_n hx hb dL_sound_725 rfl (lv_at hl 1 rfl) ?_
  refine z_lconst (z := 0) hx hb dL_sound_726 rfl ?_
  refine z_lcmp_lt (tgt := 735) hx hb dL_sound_727 dL_sound_728 (by decide) (by omega) (by omega) (fun hc_727 => ?_) (fun hc_727 => ?_)
  · have hc_727 := hc_727
    refine z_iconst hx hb dL_sound_735 ?_
    refine lv_aload_n hx hb dL_sound_736 rfl (lv_at hl 0 rfl) ?_
    refine z_callV (C := RX8) (q0 := 0) (ci := 6) (As := []) (rest := [.int (zI 0)]) ([] : va_W) ([] : va_W) hx hb hml hown hts hl hE hS hA (zr0 ([] : va_W) hP) (zr0D ([] : va_W) hD) (c_X8_balanceBits l D ct ad u a r q b nx sz S M TX tl pl ft n1 n2 wd (by assumption)) gL_sound_X8_balanceBits rfl rfl k_X8_balanceBits ⟨Nat.le_of_ble_eq_true rfl, Nat.le_of_ble_eq_true rfl⟩ rfl rfl rfl rfl (Nat.le_of_ble_eq_true rfl) ⟨Nat.le_of_ble_eq_true rfl, Nat.le_of_ble_eq_true rfl⟩ dL_sound_737 rfl (fun v w1 H locs hpost hP hD hS => ?_)
    obtain ⟨rfl, rfl⟩ := hpost
    have hP := zr0' hP
    have hD := zr0D' hD
    have hP : va_P D vwCl (x8W u a r q ++ (svW ct r b nx sz S ++ (sobjW a ++ (gridW ct a M ++ (benchW ct a M ++ (logW ct a M ++ (txtW ct q TX tl pl ft wd n1 n2))))))) H := hP
    have hD : va_D A (x8W u a r q ++ (svW ct r b nx sz S ++ (sobjW a ++ (gridW ct a M ++ (benchW ct a M ++ (logW ct a M ++ (txtW ct q TX tl pl ft wd n1 n2))))))) := hD
    refine W.eq (g2 := F0 m 740 ls [.int (zI (sp_bits M)), .int (zI 0)]) rfl ?_
    refine z_if_lt (tgt := 747) hx hb dL_sound_740 (by decide) (by omega) (fun hc_740 => ?_) (fun hc_740 => ?_)
    · have hc_740 := hc_740
      refine z_iconst hx hb dL_sound_747 ?_
      refine z_icmp_ne (tgt := 812) hx hb dL_sound_748 (by decide) (by omega) (by omega) (fun hc_748 => ?_) (fun hc_748 => ?_)
      · have hc_748 := hc_748
        omega
      have hc_748 := hc_748
      exact g_L_sound_751 l D ct ad u a r q b nx sz S M TX tl pl ft n1 n2 wd (by assumption) (by assumption) p e s m below meth c A _ _ _ hx hb hr hts hown hlocks hml hE hA hP hD hS (lv_sub hl [0, 2] rfl)
    · have hc_740 := hc_740
      omega
  · have hc_727 := hc_727
    refine z_iconst hx hb dL_sound_731 ?_
    refine lv_goto (tgt := 736) hx hb dL_sound_732 (by decide) ?_
    refine lv_aload_n hx hb dL_sound_736 rfl (lv_at hl 0 rfl) ?_
    refine z_callV (C := RX8) (q0 := 0) (ci := 6) (As := []) (rest := [.int (zI 1)]) ([] : va_W) ([] : va_W) hx hb hml hown hts hl hE hS hA (zr0 ([] : va_W) hP) (zr0D ([] : va_W) hD) (c_X8_balanceBits l D ct ad u a r q b nx sz S M TX tl pl ft n1 n2 wd (by assumption)) gL_sound_X8_balanceBits rfl rfl k_X8_balanceBits ⟨Nat.le_of_ble_eq_true rfl, Nat.le_of_ble_eq_true rfl⟩ rfl rfl rfl rfl (Nat.le_of_ble_eq_true rfl) ⟨Nat.le_of_ble_eq_true rfl, Nat.le_of_ble_eq_true rfl⟩ dL_sound_737 rfl (fun v w1 H locs hpost hP hD hS => ?_)
    obtain ⟨rfl, rfl⟩ := hpost
    have hP := zr0' hP
    have hD := zr0D' hD
    have hP : va_P D vwCl (x8W u a r q ++ (svW ct r b nx sz S ++ (sobjW a ++ (gridW ct a M ++ (benchW ct a M ++ (logW ct a M ++ (txtW ct q TX tl pl ft wd n1 n2))))))) H := hP
    have hD : va_D A (x8W u a r q ++ (svW ct r b nx sz S ++ (sobjW a ++ (gridW ct a M ++ (benchW ct a M ++ (logW ct a M ++ (txtW ct q TX tl pl ft wd n1 n2))))))) := hD
    refine W.eq (g2 := F0 m 740 ls [.int (zI (sp_bits M)), .int (zI 1)]) rfl ?_
    refine z_if_lt (tgt := 747) hx hb dL_sound_740 (by decide) (by omega) (fun hc_740 => ?_) (fun hc_740 => ?_)
    · have hc_740 := hc_740
      omega
    have hc_740 := hc_740
    refine z_iconst hx hb dL_sound_743 ?_
    refine lv_goto (tgt := 748) hx hb dL_sound_744 (by decide) ?_
    refine z_icmp_ne (tgt := 812) hx hb dL_sound_748 (by decide) (by omega) (by omega) (fun hc_748 => ?_) (fun hc_748 => ?_)
    · have hc_748 := hc_748
      omega
    have hc_748 := hc_748
    exact g_L_sound_751 l D ct ad u a r q b nx sz S M TX tl pl ft n1 n2 wd (by assumption) (by assumption) p e s m below meth c A _ _ _ hx hb hr hts hown hlocks hml hE hA hP hD hS (lv_sub hl [0, 2] rfl)
set_option maxHeartbeats 4000000 in
set_option maxRecDepth 100000 in
theorem g_L_sound_702 (l : Launch) (D : va_G) (ct ad : Nat → Nat) (u : Nat) (a r q : Nat → Nat) (b : Nat → Nat → Nat) (nx sz : Int) (S : Nat → Int → Int) (M TX : Int → Int) (tl pl ft n1 n2 : Int) (wd : Value) (bal_ : Int) (hL : LInv M) (ht : tInv TX tl) (eB : bal_ = sp_bal M) : ZG l yL_sound cL_sound wsL_sound ({ frames := 7, cells := 0, slots := 0, locals := 164 } : Room) 20 (some .boolean) D ct ad [.ref u] (zD (some (.int (zI 1))) (x8W u a r q ++ (svW ct r b nx sz S ++ (sobjW a ++ (gridW ct a M ++ (benchW ct a M ++ (logW ct a M ++ (txtW ct q TX tl pl ft wd n1 n2)))))))) 0 0 702 (x8W u a r q ++ (svW ct r b nx sz S ++ (sobjW a ++ (gridW ct a M ++ (benchW ct a M ++ (logW ct a M ++ (txtW ct q TX tl pl ft wd n1 n2))))))) [(0, .ref u), (3, .long (zJ bal_)), (5, .int (zI (M 6))), (18, .double (sp_mean M))] [] := by
  intro p e s m below meth c A H locs ls hx hb hr hts hown hlocks hml hE hA hP hD hS hl
  have hK := hE.1
  have hl : lv_has ls 20 [(0, .ref u), (3, .long (zJ bal_)), (5, .int (zI (M 6))), (18, .double (sp_mean M))] := hl
  have hs := hL.1
  have hI := hs.1
  have hB := hs.2.1
  have ha := hs.2.2
  have t1 := ht.1
  have hmn := sp_meanN hs
  have i4 := hI.2.1
  have qb := sp_balB hI (M 4).toNat (by omega)
  have qb2 : sp_bal M = sp_balN M (M 4).toNat := rfl
  have qS := sp_bitsS hI
  have qSB := sp_bitsB (M := M)
  refine lv_aload_n hx hb dL_sound_702 rfl (lv_at hl 0 rfl) ?_
  refine z_callV (C := RX8) (q0 := 0) (ci := 6) (As := []) (rest := []) ([] : va_W) ([] : va_W) hx hb hml hown hts hl hE hS hA (zr0 ([] : va_W) hP) (zr0D ([] : va_W) hD) (c_X8_meanRate l D ct ad u a r q b nx sz S M TX tl pl ft n1 n2 wd (by assumption)) gL_sound_X8_meanRate rfl rfl k_X8_meanRate ⟨Nat.le_of_ble_eq_true rfl, Nat.le_of_ble_eq_true rfl⟩ rfl rfl rfl rfl (Nat.le_of_ble_eq_true rfl) ⟨Nat.le_of_ble_eq_true rfl, Nat.le_of_ble_eq_true rfl⟩ dL_sound_703 rfl (fun v w1 H locs hpost hP hD hS => ?_)
  obtain ⟨rfl, rfl⟩ := hpost
  have hP := zr0' hP
  have hD := zr0D' hD
  have hP : va_P D vwCl (x8W u a r q ++ (svW ct r b nx sz S ++ (sobjW a ++ (gridW ct a M ++ (benchW ct a M ++ (logW ct a M ++ (txtW ct q TX tl pl ft wd n1 n2))))))) H := hP
  have hD : va_D A (x8W u a r q ++ (svW ct r b nx sz S ++ (sobjW a ++ (gridW ct a M ++ (benchW ct a M ++ (logW ct a M ++ (txtW ct q TX tl pl ft wd n1 n2))))))) := hD
  refine W.eq (g2 := F0 m 706 ls [.double (sp_mean M)]) rfl ?_
  refine lv_dload hx hb dL_sound_706 (lv_at hl 3 rfl) ?_
  refine z_dcmp_self hx hb dL_sound_708 hmn ?_
  refine z_if_ne (tgt := 812) hx hb dL_sound_709 (by decide) (by omega) (fun hc_709 => ?_) (fun hc_709 => ?_)
  · have hc_709 := hc_709
    omega
  have hc_709 := hc_709
  refine lv_lload_n hx hb dL_sound_712 rfl (lv_at hl 1 rfl) ?_
  refine z_lconst (z := 0) hx hb dL_sound_713 rfl ?_
  refine z_lcmp_ne (tgt := 725) hx hb dL_sound_714 dL_sound_715 (by decide) (by omega) (by omega) (fun hc_714 => ?_) (fun hc_714 => ?_)
  · have hc_714 := hc_714
    exact g_L_sound_725 l D ct ad u a r q b nx sz S M TX tl pl ft n1 n2 wd bal_ (by assumption) (by assumption) (show bal_ = sp_bal M from (by first | assumption | omega)) p e s m below meth c A _ _ _ hx hb hr hts hown hlocks hml hE hA hP hD hS (lv_sub hl [0, 1, 2] rfl)
  · have hc_714 := hc_714
    refine lv_aload_n hx hb dL_sound_718 rfl (lv_at hl 0 rfl) ?_
    refine z_callV (C := RX8) (q0 := 0) (ci := 6) (As := []) (rest := []) ([] : va_W) ([] : va_W) hx hb hml hown hts hl hE hS hA (zr0 ([] : va_W) hP) (zr0D ([] : va_W) hD) (c_X8_balanceBits l D ct ad u a r q b nx sz S M TX tl pl ft n1 n2 wd (by assumption)) gL_sound_X8_balanceBits rfl rfl k_X8_balanceBits ⟨Nat.le_of_ble_eq_true rfl, Nat.le_of_ble_eq_true rfl⟩ rfl rfl rfl rfl (Nat.le_of_ble_eq_true rfl) ⟨Nat.le_of_ble_eq_true rfl, Nat.le_of_ble_eq_true rfl⟩ dL_sound_719 rfl (fun v w1 H locs hpost hP hD hS => ?_)
    obtain ⟨rfl, rfl⟩ := hpost
    have hP := zr0' hP
    have hD := zr0D' hD
    have hP : va_P D vwCl (x8W u a r q ++ (svW ct r b nx sz S ++ (sobjW a ++ (gridW ct a M ++ (benchW ct a M ++ (logW ct a M ++ (txtW ct q TX tl pl ft wd n1 n2))))))) H := hP
    have hD : va_D A (x8W u a r q ++ (svW ct r b nx sz S ++ (sobjW a ++ (gridW ct a M ++ (benchW ct a M ++ (logW ct a M ++ (txtW ct q TX tl pl ft wd n1 n2))))))) := hD
    refine W.eq (g2 := F0 m 722 ls [.int (zI (sp_bits M))]) rfl ?_
    refine z_if_ne (tgt := 812) hx hb dL_sound_722 (by decide) (by omega) (fun hc_722 => ?_) (fun hc_722 => ?_)
    · have hc_722 := hc_722
      omega
    have hc_722 := hc_722
    exact g_L_sound_725 l D ct ad u a r q b nx sz S M TX tl pl ft n1 n2 wd bal_ (by assumption) (by assumption) (show bal_ = sp_bal M from (by first | assumption | omega)) p e s m below meth c A _ _ _ hx hb hr hts hown hlocks hml hE hA hP hD hS (lv_sub hl [0, 1, 2] rfl)
set_option maxHeartbeats 4000000 in
set_option maxRecDepth 100000 in
theorem g_L_sound_674 (l : Launch) (D : va_G) (ct ad : Nat → Nat) (u : Nat) (a r q : Nat → Nat) (b : Nat → Nat → Nat) (nx sz : Int) (S : Nat → Int → Int) (M TX : Int → Int) (tl pl ft n1 n2 : Int) (wd : Value) (bal_ : Int) (went_ : Int) (sum_ : Int) (w_ : Int) (hL : LInv M) (ht : tInv TX tl) (eB : bal_ = sp_bal M) (hw3 : went_ = lSum M 3 (M 15).toNat) (hw2 : sum_ = lSum M 2 (M 15).toNat) (hw : (w_ = 0 ∨ w_ = 1) ∧ (w_ = 1 → M 9 % 24 = 0 ∧ M 9 / 24 ≤ 10)) : ZG l yL_sound cL_sound wsL_sound ({ frames := 7, cells := 0, slots := 0, locals := 164 } : Room) 20 (some .boolean) D ct ad [.ref u] (zD (some (.int (zI 1))) (x8W u a r q ++ (svW ct r b nx sz S ++ (sobjW a ++ (gridW ct a M ++ (benchW ct a M ++ (logW ct a M ++ (txtW ct q TX tl pl ft wd n1 n2)))))))) 0 0 674 (x8W u a r q ++ (svW ct r b nx sz S ++ (sobjW a ++ (gridW ct a M ++ (benchW ct a M ++ (logW ct a M ++ (txtW ct q TX tl pl ft wd n1 n2))))))) [(0, .ref u), (3, .long (zJ bal_)), (5, .int (zI (M 6))), (13, .long (zJ went_)), (15, .long (zJ sum_)), (17, .int (zI w_)), (18, .double (sp_mean M))] [] := by
  intro p e s m below meth c A H locs ls hx hb hr hts hown hlocks hml hE hA hP hD hS hl
  have hK := hE.1
  have hl : lv_has ls 20 [(0, .ref u), (3, .long (zJ bal_)), (5, .int (zI (M 6))), (13, .long (zJ went_)), (15, .long (zJ sum_)), (17, .int (zI w_)), (18, .double (sp_mean M))] := hl
  have hs := hL.1
  have hI := hs.1
  have hB := hs.2.1
  have ha := hs.2.2
  have t1 := ht.1
  have j2 := hB.2.2.1
  have l3 := hL.2.2.2
  refine lv_iload hx hb dL_sound_674 (lv_at hl 5 rfl) ?_
  refine z_if_eq (tgt := 702) hx hb dL_sound_676 (by decide) (by omega) (fun hc_676 => ?_) (fun hc_676 => ?_)
  · have hc_676 := hc_676
    exact g_L_sound_702 l D ct ad u a r q b nx sz S M TX tl pl ft n1 n2 wd bal_ (by assumption) (by assumption) (show bal_ = sp_bal M from (by first | assumption | omega)) p e s m below meth c A _ _ _ hx hb hr hts hown hlocks hml hE hA hP hD hS (lv_sub hl [0, 1, 2, 6] rfl)
  · have hc_676 := hc_676
    refine lv_lload hx hb dL_sound_679 (lv_at hl 4 rfl) ?_
    refine lv_aload_n hx hb dL_sound_681 rfl (lv_at hl 0 rfl) ?_
    refine z_callV (C := RX8) (q0 := 0) (ci := 6) (As := []) (rest := [.long (zJ sum_)]) ([] : va_W) ([] : va_W) hx hb hml hown hts hl hE hS hA (zr0 ([] : va_W) hP) (zr0D ([] : va_W) hD) (c_X8_rates l D ct ad u a r q b nx sz S M TX tl pl ft n1 n2 wd (by assumption)) gL_sound_X8_rates rfl rfl k_X8_rates ⟨Nat.le_of_ble_eq_true rfl, Nat.le_of_ble_eq_true rfl⟩ rfl rfl rfl rfl (Nat.le_of_ble_eq_true rfl) ⟨Nat.le_of_ble_eq_true rfl, Nat.le_of_ble_eq_true rfl⟩ dL_sound_682 rfl (fun v w1 H locs hpost hP hD hS => ?_)
    obtain ⟨rfl, rfl⟩ := hpost
    have hP := zr0' hP
    have hD := zr0D' hD
    have hP : va_P D vwCl (x8W u a r q ++ (svW ct r b nx sz S ++ (sobjW a ++ (gridW ct a M ++ (benchW ct a M ++ (logW ct a M ++ (txtW ct q TX tl pl ft wd n1 n2))))))) H := hP
    have hD : va_D A (x8W u a r q ++ (svW ct r b nx sz S ++ (sobjW a ++ (gridW ct a M ++ (benchW ct a M ++ (logW ct a M ++ (txtW ct q TX tl pl ft wd n1 n2))))))) := hD
    refine W.eq (g2 := F0 m 685 ls [.long (zJ (M 12)), .long (zJ sum_)]) rfl ?_
    refine z_lcmp_ne (tgt := 812) hx hb dL_sound_685 dL_sound_686 (by decide) (by omega) (by omega) (fun hc_685 => ?_) (fun hc_685 => ?_)
    · have hc_685 := hc_685
      omega
    have hc_685 := hc_685
    refine lv_lload hx hb dL_sound_689 (lv_at hl 3 rfl) ?_
    refine lv_aload_n hx hb dL_sound_691 rfl (lv_at hl 0 rfl) ?_
    refine z_bipush hx hb dL_sound_692 (by decide) ?_
    refine z_callSW (As := [.ref u, .int (zI 11)]) (rest := [.long (zJ went_)]) ([] : va_W) ([] : va_W) hx hb hml hown hts hl hE hS hA (zr0 ([] : va_W) hP) (zr0D ([] : va_W) hD) (c_L_whole_ok l D ct ad u a r q b nx sz S M TX tl pl ft n1 n2 wd 11 (by assumption) (by omega) (by omega)) gL_sound_L_whole rfl k_L_whole ⟨Nat.le_of_ble_eq_true rfl, Nat.le_of_ble_eq_true rfl⟩ rfl (Nat.le_of_ble_eq_true rfl) ⟨Nat.le_of_ble_eq_true rfl, Nat.le_of_ble_eq_true rfl⟩ dL_sound_694 rfl (fun v w1 H locs hpost hP hD hS => ?_)
    obtain ⟨rfl, rfl⟩ := hpost
    have hP := zr0' hP
    have hD := zr0D' hD
    have hP : va_P D vwCl (x8W u a r q ++ (svW ct r b nx sz S ++ (sobjW a ++ (gridW ct a M ++ (benchW ct a M ++ (logW ct a M ++ (txtW ct q TX tl pl ft wd n1 n2))))))) H := hP
    have hD : va_D A (x8W u a r q ++ (svW ct r b nx sz S ++ (sobjW a ++ (gridW ct a M ++ (benchW ct a M ++ (logW ct a M ++ (txtW ct q TX tl pl ft wd n1 n2))))))) := hD
    refine W.eq (g2 := F0 m 697 ls [.int (zI (sp_wh M tl 11)), .long (zJ went_)]) rfl ?_
    refine z_canI (show sp_wh M tl 11 = M 10 from rfl) ?_
    refine z_i2l hx hb dL_sound_697 (by omega) ?_
    refine z_lcmp_ne (tgt := 812) hx hb dL_sound_698 dL_sound_699 (by decide) (by omega) (by omega) (fun hc_698 => ?_) (fun hc_698 => ?_)
    · have hc_698 := hc_698
      omega
    have hc_698 := hc_698
    exact g_L_sound_702 l D ct ad u a r q b nx sz S M TX tl pl ft n1 n2 wd bal_ (by assumption) (by assumption) (show bal_ = sp_bal M from (by first | assumption | omega)) p e s m below meth c A _ _ _ hx hb hr hts hown hlocks hml hE hA hP hD hS (lv_sub hl [0, 1, 2, 6] rfl)
set_option maxHeartbeats 4000000 in
set_option maxRecDepth 100000 in
theorem g_L_sound_651 (l : Launch) (D : va_G) (ct ad : Nat → Nat) (u : Nat) (a r q : Nat → Nat) (b : Nat → Nat → Nat) (nx sz : Int) (S : Nat → Int → Int) (M TX : Int → Int) (tl pl ft n1 n2 : Int) (wd : Value) (bal_ : Int) (went_ : Int) (sum_ : Int) (w_ : Int) (hL : LInv M) (ht : tInv TX tl) (eB : bal_ = sp_bal M) (hw3 : went_ = lSum M 3 (M 15).toNat) (hw2 : sum_ = lSum M 2 (M 15).toNat) (hw : (w_ = 0 ∨ w_ = 1) ∧ (w_ = 1 → M 9 % 24 = 0 ∧ M 9 / 24 ≤ 10)) : ZG l yL_sound cL_sound wsL_sound ({ frames := 7, cells := 0, slots := 0, locals := 164 } : Room) 20 (some .boolean) D ct ad [.ref u] (zD (some (.int (zI 1))) (x8W u a r q ++ (svW ct r b nx sz S ++ (sobjW a ++ (gridW ct a M ++ (benchW ct a M ++ (logW ct a M ++ (txtW ct q TX tl pl ft wd n1 n2)))))))) 0 0 651 (x8W u a r q ++ (svW ct r b nx sz S ++ (sobjW a ++ (gridW ct a M ++ (benchW ct a M ++ (logW ct a M ++ (txtW ct q TX tl pl ft wd n1 n2))))))) [(0, .ref u), (3, .long (zJ bal_)), (5, .int (zI (M 6))), (7, .int (zI (M 9 / 24))), (13, .long (zJ went_)), (15, .long (zJ sum_)), (17, .int (zI w_)), (18, .double (sp_mean M))] [] := by
  intro p e s m below meth c A H locs ls hx hb hr hts hown hlocks hml hE hA hP hD hS hl
  have hK := hE.1
  have hl : lv_has ls 20 [(0, .ref u), (3, .long (zJ bal_)), (5, .int (zI (M 6))), (7, .int (zI (M 9 / 24))), (13, .long (zJ went_)), (15, .long (zJ sum_)), (17, .int (zI w_)), (18, .double (sp_mean M))] := hl
  have hs := hL.1
  have hI := hs.1
  have hB := hs.2.1
  have ha := hs.2.2
  have t1 := ht.1
  have j2 := hB.2.2.1
  have j4 := hB.2.2.2.2
  have l2 := hL.2.2.1
  refine lv_aload_n hx hb dL_sound_651 rfl (lv_at hl 0 rfl) ?_
  refine z_bipush hx hb dL_sound_652 (by decide) ?_
  refine z_callSW (As := [.ref u, .int (zI 16)]) (rest := []) ([] : va_W) ([] : va_W) hx hb hml hown hts hl hE hS hA (zr0 ([] : va_W) hP) (zr0D ([] : va_W) hD) (c_L_whole_ok l D ct ad u a r q b nx sz S M TX tl pl ft n1 n2 wd 16 (by assumption) (by omega) (by omega)) gL_sound_L_whole rfl k_L_whole ⟨Nat.le_of_ble_eq_true rfl, Nat.le_of_ble_eq_true rfl⟩ rfl (Nat.le_of_ble_eq_true rfl) ⟨Nat.le_of_ble_eq_true rfl, Nat.le_of_ble_eq_true rfl⟩ dL_sound_654 rfl (fun v w1 H locs hpost hP hD hS => ?_)
  obtain ⟨rfl, rfl⟩ := hpost
  have hP := zr0' hP
  have hD := zr0D' hD
  have hP : va_P D vwCl (x8W u a r q ++ (svW ct r b nx sz S ++ (sobjW a ++ (gridW ct a M ++ (benchW ct a M ++ (logW ct a M ++ (txtW ct q TX tl pl ft wd n1 n2))))))) H := hP
  have hD : va_D A (x8W u a r q ++ (svW ct r b nx sz S ++ (sobjW a ++ (gridW ct a M ++ (benchW ct a M ++ (logW ct a M ++ (txtW ct q TX tl pl ft wd n1 n2))))))) := hD
  refine W.eq (g2 := F0 m 657 ls [.int (zI (sp_wh M tl 16))]) rfl ?_
  refine z_canI (show sp_wh M tl 16 = M 15 from rfl) ?_
  refine lv_iload hx hb dL_sound_657 (lv_at hl 3 rfl) ?_
  refine z_bipush hx hb dL_sound_659 (by decide) ?_
  refine z_icmp_ge (tgt := 669) hx hb dL_sound_661 (by decide) (by omega) (by omega) (fun hc_661 => ?_) (fun hc_661 => ?_)
  · have hc_661 := hc_661
    refine z_bipush hx hb dL_sound_669 (by decide) ?_
    refine z_icmp_ne (tgt := 812) hx hb dL_sound_671 (by decide) (by omega) (by omega) (fun hc_671 => ?_) (fun hc_671 => ?_)
    · have hc_671 := hc_671
      omega
    have hc_671 := hc_671
    exact g_L_sound_674 l D ct ad u a r q b nx sz S M TX tl pl ft n1 n2 wd bal_ went_ sum_ w_ (by assumption) (by assumption) (show bal_ = sp_bal M from (by first | assumption | omega)) (show went_ = lSum M 3 (M 15).toNat from (by first | assumption | omega)) (show sum_ = lSum M 2 (M 15).toNat from (by first | assumption | omega)) (show (w_ = 0 ∨ w_ = 1) ∧ (w_ = 1 → M 9 % 24 = 0 ∧ M 9 / 24 ≤ 10) from (by first | assumption | omega)) p e s m below meth c A _ _ _ hx hb hr hts hown hlocks hml hE hA hP hD hS (lv_sub hl [0, 1, 2, 4, 5, 6, 7] rfl)
  · have hc_661 := hc_661
    refine lv_iload hx hb dL_sound_664 (lv_at hl 3 rfl) ?_
    refine lv_goto (tgt := 671) hx hb dL_sound_666 (by decide) ?_
    refine z_icmp_ne (tgt := 812) hx hb dL_sound_671 (by decide) (by omega) (by omega) (fun hc_671 => ?_) (fun hc_671 => ?_)
    · have hc_671 := hc_671
      omega
    have hc_671 := hc_671
    exact g_L_sound_674 l D ct ad u a r q b nx sz S M TX tl pl ft n1 n2 wd bal_ went_ sum_ w_ (by assumption) (by assumption) (show bal_ = sp_bal M from (by first | assumption | omega)) (show went_ = lSum M 3 (M 15).toNat from (by first | assumption | omega)) (show sum_ = lSum M 2 (M 15).toNat from (by first | assumption | omega)) (show (w_ = 0 ∨ w_ = 1) ∧ (w_ = 1 → M 9 % 24 = 0 ∧ M 9 / 24 ≤ 10) from (by first | assumption | omega)) p e s m below meth c A _ _ _ hx hb hr hts hown hlocks hml hE hA hP hD hS (lv_sub hl [0, 1, 2, 4, 5, 6, 7] rfl)
set_option maxHeartbeats 4000000 in
set_option maxRecDepth 100000 in
theorem g_L_sound_582 (l : Launch) (D : va_G) (ct ad : Nat → Nat) (u : Nat) (a r q : Nat → Nat) (b : Nat → Nat → Nat) (nx sz : Int) (S : Nat → Int → Int) (M TX : Int → Int) (tl pl ft n1 n2 : Int) (wd : Value) (bal_ : Int) (went_ : Int) (sum_ : Int) (w_ : Int) (hL : LInv M) (ht : tInv TX tl) (eB : bal_ = sp_bal M) (hw3 : went_ = lSum M 3 (M 15).toNat) (hw2 : sum_ = lSum M 2 (M 15).toNat) (hw : (w_ = 0 ∨ w_ = 1) ∧ (w_ = 1 → M 9 % 24 = 0 ∧ M 9 / 24 ≤ 10)) : ZG l yL_sound cL_sound wsL_sound ({ frames := 7, cells := 0, slots := 0, locals := 164 } : Room) 20 (some .boolean) D ct ad [.ref u] (zD (some (.int (zI 1))) (x8W u a r q ++ (svW ct r b nx sz S ++ (sobjW a ++ (gridW ct a M ++ (benchW ct a M ++ (logW ct a M ++ (txtW ct q TX tl pl ft wd n1 n2)))))))) 0 0 582 (x8W u a r q ++ (svW ct r b nx sz S ++ (sobjW a ++ (gridW ct a M ++ (benchW ct a M ++ (logW ct a M ++ (txtW ct q TX tl pl ft wd n1 n2))))))) [(0, .ref u), (3, .long (zJ bal_)), (5, .int (zI (M 6))), (6, .int (zI (sp_arc M (M 8)))), (7, .int (zI (M 9 / 24))), (13, .long (zJ went_)), (15, .long (zJ sum_)), (17, .int (zI w_)), (18, .double (sp_mean M))] [] := by
  intro p e s m below meth c A H locs ls hx hb hr hts hown hlocks hml hE hA hP hD hS hl
  have hK := hE.1
  have hl : lv_has ls 20 [(0, .ref u), (3, .long (zJ bal_)), (5, .int (zI (M 6))), (6, .int (zI (sp_arc M (M 8)))), (7, .int (zI (M 9 / 24))), (13, .long (zJ went_)), (15, .long (zJ sum_)), (17, .int (zI w_)), (18, .double (sp_mean M))] := hl
  have hs := hL.1
  have hI := hs.1
  have hB := hs.2.1
  have ha := hs.2.2
  have t1 := ht.1
  have j1 := hB.2.1
  have j2 := hB.2.2.1
  have qa := sp_arcB hB j1.2.2.2
  have qr := sp_rateB (len := sp_len M (M 6)) hB j1.2.2.2
  have eR : sp_rateM M = sp_rate M (sp_len M (M 6)) (M 8) := rfl
  refine lv_aload_n hx hb dL_sound_582 rfl (lv_at hl 0 rfl) ?_
  refine z_bipush hx hb dL_sound_583 (by decide) ?_
  refine z_callSW (As := [.ref u, .int (zI 9)]) (rest := []) ([] : va_W) ([] : va_W) hx hb hml hown hts hl hE hS hA (zr0 ([] : va_W) hP) (zr0D ([] : va_W) hD) (c_L_whole_ok l D ct ad u a r q b nx sz S M TX tl pl ft n1 n2 wd 9 (by assumption) (by omega) (by omega)) gL_sound_L_whole rfl k_L_whole ⟨Nat.le_of_ble_eq_true rfl, Nat.le_of_ble_eq_true rfl⟩ rfl (Nat.le_of_ble_eq_true rfl) ⟨Nat.le_of_ble_eq_true rfl, Nat.le_of_ble_eq_true rfl⟩ dL_sound_585 rfl (fun v w1 H locs hpost hP hD hS => ?_)
  obtain ⟨rfl, rfl⟩ := hpost
  have hP := zr0' hP
  have hD := zr0D' hD
  have hP : va_P D vwCl (x8W u a r q ++ (svW ct r b nx sz S ++ (sobjW a ++ (gridW ct a M ++ (benchW ct a M ++ (logW ct a M ++ (txtW ct q TX tl pl ft wd n1 n2))))))) H := hP
  have hD : va_D A (x8W u a r q ++ (svW ct r b nx sz S ++ (sobjW a ++ (gridW ct a M ++ (benchW ct a M ++ (logW ct a M ++ (txtW ct q TX tl pl ft wd n1 n2))))))) := hD
  refine W.eq (g2 := F0 m 588 ls [.int (zI (sp_wh M tl 9))]) rfl ?_
  refine z_canI (show sp_wh M tl 9 = sp_rateM M from rfl) ?_
  refine lv_aload_n hx hb dL_sound_588 rfl (lv_at hl 0 rfl) ?_
  refine lv_iload hx hb dL_sound_589 (lv_at hl 2 rfl) ?_
  refine z_callSW (As := [.ref u, .int (zI (M 6))]) (rest := [.int (zI (sp_rateM M))]) ([] : va_W) ([] : va_W) hx hb hml hown hts hl hE hS hA (zr0 ([] : va_W) hP) (zr0D ([] : va_W) hD) (c_L_rateAt_ok l D ct ad u a r q b nx sz S M TX tl pl ft n1 n2 wd (M 6) (by assumption) (by omega) (by omega)) gL_sound_L_rateAt rfl k_L_rateAt ⟨Nat.le_of_ble_eq_true rfl, Nat.le_of_ble_eq_true rfl⟩ rfl (Nat.le_of_ble_eq_true rfl) ⟨Nat.le_of_ble_eq_true rfl, Nat.le_of_ble_eq_true rfl⟩ dL_sound_591 rfl (fun v w1 H locs hpost hP hD hS => ?_)
  obtain ⟨rfl, rfl⟩ := hpost
  have hP := zr0' hP
  have hD := zr0D' hD
  have hP : va_P D vwCl (x8W u a r q ++ (svW ct r b nx sz S ++ (sobjW a ++ (gridW ct a M ++ (benchW ct a M ++ (logW ct a M ++ (txtW ct q TX tl pl ft wd n1 n2))))))) H := hP
  have hD : va_D A (x8W u a r q ++ (svW ct r b nx sz S ++ (sobjW a ++ (gridW ct a M ++ (benchW ct a M ++ (logW ct a M ++ (txtW ct q TX tl pl ft wd n1 n2))))))) := hD
  refine W.eq (g2 := F0 m 594 ls [.int (zI (sp_rt M (M 6))), .int (zI (sp_rateM M))]) rfl ?_
  refine z_canI (show sp_rt M (M 6) = sp_rateM M from rfl) ?_
  refine z_icmp_ne (tgt := 812) hx hb dL_sound_594 (by decide) (by omega) (by omega) (fun hc_594 => ?_) (fun hc_594 => ?_)
  · have hc_594 := hc_594
    omega
  have hc_594 := hc_594
  refine lv_aload_n hx hb dL_sound_597 rfl (lv_at hl 0 rfl) ?_
  refine z_bipush hx hb dL_sound_598 (by decide) ?_
  refine z_callSW (As := [.ref u, .int (zI 6)]) (rest := []) ([] : va_W) ([] : va_W) hx hb hml hown hts hl hE hS hA (zr0 ([] : va_W) hP) (zr0D ([] : va_W) hD) (c_L_whole_ok l D ct ad u a r q b nx sz S M TX tl pl ft n1 n2 wd 6 (by assumption) (by omega) (by omega)) gL_sound_L_whole rfl k_L_whole ⟨Nat.le_of_ble_eq_true rfl, Nat.le_of_ble_eq_true rfl⟩ rfl (Nat.le_of_ble_eq_true rfl) ⟨Nat.le_of_ble_eq_true rfl, Nat.le_of_ble_eq_true rfl⟩ dL_sound_600 rfl (fun v w1 H locs hpost hP hD hS => ?_)
  obtain ⟨rfl, rfl⟩ := hpost
  have hP := zr0' hP
  have hD := zr0D' hD
  have hP : va_P D vwCl (x8W u a r q ++ (svW ct r b nx sz S ++ (sobjW a ++ (gridW ct a M ++ (benchW ct a M ++ (logW ct a M ++ (txtW ct q TX tl pl ft wd n1 n2))))))) H := hP
  have hD : va_D A (x8W u a r q ++ (svW ct r b nx sz S ++ (sobjW a ++ (gridW ct a M ++ (benchW ct a M ++ (logW ct a M ++ (txtW ct q TX tl pl ft wd n1 n2))))))) := hD
  refine W.eq (g2 := F0 m 603 ls [.int (zI (sp_wh M tl 6))]) rfl ?_
  refine z_canI (show sp_wh M tl 6 = sp_arc M (M 8) from rfl) ?_
  refine lv_iload hx hb dL_sound_603 (lv_at hl 3 rfl) ?_
  refine z_icmp_ne (tgt := 812) hx hb dL_sound_605 (by decide) (by omega) (by omega) (fun hc_605 => ?_) (fun hc_605 => ?_)
  · have hc_605 := hc_605
    omega
  have hc_605 := hc_605
  refine lv_aload_n hx hb dL_sound_608 rfl (lv_at hl 0 rfl) ?_
  refine z_bipush hx hb dL_sound_609 (by decide) ?_
  refine z_callSW (As := [.ref u, .int (zI 7)]) (rest := []) ([] : va_W) ([] : va_W) hx hb hml hown hts hl hE hS hA (zr0 ([] : va_W) hP) (zr0D ([] : va_W) hD) (c_L_whole_ok l D ct ad u a r q b nx sz S M TX tl pl ft n1 n2 wd 7 (by assumption) (by omega) (by omega)) gL_sound_L_whole rfl k_L_whole ⟨Nat.le_of_ble_eq_true rfl, Nat.le_of_ble_eq_true rfl⟩ rfl (Nat.le_of_ble_eq_true rfl) ⟨Nat.le_of_ble_eq_true rfl, Nat.le_of_ble_eq_true rfl⟩ dL_sound_611 rfl (fun v w1 H locs hpost hP hD hS => ?_)
  obtain ⟨rfl, rfl⟩ := hpost
  have hP := zr0' hP
  have hD := zr0D' hD
  have hP : va_P D vwCl (x8W u a r q ++ (svW ct r b nx sz S ++ (sobjW a ++ (gridW ct a M ++ (benchW ct a M ++ (logW ct a M ++ (txtW ct q TX tl pl ft wd n1 n2))))))) H := hP
  have hD : va_D A (x8W u a r q ++ (svW ct r b nx sz S ++ (sobjW a ++ (gridW ct a M ++ (benchW ct a M ++ (logW ct a M ++ (txtW ct q TX tl pl ft wd n1 n2))))))) := hD
  refine W.eq (g2 := F0 m 614 ls [.int (zI (sp_wh M tl 7))]) rfl ?_
  refine z_canI (show sp_wh M tl 7 = sp_loss M (M 8) from rfl) ?_
  refine lv_iload hx hb dL_sound_614 (lv_at hl 3 rfl) ?_
  refine lv_iload hx hb dL_sound_616 (lv_at hl 3 rfl) ?_
  refine z_imul hx hb dL_sound_618 ?_
  refine z_sipush hx hb dL_sound_619 (by decide) ?_
  refine z_imul hx hb dL_sound_622 ?_
  refine z_bipush hx hb dL_sound_623 (by decide) ?_
  refine z_idiv hx hb dL_sound_625 (by omega) (by omega) ?_
  refine z_canI (show (((sp_arc M (M 8)) * (sp_arc M (M 8))) * 165) / 100 = sp_loss M (M 8) from rfl) ?_
  refine z_icmp_ne (tgt := 812) hx hb dL_sound_626 (by decide) (by omega) (by omega) (fun hc_626 => ?_) (fun hc_626 => ?_)
  · have hc_626 := hc_626
    omega
  have hc_626 := hc_626
  refine lv_aload_n hx hb dL_sound_629 rfl (lv_at hl 0 rfl) ?_
  refine z_bipush hx hb dL_sound_630 (by decide) ?_
  refine z_callSW (As := [.ref u, .int (zI 10)]) (rest := []) ([] : va_W) ([] : va_W) hx hb hml hown hts hl hE hS hA (zr0 ([] : va_W) hP) (zr0D ([] : va_W) hD) (c_L_whole_ok l D ct ad u a r q b nx sz S M TX tl pl ft n1 n2 wd 10 (by assumption) (by omega) (by omega)) gL_sound_L_whole rfl k_L_whole ⟨Nat.le_of_ble_eq_true rfl, Nat.le_of_ble_eq_true rfl⟩ rfl (Nat.le_of_ble_eq_true rfl) ⟨Nat.le_of_ble_eq_true rfl, Nat.le_of_ble_eq_true rfl⟩ dL_sound_632 rfl (fun v w1 H locs hpost hP hD hS => ?_)
  obtain ⟨rfl, rfl⟩ := hpost
  have hP := zr0' hP
  have hD := zr0D' hD
  have hP : va_P D vwCl (x8W u a r q ++ (svW ct r b nx sz S ++ (sobjW a ++ (gridW ct a M ++ (benchW ct a M ++ (logW ct a M ++ (txtW ct q TX tl pl ft wd n1 n2))))))) H := hP
  have hD : va_D A (x8W u a r q ++ (svW ct r b nx sz S ++ (sobjW a ++ (gridW ct a M ++ (benchW ct a M ++ (logW ct a M ++ (txtW ct q TX tl pl ft wd n1 n2))))))) := hD
  refine W.eq (g2 := F0 m 635 ls [.int (zI (sp_wh M tl 10))]) rfl ?_
  refine z_canI (show sp_wh M tl 10 = M 9 from rfl) ?_
  refine lv_aload_n hx hb dL_sound_635 rfl (lv_at hl 0 rfl) ?_
  refine z_bipush hx hb dL_sound_636 (by decide) ?_
  refine z_callSW (As := [.ref u, .int (zI 11)]) (rest := [.int (zI (M 9))]) ([] : va_W) ([] : va_W) hx hb hml hown hts hl hE hS hA (zr0 ([] : va_W) hP) (zr0D ([] : va_W) hD) (c_L_whole_ok l D ct ad u a r q b nx sz S M TX tl pl ft n1 n2 wd 11 (by assumption) (by omega) (by omega)) gL_sound_L_whole rfl k_L_whole ⟨Nat.le_of_ble_eq_true rfl, Nat.le_of_ble_eq_true rfl⟩ rfl (Nat.le_of_ble_eq_true rfl) ⟨Nat.le_of_ble_eq_true rfl, Nat.le_of_ble_eq_true rfl⟩ dL_sound_638 rfl (fun v w1 H locs hpost hP hD hS => ?_)
  obtain ⟨rfl, rfl⟩ := hpost
  have hP := zr0' hP
  have hD := zr0D' hD
  have hP : va_P D vwCl (x8W u a r q ++ (svW ct r b nx sz S ++ (sobjW a ++ (gridW ct a M ++ (benchW ct a M ++ (logW ct a M ++ (txtW ct q TX tl pl ft wd n1 n2))))))) H := hP
  have hD : va_D A (x8W u a r q ++ (svW ct r b nx sz S ++ (sobjW a ++ (gridW ct a M ++ (benchW ct a M ++ (logW ct a M ++ (txtW ct q TX tl pl ft wd n1 n2))))))) := hD
  refine W.eq (g2 := F0 m 641 ls [.int (zI (sp_wh M tl 11)), .int (zI (M 9))]) rfl ?_
  refine z_canI (show sp_wh M tl 11 = M 10 from rfl) ?_
  refine lv_aload_n hx hb dL_sound_641 rfl (lv_at hl 0 rfl) ?_
  refine z_bipush hx hb dL_sound_642 (by decide) ?_
  refine z_callSW (As := [.ref u, .int (zI 12)]) (rest := [.int (zI (M 10)), .int (zI (M 9))]) ([] : va_W) ([] : va_W) hx hb hml hown hts hl hE hS hA (zr0 ([] : va_W) hP) (zr0D ([] : va_W) hD) (c_L_whole_ok l D ct ad u a r q b nx sz S M TX tl pl ft n1 n2 wd 12 (by assumption) (by omega) (by omega)) gL_sound_L_whole rfl k_L_whole ⟨Nat.le_of_ble_eq_true rfl, Nat.le_of_ble_eq_true rfl⟩ rfl (Nat.le_of_ble_eq_true rfl) ⟨Nat.le_of_ble_eq_true rfl, Nat.le_of_ble_eq_true rfl⟩ dL_sound_644 rfl (fun v w1 H locs hpost hP hD hS => ?_)
  obtain ⟨rfl, rfl⟩ := hpost
  have hP := zr0' hP
  have hD := zr0D' hD
  have hP : va_P D vwCl (x8W u a r q ++ (svW ct r b nx sz S ++ (sobjW a ++ (gridW ct a M ++ (benchW ct a M ++ (logW ct a M ++ (txtW ct q TX tl pl ft wd n1 n2))))))) H := hP
  have hD : va_D A (x8W u a r q ++ (svW ct r b nx sz S ++ (sobjW a ++ (gridW ct a M ++ (benchW ct a M ++ (logW ct a M ++ (txtW ct q TX tl pl ft wd n1 n2))))))) := hD
  refine W.eq (g2 := F0 m 647 ls [.int (zI (sp_wh M tl 12)), .int (zI (M 10)), .int (zI (M 9))]) rfl ?_
  refine z_canI (show sp_wh M tl 12 = M 11 from rfl) ?_
  refine z_iadd hx hb dL_sound_647 ?_
  refine z_icmp_ne (tgt := 812) hx hb dL_sound_648 (by decide) (by omega) (by omega) (fun hc_648 => ?_) (fun hc_648 => ?_)
  · have hc_648 := hc_648
    omega
  have hc_648 := hc_648
  exact g_L_sound_651 l D ct ad u a r q b nx sz S M TX tl pl ft n1 n2 wd bal_ went_ sum_ w_ (by assumption) (by assumption) (show bal_ = sp_bal M from (by first | assumption | omega)) (show went_ = lSum M 3 (M 15).toNat from (by first | assumption | omega)) (show sum_ = lSum M 2 (M 15).toNat from (by first | assumption | omega)) (show (w_ = 0 ∨ w_ = 1) ∧ (w_ = 1 → M 9 % 24 = 0 ∧ M 9 / 24 ≤ 10) from (by first | assumption | omega)) p e s m below meth c A _ _ _ hx hb hr hts hown hlocks hml hE hA hP hD hS (lv_sub hl [0, 1, 2, 4, 5, 6, 7, 8] rfl)
set_option maxHeartbeats 4000000 in
set_option maxRecDepth 100000 in
theorem g_L_sound_522 (l : Launch) (D : va_G) (ct ad : Nat → Nat) (u : Nat) (a r q : Nat → Nat) (b : Nat → Nat → Nat) (nx sz : Int) (S : Nat → Int → Int) (M TX : Int → Int) (tl pl ft n1 n2 : Int) (wd : Value) (len_ : Int) (bal_ : Int) (rt : Int) (al : Int) (e_ : Int) (went_ : Int) (sum_ : Int) (w_ : Int) (hL : LInv M) (ht : tInv TX tl) (eL : len_ = sp_len M (M 6)) (eB : bal_ = sp_bal M) (hrt : rt = sp_rateM M + sp_loss M (M 8)) (hal : al = 43200000 * (M 0 - len_)) (rB : -1000000000 ≤ rt ∧ rt ≤ 1000000000) (he : (e_ = 0 ∨ e_ = 1) ∧ (e_ = 0 → rt * M 0 ≤ al ∧ al < (rt + 1) * M 0)) (hw3 : went_ = lSum M 3 (M 15).toNat) (hw2 : sum_ = lSum M 2 (M 15).toNat) (hw : (w_ = 0 ∨ w_ = 1) ∧ (w_ = 1 → M 9 % 24 = 0 ∧ M 9 / 24 ≤ 10)) : ZG l yL_sound cL_sound wsL_sound ({ frames := 7, cells := 0, slots := 0, locals := 164 } : Room) 20 (some .boolean) D ct ad [.ref u] (zD (some (.int (zI 1))) (x8W u a r q ++ (svW ct r b nx sz S ++ (sobjW a ++ (gridW ct a M ++ (benchW ct a M ++ (logW ct a M ++ (txtW ct q TX tl pl ft wd n1 n2)))))))) 0 0 522 (x8W u a r q ++ (svW ct r b nx sz S ++ (sobjW a ++ (gridW ct a M ++ (benchW ct a M ++ (logW ct a M ++ (txtW ct q TX tl pl ft wd n1 n2))))))) [(0, .ref u), (1, .long (zJ len_)), (3, .long (zJ bal_)), (5, .int (zI (M 6))), (6, .int (zI (sp_arc M (M 8)))), (7, .int (zI (M 9 / 24))), (8, .long (zJ rt)), (10, .long (zJ al)), (12, .int (zI e_)), (13, .long (zJ went_)), (15, .long (zJ sum_)), (17, .int (zI w_)), (18, .double (sp_mean M))] [] := by
  intro p e s m below meth c A H locs ls hx hb hr hts hown hlocks hml hE hA hP hD hS hl
  have hK := hE.1
  have hl : lv_has ls 20 [(0, .ref u), (1, .long (zJ len_)), (3, .long (zJ bal_)), (5, .int (zI (M 6))), (6, .int (zI (sp_arc M (M 8)))), (7, .int (zI (M 9 / 24))), (8, .long (zJ rt)), (10, .long (zJ al)), (12, .int (zI e_)), (13, .long (zJ went_)), (15, .long (zJ sum_)), (17, .int (zI w_)), (18, .double (sp_mean M))] := hl
  have hs := hL.1
  have hI := hs.1
  have hB := hs.2.1
  have ha := hs.2.2
  have t1 := ht.1
  have j0 := hB.1
  have j1 := hB.2.1
  have eR : sp_rateM M = sp_rate M (sp_len M (M 6)) (M 8) := rfl
  have qL := sp_lenB hI hB j1.2.1
  have m1 := mulB (a := rt) (b := M 0) (A := 1000000000) (B := 2000000) (by omega) (by omega)
  have m2 := mulB (a := rt + 1) (b := M 0) (A := 1000000001) (B := 2000000) (by omega) (by omega)
  have i4 := hI.2.1
  have qb := sp_balB hI (M 4).toNat (by omega)
  have qb2 : sp_bal M = sp_balN M (M 4).toNat := rfl
  refine lv_aload_n hx hb dL_sound_522 rfl (lv_at hl 0 rfl) ?_
  refine z_bipush hx hb dL_sound_523 (by decide) ?_
  refine z_callSW (As := [.ref u, .int (zI 8)]) (rest := []) ([] : va_W) ([] : va_W) hx hb hml hown hts hl hE hS hA (zr0 ([] : va_W) hP) (zr0D ([] : va_W) hD) (c_L_whole_ok l D ct ad u a r q b nx sz S M TX tl pl ft n1 n2 wd 8 (by assumption) (by omega) (by omega)) gL_sound_L_whole rfl k_L_whole ⟨Nat.le_of_ble_eq_true rfl, Nat.le_of_ble_eq_true rfl⟩ rfl (Nat.le_of_ble_eq_true rfl) ⟨Nat.le_of_ble_eq_true rfl, Nat.le_of_ble_eq_true rfl⟩ dL_sound_525 rfl (fun v w1 H locs hpost hP hD hS => ?_)
  obtain ⟨rfl, rfl⟩ := hpost
  have hP := zr0' hP
  have hD := zr0D' hD
  have hP : va_P D vwCl (x8W u a r q ++ (svW ct r b nx sz S ++ (sobjW a ++ (gridW ct a M ++ (benchW ct a M ++ (logW ct a M ++ (txtW ct q TX tl pl ft wd n1 n2))))))) H := hP
  have hD : va_D A (x8W u a r q ++ (svW ct r b nx sz S ++ (sobjW a ++ (gridW ct a M ++ (benchW ct a M ++ (logW ct a M ++ (txtW ct q TX tl pl ft wd n1 n2))))))) := hD
  refine W.eq (g2 := F0 m 528 ls [.int (zI (sp_wh M tl 8))]) rfl ?_
  refine z_canI (show sp_wh M tl 8 = sp_len M (M 6) from rfl) ?_
  refine z_i2l hx hb dL_sound_528 (by omega) ?_
  refine lv_lload_n hx hb dL_sound_529 rfl (lv_at hl 1 rfl) ?_
  refine z_lcmp_ne (tgt := 812) hx hb dL_sound_530 dL_sound_531 (by decide) (by omega) (by omega) (fun hc_530 => ?_) (fun hc_530 => ?_)
  · have hc_530 := hc_530
    omega
  have hc_530 := hc_530
  refine lv_aload_n hx hb dL_sound_534 rfl (lv_at hl 0 rfl) ?_
  refine z_callV (C := RX8) (q0 := 0) (ci := 6) (As := []) (rest := []) ([] : va_W) ([] : va_W) hx hb hml hown hts hl hE hS hA (zr0 ([] : va_W) hP) (zr0D ([] : va_W) hD) (c_X8_balance l D ct ad u a r q b nx sz S M TX tl pl ft n1 n2 wd (by assumption)) gL_sound_X8_balance rfl rfl k_X8_balance ⟨Nat.le_of_ble_eq_true rfl, Nat.le_of_ble_eq_true rfl⟩ rfl rfl rfl rfl (Nat.le_of_ble_eq_true rfl) ⟨Nat.le_of_ble_eq_true rfl, Nat.le_of_ble_eq_true rfl⟩ dL_sound_535 rfl (fun v w1 H locs hpost hP hD hS => ?_)
  obtain ⟨rfl, rfl⟩ := hpost
  have hP := zr0' hP
  have hD := zr0D' hD
  have hP : va_P D vwCl (x8W u a r q ++ (svW ct r b nx sz S ++ (sobjW a ++ (gridW ct a M ++ (benchW ct a M ++ (logW ct a M ++ (txtW ct q TX tl pl ft wd n1 n2))))))) H := hP
  have hD : va_D A (x8W u a r q ++ (svW ct r b nx sz S ++ (sobjW a ++ (gridW ct a M ++ (benchW ct a M ++ (logW ct a M ++ (txtW ct q TX tl pl ft wd n1 n2))))))) := hD
  refine W.eq (g2 := F0 m 538 ls [.long (zJ (sp_bal M))]) rfl ?_
  refine lv_lload_n hx hb dL_sound_538 rfl (lv_at hl 2 rfl) ?_
  refine z_lcmp_ne (tgt := 812) hx hb dL_sound_539 dL_sound_540 (by decide) (by omega) (by omega) (fun hc_539 => ?_) (fun hc_539 => ?_)
  · have hc_539 := hc_539
    omega
  have hc_539 := hc_539
  refine lv_iload hx hb dL_sound_543 (lv_at hl 8 rfl) ?_
  refine z_if_ne (tgt := 582) hx hb dL_sound_545 (by decide) (by omega) (fun hc_545 => ?_) (fun hc_545 => ?_)
  · have hc_545 := hc_545
    exact g_L_sound_582 l D ct ad u a r q b nx sz S M TX tl pl ft n1 n2 wd bal_ went_ sum_ w_ (by assumption) (by assumption) (show bal_ = sp_bal M from (by first | assumption | omega)) (show went_ = lSum M 3 (M 15).toNat from (by first | assumption | omega)) (show sum_ = lSum M 2 (M 15).toNat from (by first | assumption | omega)) (show (w_ = 0 ∨ w_ = 1) ∧ (w_ = 1 → M 9 % 24 = 0 ∧ M 9 / 24 ≤ 10) from (by first | assumption | omega)) p e s m below meth c A _ _ _ hx hb hr hts hown hlocks hml hE hA hP hD hS (lv_sub hl [0, 2, 3, 4, 5, 9, 10, 11, 12] rfl)
  · have hc_545 := hc_545
    refine lv_lload hx hb dL_sound_548 (lv_at hl 6 rfl) ?_
    refine lv_aload_n hx hb dL_sound_550 rfl (lv_at hl 0 rfl) ?_
    refine z_bipush hx hb dL_sound_551 (by decide) ?_
    refine z_callSW (As := [.ref u, .int (zI 13)]) (rest := [.long (zJ rt)]) ([] : va_W) ([] : va_W) hx hb hml hown hts hl hE hS hA (zr0 ([] : va_W) hP) (zr0D ([] : va_W) hD) (c_L_whole_ok l D ct ad u a r q b nx sz S M TX tl pl ft n1 n2 wd 13 (by assumption) (by omega) (by omega)) gL_sound_L_whole rfl k_L_whole ⟨Nat.le_of_ble_eq_true rfl, Nat.le_of_ble_eq_true rfl⟩ rfl (Nat.le_of_ble_eq_true rfl) ⟨Nat.le_of_ble_eq_true rfl, Nat.le_of_ble_eq_true rfl⟩ dL_sound_553 rfl (fun v w1 H locs hpost hP hD hS => ?_)
    obtain ⟨rfl, rfl⟩ := hpost
    have hP := zr0' hP
    have hD := zr0D' hD
    have hP : va_P D vwCl (x8W u a r q ++ (svW ct r b nx sz S ++ (sobjW a ++ (gridW ct a M ++ (benchW ct a M ++ (logW ct a M ++ (txtW ct q TX tl pl ft wd n1 n2))))))) H := hP
    have hD : va_D A (x8W u a r q ++ (svW ct r b nx sz S ++ (sobjW a ++ (gridW ct a M ++ (benchW ct a M ++ (logW ct a M ++ (txtW ct q TX tl pl ft wd n1 n2))))))) := hD
    refine W.eq (g2 := F0 m 556 ls [.int (zI (sp_wh M tl 13)), .long (zJ rt)]) rfl ?_
    refine z_canI (show sp_wh M tl 13 = M 0 from rfl) ?_
    refine z_i2l hx hb dL_sound_556 (by omega) ?_
    refine z_lmul hx hb dL_sound_557 ?_
    refine lv_lload hx hb dL_sound_558 (lv_at hl 7 rfl) ?_
    refine z_lcmp_gt (tgt := 812) hx hb dL_sound_560 dL_sound_561 (by decide) (by omega) (by omega) (fun hc_560 => ?_) (fun hc_560 => ?_)
    · have hc_560 := hc_560
      omega
    have hc_560 := hc_560
    refine lv_lload hx hb dL_sound_564 (lv_at hl 6 rfl) ?_
    refine z_lconst (z := 1) hx hb dL_sound_566 rfl ?_
    refine z_ladd hx hb dL_sound_567 ?_
    refine lv_aload_n hx hb dL_sound_568 rfl (lv_at hl 0 rfl) ?_
    refine z_bipush hx hb dL_sound_569 (by decide) ?_
    refine z_callSW (As := [.ref u, .int (zI 13)]) (rest := [.long (zJ (rt + 1))]) ([] : va_W) ([] : va_W) hx hb hml hown hts hl hE hS hA (zr0 ([] : va_W) hP) (zr0D ([] : va_W) hD) (c_L_whole_ok l D ct ad u a r q b nx sz S M TX tl pl ft n1 n2 wd 13 (by assumption) (by omega) (by omega)) gL_sound_L_whole rfl k_L_whole ⟨Nat.le_of_ble_eq_true rfl, Nat.le_of_ble_eq_true rfl⟩ rfl (Nat.le_of_ble_eq_true rfl) ⟨Nat.le_of_ble_eq_true rfl, Nat.le_of_ble_eq_true rfl⟩ dL_sound_571 rfl (fun v w1 H locs hpost hP hD hS => ?_)
    obtain ⟨rfl, rfl⟩ := hpost
    have hP := zr0' hP
    have hD := zr0D' hD
    have hP : va_P D vwCl (x8W u a r q ++ (svW ct r b nx sz S ++ (sobjW a ++ (gridW ct a M ++ (benchW ct a M ++ (logW ct a M ++ (txtW ct q TX tl pl ft wd n1 n2))))))) H := hP
    have hD : va_D A (x8W u a r q ++ (svW ct r b nx sz S ++ (sobjW a ++ (gridW ct a M ++ (benchW ct a M ++ (logW ct a M ++ (txtW ct q TX tl pl ft wd n1 n2))))))) := hD
    refine W.eq (g2 := F0 m 574 ls [.int (zI (sp_wh M tl 13)), .long (zJ (rt + 1))]) rfl ?_
    refine z_canI (show sp_wh M tl 13 = M 0 from rfl) ?_
    refine z_i2l hx hb dL_sound_574 (by omega) ?_
    refine z_lmul hx hb dL_sound_575 ?_
    refine lv_lload hx hb dL_sound_576 (lv_at hl 7 rfl) ?_
    refine z_lcmp_le (tgt := 812) hx hb dL_sound_578 dL_sound_579 (by decide) (by omega) (by omega) (fun hc_578 => ?_) (fun hc_578 => ?_)
    · have hc_578 := hc_578
      omega
    have hc_578 := hc_578
    exact g_L_sound_582 l D ct ad u a r q b nx sz S M TX tl pl ft n1 n2 wd bal_ went_ sum_ w_ (by assumption) (by assumption) (show bal_ = sp_bal M from (by first | assumption | omega)) (show went_ = lSum M 3 (M 15).toNat from (by first | assumption | omega)) (show sum_ = lSum M 2 (M 15).toNat from (by first | assumption | omega)) (show (w_ = 0 ∨ w_ = 1) ∧ (w_ = 1 → M 9 % 24 = 0 ∧ M 9 / 24 ≤ 10) from (by first | assumption | omega)) p e s m below meth c A _ _ _ hx hb hr hts hown hlocks hml hE hA hP hD hS (lv_sub hl [0, 2, 3, 4, 5, 9, 10, 11, 12] rfl)
set_option maxHeartbeats 4000000 in
set_option maxRecDepth 100000 in
theorem g_L_sound_492 (l : Launch) (D : va_G) (ct ad : Nat → Nat) (u : Nat) (a r q : Nat → Nat) (b : Nat → Nat → Nat) (nx sz : Int) (S : Nat → Int → Int) (M TX : Int → Int) (tl pl ft n1 n2 : Int) (wd : Value) (len_ : Int) (bal_ : Int) (rt : Int) (al : Int) (e_ : Int) (went_ : Int) (sum_ : Int) (w_ : Int) (hL : LInv M) (ht : tInv TX tl) (eL : len_ = sp_len M (M 6)) (eB : bal_ = sp_bal M) (hrt : rt = sp_rateM M + sp_loss M (M 8)) (hal : al = 43200000 * (M 0 - len_)) (rB : -1000000000 ≤ rt ∧ rt ≤ 1000000000) (he : (e_ = 0 ∨ e_ = 1) ∧ (e_ = 0 → rt * M 0 ≤ al ∧ al < (rt + 1) * M 0)) (hw3 : went_ = lSum M 3 (M 15).toNat) (hw2 : sum_ = lSum M 2 (M 15).toNat) (hw : (w_ = 0 ∨ w_ = 1) ∧ (w_ = 1 → M 9 % 24 = 0 ∧ M 9 / 24 ≤ 10)) : ZG l yL_sound cL_sound wsL_sound ({ frames := 7, cells := 0, slots := 0, locals := 164 } : Room) 20 (some .boolean) D ct ad [.ref u] (zD (some (.int (zI 1))) (x8W u a r q ++ (svW ct r b nx sz S ++ (sobjW a ++ (gridW ct a M ++ (benchW ct a M ++ (logW ct a M ++ (txtW ct q TX tl pl ft wd n1 n2)))))))) 0 0 492 (x8W u a r q ++ (svW ct r b nx sz S ++ (sobjW a ++ (gridW ct a M ++ (benchW ct a M ++ (logW ct a M ++ (txtW ct q TX tl pl ft wd n1 n2))))))) [(0, .ref u), (1, .long (zJ len_)), (3, .long (zJ bal_)), (5, .int (zI (M 6))), (6, .int (zI (sp_arc M (M 8)))), (7, .int (zI (M 9 / 24))), (8, .long (zJ rt)), (10, .long (zJ al)), (12, .int (zI e_)), (13, .long (zJ went_)), (15, .long (zJ sum_))] [.int (zI w_)] := by
  intro p e s m below meth c A H locs ls hx hb hr hts hown hlocks hml hE hA hP hD hS hl
  have hK := hE.1
  have hl : lv_has ls 20 [(0, .ref u), (1, .long (zJ len_)), (3, .long (zJ bal_)), (5, .int (zI (M 6))), (6, .int (zI (sp_arc M (M 8)))), (7, .int (zI (M 9 / 24))), (8, .long (zJ rt)), (10, .long (zJ al)), (12, .int (zI e_)), (13, .long (zJ went_)), (15, .long (zJ sum_))] := hl
  have hs := hL.1
  have hI := hs.1
  have hB := hs.2.1
  have ha := hs.2.2
  have t1 := ht.1
  have j2 := hB.2.2.1
  refine lv_istore (lv' := [(17, .int (zI w_)), (0, .ref u), (1, .long (zJ len_)), (3, .long (zJ bal_)), (5, .int (zI (M 6))), (6, .int (zI (sp_arc M (M 8)))), (7, .int (zI (M 9 / 24))), (8, .long (zJ rt)), (10, .long (zJ al)), (12, .int (zI e_)), (13, .long (zJ went_)), (15, .long (zJ sum_))]) hx hb dL_sound_492 hl (by decide) rfl (fun ls hl => ?_)
  refine lv_aload_n hx hb dL_sound_494 rfl (lv_at hl 1 rfl) ?_
  refine z_bipush hx hb dL_sound_495 (by decide) ?_
  refine z_callSW (As := [.ref u, .int (zI 11)]) (rest := []) ([] : va_W) ([] : va_W) hx hb hml hown hts hl hE hS hA (zr0 ([] : va_W) hP) (zr0D ([] : va_W) hD) (c_L_whole_ok l D ct ad u a r q b nx sz S M TX tl pl ft n1 n2 wd 11 (by assumption) (by omega) (by omega)) gL_sound_L_whole rfl k_L_whole ⟨Nat.le_of_ble_eq_true rfl, Nat.le_of_ble_eq_true rfl⟩ rfl (Nat.le_of_ble_eq_true rfl) ⟨Nat.le_of_ble_eq_true rfl, Nat.le_of_ble_eq_true rfl⟩ dL_sound_497 rfl (fun v w1 H locs hpost hP hD hS => ?_)
  obtain ⟨rfl, rfl⟩ := hpost
  have hP := zr0' hP
  have hD := zr0D' hD
  have hP : va_P D vwCl (x8W u a r q ++ (svW ct r b nx sz S ++ (sobjW a ++ (gridW ct a M ++ (benchW ct a M ++ (logW ct a M ++ (txtW ct q TX tl pl ft wd n1 n2))))))) H := hP
  have hD : va_D A (x8W u a r q ++ (svW ct r b nx sz S ++ (sobjW a ++ (gridW ct a M ++ (benchW ct a M ++ (logW ct a M ++ (txtW ct q TX tl pl ft wd n1 n2))))))) := hD
  refine W.eq (g2 := F0 m 500 ls [.int (zI (sp_wh M tl 11))]) rfl ?_
  refine z_canI (show sp_wh M tl 11 = M 10 from rfl) ?_
  refine z_if_ne (tgt := 507) hx hb dL_sound_500 (by decide) (by omega) (fun hc_500 => ?_) (fun hc_500 => ?_)
  · have hc_500 := hc_500
    refine lv_aload_n hx hb dL_sound_507 rfl (lv_at hl 1 rfl) ?_
    refine z_callV (C := RX8) (q0 := 0) (ci := 6) (As := []) (rest := []) ([] : va_W) ([] : va_W) hx hb hml hown hts hl hE hS hA (zr0 ([] : va_W) hP) (zr0D ([] : va_W) hD) (c_X8_rates l D ct ad u a r q b nx sz S M TX tl pl ft n1 n2 wd (by assumption)) gL_sound_X8_rates rfl rfl k_X8_rates ⟨Nat.le_of_ble_eq_true rfl, Nat.le_of_ble_eq_true rfl⟩ rfl rfl rfl rfl (Nat.le_of_ble_eq_true rfl) ⟨Nat.le_of_ble_eq_true rfl, Nat.le_of_ble_eq_true rfl⟩ dL_sound_508 rfl (fun v w1 H locs hpost hP hD hS => ?_)
    obtain ⟨rfl, rfl⟩ := hpost
    have hP := zr0' hP
    have hD := zr0D' hD
    have hP : va_P D vwCl (x8W u a r q ++ (svW ct r b nx sz S ++ (sobjW a ++ (gridW ct a M ++ (benchW ct a M ++ (logW ct a M ++ (txtW ct q TX tl pl ft wd n1 n2))))))) H := hP
    have hD : va_D A (x8W u a r q ++ (svW ct r b nx sz S ++ (sobjW a ++ (gridW ct a M ++ (benchW ct a M ++ (logW ct a M ++ (txtW ct q TX tl pl ft wd n1 n2))))))) := hD
    refine W.eq (g2 := F0 m 511 ls [.long (zJ (M 12))]) rfl ?_
    refine lv_l2d hx hb dL_sound_511 ?_
    refine lv_aload_n hx hb dL_sound_512 rfl (lv_at hl 1 rfl) ?_
    refine z_bipush hx hb dL_sound_513 (by decide) ?_
    refine z_callSW (As := [.ref u, .int (zI 11)]) (rest := [.double (FP.l2d (zJ (M 12)))]) ([] : va_W) ([] : va_W) hx hb hml hown hts hl hE hS hA (zr0 ([] : va_W) hP) (zr0D ([] : va_W) hD) (c_L_whole_ok l D ct ad u a r q b nx sz S M TX tl pl ft n1 n2 wd 11 (by assumption) (by omega) (by omega)) gL_sound_L_whole rfl k_L_whole ⟨Nat.le_of_ble_eq_true rfl, Nat.le_of_ble_eq_true rfl⟩ rfl (Nat.le_of_ble_eq_true rfl) ⟨Nat.le_of_ble_eq_true rfl, Nat.le_of_ble_eq_true rfl⟩ dL_sound_515 rfl (fun v w1 H locs hpost hP hD hS => ?_)
    obtain ⟨rfl, rfl⟩ := hpost
    have hP := zr0' hP
    have hD := zr0D' hD
    have hP : va_P D vwCl (x8W u a r q ++ (svW ct r b nx sz S ++ (sobjW a ++ (gridW ct a M ++ (benchW ct a M ++ (logW ct a M ++ (txtW ct q TX tl pl ft wd n1 n2))))))) H := hP
    have hD : va_D A (x8W u a r q ++ (svW ct r b nx sz S ++ (sobjW a ++ (gridW ct a M ++ (benchW ct a M ++ (logW ct a M ++ (txtW ct q TX tl pl ft wd n1 n2))))))) := hD
    refine W.eq (g2 := F0 m 518 ls [.int (zI (sp_wh M tl 11)), .double (FP.l2d (zJ (M 12)))]) rfl ?_
    refine z_canI (show sp_wh M tl 11 = M 10 from rfl) ?_
    refine z_i2d hx hb dL_sound_518 (by omega) ?_
    refine lv_ddiv hx hb dL_sound_519 (ddiv_ok (by omega)) ?_
    refine z_canD (show (FP.ddiv (FP.l2d (zJ (M 12))) (FP.l2d (zJ (M 10)))) = sp_mean M from (by unfold sp_mean; first | rw [if_pos (by omega)] | rw [if_neg (by omega)])) ?_
    refine lv_dstore (lv' := [(18, .double (sp_mean M)), (17, .int (zI w_)), (0, .ref u), (1, .long (zJ len_)), (3, .long (zJ bal_)), (5, .int (zI (M 6))), (6, .int (zI (sp_arc M (M 8)))), (7, .int (zI (M 9 / 24))), (8, .long (zJ rt)), (10, .long (zJ al)), (12, .int (zI e_)), (13, .long (zJ went_)), (15, .long (zJ sum_))]) hx hb dL_sound_520 hl (by decide) rfl (fun ls hl => ?_)
    exact g_L_sound_522 l D ct ad u a r q b nx sz S M TX tl pl ft n1 n2 wd len_ bal_ rt al e_ went_ sum_ w_ (by assumption) (by assumption) (show len_ = sp_len M (M 6) from (by first | assumption | omega)) (show bal_ = sp_bal M from (by first | assumption | omega)) (show rt = sp_rateM M + sp_loss M (M 8) from (by first | assumption | omega)) (show al = 43200000 * (M 0 - len_) from (by first | assumption | omega)) (show -1000000000 ≤ rt ∧ rt ≤ 1000000000 from (by first | assumption | omega)) (show (e_ = 0 ∨ e_ = 1) ∧ (e_ = 0 → rt * M 0 ≤ al ∧ al < (rt + 1) * M 0) from (by first | assumption | omega)) (show went_ = lSum M 3 (M 15).toNat from (by first | assumption | omega)) (show sum_ = lSum M 2 (M 15).toNat from (by first | assumption | omega)) (show (w_ = 0 ∨ w_ = 1) ∧ (w_ = 1 → M 9 % 24 = 0 ∧ M 9 / 24 ≤ 10) from (by first | assumption | omega)) p e s m below meth c A _ _ _ hx hb hr hts hown hlocks hml hE hA hP hD hS (lv_sub hl [2, 3, 4, 5, 6, 7, 8, 9, 10, 11, 12, 1, 0] rfl)
  · have hc_500 := hc_500
    refine lv_dconst0 hx hb dL_sound_503 ?_
    refine lv_goto (tgt := 520) hx hb dL_sound_504 (by decide) ?_
    refine z_canD (show FP.dconst0 = sp_mean M from (by unfold sp_mean; first | rw [if_pos (by omega)] | rw [if_neg (by omega)])) ?_
    refine lv_dstore (lv' := [(18, .double (sp_mean M)), (17, .int (zI w_)), (0, .ref u), (1, .long (zJ len_)), (3, .long (zJ bal_)), (5, .int (zI (M 6))), (6, .int (zI (sp_arc M (M 8)))), (7, .int (zI (M 9 / 24))), (8, .long (zJ rt)), (10, .long (zJ al)), (12, .int (zI e_)), (13, .long (zJ went_)), (15, .long (zJ sum_))]) hx hb dL_sound_520 hl (by decide) rfl (fun ls hl => ?_)
    exact g_L_sound_522 l D ct ad u a r q b nx sz S M TX tl pl ft n1 n2 wd len_ bal_ rt al e_ went_ sum_ w_ (by assumption) (by assumption) (show len_ = sp_len M (M 6) from (by first | assumption | omega)) (show bal_ = sp_bal M from (by first | assumption | omega)) (show rt = sp_rateM M + sp_loss M (M 8) from (by first | assumption | omega)) (show al = 43200000 * (M 0 - len_) from (by first | assumption | omega)) (show -1000000000 ≤ rt ∧ rt ≤ 1000000000 from (by first | assumption | omega)) (show (e_ = 0 ∨ e_ = 1) ∧ (e_ = 0 → rt * M 0 ≤ al ∧ al < (rt + 1) * M 0) from (by first | assumption | omega)) (show went_ = lSum M 3 (M 15).toNat from (by first | assumption | omega)) (show sum_ = lSum M 2 (M 15).toNat from (by first | assumption | omega)) (show (w_ = 0 ∨ w_ = 1) ∧ (w_ = 1 → M 9 % 24 = 0 ∧ M 9 / 24 ≤ 10) from (by first | assumption | omega)) p e s m below meth c A _ _ _ hx hb hr hts hown hlocks hml hE hA hP hD hS (lv_sub hl [2, 3, 4, 5, 6, 7, 8, 9, 10, 11, 12, 1, 0] rfl)
set_option maxHeartbeats 4000000 in
set_option maxRecDepth 100000 in
theorem g_L_sound_468 (l : Launch) (D : va_G) (ct ad : Nat → Nat) (u : Nat) (a r q : Nat → Nat) (b : Nat → Nat → Nat) (nx sz : Int) (S : Nat → Int → Int) (M TX : Int → Int) (tl pl ft n1 n2 : Int) (wd : Value) (len_ : Int) (bal_ : Int) (rt : Int) (al : Int) (e_ : Int) (went_ : Int) (sum_ : Int) (hL : LInv M) (ht : tInv TX tl) (eL : len_ = sp_len M (M 6)) (eB : bal_ = sp_bal M) (hrt : rt = sp_rateM M + sp_loss M (M 8)) (hal : al = 43200000 * (M 0 - len_)) (rB : -1000000000 ≤ rt ∧ rt ≤ 1000000000) (he : (e_ = 0 ∨ e_ = 1) ∧ (e_ = 0 → rt * M 0 ≤ al ∧ al < (rt + 1) * M 0)) (hw3 : went_ = lSum M 3 (M 15).toNat) (hw2 : sum_ = lSum M 2 (M 15).toNat) : ZG l yL_sound cL_sound wsL_sound ({ frames := 7, cells := 0, slots := 0, locals := 164 } : Room) 20 (some .boolean) D ct ad [.ref u] (zD (some (.int (zI 1))) (x8W u a r q ++ (svW ct r b nx sz S ++ (sobjW a ++ (gridW ct a M ++ (benchW ct a M ++ (logW ct a M ++ (txtW ct q TX tl pl ft wd n1 n2)))))))) 0 0 468 (x8W u a r q ++ (svW ct r b nx sz S ++ (sobjW a ++ (gridW ct a M ++ (benchW ct a M ++ (logW ct a M ++ (txtW ct q TX tl pl ft wd n1 n2))))))) [(0, .ref u), (1, .long (zJ len_)), (3, .long (zJ bal_)), (5, .int (zI (M 6))), (6, .int (zI (sp_arc M (M 8)))), (7, .int (zI (M 9 / 24))), (8, .long (zJ rt)), (10, .long (zJ al)), (12, .int (zI e_)), (13, .long (zJ went_)), (15, .long (zJ sum_))] [] := by
  intro p e s m below meth c A H locs ls hx hb hr hts hown hlocks hml hE hA hP hD hS hl
  have hK := hE.1
  have hl : lv_has ls 20 [(0, .ref u), (1, .long (zJ len_)), (3, .long (zJ bal_)), (5, .int (zI (M 6))), (6, .int (zI (sp_arc M (M 8)))), (7, .int (zI (M 9 / 24))), (8, .long (zJ rt)), (10, .long (zJ al)), (12, .int (zI e_)), (13, .long (zJ went_)), (15, .long (zJ sum_))] := hl
  have hs := hL.1
  have hI := hs.1
  have hB := hs.2.1
  have ha := hs.2.2
  have t1 := ht.1
  have j2 := hB.2.2.1
  refine lv_aload_n hx hb dL_sound_468 rfl (lv_at hl 0 rfl) ?_
  refine z_bipush hx hb dL_sound_469 (by decide) ?_
  refine z_callSW (As := [.ref u, .int (zI 10)]) (rest := []) ([] : va_W) ([] : va_W) hx hb hml hown hts hl hE hS hA (zr0 ([] : va_W) hP) (zr0D ([] : va_W) hD) (c_L_whole_ok l D ct ad u a r q b nx sz S M TX tl pl ft n1 n2 wd 10 (by assumption) (by omega) (by omega)) gL_sound_L_whole rfl k_L_whole ⟨Nat.le_of_ble_eq_true rfl, Nat.le_of_ble_eq_true rfl⟩ rfl (Nat.le_of_ble_eq_true rfl) ⟨Nat.le_of_ble_eq_true rfl, Nat.le_of_ble_eq_true rfl⟩ dL_sound_471 rfl (fun v w1 H locs hpost hP hD hS => ?_)
  obtain ⟨rfl, rfl⟩ := hpost
  have hP := zr0' hP
  have hD := zr0D' hD
  have hP : va_P D vwCl (x8W u a r q ++ (svW ct r b nx sz S ++ (sobjW a ++ (gridW ct a M ++ (benchW ct a M ++ (logW ct a M ++ (txtW ct q TX tl pl ft wd n1 n2))))))) H := hP
  have hD : va_D A (x8W u a r q ++ (svW ct r b nx sz S ++ (sobjW a ++ (gridW ct a M ++ (benchW ct a M ++ (logW ct a M ++ (txtW ct q TX tl pl ft wd n1 n2))))))) := hD
  refine W.eq (g2 := F0 m 474 ls [.int (zI (sp_wh M tl 10))]) rfl ?_
  refine z_canI (show sp_wh M tl 10 = M 9 from rfl) ?_
  refine z_bipush hx hb dL_sound_474 (by decide) ?_
  refine z_irem hx hb dL_sound_476 (by omega) (by omega) ?_
  refine z_if_ne (tgt := 491) hx hb dL_sound_477 (by decide) (by omega) (fun hc_477 => ?_) (fun hc_477 => ?_)
  · have hc_477 := hc_477
    refine z_iconst hx hb dL_sound_491 ?_
    exact g_L_sound_492 l D ct ad u a r q b nx sz S M TX tl pl ft n1 n2 wd len_ bal_ rt al e_ went_ sum_ 0 (by assumption) (by assumption) (show len_ = sp_len M (M 6) from (by first | assumption | omega)) (show bal_ = sp_bal M from (by first | assumption | omega)) (show rt = sp_rateM M + sp_loss M (M 8) from (by first | assumption | omega)) (show al = 43200000 * (M 0 - len_) from (by first | assumption | omega)) (show -1000000000 ≤ rt ∧ rt ≤ 1000000000 from (by first | assumption | omega)) (show (e_ = 0 ∨ e_ = 1) ∧ (e_ = 0 → rt * M 0 ≤ al ∧ al < (rt + 1) * M 0) from (by first | assumption | omega)) (show went_ = lSum M 3 (M 15).toNat from (by first | assumption | omega)) (show sum_ = lSum M 2 (M 15).toNat from (by first | assumption | omega)) (show (0 = 0 ∨ 0 = 1) ∧ (0 = 1 → M 9 % 24 = 0 ∧ M 9 / 24 ≤ 10) from (by first | assumption | omega)) p e s m below meth c A _ _ _ hx hb hr hts hown hlocks hml hE hA hP hD hS (lv_sub hl [0, 1, 2, 3, 4, 5, 6, 7, 8, 9, 10] rfl)
  · have hc_477 := hc_477
    refine lv_iload hx hb dL_sound_480 (lv_at hl 5 rfl) ?_
    refine z_bipush hx hb dL_sound_482 (by decide) ?_
    refine z_icmp_gt (tgt := 491) hx hb dL_sound_484 (by decide) (by omega) (by omega) (fun hc_484 => ?_) (fun hc_484 => ?_)
    · have hc_484 := hc_484
      refine z_iconst hx hb dL_sound_491 ?_
      exact g_L_sound_492 l D ct ad u a r q b nx sz S M TX tl pl ft n1 n2 wd len_ bal_ rt al e_ went_ sum_ 0 (by assumption) (by assumption) (show len_ = sp_len M (M 6) from (by first | assumption | omega)) (show bal_ = sp_bal M from (by first | assumption | omega)) (show rt = sp_rateM M + sp_loss M (M 8) from (by first | assumption | omega)) (show al = 43200000 * (M 0 - len_) from (by first | assumption | omega)) (show -1000000000 ≤ rt ∧ rt ≤ 1000000000 from (by first | assumption | omega)) (show (e_ = 0 ∨ e_ = 1) ∧ (e_ = 0 → rt * M 0 ≤ al ∧ al < (rt + 1) * M 0) from (by first | assumption | omega)) (show went_ = lSum M 3 (M 15).toNat from (by first | assumption | omega)) (show sum_ = lSum M 2 (M 15).toNat from (by first | assumption | omega)) (show (0 = 0 ∨ 0 = 1) ∧ (0 = 1 → M 9 % 24 = 0 ∧ M 9 / 24 ≤ 10) from (by first | assumption | omega)) p e s m below meth c A _ _ _ hx hb hr hts hown hlocks hml hE hA hP hD hS (lv_sub hl [0, 1, 2, 3, 4, 5, 6, 7, 8, 9, 10] rfl)
    · have hc_484 := hc_484
      refine z_iconst hx hb dL_sound_487 ?_
      refine lv_goto (tgt := 492) hx hb dL_sound_488 (by decide) ?_
      exact g_L_sound_492 l D ct ad u a r q b nx sz S M TX tl pl ft n1 n2 wd len_ bal_ rt al e_ went_ sum_ 1 (by assumption) (by assumption) (show len_ = sp_len M (M 6) from (by first | assumption | omega)) (show bal_ = sp_bal M from (by first | assumption | omega)) (show rt = sp_rateM M + sp_loss M (M 8) from (by first | assumption | omega)) (show al = 43200000 * (M 0 - len_) from (by first | assumption | omega)) (show -1000000000 ≤ rt ∧ rt ≤ 1000000000 from (by first | assumption | omega)) (show (e_ = 0 ∨ e_ = 1) ∧ (e_ = 0 → rt * M 0 ≤ al ∧ al < (rt + 1) * M 0) from (by first | assumption | omega)) (show went_ = lSum M 3 (M 15).toNat from (by first | assumption | omega)) (show sum_ = lSum M 2 (M 15).toNat from (by first | assumption | omega)) (show (1 = 0 ∨ 1 = 1) ∧ (1 = 1 → M 9 % 24 = 0 ∧ M 9 / 24 ≤ 10) from (by first | assumption | omega)) p e s m below meth c A _ _ _ hx hb hr hts hown hlocks hml hE hA hP hD hS (lv_sub hl [0, 1, 2, 3, 4, 5, 6, 7, 8, 9, 10] rfl)
set_option maxHeartbeats 4000000 in
set_option maxRecDepth 100000 in
theorem g_L_sound_336 (l : Launch) (D : va_G) (ct ad : Nat → Nat) (u : Nat) (a r q : Nat → Nat) (b : Nat → Nat → Nat) (nx sz : Int) (S : Nat → Int → Int) (M TX : Int → Int) (tl pl ft n1 n2 : Int) (wd : Value) (len_ : Int) (bal_ : Int) (rt : Int) (al : Int) (e_ : Int) (hL : LInv M) (ht : tInv TX tl) (eL : len_ = sp_len M (M 6)) (eB : bal_ = sp_bal M) (hrt : rt = sp_rateM M + sp_loss M (M 8)) (hal : al = 43200000 * (M 0 - len_)) (rB : -1000000000 ≤ rt ∧ rt ≤ 1000000000) (he : (e_ = 0 ∨ e_ = 1) ∧ (e_ = 0 → rt * M 0 ≤ al ∧ al < (rt + 1) * M 0)) : ZG l yL_sound cL_sound wsL_sound ({ frames := 7, cells := 0, slots := 0, locals := 164 } : Room) 20 (some .boolean) D ct ad [.ref u] (zD (some (.int (zI 1))) (x8W u a r q ++ (svW ct r b nx sz S ++ (sobjW a ++ (gridW ct a M ++ (benchW ct a M ++ (logW ct a M ++ (txtW ct q TX tl pl ft wd n1 n2)))))))) 0 0 336 (x8W u a r q ++ (svW ct r b nx sz S ++ (sobjW a ++ (gridW ct a M ++ (benchW ct a M ++ (logW ct a M ++ (txtW ct q TX tl pl ft wd n1 n2))))))) [(0, .ref u), (1, .long (zJ len_)), (3, .long (zJ bal_)), (5, .int (zI (M 6))), (6, .int (zI (sp_arc M (M 8)))), (7, .int (zI (M 9 / 24))), (8, .long (zJ rt)), (10, .long (zJ al))] [.int (zI e_)] := by
  intro p e s m below meth c A H locs ls hx hb hr hts hown hlocks hml hE hA hP hD hS hl
  have hK := hE.1
  have hf_0 := hts (.constantLong RL 114 (24)) (by decide +kernel)
  have hf_1 := hts (.constantLong RL 116 (-300)) (by decide +kernel)
  have hf_2 := hts (.constantLong RL 118 (600)) (by decide +kernel)
  have hl : lv_has ls 20 [(0, .ref u), (1, .long (zJ len_)), (3, .long (zJ bal_)), (5, .int (zI (M 6))), (6, .int (zI (sp_arc M (M 8)))), (7, .int (zI (M 9 / 24))), (8, .long (zJ rt)), (10, .long (zJ al))] := hl
  have hs := hL.1
  have hI := hs.1
  have hB := hs.2.1
  have ha := hs.2.2
  have t1 := ht.1
  have j1 := hB.2.1
  have j4 := hB.2.2.2.2
  refine lv_istore (lv' := [(12, .int (zI e_)), (0, .ref u), (1, .long (zJ len_)), (3, .long (zJ bal_)), (5, .int (zI (M 6))), (6, .int (zI (sp_arc M (M 8)))), (7, .int (zI (M 9 / 24))), (8, .long (zJ rt)), (10, .long (zJ al))]) hx hb dL_sound_336 hl (by decide) rfl (fun ls hl => ?_)
  refine z_lconst (z := 0) hx hb dL_sound_338 rfl ?_
  refine lv_lstore (lv' := [(13, .long (zJ 0)), (12, .int (zI e_)), (0, .ref u), (1, .long (zJ len_)), (3, .long (zJ bal_)), (5, .int (zI (M 6))), (6, .int (zI (sp_arc M (M 8)))), (7, .int (zI (M 9 / 24))), (8, .long (zJ rt)), (10, .long (zJ al))]) hx hb dL_sound_339 hl (by decide) rfl (fun ls hl => ?_)
  refine z_lconst (z := 0) hx hb dL_sound_341 rfl ?_
  refine lv_lstore (lv' := [(15, .long (zJ 0)), (13, .long (zJ 0)), (12, .int (zI e_)), (0, .ref u), (1, .long (zJ len_)), (3, .long (zJ bal_)), (5, .int (zI (M 6))), (6, .int (zI (sp_arc M (M 8)))), (7, .int (zI (M 9 / 24))), (8, .long (zJ rt)), (10, .long (zJ al))]) hx hb dL_sound_342 hl (by decide) rfl (fun ls hl => ?_)
  refine z_iconst hx hb dL_sound_344 ?_
  refine lv_istore (lv' := [(17, .int (zI 0)), (15, .long (zJ 0)), (13, .long (zJ 0)), (12, .int (zI e_)), (0, .ref u), (1, .long (zJ len_)), (3, .long (zJ bal_)), (5, .int (zI (M 6))), (6, .int (zI (sp_arc M (M 8)))), (7, .int (zI (M 9 / 24))), (8, .long (zJ rt)), (10, .long (zJ al))]) hx hb dL_sound_345 hl (by decide) rfl (fun ls hl => ?_)
  refine z_loop (σ := Int × Int × Int) (fun q9 => (M 15 - q9.1).toNat) (fun q9 => (0 ≤ q9.1 ∧ q9.1 ≤ M 15) ∧ (q9.2.1 = lSum M 3 q9.1.toNat) ∧ (q9.2.2 = lSum M 2 q9.1.toNat)) (fun q9 => x8W u a r q ++ (svW ct r b nx sz S ++ (sobjW a ++ (gridW ct a M ++ (benchW ct a M ++ (logW ct a M ++ (txtW ct q TX tl pl ft wd n1 n2))))))) (fun q9 => [(0, .ref u), (1, .long (zJ len_)), (3, .long (zJ bal_)), (5, .int (zI (M 6))), (6, .int (zI (sp_arc M (M 8)))), (7, .int (zI (M 9 / 24))), (8, .long (zJ rt)), (10, .long (zJ al)), (12, .int (zI e_)), (13, .long (zJ q9.2.1)), (15, .long (zJ q9.2.2)), (17, .int (zI q9.1))]) (fun q9 => []) (0, 0, 0) ⟨(show 0 ≤ 0 ∧ 0 ≤ M 15 from (by omega)), (show 0 = lSum M 3 (0 : Int).toNat from (by rfl)), (show 0 = lSum M 2 (0 : Int).toNat from (by rfl))⟩ hP hD hS (lv_sub hl [4, 5, 6, 7, 8, 9, 10, 11, 3, 2, 1, 0] rfl) rfl ?_
  rintro ⟨d_, went_, sum_⟩ hI_347 ih_347 H locs ls hP hD hS hl
  obtain ⟨hd, hwent, hsum⟩ := hI_347
  have hd : 0 ≤ d_ ∧ d_ ≤ M 15 := hd
  have hwent : went_ = lSum M 3 d_.toNat := hwent
  have hsum : sum_ = lSum M 2 d_.toNat := hsum
  have hP : va_P D vwCl (x8W u a r q ++ (svW ct r b nx sz S ++ (sobjW a ++ (gridW ct a M ++ (benchW ct a M ++ (logW ct a M ++ (txtW ct q TX tl pl ft wd n1 n2))))))) H := hP
  have hD : va_D A (x8W u a r q ++ (svW ct r b nx sz S ++ (sobjW a ++ (gridW ct a M ++ (benchW ct a M ++ (logW ct a M ++ (txtW ct q TX tl pl ft wd n1 n2))))))) := hD
  have hl : lv_has ls 20 [(0, .ref u), (1, .long (zJ len_)), (3, .long (zJ bal_)), (5, .int (zI (M 6))), (6, .int (zI (sp_arc M (M 8)))), (7, .int (zI (M 9 / 24))), (8, .long (zJ rt)), (10, .long (zJ al)), (12, .int (zI e_)), (13, .long (zJ went_)), (15, .long (zJ sum_)), (17, .int (zI d_))] := hl
  refine lv_iload hx hb dL_sound_347 (lv_at hl 11 rfl) ?_
  refine lv_aload_n hx hb dL_sound_349 rfl (lv_at hl 0 rfl) ?_
  refine z_bipush hx hb dL_sound_350 (by decide) ?_
  refine z_callSW (As := [.ref u, .int (zI 16)]) (rest := [.int (zI d_)]) ([] : va_W) ([] : va_W) hx hb hml hown hts hl hE hS hA (zr0 ([] : va_W) hP) (zr0D ([] : va_W) hD) (c_L_whole_ok l D ct ad u a r q b nx sz S M TX tl pl ft n1 n2 wd 16 (by assumption) (by omega) (by omega)) gL_sound_L_whole rfl k_L_whole ⟨Nat.le_of_ble_eq_true rfl, Nat.le_of_ble_eq_true rfl⟩ rfl (Nat.le_of_ble_eq_true rfl) ⟨Nat.le_of_ble_eq_true rfl, Nat.le_of_ble_eq_true rfl⟩ dL_sound_352 rfl (fun v w1 H locs hpost hP hD hS => ?_)
  obtain ⟨rfl, rfl⟩ := hpost
  have hP := zr0' hP
  have hD := zr0D' hD
  have hP : va_P D vwCl (x8W u a r q ++ (svW ct r b nx sz S ++ (sobjW a ++ (gridW ct a M ++ (benchW ct a M ++ (logW ct a M ++ (txtW ct q TX tl pl ft wd n1 n2))))))) H := hP
  have hD : va_D A (x8W u a r q ++ (svW ct r b nx sz S ++ (sobjW a ++ (gridW ct a M ++ (benchW ct a M ++ (logW ct a M ++ (txtW ct q TX tl pl ft wd n1 n2))))))) := hD
  refine W.eq (g2 := F0 m 355 ls [.int (zI (sp_wh M tl 16)), .int (zI d_)]) rfl ?_
  refine z_canI (show sp_wh M tl 16 = M 15 from rfl) ?_
  refine z_icmp_ge (tgt := 468) hx hb dL_sound_355 (by decide) (by omega) (by omega) (fun hc_355 => ?_) (fun hc_355 => ?_)
  · have hc_355 := hc_355
    exact g_L_sound_468 l D ct ad u a r q b nx sz S M TX tl pl ft n1 n2 wd len_ bal_ rt al e_ went_ sum_ (by assumption) (by assumption) (show len_ = sp_len M (M 6) from (by first | assumption | omega)) (show bal_ = sp_bal M from (by first | assumption | omega)) (show rt = sp_rateM M + sp_loss M (M 8) from (by first | assumption | omega)) (show al = 43200000 * (M 0 - len_) from (by first | assumption | omega)) (show -1000000000 ≤ rt ∧ rt ≤ 1000000000 from (by first | assumption | omega)) (show (e_ = 0 ∨ e_ = 1) ∧ (e_ = 0 → rt * M 0 ≤ al ∧ al < (rt + 1) * M 0) from (by first | assumption | omega)) (show went_ = lSum M 3 (M 15).toNat from (by rw [hwent, show d_ = M 15 by omega])) (show sum_ = lSum M 2 (M 15).toNat from (by rw [hsum, show d_ = M 15 by omega])) p e s m below meth c A _ _ _ hx hb hr hts hown hlocks hml hE hA hP hD hS (lv_sub hl [0, 1, 2, 3, 4, 5, 6, 7, 8, 9, 10] rfl)
  · have hc_355 := hc_355
    have qd := hL.2.1 d_ (by omega) (by omega)
    unfold lDay at qd
    refine lv_lload hx hb dL_sound_358 (lv_at hl 9 rfl) ?_
    refine lv_aload_n hx hb dL_sound_360 rfl (lv_at hl 0 rfl) ?_
    refine lv_iload hx hb dL_sound_361 (lv_at hl 11 rfl) ?_
    refine z_iconst hx hb dL_sound_363 ?_
    refine z_callSW (As := [.ref u, .int (zI d_), .int (zI 3)]) (rest := [.long (zJ went_)]) ([] : va_W) ([] : va_W) hx hb hml hown hts hl hE hS hA (zr0 ([] : va_W) hP) (zr0D ([] : va_W) hD) (c_L_day_ok l D ct ad u a r q b nx sz S M TX tl pl ft n1 n2 wd d_ 3 (by assumption) (by omega) (by omega) (by omega)) gL_sound_L_day rfl k_L_day ⟨Nat.le_of_ble_eq_true rfl, Nat.le_of_ble_eq_true rfl⟩ rfl (Nat.le_of_ble_eq_true rfl) ⟨Nat.le_of_ble_eq_true rfl, Nat.le_of_ble_eq_true rfl⟩ dL_sound_364 rfl (fun v w1 H locs hpost hP hD hS => ?_)
    obtain ⟨rfl, rfl⟩ := hpost
    have hP := zr0' hP
    have hD := zr0D' hD
    have hP : va_P D vwCl (x8W u a r q ++ (svW ct r b nx sz S ++ (sobjW a ++ (gridW ct a M ++ (benchW ct a M ++ (logW ct a M ++ (txtW ct q TX tl pl ft wd n1 n2))))))) H := hP
    have hD : va_D A (x8W u a r q ++ (svW ct r b nx sz S ++ (sobjW a ++ (gridW ct a M ++ (benchW ct a M ++ (logW ct a M ++ (txtW ct q TX tl pl ft wd n1 n2))))))) := hD
    refine W.eq (g2 := F0 m 367 ls [.long (zJ (sp_dayv M d_ 3)), .long (zJ went_)]) rfl ?_
    refine z_canL (show sp_dayv M d_ 3 = M (54 + 4 * d_ + 3) from (if_pos (by omega))) ?_
    refine z_ladd hx hb dL_sound_367 ?_
    refine lv_lstore (lv' := [(13, .long (zJ (went_ + (M (54 + 4 * d_ + 3))))), (0, .ref u), (1, .long (zJ len_)), (3, .long (zJ bal_)), (5, .int (zI (M 6))), (6, .int (zI (sp_arc M (M 8)))), (7, .int (zI (M 9 / 24))), (8, .long (zJ rt)), (10, .long (zJ al)), (12, .int (zI e_)), (15, .long (zJ sum_)), (17, .int (zI d_))]) hx hb dL_sound_368 hl (by decide) rfl (fun ls hl => ?_)
    refine lv_lload hx hb dL_sound_370 (lv_at hl 10 rfl) ?_
    refine lv_aload_n hx hb dL_sound_372 rfl (lv_at hl 1 rfl) ?_
    refine lv_iload hx hb dL_sound_373 (lv_at hl 11 rfl) ?_
    refine z_iconst hx hb dL_sound_375 ?_
    refine z_callSW (As := [.ref u, .int (zI d_), .int (zI 2)]) (rest := [.long (zJ sum_)]) ([] : va_W) ([] : va_W) hx hb hml hown hts hl hE hS hA (zr0 ([] : va_W) hP) (zr0D ([] : va_W) hD) (c_L_day_ok l D ct ad u a r q b nx sz S M TX tl pl ft n1 n2 wd d_ 2 (by assumption) (by omega) (by omega) (by omega)) gL_sound_L_day rfl k_L_day ⟨Nat.le_of_ble_eq_true rfl, Nat.le_of_ble_eq_true rfl⟩ rfl (Nat.le_of_ble_eq_true rfl) ⟨Nat.le_of_ble_eq_true rfl, Nat.le_of_ble_eq_true rfl⟩ dL_sound_376 rfl (fun v w1 H locs hpost hP hD hS => ?_)
    obtain ⟨rfl, rfl⟩ := hpost
    have hP := zr0' hP
    have hD := zr0D' hD
    have hP : va_P D vwCl (x8W u a r q ++ (svW ct r b nx sz S ++ (sobjW a ++ (gridW ct a M ++ (benchW ct a M ++ (logW ct a M ++ (txtW ct q TX tl pl ft wd n1 n2))))))) H := hP
    have hD : va_D A (x8W u a r q ++ (svW ct r b nx sz S ++ (sobjW a ++ (gridW ct a M ++ (benchW ct a M ++ (logW ct a M ++ (txtW ct q TX tl pl ft wd n1 n2))))))) := hD
    refine W.eq (g2 := F0 m 379 ls [.long (zJ (sp_dayv M d_ 2)), .long (zJ sum_)]) rfl ?_
    refine z_canL (show sp_dayv M d_ 2 = M (54 + 4 * d_ + 2) from (if_pos (by omega))) ?_
    refine z_ladd hx hb dL_sound_379 ?_
    refine lv_lstore (lv' := [(15, .long (zJ (sum_ + (M (54 + 4 * d_ + 2))))), (13, .long (zJ (went_ + (M (54 + 4 * d_ + 3))))), (0, .ref u), (1, .long (zJ len_)), (3, .long (zJ bal_)), (5, .int (zI (M 6))), (6, .int (zI (sp_arc M (M 8)))), (7, .int (zI (M 9 / 24))), (8, .long (zJ rt)), (10, .long (zJ al)), (12, .int (zI e_)), (17, .int (zI d_))]) hx hb dL_sound_380 hl (by decide) rfl (fun ls hl => ?_)
    refine lv_aload_n hx hb dL_sound_382 rfl (lv_at hl 2 rfl) ?_
    refine lv_iload hx hb dL_sound_383 (lv_at hl 11 rfl) ?_
    refine z_iconst hx hb dL_sound_385 ?_
    refine z_callSW (As := [.ref u, .int (zI d_), .int (zI 3)]) (rest := []) ([] : va_W) ([] : va_W) hx hb hml hown hts hl hE hS hA (zr0 ([] : va_W) hP) (zr0D ([] : va_W) hD) (c_L_day_ok l D ct ad u a r q b nx sz S M TX tl pl ft n1 n2 wd d_ 3 (by assumption) (by omega) (by omega) (by omega)) gL_sound_L_day rfl k_L_day ⟨Nat.le_of_ble_eq_true rfl, Nat.le_of_ble_eq_true rfl⟩ rfl (Nat.le_of_ble_eq_true rfl) ⟨Nat.le_of_ble_eq_true rfl, Nat.le_of_ble_eq_true rfl⟩ dL_sound_386 rfl (fun v w1 H locs hpost hP hD hS => ?_)
    obtain ⟨rfl, rfl⟩ := hpost
    have hP := zr0' hP
    have hD := zr0D' hD
    have hP : va_P D vwCl (x8W u a r q ++ (svW ct r b nx sz S ++ (sobjW a ++ (gridW ct a M ++ (benchW ct a M ++ (logW ct a M ++ (txtW ct q TX tl pl ft wd n1 n2))))))) H := hP
    have hD : va_D A (x8W u a r q ++ (svW ct r b nx sz S ++ (sobjW a ++ (gridW ct a M ++ (benchW ct a M ++ (logW ct a M ++ (txtW ct q TX tl pl ft wd n1 n2))))))) := hD
    refine W.eq (g2 := F0 m 389 ls [.long (zJ (sp_dayv M d_ 3))]) rfl ?_
    refine z_canL (show sp_dayv M d_ 3 = M (54 + 4 * d_ + 3) from (if_pos (by omega))) ?_
    refine z_lconst (z := 0) hx hb dL_sound_389 rfl ?_
    refine z_lcmp_lt (tgt := 460) hx hb dL_sound_390 dL_sound_391 (by decide) (by omega) (by omega) (fun hc_390 => ?_) (fun hc_390 => ?_)
    · have hc_390 := hc_390
      omega
    have hc_390 := hc_390
    refine lv_aload_n hx hb dL_sound_394 rfl (lv_at hl 2 rfl) ?_
    refine lv_iload hx hb dL_sound_395 (lv_at hl 11 rfl) ?_
    refine z_iconst hx hb dL_sound_397 ?_
    refine z_callSW (As := [.ref u, .int (zI d_), .int (zI 3)]) (rest := []) ([] : va_W) ([] : va_W) hx hb hml hown hts hl hE hS hA (zr0 ([] : va_W) hP) (zr0D ([] : va_W) hD) (c_L_day_ok l D ct ad u a r q b nx sz S M TX tl pl ft n1 n2 wd d_ 3 (by assumption) (by omega) (by omega) (by omega)) gL_sound_L_day rfl k_L_day ⟨Nat.le_of_ble_eq_true rfl, Nat.le_of_ble_eq_true rfl⟩ rfl (Nat.le_of_ble_eq_true rfl) ⟨Nat.le_of_ble_eq_true rfl, Nat.le_of_ble_eq_true rfl⟩ dL_sound_398 rfl (fun v w1 H locs hpost hP hD hS => ?_)
    obtain ⟨rfl, rfl⟩ := hpost
    have hP := zr0' hP
    have hD := zr0D' hD
    have hP : va_P D vwCl (x8W u a r q ++ (svW ct r b nx sz S ++ (sobjW a ++ (gridW ct a M ++ (benchW ct a M ++ (logW ct a M ++ (txtW ct q TX tl pl ft wd n1 n2))))))) H := hP
    have hD : va_D A (x8W u a r q ++ (svW ct r b nx sz S ++ (sobjW a ++ (gridW ct a M ++ (benchW ct a M ++ (logW ct a M ++ (txtW ct q TX tl pl ft wd n1 n2))))))) := hD
    refine W.eq (g2 := F0 m 401 ls [.long (zJ (sp_dayv M d_ 3))]) rfl ?_
    refine z_canL (show sp_dayv M d_ 3 = M (54 + 4 * d_ + 3) from (if_pos (by omega))) ?_
    refine z_ldc2 hx hb 24 hown hf_0 (by decide) dL_sound_401 ?_
    refine z_lcmp_gt (tgt := 460) hx hb dL_sound_404 dL_sound_405 (by decide) (by omega) (by omega) (fun hc_404 => ?_) (fun hc_404 => ?_)
    · have hc_404 := hc_404
      omega
    have hc_404 := hc_404
    refine lv_aload_n hx hb dL_sound_408 rfl (lv_at hl 2 rfl) ?_
    refine lv_iload hx hb dL_sound_409 (lv_at hl 11 rfl) ?_
    refine z_iconst hx hb dL_sound_411 ?_
    refine z_callSW (As := [.ref u, .int (zI d_), .int (zI 3)]) (rest := []) ([] : va_W) ([] : va_W) hx hb hml hown hts hl hE hS hA (zr0 ([] : va_W) hP) (zr0D ([] : va_W) hD) (c_L_day_ok l D ct ad u a r q b nx sz S M TX tl pl ft n1 n2 wd d_ 3 (by assumption) (by omega) (by omega) (by omega)) gL_sound_L_day rfl k_L_day ⟨Nat.le_of_ble_eq_true rfl, Nat.le_of_ble_eq_true rfl⟩ rfl (Nat.le_of_ble_eq_true rfl) ⟨Nat.le_of_ble_eq_true rfl, Nat.le_of_ble_eq_true rfl⟩ dL_sound_412 rfl (fun v w1 H locs hpost hP hD hS => ?_)
    obtain ⟨rfl, rfl⟩ := hpost
    have hP := zr0' hP
    have hD := zr0D' hD
    have hP : va_P D vwCl (x8W u a r q ++ (svW ct r b nx sz S ++ (sobjW a ++ (gridW ct a M ++ (benchW ct a M ++ (logW ct a M ++ (txtW ct q TX tl pl ft wd n1 n2))))))) H := hP
    have hD : va_D A (x8W u a r q ++ (svW ct r b nx sz S ++ (sobjW a ++ (gridW ct a M ++ (benchW ct a M ++ (logW ct a M ++ (txtW ct q TX tl pl ft wd n1 n2))))))) := hD
    refine W.eq (g2 := F0 m 415 ls [.long (zJ (sp_dayv M d_ 3))]) rfl ?_
    refine z_canL (show sp_dayv M d_ 3 = M (54 + 4 * d_ + 3) from (if_pos (by omega))) ?_
    refine z_lconst (z := 0) hx hb dL_sound_415 rfl ?_
    refine z_lcmp_ne (tgt := 432) hx hb dL_sound_416 dL_sound_417 (by decide) (by omega) (by omega) (fun hc_416 => ?_) (fun hc_416 => ?_)
    · have hc_416 := hc_416
      refine lv_aload_n hx hb dL_sound_432 rfl (lv_at hl 2 rfl) ?_
      refine lv_iload hx hb dL_sound_433 (lv_at hl 11 rfl) ?_
      refine z_iconst hx hb dL_sound_435 ?_
      refine z_callSW (As := [.ref u, .int (zI d_), .int (zI 0)]) (rest := []) ([] : va_W) ([] : va_W) hx hb hml hown hts hl hE hS hA (zr0 ([] : va_W) hP) (zr0D ([] : va_W) hD) (c_L_day_ok l D ct ad u a r q b nx sz S M TX tl pl ft n1 n2 wd d_ 0 (by assumption) (by omega) (by omega) (by omega)) gL_sound_L_day rfl k_L_day ⟨Nat.le_of_ble_eq_true rfl, Nat.le_of_ble_eq_true rfl⟩ rfl (Nat.le_of_ble_eq_true rfl) ⟨Nat.le_of_ble_eq_true rfl, Nat.le_of_ble_eq_true rfl⟩ dL_sound_436 rfl (fun v w1 H locs hpost hP hD hS => ?_)
      obtain ⟨rfl, rfl⟩ := hpost
      have hP := zr0' hP
      have hD := zr0D' hD
      have hP : va_P D vwCl (x8W u a r q ++ (svW ct r b nx sz S ++ (sobjW a ++ (gridW ct a M ++ (benchW ct a M ++ (logW ct a M ++ (txtW ct q TX tl pl ft wd n1 n2))))))) H := hP
      have hD : va_D A (x8W u a r q ++ (svW ct r b nx sz S ++ (sobjW a ++ (gridW ct a M ++ (benchW ct a M ++ (logW ct a M ++ (txtW ct q TX tl pl ft wd n1 n2))))))) := hD
      refine W.eq (g2 := F0 m 439 ls [.long (zJ (sp_dayv M d_ 0))]) rfl ?_
      refine z_canL (show sp_dayv M d_ 0 = M (54 + 4 * d_ + 0) from (if_pos (by omega))) ?_
      refine z_ldc2 hx hb (-300) hown hf_1 (by decide) dL_sound_439 ?_
      refine z_lcmp_lt (tgt := 460) hx hb dL_sound_442 dL_sound_443 (by decide) (by omega) (by omega) (fun hc_442 => ?_) (fun hc_442 => ?_)
      · have hc_442 := hc_442
        omega
      have hc_442 := hc_442
      refine lv_aload_n hx hb dL_sound_446 rfl (lv_at hl 2 rfl) ?_
      refine lv_iload hx hb dL_sound_447 (lv_at hl 11 rfl) ?_
      refine z_iconst hx hb dL_sound_449 ?_
      refine z_callSW (As := [.ref u, .int (zI d_), .int (zI 0)]) (rest := []) ([] : va_W) ([] : va_W) hx hb hml hown hts hl hE hS hA (zr0 ([] : va_W) hP) (zr0D ([] : va_W) hD) (c_L_day_ok l D ct ad u a r q b nx sz S M TX tl pl ft n1 n2 wd d_ 0 (by assumption) (by omega) (by omega) (by omega)) gL_sound_L_day rfl k_L_day ⟨Nat.le_of_ble_eq_true rfl, Nat.le_of_ble_eq_true rfl⟩ rfl (Nat.le_of_ble_eq_true rfl) ⟨Nat.le_of_ble_eq_true rfl, Nat.le_of_ble_eq_true rfl⟩ dL_sound_450 rfl (fun v w1 H locs hpost hP hD hS => ?_)
      obtain ⟨rfl, rfl⟩ := hpost
      have hP := zr0' hP
      have hD := zr0D' hD
      have hP : va_P D vwCl (x8W u a r q ++ (svW ct r b nx sz S ++ (sobjW a ++ (gridW ct a M ++ (benchW ct a M ++ (logW ct a M ++ (txtW ct q TX tl pl ft wd n1 n2))))))) H := hP
      have hD : va_D A (x8W u a r q ++ (svW ct r b nx sz S ++ (sobjW a ++ (gridW ct a M ++ (benchW ct a M ++ (logW ct a M ++ (txtW ct q TX tl pl ft wd n1 n2))))))) := hD
      refine W.eq (g2 := F0 m 453 ls [.long (zJ (sp_dayv M d_ 0))]) rfl ?_
      refine z_canL (show sp_dayv M d_ 0 = M (54 + 4 * d_ + 0) from (if_pos (by omega))) ?_
      refine z_ldc2 hx hb 600 hown hf_2 (by decide) dL_sound_453 ?_
      refine z_lcmp_le (tgt := 462) hx hb dL_sound_456 dL_sound_457 (by decide) (by omega) (by omega) (fun hc_456 => ?_) (fun hc_456 => ?_)
      · have hc_456 := hc_456
        refine z_iinc (k := 11) (lv' := [(17, .int (zI (d_ + 1))), (15, .long (zJ (sum_ + (M (54 + 4 * d_ + 2))))), (13, .long (zJ (went_ + (M (54 + 4 * d_ + 3))))), (0, .ref u), (1, .long (zJ len_)), (3, .long (zJ bal_)), (5, .int (zI (M 6))), (6, .int (zI (sp_arc M (M 8)))), (7, .int (zI (M 9 / 24))), (8, .long (zJ rt)), (10, .long (zJ al)), (12, .int (zI e_))]) hx hb dL_sound_462 hl rfl (by decide) rfl (fun ls hl => ?_)
        refine lv_goto (tgt := 347) hx hb dL_sound_465 (by decide) ?_
        exact ih_347 (d_ + 1, went_ + (M (54 + 4 * d_ + 3)), sum_ + (M (54 + 4 * d_ + 2))) ⟨(show 0 ≤ (d_ + 1) ∧ (d_ + 1) ≤ M 15 from (by omega)), (show (went_ + (M (54 + 4 * d_ + 3))) = lSum M 3 (d_ + 1).toNat from (by rw [lSumS (by omega), hwent])), (show (sum_ + (M (54 + 4 * d_ + 2))) = lSum M 2 (d_ + 1).toNat from (by rw [lSumS (by omega), hsum]))⟩ (show (M 15 - (d_ + 1)).toNat < (M 15 - d_).toNat from (by omega)) _ _ _ hP hD hS (lv_sub hl [3, 4, 5, 6, 7, 8, 9, 10, 11, 2, 1, 0] rfl)
      · have hc_456 := hc_456
        omega
    · have hc_416 := hc_416
      refine lv_aload_n hx hb dL_sound_420 rfl (lv_at hl 2 rfl) ?_
      refine lv_iload hx hb dL_sound_421 (lv_at hl 11 rfl) ?_
      refine z_iconst hx hb dL_sound_423 ?_
      refine z_callSW (As := [.ref u, .int (zI d_), .int (zI 2)]) (rest := []) ([] : va_W) ([] : va_W) hx hb hml hown hts hl hE hS hA (zr0 ([] : va_W) hP) (zr0D ([] : va_W) hD) (c_L_day_ok l D ct ad u a r q b nx sz S M TX tl pl ft n1 n2 wd d_ 2 (by assumption) (by omega) (by omega) (by omega)) gL_sound_L_day rfl k_L_day ⟨Nat.le_of_ble_eq_true rfl, Nat.le_of_ble_eq_true rfl⟩ rfl (Nat.le_of_ble_eq_true rfl) ⟨Nat.le_of_ble_eq_true rfl, Nat.le_of_ble_eq_true rfl⟩ dL_sound_424 rfl (fun v w1 H locs hpost hP hD hS => ?_)
      obtain ⟨rfl, rfl⟩ := hpost
      have hP := zr0' hP
      have hD := zr0D' hD
      have hP : va_P D vwCl (x8W u a r q ++ (svW ct r b nx sz S ++ (sobjW a ++ (gridW ct a M ++ (benchW ct a M ++ (logW ct a M ++ (txtW ct q TX tl pl ft wd n1 n2))))))) H := hP
      have hD : va_D A (x8W u a r q ++ (svW ct r b nx sz S ++ (sobjW a ++ (gridW ct a M ++ (benchW ct a M ++ (logW ct a M ++ (txtW ct q TX tl pl ft wd n1 n2))))))) := hD
      refine W.eq (g2 := F0 m 427 ls [.long (zJ (sp_dayv M d_ 2))]) rfl ?_
      refine z_canL (show sp_dayv M d_ 2 = M (54 + 4 * d_ + 2) from (if_pos (by omega))) ?_
      refine z_lconst (z := 0) hx hb dL_sound_427 rfl ?_
      refine z_lcmp_ne (tgt := 460) hx hb dL_sound_428 dL_sound_429 (by decide) (by omega) (by omega) (fun hc_428 => ?_) (fun hc_428 => ?_)
      · have hc_428 := hc_428
        omega
      have hc_428 := hc_428
      refine lv_aload_n hx hb dL_sound_432 rfl (lv_at hl 2 rfl) ?_
      refine lv_iload hx hb dL_sound_433 (lv_at hl 11 rfl) ?_
      refine z_iconst hx hb dL_sound_435 ?_
      refine z_callSW (As := [.ref u, .int (zI d_), .int (zI 0)]) (rest := []) ([] : va_W) ([] : va_W) hx hb hml hown hts hl hE hS hA (zr0 ([] : va_W) hP) (zr0D ([] : va_W) hD) (c_L_day_ok l D ct ad u a r q b nx sz S M TX tl pl ft n1 n2 wd d_ 0 (by assumption) (by omega) (by omega) (by omega)) gL_sound_L_day rfl k_L_day ⟨Nat.le_of_ble_eq_true rfl, Nat.le_of_ble_eq_true rfl⟩ rfl (Nat.le_of_ble_eq_true rfl) ⟨Nat.le_of_ble_eq_true rfl, Nat.le_of_ble_eq_true rfl⟩ dL_sound_436 rfl (fun v w1 H locs hpost hP hD hS => ?_)
      obtain ⟨rfl, rfl⟩ := hpost
      have hP := zr0' hP
      have hD := zr0D' hD
      have hP : va_P D vwCl (x8W u a r q ++ (svW ct r b nx sz S ++ (sobjW a ++ (gridW ct a M ++ (benchW ct a M ++ (logW ct a M ++ (txtW ct q TX tl pl ft wd n1 n2))))))) H := hP
      have hD : va_D A (x8W u a r q ++ (svW ct r b nx sz S ++ (sobjW a ++ (gridW ct a M ++ (benchW ct a M ++ (logW ct a M ++ (txtW ct q TX tl pl ft wd n1 n2))))))) := hD
      refine W.eq (g2 := F0 m 439 ls [.long (zJ (sp_dayv M d_ 0))]) rfl ?_
      refine z_canL (show sp_dayv M d_ 0 = M (54 + 4 * d_ + 0) from (if_pos (by omega))) ?_
      refine z_ldc2 hx hb (-300) hown hf_1 (by decide) dL_sound_439 ?_
      refine z_lcmp_lt (tgt := 460) hx hb dL_sound_442 dL_sound_443 (by decide) (by omega) (by omega) (fun hc_442 => ?_) (fun hc_442 => ?_)
      · have hc_442 := hc_442
        omega
      have hc_442 := hc_442
      refine lv_aload_n hx hb dL_sound_446 rfl (lv_at hl 2 rfl) ?_
      refine lv_iload hx hb dL_sound_447 (lv_at hl 11 rfl) ?_
      refine z_iconst hx hb dL_sound_449 ?_
      refine z_callSW (As := [.ref u, .int (zI d_), .int (zI 0)]) (rest := []) ([] : va_W) ([] : va_W) hx hb hml hown hts hl hE hS hA (zr0 ([] : va_W) hP) (zr0D ([] : va_W) hD) (c_L_day_ok l D ct ad u a r q b nx sz S M TX tl pl ft n1 n2 wd d_ 0 (by assumption) (by omega) (by omega) (by omega)) gL_sound_L_day rfl k_L_day ⟨Nat.le_of_ble_eq_true rfl, Nat.le_of_ble_eq_true rfl⟩ rfl (Nat.le_of_ble_eq_true rfl) ⟨Nat.le_of_ble_eq_true rfl, Nat.le_of_ble_eq_true rfl⟩ dL_sound_450 rfl (fun v w1 H locs hpost hP hD hS => ?_)
      obtain ⟨rfl, rfl⟩ := hpost
      have hP := zr0' hP
      have hD := zr0D' hD
      have hP : va_P D vwCl (x8W u a r q ++ (svW ct r b nx sz S ++ (sobjW a ++ (gridW ct a M ++ (benchW ct a M ++ (logW ct a M ++ (txtW ct q TX tl pl ft wd n1 n2))))))) H := hP
      have hD : va_D A (x8W u a r q ++ (svW ct r b nx sz S ++ (sobjW a ++ (gridW ct a M ++ (benchW ct a M ++ (logW ct a M ++ (txtW ct q TX tl pl ft wd n1 n2))))))) := hD
      refine W.eq (g2 := F0 m 453 ls [.long (zJ (sp_dayv M d_ 0))]) rfl ?_
      refine z_canL (show sp_dayv M d_ 0 = M (54 + 4 * d_ + 0) from (if_pos (by omega))) ?_
      refine z_ldc2 hx hb 600 hown hf_2 (by decide) dL_sound_453 ?_
      refine z_lcmp_le (tgt := 462) hx hb dL_sound_456 dL_sound_457 (by decide) (by omega) (by omega) (fun hc_456 => ?_) (fun hc_456 => ?_)
      · have hc_456 := hc_456
        refine z_iinc (k := 11) (lv' := [(17, .int (zI (d_ + 1))), (15, .long (zJ (sum_ + (M (54 + 4 * d_ + 2))))), (13, .long (zJ (went_ + (M (54 + 4 * d_ + 3))))), (0, .ref u), (1, .long (zJ len_)), (3, .long (zJ bal_)), (5, .int (zI (M 6))), (6, .int (zI (sp_arc M (M 8)))), (7, .int (zI (M 9 / 24))), (8, .long (zJ rt)), (10, .long (zJ al)), (12, .int (zI e_))]) hx hb dL_sound_462 hl rfl (by decide) rfl (fun ls hl => ?_)
        refine lv_goto (tgt := 347) hx hb dL_sound_465 (by decide) ?_
        exact ih_347 (d_ + 1, went_ + (M (54 + 4 * d_ + 3)), sum_ + (M (54 + 4 * d_ + 2))) ⟨(show 0 ≤ (d_ + 1) ∧ (d_ + 1) ≤ M 15 from (by omega)), (show (went_ + (M (54 + 4 * d_ + 3))) = lSum M 3 (d_ + 1).toNat from (by rw [lSumS (by omega), hwent])), (show (sum_ + (M (54 + 4 * d_ + 2))) = lSum M 2 (d_ + 1).toNat from (by rw [lSumS (by omega), hsum]))⟩ (show (M 15 - (d_ + 1)).toNat < (M 15 - d_).toNat from (by omega)) _ _ _ hP hD hS (lv_sub hl [3, 4, 5, 6, 7, 8, 9, 10, 11, 2, 1, 0] rfl)
      · have hc_456 := hc_456
        omega
set_option maxHeartbeats 4000000 in
set_option maxRecDepth 100000 in
theorem g_L_sound_221 (l : Launch) (D : va_G) (ct ad : Nat → Nat) (u : Nat) (a r q : Nat → Nat) (b : Nat → Nat → Nat) (nx sz : Int) (S : Nat → Int → Int) (M TX : Int → Int) (tl pl ft n1 n2 : Int) (wd : Value) (len_ : Int) (bal_ : Int) (hL : LInv M) (ht : tInv TX tl) (eL : len_ = sp_len M (M 6)) (eB : bal_ = sp_bal M) : ZG l yL_sound cL_sound wsL_sound ({ frames := 7, cells := 0, slots := 0, locals := 164 } : Room) 20 (some .boolean) D ct ad [.ref u] (zD (some (.int (zI 1))) (x8W u a r q ++ (svW ct r b nx sz S ++ (sobjW a ++ (gridW ct a M ++ (benchW ct a M ++ (logW ct a M ++ (txtW ct q TX tl pl ft wd n1 n2)))))))) 0 0 221 (x8W u a r q ++ (svW ct r b nx sz S ++ (sobjW a ++ (gridW ct a M ++ (benchW ct a M ++ (logW ct a M ++ (txtW ct q TX tl pl ft wd n1 n2))))))) [(0, .ref u), (1, .long (zJ len_)), (3, .long (zJ bal_)), (5, .int (zI (M 6)))] [] := by
  intro p e s m below meth c A H locs ls hx hb hr hts hown hlocks hml hE hA hP hD hS hl
  have hK := hE.1
  have hf_0 := hts (.constantLong RL 105 (43200000)) (by decide +kernel)
  have hf_1 := hts (.constantLong RL 107 (1000000000)) (by decide +kernel)
  have hf_2 := hts (.constantLong RL 109 (-1000000000)) (by decide +kernel)
  have hl : lv_has ls 20 [(0, .ref u), (1, .long (zJ len_)), (3, .long (zJ bal_)), (5, .int (zI (M 6)))] := hl
  have hs := hL.1
  have hI := hs.1
  have hB := hs.2.1
  have ha := hs.2.2
  have t1 := ht.1
  have j0 := hB.1
  have j1 := hB.2.1
  have j2 := hB.2.2.1
  have qa := sp_arcB hB j1.2.2.2
  have qr := sp_rateB (len := sp_len M (M 6)) hB j1.2.2.2
  have eR : sp_rateM M = sp_rate M (sp_len M (M 6)) (M 8) := rfl
  have qL := sp_lenB hI hB j1.2.1
  refine lv_aload_n hx hb dL_sound_221 rfl (lv_at hl 0 rfl) ?_
  refine z_bipush hx hb dL_sound_222 (by decide) ?_
  refine z_callSW (As := [.ref u, .int (zI 15)]) (rest := []) ([] : va_W) ([] : va_W) hx hb hml hown hts hl hE hS hA (zr0 ([] : va_W) hP) (zr0D ([] : va_W) hD) (c_L_whole_ok l D ct ad u a r q b nx sz S M TX tl pl ft n1 n2 wd 15 (by assumption) (by omega) (by omega)) gL_sound_L_whole rfl k_L_whole ⟨Nat.le_of_ble_eq_true rfl, Nat.le_of_ble_eq_true rfl⟩ rfl (Nat.le_of_ble_eq_true rfl) ⟨Nat.le_of_ble_eq_true rfl, Nat.le_of_ble_eq_true rfl⟩ dL_sound_224 rfl (fun v w1 H locs hpost hP hD hS => ?_)
  obtain ⟨rfl, rfl⟩ := hpost
  have hP := zr0' hP
  have hD := zr0D' hD
  have hP : va_P D vwCl (x8W u a r q ++ (svW ct r b nx sz S ++ (sobjW a ++ (gridW ct a M ++ (benchW ct a M ++ (logW ct a M ++ (txtW ct q TX tl pl ft wd n1 n2))))))) H := hP
  have hD : va_D A (x8W u a r q ++ (svW ct r b nx sz S ++ (sobjW a ++ (gridW ct a M ++ (benchW ct a M ++ (logW ct a M ++ (txtW ct q TX tl pl ft wd n1 n2))))))) := hD
  refine W.eq (g2 := F0 m 227 ls [.int (zI (sp_wh M tl 15))]) rfl ?_
  refine z_canI (show sp_wh M tl 15 = M 2 from rfl) ?_
  refine lv_aload_n hx hb dL_sound_227 rfl (lv_at hl 0 rfl) ?_
  refine z_iconst hx hb dL_sound_228 ?_
  refine z_callSW (As := [.ref u, .int (zI 5)]) (rest := [.int (zI (M 2))]) ([] : va_W) ([] : va_W) hx hb hml hown hts hl hE hS hA (zr0 ([] : va_W) hP) (zr0D ([] : va_W) hD) (c_L_whole_ok l D ct ad u a r q b nx sz S M TX tl pl ft n1 n2 wd 5 (by assumption) (by omega) (by omega)) gL_sound_L_whole rfl k_L_whole ⟨Nat.le_of_ble_eq_true rfl, Nat.le_of_ble_eq_true rfl⟩ rfl (Nat.le_of_ble_eq_true rfl) ⟨Nat.le_of_ble_eq_true rfl, Nat.le_of_ble_eq_true rfl⟩ dL_sound_229 rfl (fun v w1 H locs hpost hP hD hS => ?_)
  obtain ⟨rfl, rfl⟩ := hpost
  have hP := zr0' hP
  have hD := zr0D' hD
  have hP : va_P D vwCl (x8W u a r q ++ (svW ct r b nx sz S ++ (sobjW a ++ (gridW ct a M ++ (benchW ct a M ++ (logW ct a M ++ (txtW ct q TX tl pl ft wd n1 n2))))))) H := hP
  have hD : va_D A (x8W u a r q ++ (svW ct r b nx sz S ++ (sobjW a ++ (gridW ct a M ++ (benchW ct a M ++ (logW ct a M ++ (txtW ct q TX tl pl ft wd n1 n2))))))) := hD
  refine W.eq (g2 := F0 m 232 ls [.int (zI (sp_wh M tl 5)), .int (zI (M 2))]) rfl ?_
  refine z_canI (show sp_wh M tl 5 = M 8 from rfl) ?_
  refine z_bipush hx hb dL_sound_232 (by decide) ?_
  refine z_idiv hx hb dL_sound_234 (by omega) (by omega) ?_
  refine z_iadd hx hb dL_sound_235 ?_
  refine z_canI (show (M 2) + ((M 8) / 8) = sp_arc M (M 8) from rfl) ?_
  refine lv_istore (lv' := [(6, .int (zI (sp_arc M (M 8)))), (0, .ref u), (1, .long (zJ len_)), (3, .long (zJ bal_)), (5, .int (zI (M 6)))]) hx hb dL_sound_236 hl (by decide) rfl (fun ls hl => ?_)
  refine lv_aload_n hx hb dL_sound_238 rfl (lv_at hl 1 rfl) ?_
  refine z_bipush hx hb dL_sound_239 (by decide) ?_
  refine z_callSW (As := [.ref u, .int (zI 10)]) (rest := []) ([] : va_W) ([] : va_W) hx hb hml hown hts hl hE hS hA (zr0 ([] : va_W) hP) (zr0D ([] : va_W) hD) (c_L_whole_ok l D ct ad u a r q b nx sz S M TX tl pl ft n1 n2 wd 10 (by assumption) (by omega) (by omega)) gL_sound_L_whole rfl k_L_whole ⟨Nat.le_of_ble_eq_true rfl, Nat.le_of_ble_eq_true rfl⟩ rfl (Nat.le_of_ble_eq_true rfl) ⟨Nat.le_of_ble_eq_true rfl, Nat.le_of_ble_eq_true rfl⟩ dL_sound_241 rfl (fun v w1 H locs hpost hP hD hS => ?_)
  obtain ⟨rfl, rfl⟩ := hpost
  have hP := zr0' hP
  have hD := zr0D' hD
  have hP : va_P D vwCl (x8W u a r q ++ (svW ct r b nx sz S ++ (sobjW a ++ (gridW ct a M ++ (benchW ct a M ++ (logW ct a M ++ (txtW ct q TX tl pl ft wd n1 n2))))))) H := hP
  have hD : va_D A (x8W u a r q ++ (svW ct r b nx sz S ++ (sobjW a ++ (gridW ct a M ++ (benchW ct a M ++ (logW ct a M ++ (txtW ct q TX tl pl ft wd n1 n2))))))) := hD
  refine W.eq (g2 := F0 m 244 ls [.int (zI (sp_wh M tl 10))]) rfl ?_
  refine z_canI (show sp_wh M tl 10 = M 9 from rfl) ?_
  refine z_bipush hx hb dL_sound_244 (by decide) ?_
  refine z_idiv hx hb dL_sound_246 (by omega) (by omega) ?_
  refine lv_istore (lv' := [(7, .int (zI ((M 9) / 24))), (6, .int (zI (sp_arc M (M 8)))), (0, .ref u), (1, .long (zJ len_)), (3, .long (zJ bal_)), (5, .int (zI (M 6)))]) hx hb dL_sound_247 hl (by decide) rfl (fun ls hl => ?_)
  refine lv_aload_n hx hb dL_sound_249 rfl (lv_at hl 2 rfl) ?_
  refine z_bipush hx hb dL_sound_250 (by decide) ?_
  refine z_callSW (As := [.ref u, .int (zI 9)]) (rest := []) ([] : va_W) ([] : va_W) hx hb hml hown hts hl hE hS hA (zr0 ([] : va_W) hP) (zr0D ([] : va_W) hD) (c_L_whole_ok l D ct ad u a r q b nx sz S M TX tl pl ft n1 n2 wd 9 (by assumption) (by omega) (by omega)) gL_sound_L_whole rfl k_L_whole ⟨Nat.le_of_ble_eq_true rfl, Nat.le_of_ble_eq_true rfl⟩ rfl (Nat.le_of_ble_eq_true rfl) ⟨Nat.le_of_ble_eq_true rfl, Nat.le_of_ble_eq_true rfl⟩ dL_sound_252 rfl (fun v w1 H locs hpost hP hD hS => ?_)
  obtain ⟨rfl, rfl⟩ := hpost
  have hP := zr0' hP
  have hD := zr0D' hD
  have hP : va_P D vwCl (x8W u a r q ++ (svW ct r b nx sz S ++ (sobjW a ++ (gridW ct a M ++ (benchW ct a M ++ (logW ct a M ++ (txtW ct q TX tl pl ft wd n1 n2))))))) H := hP
  have hD : va_D A (x8W u a r q ++ (svW ct r b nx sz S ++ (sobjW a ++ (gridW ct a M ++ (benchW ct a M ++ (logW ct a M ++ (txtW ct q TX tl pl ft wd n1 n2))))))) := hD
  refine W.eq (g2 := F0 m 255 ls [.int (zI (sp_wh M tl 9))]) rfl ?_
  refine z_canI (show sp_wh M tl 9 = sp_rateM M from rfl) ?_
  refine z_i2l hx hb dL_sound_255 (by omega) ?_
  refine lv_aload_n hx hb dL_sound_256 rfl (lv_at hl 2 rfl) ?_
  refine z_bipush hx hb dL_sound_257 (by decide) ?_
  refine z_callSW (As := [.ref u, .int (zI 7)]) (rest := [.long (zJ (sp_rateM M))]) ([] : va_W) ([] : va_W) hx hb hml hown hts hl hE hS hA (zr0 ([] : va_W) hP) (zr0D ([] : va_W) hD) (c_L_whole_ok l D ct ad u a r q b nx sz S M TX tl pl ft n1 n2 wd 7 (by assumption) (by omega) (by omega)) gL_sound_L_whole rfl k_L_whole ⟨Nat.le_of_ble_eq_true rfl, Nat.le_of_ble_eq_true rfl⟩ rfl (Nat.le_of_ble_eq_true rfl) ⟨Nat.le_of_ble_eq_true rfl, Nat.le_of_ble_eq_true rfl⟩ dL_sound_259 rfl (fun v w1 H locs hpost hP hD hS => ?_)
  obtain ⟨rfl, rfl⟩ := hpost
  have hP := zr0' hP
  have hD := zr0D' hD
  have hP : va_P D vwCl (x8W u a r q ++ (svW ct r b nx sz S ++ (sobjW a ++ (gridW ct a M ++ (benchW ct a M ++ (logW ct a M ++ (txtW ct q TX tl pl ft wd n1 n2))))))) H := hP
  have hD : va_D A (x8W u a r q ++ (svW ct r b nx sz S ++ (sobjW a ++ (gridW ct a M ++ (benchW ct a M ++ (logW ct a M ++ (txtW ct q TX tl pl ft wd n1 n2))))))) := hD
  refine W.eq (g2 := F0 m 262 ls [.int (zI (sp_wh M tl 7)), .long (zJ (sp_rateM M))]) rfl ?_
  refine z_canI (show sp_wh M tl 7 = sp_loss M (M 8) from rfl) ?_
  refine z_i2l hx hb dL_sound_262 (by omega) ?_
  refine z_ladd hx hb dL_sound_263 ?_
  obtain ⟨rt, hrt⟩ : ∃ z : Int, z = (sp_rateM M) + (sp_loss M (M 8)) := ⟨_, rfl⟩
  refine z_canL (show (sp_rateM M) + (sp_loss M (M 8)) = rt from hrt.symm) ?_
  have ert : rt = max (-1000000000) (min 1000000000 (43200000 * (M 0 - len_) / M 0)) := by rw [hrt, show sp_rateM M = sp_rate M (sp_len M (M 6)) (M 8) from rfl, eL]; unfold sp_rate; omega
  refine lv_lstore (lv' := [(8, .long (zJ rt)), (7, .int (zI ((M 9) / 24))), (6, .int (zI (sp_arc M (M 8)))), (0, .ref u), (1, .long (zJ len_)), (3, .long (zJ bal_)), (5, .int (zI (M 6)))]) hx hb dL_sound_264 hl (by decide) rfl (fun ls hl => ?_)
  refine z_ldc2 hx hb 43200000 hown hf_0 (by decide) dL_sound_266 ?_
  refine lv_aload_n hx hb dL_sound_269 rfl (lv_at hl 3 rfl) ?_
  refine z_bipush hx hb dL_sound_270 (by decide) ?_
  refine z_callSW (As := [.ref u, .int (zI 13)]) (rest := [.long (zJ 43200000)]) ([] : va_W) ([] : va_W) hx hb hml hown hts hl hE hS hA (zr0 ([] : va_W) hP) (zr0D ([] : va_W) hD) (c_L_whole_ok l D ct ad u a r q b nx sz S M TX tl pl ft n1 n2 wd 13 (by assumption) (by omega) (by omega)) gL_sound_L_whole rfl k_L_whole ⟨Nat.le_of_ble_eq_true rfl, Nat.le_of_ble_eq_true rfl⟩ rfl (Nat.le_of_ble_eq_true rfl) ⟨Nat.le_of_ble_eq_true rfl, Nat.le_of_ble_eq_true rfl⟩ dL_sound_272 rfl (fun v w1 H locs hpost hP hD hS => ?_)
  obtain ⟨rfl, rfl⟩ := hpost
  have hP := zr0' hP
  have hD := zr0D' hD
  have hP : va_P D vwCl (x8W u a r q ++ (svW ct r b nx sz S ++ (sobjW a ++ (gridW ct a M ++ (benchW ct a M ++ (logW ct a M ++ (txtW ct q TX tl pl ft wd n1 n2))))))) H := hP
  have hD : va_D A (x8W u a r q ++ (svW ct r b nx sz S ++ (sobjW a ++ (gridW ct a M ++ (benchW ct a M ++ (logW ct a M ++ (txtW ct q TX tl pl ft wd n1 n2))))))) := hD
  refine W.eq (g2 := F0 m 275 ls [.int (zI (sp_wh M tl 13)), .long (zJ 43200000)]) rfl ?_
  refine z_canI (show sp_wh M tl 13 = M 0 from rfl) ?_
  refine z_i2l hx hb dL_sound_275 (by omega) ?_
  refine lv_lload_n hx hb dL_sound_276 rfl (lv_at hl 4 rfl) ?_
  refine z_lsub hx hb dL_sound_277 ?_
  refine z_lmul hx hb dL_sound_278 ?_
  obtain ⟨al, hal⟩ : ∃ z : Int, z = 43200000 * ((M 0) - len_) := ⟨_, rfl⟩
  refine z_canL (show 43200000 * ((M 0) - len_) = al from hal.symm) ?_
  have hrq := rate_q (a := al) (m := M 0) (r := rt) (by omega) (by rw [hal]; exact ert)
  have m1 := mulB (a := rt) (b := M 0) (A := 1000000000) (B := 2000000) (by omega) (by omega)
  refine lv_lstore (lv' := [(10, .long (zJ al)), (8, .long (zJ rt)), (7, .int (zI ((M 9) / 24))), (6, .int (zI (sp_arc M (M 8)))), (0, .ref u), (1, .long (zJ len_)), (3, .long (zJ bal_)), (5, .int (zI (M 6)))]) hx hb dL_sound_279 hl (by decide) rfl (fun ls hl => ?_)
  refine lv_lload hx hb dL_sound_281 (lv_at hl 1 rfl) ?_
  refine z_ldc2 hx hb 1000000000 hown hf_1 (by decide) dL_sound_283 ?_
  refine z_lcmp_ne (tgt := 306) hx hb dL_sound_286 dL_sound_287 (by decide) (by omega) (by omega) (fun hc_286 => ?_) (fun hc_286 => ?_)
  · have hc_286 := hc_286
    refine lv_lload hx hb dL_sound_306 (lv_at hl 1 rfl) ?_
    refine z_ldc2 hx hb (-1000000000) hown hf_2 (by decide) dL_sound_308 ?_
    refine z_lcmp_ne (tgt := 335) hx hb dL_sound_311 dL_sound_312 (by decide) (by omega) (by omega) (fun hc_311 => ?_) (fun hc_311 => ?_)
    · have hc_311 := hc_311
      refine z_iconst hx hb dL_sound_335 ?_
      exact g_L_sound_336 l D ct ad u a r q b nx sz S M TX tl pl ft n1 n2 wd len_ bal_ rt al 0 (by assumption) (by assumption) (show len_ = sp_len M (M 6) from (by first | assumption | omega)) (show bal_ = sp_bal M from (by first | assumption | omega)) (show rt = sp_rateM M + sp_loss M (M 8) from (by first | assumption | omega)) (show al = 43200000 * (M 0 - len_) from (by first | assumption | omega)) (show -1000000000 ≤ rt ∧ rt ≤ 1000000000 from (by first | assumption | omega)) (show (0 = 0 ∨ 0 = 1) ∧ (0 = 0 → rt * M 0 ≤ al ∧ al < (rt + 1) * M 0) from (by first | assumption | omega)) p e s m below meth c A _ _ _ hx hb hr hts hown hlocks hml hE hA hP hD hS (lv_sub hl [4, 5, 6, 7, 3, 2, 1, 0] rfl)
    · have hc_311 := hc_311
      refine lv_lload hx hb dL_sound_315 (lv_at hl 0 rfl) ?_
      refine lv_lload hx hb dL_sound_317 (lv_at hl 1 rfl) ?_
      refine lv_aload_n hx hb dL_sound_319 rfl (lv_at hl 4 rfl) ?_
      refine z_bipush hx hb dL_sound_320 (by decide) ?_
      refine z_callSW (As := [.ref u, .int (zI 13)]) (rest := [.long (zJ rt), .long (zJ al)]) ([] : va_W) ([] : va_W) hx hb hml hown hts hl hE hS hA (zr0 ([] : va_W) hP) (zr0D ([] : va_W) hD) (c_L_whole_ok l D ct ad u a r q b nx sz S M TX tl pl ft n1 n2 wd 13 (by assumption) (by omega) (by omega)) gL_sound_L_whole rfl k_L_whole ⟨Nat.le_of_ble_eq_true rfl, Nat.le_of_ble_eq_true rfl⟩ rfl (Nat.le_of_ble_eq_true rfl) ⟨Nat.le_of_ble_eq_true rfl, Nat.le_of_ble_eq_true rfl⟩ dL_sound_322 rfl (fun v w1 H locs hpost hP hD hS => ?_)
      obtain ⟨rfl, rfl⟩ := hpost
      have hP := zr0' hP
      have hD := zr0D' hD
      have hP : va_P D vwCl (x8W u a r q ++ (svW ct r b nx sz S ++ (sobjW a ++ (gridW ct a M ++ (benchW ct a M ++ (logW ct a M ++ (txtW ct q TX tl pl ft wd n1 n2))))))) H := hP
      have hD : va_D A (x8W u a r q ++ (svW ct r b nx sz S ++ (sobjW a ++ (gridW ct a M ++ (benchW ct a M ++ (logW ct a M ++ (txtW ct q TX tl pl ft wd n1 n2))))))) := hD
      refine W.eq (g2 := F0 m 325 ls [.int (zI (sp_wh M tl 13)), .long (zJ rt), .long (zJ al)]) rfl ?_
      refine z_canI (show sp_wh M tl 13 = M 0 from rfl) ?_
      refine z_i2l hx hb dL_sound_325 (by omega) ?_
      refine z_lmul hx hb dL_sound_326 ?_
      refine z_lcmp_gt (tgt := 335) hx hb dL_sound_327 dL_sound_328 (by decide) (by omega) (by omega) (fun hc_327 => ?_) (fun hc_327 => ?_)
      · have hc_327 := hc_327
        refine z_iconst hx hb dL_sound_335 ?_
        exact g_L_sound_336 l D ct ad u a r q b nx sz S M TX tl pl ft n1 n2 wd len_ bal_ rt al 0 (by assumption) (by assumption) (show len_ = sp_len M (M 6) from (by first | assumption | omega)) (show bal_ = sp_bal M from (by first | assumption | omega)) (show rt = sp_rateM M + sp_loss M (M 8) from (by first | assumption | omega)) (show al = 43200000 * (M 0 - len_) from (by first | assumption | omega)) (show -1000000000 ≤ rt ∧ rt ≤ 1000000000 from (by first | assumption | omega)) (show (0 = 0 ∨ 0 = 1) ∧ (0 = 0 → rt * M 0 ≤ al ∧ al < (rt + 1) * M 0) from (by first | assumption | omega)) p e s m below meth c A _ _ _ hx hb hr hts hown hlocks hml hE hA hP hD hS (lv_sub hl [4, 5, 6, 7, 3, 2, 1, 0] rfl)
      · have hc_327 := hc_327
        refine z_iconst hx hb dL_sound_331 ?_
        refine lv_goto (tgt := 336) hx hb dL_sound_332 (by decide) ?_
        exact g_L_sound_336 l D ct ad u a r q b nx sz S M TX tl pl ft n1 n2 wd len_ bal_ rt al 1 (by assumption) (by assumption) (show len_ = sp_len M (M 6) from (by first | assumption | omega)) (show bal_ = sp_bal M from (by first | assumption | omega)) (show rt = sp_rateM M + sp_loss M (M 8) from (by first | assumption | omega)) (show al = 43200000 * (M 0 - len_) from (by first | assumption | omega)) (show -1000000000 ≤ rt ∧ rt ≤ 1000000000 from (by first | assumption | omega)) (show (1 = 0 ∨ 1 = 1) ∧ (1 = 0 → rt * M 0 ≤ al ∧ al < (rt + 1) * M 0) from (by first | assumption | omega)) p e s m below meth c A _ _ _ hx hb hr hts hown hlocks hml hE hA hP hD hS (lv_sub hl [4, 5, 6, 7, 3, 2, 1, 0] rfl)
  · have hc_286 := hc_286
    refine lv_lload hx hb dL_sound_290 (lv_at hl 0 rfl) ?_
    refine lv_lload hx hb dL_sound_292 (lv_at hl 1 rfl) ?_
    refine lv_aload_n hx hb dL_sound_294 rfl (lv_at hl 4 rfl) ?_
    refine z_bipush hx hb dL_sound_295 (by decide) ?_
    refine z_callSW (As := [.ref u, .int (zI 13)]) (rest := [.long (zJ rt), .long (zJ al)]) ([] : va_W) ([] : va_W) hx hb hml hown hts hl hE hS hA (zr0 ([] : va_W) hP) (zr0D ([] : va_W) hD) (c_L_whole_ok l D ct ad u a r q b nx sz S M TX tl pl ft n1 n2 wd 13 (by assumption) (by omega) (by omega)) gL_sound_L_whole rfl k_L_whole ⟨Nat.le_of_ble_eq_true rfl, Nat.le_of_ble_eq_true rfl⟩ rfl (Nat.le_of_ble_eq_true rfl) ⟨Nat.le_of_ble_eq_true rfl, Nat.le_of_ble_eq_true rfl⟩ dL_sound_297 rfl (fun v w1 H locs hpost hP hD hS => ?_)
    obtain ⟨rfl, rfl⟩ := hpost
    have hP := zr0' hP
    have hD := zr0D' hD
    have hP : va_P D vwCl (x8W u a r q ++ (svW ct r b nx sz S ++ (sobjW a ++ (gridW ct a M ++ (benchW ct a M ++ (logW ct a M ++ (txtW ct q TX tl pl ft wd n1 n2))))))) H := hP
    have hD : va_D A (x8W u a r q ++ (svW ct r b nx sz S ++ (sobjW a ++ (gridW ct a M ++ (benchW ct a M ++ (logW ct a M ++ (txtW ct q TX tl pl ft wd n1 n2))))))) := hD
    refine W.eq (g2 := F0 m 300 ls [.int (zI (sp_wh M tl 13)), .long (zJ rt), .long (zJ al)]) rfl ?_
    refine z_canI (show sp_wh M tl 13 = M 0 from rfl) ?_
    refine z_i2l hx hb dL_sound_300 (by omega) ?_
    refine z_lmul hx hb dL_sound_301 ?_
    refine z_lcmp_ge (tgt := 331) hx hb dL_sound_302 dL_sound_303 (by decide) (by omega) (by omega) (fun hc_302 => ?_) (fun hc_302 => ?_)
    · have hc_302 := hc_302
      refine z_iconst hx hb dL_sound_331 ?_
      refine lv_goto (tgt := 336) hx hb dL_sound_332 (by decide) ?_
      exact g_L_sound_336 l D ct ad u a r q b nx sz S M TX tl pl ft n1 n2 wd len_ bal_ rt al 1 (by assumption) (by assumption) (show len_ = sp_len M (M 6) from (by first | assumption | omega)) (show bal_ = sp_bal M from (by first | assumption | omega)) (show rt = sp_rateM M + sp_loss M (M 8) from (by first | assumption | omega)) (show al = 43200000 * (M 0 - len_) from (by first | assumption | omega)) (show -1000000000 ≤ rt ∧ rt ≤ 1000000000 from (by first | assumption | omega)) (show (1 = 0 ∨ 1 = 1) ∧ (1 = 0 → rt * M 0 ≤ al ∧ al < (rt + 1) * M 0) from (by first | assumption | omega)) p e s m below meth c A _ _ _ hx hb hr hts hown hlocks hml hE hA hP hD hS (lv_sub hl [4, 5, 6, 7, 3, 2, 1, 0] rfl)
    · have hc_302 := hc_302
      refine lv_lload hx hb dL_sound_306 (lv_at hl 1 rfl) ?_
      refine z_ldc2 hx hb (-1000000000) hown hf_2 (by decide) dL_sound_308 ?_
      refine z_lcmp_ne (tgt := 335) hx hb dL_sound_311 dL_sound_312 (by decide) (by omega) (by omega) (fun hc_311 => ?_) (fun hc_311 => ?_)
      · have hc_311 := hc_311
        refine z_iconst hx hb dL_sound_335 ?_
        exact g_L_sound_336 l D ct ad u a r q b nx sz S M TX tl pl ft n1 n2 wd len_ bal_ rt al 0 (by assumption) (by assumption) (show len_ = sp_len M (M 6) from (by first | assumption | omega)) (show bal_ = sp_bal M from (by first | assumption | omega)) (show rt = sp_rateM M + sp_loss M (M 8) from (by first | assumption | omega)) (show al = 43200000 * (M 0 - len_) from (by first | assumption | omega)) (show -1000000000 ≤ rt ∧ rt ≤ 1000000000 from (by first | assumption | omega)) (show (0 = 0 ∨ 0 = 1) ∧ (0 = 0 → rt * M 0 ≤ al ∧ al < (rt + 1) * M 0) from (by first | assumption | omega)) p e s m below meth c A _ _ _ hx hb hr hts hown hlocks hml hE hA hP hD hS (lv_sub hl [4, 5, 6, 7, 3, 2, 1, 0] rfl)
      · have hc_311 := hc_311
        refine lv_lload hx hb dL_sound_315 (lv_at hl 0 rfl) ?_
        refine lv_lload hx hb dL_sound_317 (lv_at hl 1 rfl) ?_
        refine lv_aload_n hx hb dL_sound_319 rfl (lv_at hl 4 rfl) ?_
        refine z_bipush hx hb dL_sound_320 (by decide) ?_
        refine z_callSW (As := [.ref u, .int (zI 13)]) (rest := [.long (zJ rt), .long (zJ al)]) ([] : va_W) ([] : va_W) hx hb hml hown hts hl hE hS hA (zr0 ([] : va_W) hP) (zr0D ([] : va_W) hD) (c_L_whole_ok l D ct ad u a r q b nx sz S M TX tl pl ft n1 n2 wd 13 (by assumption) (by omega) (by omega)) gL_sound_L_whole rfl k_L_whole ⟨Nat.le_of_ble_eq_true rfl, Nat.le_of_ble_eq_true rfl⟩ rfl (Nat.le_of_ble_eq_true rfl) ⟨Nat.le_of_ble_eq_true rfl, Nat.le_of_ble_eq_true rfl⟩ dL_sound_322 rfl (fun v w1 H locs hpost hP hD hS => ?_)
        obtain ⟨rfl, rfl⟩ := hpost
        have hP := zr0' hP
        have hD := zr0D' hD
        have hP : va_P D vwCl (x8W u a r q ++ (svW ct r b nx sz S ++ (sobjW a ++ (gridW ct a M ++ (benchW ct a M ++ (logW ct a M ++ (txtW ct q TX tl pl ft wd n1 n2))))))) H := hP
        have hD : va_D A (x8W u a r q ++ (svW ct r b nx sz S ++ (sobjW a ++ (gridW ct a M ++ (benchW ct a M ++ (logW ct a M ++ (txtW ct q TX tl pl ft wd n1 n2))))))) := hD
        refine W.eq (g2 := F0 m 325 ls [.int (zI (sp_wh M tl 13)), .long (zJ rt), .long (zJ al)]) rfl ?_
        refine z_canI (show sp_wh M tl 13 = M 0 from rfl) ?_
        refine z_i2l hx hb dL_sound_325 (by omega) ?_
        refine z_lmul hx hb dL_sound_326 ?_
        refine z_lcmp_gt (tgt := 335) hx hb dL_sound_327 dL_sound_328 (by decide) (by omega) (by omega) (fun hc_327 => ?_) (fun hc_327 => ?_)
        · have hc_327 := hc_327
          refine z_iconst hx hb dL_sound_335 ?_
          exact g_L_sound_336 l D ct ad u a r q b nx sz S M TX tl pl ft n1 n2 wd len_ bal_ rt al 0 (by assumption) (by assumption) (show len_ = sp_len M (M 6) from (by first | assumption | omega)) (show bal_ = sp_bal M from (by first | assumption | omega)) (show rt = sp_rateM M + sp_loss M (M 8) from (by first | assumption | omega)) (show al = 43200000 * (M 0 - len_) from (by first | assumption | omega)) (show -1000000000 ≤ rt ∧ rt ≤ 1000000000 from (by first | assumption | omega)) (show (0 = 0 ∨ 0 = 1) ∧ (0 = 0 → rt * M 0 ≤ al ∧ al < (rt + 1) * M 0) from (by first | assumption | omega)) p e s m below meth c A _ _ _ hx hb hr hts hown hlocks hml hE hA hP hD hS (lv_sub hl [4, 5, 6, 7, 3, 2, 1, 0] rfl)
        · have hc_327 := hc_327
          refine z_iconst hx hb dL_sound_331 ?_
          refine lv_goto (tgt := 336) hx hb dL_sound_332 (by decide) ?_
          exact g_L_sound_336 l D ct ad u a r q b nx sz S M TX tl pl ft n1 n2 wd len_ bal_ rt al 1 (by assumption) (by assumption) (show len_ = sp_len M (M 6) from (by first | assumption | omega)) (show bal_ = sp_bal M from (by first | assumption | omega)) (show rt = sp_rateM M + sp_loss M (M 8) from (by first | assumption | omega)) (show al = 43200000 * (M 0 - len_) from (by first | assumption | omega)) (show -1000000000 ≤ rt ∧ rt ≤ 1000000000 from (by first | assumption | omega)) (show (1 = 0 ∨ 1 = 1) ∧ (1 = 0 → rt * M 0 ≤ al ∧ al < (rt + 1) * M 0) from (by first | assumption | omega)) p e s m below meth c A _ _ _ hx hb hr hts hown hlocks hml hE hA hP hD hS (lv_sub hl [4, 5, 6, 7, 3, 2, 1, 0] rfl)
set_option maxHeartbeats 4000000 in
set_option maxRecDepth 100000 in
theorem c_L_sound (l : Launch) (D : va_G) (ct ad : Nat → Nat) (u : Nat) (a r q : Nat → Nat) (b : Nat → Nat → Nat) (nx sz : Int) (S : Nat → Int → Int) (M TX : Int → Int) (tl pl ft n1 n2 : Int) (wd : Value) (hL : LInv M) (ht : tInv TX tl) : ZM l yL_sound wsL_sound ({ frames := 7, cells := 0, slots := 0, locals := 164 } : Room) D ct ad [.ref u] (x8W u a r q ++ (svW ct r b nx sz S ++ (sobjW a ++ (gridW ct a M ++ (benchW ct a M ++ (logW ct a M ++ (txtW ct q TX tl pl ft wd n1 n2))))))) (zD (some (.int (zI 1))) (x8W u a r q ++ (svW ct r b nx sz S ++ (sobjW a ++ (gridW ct a M ++ (benchW ct a M ++ (logW ct a M ++ (txtW ct q TX tl pl ft wd n1 n2)))))))) := by
  refine ZM.of (cc := cL_sound) (maxL := 20) (ret := (some .boolean)) (by decide +kernel) rfl (Nat.le_of_ble_eq_true rfl) ?_
  intro p e s m below meth c A ls hx hb hr hts hown hlocks hml hname hE hP hD hA hS hl
  have hK := hE.1
  have hf_0 := hts (.constantLong RL 91 (10)) (by decide +kernel)
  have hf_1 := hts (.constantLong RL 103 (100000000)) (by decide +kernel)
  have hl : lv_has ls 20 [(0, .ref u)] := hl
  have hs := hL.1
  have hI := hs.1
  have hB := hs.2.1
  have ha := hs.2.2
  have t1 := ht.1
  have i3 := hI.1
  have i4 := hI.2.1
  have j1 := hB.2.1
  refine z_ldc2 hx hb 10 hown hf_0 (by decide) dL_sound_0 ?_
  refine lv_aload_n hx hb dL_sound_3 rfl (lv_at hl 0 rfl) ?_
  refine z_iconst hx hb dL_sound_4 ?_
  refine z_callSW (As := [.ref u, .int (zI 4)]) (rest := [.long (zJ 10)]) ([] : va_W) ([] : va_W) hx hb hml hown hts hl hE hS hA (zr0 ([] : va_W) hP) (zr0D ([] : va_W) hD) (c_L_whole_ok l D ct ad u a r q b nx sz S M TX tl pl ft n1 n2 wd 4 (by assumption) (by omega) (by omega)) gL_sound_L_whole rfl k_L_whole ⟨Nat.le_of_ble_eq_true rfl, Nat.le_of_ble_eq_true rfl⟩ rfl (Nat.le_of_ble_eq_true rfl) ⟨Nat.le_of_ble_eq_true rfl, Nat.le_of_ble_eq_true rfl⟩ dL_sound_5 rfl (fun v w1 H locs hpost hP hD hS => ?_)
  obtain ⟨rfl, rfl⟩ := hpost
  have hP := zr0' hP
  have hD := zr0D' hD
  have hP : va_P D vwCl (x8W u a r q ++ (svW ct r b nx sz S ++ (sobjW a ++ (gridW ct a M ++ (benchW ct a M ++ (logW ct a M ++ (txtW ct q TX tl pl ft wd n1 n2))))))) H := hP
  have hD : va_D A (x8W u a r q ++ (svW ct r b nx sz S ++ (sobjW a ++ (gridW ct a M ++ (benchW ct a M ++ (logW ct a M ++ (txtW ct q TX tl pl ft wd n1 n2))))))) := hD
  refine W.eq (g2 := F0 m 8 ls [.int (zI (sp_wh M tl 4)), .long (zJ 10)]) rfl ?_
  refine z_canI (show sp_wh M tl 4 = M 7 from rfl) ?_
  refine z_i2l hx hb dL_sound_8 (by omega) ?_
  refine z_lmul hx hb dL_sound_9 ?_
  refine lv_lstore_n (lv' := [(1, .long (zJ (10 * (M 7)))), (0, .ref u)]) hx hb dL_sound_10 rfl hl (by decide) rfl (fun ls hl => ?_)
  refine z_lconst (z := 0) hx hb dL_sound_11 rfl ?_
  refine lv_lstore_n (lv' := [(3, .long (zJ 0)), (1, .long (zJ (10 * (M 7)))), (0, .ref u)]) hx hb dL_sound_12 rfl hl (by decide) rfl (fun ls hl => ?_)
  refine lv_aload_n hx hb dL_sound_13 rfl (lv_at hl 2 rfl) ?_
  refine z_iconst hx hb dL_sound_14 ?_
  refine z_callSW (As := [.ref u, .int (zI 3)]) (rest := []) ([] : va_W) ([] : va_W) hx hb hml hown hts hl hE hS hA (zr0 ([] : va_W) hP) (zr0D ([] : va_W) hD) (c_L_whole_ok l D ct ad u a r q b nx sz S M TX tl pl ft n1 n2 wd 3 (by assumption) (by omega) (by omega)) gL_sound_L_whole rfl k_L_whole ⟨Nat.le_of_ble_eq_true rfl, Nat.le_of_ble_eq_true rfl⟩ rfl (Nat.le_of_ble_eq_true rfl) ⟨Nat.le_of_ble_eq_true rfl, Nat.le_of_ble_eq_true rfl⟩ dL_sound_15 rfl (fun v w1 H locs hpost hP hD hS => ?_)
  obtain ⟨rfl, rfl⟩ := hpost
  have hP := zr0' hP
  have hD := zr0D' hD
  have hP : va_P D vwCl (x8W u a r q ++ (svW ct r b nx sz S ++ (sobjW a ++ (gridW ct a M ++ (benchW ct a M ++ (logW ct a M ++ (txtW ct q TX tl pl ft wd n1 n2))))))) H := hP
  have hD : va_D A (x8W u a r q ++ (svW ct r b nx sz S ++ (sobjW a ++ (gridW ct a M ++ (benchW ct a M ++ (logW ct a M ++ (txtW ct q TX tl pl ft wd n1 n2))))))) := hD
  refine W.eq (g2 := F0 m 18 ls [.int (zI (sp_wh M tl 3))]) rfl ?_
  refine z_canI (show sp_wh M tl 3 = M 6 from rfl) ?_
  refine lv_istore (lv' := [(5, .int (zI (M 6))), (3, .long (zJ 0)), (1, .long (zJ (10 * (M 7)))), (0, .ref u)]) hx hb dL_sound_18 hl (by decide) rfl (fun ls hl => ?_)
  refine z_iconst hx hb dL_sound_20 ?_
  refine lv_istore (lv' := [(6, .int (zI 0)), (5, .int (zI (M 6))), (3, .long (zJ 0)), (1, .long (zJ (10 * (M 7)))), (0, .ref u)]) hx hb dL_sound_21 hl (by decide) rfl (fun ls hl => ?_)
  refine z_loop (σ := Int × Int × Int) (fun q9 => (M 4 - q9.1).toNat) (fun q9 => (0 ≤ q9.1 ∧ q9.1 ≤ M 4) ∧ (q9.2.1 = 10 * M 7 + sp_rodsN M (M 6) q9.1.toNat) ∧ (q9.2.2 = sp_balN M q9.1.toNat)) (fun q9 => x8W u a r q ++ (svW ct r b nx sz S ++ (sobjW a ++ (gridW ct a M ++ (benchW ct a M ++ (logW ct a M ++ (txtW ct q TX tl pl ft wd n1 n2))))))) (fun q9 => [(0, .ref u), (1, .long (zJ q9.2.1)), (3, .long (zJ q9.2.2)), (5, .int (zI (M 6))), (6, .int (zI q9.1))]) (fun q9 => []) (0, 10 * (M 7), 0) ⟨(show 0 ≤ 0 ∧ 0 ≤ M 4 from (by omega)), (show (10 * (M 7)) = 10 * M 7 + sp_rodsN M (M 6) (0 : Int).toNat from (by show 10 * M 7 = 10 * M 7 + 0; omega)), (show 0 = sp_balN M (0 : Int).toNat from (by rfl))⟩ hP hD hS (lv_sub hl [4, 3, 2, 1, 0] rfl) rfl ?_
  rintro ⟨i, len_, bal_⟩ hI_23 ih_23 H locs ls hP hD hS hl
  obtain ⟨hi, hlen, hbal⟩ := hI_23
  have hi : 0 ≤ i ∧ i ≤ M 4 := hi
  have hlen : len_ = 10 * M 7 + sp_rodsN M (M 6) i.toNat := hlen
  have hbal : bal_ = sp_balN M i.toNat := hbal
  have hP : va_P D vwCl (x8W u a r q ++ (svW ct r b nx sz S ++ (sobjW a ++ (gridW ct a M ++ (benchW ct a M ++ (logW ct a M ++ (txtW ct q TX tl pl ft wd n1 n2))))))) H := hP
  have hD : va_D A (x8W u a r q ++ (svW ct r b nx sz S ++ (sobjW a ++ (gridW ct a M ++ (benchW ct a M ++ (logW ct a M ++ (txtW ct q TX tl pl ft wd n1 n2))))))) := hD
  have hl : lv_has ls 20 [(0, .ref u), (1, .long (zJ len_)), (3, .long (zJ bal_)), (5, .int (zI (M 6))), (6, .int (zI i))] := hl
  refine lv_iload hx hb dL_sound_23 (lv_at hl 4 rfl) ?_
  refine lv_aload_n hx hb dL_sound_25 rfl (lv_at hl 0 rfl) ?_
  refine z_iconst hx hb dL_sound_26 ?_
  refine z_callSW (As := [.ref u, .int (zI 1)]) (rest := [.int (zI i)]) ([] : va_W) ([] : va_W) hx hb hml hown hts hl hE hS hA (zr0 ([] : va_W) hP) (zr0D ([] : va_W) hD) (c_L_whole_ok l D ct ad u a r q b nx sz S M TX tl pl ft n1 n2 wd 1 (by assumption) (by omega) (by omega)) gL_sound_L_whole rfl k_L_whole ⟨Nat.le_of_ble_eq_true rfl, Nat.le_of_ble_eq_true rfl⟩ rfl (Nat.le_of_ble_eq_true rfl) ⟨Nat.le_of_ble_eq_true rfl, Nat.le_of_ble_eq_true rfl⟩ dL_sound_27 rfl (fun v w1 H locs hpost hP hD hS => ?_)
  obtain ⟨rfl, rfl⟩ := hpost
  have hP := zr0' hP
  have hD := zr0D' hD
  have hP : va_P D vwCl (x8W u a r q ++ (svW ct r b nx sz S ++ (sobjW a ++ (gridW ct a M ++ (benchW ct a M ++ (logW ct a M ++ (txtW ct q TX tl pl ft wd n1 n2))))))) H := hP
  have hD : va_D A (x8W u a r q ++ (svW ct r b nx sz S ++ (sobjW a ++ (gridW ct a M ++ (benchW ct a M ++ (logW ct a M ++ (txtW ct q TX tl pl ft wd n1 n2))))))) := hD
  refine W.eq (g2 := F0 m 30 ls [.int (zI (sp_wh M tl 1)), .int (zI i)]) rfl ?_
  refine z_canI (show sp_wh M tl 1 = M 4 from rfl) ?_
  refine z_icmp_ge (tgt := 221) hx hb dL_sound_30 (by decide) (by omega) (by omega) (fun hc_30 => ?_) (fun hc_30 => ?_)
  · have hc_30 := hc_30
    exact g_L_sound_221 l D ct ad u a r q b nx sz S M TX tl pl ft n1 n2 wd len_ bal_ (by assumption) (by assumption) (show len_ = sp_len M (M 6) from (by rw [hlen, show i = M 4 by omega]; unfold sp_len sp_rods; omega)) (show bal_ = sp_bal M from (by rw [hbal, show i = M 4 by omega]; rfl)) p e s m below meth c A _ _ _ hx hb hr hts hown hlocks hml hE hA hP hD hS (lv_sub hl [0, 1, 2, 3] rfl)
  · have hc_30 := hc_30
    have q0 := hI.2.2.2.1 i (by omega) (by omega)
    have q1 := hI.2.2.2.2 i (by omega) (by omega)
    have q2 := hI.2.2.1 (M (22 + 3 * i)) (by omega) (by omega)
    have qs := sp_strB (r := i) hI (by omega) j1.2.1
    have es : sp_str M i (M 6) = M (24 + 3 * i) * M (16 + M (22 + 3 * i)) * (M 6 - 200) / 100000000 := rfl
    have es0 : M 6 = 200 → sp_str M i (M 6) = 0 := by intro z; unfold sp_str; rw [z, show (200 : Int) - 200 = 0 by decide, Int.mul_zero, Int.zero_ediv]
    refine lv_aload_n hx hb dL_sound_33 rfl (lv_at hl 0 rfl) ?_
    refine lv_iload hx hb dL_sound_34 (lv_at hl 4 rfl) ?_
    refine z_iconst hx hb dL_sound_36 ?_
    refine z_callSW (As := [.ref u, .int (zI i), .int (zI 2)]) (rest := []) ([] : va_W) ([] : va_W) hx hb hml hown hts hl hE hS hA (zr0 ([] : va_W) hP) (zr0D ([] : va_W) hD) (c_L_rod_ok l D ct ad u a r q b nx sz S M TX tl pl ft n1 n2 wd i 2 (by assumption) (by omega) (by omega) (by omega)) gL_sound_L_rod rfl k_L_rod ⟨Nat.le_of_ble_eq_true rfl, Nat.le_of_ble_eq_true rfl⟩ rfl (Nat.le_of_ble_eq_true rfl) ⟨Nat.le_of_ble_eq_true rfl, Nat.le_of_ble_eq_true rfl⟩ dL_sound_37 rfl (fun v w1 H locs hpost hP hD hS => ?_)
    obtain ⟨rfl, rfl⟩ := hpost
    have hP := zr0' hP
    have hD := zr0D' hD
    have hP : va_P D vwCl (x8W u a r q ++ (svW ct r b nx sz S ++ (sobjW a ++ (gridW ct a M ++ (benchW ct a M ++ (logW ct a M ++ (txtW ct q TX tl pl ft wd n1 n2))))))) H := hP
    have hD : va_D A (x8W u a r q ++ (svW ct r b nx sz S ++ (sobjW a ++ (gridW ct a M ++ (benchW ct a M ++ (logW ct a M ++ (txtW ct q TX tl pl ft wd n1 n2))))))) := hD
    refine W.eq (g2 := F0 m 40 ls [.int (zI (sp_rodv M i 2 (M 6)))]) rfl ?_
    refine z_canI (show sp_rodv M i 2 (M 6) = M (24 + 3 * i) from rfl) ?_
    refine z_i2l hx hb dL_sound_40 (by omega) ?_
    refine lv_aload_n hx hb dL_sound_41 rfl (lv_at hl 0 rfl) ?_
    refine lv_aload_n hx hb dL_sound_42 rfl (lv_at hl 0 rfl) ?_
    refine lv_iload hx hb dL_sound_43 (lv_at hl 4 rfl) ?_
    refine z_iconst hx hb dL_sound_45 ?_
    refine z_callSW (As := [.ref u, .int (zI i), .int (zI 0)]) (rest := [.ref u, .long (zJ (M (24 + 3 * i)))]) ([] : va_W) ([] : va_W) hx hb hml hown hts hl hE hS hA (zr0 ([] : va_W) hP) (zr0D ([] : va_W) hD) (c_L_rod_ok l D ct ad u a r q b nx sz S M TX tl pl ft n1 n2 wd i 0 (by assumption) (by omega) (by omega) (by omega)) gL_sound_L_rod rfl k_L_rod ⟨Nat.le_of_ble_eq_true rfl, Nat.le_of_ble_eq_true rfl⟩ rfl (Nat.le_of_ble_eq_true rfl) ⟨Nat.le_of_ble_eq_true rfl, Nat.le_of_ble_eq_true rfl⟩ dL_sound_46 rfl (fun v w1 H locs hpost hP hD hS => ?_)
    obtain ⟨rfl, rfl⟩ := hpost
    have hP := zr0' hP
    have hD := zr0D' hD
    have hP : va_P D vwCl (x8W u a r q ++ (svW ct r b nx sz S ++ (sobjW a ++ (gridW ct a M ++ (benchW ct a M ++ (logW ct a M ++ (txtW ct q TX tl pl ft wd n1 n2))))))) H := hP
    have hD : va_D A (x8W u a r q ++ (svW ct r b nx sz S ++ (sobjW a ++ (gridW ct a M ++ (benchW ct a M ++ (logW ct a M ++ (txtW ct q TX tl pl ft wd n1 n2))))))) := hD
    refine W.eq (g2 := F0 m 49 ls [.int (zI (sp_rodv M i 0 (M 6))), .ref u, .long (zJ (M (24 + 3 * i)))]) rfl ?_
    refine z_canI (show sp_rodv M i 0 (M 6) = M (22 + 3 * i) from rfl) ?_
    refine z_callSW (As := [.ref u, .int (zI (M (22 + 3 * i)))]) (rest := [.long (zJ (M (24 + 3 * i)))]) ([] : va_W) ([] : va_W) hx hb hml hown hts hl hE hS hA (zr0 ([] : va_W) hP) (zr0D ([] : va_W) hD) (c_L_stretch_ok l D ct ad u a r q b nx sz S M TX tl pl ft n1 n2 wd (M (22 + 3 * i)) (by assumption) (by omega) (by omega)) gL_sound_L_stretch rfl k_L_stretch ⟨Nat.le_of_ble_eq_true rfl, Nat.le_of_ble_eq_true rfl⟩ rfl (Nat.le_of_ble_eq_true rfl) ⟨Nat.le_of_ble_eq_true rfl, Nat.le_of_ble_eq_true rfl⟩ dL_sound_49 rfl (fun v w1 H locs hpost hP hD hS => ?_)
    obtain ⟨rfl, rfl⟩ := hpost
    have hP := zr0' hP
    have hD := zr0D' hD
    have hP : va_P D vwCl (x8W u a r q ++ (svW ct r b nx sz S ++ (sobjW a ++ (gridW ct a M ++ (benchW ct a M ++ (logW ct a M ++ (txtW ct q TX tl pl ft wd n1 n2))))))) H := hP
    have hD : va_D A (x8W u a r q ++ (svW ct r b nx sz S ++ (sobjW a ++ (gridW ct a M ++ (benchW ct a M ++ (logW ct a M ++ (txtW ct q TX tl pl ft wd n1 n2))))))) := hD
    refine W.eq (g2 := F0 m 52 ls [.int (zI (M (16 + (M (22 + 3 * i))))), .long (zJ (M (24 + 3 * i)))]) rfl ?_
    refine z_i2l hx hb dL_sound_52 (by omega) ?_
    refine z_lmul hx hb dL_sound_53 ?_
    refine lv_iload hx hb dL_sound_54 (lv_at hl 3 rfl) ?_
    refine z_sipush hx hb dL_sound_56 (by decide) ?_
    refine z_isub hx hb dL_sound_59 ?_
    refine z_i2l hx hb dL_sound_60 (by omega) ?_
    refine z_lmul hx hb dL_sound_61 ?_
    refine lv_lstore (lv' := [(7, .long (zJ (((M (24 + 3 * i)) * (M (16 + (M (22 + 3 * i))))) * ((M 6) - 200)))), (0, .ref u), (1, .long (zJ len_)), (3, .long (zJ bal_)), (5, .int (zI (M 6))), (6, .int (zI i))]) hx hb dL_sound_62 hl (by decide) rfl (fun ls hl => ?_)
    refine lv_aload_n hx hb dL_sound_64 rfl (lv_at hl 1 rfl) ?_
    refine lv_iload hx hb dL_sound_65 (lv_at hl 5 rfl) ?_
    refine z_iconst hx hb dL_sound_67 ?_
    refine z_callSW (As := [.ref u, .int (zI i), .int (zI 3)]) (rest := []) ([] : va_W) ([] : va_W) hx hb hml hown hts hl hE hS hA (zr0 ([] : va_W) hP) (zr0D ([] : va_W) hD) (c_L_rod_ok l D ct ad u a r q b nx sz S M TX tl pl ft n1 n2 wd i 3 (by assumption) (by omega) (by omega) (by omega)) gL_sound_L_rod rfl k_L_rod ⟨Nat.le_of_ble_eq_true rfl, Nat.le_of_ble_eq_true rfl⟩ rfl (Nat.le_of_ble_eq_true rfl) ⟨Nat.le_of_ble_eq_true rfl, Nat.le_of_ble_eq_true rfl⟩ dL_sound_68 rfl (fun v w1 H locs hpost hP hD hS => ?_)
    obtain ⟨rfl, rfl⟩ := hpost
    have hP := zr0' hP
    have hD := zr0D' hD
    have hP : va_P D vwCl (x8W u a r q ++ (svW ct r b nx sz S ++ (sobjW a ++ (gridW ct a M ++ (benchW ct a M ++ (logW ct a M ++ (txtW ct q TX tl pl ft wd n1 n2))))))) H := hP
    have hD : va_D A (x8W u a r q ++ (svW ct r b nx sz S ++ (sobjW a ++ (gridW ct a M ++ (benchW ct a M ++ (logW ct a M ++ (txtW ct q TX tl pl ft wd n1 n2))))))) := hD
    refine W.eq (g2 := F0 m 71 ls [.int (zI (sp_rodv M i 3 (M 6)))]) rfl ?_
    refine z_canI (show sp_rodv M i 3 (M 6) = sp_str M i (M 6) from rfl) ?_
    refine z_i2l hx hb dL_sound_71 (by omega) ?_
    refine lv_lstore (lv' := [(9, .long (zJ (sp_str M i (M 6)))), (7, .long (zJ (((M (24 + 3 * i)) * (M (16 + (M (22 + 3 * i))))) * ((M 6) - 200)))), (0, .ref u), (1, .long (zJ len_)), (3, .long (zJ bal_)), (5, .int (zI (M 6))), (6, .int (zI i))]) hx hb dL_sound_72 hl (by decide) rfl (fun ls hl => ?_)
    refine lv_lload_n hx hb dL_sound_74 rfl (lv_at hl 3 rfl) ?_
    refine lv_aload_n hx hb dL_sound_75 rfl (lv_at hl 2 rfl) ?_
    refine lv_iload hx hb dL_sound_76 (lv_at hl 6 rfl) ?_
    refine z_iconst hx hb dL_sound_78 ?_
    refine z_callSW (As := [.ref u, .int (zI i), .int (zI 1)]) (rest := [.long (zJ len_)]) ([] : va_W) ([] : va_W) hx hb hml hown hts hl hE hS hA (zr0 ([] : va_W) hP) (zr0D ([] : va_W) hD) (c_L_rod_ok l D ct ad u a r q b nx sz S M TX tl pl ft n1 n2 wd i 1 (by assumption) (by omega) (by omega) (by omega)) gL_sound_L_rod rfl k_L_rod ⟨Nat.le_of_ble_eq_true rfl, Nat.le_of_ble_eq_true rfl⟩ rfl (Nat.le_of_ble_eq_true rfl) ⟨Nat.le_of_ble_eq_true rfl, Nat.le_of_ble_eq_true rfl⟩ dL_sound_79 rfl (fun v w1 H locs hpost hP hD hS => ?_)
    obtain ⟨rfl, rfl⟩ := hpost
    have hP := zr0' hP
    have hD := zr0D' hD
    have hP : va_P D vwCl (x8W u a r q ++ (svW ct r b nx sz S ++ (sobjW a ++ (gridW ct a M ++ (benchW ct a M ++ (logW ct a M ++ (txtW ct q TX tl pl ft wd n1 n2))))))) H := hP
    have hD : va_D A (x8W u a r q ++ (svW ct r b nx sz S ++ (sobjW a ++ (gridW ct a M ++ (benchW ct a M ++ (logW ct a M ++ (txtW ct q TX tl pl ft wd n1 n2))))))) := hD
    refine W.eq (g2 := F0 m 82 ls [.int (zI (sp_rodv M i 1 (M 6))), .long (zJ len_)]) rfl ?_
    refine z_canI (show sp_rodv M i 1 (M 6) = M (23 + 3 * i) from rfl) ?_
    refine z_i2l hx hb dL_sound_82 (by omega) ?_
    refine lv_aload_n hx hb dL_sound_83 rfl (lv_at hl 2 rfl) ?_
    refine lv_iload hx hb dL_sound_84 (lv_at hl 6 rfl) ?_
    refine z_iconst hx hb dL_sound_86 ?_
    refine z_callSW (As := [.ref u, .int (zI i), .int (zI 4)]) (rest := [.long (zJ (M (23 + 3 * i))), .long (zJ len_)]) ([] : va_W) ([] : va_W) hx hb hml hown hts hl hE hS hA (zr0 ([] : va_W) hP) (zr0D ([] : va_W) hD) (c_L_rod_ok l D ct ad u a r q b nx sz S M TX tl pl ft n1 n2 wd i 4 (by assumption) (by omega) (by omega) (by omega)) gL_sound_L_rod rfl k_L_rod ⟨Nat.le_of_ble_eq_true rfl, Nat.le_of_ble_eq_true rfl⟩ rfl (Nat.le_of_ble_eq_true rfl) ⟨Nat.le_of_ble_eq_true rfl, Nat.le_of_ble_eq_true rfl⟩ dL_sound_87 rfl (fun v w1 H locs hpost hP hD hS => ?_)
    obtain ⟨rfl, rfl⟩ := hpost
    have hP := zr0' hP
    have hD := zr0D' hD
    have hP : va_P D vwCl (x8W u a r q ++ (svW ct r b nx sz S ++ (sobjW a ++ (gridW ct a M ++ (benchW ct a M ++ (logW ct a M ++ (txtW ct q TX tl pl ft wd n1 n2))))))) H := hP
    have hD : va_D A (x8W u a r q ++ (svW ct r b nx sz S ++ (sobjW a ++ (gridW ct a M ++ (benchW ct a M ++ (logW ct a M ++ (txtW ct q TX tl pl ft wd n1 n2))))))) := hD
    refine W.eq (g2 := F0 m 90 ls [.int (zI (sp_rodv M i 4 (M 6))), .long (zJ (M (23 + 3 * i))), .long (zJ len_)]) rfl ?_
    refine z_canI (show sp_rodv M i 4 (M 6) = M (24 + 3 * i) + sp_str M i (M 6) from rfl) ?_
    refine z_i2l hx hb dL_sound_90 (by omega) ?_
    refine z_lmul hx hb dL_sound_91 ?_
    refine z_ladd hx hb dL_sound_92 ?_
    refine lv_lstore_n (lv' := [(1, .long (zJ (len_ + ((M (23 + 3 * i)) * (M (24 + 3 * i) + sp_str M i (M 6)))))), (9, .long (zJ (sp_str M i (M 6)))), (7, .long (zJ (((M (24 + 3 * i)) * (M (16 + (M (22 + 3 * i))))) * ((M 6) - 200)))), (0, .ref u), (3, .long (zJ bal_)), (5, .int (zI (M 6))), (6, .int (zI i))]) hx hb dL_sound_93 rfl hl (by decide) rfl (fun ls hl => ?_)
    refine lv_lload_n hx hb dL_sound_94 rfl (lv_at hl 4 rfl) ?_
    refine lv_aload_n hx hb dL_sound_95 rfl (lv_at hl 3 rfl) ?_
    refine lv_iload hx hb dL_sound_96 (lv_at hl 6 rfl) ?_
    refine z_iconst hx hb dL_sound_98 ?_
    refine z_callSW (As := [.ref u, .int (zI i), .int (zI 1)]) (rest := [.long (zJ bal_)]) ([] : va_W) ([] : va_W) hx hb hml hown hts hl hE hS hA (zr0 ([] : va_W) hP) (zr0D ([] : va_W) hD) (c_L_rod_ok l D ct ad u a r q b nx sz S M TX tl pl ft n1 n2 wd i 1 (by assumption) (by omega) (by omega) (by omega)) gL_sound_L_rod rfl k_L_rod ⟨Nat.le_of_ble_eq_true rfl, Nat.le_of_ble_eq_true rfl⟩ rfl (Nat.le_of_ble_eq_true rfl) ⟨Nat.le_of_ble_eq_true rfl, Nat.le_of_ble_eq_true rfl⟩ dL_sound_99 rfl (fun v w1 H locs hpost hP hD hS => ?_)
    obtain ⟨rfl, rfl⟩ := hpost
    have hP := zr0' hP
    have hD := zr0D' hD
    have hP : va_P D vwCl (x8W u a r q ++ (svW ct r b nx sz S ++ (sobjW a ++ (gridW ct a M ++ (benchW ct a M ++ (logW ct a M ++ (txtW ct q TX tl pl ft wd n1 n2))))))) H := hP
    have hD : va_D A (x8W u a r q ++ (svW ct r b nx sz S ++ (sobjW a ++ (gridW ct a M ++ (benchW ct a M ++ (logW ct a M ++ (txtW ct q TX tl pl ft wd n1 n2))))))) := hD
    refine W.eq (g2 := F0 m 102 ls [.int (zI (sp_rodv M i 1 (M 6))), .long (zJ bal_)]) rfl ?_
    refine z_canI (show sp_rodv M i 1 (M 6) = M (23 + 3 * i) from rfl) ?_
    refine z_i2l hx hb dL_sound_102 (by omega) ?_
    refine lv_aload_n hx hb dL_sound_103 rfl (lv_at hl 3 rfl) ?_
    refine lv_iload hx hb dL_sound_104 (lv_at hl 6 rfl) ?_
    refine z_iconst hx hb dL_sound_106 ?_
    refine z_callSW (As := [.ref u, .int (zI i), .int (zI 2)]) (rest := [.long (zJ (M (23 + 3 * i))), .long (zJ bal_)]) ([] : va_W) ([] : va_W) hx hb hml hown hts hl hE hS hA (zr0 ([] : va_W) hP) (zr0D ([] : va_W) hD) (c_L_rod_ok l D ct ad u a r q b nx sz S M TX tl pl ft n1 n2 wd i 2 (by assumption) (by omega) (by omega) (by omega)) gL_sound_L_rod rfl k_L_rod ⟨Nat.le_of_ble_eq_true rfl, Nat.le_of_ble_eq_true rfl⟩ rfl (Nat.le_of_ble_eq_true rfl) ⟨Nat.le_of_ble_eq_true rfl, Nat.le_of_ble_eq_true rfl⟩ dL_sound_107 rfl (fun v w1 H locs hpost hP hD hS => ?_)
    obtain ⟨rfl, rfl⟩ := hpost
    have hP := zr0' hP
    have hD := zr0D' hD
    have hP : va_P D vwCl (x8W u a r q ++ (svW ct r b nx sz S ++ (sobjW a ++ (gridW ct a M ++ (benchW ct a M ++ (logW ct a M ++ (txtW ct q TX tl pl ft wd n1 n2))))))) H := hP
    have hD : va_D A (x8W u a r q ++ (svW ct r b nx sz S ++ (sobjW a ++ (gridW ct a M ++ (benchW ct a M ++ (logW ct a M ++ (txtW ct q TX tl pl ft wd n1 n2))))))) := hD
    refine W.eq (g2 := F0 m 110 ls [.int (zI (sp_rodv M i 2 (M 6))), .long (zJ (M (23 + 3 * i))), .long (zJ bal_)]) rfl ?_
    refine z_canI (show sp_rodv M i 2 (M 6) = M (24 + 3 * i) from rfl) ?_
    refine z_i2l hx hb dL_sound_110 (by omega) ?_
    refine z_lmul hx hb dL_sound_111 ?_
    refine lv_aload_n hx hb dL_sound_112 rfl (lv_at hl 3 rfl) ?_
    refine lv_aload_n hx hb dL_sound_113 rfl (lv_at hl 3 rfl) ?_
    refine lv_iload hx hb dL_sound_114 (lv_at hl 6 rfl) ?_
    refine z_iconst hx hb dL_sound_116 ?_
    refine z_callSW (As := [.ref u, .int (zI i), .int (zI 0)]) (rest := [.ref u, .long (zJ ((M (23 + 3 * i)) * (M (24 + 3 * i)))), .long (zJ bal_)]) ([] : va_W) ([] : va_W) hx hb hml hown hts hl hE hS hA (zr0 ([] : va_W) hP) (zr0D ([] : va_W) hD) (c_L_rod_ok l D ct ad u a r q b nx sz S M TX tl pl ft n1 n2 wd i 0 (by assumption) (by omega) (by omega) (by omega)) gL_sound_L_rod rfl k_L_rod ⟨Nat.le_of_ble_eq_true rfl, Nat.le_of_ble_eq_true rfl⟩ rfl (Nat.le_of_ble_eq_true rfl) ⟨Nat.le_of_ble_eq_true rfl, Nat.le_of_ble_eq_true rfl⟩ dL_sound_117 rfl (fun v w1 H locs hpost hP hD hS => ?_)
    obtain ⟨rfl, rfl⟩ := hpost
    have hP := zr0' hP
    have hD := zr0D' hD
    have hP : va_P D vwCl (x8W u a r q ++ (svW ct r b nx sz S ++ (sobjW a ++ (gridW ct a M ++ (benchW ct a M ++ (logW ct a M ++ (txtW ct q TX tl pl ft wd n1 n2))))))) H := hP
    have hD : va_D A (x8W u a r q ++ (svW ct r b nx sz S ++ (sobjW a ++ (gridW ct a M ++ (benchW ct a M ++ (logW ct a M ++ (txtW ct q TX tl pl ft wd n1 n2))))))) := hD
    refine W.eq (g2 := F0 m 120 ls [.int (zI (sp_rodv M i 0 (M 6))), .ref u, .long (zJ ((M (23 + 3 * i)) * (M (24 + 3 * i)))), .long (zJ bal_)]) rfl ?_
    refine z_canI (show sp_rodv M i 0 (M 6) = M (22 + 3 * i) from rfl) ?_
    refine z_callSW (As := [.ref u, .int (zI (M (22 + 3 * i)))]) (rest := [.long (zJ ((M (23 + 3 * i)) * (M (24 + 3 * i)))), .long (zJ bal_)]) ([] : va_W) ([] : va_W) hx hb hml hown hts hl hE hS hA (zr0 ([] : va_W) hP) (zr0D ([] : va_W) hD) (c_L_stretch_ok l D ct ad u a r q b nx sz S M TX tl pl ft n1 n2 wd (M (22 + 3 * i)) (by assumption) (by omega) (by omega)) gL_sound_L_stretch rfl k_L_stretch ⟨Nat.le_of_ble_eq_true rfl, Nat.le_of_ble_eq_true rfl⟩ rfl (Nat.le_of_ble_eq_true rfl) ⟨Nat.le_of_ble_eq_true rfl, Nat.le_of_ble_eq_true rfl⟩ dL_sound_120 rfl (fun v w1 H locs hpost hP hD hS => ?_)
    obtain ⟨rfl, rfl⟩ := hpost
    have hP := zr0' hP
    have hD := zr0D' hD
    have hP : va_P D vwCl (x8W u a r q ++ (svW ct r b nx sz S ++ (sobjW a ++ (gridW ct a M ++ (benchW ct a M ++ (logW ct a M ++ (txtW ct q TX tl pl ft wd n1 n2))))))) H := hP
    have hD : va_D A (x8W u a r q ++ (svW ct r b nx sz S ++ (sobjW a ++ (gridW ct a M ++ (benchW ct a M ++ (logW ct a M ++ (txtW ct q TX tl pl ft wd n1 n2))))))) := hD
    refine W.eq (g2 := F0 m 123 ls [.int (zI (M (16 + (M (22 + 3 * i))))), .long (zJ ((M (23 + 3 * i)) * (M (24 + 3 * i)))), .long (zJ bal_)]) rfl ?_
    refine z_i2l hx hb dL_sound_123 (by omega) ?_
    refine z_lmul hx hb dL_sound_124 ?_
    refine z_ladd hx hb dL_sound_125 ?_
    refine lv_lstore_n (lv' := [(3, .long (zJ (bal_ + (((M (23 + 3 * i)) * (M (24 + 3 * i))) * (M (16 + (M (22 + 3 * i)))))))), (1, .long (zJ (len_ + ((M (23 + 3 * i)) * (M (24 + 3 * i) + sp_str M i (M 6)))))), (9, .long (zJ (sp_str M i (M 6)))), (7, .long (zJ (((M (24 + 3 * i)) * (M (16 + (M (22 + 3 * i))))) * ((M 6) - 200)))), (0, .ref u), (5, .int (zI (M 6))), (6, .int (zI i))]) hx hb dL_sound_126 rfl hl (by decide) rfl (fun ls hl => ?_)
    refine lv_aload_n hx hb dL_sound_127 rfl (lv_at hl 4 rfl) ?_
    refine lv_iload hx hb dL_sound_128 (lv_at hl 6 rfl) ?_
    refine z_iconst hx hb dL_sound_130 ?_
    refine z_callSW (As := [.ref u, .int (zI i), .int (zI 4)]) (rest := []) ([] : va_W) ([] : va_W) hx hb hml hown hts hl hE hS hA (zr0 ([] : va_W) hP) (zr0D ([] : va_W) hD) (c_L_rod_ok l D ct ad u a r q b nx sz S M TX tl pl ft n1 n2 wd i 4 (by assumption) (by omega) (by omega) (by omega)) gL_sound_L_rod rfl k_L_rod ⟨Nat.le_of_ble_eq_true rfl, Nat.le_of_ble_eq_true rfl⟩ rfl (Nat.le_of_ble_eq_true rfl) ⟨Nat.le_of_ble_eq_true rfl, Nat.le_of_ble_eq_true rfl⟩ dL_sound_131 rfl (fun v w1 H locs hpost hP hD hS => ?_)
    obtain ⟨rfl, rfl⟩ := hpost
    have hP := zr0' hP
    have hD := zr0D' hD
    have hP : va_P D vwCl (x8W u a r q ++ (svW ct r b nx sz S ++ (sobjW a ++ (gridW ct a M ++ (benchW ct a M ++ (logW ct a M ++ (txtW ct q TX tl pl ft wd n1 n2))))))) H := hP
    have hD : va_D A (x8W u a r q ++ (svW ct r b nx sz S ++ (sobjW a ++ (gridW ct a M ++ (benchW ct a M ++ (logW ct a M ++ (txtW ct q TX tl pl ft wd n1 n2))))))) := hD
    refine W.eq (g2 := F0 m 134 ls [.int (zI (sp_rodv M i 4 (M 6)))]) rfl ?_
    refine z_canI (show sp_rodv M i 4 (M 6) = M (24 + 3 * i) + sp_str M i (M 6) from rfl) ?_
    refine z_i2l hx hb dL_sound_134 (by omega) ?_
    refine lv_aload_n hx hb dL_sound_135 rfl (lv_at hl 4 rfl) ?_
    refine lv_iload hx hb dL_sound_136 (lv_at hl 6 rfl) ?_
    refine z_iconst hx hb dL_sound_138 ?_
    refine z_callSW (As := [.ref u, .int (zI i), .int (zI 2)]) (rest := [.long (zJ (M (24 + 3 * i) + sp_str M i (M 6)))]) ([] : va_W) ([] : va_W) hx hb hml hown hts hl hE hS hA (zr0 ([] : va_W) hP) (zr0D ([] : va_W) hD) (c_L_rod_ok l D ct ad u a r q b nx sz S M TX tl pl ft n1 n2 wd i 2 (by assumption) (by omega) (by omega) (by omega)) gL_sound_L_rod rfl k_L_rod ⟨Nat.le_of_ble_eq_true rfl, Nat.le_of_ble_eq_true rfl⟩ rfl (Nat.le_of_ble_eq_true rfl) ⟨Nat.le_of_ble_eq_true rfl, Nat.le_of_ble_eq_true rfl⟩ dL_sound_139 rfl (fun v w1 H locs hpost hP hD hS => ?_)
    obtain ⟨rfl, rfl⟩ := hpost
    have hP := zr0' hP
    have hD := zr0D' hD
    have hP : va_P D vwCl (x8W u a r q ++ (svW ct r b nx sz S ++ (sobjW a ++ (gridW ct a M ++ (benchW ct a M ++ (logW ct a M ++ (txtW ct q TX tl pl ft wd n1 n2))))))) H := hP
    have hD : va_D A (x8W u a r q ++ (svW ct r b nx sz S ++ (sobjW a ++ (gridW ct a M ++ (benchW ct a M ++ (logW ct a M ++ (txtW ct q TX tl pl ft wd n1 n2))))))) := hD
    refine W.eq (g2 := F0 m 142 ls [.int (zI (sp_rodv M i 2 (M 6))), .long (zJ (M (24 + 3 * i) + sp_str M i (M 6)))]) rfl ?_
    refine z_canI (show sp_rodv M i 2 (M 6) = M (24 + 3 * i) from rfl) ?_
    refine z_i2l hx hb dL_sound_142 (by omega) ?_
    refine lv_lload hx hb dL_sound_143 (lv_at hl 2 rfl) ?_
    refine z_ladd hx hb dL_sound_145 ?_
    refine z_lcmp_ne (tgt := 213) hx hb dL_sound_146 dL_sound_147 (by decide) (by omega) (by omega) (fun hc_146 => ?_) (fun hc_146 => ?_)
    · have hc_146 := hc_146
      omega
    have hc_146 := hc_146
    refine lv_lload hx hb dL_sound_150 (lv_at hl 2 rfl) ?_
    refine z_ldc2 hx hb 100000000 hown hf_1 (by decide) dL_sound_152 ?_
    refine z_lmul hx hb dL_sound_155 ?_
    refine lv_lload hx hb dL_sound_156 (lv_at hl 3 rfl) ?_
    refine z_lcmp_gt (tgt := 213) hx hb dL_sound_158 dL_sound_159 (by decide) (by omega) (by omega) (fun hc_158 => ?_) (fun hc_158 => ?_)
    · have hc_158 := hc_158
      omega
    have hc_158 := hc_158
    refine lv_lload hx hb dL_sound_162 (lv_at hl 2 rfl) ?_
    refine z_lconst (z := 1) hx hb dL_sound_164 rfl ?_
    refine z_ladd hx hb dL_sound_165 ?_
    refine z_ldc2 hx hb 100000000 hown hf_1 (by decide) dL_sound_166 ?_
    refine z_lmul hx hb dL_sound_169 ?_
    refine lv_lload hx hb dL_sound_170 (lv_at hl 3 rfl) ?_
    refine z_lcmp_le (tgt := 213) hx hb dL_sound_172 dL_sound_173 (by decide) (by omega) (by omega) (fun hc_172 => ?_) (fun hc_172 => ?_)
    · have hc_172 := hc_172
      omega
    have hc_172 := hc_172
    refine lv_iload hx hb dL_sound_176 (lv_at hl 5 rfl) ?_
    refine z_sipush hx hb dL_sound_178 (by decide) ?_
    refine z_icmp_ne (tgt := 191) hx hb dL_sound_181 (by decide) (by omega) (by omega) (fun hc_181 => ?_) (fun hc_181 => ?_)
    · have hc_181 := hc_181
      refine lv_aload_n hx hb dL_sound_191 rfl (lv_at hl 4 rfl) ?_
      refine lv_iload hx hb dL_sound_192 (lv_at hl 6 rfl) ?_
      refine z_iconst hx hb dL_sound_194 ?_
      refine z_callSW (As := [.ref u, .int (zI i), .int (zI 1)]) (rest := []) ([] : va_W) ([] : va_W) hx hb hml hown hts hl hE hS hA (zr0 ([] : va_W) hP) (zr0D ([] : va_W) hD) (c_L_rod_ok l D ct ad u a r q b nx sz S M TX tl pl ft n1 n2 wd i 1 (by assumption) (by omega) (by omega) (by omega)) gL_sound_L_rod rfl k_L_rod ⟨Nat.le_of_ble_eq_true rfl, Nat.le_of_ble_eq_true rfl⟩ rfl (Nat.le_of_ble_eq_true rfl) ⟨Nat.le_of_ble_eq_true rfl, Nat.le_of_ble_eq_true rfl⟩ dL_sound_195 rfl (fun v w1 H locs hpost hP hD hS => ?_)
      obtain ⟨rfl, rfl⟩ := hpost
      have hP := zr0' hP
      have hD := zr0D' hD
      have hP : va_P D vwCl (x8W u a r q ++ (svW ct r b nx sz S ++ (sobjW a ++ (gridW ct a M ++ (benchW ct a M ++ (logW ct a M ++ (txtW ct q TX tl pl ft wd n1 n2))))))) H := hP
      have hD : va_D A (x8W u a r q ++ (svW ct r b nx sz S ++ (sobjW a ++ (gridW ct a M ++ (benchW ct a M ++ (logW ct a M ++ (txtW ct q TX tl pl ft wd n1 n2))))))) := hD
      refine W.eq (g2 := F0 m 198 ls [.int (zI (sp_rodv M i 1 (M 6)))]) rfl ?_
      refine z_canI (show sp_rodv M i 1 (M 6) = M (23 + 3 * i) from rfl) ?_
      refine z_iconst hx hb dL_sound_198 ?_
      refine z_icmp_eq (tgt := 215) hx hb dL_sound_199 (by decide) (by omega) (by omega) (fun hc_199 => ?_) (fun hc_199 => ?_)
      · have hc_199 := hc_199
        refine z_iinc (k := 6) (lv' := [(6, .int (zI (i + 1))), (3, .long (zJ (bal_ + (((M (23 + 3 * i)) * (M (24 + 3 * i))) * (M (16 + (M (22 + 3 * i)))))))), (1, .long (zJ (len_ + ((M (23 + 3 * i)) * (M (24 + 3 * i) + sp_str M i (M 6)))))), (9, .long (zJ (sp_str M i (M 6)))), (7, .long (zJ (((M (24 + 3 * i)) * (M (16 + (M (22 + 3 * i))))) * ((M 6) - 200)))), (0, .ref u), (5, .int (zI (M 6)))]) hx hb dL_sound_215 hl rfl (by decide) rfl (fun ls hl => ?_)
        refine lv_goto (tgt := 23) hx hb dL_sound_218 (by decide) ?_
        exact ih_23 (i + 1, len_ + ((M (23 + 3 * i)) * (M (24 + 3 * i) + sp_str M i (M 6))), bal_ + (((M (23 + 3 * i)) * (M (24 + 3 * i))) * (M (16 + (M (22 + 3 * i)))))) ⟨(show 0 ≤ (i + 1) ∧ (i + 1) ≤ M 4 from (by omega)), (show (len_ + ((M (23 + 3 * i)) * (M (24 + 3 * i) + sp_str M i (M 6)))) = 10 * M 7 + sp_rodsN M (M 6) (i + 1).toNat from (by rw [sp_rodsS (by omega), hlen]; omega)), (show (bal_ + (((M (23 + 3 * i)) * (M (24 + 3 * i))) * (M (16 + (M (22 + 3 * i)))))) = sp_balN M (i + 1).toNat from (by rw [sp_balS (by omega), hbal]; rfl))⟩ (show (M 4 - (i + 1)).toNat < (M 4 - i).toNat from (by omega)) _ _ _ hP hD hS (lv_sub hl [5, 2, 1, 6, 0] rfl)
      · have hc_199 := hc_199
        refine lv_aload_n hx hb dL_sound_202 rfl (lv_at hl 4 rfl) ?_
        refine lv_iload hx hb dL_sound_203 (lv_at hl 6 rfl) ?_
        refine z_iconst hx hb dL_sound_205 ?_
        refine z_callSW (As := [.ref u, .int (zI i), .int (zI 1)]) (rest := []) ([] : va_W) ([] : va_W) hx hb hml hown hts hl hE hS hA (zr0 ([] : va_W) hP) (zr0D ([] : va_W) hD) (c_L_rod_ok l D ct ad u a r q b nx sz S M TX tl pl ft n1 n2 wd i 1 (by assumption) (by omega) (by omega) (by omega)) gL_sound_L_rod rfl k_L_rod ⟨Nat.le_of_ble_eq_true rfl, Nat.le_of_ble_eq_true rfl⟩ rfl (Nat.le_of_ble_eq_true rfl) ⟨Nat.le_of_ble_eq_true rfl, Nat.le_of_ble_eq_true rfl⟩ dL_sound_206 rfl (fun v w1 H locs hpost hP hD hS => ?_)
        obtain ⟨rfl, rfl⟩ := hpost
        have hP := zr0' hP
        have hD := zr0D' hD
        have hP : va_P D vwCl (x8W u a r q ++ (svW ct r b nx sz S ++ (sobjW a ++ (gridW ct a M ++ (benchW ct a M ++ (logW ct a M ++ (txtW ct q TX tl pl ft wd n1 n2))))))) H := hP
        have hD : va_D A (x8W u a r q ++ (svW ct r b nx sz S ++ (sobjW a ++ (gridW ct a M ++ (benchW ct a M ++ (logW ct a M ++ (txtW ct q TX tl pl ft wd n1 n2))))))) := hD
        refine W.eq (g2 := F0 m 209 ls [.int (zI (sp_rodv M i 1 (M 6)))]) rfl ?_
        refine z_canI (show sp_rodv M i 1 (M 6) = M (23 + 3 * i) from rfl) ?_
        refine z_iconst hx hb dL_sound_209 ?_
        refine z_icmp_eq (tgt := 215) hx hb dL_sound_210 (by decide) (by omega) (by omega) (fun hc_210 => ?_) (fun hc_210 => ?_)
        · have hc_210 := hc_210
          refine z_iinc (k := 6) (lv' := [(6, .int (zI (i + 1))), (3, .long (zJ (bal_ + (((M (23 + 3 * i)) * (M (24 + 3 * i))) * (M (16 + (M (22 + 3 * i)))))))), (1, .long (zJ (len_ + ((M (23 + 3 * i)) * (M (24 + 3 * i) + sp_str M i (M 6)))))), (9, .long (zJ (sp_str M i (M 6)))), (7, .long (zJ (((M (24 + 3 * i)) * (M (16 + (M (22 + 3 * i))))) * ((M 6) - 200)))), (0, .ref u), (5, .int (zI (M 6)))]) hx hb dL_sound_215 hl rfl (by decide) rfl (fun ls hl => ?_)
          refine lv_goto (tgt := 23) hx hb dL_sound_218 (by decide) ?_
          exact ih_23 (i + 1, len_ + ((M (23 + 3 * i)) * (M (24 + 3 * i) + sp_str M i (M 6))), bal_ + (((M (23 + 3 * i)) * (M (24 + 3 * i))) * (M (16 + (M (22 + 3 * i)))))) ⟨(show 0 ≤ (i + 1) ∧ (i + 1) ≤ M 4 from (by omega)), (show (len_ + ((M (23 + 3 * i)) * (M (24 + 3 * i) + sp_str M i (M 6)))) = 10 * M 7 + sp_rodsN M (M 6) (i + 1).toNat from (by rw [sp_rodsS (by omega), hlen]; omega)), (show (bal_ + (((M (23 + 3 * i)) * (M (24 + 3 * i))) * (M (16 + (M (22 + 3 * i)))))) = sp_balN M (i + 1).toNat from (by rw [sp_balS (by omega), hbal]; rfl))⟩ (show (M 4 - (i + 1)).toNat < (M 4 - i).toNat from (by omega)) _ _ _ hP hD hS (lv_sub hl [5, 2, 1, 6, 0] rfl)
        · have hc_210 := hc_210
          omega
    · have hc_181 := hc_181
      refine lv_lload hx hb dL_sound_184 (lv_at hl 2 rfl) ?_
      refine z_lconst (z := 0) hx hb dL_sound_186 rfl ?_
      refine z_lcmp_ne (tgt := 213) hx hb dL_sound_187 dL_sound_188 (by decide) (by omega) (by omega) (fun hc_187 => ?_) (fun hc_187 => ?_)
      · have hc_187 := hc_187
        omega
      have hc_187 := hc_187
      refine lv_aload_n hx hb dL_sound_191 rfl (lv_at hl 4 rfl) ?_
      refine lv_iload hx hb dL_sound_192 (lv_at hl 6 rfl) ?_
      refine z_iconst hx hb dL_sound_194 ?_
      refine z_callSW (As := [.ref u, .int (zI i), .int (zI 1)]) (rest := []) ([] : va_W) ([] : va_W) hx hb hml hown hts hl hE hS hA (zr0 ([] : va_W) hP) (zr0D ([] : va_W) hD) (c_L_rod_ok l D ct ad u a r q b nx sz S M TX tl pl ft n1 n2 wd i 1 (by assumption) (by omega) (by omega) (by omega)) gL_sound_L_rod rfl k_L_rod ⟨Nat.le_of_ble_eq_true rfl, Nat.le_of_ble_eq_true rfl⟩ rfl (Nat.le_of_ble_eq_true rfl) ⟨Nat.le_of_ble_eq_true rfl, Nat.le_of_ble_eq_true rfl⟩ dL_sound_195 rfl (fun v w1 H locs hpost hP hD hS => ?_)
      obtain ⟨rfl, rfl⟩ := hpost
      have hP := zr0' hP
      have hD := zr0D' hD
      have hP : va_P D vwCl (x8W u a r q ++ (svW ct r b nx sz S ++ (sobjW a ++ (gridW ct a M ++ (benchW ct a M ++ (logW ct a M ++ (txtW ct q TX tl pl ft wd n1 n2))))))) H := hP
      have hD : va_D A (x8W u a r q ++ (svW ct r b nx sz S ++ (sobjW a ++ (gridW ct a M ++ (benchW ct a M ++ (logW ct a M ++ (txtW ct q TX tl pl ft wd n1 n2))))))) := hD
      refine W.eq (g2 := F0 m 198 ls [.int (zI (sp_rodv M i 1 (M 6)))]) rfl ?_
      refine z_canI (show sp_rodv M i 1 (M 6) = M (23 + 3 * i) from rfl) ?_
      refine z_iconst hx hb dL_sound_198 ?_
      refine z_icmp_eq (tgt := 215) hx hb dL_sound_199 (by decide) (by omega) (by omega) (fun hc_199 => ?_) (fun hc_199 => ?_)
      · have hc_199 := hc_199
        refine z_iinc (k := 6) (lv' := [(6, .int (zI (i + 1))), (3, .long (zJ (bal_ + (((M (23 + 3 * i)) * (M (24 + 3 * i))) * (M (16 + (M (22 + 3 * i)))))))), (1, .long (zJ (len_ + ((M (23 + 3 * i)) * (M (24 + 3 * i) + sp_str M i (M 6)))))), (9, .long (zJ (sp_str M i (M 6)))), (7, .long (zJ (((M (24 + 3 * i)) * (M (16 + (M (22 + 3 * i))))) * ((M 6) - 200)))), (0, .ref u), (5, .int (zI (M 6)))]) hx hb dL_sound_215 hl rfl (by decide) rfl (fun ls hl => ?_)
        refine lv_goto (tgt := 23) hx hb dL_sound_218 (by decide) ?_
        exact ih_23 (i + 1, len_ + ((M (23 + 3 * i)) * (M (24 + 3 * i) + sp_str M i (M 6))), bal_ + (((M (23 + 3 * i)) * (M (24 + 3 * i))) * (M (16 + (M (22 + 3 * i)))))) ⟨(show 0 ≤ (i + 1) ∧ (i + 1) ≤ M 4 from (by omega)), (show (len_ + ((M (23 + 3 * i)) * (M (24 + 3 * i) + sp_str M i (M 6)))) = 10 * M 7 + sp_rodsN M (M 6) (i + 1).toNat from (by rw [sp_rodsS (by omega), hlen]; omega)), (show (bal_ + (((M (23 + 3 * i)) * (M (24 + 3 * i))) * (M (16 + (M (22 + 3 * i)))))) = sp_balN M (i + 1).toNat from (by rw [sp_balS (by omega), hbal]; rfl))⟩ (show (M 4 - (i + 1)).toNat < (M 4 - i).toNat from (by omega)) _ _ _ hP hD hS (lv_sub hl [5, 2, 1, 6, 0] rfl)
      · have hc_199 := hc_199
        refine lv_aload_n hx hb dL_sound_202 rfl (lv_at hl 4 rfl) ?_
        refine lv_iload hx hb dL_sound_203 (lv_at hl 6 rfl) ?_
        refine z_iconst hx hb dL_sound_205 ?_
        refine z_callSW (As := [.ref u, .int (zI i), .int (zI 1)]) (rest := []) ([] : va_W) ([] : va_W) hx hb hml hown hts hl hE hS hA (zr0 ([] : va_W) hP) (zr0D ([] : va_W) hD) (c_L_rod_ok l D ct ad u a r q b nx sz S M TX tl pl ft n1 n2 wd i 1 (by assumption) (by omega) (by omega) (by omega)) gL_sound_L_rod rfl k_L_rod ⟨Nat.le_of_ble_eq_true rfl, Nat.le_of_ble_eq_true rfl⟩ rfl (Nat.le_of_ble_eq_true rfl) ⟨Nat.le_of_ble_eq_true rfl, Nat.le_of_ble_eq_true rfl⟩ dL_sound_206 rfl (fun v w1 H locs hpost hP hD hS => ?_)
        obtain ⟨rfl, rfl⟩ := hpost
        have hP := zr0' hP
        have hD := zr0D' hD
        have hP : va_P D vwCl (x8W u a r q ++ (svW ct r b nx sz S ++ (sobjW a ++ (gridW ct a M ++ (benchW ct a M ++ (logW ct a M ++ (txtW ct q TX tl pl ft wd n1 n2))))))) H := hP
        have hD : va_D A (x8W u a r q ++ (svW ct r b nx sz S ++ (sobjW a ++ (gridW ct a M ++ (benchW ct a M ++ (logW ct a M ++ (txtW ct q TX tl pl ft wd n1 n2))))))) := hD
        refine W.eq (g2 := F0 m 209 ls [.int (zI (sp_rodv M i 1 (M 6)))]) rfl ?_
        refine z_canI (show sp_rodv M i 1 (M 6) = M (23 + 3 * i) from rfl) ?_
        refine z_iconst hx hb dL_sound_209 ?_
        refine z_icmp_eq (tgt := 215) hx hb dL_sound_210 (by decide) (by omega) (by omega) (fun hc_210 => ?_) (fun hc_210 => ?_)
        · have hc_210 := hc_210
          refine z_iinc (k := 6) (lv' := [(6, .int (zI (i + 1))), (3, .long (zJ (bal_ + (((M (23 + 3 * i)) * (M (24 + 3 * i))) * (M (16 + (M (22 + 3 * i)))))))), (1, .long (zJ (len_ + ((M (23 + 3 * i)) * (M (24 + 3 * i) + sp_str M i (M 6)))))), (9, .long (zJ (sp_str M i (M 6)))), (7, .long (zJ (((M (24 + 3 * i)) * (M (16 + (M (22 + 3 * i))))) * ((M 6) - 200)))), (0, .ref u), (5, .int (zI (M 6)))]) hx hb dL_sound_215 hl rfl (by decide) rfl (fun ls hl => ?_)
          refine lv_goto (tgt := 23) hx hb dL_sound_218 (by decide) ?_
          exact ih_23 (i + 1, len_ + ((M (23 + 3 * i)) * (M (24 + 3 * i) + sp_str M i (M 6))), bal_ + (((M (23 + 3 * i)) * (M (24 + 3 * i))) * (M (16 + (M (22 + 3 * i)))))) ⟨(show 0 ≤ (i + 1) ∧ (i + 1) ≤ M 4 from (by omega)), (show (len_ + ((M (23 + 3 * i)) * (M (24 + 3 * i) + sp_str M i (M 6)))) = 10 * M 7 + sp_rodsN M (M 6) (i + 1).toNat from (by rw [sp_rodsS (by omega), hlen]; omega)), (show (bal_ + (((M (23 + 3 * i)) * (M (24 + 3 * i))) * (M (16 + (M (22 + 3 * i)))))) = sp_balN M (i + 1).toNat from (by rw [sp_balS (by omega), hbal]; rfl))⟩ (show (M 4 - (i + 1)).toNat < (M 4 - i).toNat from (by omega)) _ _ _ hP hD hS (lv_sub hl [5, 2, 1, 6, 0] rfl)
        · have hc_210 := hc_210
          omega
