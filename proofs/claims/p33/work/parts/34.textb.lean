set_option maxHeartbeats 4000000 in
set_option maxRecDepth 100000 in
theorem c_X2_readNumber_ok (l : Launch) (D : va_G) (ct ad : Nat → Nat) (q : Nat → Nat) (TX : Int → Int) (tl pl ft n1 n2 : Int) (wd : Value) (ht : tInv TX tl) (hp : 0 ≤ pl ∧ pl ≤ tl) (hok : nok TX tl pl) : ZM l yX2_readNumber wsX2_readNumber ({ frames := 1, cells := 0, slots := 0, locals := 20 } : Room) D ct ad [.ref (q 0)] (txtW ct q TX tl pl ft wd n1 n2) (zD (some (.int (zI (nV TX tl pl)))) (txtW ct q TX tl (dE TX tl pl) ft wd n1 n2)) := by
  refine ZM.of (cc := cX2_readNumber) (maxL := 4) (ret := (some .int)) (by decide +kernel) rfl (Nat.le_of_ble_eq_true rfl) ?_
  intro p e s m below meth c A ls hx hb hr hts hown hlocks hml hname hE hP hD hA hS hl
  have hK := hE.1
  have hf_0 := hts (.fieldLink RX2 23 "RodGrids$CommandText" "place" "I") (by decide +kernel)
  have hin_X2 : ∀ z ∈ u_ws RX2 TX2 7, z ∈ wsX2_readNumber := by decide +kernel
  have hl : lv_has ls 4 [(0, .ref (q 0))] := hl
  have t1 := ht.1
  have tP := tcB ht (p := pl) hp.1
  have sB := sk_B (TX := TX) hp.2
  have sL := sk_lt (TX := TX) hp.2
  have nB := (nV_B (TX := TX) hp.2).1
  have okf := hok.1
  have okg := hok.2
  refine lv_aload_n hx hb dX2_readNumber_0 rfl (lv_at hl 0 rfl) ?_
  refine z_callV (C := RX2) (q0 := 0) (ci := 1) (As := []) (rest := []) ([] : va_W) ([] : va_W) hx hb hml hown hts hl hE hS hA (zr0 ([] : va_W) hP) (zr0D ([] : va_W) hD) (c_X2_byteHere l D ct ad q TX tl pl ft n1 n2 wd (by assumption) (by omega)) gX2_readNumber_X2_byteHere rfl rfl k_X2_byteHere ⟨Nat.le_of_ble_eq_true rfl, Nat.le_of_ble_eq_true rfl⟩ rfl rfl rfl rfl (Nat.le_of_ble_eq_true rfl) ⟨Nat.le_of_ble_eq_true rfl, Nat.le_of_ble_eq_true rfl⟩ dX2_readNumber_1 rfl (fun v w1 H locs hpost hP hD hS => ?_)
  obtain ⟨rfl, rfl⟩ := hpost
  have hP := zr0' hP
  have hD := zr0D' hD
  have hP : va_P D vwCl (txtW ct q TX tl pl ft wd n1 n2) H := hP
  have hD : va_D A (txtW ct q TX tl pl ft wd n1 n2) := hD
  refine W.eq (g2 := F0 m 4 ls [.int (zI (tc TX tl pl))]) rfl ?_
  refine z_bipush hx hb dX2_readNumber_4 (by decide) ?_
  refine z_icmp_ne (tgt := 13) hx hb dX2_readNumber_6 (by decide) (by omega) (by omega) (fun hc_6 => ?_) (fun hc_6 => ?_)
  · have hc_6 := hc_6
    refine z_iconst hx hb dX2_readNumber_13 ?_
    refine lv_istore_n (lv' := [(1, .int (zI 0)), (0, .ref (q 0))]) hx hb dX2_readNumber_14 rfl hl (by decide) rfl (fun ls hl => ?_)
    refine lv_aload_n hx hb dX2_readNumber_15 rfl (lv_at hl 1 rfl) ?_
    refine z_callV (C := RX2) (q0 := 0) (ci := 1) (As := []) (rest := []) ([] : va_W) ([] : va_W) hx hb hml hown hts hl hE hS hA (zr0 ([] : va_W) hP) (zr0D ([] : va_W) hD) (c_X2_skipSpaces l D ct ad q TX tl pl ft n1 n2 wd (by assumption) (by omega)) gX2_readNumber_X2_skipSpaces rfl rfl k_X2_skipSpaces ⟨Nat.le_of_ble_eq_true rfl, Nat.le_of_ble_eq_true rfl⟩ rfl rfl rfl rfl (Nat.le_of_ble_eq_true rfl) ⟨Nat.le_of_ble_eq_true rfl, Nat.le_of_ble_eq_true rfl⟩ dX2_readNumber_16 rfl (fun v w1 H locs hpost hP hD hS => ?_)
    obtain ⟨rfl, rfl⟩ := hpost
    have hP := zr0' hP
    have hD := zr0D' hD
    have hP : va_P D vwCl (txtW ct q TX tl (sk TX tl pl) ft wd n1 n2) H := hP
    have hD : va_D A (txtW ct q TX tl (sk TX tl pl) ft wd n1 n2) := hD
    refine W.eq (g2 := F0 m 19 ls []) rfl ?_
    refine z_iconst hx hb dX2_readNumber_19 ?_
    refine lv_istore_n (lv' := [(2, .int (zI 0)), (1, .int (zI 0)), (0, .ref (q 0))]) hx hb dX2_readNumber_20 rfl hl (by decide) rfl (fun ls hl => ?_)
    refine z_iconst hx hb dX2_readNumber_21 ?_
    refine lv_istore_n (lv' := [(3, .int (zI 0)), (2, .int (zI 0)), (1, .int (zI 0)), (0, .ref (q 0))]) hx hb dX2_readNumber_22 rfl hl (by decide) rfl (fun ls hl => ?_)
    refine z_loop (σ := Int × Int × Int × Int) (fun q9 => (tl - q9.1).toNat) (fun q9 => ((q9.2.2.1 = 1 ∧ tc TX tl pl = 32) ∨ (q9.2.2.1 = 0 ∧ tc TX tl pl ≠ 32 ∧ q9.1 = sk TX tl pl)) ∧ (sk TX tl pl ≤ q9.1 ∧ q9.1 ≤ tl ∧ q9.1 ≤ sk TX tl pl + 7 ∧ q9.2.2.2 = q9.1 - sk TX tl pl) ∧ (dvN TX tl (sk TX tl pl + 7 - q9.1).toNat q9.1 q9.2.1 = dvN TX tl 7 (sk TX tl pl) 0)) (fun q9 => txtW ct q TX tl q9.1 ft wd n1 n2) (fun q9 => [(0, .ref (q 0)), (1, .int (zI q9.2.2.1)), (2, .int (zI q9.2.1)), (3, .int (zI q9.2.2.2))]) (fun q9 => []) ((sk TX tl pl), 0, 0, 0) ⟨(show (0 = 1 ∧ tc TX tl pl = 32) ∨ (0 = 0 ∧ tc TX tl pl ≠ 32 ∧ (sk TX tl pl) = sk TX tl pl) from (by omega)), (show sk TX tl pl ≤ (sk TX tl pl) ∧ (sk TX tl pl) ≤ tl ∧ (sk TX tl pl) ≤ sk TX tl pl + 7 ∧ 0 = (sk TX tl pl) - sk TX tl pl from (by omega)), (show dvN TX tl (sk TX tl pl + 7 - (sk TX tl pl)).toNat (sk TX tl pl) 0 = dvN TX tl 7 (sk TX tl pl) 0 from (by rw [show (sk TX tl pl + 7 - sk TX tl pl).toNat = 7 by omega]))⟩ hP hD hS (lv_sub hl [3, 2, 1, 0] rfl) rfl ?_
    rintro ⟨i, n_, a_, d_⟩ hI_23 ih_23 H locs ls hP hD hS hl
    obtain ⟨ha, hi, hd⟩ := hI_23
    have ha : (a_ = 1 ∧ tc TX tl pl = 32) ∨ (a_ = 0 ∧ tc TX tl pl ≠ 32 ∧ i = sk TX tl pl) := ha
    have hi : sk TX tl pl ≤ i ∧ i ≤ tl ∧ i ≤ sk TX tl pl + 7 ∧ d_ = i - sk TX tl pl := hi
    have hd : dvN TX tl (sk TX tl pl + 7 - i).toNat i n_ = dvN TX tl 7 (sk TX tl pl) 0 := hd
    have hP : va_P D vwCl (txtW ct q TX tl i ft wd n1 n2) H := hP
    have hD : va_D A (txtW ct q TX tl i ft wd n1 n2) := hD
    have hl : lv_has ls 4 [(0, .ref (q 0)), (1, .int (zI a_)), (2, .int (zI n_)), (3, .int (zI d_))] := hl
    have tB := tcB ht (p := i) (by omega)
    refine lv_iload_n hx hb dX2_readNumber_23 rfl (lv_at hl 1 rfl) ?_
    refine z_if_eq (tgt := 80) hx hb dX2_readNumber_24 (by decide) (by omega) (fun hc_24 => ?_) (fun hc_24 => ?_)
    · have hc_24 := hc_24
      have eE : tc TX tl pl = 32 → dvN TX tl 7 (sk TX tl pl) 0 = (i, n_) := fun z => by rw [← hd]; exact dvE (by omega)
      have e1 : tc TX tl pl = 32 → dE TX tl pl = i := fun z => by unfold dE; rw [eE z]
      have e2 : tc TX tl pl = 32 → nV TX tl pl = n_ := fun z => by unfold nV; rw [eE z]
      refine lv_iload_n hx hb dX2_readNumber_80 rfl (lv_at hl 3 rfl) ?_
      refine z_if_ne (tgt := 92) hx hb dX2_readNumber_81 (by decide) (by omega) (fun hc_81 => ?_) (fun hc_81 => ?_)
      · have hc_81 := hc_81
        refine lv_iload_n hx hb dX2_readNumber_92 rfl (lv_at hl 3 rfl) ?_
        refine z_if_ne (tgt := 100) hx hb dX2_readNumber_93 (by decide) (by omega) (fun hc_93 => ?_) (fun hc_93 => ?_)
        · have hc_93 := hc_93
          refine lv_iload_n hx hb dX2_readNumber_100 rfl (lv_at hl 2 rfl) ?_
          exact z_iret hx hb hr hlocks hP hD hS ⟨Nat.le_of_ble_eq_true rfl, Nat.le_of_ble_eq_true rfl⟩ dX2_readNumber_101 (⟨congrArg (fun z => some (Value.int (zI z))) (by first | rfl | exact (e2 okf).symm | omega), by first | rfl | rw [e1 okf] | (rw [show i = sk TX tl pl by rcases ha with ⟨x, y⟩ | ⟨x, y, z⟩; exact (by have h9 := nof y; have := e1 y; omega); exact z])⟩)
        · have hc_93 := hc_93
          exfalso; have := e1 okf; omega
      · have hc_81 := hc_81
        exfalso; have := e1 okf; omega
    · have hc_24 := hc_24
      refine lv_iload_n hx hb dX2_readNumber_27 rfl (lv_at hl 3 rfl) ?_
      refine z_bipush hx hb dX2_readNumber_28 (by decide) ?_
      refine z_icmp_ge (tgt := 80) hx hb dX2_readNumber_30 (by decide) (by omega) (by omega) (fun hc_30 => ?_) (fun hc_30 => ?_)
      · have hc_30 := hc_30
        have eE : tc TX tl pl = 32 → dvN TX tl 7 (sk TX tl pl) 0 = (i, n_) := fun z => by rw [← hd]; exact dvE (by omega)
        have e1 : tc TX tl pl = 32 → dE TX tl pl = i := fun z => by unfold dE; rw [eE z]
        have e2 : tc TX tl pl = 32 → nV TX tl pl = n_ := fun z => by unfold nV; rw [eE z]
        refine lv_iload_n hx hb dX2_readNumber_80 rfl (lv_at hl 3 rfl) ?_
        refine z_if_ne (tgt := 92) hx hb dX2_readNumber_81 (by decide) (by omega) (fun hc_81 => ?_) (fun hc_81 => ?_)
        · have hc_81 := hc_81
          refine lv_iload_n hx hb dX2_readNumber_92 rfl (lv_at hl 3 rfl) ?_
          refine z_if_ne (tgt := 100) hx hb dX2_readNumber_93 (by decide) (by omega) (fun hc_93 => ?_) (fun hc_93 => ?_)
          · have hc_93 := hc_93
            refine lv_iload_n hx hb dX2_readNumber_100 rfl (lv_at hl 2 rfl) ?_
            exact z_iret hx hb hr hlocks hP hD hS ⟨Nat.le_of_ble_eq_true rfl, Nat.le_of_ble_eq_true rfl⟩ dX2_readNumber_101 (⟨congrArg (fun z => some (Value.int (zI z))) (by first | rfl | exact (e2 okf).symm | omega), by first | rfl | rw [e1 okf] | (rw [show i = sk TX tl pl by rcases ha with ⟨x, y⟩ | ⟨x, y, z⟩; exact (by have h9 := nof y; have := e1 y; omega); exact z])⟩)
          · have hc_93 := hc_93
            exfalso; have := e1 okf; omega
        · have hc_81 := hc_81
          exfalso; have := e1 okf; omega
      · have hc_30 := hc_30
        refine lv_aload_n hx hb dX2_readNumber_33 rfl (lv_at hl 0 rfl) ?_
        refine z_callV (C := RX2) (q0 := 0) (ci := 1) (As := []) (rest := []) ([] : va_W) ([] : va_W) hx hb hml hown hts hl hE hS hA (zr0 ([] : va_W) hP) (zr0D ([] : va_W) hD) (c_X2_byteHere l D ct ad q TX tl i ft n1 n2 wd (by assumption) (by omega)) gX2_readNumber_X2_byteHere rfl rfl k_X2_byteHere ⟨Nat.le_of_ble_eq_true rfl, Nat.le_of_ble_eq_true rfl⟩ rfl rfl rfl rfl (Nat.le_of_ble_eq_true rfl) ⟨Nat.le_of_ble_eq_true rfl, Nat.le_of_ble_eq_true rfl⟩ dX2_readNumber_34 rfl (fun v w1 H locs hpost hP hD hS => ?_)
        obtain ⟨rfl, rfl⟩ := hpost
        have hP := zr0' hP
        have hD := zr0D' hD
        have hP : va_P D vwCl (txtW ct q TX tl i ft wd n1 n2) H := hP
        have hD : va_D A (txtW ct q TX tl i ft wd n1 n2) := hD
        refine W.eq (g2 := F0 m 37 ls [.int (zI (tc TX tl i))]) rfl ?_
        refine z_bipush hx hb dX2_readNumber_37 (by decide) ?_
        refine z_icmp_lt (tgt := 80) hx hb dX2_readNumber_39 (by decide) (by omega) (by omega) (fun hc_39 => ?_) (fun hc_39 => ?_)
        · have hc_39 := hc_39
          have eE : tc TX tl pl = 32 → dvN TX tl 7 (sk TX tl pl) 0 = (i, n_) := fun z => by rw [← hd]; exact dvE (by omega)
          have e1 : tc TX tl pl = 32 → dE TX tl pl = i := fun z => by unfold dE; rw [eE z]
          have e2 : tc TX tl pl = 32 → nV TX tl pl = n_ := fun z => by unfold nV; rw [eE z]
          refine lv_iload_n hx hb dX2_readNumber_80 rfl (lv_at hl 3 rfl) ?_
          refine z_if_ne (tgt := 92) hx hb dX2_readNumber_81 (by decide) (by omega) (fun hc_81 => ?_) (fun hc_81 => ?_)
          · have hc_81 := hc_81
            refine lv_iload_n hx hb dX2_readNumber_92 rfl (lv_at hl 3 rfl) ?_
            refine z_if_ne (tgt := 100) hx hb dX2_readNumber_93 (by decide) (by omega) (fun hc_93 => ?_) (fun hc_93 => ?_)
            · have hc_93 := hc_93
              refine lv_iload_n hx hb dX2_readNumber_100 rfl (lv_at hl 2 rfl) ?_
              exact z_iret hx hb hr hlocks hP hD hS ⟨Nat.le_of_ble_eq_true rfl, Nat.le_of_ble_eq_true rfl⟩ dX2_readNumber_101 (⟨congrArg (fun z => some (Value.int (zI z))) (by first | rfl | exact (e2 okf).symm | omega), by first | rfl | rw [e1 okf] | (rw [show i = sk TX tl pl by rcases ha with ⟨x, y⟩ | ⟨x, y, z⟩; exact (by have h9 := nof y; have := e1 y; omega); exact z])⟩)
            · have hc_93 := hc_93
              exfalso; have := e1 okf; omega
          · have hc_81 := hc_81
            exfalso; have := e1 okf; omega
        · have hc_39 := hc_39
          refine lv_aload_n hx hb dX2_readNumber_42 rfl (lv_at hl 0 rfl) ?_
          refine z_callV (C := RX2) (q0 := 0) (ci := 1) (As := []) (rest := []) ([] : va_W) ([] : va_W) hx hb hml hown hts hl hE hS hA (zr0 ([] : va_W) hP) (zr0D ([] : va_W) hD) (c_X2_byteHere l D ct ad q TX tl i ft n1 n2 wd (by assumption) (by omega)) gX2_readNumber_X2_byteHere rfl rfl k_X2_byteHere ⟨Nat.le_of_ble_eq_true rfl, Nat.le_of_ble_eq_true rfl⟩ rfl rfl rfl rfl (Nat.le_of_ble_eq_true rfl) ⟨Nat.le_of_ble_eq_true rfl, Nat.le_of_ble_eq_true rfl⟩ dX2_readNumber_43 rfl (fun v w1 H locs hpost hP hD hS => ?_)
          obtain ⟨rfl, rfl⟩ := hpost
          have hP := zr0' hP
          have hD := zr0D' hD
          have hP : va_P D vwCl (txtW ct q TX tl i ft wd n1 n2) H := hP
          have hD : va_D A (txtW ct q TX tl i ft wd n1 n2) := hD
          refine W.eq (g2 := F0 m 46 ls [.int (zI (tc TX tl i))]) rfl ?_
          refine z_bipush hx hb dX2_readNumber_46 (by decide) ?_
          refine z_icmp_gt (tgt := 80) hx hb dX2_readNumber_48 (by decide) (by omega) (by omega) (fun hc_48 => ?_) (fun hc_48 => ?_)
          · have hc_48 := hc_48
            have eE : tc TX tl pl = 32 → dvN TX tl 7 (sk TX tl pl) 0 = (i, n_) := fun z => by rw [← hd]; exact dvE (by omega)
            have e1 : tc TX tl pl = 32 → dE TX tl pl = i := fun z => by unfold dE; rw [eE z]
            have e2 : tc TX tl pl = 32 → nV TX tl pl = n_ := fun z => by unfold nV; rw [eE z]
            refine lv_iload_n hx hb dX2_readNumber_80 rfl (lv_at hl 3 rfl) ?_
            refine z_if_ne (tgt := 92) hx hb dX2_readNumber_81 (by decide) (by omega) (fun hc_81 => ?_) (fun hc_81 => ?_)
            · have hc_81 := hc_81
              refine lv_iload_n hx hb dX2_readNumber_92 rfl (lv_at hl 3 rfl) ?_
              refine z_if_ne (tgt := 100) hx hb dX2_readNumber_93 (by decide) (by omega) (fun hc_93 => ?_) (fun hc_93 => ?_)
              · have hc_93 := hc_93
                refine lv_iload_n hx hb dX2_readNumber_100 rfl (lv_at hl 2 rfl) ?_
                exact z_iret hx hb hr hlocks hP hD hS ⟨Nat.le_of_ble_eq_true rfl, Nat.le_of_ble_eq_true rfl⟩ dX2_readNumber_101 (⟨congrArg (fun z => some (Value.int (zI z))) (by first | rfl | exact (e2 okf).symm | omega), by first | rfl | rw [e1 okf] | (rw [show i = sk TX tl pl by rcases ha with ⟨x, y⟩ | ⟨x, y, z⟩; exact (by have h9 := nof y; have := e1 y; omega); exact z])⟩)
              · have hc_93 := hc_93
                exfalso; have := e1 okf; omega
            · have hc_81 := hc_81
              exfalso; have := e1 okf; omega
          · have hc_48 := hc_48
            refine z_bipush hx hb dX2_readNumber_51 (by decide) ?_
            refine lv_iload_n hx hb dX2_readNumber_53 rfl (lv_at hl 2 rfl) ?_
            refine z_imul hx hb dX2_readNumber_54 ?_
            refine lv_aload_n hx hb dX2_readNumber_55 rfl (lv_at hl 0 rfl) ?_
            refine z_callV (C := RX2) (q0 := 0) (ci := 1) (As := []) (rest := [.int (zI (10 * n_))]) ([] : va_W) ([] : va_W) hx hb hml hown hts hl hE hS hA (zr0 ([] : va_W) hP) (zr0D ([] : va_W) hD) (c_X2_byteHere l D ct ad q TX tl i ft n1 n2 wd (by assumption) (by omega)) gX2_readNumber_X2_byteHere rfl rfl k_X2_byteHere ⟨Nat.le_of_ble_eq_true rfl, Nat.le_of_ble_eq_true rfl⟩ rfl rfl rfl rfl (Nat.le_of_ble_eq_true rfl) ⟨Nat.le_of_ble_eq_true rfl, Nat.le_of_ble_eq_true rfl⟩ dX2_readNumber_56 rfl (fun v w1 H locs hpost hP hD hS => ?_)
            obtain ⟨rfl, rfl⟩ := hpost
            have hP := zr0' hP
            have hD := zr0D' hD
            have hP : va_P D vwCl (txtW ct q TX tl i ft wd n1 n2) H := hP
            have hD : va_D A (txtW ct q TX tl i ft wd n1 n2) := hD
            refine W.eq (g2 := F0 m 59 ls [.int (zI (tc TX tl i)), .int (zI (10 * n_))]) rfl ?_
            refine z_iadd hx hb dX2_readNumber_59 ?_
            refine z_bipush hx hb dX2_readNumber_60 (by decide) ?_
            refine z_isub hx hb dX2_readNumber_62 ?_
            refine lv_istore_n (lv' := [(2, .int (zI (((10 * n_) + (tc TX tl i)) - 48))), (0, .ref (q 0)), (1, .int (zI a_)), (3, .int (zI d_))]) hx hb dX2_readNumber_63 rfl hl (by decide) rfl (fun ls hl => ?_)
            refine z_iinc (k := 3) (lv' := [(3, .int (zI (d_ + 1))), (2, .int (zI (((10 * n_) + (tc TX tl i)) - 48))), (0, .ref (q 0)), (1, .int (zI a_))]) hx hb dX2_readNumber_64 hl rfl (by decide) rfl (fun ls hl => ?_)
            refine lv_aload_n hx hb dX2_readNumber_67 rfl (lv_at hl 2 rfl) ?_
            refine lv_dup hx hb dX2_readNumber_68 rfl ?_
            refine va_get (D := D) (ci := 1) (v := .int (zI i)) (C := RX2) (T := TX2) (N := 7) hx hb hts hin_X2 hown hK hP 0 rfl rfl 2 (by decide) hf_0 (fun _ h9 => h9) rfl dX2_readNumber_69 ?_
            refine z_iconst hx hb dX2_readNumber_72 ?_
            refine z_iadd hx hb dX2_readNumber_73 ?_
            refine z_put (ct := ct) (ad := ad) (ci := 1) (v := .int (zI (i + 1))) (ty := tyX2 2) (C := RX2) (T := TX2) (N := 7) (w2 := txtW ct q TX tl (i + 1) ft wd n1 n2) hx hb hts hin_X2 tyX2 tyX2_ok nmX2 hown hE hP hD hS 0 rfl rfl 2 (by decide) hf_0 (fun _ h9 => h9) rfl (by decide +kernel) rfl rfl (Nat.le_of_ble_eq_true rfl) dX2_readNumber_74 (rfl) (fun H locs hP hD hS => ?_)
            refine lv_goto (tgt := 23) hx hb dX2_readNumber_77 (by decide) ?_
            exact ih_23 (i + 1, ((10 * n_) + (tc TX tl i)) - 48, a_, d_ + 1) ⟨(show (a_ = 1 ∧ tc TX tl pl = 32) ∨ (a_ = 0 ∧ tc TX tl pl ≠ 32 ∧ (i + 1) = sk TX tl pl) from (by omega)), (show sk TX tl pl ≤ (i + 1) ∧ (i + 1) ≤ tl ∧ (i + 1) ≤ sk TX tl pl + 7 ∧ (d_ + 1) = (i + 1) - sk TX tl pl from (by omega)), (show dvN TX tl (sk TX tl pl + 7 - (i + 1)).toNat (i + 1) (((10 * n_) + (tc TX tl i)) - 48) = dvN TX tl 7 (sk TX tl pl) 0 from (by rw [← hd, dvS (q := sk TX tl pl) (i := i) (x := n_) (by omega) (by omega)]; try (first | rfl | (congr 1; omega))))⟩ (show (tl - (i + 1)).toNat < (tl - i).toNat from (by omega)) _ _ _ hP hD hS (lv_sub hl [2, 3, 1, 0] rfl)
  · have hc_6 := hc_6
    refine z_iconst hx hb dX2_readNumber_9 ?_
    refine lv_goto (tgt := 14) hx hb dX2_readNumber_10 (by decide) ?_
    refine lv_istore_n (lv' := [(1, .int (zI 1)), (0, .ref (q 0))]) hx hb dX2_readNumber_14 rfl hl (by decide) rfl (fun ls hl => ?_)
    refine lv_aload_n hx hb dX2_readNumber_15 rfl (lv_at hl 1 rfl) ?_
    refine z_callV (C := RX2) (q0 := 0) (ci := 1) (As := []) (rest := []) ([] : va_W) ([] : va_W) hx hb hml hown hts hl hE hS hA (zr0 ([] : va_W) hP) (zr0D ([] : va_W) hD) (c_X2_skipSpaces l D ct ad q TX tl pl ft n1 n2 wd (by assumption) (by omega)) gX2_readNumber_X2_skipSpaces rfl rfl k_X2_skipSpaces ⟨Nat.le_of_ble_eq_true rfl, Nat.le_of_ble_eq_true rfl⟩ rfl rfl rfl rfl (Nat.le_of_ble_eq_true rfl) ⟨Nat.le_of_ble_eq_true rfl, Nat.le_of_ble_eq_true rfl⟩ dX2_readNumber_16 rfl (fun v w1 H locs hpost hP hD hS => ?_)
    obtain ⟨rfl, rfl⟩ := hpost
    have hP := zr0' hP
    have hD := zr0D' hD
    have hP : va_P D vwCl (txtW ct q TX tl (sk TX tl pl) ft wd n1 n2) H := hP
    have hD : va_D A (txtW ct q TX tl (sk TX tl pl) ft wd n1 n2) := hD
    refine W.eq (g2 := F0 m 19 ls []) rfl ?_
    refine z_iconst hx hb dX2_readNumber_19 ?_
    refine lv_istore_n (lv' := [(2, .int (zI 0)), (1, .int (zI 1)), (0, .ref (q 0))]) hx hb dX2_readNumber_20 rfl hl (by decide) rfl (fun ls hl => ?_)
    refine z_iconst hx hb dX2_readNumber_21 ?_
    refine lv_istore_n (lv' := [(3, .int (zI 0)), (2, .int (zI 0)), (1, .int (zI 1)), (0, .ref (q 0))]) hx hb dX2_readNumber_22 rfl hl (by decide) rfl (fun ls hl => ?_)
    refine z_loop (σ := Int × Int × Int × Int) (fun q9 => (tl - q9.1).toNat) (fun q9 => ((q9.2.2.1 = 1 ∧ tc TX tl pl = 32) ∨ (q9.2.2.1 = 0 ∧ tc TX tl pl ≠ 32 ∧ q9.1 = sk TX tl pl)) ∧ (sk TX tl pl ≤ q9.1 ∧ q9.1 ≤ tl ∧ q9.1 ≤ sk TX tl pl + 7 ∧ q9.2.2.2 = q9.1 - sk TX tl pl) ∧ (dvN TX tl (sk TX tl pl + 7 - q9.1).toNat q9.1 q9.2.1 = dvN TX tl 7 (sk TX tl pl) 0)) (fun q9 => txtW ct q TX tl q9.1 ft wd n1 n2) (fun q9 => [(0, .ref (q 0)), (1, .int (zI q9.2.2.1)), (2, .int (zI q9.2.1)), (3, .int (zI q9.2.2.2))]) (fun q9 => []) ((sk TX tl pl), 0, 1, 0) ⟨(show (1 = 1 ∧ tc TX tl pl = 32) ∨ (1 = 0 ∧ tc TX tl pl ≠ 32 ∧ (sk TX tl pl) = sk TX tl pl) from (by omega)), (show sk TX tl pl ≤ (sk TX tl pl) ∧ (sk TX tl pl) ≤ tl ∧ (sk TX tl pl) ≤ sk TX tl pl + 7 ∧ 0 = (sk TX tl pl) - sk TX tl pl from (by omega)), (show dvN TX tl (sk TX tl pl + 7 - (sk TX tl pl)).toNat (sk TX tl pl) 0 = dvN TX tl 7 (sk TX tl pl) 0 from (by rw [show (sk TX tl pl + 7 - sk TX tl pl).toNat = 7 by omega]))⟩ hP hD hS (lv_sub hl [3, 2, 1, 0] rfl) rfl ?_
    rintro ⟨i, n_, a_, d_⟩ hI_23 ih_23 H locs ls hP hD hS hl
    obtain ⟨ha, hi, hd⟩ := hI_23
    have ha : (a_ = 1 ∧ tc TX tl pl = 32) ∨ (a_ = 0 ∧ tc TX tl pl ≠ 32 ∧ i = sk TX tl pl) := ha
    have hi : sk TX tl pl ≤ i ∧ i ≤ tl ∧ i ≤ sk TX tl pl + 7 ∧ d_ = i - sk TX tl pl := hi
    have hd : dvN TX tl (sk TX tl pl + 7 - i).toNat i n_ = dvN TX tl 7 (sk TX tl pl) 0 := hd
    have hP : va_P D vwCl (txtW ct q TX tl i ft wd n1 n2) H := hP
    have hD : va_D A (txtW ct q TX tl i ft wd n1 n2) := hD
    have hl : lv_has ls 4 [(0, .ref (q 0)), (1, .int (zI a_)), (2, .int (zI n_)), (3, .int (zI d_))] := hl
    have tB := tcB ht (p := i) (by omega)
    refine lv_iload_n hx hb dX2_readNumber_23 rfl (lv_at hl 1 rfl) ?_
    refine z_if_eq (tgt := 80) hx hb dX2_readNumber_24 (by decide) (by omega) (fun hc_24 => ?_) (fun hc_24 => ?_)
    · have hc_24 := hc_24
      have eE : tc TX tl pl = 32 → dvN TX tl 7 (sk TX tl pl) 0 = (i, n_) := fun z => by rw [← hd]; exact dvE (by omega)
      have e1 : tc TX tl pl = 32 → dE TX tl pl = i := fun z => by unfold dE; rw [eE z]
      have e2 : tc TX tl pl = 32 → nV TX tl pl = n_ := fun z => by unfold nV; rw [eE z]
      refine lv_iload_n hx hb dX2_readNumber_80 rfl (lv_at hl 3 rfl) ?_
      refine z_if_ne (tgt := 92) hx hb dX2_readNumber_81 (by decide) (by omega) (fun hc_81 => ?_) (fun hc_81 => ?_)
      · have hc_81 := hc_81
        refine lv_iload_n hx hb dX2_readNumber_92 rfl (lv_at hl 3 rfl) ?_
        refine z_if_ne (tgt := 100) hx hb dX2_readNumber_93 (by decide) (by omega) (fun hc_93 => ?_) (fun hc_93 => ?_)
        · have hc_93 := hc_93
          refine lv_iload_n hx hb dX2_readNumber_100 rfl (lv_at hl 2 rfl) ?_
          exact z_iret hx hb hr hlocks hP hD hS ⟨Nat.le_of_ble_eq_true rfl, Nat.le_of_ble_eq_true rfl⟩ dX2_readNumber_101 (⟨congrArg (fun z => some (Value.int (zI z))) (by first | rfl | exact (e2 okf).symm | omega), by first | rfl | rw [e1 okf] | (rw [show i = sk TX tl pl by rcases ha with ⟨x, y⟩ | ⟨x, y, z⟩; exact (by have h9 := nof y; have := e1 y; omega); exact z])⟩)
        · have hc_93 := hc_93
          exfalso; have := e1 okf; omega
      · have hc_81 := hc_81
        exfalso; have := e1 okf; omega
    · have hc_24 := hc_24
      refine lv_iload_n hx hb dX2_readNumber_27 rfl (lv_at hl 3 rfl) ?_
      refine z_bipush hx hb dX2_readNumber_28 (by decide) ?_
      refine z_icmp_ge (tgt := 80) hx hb dX2_readNumber_30 (by decide) (by omega) (by omega) (fun hc_30 => ?_) (fun hc_30 => ?_)
      · have hc_30 := hc_30
        have eE : tc TX tl pl = 32 → dvN TX tl 7 (sk TX tl pl) 0 = (i, n_) := fun z => by rw [← hd]; exact dvE (by omega)
        have e1 : tc TX tl pl = 32 → dE TX tl pl = i := fun z => by unfold dE; rw [eE z]
        have e2 : tc TX tl pl = 32 → nV TX tl pl = n_ := fun z => by unfold nV; rw [eE z]
        refine lv_iload_n hx hb dX2_readNumber_80 rfl (lv_at hl 3 rfl) ?_
        refine z_if_ne (tgt := 92) hx hb dX2_readNumber_81 (by decide) (by omega) (fun hc_81 => ?_) (fun hc_81 => ?_)
        · have hc_81 := hc_81
          refine lv_iload_n hx hb dX2_readNumber_92 rfl (lv_at hl 3 rfl) ?_
          refine z_if_ne (tgt := 100) hx hb dX2_readNumber_93 (by decide) (by omega) (fun hc_93 => ?_) (fun hc_93 => ?_)
          · have hc_93 := hc_93
            refine lv_iload_n hx hb dX2_readNumber_100 rfl (lv_at hl 2 rfl) ?_
            exact z_iret hx hb hr hlocks hP hD hS ⟨Nat.le_of_ble_eq_true rfl, Nat.le_of_ble_eq_true rfl⟩ dX2_readNumber_101 (⟨congrArg (fun z => some (Value.int (zI z))) (by first | rfl | exact (e2 okf).symm | omega), by first | rfl | rw [e1 okf] | (rw [show i = sk TX tl pl by rcases ha with ⟨x, y⟩ | ⟨x, y, z⟩; exact (by have h9 := nof y; have := e1 y; omega); exact z])⟩)
          · have hc_93 := hc_93
            exfalso; have := e1 okf; omega
        · have hc_81 := hc_81
          exfalso; have := e1 okf; omega
      · have hc_30 := hc_30
        refine lv_aload_n hx hb dX2_readNumber_33 rfl (lv_at hl 0 rfl) ?_
        refine z_callV (C := RX2) (q0 := 0) (ci := 1) (As := []) (rest := []) ([] : va_W) ([] : va_W) hx hb hml hown hts hl hE hS hA (zr0 ([] : va_W) hP) (zr0D ([] : va_W) hD) (c_X2_byteHere l D ct ad q TX tl i ft n1 n2 wd (by assumption) (by omega)) gX2_readNumber_X2_byteHere rfl rfl k_X2_byteHere ⟨Nat.le_of_ble_eq_true rfl, Nat.le_of_ble_eq_true rfl⟩ rfl rfl rfl rfl (Nat.le_of_ble_eq_true rfl) ⟨Nat.le_of_ble_eq_true rfl, Nat.le_of_ble_eq_true rfl⟩ dX2_readNumber_34 rfl (fun v w1 H locs hpost hP hD hS => ?_)
        obtain ⟨rfl, rfl⟩ := hpost
        have hP := zr0' hP
        have hD := zr0D' hD
        have hP : va_P D vwCl (txtW ct q TX tl i ft wd n1 n2) H := hP
        have hD : va_D A (txtW ct q TX tl i ft wd n1 n2) := hD
        refine W.eq (g2 := F0 m 37 ls [.int (zI (tc TX tl i))]) rfl ?_
        refine z_bipush hx hb dX2_readNumber_37 (by decide) ?_
        refine z_icmp_lt (tgt := 80) hx hb dX2_readNumber_39 (by decide) (by omega) (by omega) (fun hc_39 => ?_) (fun hc_39 => ?_)
        · have hc_39 := hc_39
          have eE : tc TX tl pl = 32 → dvN TX tl 7 (sk TX tl pl) 0 = (i, n_) := fun z => by rw [← hd]; exact dvE (by omega)
          have e1 : tc TX tl pl = 32 → dE TX tl pl = i := fun z => by unfold dE; rw [eE z]
          have e2 : tc TX tl pl = 32 → nV TX tl pl = n_ := fun z => by unfold nV; rw [eE z]
          refine lv_iload_n hx hb dX2_readNumber_80 rfl (lv_at hl 3 rfl) ?_
          refine z_if_ne (tgt := 92) hx hb dX2_readNumber_81 (by decide) (by omega) (fun hc_81 => ?_) (fun hc_81 => ?_)
          · have hc_81 := hc_81
            refine lv_iload_n hx hb dX2_readNumber_92 rfl (lv_at hl 3 rfl) ?_
            refine z_if_ne (tgt := 100) hx hb dX2_readNumber_93 (by decide) (by omega) (fun hc_93 => ?_) (fun hc_93 => ?_)
            · have hc_93 := hc_93
              refine lv_iload_n hx hb dX2_readNumber_100 rfl (lv_at hl 2 rfl) ?_
              exact z_iret hx hb hr hlocks hP hD hS ⟨Nat.le_of_ble_eq_true rfl, Nat.le_of_ble_eq_true rfl⟩ dX2_readNumber_101 (⟨congrArg (fun z => some (Value.int (zI z))) (by first | rfl | exact (e2 okf).symm | omega), by first | rfl | rw [e1 okf] | (rw [show i = sk TX tl pl by rcases ha with ⟨x, y⟩ | ⟨x, y, z⟩; exact (by have h9 := nof y; have := e1 y; omega); exact z])⟩)
            · have hc_93 := hc_93
              exfalso; have := e1 okf; omega
          · have hc_81 := hc_81
            exfalso; have := e1 okf; omega
        · have hc_39 := hc_39
          refine lv_aload_n hx hb dX2_readNumber_42 rfl (lv_at hl 0 rfl) ?_
          refine z_callV (C := RX2) (q0 := 0) (ci := 1) (As := []) (rest := []) ([] : va_W) ([] : va_W) hx hb hml hown hts hl hE hS hA (zr0 ([] : va_W) hP) (zr0D ([] : va_W) hD) (c_X2_byteHere l D ct ad q TX tl i ft n1 n2 wd (by assumption) (by omega)) gX2_readNumber_X2_byteHere rfl rfl k_X2_byteHere ⟨Nat.le_of_ble_eq_true rfl, Nat.le_of_ble_eq_true rfl⟩ rfl rfl rfl rfl (Nat.le_of_ble_eq_true rfl) ⟨Nat.le_of_ble_eq_true rfl, Nat.le_of_ble_eq_true rfl⟩ dX2_readNumber_43 rfl (fun v w1 H locs hpost hP hD hS => ?_)
          obtain ⟨rfl, rfl⟩ := hpost
          have hP := zr0' hP
          have hD := zr0D' hD
          have hP : va_P D vwCl (txtW ct q TX tl i ft wd n1 n2) H := hP
          have hD : va_D A (txtW ct q TX tl i ft wd n1 n2) := hD
          refine W.eq (g2 := F0 m 46 ls [.int (zI (tc TX tl i))]) rfl ?_
          refine z_bipush hx hb dX2_readNumber_46 (by decide) ?_
          refine z_icmp_gt (tgt := 80) hx hb dX2_readNumber_48 (by decide) (by omega) (by omega) (fun hc_48 => ?_) (fun hc_48 => ?_)
          · have hc_48 := hc_48
            have eE : tc TX tl pl = 32 → dvN TX tl 7 (sk TX tl pl) 0 = (i, n_) := fun z => by rw [← hd]; exact dvE (by omega)
            have e1 : tc TX tl pl = 32 → dE TX tl pl = i := fun z => by unfold dE; rw [eE z]
            have e2 : tc TX tl pl = 32 → nV TX tl pl = n_ := fun z => by unfold nV; rw [eE z]
            refine lv_iload_n hx hb dX2_readNumber_80 rfl (lv_at hl 3 rfl) ?_
            refine z_if_ne (tgt := 92) hx hb dX2_readNumber_81 (by decide) (by omega) (fun hc_81 => ?_) (fun hc_81 => ?_)
            · have hc_81 := hc_81
              refine lv_iload_n hx hb dX2_readNumber_92 rfl (lv_at hl 3 rfl) ?_
              refine z_if_ne (tgt := 100) hx hb dX2_readNumber_93 (by decide) (by omega) (fun hc_93 => ?_) (fun hc_93 => ?_)
              · have hc_93 := hc_93
                refine lv_iload_n hx hb dX2_readNumber_100 rfl (lv_at hl 2 rfl) ?_
                exact z_iret hx hb hr hlocks hP hD hS ⟨Nat.le_of_ble_eq_true rfl, Nat.le_of_ble_eq_true rfl⟩ dX2_readNumber_101 (⟨congrArg (fun z => some (Value.int (zI z))) (by first | rfl | exact (e2 okf).symm | omega), by first | rfl | rw [e1 okf] | (rw [show i = sk TX tl pl by rcases ha with ⟨x, y⟩ | ⟨x, y, z⟩; exact (by have h9 := nof y; have := e1 y; omega); exact z])⟩)
              · have hc_93 := hc_93
                exfalso; have := e1 okf; omega
            · have hc_81 := hc_81
              exfalso; have := e1 okf; omega
          · have hc_48 := hc_48
            refine z_bipush hx hb dX2_readNumber_51 (by decide) ?_
            refine lv_iload_n hx hb dX2_readNumber_53 rfl (lv_at hl 2 rfl) ?_
            refine z_imul hx hb dX2_readNumber_54 ?_
            refine lv_aload_n hx hb dX2_readNumber_55 rfl (lv_at hl 0 rfl) ?_
            refine z_callV (C := RX2) (q0 := 0) (ci := 1) (As := []) (rest := [.int (zI (10 * n_))]) ([] : va_W) ([] : va_W) hx hb hml hown hts hl hE hS hA (zr0 ([] : va_W) hP) (zr0D ([] : va_W) hD) (c_X2_byteHere l D ct ad q TX tl i ft n1 n2 wd (by assumption) (by omega)) gX2_readNumber_X2_byteHere rfl rfl k_X2_byteHere ⟨Nat.le_of_ble_eq_true rfl, Nat.le_of_ble_eq_true rfl⟩ rfl rfl rfl rfl (Nat.le_of_ble_eq_true rfl) ⟨Nat.le_of_ble_eq_true rfl, Nat.le_of_ble_eq_true rfl⟩ dX2_readNumber_56 rfl (fun v w1 H locs hpost hP hD hS => ?_)
            obtain ⟨rfl, rfl⟩ := hpost
            have hP := zr0' hP
            have hD := zr0D' hD
            have hP : va_P D vwCl (txtW ct q TX tl i ft wd n1 n2) H := hP
            have hD : va_D A (txtW ct q TX tl i ft wd n1 n2) := hD
            refine W.eq (g2 := F0 m 59 ls [.int (zI (tc TX tl i)), .int (zI (10 * n_))]) rfl ?_
            refine z_iadd hx hb dX2_readNumber_59 ?_
            refine z_bipush hx hb dX2_readNumber_60 (by decide) ?_
            refine z_isub hx hb dX2_readNumber_62 ?_
            refine lv_istore_n (lv' := [(2, .int (zI (((10 * n_) + (tc TX tl i)) - 48))), (0, .ref (q 0)), (1, .int (zI a_)), (3, .int (zI d_))]) hx hb dX2_readNumber_63 rfl hl (by decide) rfl (fun ls hl => ?_)
            refine z_iinc (k := 3) (lv' := [(3, .int (zI (d_ + 1))), (2, .int (zI (((10 * n_) + (tc TX tl i)) - 48))), (0, .ref (q 0)), (1, .int (zI a_))]) hx hb dX2_readNumber_64 hl rfl (by decide) rfl (fun ls hl => ?_)
            refine lv_aload_n hx hb dX2_readNumber_67 rfl (lv_at hl 2 rfl) ?_
            refine lv_dup hx hb dX2_readNumber_68 rfl ?_
            refine va_get (D := D) (ci := 1) (v := .int (zI i)) (C := RX2) (T := TX2) (N := 7) hx hb hts hin_X2 hown hK hP 0 rfl rfl 2 (by decide) hf_0 (fun _ h9 => h9) rfl dX2_readNumber_69 ?_
            refine z_iconst hx hb dX2_readNumber_72 ?_
            refine z_iadd hx hb dX2_readNumber_73 ?_
            refine z_put (ct := ct) (ad := ad) (ci := 1) (v := .int (zI (i + 1))) (ty := tyX2 2) (C := RX2) (T := TX2) (N := 7) (w2 := txtW ct q TX tl (i + 1) ft wd n1 n2) hx hb hts hin_X2 tyX2 tyX2_ok nmX2 hown hE hP hD hS 0 rfl rfl 2 (by decide) hf_0 (fun _ h9 => h9) rfl (by decide +kernel) rfl rfl (Nat.le_of_ble_eq_true rfl) dX2_readNumber_74 (rfl) (fun H locs hP hD hS => ?_)
            refine lv_goto (tgt := 23) hx hb dX2_readNumber_77 (by decide) ?_
            exact ih_23 (i + 1, ((10 * n_) + (tc TX tl i)) - 48, a_, d_ + 1) ⟨(show (a_ = 1 ∧ tc TX tl pl = 32) ∨ (a_ = 0 ∧ tc TX tl pl ≠ 32 ∧ (i + 1) = sk TX tl pl) from (by omega)), (show sk TX tl pl ≤ (i + 1) ∧ (i + 1) ≤ tl ∧ (i + 1) ≤ sk TX tl pl + 7 ∧ (d_ + 1) = (i + 1) - sk TX tl pl from (by omega)), (show dvN TX tl (sk TX tl pl + 7 - (i + 1)).toNat (i + 1) (((10 * n_) + (tc TX tl i)) - 48) = dvN TX tl 7 (sk TX tl pl) 0 from (by rw [← hd, dvS (q := sk TX tl pl) (i := i) (x := n_) (by omega) (by omega)]; try (first | rfl | (congr 1; omega))))⟩ (show (tl - (i + 1)).toNat < (tl - i).toNat from (by omega)) _ _ _ hP hD hS (lv_sub hl [2, 3, 1, 0] rfl)
set_option maxHeartbeats 4000000 in
set_option maxRecDepth 100000 in
theorem c_X2_readNumber_no (l : Launch) (D : va_G) (ct ad : Nat → Nat) (q : Nat → Nat) (TX : Int → Int) (tl pl ft n1 n2 : Int) (wd : Value) (ht : tInv TX tl) (hp : 0 ≤ pl ∧ pl ≤ tl) (hno : ¬ nok TX tl pl) : ZM l yX2_readNumber wsX2_readNumber ({ frames := 1, cells := 0, slots := 0, locals := 20 } : Room) D ct ad [.ref (q 0)] (txtW ct q TX tl pl ft wd n1 n2) (zD (some (.int (zI (-1)))) (txtW ct q TX tl (sk TX tl pl) (sk TX tl pl) wd n1 n2)) := by
  refine ZM.of (cc := cX2_readNumber) (maxL := 4) (ret := (some .int)) (by decide +kernel) rfl (Nat.le_of_ble_eq_true rfl) ?_
  intro p e s m below meth c A ls hx hb hr hts hown hlocks hml hname hE hP hD hA hS hl
  have hK := hE.1
  have hf_0 := hts (.fieldLink RX2 23 "RodGrids$CommandText" "place" "I") (by decide +kernel)
  have hf_1 := hts (.fieldLink RX2 26 "RodGrids$CommandText" "fault" "I") (by decide +kernel)
  have hin_X2 : ∀ z ∈ u_ws RX2 TX2 7, z ∈ wsX2_readNumber := by decide +kernel
  have hl : lv_has ls 4 [(0, .ref (q 0))] := hl
  have t1 := ht.1
  have tP := tcB ht (p := pl) hp.1
  have sB := sk_B (TX := TX) hp.2
  have sL := sk_lt (TX := TX) hp.2
  have nB := (nV_B (TX := TX) hp.2).1
  have nof : tc TX tl pl = 32 → dE TX tl pl = sk TX tl pl := fun z => (Int.lt_or_eq_of_le nB.1).elim (fun q => absurd (show nok TX tl pl from ⟨z, q⟩) hno) (fun q => q.symm)
  refine lv_aload_n hx hb dX2_readNumber_0 rfl (lv_at hl 0 rfl) ?_
  refine z_callV (C := RX2) (q0 := 0) (ci := 1) (As := []) (rest := []) ([] : va_W) ([] : va_W) hx hb hml hown hts hl hE hS hA (zr0 ([] : va_W) hP) (zr0D ([] : va_W) hD) (c_X2_byteHere l D ct ad q TX tl pl ft n1 n2 wd (by assumption) (by omega)) gX2_readNumber_X2_byteHere rfl rfl k_X2_byteHere ⟨Nat.le_of_ble_eq_true rfl, Nat.le_of_ble_eq_true rfl⟩ rfl rfl rfl rfl (Nat.le_of_ble_eq_true rfl) ⟨Nat.le_of_ble_eq_true rfl, Nat.le_of_ble_eq_true rfl⟩ dX2_readNumber_1 rfl (fun v w1 H locs hpost hP hD hS => ?_)
  obtain ⟨rfl, rfl⟩ := hpost
  have hP := zr0' hP
  have hD := zr0D' hD
  have hP : va_P D vwCl (txtW ct q TX tl pl ft wd n1 n2) H := hP
  have hD : va_D A (txtW ct q TX tl pl ft wd n1 n2) := hD
  refine W.eq (g2 := F0 m 4 ls [.int (zI (tc TX tl pl))]) rfl ?_
  refine z_bipush hx hb dX2_readNumber_4 (by decide) ?_
  refine z_icmp_ne (tgt := 13) hx hb dX2_readNumber_6 (by decide) (by omega) (by omega) (fun hc_6 => ?_) (fun hc_6 => ?_)
  · have hc_6 := hc_6
    refine z_iconst hx hb dX2_readNumber_13 ?_
    refine lv_istore_n (lv' := [(1, .int (zI 0)), (0, .ref (q 0))]) hx hb dX2_readNumber_14 rfl hl (by decide) rfl (fun ls hl => ?_)
    refine lv_aload_n hx hb dX2_readNumber_15 rfl (lv_at hl 1 rfl) ?_
    refine z_callV (C := RX2) (q0 := 0) (ci := 1) (As := []) (rest := []) ([] : va_W) ([] : va_W) hx hb hml hown hts hl hE hS hA (zr0 ([] : va_W) hP) (zr0D ([] : va_W) hD) (c_X2_skipSpaces l D ct ad q TX tl pl ft n1 n2 wd (by assumption) (by omega)) gX2_readNumber_X2_skipSpaces rfl rfl k_X2_skipSpaces ⟨Nat.le_of_ble_eq_true rfl, Nat.le_of_ble_eq_true rfl⟩ rfl rfl rfl rfl (Nat.le_of_ble_eq_true rfl) ⟨Nat.le_of_ble_eq_true rfl, Nat.le_of_ble_eq_true rfl⟩ dX2_readNumber_16 rfl (fun v w1 H locs hpost hP hD hS => ?_)
    obtain ⟨rfl, rfl⟩ := hpost
    have hP := zr0' hP
    have hD := zr0D' hD
    have hP : va_P D vwCl (txtW ct q TX tl (sk TX tl pl) ft wd n1 n2) H := hP
    have hD : va_D A (txtW ct q TX tl (sk TX tl pl) ft wd n1 n2) := hD
    refine W.eq (g2 := F0 m 19 ls []) rfl ?_
    refine z_iconst hx hb dX2_readNumber_19 ?_
    refine lv_istore_n (lv' := [(2, .int (zI 0)), (1, .int (zI 0)), (0, .ref (q 0))]) hx hb dX2_readNumber_20 rfl hl (by decide) rfl (fun ls hl => ?_)
    refine z_iconst hx hb dX2_readNumber_21 ?_
    refine lv_istore_n (lv' := [(3, .int (zI 0)), (2, .int (zI 0)), (1, .int (zI 0)), (0, .ref (q 0))]) hx hb dX2_readNumber_22 rfl hl (by decide) rfl (fun ls hl => ?_)
    refine z_loop (σ := Int × Int × Int × Int) (fun q9 => (tl - q9.1).toNat) (fun q9 => ((q9.2.2.1 = 1 ∧ tc TX tl pl = 32) ∨ (q9.2.2.1 = 0 ∧ tc TX tl pl ≠ 32 ∧ q9.1 = sk TX tl pl)) ∧ (sk TX tl pl ≤ q9.1 ∧ q9.1 ≤ tl ∧ q9.1 ≤ sk TX tl pl + 7 ∧ q9.2.2.2 = q9.1 - sk TX tl pl) ∧ (dvN TX tl (sk TX tl pl + 7 - q9.1).toNat q9.1 q9.2.1 = dvN TX tl 7 (sk TX tl pl) 0)) (fun q9 => txtW ct q TX tl q9.1 ft wd n1 n2) (fun q9 => [(0, .ref (q 0)), (1, .int (zI q9.2.2.1)), (2, .int (zI q9.2.1)), (3, .int (zI q9.2.2.2))]) (fun q9 => []) ((sk TX tl pl), 0, 0, 0) ⟨(show (0 = 1 ∧ tc TX tl pl = 32) ∨ (0 = 0 ∧ tc TX tl pl ≠ 32 ∧ (sk TX tl pl) = sk TX tl pl) from (by omega)), (show sk TX tl pl ≤ (sk TX tl pl) ∧ (sk TX tl pl) ≤ tl ∧ (sk TX tl pl) ≤ sk TX tl pl + 7 ∧ 0 = (sk TX tl pl) - sk TX tl pl from (by omega)), (show dvN TX tl (sk TX tl pl + 7 - (sk TX tl pl)).toNat (sk TX tl pl) 0 = dvN TX tl 7 (sk TX tl pl) 0 from (by rw [show (sk TX tl pl + 7 - sk TX tl pl).toNat = 7 by omega]))⟩ hP hD hS (lv_sub hl [3, 2, 1, 0] rfl) rfl ?_
    rintro ⟨i, n_, a_, d_⟩ hI_23 ih_23 H locs ls hP hD hS hl
    obtain ⟨ha, hi, hd⟩ := hI_23
    have ha : (a_ = 1 ∧ tc TX tl pl = 32) ∨ (a_ = 0 ∧ tc TX tl pl ≠ 32 ∧ i = sk TX tl pl) := ha
    have hi : sk TX tl pl ≤ i ∧ i ≤ tl ∧ i ≤ sk TX tl pl + 7 ∧ d_ = i - sk TX tl pl := hi
    have hd : dvN TX tl (sk TX tl pl + 7 - i).toNat i n_ = dvN TX tl 7 (sk TX tl pl) 0 := hd
    have hP : va_P D vwCl (txtW ct q TX tl i ft wd n1 n2) H := hP
    have hD : va_D A (txtW ct q TX tl i ft wd n1 n2) := hD
    have hl : lv_has ls 4 [(0, .ref (q 0)), (1, .int (zI a_)), (2, .int (zI n_)), (3, .int (zI d_))] := hl
    have tB := tcB ht (p := i) (by omega)
    refine lv_iload_n hx hb dX2_readNumber_23 rfl (lv_at hl 1 rfl) ?_
    refine z_if_eq (tgt := 80) hx hb dX2_readNumber_24 (by decide) (by omega) (fun hc_24 => ?_) (fun hc_24 => ?_)
    · have hc_24 := hc_24
      have eE : tc TX tl pl = 32 → dvN TX tl 7 (sk TX tl pl) 0 = (i, n_) := fun z => by rw [← hd]; exact dvE (by omega)
      have e1 : tc TX tl pl = 32 → dE TX tl pl = i := fun z => by unfold dE; rw [eE z]
      have e2 : tc TX tl pl = 32 → nV TX tl pl = n_ := fun z => by unfold nV; rw [eE z]
      refine lv_iload_n hx hb dX2_readNumber_80 rfl (lv_at hl 3 rfl) ?_
      refine z_if_ne (tgt := 92) hx hb dX2_readNumber_81 (by decide) (by omega) (fun hc_81 => ?_) (fun hc_81 => ?_)
      · have hc_81 := hc_81
        exfalso; have h9 := nof (by omega); have := e1 (by omega); omega
      · have hc_81 := hc_81
        refine lv_aload_n hx hb dX2_readNumber_84 rfl (lv_at hl 0 rfl) ?_
        refine lv_aload_n hx hb dX2_readNumber_85 rfl (lv_at hl 0 rfl) ?_
        refine va_get (D := D) (ci := 1) (v := .int (zI i)) (C := RX2) (T := TX2) (N := 7) hx hb hts hin_X2 hown hK hP 0 rfl rfl 2 (by decide) hf_0 (fun _ h9 => h9) rfl dX2_readNumber_86 ?_
        refine z_put (ct := ct) (ad := ad) (ci := 1) (v := .int (zI i)) (ty := tyX2 3) (C := RX2) (T := TX2) (N := 7) (w2 := txtW ct q TX tl i i wd n1 n2) hx hb hts hin_X2 tyX2 tyX2_ok nmX2 hown hE hP hD hS 0 rfl rfl 3 (by decide) hf_1 (fun _ h9 => h9) rfl (by decide +kernel) rfl rfl (Nat.le_of_ble_eq_true rfl) dX2_readNumber_89 (rfl) (fun H locs hP hD hS => ?_)
        refine lv_iload_n hx hb dX2_readNumber_92 rfl (lv_at hl 3 rfl) ?_
        refine z_if_ne (tgt := 100) hx hb dX2_readNumber_93 (by decide) (by omega) (fun hc_93 => ?_) (fun hc_93 => ?_)
        · have hc_93 := hc_93
          exfalso; have h9 := nof (by omega); have := e1 (by omega); omega
        · have hc_93 := hc_93
          refine z_iconst hx hb dX2_readNumber_96 ?_
          refine lv_goto (tgt := 101) hx hb dX2_readNumber_97 (by decide) ?_
          exact z_iret hx hb hr hlocks hP hD hS ⟨Nat.le_of_ble_eq_true rfl, Nat.le_of_ble_eq_true rfl⟩ dX2_readNumber_101 (⟨congrArg (fun z => some (Value.int (zI z))) (by first | rfl | exact (e2 okf).symm | omega), by first | rfl | rw [e1 okf] | (rw [show i = sk TX tl pl by rcases ha with ⟨x, y⟩ | ⟨x, y, z⟩; exact (by have h9 := nof y; have := e1 y; omega); exact z])⟩)
    · have hc_24 := hc_24
      refine lv_iload_n hx hb dX2_readNumber_27 rfl (lv_at hl 3 rfl) ?_
      refine z_bipush hx hb dX2_readNumber_28 (by decide) ?_
      refine z_icmp_ge (tgt := 80) hx hb dX2_readNumber_30 (by decide) (by omega) (by omega) (fun hc_30 => ?_) (fun hc_30 => ?_)
      · have hc_30 := hc_30
        have eE : tc TX tl pl = 32 → dvN TX tl 7 (sk TX tl pl) 0 = (i, n_) := fun z => by rw [← hd]; exact dvE (by omega)
        have e1 : tc TX tl pl = 32 → dE TX tl pl = i := fun z => by unfold dE; rw [eE z]
        have e2 : tc TX tl pl = 32 → nV TX tl pl = n_ := fun z => by unfold nV; rw [eE z]
        refine lv_iload_n hx hb dX2_readNumber_80 rfl (lv_at hl 3 rfl) ?_
        refine z_if_ne (tgt := 92) hx hb dX2_readNumber_81 (by decide) (by omega) (fun hc_81 => ?_) (fun hc_81 => ?_)
        · have hc_81 := hc_81
          exfalso; have h9 := nof (by omega); have := e1 (by omega); omega
        · have hc_81 := hc_81
          refine lv_aload_n hx hb dX2_readNumber_84 rfl (lv_at hl 0 rfl) ?_
          refine lv_aload_n hx hb dX2_readNumber_85 rfl (lv_at hl 0 rfl) ?_
          refine va_get (D := D) (ci := 1) (v := .int (zI i)) (C := RX2) (T := TX2) (N := 7) hx hb hts hin_X2 hown hK hP 0 rfl rfl 2 (by decide) hf_0 (fun _ h9 => h9) rfl dX2_readNumber_86 ?_
          refine z_put (ct := ct) (ad := ad) (ci := 1) (v := .int (zI i)) (ty := tyX2 3) (C := RX2) (T := TX2) (N := 7) (w2 := txtW ct q TX tl i i wd n1 n2) hx hb hts hin_X2 tyX2 tyX2_ok nmX2 hown hE hP hD hS 0 rfl rfl 3 (by decide) hf_1 (fun _ h9 => h9) rfl (by decide +kernel) rfl rfl (Nat.le_of_ble_eq_true rfl) dX2_readNumber_89 (rfl) (fun H locs hP hD hS => ?_)
          refine lv_iload_n hx hb dX2_readNumber_92 rfl (lv_at hl 3 rfl) ?_
          refine z_if_ne (tgt := 100) hx hb dX2_readNumber_93 (by decide) (by omega) (fun hc_93 => ?_) (fun hc_93 => ?_)
          · have hc_93 := hc_93
            exfalso; have h9 := nof (by omega); have := e1 (by omega); omega
          · have hc_93 := hc_93
            refine z_iconst hx hb dX2_readNumber_96 ?_
            refine lv_goto (tgt := 101) hx hb dX2_readNumber_97 (by decide) ?_
            exact z_iret hx hb hr hlocks hP hD hS ⟨Nat.le_of_ble_eq_true rfl, Nat.le_of_ble_eq_true rfl⟩ dX2_readNumber_101 (⟨congrArg (fun z => some (Value.int (zI z))) (by first | rfl | exact (e2 okf).symm | omega), by first | rfl | rw [e1 okf] | (rw [show i = sk TX tl pl by rcases ha with ⟨x, y⟩ | ⟨x, y, z⟩; exact (by have h9 := nof y; have := e1 y; omega); exact z])⟩)
      · have hc_30 := hc_30
        refine lv_aload_n hx hb dX2_readNumber_33 rfl (lv_at hl 0 rfl) ?_
        refine z_callV (C := RX2) (q0 := 0) (ci := 1) (As := []) (rest := []) ([] : va_W) ([] : va_W) hx hb hml hown hts hl hE hS hA (zr0 ([] : va_W) hP) (zr0D ([] : va_W) hD) (c_X2_byteHere l D ct ad q TX tl i ft n1 n2 wd (by assumption) (by omega)) gX2_readNumber_X2_byteHere rfl rfl k_X2_byteHere ⟨Nat.le_of_ble_eq_true rfl, Nat.le_of_ble_eq_true rfl⟩ rfl rfl rfl rfl (Nat.le_of_ble_eq_true rfl) ⟨Nat.le_of_ble_eq_true rfl, Nat.le_of_ble_eq_true rfl⟩ dX2_readNumber_34 rfl (fun v w1 H locs hpost hP hD hS => ?_)
        obtain ⟨rfl, rfl⟩ := hpost
        have hP := zr0' hP
        have hD := zr0D' hD
        have hP : va_P D vwCl (txtW ct q TX tl i ft wd n1 n2) H := hP
        have hD : va_D A (txtW ct q TX tl i ft wd n1 n2) := hD
        refine W.eq (g2 := F0 m 37 ls [.int (zI (tc TX tl i))]) rfl ?_
        refine z_bipush hx hb dX2_readNumber_37 (by decide) ?_
        refine z_icmp_lt (tgt := 80) hx hb dX2_readNumber_39 (by decide) (by omega) (by omega) (fun hc_39 => ?_) (fun hc_39 => ?_)
        · have hc_39 := hc_39
          have eE : tc TX tl pl = 32 → dvN TX tl 7 (sk TX tl pl) 0 = (i, n_) := fun z => by rw [← hd]; exact dvE (by omega)
          have e1 : tc TX tl pl = 32 → dE TX tl pl = i := fun z => by unfold dE; rw [eE z]
          have e2 : tc TX tl pl = 32 → nV TX tl pl = n_ := fun z => by unfold nV; rw [eE z]
          refine lv_iload_n hx hb dX2_readNumber_80 rfl (lv_at hl 3 rfl) ?_
          refine z_if_ne (tgt := 92) hx hb dX2_readNumber_81 (by decide) (by omega) (fun hc_81 => ?_) (fun hc_81 => ?_)
          · have hc_81 := hc_81
            exfalso; have h9 := nof (by omega); have := e1 (by omega); omega
          · have hc_81 := hc_81
            refine lv_aload_n hx hb dX2_readNumber_84 rfl (lv_at hl 0 rfl) ?_
            refine lv_aload_n hx hb dX2_readNumber_85 rfl (lv_at hl 0 rfl) ?_
            refine va_get (D := D) (ci := 1) (v := .int (zI i)) (C := RX2) (T := TX2) (N := 7) hx hb hts hin_X2 hown hK hP 0 rfl rfl 2 (by decide) hf_0 (fun _ h9 => h9) rfl dX2_readNumber_86 ?_
            refine z_put (ct := ct) (ad := ad) (ci := 1) (v := .int (zI i)) (ty := tyX2 3) (C := RX2) (T := TX2) (N := 7) (w2 := txtW ct q TX tl i i wd n1 n2) hx hb hts hin_X2 tyX2 tyX2_ok nmX2 hown hE hP hD hS 0 rfl rfl 3 (by decide) hf_1 (fun _ h9 => h9) rfl (by decide +kernel) rfl rfl (Nat.le_of_ble_eq_true rfl) dX2_readNumber_89 (rfl) (fun H locs hP hD hS => ?_)
            refine lv_iload_n hx hb dX2_readNumber_92 rfl (lv_at hl 3 rfl) ?_
            refine z_if_ne (tgt := 100) hx hb dX2_readNumber_93 (by decide) (by omega) (fun hc_93 => ?_) (fun hc_93 => ?_)
            · have hc_93 := hc_93
              exfalso; have h9 := nof (by omega); have := e1 (by omega); omega
            · have hc_93 := hc_93
              refine z_iconst hx hb dX2_readNumber_96 ?_
              refine lv_goto (tgt := 101) hx hb dX2_readNumber_97 (by decide) ?_
              exact z_iret hx hb hr hlocks hP hD hS ⟨Nat.le_of_ble_eq_true rfl, Nat.le_of_ble_eq_true rfl⟩ dX2_readNumber_101 (⟨congrArg (fun z => some (Value.int (zI z))) (by first | rfl | exact (e2 okf).symm | omega), by first | rfl | rw [e1 okf] | (rw [show i = sk TX tl pl by rcases ha with ⟨x, y⟩ | ⟨x, y, z⟩; exact (by have h9 := nof y; have := e1 y; omega); exact z])⟩)
        · have hc_39 := hc_39
          refine lv_aload_n hx hb dX2_readNumber_42 rfl (lv_at hl 0 rfl) ?_
          refine z_callV (C := RX2) (q0 := 0) (ci := 1) (As := []) (rest := []) ([] : va_W) ([] : va_W) hx hb hml hown hts hl hE hS hA (zr0 ([] : va_W) hP) (zr0D ([] : va_W) hD) (c_X2_byteHere l D ct ad q TX tl i ft n1 n2 wd (by assumption) (by omega)) gX2_readNumber_X2_byteHere rfl rfl k_X2_byteHere ⟨Nat.le_of_ble_eq_true rfl, Nat.le_of_ble_eq_true rfl⟩ rfl rfl rfl rfl (Nat.le_of_ble_eq_true rfl) ⟨Nat.le_of_ble_eq_true rfl, Nat.le_of_ble_eq_true rfl⟩ dX2_readNumber_43 rfl (fun v w1 H locs hpost hP hD hS => ?_)
          obtain ⟨rfl, rfl⟩ := hpost
          have hP := zr0' hP
          have hD := zr0D' hD
          have hP : va_P D vwCl (txtW ct q TX tl i ft wd n1 n2) H := hP
          have hD : va_D A (txtW ct q TX tl i ft wd n1 n2) := hD
          refine W.eq (g2 := F0 m 46 ls [.int (zI (tc TX tl i))]) rfl ?_
          refine z_bipush hx hb dX2_readNumber_46 (by decide) ?_
          refine z_icmp_gt (tgt := 80) hx hb dX2_readNumber_48 (by decide) (by omega) (by omega) (fun hc_48 => ?_) (fun hc_48 => ?_)
          · have hc_48 := hc_48
            have eE : tc TX tl pl = 32 → dvN TX tl 7 (sk TX tl pl) 0 = (i, n_) := fun z => by rw [← hd]; exact dvE (by omega)
            have e1 : tc TX tl pl = 32 → dE TX tl pl = i := fun z => by unfold dE; rw [eE z]
            have e2 : tc TX tl pl = 32 → nV TX tl pl = n_ := fun z => by unfold nV; rw [eE z]
            refine lv_iload_n hx hb dX2_readNumber_80 rfl (lv_at hl 3 rfl) ?_
            refine z_if_ne (tgt := 92) hx hb dX2_readNumber_81 (by decide) (by omega) (fun hc_81 => ?_) (fun hc_81 => ?_)
            · have hc_81 := hc_81
              exfalso; have h9 := nof (by omega); have := e1 (by omega); omega
            · have hc_81 := hc_81
              refine lv_aload_n hx hb dX2_readNumber_84 rfl (lv_at hl 0 rfl) ?_
              refine lv_aload_n hx hb dX2_readNumber_85 rfl (lv_at hl 0 rfl) ?_
              refine va_get (D := D) (ci := 1) (v := .int (zI i)) (C := RX2) (T := TX2) (N := 7) hx hb hts hin_X2 hown hK hP 0 rfl rfl 2 (by decide) hf_0 (fun _ h9 => h9) rfl dX2_readNumber_86 ?_
              refine z_put (ct := ct) (ad := ad) (ci := 1) (v := .int (zI i)) (ty := tyX2 3) (C := RX2) (T := TX2) (N := 7) (w2 := txtW ct q TX tl i i wd n1 n2) hx hb hts hin_X2 tyX2 tyX2_ok nmX2 hown hE hP hD hS 0 rfl rfl 3 (by decide) hf_1 (fun _ h9 => h9) rfl (by decide +kernel) rfl rfl (Nat.le_of_ble_eq_true rfl) dX2_readNumber_89 (rfl) (fun H locs hP hD hS => ?_)
              refine lv_iload_n hx hb dX2_readNumber_92 rfl (lv_at hl 3 rfl) ?_
              refine z_if_ne (tgt := 100) hx hb dX2_readNumber_93 (by decide) (by omega) (fun hc_93 => ?_) (fun hc_93 => ?_)
              · have hc_93 := hc_93
                exfalso; have h9 := nof (by omega); have := e1 (by omega); omega
              · have hc_93 := hc_93
                refine z_iconst hx hb dX2_readNumber_96 ?_
                refine lv_goto (tgt := 101) hx hb dX2_readNumber_97 (by decide) ?_
                exact z_iret hx hb hr hlocks hP hD hS ⟨Nat.le_of_ble_eq_true rfl, Nat.le_of_ble_eq_true rfl⟩ dX2_readNumber_101 (⟨congrArg (fun z => some (Value.int (zI z))) (by first | rfl | exact (e2 okf).symm | omega), by first | rfl | rw [e1 okf] | (rw [show i = sk TX tl pl by rcases ha with ⟨x, y⟩ | ⟨x, y, z⟩; exact (by have h9 := nof y; have := e1 y; omega); exact z])⟩)
          · have hc_48 := hc_48
            refine z_bipush hx hb dX2_readNumber_51 (by decide) ?_
            refine lv_iload_n hx hb dX2_readNumber_53 rfl (lv_at hl 2 rfl) ?_
            refine z_imul hx hb dX2_readNumber_54 ?_
            refine lv_aload_n hx hb dX2_readNumber_55 rfl (lv_at hl 0 rfl) ?_
            refine z_callV (C := RX2) (q0 := 0) (ci := 1) (As := []) (rest := [.int (zI (10 * n_))]) ([] : va_W) ([] : va_W) hx hb hml hown hts hl hE hS hA (zr0 ([] : va_W) hP) (zr0D ([] : va_W) hD) (c_X2_byteHere l D ct ad q TX tl i ft n1 n2 wd (by assumption) (by omega)) gX2_readNumber_X2_byteHere rfl rfl k_X2_byteHere ⟨Nat.le_of_ble_eq_true rfl, Nat.le_of_ble_eq_true rfl⟩ rfl rfl rfl rfl (Nat.le_of_ble_eq_true rfl) ⟨Nat.le_of_ble_eq_true rfl, Nat.le_of_ble_eq_true rfl⟩ dX2_readNumber_56 rfl (fun v w1 H locs hpost hP hD hS => ?_)
            obtain ⟨rfl, rfl⟩ := hpost
            have hP := zr0' hP
            have hD := zr0D' hD
            have hP : va_P D vwCl (txtW ct q TX tl i ft wd n1 n2) H := hP
            have hD : va_D A (txtW ct q TX tl i ft wd n1 n2) := hD
            refine W.eq (g2 := F0 m 59 ls [.int (zI (tc TX tl i)), .int (zI (10 * n_))]) rfl ?_
            refine z_iadd hx hb dX2_readNumber_59 ?_
            refine z_bipush hx hb dX2_readNumber_60 (by decide) ?_
            refine z_isub hx hb dX2_readNumber_62 ?_
            refine lv_istore_n (lv' := [(2, .int (zI (((10 * n_) + (tc TX tl i)) - 48))), (0, .ref (q 0)), (1, .int (zI a_)), (3, .int (zI d_))]) hx hb dX2_readNumber_63 rfl hl (by decide) rfl (fun ls hl => ?_)
            refine z_iinc (k := 3) (lv' := [(3, .int (zI (d_ + 1))), (2, .int (zI (((10 * n_) + (tc TX tl i)) - 48))), (0, .ref (q 0)), (1, .int (zI a_))]) hx hb dX2_readNumber_64 hl rfl (by decide) rfl (fun ls hl => ?_)
            refine lv_aload_n hx hb dX2_readNumber_67 rfl (lv_at hl 2 rfl) ?_
            refine lv_dup hx hb dX2_readNumber_68 rfl ?_
            refine va_get (D := D) (ci := 1) (v := .int (zI i)) (C := RX2) (T := TX2) (N := 7) hx hb hts hin_X2 hown hK hP 0 rfl rfl 2 (by decide) hf_0 (fun _ h9 => h9) rfl dX2_readNumber_69 ?_
            refine z_iconst hx hb dX2_readNumber_72 ?_
            refine z_iadd hx hb dX2_readNumber_73 ?_
            refine z_put (ct := ct) (ad := ad) (ci := 1) (v := .int (zI (i + 1))) (ty := tyX2 2) (C := RX2) (T := TX2) (N := 7) (w2 := txtW ct q TX tl (i + 1) ft wd n1 n2) hx hb hts hin_X2 tyX2 tyX2_ok nmX2 hown hE hP hD hS 0 rfl rfl 2 (by decide) hf_0 (fun _ h9 => h9) rfl (by decide +kernel) rfl rfl (Nat.le_of_ble_eq_true rfl) dX2_readNumber_74 (rfl) (fun H locs hP hD hS => ?_)
            refine lv_goto (tgt := 23) hx hb dX2_readNumber_77 (by decide) ?_
            exact ih_23 (i + 1, ((10 * n_) + (tc TX tl i)) - 48, a_, d_ + 1) ⟨(show (a_ = 1 ∧ tc TX tl pl = 32) ∨ (a_ = 0 ∧ tc TX tl pl ≠ 32 ∧ (i + 1) = sk TX tl pl) from (by omega)), (show sk TX tl pl ≤ (i + 1) ∧ (i + 1) ≤ tl ∧ (i + 1) ≤ sk TX tl pl + 7 ∧ (d_ + 1) = (i + 1) - sk TX tl pl from (by omega)), (show dvN TX tl (sk TX tl pl + 7 - (i + 1)).toNat (i + 1) (((10 * n_) + (tc TX tl i)) - 48) = dvN TX tl 7 (sk TX tl pl) 0 from (by rw [← hd, dvS (q := sk TX tl pl) (i := i) (x := n_) (by omega) (by omega)]; try (first | rfl | (congr 1; omega))))⟩ (show (tl - (i + 1)).toNat < (tl - i).toNat from (by omega)) _ _ _ hP hD hS (lv_sub hl [2, 3, 1, 0] rfl)
  · have hc_6 := hc_6
    refine z_iconst hx hb dX2_readNumber_9 ?_
    refine lv_goto (tgt := 14) hx hb dX2_readNumber_10 (by decide) ?_
    refine lv_istore_n (lv' := [(1, .int (zI 1)), (0, .ref (q 0))]) hx hb dX2_readNumber_14 rfl hl (by decide) rfl (fun ls hl => ?_)
    refine lv_aload_n hx hb dX2_readNumber_15 rfl (lv_at hl 1 rfl) ?_
    refine z_callV (C := RX2) (q0 := 0) (ci := 1) (As := []) (rest := []) ([] : va_W) ([] : va_W) hx hb hml hown hts hl hE hS hA (zr0 ([] : va_W) hP) (zr0D ([] : va_W) hD) (c_X2_skipSpaces l D ct ad q TX tl pl ft n1 n2 wd (by assumption) (by omega)) gX2_readNumber_X2_skipSpaces rfl rfl k_X2_skipSpaces ⟨Nat.le_of_ble_eq_true rfl, Nat.le_of_ble_eq_true rfl⟩ rfl rfl rfl rfl (Nat.le_of_ble_eq_true rfl) ⟨Nat.le_of_ble_eq_true rfl, Nat.le_of_ble_eq_true rfl⟩ dX2_readNumber_16 rfl (fun v w1 H locs hpost hP hD hS => ?_)
    obtain ⟨rfl, rfl⟩ := hpost
    have hP := zr0' hP
    have hD := zr0D' hD
    have hP : va_P D vwCl (txtW ct q TX tl (sk TX tl pl) ft wd n1 n2) H := hP
    have hD : va_D A (txtW ct q TX tl (sk TX tl pl) ft wd n1 n2) := hD
    refine W.eq (g2 := F0 m 19 ls []) rfl ?_
    refine z_iconst hx hb dX2_readNumber_19 ?_
    refine lv_istore_n (lv' := [(2, .int (zI 0)), (1, .int (zI 1)), (0, .ref (q 0))]) hx hb dX2_readNumber_20 rfl hl (by decide) rfl (fun ls hl => ?_)
    refine z_iconst hx hb dX2_readNumber_21 ?_
    refine lv_istore_n (lv' := [(3, .int (zI 0)), (2, .int (zI 0)), (1, .int (zI 1)), (0, .ref (q 0))]) hx hb dX2_readNumber_22 rfl hl (by decide) rfl (fun ls hl => ?_)
    refine z_loop (σ := Int × Int × Int × Int) (fun q9 => (tl - q9.1).toNat) (fun q9 => ((q9.2.2.1 = 1 ∧ tc TX tl pl = 32) ∨ (q9.2.2.1 = 0 ∧ tc TX tl pl ≠ 32 ∧ q9.1 = sk TX tl pl)) ∧ (sk TX tl pl ≤ q9.1 ∧ q9.1 ≤ tl ∧ q9.1 ≤ sk TX tl pl + 7 ∧ q9.2.2.2 = q9.1 - sk TX tl pl) ∧ (dvN TX tl (sk TX tl pl + 7 - q9.1).toNat q9.1 q9.2.1 = dvN TX tl 7 (sk TX tl pl) 0)) (fun q9 => txtW ct q TX tl q9.1 ft wd n1 n2) (fun q9 => [(0, .ref (q 0)), (1, .int (zI q9.2.2.1)), (2, .int (zI q9.2.1)), (3, .int (zI q9.2.2.2))]) (fun q9 => []) ((sk TX tl pl), 0, 1, 0) ⟨(show (1 = 1 ∧ tc TX tl pl = 32) ∨ (1 = 0 ∧ tc TX tl pl ≠ 32 ∧ (sk TX tl pl) = sk TX tl pl) from (by omega)), (show sk TX tl pl ≤ (sk TX tl pl) ∧ (sk TX tl pl) ≤ tl ∧ (sk TX tl pl) ≤ sk TX tl pl + 7 ∧ 0 = (sk TX tl pl) - sk TX tl pl from (by omega)), (show dvN TX tl (sk TX tl pl + 7 - (sk TX tl pl)).toNat (sk TX tl pl) 0 = dvN TX tl 7 (sk TX tl pl) 0 from (by rw [show (sk TX tl pl + 7 - sk TX tl pl).toNat = 7 by omega]))⟩ hP hD hS (lv_sub hl [3, 2, 1, 0] rfl) rfl ?_
    rintro ⟨i, n_, a_, d_⟩ hI_23 ih_23 H locs ls hP hD hS hl
    obtain ⟨ha, hi, hd⟩ := hI_23
    have ha : (a_ = 1 ∧ tc TX tl pl = 32) ∨ (a_ = 0 ∧ tc TX tl pl ≠ 32 ∧ i = sk TX tl pl) := ha
    have hi : sk TX tl pl ≤ i ∧ i ≤ tl ∧ i ≤ sk TX tl pl + 7 ∧ d_ = i - sk TX tl pl := hi
    have hd : dvN TX tl (sk TX tl pl + 7 - i).toNat i n_ = dvN TX tl 7 (sk TX tl pl) 0 := hd
    have hP : va_P D vwCl (txtW ct q TX tl i ft wd n1 n2) H := hP
    have hD : va_D A (txtW ct q TX tl i ft wd n1 n2) := hD
    have hl : lv_has ls 4 [(0, .ref (q 0)), (1, .int (zI a_)), (2, .int (zI n_)), (3, .int (zI d_))] := hl
    have tB := tcB ht (p := i) (by omega)
    refine lv_iload_n hx hb dX2_readNumber_23 rfl (lv_at hl 1 rfl) ?_
    refine z_if_eq (tgt := 80) hx hb dX2_readNumber_24 (by decide) (by omega) (fun hc_24 => ?_) (fun hc_24 => ?_)
    · have hc_24 := hc_24
      have eE : tc TX tl pl = 32 → dvN TX tl 7 (sk TX tl pl) 0 = (i, n_) := fun z => by rw [← hd]; exact dvE (by omega)
      have e1 : tc TX tl pl = 32 → dE TX tl pl = i := fun z => by unfold dE; rw [eE z]
      have e2 : tc TX tl pl = 32 → nV TX tl pl = n_ := fun z => by unfold nV; rw [eE z]
      refine lv_iload_n hx hb dX2_readNumber_80 rfl (lv_at hl 3 rfl) ?_
      refine z_if_ne (tgt := 92) hx hb dX2_readNumber_81 (by decide) (by omega) (fun hc_81 => ?_) (fun hc_81 => ?_)
      · have hc_81 := hc_81
        exfalso; have h9 := nof (by omega); have := e1 (by omega); omega
      · have hc_81 := hc_81
        refine lv_aload_n hx hb dX2_readNumber_84 rfl (lv_at hl 0 rfl) ?_
        refine lv_aload_n hx hb dX2_readNumber_85 rfl (lv_at hl 0 rfl) ?_
        refine va_get (D := D) (ci := 1) (v := .int (zI i)) (C := RX2) (T := TX2) (N := 7) hx hb hts hin_X2 hown hK hP 0 rfl rfl 2 (by decide) hf_0 (fun _ h9 => h9) rfl dX2_readNumber_86 ?_
        refine z_put (ct := ct) (ad := ad) (ci := 1) (v := .int (zI i)) (ty := tyX2 3) (C := RX2) (T := TX2) (N := 7) (w2 := txtW ct q TX tl i i wd n1 n2) hx hb hts hin_X2 tyX2 tyX2_ok nmX2 hown hE hP hD hS 0 rfl rfl 3 (by decide) hf_1 (fun _ h9 => h9) rfl (by decide +kernel) rfl rfl (Nat.le_of_ble_eq_true rfl) dX2_readNumber_89 (rfl) (fun H locs hP hD hS => ?_)
        refine lv_iload_n hx hb dX2_readNumber_92 rfl (lv_at hl 3 rfl) ?_
        refine z_if_ne (tgt := 100) hx hb dX2_readNumber_93 (by decide) (by omega) (fun hc_93 => ?_) (fun hc_93 => ?_)
        · have hc_93 := hc_93
          exfalso; have h9 := nof (by omega); have := e1 (by omega); omega
        · have hc_93 := hc_93
          refine z_iconst hx hb dX2_readNumber_96 ?_
          refine lv_goto (tgt := 101) hx hb dX2_readNumber_97 (by decide) ?_
          exact z_iret hx hb hr hlocks hP hD hS ⟨Nat.le_of_ble_eq_true rfl, Nat.le_of_ble_eq_true rfl⟩ dX2_readNumber_101 (⟨congrArg (fun z => some (Value.int (zI z))) (by first | rfl | exact (e2 okf).symm | omega), by first | rfl | rw [e1 okf] | (rw [show i = sk TX tl pl by rcases ha with ⟨x, y⟩ | ⟨x, y, z⟩; exact (by have h9 := nof y; have := e1 y; omega); exact z])⟩)
    · have hc_24 := hc_24
      refine lv_iload_n hx hb dX2_readNumber_27 rfl (lv_at hl 3 rfl) ?_
      refine z_bipush hx hb dX2_readNumber_28 (by decide) ?_
      refine z_icmp_ge (tgt := 80) hx hb dX2_readNumber_30 (by decide) (by omega) (by omega) (fun hc_30 => ?_) (fun hc_30 => ?_)
      · have hc_30 := hc_30
        have eE : tc TX tl pl = 32 → dvN TX tl 7 (sk TX tl pl) 0 = (i, n_) := fun z => by rw [← hd]; exact dvE (by omega)
        have e1 : tc TX tl pl = 32 → dE TX tl pl = i := fun z => by unfold dE; rw [eE z]
        have e2 : tc TX tl pl = 32 → nV TX tl pl = n_ := fun z => by unfold nV; rw [eE z]
        refine lv_iload_n hx hb dX2_readNumber_80 rfl (lv_at hl 3 rfl) ?_
        refine z_if_ne (tgt := 92) hx hb dX2_readNumber_81 (by decide) (by omega) (fun hc_81 => ?_) (fun hc_81 => ?_)
        · have hc_81 := hc_81
          exfalso; have h9 := nof (by omega); have := e1 (by omega); omega
        · have hc_81 := hc_81
          refine lv_aload_n hx hb dX2_readNumber_84 rfl (lv_at hl 0 rfl) ?_
          refine lv_aload_n hx hb dX2_readNumber_85 rfl (lv_at hl 0 rfl) ?_
          refine va_get (D := D) (ci := 1) (v := .int (zI i)) (C := RX2) (T := TX2) (N := 7) hx hb hts hin_X2 hown hK hP 0 rfl rfl 2 (by decide) hf_0 (fun _ h9 => h9) rfl dX2_readNumber_86 ?_
          refine z_put (ct := ct) (ad := ad) (ci := 1) (v := .int (zI i)) (ty := tyX2 3) (C := RX2) (T := TX2) (N := 7) (w2 := txtW ct q TX tl i i wd n1 n2) hx hb hts hin_X2 tyX2 tyX2_ok nmX2 hown hE hP hD hS 0 rfl rfl 3 (by decide) hf_1 (fun _ h9 => h9) rfl (by decide +kernel) rfl rfl (Nat.le_of_ble_eq_true rfl) dX2_readNumber_89 (rfl) (fun H locs hP hD hS => ?_)
          refine lv_iload_n hx hb dX2_readNumber_92 rfl (lv_at hl 3 rfl) ?_
          refine z_if_ne (tgt := 100) hx hb dX2_readNumber_93 (by decide) (by omega) (fun hc_93 => ?_) (fun hc_93 => ?_)
          · have hc_93 := hc_93
            exfalso; have h9 := nof (by omega); have := e1 (by omega); omega
          · have hc_93 := hc_93
            refine z_iconst hx hb dX2_readNumber_96 ?_
            refine lv_goto (tgt := 101) hx hb dX2_readNumber_97 (by decide) ?_
            exact z_iret hx hb hr hlocks hP hD hS ⟨Nat.le_of_ble_eq_true rfl, Nat.le_of_ble_eq_true rfl⟩ dX2_readNumber_101 (⟨congrArg (fun z => some (Value.int (zI z))) (by first | rfl | exact (e2 okf).symm | omega), by first | rfl | rw [e1 okf] | (rw [show i = sk TX tl pl by rcases ha with ⟨x, y⟩ | ⟨x, y, z⟩; exact (by have h9 := nof y; have := e1 y; omega); exact z])⟩)
      · have hc_30 := hc_30
        refine lv_aload_n hx hb dX2_readNumber_33 rfl (lv_at hl 0 rfl) ?_
        refine z_callV (C := RX2) (q0 := 0) (ci := 1) (As := []) (rest := []) ([] : va_W) ([] : va_W) hx hb hml hown hts hl hE hS hA (zr0 ([] : va_W) hP) (zr0D ([] : va_W) hD) (c_X2_byteHere l D ct ad q TX tl i ft n1 n2 wd (by assumption) (by omega)) gX2_readNumber_X2_byteHere rfl rfl k_X2_byteHere ⟨Nat.le_of_ble_eq_true rfl, Nat.le_of_ble_eq_true rfl⟩ rfl rfl rfl rfl (Nat.le_of_ble_eq_true rfl) ⟨Nat.le_of_ble_eq_true rfl, Nat.le_of_ble_eq_true rfl⟩ dX2_readNumber_34 rfl (fun v w1 H locs hpost hP hD hS => ?_)
        obtain ⟨rfl, rfl⟩ := hpost
        have hP := zr0' hP
        have hD := zr0D' hD
        have hP : va_P D vwCl (txtW ct q TX tl i ft wd n1 n2) H := hP
        have hD : va_D A (txtW ct q TX tl i ft wd n1 n2) := hD
        refine W.eq (g2 := F0 m 37 ls [.int (zI (tc TX tl i))]) rfl ?_
        refine z_bipush hx hb dX2_readNumber_37 (by decide) ?_
        refine z_icmp_lt (tgt := 80) hx hb dX2_readNumber_39 (by decide) (by omega) (by omega) (fun hc_39 => ?_) (fun hc_39 => ?_)
        · have hc_39 := hc_39
          have eE : tc TX tl pl = 32 → dvN TX tl 7 (sk TX tl pl) 0 = (i, n_) := fun z => by rw [← hd]; exact dvE (by omega)
          have e1 : tc TX tl pl = 32 → dE TX tl pl = i := fun z => by unfold dE; rw [eE z]
          have e2 : tc TX tl pl = 32 → nV TX tl pl = n_ := fun z => by unfold nV; rw [eE z]
          refine lv_iload_n hx hb dX2_readNumber_80 rfl (lv_at hl 3 rfl) ?_
          refine z_if_ne (tgt := 92) hx hb dX2_readNumber_81 (by decide) (by omega) (fun hc_81 => ?_) (fun hc_81 => ?_)
          · have hc_81 := hc_81
            exfalso; have h9 := nof (by omega); have := e1 (by omega); omega
          · have hc_81 := hc_81
            refine lv_aload_n hx hb dX2_readNumber_84 rfl (lv_at hl 0 rfl) ?_
            refine lv_aload_n hx hb dX2_readNumber_85 rfl (lv_at hl 0 rfl) ?_
            refine va_get (D := D) (ci := 1) (v := .int (zI i)) (C := RX2) (T := TX2) (N := 7) hx hb hts hin_X2 hown hK hP 0 rfl rfl 2 (by decide) hf_0 (fun _ h9 => h9) rfl dX2_readNumber_86 ?_
            refine z_put (ct := ct) (ad := ad) (ci := 1) (v := .int (zI i)) (ty := tyX2 3) (C := RX2) (T := TX2) (N := 7) (w2 := txtW ct q TX tl i i wd n1 n2) hx hb hts hin_X2 tyX2 tyX2_ok nmX2 hown hE hP hD hS 0 rfl rfl 3 (by decide) hf_1 (fun _ h9 => h9) rfl (by decide +kernel) rfl rfl (Nat.le_of_ble_eq_true rfl) dX2_readNumber_89 (rfl) (fun H locs hP hD hS => ?_)
            refine lv_iload_n hx hb dX2_readNumber_92 rfl (lv_at hl 3 rfl) ?_
            refine z_if_ne (tgt := 100) hx hb dX2_readNumber_93 (by decide) (by omega) (fun hc_93 => ?_) (fun hc_93 => ?_)
            · have hc_93 := hc_93
              exfalso; have h9 := nof (by omega); have := e1 (by omega); omega
            · have hc_93 := hc_93
              refine z_iconst hx hb dX2_readNumber_96 ?_
              refine lv_goto (tgt := 101) hx hb dX2_readNumber_97 (by decide) ?_
              exact z_iret hx hb hr hlocks hP hD hS ⟨Nat.le_of_ble_eq_true rfl, Nat.le_of_ble_eq_true rfl⟩ dX2_readNumber_101 (⟨congrArg (fun z => some (Value.int (zI z))) (by first | rfl | exact (e2 okf).symm | omega), by first | rfl | rw [e1 okf] | (rw [show i = sk TX tl pl by rcases ha with ⟨x, y⟩ | ⟨x, y, z⟩; exact (by have h9 := nof y; have := e1 y; omega); exact z])⟩)
        · have hc_39 := hc_39
          refine lv_aload_n hx hb dX2_readNumber_42 rfl (lv_at hl 0 rfl) ?_
          refine z_callV (C := RX2) (q0 := 0) (ci := 1) (As := []) (rest := []) ([] : va_W) ([] : va_W) hx hb hml hown hts hl hE hS hA (zr0 ([] : va_W) hP) (zr0D ([] : va_W) hD) (c_X2_byteHere l D ct ad q TX tl i ft n1 n2 wd (by assumption) (by omega)) gX2_readNumber_X2_byteHere rfl rfl k_X2_byteHere ⟨Nat.le_of_ble_eq_true rfl, Nat.le_of_ble_eq_true rfl⟩ rfl rfl rfl rfl (Nat.le_of_ble_eq_true rfl) ⟨Nat.le_of_ble_eq_true rfl, Nat.le_of_ble_eq_true rfl⟩ dX2_readNumber_43 rfl (fun v w1 H locs hpost hP hD hS => ?_)
          obtain ⟨rfl, rfl⟩ := hpost
          have hP := zr0' hP
          have hD := zr0D' hD
          have hP : va_P D vwCl (txtW ct q TX tl i ft wd n1 n2) H := hP
          have hD : va_D A (txtW ct q TX tl i ft wd n1 n2) := hD
          refine W.eq (g2 := F0 m 46 ls [.int (zI (tc TX tl i))]) rfl ?_
          refine z_bipush hx hb dX2_readNumber_46 (by decide) ?_
          refine z_icmp_gt (tgt := 80) hx hb dX2_readNumber_48 (by decide) (by omega) (by omega) (fun hc_48 => ?_) (fun hc_48 => ?_)
          · have hc_48 := hc_48
            have eE : tc TX tl pl = 32 → dvN TX tl 7 (sk TX tl pl) 0 = (i, n_) := fun z => by rw [← hd]; exact dvE (by omega)
            have e1 : tc TX tl pl = 32 → dE TX tl pl = i := fun z => by unfold dE; rw [eE z]
            have e2 : tc TX tl pl = 32 → nV TX tl pl = n_ := fun z => by unfold nV; rw [eE z]
            refine lv_iload_n hx hb dX2_readNumber_80 rfl (lv_at hl 3 rfl) ?_
            refine z_if_ne (tgt := 92) hx hb dX2_readNumber_81 (by decide) (by omega) (fun hc_81 => ?_) (fun hc_81 => ?_)
            · have hc_81 := hc_81
              exfalso; have h9 := nof (by omega); have := e1 (by omega); omega
            · have hc_81 := hc_81
              refine lv_aload_n hx hb dX2_readNumber_84 rfl (lv_at hl 0 rfl) ?_
              refine lv_aload_n hx hb dX2_readNumber_85 rfl (lv_at hl 0 rfl) ?_
              refine va_get (D := D) (ci := 1) (v := .int (zI i)) (C := RX2) (T := TX2) (N := 7) hx hb hts hin_X2 hown hK hP 0 rfl rfl 2 (by decide) hf_0 (fun _ h9 => h9) rfl dX2_readNumber_86 ?_
              refine z_put (ct := ct) (ad := ad) (ci := 1) (v := .int (zI i)) (ty := tyX2 3) (C := RX2) (T := TX2) (N := 7) (w2 := txtW ct q TX tl i i wd n1 n2) hx hb hts hin_X2 tyX2 tyX2_ok nmX2 hown hE hP hD hS 0 rfl rfl 3 (by decide) hf_1 (fun _ h9 => h9) rfl (by decide +kernel) rfl rfl (Nat.le_of_ble_eq_true rfl) dX2_readNumber_89 (rfl) (fun H locs hP hD hS => ?_)
              refine lv_iload_n hx hb dX2_readNumber_92 rfl (lv_at hl 3 rfl) ?_
              refine z_if_ne (tgt := 100) hx hb dX2_readNumber_93 (by decide) (by omega) (fun hc_93 => ?_) (fun hc_93 => ?_)
              · have hc_93 := hc_93
                exfalso; have h9 := nof (by omega); have := e1 (by omega); omega
              · have hc_93 := hc_93
                refine z_iconst hx hb dX2_readNumber_96 ?_
                refine lv_goto (tgt := 101) hx hb dX2_readNumber_97 (by decide) ?_
                exact z_iret hx hb hr hlocks hP hD hS ⟨Nat.le_of_ble_eq_true rfl, Nat.le_of_ble_eq_true rfl⟩ dX2_readNumber_101 (⟨congrArg (fun z => some (Value.int (zI z))) (by first | rfl | exact (e2 okf).symm | omega), by first | rfl | rw [e1 okf] | (rw [show i = sk TX tl pl by rcases ha with ⟨x, y⟩ | ⟨x, y, z⟩; exact (by have h9 := nof y; have := e1 y; omega); exact z])⟩)
          · have hc_48 := hc_48
            refine z_bipush hx hb dX2_readNumber_51 (by decide) ?_
            refine lv_iload_n hx hb dX2_readNumber_53 rfl (lv_at hl 2 rfl) ?_
            refine z_imul hx hb dX2_readNumber_54 ?_
            refine lv_aload_n hx hb dX2_readNumber_55 rfl (lv_at hl 0 rfl) ?_
            refine z_callV (C := RX2) (q0 := 0) (ci := 1) (As := []) (rest := [.int (zI (10 * n_))]) ([] : va_W) ([] : va_W) hx hb hml hown hts hl hE hS hA (zr0 ([] : va_W) hP) (zr0D ([] : va_W) hD) (c_X2_byteHere l D ct ad q TX tl i ft n1 n2 wd (by assumption) (by omega)) gX2_readNumber_X2_byteHere rfl rfl k_X2_byteHere ⟨Nat.le_of_ble_eq_true rfl, Nat.le_of_ble_eq_true rfl⟩ rfl rfl rfl rfl (Nat.le_of_ble_eq_true rfl) ⟨Nat.le_of_ble_eq_true rfl, Nat.le_of_ble_eq_true rfl⟩ dX2_readNumber_56 rfl (fun v w1 H locs hpost hP hD hS => ?_)
            obtain ⟨rfl, rfl⟩ := hpost
            have hP := zr0' hP
            have hD := zr0D' hD
            have hP : va_P D vwCl (txtW ct q TX tl i ft wd n1 n2) H := hP
            have hD : va_D A (txtW ct q TX tl i ft wd n1 n2) := hD
            refine W.eq (g2 := F0 m 59 ls [.int (zI (tc TX tl i)), .int (zI (10 * n_))]) rfl ?_
            refine z_iadd hx hb dX2_readNumber_59 ?_
            refine z_bipush hx hb dX2_readNumber_60 (by decide) ?_
            refine z_isub hx hb dX2_readNumber_62 ?_
            refine lv_istore_n (lv' := [(2, .int (zI (((10 * n_) + (tc TX tl i)) - 48))), (0, .ref (q 0)), (1, .int (zI a_)), (3, .int (zI d_))]) hx hb dX2_readNumber_63 rfl hl (by decide) rfl (fun ls hl => ?_)
            refine z_iinc (k := 3) (lv' := [(3, .int (zI (d_ + 1))), (2, .int (zI (((10 * n_) + (tc TX tl i)) - 48))), (0, .ref (q 0)), (1, .int (zI a_))]) hx hb dX2_readNumber_64 hl rfl (by decide) rfl (fun ls hl => ?_)
            refine lv_aload_n hx hb dX2_readNumber_67 rfl (lv_at hl 2 rfl) ?_
            refine lv_dup hx hb dX2_readNumber_68 rfl ?_
            refine va_get (D := D) (ci := 1) (v := .int (zI i)) (C := RX2) (T := TX2) (N := 7) hx hb hts hin_X2 hown hK hP 0 rfl rfl 2 (by decide) hf_0 (fun _ h9 => h9) rfl dX2_readNumber_69 ?_
            refine z_iconst hx hb dX2_readNumber_72 ?_
            refine z_iadd hx hb dX2_readNumber_73 ?_
            refine z_put (ct := ct) (ad := ad) (ci := 1) (v := .int (zI (i + 1))) (ty := tyX2 2) (C := RX2) (T := TX2) (N := 7) (w2 := txtW ct q TX tl (i + 1) ft wd n1 n2) hx hb hts hin_X2 tyX2 tyX2_ok nmX2 hown hE hP hD hS 0 rfl rfl 2 (by decide) hf_0 (fun _ h9 => h9) rfl (by decide +kernel) rfl rfl (Nat.le_of_ble_eq_true rfl) dX2_readNumber_74 (rfl) (fun H locs hP hD hS => ?_)
            refine lv_goto (tgt := 23) hx hb dX2_readNumber_77 (by decide) ?_
            exact ih_23 (i + 1, ((10 * n_) + (tc TX tl i)) - 48, a_, d_ + 1) ⟨(show (a_ = 1 ∧ tc TX tl pl = 32) ∨ (a_ = 0 ∧ tc TX tl pl ≠ 32 ∧ (i + 1) = sk TX tl pl) from (by omega)), (show sk TX tl pl ≤ (i + 1) ∧ (i + 1) ≤ tl ∧ (i + 1) ≤ sk TX tl pl + 7 ∧ (d_ + 1) = (i + 1) - sk TX tl pl from (by omega)), (show dvN TX tl (sk TX tl pl + 7 - (i + 1)).toNat (i + 1) (((10 * n_) + (tc TX tl i)) - 48) = dvN TX tl 7 (sk TX tl pl) 0 from (by rw [← hd, dvS (q := sk TX tl pl) (i := i) (x := n_) (by omega) (by omega)]; try (first | rfl | (congr 1; omega))))⟩ (show (tl - (i + 1)).toNat < (tl - i).toNat from (by omega)) _ _ _ hP hD hS (lv_sub hl [2, 3, 1, 0] rfl)
