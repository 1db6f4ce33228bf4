theorem k_X9_mix : yX9_mix.cls ≠ "java/lang/invoke/MethodHandle" ∧ yX9_mix.cls ≠ "java/lang/invoke/VarHandle" ∧ (parseMethodDescriptor yX9_mix.desc).map (fun d => d.parameters.length) = some 1 := by decide +kernel
set_option maxHeartbeats 4000000 in
set_option maxRecDepth 100000 in
theorem c_X9_mixThings (l : Launch) (D : va_G) (ct ad : Nat → Nat) (b : Nat → Nat) (M SP SV TX NB : Int → Int) (sc tl cd pl cm h : Int) (hI : gInv M) (hB : bInv M) : ZM l yX9_mixThings wsX9_mixThings ({ frames := 3, cells := 0, slots := 0, locals := 70 } : Room) D ct ad [.ref (b 0)] (moW b sc tl cd pl cm h ++ (jrW ct (b 1) 94 M ++ (jrW ct (b 2) 94 SP ++ (jrW ct (b 3) 376 SV ++ (irW ct (b 4) 150 TX ++ (irW ct (b 5) 2 NB)))))) (zD none (moW b sc tl cd pl cm (mx4 M (mx3 M (mx2 M (mx1 M h)))) ++ (jrW ct (b 1) 94 M ++ (jrW ct (b 2) 94 SP ++ (jrW ct (b 3) 376 SV ++ (irW ct (b 4) 150 TX ++ (irW ct (b 5) 2 NB))))))) := by
  refine ZM.of (cc := cX9_mixThings) (maxL := 2) (ret := none) (by decide +kernel) rfl (Nat.le_of_ble_eq_true rfl) ?_
  intro p e s m below meth c A ls hx hb hr hts hown hlocks hml hname hE hP hD hA hS hl
  have hK := hE.1
  have hf_0 := hts (.fieldLink RX9 7 "RodGridsModel" "m" "[J") (by decide +kernel)
  have hin_X9 : ∀ z ∈ u_ws RX9 TX9 11, z ∈ wsX9_mixThings := by decide +kernel
  have hl : lv_has ls 2 [(0, .ref (b 0))] := hl
  have i3 := hI.1
  have i4 := hI.2.1
  have j0 := hB.1
  have j1 := hB.2.1
  have j2 := hB.2.2.1
  have j4 := hB.2.2.2.2
  have j15 := hB.2.2.2.2
  refine z_iconst hx hb dX9_mixThings_0 ?_
  refine lv_istore_n (lv' := [(1, .int (zI 0)), (0, .ref (b 0))]) hx hb dX9_mixThings_1 rfl hl (by decide) rfl (fun ls hl => ?_)
  refine z_loop (σ := Int × Int) (fun q9 => (M 3 - q9.1).toNat) (fun q9 => (0 ≤ q9.1 ∧ q9.1 ≤ M 3) ∧ (q9.2 = mixN h (fun k => M (16 + k)) q9.1.toNat)) (fun q9 => moW b sc tl cd pl cm q9.2 ++ (jrW ct (b 1) 94 M ++ (jrW ct (b 2) 94 SP ++ (jrW ct (b 3) 376 SV ++ (irW ct (b 4) 150 TX ++ (irW ct (b 5) 2 NB)))))) (fun q9 => [(0, .ref (b 0)), (1, .int (zI q9.1))]) (fun q9 => []) (0, h) ⟨(show 0 ≤ 0 ∧ 0 ≤ M 3 from (by omega)), (show h = mixN h (fun k => M (16 + k)) (0 : Int).toNat from (by first | rfl | exact eN))⟩ hP hD hS (lv_sub hl [1, 0] rfl) rfl ?_
  rintro ⟨i, g_⟩ hI_2 ih_2 H locs ls hP hD hS hl
  obtain ⟨hi, hg⟩ := hI_2
  have hi : 0 ≤ i ∧ i ≤ M 3 := hi
  have hg : g_ = mixN h (fun k => M (16 + k)) i.toNat := hg
  have hP : va_P D vwCl (moW b sc tl cd pl cm g_ ++ (jrW ct (b 1) 94 M ++ (jrW ct (b 2) 94 SP ++ (jrW ct (b 3) 376 SV ++ (irW ct (b 4) 150 TX ++ (irW ct (b 5) 2 NB)))))) H := hP
  have hD : va_D A (moW b sc tl cd pl cm g_ ++ (jrW ct (b 1) 94 M ++ (jrW ct (b 2) 94 SP ++ (jrW ct (b 3) 376 SV ++ (irW ct (b 4) 150 TX ++ (irW ct (b 5) 2 NB)))))) := hD
  have hl : lv_has ls 2 [(0, .ref (b 0)), (1, .int (zI i))] := hl
  refine lv_iload_n hx hb dX9_mixThings_2 rfl (lv_at hl 1 rfl) ?_
  refine lv_aload_n hx hb dX9_mixThings_3 rfl (lv_at hl 0 rfl) ?_
  refine z_iconst hx hb dX9_mixThings_4 ?_
  refine z_callV (C := RX9) (q0 := 0) (ci := 7) (As := [.int (zI 3)]) (rest := [.int (zI i)]) ([] : va_W) ([] : va_W) hx hb hml hown hts hl hE hS hA (zr0 ([] : va_W) hP) (zr0D ([] : va_W) hD) (c_X9_of l D ct ad b M SP SV TX NB sc tl cd pl cm g_ 3 (by omega)) gX9_mixThings_X9_of rfl rfl k_X9_of ⟨Nat.le_of_ble_eq_true rfl, Nat.le_of_ble_eq_true rfl⟩ rfl rfl rfl rfl (Nat.le_of_ble_eq_true rfl) ⟨Nat.le_of_ble_eq_true rfl, Nat.le_of_ble_eq_true rfl⟩ dX9_mixThings_5 rfl (fun v w1 H locs hpost hP hD hS => ?_)
  obtain ⟨rfl, rfl⟩ := hpost
  have hP := zr0' hP
  have hD := zr0D' hD
  have hP : va_P D vwCl (moW b sc tl cd pl cm g_ ++ (jrW ct (b 1) 94 M ++ (jrW ct (b 2) 94 SP ++ (jrW ct (b 3) 376 SV ++ (irW ct (b 4) 150 TX ++ (irW ct (b 5) 2 NB)))))) H := hP
  have hD : va_D A (moW b sc tl cd pl cm g_ ++ (jrW ct (b 1) 94 M ++ (jrW ct (b 2) 94 SP ++ (jrW ct (b 3) 376 SV ++ (irW ct (b 4) 150 TX ++ (irW ct (b 5) 2 NB)))))) := hD
  refine W.eq (g2 := F0 m 8 ls [.int (zI (M 3)), .int (zI i)]) rfl ?_
  refine z_icmp_ge (tgt := 30) hx hb dX9_mixThings_8 (by decide) (by omega) (by omega) (fun hc_8 => ?_) (fun hc_8 => ?_)
  · have hc_8 := hc_8
    have eN : g_ = mixN (mx1 M h) (fun k => M (49 + k)) (0 : Int).toNat := by rw [hg, show i = M 3 by omega]; rfl
    refine z_iconst hx hb dX9_mixThings_30 ?_
    refine lv_istore_n (lv' := [(1, .int (zI 0)), (0, .ref (b 0))]) hx hb dX9_mixThings_31 rfl hl (by decide) rfl (fun ls hl => ?_)
    refine z_loop (σ := Int × Int) (fun q9 => (5 - q9.1).toNat) (fun q9 => (0 ≤ q9.1 ∧ q9.1 ≤ 5) ∧ (q9.2 = mixN (mx1 M h) (fun k => M (49 + k)) q9.1.toNat)) (fun q9 => moW b sc tl cd pl cm q9.2 ++ (jrW ct (b 1) 94 M ++ (jrW ct (b 2) 94 SP ++ (jrW ct (b 3) 376 SV ++ (irW ct (b 4) 150 TX ++ (irW ct (b 5) 2 NB)))))) (fun q9 => [(0, .ref (b 0)), (1, .int (zI q9.1))]) (fun q9 => []) (0, g_) ⟨(show 0 ≤ 0 ∧ 0 ≤ 5 from (by omega)), (show g_ = mixN (mx1 M h) (fun k => M (49 + k)) (0 : Int).toNat from (by first | rfl | exact eN))⟩ hP hD hS (lv_sub hl [1, 0] rfl) rfl ?_
    rintro ⟨i, g_⟩ hI_32 ih_32 H locs ls hP hD hS hl
    obtain ⟨hi, hg⟩ := hI_32
    have hi : 0 ≤ i ∧ i ≤ 5 := hi
    have hg : g_ = mixN (mx1 M h) (fun k => M (49 + k)) i.toNat := hg
    have hP : va_P D vwCl (moW b sc tl cd pl cm g_ ++ (jrW ct (b 1) 94 M ++ (jrW ct (b 2) 94 SP ++ (jrW ct (b 3) 376 SV ++ (irW ct (b 4) 150 TX ++ (irW ct (b 5) 2 NB)))))) H := hP
    have hD : va_D A (moW b sc tl cd pl cm g_ ++ (jrW ct (b 1) 94 M ++ (jrW ct (b 2) 94 SP ++ (jrW ct (b 3) 376 SV ++ (irW ct (b 4) 150 TX ++ (irW ct (b 5) 2 NB)))))) := hD
    have hl : lv_has ls 2 [(0, .ref (b 0)), (1, .int (zI i))] := hl
    refine lv_iload_n hx hb dX9_mixThings_32 rfl (lv_at hl 1 rfl) ?_
    refine z_iconst hx hb dX9_mixThings_33 ?_
    refine z_icmp_ge (tgt := 56) hx hb dX9_mixThings_34 (by decide) (by omega) (by omega) (fun hc_34 => ?_) (fun hc_34 => ?_)
    · have hc_34 := hc_34
      have eN : g_ = mixN (mx2 M (mx1 M h)) (fun k => sp_rodv M (k / 5) (k % 5) (M 6)) (0 : Int).toNat := by rw [hg, show i = 5 by omega]; rfl
      refine z_iconst hx hb dX9_mixThings_56 ?_
      refine lv_istore_n (lv' := [(1, .int (zI 0)), (0, .ref (b 0))]) hx hb dX9_mixThings_57 rfl hl (by decide) rfl (fun ls hl => ?_)
      refine z_loop (σ := Int × Int) (fun q9 => (5 * M 4 - q9.1).toNat) (fun q9 => (0 ≤ q9.1 ∧ q9.1 ≤ 5 * M 4) ∧ (q9.2 = mixN (mx2 M (mx1 M h)) (fun k => sp_rodv M (k / 5) (k % 5) (M 6)) q9.1.toNat)) (fun q9 => moW b sc tl cd pl cm q9.2 ++ (jrW ct (b 1) 94 M ++ (jrW ct (b 2) 94 SP ++ (jrW ct (b 3) 376 SV ++ (irW ct (b 4) 150 TX ++ (irW ct (b 5) 2 NB)))))) (fun q9 => [(0, .ref (b 0)), (1, .int (zI q9.1))]) (fun q9 => []) (0, g_) ⟨(show 0 ≤ 0 ∧ 0 ≤ 5 * M 4 from (by omega)), (show g_ = mixN (mx2 M (mx1 M h)) (fun k => sp_rodv M (k / 5) (k % 5) (M 6)) (0 : Int).toNat from (by first | rfl | exact eN))⟩ hP hD hS (lv_sub hl [1, 0] rfl) rfl ?_
      rintro ⟨i, g_⟩ hI_58 ih_58 H locs ls hP hD hS hl
      obtain ⟨hi, hg⟩ := hI_58
      have hi : 0 ≤ i ∧ i ≤ 5 * M 4 := hi
      have hg : g_ = mixN (mx2 M (mx1 M h)) (fun k => sp_rodv M (k / 5) (k % 5) (M 6)) i.toNat := hg
      have hP : va_P D vwCl (moW b sc tl cd pl cm g_ ++ (jrW ct (b 1) 94 M ++ (jrW ct (b 2) 94 SP ++ (jrW ct (b 3) 376 SV ++ (irW ct (b 4) 150 TX ++ (irW ct (b 5) 2 NB)))))) H := hP
      have hD : va_D A (moW b sc tl cd pl cm g_ ++ (jrW ct (b 1) 94 M ++ (jrW ct (b 2) 94 SP ++ (jrW ct (b 3) 376 SV ++ (irW ct (b 4) 150 TX ++ (irW ct (b 5) 2 NB)))))) := hD
      have hl : lv_has ls 2 [(0, .ref (b 0)), (1, .int (zI i))] := hl
      refine lv_iload_n hx hb dX9_mixThings_58 rfl (lv_at hl 1 rfl) ?_
      refine z_iconst hx hb dX9_mixThings_59 ?_
      refine lv_aload_n hx hb dX9_mixThings_60 rfl (lv_at hl 0 rfl) ?_
      refine z_iconst hx hb dX9_mixThings_61 ?_
      refine z_callV (C := RX9) (q0 := 0) (ci := 7) (As := [.int (zI 4)]) (rest := [.int (zI 5), .int (zI i)]) ([] : va_W) ([] : va_W) hx hb hml hown hts hl hE hS hA (zr0 ([] : va_W) hP) (zr0D ([] : va_W) hD) (c_X9_of l D ct ad b M SP SV TX NB sc tl cd pl cm g_ 4 (by omega)) gX9_mixThings_X9_of rfl rfl k_X9_of ⟨Nat.le_of_ble_eq_true rfl, Nat.le_of_ble_eq_true rfl⟩ rfl rfl rfl rfl (Nat.le_of_ble_eq_true rfl) ⟨Nat.le_of_ble_eq_true rfl, Nat.le_of_ble_eq_true rfl⟩ dX9_mixThings_62 rfl (fun v w1 H locs hpost hP hD hS => ?_)
      obtain ⟨rfl, rfl⟩ := hpost
      have hP := zr0' hP
      have hD := zr0D' hD
      have hP : va_P D vwCl (moW b sc tl cd pl cm g_ ++ (jrW ct (b 1) 94 M ++ (jrW ct (b 2) 94 SP ++ (jrW ct (b 3) 376 SV ++ (irW ct (b 4) 150 TX ++ (irW ct (b 5) 2 NB)))))) H := hP
      have hD : va_D A (moW b sc tl cd pl cm g_ ++ (jrW ct (b 1) 94 M ++ (jrW ct (b 2) 94 SP ++ (jrW ct (b 3) 376 SV ++ (irW ct (b 4) 150 TX ++ (irW ct (b 5) 2 NB)))))) := hD
      refine W.eq (g2 := F0 m 65 ls [.int (zI (M 4)), .int (zI 5), .int (zI i)]) rfl ?_
      refine z_imul hx hb dX9_mixThings_65 ?_
      refine z_icmp_ge (tgt := 90) hx hb dX9_mixThings_66 (by decide) (by omega) (by omega) (fun hc_66 => ?_) (fun hc_66 => ?_)
      · have hc_66 := hc_66
        have eN : g_ = mixN (mx3 M (mx2 M (mx1 M h))) (fun k => M (54 + k)) (0 : Int).toNat := by rw [hg, show i = 5 * M 4 by omega]; rfl
        refine z_iconst hx hb dX9_mixThings_90 ?_
        refine lv_istore_n (lv' := [(1, .int (zI 0)), (0, .ref (b 0))]) hx hb dX9_mixThings_91 rfl hl (by decide) rfl (fun ls hl => ?_)
        refine z_loop (σ := Int × Int) (fun q9 => (4 * M 15 - q9.1).toNat) (fun q9 => (0 ≤ q9.1 ∧ q9.1 ≤ 4 * M 15) ∧ (q9.2 = mixN (mx3 M (mx2 M (mx1 M h))) (fun k => M (54 + k)) q9.1.toNat)) (fun q9 => moW b sc tl cd pl cm q9.2 ++ (jrW ct (b 1) 94 M ++ (jrW ct (b 2) 94 SP ++ (jrW ct (b 3) 376 SV ++ (irW ct (b 4) 150 TX ++ (irW ct (b 5) 2 NB)))))) (fun q9 => [(0, .ref (b 0)), (1, .int (zI q9.1))]) (fun q9 => []) (0, g_) ⟨(show 0 ≤ 0 ∧ 0 ≤ 4 * M 15 from (by omega)), (show g_ = mixN (mx3 M (mx2 M (mx1 M h))) (fun k => M (54 + k)) (0 : Int).toNat from (by first | rfl | exact eN))⟩ hP hD hS (lv_sub hl [1, 0] rfl) rfl ?_
        rintro ⟨i, g_⟩ hI_92 ih_92 H locs ls hP hD hS hl
        obtain ⟨hi, hg⟩ := hI_92
        have hi : 0 ≤ i ∧ i ≤ 4 * M 15 := hi
        have hg : g_ = mixN (mx3 M (mx2 M (mx1 M h))) (fun k => M (54 + k)) i.toNat := hg
        have hP : va_P D vwCl (moW b sc tl cd pl cm g_ ++ (jrW ct (b 1) 94 M ++ (jrW ct (b 2) 94 SP ++ (jrW ct (b 3) 376 SV ++ (irW ct (b 4) 150 TX ++ (irW ct (b 5) 2 NB)))))) H := hP
        have hD : va_D A (moW b sc tl cd pl cm g_ ++ (jrW ct (b 1) 94 M ++ (jrW ct (b 2) 94 SP ++ (jrW ct (b 3) 376 SV ++ (irW ct (b 4) 150 TX ++ (irW ct (b 5) 2 NB)))))) := hD
        have hl : lv_has ls 2 [(0, .ref (b 0)), (1, .int (zI i))] := hl
        refine lv_iload_n hx hb dX9_mixThings_92 rfl (lv_at hl 1 rfl) ?_
        refine z_iconst hx hb dX9_mixThings_93 ?_
        refine lv_aload_n hx hb dX9_mixThings_94 rfl (lv_at hl 0 rfl) ?_
        refine z_bipush hx hb dX9_mixThings_95 (by decide) ?_
        refine z_callV (C := RX9) (q0 := 0) (ci := 7) (As := [.int (zI 15)]) (rest := [.int (zI 4), .int (zI i)]) ([] : va_W) ([] : va_W) hx hb hml hown hts hl hE hS hA (zr0 ([] : va_W) hP) (zr0D ([] : va_W) hD) (c_X9_of l D ct ad b M SP SV TX NB sc tl cd pl cm g_ 15 (by omega)) gX9_mixThings_X9_of rfl rfl k_X9_of ⟨Nat.le_of_ble_eq_true rfl, Nat.le_of_ble_eq_true rfl⟩ rfl rfl rfl rfl (Nat.le_of_ble_eq_true rfl) ⟨Nat.le_of_ble_eq_true rfl, Nat.le_of_ble_eq_true rfl⟩ dX9_mixThings_97 rfl (fun v w1 H locs hpost hP hD hS => ?_)
        obtain ⟨rfl, rfl⟩ := hpost
        have hP := zr0' hP
        have hD := zr0D' hD
        have hP : va_P D vwCl (moW b sc tl cd pl cm g_ ++ (jrW ct (b 1) 94 M ++ (jrW ct (b 2) 94 SP ++ (jrW ct (b 3) 376 SV ++ (irW ct (b 4) 150 TX ++ (irW ct (b 5) 2 NB)))))) H := hP
        have hD : va_D A (moW b sc tl cd pl cm g_ ++ (jrW ct (b 1) 94 M ++ (jrW ct (b 2) 94 SP ++ (jrW ct (b 3) 376 SV ++ (irW ct (b 4) 150 TX ++ (irW ct (b 5) 2 NB)))))) := hD
        refine W.eq (g2 := F0 m 100 ls [.int (zI (M 15)), .int (zI 4), .int (zI i)]) rfl ?_
        refine z_imul hx hb dX9_mixThings_100 ?_
        refine z_icmp_ge (tgt := 123) hx hb dX9_mixThings_101 (by decide) (by omega) (by omega) (fun hc_101 => ?_) (fun hc_101 => ?_)
        · have hc_101 := hc_101
          have eN : g_ = mx4 M (mx3 M (mx2 M (mx1 M h))) := by rw [hg, show i = 4 * M 15 by omega]; rfl
          exact z_vret hx hb hr hlocks hP hD hS ⟨Nat.le_of_ble_eq_true rfl, Nat.le_of_ble_eq_true rfl⟩ dX9_mixThings_123 (⟨rfl, by rw [eN]⟩)
        · have hc_101 := hc_101
          refine lv_aload_n hx hb dX9_mixThings_104 rfl (lv_at hl 0 rfl) ?_
          refine lv_aload_n hx hb dX9_mixThings_105 rfl (lv_at hl 0 rfl) ?_
          refine va_get (D := D) (ci := 7) (v := .ref (b 1)) (C := RX9) (T := TX9) (N := 11) hx hb hts hin_X9 hown hK hP 0 rfl rfl 0 (by decide) hf_0 (fun _ h9 => h9) rfl dX9_mixThings_106 ?_
          refine z_bipush hx hb dX9_mixThings_109 (by decide) ?_
          refine lv_iload_n hx hb dX9_mixThings_111 rfl (lv_at hl 1 rfl) ?_
          refine z_iadd hx hb dX9_mixThings_112 ?_
          refine z_lald (g := M) (v := M (54 + i)) hx hb hK hP 1 rfl (by decide) (by omega) rfl dX9_mixThings_113 ?_
          refine z_callV (C := RX9) (q0 := 0) (ci := 7) (As := [.long (zJ (M (54 + i)))]) (rest := []) ([] : va_W) ([] : va_W) hx hb hml hown hts hl hE hS hA (zr0 ([] : va_W) hP) (zr0D ([] : va_W) hD) (c_X9_mix l D ct ad b M SP SV TX NB sc tl cd pl cm g_ (M (54 + i))) gX9_mixThings_X9_mix rfl rfl k_X9_mix ⟨Nat.le_of_ble_eq_true rfl, Nat.le_of_ble_eq_true rfl⟩ rfl rfl rfl rfl (Nat.le_of_ble_eq_true rfl) ⟨Nat.le_of_ble_eq_true rfl, Nat.le_of_ble_eq_true rfl⟩ dX9_mixThings_114 rfl (fun v w1 H locs hpost hP hD hS => ?_)
          obtain ⟨rfl, rfl⟩ := hpost
          have hP := zr0' hP
          have hD := zr0D' hD
          have hP : va_P D vwCl (moW b sc tl cd pl cm (31 * g_ + (M (54 + i))) ++ (jrW ct (b 1) 94 M ++ (jrW ct (b 2) 94 SP ++ (jrW ct (b 3) 376 SV ++ (irW ct (b 4) 150 TX ++ (irW ct (b 5) 2 NB)))))) H := hP
          have hD : va_D A (moW b sc tl cd pl cm (31 * g_ + (M (54 + i))) ++ (jrW ct (b 1) 94 M ++ (jrW ct (b 2) 94 SP ++ (jrW ct (b 3) 376 SV ++ (irW ct (b 4) 150 TX ++ (irW ct (b 5) 2 NB)))))) := hD
          refine W.eq (g2 := F0 m 117 ls []) rfl ?_
          refine z_iinc (k := 1) (lv' := [(1, .int (zI (i + 1))), (0, .ref (b 0))]) hx hb dX9_mixThings_117 hl rfl (by decide) rfl (fun ls hl => ?_)
          refine lv_goto (tgt := 92) hx hb dX9_mixThings_120 (by decide) ?_
          exact ih_92 (i + 1, (31 * g_ + (M (54 + i)))) ⟨(show 0 ≤ (i + 1) ∧ (i + 1) ≤ 4 * M 15 from (by omega)), (show (31 * g_ + (M (54 + i))) = mixN (mx3 M (mx2 M (mx1 M h))) (fun k => M (54 + k)) (i + 1).toNat from (by rw [mixS hi.1, ← hg]))⟩ (show (4 * M 15 - (i + 1)).toNat < (4 * M 15 - i).toNat from (by omega)) _ _ _ hP hD hS (lv_sub hl [1, 0] rfl)
      · have hc_66 := hc_66
        refine lv_aload_n hx hb dX9_mixThings_69 rfl (lv_at hl 0 rfl) ?_
        refine lv_aload_n hx hb dX9_mixThings_70 rfl (lv_at hl 0 rfl) ?_
        refine lv_iload_n hx hb dX9_mixThings_71 rfl (lv_at hl 1 rfl) ?_
        refine z_iconst hx hb dX9_mixThings_72 ?_
        refine z_idiv hx hb dX9_mixThings_73 (by omega) (by omega) ?_
        refine lv_iload_n hx hb dX9_mixThings_74 rfl (lv_at hl 1 rfl) ?_
        refine z_iconst hx hb dX9_mixThings_75 ?_
        refine z_irem hx hb dX9_mixThings_76 (by omega) (by omega) ?_
        refine z_callV (C := RX9) (q0 := 0) (ci := 7) (As := [.int (zI (i / 5)), .int (zI (i % 5))]) (rest := [.ref (b 0)]) ([] : va_W) ([] : va_W) hx hb hml hown hts hl hE hS hA (zr0 ([] : va_W) hP) (zr0D ([] : va_W) hD) (c_X9_rodOf l D ct ad b M SP SV TX NB sc tl cd pl cm g_ (i / 5) (i % 5) (by assumption) (by assumption) (by omega) (by omega)) gX9_mixThings_X9_rodOf rfl rfl k_X9_rodOf ⟨Nat.le_of_ble_eq_true rfl, Nat.le_of_ble_eq_true rfl⟩ rfl rfl rfl rfl (Nat.le_of_ble_eq_true rfl) ⟨Nat.le_of_ble_eq_true rfl, Nat.le_of_ble_eq_true rfl⟩ dX9_mixThings_77 rfl (fun v w1 H locs hpost hP hD hS => ?_)
        obtain ⟨rfl, rfl⟩ := hpost
        have hP := zr0' hP
        have hD := zr0D' hD
        have hP : va_P D vwCl (moW b sc tl cd pl cm g_ ++ (jrW ct (b 1) 94 M ++ (jrW ct (b 2) 94 SP ++ (jrW ct (b 3) 376 SV ++ (irW ct (b 4) 150 TX ++ (irW ct (b 5) 2 NB)))))) H := hP
        have hD : va_D A (moW b sc tl cd pl cm g_ ++ (jrW ct (b 1) 94 M ++ (jrW ct (b 2) 94 SP ++ (jrW ct (b 3) 376 SV ++ (irW ct (b 4) 150 TX ++ (irW ct (b 5) 2 NB)))))) := hD
        refine W.eq (g2 := F0 m 80 ls [.int (zI (sp_rodv M (i / 5) (i % 5) (M 6))), .ref (b 0)]) rfl ?_
        have q9 := hI.2.2.2.1 (i / 5) (by omega) (by omega)
        have sB9 := sp_rodvB (r := i / 5) (w := i % 5) hI (by omega) j1.2.1
        refine z_i2l hx hb dX9_mixThings_80 (by omega) ?_
        refine z_callV (C := RX9) (q0 := 0) (ci := 7) (As := [.long (zJ (sp_rodv M (i / 5) (i % 5) (M 6)))]) (rest := []) ([] : va_W) ([] : va_W) hx hb hml hown hts hl hE hS hA (zr0 ([] : va_W) hP) (zr0D ([] : va_W) hD) (c_X9_mix l D ct ad b M SP SV TX NB sc tl cd pl cm g_ (sp_rodv M (i / 5) (i % 5) (M 6))) gX9_mixThings_X9_mix rfl rfl k_X9_mix ⟨Nat.le_of_ble_eq_true rfl, Nat.le_of_ble_eq_true rfl⟩ rfl rfl rfl rfl (Nat.le_of_ble_eq_true rfl) ⟨Nat.le_of_ble_eq_true rfl, Nat.le_of_ble_eq_true rfl⟩ dX9_mixThings_81 rfl (fun v w1 H locs hpost hP hD hS => ?_)
        obtain ⟨rfl, rfl⟩ := hpost
        have hP := zr0' hP
        have hD := zr0D' hD
        have hP : va_P D vwCl (moW b sc tl cd pl cm (31 * g_ + (sp_rodv M (i / 5) (i % 5) (M 6))) ++ (jrW ct (b 1) 94 M ++ (jrW ct (b 2) 94 SP ++ (jrW ct (b 3) 376 SV ++ (irW ct (b 4) 150 TX ++ (irW ct (b 5) 2 NB)))))) H := hP
        have hD : va_D A (moW b sc tl cd pl cm (31 * g_ + (sp_rodv M (i / 5) (i % 5) (M 6))) ++ (jrW ct (b 1) 94 M ++ (jrW ct (b 2) 94 SP ++ (jrW ct (b 3) 376 SV ++ (irW ct (b 4) 150 TX ++ (irW ct (b 5) 2 NB)))))) := hD
        refine W.eq (g2 := F0 m 84 ls []) rfl ?_
        refine z_iinc (k := 1) (lv' := [(1, .int (zI (i + 1))), (0, .ref (b 0))]) hx hb dX9_mixThings_84 hl rfl (by decide) rfl (fun ls hl => ?_)
        refine lv_goto (tgt := 58) hx hb dX9_mixThings_87 (by decide) ?_
        exact ih_58 (i + 1, (31 * g_ + (sp_rodv M (i / 5) (i % 5) (M 6)))) ⟨(show 0 ≤ (i + 1) ∧ (i + 1) ≤ 5 * M 4 from (by omega)), (show (31 * g_ + (sp_rodv M (i / 5) (i % 5) (M 6))) = mixN (mx2 M (mx1 M h)) (fun k => sp_rodv M (k / 5) (k % 5) (M 6)) (i + 1).toNat from (by rw [mixS hi.1, ← hg]))⟩ (show (5 * M 4 - (i + 1)).toNat < (5 * M 4 - i).toNat from (by omega)) _ _ _ hP hD hS (lv_sub hl [1, 0] rfl)
    · have hc_34 := hc_34
      refine lv_aload_n hx hb dX9_mixThings_37 rfl (lv_at hl 0 rfl) ?_
      refine lv_aload_n hx hb dX9_mixThings_38 rfl (lv_at hl 0 rfl) ?_
      refine va_get (D := D) (ci := 7) (v := .ref (b 1)) (C := RX9) (T := TX9) (N := 11) hx hb hts hin_X9 hown hK hP 0 rfl rfl 0 (by decide) hf_0 (fun _ h9 => h9) rfl dX9_mixThings_39 ?_
      refine z_bipush hx hb dX9_mixThings_42 (by decide) ?_
      refine lv_iload_n hx hb dX9_mixThings_44 rfl (lv_at hl 1 rfl) ?_
      refine z_iadd hx hb dX9_mixThings_45 ?_
      refine z_lald (g := M) (v := M (49 + i)) hx hb hK hP 1 rfl (by decide) (by omega) rfl dX9_mixThings_46 ?_
      refine z_callV (C := RX9) (q0 := 0) (ci := 7) (As := [.long (zJ (M (49 + i)))]) (rest := []) ([] : va_W) ([] : va_W) hx hb hml hown hts hl hE hS hA (zr0 ([] : va_W) hP) (zr0D ([] : va_W) hD) (c_X9_mix l D ct ad b M SP SV TX NB sc tl cd pl cm g_ (M (49 + i))) gX9_mixThings_X9_mix rfl rfl k_X9_mix ⟨Nat.le_of_ble_eq_true rfl, Nat.le_of_ble_eq_true rfl⟩ rfl rfl rfl rfl (Nat.le_of_ble_eq_true rfl) ⟨Nat.le_of_ble_eq_true rfl, Nat.le_of_ble_eq_true rfl⟩ dX9_mixThings_47 rfl (fun v w1 H locs hpost hP hD hS => ?_)
      obtain ⟨rfl, rfl⟩ := hpost
      have hP := zr0' hP
      have hD := zr0D' hD
      have hP : va_P D vwCl (moW b sc tl cd pl cm (31 * g_ + (M (49 + i))) ++ (jrW ct (b 1) 94 M ++ (jrW ct (b 2) 94 SP ++ (jrW ct (b 3) 376 SV ++ (irW ct (b 4) 150 TX ++ (irW ct (b 5) 2 NB)))))) H := hP
      have hD : va_D A (moW b sc tl cd pl cm (31 * g_ + (M (49 + i))) ++ (jrW ct (b 1) 94 M ++ (jrW ct (b 2) 94 SP ++ (jrW ct (b 3) 376 SV ++ (irW ct (b 4) 150 TX ++ (irW ct (b 5) 2 NB)))))) := hD
      refine W.eq (g2 := F0 m 50 ls []) rfl ?_
      refine z_iinc (k := 1) (lv' := [(1, .int (zI (i + 1))), (0, .ref (b 0))]) hx hb dX9_mixThings_50 hl rfl (by decide) rfl (fun ls hl => ?_)
      refine lv_goto (tgt := 32) hx hb dX9_mixThings_53 (by decide) ?_
      exact ih_32 (i + 1, (31 * g_ + (M (49 + i)))) ⟨(show 0 ≤ (i + 1) ∧ (i + 1) ≤ 5 from (by omega)), (show (31 * g_ + (M (49 + i))) = mixN (mx1 M h) (fun k => M (49 + k)) (i + 1).toNat from (by rw [mixS hi.1, ← hg]))⟩ (show (5 - (i + 1)).toNat < (5 - i).toNat from (by omega)) _ _ _ hP hD hS (lv_sub hl [1, 0] rfl)
  · have hc_8 := hc_8
    refine lv_aload_n hx hb dX9_mixThings_11 rfl (lv_at hl 0 rfl) ?_
    refine lv_aload_n hx hb dX9_mixThings_12 rfl (lv_at hl 0 rfl) ?_
    refine va_get (D := D) (ci := 7) (v := .ref (b 1)) (C := RX9) (T := TX9) (N := 11) hx hb hts hin_X9 hown hK hP 0 rfl rfl 0 (by decide) hf_0 (fun _ h9 => h9) rfl dX9_mixThings_13 ?_
    refine z_bipush hx hb dX9_mixThings_16 (by decide) ?_
    refine lv_iload_n hx hb dX9_mixThings_18 rfl (lv_at hl 1 rfl) ?_
    refine z_iadd hx hb dX9_mixThings_19 ?_
    refine z_lald (g := M) (v := M (16 + i)) hx hb hK hP 1 rfl (by decide) (by omega) rfl dX9_mixThings_20 ?_
    refine z_callV (C := RX9) (q0 := 0) (ci := 7) (As := [.long (zJ (M (16 + i)))]) (rest := []) ([] : va_W) ([] : va_W) hx hb hml hown hts hl hE hS hA (zr0 ([] : va_W) hP) (zr0D ([] : va_W) hD) (c_X9_mix l D ct ad b M SP SV TX NB sc tl cd pl cm g_ (M (16 + i))) gX9_mixThings_X9_mix rfl rfl k_X9_mix ⟨Nat.le_of_ble_eq_true rfl, Nat.le_of_ble_eq_true rfl⟩ rfl rfl rfl rfl (Nat.le_of_ble_eq_true rfl) ⟨Nat.le_of_ble_eq_true rfl, Nat.le_of_ble_eq_true rfl⟩ dX9_mixThings_21 rfl (fun v w1 H locs hpost hP hD hS => ?_)
    obtain ⟨rfl, rfl⟩ := hpost
    have hP := zr0' hP
    have hD := zr0D' hD
    have hP : va_P D vwCl (moW b sc tl cd pl cm (31 * g_ + (M (16 + i))) ++ (jrW ct (b 1) 94 M ++ (jrW ct (b 2) 94 SP ++ (jrW ct (b 3) 376 SV ++ (irW ct (b 4) 150 TX ++ (irW ct (b 5) 2 NB)))))) H := hP
    have hD : va_D A (moW b sc tl cd pl cm (31 * g_ + (M (16 + i))) ++ (jrW ct (b 1) 94 M ++ (jrW ct (b 2) 94 SP ++ (jrW ct (b 3) 376 SV ++ (irW ct (b 4) 150 TX ++ (irW ct (b 5) 2 NB)))))) := hD
    refine W.eq (g2 := F0 m 24 ls []) rfl ?_
    refine z_iinc (k := 1) (lv' := [(1, .int (zI (i + 1))), (0, .ref (b 0))]) hx hb dX9_mixThings_24 hl rfl (by decide) rfl (fun ls hl => ?_)
    refine lv_goto (tgt := 2) hx hb dX9_mixThings_27 (by decide) ?_
    exact ih_2 (i + 1, (31 * g_ + (M (16 + i)))) ⟨(show 0 ≤ (i + 1) ∧ (i + 1) ≤ M 3 from (by omega)), (show (31 * g_ + (M (16 + i))) = mixN h (fun k => M (16 + k)) (i + 1).toNat from (by rw [mixS hi.1, ← hg]))⟩ (show (M 3 - (i + 1)).toNat < (M 3 - i).toNat from (by omega)) _ _ _ hP hD hS (lv_sub hl [1, 0] rfl)
